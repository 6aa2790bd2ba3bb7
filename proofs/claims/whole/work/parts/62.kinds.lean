/-! the tables with a new page of each kind -/
theorem want_W (m : zH) (i : Int) : mWanted m i ↔ ga m 2 i = 1 ∧ Wv m (ga m 3 i) (ga m 5 i) ∨ ga m 2 i = 2 ∧ gs m 34 < ga m 5 i ∨ ga m 2 i = 3 ∧ (ga m 4 i = gs m 33 ∨ ga m 4 i = gs m 35) ∨ ga m 2 i = 4 ∧ ga m 4 i = gs m 33 := by
  have e (p v : Int) : (v = ga m 10 p ∨ 0 < ga m 11 p ∧ v = ga m 12 p ∨ mReadBy m p v) ↔ Wv m p v := by
    unfold Wv
    constructor
    · rintro (h | h | h)
      · exact Or.inl h.symm
      · exact Or.inr (Or.inl ⟨h.1, h.2.symm⟩)
      · exact Or.inr (Or.inr h)
    · rintro (h | h | h)
      · exact Or.inl h.symm
      · exact Or.inr (Or.inl ⟨h.1, h.2.symm⟩)
      · exact Or.inr (Or.inr h)
  unfold mWanted mWantedData
  rw [e]
/-- an old page is wanted as before -/
theorem adp_wt {m m2 : zH} {cp cp2 : Int → Int} {r w ix g : Int} (d : Adp m m2 cp cp2 r w ix g) (e33 : gs m2 33 = gs m 33) (e34 : gs m2 34 = gs m 34) (e35 : gs m2 35 = gs m 35) (hv : ∀ p v, 0 ≤ p → p < gs m 3 → v ≤ gs m 19 → Wv m2 p v → Wv m p v) (mi : MI m) {T : Int} (dv : Dv m T) {i : Int} (h : pg m i) (k : mWanted m2 i) : mWanted m i := by
  obtain ⟨eN, ne, hp⟩ := adp_pg d
  have f := (d.2.1 i (ne i h)).1
  rw [want_W] at k ⊢
  rw [f 2 (by decide) (by decide), f 3 (by decide) (by decide), f 4 (by decide) (by decide), f 5 (by decide) (by decide), e33, e34, e35] at k
  rcases k with k | k
  · have q := (mi i h.1 h.2.1).1 k.1
    have v := dv.1 i h
    exact Or.inl ⟨k.1, hv _ _ q.1 q.2 (by omega) k.2⟩
  · exact Or.inr k
theorem adp_o4 {m m2 : zH} {cp cp2 : Int → Int} {r w ix g T n : Int} (d : Adp m m2 cp cp2 r w ix g) (dv : Dv m T) (on : On m cp n) (hw : ∀ i, pg m i → mWanted m2 i → mWanted m i) : ∀ i, pg m2 i → cp2 i = 1 → mNewest m2 i → ¬ mWanted m2 i := fun i hi hc hn hk => by
  obtain ⟨eN, ne, hp⟩ := adp_pg d
  obtain ⟨n1, n2, _, _⟩ := adp_new d dv
  rcases (hp i).mp hi with z | z
  · rw [z, d.2.2.1.2] at hc
    omega
  · rw [(d.2.1 i (ne i z)).2.2] at hc
    exact on.2.2.2.1 i z hc ((n2 i z).mp hn) (hw i z hk)
/-- an old page that is there, is there still -/
theorem adp_old {m m2 : zH} {cp cp2 : Int → Int} {r w ix g : Int} (d : Adp m m2 cp cp2 r w ix g) {p v o s : Int} (h : ∃ i, pg m i ∧ ga m 2 i = 1 ∧ ga m 3 i = p ∧ ga m 5 i = v ∧ (0 < o → v = s → ga m 4 i = o)) : ∃ i, pg m2 i ∧ ga m2 2 i = 1 ∧ ga m2 3 i = p ∧ ga m2 5 i = v ∧ (0 < o → v = s → ga m2 4 i = o) := by
  obtain ⟨eN, ne, hp⟩ := adp_pg d
  obtain ⟨i, i1, i2, i3, i4, i5⟩ := h
  have f := (d.2.1 i (ne i i1)).1
  exact ⟨i, (hp i).mpr (Or.inr i1), by rw [f 2 (by decide) (by decide)]; exact i2, by rw [f 3 (by decide) (by decide)]; exact i3, by rw [f 5 (by decide) (by decide)]; exact i4, by rw [f 4 (by decide) (by decide)]; exact i5⟩
theorem Ev_v {m : zH} {T : Int} (dv : Dv m T) {le p c w : Int} (h : Ev m le p c w) : c ≤ gs m 19 := by
  rcases h.2 with ⟨i, i1, i2, i3, i4, i5, i6⟩ | ⟨i, i1, i2, i3, i4⟩
  · have := dv.1 i i1; omega
  · have := dv.1 i i1; omega
def Nev (m : zH) (w ix g p u : Int) : Prop := w = 1 ∧ g = 0 ∧ p = ix ∧ u = gs m 19 + 1 ∨ w = 2 ∧ Mx m g p u
theorem adp_EX {m m2 : zH} {cp cp2 : Int → Int} {r w ix g T : Int} (d : Adp m m2 cp cp2 r w ix g) (dv : Dv m T) (h : w = 1 → ∀ i, pg m i → ga m 2 i = 2 → ga m 4 i ≠ g) {lt le : Int} {cm cm2 : Int → Int} (x : EX m lt le cm) (hle : le ≤ gs m 19) (h4 : w ≠ 4) (h3 : w = 3 → g ≠ lt) (hc : ∀ p, 0 ≤ p → p < gs m 3 → (∃ u, Nev m w ix g p u ∧ cm2 p = u) ∨ ((∀ u, ¬ Nev m w ix g p u) ∧ cm2 p = cm p)) : EX m2 lt le cm2 := by
  obtain ⟨eN, ne, hp⟩ := adp_pg d
  have ev := adp_Ev d h
  obtain ⟨base, e1, e2, e3, e4, e5, e6⟩ := x
  obtain ⟨⟨g1, g2, g3, g19⟩, a, ⟨⟨b2, b3, b4, b5, b6⟩, _⟩, _⟩ := d
  refine ⟨base, fun z => ⟨(e1 z).1, fun i hi => ?_, (e1 z).2.2⟩, fun z => ⟨?_, fun i hi k4 => ?_⟩, fun z p p0 p1 => ?_, fun z i hi k3 k4 k k0 k1 => ?_, fun p p0 p1 => ?_, by rw [g3]; exact e6⟩
  · rcases (hp i).mp hi with y | y
    · rw [y, b2]; exact h4
    · rw [(a i (ne i y)).1 2 (by decide) (by decide)]
      exact (e1 z).2.1 i y
  · obtain ⟨i, i1, i2, i3, i4⟩ := (e2 z).1
    have f := (a i (ne i i1)).1
    exact ⟨i, (hp i).mpr (Or.inr i1), by rw [f 2 (by decide) (by decide)]; exact i2, by rw [f 4 (by decide) (by decide)]; exact i3, by rw [f 5 (by decide) (by decide)]; exact i4⟩
  · rcases (hp i).mp hi with y | y
    · rw [y, b2] at k4
      exact absurd k4 h4
    · have f := (a i (ne i y)).1
      rw [f 5 (by decide) (by decide)]
      exact (e2 z).2 i y (by rw [← f 2 (by decide) (by decide)]; exact k4)
  · obtain ⟨i, i1, i2, i3, i4⟩ := e3 z p p0 (by rw [← g3]; exact p1)
    have f := (a i (ne i i1)).1
    exact ⟨i, (hp i).mpr (Or.inr i1), by rw [f 2 (by decide) (by decide)]; exact i2, by rw [f 4 (by decide) (by decide)]; exact i3, by rw [f 3 (by decide) (by decide)]; exact i4⟩
  · rcases (hp i).mp hi with y | y
    · rw [y, b2] at k3
      rw [y, b4] at k4
      exact absurd k4 (h3 k3)
    · have f := (a i (ne i y)).1
      rw [(a i (ne i y)).2.1 k k0 k1, f 3 (by decide) (by decide)]
      exact e4 z i y (by rw [← f 2 (by decide) (by decide)]; exact k3) (by rw [← f 4 (by decide) (by decide)]; exact k4) k k0 k1
  · rw [g3] at p1
    have nw : ∀ c u, (le < c ∧ c = gs m 19 + 1 ∧ (w = 1 ∧ g = 0 ∧ p = ix ∧ u = c ∨ w = 2 ∧ Mx m g p u)) ↔ c = gs m 19 + 1 ∧ Nev m w ix g p u := fun c u => by
      unfold Nev
      constructor
      · rintro ⟨q0, q1, q2 | q2⟩
        · exact ⟨q1, Or.inl ⟨q2.1, q2.2.1, q2.2.2.1, by omega⟩⟩
        · exact ⟨q1, Or.inr q2⟩
      · rintro ⟨q1, q2 | q2⟩
        · exact ⟨by omega, q1, Or.inl ⟨q2.1, q2.2.1, q2.2.2.1, by omega⟩⟩
        · exact ⟨by omega, q1, Or.inr q2⟩
    have ev2 : ∀ c u, Ev m2 le p c u ↔ Ev m le p c u ∨ (c = gs m 19 + 1 ∧ Nev m w ix g p u) := fun c u => by rw [ev, nw]
    rcases hc p p0 p1 with ⟨u, q1, q2⟩ | ⟨q1, q2⟩
    · refine Or.inl ⟨gs m 19 + 1, u, (ev2 _ _).mpr (Or.inr ⟨rfl, q1⟩), fun c2 u2 k => ?_, q2⟩
      rcases (ev2 _ _).mp k with k | k
      · have := Ev_v dv k; omega
      · omega
    · rw [q2]
      rcases e5 p p0 p1 with ⟨c, u, y1, y2, y3⟩ | ⟨y1, y2⟩
      · refine Or.inl ⟨c, u, (ev2 _ _).mpr (Or.inl y1), fun c2 u2 k => ?_, y3⟩
        rcases (ev2 _ _).mp k with k | k
        · exact y2 c2 u2 k
        · exact absurd k.2 (q1 u2)
      · refine Or.inr ⟨fun c u k => ?_, y2⟩
        rcases (ev2 _ _).mp k with k | k
        · exact y1 c u k
        · exact q1 u k.2
/-- a data page outside any transaction -/
theorem On_out {m m2 : zH} {cp cp2 : Int → Int} {r ix T n n2 : Int} (d : Adp m m2 cp cp2 r 1 ix 0) (dv : Dv m T) (mi : MI m) (on : On m cp n) (p0 : 0 ≤ ix) (p1 : ix < gs m 3) (L : gs m 3 ≤ 64)
    (e33 : gs m2 33 = gs m 33) (e34 : gs m2 34 = gs m 34) (e35 : gs m2 35 = gs m 35) (e38 : gs m2 38 = gs m 38) (e39 : gs m2 39 = gs m 39) (z35 : gs m 35 = 0)
    (a10 : ∀ p, ga m2 10 p = if p = ix then gs m 19 + 1 else ga m 10 p) (ao : ∀ c p, c = 11 ∨ c = 12 ∨ c = 13 ∨ c = 14 ∨ c = 15 → ga m2 c p = ga m c p) : On m2 cp2 n2 := by
  obtain ⟨eN, ne, hp⟩ := adp_pg d
  have g3 := d.1.2.2.1
  have g19 := d.1.2.2.2
  have on0 := on
  obtain ⟨o1, o2, o3, o4, o5, o6, o7⟩ := on
  have q19 := dv.2.2.2.1.1
  have rd : ∀ p v, mReadBy m2 p v ↔ mReadBy m p v := fun p v => by
    unfold mReadBy
    simp only [ao 13 _ (by decide), ao 14 _ (by decide)]
  have wv : ∀ p v, Wv m2 p v → p = ix ∧ v = gs m 19 + 1 ∨ Wv m p v := fun p v => by
    unfold Wv
    rw [rd, ao 11 _ (by decide), ao 12 _ (by decide), a10]
    rintro (h | h)
    · by_cases z : p = ix
      · rw [if_pos z] at h
        exact Or.inl ⟨z, h.symm⟩
      · rw [if_neg z] at h
        exact Or.inr (Or.inl h)
    · exact Or.inr (Or.inr h)
  have sh : 0 < ga m 11 ix → ga m 12 ix ≤ gs m 19 := fun h => by
    have q := o1 ix p0 (by omega)
    obtain ⟨i, i1, _, _, i4, _⟩ := o5 ix (ga m 12 ix) p0 p1 (by omega) (Or.inr (Or.inl ⟨h, rfl⟩))
    have := dv.1 i i1
    omega
  refine ⟨fun p pp0 pp1 => ?_, fun i hi h1 h2 h3 => ?_, by rw [e33, e34, e35, e39, g19]; omega, adp_o4 d dv on0 (fun i hi hw => adp_wt d e33 e34 e35 (fun p v _ _ hv k => (wv p v k).resolve_left (fun z => by omega)) mi dv hi hw), fun p v pp0 pp1 v0 hw => ?_, ?_, fun z => absurd (e35.trans z35) z⟩
  · rw [a10, ao 11 _ (by decide), ao 12 _ (by decide), ao 15 _ (by decide), e38, g3]
    have q := o1 p pp0 pp1
    by_cases z : p = ix
    · rw [if_pos z]
      exact ⟨by omega, q.2.1, fun y => by omega⟩
    · rw [if_neg z]
      exact q
  · rcases (hp i).mp hi with y | y
    · rw [y, d.2.2.1.1.2.2.1] at h2
      omega
    · have f := (d.2.1 i (ne i y)).1
      rw [f 2 (by decide) (by decide)] at h1
      rw [f 4 (by decide) (by decide)] at h2 h3
      rw [ao 15 _ (by decide)] at h3
      rw [f 3 (by decide) (by decide), f 4 (by decide) (by decide), f 5 (by decide) (by decide), ao 11 _ (by decide), ao 12 _ (by decide)]
      exact o2 i y h1 h2 h3
  · rw [ao 11 _ (by decide), ao 12 _ (by decide)]
    rcases wv p v hw with ⟨y1, y2⟩ | y
    · refine ⟨r, (hp r).mpr (Or.inl rfl), d.2.2.1.1.1, by rw [y1]; exact d.2.2.1.1.2.1, by rw [y2]; exact d.2.2.1.1.2.2.2.1, fun k1 k2 => ?_⟩
      rw [y1] at k1 k2
      have := sh k1
      omega
    · exact adp_old d (o5 p v pp0 (by rw [← g3]; exact pp1) v0 y)
  · rw [e33, e34]
    refine adp_EX d dv (fun _ i hi hk => by have := ((dv.2.2.2.2.1 i hi).2.1 hk).1; omega) o6 o3.2.1.2 (by decide) (fun z => by omega) (fun p _ _ => ?_)
    rw [a10]
    by_cases z : p = ix
    · rw [if_pos z]
      exact Or.inl ⟨_, Or.inl ⟨rfl, rfl, z, rfl⟩, rfl⟩
    · rw [if_neg z]
      refine Or.inr ⟨fun u k => ?_, rfl⟩
      rcases k with k | k
      · exact z k.2.2.1
      · omega
/-- a data page inside transaction g -/
theorem On_in {m m2 : zH} {cp cp2 : Int → Int} {r ix g T n n2 : Int} (d : Adp m m2 cp cp2 r 1 ix g) (dv : Dv m T) (mi : MI m) (on : On m cp n) (p0 : 0 ≤ ix) (p1 : ix < gs m 3) (L : gs m 3 ≤ 64)
    (t0 : 1 ≤ g) (t1 : g ≤ gs m 38) (ts : ga m 15 g = 1) (ow : ga m 11 ix = 0 ∨ ga m 11 ix = g)
    (e33 : gs m2 33 = gs m 33) (e34 : gs m2 34 = gs m 34) (e35 : gs m2 35 = gs m 35) (e38 : gs m2 38 = gs m 38) (e39 : gs m2 39 = gs m 39) (z35 : gs m 35 = 0)
    (a11 : ∀ p, ga m2 11 p = if p = ix then g else ga m 11 p) (a12 : ∀ p, ga m2 12 p = if p = ix then gs m 19 + 1 else ga m 12 p) (ao : ∀ c p, c = 10 ∨ c = 13 ∨ c = 14 ∨ c = 15 → ga m2 c p = ga m c p) : On m2 cp2 n2 := by
  obtain ⟨eN, ne, hp⟩ := adp_pg d
  have g3 := d.1.2.2.1
  have g19 := d.1.2.2.2
  have on0 := on
  obtain ⟨o1, o2, o3, o4, o5, o6, o7⟩ := on
  have q19 := dv.2.2.2.1.1
  have rd : ∀ p v, mReadBy m2 p v ↔ mReadBy m p v := fun p v => by
    unfold mReadBy
    simp only [ao 13 _ (by decide), ao 14 _ (by decide)]
  have wv : ∀ p v, Wv m2 p v → p = ix ∧ v = gs m 19 + 1 ∨ Wv m p v ∧ ¬ (p = ix ∧ 0 < ga m2 11 p ∧ v = ga m2 12 p) := fun p v => by
    unfold Wv
    rw [rd, ao 10 _ (by decide), a11, a12]
    by_cases z : p = ix
    · rw [if_pos z, if_pos z]
      intro h
      by_cases y : v = gs m 19 + 1
      · exact Or.inl ⟨z, y⟩
      · refine Or.inr ⟨?_, fun q => y q.2.2⟩
        rcases h with h | h | h
        · exact Or.inl h
        · exact absurd h.2.symm y
        · exact Or.inr (Or.inr h)
    · rw [if_neg z, if_neg z]
      exact fun h => Or.inr ⟨h, fun q => z q.1⟩
  refine ⟨fun p pp0 pp1 => ?_, fun i hi h1 h2 h3 => ?_, by rw [e33, e34, e35, e39, g19]; omega, adp_o4 d dv on0 (fun i hi hw => adp_wt d e33 e34 e35 (fun p v _ _ hv k => ((wv p v k).resolve_left (fun z => by omega)).1) mi dv hi hw), fun p v pp0 pp1 v0 hw => ?_, ?_, fun z => absurd (e35.trans z35) z⟩
  · rw [a11, a12, ao 10 _ (by decide), ao 15 _ (by decide), e38, g3]
    have q := o1 p pp0 pp1
    by_cases z : p = ix
    · rw [if_pos z, if_pos z]
      exact ⟨q.1, Or.inr ⟨⟨t0, t1⟩, ts, by omega⟩, fun y => by omega⟩
    · rw [if_neg z, if_neg z]
      exact q
  · rcases (hp i).mp hi with y | y
    · rw [y, d.2.2.1.1.2.1, d.2.2.1.1.2.2.1, d.2.2.1.1.2.2.2.1, a11, a12, if_pos rfl, if_pos rfl]
      exact ⟨rfl, Int.le_refl _⟩
    · have f := (d.2.1 i (ne i y)).1
      rw [f 2 (by decide) (by decide)] at h1
      rw [f 4 (by decide) (by decide)] at h2 h3
      rw [ao 15 _ (by decide)] at h3
      rw [f 3 (by decide) (by decide), f 4 (by decide) (by decide), f 5 (by decide) (by decide), a11, a12]
      have q := o2 i y h1 h2 h3
      have v := dv.1 i y
      by_cases z : ga m 3 i = ix
      · rw [if_pos z, if_pos z]
        rw [z] at q
        omega
      · rw [if_neg z, if_neg z]
        exact q
  · rcases wv p v hw with ⟨y1, y2⟩ | ⟨y, y3⟩
    · refine ⟨r, (hp r).mpr (Or.inl rfl), d.2.2.1.1.1, by rw [y1]; exact d.2.2.1.1.2.1, by rw [y2]; exact d.2.2.1.1.2.2.2.1, fun k1 k2 => ?_⟩
      rw [y1, a11, if_pos rfl]
      exact d.2.2.1.1.2.2.1
    · obtain ⟨i, i1, i2, i3, i4, i5⟩ := o5 p v pp0 (by rw [← g3]; exact pp1) v0 y
      refine adp_old d ⟨i, i1, i2, i3, i4, fun k1 k2 => ?_⟩
      by_cases z : p = ix
      · exact absurd ⟨z, k1, k2⟩ y3
      · rw [a11, if_neg z] at k1 ⊢
        rw [a12, if_neg z] at k2
        exact i5 k1 k2
  · rw [e33, e34, show ga m2 10 = ga m 10 from funext fun p => ao 10 p (by decide)]
    refine adp_EX d dv (fun _ i hi hk y => by have := ((dv.2.2.2.2.1 i hi).2.1 hk).2; rw [y] at this; omega) o6 o3.2.1.2 (by decide) (fun z => by omega) (fun p _ _ => Or.inr ⟨fun u k => ?_, rfl⟩)
    rcases k with k | k
    · omega
    · omega
/-- the COMMIT page of transaction g -/
theorem On_com {m m2 : zH} {cp cp2 : Int → Int} {r ix g T n n2 : Int} (d : Adp m m2 cp cp2 r 2 ix g) (dv : Dv m T) (mi : MI m) (on : On m cp n) (L : gs m 3 ≤ 64)
    (t0 : 1 ≤ g) (t1 : g ≤ gs m 38) (ts : ga m 15 g = 1)
    (e33 : gs m2 33 = gs m 33) (e34 : gs m2 34 = gs m 34) (e35 : gs m2 35 = gs m 35) (e38 : gs m2 38 = gs m 38) (e39 : gs m2 39 = gs m 39) (z35 : gs m 35 = 0)
    (a10 : ∀ p, ga m2 10 p = if 0 ≤ p ∧ p < gs m 3 ∧ ga m 11 p = g then ga m 12 p else ga m 10 p) (a11 : ∀ p, ga m2 11 p = if 0 ≤ p ∧ p < gs m 3 ∧ ga m 11 p = g then 0 else ga m 11 p) (a12 : ∀ p, ga m2 12 p = if 0 ≤ p ∧ p < gs m 3 ∧ ga m 11 p = g then 0 else ga m 12 p) (a15 : ∀ t, ga m2 15 t = if t = g then 2 else ga m 15 t) (ao : ∀ c p, c = 13 ∨ c = 14 → ga m2 c p = ga m c p) : On m2 cp2 n2 := by
  obtain ⟨eN, ne, hp⟩ := adp_pg d
  have g3 := d.1.2.2.1
  have g19 := d.1.2.2.2
  have on0 := on
  obtain ⟨o1, o2, o3, o4, o5, o6, o7⟩ := on
  have q19 := dv.2.2.2.1.1
  have rd : ∀ p v, mReadBy m2 p v ↔ mReadBy m p v := fun p v => by
    unfold mReadBy
    simp only [ao 13 _ (by decide), ao 14 _ (by decide)]
  have wv : ∀ p v, Wv m2 p v → Wv m p v ∧ (0 < ga m2 11 p → ga m2 11 p = ga m 11 p ∧ ga m2 12 p = ga m 12 p) := fun p v => by
    unfold Wv
    rw [rd, a10, a11, a12]
    by_cases z : 0 ≤ p ∧ p < gs m 3 ∧ ga m 11 p = g
    · rw [if_pos z, if_pos z, if_pos z]
      rintro (h | h | h)
      · exact ⟨Or.inr (Or.inl ⟨by omega, h⟩), fun q => by omega⟩
      · omega
      · exact ⟨Or.inr (Or.inr h), fun q => by omega⟩
    · rw [if_neg z, if_neg z, if_neg z]
      exact fun h => ⟨h, fun _ => ⟨rfl, rfl⟩⟩
  refine ⟨fun p pp0 pp1 => ?_, fun i hi h1 h2 h3 => ?_, by rw [e33, e34, e35, e39, g19]; omega, adp_o4 d dv on0 (fun i hi hw => adp_wt d e33 e34 e35 (fun p v _ _ hv k => (wv p v k).1) mi dv hi hw), fun p v pp0 pp1 v0 hw => ?_, ?_, fun z => absurd (e35.trans z35) z⟩
  · rw [a10, a11, a12, a15, e38, g3]
    have q := o1 p pp0 pp1
    by_cases z : 0 ≤ p ∧ p < gs m 3 ∧ ga m 11 p = g
    · rw [if_pos z, if_pos z, if_pos z]
      exact ⟨by omega, Or.inl ⟨rfl, rfl⟩, fun y => by omega⟩
    · rw [if_neg z, if_neg z, if_neg z]
      refine ⟨q.1, ?_, q.2.2⟩
      rcases q.2.1 with k | k
      · exact Or.inl k
      · refine Or.inr ⟨k.1, ?_, k.2.2⟩
        rw [if_neg (fun y => z ⟨pp0, Classical.byContradiction fun w => by have := (q.2.2 (by omega)).2; omega, y⟩)]
        exact k.2.1
  · rcases (hp i).mp hi with y | y
    · rw [y, d.2.2.1.1.1] at h1
      omega
    · have f := (d.2.1 i (ne i y)).1
      rw [f 2 (by decide) (by decide)] at h1
      rw [f 4 (by decide) (by decide)] at h2 h3
      rw [a15] at h3
      have tg : ga m 4 i ≠ g := fun z => by rw [if_pos z] at h3; omega
      rw [if_neg tg] at h3
      rw [f 3 (by decide) (by decide), f 4 (by decide) (by decide), f 5 (by decide) (by decide), a11, a12]
      have q := o2 i y h1 h2 h3
      rw [if_neg (fun z => tg (by rw [← q.1]; exact z.2.2)), if_neg (fun z => tg (by rw [← q.1]; exact z.2.2))]
      exact q
  · have w := wv p v hw
    obtain ⟨i, i1, i2, i3, i4, i5⟩ := o5 p v pp0 (by rw [← g3]; exact pp1) v0 w.1
    refine adp_old d ⟨i, i1, i2, i3, i4, fun k1 k2 => ?_⟩
    have e := w.2 k1
    rw [e.1] at k1 ⊢
    rw [e.2] at k2
    exact i5 k1 k2
  · rw [e33, e34]
    refine adp_EX d dv (fun z => by omega) o6 o3.2.1.2 (by decide) (fun z => by omega) (fun p pp0 pp1 => ?_)
    rw [a10]
    by_cases z : ga m 11 p = g
    · rw [if_pos ⟨pp0, pp1, z⟩]
      have q := o1 p pp0 (by omega)
      obtain ⟨i, i1, i2, i3, i4, i5⟩ := o5 p (ga m 12 p) pp0 pp1 (by omega) (Or.inr (Or.inl ⟨by omega, rfl⟩))
      refine Or.inl ⟨_, Or.inr ⟨rfl, ⟨i, i1, i2, (i5 (by omega) rfl).trans z, i3, i4⟩, fun j j1 j2 j3 j4 => ?_⟩, rfl⟩
      have q2 := o2 j j1 j2 (by omega) (by rw [j3]; exact ts)
      rw [j4] at q2
      exact q2.2
    · rw [if_neg (fun y => z y.2.2)]
      refine Or.inr ⟨fun u k => ?_, rfl⟩
      rcases k with k | ⟨_, ⟨j, j1, j2, j3, j4, j5⟩, _⟩
      · omega
      · have q2 := o2 j j1 j2 (by omega) (by rw [j3]; exact ts)
        rw [j4, j3] at q2
        exact z q2.1
/-- a MAP page of the checkpoint in the making -/
theorem On_map {m m2 : zH} {cp cp2 : Int → Int} {r n T : Int} (d : Adp m m2 cp cp2 r 3 n (gs m 35)) (dv : Dv m T) (mi : MI m) (on : On m cp n) (z35 : gs m 35 ≠ 0)
    (e33 : gs m2 33 = gs m 33) (e34 : gs m2 34 = gs m 34) (e35 : gs m2 35 = gs m 35) (e38 : gs m2 38 = gs m 38) (e39 : gs m2 39 = gs m 39)
    (ao : ∀ c p, c = 10 ∨ c = 11 ∨ c = 12 ∨ c = 13 ∨ c = 14 ∨ c = 15 → ga m2 c p = ga m c p) (a8 : ∀ k, 0 ≤ k → k < 8 → ga m2 8 (8 * r + k) = ga m 10 (8 * n + k)) : On m2 cp2 (n + 1) := by
  obtain ⟨eN, ne, hp⟩ := adp_pg d
  have g3 := d.1.2.2.1
  have g19 := d.1.2.2.2
  have on0 := on
  obtain ⟨o1, o2, o3, o4, o5, o6, o7⟩ := on
  obtain ⟨y1, y2, y3⟩ := o7 z35
  have wv : ∀ p v, Wv m2 p v ↔ Wv m p v := Wv_c (fun c p h => ao c p (by omega))
  refine ⟨fun p pp0 pp1 => ?_, fun i hi h1 h2 h3 => ?_, by rw [e33, e34, e35, e39, g19]; omega, adp_o4 d dv on0 (fun i hi hw => adp_wt d e33 e34 e35 (fun p v _ _ hv k => (wv p v).mp k) mi dv hi hw), fun p v pp0 pp1 v0 hw => ?_, ?_, fun _ => ⟨fun i hi h1 h2 k k0 k1 => ?_, fun q q0 q1 => ?_, fun i hi h1 => ?_⟩⟩
  · rw [ao 10 _ (by decide), ao 11 _ (by decide), ao 12 _ (by decide), ao 15 _ (by decide), e38, g3]
    exact o1 p pp0 pp1
  · rcases (hp i).mp hi with y | y
    · rw [y, d.2.2.1.1.1] at h1
      omega
    · have f := (d.2.1 i (ne i y)).1
      rw [f 2 (by decide) (by decide)] at h1
      rw [f 4 (by decide) (by decide)] at h2 h3
      rw [ao 15 _ (by decide)] at h3
      rw [f 3 (by decide) (by decide), f 4 (by decide) (by decide), f 5 (by decide) (by decide), ao 11 _ (by decide), ao 12 _ (by decide)]
      exact o2 i y h1 h2 h3
  · rw [ao 11 _ (by decide), ao 12 _ (by decide)]
    exact adp_old d (o5 p v pp0 (by rw [← g3]; exact pp1) v0 ((wv p v).mp hw))
  · rw [e33, e34, show ga m2 10 = ga m 10 from funext fun p => ao 10 p (by decide)]
    refine adp_EX d dv (fun z => by omega) o6 o3.2.1.2 (by decide) (fun z => by omega) (fun p _ _ => Or.inr ⟨fun u k => ?_, rfl⟩)
    rcases k with k | k
    · omega
    · omega
  · rcases (hp i).mp hi with y | y
    · rw [y, a8 k k0 k1, d.2.2.1.1.2.1, ao 10 _ (by decide)]
    · have f := (d.2.1 i (ne i y)).1
      rw [(d.2.1 i (ne i y)).2.1 k k0 k1, f 3 (by decide) (by decide), ao 10 _ (by decide)]
      exact y1 i y (by rw [← f 2 (by decide) (by decide)]; exact h1) (by rw [← f 4 (by decide) (by decide), ← e35]; exact h2) k k0 k1
  · rw [e35]
    by_cases y : q = n
    · exact ⟨r, (hp r).mpr (Or.inl rfl), d.2.2.1.1.1, d.2.2.1.1.2.2.1, by rw [y]; exact d.2.2.1.1.2.1⟩
    · obtain ⟨i, i1, i2, i3, i4⟩ := y2 q q0 (by omega)
      have f := (d.2.1 i (ne i i1)).1
      exact ⟨i, (hp i).mpr (Or.inr i1), by rw [f 2 (by decide) (by decide)]; exact i2, by rw [f 4 (by decide) (by decide)]; exact i3, by rw [f 3 (by decide) (by decide)]; exact i4⟩
  · rw [e35]
    rcases (hp i).mp hi with y | y
    · rw [y, d.2.2.1.1.1] at h1
      omega
    · have f := (d.2.1 i (ne i y)).1
      rw [f 2 (by decide) (by decide)] at h1
      rw [f 4 (by decide) (by decide)]
      exact y3 i y h1
/-- the END page of the checkpoint in the making -/
theorem On_end {m m2 : zH} {cp cp2 : Int → Int} {r ix n n2 T : Int} (d : Adp m m2 cp cp2 r 4 ix (gs m 35)) (dv : Dv m T) (mi : MI m) (on : On m cp n) (z35 : gs m 35 ≠ 0) (hn : gs m 3 ≤ 8 * n) (L : gs m 3 ≤ 64) (n0 : 0 ≤ n)
    (e33 : gs m2 33 = gs m 35) (e34 : gs m2 34 = gs m 19 + 1) (e35 : gs m2 35 = 0) (e38 : gs m2 38 = gs m 38) (e39 : gs m2 39 = gs m 39)
    (ao : ∀ c p, c = 10 ∨ c = 11 ∨ c = 12 ∨ c = 13 ∨ c = 14 ∨ c = 15 → ga m2 c p = ga m c p) (L0 : 0 ≤ gs m 3) : On m2 cp2 n2 := by
  obtain ⟨eN, ne, hp⟩ := adp_pg d
  have ev := adp_Ev d (fun z => by omega)
  have g3 := d.1.2.2.1
  have g19 := d.1.2.2.2
  have on0 := on
  obtain ⟨o1, o2, o3, o4, o5, o6, o7⟩ := on
  obtain ⟨y1, y2, y3⟩ := o7 z35
  have q19 := dv.2.2.2.1
  have wv : ∀ p v, Wv m2 p v ↔ Wv m p v := Wv_c (fun c p h => ao c p (by omega))
  have dv2 := fun i hi => (dv.2.2.2.2.1 i hi).2.2
  refine ⟨fun p pp0 pp1 => ?_, fun i hi h1 h2 h3 => ?_, by rw [e33, e34, e35, e39, g19]; omega, adp_o4 d dv on0 (fun i hi hw => ?_), fun p v pp0 pp1 v0 hw => ?_, ⟨fun p => if p < 64 then ga m 10 p else 0, fun z => absurd (e33.symm.trans z) z35, fun _ => ⟨⟨r, (hp r).mpr (Or.inl rfl), d.2.2.1.1.1, by rw [e33]; exact d.2.2.1.1.2.2.1, by rw [e34]; exact d.2.2.1.1.2.2.2.1⟩, fun i hi _ => ?_⟩, fun _ p pp0 pp1 => ?_, fun _ i hi h1 h2 k k0 k1 => ?_, fun p pp0 pp1 => Or.inr ⟨fun c w k => ?_, by rw [ao 10 p (by decide)]; exact (if_pos (by omega)).symm⟩, fun p pp => ?_⟩, fun z => absurd e35 z⟩
  · rw [ao 10 _ (by decide), ao 11 _ (by decide), ao 12 _ (by decide), ao 15 _ (by decide), e38, g3]
    exact o1 p pp0 pp1
  · rcases (hp i).mp hi with y | y
    · rw [y, d.2.2.1.1.1] at h1
      omega
    · have f := (d.2.1 i (ne i y)).1
      rw [f 2 (by decide) (by decide)] at h1
      rw [f 4 (by decide) (by decide)] at h2 h3
      rw [ao 15 _ (by decide)] at h3
      rw [f 3 (by decide) (by decide), f 4 (by decide) (by decide), f 5 (by decide) (by decide), ao 11 _ (by decide), ao 12 _ (by decide)]
      exact o2 i y h1 h2 h3
  · have f := (d.2.1 i (ne i hi)).1
    rw [want_W] at hw ⊢
    rw [f 2 (by decide) (by decide), f 3 (by decide) (by decide), f 4 (by decide) (by decide), f 5 (by decide) (by decide), e33, e34, e35, wv] at hw
    have v := dv.1 i hi
    have k := dv2 i hi
    have k2 := y3 i hi
    rcases hw with hw | hw | hw | hw
    · exact Or.inl hw
    · omega
    · exact Or.inr (Or.inr (Or.inl ⟨hw.1, by have := k (Or.inl hw.1); omega⟩))
    · exact absurd hw.2 (k2 hw.1)
  · rw [ao 11 _ (by decide), ao 12 _ (by decide)]
    exact adp_old d (o5 p v pp0 (by rw [← g3]; exact pp1) v0 ((wv p v).mp hw))
  · rw [e34]
    rcases (hp i).mp hi with y | y
    · rw [y, d.2.2.1.1.2.2.2.1]
      exact Int.le_refl _
    · have := ((adp_new d dv).2.2.2 i y).2
      omega
  · rw [g3] at pp1
    obtain ⟨i, i1, i2, i3, i4⟩ := y2 (p / 8) (by omega) (by omega)
    have f := (d.2.1 i (ne i i1)).1
    exact ⟨i, (hp i).mpr (Or.inr i1), by rw [f 2 (by decide) (by decide)]; exact i2, by rw [e33, f 4 (by decide) (by decide)]; exact i3, by rw [f 3 (by decide) (by decide)]; exact i4⟩
  · rcases (hp i).mp hi with y | y
    · rw [y, d.2.2.1.1.1] at h1
      omega
    · have f := (d.2.1 i (ne i y)).1
      have k3 : ga m 2 i = 3 := by rw [← f 2 (by decide) (by decide)]; exact h1
      have q := (mi i y.1 y.2.1).2 k3
      rw [(d.2.1 i (ne i y)).2.1 k k0 k1, f 3 (by decide) (by decide)]
      refine Eq.trans ?_ (if_pos (show 8 * ga m 3 i + k < 64 by omega)).symm
      exact y1 i y k3 (by rw [← f 4 (by decide) (by decide), ← e33]; exact h2) k k0 k1
  · have h0 := k.1
    rw [e34] at h0
    rcases (ev _ _ _ _).mp k with z | z
    · have := Ev_v dv z
      omega
    · omega
  · rw [g3] at pp
    show (if p < 64 then ga m 10 p else 0) = 0
    by_cases z : p < 64
    · rw [if_pos z]
      exact ((o1 p (by omega) z).2.2 pp).1
    · rw [if_neg z]

