/-! power is lost; a new page is added -/
def Zt (m : zH) : Prop := (∀ p, 0 ≤ p → p < 64 → ga m 10 p = 0 ∧ ga m 11 p = 0 ∧ ga m 12 p = 0) ∧ (∀ r, 0 ≤ r → r < 4 → ga m 14 r = 0) ∧ gs m 32 = -1 ∧ gs m 33 = 0 ∧ gs m 34 = 0 ∧ gs m 35 = 0 ∧ gs m 36 = 0
/-- both devices without power -/
def FF (m x : zH) (T : Int) : Prop := SIM m x ∧ Dv m T ∧ Nf m (ga x 17) ∧ Off m (ga x 17) ∧ gs m 26 = 0 ∧ (gs m 1 = 0 ∨ 1 ≤ gs m 2) ∧ Zt m
/-- the same pages -/
def Pgs (m m2 : zH) : Prop := (gs m2 1 = gs m 1 ∧ gs m2 2 = gs m 2 ∧ gs m2 3 = gs m 3 ∧ gs m2 19 = gs m 19 ∧ gs m2 38 = gs m 38 ∧ gs m2 39 = gs m 39) ∧ ∀ c i, 2 ≤ c ∧ c ≤ 9 ∨ c = 15 → ga m2 c i = ga m c i
theorem Pgs.rf (m : zH) : Pgs m m := ⟨⟨rfl, rfl, rfl, rfl, rfl, rfl⟩, fun _ _ _ => rfl⟩
theorem Pgs.sy {a b : zH} (h : Pgs a b) : Pgs b a := ⟨⟨h.1.1.symm, h.1.2.1.symm, h.1.2.2.1.symm, h.1.2.2.2.1.symm, h.1.2.2.2.2.1.symm, h.1.2.2.2.2.2.symm⟩, fun c i d => (h.2 c i d).symm⟩
theorem Pgs_N {m m2 : zH} (h : Pgs m m2) : mN m2 = mN m := by unfold mN; rw [h.1.1, h.1.2.1]
theorem Pgs_pg {m m2 : zH} (h : Pgs m m2) (i : Int) : pg m2 i ↔ pg m i := by
  unfold pg mProgd
  rw [Pgs_N h, h.2 2 i (by decide)]
theorem Pgs_Dv {m m2 : zH} (h : Pgs m m2) {T : Int} (d : Dv m T) : Dv m2 T := by
  obtain ⟨v1, v2, v3, v4, v5, v6⟩ := d
  have a {c : Nat} {i : Int} (hc : 2 ≤ c ∧ c ≤ 9 ∨ c = 15) := h.2 c i hc
  refine ⟨fun i hi => ?_, fun i j hi hj e => ?_, fun i j hi hj e => ?_, ?_, fun i hi => ?_, by rw [h.1.2.2.2.2.1]; exact v6⟩
  · rw [Pgs_pg h] at hi
    rw [a (by decide), a (by decide), h.1.2.2.2.1]
    exact v1 i hi
  · rw [Pgs_pg h] at hi hj
    rw [a (by decide), a (by decide)] at e
    exact v2 i j hi hj e
  · rw [Pgs_pg h] at hi hj
    rw [a (by decide), a (by decide)] at e
    unfold mCopyOf
    simp only [a (c := 2) (by decide), a (c := 3) (by decide), a (c := 4) (by decide), a (c := 5) (by decide), a (c := 7) (by decide), a (c := 8) (by decide)]
    exact v3 i j hi hj e
  · rw [h.1.2.2.2.1, h.1.2.2.2.2.2, h.1.1]
    simp only [a (c := 9) (by decide)]
    exact v4
  · rw [Pgs_pg h] at hi
    rw [a (c := 2) (by decide), a (c := 4) (by decide), a (c := 15) (by decide), h.1.2.2.2.2.1, h.1.2.2.2.2.2]
    exact v5 i hi
theorem Pgs_new {m m2 : zH} (h : Pgs m m2) (i : Int) : mNewest m2 i ↔ mNewest m i := by
  unfold mNewest mCopyOf
  simp only [h.2 2 _ (by decide), h.2 3 _ (by decide), h.2 4 _ (by decide), h.2 5 _ (by decide), h.2 6 _ (by decide), h.1.1, h.1.2.1]
theorem Pgs_Nf {m m2 : zH} (h : Pgs m m2) {cp : Int → Int} (d : Nf m cp) : Nf m2 cp := ⟨fun i hi hc => (Pgs_new h i).mpr (d.1 i ((Pgs_pg h i).mp hi) hc), fun i hi => d.2 i ((Pgs_pg h i).mp hi)⟩
theorem Pgs_Mx {m m2 : zH} (h : Pgs m m2) (t p w : Int) : Mx m2 t p w ↔ Mx m t p w := by
  unfold Mx
  simp only [h.2 2 _ (by decide), h.2 3 _ (by decide), h.2 4 _ (by decide), h.2 5 _ (by decide), Pgs_pg h]
theorem Pgs_Ev {m m2 : zH} (h : Pgs m m2) (le p c w : Int) : Ev m2 le p c w ↔ Ev m le p c w := by
  unfold Ev
  simp only [h.2 2 _ (by decide), h.2 3 _ (by decide), h.2 4 _ (by decide), h.2 5 _ (by decide), Pgs_pg h, Pgs_Mx h]
theorem Pgs_EX {m m2 : zH} (h : Pgs m m2) {lt le : Int} {cm : Int → Int} (d : EX m lt le cm) : EX m2 lt le cm := by
  obtain ⟨base, b⟩ := d
  refine ⟨base, ?_⟩
  unfold EXb at b ⊢
  simp only [h.2 2 _ (by decide), h.2 3 _ (by decide), h.2 4 _ (by decide), h.2 5 _ (by decide), h.2 8 _ (by decide), Pgs_pg h, Pgs_Ev h, h.1.2.2.1]
  exact b
theorem Pgs_loses (m : zH) : Pgs m (m_loses m) := ⟨⟨rfl, rfl, rfl, rfl, rfl, rfl⟩, fun c i hc => by rw [ga_mloses, if_neg (by omega)]⟩
theorem LOSE {m x : zH} {T n : Int} (f : FO m x T n) : FF (m_loses m) (x_lose x) T := by
  have s9 := SIM_lose f.1
  obtain ⟨s, dv, nf, on, o, p1⟩ := f
  have pl := Pgs_loses m
  have e17 : ∀ i, ga (x_lose x) 17 i = ga x 17 i := fun i => by rw [ga_xlose, if_neg (by omega)]
  have o1 := on.1
  refine ⟨s9, Pgs_Dv pl dv, Nf_e (Pgs_Nf pl nf) e17, ⟨gs m 33, gs m 34, ga m 10, Pgs_EX pl on.2.2.2.2.2.1, fun i hi hc hn hb => ?_, fun p p0 p1 hp => ?_, fun p p0 p1 => ⟨(o1 p p0 p1).1, fun z => ((o1 p p0 p1).2.2 z).1⟩, ⟨on.2.2.1.1, on.2.2.1.2.1⟩⟩, rfl, Or.inr p1, ⟨fun p p0 p1 => ?_, fun r r0 r1 => ?_, rfl, rfl, rfl, rfl, rfl⟩⟩
  · rw [Pgs_pg pl] at hi
    rw [e17] at hc
    rw [Pgs_new pl] at hn
    refine on.2.2.2.1 i hi hc hn (BW_w ?_)
    unfold BW at hb ⊢
    simp only [pl.2 2 _ (by decide), pl.2 3 _ (by decide), pl.2 4 _ (by decide), pl.2 5 _ (by decide)] at hb
    exact hb
  · obtain ⟨i, i1, i2, i3, i4, _⟩ := on.2.2.2.2.1 p (ga m 10 p) p0 p1 hp (Or.inl rfl)
    refine ⟨i, (Pgs_pg pl i).mpr i1, ?_⟩
    rw [pl.2 2 _ (by decide), pl.2 3 _ (by decide), pl.2 5 _ (by decide)]
    exact ⟨i2, i3, i4⟩
  · rw [ga_mloses, if_pos (by omega), ga_mloses, if_pos (by omega), ga_mloses, if_pos (by omega)]
    exact ⟨rfl, rfl, rfl⟩
  · rw [ga_mloses, if_pos (by omega)]
/-- a new page at r, newer than all -/
def Adp (m m2 : zH) (cp cp2 : Int → Int) (r w ix g : Int) : Prop :=
  (gs m2 1 = gs m 1 ∧ gs m2 2 = gs m 2 ∧ gs m2 3 = gs m 3 ∧ gs m2 19 = gs m 19 + 1) ∧
  (∀ i, i ≠ r → (∀ c, 2 ≤ c → c ≤ 7 → ga m2 c i = ga m c i) ∧ (∀ k, 0 ≤ k → k < 8 → ga m2 8 (8 * i + k) = ga m 8 (8 * i + k)) ∧ cp2 i = cp i) ∧
  ((ga m2 2 r = w ∧ ga m2 3 r = ix ∧ ga m2 4 r = g ∧ ga m2 5 r = gs m 19 + 1 ∧ ga m2 6 r = gs m 19 + 1) ∧ cp2 r = 0) ∧ ((0 ≤ r ∧ r < mN m) ∧ ga m 2 r = 0) ∧ 1 ≤ w ∧ w ≤ 4
theorem adp_pg {m m2 : zH} {cp cp2 : Int → Int} {r w ix g : Int} (d : Adp m m2 cp cp2 r w ix g) : mN m2 = mN m ∧ (∀ i, pg m i → i ≠ r) ∧ ∀ i, pg m2 i ↔ i = r ∨ pg m i := by
  obtain ⟨⟨g1, g2, _, _⟩, a, ⟨⟨b2, _⟩, _⟩, ⟨⟨r0, r1⟩, r2⟩, w1, w4⟩ := d
  have eN : mN m2 = mN m := by unfold mN; rw [g1, g2]
  have ne : ∀ i, pg m i → i ≠ r := fun i h z => by
    have q := h.2.2
    unfold mProgd at q
    rw [z] at q
    omega
  refine ⟨eN, ne, fun i => ?_⟩
  unfold pg mProgd
  rw [eN]
  by_cases z : i = r
  · rw [z, b2]
    exact ⟨fun _ => Or.inl rfl, fun _ => ⟨r0, r1, w1, w4⟩⟩
  · rw [(a i z).1 2 (by decide) (by decide)]
    exact ⟨fun h => Or.inr h, fun h => h.resolve_left z⟩
theorem adp_new {m m2 : zH} {cp cp2 : Int → Int} {r w ix g T : Int} (d : Adp m m2 cp cp2 r w ix g) (dv : Dv m T) : mNewest m2 r ∧ (∀ i, pg m i → (mNewest m2 i ↔ mNewest m i)) ∧ (∀ i j, i ≠ r → j ≠ r → (mCopyOf m2 i j ↔ mCopyOf m i j)) ∧ ∀ i, pg m i → ¬ mCopyOf m2 i r ∧ ga m2 5 i ≤ gs m 19 := by
  obtain ⟨eN, ne, hp⟩ := adp_pg d
  obtain ⟨_, a, ⟨⟨b2, b3, b4, b5, b6⟩, _⟩, ⟨⟨r0, r1⟩, r2⟩, w1, w4⟩ := d
  have cpy : ∀ i j, i ≠ r → j ≠ r → (mCopyOf m2 i j ↔ mCopyOf m i j) := fun i j hi hj => by
    have fi := (a i hi).1
    have fj := (a j hj).1
    unfold mCopyOf
    rw [fi 2 (by decide) (by decide), fi 3 (by decide) (by decide), fi 4 (by decide) (by decide), fi 5 (by decide) (by decide), fj 2 (by decide) (by decide), fj 3 (by decide) (by decide), fj 4 (by decide) (by decide), fj 5 (by decide) (by decide)]
  have no : ∀ i, pg m i → ¬ mCopyOf m2 i r ∧ ga m2 5 i ≤ gs m 19 := fun i h => by
    have v := dv.1 i h
    have e := (a i (ne i h)).1 5 (by decide) (by decide)
    refine ⟨fun z => ?_, by rw [e]; omega⟩
    have q := z.2.2.2
    rw [b5, e] at q
    omega
  have isp : ∀ {i j : Int}, pg m2 j → 0 ≤ i → i < mN m → mCopyOf m2 i j → pg m2 i := fun {i j} h i0 i1 z => ⟨i0, by rw [eN]; exact i1, by
    have e := z.1
    have q := h.2.2
    unfold mProgd at q ⊢
    rw [e]
    exact q⟩
  refine ⟨fun u u0 u1 uc => ?_, fun i h => ⟨fun k u u0 u1 uc => ?_, fun k u u0 u1 uc => ?_⟩, cpy, no⟩
  · have up := isp ((hp r).mpr (Or.inl rfl)) u0 (by rw [← eN]; exact u1) uc
    rcases (hp u).mp up with z | z
    · rw [z]; exact Int.le_refl _
    · exact absurd uc (no u z).1
  · have ur : u ≠ r := fun z => by
      have e := uc.1
      have q := h.2.2
      unfold mProgd at q
      rw [z] at e
      omega
    have q := k u u0 (by rw [show gs m2 1 * gs m2 2 = mN m2 from rfl, eN]; exact u1) ((cpy u i ur (ne i h)).mpr uc)
    rw [(a u ur).1 6 (by decide) (by decide), (a i (ne i h)).1 6 (by decide) (by decide)] at q
    exact q
  · have up := isp ((hp i).mpr (Or.inr h)) u0 (by rw [← eN]; exact u1) uc
    rcases (hp u).mp up with z | z
    · rw [z] at uc
      exact absurd (copy_sy uc) (no i h).1
    · have ur := ne u z
      rw [(a u ur).1 6 (by decide) (by decide), (a i (ne i h)).1 6 (by decide) (by decide)]
      exact k u u0 (by rw [show gs m 1 * gs m 2 = mN m from rfl, ← eN]; exact u1) ((cpy u i ur (ne i h)).mp uc)
theorem adp_Nf {m m2 : zH} {cp cp2 : Int → Int} {r w ix g T : Int} (d : Adp m m2 cp cp2 r w ix g) (dv : Dv m T) (nf : Nf m cp) : Nf m2 cp2 := by
  obtain ⟨eN, ne, hp⟩ := adp_pg d
  obtain ⟨n1, n2, _, _⟩ := adp_new d dv
  obtain ⟨_, a, ⟨_, b7⟩, _⟩ := d
  refine ⟨fun i hi hc => ?_, fun i hi => ?_⟩
  · rcases (hp i).mp hi with z | z
    · rw [z]; exact n1
    · rw [(a i (ne i z)).2.2] at hc
      exact (n2 i z).mpr (nf.1 i z hc)
  · rcases (hp i).mp hi with z | z
    · rw [z]; exact Or.inl b7
    · rw [(a i (ne i z)).2.2]
      exact nf.2 i z
/-- the flash with the new page: what is told of its kind comes from the caller -/
theorem adp_Dv {m m2 : zH} {cp cp2 : Int → Int} {r w ix g T T2 : Int} (d : Adp m m2 cp cp2 r w ix g) (dv : Dv m T) (hT : T + 1 ≤ T2) (g39 : gs m2 39 = gs m 39) (g38 : gs m2 38 = gs m 38) (a9 : ∀ b, ga m2 9 b = ga m 9 b)
    (old : ∀ i, pg m i → ga m 2 i = 2 → ga m2 15 (ga m 4 i) = 2) (nw : (w = 1 → 0 ≤ g ∧ g ≤ gs m 38) ∧ (w = 2 → (1 ≤ g ∧ g ≤ gs m 38) ∧ ga m2 15 g = 2) ∧ (w = 3 ∨ w = 4 → 1 ≤ g ∧ g ≤ gs m 39)) : Dv m2 T2 := by
  obtain ⟨eN, ne, hp⟩ := adp_pg d
  obtain ⟨n1, n2, n3, n4⟩ := adp_new d dv
  obtain ⟨⟨h1, h2, h3, h19⟩, a, ⟨⟨b2, b3, b4, b5, b6⟩, _⟩, _, w1, w4⟩ := d
  obtain ⟨v1, v2, v3, v4, v5, v6⟩ := dv
  refine ⟨fun i hi => ?_, fun i j hi hj e => ?_, fun i j hi hj e => ?_, ?_, fun i hi => ?_, by rw [g38]; exact v6⟩
  · rw [h19]
    rcases (hp i).mp hi with z | z
    · rw [z, b5, b6]; omega
    · have f := (a i (ne i z)).1
      rw [f 5 (by decide) (by decide), f 6 (by decide) (by decide)]
      have := v1 i z
      omega
  · rcases (hp i).mp hi with z | z
    · rcases (hp j).mp hj with y | y
      · rw [z, y]
      · rw [z, b6, (a j (ne j y)).1 6 (by decide) (by decide)] at e
        have := v1 j y
        omega
    · rcases (hp j).mp hj with y | y
      · rw [y, b6, (a i (ne i z)).1 6 (by decide) (by decide)] at e
        have := v1 i z
        omega
      · rw [(a i (ne i z)).1 6 (by decide) (by decide), (a j (ne j y)).1 6 (by decide) (by decide)] at e
        exact v2 i j z y e
  · rcases (hp i).mp hi with z | z
    · rcases (hp j).mp hj with y | y
      · rw [z, y]
        exact ⟨copy_rf m2 r, fun _ => rfl, fun _ _ _ _ => rfl⟩
      · rw [z, b5] at e
        have := (n4 j y).2
        omega
    · rcases (hp j).mp hj with y | y
      · rw [y, b5] at e
        have := (n4 i z).2
        omega
      · have fi := a i (ne i z)
        have fj := a j (ne j y)
        rw [fi.1 5 (by decide) (by decide), fj.1 5 (by decide) (by decide)] at e
        obtain ⟨q1, q2, q3⟩ := v3 i j z y e
        refine ⟨(n3 i j (ne i z) (ne j y)).mpr q1, fun k => ?_, fun k l l0 l1 => ?_⟩
        · rw [fi.1 7 (by decide) (by decide), fj.1 7 (by decide) (by decide)]
          exact q2 (by rw [← fi.1 2 (by decide) (by decide)]; exact k)
        · rw [fi.2.1 l l0 l1, fj.2.1 l l0 l1]
          exact q3 (by rw [← fi.1 2 (by decide) (by decide)]; exact k) l l0 l1
  · rw [h19, g39, h1]
    refine ⟨by omega, by omega, fun b b0 b1 => ?_⟩
    rw [a9]
    have := v4.2.2 b b0 b1
    omega
  · rcases (hp i).mp hi with z | z
    · rw [z, b2, b4, g38, g39]
      exact nw
    · have f := (a i (ne i z)).1
      have q := v5 i z
      rw [f 2 (by decide) (by decide), f 4 (by decide) (by decide), g38, g39]
      exact ⟨q.1, fun k => ⟨(q.2.1 k).1, old i z k⟩, q.2.2⟩
theorem adp_Mx {m m2 : zH} {cp cp2 : Int → Int} {r w ix g : Int} (d : Adp m m2 cp cp2 r w ix g) {t p u : Int} (h : w ≠ 1 ∨ g ≠ t ∨ ix ≠ p) : Mx m2 t p u ↔ Mx m t p u := by
  obtain ⟨eN, ne, hp⟩ := adp_pg d
  obtain ⟨_, a, ⟨⟨b2, b3, b4, b5, b6⟩, _⟩, _⟩ := d
  have c : ∀ j, pg m2 j ∧ ga m2 2 j = 1 ∧ ga m2 4 j = t ∧ ga m2 3 j = p → pg m j ∧ j ≠ r := fun j ⟨j1, j2, j3, j4⟩ => by
    rcases (hp j).mp j1 with z | z
    · rw [z, b2] at j2
      rw [z, b4] at j3
      rw [z, b3] at j4
      omega
    · exact ⟨z, ne j z⟩
  constructor
  · rintro ⟨⟨j, j1, j2, j3, j4, j5⟩, k⟩
    obtain ⟨y1, y2⟩ := c j ⟨j1, j2, j3, j4⟩
    have f := (a j y2).1
    rw [f 2 (by decide) (by decide)] at j2
    rw [f 4 (by decide) (by decide)] at j3
    rw [f 3 (by decide) (by decide)] at j4
    rw [f 5 (by decide) (by decide)] at j5
    refine ⟨⟨j, y1, j2, j3, j4, j5⟩, fun o o1 o2 o3 o4 => ?_⟩
    have fo := (a o (ne o o1)).1
    have q := k o ((hp o).mpr (Or.inr o1)) (by rw [fo 2 (by decide) (by decide)]; exact o2) (by rw [fo 4 (by decide) (by decide)]; exact o3) (by rw [fo 3 (by decide) (by decide)]; exact o4)
    rw [fo 5 (by decide) (by decide)] at q
    exact q
  · rintro ⟨⟨j, j1, j2, j3, j4, j5⟩, k⟩
    have f := (a j (ne j j1)).1
    refine ⟨⟨j, (hp j).mpr (Or.inr j1), by rw [f 2 (by decide) (by decide)]; exact j2, by rw [f 4 (by decide) (by decide)]; exact j3, by rw [f 3 (by decide) (by decide)]; exact j4, by rw [f 5 (by decide) (by decide)]; exact j5⟩, fun o o1 o2 o3 o4 => ?_⟩
    obtain ⟨y1, y2⟩ := c o ⟨o1, o2, o3, o4⟩
    have fo := (a o y2).1
    rw [fo 5 (by decide) (by decide)]
    exact k o y1 (by rw [← fo 2 (by decide) (by decide)]; exact o2) (by rw [← fo 4 (by decide) (by decide)]; exact o3) (by rw [← fo 3 (by decide) (by decide)]; exact o4)
/-- what recovery will read, with the new page -/
theorem adp_Ev {m m2 : zH} {cp cp2 : Int → Int} {r w ix g : Int} (d : Adp m m2 cp cp2 r w ix g) (h : w = 1 → ∀ i, pg m i → ga m 2 i = 2 → ga m 4 i ≠ g) (le p c u : Int) :
    Ev m2 le p c u ↔ Ev m le p c u ∨ (le < c ∧ c = gs m 19 + 1 ∧ (w = 1 ∧ g = 0 ∧ p = ix ∧ u = c ∨ w = 2 ∧ Mx m g p u)) := by
  obtain ⟨eN, ne, hp⟩ := adp_pg d
  have mx : ∀ i, pg m i → ga m 2 i = 2 → (Mx m2 (ga m2 4 i) p u ↔ Mx m (ga m 4 i) p u) := fun i i1 i2 => by
    have e := (d.2.1 i (ne i i1)).1 4 (by decide) (by decide)
    rw [e]
    refine adp_Mx d ?_
    by_cases z : w = 1
    · exact Or.inr (Or.inl (fun y => h z i i1 i2 y.symm))
    · exact Or.inl z
  have mr : w = 2 → (Mx m2 g p u ↔ Mx m g p u) := fun z => adp_Mx d (Or.inl (by omega))
  obtain ⟨_, a, ⟨⟨b2, b3, b4, b5, b6⟩, _⟩, _⟩ := d
  unfold Ev
  constructor
  · rintro ⟨h0, ⟨i, i1, i2, i3, i4, i5, i6⟩ | ⟨i, i1, i2, i3, i4⟩⟩
    · rcases (hp i).mp i1 with z | z
      · rw [z] at i2 i3 i4 i5
        exact Or.inr ⟨h0, by omega, Or.inl ⟨by omega, by omega, by omega, i6⟩⟩
      · have f := (a i (ne i z)).1
        exact Or.inl ⟨h0, Or.inl ⟨i, z, by rw [← f 2 (by decide) (by decide)]; exact i2, by rw [← f 4 (by decide) (by decide)]; exact i3, by rw [← f 3 (by decide) (by decide)]; exact i4, by rw [← f 5 (by decide) (by decide)]; exact i5, i6⟩⟩
    · rcases (hp i).mp i1 with z | z
      · rw [z] at i2 i3 i4
        rw [b4] at i4
        have w2 : w = 2 := by omega
        exact Or.inr ⟨h0, by omega, Or.inr ⟨w2, (mr w2).mp i4⟩⟩
      · have f := (a i (ne i z)).1
        have k2 : ga m 2 i = 2 := by rw [← f 2 (by decide) (by decide)]; exact i2
        exact Or.inl ⟨h0, Or.inr ⟨i, z, k2, by rw [← f 5 (by decide) (by decide)]; exact i3, (mx i z k2).mp i4⟩⟩
  · rintro (⟨h0, ⟨i, i1, i2, i3, i4, i5, i6⟩ | ⟨i, i1, i2, i3, i4⟩⟩ | ⟨h0, hc, ⟨z1, z2, z3, z4⟩ | ⟨z1, z2⟩⟩)
    · have f := (a i (ne i i1)).1
      exact ⟨h0, Or.inl ⟨i, (hp i).mpr (Or.inr i1), by rw [f 2 (by decide) (by decide)]; exact i2, by rw [f 4 (by decide) (by decide)]; exact i3, by rw [f 3 (by decide) (by decide)]; exact i4, by rw [f 5 (by decide) (by decide)]; exact i5, i6⟩⟩
    · have f := (a i (ne i i1)).1
      exact ⟨h0, Or.inr ⟨i, (hp i).mpr (Or.inr i1), by rw [f 2 (by decide) (by decide)]; exact i2, by rw [f 5 (by decide) (by decide)]; exact i3, (mx i i1 i2).mpr i4⟩⟩
    · exact ⟨h0, Or.inl ⟨r, (hp r).mpr (Or.inl rfl), by omega, by omega, by omega, by omega, z4⟩⟩
    · exact ⟨h0, Or.inr ⟨r, (hp r).mpr (Or.inl rfl), by omega, by omega, by rw [b4]; exact (mr z1).mpr z2⟩⟩

