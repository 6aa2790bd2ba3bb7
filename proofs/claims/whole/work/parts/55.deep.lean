/-! what the flash keeps: versions, copies, what recovery will find -/
def pg (m : zH) (i : Int) : Prop := 0 ≤ i ∧ i < mN m ∧ mProgd m i
theorem fin_max {q : Int → Prop} (f : Int → Int) : ∀ n : Nat, (∃ i, q i) → (∀ i, q i → 0 ≤ i ∧ i < n) → ∃ i, q i ∧ ∀ j, q j → f j ≤ f i := by
  intro n
  induction n generalizing q with
  | zero =>
    rintro ⟨i, h⟩ r
    have := r i h
    omega
  | succ n ih =>
    intro h r
    by_cases c : ∃ i, q i ∧ i < n
    · obtain ⟨i, hi, hm⟩ := ih (q := fun i => q i ∧ i < n) c (fun i z => ⟨(r i z.1).1, z.2⟩)
      by_cases d : q (n : Int) ∧ f i < f n
      · refine ⟨n, d.1, fun j hj => ?_⟩
        by_cases e : j = n
        · rw [e]; exact Int.le_refl _
        · have := hm j ⟨hj, by have := r j hj; omega⟩
          omega
      · refine ⟨i, hi.1, fun j hj => ?_⟩
        by_cases e : j = n
        · rw [e] at hj ⊢
          rcases Int.le_total (f n) (f i) with z | z
          · exact z
          · exact Classical.byContradiction fun y => d ⟨hj, by omega⟩
        · exact hm j ⟨hj, by have := r j hj; omega⟩
    · obtain ⟨i, hi⟩ := h
      refine ⟨i, hi, fun j hj => ?_⟩
      have a : i = n := Classical.byContradiction fun z => c ⟨i, hi, by have := r i hi; omega⟩
      have b : j = n := Classical.byContradiction fun z => c ⟨j, hj, by have := r j hj; omega⟩
      rw [a, b]
      exact Int.le_refl _
theorem fin_maxN {m : zH} {q : Int → Prop} (f : Int → Int) (h : ∃ i, q i) (r : ∀ i, q i → 0 ≤ i ∧ i < mN m) : ∃ i, q i ∧ ∀ j, q j → f j ≤ f i :=
  fin_max f (mN m).toNat h (fun i z => by have := r i z; omega)
def Dv (m : zH) (T : Int) : Prop :=
  (∀ i, pg m i → 1 ≤ ga m 5 i ∧ ga m 5 i ≤ ga m 6 i ∧ ga m 6 i ≤ gs m 19) ∧ (∀ i j, pg m i → pg m j → ga m 6 i = ga m 6 j → i = j) ∧
  (∀ i j, pg m i → pg m j → ga m 5 i = ga m 5 j → mCopyOf m i j ∧ (ga m 2 i = 1 → ga m 7 i = ga m 7 j) ∧ (ga m 2 i = 3 → ∀ k, 0 ≤ k → k < 8 → ga m 8 (8 * i + k) = ga m 8 (8 * j + k))) ∧
  ((0 ≤ gs m 19 ∧ gs m 19 ≤ T) ∧ (0 ≤ gs m 39 ∧ gs m 39 ≤ T) ∧ (∀ b, 0 ≤ b → b < gs m 1 → 0 ≤ ga m 9 b ∧ ga m 9 b ≤ T)) ∧
  (∀ i, pg m i → (ga m 2 i = 1 → 0 ≤ ga m 4 i ∧ ga m 4 i ≤ gs m 38) ∧ (ga m 2 i = 2 → (1 ≤ ga m 4 i ∧ ga m 4 i ≤ gs m 38) ∧ ga m 15 (ga m 4 i) = 2) ∧ (ga m 2 i = 3 ∨ ga m 2 i = 4 → 1 ≤ ga m 4 i ∧ ga m 4 i ≤ gs m 39)) ∧ (0 ≤ gs m 38 ∧ gs m 38 ≤ 1000)
/-- what isn't marked as copied is newest -/
def Nf (m : zH) (cp : Int → Int) : Prop := (∀ i, pg m i → cp i = 0 → mNewest m i) ∧ ∀ i, pg m i → cp i = 0 ∨ cp i = 1
def Wv (m : zH) (p v : Int) : Prop := ga m 10 p = v ∨ 0 < ga m 11 p ∧ ga m 12 p = v ∨ mReadBy m p v
/-- the greatest version of a transaction's page -/
def Mx (m : zH) (t p w : Int) : Prop := (∃ j, pg m j ∧ ga m 2 j = 1 ∧ ga m 4 j = t ∧ ga m 3 j = p ∧ ga m 5 j = w) ∧ ∀ j, pg m j → ga m 2 j = 1 → ga m 4 j = t → ga m 3 j = p → ga m 5 j ≤ w
/-- at version c recovery gives page p the version w -/
def Ev (m : zH) (le p c w : Int) : Prop := le < c ∧ ((∃ i, pg m i ∧ ga m 2 i = 1 ∧ ga m 4 i = 0 ∧ ga m 3 i = p ∧ ga m 5 i = c ∧ w = c) ∨ ∃ i, pg m i ∧ ga m 2 i = 2 ∧ ga m 5 i = c ∧ Mx m (ga m 4 i) p w)
/-- recovery will find the checkpoint lt, its version le, and the versions cm -/
def EXb (m : zH) (lt le : Int) (cm base : Int → Int) : Prop :=
  (lt = 0 → le = 0 ∧ (∀ i, pg m i → ga m 2 i ≠ 4) ∧ ∀ p, base p = 0) ∧
  (lt ≠ 0 → (∃ i, pg m i ∧ ga m 2 i = 4 ∧ ga m 4 i = lt ∧ ga m 5 i = le) ∧ ∀ i, pg m i → ga m 2 i = 4 → ga m 5 i ≤ le) ∧
  (lt ≠ 0 → ∀ p, 0 ≤ p → p < gs m 3 → ∃ i, pg m i ∧ ga m 2 i = 3 ∧ ga m 4 i = lt ∧ ga m 3 i = p / 8) ∧
  (lt ≠ 0 → ∀ i, pg m i → ga m 2 i = 3 → ga m 4 i = lt → ∀ k, 0 ≤ k → k < 8 → ga m 8 (8 * i + k) = base (8 * ga m 3 i + k)) ∧
  (∀ p, 0 ≤ p → p < gs m 3 → (∃ c w, Ev m le p c w ∧ (∀ c2 w2, Ev m le p c2 w2 → c2 ≤ c) ∧ cm p = w) ∨ ((∀ c w, ¬ Ev m le p c w) ∧ cm p = base p)) ∧ ∀ p, gs m 3 ≤ p → base p = 0
def EX (m : zH) (lt le : Int) (cm : Int → Int) : Prop := ∃ base, EXb m lt le cm base
def BW (m : zH) (lt le : Int) (cm : Int → Int) (i : Int) : Prop := ga m 2 i = 1 ∧ cm (ga m 3 i) = ga m 5 i ∨ ga m 2 i = 2 ∧ le < ga m 5 i ∨ ga m 2 i = 3 ∧ ga m 4 i = lt ∨ ga m 2 i = 4 ∧ ga m 4 i = lt
/-- with power: what the tables and the flash keep to; n parts of the checkpoint in the making stand -/
def On (m : zH) (cp : Int → Int) (n : Int) : Prop :=
  (∀ p, 0 ≤ p → p < 64 → 0 ≤ ga m 10 p ∧ (ga m 11 p = 0 ∧ ga m 12 p = 0 ∨ (1 ≤ ga m 11 p ∧ ga m 11 p ≤ gs m 38) ∧ ga m 15 (ga m 11 p) = 1 ∧ 1 ≤ ga m 12 p) ∧ (gs m 3 ≤ p → ga m 10 p = 0 ∧ ga m 11 p = 0)) ∧
  (∀ i, pg m i → ga m 2 i = 1 → 1 ≤ ga m 4 i → ga m 15 (ga m 4 i) = 1 → ga m 11 (ga m 3 i) = ga m 4 i ∧ ga m 5 i ≤ ga m 12 (ga m 3 i)) ∧
  ((0 ≤ gs m 33 ∧ gs m 33 ≤ gs m 39) ∧ (0 ≤ gs m 34 ∧ gs m 34 ≤ gs m 19) ∧ (gs m 35 = 0 ∨ gs m 35 = gs m 39 ∧ gs m 33 < gs m 39)) ∧
  (∀ i, pg m i → cp i = 1 → mNewest m i → ¬ mWanted m i) ∧
  (∀ p v, 0 ≤ p → p < gs m 3 → v ≠ 0 → Wv m p v → ∃ i, pg m i ∧ ga m 2 i = 1 ∧ ga m 3 i = p ∧ ga m 5 i = v ∧ (0 < ga m 11 p → v = ga m 12 p → ga m 4 i = ga m 11 p)) ∧
  EX m (gs m 33) (gs m 34) (ga m 10) ∧
  (gs m 35 ≠ 0 → (∀ i, pg m i → ga m 2 i = 3 → ga m 4 i = gs m 35 → ∀ k, 0 ≤ k → k < 8 → ga m 8 (8 * i + k) = ga m 10 (8 * ga m 3 i + k)) ∧ (∀ q, 0 ≤ q → q < n → ∃ i, pg m i ∧ ga m 2 i = 3 ∧ ga m 4 i = gs m 35 ∧ ga m 3 i = q) ∧ ∀ i, pg m i → ga m 2 i = 4 → ga m 4 i ≠ gs m 35)
/-- without power: the tables are empty, and there is a state that recovery will find -/
def Off (m : zH) (cp : Int → Int) : Prop := ∃ (lt le : Int) (cm : Int → Int), EX m lt le cm ∧ (∀ i, pg m i → cp i = 1 → mNewest m i → ¬ BW m lt le cm i) ∧ (∀ p, 0 ≤ p → p < gs m 3 → cm p ≠ 0 → ∃ i, pg m i ∧ ga m 2 i = 1 ∧ ga m 3 i = p ∧ ga m 5 i = cm p) ∧ (∀ p, 0 ≤ p → p < 64 → 0 ≤ cm p ∧ (gs m 3 ≤ p → cm p = 0)) ∧ ((0 ≤ lt ∧ lt ≤ gs m 39) ∧ 0 ≤ le ∧ le ≤ gs m 19)
theorem copy_rf (m : zH) (i : Int) : mCopyOf m i i := ⟨rfl, rfl, rfl, rfl⟩
theorem copy_sy {m : zH} {i j : Int} (c : mCopyOf m i j) : mCopyOf m j i := ⟨c.1.symm, c.2.1.symm, c.2.2.1.symm, c.2.2.2.symm⟩
theorem copy_tr {m : zH} {i j k : Int} (c : mCopyOf m i j) (d : mCopyOf m j k) : mCopyOf m i k := ⟨c.1.trans d.1, c.2.1.trans d.2.1, c.2.2.1.trans d.2.2.1, c.2.2.2.trans d.2.2.2⟩
theorem want_cp {m : zH} {i j : Int} (c : mCopyOf m i j) (w : mWanted m j) : mWanted m i := by
  obtain ⟨c1, c2, c3, c4⟩ := c
  unfold mWanted mWantedData at w ⊢
  rw [c1, c2, c3, c4]
  exact w
/-- of each page that holds something there is a newest copy -/
theorem newest_ex {m : zH} {i : Int} (h : pg m i) : ∃ j, pg m j ∧ mCopyOf m j i ∧ mNewest m j := by
  obtain ⟨j, ⟨j1, j2⟩, jm⟩ := fin_maxN (m := m) (q := fun j => pg m j ∧ mCopyOf m j i) (fun j => ga m 6 j) ⟨i, h, copy_rf m i⟩ (fun k z => ⟨z.1.1, z.1.2.1⟩)
  refine ⟨j, j1, j2, fun o o0 o1 oc => jm o ⟨⟨o0, o1, ?_⟩, copy_tr oc j2⟩⟩
  have e := oc.1
  have p := j1.2.2
  unfold mProgd at p ⊢
  rw [e]
  exact p
/-- with power, a wanted page's newest copy is good -/
theorem good_ex {m : zH} {i : Int} (on : gs m 26 ≠ 0) (h : pg m i) (w : mWanted m i) : ∃ j, pg m j ∧ mCopyOf m j i ∧ mGood m j := by
  obtain ⟨j, j1, j2, j3⟩ := newest_ex h
  exact ⟨j, j1, j2, on, want_cp j2 w, j3⟩
/-- pages go, none of them good; all else stays -/
def Del (m m2 : zH) (cp cp2 : Int → Int) : Prop :=
  (∀ k, k = 1 ∨ k = 2 ∨ k = 3 ∨ k = 19 ∨ k = 33 ∨ k = 34 ∨ k = 35 ∨ k = 38 ∨ k = 39 → gs m2 k = gs m k) ∧ (∀ c i, c = 10 ∨ c = 11 ∨ c = 12 ∨ c = 13 ∨ c = 14 ∨ c = 15 → ga m2 c i = ga m c i) ∧
  (∀ i, pg m2 i → pg m i ∧ (∀ c, 2 ≤ c → c ≤ 7 → ga m2 c i = ga m c i) ∧ (∀ k, 0 ≤ k → k < 8 → ga m2 8 (8 * i + k) = ga m 8 (8 * i + k)) ∧ cp2 i = cp i) ∧ ∀ i, pg m i → ¬ pg m2 i → ¬ mGood m i
theorem Wv_c {m m2 : zH} (a : ∀ c i, c = 10 ∨ c = 11 ∨ c = 12 ∨ c = 13 ∨ c = 14 ∨ c = 15 → ga m2 c i = ga m c i) (p v : Int) : Wv m2 p v ↔ Wv m p v := by
  unfold Wv mReadBy
  rw [a 10 p (by decide), a 11 p (by decide), a 12 p (by decide)]
  simp only [a 14 _ (show 14 = 10 ∨ 14 = 11 ∨ 14 = 12 ∨ 14 = 13 ∨ 14 = 14 ∨ 14 = 15 by decide), a 13 _ (show 13 = 10 ∨ 13 = 11 ∨ 13 = 12 ∨ 13 = 13 ∨ 13 = 14 ∨ 13 = 15 by decide)]
theorem want_c {m m2 : zH} {i : Int} (a : ∀ c i, c = 10 ∨ c = 11 ∨ c = 12 ∨ c = 13 ∨ c = 14 ∨ c = 15 → ga m2 c i = ga m c i) (g : gs m2 33 = gs m 33 ∧ gs m2 34 = gs m 34 ∧ gs m2 35 = gs m 35) (f : ∀ c, 2 ≤ c → c ≤ 7 → ga m2 c i = ga m c i) : mWanted m2 i ↔ mWanted m i := by
  have w := Wv_c a (ga m 3 i) (ga m 5 i)
  have e (z : zH) (p v : Int) : (v = ga z 10 p ∨ 0 < ga z 11 p ∧ v = ga z 12 p ∨ mReadBy z p v) ↔ Wv z p v := by
    unfold Wv
    constructor
    · rintro (h | h | h)
      · exact Or.inl h.symm
      · exact Or.inr (Or.inl ⟨h.1, h.2.symm⟩)
      · exact Or.inr (Or.inr h)
    · rintro (h | h | h)
      · exact Or.inl h.symm
      · exact Or.inr (Or.inl ⟨h.1, h.2.symm⟩)
      · exact Or.inr (Or.inr h)
  unfold mWanted mWantedData
  rw [f 2 (by decide) (by decide), f 3 (by decide) (by decide), f 4 (by decide) (by decide), f 5 (by decide) (by decide), g.1, g.2.1, g.2.2, e m2, e m, w]
theorem Mx_ex {m : zH} {t p : Int} (h : ∃ j, pg m j ∧ ga m 2 j = 1 ∧ ga m 4 j = t ∧ ga m 3 j = p) : ∃ w, Mx m t p w := by
  obtain ⟨j, ⟨j1, j2, j3, j4⟩, jm⟩ := fin_maxN (m := m) (q := fun j => pg m j ∧ ga m 2 j = 1 ∧ ga m 4 j = t ∧ ga m 3 j = p) (fun j => ga m 5 j) h (fun k z => ⟨z.1.1, z.1.2.1⟩)
  exact ⟨ga m 5 j, ⟨j, j1, j2, j3, j4, rfl⟩, fun k k1 k2 k3 k4 => jm k ⟨k1, k2, k3, k4⟩⟩
/-- the pages of one flash are pages of another, and what is to be found there stands in it -/
theorem EX_sub {m m2 : zH} {lt le : Int} {cm : Int → Int} (x : EX m lt le cm) (g3 : gs m2 3 = gs m 3) (sub : ∀ i, pg m2 i → ∃ j, pg m j ∧ (∀ c, 2 ≤ c → c ≤ 5 → ga m2 c i = ga m c j) ∧ (ga m 2 j = 3 → ∀ k, 0 ≤ k → k < 8 → ga m2 8 (8 * i + k) = ga m 8 (8 * j + k))) (sup : ∀ j, pg m j → BW m lt le cm j → ∃ i, pg m2 i ∧ ∀ c, 2 ≤ c → c ≤ 5 → ga m2 c i = ga m c j) : EX m2 lt le cm := by
  obtain ⟨base, e1, e2, e3, e4, e5, e6⟩ := x
  have c2 : ∀ {i j : Int}, (∀ c, 2 ≤ c → c ≤ 5 → ga m2 c i = ga m c j) → ga m2 2 i = ga m 2 j ∧ ga m2 3 i = ga m 3 j ∧ ga m2 4 i = ga m 4 j ∧ ga m2 5 i = ga m 5 j := fun f => ⟨f 2 (by decide) (by decide), f 3 (by decide) (by decide), f 4 (by decide) (by decide), f 5 (by decide) (by decide)⟩
  -- an event there is an event here, maybe of another version
  have back : ∀ p c w, Ev m2 le p c w → ∃ w2, Ev m le p c w2 := by
    rintro p c w ⟨h0, ⟨i, i1, i2, i3, i4, i5, i6⟩ | ⟨i, i1, i2, i3, ⟨j, j1, j2, j3, j4, j5⟩, _⟩⟩
    · obtain ⟨k, k1, k2, _⟩ := sub i i1
      obtain ⟨f2, f3, f4, f5⟩ := c2 k2
      exact ⟨c, h0, Or.inl ⟨k, k1, by rw [← f2]; exact i2, by rw [← f4]; exact i3, by rw [← f3]; exact i4, by rw [← f5]; exact i5, rfl⟩⟩
    · obtain ⟨k, k1, k2, _⟩ := sub i i1
      obtain ⟨f2, f3, f4, f5⟩ := c2 k2
      obtain ⟨q, q1, q2, _⟩ := sub j j1
      obtain ⟨g2, g3, g4, g5⟩ := c2 q2
      obtain ⟨w2, hw⟩ := Mx_ex (m := m) (t := ga m 4 k) (p := p) ⟨q, q1, by rw [← g2]; exact j2, by rw [← g4, j3]; exact f4, by rw [← g3]; exact j4⟩
      exact ⟨w2, h0, Or.inr ⟨k, k1, by rw [← f2]; exact i2, by rw [← f5]; exact i3, hw⟩⟩
  refine ⟨base, fun z => ⟨(e1 z).1, fun i hi => ?_, (e1 z).2.2⟩, fun z => ⟨?_, fun i hi h4 => ?_⟩, fun z p p0 p1 => ?_, fun z i hi h3 h4 k k0 k1 => ?_, fun p p0 p1 => ?_, by rw [g3]; exact e6⟩
  · obtain ⟨j, j1, j2, _⟩ := sub i hi
    rw [(c2 j2).1]
    exact (e1 z).2.1 j j1
  · obtain ⟨i, i1, i2, i3, i4⟩ := (e2 z).1
    obtain ⟨j, j1, j2⟩ := sup i i1 (Or.inr (Or.inr (Or.inr ⟨i2, i3⟩)))
    obtain ⟨f2, f3, f4, f5⟩ := c2 j2
    exact ⟨j, j1, by rw [f2]; exact i2, by rw [f4]; exact i3, by rw [f5]; exact i4⟩
  · obtain ⟨j, j1, j2, _⟩ := sub i hi
    obtain ⟨f2, f3, f4, f5⟩ := c2 j2
    rw [f5]
    exact (e2 z).2 j j1 (by rw [← f2]; exact h4)
  · obtain ⟨i, i1, i2, i3, i4⟩ := e3 z p p0 (by rw [← g3]; exact p1)
    obtain ⟨j, j1, j2⟩ := sup i i1 (Or.inr (Or.inr (Or.inl ⟨i2, i3⟩)))
    obtain ⟨f2, f3, f4, f5⟩ := c2 j2
    exact ⟨j, j1, by rw [f2]; exact i2, by rw [f4]; exact i3, by rw [f3]; exact i4⟩
  · obtain ⟨j, j1, j2, j3⟩ := sub i hi
    obtain ⟨f2, f3, f4, f5⟩ := c2 j2
    rw [j3 (by rw [← f2]; exact h3) k k0 k1, f3]
    exact e4 z j j1 (by rw [← f2]; exact h3) (by rw [← f4]; exact h4) k k0 k1
  · rw [g3] at p1
    rcases e5 p p0 p1 with ⟨c, w, ev, last, hw⟩ | ⟨none, hb⟩
    · refine Or.inl ⟨c, w, ?_, fun c3 w3 h3 => ?_, hw⟩
      · obtain ⟨h0, ⟨i, i1, i2, i3, i4, i5, i6⟩ | ⟨i, i1, i2, i3, ⟨j, j1, j2, j3, j4, j5⟩, mx⟩⟩ := ev
        · obtain ⟨k, k1, k2⟩ := sup i i1 (Or.inl ⟨i2, by rw [i4, hw, i5]; exact i6⟩)
          obtain ⟨f2, f3, f4, f5⟩ := c2 k2
          exact ⟨h0, Or.inl ⟨k, k1, by rw [f2]; exact i2, by rw [f4]; exact i3, by rw [f3]; exact i4, by rw [f5]; exact i5, i6⟩⟩
        · obtain ⟨k, k1, k2⟩ := sup i i1 (Or.inr (Or.inl ⟨i2, by omega⟩))
          obtain ⟨f2, f3, f4, f5⟩ := c2 k2
          obtain ⟨q, q1, q2⟩ := sup j j1 (Or.inl ⟨j2, by rw [j4, hw]; exact j5.symm⟩)
          obtain ⟨g2, g3, g4, g5⟩ := c2 q2
          refine ⟨h0, Or.inr ⟨k, k1, by rw [f2]; exact i2, by rw [f5]; exact i3, ⟨q, q1, by rw [g2]; exact j2, by rw [g4, f4]; exact j3, by rw [g3]; exact j4, by rw [g5]; exact j5⟩, fun o o1 o2 o3 o4 => ?_⟩⟩
          obtain ⟨r, r1, r2, _⟩ := sub o o1
          obtain ⟨s2, s3, s4, s5⟩ := c2 r2
          rw [s5]
          exact mx r r1 (by rw [← s2]; exact o2) (by rw [← s4, o3]; exact f4) (by rw [← s3]; exact o4)
      · obtain ⟨w4, h4⟩ := back p c3 w3 h3
        exact last c3 w4 h4
    · refine Or.inr ⟨fun c w h => ?_, hb⟩
      obtain ⟨w2, h2⟩ := back p c w h
      exact none c w2 h2
theorem BW_w {m : zH} {i : Int} (b : BW m (gs m 33) (gs m 34) (ga m 10) i) : mWanted m i := by
  unfold mWanted mWantedData
  rcases b with b | b | b | b
  · exact Or.inl ⟨b.1, Or.inl b.2.symm⟩
  · exact Or.inr (Or.inl b)
  · exact Or.inr (Or.inr (Or.inl ⟨b.1, Or.inl b.2⟩))
  · exact Or.inr (Or.inr (Or.inr b))
theorem del_keep {m m2 : zH} {cp cp2 : Int → Int} (d : Del m m2 cp cp2) (on : gs m 26 ≠ 0) {i : Int} (h : pg m i) (w : mWanted m i) : ∃ j, pg m2 j ∧ pg m j ∧ mCopyOf m j i := by
  obtain ⟨j, j1, j2, j3⟩ := good_ex on h w
  exact ⟨j, Classical.byContradiction fun z => d.2.2.2 j j1 z j3, j1, j2⟩
theorem DEL {m m2 : zH} {cp cp2 : Int → Int} {n T T2 : Int} (d : Del m m2 cp cp2) (on : gs m 26 ≠ 0) (dv : Dv m T) (nf : Nf m cp) (o : On m cp n) (hT : T ≤ T2) (w9 : ∀ b, 0 ≤ b → b < gs m 1 → 0 ≤ ga m2 9 b ∧ ga m2 9 b ≤ T2) : Dv m2 T2 ∧ Nf m2 cp2 ∧ On m2 cp2 n := by
  have d0 := d
  obtain ⟨g, a, p, r⟩ := d
  obtain ⟨v1, v2, v3, v4, v5, v6⟩ := dv
  obtain ⟨o1, o2, o3, o4, o5, o6, o7⟩ := o
  have g1 := g 1 (by decide)
  have g2 := g 2 (by decide)
  have g3 := g 3 (by decide)
  have g19 := g 19 (by decide)
  have g33 := g 33 (by decide)
  have g34 := g 34 (by decide)
  have g35 := g 35 (by decide)
  have g38 := g 38 (by decide)
  have g39 := g 39 (by decide)
  have cpy {i j : Int} (hi : pg m2 i) (hj : pg m2 j) : mCopyOf m2 i j ↔ mCopyOf m i j := by
    have fi := (p i hi).2.1
    have fj := (p j hj).2.1
    unfold mCopyOf
    rw [fi 2 (by decide) (by decide), fi 3 (by decide) (by decide), fi 4 (by decide) (by decide), fi 5 (by decide) (by decide), fj 2 (by decide) (by decide), fj 3 (by decide) (by decide), fj 4 (by decide) (by decide), fj 5 (by decide) (by decide)]
  have wnt {i : Int} (hi : pg m2 i) : mWanted m2 i ↔ mWanted m i := want_c a ⟨g33, g34, g35⟩ (p i hi).2.1
  have eN : mN m2 = mN m := by unfold mN; rw [g1, g2]
  refine ⟨⟨fun i hi => ?_, fun i j hi hj e => ?_, fun i j hi hj e => ?_, ⟨by rw [g19]; omega, by rw [g39]; omega, by rw [g1]; exact w9⟩, fun i hi => ?_, by rw [g38]; exact v6⟩, ⟨fun i hi hc => ?_, fun i hi => ?_⟩, ?_, fun i hi h1 h2 h3 => ?_, by rw [g33, g34, g35, g39, g19]; exact o3, fun i hi hc hn hw => ?_, fun q v q0 q1 v0 hw => ?_, ?_, fun z => ⟨fun i hi h1 h2 k k0 k1 => ?_, fun q q0 q1 => ?_, fun i hi h1 => ?_⟩⟩
  · obtain ⟨h, f, _, _⟩ := p i hi
    rw [f 5 (by decide) (by decide), f 6 (by decide) (by decide), g19]
    exact v1 i h
  · obtain ⟨h, f, _, _⟩ := p i hi
    obtain ⟨h2, f2, _, _⟩ := p j hj
    rw [f 6 (by decide) (by decide), f2 6 (by decide) (by decide)] at e
    exact v2 i j h h2 e
  · obtain ⟨h, f, b, _⟩ := p i hi
    obtain ⟨h2, f2, b2, _⟩ := p j hj
    rw [f 5 (by decide) (by decide), f2 5 (by decide) (by decide)] at e
    obtain ⟨q1, q2, q3⟩ := v3 i j h h2 e
    refine ⟨(cpy hi hj).mpr q1, fun z => ?_, fun z k k0 k1 => ?_⟩
    · rw [f 7 (by decide) (by decide), f2 7 (by decide) (by decide)]
      exact q2 (by rw [← f 2 (by decide) (by decide)]; exact z)
    · rw [b k k0 k1, b2 k k0 k1]
      exact q3 (by rw [← f 2 (by decide) (by decide)]; exact z) k k0 k1
  · obtain ⟨h, f, _, _⟩ := p i hi
    rw [f 2 (by decide) (by decide), f 4 (by decide) (by decide), g38, g39, a 15 _ (by decide)]
    exact v5 i h
  · obtain ⟨h, f, _, c⟩ := p i hi
    have nw := nf.1 i h (by rw [← c]; exact hc)
    intro u u0 u1 uc
    have up : pg m2 u := ⟨u0, u1, by have e := uc.1; have q := hi.2.2; unfold mProgd at q ⊢; rw [e]; exact q⟩
    obtain ⟨h3, f3, _, _⟩ := p u up
    rw [f 6 (by decide) (by decide), f3 6 (by decide) (by decide)]
    exact nw u u0 h3.2.1 ((cpy up hi).mp uc)
  · obtain ⟨h, f, _, c⟩ := p i hi
    rw [c]
    exact nf.2 i h
  · intro q q0 q1
    rw [a 10 q (by decide), a 11 q (by decide), a 12 q (by decide), a 15 _ (by decide), g38, g3]
    exact o1 q q0 q1
  · obtain ⟨h, f, _, _⟩ := p i hi
    rw [f 2 (by decide) (by decide)] at h1
    rw [f 4 (by decide) (by decide)] at h2 h3
    rw [a 15 _ (by decide)] at h3
    rw [f 3 (by decide) (by decide), f 4 (by decide) (by decide), f 5 (by decide) (by decide), a 11 _ (by decide), a 12 _ (by decide)]
    exact o2 i h h1 h2 h3
  · obtain ⟨h, f, _, c⟩ := p i hi
    rw [c] at hc
    have hw1 := (wnt hi).mp hw
    by_cases z : mNewest m i
    · exact o4 i h hc z hw1
    · obtain ⟨j, j1, j2, j3⟩ := del_keep d0 on h hw1
      obtain ⟨k, k1, k2, k3⟩ := newest_ex h
      have kg : mGood m k := ⟨on, want_cp k2 hw1, k3⟩
      have kp : pg m2 k := Classical.byContradiction fun y => r k k1 y kg
      obtain ⟨_, f3, _, _⟩ := p k kp
      have le := hn k kp.1 kp.2.1 ((cpy kp hi).mpr k2)
      rw [f3 6 (by decide) (by decide), f 6 (by decide) (by decide)] at le
      have le2 := k3 i h.1 h.2.1 (copy_sy k2)
      have e := v2 k i k1 h (by omega)
      rw [e] at k3
      exact z k3
  · rw [Wv_c a] at hw
    rw [g3] at q1
    obtain ⟨i, i1, i2, i3, i4, i5⟩ := o5 q v q0 q1 v0 hw
    have iw : mWanted m i := by
      unfold mWanted mWantedData
      left
      refine ⟨i2, ?_⟩
      rw [i3, i4]
      rcases hw with y | y | y
      · exact Or.inl y.symm
      · exact Or.inr (Or.inl ⟨y.1, y.2.symm⟩)
      · exact Or.inr (Or.inr y)
    obtain ⟨j, j1, j2, j3⟩ := del_keep d0 on i1 iw
    have f := (p j j1).2.1
    exact ⟨j, j1, by rw [f 2 (by decide) (by decide), j3.1]; exact i2, by rw [f 3 (by decide) (by decide), j3.2.2.1]; exact i3, by rw [f 5 (by decide) (by decide), j3.2.2.2]; exact i4, by rw [a 11 q (by decide), a 12 q (by decide), f 4 (by decide) (by decide), j3.2.1]; exact i5⟩
  · rw [g33, g34]
    have ex : EX m2 (gs m 33) (gs m 34) (ga m 10) := by
      refine EX_sub o6 g3 (fun i hi => ?_) (fun j hj b => ?_)
      · obtain ⟨h, f, b, _⟩ := p i hi
        exact ⟨i, h, fun c c1 c2 => f c c1 (by omega), fun _ => b⟩
      · obtain ⟨k, k1, k2, k3⟩ := del_keep d0 on hj (BW_w b)
        have f := (p k k1).2.1
        refine ⟨k, k1, fun c c1 c2 => ?_⟩
        rw [f c c1 (by omega)]
        rcases (show c = 2 ∨ c = 3 ∨ c = 4 ∨ c = 5 by omega) with e | e | e | e
        · rw [e]; exact k3.1
        · rw [e]; exact k3.2.2.1
        · rw [e]; exact k3.2.1
        · rw [e]; exact k3.2.2.2
    rw [show ga m2 10 = ga m 10 from funext fun i => a 10 i (by decide)]
    exact ex
  · obtain ⟨h, f, b, _⟩ := p i hi
    rw [b k k0 k1, a 10 _ (by decide), f 3 (by decide) (by decide)]
    exact (o7 (by rw [← g35]; exact z)).1 i h (by rw [← f 2 (by decide) (by decide)]; exact h1) (by rw [← f 4 (by decide) (by decide), ← g35]; exact h2) k k0 k1
  · obtain ⟨i, i1, i2, i3, i4⟩ := (o7 (by rw [← g35]; exact z)).2.1 q q0 q1
    have iw : mWanted m i := by
      unfold mWanted
      exact Or.inr (Or.inr (Or.inl ⟨i2, Or.inr i3⟩))
    obtain ⟨j, j1, j2, j3⟩ := del_keep d0 on i1 iw
    have f := (p j j1).2.1
    exact ⟨j, j1, by rw [f 2 (by decide) (by decide), j3.1]; exact i2, by rw [f 4 (by decide) (by decide), j3.2.1, g35]; exact i3, by rw [f 3 (by decide) (by decide), j3.2.2.1]; exact i4⟩
  · obtain ⟨h, f, b, _⟩ := p i hi
    rw [f 4 (by decide) (by decide), g35]
    exact (o7 (by rw [← g35]; exact z)).2.2 i h (by rw [← f 2 (by decide) (by decide)]; exact h1)

