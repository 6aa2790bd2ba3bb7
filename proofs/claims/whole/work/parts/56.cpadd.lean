/-! a copy of a good page is added -/
def pi (r f i : Int) : Int := if i = r then f else i
theorem pi_r (r f : Int) : pi r f r = f := if_pos rfl
theorem pi_n {r i : Int} (f : Int) (h : i ≠ r) : pi r f i = i := if_neg h
def Cpa (m m2 : zH) (cp cp2 : Int → Int) (r f : Int) : Prop :=
  (∀ k, k = 1 ∨ k = 2 ∨ k = 3 ∨ k = 26 ∨ k = 33 ∨ k = 34 ∨ k = 35 ∨ k = 38 ∨ k = 39 → gs m2 k = gs m k) ∧ gs m2 19 = gs m 19 + 1 ∧ (∀ c i, 9 ≤ c → c ≤ 15 → ga m2 c i = ga m c i) ∧
  (∀ i, 0 ≤ i → i < mN m → ga m2 6 i = (if i = r then gs m 19 + 1 else ga m 6 i) ∧ (∀ c, 2 ≤ c → c ≤ 5 → ga m2 c i = ga m c (pi r f i)) ∧ (ga m 2 (pi r f i) = 1 → ga m2 7 i = ga m 7 (pi r f i)) ∧ (ga m 2 (pi r f i) = 3 → ∀ k, 0 ≤ k → k < 8 → ga m2 8 (8 * i + k) = ga m 8 (8 * pi r f i + k)) ∧ cp2 i = if i = f then 1 else if i = r then 0 else cp i) ∧
  ((0 ≤ r ∧ r < mN m) ∧ ga m 2 r = 0) ∧ pg m f ∧ mGood m f
theorem cpa_base {m m2 : zH} {cp cp2 : Int → Int} {r f : Int} (d : Cpa m m2 cp cp2 r f) :
    mN m2 = mN m ∧ f ≠ r ∧ (∀ i, pg m2 i ↔ (0 ≤ i ∧ i < mN m) ∧ pg m (pi r f i)) ∧ (∀ i, pg m i → i ≠ r) ∧ (∀ i j, 0 ≤ i → i < mN m → 0 ≤ j → j < mN m → (mCopyOf m2 i j ↔ mCopyOf m (pi r f i) (pi r f j))) ∧ (∀ i, 0 ≤ i → i < mN m → (mWanted m2 i ↔ mWanted m (pi r f i))) := by
  obtain ⟨g, g19, a, p, ⟨r0, r2⟩, fp, fg⟩ := d
  have eN : mN m2 = mN m := by unfold mN; rw [g 1 (by decide), g 2 (by decide)]
  have f2 := fp.2.2
  unfold mProgd at f2
  have fr : f ≠ r := fun z => by rw [z] at f2; omega
  refine ⟨eN, fr, fun i => ?_, fun i hi z => ?_, fun i j i0 i1 j0 j1 => ?_, fun i i0 i1 => ?_⟩
  · unfold pg
    rw [eN]
    constructor
    · rintro ⟨i0, i1, q⟩
      have e := (p i i0 i1).2.1 2 (by decide) (by decide)
      unfold mProgd at q ⊢
      rw [e] at q
      refine ⟨⟨i0, i1⟩, ?_, ?_, q⟩
      · unfold pi; split
        · exact fp.1
        · exact i0
      · unfold pi; split
        · exact fp.2.1
        · exact i1
    · rintro ⟨⟨i0, i1⟩, _, _, q⟩
      have e := (p i i0 i1).2.1 2 (by decide) (by decide)
      unfold mProgd at q ⊢
      rw [e]
      exact ⟨i0, i1, q⟩
  · have q := hi.2.2
    unfold mProgd at q
    rw [z] at q
    omega
  · have fi := (p i i0 i1).2.1
    have fj := (p j j0 j1).2.1
    unfold mCopyOf
    rw [fi 2 (by decide) (by decide), fi 3 (by decide) (by decide), fi 4 (by decide) (by decide), fi 5 (by decide) (by decide), fj 2 (by decide) (by decide), fj 3 (by decide) (by decide), fj 4 (by decide) (by decide), fj 5 (by decide) (by decide)]
  · have fi := (p i i0 i1).2.1
    unfold mWanted mWantedData mReadBy
    rw [fi 2 (by decide) (by decide), fi 3 (by decide) (by decide), fi 4 (by decide) (by decide), fi 5 (by decide) (by decide), a 10 _ (by decide) (by decide), a 11 _ (by decide) (by decide), a 12 _ (by decide) (by decide), g 33 (by decide), g 34 (by decide), g 35 (by decide)]
    simp only [a 13 _ (by decide) (by decide), a 14 _ (by decide) (by decide)]
theorem CPA {m m2 : zH} {cp cp2 : Int → Int} {r f n T T2 : Int} (d : Cpa m m2 cp cp2 r f) (dv : Dv m T) (nf : Nf m cp) (o : On m cp n) (hT : T + 1 ≤ T2) : (Dv m2 T2 ∧ Nf m2 cp2 ∧ On m2 cp2 n) ∧ ∀ i, 0 ≤ i → i < mN m → (mGood m2 i ↔ i = r ∨ mGood m i ∧ i ≠ f) := by
  obtain ⟨eN, fr, hp, pr, cpy, wnt⟩ := cpa_base d
  obtain ⟨g, g19, a, p, ⟨⟨r0, r1⟩, r2⟩, fp, fg⟩ := d
  obtain ⟨v1, v2, v3, v4, v5, v6⟩ := dv
  obtain ⟨o1, o2, o3, o4, o5, o6, o7⟩ := o
  have g3 := g 3 (by decide)
  have g26 := g 26 (by decide)
  have g33 := g 33 (by decide)
  have g34 := g 34 (by decide)
  have g35 := g 35 (by decide)
  have g38 := g 38 (by decide)
  have g39 := g 39 (by decide)
  have c6 {i : Int} (i0 : 0 ≤ i) (i1 : i < mN m) := (p i i0 i1).1
  have cc {i : Int} (i0 : 0 ≤ i) (i1 : i < mN m) := (p i i0 i1).2.1
  have cq {i : Int} (i0 : 0 ≤ i) (i1 : i < mN m) := (p i i0 i1).2.2.2.2
  have sub : ∀ i, pg m2 i → pg m (pi r f i) := fun i h => ((hp i).mp h).2
  have rng : ∀ i, pg m2 i → 0 ≤ i ∧ i < mN m := fun i h => ((hp i).mp h).1
  have sup : ∀ i, pg m i → pg m2 i := fun i h => (hp i).mpr ⟨⟨h.1, h.2.1⟩, by rw [pi_n f (pr i h)]; exact h⟩
  have pgr : pg m2 r := (hp r).mpr ⟨⟨r0, r1⟩, by rw [pi_r]; exact fp⟩
  have top : ∀ i, pg m2 i → i ≠ r → ga m2 6 i ≤ gs m 19 := fun i h z => by
    obtain ⟨i0, i1⟩ := rng i h
    have q := sub i h
    rw [pi_n f z] at q
    rw [c6 i0 i1, if_neg z]
    exact (v1 i q).2.2
  have newR : mNewest m2 r := fun u u0 u1 uc => by
    have u1 : u < mN m := by rw [← eN]; exact u1
    rw [c6 r0 r1, if_pos rfl]
    have up : pg m2 u := ⟨u0, by rw [eN]; exact u1, by have e := uc.1; have q := pgr.2.2; unfold mProgd at q ⊢; rw [e]; exact q⟩
    by_cases z : u = r
    · rw [z, c6 r0 r1, if_pos rfl]; exact Int.le_refl _
    · have := top u up z; omega
  have new : ∀ i, pg m i → (mNewest m2 i ↔ mNewest m i ∧ i ≠ f) := fun i hi => by
    have ir := pr i hi
    have up : ∀ u, 0 ≤ u → u < mN m → mCopyOf m u i → u ≠ r := fun u u0 u1 uc z => by
      have e := uc.1
      have q := hi.2.2
      unfold mProgd at q
      rw [z, r2] at e
      omega
    constructor
    · intro h
      refine ⟨fun u u0 u1 uc => ?_, fun z => ?_⟩
      · have ur := up u u0 u1 uc
        have q := h u u0 (by have := eN; unfold mN at this; rw [this]; exact u1) ((cpy u i u0 u1 hi.1 hi.2.1).mpr (by rw [pi_n f ur, pi_n f ir]; exact uc))
        rw [c6 u0 u1, if_neg ur, c6 hi.1 hi.2.1, if_neg ir] at q
        exact q
      · have q := h r r0 (by have := eN; unfold mN at this; rw [this]; exact r1) ((cpy r i r0 r1 hi.1 hi.2.1).mpr (by rw [pi_r, pi_n f ir, z]; exact copy_rf m f))
        rw [c6 r0 r1, if_pos rfl] at q
        have := top i (sup i hi) ir
        omega
    · rintro ⟨h, z⟩ u u0 u1 uc
      have u1 : u < mN m := by rw [← eN]; exact u1
      have q := (cpy u i u0 u1 hi.1 hi.2.1).mp uc
      rw [pi_n f ir] at q
      rw [c6 hi.1 hi.2.1, if_neg ir]
      by_cases y : u = r
      · rw [y, pi_r] at q
        have l1 := h f fp.1 fp.2.1 q
        have l2 := fg.2.2 i hi.1 hi.2.1 (copy_sy q)
        exact absurd (v2 i f hi fp (by omega)) z
      · rw [pi_n f y] at q
        rw [c6 u0 u1, if_neg y]
        exact h u u0 u1 q
  refine ⟨⟨⟨fun i hi => ?_, fun i j hi hj e => ?_, fun i j hi hj e => ?_, ?_, fun i hi => ?_, by rw [g38]; exact v6⟩, ⟨fun i hi hc => ?_, fun i hi => ?_⟩, ?_, fun i hi h1 h2 h3 => ?_, by rw [g33, g34, g35, g39, g19]; omega, fun i hi hc hn hw => ?_, fun q v q0 q1 v0 hw => ?_, ?_, fun z => ⟨fun i hi h1 h2 k k0 k1 => ?_, fun q q0 q1 => ?_, fun i hi h1 => ?_⟩⟩, fun i i0 i1 => ?_⟩
  · obtain ⟨i0, i1⟩ := rng i hi
    have q := v1 _ (sub i hi)
    rw [c6 i0 i1, cc i0 i1 5 (by decide) (by decide), g19]
    by_cases z : i = r
    · rw [if_pos z]; omega
    · rw [if_neg z]; rw [pi_n f z] at q ⊢; omega
  · obtain ⟨i0, i1⟩ := rng i hi
    obtain ⟨j0, j1⟩ := rng j hj
    by_cases z : i = r
    · by_cases y : j = r
      · rw [z, y]
      · have := top j hj y
        rw [← e, c6 i0 i1, if_pos z] at this
        omega
    · by_cases y : j = r
      · have := top i hi z
        rw [e, c6 j0 j1, if_pos y] at this
        omega
      · have q1 := sub i hi
        have q2 := sub j hj
        rw [pi_n f z] at q1
        rw [pi_n f y] at q2
        rw [c6 i0 i1, if_neg z, c6 j0 j1, if_neg y] at e
        exact v2 i j q1 q2 e
  · obtain ⟨i0, i1⟩ := rng i hi
    obtain ⟨j0, j1⟩ := rng j hj
    rw [cc i0 i1 5 (by decide) (by decide), cc j0 j1 5 (by decide) (by decide)] at e
    obtain ⟨w1, w2, w3⟩ := v3 _ _ (sub i hi) (sub j hj) e
    refine ⟨(cpy i j i0 i1 j0 j1).mpr w1, fun y => ?_, fun y k k0 k1 => ?_⟩
    · rw [cc i0 i1 2 (by decide) (by decide)] at y
      rw [(p i i0 i1).2.2.1 y, (p j j0 j1).2.2.1 (by rw [← w1.1]; exact y)]
      exact w2 y
    · rw [cc i0 i1 2 (by decide) (by decide)] at y
      rw [(p i i0 i1).2.2.2.1 y k k0 k1, (p j j0 j1).2.2.2.1 (by rw [← w1.1]; exact y) k k0 k1]
      exact w3 y k k0 k1
  · rw [g19, g39, g 1 (by decide)]
    refine ⟨by omega, by omega, fun b b0 b1 => ?_⟩
    rw [a 9 b (by decide) (by decide)]
    have := v4.2.2 b b0 b1
    omega
  · obtain ⟨i0, i1⟩ := rng i hi
    rw [cc i0 i1 2 (by decide) (by decide), cc i0 i1 4 (by decide) (by decide), g38, g39, a 15 _ (by decide) (by decide)]
    exact v5 _ (sub i hi)
  · obtain ⟨i0, i1⟩ := rng i hi
    rw [cq i0 i1] at hc
    by_cases z : i = f
    · rw [if_pos z] at hc; omega
    · rw [if_neg z] at hc
      by_cases y : i = r
      · rw [y]; exact newR
      · rw [if_neg y] at hc
        have q := sub i hi
        rw [pi_n f y] at q
        exact (new i q).mpr ⟨nf.1 i q hc, z⟩
  · obtain ⟨i0, i1⟩ := rng i hi
    rw [cq i0 i1]
    by_cases z : i = f
    · rw [if_pos z]; exact Or.inr rfl
    · rw [if_neg z]
      by_cases y : i = r
      · rw [if_pos y]; exact Or.inl rfl
      · rw [if_neg y]
        have q := sub i hi
        rw [pi_n f y] at q
        exact nf.2 i q
  · intro q q0 q1
    rw [a 10 q (by decide) (by decide), a 11 q (by decide) (by decide), a 12 q (by decide) (by decide), a 15 _ (by decide) (by decide), g38, g3]
    exact o1 q q0 q1
  · obtain ⟨i0, i1⟩ := rng i hi
    have e4 := cc i0 i1 4 (by decide) (by decide)
    rw [cc i0 i1 2 (by decide) (by decide)] at h1
    rw [e4] at h2 h3
    rw [a 15 _ (by decide) (by decide)] at h3
    rw [cc i0 i1 3 (by decide) (by decide), e4, cc i0 i1 5 (by decide) (by decide), a 11 _ (by decide) (by decide), a 12 _ (by decide) (by decide)]
    exact o2 _ (sub i hi) h1 h2 h3
  · obtain ⟨i0, i1⟩ := rng i hi
    rw [cq i0 i1] at hc
    by_cases z : i = f
    · rw [z] at hn
      exact ((new f fp).mp hn).2 rfl
    · rw [if_neg z] at hc
      by_cases y : i = r
      · rw [if_pos y] at hc; omega
      · rw [if_neg y] at hc
        have q := sub i hi
        rw [pi_n f y] at q
        have w := (wnt i i0 i1).mp hw
        rw [pi_n f y] at w
        exact o4 i q hc ((new i q).mp hn).1 w
  · rw [Wv_c (fun c i hc => a c i (by omega) (by omega))] at hw
    rw [g3] at q1
    obtain ⟨i, i1, i2, i3, i4, i5⟩ := o5 q v q0 q1 v0 hw
    have ir := pr i i1
    have e := cc i1.1 i1.2.1
    rw [pi_n f ir] at e
    exact ⟨i, sup i i1, by rw [e 2 (by decide) (by decide)]; exact i2, by rw [e 3 (by decide) (by decide)]; exact i3, by rw [e 5 (by decide) (by decide)]; exact i4, by rw [a 11 q (by decide) (by decide), a 12 q (by decide) (by decide), e 4 (by decide) (by decide)]; exact i5⟩
  · rw [g33, g34, show ga m2 10 = ga m 10 from funext fun i => a 10 i (by decide) (by decide)]
    refine EX_sub o6 g3 (fun i hi => ?_) (fun j hj b => ?_)
    · obtain ⟨i0, i1⟩ := rng i hi
      exact ⟨pi r f i, sub i hi, cc i0 i1, (p i i0 i1).2.2.2.1⟩
    · have e := cc hj.1 hj.2.1
      rw [pi_n f (pr j hj)] at e
      exact ⟨j, sup j hj, e⟩
  · obtain ⟨i0, i1⟩ := rng i hi
    rw [cc i0 i1 2 (by decide) (by decide)] at h1
    rw [cc i0 i1 4 (by decide) (by decide), g35] at h2
    rw [(p i i0 i1).2.2.2.1 h1 k k0 k1, a 10 _ (by decide) (by decide), cc i0 i1 3 (by decide) (by decide)]
    exact (o7 (by rw [← g35]; exact z)).1 _ (sub i hi) h1 h2 k k0 k1
  · obtain ⟨i, i1, i2, i3, i4⟩ := (o7 (by rw [← g35]; exact z)).2.1 q q0 q1
    have ir := pr i i1
    have e := cc i1.1 i1.2.1
    rw [pi_n f ir] at e
    exact ⟨i, sup i i1, by rw [e 2 (by decide) (by decide)]; exact i2, by rw [e 4 (by decide) (by decide), g35]; exact i3, by rw [e 3 (by decide) (by decide)]; exact i4⟩
  · obtain ⟨i0, i1⟩ := rng i hi
    rw [cc i0 i1 2 (by decide) (by decide)] at h1
    rw [cc i0 i1 4 (by decide) (by decide), g35]
    exact (o7 (by rw [← g35]; exact z)).2.2 _ (sub i hi) h1
  · by_cases y : i = r
    · refine ⟨fun _ => Or.inl y, fun _ => ?_⟩
      rw [y]
      exact ⟨by rw [g26]; exact fg.1, (wnt r r0 r1).mpr (by rw [pi_r]; exact fg.2.1), newR⟩
    · have w := wnt i i0 i1
      rw [pi_n f y] at w
      have pw : mWanted m i → pg m i := fun h => ⟨i0, i1, by
        unfold mProgd
        unfold mWanted at h
        omega⟩
      constructor
      · rintro ⟨h1, h2, h3⟩
        have w1 := w.mp h2
        have n1 := (new i (pw w1)).mp h3
        exact Or.inr ⟨⟨by rw [← g26]; exact h1, w1, n1.1⟩, n1.2⟩
      · rintro (h | ⟨⟨h1, h2, h3⟩, z⟩)
        · exact absurd h y
        · exact ⟨by rw [g26]; exact h1, w.mpr h2, (new i (pw h2)).mpr ⟨h3, z⟩⟩

