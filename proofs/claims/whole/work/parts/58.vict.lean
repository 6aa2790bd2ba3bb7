/-! which block is collected -/
/-- the class's side may differ in what no state is -/
theorem SIM_xc {m x x2 : zH} (s : SIM m x) (g : ∀ k, gs x2 k = gs x k) (a : ∀ c i, c ≠ 9 → c ≠ 25 → c ≠ 26 → ga x2 c i = ga x c i) : SIM m x2 := by
  obtain ⟨s1, s2, s3, s4, s5, s6, s7, s8⟩ := s
  refine ⟨Sn_g s1 (fun _ => rfl) g, XS_s s2 g (fun b => a 18 b (by decide) (by decide) (by decide)), MS_u s3 (fun b _ _ => a 18 b (by decide) (by decide) (by decide)), fun i i0 i1 => Sp_c (s4 i i0 i1) (fun _ _ _ => rfl) (fun _ _ _ => rfl) (fun c _ _ _ => a c i (by omega) (by omega) (by omega)) (fun j _ _ => a 16 j (by decide) (by decide) (by decide)), fun b b0 b1 => ?_, fun p p0 p1 => ?_, fun r r0 r1 => ?_, fun t t0 t1 => ?_⟩
  · rw [a 19 b (by decide) (by decide) (by decide)]; exact s5 b b0 b1
  · rw [a 21 p (by decide) (by decide) (by decide), a 22 p (by decide) (by decide) (by decide), a 23 p (by decide) (by decide) (by decide)]; exact s6 p p0 p1
  · rw [g]
    refine ⟨(s7 r r0 r1).1, fun z p p0 p1 => ?_⟩
    rw [a 24 _ (by decide) (by decide) (by decide)]
    exact (s7 r r0 r1).2 z p p0 p1
  · rw [a 20 t (by decide) (by decide) (by decide)]; exact s8 t t0 t1
theorem Nf_e {m : zH} {cp cp2 : Int → Int} (h : Nf m cp) (e : ∀ i, cp2 i = cp i) : Nf m cp2 := by rw [show cp2 = cp from funext e]; exact h
theorem On_e {m : zH} {cp cp2 : Int → Int} {n : Int} (h : On m cp n) (e : ∀ i, cp2 i = cp i) : On m cp2 n := by rw [show cp2 = cp from funext e]; exact h
theorem FO_xc {m x x2 : zH} {T n : Int} (f : FO m x T n) (g : ∀ k, gs x2 k = gs x k) (a : ∀ c i, c ≠ 9 → c ≠ 25 → c ≠ 26 → ga x2 c i = ga x c i) : FO m x2 T n :=
  ⟨SIM_xc f.1 g a, f.2.1, Nf_e f.2.2.1 (fun i => a 17 i (by decide) (by decide) (by decide)), On_e f.2.2.2.1 (fun i => a 17 i (by decide) (by decide) (by decide)), f.2.2.2.2⟩
theorem FO_cl {m x : zH} {T n : Int} (f : FO m x T n) : FO m (x_cl x) T n := FO_xc f (fun _ => rfl) (fun c i h _ _ => ga_xcln_o _ _ _ _ h)
theorem cl_9 {m x : zH} {T n : Int} (f : FO m x T n) {b : Int} (b0 : 0 ≤ b) (b1 : b < gs m 1) : ga (x_cl x) 9 b = mValidIn m b := by
  unfold x_cl
  rw [ga_xcln, ifp_t ⟨rfl, b0, by rw [sg_F f (a := 1) (b := 70) (by decide)]; exact b1⟩]
  exact lu_v f b0 b1
theorem mNV_r0 (m : zH) : ∀ k : Nat, ((mNV m k).1 = -1 ∧ (mNV m k).2 = mFreeIn m (gs m 32)) ∨ ((0 ≤ (mNV m k).1 ∧ (mNV m k).1 < k) ∧ (mNV m k).2 = mValidIn m (mNV m k).1 ∧ mValidIn m (mNV m k).1 < mFreeIn m (gs m 32) ∧ (mNV m k).1 ≠ gs m 32 ∧ ¬ mIsFree m (mNV m k).1)
  | 0 => Or.inl ⟨rfl, rfl⟩
  | k + 1 => by
    have q := mNV_r0 m k
    rw [mNV]
    generalize hw : mNV m k = w at q ⊢
    by_cases c : ¬ ((k : Int) = gs m 32 ∨ mIsFree m k) ∧ (mValidIn m k < w.2 ∨ w.1 ≠ -1 ∧ mValidIn m k = w.2 ∧ ga m 9 k < ga m 9 w.1)
    · rw [ifp_t c]
      refine Or.inr ⟨⟨by show (0 : Int) ≤ k; omega, by show (k : Int) < _; omega⟩, rfl, ?_, fun z => c.1 (Or.inl z), fun z => c.1 (Or.inr z)⟩
      show mValidIn m k < _
      rcases q with q | q
      · rcases c.2 with d | d
        · omega
        · exact absurd q.1 d.1
      · have q2 := q.2
        omega
    · rw [ifp_f c]
      rcases q with q | q
      · exact Or.inl q
      · exact Or.inr ⟨⟨q.1.1, by omega⟩, q.2⟩
theorem nv_v {m x : zH} {T n : Int} (f : FO m x T n) (a0 : 0 ≤ gs m 32) : ∀ k : Nat, (k : Int) ≤ gs m 1 → xCV (x_cl x) (gs m 32) k = (mNV m k).1
  | 0, _ => rfl
  | k + 1, h => by
    have ih := nv_v f a0 k (by omega)
    have q := mNV_r0 m k
    have f2 := FO_cl f
    have fp := fp_v f2.1 a0
    have c9 := cl_9 f (b := k) (by omega) (by omega)
    have fv := free_v f.1 f.2.2.2.2.2 (b := k) (by omega) (by omega)
    have u := f.1.2.2.1.2.2.2.2 k (by omega) (by omega)
    have e18 : ga (x_cl x) 18 k = ga x 18 k := ga_xcln_o _ _ _ _ (by decide)
    rw [xCV, mNV, ih, e18]
    generalize hw : mNV m k = w at q ⊢
    have cc : (0 < ga x 18 k ∧ (k : Int) ≠ gs m 32 ∧ ga (x_cl x) 9 k < xFP (x_cl x) (gs m 32) ∧ (w.1 < 0 ∨ xBet (x_cl x) k w.1)) ↔ (¬ ((k : Int) = gs m 32 ∨ mIsFree m k) ∧ (mValidIn m k < w.2 ∨ w.1 ≠ -1 ∧ mValidIn m k = w.2 ∧ ga m 9 k < ga m 9 w.1)) := by
      rw [fp.1, c9, ← fv]
      unfold xFree xBet
      rw [c9, f2.1.2.2.2.2.1 k (by omega) (by omega)]
      rcases q with q | q
      · rw [q.2, q.1]
        constructor
        · rintro ⟨h1, h2, h3, _⟩
          exact ⟨fun z => by omega, Or.inl h3⟩
        · rintro ⟨h1, h2⟩
          refine ⟨?_, fun z => h1 (Or.inl z), ?_, Or.inl (by decide)⟩
          · exact Classical.byContradiction fun z => h1 (by omega)
          · rcases h2 with h2 | h2
            · exact h2
            · exact absurd rfl h2.1
      · rw [cl_9 f q.1.1 (by omega), f2.1.2.2.2.2.1 w.1 q.1.1 (by omega), q.2.1]
        have q3 := q.2.2.1
        constructor
        · rintro ⟨h1, h2, h3, h4⟩
          exact ⟨fun z => by omega, by omega⟩
        · rintro ⟨h1, h2⟩
          refine ⟨?_, fun z => h1 (Or.inl z), by omega, by omega⟩
          exact Classical.byContradiction fun z => h1 (by omega)
    by_cases z : ¬ ((k : Int) = gs m 32 ∨ mIsFree m k) ∧ (mValidIn m k < w.2 ∨ w.1 ≠ -1 ∧ mValidIn m k = w.2 ∧ ga m 9 k < ga m 9 w.1)
    · rw [ifp_t z, ifp_t (cc.mpr z)]
    · rw [ifp_f z, ifp_f (fun y => z (cc.mp y))]
theorem vict_v {m x : zH} {T n : Int} (f : FO m x T n) (a0 : 0 ≤ gs m 32) : xVict (x_cl x) (gs m 32) = m_vict m := by
  unfold xVict m_vict
  rw [show gs (x_cl x) 70 = gs m 1 from sg_F f (a := 1) (b := 70) (by decide)]
  exact nv_v f a0 _ (by have := f.1.2.2.1.1.1; omega)
/-- the block to collect, if there is one -/
theorem vict_r {m x : zH} {T n : Int} (f : FO m x T n) : m_vict m = -1 ∨ ((0 ≤ m_vict m ∧ m_vict m < gs m 1) ∧ m_vict m ≠ gs m 32 ∧ mValidIn m (m_vict m) < mFreeIn m (gs m 32) ∧ 0 < ga x 18 (m_vict m)) := by
  have q := mNV_r0 m (gs m 1).toNat
  unfold m_vict
  rcases q with q | q
  · exact Or.inl q.1
  · have b1 : (mNV m (gs m 1).toNat).1 < gs m 1 := by have := f.1.2.2.1.1.1; omega
    have fv := free_v f.1 f.2.2.2.2.2 q.1.1 b1
    have u := f.1.2.2.1.2.2.2.2 _ q.1.1 b1
    refine Or.inr ⟨⟨q.1.1, b1⟩, q.2.2.2.1, q.2.2.1, ?_⟩
    refine Classical.byContradiction fun z => q.2.2.2.2 (fv.mp ⟨by omega, q.2.2.2.1⟩)

