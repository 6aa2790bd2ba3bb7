/-! questions, on both sides -/
theorem AG_m {m x : zH} {T : Int} (r : REL m x T) {p q : Prop} {v w : Int} (e : q ↔ ¬ p) (h : p → v = w) : AG T (m_q m p v) (ifp q (x, 1, 0) (x, 0, w)) := by
  unfold m_q
  by_cases c : p
  · rw [ifp_t c, ifp_f (fun z => e.mp z c)]
    exact AG_q r (h c)
  · rw [ifp_f c, ifp_t (e.mpr c)]
    exact AG_no r 1 0 0 (by decide)
theorem if_in {p : Prop} {x : zH} {v w : Int} : ifp p (x, (0 : Int), v) (x, 0, w) = (x, 0, ifp p v w) := by
  rcases Classical.em p with c | c
  · rw [ifp_t c, ifp_t c]
  · rw [ifp_f c, ifp_f c]
theorem B_version {m x : zH} {T : Int} (r : REL m x T) (p : Int) : AG T (m_q m (mLg m p) (ifp (gs m 26 = 0) (-1) (ga m 10 p))) (X_version x p) := by
  have s := PW_sim r.1
  unfold X_version
  rw [if_in]
  refine AG_m r (by rw [logi s p]) (fun h => ?_)
  rw [sg s.1 (a := 26) (b := 45) (by decide), seen_v s h, ifp_f (show ¬ ((0 : Int) ≠ 0 ∧ ga m 11 p = 0) from fun z => z.1 rfl)]
theorem B_lockedBy {m x : zH} {T : Int} (r : REL m x T) (p : Int) : AG T (m_q m (mLg m p) (ga m 11 p)) (X_lockedBy x p) := by
  have s := PW_sim r.1
  unfold X_lockedBy
  refine AG_m r (by rw [logi s p]) (fun h => ?_)
  have pr := lg_64 s h
  unfold xOwner
  rw [ifp_t ((logi s p).mpr h)]
  exact (s.2.2.2.2.2.1 p pr.1 pr.2).2.2.symm
theorem B_state {m x : zH} {T : Int} (r : REL m x T) (t : Int) : AG T (m_q m (mTx m t) (ga m 15 t)) (X_state x t) := by
  have s := PW_sim r.1
  unfold X_state
  exact AG_m r (by rw [txi s t]) (fun h => (state_v s h).symm)
theorem B_locks {m x : zH} {T : Int} (r : REL m x T) (t : Int) : AG T (m_q m (mTx m t) (mLocks m t)) (X_locks x t) := by
  have s := PW_sim r.1
  unfold X_locks
  exact AG_m r (by rw [txi s t]) (fun _ => (locks_v s t).symm)
theorem B_place {m x : zH} {T : Int} (r : REL m x T) (p : Int) : AG T (m_q m (mLg m p) (m_place m p)) (X_place x p) := by
  have s := PW_sim r.1
  have e72 := S72 s.1 s.2.1
  have nr := mN_r s.2.2.1.1
  unfold X_place
  rw [if_in]
  refine AG_m r (by rw [logi s p]) (fun h => ?_)
  rw [sg s.1 (a := 26) (b := 45) (by decide), seen_v s h, ifp_f (show ¬ ((0 : Int) ≠ 0 ∧ ga m 11 p = 0) from fun z => z.1 rfl)]
  unfold m_place
  by_cases c : gs m 26 = 0
  · rw [ifp_f (fun z => z.1 c), ifp_t c]
  · rw [ifp_f c]
    obtain ⟨fo, _⟩ := PW_on r.1 c
    by_cases v0 : 0 < ga m 10 p
    · rw [ifp_t ⟨c, v0⟩]
      unfold xFind
      rw [e72]
      have hN : gs m 1 * gs m 2 = mN m := rfl
      rw [hN]
      refine ff_c _ 0 (fun j j0 j1 => ?_)
      have jN : j < mN m := by omega
      rw [data_x s j0 jN]
      unfold mPlAt
      constructor
      · rintro ⟨d, n⟩
        have jp : pg m j := ⟨j0, jN, by unfold mProgd; have := d.1; omega⟩
        refine ⟨d, ?_⟩
        rcases fo.2.2.1.2 j jp with z | z
        · exact z
        · refine absurd ?_ (fo.2.2.2.1.2.2.2.1 j jp z n)
          rw [want_W]
          exact Or.inl ⟨d.1, Or.inl (by rw [d.2.1, d.2.2])⟩
      · rintro ⟨d, z⟩
        have jp : pg m j := ⟨j0, jN, by unfold mProgd; have := d.1; omega⟩
        exact ⟨d, fo.2.2.1.1 j jp z⟩
    · rw [ifp_f (fun z => v0 z.2), find_no s fo.2.1 (by omega)]
theorem valid_off {m : zH} (h : gs m 26 = 0) (b : Int) : mValidIn m b = 0 := cnt_zero (fun i _ _ g => g.1 h)
theorem B_block {m x : zH} {T : Int} (r : REL m x T) (b w : Int) : AG T (m_block m b w) (X_block x b w) := by
  have s := PW_sim r.1
  have e70 : gs x 70 = gs m 1 := sg s.1 (by decide)
  have e71 : gs x 71 = gs m 2 := sg s.1 (by decide)
  have mb := s.2.2.1.1
  unfold m_block X_block xBlk
  rw [e70]
  by_cases c : 0 ≤ b ∧ b < gs m 1
  · rw [ifp_t c, ifp_f (fun z : ¬ (0 ≤ b ∧ b < gs m 1) => z c)]
    by_cases c0 : w = 0
    · rw [ifp_t c0, ifp_t c0]
      exact AG_q r (s.2.2.2.2.1 b c.1 c.2).symm
    · rw [ifp_f c0, ifp_f c0]
      by_cases c1 : w = 1
      · rw [ifp_t c1, ifp_t c1]
        exact AG_q r (by rw [free_u s.2.2.1 c.1 c.2]; omega)
      · rw [ifp_f c1, ifp_f c1]
        by_cases c2 : w = 2
        · rw [ifp_t c2, ifp_t c2]
          refine AG_q r ?_
          unfold X_bl2
          rw [sg s.1 (a := 26) (b := 45) (by decide)]
          by_cases o : gs m 26 = 0
          · rw [ifp_t o, valid_off o]
          · rw [ifp_f o, lin_v (PW_on r.1 o).1 c.1 c.2]
        · rw [ifp_f c2, ifp_f c2]
          by_cases c3 : w = 3
          · rw [ifp_t c3, ifp_t c3]
            refine AG_q r ?_
            unfold xTorn xBlk mKind
            rw [e70, ifp_t c, e71, Int.mul_comm b]
            exact cnt_c (fun i i0 i1 => by
              have ir := blk_N mb c.1 c.2 i0 (by have := mb.2.2.1; omega)
              rw [(s.2.2.2.1 i ir.1 ir.2).1.1])
          · rw [ifp_f c3, ifp_f c3]
            exact AG_no r 2 0 0 (by decide)
  · rw [ifp_f c, ifp_t c]
    exact AG_no r 1 0 0 (by decide)
theorem B_flashPage {m x : zH} {T : Int} (r : REL m x T) (i w : Int) : AG T (m_flashPage m i w) (X_flashPage x i w) := by
  have s := PW_sim r.1
  have e72 := S72 s.1 s.2.1
  unfold m_flashPage X_flashPage xPl
  rw [e72, show gs m 1 * gs m 2 = mN m from rfl]
  by_cases c : 0 ≤ i ∧ i < mN m
  · rw [ifp_t c, ifp_f (fun z : ¬ (0 ≤ i ∧ i < mN m) => z c)]
    obtain ⟨p1, p2, p3, p4, p5, p6⟩ := s.2.2.2.1 i c.1 c.2
    have hp (k : Int) (hk : k = 1 ∨ k = 2 ∨ k = 3 ∨ k = 4) : m_fpage m i k = ifp (mProgd m i) (ifp (k = 1) (ga m 3 i) (ifp (k = 2) (ga m 4 i) (ifp (k = 3) (ga m 5 i) (ga m 6 i)))) (-1) := by
      unfold m_fpage
      rw [ifp_f (by omega), ifp_f (by omega)]
    by_cases r1 : 0 ≤ w ∧ w ≤ 5
    · rw [ifp_t r1]
      rcases (show w = 0 ∨ w = 1 ∨ w = 2 ∨ w = 3 ∨ w = 4 ∨ w = 5 by omega) with e | e | e | e | e | e
      · subst e
        rw [ifp_t rfl]
        refine AG_q r ?_
        unfold m_fpage
        rw [ifp_t rfl]
        exact p1.1.symm
      · subst e
        rw [ifp_f (by decide), ifp_t rfl, hp 1 (by decide)]
        refine AG_q r ?_
        by_cases k : mProgd m i
        · rw [ifp_t k, ifp_t rfl, (p2 k).1]
        · rw [ifp_f k, (p3 k).1]
      · subst e
        rw [ifp_f (by decide), ifp_f (by decide), ifp_t rfl, hp 2 (by decide)]
        refine AG_q r ?_
        by_cases k : mProgd m i
        · rw [ifp_t k, ifp_f (by decide), ifp_t rfl, (p2 k).2.1]
        · rw [ifp_f k, (p3 k).2.1]
      · subst e
        rw [ifp_f (by decide), ifp_f (by decide), ifp_f (by decide), ifp_t rfl, hp 3 (by decide)]
        refine AG_q r ?_
        by_cases k : mProgd m i
        · rw [ifp_t k, ifp_f (by decide), ifp_f (by decide), ifp_t rfl, (p2 k).2.2.1]
        · rw [ifp_f k, (p3 k).2.2.1]
      · subst e
        rw [ifp_f (by decide), ifp_f (by decide), ifp_f (by decide), ifp_f (by decide), ifp_t rfl, hp 4 (by decide)]
        refine AG_q r ?_
        by_cases k : mProgd m i
        · rw [ifp_t k, ifp_f (by decide), ifp_f (by decide), ifp_f (by decide), (p2 k).2.2.2]
        · rw [ifp_f k, (p3 k).2.2.2.1]
      · subst e
        rw [ifp_f (by decide), ifp_f (by decide), ifp_f (by decide), ifp_f (by decide), ifp_f (by decide), ifp_t rfl]
        refine AG_q r ?_
        unfold m_fpage
        rw [ifp_f (by decide), ifp_t rfl]
        by_cases k : ga m 2 i = 1
        · rw [ifp_t k, p4 k]
        · rw [ifp_f k, p5 k]
    · rw [ifp_f r1, ifp_f (show ¬ w = 0 by omega), ifp_f (show ¬ w = 1 by omega), ifp_f (show ¬ w = 2 by omega), ifp_f (show ¬ w = 3 by omega), ifp_f (show ¬ w = 4 by omega), ifp_f (show ¬ w = 5 by omega)]
      exact AG_no r 2 0 0 (by decide)
  · rw [ifp_f c, ifp_t c]
    exact AG_no r 1 0 0 (by decide)
theorem B_isValid {m x : zH} {T : Int} (r : REL m x T) (i : Int) : AG T (m_isValid m i) (X_isValid x i) := by
  have s := PW_sim r.1
  have e72 := S72 s.1 s.2.1
  unfold m_isValid X_isValid xPl
  rw [e72, show gs m 1 * gs m 2 = mN m from rfl]
  by_cases c : 0 ≤ i ∧ i < mN m
  · rw [ifp_t c, ifp_f (fun z : ¬ (0 ≤ i ∧ i < mN m) => z c)]
    refine AG_q r (b2i_c ?_)
    rw [sg s.1 (a := 26) (b := 45) (by decide)]
    by_cases o : gs m 26 = 0
    · exact ⟨fun g => absurd o g.1, fun g => absurd o g.1⟩
    · rw [live_g (PW_on r.1 o).1 c.1 c.2]
      exact ⟨fun g => ⟨o, g⟩, fun g => g.2⟩
  · rw [ifp_f c, ifp_t c]
    exact AG_no r 1 0 0 (by decide)
/-- a question that never throws -/
def AQ (T : Int) (m : zH) (v : Int) (s : zH × Int) : Prop := v = s.2 ∧ REL (ps m 0 0) s.1 T
theorem B_validPages {m x : zH} {T : Int} (r : REL m x T) : AQ T m (mValidAll m) (X_validPages x) := by
  have s := PW_sim r.1
  unfold X_validPages
  rw [sg s.1 (a := 26) (b := 45) (by decide)]
  by_cases o : gs m 26 = 0
  · rw [ifp_t o]
    refine ⟨?_, REL_0 r 0⟩
    have z : ∀ n : Nat, zsum (mValidIn m) n = 0 := fun n => by
      induction n with
      | zero => rfl
      | succ n ih => rw [zsum, ih, valid_off o]; rfl
    exact z _
  · rw [ifp_f o]
    exact ⟨(tot_v (PW_on r.1 o).1).symm, REL_0 (REL_cl r o) 0⟩
theorem B_freeBlocks {m x : zH} {T : Int} (r : REL m x T) : AQ T m (mFreeMany m) (x, xFreeMany x (gs x 46)) := by
  have s := PW_sim r.1
  refine ⟨?_, REL_0 r 0⟩
  have p1 : gs m 1 = 0 ∨ 1 ≤ gs m 2 := r.1.elim (fun q => Or.inr q.1.2.2.2.2.2) (fun q => q.1.2.2.2.2.2.1)
  show mFreeMany m = xFreeMany x (gs x 46)
  rw [sg s.1 (a := 32) (b := 46) (by decide)]
  rcases p1 with p1 | p1
  · unfold mFreeMany xFreeMany
    rw [sg s.1 (a := 1) (b := 70) (by decide), p1]
    rfl
  · exact (freeMany_v s p1).symm
theorem xCV_c {h h2 : zH} (a : ∀ c i, c = 9 ∨ c = 18 ∨ c = 19 → ga h2 c i = ga h c i) (g : gs h2 70 = gs h 70 ∧ gs h2 71 = gs h 71) (act : Int) : ∀ n : Nat, xCV h2 act n = xCV h act n
  | 0 => rfl
  | n + 1 => by
    rw [xCV, xCV, xCV_c a g act n]
    unfold xFP xBlk xBet
    simp only [a 9 _ (by decide), a 18 _ (by decide), a 19 _ (by decide), g.1, g.2]
theorem B_victim {m x : zH} {T : Int} (r : REL m x T) : AQ T m (m_victim m) (X_victim x) := by
  have s := PW_sim r.1
  unfold m_victim X_victim
  rw [sg s.1 (a := 26) (b := 45) (by decide)]
  by_cases o : gs m 26 = 0
  · rw [ifp_t (Or.inl o), ifp_t o]
    exact ⟨rfl, REL_0 r 0⟩
  · rw [ifp_f o]
    obtain ⟨fo, _, b1⟩ := PW_on r.1 o
    have P1 := fo.2.2.2.2.2
    have e46 : gs x 46 = gs m 32 := sg s.1 (by decide)
    have fb := fblk_v s P1
    have fr := mFB_lt m (gs m 1).toNat
    unfold x_nv
    rw [e46, fb]
    by_cases d : m_fblk m = -1
    · rw [ifp_t (Or.inr d), ifp_t (Or.inl (by omega))]
      exact ⟨rfl, REL_0 r 0⟩
    · have r0 : 0 ≤ m_fblk m ∧ m_fblk m < gs m 1 := by
        unfold m_fblk at d ⊢
        omega
      have fa := FO_act fo (b := m_fblk m) (by omega) r0.2
      have fm : xFreeMany x (m_fblk m) = mFreeMany (ps m 32 (m_fblk m)) := freeMany_v fa.1 P1
      have vv : xVict (x_cl (ps x 46 (m_fblk m))) (m_fblk m) = m_vict (ps m 32 (m_fblk m)) := vict_v fa r0.1
      have ve : xVict (x_cl x) (m_fblk m) = xVict (x_cl (ps x 46 (m_fblk m))) (m_fblk m) := by
        unfold xVict
        exact (xCV_c (h := x_cl x) (h2 := x_cl (ps x 46 (m_fblk m))) (fun c i h => rfl) ⟨rfl, rfl⟩ (m_fblk m) _).symm
      rw [ifp_f (fun z => z.elim o d), fm, ve, vv]
      by_cases c : mFreeMany (ps m 32 (m_fblk m)) < 2
      · rw [ifp_t c, ifp_f (show ¬ (m_fblk m < 0 ∨ 2 ≤ mFreeMany (ps m 32 (m_fblk m))) by omega)]
        exact ⟨rfl, REL_0 (REL_cl r o) 0⟩
      · rw [ifp_f c, ifp_t (show m_fblk m < 0 ∨ 2 ≤ mFreeMany (ps m 32 (m_fblk m)) by omega)]
        exact ⟨rfl, REL_0 r 0⟩
theorem gap_v {m x : zH} {T : Int} (s : SIM m x) (dv : Dv m T) : ∀ n : Nat, (n : Int) + 1 ≤ gs m 1 → mMost m (n + 1) = xMax x n ∧ mLeast m (n + 1) = xMin x n
  | 0, h => by
    have e := s.2.2.2.2.1 0 (Int.le_refl _) (by omega)
    have v := dv.2.2.2.1.2.2 0 (Int.le_refl _) (by omega)
    rw [mMost, mLeast, xMax, xMin, e]
    refine ⟨?_, ifp_t (Or.inl rfl)⟩
    by_cases c : mMost m 0 < ga m 9 ((0 : Nat) : Int)
    · rw [ifp_t c]; rfl
    · rw [ifp_f c]
      have : mMost m 0 = 0 := rfl
      have e2 : ga m 9 ((0 : Nat) : Int) = ga m 9 0 := rfl
      omega
  | n + 1, h => by
    have ih := gap_v s dv n (by omega)
    have e := s.2.2.2.2.1 ((n : Int) + 1) (by omega) (by omega)
    rw [mMost, mLeast, xMax, xMin, e, ih.1, ih.2, show ((n + 1 : Nat) : Int) = (n : Int) + 1 by omega]
    constructor
    · by_cases c : xMax x n < ga m 9 ((n : Int) + 1)
      · rw [ifp_t c, if_pos c]
      · rw [ifp_f c, if_neg c]
    · by_cases c : ga m 9 ((n : Int) + 1) < xMin x n
      · rw [ifp_t (Or.inr c), if_pos c]
      · rw [ifp_f (fun z => z.elim (fun y => by omega) c), if_neg c]
theorem B_wearGap {m x : zH} {T : Int} (r : REL m x T) : AQ T m (mGap m) (x, xGap x) := by
  have s := PW_sim r.1
  have mb := s.2.2.1.1
  refine ⟨?_, REL_0 r 0⟩
  show mGap m = xGap x
  unfold mGap xGap
  rw [sg s.1 (a := 1) (b := 70) (by decide)]
  by_cases c : gs m 1 = 0
  · rw [c]
    show wr (0 - 0) = wr (ga x 19 0 - ga x 19 0)
    rw [Int.sub_self, Int.sub_self]
  · have g := gap_v s (PW_dv r.1) (gs m 1 - 1).toNat (by have := mb.1; omega)
    rw [show (gs m 1).toNat = (gs m 1 - 1).toNat + 1 by have := mb.1; omega, g.1, g.2]
theorem B_readers {m x : zH} {T : Int} (r : REL m x T) : AQ T m (mBits m 4) (x, gs x 106) := ⟨(readers_v (PW_sim r.1)).2.2.symm, REL_0 r 0⟩
theorem B_num {m x : zH} {T : Int} (r : REL m x T) {a b : Nat} (h : (a, b) ∈ prs) : AQ T m (gs m a) (x, gs x b) := ⟨(sg (PW_sim r.1).1 h).symm, REL_0 r 0⟩
theorem B_err {m x : zH} {T : Int} (r : REL m x T) : AQ T m (gs m 47) (x, gs x 23) ∧ AQ T m (gs m 48) (x, gs x 24) := ⟨⟨r.2.1.2.2.2.1.symm, REL_0 r 0⟩, ⟨r.2.1.2.2.2.2.symm, REL_0 r 0⟩⟩

