/-! the reference's questions that callers ask: contracts -/
set_option maxRecDepth 100000 in
theorem C_X7_errorCode {h : zH} : kX7_errorCode h (fun r h2 => r = gs h 47 ∧ h2 = ps h 0 0) := by
  apply eX7_errorCode
  refine zx_ok (fun ok => ?_)
  refine zx_aload_n (pc := 0) dX7_errorCode_0 rfl rfl ?_
  refine zx_aload_n (pc := 1) dX7_errorCode_1 rfl rfl ?_
  refine zg_X7_145 (pc := 2) dX7_errorCode_2 ?_
  refine zi_X7_148 (pc := 5) dX7_errorCode_5 (C_X7_told (ok.1 47 (by decide))) (by decide) (Nat.le_of_ble_eq_true rfl) (fun z5 h5 u5 v5 q5 => ?_)
  obtain ⟨rfl, e⟩ := q5
  rw [e]
  refine zx_iret (pc := 8) dX7_errorCode_8 (fun o => by first | exact o.1 _ (by decide) | exact o.2 _ _ | omega) ?_
  exact ⟨rfl, rfl⟩
set_option maxRecDepth 100000 in
theorem C_X7_errorPosition {h : zH} : kX7_errorPosition h (fun r h2 => r = gs h 48 ∧ h2 = ps h 0 0) := by
  apply eX7_errorPosition
  refine zx_ok (fun ok => ?_)
  refine zx_aload_n (pc := 0) dX7_errorPosition_0 rfl rfl ?_
  refine zx_aload_n (pc := 1) dX7_errorPosition_1 rfl rfl ?_
  refine zg_X7_63 (pc := 2) dX7_errorPosition_2 ?_
  refine zi_X7_148 (pc := 5) dX7_errorPosition_5 (C_X7_told (ok.1 48 (by decide))) (by decide) (Nat.le_of_ble_eq_true rfl) (fun z5 h5 u5 v5 q5 => ?_)
  obtain ⟨rfl, e⟩ := q5
  rw [e]
  refine zx_iret (pc := 8) dX7_errorPosition_8 (fun o => by first | exact o.1 _ (by decide) | exact o.2 _ _ | omega) ?_
  exact ⟨rfl, rfl⟩
set_option maxRecDepth 100000 in
theorem C_X7_logicalPages {h : zH} : kX7_logicalPages h (fun r h2 => r = gs h 3 ∧ h2 = ps h 0 0) := by
  apply eX7_logicalPages
  refine zx_ok (fun ok => ?_)
  refine zx_aload_n (pc := 0) dX7_logicalPages_0 rfl rfl ?_
  refine zx_aload_n (pc := 1) dX7_logicalPages_1 rfl rfl ?_
  refine zg_X7_72 (pc := 2) dX7_logicalPages_2 ?_
  refine zi_X7_148 (pc := 5) dX7_logicalPages_5 (C_X7_told (ok.1 3 (by decide))) (by decide) (Nat.le_of_ble_eq_true rfl) (fun z5 h5 u5 v5 q5 => ?_)
  obtain ⟨rfl, e⟩ := q5
  rw [e]
  refine zx_iret (pc := 8) dX7_logicalPages_8 (fun o => by first | exact o.1 _ (by decide) | exact o.2 _ _ | omega) ?_
  exact ⟨rfl, rfl⟩
set_option maxRecDepth 100000 in
theorem C_X7_blocks {h : zH} : kX7_blocks h (fun r h2 => r = gs h 1 ∧ h2 = ps h 0 0) := by
  apply eX7_blocks
  refine zx_ok (fun ok => ?_)
  refine zx_aload_n (pc := 0) dX7_blocks_0 rfl rfl ?_
  refine zx_aload_n (pc := 1) dX7_blocks_1 rfl rfl ?_
  refine zg_X7_79 (pc := 2) dX7_blocks_2 ?_
  refine zi_X7_148 (pc := 5) dX7_blocks_5 (C_X7_told (ok.1 1 (by decide))) (by decide) (Nat.le_of_ble_eq_true rfl) (fun z5 h5 u5 v5 q5 => ?_)
  obtain ⟨rfl, e⟩ := q5
  rw [e]
  refine zx_iret (pc := 8) dX7_blocks_8 (fun o => by first | exact o.1 _ (by decide) | exact o.2 _ _ | omega) ?_
  exact ⟨rfl, rfl⟩
set_option maxRecDepth 100000 in
theorem C_X7_pagesPerBlock {h : zH} : kX7_pagesPerBlock h (fun r h2 => r = gs h 2 ∧ h2 = ps h 0 0) := by
  apply eX7_pagesPerBlock
  refine zx_ok (fun ok => ?_)
  refine zx_aload_n (pc := 0) dX7_pagesPerBlock_0 rfl rfl ?_
  refine zx_aload_n (pc := 1) dX7_pagesPerBlock_1 rfl rfl ?_
  refine zg_X7_82 (pc := 2) dX7_pagesPerBlock_2 ?_
  refine zi_X7_148 (pc := 5) dX7_pagesPerBlock_5 (C_X7_told (ok.1 2 (by decide))) (by decide) (Nat.le_of_ble_eq_true rfl) (fun z5 h5 u5 v5 q5 => ?_)
  obtain ⟨rfl, e⟩ := q5
  rw [e]
  refine zx_iret (pc := 8) dX7_pagesPerBlock_8 (fun o => by first | exact o.1 _ (by decide) | exact o.2 _ _ | omega) ?_
  exact ⟨rfl, rfl⟩
set_option maxRecDepth 100000 in
theorem C_X7_transactions {h : zH} : kX7_transactions h (fun r h2 => r = gs h 38 ∧ h2 = ps h 0 0) := by
  apply eX7_transactions
  refine zx_ok (fun ok => ?_)
  refine zx_aload_n (pc := 0) dX7_transactions_0 rfl rfl ?_
  refine zx_aload_n (pc := 1) dX7_transactions_1 rfl rfl ?_
  refine zg_X7_129 (pc := 2) dX7_transactions_2 ?_
  refine zi_X7_148 (pc := 5) dX7_transactions_5 (C_X7_told (ok.1 38 (by decide))) (by decide) (Nat.le_of_ble_eq_true rfl) (fun z5 h5 u5 v5 q5 => ?_)
  obtain ⟨rfl, e⟩ := q5
  rw [e]
  refine zx_iret (pc := 8) dX7_transactions_8 (fun o => by first | exact o.1 _ (by decide) | exact o.2 _ _ | omega) ?_
  exact ⟨rfl, rfl⟩
set_option maxRecDepth 100000 in
theorem C_X7_activeBlock {h : zH} : kX7_activeBlock h (fun r h2 => r = gs h 32 ∧ h2 = ps h 0 0) := by
  apply eX7_activeBlock
  refine zx_ok (fun ok => ?_)
  refine zx_aload_n (pc := 0) dX7_activeBlock_0 rfl rfl ?_
  refine zx_aload_n (pc := 1) dX7_activeBlock_1 rfl rfl ?_
  refine zg_X7_53 (pc := 2) dX7_activeBlock_2 ?_
  refine zi_X7_148 (pc := 5) dX7_activeBlock_5 (C_X7_told (ok.1 32 (by decide))) (by decide) (Nat.le_of_ble_eq_true rfl) (fun z5 h5 u5 v5 q5 => ?_)
  obtain ⟨rfl, e⟩ := q5
  rw [e]
  refine zx_iret (pc := 8) dX7_activeBlock_8 (fun o => by first | exact o.1 _ (by decide) | exact o.2 _ _ | omega) ?_
  exact ⟨rfl, rfl⟩
set_option maxRecDepth 100000 in
theorem C_X7_programs {h : zH} : kX7_programs h (fun r h2 => r = gs h 20 ∧ h2 = ps h 0 0) := by
  apply eX7_programs
  refine zx_ok (fun ok => ?_)
  refine zx_aload_n (pc := 0) dX7_programs_0 rfl rfl ?_
  refine zx_aload_n (pc := 1) dX7_programs_1 rfl rfl ?_
  refine zg_X7_114 (pc := 2) dX7_programs_2 ?_
  refine zi_X7_148 (pc := 5) dX7_programs_5 (C_X7_told (ok.1 20 (by decide))) (by decide) (Nat.le_of_ble_eq_true rfl) (fun z5 h5 u5 v5 q5 => ?_)
  obtain ⟨rfl, e⟩ := q5
  rw [e]
  refine zx_iret (pc := 8) dX7_programs_8 (fun o => by first | exact o.1 _ (by decide) | exact o.2 _ _ | omega) ?_
  exact ⟨rfl, rfl⟩
set_option maxRecDepth 100000 in
theorem C_X7_erases {h : zH} : kX7_erases h (fun r h2 => r = gs h 21 ∧ h2 = ps h 0 0) := by
  apply eX7_erases
  refine zx_ok (fun ok => ?_)
  refine zx_aload_n (pc := 0) dX7_erases_0 rfl rfl ?_
  refine zx_aload_n (pc := 1) dX7_erases_1 rfl rfl ?_
  refine zg_X7_117 (pc := 2) dX7_erases_2 ?_
  refine zi_X7_148 (pc := 5) dX7_erases_5 (C_X7_told (ok.1 21 (by decide))) (by decide) (Nat.le_of_ble_eq_true rfl) (fun z5 h5 u5 v5 q5 => ?_)
  obtain ⟨rfl, e⟩ := q5
  rw [e]
  refine zx_iret (pc := 8) dX7_erases_8 (fun o => by first | exact o.1 _ (by decide) | exact o.2 _ _ | omega) ?_
  exact ⟨rfl, rfl⟩
set_option maxRecDepth 100000 in
theorem C_X7_copies {h : zH} : kX7_copies h (fun r h2 => r = gs h 22 ∧ h2 = ps h 0 0) := by
  apply eX7_copies
  refine zx_ok (fun ok => ?_)
  refine zx_aload_n (pc := 0) dX7_copies_0 rfl rfl ?_
  refine zx_aload_n (pc := 1) dX7_copies_1 rfl rfl ?_
  refine zg_X7_120 (pc := 2) dX7_copies_2 ?_
  refine zi_X7_148 (pc := 5) dX7_copies_5 (C_X7_told (ok.1 22 (by decide))) (by decide) (Nat.le_of_ble_eq_true rfl) (fun z5 h5 u5 v5 q5 => ?_)
  obtain ⟨rfl, e⟩ := q5
  rw [e]
  refine zx_iret (pc := 8) dX7_copies_8 (fun o => by first | exact o.1 _ (by decide) | exact o.2 _ _ | omega) ?_
  exact ⟨rfl, rfl⟩
set_option maxRecDepth 100000 in
theorem C_X7_writes {h : zH} : kX7_writes h (fun r h2 => r = gs h 23 ∧ h2 = ps h 0 0) := by
  apply eX7_writes
  refine zx_ok (fun ok => ?_)
  refine zx_aload_n (pc := 0) dX7_writes_0 rfl rfl ?_
  refine zx_aload_n (pc := 1) dX7_writes_1 rfl rfl ?_
  refine zg_X7_123 (pc := 2) dX7_writes_2 ?_
  refine zi_X7_148 (pc := 5) dX7_writes_5 (C_X7_told (ok.1 23 (by decide))) (by decide) (Nat.le_of_ble_eq_true rfl) (fun z5 h5 u5 v5 q5 => ?_)
  obtain ⟨rfl, e⟩ := q5
  rw [e]
  refine zx_iret (pc := 8) dX7_writes_8 (fun o => by first | exact o.1 _ (by decide) | exact o.2 _ _ | omega) ?_
  exact ⟨rfl, rfl⟩
set_option maxRecDepth 100000 in
theorem C_X7_lastCheckpoint {h : zH} : kX7_lastCheckpoint h (fun r h2 => r = gs h 33 ∧ h2 = ps h 0 0) := by
  apply eX7_lastCheckpoint
  refine zx_ok (fun ok => ?_)
  refine zx_aload_n (pc := 0) dX7_lastCheckpoint_0 rfl rfl ?_
  refine zx_aload_n (pc := 1) dX7_lastCheckpoint_1 rfl rfl ?_
  refine zg_X7_89 (pc := 2) dX7_lastCheckpoint_2 ?_
  refine zi_X7_148 (pc := 5) dX7_lastCheckpoint_5 (C_X7_told (ok.1 33 (by decide))) (by decide) (Nat.le_of_ble_eq_true rfl) (fun z5 h5 u5 v5 q5 => ?_)
  obtain ⟨rfl, e⟩ := q5
  rw [e]
  refine zx_iret (pc := 8) dX7_lastCheckpoint_8 (fun o => by first | exact o.1 _ (by decide) | exact o.2 _ _ | omega) ?_
  exact ⟨rfl, rfl⟩
set_option maxRecDepth 100000 in
theorem C_X7_commits {h : zH} : kX7_commits h (fun r h2 => r = gs h 36 ∧ h2 = ps h 0 0) := by
  apply eX7_commits
  refine zx_ok (fun ok => ?_)
  refine zx_aload_n (pc := 0) dX7_commits_0 rfl rfl ?_
  refine zx_aload_n (pc := 1) dX7_commits_1 rfl rfl ?_
  refine zg_X7_98 (pc := 2) dX7_commits_2 ?_
  refine zi_X7_148 (pc := 5) dX7_commits_5 (C_X7_told (ok.1 36 (by decide))) (by decide) (Nat.le_of_ble_eq_true rfl) (fun z5 h5 u5 v5 q5 => ?_)
  obtain ⟨rfl, e⟩ := q5
  rw [e]
  refine zx_iret (pc := 8) dX7_commits_8 (fun o => by first | exact o.1 _ (by decide) | exact o.2 _ _ | omega) ?_
  exact ⟨rfl, rfl⟩
set_option maxRecDepth 100000 in
theorem C_X7_losses {h : zH} : kX7_losses h (fun r h2 => r = gs h 24 ∧ h2 = ps h 0 0) := by
  apply eX7_losses
  refine zx_ok (fun ok => ?_)
  refine zx_aload_n (pc := 0) dX7_losses_0 rfl rfl ?_
  refine zx_aload_n (pc := 1) dX7_losses_1 rfl rfl ?_
  refine zg_X7_108 (pc := 2) dX7_losses_2 ?_
  refine zi_X7_148 (pc := 5) dX7_losses_5 (C_X7_told (ok.1 24 (by decide))) (by decide) (Nat.le_of_ble_eq_true rfl) (fun z5 h5 u5 v5 q5 => ?_)
  obtain ⟨rfl, e⟩ := q5
  rw [e]
  refine zx_iret (pc := 8) dX7_losses_8 (fun o => by first | exact o.1 _ (by decide) | exact o.2 _ _ | omega) ?_
  exact ⟨rfl, rfl⟩
theorem ps_same (h : zH) (k : Nat) : ps h k (gs h k) = h := by
  apply zH_ext
  · intro j
    simp only [gs_ps]
    split
    · rename_i e; rw [e]
    · rfl
  · intro c i; rfl
noncomputable def m_victim (h : zH) : Int := ifp (gs h 26 = 0 ∨ m_fblk h = -1) (-1) (ifp (mFreeMany (ps h 32 (m_fblk h)) < 2) (m_vict (ps h 32 (m_fblk h))) (-1))
set_option maxRecDepth 100000 in
theorem C_X7_freeBlocks {h : zH} (hb : MB h) : kX7_freeBlocks h (fun r h2 => r = mFreeMany h ∧ h2 = ps h 0 0) := by
  have q := mFreeMany_r hb
  apply eX7_freeBlocks
  refine zx_aload_n (pc := 0) dX7_freeBlocks_0 rfl rfl ?_
  refine zx_aload_n (pc := 1) dX7_freeBlocks_1 rfl rfl ?_
  refine zi_X7_313 (pc := 2) dX7_freeBlocks_2 (C_X7_freeMany hb) (by decide) (Nat.le_of_ble_eq_true rfl) (fun z2 h2 u2 v2 q2 => ?_)
  obtain ⟨rfl, e2⟩ := q2
  rw [e2]
  clear e2 h2
  refine zi_X7_148 (pc := 5) dX7_freeBlocks_5 (C_X7_told (by omega)) (by decide) (Nat.le_of_ble_eq_true rfl) (fun z5 h5 u5 v5 q5 => ?_)
  obtain ⟨rfl, e5⟩ := q5
  rw [e5]
  clear e5 h5
  refine zx_iret (pc := 8) dX7_freeBlocks_8 (fun o => by first | exact o.1 _ (by decide) | exact o.2 _ _ | omega) ?_
  exact ⟨rfl, rfl⟩
theorem mValidAll_r2 {h : zH} (hb : MB h) : 0 ≤ mValidAll h ∧ mValidAll h ≤ 1024 := mValidAll_r hb (gs h 1).toNat (by have := hb.1; have := hb.2.1; omega)
set_option maxRecDepth 100000 in
theorem C_X7_validPages {h : zH} (hb : MB h) (hi : MI h) : kX7_validPages h (fun r h2 => r = mValidAll h ∧ h2 = ps h 0 0) := by
  have q := mValidAll_r2 hb
  apply eX7_validPages
  refine zx_aload_n (pc := 0) dX7_validPages_0 rfl rfl ?_
  refine zx_aload_n (pc := 1) dX7_validPages_1 rfl rfl ?_
  refine zi_X7_325 (pc := 2) dX7_validPages_2 (C_X7_validAll hb hi) (by decide) (Nat.le_of_ble_eq_true rfl) (fun z2 h2 u2 v2 q2 => ?_)
  obtain ⟨rfl, e2⟩ := q2
  rw [e2]
  clear e2 h2
  refine zi_X7_148 (pc := 5) dX7_validPages_5 (C_X7_told (by omega)) (by decide) (Nat.le_of_ble_eq_true rfl) (fun z5 h5 u5 v5 q5 => ?_)
  obtain ⟨rfl, e5⟩ := q5
  rw [e5]
  clear e5 h5
  refine zx_iret (pc := 8) dX7_validPages_8 (fun o => by first | exact o.1 _ (by decide) | exact o.2 _ _ | omega) ?_
  exact ⟨rfl, rfl⟩
noncomputable def m_q (h : zH) (p : Prop) (v : Int) : zH × Int := ifp p (ps h 0 0, v) (ps h 0 1, 0)
set_option maxRecDepth 100000 in
theorem C_X7_version {h : zH} (hb : MB h) {a1 : Int} (r1 : -2147483648 ≤ a1 ∧ a1 < 2147483648) : kX7_version a1 h (fun r h2 => r = (m_q h (mLg h a1) (ifp (gs h 26 = 0) (-1) (ga h 10 a1))).2 ∧ h2 = (m_q h (mLg h a1) (ifp (gs h 26 = 0) (-1) (ga h 10 a1))).1) := by
  have hb0 : MB (ps h 0 0) := hb
  have hL := hb.2.2.2.2
  have e26 : gs (ps h 0 0) 26 = gs h 26 := rfl
  apply eX7_version
  unfold m_q
  refine zx_aload_n (pc := 0) dX7_version_0 rfl rfl ?_
  refine zx_iconst (pc := 1) dX7_version_1 ?_
  refine zp_X7_69 (pc := 2) dX7_version_2 (fun o => by first | exact o.1 _ (by decide) | exact o.2 _ _ | omega) ?_
  refine zx_aload_n (pc := 5) dX7_version_5 rfl rfl ?_
  refine zx_iload_n (pc := 6) dX7_version_6 rfl rfl ?_
  refine zi_X7_359 (pc := 7) dX7_version_7 (C_X7_isLogical hb0 r1) (by decide) (Nat.le_of_ble_eq_true rfl) (fun z7 h7 u7 v7 q7 => ?_)
  obtain ⟨rfl, e7⟩ := q7
  rw [e7]
  clear e7 h7
  refine zx_if_ne (pc := 10) (tgt := 19) dX7_version_10 (by decide) (fun o => by first | exact o.1 _ (by decide) | exact o.2 _ _ | omega) (fun c10 => ?_) (fun c10 => ?_)
  · skip
    try replace c10 := b2i_n0.mp c10
    rw [mLg_0] at c10
    rw [ifp_t c10]
    have c10a := c10
    unfold mLg at c10a
    refine zx_aload_n (pc := 19) dX7_version_19 rfl rfl ?_
    refine zg_X7_104 (pc := 20) dX7_version_20 ?_
    refine zx_if_eq (pc := 23) (tgt := 35) dX7_version_23 (by decide) (fun o => by first | exact o.1 _ (by decide) | exact o.2 _ _ | omega) (fun c23 => ?_) (fun c23 => ?_)
    · skip
      rw [e26] at c23
      rw [ifp_t c23]
      refine zx_iconst (pc := 35) dX7_version_35 ?_
      refine zx_iret (pc := 36) dX7_version_36 (fun o => by first | exact o.1 _ (by decide) | exact o.2 _ _ | omega) ?_
      exact ⟨rfl, rfl⟩
    · skip
      rw [e26] at c23
      rw [ifp_f c23]
      refine zx_aload_n (pc := 26) dX7_version_26 rfl rfl ?_
      refine zg_X7_37 (pc := 27) dX7_version_27 ?_
      refine zx_iload_n (pc := 30) dX7_version_30 rfl rfl ?_
      refine zx_iaload (pc := 31) aX7_committed dX7_version_31 (by omega) (by omega) (by omega) ?_
      refine zx_goto (pc := 32) (tgt := 36) dX7_version_32 (by decide) ?_
      refine zx_iret (pc := 36) dX7_version_36 (fun o => by first | exact o.1 _ (by decide) | exact o.2 _ _ | omega) ?_
      exact ⟨rfl, rfl⟩
  · skip
    try replace c10 := b2i_0.mp c10
    rw [mLg_0] at c10
    rw [ifp_f c10]
    refine zx_aload_n (pc := 13) dX7_version_13 rfl rfl ?_
    refine zx_iconst (pc := 14) dX7_version_14 ?_
    refine zi_X7_138 (pc := 15) dX7_version_15 (C_X7_refuse2 (by decide)) (by decide) (Nat.le_of_ble_eq_true rfl) (fun z15 h15 u15 v15 q15 => ?_)
    obtain ⟨rfl, e15⟩ := q15
    rw [e15]
    clear e15 h15
    refine zx_iret (pc := 18) dX7_version_18 (fun o => by first | exact o.1 _ (by decide) | exact o.2 _ _ | omega) ?_
    exact ⟨rfl, ps_ps _ _ _ _⟩
set_option maxRecDepth 100000 in
theorem C_X7_lockedBy {h : zH} (hb : MB h) {a1 : Int} (r1 : -2147483648 ≤ a1 ∧ a1 < 2147483648) : kX7_lockedBy a1 h (fun r h2 => r = (m_q h (mLg h a1) (ga h 11 a1)).2 ∧ h2 = (m_q h (mLg h a1) (ga h 11 a1)).1) := by
  have hb0 : MB (ps h 0 0) := hb
  have hL := hb.2.2.2.2
  apply eX7_lockedBy
  unfold m_q
  refine zx_aload_n (pc := 0) dX7_lockedBy_0 rfl rfl ?_
  refine zx_iconst (pc := 1) dX7_lockedBy_1 ?_
  refine zp_X7_69 (pc := 2) dX7_lockedBy_2 (fun o => by first | exact o.1 _ (by decide) | exact o.2 _ _ | omega) ?_
  refine zx_aload_n (pc := 5) dX7_lockedBy_5 rfl rfl ?_
  refine zx_iload_n (pc := 6) dX7_lockedBy_6 rfl rfl ?_
  refine zi_X7_359 (pc := 7) dX7_lockedBy_7 (C_X7_isLogical hb0 r1) (by decide) (Nat.le_of_ble_eq_true rfl) (fun z7 h7 u7 v7 q7 => ?_)
  obtain ⟨rfl, e7⟩ := q7
  rw [e7]
  clear e7 h7
  refine zx_if_eq (pc := 10) (tgt := 22) dX7_lockedBy_10 (by decide) (fun o => by first | exact o.1 _ (by decide) | exact o.2 _ _ | omega) (fun c10 => ?_) (fun c10 => ?_)
  · skip
    try replace c10 := b2i_0.mp c10
    rw [mLg_0] at c10
    rw [ifp_f c10]
    refine zx_aload_n (pc := 22) dX7_lockedBy_22 rfl rfl ?_
    refine zx_iconst (pc := 23) dX7_lockedBy_23 ?_
    refine zi_X7_138 (pc := 24) dX7_lockedBy_24 (C_X7_refuse2 (by decide)) (by decide) (Nat.le_of_ble_eq_true rfl) (fun z24 h24 u24 v24 q24 => ?_)
    obtain ⟨rfl, e24⟩ := q24
    rw [e24]
    clear e24 h24
    refine zx_iret (pc := 27) dX7_lockedBy_27 (fun o => by first | exact o.1 _ (by decide) | exact o.2 _ _ | omega) ?_
    first | exact ⟨rfl, rfl⟩ | exact ⟨rfl, ps_ps _ _ _ _⟩
  · skip
    try replace c10 := b2i_n0.mp c10
    rw [mLg_0] at c10
    rw [ifp_t c10]
    have c10a := c10
    unfold mLg at c10a
    refine zx_aload_n (pc := 13) dX7_lockedBy_13 rfl rfl ?_
    refine zg_X7_40 (pc := 14) dX7_lockedBy_14 ?_
    refine zx_iload_n (pc := 17) dX7_lockedBy_17 rfl rfl ?_
    refine zx_iaload (pc := 18) aX7_locker dX7_lockedBy_18 (by omega) (by omega) (by omega) ?_
    refine zx_goto (pc := 19) (tgt := 27) dX7_lockedBy_19 (by decide) ?_
    refine zx_iret (pc := 27) dX7_lockedBy_27 (fun o => by first | exact o.1 _ (by decide) | exact o.2 _ _ | omega) ?_
    first | exact ⟨rfl, rfl⟩ | exact ⟨rfl, ps_ps _ _ _ _⟩
set_option maxRecDepth 100000 in
theorem C_X7_state {h : zH} (h2 : gs h 38 ≤ 1000) {a1 : Int} (r1 : -2147483648 ≤ a1 ∧ a1 < 2147483648) : kX7_state a1 h (fun r h2 => r = (m_q h (mTx h a1) (ga h 15 a1)).2 ∧ h2 = (m_q h (mTx h a1) (ga h 15 a1)).1) := by
  apply eX7_state
  unfold m_q
  refine zx_aload_n (pc := 0) dX7_state_0 rfl rfl ?_
  refine zx_iconst (pc := 1) dX7_state_1 ?_
  refine zp_X7_69 (pc := 2) dX7_state_2 (fun o => by first | exact o.1 _ (by decide) | exact o.2 _ _ | omega) ?_
  refine zx_aload_n (pc := 5) dX7_state_5 rfl rfl ?_
  refine zx_iload_n (pc := 6) dX7_state_6 rfl rfl ?_
  refine zi_X7_356 (pc := 7) dX7_state_7 (C_X7_isTransaction r1) (by decide) (Nat.le_of_ble_eq_true rfl) (fun z7 h7 u7 v7 q7 => ?_)
  obtain ⟨rfl, e7⟩ := q7
  rw [e7]
  clear e7 h7
  refine zx_if_eq (pc := 10) (tgt := 22) dX7_state_10 (by decide) (fun o => by first | exact o.1 _ (by decide) | exact o.2 _ _ | omega) (fun c10 => ?_) (fun c10 => ?_)
  · skip
    try replace c10 := b2i_0.mp c10
    rw [mTx_0] at c10
    rw [ifp_f c10]
    refine zx_aload_n (pc := 22) dX7_state_22 rfl rfl ?_
    refine zx_iconst (pc := 23) dX7_state_23 ?_
    refine zi_X7_138 (pc := 24) dX7_state_24 (C_X7_refuse2 (by decide)) (by decide) (Nat.le_of_ble_eq_true rfl) (fun z24 h24 u24 v24 q24 => ?_)
    obtain ⟨rfl, e24⟩ := q24
    rw [e24]
    clear e24 h24
    refine zx_iret (pc := 27) dX7_state_27 (fun o => by first | exact o.1 _ (by decide) | exact o.2 _ _ | omega) ?_
    first | exact ⟨rfl, rfl⟩ | exact ⟨rfl, ps_ps _ _ _ _⟩
  · skip
    try replace c10 := b2i_n0.mp c10
    rw [mTx_0] at c10
    rw [ifp_t c10]
    have c10a := c10
    unfold mTx at c10a
    refine zx_aload_n (pc := 13) dX7_state_13 rfl rfl ?_
    refine zg_X7_57 (pc := 14) dX7_state_14 ?_
    refine zx_iload_n (pc := 17) dX7_state_17 rfl rfl ?_
    refine zx_iaload (pc := 18) aX7_states dX7_state_18 (by omega) (by omega) (by omega) ?_
    refine zx_goto (pc := 19) (tgt := 27) dX7_state_19 (by decide) ?_
    refine zx_iret (pc := 27) dX7_state_27 (fun o => by first | exact o.1 _ (by decide) | exact o.2 _ _ | omega) ?_
    first | exact ⟨rfl, rfl⟩ | exact ⟨rfl, ps_ps _ _ _ _⟩
set_option maxRecDepth 100000 in
theorem C_X7_locks {h : zH} (hb : MB h) {a1 : Int} (r1 : -2147483648 ≤ a1 ∧ a1 < 2147483648) : kX7_locks a1 h (fun r h2 => r = (m_q h (mTx h a1) (mLocks h a1)).2 ∧ h2 = (m_q h (mTx h a1) (mLocks h a1)).1) := by
  have hb0 : MB (ps h 0 0) := hb
  apply eX7_locks
  unfold m_q
  refine zx_aload_n (pc := 0) dX7_locks_0 rfl rfl ?_
  refine zx_iconst (pc := 1) dX7_locks_1 ?_
  refine zp_X7_69 (pc := 2) dX7_locks_2 (fun o => by first | exact o.1 _ (by decide) | exact o.2 _ _ | omega) ?_
  refine zx_aload_n (pc := 5) dX7_locks_5 rfl rfl ?_
  refine zx_iload_n (pc := 6) dX7_locks_6 rfl rfl ?_
  refine zi_X7_356 (pc := 7) dX7_locks_7 (C_X7_isTransaction r1) (by decide) (Nat.le_of_ble_eq_true rfl) (fun z7 h7 u7 v7 q7 => ?_)
  obtain ⟨rfl, e7⟩ := q7
  rw [e7]
  clear e7 h7
  refine zx_if_eq (pc := 10) (tgt := 21) dX7_locks_10 (by decide) (fun o => by first | exact o.1 _ (by decide) | exact o.2 _ _ | omega) (fun c10 => ?_) (fun c10 => ?_)
  · skip
    try replace c10 := b2i_0.mp c10
    rw [mTx_0] at c10
    rw [ifp_f c10]
    refine zx_aload_n (pc := 21) dX7_locks_21 rfl rfl ?_
    refine zx_iconst (pc := 22) dX7_locks_22 ?_
    refine zi_X7_138 (pc := 23) dX7_locks_23 (C_X7_refuse2 (by decide)) (by decide) (Nat.le_of_ble_eq_true rfl) (fun z23 h23 u23 v23 q23 => ?_)
    obtain ⟨rfl, e23⟩ := q23
    rw [e23]
    clear e23 h23
    refine zx_iret (pc := 26) dX7_locks_26 (fun o => by first | exact o.1 _ (by decide) | exact o.2 _ _ | omega) ?_
    first | exact ⟨rfl, rfl⟩ | exact ⟨rfl, ps_ps _ _ _ _⟩
  · skip
    try replace c10 := b2i_n0.mp c10
    rw [mTx_0] at c10
    rw [ifp_t c10]
    refine zx_aload_n (pc := 13) dX7_locks_13 rfl rfl ?_
    refine zx_iload_n (pc := 14) dX7_locks_14 rfl rfl ?_
    refine zi_X7_374 (pc := 15) dX7_locks_15 (C_X7_locksOf hb0 r1) (by decide) (Nat.le_of_ble_eq_true rfl) (fun z15 h15 u15 v15 q15 => ?_)
    obtain ⟨rfl, e15⟩ := q15
    rw [e15]
    clear e15 h15
    refine zx_goto (pc := 18) (tgt := 26) dX7_locks_18 (by decide) ?_
    refine zx_iret (pc := 26) dX7_locks_26 (fun o => by first | exact o.1 _ (by decide) | exact o.2 _ _ | omega) ?_
    first | exact ⟨rfl, rfl⟩ | exact ⟨rfl, ps_ps _ _ _ _⟩
def mPlAt (h : zH) (p i : Int) : Prop := mDataAt h p (ga h 10 p) i ∧ mNewest h i
noncomputable def m_place (h : zH) (p : Int) : Int := ifp (gs h 26 ≠ 0 ∧ 0 < ga h 10 p) (ff (mPlAt h p) 0 (gs h 1 * gs h 2).toNat) (-1)
set_option maxRecDepth 100000 in
theorem L_X7_place {h : zH} (hb : MB h) {a1 : Int} (r1 : 0 ≤ a1) (r2 : a1 < 64) (Q : Int → zH → Prop) : ∀ (n : Nat) (i : Int), 0 ≤ i → i + n = gs h 1 * gs h 2 → Q (ifp (gs h 26 ≠ 0 ∧ 0 < ga h 10 a1) (ff (mPlAt h a1) i n) (-1)) h → zX cM zNo RX7 cX7_place 3 (some .int) rX7_place 21 [some (.ref 0), some (.int (iI a1)), some (.int (iI i))] [] h (zEi cM Q) := by
  have m7 := mb_size hb.1 hb.2.1 hb.2.2.1 hb.2.2.2.1
  intro n
  induction n with
  | zero =>
    intro i g1 g2 hQ
    have e : ifp (gs h 26 ≠ 0 ∧ 0 < ga h 10 a1) (ff (mPlAt h a1) i 0) (-1) = -1 := ifp_same
    rw [e] at hQ
    refine zx_iload_n (pc := 21) dX7_place_21 rfl rfl ?_
    refine zx_aload_n (pc := 22) dX7_place_22 rfl rfl ?_
    refine zi_X7_264 (pc := 23) dX7_place_23 (C_X7_flashSize hb) (by decide) (Nat.le_of_ble_eq_true rfl) (fun z23 h23 u23 v23 q23 => ?_)
    obtain ⟨rfl, e23⟩ := q23
    rw [e23]
    clear e23 h23
    refine zx_icmp_ge (pc := 26) (tgt := 96) dX7_place_26 (by decide) (fun o => by first | exact o.1 _ (by decide) | exact o.2 _ _ | omega) (fun o => by first | exact o.1 _ (by decide) | exact o.2 _ _ | omega) (fun c26 => ?_) (fun c26 => absurd c26 (by omega))
    refine zx_iconst (pc := 96) dX7_place_96 ?_
    refine zx_iret (pc := 97) dX7_place_97 (fun o => by first | exact o.1 _ (by decide) | exact o.2 _ _ | omega) ?_
    exact hQ
  | succ n ih =>
    intro i g1 g2 hQ
    rw [ff] at hQ
    refine zx_iload_n (pc := 21) dX7_place_21 rfl rfl ?_
    refine zx_aload_n (pc := 22) dX7_place_22 rfl rfl ?_
    refine zi_X7_264 (pc := 23) dX7_place_23 (C_X7_flashSize hb) (by decide) (Nat.le_of_ble_eq_true rfl) (fun z23 h23 u23 v23 q23 => ?_)
    obtain ⟨rfl, e23⟩ := q23
    rw [e23]
    clear e23 h23
    refine zx_icmp_ge (pc := 26) (tgt := 96) dX7_place_26 (by decide) (fun o => by first | exact o.1 _ (by decide) | exact o.2 _ _ | omega) (fun o => by first | exact o.1 _ (by decide) | exact o.2 _ _ | omega) (fun c26 => absurd c26 (by omega)) (fun c26 => ?_)
    refine zx_aload_n (pc := 29) dX7_place_29 rfl rfl ?_
    refine zg_X7_104 (pc := 30) dX7_place_30 ?_
    refine zx_if_eq (pc := 33) (tgt := 96) dX7_place_33 (by decide) (fun o => by first | exact o.1 _ (by decide) | exact o.2 _ _ | omega) (fun c33 => ?_) (fun c33 => ?_)
    · skip
      rw [ifp_f (fun z => z.1 c33)] at hQ
      refine zx_iconst (pc := 96) dX7_place_96 ?_
      refine zx_iret (pc := 97) dX7_place_97 (fun o => by first | exact o.1 _ (by decide) | exact o.2 _ _ | omega) ?_
      exact hQ
    · skip
      refine zx_aload_n (pc := 36) dX7_place_36 rfl rfl ?_
      refine zg_X7_37 (pc := 37) dX7_place_37 ?_
      refine zx_iload_n (pc := 40) dX7_place_40 rfl rfl ?_
      refine zx_iaload (pc := 41) aX7_committed dX7_place_41 (by omega) (by omega) (by omega) ?_
      refine zx_if_le (pc := 42) (tgt := 96) dX7_place_42 (by decide) (fun o => by first | exact o.1 _ (by decide) | exact o.2 _ _ | omega) (fun c42 => ?_) (fun c42 => ?_)
      · skip
        rw [ifp_f (fun z => by have := z.2; omega)] at hQ
        refine zx_iconst (pc := 96) dX7_place_96 ?_
        refine zx_iret (pc := 97) dX7_place_97 (fun o => by first | exact o.1 _ (by decide) | exact o.2 _ _ | omega) ?_
        exact hQ
      · skip
        refine zx_aload_n (pc := 45) dX7_place_45 rfl rfl ?_
        refine zg_X7_13 (pc := 46) dX7_place_46 ?_
        refine zx_iload_n (pc := 49) dX7_place_49 rfl rfl ?_
        refine zx_iaload (pc := 50) aX7_kind dX7_place_50 (by omega) (by omega) (by omega) ?_
        refine zx_iconst (pc := 51) dX7_place_51 ?_
        refine zx_icmp_ne (pc := 52) (tgt := 90) dX7_place_52 (by decide) (fun o => by first | exact o.1 _ (by decide) | exact o.2 _ _ | omega) (fun o => by first | exact o.1 _ (by decide) | exact o.2 _ _ | omega) (fun c52 => ?_) (fun c52 => ?_)
        · skip
          rw [ifp_f (p := mPlAt h a1 i) (fun z => c52 z.1.1)] at hQ
          refine zx_iinc (pc := 90) dX7_place_90 (by decide) rfl rfl ?_
          refine zx_goto (pc := 93) (tgt := 21) dX7_place_93 (by decide) ?_
          exact ih (i + 1) (by omega) (by omega) hQ
        · skip
          refine zx_aload_n (pc := 55) dX7_place_55 rfl rfl ?_
          refine zg_X7_16 (pc := 56) dX7_place_56 ?_
          refine zx_iload_n (pc := 59) dX7_place_59 rfl rfl ?_
          refine zx_iaload (pc := 60) aX7_index dX7_place_60 (by omega) (by omega) (by omega) ?_
          refine zx_iload_n (pc := 61) dX7_place_61 rfl rfl ?_
          refine zx_icmp_ne (pc := 62) (tgt := 90) dX7_place_62 (by decide) (fun o => by first | exact o.1 _ (by decide) | exact o.2 _ _ | omega) (fun o => by first | exact o.1 _ (by decide) | exact o.2 _ _ | omega) (fun c62 => ?_) (fun c62 => ?_)
          · skip
            rw [ifp_f (p := mPlAt h a1 i) (fun z => c62 z.1.2.1)] at hQ
            refine zx_iinc (pc := 90) dX7_place_90 (by decide) rfl rfl ?_
            refine zx_goto (pc := 93) (tgt := 21) dX7_place_93 (by decide) ?_
            exact ih (i + 1) (by omega) (by omega) hQ
          · skip
            refine zx_aload_n (pc := 65) dX7_place_65 rfl rfl ?_
            refine zg_X7_22 (pc := 66) dX7_place_66 ?_
            refine zx_iload_n (pc := 69) dX7_place_69 rfl rfl ?_
            refine zx_iaload (pc := 70) aX7_version dX7_place_70 (by omega) (by omega) (by omega) ?_
            refine zx_aload_n (pc := 71) dX7_place_71 rfl rfl ?_
            refine zg_X7_37 (pc := 72) dX7_place_72 ?_
            refine zx_iload_n (pc := 75) dX7_place_75 rfl rfl ?_
            refine zx_iaload (pc := 76) aX7_committed dX7_place_76 (by omega) (by omega) (by omega) ?_
            refine zx_icmp_ne (pc := 77) (tgt := 90) dX7_place_77 (by decide) (fun o => by first | exact o.1 _ (by decide) | exact o.2 _ _ | omega) (fun o => by first | exact o.1 _ (by decide) | exact o.2 _ _ | omega) (fun c77 => ?_) (fun c77 => ?_)
            · skip
              rw [ifp_f (p := mPlAt h a1 i) (fun z => c77 z.1.2.2)] at hQ
              refine zx_iinc (pc := 90) dX7_place_90 (by decide) rfl rfl ?_
              refine zx_goto (pc := 93) (tgt := 21) dX7_place_93 (by decide) ?_
              exact ih (i + 1) (by omega) (by omega) hQ
            · skip
              refine zx_aload_n (pc := 80) dX7_place_80 rfl rfl ?_
              refine zx_iload_n (pc := 81) dX7_place_81 rfl rfl ?_
              refine zi_X7_273 (pc := 82) dX7_place_82 (C_X7_isNewest hb g1 (by omega)) (by decide) (Nat.le_of_ble_eq_true rfl) (fun z82 h82 u82 v82 q82 => ?_)
              obtain ⟨rfl, e82⟩ := q82
              rw [e82]
              clear e82 h82
              refine zx_if_eq (pc := 85) (tgt := 90) dX7_place_85 (by decide) (fun o => by first | exact o.1 _ (by decide) | exact o.2 _ _ | omega) (fun c85 => ?_) (fun c85 => ?_)
              · skip
                try replace c85 := b2i_0.mp c85
                rw [ifp_f (p := mPlAt h a1 i) (fun z => c85 z.2)] at hQ
                refine zx_iinc (pc := 90) dX7_place_90 (by decide) rfl rfl ?_
                refine zx_goto (pc := 93) (tgt := 21) dX7_place_93 (by decide) ?_
                exact ih (i + 1) (by omega) (by omega) hQ
              · skip
                try replace c85 := b2i_n0.mp c85
                rw [ifp_t (p := mPlAt h a1 i) ⟨⟨c52, c62, c77⟩, c85⟩, ifp_t ⟨c33, c42⟩] at hQ
                refine zx_iload_n (pc := 88) dX7_place_88 rfl rfl ?_
                refine zx_iret (pc := 89) dX7_place_89 (fun o => by first | exact o.1 _ (by decide) | exact o.2 _ _ | omega) ?_
                exact hQ
set_option maxRecDepth 100000 in
theorem C_X7_place {h : zH} (hb : MB h) {a1 : Int} (r1 : -2147483648 ≤ a1 ∧ a1 < 2147483648) : kX7_place a1 h (fun r h2 => r = (m_q h (mLg h a1) (m_place h a1)).2 ∧ h2 = (m_q h (mLg h a1) (m_place h a1)).1) := by
  have hb0 : MB (ps h 0 0) := hb
  have hL := hb.2.2.2.2
  have m7 := mb_size hb.1 hb.2.1 hb.2.2.1 hb.2.2.2.1
  apply eX7_place
  unfold m_q
  refine zx_aload_n (pc := 0) dX7_place_0 rfl rfl ?_
  refine zx_iconst (pc := 1) dX7_place_1 ?_
  refine zp_X7_69 (pc := 2) dX7_place_2 (fun o => by first | exact o.1 _ (by decide) | exact o.2 _ _ | omega) ?_
  refine zx_aload_n (pc := 5) dX7_place_5 rfl rfl ?_
  refine zx_iload_n (pc := 6) dX7_place_6 rfl rfl ?_
  refine zi_X7_359 (pc := 7) dX7_place_7 (C_X7_isLogical hb0 r1) (by decide) (Nat.le_of_ble_eq_true rfl) (fun z7 h7 u7 v7 q7 => ?_)
  obtain ⟨rfl, e7⟩ := q7
  rw [e7]
  clear e7 h7
  refine zx_if_ne (pc := 10) (tgt := 19) dX7_place_10 (by decide) (fun o => by first | exact o.1 _ (by decide) | exact o.2 _ _ | omega) (fun c10 => ?_) (fun c10 => ?_)
  · skip
    try replace c10 := b2i_n0.mp c10
    rw [mLg_0] at c10
    rw [ifp_t c10]
    have c10a := c10
    unfold mLg at c10a
    refine zx_iconst (pc := 19) dX7_place_19 ?_
    refine zx_istore_n (pc := 20) dX7_place_20 rfl (by decide) rfl ?_
    exact L_X7_place hb0 c10a.1 (by omega) (fun r h2 => r = m_place h a1 ∧ h2 = ps h 0 0) (gs h 1 * gs h 2).toNat 0 (Int.le_refl _) (by show 0 + _ = gs h 1 * gs h 2; omega) ⟨rfl, rfl⟩
  · skip
    try replace c10 := b2i_0.mp c10
    rw [mLg_0] at c10
    rw [ifp_f c10]
    refine zx_aload_n (pc := 13) dX7_place_13 rfl rfl ?_
    refine zx_iconst (pc := 14) dX7_place_14 ?_
    refine zi_X7_138 (pc := 15) dX7_place_15 (C_X7_refuse2 (by decide)) (by decide) (Nat.le_of_ble_eq_true rfl) (fun z15 h15 u15 v15 q15 => ?_)
    obtain ⟨rfl, e15⟩ := q15
    rw [e15]
    clear e15 h15
    refine zx_iret (pc := 18) dX7_place_18 (fun o => by first | exact o.1 _ (by decide) | exact o.2 _ _ | omega) ?_
    exact ⟨rfl, ps_ps _ _ _ _⟩
noncomputable def mBits (h : zH) : Nat → Int
  | 0 => 0
  | n + 1 => mBits h n + ifp (ga h 14 n ≠ 0) (2 ^ n) 0
theorem mBits_r (h : zH) : ∀ n : Nat, 0 ≤ mBits h n ∧ mBits h n < 2 ^ n
  | 0 => by simp [mBits]
  | n + 1 => by
    have q := mBits_r h n
    rw [mBits, Int.pow_succ]
    rcases Classical.em (ga h 14 n ≠ 0) with c | c
    · rw [ifp_t c]; omega
    · rw [ifp_f c]; omega
theorem rd_or : ∀ i : Fin 4, ∀ c : Fin 16, c.val < 2 ^ i.val → iI (c.val : Int) ||| (iI 1 <<< (iI (i.val : Int) &&& 31)) = iI ((c.val : Int) + 2 ^ i.val) := by decide +kernel
theorem rd_or2 {i c : Int} (h1 : 0 ≤ i) (h2 : i < 4) (h3 : 0 ≤ c) (h4 : c < 2 ^ i.toNat) : iI c ||| (iI 1 <<< (iI i &&& 31)) = iI (c + 2 ^ i.toNat) := by
  have h5 : c < 16 := by
    have : i.toNat = 0 ∨ i.toNat = 1 ∨ i.toNat = 2 ∨ i.toNat = 3 := by omega
    rcases this with e | e | e | e <;> rw [e] at h4 <;> omega
  have q := rd_or ⟨i.toNat, by omega⟩ ⟨c.toNat, by omega⟩ (by
    show c.toNat < 2 ^ i.toNat
    have e : ((2 ^ i.toNat : Nat) : Int) = 2 ^ i.toNat := by simp
    omega)
  have e1 : ((c.toNat : Nat) : Int) = c := by omega
  have e2 : ((i.toNat : Nat) : Int) = i := by omega
  simp only [e1, e2] at q
  exact q
set_option maxRecDepth 100000 in
theorem L_X7_readers {h : zH} (Q : Int → zH → Prop) (hQ : Q (mBits h 4) h) : ∀ (n : Nat) (i c : Int), 0 ≤ i → i ≤ 4 → 4 - i < n → c = mBits h i.toNat → zX cM zNo RX7 cX7_readers 3 (some .int) rX7_readers 9 [some (.ref 0), some (.int (iI c)), some (.int (iI i))] [] h (zEi cM Q) := by
  intro n
  induction n with
  | zero => intro i c g1 g2 g3; omega
  | succ n ih =>
    intro i c g1 g2 g3 g4
    have g5 := mBits_r h i.toNat
    rw [← g4] at g5
    obtain ⟨g6, g7⟩ := toNat_next g1
    have g8 : mBits h (i + 1).toNat = c + ifp (ga h 14 i ≠ 0) (2 ^ i.toNat) 0 := by rw [g6, mBits, g7, g4]
    have g9 : c < 16 := by
      have : i.toNat = 0 ∨ i.toNat = 1 ∨ i.toNat = 2 ∨ i.toNat = 3 ∨ i.toNat = 4 := by omega
      have w := g5.2
      rcases this with e | e | e | e | e <;> rw [e] at w <;> omega
    refine zx_iload_n (pc := 9) dX7_readers_9 rfl rfl ?_
    refine zx_iconst (pc := 10) dX7_readers_10 ?_
    refine zx_icmp_ge (pc := 11) (tgt := 39) dX7_readers_11 (by decide) (fun o => by first | exact o.1 _ (by decide) | exact o.2 _ _ | omega) (fun o => by first | exact o.1 _ (by decide) | exact o.2 _ _ | omega) (fun c11 => ?_) (fun c11 => ?_)
    · skip
      refine zx_iload_n (pc := 39) dX7_readers_39 rfl rfl ?_
      refine zx_iret (pc := 40) dX7_readers_40 (fun o => by first | exact o.1 _ (by decide) | exact o.2 _ _ | omega) ?_
      have e : i = 4 := by omega
      rw [g4, e]
      exact hQ
    · skip
      refine zx_aload_n (pc := 14) dX7_readers_14 rfl rfl ?_
      refine zg_X7_49 (pc := 15) dX7_readers_15 ?_
      refine zx_iload_n (pc := 18) dX7_readers_18 rfl rfl ?_
      refine zx_baload (pc := 19) aX7_isReader dX7_readers_19 (by omega) (by omega) (by omega) ?_
      refine zx_if_eq (pc := 20) (tgt := 31) dX7_readers_20 (by decide) (fun o => by first | exact o.1 _ (by decide) | exact o.2 _ _ | omega) (fun c20 => ?_) (fun c20 => ?_)
      · skip
        refine zx_iload_n (pc := 31) dX7_readers_31 rfl rfl ?_
        refine zx_istore_n (pc := 32) dX7_readers_32 rfl (by decide) rfl ?_
        refine zx_iinc (pc := 33) dX7_readers_33 (by decide) rfl rfl ?_
        refine zx_goto (pc := 36) (tgt := 9) dX7_readers_36 (by decide) ?_
        exact ih (i + 1) _ (by omega) (by omega) (by omega) (by first | rw [g8, ifp_t c20] | rw [g8, ifp_f (fun z => z c20), Int.add_zero])
      · skip
        refine zx_iload_n (pc := 23) dX7_readers_23 rfl rfl ?_
        refine zx_iconst (pc := 24) dX7_readers_24 ?_
        refine zx_iload_n (pc := 25) dX7_readers_25 rfl rfl ?_
        refine zx_ishl (pc := 26) dX7_readers_26 rfl ?_
        refine zx_ior (pc := 27) dX7_readers_27 (rd_or2 g1 c11 g5.1 g5.2) ?_
        refine zx_goto (pc := 28) (tgt := 32) dX7_readers_28 (by decide) ?_
        refine zx_istore_n (pc := 32) dX7_readers_32 rfl (by decide) rfl ?_
        refine zx_iinc (pc := 33) dX7_readers_33 (by decide) rfl rfl ?_
        refine zx_goto (pc := 36) (tgt := 9) dX7_readers_36 (by decide) ?_
        exact ih (i + 1) _ (by omega) (by omega) (by omega) (by first | rw [g8, ifp_t c20] | rw [g8, ifp_f (fun z => z c20), Int.add_zero])
set_option maxRecDepth 100000 in
theorem C_X7_readers {h : zH} : kX7_readers h (fun r h2 => r = mBits h 4 ∧ h2 = ps h 0 0) := by
  apply eX7_readers
  refine zx_aload_n (pc := 0) dX7_readers_0 rfl rfl ?_
  refine zx_iconst (pc := 1) dX7_readers_1 ?_
  refine zp_X7_69 (pc := 2) dX7_readers_2 (fun o => by first | exact o.1 _ (by decide) | exact o.2 _ _ | omega) ?_
  refine zx_iconst (pc := 5) dX7_readers_5 ?_
  refine zx_istore_n (pc := 6) dX7_readers_6 rfl (by decide) rfl ?_
  refine zx_iconst (pc := 7) dX7_readers_7 ?_
  refine zx_istore_n (pc := 8) dX7_readers_8 rfl (by decide) rfl ?_
  exact L_X7_readers (h := ps h 0 0) (fun r h2 => r = mBits h 4 ∧ h2 = ps h 0 0) ⟨rfl, rfl⟩ 5 0 _ (Int.le_refl _) (by omega) (by omega) rfl
noncomputable def m_block (h : zH) (b w : Int) : zH × Int := ifp (0 ≤ b ∧ b < gs h 1) (ifp (w = 0) (ps h 0 0, ga h 9 b) (ifp (w = 1) (ps h 0 0, gs h 2 - mFreeIn h b) (ifp (w = 2) (ps h 0 0, mValidIn h b) (ifp (w = 3) (ps h 0 0, mKind h b 5) (ps h 0 2, 0))))) (ps h 0 1, 0)
set_option maxRecDepth 100000 in
theorem C_X7_block {h : zH} (hb : MB h) (hi : MI h) {a1 a2 : Int} (r1 : -2147483648 ≤ a1 ∧ a1 < 2147483648) (r2 : -2147483648 ≤ a2 ∧ a2 < 2147483648) : kX7_block a1 a2 h (fun r h2 => r = (m_block h a1 a2).2 ∧ h2 = (m_block h a1 a2).1) := by
  have hb0 : MB (ps h 0 0) := hb
  have hi0 : MI (ps h 0 0) := hi
  have hB := hb.2.1
  have e1 : gs (ps h 0 0) 1 = gs h 1 := rfl
  have q1 := mFreeIn_r hb0 a1
  have q2 := hb.2.2.2.1
  have q3 : gs (ps h 0 0) 2 = gs h 2 := rfl
  apply eX7_block
  unfold m_block
  refine zx_aload_n (pc := 0) dX7_block_0 rfl rfl ?_
  refine zx_iconst (pc := 1) dX7_block_1 ?_
  refine zp_X7_69 (pc := 2) dX7_block_2 (fun o => by first | exact o.1 _ (by decide) | exact o.2 _ _ | omega) ?_
  refine zx_aload_n (pc := 5) dX7_block_5 rfl rfl ?_
  refine zx_iload_n (pc := 6) dX7_block_6 rfl rfl ?_
  refine zi_X7_416 (pc := 7) dX7_block_7 (C_X7_isBlock hb0 r1) (by decide) (Nat.le_of_ble_eq_true rfl) (fun z7 h7 u7 v7 q7 => ?_)
  obtain ⟨rfl, e7⟩ := q7
  rw [e7]
  clear e7 h7
  refine zx_if_ne (pc := 10) (tgt := 19) dX7_block_10 (by decide) (fun o => by first | exact o.1 _ (by decide) | exact o.2 _ _ | omega) (fun c10 => ?_) (fun c10 => ?_)
  · skip
    try replace c10 := b2i_n0.mp c10
    rw [ifp_t (show 0 ≤ a1 ∧ a1 < gs h 1 from c10)]
    have c10a : 0 ≤ a1 ∧ a1 < gs h 1 := c10
    refine zx_iload_n (pc := 19) dX7_block_19 rfl rfl ?_
    rcases (show a2 = 0 ∨ a2 = 1 ∨ a2 = 2 ∨ a2 = 3 ∨ (a2 < 0 ∨ 3 < a2) by omega) with sw | sw | sw | sw | sw
    · skip
      refine zx_swIn (pc := 20) (tgt := 52) dX7_block_20 (fun o => by first | exact o.1 _ (by decide) | exact o.2 _ _ | omega) (by omega) (by omega) (by rw [sw]; rfl) (by decide) ?_
      rw [ifp_t sw]
      refine zx_aload_n (pc := 52) dX7_block_52 rfl rfl ?_
      refine zg_X7_34 (pc := 53) dX7_block_53 ?_
      refine zx_iload_n (pc := 56) dX7_block_56 rfl rfl ?_
      refine zx_iaload (pc := 57) aX7_eraseCount dX7_block_57 (by omega) (by omega) (by omega) ?_
      refine zx_iret (pc := 58) dX7_block_58 (fun o => by first | exact o.1 _ (by decide) | exact o.2 _ _ | omega) ?_
      first | exact ⟨rfl, rfl⟩ | exact ⟨rfl, ps_ps _ _ _ _⟩
    · skip
      refine zx_swIn (pc := 20) (tgt := 59) dX7_block_20 (fun o => by first | exact o.1 _ (by decide) | exact o.2 _ _ | omega) (by omega) (by omega) (by rw [sw]; rfl) (by decide) ?_
      rw [ifp_f (by omega), ifp_t sw]
      refine zx_aload_n (pc := 59) dX7_block_59 rfl rfl ?_
      refine zg_X7_82 (pc := 60) dX7_block_60 ?_
      refine zx_aload_n (pc := 63) dX7_block_63 rfl rfl ?_
      refine zx_iload_n (pc := 64) dX7_block_64 rfl rfl ?_
      refine zi_X7_285 (pc := 65) dX7_block_65 (C_X7_freeIn hb0 c10.1 c10.2) (by decide) (Nat.le_of_ble_eq_true rfl) (fun z65 h65 u65 v65 q65 => ?_)
      obtain ⟨rfl, e65⟩ := q65
      rw [e65]
      clear e65 h65
      refine zx_isub (pc := 68) dX7_block_68 ?_
      refine zx_iret (pc := 69) dX7_block_69 (fun o => by first | exact o.1 _ (by decide) | exact o.2 _ _ | omega) ?_
      first | exact ⟨rfl, rfl⟩ | exact ⟨rfl, ps_ps _ _ _ _⟩
    · skip
      refine zx_swIn (pc := 20) (tgt := 70) dX7_block_20 (fun o => by first | exact o.1 _ (by decide) | exact o.2 _ _ | omega) (by omega) (by omega) (by rw [sw]; rfl) (by decide) ?_
      rw [ifp_f (by omega), ifp_f (by omega), ifp_t sw]
      refine zx_aload_n (pc := 70) dX7_block_70 rfl rfl ?_
      refine zx_iload_n (pc := 71) dX7_block_71 rfl rfl ?_
      refine zi_X7_279 (pc := 72) dX7_block_72 (C_X7_validIn hb0 hi0 c10.1 c10.2) (by decide) (Nat.le_of_ble_eq_true rfl) (fun z72 h72 u72 v72 q72 => ?_)
      obtain ⟨rfl, e72⟩ := q72
      rw [e72]
      clear e72 h72
      refine zx_iret (pc := 75) dX7_block_75 (fun o => by first | exact o.1 _ (by decide) | exact o.2 _ _ | omega) ?_
      first | exact ⟨rfl, rfl⟩ | exact ⟨rfl, ps_ps _ _ _ _⟩
    · skip
      refine zx_swIn (pc := 20) (tgt := 76) dX7_block_20 (fun o => by first | exact o.1 _ (by decide) | exact o.2 _ _ | omega) (by omega) (by omega) (by rw [sw]; rfl) (by decide) ?_
      rw [ifp_f (by omega), ifp_f (by omega), ifp_f (by omega), ifp_t sw]
      refine zx_aload_n (pc := 76) dX7_block_76 rfl rfl ?_
      refine zx_iload_n (pc := 77) dX7_block_77 rfl rfl ?_
      refine zx_iconst (pc := 78) dX7_block_78 ?_
      refine zi_X7_282 (pc := 79) dX7_block_79 (C_X7_kindMany hb0 c10.1 c10.2 (by omega)) (by decide) (Nat.le_of_ble_eq_true rfl) (fun z79 h79 u79 v79 q79 => ?_)
      obtain ⟨rfl, e79⟩ := q79
      rw [e79]
      clear e79 h79
      refine zx_iret (pc := 82) dX7_block_82 (fun o => by first | exact o.1 _ (by decide) | exact o.2 _ _ | omega) ?_
      first | exact ⟨rfl, rfl⟩ | exact ⟨rfl, ps_ps _ _ _ _⟩
    · skip
      refine zx_swOut (pc := 20) (tgt := 83) dX7_block_20 (fun o => by first | exact o.1 _ (by decide) | exact o.2 _ _ | omega) sw (by decide) ?_
      rw [ifp_f (by omega), ifp_f (by omega), ifp_f (by omega), ifp_f (by omega)]
      refine zx_aload_n (pc := 83) dX7_block_83 rfl rfl ?_
      refine zx_iconst (pc := 84) dX7_block_84 ?_
      refine zi_X7_138 (pc := 85) dX7_block_85 (C_X7_refuse2 (by decide)) (by decide) (Nat.le_of_ble_eq_true rfl) (fun z85 h85 u85 v85 q85 => ?_)
      obtain ⟨rfl, e85⟩ := q85
      rw [e85]
      clear e85 h85
      refine zx_iret (pc := 88) dX7_block_88 (fun o => by first | exact o.1 _ (by decide) | exact o.2 _ _ | omega) ?_
      first | exact ⟨rfl, rfl⟩ | exact ⟨rfl, ps_ps _ _ _ _⟩
  · skip
    try replace c10 := b2i_0.mp c10
    rw [ifp_f (show ¬ (0 ≤ a1 ∧ a1 < gs h 1) from c10)]
    refine zx_aload_n (pc := 13) dX7_block_13 rfl rfl ?_
    refine zx_iconst (pc := 14) dX7_block_14 ?_
    refine zi_X7_138 (pc := 15) dX7_block_15 (C_X7_refuse2 (by decide)) (by decide) (Nat.le_of_ble_eq_true rfl) (fun z15 h15 u15 v15 q15 => ?_)
    obtain ⟨rfl, e15⟩ := q15
    rw [e15]
    clear e15 h15
    refine zx_iret (pc := 18) dX7_block_18 (fun o => by first | exact o.1 _ (by decide) | exact o.2 _ _ | omega) ?_
    first | exact ⟨rfl, rfl⟩ | exact ⟨rfl, ps_ps _ _ _ _⟩
noncomputable def m_fpage (h : zH) (i w : Int) : Int := ifp (w = 0) (ga h 2 i) (ifp (w = 5) (ifp (ga h 2 i = 1) (ga h 7 i) (-2)) (ifp (mProgd h i) (ifp (w = 1) (ga h 3 i) (ifp (w = 2) (ga h 4 i) (ifp (w = 3) (ga h 5 i) (ga h 6 i)))) (-1)))
noncomputable def m_flashPage (h : zH) (i w : Int) : zH × Int := ifp (0 ≤ i ∧ i < gs h 1 * gs h 2) (ifp (0 ≤ w ∧ w ≤ 5) (ps h 0 0, m_fpage h i w) (ps h 0 2, 0)) (ps h 0 1, 0)
set_option maxRecDepth 100000 in
theorem C_X7_flashPage {h : zH} (hb : MB h) {a1 a2 : Int} (r1 : -2147483648 ≤ a1 ∧ a1 < 2147483648) (r2 : -2147483648 ≤ a2 ∧ a2 < 2147483648) : kX7_flashPage a1 a2 h (fun r h2 => r = (m_flashPage h a1 a2).2 ∧ h2 = (m_flashPage h a1 a2).1) := by
  have hb0 : MB (ps h 0 0) := hb
  have m7 := mb_size hb.1 hb.2.1 hb.2.2.1 hb.2.2.2.1
  have e1 : gs (ps h 0 0) 1 * gs (ps h 0 0) 2 = gs h 1 * gs h 2 := rfl
  apply eX7_flashPage
  refine zx_ok (fun ok => ?_)
  unfold m_flashPage m_fpage
  refine zx_aload_n (pc := 0) dX7_flashPage_0 rfl rfl ?_
  refine zx_iconst (pc := 1) dX7_flashPage_1 ?_
  refine zp_X7_69 (pc := 2) dX7_flashPage_2 (fun o => by first | exact o.1 _ (by decide) | exact o.2 _ _ | omega) ?_
  refine zx_iload_n (pc := 5) dX7_flashPage_5 rfl rfl ?_
  refine zx_iconst (pc := 6) dX7_flashPage_6 ?_
  refine zx_aload_n (pc := 7) dX7_flashPage_7 rfl rfl ?_
  refine zi_X7_264 (pc := 8) dX7_flashPage_8 (C_X7_flashSize hb0) (by decide) (Nat.le_of_ble_eq_true rfl) (fun z8 h8 u8 v8 q8 => ?_)
  obtain ⟨rfl, e8⟩ := q8
  rw [e8]
  clear e8 h8
  refine zx_iconst (pc := 11) dX7_flashPage_11 ?_
  refine zx_isub (pc := 12) dX7_flashPage_12 ?_
  refine zi_X7_85 (pc := 13) dX7_flashPage_13 (C_X7_in (by omega) (by omega) (by omega)) (by decide) (Nat.le_of_ble_eq_true rfl) (fun z13 h13 u13 v13 q13 => ?_)
  obtain ⟨rfl, e13⟩ := q13
  rw [e13]
  clear e13 h13
  refine zx_if_ne (pc := 16) (tgt := 25) dX7_flashPage_16 (by decide) (fun o => by first | exact o.1 _ (by decide) | exact o.2 _ _ | omega) (fun c16 => ?_) (fun c16 => ?_)
  · skip
    try replace c16 := b2i_n0.mp c16
    have c16a : 0 ≤ a1 ∧ a1 < gs h 1 * gs h 2 := by omega
    rw [ifp_t c16a]
    refine zx_iload_n (pc := 25) dX7_flashPage_25 rfl rfl ?_
    refine zx_iconst (pc := 26) dX7_flashPage_26 ?_
    refine zx_iconst (pc := 27) dX7_flashPage_27 ?_
    refine zi_X7_85 (pc := 28) dX7_flashPage_28 (C_X7_in (by omega) (by omega) (by omega)) (by decide) (Nat.le_of_ble_eq_true rfl) (fun z28 h28 u28 v28 q28 => ?_)
    obtain ⟨rfl, e28⟩ := q28
    rw [e28]
    clear e28 h28
    refine zx_if_ne (pc := 31) (tgt := 40) dX7_flashPage_31 (by decide) (fun o => by first | exact o.1 _ (by decide) | exact o.2 _ _ | omega) (fun c31 => ?_) (fun c31 => ?_)
    · skip
      try replace c31 := b2i_n0.mp c31
      rw [ifp_t c31]
      refine zx_iload_n (pc := 40) dX7_flashPage_40 rfl rfl ?_
      refine zx_if_ne (pc := 41) (tgt := 51) dX7_flashPage_41 (by decide) (fun o => by first | exact o.1 _ (by decide) | exact o.2 _ _ | omega) (fun c41 => ?_) (fun c41 => ?_)
      · skip
        rw [ifp_f c41]
        refine zx_iload_n (pc := 51) dX7_flashPage_51 rfl rfl ?_
        refine zx_iconst (pc := 52) dX7_flashPage_52 ?_
        refine zx_icmp_ne (pc := 53) (tgt := 78) dX7_flashPage_53 (by decide) (fun o => by first | exact o.1 _ (by decide) | exact o.2 _ _ | omega) (fun o => by first | exact o.1 _ (by decide) | exact o.2 _ _ | omega) (fun c53 => ?_) (fun c53 => ?_)
        · skip
          rw [ifp_f c53]
          refine zx_aload_n (pc := 78) dX7_flashPage_78 rfl rfl ?_
          refine zx_iload_n (pc := 79) dX7_flashPage_79 rfl rfl ?_
          refine zi_X7_401 (pc := 80) dX7_flashPage_80 (C_X7_isProgrammed (h := ps h 0 0) c16a.1 (by omega)) (by decide) (Nat.le_of_ble_eq_true rfl) (fun z80 h80 u80 v80 q80 => ?_)
          obtain ⟨rfl, e80⟩ := q80
          rw [e80]
          clear e80 h80
          refine zx_if_ne (pc := 83) (tgt := 88) dX7_flashPage_83 (by decide) (fun o => by first | exact o.1 _ (by decide) | exact o.2 _ _ | omega) (fun c83 => ?_) (fun c83 => ?_)
          · skip
            try replace c83 := b2i_n0.mp c83
            rw [ifp_t (show mProgd h a1 from c83)]
            refine zx_iload_n (pc := 88) dX7_flashPage_88 rfl rfl ?_
            refine zx_iconst (pc := 89) dX7_flashPage_89 ?_
            refine zx_icmp_ne (pc := 90) (tgt := 102) dX7_flashPage_90 (by decide) (fun o => by first | exact o.1 _ (by decide) | exact o.2 _ _ | omega) (fun o => by first | exact o.1 _ (by decide) | exact o.2 _ _ | omega) (fun c90 => ?_) (fun c90 => ?_)
            · skip
              rw [ifp_f c90]
              refine zx_iload_n (pc := 102) dX7_flashPage_102 rfl rfl ?_
              refine zx_iconst (pc := 103) dX7_flashPage_103 ?_
              refine zx_icmp_ne (pc := 104) (tgt := 116) dX7_flashPage_104 (by decide) (fun o => by first | exact o.1 _ (by decide) | exact o.2 _ _ | omega) (fun o => by first | exact o.1 _ (by decide) | exact o.2 _ _ | omega) (fun c104 => ?_) (fun c104 => ?_)
              · skip
                rw [ifp_f c104]
                refine zx_iload_n (pc := 116) dX7_flashPage_116 rfl rfl ?_
                refine zx_iconst (pc := 117) dX7_flashPage_117 ?_
                refine zx_icmp_ne (pc := 118) (tgt := 130) dX7_flashPage_118 (by decide) (fun o => by first | exact o.1 _ (by decide) | exact o.2 _ _ | omega) (fun o => by first | exact o.1 _ (by decide) | exact o.2 _ _ | omega) (fun c118 => ?_) (fun c118 => ?_)
                · skip
                  rw [ifp_f c118]
                  refine zx_aload_n (pc := 130) dX7_flashPage_130 rfl rfl ?_
                  refine zg_X7_25 (pc := 131) dX7_flashPage_131 ?_
                  refine zx_iload_n (pc := 134) dX7_flashPage_134 rfl rfl ?_
                  refine zx_iaload (pc := 135) aX7_sequence dX7_flashPage_135 (by omega) (by omega) (by omega) ?_
                  refine zx_iret (pc := 136) dX7_flashPage_136 (fun o => by first | exact o.1 _ (by decide) | exact o.2 _ _ | omega) ?_
                  first | exact ⟨rfl, rfl⟩ | exact ⟨rfl, ps_ps _ _ _ _⟩
                · skip
                  rw [ifp_t c118]
                  refine zx_aload_n (pc := 121) dX7_flashPage_121 rfl rfl ?_
                  refine zg_X7_22 (pc := 122) dX7_flashPage_122 ?_
                  refine zx_iload_n (pc := 125) dX7_flashPage_125 rfl rfl ?_
                  refine zx_iaload (pc := 126) aX7_version dX7_flashPage_126 (by omega) (by omega) (by omega) ?_
                  refine zx_goto (pc := 127) (tgt := 136) dX7_flashPage_127 (by decide) ?_
                  refine zx_iret (pc := 136) dX7_flashPage_136 (fun o => by first | exact o.1 _ (by decide) | exact o.2 _ _ | omega) ?_
                  first | exact ⟨rfl, rfl⟩ | exact ⟨rfl, ps_ps _ _ _ _⟩
              · skip
                rw [ifp_t c104]
                refine zx_aload_n (pc := 107) dX7_flashPage_107 rfl rfl ?_
                refine zg_X7_19 (pc := 108) dX7_flashPage_108 ?_
                refine zx_iload_n (pc := 111) dX7_flashPage_111 rfl rfl ?_
                refine zx_iaload (pc := 112) aX7_group dX7_flashPage_112 (by omega) (by omega) (by omega) ?_
                refine zx_goto (pc := 113) (tgt := 136) dX7_flashPage_113 (by decide) ?_
                refine zx_iret (pc := 136) dX7_flashPage_136 (fun o => by first | exact o.1 _ (by decide) | exact o.2 _ _ | omega) ?_
                first | exact ⟨rfl, rfl⟩ | exact ⟨rfl, ps_ps _ _ _ _⟩
            · skip
              rw [ifp_t c90]
              refine zx_aload_n (pc := 93) dX7_flashPage_93 rfl rfl ?_
              refine zg_X7_16 (pc := 94) dX7_flashPage_94 ?_
              refine zx_iload_n (pc := 97) dX7_flashPage_97 rfl rfl ?_
              refine zx_iaload (pc := 98) aX7_index dX7_flashPage_98 (by omega) (by omega) (by omega) ?_
              refine zx_goto (pc := 99) (tgt := 136) dX7_flashPage_99 (by decide) ?_
              refine zx_iret (pc := 136) dX7_flashPage_136 (fun o => by first | exact o.1 _ (by decide) | exact o.2 _ _ | omega) ?_
              first | exact ⟨rfl, rfl⟩ | exact ⟨rfl, ps_ps _ _ _ _⟩
          · skip
            try replace c83 := b2i_0.mp c83
            rw [ifp_f (show ¬ mProgd h a1 from c83)]
            refine zx_iconst (pc := 86) dX7_flashPage_86 ?_
            refine zx_iret (pc := 87) dX7_flashPage_87 (fun o => by first | exact o.1 _ (by decide) | exact o.2 _ _ | omega) ?_
            first | exact ⟨rfl, rfl⟩ | exact ⟨rfl, ps_ps _ _ _ _⟩
        · skip
          rw [ifp_t c53]
          refine zx_aload_n (pc := 56) dX7_flashPage_56 rfl rfl ?_
          refine zg_X7_13 (pc := 57) dX7_flashPage_57 ?_
          refine zx_iload_n (pc := 60) dX7_flashPage_60 rfl rfl ?_
          refine zx_iaload (pc := 61) aX7_kind dX7_flashPage_61 (by omega) (by omega) (by omega) ?_
          refine zx_iconst (pc := 62) dX7_flashPage_62 ?_
          refine zx_icmp_ne (pc := 63) (tgt := 75) dX7_flashPage_63 (by decide) (fun o => by first | exact o.1 _ (by decide) | exact o.2 _ _ | omega) (fun o => by first | exact o.1 _ (by decide) | exact o.2 _ _ | omega) (fun c63 => ?_) (fun c63 => ?_)
          · skip
            rw [ifp_f (show ¬ ga h 2 a1 = 1 from c63)]
            refine zx_bipush (pc := 75) dX7_flashPage_75 (by decide +kernel) ?_
            refine zx_iret (pc := 77) dX7_flashPage_77 (fun o => by first | exact o.1 _ (by decide) | exact o.2 _ _ | omega) ?_
            first | exact ⟨rfl, rfl⟩ | exact ⟨rfl, ps_ps _ _ _ _⟩
          · skip
            rw [ifp_t (show ga h 2 a1 = 1 from c63)]
            refine zx_aload_n (pc := 66) dX7_flashPage_66 rfl rfl ?_
            refine zg_X7_28 (pc := 67) dX7_flashPage_67 ?_
            refine zx_iload_n (pc := 70) dX7_flashPage_70 rfl rfl ?_
            refine zx_iaload (pc := 71) aX7_value dX7_flashPage_71 (by omega) (by omega) (by omega) ?_
            refine zx_goto (pc := 72) (tgt := 77) dX7_flashPage_72 (by decide) ?_
            refine zx_iret (pc := 77) dX7_flashPage_77 (fun o => by first | exact o.1 _ (by decide) | exact o.2 _ _ | omega) ?_
            first | exact ⟨rfl, rfl⟩ | exact ⟨rfl, ps_ps _ _ _ _⟩
      · skip
        rw [ifp_t c41]
        refine zx_aload_n (pc := 44) dX7_flashPage_44 rfl rfl ?_
        refine zg_X7_13 (pc := 45) dX7_flashPage_45 ?_
        refine zx_iload_n (pc := 48) dX7_flashPage_48 rfl rfl ?_
        refine zx_iaload (pc := 49) aX7_kind dX7_flashPage_49 (by omega) (by omega) (by omega) ?_
        refine zx_iret (pc := 50) dX7_flashPage_50 (fun o => by first | exact o.1 _ (by decide) | exact o.2 _ _ | omega) ?_
        first | exact ⟨rfl, rfl⟩ | exact ⟨rfl, ps_ps _ _ _ _⟩
    · skip
      try replace c31 := b2i_0.mp c31
      rw [ifp_f c31]
      refine zx_aload_n (pc := 34) dX7_flashPage_34 rfl rfl ?_
      refine zx_iconst (pc := 35) dX7_flashPage_35 ?_
      refine zi_X7_138 (pc := 36) dX7_flashPage_36 (C_X7_refuse2 (by decide)) (by decide) (Nat.le_of_ble_eq_true rfl) (fun z36 h36 u36 v36 q36 => ?_)
      obtain ⟨rfl, e36⟩ := q36
      rw [e36]
      clear e36 h36
      refine zx_iret (pc := 39) dX7_flashPage_39 (fun o => by first | exact o.1 _ (by decide) | exact o.2 _ _ | omega) ?_
      first | exact ⟨rfl, rfl⟩ | exact ⟨rfl, ps_ps _ _ _ _⟩
  · skip
    try replace c16 := b2i_0.mp c16
    rw [ifp_f (by omega)]
    refine zx_aload_n (pc := 19) dX7_flashPage_19 rfl rfl ?_
    refine zx_iconst (pc := 20) dX7_flashPage_20 ?_
    refine zi_X7_138 (pc := 21) dX7_flashPage_21 (C_X7_refuse2 (by decide)) (by decide) (Nat.le_of_ble_eq_true rfl) (fun z21 h21 u21 v21 q21 => ?_)
    obtain ⟨rfl, e21⟩ := q21
    rw [e21]
    clear e21 h21
    refine zx_iret (pc := 24) dX7_flashPage_24 (fun o => by first | exact o.1 _ (by decide) | exact o.2 _ _ | omega) ?_
    first | exact ⟨rfl, rfl⟩ | exact ⟨rfl, ps_ps _ _ _ _⟩
noncomputable def m_isValid (h : zH) (i : Int) : zH × Int := ifp (0 ≤ i ∧ i < gs h 1 * gs h 2) (ps h 0 0, b2i (mGood h i)) (ps h 0 1, 0)
set_option maxRecDepth 100000 in
theorem C_X7_isValid {h : zH} (hb : MB h) (hi : MI h) {a1 : Int} (r1 : -2147483648 ≤ a1 ∧ a1 < 2147483648) : kX7_isValid a1 h (fun r h2 => r = (m_isValid h a1).2 ∧ h2 = (m_isValid h a1).1) := by
  have hb0 : MB (ps h 0 0) := hb
  have hi0 : MI (ps h 0 0) := hi
  have m7 := mb_size hb.1 hb.2.1 hb.2.2.1 hb.2.2.2.1
  have e0 : gs (ps h 0 0) 0 = 0 := rfl
  have e1 : gs (ps h 0 1) 0 = 1 := rfl
  apply eX7_isValid
  unfold m_isValid
  refine zx_aload_n (pc := 0) dX7_isValid_0 rfl rfl ?_
  refine zx_iload_n (pc := 1) dX7_isValid_1 rfl rfl ?_
  refine zx_iconst (pc := 2) dX7_isValid_2 ?_
  refine zx_aload_n (pc := 3) dX7_isValid_3 rfl rfl ?_
  refine zi_X7_264 (pc := 4) dX7_isValid_4 (C_X7_flashSize hb) (by decide) (Nat.le_of_ble_eq_true rfl) (fun z4 h4 u4 v4 q4 => ?_)
  obtain ⟨rfl, e4⟩ := q4
  rw [e4]
  clear e4 h4
  refine zx_iconst (pc := 7) dX7_isValid_7 ?_
  refine zx_isub (pc := 8) dX7_isValid_8 ?_
  refine zi_X7_85 (pc := 9) dX7_isValid_9 (C_X7_in (by omega) (by omega) (by omega)) (by decide) (Nat.le_of_ble_eq_true rfl) (fun z9 h9 u9 v9 q9 => ?_)
  obtain ⟨rfl, e9⟩ := q9
  rw [e9]
  clear e9 h9
  refine zx_if_eq (pc := 12) (tgt := 19) dX7_isValid_12 (by decide) (fun o => by first | exact o.1 _ (by decide) | exact o.2 _ _ | omega) (fun c12 => ?_) (fun c12 => ?_)
  · skip
    try replace c12 := b2i_0.mp c12
    rw [ifp_f (by omega)]
    refine zx_iconst (pc := 19) dX7_isValid_19 ?_
    refine zp_X7_69 (pc := 20) dX7_isValid_20 (fun o => by first | exact o.1 _ (by decide) | exact o.2 _ _ | omega) ?_
    refine zx_aload_n (pc := 23) dX7_isValid_23 rfl rfl ?_
    refine zg_X7_69 (pc := 24) dX7_isValid_24 ?_
    refine zx_if_ne (pc := 27) (tgt := 42) dX7_isValid_27 (by decide) (fun o => by first | exact o.1 _ (by decide) | exact o.2 _ _ | omega) (fun c27 => ?_) (fun c27 => ?_)
    · skip
      refine zx_iconst (pc := 42) dX7_isValid_42 ?_
      refine zx_zret (pc := 43) dX7_isValid_43 (by omega) ?_
      first | exact ⟨w.symm, rfl⟩ | exact ⟨rfl, rfl⟩
    · skip
      exact absurd c27 (show ¬ ((1 : Int) = 0) by decide)
  · skip
    try replace c12 := b2i_n0.mp c12
    have c12a : 0 ≤ a1 ∧ a1 < gs h 1 * gs h 2 := by omega
    rw [ifp_t c12a]
    refine zx_iconst (pc := 15) dX7_isValid_15 ?_
    refine zx_goto (pc := 16) (tgt := 20) dX7_isValid_16 (by decide) ?_
    refine zp_X7_69 (pc := 20) dX7_isValid_20 (fun o => by first | exact o.1 _ (by decide) | exact o.2 _ _ | omega) ?_
    refine zx_aload_n (pc := 23) dX7_isValid_23 rfl rfl ?_
    refine zg_X7_69 (pc := 24) dX7_isValid_24 ?_
    refine zx_if_ne (pc := 27) (tgt := 42) dX7_isValid_27 (by decide) (fun o => by first | exact o.1 _ (by decide) | exact o.2 _ _ | omega) (fun c27 => ?_) (fun c27 => ?_)
    · skip
      exact absurd rfl c27
    · skip
      refine zx_aload_n (pc := 30) dX7_isValid_30 rfl rfl ?_
      refine zx_iload_n (pc := 31) dX7_isValid_31 rfl rfl ?_
      refine zi_X7_276 (pc := 32) dX7_isValid_32 (C_X7_isGood hb0 hi0 c12a.1 c12a.2) (by decide) (Nat.le_of_ble_eq_true rfl) (fun z32 h32 u32 v32 q32 => ?_)
      obtain ⟨rfl, e32⟩ := q32
      rw [e32]
      clear e32 h32
      refine zx_if_eq (pc := 35) (tgt := 42) dX7_isValid_35 (by decide) (fun o => by first | exact o.1 _ (by decide) | exact o.2 _ _ | omega) (fun c35 => ?_) (fun c35 => ?_)
      · skip
        try replace c35 := b2i_0.mp c35
        have w : b2i (mGood h a1) = 0 := b2i_f c35
        refine zx_iconst (pc := 42) dX7_isValid_42 ?_
        refine zx_zret (pc := 43) dX7_isValid_43 (by omega) ?_
        first | exact ⟨w.symm, rfl⟩ | exact ⟨rfl, rfl⟩
      · skip
        try replace c35 := b2i_n0.mp c35
        have w : b2i (mGood h a1) = 1 := b2i_t c35
        refine zx_iconst (pc := 38) dX7_isValid_38 ?_
        refine zx_goto (pc := 39) (tgt := 43) dX7_isValid_39 (by decide) ?_
        refine zx_zret (pc := 43) dX7_isValid_43 (by omega) ?_
        first | exact ⟨w.symm, rfl⟩ | exact ⟨rfl, rfl⟩
noncomputable def mLeast (h : zH) : Nat → Int
  | 0 => 0
  | n + 1 => ifp (n = 0 ∨ ga h 9 n < mLeast h n) (ga h 9 n) (mLeast h n)
noncomputable def mMost (h : zH) : Nat → Int
  | 0 => 0
  | n + 1 => ifp (mMost h n < ga h 9 n) (ga h 9 n) (mMost h n)
noncomputable def mGap (h : zH) : Int := wr (mMost h (gs h 1).toNat - mLeast h (gs h 1).toNat)
theorem ml_r {h : zH} (ok : zOk h) : ∀ n : Nat, (-2147483648 ≤ mLeast h n ∧ mLeast h n < 2147483648) ∧ (-2147483648 ≤ mMost h n ∧ mMost h n < 2147483648)
  | 0 => by simp [mLeast, mMost]
  | n + 1 => by
    have q := ml_r ok n
    rw [mLeast, mMost]
    exact ⟨ifp_i (r := fun z => -2147483648 ≤ z ∧ z < 2147483648) (ok.2 9 _) q.1, ifp_i (r := fun z => -2147483648 ≤ z ∧ z < 2147483648) (ok.2 9 _) q.2⟩
set_option maxRecDepth 100000 in
theorem L_X7_wearGap {h : zH} (hb : MB h) (ok : zOk h) (Q : Int → zH → Prop) (hQ : Q (mGap h) h) : ∀ (n : Nat) (i c d : Int), 0 ≤ i → i ≤ gs h 1 → gs h 1 - i < n → c = mLeast h i.toNat → d = mMost h i.toNat → zX cM zNo RX7 cX7_wearGap 4 (some .int) rX7_wearGap 11 [some (.ref 0), some (.int (iI c)), some (.int (iI d)), some (.int (iI i))] [] h (zEi cM Q) := by
  have m2 := hb.2.1
  intro n
  induction n with
  | zero => intro i c d g1 g2 g3; omega
  | succ n ih =>
    intro i c d g1 g2 g3 g4 g5
    obtain ⟨g6, g7⟩ := toNat_next g1
    have g8 := ml_r ok i.toNat
    rw [← g4, ← g5] at g8
    have y1 (z : i = 0 ∨ ga h 9 i < c) : mLeast h (i + 1).toNat = ga h 9 i := by
      rw [g6, mLeast, g7, ← g4]
      exact ifp_t (z.elim (fun z => Or.inl (by omega)) Or.inr)
    have n1 (z : ¬ (i = 0 ∨ ga h 9 i < c)) : mLeast h (i + 1).toNat = c := by
      rw [g6, mLeast, g7, ← g4]
      exact ifp_f (fun w => z (w.elim (fun w => Or.inl (by omega)) Or.inr))
    have y2 (z : d < ga h 9 i) : mMost h (i + 1).toNat = ga h 9 i := by
      rw [g6, mMost, g7, ← g5]
      exact ifp_t z
    have n2 (z : ¬ d < ga h 9 i) : mMost h (i + 1).toNat = d := by
      rw [g6, mMost, g7, ← g5]
      exact ifp_f z
    refine zx_iload_n (pc := 11) dX7_wearGap_11 rfl rfl ?_
    refine zx_aload_n (pc := 12) dX7_wearGap_12 rfl rfl ?_
    refine zg_X7_79 (pc := 13) dX7_wearGap_13 ?_
    refine zx_icmp_ge (pc := 16) (tgt := 71) dX7_wearGap_16 (by decide) (fun o => by first | exact o.1 _ (by decide) | exact o.2 _ _ | omega) (fun o => by first | exact o.1 _ (by decide) | exact o.2 _ _ | omega) (fun c16 => ?_) (fun c16 => ?_)
    · skip
      refine zx_iload_n (pc := 71) dX7_wearGap_71 rfl rfl ?_
      refine zx_iload_n (pc := 72) dX7_wearGap_72 rfl rfl ?_
      refine zx_isub (pc := 73) dX7_wearGap_73 ?_
      refine zx_wr ?_
      refine zx_iret (pc := 74) dX7_wearGap_74 (fun _ => wr_rng _) ?_
      have e : i = gs h 1 := by omega
      rw [g4, g5, e]
      exact hQ
    · skip
      refine zx_iload_n (pc := 19) dX7_wearGap_19 rfl rfl ?_
      refine zx_if_eq (pc := 20) (tgt := 33) dX7_wearGap_20 (by decide) (fun o => by first | exact o.1 _ (by decide) | exact o.2 _ _ | omega) (fun c20 => ?_) (fun c20 => ?_)
      · skip
        have w1 := y1 (Or.inl c20)
        refine zx_aload_n (pc := 33) dX7_wearGap_33 rfl rfl ?_
        refine zg_X7_34 (pc := 34) dX7_wearGap_34 ?_
        refine zx_iload_n (pc := 37) dX7_wearGap_37 rfl rfl ?_
        refine zx_iaload (pc := 38) aX7_eraseCount dX7_wearGap_38 (by omega) (by omega) (by omega) ?_
        refine zx_goto (pc := 39) (tgt := 43) dX7_wearGap_39 (by decide) ?_
        refine zx_istore_n (pc := 43) dX7_wearGap_43 rfl (by decide) rfl ?_
        refine zx_aload_n (pc := 44) dX7_wearGap_44 rfl rfl ?_
        refine zg_X7_34 (pc := 45) dX7_wearGap_45 ?_
        refine zx_iload_n (pc := 48) dX7_wearGap_48 rfl rfl ?_
        refine zx_iaload (pc := 49) aX7_eraseCount dX7_wearGap_49 (by omega) (by omega) (by omega) ?_
        refine zx_iload_n (pc := 50) dX7_wearGap_50 rfl rfl ?_
        refine zx_icmp_le (pc := 51) (tgt := 63) dX7_wearGap_51 (by decide) (fun o => by first | exact o.1 _ (by decide) | exact o.2 _ _ | omega) (fun o => by first | exact o.1 _ (by decide) | exact o.2 _ _ | omega) (fun c51 => ?_) (fun c51 => ?_)
        · skip
          have w2 := n2 (by omega)
          refine zx_iload_n (pc := 63) dX7_wearGap_63 rfl rfl ?_
          refine zx_istore_n (pc := 64) dX7_wearGap_64 rfl (by decide) rfl ?_
          refine zx_iinc (pc := 65) dX7_wearGap_65 (by decide) rfl rfl ?_
          refine zx_goto (pc := 68) (tgt := 11) dX7_wearGap_68 (by decide) ?_
          exact ih (i + 1) _ _ (by omega) (by omega) (by omega) w1.symm w2.symm
        · skip
          have w2 := y2 c51
          refine zx_aload_n (pc := 54) dX7_wearGap_54 rfl rfl ?_
          refine zg_X7_34 (pc := 55) dX7_wearGap_55 ?_
          refine zx_iload_n (pc := 58) dX7_wearGap_58 rfl rfl ?_
          refine zx_iaload (pc := 59) aX7_eraseCount dX7_wearGap_59 (by omega) (by omega) (by omega) ?_
          refine zx_goto (pc := 60) (tgt := 64) dX7_wearGap_60 (by decide) ?_
          refine zx_istore_n (pc := 64) dX7_wearGap_64 rfl (by decide) rfl ?_
          refine zx_iinc (pc := 65) dX7_wearGap_65 (by decide) rfl rfl ?_
          refine zx_goto (pc := 68) (tgt := 11) dX7_wearGap_68 (by decide) ?_
          exact ih (i + 1) _ _ (by omega) (by omega) (by omega) w1.symm w2.symm
      · skip
        refine zx_aload_n (pc := 23) dX7_wearGap_23 rfl rfl ?_
        refine zg_X7_34 (pc := 24) dX7_wearGap_24 ?_
        refine zx_iload_n (pc := 27) dX7_wearGap_27 rfl rfl ?_
        refine zx_iaload (pc := 28) aX7_eraseCount dX7_wearGap_28 (by omega) (by omega) (by omega) ?_
        refine zx_iload_n (pc := 29) dX7_wearGap_29 rfl rfl ?_
        refine zx_icmp_ge (pc := 30) (tgt := 42) dX7_wearGap_30 (by decide) (fun o => by first | exact o.1 _ (by decide) | exact o.2 _ _ | omega) (fun o => by first | exact o.1 _ (by decide) | exact o.2 _ _ | omega) (fun c30 => ?_) (fun c30 => ?_)
        · skip
          have w1 := n1 (by omega)
          refine zx_iload_n (pc := 42) dX7_wearGap_42 rfl rfl ?_
          refine zx_istore_n (pc := 43) dX7_wearGap_43 rfl (by decide) rfl ?_
          refine zx_aload_n (pc := 44) dX7_wearGap_44 rfl rfl ?_
          refine zg_X7_34 (pc := 45) dX7_wearGap_45 ?_
          refine zx_iload_n (pc := 48) dX7_wearGap_48 rfl rfl ?_
          refine zx_iaload (pc := 49) aX7_eraseCount dX7_wearGap_49 (by omega) (by omega) (by omega) ?_
          refine zx_iload_n (pc := 50) dX7_wearGap_50 rfl rfl ?_
          refine zx_icmp_le (pc := 51) (tgt := 63) dX7_wearGap_51 (by decide) (fun o => by first | exact o.1 _ (by decide) | exact o.2 _ _ | omega) (fun o => by first | exact o.1 _ (by decide) | exact o.2 _ _ | omega) (fun c51 => ?_) (fun c51 => ?_)
          · skip
            have w2 := n2 (by omega)
            refine zx_iload_n (pc := 63) dX7_wearGap_63 rfl rfl ?_
            refine zx_istore_n (pc := 64) dX7_wearGap_64 rfl (by decide) rfl ?_
            refine zx_iinc (pc := 65) dX7_wearGap_65 (by decide) rfl rfl ?_
            refine zx_goto (pc := 68) (tgt := 11) dX7_wearGap_68 (by decide) ?_
            exact ih (i + 1) _ _ (by omega) (by omega) (by omega) w1.symm w2.symm
          · skip
            have w2 := y2 c51
            refine zx_aload_n (pc := 54) dX7_wearGap_54 rfl rfl ?_
            refine zg_X7_34 (pc := 55) dX7_wearGap_55 ?_
            refine zx_iload_n (pc := 58) dX7_wearGap_58 rfl rfl ?_
            refine zx_iaload (pc := 59) aX7_eraseCount dX7_wearGap_59 (by omega) (by omega) (by omega) ?_
            refine zx_goto (pc := 60) (tgt := 64) dX7_wearGap_60 (by decide) ?_
            refine zx_istore_n (pc := 64) dX7_wearGap_64 rfl (by decide) rfl ?_
            refine zx_iinc (pc := 65) dX7_wearGap_65 (by decide) rfl rfl ?_
            refine zx_goto (pc := 68) (tgt := 11) dX7_wearGap_68 (by decide) ?_
            exact ih (i + 1) _ _ (by omega) (by omega) (by omega) w1.symm w2.symm
        · skip
          have w1 := y1 (Or.inr c30)
          refine zx_aload_n (pc := 33) dX7_wearGap_33 rfl rfl ?_
          refine zg_X7_34 (pc := 34) dX7_wearGap_34 ?_
          refine zx_iload_n (pc := 37) dX7_wearGap_37 rfl rfl ?_
          refine zx_iaload (pc := 38) aX7_eraseCount dX7_wearGap_38 (by omega) (by omega) (by omega) ?_
          refine zx_goto (pc := 39) (tgt := 43) dX7_wearGap_39 (by decide) ?_
          refine zx_istore_n (pc := 43) dX7_wearGap_43 rfl (by decide) rfl ?_
          refine zx_aload_n (pc := 44) dX7_wearGap_44 rfl rfl ?_
          refine zg_X7_34 (pc := 45) dX7_wearGap_45 ?_
          refine zx_iload_n (pc := 48) dX7_wearGap_48 rfl rfl ?_
          refine zx_iaload (pc := 49) aX7_eraseCount dX7_wearGap_49 (by omega) (by omega) (by omega) ?_
          refine zx_iload_n (pc := 50) dX7_wearGap_50 rfl rfl ?_
          refine zx_icmp_le (pc := 51) (tgt := 63) dX7_wearGap_51 (by decide) (fun o => by first | exact o.1 _ (by decide) | exact o.2 _ _ | omega) (fun o => by first | exact o.1 _ (by decide) | exact o.2 _ _ | omega) (fun c51 => ?_) (fun c51 => ?_)
          · skip
            have w2 := n2 (by omega)
            refine zx_iload_n (pc := 63) dX7_wearGap_63 rfl rfl ?_
            refine zx_istore_n (pc := 64) dX7_wearGap_64 rfl (by decide) rfl ?_
            refine zx_iinc (pc := 65) dX7_wearGap_65 (by decide) rfl rfl ?_
            refine zx_goto (pc := 68) (tgt := 11) dX7_wearGap_68 (by decide) ?_
            exact ih (i + 1) _ _ (by omega) (by omega) (by omega) w1.symm w2.symm
          · skip
            have w2 := y2 c51
            refine zx_aload_n (pc := 54) dX7_wearGap_54 rfl rfl ?_
            refine zg_X7_34 (pc := 55) dX7_wearGap_55 ?_
            refine zx_iload_n (pc := 58) dX7_wearGap_58 rfl rfl ?_
            refine zx_iaload (pc := 59) aX7_eraseCount dX7_wearGap_59 (by omega) (by omega) (by omega) ?_
            refine zx_goto (pc := 60) (tgt := 64) dX7_wearGap_60 (by decide) ?_
            refine zx_istore_n (pc := 64) dX7_wearGap_64 rfl (by decide) rfl ?_
            refine zx_iinc (pc := 65) dX7_wearGap_65 (by decide) rfl rfl ?_
            refine zx_goto (pc := 68) (tgt := 11) dX7_wearGap_68 (by decide) ?_
            exact ih (i + 1) _ _ (by omega) (by omega) (by omega) w1.symm w2.symm
theorem ml_0 (h : zH) (v : Int) : ∀ n : Nat, mLeast (ps h 0 v) n = mLeast h n ∧ mMost (ps h 0 v) n = mMost h n
  | 0 => ⟨rfl, rfl⟩
  | n + 1 => by
    have q := ml_0 h v n
    rw [mLeast, mLeast, mMost, mMost, q.1, q.2]
    exact ⟨rfl, rfl⟩
theorem mGap_0 (h : zH) (v : Int) : mGap (ps h 0 v) = mGap h := by
  have e1 : gs (ps h 0 v) 1 = gs h 1 := rfl
  unfold mGap
  rw [e1, (ml_0 h v _).1, (ml_0 h v _).2]
theorem mFB_0 (h : zH) (v : Int) : ∀ n : Nat, mFB (ps h 0 v) n = mFB h n
  | 0 => rfl
  | n + 1 => by
    rw [mFB, mFB, mFB_0 h v n]
    rfl
theorem mNV_0 (h : zH) (v x : Int) : ∀ n : Nat, mNV (ps (ps h 0 v) 32 x) n = mNV (ps h 32 x) n
  | 0 => rfl
  | n + 1 => by
    rw [mNV, mNV, mNV_0 h v x n]
    rfl
set_option maxRecDepth 100000 in
theorem C_X7_wearGap {h : zH} (hb : MB h) : kX7_wearGap h (fun r h2 => r = mGap h ∧ h2 = ps h 0 0) := by
  have hb0 : MB (ps h 0 0) := hb
  apply eX7_wearGap
  refine zx_aload_n (pc := 0) dX7_wearGap_0 rfl rfl ?_
  refine zx_iconst (pc := 1) dX7_wearGap_1 ?_
  refine zp_X7_69 (pc := 2) dX7_wearGap_2 (fun o => by first | exact o.1 _ (by decide) | exact o.2 _ _ | omega) ?_
  refine zx_iconst (pc := 5) dX7_wearGap_5 ?_
  refine zx_istore_n (pc := 6) dX7_wearGap_6 rfl (by decide) rfl ?_
  refine zx_iconst (pc := 7) dX7_wearGap_7 ?_
  refine zx_istore_n (pc := 8) dX7_wearGap_8 rfl (by decide) rfl ?_
  refine zx_iconst (pc := 9) dX7_wearGap_9 ?_
  refine zx_istore_n (pc := 10) dX7_wearGap_10 rfl (by decide) rfl ?_
  refine zx_ok (fun ok => ?_)
  exact L_X7_wearGap hb0 ok (fun r h2 => r = mGap h ∧ h2 = ps h 0 0) ⟨mGap_0 h 0, rfl⟩ 33 0 _ _ (Int.le_refl _) hb.1 (by have := hb.2.1; show gs h 1 - 0 < _; omega) rfl rfl
set_option maxRecDepth 100000 in
theorem C_X7_victim {h : zH} {u : Int → Int} (s : MS h u) : kX7_victim h (fun r h2 => r = m_victim h ∧ h2 = ps h 0 0) := by
  have s0 := MS_0 s 0
  have hb := s.1
  have hb0 := s0.1
  have fr := mFB_r h (gs h 1).toNat
  have fe : mFB h (gs h 1).toNat = m_fblk h := rfl
  rw [fe] at fr
  have e26 : gs (ps h 0 0) 26 = gs h 26 := rfl
  have ef : m_fblk (ps h 0 0) = m_fblk h := mFB_0 h 0 _
  have e2 (x : Int) : mFreeMany (ps (ps h 0 0) 32 x) = mFreeMany (ps h 32 x) := rfl
  have ev (x : Int) : m_vict (ps (ps h 0 0) 32 x) = m_vict (ps h 32 x) := by
    unfold m_vict
    rw [mNV_0]
    rfl
  have back (x : Int) : ps (ps (ps h 0 0) 32 x) 32 (gs (ps h 0 0) 32) = ps h 0 0 := by
    rw [ps_ps, ps_same]
  apply eX7_victim
  unfold m_victim
  refine zx_ok (fun ok => ?_)
  refine zx_aload_n (pc := 0) dX7_victim_0 rfl rfl ?_
  refine zx_iconst (pc := 1) dX7_victim_1 ?_
  refine zp_X7_69 (pc := 2) dX7_victim_2 (fun o => by first | exact o.1 _ (by decide) | exact o.2 _ _ | omega) ?_
  refine zx_aload_n (pc := 5) dX7_victim_5 rfl rfl ?_
  refine zg_X7_104 (pc := 6) dX7_victim_6 ?_
  refine zx_if_eq (pc := 9) (tgt := 19) dX7_victim_9 (by decide) (fun o => by first | exact o.1 _ (by decide) | exact o.2 _ _ | omega) (fun c9 => ?_) (fun c9 => ?_)
  · skip
    rw [e26] at c9
    rw [ifp_t (Or.inl c9)]
    refine zx_iconst (pc := 19) dX7_victim_19 ?_
    refine zx_istore_n (pc := 20) dX7_victim_20 rfl (by decide) rfl ?_
    refine zx_iload_n (pc := 21) dX7_victim_21 rfl rfl ?_
    refine zx_iconst (pc := 22) dX7_victim_22 ?_
    refine zx_icmp_ne (pc := 23) (tgt := 28) dX7_victim_23 (by decide) (fun _ => by decide) (fun _ => by decide) (fun c9 => absurd c9 (by decide)) (fun _ => ?_)
    refine zx_iconst (pc := 26) dX7_victim_26 ?_
    refine zx_iret (pc := 27) dX7_victim_27 (fun o => by first | exact o.1 _ (by decide) | exact o.2 _ _ | omega) ?_
    exact ⟨rfl, rfl⟩
  · skip
    rw [e26] at c9
    refine zx_aload_n (pc := 12) dX7_victim_12 rfl rfl ?_
    refine zi_X7_310 (pc := 13) dX7_victim_13 (C_X7_freeBlock hb0) (by decide) (Nat.le_of_ble_eq_true rfl) (fun z13 h13 u13 v13 q13 => ?_)
    obtain ⟨rfl, e13⟩ := q13
    rw [e13]
    clear e13 h13
    refine zx_goto (pc := 16) (tgt := 20) dX7_victim_16 (by decide) ?_
    refine zx_istore_n (pc := 20) dX7_victim_20 rfl (by decide) rfl ?_
    refine zx_iload_n (pc := 21) dX7_victim_21 rfl rfl ?_
    refine zx_iconst (pc := 22) dX7_victim_22 ?_
    refine zx_icmp_ne (pc := 23) (tgt := 28) dX7_victim_23 (by decide) (fun o => by first | exact o.1 _ (by decide) | exact o.2 _ _ | omega) (fun o => by first | exact o.1 _ (by decide) | exact o.2 _ _ | omega) (fun c23 => ?_) (fun c23 => ?_)
    · skip
      obtain ⟨q1, q2, q3⟩ := fblk_ok hb0 c23
      rw [ef] at c23
      rw [ifp_f (fun z => z.elim c9 c23)]
      have w1 : MS (ps (ps h 0 0) 32 (m_fblk (ps h 0 0))) u := MS_act s0 (by omega) q2
      have w2 : 0 ≤ gs (ps (ps h 0 0) 32 (m_fblk (ps h 0 0))) 32 := q1
      have w3 := mFreeMany_r w1.1
      refine zx_aload_n (pc := 28) dX7_victim_28 rfl rfl ?_
      refine zg_X7_53 (pc := 29) dX7_victim_29 ?_
      refine zx_istore_n (pc := 32) dX7_victim_32 rfl (by decide) rfl ?_
      refine zx_aload_n (pc := 33) dX7_victim_33 rfl rfl ?_
      refine zx_iload_n (pc := 34) dX7_victim_34 rfl rfl ?_
      refine zp_X7_53 (pc := 35) dX7_victim_35 (fun o => by first | exact o.1 _ (by decide) | exact o.2 _ _ | omega) ?_
      refine zx_aload_n (pc := 38) dX7_victim_38 rfl rfl ?_
      refine zi_X7_313 (pc := 39) dX7_victim_39 (C_X7_freeMany w1.1) (by decide) (Nat.le_of_ble_eq_true rfl) (fun z39 h39 u39 v39 q39 => ?_)
      obtain ⟨rfl, e39⟩ := q39
      rw [e39]
      clear e39 h39
      refine zx_iconst (pc := 42) dX7_victim_42 ?_
      refine zx_icmp_ge (pc := 43) (tgt := 53) dX7_victim_43 (by decide) (fun o => by first | exact o.1 _ (by decide) | exact o.2 _ _ | omega) (fun o => by first | exact o.1 _ (by decide) | exact o.2 _ _ | omega) (fun c43 => ?_) (fun c43 => ?_)
      · skip
        rw [ef, e2] at c43
        rw [ifp_f (by omega)]
        refine zx_iconst (pc := 53) dX7_victim_53 ?_
        refine zx_istore_n (pc := 54) dX7_victim_54 rfl (by decide) rfl ?_
        refine zx_aload_n (pc := 55) dX7_victim_55 rfl rfl ?_
        refine zx_iload_n (pc := 56) dX7_victim_56 rfl rfl ?_
        refine zp_X7_53 (pc := 57) dX7_victim_57 (fun _ => ok.1 32 (by decide)) ?_
        refine zx_iload_n (pc := 60) dX7_victim_60 rfl rfl ?_
        refine zx_iret (pc := 61) dX7_victim_61 (fun o => by first | exact o.1 _ (by decide) | exact o.2 _ _ | omega) ?_
        exact ⟨by first | rfl | (rw [ef, ev]), back _⟩
      · skip
        rw [ef, e2] at c43
        rw [ifp_t c43]
        refine zx_aload_n (pc := 46) dX7_victim_46 rfl rfl ?_
        refine zi_X7_316 (pc := 47) dX7_victim_47 (C_X7_nextVictim w1.1 w1.2.1 w2 w1.2.2.1.2) (by decide) (Nat.le_of_ble_eq_true rfl) (fun z47 h47 u47 v47 q47 => ?_)
        obtain ⟨rfl, e47⟩ := q47
        rw [e47]
        clear e47 h47
        refine zx_goto (pc := 50) (tgt := 54) dX7_victim_50 (by decide) ?_
        refine zx_istore_n (pc := 54) dX7_victim_54 rfl (by decide) rfl ?_
        refine zx_aload_n (pc := 55) dX7_victim_55 rfl rfl ?_
        refine zx_iload_n (pc := 56) dX7_victim_56 rfl rfl ?_
        refine zp_X7_53 (pc := 57) dX7_victim_57 (fun _ => ok.1 32 (by decide)) ?_
        refine zx_iload_n (pc := 60) dX7_victim_60 rfl rfl ?_
        refine zx_iret (pc := 61) dX7_victim_61 (fun o => by first | exact o.1 _ (by decide) | exact o.2 _ _ | omega) ?_
        exact ⟨by first | rfl | (rw [ef, ev]), back _⟩
    · skip
      rw [ef] at c23
      rw [ifp_t (Or.inr c23)]
      refine zx_iconst (pc := 26) dX7_victim_26 ?_
      refine zx_iret (pc := 27) dX7_victim_27 (fun o => by first | exact o.1 _ (by decide) | exact o.2 _ _ | omega) ?_
      exact ⟨rfl, rfl⟩

