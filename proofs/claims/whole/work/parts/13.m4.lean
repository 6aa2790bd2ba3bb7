/-! the reference's flash operations: contracts -/
set_option maxRecDepth 100000 in
theorem L1_X7_startAnew {h0 : zH} (Q : zH → Prop) (k : ∀ i, zX cM zNo RX7 cX7_startAnew 2 none rX7_startAnew 26 [some (.ref 0), some (.int (iI i))] [] (prr h0 2 0 1024 0) (zEv cM Q)) : ∀ (n : Nat) (i : Int), 0 ≤ i → i ≤ 1024 → 1024 - i < n → zX cM zNo RX7 cX7_startAnew 2 none rX7_startAnew 6 [some (.ref 0), some (.int (iI i))] [] (prr h0 2 0 i 0) (zEv cM Q) := by
  intro n
  induction n with
  | zero => intro i g1 g2 g3; omega
  | succ n ih =>
    intro i g1 g2 g3
    have e := prr_next h0 2 0 g1
    refine zx_iload_n (pc := 6) dX7_startAnew_6 rfl rfl ?_
    refine zx_sipush (pc := 7) dX7_startAnew_7 (by decide +kernel) ?_
    refine zx_icmp_ge (pc := 10) (tgt := 26) dX7_startAnew_10 (by decide) (fun o => by first | exact o.1 _ (by decide) | exact o.2 _ _ | omega) (fun o => by first | exact o.1 _ (by decide) | exact o.2 _ _ | omega) (fun c10 => ?_) (fun c10 => ?_)
    · skip
      have e2 : i = 1024 := by omega
      rw [e2]
      exact k _
    · skip
      refine zx_aload_n (pc := 13) dX7_startAnew_13 rfl rfl ?_
      refine zg_X7_13 (pc := 14) dX7_startAnew_14 ?_
      refine zx_iload_n (pc := 17) dX7_startAnew_17 rfl rfl ?_
      refine zx_iconst (pc := 18) dX7_startAnew_18 ?_
      refine zx_iastore (pc := 19) aX7_kind dX7_startAnew_19 (by omega) (by omega) (by omega) (fun o => by first | exact o.1 _ (by decide) | exact o.2 _ _ | omega) ?_
      refine zx_iinc (pc := 20) dX7_startAnew_20 (by decide) rfl rfl ?_
      refine zx_goto (pc := 23) (tgt := 6) dX7_startAnew_23 (by decide) ?_
      rw [e]
      exact ih (i + 1) (by omega) (by omega) (by omega)
set_option maxRecDepth 100000 in
theorem L2_X7_startAnew {h0 : zH} (Q : zH → Prop) (k : ∀ i, zX cM zNo RX7 cX7_startAnew 2 none rX7_startAnew 47 [some (.ref 0), some (.int (iI i))] [] (prr h0 9 0 32 0) (zEv cM Q)) : ∀ (n : Nat) (i : Int), 0 ≤ i → i ≤ 32 → 32 - i < n → zX cM zNo RX7 cX7_startAnew 2 none rX7_startAnew 28 [some (.ref 0), some (.int (iI i))] [] (prr h0 9 0 i 0) (zEv cM Q) := by
  intro n
  induction n with
  | zero => intro i g1 g2 g3; omega
  | succ n ih =>
    intro i g1 g2 g3
    have e := prr_next h0 9 0 g1
    refine zx_iload_n (pc := 28) dX7_startAnew_28 rfl rfl ?_
    refine zx_bipush (pc := 29) dX7_startAnew_29 (by decide +kernel) ?_
    refine zx_icmp_ge (pc := 31) (tgt := 47) dX7_startAnew_31 (by decide) (fun o => by first | exact o.1 _ (by decide) | exact o.2 _ _ | omega) (fun o => by first | exact o.1 _ (by decide) | exact o.2 _ _ | omega) (fun c31 => ?_) (fun c31 => ?_)
    · skip
      have e2 : i = 32 := by omega
      rw [e2]
      exact k _
    · skip
      refine zx_aload_n (pc := 34) dX7_startAnew_34 rfl rfl ?_
      refine zg_X7_34 (pc := 35) dX7_startAnew_35 ?_
      refine zx_iload_n (pc := 38) dX7_startAnew_38 rfl rfl ?_
      refine zx_iconst (pc := 39) dX7_startAnew_39 ?_
      refine zx_iastore (pc := 40) aX7_eraseCount dX7_startAnew_40 (by omega) (by omega) (by omega) (fun o => by first | exact o.1 _ (by decide) | exact o.2 _ _ | omega) ?_
      refine zx_iinc (pc := 41) dX7_startAnew_41 (by decide) rfl rfl ?_
      refine zx_goto (pc := 44) (tgt := 28) dX7_startAnew_44 (by decide) ?_
      rw [e]
      exact ih (i + 1) (by omega) (by omega) (by omega)
set_option maxRecDepth 100000 in
theorem C_X7_startAnew {h : zH} : kX7_startAnew h (fun h2 => h2 = m_anew h) := by
  apply eX7_startAnew
  refine zx_aload_n (pc := 0) dX7_startAnew_0 rfl rfl ?_
  refine zi_X7_101 (pc := 1) dX7_startAnew_1 (C_X7_forgets) (by decide) (Nat.le_of_ble_eq_true rfl) (fun h1 q1 => ?_)
  rw [q1]
  clear q1 h1
  refine zx_iconst (pc := 4) dX7_startAnew_4 ?_
  refine zx_istore_n (pc := 5) dX7_startAnew_5 rfl (by decide) rfl ?_
  have r := L1_X7_startAnew (h0 := m_forgets h) (fun h2 => h2 = m_anew h) (fun i => ?_) 1025 0 (by omega) (by omega) (by omega)
  · simp only [prr_0] at r
    exact r
  refine zx_iconst (pc := 26) dX7_startAnew_26 ?_
  refine zx_istore_n (pc := 27) dX7_startAnew_27 rfl (by decide) rfl ?_
  have r := L2_X7_startAnew (h0 := prr (m_forgets h) 2 0 1024 0) (fun h2 => h2 = m_anew h) (fun i => ?_) 33 0 (by omega) (by omega) (by omega)
  · simp only [prr_0] at r
    exact r
  refine zx_aload_n (pc := 47) dX7_startAnew_47 rfl rfl ?_
  refine zx_iconst (pc := 48) dX7_startAnew_48 ?_
  refine zp_X7_111 (pc := 49) dX7_startAnew_49 (fun o => by first | exact o.1 _ (by decide) | exact o.2 _ _ | omega) ?_
  refine zx_aload_n (pc := 52) dX7_startAnew_52 rfl rfl ?_
  refine zx_iconst (pc := 53) dX7_startAnew_53 ?_
  refine zp_X7_114 (pc := 54) dX7_startAnew_54 (fun o => by first | exact o.1 _ (by decide) | exact o.2 _ _ | omega) ?_
  refine zx_aload_n (pc := 57) dX7_startAnew_57 rfl rfl ?_
  refine zx_iconst (pc := 58) dX7_startAnew_58 ?_
  refine zp_X7_117 (pc := 59) dX7_startAnew_59 (fun o => by first | exact o.1 _ (by decide) | exact o.2 _ _ | omega) ?_
  refine zx_aload_n (pc := 62) dX7_startAnew_62 rfl rfl ?_
  refine zx_iconst (pc := 63) dX7_startAnew_63 ?_
  refine zp_X7_120 (pc := 64) dX7_startAnew_64 (fun o => by first | exact o.1 _ (by decide) | exact o.2 _ _ | omega) ?_
  refine zx_aload_n (pc := 67) dX7_startAnew_67 rfl rfl ?_
  refine zx_iconst (pc := 68) dX7_startAnew_68 ?_
  refine zp_X7_123 (pc := 69) dX7_startAnew_69 (fun o => by first | exact o.1 _ (by decide) | exact o.2 _ _ | omega) ?_
  refine zx_aload_n (pc := 72) dX7_startAnew_72 rfl rfl ?_
  refine zx_iconst (pc := 73) dX7_startAnew_73 ?_
  refine zp_X7_108 (pc := 74) dX7_startAnew_74 (fun o => by first | exact o.1 _ (by decide) | exact o.2 _ _ | omega) ?_
  refine zx_aload_n (pc := 77) dX7_startAnew_77 rfl rfl ?_
  refine zx_iconst (pc := 78) dX7_startAnew_78 ?_
  refine zp_X7_126 (pc := 79) dX7_startAnew_79 (fun o => by first | exact o.1 _ (by decide) | exact o.2 _ _ | omega) ?_
  refine zx_aload_n (pc := 82) dX7_startAnew_82 rfl rfl ?_
  refine zx_iconst (pc := 83) dX7_startAnew_83 ?_
  refine zp_X7_129 (pc := 84) dX7_startAnew_84 (fun o => by first | exact o.1 _ (by decide) | exact o.2 _ _ | omega) ?_
  refine zx_aload_n (pc := 87) dX7_startAnew_87 rfl rfl ?_
  refine zx_iconst (pc := 88) dX7_startAnew_88 ?_
  refine zp_X7_132 (pc := 89) dX7_startAnew_89 (fun o => by first | exact o.1 _ (by decide) | exact o.2 _ _ | omega) ?_
  refine zx_aload_n (pc := 92) dX7_startAnew_92 rfl rfl ?_
  refine zx_iconst (pc := 93) dX7_startAnew_93 ?_
  refine zp_X7_104 (pc := 94) dX7_startAnew_94 (by omega) (fun o => by first | exact o.1 _ (by decide) | exact o.2 _ _ | omega) ?_
  refine zx_vret (pc := 97) dX7_startAnew_97 ?_
  rfl
theorem gs_oper (h : zH) (k : Nat) (hk : k ≠ 25) : gs (m_oper h) k = gs h k := by
  unfold m_oper
  rw [gs_if, gs_ps, if_neg hk, ifp_same]
theorem ga_oper (h : zH) (k : Nat) (i : Int) : ga (m_oper h) k i = ga h k i := by
  unfold m_oper
  rw [ga_if, ga_ps, ifp_same]
theorem mKind_c {h h2 : zH} {b w : Int} (e : gs h2 2 = gs h 2) (ek : ∀ i, gs h 2 * b ≤ i → i < gs h 2 * b + gs h 2 → (ga h2 2 i = w ↔ ga h 2 i = w)) (h0 : 0 ≤ gs h 2) : mKind h2 b w = mKind h b w := by
  unfold mKind
  rw [e]
  exact cnt_c (fun i h1 h3 => ek i h1 (by omega))
theorem MB_c {h h2 : zH} (hb : MB h) (e1 : gs h2 1 = gs h 1) (e2 : gs h2 2 = gs h 2) (e3 : gs h2 3 = gs h 3) : MB h2 := by
  unfold MB
  rw [e1, e2, e3]
  exact hb
theorem MB_oper {h : zH} (hb : MB h) : MB (m_oper h) := MB_c hb (gs_oper h 1 (by decide)) (gs_oper h 2 (by decide)) (gs_oper h 3 (by decide))
set_option maxRecDepth 100000 in
theorem L_X7_erasesBlock {h0 : zH} (hb : MB h0) {a1 v : Int} (h1 : 0 ≤ a1) (h2 : a1 < gs h0 1) {p : Prop} (hv : v = ifp p 0 5) (Q : Int → zH → Prop) (k : ∀ i, zX cM zNo RX7 cX7_erasesBlock 4 (some .boolean) rX7_erasesBlock 45 [some (.ref 0), some (.int (iI a1)), some (.int (iI (b2i p))), some (.int (iI i))] [] (prr h0 2 (gs h0 2 * a1) (gs h0 2 * a1 + gs h0 2) v) (zEi cM Q)) : ∀ (n : Nat) (i : Int), gs h0 2 * a1 ≤ i → i ≤ gs h0 2 * a1 + gs h0 2 → gs h0 2 * a1 + gs h0 2 - i < n → zX cM zNo RX7 cX7_erasesBlock 4 (some .boolean) rX7_erasesBlock 12 [some (.ref 0), some (.int (iI a1)), some (.int (iI (b2i p))), some (.int (iI i))] [] (prr h0 2 (gs h0 2 * a1) i v) (zEi cM Q) := by
  obtain ⟨m1, m2, m3, m4, m5, m6⟩ := hb
  obtain ⟨b1, b2, b3, b4⟩ := mb_blk h1 h2 m2 m3 m4
  have r := b2i_r p
  intro n
  induction n with
  | zero => intro i g1 g2 g3; omega
  | succ n ih =>
    intro i g1 g2 g3
    have e := prr_next h0 2 v g1
    have e0 : gs (prr h0 2 (gs h0 2 * a1) i v) 2 = gs h0 2 := rfl
    have hv1 : b2i p = 0 → v = 5 := fun q => by rw [hv, ifp_f (b2i_0.mp q)]
    have hv2 : b2i p ≠ 0 → v = 0 := fun q => by rw [hv, ifp_t (b2i_n0.mp q)]
    refine zx_iload_n (pc := 12) dX7_erasesBlock_12 rfl rfl ?_
    refine zx_aload_n (pc := 13) dX7_erasesBlock_13 rfl rfl ?_
    refine zg_X7_82 (pc := 14) dX7_erasesBlock_14 ?_
    refine zx_iload_n (pc := 17) dX7_erasesBlock_17 rfl rfl ?_
    refine zx_iconst (pc := 18) dX7_erasesBlock_18 ?_
    refine zx_iadd (pc := 19) dX7_erasesBlock_19 ?_
    refine zx_imul (pc := 20) dX7_erasesBlock_20 ?_
    refine zx_icmp_ge (pc := 21) (tgt := 45) dX7_erasesBlock_21 (by decide) (fun _ => by omega) (fun _ => by rw [e0]; omega) (fun c21 => ?_) (fun c21 => ?_)
    · skip
      rw [e0] at c21
      have e2 : i = gs h0 2 * a1 + gs h0 2 := by omega
      rw [e2]
      exact k _
    · skip
      rw [e0] at c21
      refine zx_aload_n (pc := 24) dX7_erasesBlock_24 rfl rfl ?_
      refine zg_X7_13 (pc := 25) dX7_erasesBlock_25 ?_
      refine zx_iload_n (pc := 28) dX7_erasesBlock_28 rfl rfl ?_
      refine zx_iload_n (pc := 29) dX7_erasesBlock_29 rfl rfl ?_
      refine zx_if_eq (pc := 30) (tgt := 37) dX7_erasesBlock_30 (by decide) (fun o => by first | exact o.1 _ (by decide) | exact o.2 _ _ | omega) (fun c30 => ?_) (fun c30 => ?_)
      · skip
        refine zx_iconst (pc := 37) dX7_erasesBlock_37 ?_
        refine zx_iastore (pc := 38) aX7_kind dX7_erasesBlock_38 (by omega) (by omega) (by omega) (fun o => by first | exact o.1 _ (by decide) | exact o.2 _ _ | omega) ?_
        refine zx_iinc (pc := 39) dX7_erasesBlock_39 (by decide) rfl rfl ?_
        refine zx_goto (pc := 42) (tgt := 12) dX7_erasesBlock_42 (by decide) ?_
        first | rw [← hv1 c30, e] | rw [← hv2 c30, e]
        exact ih (i + 1) (by omega) (by omega) (by omega)
      · skip
        refine zx_iconst (pc := 33) dX7_erasesBlock_33 ?_
        refine zx_goto (pc := 34) (tgt := 38) dX7_erasesBlock_34 (by decide) ?_
        refine zx_iastore (pc := 38) aX7_kind dX7_erasesBlock_38 (by omega) (by omega) (by omega) (fun o => by first | exact o.1 _ (by decide) | exact o.2 _ _ | omega) ?_
        refine zx_iinc (pc := 39) dX7_erasesBlock_39 (by decide) rfl rfl ?_
        refine zx_goto (pc := 42) (tgt := 12) dX7_erasesBlock_42 (by decide) ?_
        first | rw [← hv1 c30, e] | rw [← hv2 c30, e]
        exact ih (i + 1) (by omega) (by omega) (by omega)
set_option maxRecDepth 100000 in
theorem C_X7_erasesBlock {h : zH} (hb : MB h) (ha : 0 ≤ gs h 25) {a1 : Int} (h1 : 0 ≤ a1) (h2 : a1 < gs h 1) : kX7_erasesBlock a1 h (fun r h2 => r = b2i (mOK h) ∧ h2 = m_erase h a1) := by
  have hb1 := MB_oper hb
  have e1 : gs (m_oper h) 1 = gs h 1 := gs_oper h 1 (by decide)
  have e2 : gs (m_oper h) 2 = gs h 2 := gs_oper h 2 (by decide)
  obtain ⟨m1, m2, m3, m4, m5, m6⟩ := hb
  obtain ⟨b1, b2, b3, b4⟩ := mb_blk h1 h2 m2 m3 m4
  apply eX7_erasesBlock
  refine zx_aload_n (pc := 0) dX7_erasesBlock_0 rfl rfl ?_
  refine zi_X7_291 (pc := 1) dX7_erasesBlock_1 (C_X7_operates ha) (by decide) (Nat.le_of_ble_eq_true rfl) (fun z1 h1 u1 v1 q1 => ?_)
  obtain ⟨rfl, e1⟩ := q1
  rw [e1]
  clear e1 h1
  refine zx_istore_n (pc := 4) dX7_erasesBlock_4 rfl (by decide) rfl ?_
  refine zx_aload_n (pc := 5) dX7_erasesBlock_5 rfl rfl ?_
  refine zg_X7_82 (pc := 6) dX7_erasesBlock_6 ?_
  refine zx_iload_n (pc := 9) dX7_erasesBlock_9 rfl rfl ?_
  refine zx_imul (pc := 10) dX7_erasesBlock_10 ?_
  refine zx_istore_n (pc := 11) dX7_erasesBlock_11 rfl (by decide) rfl ?_
  have r := L_X7_erasesBlock (h0 := m_oper h) hb1 h1 (by rw [e1]; exact h2) (p := mOK h) (v := ifp (mOK h) 0 5) rfl (fun r h2 => r = b2i (mOK h) ∧ h2 = m_erase h a1) (fun i => ?_) ((gs h 2).toNat + 1) (gs (m_oper h) 2 * a1) (Int.le_refl _) (by rw [e2]; omega) (by rw [e2]; omega)
  · simp only [prr_0] at r
    exact r
  have r := b2i_r (mOK h)
  rw [e2]
  refine zx_iload_n (pc := 45) dX7_erasesBlock_45 rfl rfl ?_
  refine zx_if_ne (pc := 46) (tgt := 55) dX7_erasesBlock_46 (by decide) (fun o => by first | exact o.1 _ (by decide) | exact o.2 _ _ | omega) (fun c46 => ?_) (fun c46 => ?_)
  · skip
    have cc := b2i_n0.mp c46
    rw [ifp_t cc]
    refine zx_aload_n (pc := 55) dX7_erasesBlock_55 rfl rfl ?_
    refine zg_X7_34 (pc := 56) dX7_erasesBlock_56 ?_
    refine zx_iload_n (pc := 59) dX7_erasesBlock_59 rfl rfl ?_
    refine zx_aload_n (pc := 60) dX7_erasesBlock_60 rfl rfl ?_
    refine zg_X7_34 (pc := 61) dX7_erasesBlock_61 ?_
    refine zx_iload_n (pc := 64) dX7_erasesBlock_64 rfl rfl ?_
    refine zx_iaload (pc := 65) aX7_eraseCount dX7_erasesBlock_65 (by omega) (by omega) (by omega) ?_
    refine zx_iconst (pc := 66) dX7_erasesBlock_66 ?_
    refine zx_iadd (pc := 67) dX7_erasesBlock_67 ?_
    refine zx_wr ?_
    refine zx_iastore (pc := 68) aX7_eraseCount dX7_erasesBlock_68 (by omega) (by omega) (by omega) (fun _ => wr_rng _) ?_
    refine zx_aload_n (pc := 69) dX7_erasesBlock_69 rfl rfl ?_
    refine zx_aload_n (pc := 70) dX7_erasesBlock_70 rfl rfl ?_
    refine zg_X7_117 (pc := 71) dX7_erasesBlock_71 ?_
    refine zx_iconst (pc := 74) dX7_erasesBlock_74 ?_
    refine zx_iadd (pc := 75) dX7_erasesBlock_75 ?_
    refine zx_wr ?_
    refine zp_X7_117 (pc := 76) dX7_erasesBlock_76 (fun _ => wr_rng _) ?_
    refine zx_iconst (pc := 79) dX7_erasesBlock_79 ?_
    refine zx_zret (pc := 80) dX7_erasesBlock_80 (by omega) ?_
    refine ⟨(b2i_t cc).symm, ?_⟩
    unfold m_erase
    rw [ifp_t cc]
    simp only [ga_prr, ga_oper, gs_pa, gs_prr, gs_oper h 21 (by decide)]
    rfl
  · skip
    have cc := b2i_0.mp c46
    rw [ifp_f cc]
    refine zx_aload_n (pc := 49) dX7_erasesBlock_49 rfl rfl ?_
    refine zi_X7_294 (pc := 50) dX7_erasesBlock_50 (C_X7_losesPower) (by decide) (Nat.le_of_ble_eq_true rfl) (fun h50 q50 => ?_)
    rw [q50]
    clear q50 h50
    refine zx_iconst (pc := 53) dX7_erasesBlock_53 ?_
    refine zx_zret (pc := 54) dX7_erasesBlock_54 (by omega) ?_
    exact ⟨(b2i_f cc).symm, by unfold m_erase; rw [ifp_f cc]⟩
theorem mFreeIn_r {h : zH} (hb : MB h) (b : Int) : 0 ≤ mFreeIn h b ∧ mFreeIn h b ≤ gs h 2 := by
  have g := cnt_r (fun i => ga h 2 i = 0) (gs h 2 * b) (gs h 2).toNat
  have e : mFreeIn h b = cnt (fun i => ga h 2 i = 0) (gs h 2 * b) (gs h 2).toNat := rfl
  have q := hb.2.2.1
  rw [e]
  omega
set_option maxRecDepth 100000 in
theorem C_X7_lowestFree {h : zH} (hb : MB h) (h1 : 0 ≤ gs h 32) (h2 : gs h 32 < gs h 1) : kX7_lowestFree h (fun r h2 => r = m_low h ∧ h2 = h) := by
  have hb0 := hb
  have q := mFreeIn_r hb (gs h 32)
  obtain ⟨m1, m2, m3, m4, m5, m6⟩ := hb
  obtain ⟨b1, b2, b3, b4⟩ := mb_blk h1 h2 m2 m3 m4
  apply eX7_lowestFree
  refine zx_aload_n (pc := 0) dX7_lowestFree_0 rfl rfl ?_
  refine zg_X7_82 (pc := 1) dX7_lowestFree_1 ?_
  refine zx_aload_n (pc := 4) dX7_lowestFree_4 rfl rfl ?_
  refine zg_X7_53 (pc := 5) dX7_lowestFree_5 ?_
  refine zx_imul (pc := 8) dX7_lowestFree_8 ?_
  refine zx_aload_n (pc := 9) dX7_lowestFree_9 rfl rfl ?_
  refine zg_X7_82 (pc := 10) dX7_lowestFree_10 ?_
  refine zx_iadd (pc := 13) dX7_lowestFree_13 ?_
  refine zx_aload_n (pc := 14) dX7_lowestFree_14 rfl rfl ?_
  refine zx_aload_n (pc := 15) dX7_lowestFree_15 rfl rfl ?_
  refine zg_X7_53 (pc := 16) dX7_lowestFree_16 ?_
  refine zi_X7_285 (pc := 19) dX7_lowestFree_19 (C_X7_freeIn hb0 h1 h2) (by decide) (Nat.le_of_ble_eq_true rfl) (fun z19 h19 u19 v19 q19 => ?_)
  obtain ⟨rfl, e19⟩ := q19
  rw [e19]
  clear e19 h19
  refine zx_isub (pc := 22) dX7_lowestFree_22 ?_
  refine zx_iret (pc := 23) dX7_lowestFree_23 (fun o => by first | exact o.1 _ (by decide) | exact o.2 _ _ | omega) ?_
  exact ⟨rfl, rfl⟩
set_option maxRecDepth 100000 in
theorem C_X7_programsAt {h : zH} (ha : 0 ≤ gs h 25) {a1 a2 a3 a4 : Int} (h1 : 0 ≤ a1) (h2 : a1 < 1024) (r2 : -2147483648 ≤ a2 ∧ a2 < 2147483648) (r3 : -2147483648 ≤ a3 ∧ a3 < 2147483648) (r4 : -2147483648 ≤ a4 ∧ a4 < 2147483648) : kX7_programsAt a1 a2 a3 a4 h (fun r h2 => r = b2i (mOK h) ∧ h2 = m_prog h a1 a2 a3 a4) := by
  apply eX7_programsAt
  have r := b2i_r (mOK h)
  refine zx_aload_n (pc := 0) dX7_programsAt_0 rfl rfl ?_
  refine zi_X7_291 (pc := 1) dX7_programsAt_1 (C_X7_operates ha) (by decide) (Nat.le_of_ble_eq_true rfl) (fun z1 h1 u1 v1 q1 => ?_)
  obtain ⟨rfl, e1⟩ := q1
  rw [e1]
  clear e1 h1
  refine zx_if_ne (pc := 4) (tgt := 20) dX7_programsAt_4 (by decide) (fun o => by first | exact o.1 _ (by decide) | exact o.2 _ _ | omega) (fun c4 => ?_) (fun c4 => ?_)
  · skip
    replace c4 := b2i_n0.mp c4
    refine zx_aload_n (pc := 20) dX7_programsAt_20 rfl rfl ?_
    refine zx_aload_n (pc := 21) dX7_programsAt_21 rfl rfl ?_
    refine zg_X7_111 (pc := 22) dX7_programsAt_22 ?_
    refine zx_iconst (pc := 25) dX7_programsAt_25 ?_
    refine zx_iadd (pc := 26) dX7_programsAt_26 ?_
    refine zx_wr ?_
    refine zp_X7_111 (pc := 27) dX7_programsAt_27 (fun _ => wr_rng _) ?_
    refine zx_aload_n (pc := 30) dX7_programsAt_30 rfl rfl ?_
    refine zx_aload_n (pc := 31) dX7_programsAt_31 rfl rfl ?_
    refine zg_X7_114 (pc := 32) dX7_programsAt_32 ?_
    refine zx_iconst (pc := 35) dX7_programsAt_35 ?_
    refine zx_iadd (pc := 36) dX7_programsAt_36 ?_
    refine zx_wr ?_
    refine zp_X7_114 (pc := 37) dX7_programsAt_37 (fun _ => wr_rng _) ?_
    refine zx_aload_n (pc := 40) dX7_programsAt_40 rfl rfl ?_
    refine zg_X7_13 (pc := 41) dX7_programsAt_41 ?_
    refine zx_iload_n (pc := 44) dX7_programsAt_44 rfl rfl ?_
    refine zx_iload_n (pc := 45) dX7_programsAt_45 rfl rfl ?_
    refine zx_iastore (pc := 46) aX7_kind dX7_programsAt_46 (by omega) (by omega) (by omega) (fun _ => by omega) ?_
    refine zx_aload_n (pc := 47) dX7_programsAt_47 rfl rfl ?_
    refine zg_X7_16 (pc := 48) dX7_programsAt_48 ?_
    refine zx_iload_n (pc := 51) dX7_programsAt_51 rfl rfl ?_
    refine zx_iload_n (pc := 52) dX7_programsAt_52 rfl rfl ?_
    refine zx_iastore (pc := 53) aX7_index dX7_programsAt_53 (by omega) (by omega) (by omega) (fun _ => by omega) ?_
    refine zx_aload_n (pc := 54) dX7_programsAt_54 rfl rfl ?_
    refine zg_X7_19 (pc := 55) dX7_programsAt_55 ?_
    refine zx_iload_n (pc := 58) dX7_programsAt_58 rfl rfl ?_
    refine zx_iload (pc := 59) dX7_programsAt_59 rfl ?_
    refine zx_iastore (pc := 61) aX7_group dX7_programsAt_61 (by omega) (by omega) (by omega) (fun _ => by omega) ?_
    refine zx_aload_n (pc := 62) dX7_programsAt_62 rfl rfl ?_
    refine zg_X7_22 (pc := 63) dX7_programsAt_63 ?_
    refine zx_iload_n (pc := 66) dX7_programsAt_66 rfl rfl ?_
    refine zx_aload_n (pc := 67) dX7_programsAt_67 rfl rfl ?_
    refine zg_X7_111 (pc := 68) dX7_programsAt_68 ?_
    refine zx_iastore (pc := 71) aX7_version dX7_programsAt_71 (by omega) (by omega) (by omega) (fun o => o.1 19 (by decide)) ?_
    refine zx_aload_n (pc := 72) dX7_programsAt_72 rfl rfl ?_
    refine zg_X7_25 (pc := 73) dX7_programsAt_73 ?_
    refine zx_iload_n (pc := 76) dX7_programsAt_76 rfl rfl ?_
    refine zx_aload_n (pc := 77) dX7_programsAt_77 rfl rfl ?_
    refine zg_X7_111 (pc := 78) dX7_programsAt_78 ?_
    refine zx_iastore (pc := 81) aX7_sequence dX7_programsAt_81 (by omega) (by omega) (by omega) (fun o => o.1 19 (by decide)) ?_
    refine zx_iconst (pc := 82) dX7_programsAt_82 ?_
    refine zx_zret (pc := 83) dX7_programsAt_83 (by omega) ?_
    refine ⟨(b2i_t c4).symm, ?_⟩
    unfold m_prog
    rw [ifp_t c4]
    rfl
  · skip
    replace c4 := b2i_0.mp c4
    refine zx_aload_n (pc := 7) dX7_programsAt_7 rfl rfl ?_
    refine zg_X7_13 (pc := 8) dX7_programsAt_8 ?_
    refine zx_iload_n (pc := 11) dX7_programsAt_11 rfl rfl ?_
    refine zx_iconst (pc := 12) dX7_programsAt_12 ?_
    refine zx_iastore (pc := 13) aX7_kind dX7_programsAt_13 (by omega) (by omega) (by omega) (fun _ => by omega) ?_
    refine zx_aload_n (pc := 14) dX7_programsAt_14 rfl rfl ?_
    refine zi_X7_294 (pc := 15) dX7_programsAt_15 (C_X7_losesPower) (by decide) (Nat.le_of_ble_eq_true rfl) (fun h15 q15 => ?_)
    rw [q15]
    clear q15 h15
    refine zx_iconst (pc := 18) dX7_programsAt_18 ?_
    refine zx_zret (pc := 19) dX7_programsAt_19 (by omega) ?_
    exact ⟨(b2i_f c4).symm, by unfold m_prog; rw [ifp_f c4]⟩

