/-! the reference's questions: contracts -/
set_option maxRecDepth 100000 in
theorem C_X7_thrown {h : zH} : kX7_thrown h (fun r h2 => r = gs h 0 ∧ h2 = h) := by
  apply eX7_thrown
  refine zx_aload_n (pc := 0) dX7_thrown_0 rfl rfl ?_
  refine zg_X7_69 (pc := 1) dX7_thrown_1 ?_
  refine zx_iret (pc := 4) dX7_thrown_4 (fun o => by first | exact o.1 _ (by decide) | exact o.2 _ _ | omega) ?_
  exact ⟨rfl, rfl⟩
set_option maxRecDepth 100000 in
theorem C_X7_refuse {h : zH} {a1 : Int} : kX7_refuse a1 h (fun r h2 => r = 0 ∧ h2 = ps h 0 (wr a1)) := by
  apply eX7_refuse
  rw [← iI_wr a1]
  have hw := wr_rng a1
  generalize wr a1 = a1 at hw ⊢
  refine zx_aload_n (pc := 0) dX7_refuse_0 rfl rfl ?_
  refine zx_iload_n (pc := 1) dX7_refuse_1 rfl rfl ?_
  refine zp_X7_69 (pc := 2) dX7_refuse_2 (fun o => by first | exact o.1 _ (by decide) | exact o.2 _ _ | omega) ?_
  refine zx_iconst (pc := 5) dX7_refuse_5 ?_
  refine zx_iret (pc := 6) dX7_refuse_6 (fun o => by first | exact o.1 _ (by decide) | exact o.2 _ _ | omega) ?_
  exact ⟨rfl, rfl⟩
set_option maxRecDepth 100000 in
theorem C_X7_told {h : zH} {a1 : Int} (r1 : -2147483648 ≤ a1 ∧ a1 < 2147483648) : kX7_told a1 h (fun r h2 => r = a1 ∧ h2 = ps h 0 0) := by
  apply eX7_told
  refine zx_aload_n (pc := 0) dX7_told_0 rfl rfl ?_
  refine zx_iconst (pc := 1) dX7_told_1 ?_
  refine zp_X7_69 (pc := 2) dX7_told_2 (fun o => by first | exact o.1 _ (by decide) | exact o.2 _ _ | omega) ?_
  refine zx_iload_n (pc := 5) dX7_told_5 rfl rfl ?_
  refine zx_iret (pc := 6) dX7_told_6 (fun o => by first | exact o.1 _ (by decide) | exact o.2 _ _ | omega) ?_
  exact ⟨rfl, rfl⟩
set_option maxRecDepth 100000 in
theorem C_X7_in {h : zH} {a1 a2 a3 : Int} (r1 : -2147483648 ≤ a1 ∧ a1 < 2147483648) (r2 : -2147483648 ≤ a2 ∧ a2 < 2147483648) (r3 : -2147483648 ≤ a3 ∧ a3 < 2147483648) : kX7_in a1 a2 a3 h (fun r h2 => r = b2i (a2 ≤ a1 ∧ a1 ≤ a3) ∧ h2 = h) := by
  apply eX7_in
  refine zx_iload_n (pc := 0) dX7_in_0 rfl rfl ?_
  refine zx_iload_n (pc := 1) dX7_in_1 rfl rfl ?_
  refine zx_icmp_lt (pc := 2) (tgt := 14) dX7_in_2 (by decide) (fun o => by first | exact o.1 _ (by decide) | exact o.2 _ _ | omega) (fun o => by first | exact o.1 _ (by decide) | exact o.2 _ _ | omega) (fun c2 => ?_) (fun c2 => ?_)
  · skip
    refine zx_iconst (pc := 14) dX7_in_14 ?_
    refine zx_zret (pc := 15) dX7_in_15 (by omega) ?_
    exact ⟨by first | exact (b2i_t (by omega)).symm | exact (b2i_f (by omega)).symm, rfl⟩
  · skip
    refine zx_iload_n (pc := 5) dX7_in_5 rfl rfl ?_
    refine zx_iload_n (pc := 6) dX7_in_6 rfl rfl ?_
    refine zx_icmp_gt (pc := 7) (tgt := 14) dX7_in_7 (by decide) (fun o => by first | exact o.1 _ (by decide) | exact o.2 _ _ | omega) (fun o => by first | exact o.1 _ (by decide) | exact o.2 _ _ | omega) (fun c7 => ?_) (fun c7 => ?_)
    · skip
      refine zx_iconst (pc := 14) dX7_in_14 ?_
      refine zx_zret (pc := 15) dX7_in_15 (by omega) ?_
      exact ⟨by first | exact (b2i_t (by omega)).symm | exact (b2i_f (by omega)).symm, rfl⟩
    · skip
      refine zx_iconst (pc := 10) dX7_in_10 ?_
      refine zx_goto (pc := 11) (tgt := 15) dX7_in_11 (by decide) ?_
      refine zx_zret (pc := 15) dX7_in_15 (by omega) ?_
      exact ⟨by first | exact (b2i_t (by omega)).symm | exact (b2i_f (by omega)).symm, rfl⟩
set_option maxRecDepth 100000 in
theorem C_X7_partsOf {h : zH} {a1 : Int} (r1 : 0 ≤ a1) (r2 : a1 < 1000) : kX7_partsOf a1 h (fun r h2 => r = (a1 + 7) / 8 ∧ h2 = h) := by
  apply eX7_partsOf
  refine zx_iload_n (pc := 0) dX7_partsOf_0 rfl rfl ?_
  refine zx_bipush (pc := 1) dX7_partsOf_1 (by decide +kernel) ?_
  refine zx_iadd (pc := 3) dX7_partsOf_3 ?_
  refine zx_iconst (pc := 4) dX7_partsOf_4 ?_
  refine zx_isub (pc := 5) dX7_partsOf_5 ?_
  refine zx_bipush (pc := 6) dX7_partsOf_6 (by decide +kernel) ?_
  refine zx_idiv (pc := 8) dX7_partsOf_8 (by omega) (by omega) (by omega) (by omega) ?_
  refine zx_iret (pc := 9) dX7_partsOf_9 (fun o => by first | exact o.1 _ (by decide) | exact o.2 _ _ | omega) ?_
  exact ⟨by rw [show a1 + 8 - 1 = a1 + 7 by omega], rfl⟩
set_option maxRecDepth 100000 in
theorem C_X7_parts {h : zH} (hb : MB h) : kX7_parts h (fun r h2 => r = (gs h 3 + 7) / 8 ∧ h2 = h) := by
  obtain ⟨m1, m2, m3, m4, m5, m6⟩ := hb
  apply eX7_parts
  refine zx_aload_n (pc := 0) dX7_parts_0 rfl rfl ?_
  refine zg_X7_72 (pc := 1) dX7_parts_1 ?_
  refine zi_X7_75 (pc := 4) dX7_parts_4 (C_X7_partsOf (by omega) (by omega)) (by decide) (Nat.le_of_ble_eq_true rfl) (fun z4 h4 u4 v4 q4 => ?_)
  obtain ⟨rfl, e4⟩ := q4
  rw [e4]
  clear e4 h4
  refine zx_iret (pc := 7) dX7_parts_7 (fun o => by first | exact o.1 _ (by decide) | exact o.2 _ _ | omega) ?_
  exact ⟨rfl, rfl⟩
set_option maxRecDepth 100000 in
theorem C_X7_flashSize {h : zH} (hb : MB h) : kX7_flashSize h (fun r h2 => r = gs h 1 * gs h 2 ∧ h2 = h) := by
  obtain ⟨m1, m2, m3, m4, m5, m6⟩ := hb
  have m7 := mb_size m1 m2 m3 m4
  apply eX7_flashSize
  refine zx_aload_n (pc := 0) dX7_flashSize_0 rfl rfl ?_
  refine zg_X7_79 (pc := 1) dX7_flashSize_1 ?_
  refine zx_aload_n (pc := 4) dX7_flashSize_4 rfl rfl ?_
  refine zg_X7_82 (pc := 5) dX7_flashSize_5 ?_
  refine zx_imul (pc := 8) dX7_flashSize_8 ?_
  refine zx_iret (pc := 9) dX7_flashSize_9 (fun o => by first | exact o.1 _ (by decide) | exact o.2 _ _ | omega) ?_
  exact ⟨rfl, rfl⟩
set_option maxRecDepth 100000 in
theorem C_X7_isLogical {h : zH} {a1 : Int} (hb : MB h) (r1 : -2147483648 ≤ a1 ∧ a1 < 2147483648) : kX7_isLogical a1 h (fun r h2 => r = b2i (0 ≤ a1 ∧ a1 < gs h 3) ∧ h2 = h) := by
  obtain ⟨m1, m2, m3, m4, m5, m6⟩ := hb
  apply eX7_isLogical
  refine zx_iload_n (pc := 0) dX7_isLogical_0 rfl rfl ?_
  refine zx_iconst (pc := 1) dX7_isLogical_1 ?_
  refine zx_aload_n (pc := 2) dX7_isLogical_2 rfl rfl ?_
  refine zg_X7_72 (pc := 3) dX7_isLogical_3 ?_
  refine zx_iconst (pc := 6) dX7_isLogical_6 ?_
  refine zx_isub (pc := 7) dX7_isLogical_7 ?_
  refine zi_X7_85 (pc := 8) dX7_isLogical_8 (C_X7_in r1 (by omega) (by omega)) (by decide) (Nat.le_of_ble_eq_true rfl) (fun z8 h8 u8 v8 q8 => ?_)
  obtain ⟨rfl, e8⟩ := q8
  rw [e8]
  clear e8 h8
  refine zx_zret (pc := 11) dX7_isLogical_11 (b2i_01 _) ?_
  exact ⟨b2i_c ⟨fun z => by omega, fun z => by omega⟩, rfl⟩
set_option maxRecDepth 100000 in
theorem C_X7_isBlock {h : zH} {a1 : Int} (hb : MB h) (r1 : -2147483648 ≤ a1 ∧ a1 < 2147483648) : kX7_isBlock a1 h (fun r h2 => r = b2i (0 ≤ a1 ∧ a1 < gs h 1) ∧ h2 = h) := by
  obtain ⟨m1, m2, m3, m4, m5, m6⟩ := hb
  apply eX7_isBlock
  refine zx_iload_n (pc := 0) dX7_isBlock_0 rfl rfl ?_
  refine zx_iconst (pc := 1) dX7_isBlock_1 ?_
  refine zx_aload_n (pc := 2) dX7_isBlock_2 rfl rfl ?_
  refine zg_X7_79 (pc := 3) dX7_isBlock_3 ?_
  refine zx_iconst (pc := 6) dX7_isBlock_6 ?_
  refine zx_isub (pc := 7) dX7_isBlock_7 ?_
  refine zi_X7_85 (pc := 8) dX7_isBlock_8 (C_X7_in r1 (by omega) (by omega)) (by decide) (Nat.le_of_ble_eq_true rfl) (fun z8 h8 u8 v8 q8 => ?_)
  obtain ⟨rfl, e8⟩ := q8
  rw [e8]
  clear e8 h8
  refine zx_zret (pc := 11) dX7_isBlock_11 (b2i_01 _) ?_
  exact ⟨b2i_c ⟨fun z => by omega, fun z => by omega⟩, rfl⟩
set_option maxRecDepth 100000 in
theorem L_X7_kindMany {h : zH} (hb : MB h) {a1 a2 : Int} (h1 : 0 ≤ a1) (h2 : a1 < gs h 1) (r2 : -2147483648 ≤ a2 ∧ a2 < 2147483648) (Q : Int → zH → Prop) (hQ : Q (mKind h a1 a2) h) : ∀ (n : Nat) (i c : Int), gs h 2 * a1 ≤ i → i ≤ gs h 2 * a1 + gs h 2 → gs h 2 * a1 + gs h 2 - i < n → c = cnt (fun i => ga h 2 i = a2) (gs h 2 * a1) (i - gs h 2 * a1).toNat → zX cM zNo RX7 cX7_kindMany 5 (some .int) rX7_kindMany 10 [some (.ref 0), some (.int (iI a1)), some (.int (iI a2)), some (.int (iI c)), some (.int (iI i))] [] h (zEi cM Q) := by
  obtain ⟨m1, m2, m3, m4, m5, m6⟩ := hb
  obtain ⟨b1, b2, b3, b4⟩ := mb_blk h1 h2 m2 m3 m4
  intro n
  induction n with
  | zero => intro i c g1 g2 g3; omega
  | succ n ih =>
    intro i c g1 g2 g3 g4
    have g5 := cnt_r (fun i => ga h 2 i = a2) (gs h 2 * a1) (i - gs h 2 * a1).toNat
    have g6 := cnt_next (p := fun i => ga h 2 i = a2) g1
    refine zx_iload (pc := 10) dX7_kindMany_10 rfl ?_
    refine zx_aload_n (pc := 12) dX7_kindMany_12 rfl rfl ?_
    refine zg_X7_82 (pc := 13) dX7_kindMany_13 ?_
    refine zx_iload_n (pc := 16) dX7_kindMany_16 rfl rfl ?_
    refine zx_iconst (pc := 17) dX7_kindMany_17 ?_
    refine zx_iadd (pc := 18) dX7_kindMany_18 ?_
    refine zx_imul (pc := 19) dX7_kindMany_19 ?_
    refine zx_icmp_ge (pc := 20) (tgt := 48) dX7_kindMany_20 (by decide) (fun o => by first | exact o.1 _ (by decide) | exact o.2 _ _ | omega) (fun o => by first | exact o.1 _ (by decide) | exact o.2 _ _ | omega) (fun c20 => ?_) (fun c20 => ?_)
    · skip
      refine zx_iload_n (pc := 48) dX7_kindMany_48 rfl rfl ?_
      refine zx_iret (pc := 49) dX7_kindMany_49 (fun o => by first | exact o.1 _ (by decide) | exact o.2 _ _ | omega) ?_
      have e : i - gs h 2 * a1 = gs h 2 := by omega
      rw [g4, e]
      exact hQ
    · skip
      refine zx_aload_n (pc := 23) dX7_kindMany_23 rfl rfl ?_
      refine zg_X7_13 (pc := 24) dX7_kindMany_24 ?_
      refine zx_iload (pc := 27) dX7_kindMany_27 rfl ?_
      refine zx_iaload (pc := 29) aX7_kind dX7_kindMany_29 (by omega) (by omega) (by omega) ?_
      refine zx_iload_n (pc := 30) dX7_kindMany_30 rfl rfl ?_
      refine zx_icmp_ne (pc := 31) (tgt := 40) dX7_kindMany_31 (by decide) (fun o => by first | exact o.1 _ (by decide) | exact o.2 _ _ | omega) (fun o => by first | exact o.1 _ (by decide) | exact o.2 _ _ | omega) (fun c31 => ?_) (fun c31 => ?_)
      · skip
        refine zx_iload_n (pc := 40) dX7_kindMany_40 rfl rfl ?_
        refine zx_istore_n (pc := 41) dX7_kindMany_41 rfl (by decide) rfl ?_
        refine zx_iinc (pc := 42) dX7_kindMany_42 (by decide) rfl rfl ?_
        refine zx_goto (pc := 45) (tgt := 10) dX7_kindMany_45 (by decide) ?_
        exact ih (i + 1) _ (by omega) (by omega) (by omega) (by first | rw [g6, g4, b2i_t (by omega)] | rw [g6, g4, b2i_f (by omega), Int.add_zero])
      · skip
        refine zx_iload_n (pc := 34) dX7_kindMany_34 rfl rfl ?_
        refine zx_iconst (pc := 35) dX7_kindMany_35 ?_
        refine zx_iadd (pc := 36) dX7_kindMany_36 ?_
        refine zx_goto (pc := 37) (tgt := 41) dX7_kindMany_37 (by decide) ?_
        refine zx_istore_n (pc := 41) dX7_kindMany_41 rfl (by decide) rfl ?_
        refine zx_iinc (pc := 42) dX7_kindMany_42 (by decide) rfl rfl ?_
        refine zx_goto (pc := 45) (tgt := 10) dX7_kindMany_45 (by decide) ?_
        exact ih (i + 1) _ (by omega) (by omega) (by omega) (by first | rw [g6, g4, b2i_t (by omega)] | rw [g6, g4, b2i_f (by omega), Int.add_zero])
set_option maxRecDepth 100000 in
theorem C_X7_kindMany {h : zH} (hb : MB h) {a1 a2 : Int} (h1 : 0 ≤ a1) (h2 : a1 < gs h 1) (r2 : -2147483648 ≤ a2 ∧ a2 < 2147483648) : kX7_kindMany a1 a2 h (fun r h2 => r = mKind h a1 a2 ∧ h2 = h) := by
  have hb0 := hb
  obtain ⟨m1, m2, m3, m4, m5, m6⟩ := hb
  obtain ⟨b1, b2, b3, b4⟩ := mb_blk h1 h2 m2 m3 m4
  apply eX7_kindMany
  refine zx_iconst (pc := 0) dX7_kindMany_0 ?_
  refine zx_istore_n (pc := 1) dX7_kindMany_1 rfl (by decide) rfl ?_
  refine zx_aload_n (pc := 2) dX7_kindMany_2 rfl rfl ?_
  refine zg_X7_82 (pc := 3) dX7_kindMany_3 ?_
  refine zx_iload_n (pc := 6) dX7_kindMany_6 rfl rfl ?_
  refine zx_imul (pc := 7) dX7_kindMany_7 ?_
  refine zx_istore (pc := 8) dX7_kindMany_8 (by decide) rfl ?_
  exact L_X7_kindMany hb0 h1 h2 r2 _ ⟨rfl, rfl⟩ ((gs h 2).toNat + 1) _ 0 (Int.le_refl _) (by omega) (by omega) (by rw [Int.sub_self]; rfl)
set_option maxRecDepth 100000 in
theorem C_X7_freeIn {h : zH} (hb : MB h) {a1 : Int} (h1 : 0 ≤ a1) (h2 : a1 < gs h 1) : kX7_freeIn a1 h (fun r h2 => r = mFreeIn h a1 ∧ h2 = h) := by
  apply eX7_freeIn
  refine zx_aload_n (pc := 0) dX7_freeIn_0 rfl rfl ?_
  refine zx_iload_n (pc := 1) dX7_freeIn_1 rfl rfl ?_
  refine zx_iconst (pc := 2) dX7_freeIn_2 ?_
  refine zi_X7_282 (pc := 3) dX7_freeIn_3 (C_X7_kindMany hb h1 h2 (by omega)) (by decide) (Nat.le_of_ble_eq_true rfl) (fun z3 h3 u3 v3 q3 => ?_)
  obtain ⟨rfl, e3⟩ := q3
  rw [e3]
  clear e3 h3
  refine zx_iret (pc := 6) dX7_freeIn_6 (fun o => by first | exact o.1 _ (by decide) | exact o.2 _ _ | omega) ?_
  exact ⟨rfl, rfl⟩
set_option maxRecDepth 100000 in
theorem C_X7_isFree {h : zH} (hb : MB h) {a1 : Int} (h1 : 0 ≤ a1) (h2 : a1 < gs h 1) : kX7_isFree a1 h (fun r h2 => r = b2i (mIsFree h a1) ∧ h2 = h) := by
  have hb0 := hb
  obtain ⟨m1, m2, m3, m4, m5, m6⟩ := hb
  have e1 := cnt_r (fun i => ga h 2 i = 0) (gs h 2 * a1) (gs h 2).toNat
  have e2 : mFreeIn h a1 = cnt (fun i => ga h 2 i = 0) (gs h 2 * a1) (gs h 2).toNat := rfl
  rw [← e2] at e1
  apply eX7_isFree
  refine zx_iload_n (pc := 0) dX7_isFree_0 rfl rfl ?_
  refine zx_aload_n (pc := 1) dX7_isFree_1 rfl rfl ?_
  refine zg_X7_53 (pc := 2) dX7_isFree_2 ?_
  refine zx_icmp_eq (pc := 5) (tgt := 24) dX7_isFree_5 (by decide) (fun o => by first | exact o.1 _ (by decide) | exact o.2 _ _ | omega) (fun o => by first | exact o.1 _ (by decide) | exact o.2 _ _ | omega) (fun c5 => ?_) (fun c5 => ?_)
  · skip
    refine zx_iconst (pc := 24) dX7_isFree_24 ?_
    refine zx_zret (pc := 25) dX7_isFree_25 (by omega) ?_
    exact ⟨by first | exact (b2i_t ⟨by omega, by omega⟩).symm | exact (b2i_f (fun z => by obtain ⟨z1, z2⟩ := z; omega)).symm, rfl⟩
  · skip
    refine zx_aload_n (pc := 8) dX7_isFree_8 rfl rfl ?_
    refine zx_iload_n (pc := 9) dX7_isFree_9 rfl rfl ?_
    refine zi_X7_285 (pc := 10) dX7_isFree_10 (C_X7_freeIn hb0 h1 h2) (by decide) (Nat.le_of_ble_eq_true rfl) (fun z10 h10 u10 v10 q10 => ?_)
    obtain ⟨rfl, e10⟩ := q10
    rw [e10]
    clear e10 h10
    refine zx_aload_n (pc := 13) dX7_isFree_13 rfl rfl ?_
    refine zg_X7_82 (pc := 14) dX7_isFree_14 ?_
    refine zx_icmp_ne (pc := 17) (tgt := 24) dX7_isFree_17 (by decide) (fun o => by first | exact o.1 _ (by decide) | exact o.2 _ _ | omega) (fun o => by first | exact o.1 _ (by decide) | exact o.2 _ _ | omega) (fun c17 => ?_) (fun c17 => ?_)
    · skip
      refine zx_iconst (pc := 24) dX7_isFree_24 ?_
      refine zx_zret (pc := 25) dX7_isFree_25 (by omega) ?_
      exact ⟨by first | exact (b2i_t ⟨by omega, by omega⟩).symm | exact (b2i_f (fun z => by obtain ⟨z1, z2⟩ := z; omega)).symm, rfl⟩
    · skip
      refine zx_iconst (pc := 20) dX7_isFree_20 ?_
      refine zx_goto (pc := 21) (tgt := 25) dX7_isFree_21 (by decide) ?_
      refine zx_zret (pc := 25) dX7_isFree_25 (by omega) ?_
      exact ⟨by first | exact (b2i_t ⟨by omega, by omega⟩).symm | exact (b2i_f (fun z => by obtain ⟨z1, z2⟩ := z; omega)).symm, rfl⟩
set_option maxRecDepth 100000 in
theorem L_X7_freeMany {h : zH} (hb : MB h) (Q : Int → zH → Prop) (hQ : Q (mFreeMany h) h) : ∀ (n : Nat) (i c : Int), 0 ≤ i → i ≤ gs h 1 → gs h 1 - i < n → c = cnt (mIsFree h) 0 (i - 0).toNat → zX cM zNo RX7 cX7_freeMany 3 (some .int) rX7_freeMany 4 [some (.ref 0), some (.int (iI c)), some (.int (iI i))] [] h (zEi cM Q) := by
  have hb0 := hb
  obtain ⟨m1, m2, m3, m4, m5, m6⟩ := hb
  intro n
  induction n with
  | zero => intro i c g1 g2 g3; omega
  | succ n ih =>
    intro i c g1 g2 g3 g4
    have g5 := cnt_r (mIsFree h) 0 (i - 0).toNat
    have g6 := cnt_next (p := mIsFree h) g1
    refine zx_iload_n (pc := 4) dX7_freeMany_4 rfl rfl ?_
    refine zx_aload_n (pc := 5) dX7_freeMany_5 rfl rfl ?_
    refine zg_X7_79 (pc := 6) dX7_freeMany_6 ?_
    refine zx_icmp_ge (pc := 9) (tgt := 34) dX7_freeMany_9 (by decide) (fun o => by first | exact o.1 _ (by decide) | exact o.2 _ _ | omega) (fun o => by first | exact o.1 _ (by decide) | exact o.2 _ _ | omega) (fun c9 => ?_) (fun c9 => ?_)
    · skip
      refine zx_iload_n (pc := 34) dX7_freeMany_34 rfl rfl ?_
      refine zx_iret (pc := 35) dX7_freeMany_35 (fun o => by first | exact o.1 _ (by decide) | exact o.2 _ _ | omega) ?_
      have e : i - 0 = gs h 1 := by omega
      rw [g4, e]
      exact hQ
    · skip
      refine zx_aload_n (pc := 12) dX7_freeMany_12 rfl rfl ?_
      refine zx_iload_n (pc := 13) dX7_freeMany_13 rfl rfl ?_
      refine zi_X7_288 (pc := 14) dX7_freeMany_14 (C_X7_isFree hb0 g1 c9) (by decide) (Nat.le_of_ble_eq_true rfl) (fun z14 h14 u14 v14 q14 => ?_)
      obtain ⟨rfl, e14⟩ := q14
      rw [e14]
      clear e14 h14
      refine zx_if_eq (pc := 17) (tgt := 26) dX7_freeMany_17 (by decide) (fun o => by first | exact o.1 _ (by decide) | exact o.2 _ _ | omega) (fun c17 => ?_) (fun c17 => ?_)
      · skip
        replace c17 := b2i_0.mp c17
        refine zx_iload_n (pc := 26) dX7_freeMany_26 rfl rfl ?_
        refine zx_istore_n (pc := 27) dX7_freeMany_27 rfl (by decide) rfl ?_
        refine zx_iinc (pc := 28) dX7_freeMany_28 (by decide) rfl rfl ?_
        refine zx_goto (pc := 31) (tgt := 4) dX7_freeMany_31 (by decide) ?_
        exact ih (i + 1) _ (by omega) (by omega) (by omega) (by first | rw [g6, g4, b2i_t c17] | rw [g6, g4, b2i_f c17, Int.add_zero])
      · skip
        replace c17 := b2i_n0.mp c17
        refine zx_iload_n (pc := 20) dX7_freeMany_20 rfl rfl ?_
        refine zx_iconst (pc := 21) dX7_freeMany_21 ?_
        refine zx_iadd (pc := 22) dX7_freeMany_22 ?_
        refine zx_goto (pc := 23) (tgt := 27) dX7_freeMany_23 (by decide) ?_
        refine zx_istore_n (pc := 27) dX7_freeMany_27 rfl (by decide) rfl ?_
        refine zx_iinc (pc := 28) dX7_freeMany_28 (by decide) rfl rfl ?_
        refine zx_goto (pc := 31) (tgt := 4) dX7_freeMany_31 (by decide) ?_
        exact ih (i + 1) _ (by omega) (by omega) (by omega) (by first | rw [g6, g4, b2i_t c17] | rw [g6, g4, b2i_f c17, Int.add_zero])
set_option maxRecDepth 100000 in
theorem C_X7_freeMany {h : zH} (hb : MB h) : kX7_freeMany h (fun r h2 => r = mFreeMany h ∧ h2 = h) := by
  apply eX7_freeMany
  refine zx_iconst (pc := 0) dX7_freeMany_0 ?_
  refine zx_istore_n (pc := 1) dX7_freeMany_1 rfl (by decide) rfl ?_
  refine zx_iconst (pc := 2) dX7_freeMany_2 ?_
  refine zx_istore_n (pc := 3) dX7_freeMany_3 rfl (by decide) rfl ?_
  exact L_X7_freeMany hb _ ⟨rfl, rfl⟩ ((gs h 1).toNat + 1) _ 0 (Int.le_refl _) hb.1 (by have := hb.1; omega) rfl
set_option maxRecDepth 100000 in
theorem C_X7_isProgrammed {h : zH} {a1 : Int} (h1 : 0 ≤ a1) (h2 : a1 < 1024) : kX7_isProgrammed a1 h (fun r h2 => r = b2i (1 ≤ ga h 2 a1 ∧ ga h 2 a1 ≤ 4) ∧ h2 = h) := by
  apply eX7_isProgrammed
  refine zx_ok (fun ok => ?_)
  refine zx_aload_n (pc := 0) dX7_isProgrammed_0 rfl rfl ?_
  refine zg_X7_13 (pc := 1) dX7_isProgrammed_1 ?_
  refine zx_iload_n (pc := 4) dX7_isProgrammed_4 rfl rfl ?_
  refine zx_iaload (pc := 5) aX7_kind dX7_isProgrammed_5 (by omega) (by omega) (by omega) ?_
  refine zx_iconst (pc := 6) dX7_isProgrammed_6 ?_
  refine zx_iconst (pc := 7) dX7_isProgrammed_7 ?_
  refine zi_X7_85 (pc := 8) dX7_isProgrammed_8 (C_X7_in (ok.2 2 a1) (by omega) (by omega)) (by decide) (Nat.le_of_ble_eq_true rfl) (fun z8 h8 u8 v8 q8 => ?_)
  obtain ⟨rfl, e8⟩ := q8
  rw [e8]
  clear e8 h8
  refine zx_zret (pc := 11) dX7_isProgrammed_11 (b2i_01 _) ?_
  exact ⟨rfl, rfl⟩

