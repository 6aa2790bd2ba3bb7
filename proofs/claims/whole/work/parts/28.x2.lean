/-! the class: the flash, continued -/
theorem x_clr_next (h : zH) {a i : Int} (k : Int) (hi : a ≤ i) : x_clear (x_clrR h a i k) i k = x_clrR h a (i + 1) k := by
  apply zH_ext
  · intro j; rfl
  · intro c j
    simp only [x_clear, x_clrR, ga_pa, ga_prr]
    by_cases q : j = i
    · subst q
      simp only [and_true]
      have e1 : ∀ d : Nat, (c = d ∧ a ≤ j ∧ j < j) = False := fun d => by simp
      have e2 : ∀ d : Nat, (c = d ∧ a ≤ j ∧ j < j + 1) = (c = d) := fun d => by
        apply propext
        constructor
        · exact fun z => z.1
        · exact fun z => ⟨z, hi, by omega⟩
      simp only [e1, e2, if_false]
    · have e1 : ∀ d : Nat, (c = d ∧ j = i) = False := fun d => by simp [q]
      have e2 : ∀ d : Nat, (c = d ∧ a ≤ j ∧ j < i + 1) = (c = d ∧ a ≤ j ∧ j < i) := fun d => by
        apply propext
        constructor
        · exact fun z => ⟨z.1, z.2.1, by omega⟩
        · exact fun z => ⟨z.1, z.2.1, by omega⟩
      simp only [e1, e2, if_false]
theorem x_clr_0 (h : zH) (a k : Int) : x_clrR h a a k = h := by
  simp only [x_clrR, prr_0]
theorem gs_xclrR (h : zH) (a b k : Int) (j : Nat) : gs (x_clrR h a b k) j = gs h j := rfl
theorem ga_xclrR_o (h : zH) (a b k : Int) (c : Nat) (j : Int) (hc : c ≠ 10 ∧ c ≠ 11 ∧ c ≠ 12 ∧ c ≠ 13 ∧ c ≠ 14 ∧ c ≠ 15 ∧ c ≠ 17) : ga (x_clrR h a b k) c j = ga h c j := by
  simp only [x_clrR, ga_prr]
  simp [hc]
set_option maxRecDepth 100000 in
theorem L_X1_makeCopy {h0 : zH} {a1 a2 : Int} (h1 : 0 ≤ a1) (h2 : a1 < 1024) (h3 : 0 ≤ a2) (h4 : a2 < 1024) (Q : zH → Prop) (k : ∀ i, zX cX zNo RX1 cX1_makeCopy 4 none rX1_makeCopy 65 [some (.ref 3), some (.int (iI a1)), some (.int (iI a2)), some (.int (iI i))] [] (cpk h0 16 a1 a2 16 8) (zEv cX Q)) : ∀ (n : Nat) (i : Int), 0 ≤ i → i ≤ 8 → 8 - i < n → zX cX zNo RX1 cX1_makeCopy 4 none rX1_makeCopy 31 [some (.ref 3), some (.int (iI a1)), some (.int (iI a2)), some (.int (iI i))] [] (cpk h0 16 a1 a2 16 i) (zEv cX Q) := by
  intro n
  induction n with
  | zero => intro i g1 g2 g3; omega
  | succ n ih =>
    intro i g1 g2 g3
    have e := cpk_next h0 16 a1 a2 g1
    refine zx_iload_n (pc := 31) dX1_makeCopy_31 rfl rfl ?_
    refine zx_bipush (pc := 32) dX1_makeCopy_32 (by decide +kernel) ?_
    refine zx_icmp_ge (pc := 34) (tgt := 65) dX1_makeCopy_34 (by decide) (fun o => by first | exact o.1 _ (by decide) | exact o.2 _ _ | omega) (fun o => by first | exact o.1 _ (by decide) | exact o.2 _ _ | omega) (fun c34 => ?_) (fun c34 => ?_)
    · skip
      have e2 : i = 8 := by omega
      rw [e2]
      exact k _
    · skip
      refine zx_aload_n (pc := 37) dX1_makeCopy_37 rfl rfl ?_
      refine zg_X1_30 (pc := 38) dX1_makeCopy_38 ?_
      refine zx_iload_n (pc := 41) dX1_makeCopy_41 rfl rfl ?_
      refine zx_bipush (pc := 42) dX1_makeCopy_42 (by decide +kernel) ?_
      refine zx_imul (pc := 44) dX1_makeCopy_44 ?_
      refine zx_iload_n (pc := 45) dX1_makeCopy_45 rfl rfl ?_
      refine zx_iadd (pc := 46) dX1_makeCopy_46 ?_
      refine zx_aload_n (pc := 47) dX1_makeCopy_47 rfl rfl ?_
      refine zg_X1_30 (pc := 48) dX1_makeCopy_48 ?_
      refine zx_iload_n (pc := 51) dX1_makeCopy_51 rfl rfl ?_
      refine zx_bipush (pc := 52) dX1_makeCopy_52 (by decide +kernel) ?_
      refine zx_imul (pc := 54) dX1_makeCopy_54 ?_
      refine zx_iload_n (pc := 55) dX1_makeCopy_55 rfl rfl ?_
      refine zx_iadd (pc := 56) dX1_makeCopy_56 ?_
      refine zx_iaload (pc := 57) aX1_mapped dX1_makeCopy_57 (by omega) (by omega) (by omega) ?_
      refine zx_iastore (pc := 58) aX1_mapped dX1_makeCopy_58 (by omega) (by omega) (by omega) (fun o => o.2 _ _) ?_
      refine zx_iinc (pc := 59) dX1_makeCopy_59 (by decide) rfl rfl ?_
      refine zx_goto (pc := 62) (tgt := 31) dX1_makeCopy_62 (by decide) ?_
      have e := cpk_next h0 16 a1 a2 g1 c34
      rw [Int.mul_comm a1, Int.mul_comm a2, e]
      exact ih (i + 1) (by omega) (by omega) (by omega)
set_option maxRecDepth 100000 in
theorem C_X1_makeCopy {h : zH} (hb : XB h) {a1 a2 : Int} (r1 : -2147483648 ≤ a1 ∧ a1 < 2147483648) (r2 : -2147483648 ≤ a2 ∧ a2 < 2147483648) : kX1_makeCopy a1 a2 h (fun h2 => h2 = x_mkcopy h a1 a2) := by
  have q := xb_size hb
  apply eX1_makeCopy
  unfold x_mkcopy
  refine zx_aload_n (pc := 0) dX1_makeCopy_0 rfl rfl ?_
  refine zx_iload_n (pc := 1) dX1_makeCopy_1 rfl rfl ?_
  refine zi_X1_80 (pc := 2) dX1_makeCopy_2 (C_X1_hasPlace r1) (by decide) (Nat.le_of_ble_eq_true rfl) (fun z2 h2 u2 v2 q2 => ?_)
  obtain ⟨rfl, e2⟩ := q2
  rw [e2]
  clear e2 h2
  refine zx_if_eq (pc := 5) (tgt := 16) dX1_makeCopy_5 (by decide) (fun o => by first | exact o.1 _ (by decide) | exact o.2 _ _ | omega) (fun c5 => ?_) (fun c5 => ?_)
  · skip
    try replace c5 := b2i_0.mp c5
    rw [ifp_f (fun z => c5 z.1)]
    refine zx_vret (pc := 16) dX1_makeCopy_16 ?_
    rfl
  · skip
    try replace c5 := b2i_n0.mp c5
    refine zx_aload_n (pc := 8) dX1_makeCopy_8 rfl rfl ?_
    refine zx_iload_n (pc := 9) dX1_makeCopy_9 rfl rfl ?_
    refine zi_X1_80 (pc := 10) dX1_makeCopy_10 (C_X1_hasPlace r2) (by decide) (Nat.le_of_ble_eq_true rfl) (fun z10 h10 u10 v10 q10 => ?_)
    obtain ⟨rfl, e10⟩ := q10
    rw [e10]
    clear e10 h10
    refine zx_if_ne (pc := 13) (tgt := 17) dX1_makeCopy_13 (by decide) (fun o => by first | exact o.1 _ (by decide) | exact o.2 _ _ | omega) (fun c13 => ?_) (fun c13 => ?_)
    · skip
      try replace c13 := b2i_n0.mp c13
      rw [ifp_t ⟨c5, c13⟩]
      obtain ⟨k1, k2⟩ := c5
      obtain ⟨k3, k4⟩ := c13
      refine zx_aload_n (pc := 17) dX1_makeCopy_17 rfl rfl ?_
      refine zg_X1_21 (pc := 18) dX1_makeCopy_18 ?_
      refine zx_iload_n (pc := 21) dX1_makeCopy_21 rfl rfl ?_
      refine zx_aload_n (pc := 22) dX1_makeCopy_22 rfl rfl ?_
      refine zg_X1_21 (pc := 23) dX1_makeCopy_23 ?_
      refine zx_iload_n (pc := 26) dX1_makeCopy_26 rfl rfl ?_
      refine zx_iaload (pc := 27) aX1_version dX1_makeCopy_27 (by omega) (by omega) (by omega) ?_
      refine zx_iastore (pc := 28) aX1_version dX1_makeCopy_28 (by omega) (by omega) (by omega) (fun o => o.2 _ _) ?_
      refine zx_iconst (pc := 29) dX1_makeCopy_29 ?_
      refine zx_istore_n (pc := 30) dX1_makeCopy_30 rfl (by decide) rfl ?_
      have r := L_X1_makeCopy (h0 := pa h 13 a1 (ga h 13 a2)) (a1 := a1) (a2 := a2) k1 (by omega) k3 (by omega) (fun h2 => h2 = x_mkc h a1 a2) (fun i => ?_) 9 0 (by omega) (by omega) (by omega)
      · rw [cpk_0] at r
        exact r
      refine zx_aload_n (pc := 65) dX1_makeCopy_65 rfl rfl ?_
      refine zg_X1_33 (pc := 66) dX1_makeCopy_66 ?_
      refine zx_iload_n (pc := 69) dX1_makeCopy_69 rfl rfl ?_
      refine zx_iconst (pc := 70) dX1_makeCopy_70 ?_
      refine zx_bastore (pc := 71) aX1_copied dX1_makeCopy_71 (by omega) (by omega) (by omega) (by omega) (fun _ => by first | exact wr_rng _ | omega) ?_
      refine zx_aload_n (pc := 72) dX1_makeCopy_72 rfl rfl ?_
      refine zx_dup (pc := 73) dX1_makeCopy_73 rfl ?_
      refine zg_X1_66 (pc := 74) dX1_makeCopy_74 ?_
      refine zx_iconst (pc := 77) dX1_makeCopy_77 ?_
      refine zx_iadd (pc := 78) dX1_makeCopy_78 ?_
      refine zx_wr ?_
      refine zp_X1_66 (pc := 79) dX1_makeCopy_79 (fun _ => by first | exact wr_rng _ | omega) ?_
      refine zx_vret (pc := 82) dX1_makeCopy_82 ?_
      rfl
    · skip
      try replace c13 := b2i_0.mp c13
      rw [ifp_f (fun z => c13 z.2)]
      refine zx_vret (pc := 16) dX1_makeCopy_16 ?_
      rfl
set_option maxRecDepth 100000 in
theorem L_X1_erase {h0 : zH} (hb : XB h0) {a1 v : Int} (h1 : 0 ≤ a1) (h2 : a1 < gs h0 70) {p : Prop} (hv : v = ifp p 5 0) (Q : Int → zH → Prop) (k : ∀ i, zX cX zNo RX1 cX1_erase 4 (some .boolean) rX1_erase 52 [some (.ref 3), some (.int (iI a1)), some (.int (iI (b2i p))), some (.int (iI i))] [] (x_clrR h0 (a1 * gs h0 71) (a1 * gs h0 71 + gs h0 71) v) (zEi cX Q)) : ∀ (n : Nat) (i : Int), 0 ≤ i → i ≤ gs h0 71 → gs h0 71 - i < n → zX cX zNo RX1 cX1_erase 4 (some .boolean) rX1_erase 17 [some (.ref 3), some (.int (iI a1)), some (.int (iI (b2i p))), some (.int (iI i))] [] (x_clrR h0 (a1 * gs h0 71) (a1 * gs h0 71 + i) v) (zEi cX Q) := by
  have q := xb_blk hb h1 h2
  have b4 := hb.2.1
  have r := b2i_r p
  intro n
  induction n with
  | zero => intro i g1 g2 g3; omega
  | succ n ih =>
    intro i g1 g2 g3
    have e := x_clr_next h0 (a := a1 * gs h0 71) (i := a1 * gs h0 71 + i) v (by omega)
    rw [Int.add_assoc] at e
    have e0 : gs (x_clrR h0 (a1 * gs h0 71) (a1 * gs h0 71 + i) v) 71 = gs h0 71 := rfl
    have hv1 : b2i p = 0 → v = 0 := fun q => by rw [hv, ifp_f (b2i_0.mp q)]
    have hv2 : b2i p ≠ 0 → v = 5 := fun q => by rw [hv, ifp_t (b2i_n0.mp q)]
    refine zx_iload_n (pc := 17) dX1_erase_17 rfl rfl ?_
    refine zx_aload_n (pc := 18) dX1_erase_18 rfl rfl ?_
    refine zg_X1_47 (pc := 19) dX1_erase_19 ?_
    refine zx_icmp_ge (pc := 22) (tgt := 52) dX1_erase_22 (by decide) (fun _ => by omega) (fun _ => by rw [e0]; omega) (fun c22 => ?_) (fun c22 => ?_)
    · skip
      rw [e0] at c22
      have e2 : i = gs h0 71 := by omega
      rw [e2]
      exact k _
    · skip
      rw [e0] at c22
      refine zx_aload_n (pc := 25) dX1_erase_25 rfl rfl ?_
      refine zx_iload_n (pc := 26) dX1_erase_26 rfl rfl ?_
      refine zx_aload_n (pc := 27) dX1_erase_27 rfl rfl ?_
      refine zg_X1_47 (pc := 28) dX1_erase_28 ?_
      refine zx_imul (pc := 31) dX1_erase_31 ?_
      refine zx_iload_n (pc := 32) dX1_erase_32 rfl rfl ?_
      refine zx_iadd (pc := 33) dX1_erase_33 ?_
      refine zx_iload_n (pc := 34) dX1_erase_34 rfl rfl ?_
      refine zx_if_eq (pc := 35) (tgt := 42) dX1_erase_35 (by decide) (fun o => by first | exact o.1 _ (by decide) | exact o.2 _ _ | omega) (fun c35 => ?_) (fun c35 => ?_)
      · skip
        refine zx_iconst (pc := 42) dX1_erase_42 ?_
        refine zi_X1_53 (pc := 43) dX1_erase_43 (C_X1_clearPage (h := x_clrR h0 (a1 * gs h0 71) (a1 * gs h0 71 + i) v) (a1 := a1 * gs h0 71 + i) (by omega) (by omega) (by omega)) (by decide) (Nat.le_of_ble_eq_true rfl) (fun h43 q43 => ?_)
        rw [q43]
        clear q43 h43
        refine zx_iinc (pc := 46) dX1_erase_46 (by decide) rfl rfl ?_
        refine zx_goto (pc := 49) (tgt := 17) dX1_erase_49 (by decide) ?_
        first | rw [← hv1 c35, e] | rw [← hv2 c35, e]
        exact ih (i + 1) (by omega) (by omega) (by omega)
      · skip
        refine zx_iconst (pc := 38) dX1_erase_38 ?_
        refine zx_goto (pc := 39) (tgt := 43) dX1_erase_39 (by decide) ?_
        refine zi_X1_53 (pc := 43) dX1_erase_43 (C_X1_clearPage (h := x_clrR h0 (a1 * gs h0 71) (a1 * gs h0 71 + i) v) (a1 := a1 * gs h0 71 + i) (by omega) (by omega) (by omega)) (by decide) (Nat.le_of_ble_eq_true rfl) (fun h43 q43 => ?_)
        rw [q43]
        clear q43 h43
        refine zx_iinc (pc := 46) dX1_erase_46 (by decide) rfl rfl ?_
        refine zx_goto (pc := 49) (tgt := 17) dX1_erase_49 (by decide) ?_
        first | rw [← hv1 c35, e] | rw [← hv2 c35, e]
        exact ih (i + 1) (by omega) (by omega) (by omega)
set_option maxRecDepth 100000 in
theorem C_X1_erase {h : zH} (hb : XB h) (ha : 0 ≤ gs h 77) {a1 : Int} (r1 : -2147483648 ≤ a1 ∧ a1 < 2147483648) : kX1_erase a1 h (fun r h2 => r = b2i (xBlk h a1 → xOK h) ∧ h2 = x_erase h a1) := by
  have e70 : gs (x_arm h) 70 = gs h 70 := gs_xarm h 70 (by decide)
  have e71 : gs (x_arm h) 71 = gs h 71 := gs_xarm h 71 (by decide)
  have e72 : gs (x_arm h) 72 = gs h 72 := gs_xarm h 72 (by decide)
  have hb1 : XB (x_arm h) := by unfold XB; rw [e70, e71, e72]; exact hb
  have b4 := hb.2.1
  have b1 := hb.1
  apply eX1_erase
  unfold x_erase
  refine zx_aload_n (pc := 0) dX1_erase_0 rfl rfl ?_
  refine zx_iload_n (pc := 1) dX1_erase_1 rfl rfl ?_
  refine zi_X1_72 (pc := 2) dX1_erase_2 (C_X1_hasBlock r1) (by decide) (Nat.le_of_ble_eq_true rfl) (fun z2 h2 u2 v2 q2 => ?_)
  obtain ⟨rfl, e2⟩ := q2
  rw [e2]
  clear e2 h2
  refine zx_if_ne (pc := 5) (tgt := 10) dX1_erase_5 (by decide) (fun o => by first | exact o.1 _ (by decide) | exact o.2 _ _ | omega) (fun c5 => ?_) (fun c5 => ?_)
  · skip
    try replace c5 := b2i_n0.mp c5
    rw [ifp_t c5]
    obtain ⟨k1, k2⟩ := c5
    refine zx_aload_n (pc := 10) dX1_erase_10 rfl rfl ?_
    refine zi_X1_76 (pc := 11) dX1_erase_11 (C_X1_losesPower ha) (by decide) (Nat.le_of_ble_eq_true rfl) (fun z11 h11 u11 v11 q11 => ?_)
    obtain ⟨rfl, e11⟩ := q11
    rw [e11]
    clear e11 h11
    refine zx_istore_n (pc := 14) dX1_erase_14 rfl (by decide) rfl ?_
    refine zx_iconst (pc := 15) dX1_erase_15 ?_
    refine zx_istore_n (pc := 16) dX1_erase_16 rfl (by decide) rfl ?_
    have r := L_X1_erase (h0 := x_arm h) hb1 k1 (by rw [e70]; exact k2) (p := ¬ xOK h) (v := ifp (¬ xOK h) 5 0) rfl (fun r h2 => r = b2i (xBlk h a1 → xOK h) ∧ h2 = x_erase0 h a1) (fun i => ?_) ((gs h 71).toNat + 1) 0 (Int.le_refl _) (by rw [e71]; omega) (by rw [e71]; omega)
    · rw [Int.add_zero, x_clr_0] at r
      exact r
    rw [e71]
    have w := b2i_r (¬ xOK h)
    unfold x_erase0
    refine zx_aload_n (pc := 52) dX1_erase_52 rfl rfl ?_
    refine zg_X1_37 (pc := 53) dX1_erase_53 ?_
    refine zx_iload_n (pc := 56) dX1_erase_56 rfl rfl ?_
    refine zx_iload_n (pc := 57) dX1_erase_57 rfl rfl ?_
    refine zx_if_eq (pc := 58) (tgt := 68) dX1_erase_58 (by decide) (fun o => by first | exact o.1 _ (by decide) | exact o.2 _ _ | omega) (fun c58 => ?_) (fun c58 => ?_)
    · skip
      have cc := b2i_0.mp c58
      have cd : xOK h := Classical.byContradiction cc
      rw [ifp_f cc, ifp_t cd]
      refine zx_iconst (pc := 68) dX1_erase_68 ?_
      refine zx_iastore (pc := 69) aX1_used dX1_erase_69 (by omega) (by omega) (by omega) (fun o => by first | exact o.1 71 (by decide) | omega) ?_
      refine zx_iload_n (pc := 70) dX1_erase_70 rfl rfl ?_
      refine zx_if_ne (pc := 71) (tgt := 94) dX1_erase_71 (by decide) (fun o => by first | exact o.1 _ (by decide) | exact o.2 _ _ | omega) (fun c71 => ?_) (fun c71 => ?_)
      · skip
        exact absurd c58 c71
      · skip
        refine zx_aload_n (pc := 74) dX1_erase_74 rfl rfl ?_
        refine zg_X1_40 (pc := 75) dX1_erase_75 ?_
        refine zx_iload_n (pc := 78) dX1_erase_78 rfl rfl ?_
        refine zx_dup2 (pc := 79) dX1_erase_79 rfl rfl ?_
        refine zx_iaload (pc := 80) aX1_wear dX1_erase_80 (by omega) (by omega) (by omega) ?_
        refine zx_iconst (pc := 81) dX1_erase_81 ?_
        refine zx_iadd (pc := 82) dX1_erase_82 ?_
        refine zx_wr ?_
        refine zx_iastore (pc := 83) aX1_wear dX1_erase_83 (by omega) (by omega) (by omega) (fun _ => wr_rng _) ?_
        refine zx_aload_n (pc := 84) dX1_erase_84 rfl rfl ?_
        refine zx_dup (pc := 85) dX1_erase_85 rfl ?_
        refine zg_X1_63 (pc := 86) dX1_erase_86 ?_
        refine zx_iconst (pc := 89) dX1_erase_89 ?_
        refine zx_iadd (pc := 90) dX1_erase_90 ?_
        refine zx_wr ?_
        refine zp_X1_63 (pc := 91) dX1_erase_91 (fun _ => wr_rng _) ?_
        refine zx_iload_n (pc := 94) dX1_erase_94 rfl rfl ?_
        refine zx_if_ne (pc := 95) (tgt := 102) dX1_erase_95 (by decide) (fun o => by first | exact o.1 _ (by decide) | exact o.2 _ _ | omega) (fun c95 => ?_) (fun c95 => ?_)
        · skip
          exact absurd c58 c95
        · skip
          refine zx_iconst (pc := 98) dX1_erase_98 ?_
          refine zx_goto (pc := 99) (tgt := 103) dX1_erase_99 (by decide) ?_
          refine zx_zret (pc := 103) dX1_erase_103 (by omega) ?_
          first
          | (have cf := cd
             refine ⟨(b2i_t (fun _ => cf)).symm, ?_⟩
             rw [ga_pa, if_neg (by omega), ga_xclrR_o _ _ _ _ _ _ (by decide), ga_xarm]
             simp only [gs_pa, gs_xclrR, gs_xarm h 75 (by decide)])
          | exact ⟨(b2i_f (fun z => cc (z ⟨k1, k2⟩))).symm, by rw [gs_xclrR, e71]⟩
    · skip
      have cc := b2i_n0.mp c58
      rw [ifp_t cc, ifp_f cc]
      refine zx_aload_n (pc := 61) dX1_erase_61 rfl rfl ?_
      refine zg_X1_47 (pc := 62) dX1_erase_62 ?_
      refine zx_goto (pc := 65) (tgt := 69) dX1_erase_65 (by decide) ?_
      refine zx_iastore (pc := 69) aX1_used dX1_erase_69 (by omega) (by omega) (by omega) (fun o => by first | exact o.1 71 (by decide) | omega) ?_
      refine zx_iload_n (pc := 70) dX1_erase_70 rfl rfl ?_
      refine zx_if_ne (pc := 71) (tgt := 94) dX1_erase_71 (by decide) (fun o => by first | exact o.1 _ (by decide) | exact o.2 _ _ | omega) (fun c71 => ?_) (fun c71 => ?_)
      · skip
        refine zx_iload_n (pc := 94) dX1_erase_94 rfl rfl ?_
        refine zx_if_ne (pc := 95) (tgt := 102) dX1_erase_95 (by decide) (fun o => by first | exact o.1 _ (by decide) | exact o.2 _ _ | omega) (fun c95 => ?_) (fun c95 => ?_)
        · skip
          refine zx_iconst (pc := 102) dX1_erase_102 ?_
          refine zx_zret (pc := 103) dX1_erase_103 (by omega) ?_
          first
          | (have cf := cd
             refine ⟨(b2i_t (fun _ => cf)).symm, ?_⟩
             rw [ga_pa, if_neg (by omega), ga_xclrR_o _ _ _ _ _ _ (by decide), ga_xarm]
             simp only [gs_pa, gs_xclrR, gs_xarm h 75 (by decide)])
          | exact ⟨(b2i_f (fun z => cc (z ⟨k1, k2⟩))).symm, by rw [gs_xclrR, e71]⟩
        · skip
          exact absurd c95 c58
      · skip
        exact absurd c71 c58
  · skip
    try replace c5 := b2i_0.mp c5
    rw [ifp_f c5]
    refine zx_iconst (pc := 8) dX1_erase_8 ?_
    refine zx_zret (pc := 9) dX1_erase_9 (by omega) ?_
    exact ⟨(b2i_t (fun z => absurd z c5)).symm, rfl⟩
set_option maxRecDepth 100000 in
theorem L_X1_countFreeBlocks {h : zH} (hb : XB h) {a1 : Int} (r1 : -2147483648 ≤ a1 ∧ a1 < 2147483648) (Q : Int → zH → Prop) (hQ : Q (xFreeMany h a1) h) : ∀ (n : Nat) (i c : Int), 0 ≤ i → i ≤ gs h 70 → gs h 70 - i < n → c = cnt (xFree h a1) 0 (i - 0).toNat → zX cX zNo RX1 cX1_countFreeBlocks 4 (some .int) rX1_countFreeBlocks 4 [some (.ref 3), some (.int (iI a1)), some (.int (iI c)), some (.int (iI i))] [] h (zEi cX Q) := by
  obtain ⟨⟨b1, b2⟩, ⟨b3, b4⟩, b5⟩ := hb
  intro n
  induction n with
  | zero => intro i c g1 g2 g3; omega
  | succ n ih =>
    intro i c g1 g2 g3 g4
    have g5 := cnt_r (xFree h a1) 0 (i - 0).toNat
    have g6 := cnt_next (p := xFree h a1) g1
    refine zx_iload_n (pc := 4) dX1_countFreeBlocks_4 rfl rfl ?_
    refine zx_aload_n (pc := 5) dX1_countFreeBlocks_5 rfl rfl ?_
    refine zg_X1_43 (pc := 6) dX1_countFreeBlocks_6 ?_
    refine zx_icmp_ge (pc := 9) (tgt := 35) dX1_countFreeBlocks_9 (by decide) (fun o => by first | exact o.1 _ (by decide) | exact o.2 _ _ | omega) (fun o => by first | exact o.1 _ (by decide) | exact o.2 _ _ | omega) (fun c9 => ?_) (fun c9 => ?_)
    · skip
      refine zx_iload_n (pc := 35) dX1_countFreeBlocks_35 rfl rfl ?_
      refine zx_iret (pc := 36) dX1_countFreeBlocks_36 (fun o => by first | exact o.1 _ (by decide) | exact o.2 _ _ | omega) ?_
      have e : i - 0 = gs h 70 := by omega
      rw [g4, e]
      exact hQ
    · skip
      refine zx_aload_n (pc := 12) dX1_countFreeBlocks_12 rfl rfl ?_
      refine zg_X1_37 (pc := 13) dX1_countFreeBlocks_13 ?_
      refine zx_iload_n (pc := 16) dX1_countFreeBlocks_16 rfl rfl ?_
      refine zx_iaload (pc := 17) aX1_used dX1_countFreeBlocks_17 (by omega) (by omega) (by omega) ?_
      refine zx_if_ne (pc := 18) (tgt := 29) dX1_countFreeBlocks_18 (by decide) (fun o => by first | exact o.1 _ (by decide) | exact o.2 _ _ | omega) (fun c18 => ?_) (fun c18 => ?_)
      · skip
        refine zx_iinc (pc := 29) dX1_countFreeBlocks_29 (by decide) rfl rfl ?_
        refine zx_goto (pc := 32) (tgt := 4) dX1_countFreeBlocks_32 (by decide) ?_
        exact ih (i + 1) _ (by omega) (by omega) (by omega) (by first | rw [g6, g4, b2i_t (show xFree h a1 i from ⟨by omega, by omega⟩)] | rw [g6, g4, b2i_f (fun z => by have z1 := z.1; have z2 := z.2; omega), Int.add_zero])
      · skip
        refine zx_iload_n (pc := 21) dX1_countFreeBlocks_21 rfl rfl ?_
        refine zx_iload_n (pc := 22) dX1_countFreeBlocks_22 rfl rfl ?_
        refine zx_icmp_eq (pc := 23) (tgt := 29) dX1_countFreeBlocks_23 (by decide) (fun o => by first | exact o.1 _ (by decide) | exact o.2 _ _ | omega) (fun o => by first | exact o.1 _ (by decide) | exact o.2 _ _ | omega) (fun c23 => ?_) (fun c23 => ?_)
        · skip
          refine zx_iinc (pc := 29) dX1_countFreeBlocks_29 (by decide) rfl rfl ?_
          refine zx_goto (pc := 32) (tgt := 4) dX1_countFreeBlocks_32 (by decide) ?_
          exact ih (i + 1) _ (by omega) (by omega) (by omega) (by first | rw [g6, g4, b2i_t (show xFree h a1 i from ⟨by omega, by omega⟩)] | rw [g6, g4, b2i_f (fun z => by have z1 := z.1; have z2 := z.2; omega), Int.add_zero])
        · skip
          refine zx_iinc (pc := 26) dX1_countFreeBlocks_26 (by decide) rfl rfl ?_
          refine zx_iinc (pc := 29) dX1_countFreeBlocks_29 (by decide) rfl rfl ?_
          refine zx_goto (pc := 32) (tgt := 4) dX1_countFreeBlocks_32 (by decide) ?_
          exact ih (i + 1) _ (by omega) (by omega) (by omega) (by first | rw [g6, g4, b2i_t (show xFree h a1 i from ⟨by omega, by omega⟩)] | rw [g6, g4, b2i_f (fun z => by have z1 := z.1; have z2 := z.2; omega), Int.add_zero])
set_option maxRecDepth 100000 in
theorem C_X1_countFreeBlocks {h : zH} (hb : XB h) {a1 : Int} (r1 : -2147483648 ≤ a1 ∧ a1 < 2147483648) : kX1_countFreeBlocks a1 h (fun r h2 => r = xFreeMany h a1 ∧ h2 = h) := by
  apply eX1_countFreeBlocks
  refine zx_iconst (pc := 0) dX1_countFreeBlocks_0 ?_
  refine zx_istore_n (pc := 1) dX1_countFreeBlocks_1 rfl (by decide) rfl ?_
  refine zx_iconst (pc := 2) dX1_countFreeBlocks_2 ?_
  refine zx_istore_n (pc := 3) dX1_countFreeBlocks_3 rfl (by decide) rfl ?_
  exact L_X1_countFreeBlocks hb r1 (fun r h2 => r = xFreeMany h a1 ∧ h2 = h) ⟨rfl, rfl⟩ 33 0 _ (Int.le_refl _) hb.1.1 (by have := hb.1.2; omega) rfl
theorem xFB_r (h : zH) (act : Int) : ∀ n : Nat, -1 ≤ xFB h act n ∧ xFB h act n < n
  | 0 => by simp [xFB]
  | n + 1 => by
    have q := xFB_r h act n
    rw [xFB]
    rcases Classical.em (xFree h act n ∧ (xFB h act n < 0 ∨ ga h 19 n < ga h 19 (xFB h act n))) with c | c
    · rw [ifp_t c]; omega
    · rw [ifp_f c]; omega
set_option maxRecDepth 100000 in
theorem L_X1_leastWornFreeBlock {h : zH} (hb : XB h) {a1 : Int} (r1 : -2147483648 ≤ a1 ∧ a1 < 2147483648) (Q : Int → zH → Prop) (hQ : Q (xFblk h a1) h) : ∀ (n : Nat) (i c : Int), 0 ≤ i → i ≤ gs h 70 → gs h 70 - i < n → c = xFB h a1 i.toNat → zX cX zNo RX1 cX1_leastWornFreeBlock 4 (some .int) rX1_leastWornFreeBlock 4 [some (.ref 3), some (.int (iI a1)), some (.int (iI c)), some (.int (iI i))] [] h (zEi cX Q) := by
  obtain ⟨⟨b1, b2⟩, ⟨b3, b4⟩, b5⟩ := hb
  intro n
  induction n with
  | zero => intro i c g1 g2 g3; omega
  | succ n ih =>
    intro i c g1 g2 g3 g4
    have g5 := xFB_r h a1 i.toNat
    obtain ⟨g6, g7⟩ := toNat_next g1
    have y (z : xFree h a1 i ∧ (c < 0 ∨ ga h 19 i < ga h 19 c)) : xFB h a1 (i + 1).toNat = i := by
      rw [g6, xFB, g7, ← g4]
      exact ifp_t z
    have nn (z : ¬ (xFree h a1 i ∧ (c < 0 ∨ ga h 19 i < ga h 19 c))) : xFB h a1 (i + 1).toNat = c := by
      rw [g6, xFB, g7, ← g4]
      exact ifp_f z
    refine zx_iload_n (pc := 4) dX1_leastWornFreeBlock_4 rfl rfl ?_
    refine zx_aload_n (pc := 5) dX1_leastWornFreeBlock_5 rfl rfl ?_
    refine zg_X1_43 (pc := 6) dX1_leastWornFreeBlock_6 ?_
    refine zx_icmp_ge (pc := 9) (tgt := 53) dX1_leastWornFreeBlock_9 (by decide) (fun o => by first | exact o.1 _ (by decide) | exact o.2 _ _ | omega) (fun o => by first | exact o.1 _ (by decide) | exact o.2 _ _ | omega) (fun c9 => ?_) (fun c9 => ?_)
    · skip
      refine zx_iload_n (pc := 53) dX1_leastWornFreeBlock_53 rfl rfl ?_
      refine zx_iret (pc := 54) dX1_leastWornFreeBlock_54 (fun o => by first | exact o.1 _ (by decide) | exact o.2 _ _ | omega) ?_
      have e : i = gs h 70 := by omega
      rw [g4, e]
      exact hQ
    · skip
      refine zx_aload_n (pc := 12) dX1_leastWornFreeBlock_12 rfl rfl ?_
      refine zg_X1_37 (pc := 13) dX1_leastWornFreeBlock_13 ?_
      refine zx_iload_n (pc := 16) dX1_leastWornFreeBlock_16 rfl rfl ?_
      refine zx_iaload (pc := 17) aX1_used dX1_leastWornFreeBlock_17 (by omega) (by omega) (by omega) ?_
      refine zx_if_ne (pc := 18) (tgt := 47) dX1_leastWornFreeBlock_18 (by decide) (fun o => by first | exact o.1 _ (by decide) | exact o.2 _ _ | omega) (fun c18 => ?_) (fun c18 => ?_)
      · skip
        refine zx_iinc (pc := 47) dX1_leastWornFreeBlock_47 (by decide) rfl rfl ?_
        refine zx_goto (pc := 50) (tgt := 4) dX1_leastWornFreeBlock_50 (by decide) ?_
        first
        | (have w2 := w
           exact ih (i + 1) _ (by omega) (by omega) (by omega) w2.symm)
        | exact ih (i + 1) _ (by omega) (by omega) (by omega) (nn (fun z => by have z1 := z.1.1; have z2 := z.1.2; have z3 := z.2; omega)).symm
      · skip
        refine zx_iload_n (pc := 21) dX1_leastWornFreeBlock_21 rfl rfl ?_
        refine zx_iload_n (pc := 22) dX1_leastWornFreeBlock_22 rfl rfl ?_
        refine zx_icmp_eq (pc := 23) (tgt := 47) dX1_leastWornFreeBlock_23 (by decide) (fun o => by first | exact o.1 _ (by decide) | exact o.2 _ _ | omega) (fun o => by first | exact o.1 _ (by decide) | exact o.2 _ _ | omega) (fun c23 => ?_) (fun c23 => ?_)
        · skip
          refine zx_iinc (pc := 47) dX1_leastWornFreeBlock_47 (by decide) rfl rfl ?_
          refine zx_goto (pc := 50) (tgt := 4) dX1_leastWornFreeBlock_50 (by decide) ?_
          first
          | (have w2 := w
             exact ih (i + 1) _ (by omega) (by omega) (by omega) w2.symm)
          | exact ih (i + 1) _ (by omega) (by omega) (by omega) (nn (fun z => by have z1 := z.1.1; have z2 := z.1.2; have z3 := z.2; omega)).symm
        · skip
          refine zx_iload_n (pc := 26) dX1_leastWornFreeBlock_26 rfl rfl ?_
          refine zx_if_lt (pc := 27) (tgt := 45) dX1_leastWornFreeBlock_27 (by decide) (fun o => by first | exact o.1 _ (by decide) | exact o.2 _ _ | omega) (fun c27 => ?_) (fun c27 => ?_)
          · skip
            have w := y ⟨⟨c18, c23⟩, by omega⟩
            refine zx_iload_n (pc := 45) dX1_leastWornFreeBlock_45 rfl rfl ?_
            refine zx_istore_n (pc := 46) dX1_leastWornFreeBlock_46 rfl (by decide) rfl ?_
            refine zx_iinc (pc := 47) dX1_leastWornFreeBlock_47 (by decide) rfl rfl ?_
            refine zx_goto (pc := 50) (tgt := 4) dX1_leastWornFreeBlock_50 (by decide) ?_
            first
            | (have w2 := w
               exact ih (i + 1) _ (by omega) (by omega) (by omega) w2.symm)
            | exact ih (i + 1) _ (by omega) (by omega) (by omega) (nn (fun z => by have z1 := z.1.1; have z2 := z.1.2; have z3 := z.2; omega)).symm
          · skip
            refine zx_aload_n (pc := 30) dX1_leastWornFreeBlock_30 rfl rfl ?_
            refine zg_X1_40 (pc := 31) dX1_leastWornFreeBlock_31 ?_
            refine zx_iload_n (pc := 34) dX1_leastWornFreeBlock_34 rfl rfl ?_
            refine zx_iaload (pc := 35) aX1_wear dX1_leastWornFreeBlock_35 (by omega) (by omega) (by omega) ?_
            refine zx_aload_n (pc := 36) dX1_leastWornFreeBlock_36 rfl rfl ?_
            refine zg_X1_40 (pc := 37) dX1_leastWornFreeBlock_37 ?_
            refine zx_iload_n (pc := 40) dX1_leastWornFreeBlock_40 rfl rfl ?_
            refine zx_iaload (pc := 41) aX1_wear dX1_leastWornFreeBlock_41 (by omega) (by omega) (by omega) ?_
            refine zx_icmp_ge (pc := 42) (tgt := 47) dX1_leastWornFreeBlock_42 (by decide) (fun o => by first | exact o.1 _ (by decide) | exact o.2 _ _ | omega) (fun o => by first | exact o.1 _ (by decide) | exact o.2 _ _ | omega) (fun c42 => ?_) (fun c42 => ?_)
            · skip
              refine zx_iinc (pc := 47) dX1_leastWornFreeBlock_47 (by decide) rfl rfl ?_
              refine zx_goto (pc := 50) (tgt := 4) dX1_leastWornFreeBlock_50 (by decide) ?_
              first
              | (have w2 := w
                 exact ih (i + 1) _ (by omega) (by omega) (by omega) w2.symm)
              | exact ih (i + 1) _ (by omega) (by omega) (by omega) (nn (fun z => by have z1 := z.1.1; have z2 := z.1.2; have z3 := z.2; omega)).symm
            · skip
              have w := y ⟨⟨c18, c23⟩, by omega⟩
              refine zx_iload_n (pc := 45) dX1_leastWornFreeBlock_45 rfl rfl ?_
              refine zx_istore_n (pc := 46) dX1_leastWornFreeBlock_46 rfl (by decide) rfl ?_
              refine zx_iinc (pc := 47) dX1_leastWornFreeBlock_47 (by decide) rfl rfl ?_
              refine zx_goto (pc := 50) (tgt := 4) dX1_leastWornFreeBlock_50 (by decide) ?_
              first
              | (have w2 := w
                 exact ih (i + 1) _ (by omega) (by omega) (by omega) w2.symm)
              | exact ih (i + 1) _ (by omega) (by omega) (by omega) (nn (fun z => by have z1 := z.1.1; have z2 := z.1.2; have z3 := z.2; omega)).symm
set_option maxRecDepth 100000 in
theorem C_X1_leastWornFreeBlock {h : zH} (hb : XB h) {a1 : Int} (r1 : -2147483648 ≤ a1 ∧ a1 < 2147483648) : kX1_leastWornFreeBlock a1 h (fun r h2 => r = xFblk h a1 ∧ h2 = h) := by
  apply eX1_leastWornFreeBlock
  refine zx_iconst (pc := 0) dX1_leastWornFreeBlock_0 ?_
  refine zx_istore_n (pc := 1) dX1_leastWornFreeBlock_1 rfl (by decide) rfl ?_
  refine zx_iconst (pc := 2) dX1_leastWornFreeBlock_2 ?_
  refine zx_istore_n (pc := 3) dX1_leastWornFreeBlock_3 rfl (by decide) rfl ?_
  exact L_X1_leastWornFreeBlock hb r1 (fun r h2 => r = xFblk h a1 ∧ h2 = h) ⟨rfl, rfl⟩ 33 0 _ (Int.le_refl _) hb.1.1 (by have := hb.1.2; omega) rfl

