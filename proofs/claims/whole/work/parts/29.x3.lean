/-! the class: the flash, the searches -/
set_option maxRecDepth 100000 in
theorem L_X1_countTornIn {h : zH} (hb : XB h) {a1 : Int} (k1 : 0 ≤ a1) (k2 : a1 < gs h 70) (Q : Int → zH → Prop) (hQ : Q (cnt (fun i => ga h 10 i = 5) (a1 * gs h 71) (gs h 71).toNat) h) : ∀ (n : Nat) (i c : Int), 0 ≤ i → i ≤ gs h 71 → gs h 71 - i < n → c = cnt (fun i => ga h 10 i = 5) (a1 * gs h 71) i.toNat → zX cX zNo RX1 cX1_countTornIn 4 (some .int) rX1_countTornIn 4 [some (.ref 3), some (.int (iI a1)), some (.int (iI c)), some (.int (iI i))] [] h (zEi cX Q) := by
  have q := xb_blk hb k1 k2
  have b4 := hb.2.1
  have b1 := hb.1
  intro n
  induction n with
  | zero => intro i c g1 g2 g3; omega
  | succ n ih =>
    intro i c g1 g2 g3 g4
    obtain ⟨g6, g7⟩ := toNat_next g1
    have g5 := cnt_r (fun i => ga h 10 i = 5) (a1 * gs h 71) i.toNat
    have g8 : cnt (fun i => ga h 10 i = 5) (a1 * gs h 71) (i + 1).toNat = cnt (fun i => ga h 10 i = 5) (a1 * gs h 71) i.toNat + b2i (ga h 10 (a1 * gs h 71 + i) = 5) := by
      rw [g6, cnt, g7]
    refine zx_aload_n (pc := 4) dX1_countTornIn_4 rfl rfl ?_
    refine zx_iload_n (pc := 5) dX1_countTornIn_5 rfl rfl ?_
    refine zi_X1_72 (pc := 6) dX1_countTornIn_6 (C_X1_hasBlock (by omega)) (by decide) (Nat.le_of_ble_eq_true rfl) (fun z6 h6 u6 v6 q6 => ?_)
    obtain ⟨rfl, e6⟩ := q6
    rw [e6]
    clear e6 h6
    refine zx_if_eq (pc := 9) (tgt := 46) dX1_countTornIn_9 (by decide) (fun o => by first | exact o.1 _ (by decide) | exact o.2 _ _ | omega) (fun c9 => ?_) (fun c9 => ?_)
    · skip
      try replace c9 := b2i_0.mp c9
      exact absurd ⟨k1, k2⟩ c9
    · skip
      try replace c9 := b2i_n0.mp c9
      refine zx_iload_n (pc := 12) dX1_countTornIn_12 rfl rfl ?_
      refine zx_aload_n (pc := 13) dX1_countTornIn_13 rfl rfl ?_
      refine zg_X1_47 (pc := 14) dX1_countTornIn_14 ?_
      refine zx_icmp_ge (pc := 17) (tgt := 46) dX1_countTornIn_17 (by decide) (fun o => by first | exact o.1 _ (by decide) | exact o.2 _ _ | omega) (fun o => by first | exact o.1 _ (by decide) | exact o.2 _ _ | omega) (fun c17 => ?_) (fun c17 => ?_)
      · skip
        refine zx_iload_n (pc := 46) dX1_countTornIn_46 rfl rfl ?_
        refine zx_iret (pc := 47) dX1_countTornIn_47 (fun o => by first | exact o.1 _ (by decide) | exact o.2 _ _ | omega) ?_
        have e : i = gs h 71 := by omega
        rw [g4, e]
        exact hQ
      · skip
        refine zx_aload_n (pc := 20) dX1_countTornIn_20 rfl rfl ?_
        refine zg_X1_9 (pc := 21) dX1_countTornIn_21 ?_
        refine zx_iload_n (pc := 24) dX1_countTornIn_24 rfl rfl ?_
        refine zx_aload_n (pc := 25) dX1_countTornIn_25 rfl rfl ?_
        refine zg_X1_47 (pc := 26) dX1_countTornIn_26 ?_
        refine zx_imul (pc := 29) dX1_countTornIn_29 ?_
        refine zx_iload_n (pc := 30) dX1_countTornIn_30 rfl rfl ?_
        refine zx_iadd (pc := 31) dX1_countTornIn_31 ?_
        refine zx_iaload (pc := 32) aX1_kind dX1_countTornIn_32 (by omega) (by omega) (by omega) ?_
        refine zx_iconst (pc := 33) dX1_countTornIn_33 ?_
        refine zx_icmp_ne (pc := 34) (tgt := 40) dX1_countTornIn_34 (by decide) (fun o => by first | exact o.1 _ (by decide) | exact o.2 _ _ | omega) (fun o => by first | exact o.1 _ (by decide) | exact o.2 _ _ | omega) (fun c34 => ?_) (fun c34 => ?_)
        · skip
          refine zx_iinc (pc := 40) dX1_countTornIn_40 (by decide) rfl rfl ?_
          refine zx_goto (pc := 43) (tgt := 4) dX1_countTornIn_43 (by decide) ?_
          exact ih (i + 1) _ (by omega) (by omega) (by omega) (by first | rw [g8, g4, b2i_t (by omega)] | rw [g8, g4, b2i_f (by omega), Int.add_zero])
        · skip
          refine zx_iinc (pc := 37) dX1_countTornIn_37 (by decide) rfl rfl ?_
          refine zx_iinc (pc := 40) dX1_countTornIn_40 (by decide) rfl rfl ?_
          refine zx_goto (pc := 43) (tgt := 4) dX1_countTornIn_43 (by decide) ?_
          exact ih (i + 1) _ (by omega) (by omega) (by omega) (by first | rw [g8, g4, b2i_t (by omega)] | rw [g8, g4, b2i_f (by omega), Int.add_zero])
set_option maxRecDepth 100000 in
theorem C_X1_countTornIn {h : zH} (hb : XB h) {a1 : Int} (r1 : -2147483648 ≤ a1 ∧ a1 < 2147483648) : kX1_countTornIn a1 h (fun r h2 => r = xTorn h a1 ∧ h2 = h) := by
  apply eX1_countTornIn
  unfold xTorn
  rcases Classical.em (xBlk h a1) with c | c
  · rw [ifp_t c]
    refine zx_iconst (pc := 0) dX1_countTornIn_0 ?_
    refine zx_istore_n (pc := 1) dX1_countTornIn_1 rfl (by decide) rfl ?_
    refine zx_iconst (pc := 2) dX1_countTornIn_2 ?_
    refine zx_istore_n (pc := 3) dX1_countTornIn_3 rfl (by decide) rfl ?_
    exact L_X1_countTornIn hb c.1 c.2 (fun r h2 => r = _ ∧ h2 = h) ⟨rfl, rfl⟩ 33 0 _ (Int.le_refl _) hb.2.1.1 (by have := hb.2.1.2; omega) rfl
  · rw [ifp_f c]
    refine zx_iconst (pc := 0) dX1_countTornIn_0 ?_
    refine zx_istore_n (pc := 1) dX1_countTornIn_1 rfl (by decide) rfl ?_
    refine zx_iconst (pc := 2) dX1_countTornIn_2 ?_
    refine zx_istore_n (pc := 3) dX1_countTornIn_3 rfl (by decide) rfl ?_
    refine zx_aload_n (pc := 4) dX1_countTornIn_4 rfl rfl ?_
    refine zx_iload_n (pc := 5) dX1_countTornIn_5 rfl rfl ?_
    refine zi_X1_72 (pc := 6) dX1_countTornIn_6 (C_X1_hasBlock r1) (by decide) (Nat.le_of_ble_eq_true rfl) (fun z6 h6 u6 v6 q6 => ?_)
    obtain ⟨rfl, e6⟩ := q6
    rw [e6]
    clear e6 h6
    refine zx_if_eq (pc := 9) (tgt := 46) dX1_countTornIn_9 (by decide) (fun o => by first | exact o.1 _ (by decide) | exact o.2 _ _ | omega) (fun c9 => ?_) (fun c9 => ?_)
    · skip
      try replace c9 := b2i_0.mp c9
      refine zx_iload_n (pc := 46) dX1_countTornIn_46 rfl rfl ?_
      refine zx_iret (pc := 47) dX1_countTornIn_47 (fun o => by first | exact o.1 _ (by decide) | exact o.2 _ _ | omega) ?_
      exact ⟨rfl, rfl⟩
    · skip
      try replace c9 := b2i_n0.mp c9
      exact absurd c9 c
noncomputable def xMin (h : zH) : Nat → Int
  | 0 => ga h 19 0
  | n + 1 => if ga h 19 ((n : Int) + 1) < xMin h n then ga h 19 ((n : Int) + 1) else xMin h n
noncomputable def xMax (h : zH) : Nat → Int
  | 0 => ga h 19 0
  | n + 1 => if xMax h n < ga h 19 ((n : Int) + 1) then ga h 19 ((n : Int) + 1) else xMax h n
noncomputable def xGap (h : zH) : Int := wr (xMax h (gs h 70 - 1).toNat - xMin h (gs h 70 - 1).toNat)
theorem xmm_r {h : zH} (ok : zOk h) : ∀ n : Nat, (-2147483648 ≤ xMin h n ∧ xMin h n < 2147483648) ∧ (-2147483648 ≤ xMax h n ∧ xMax h n < 2147483648)
  | 0 => ⟨ok.2 19 _, ok.2 19 _⟩
  | n + 1 => by
    have q := xmm_r ok n
    have r := ok.2 19 ((n : Int) + 1)
    rw [xMin, xMax]
    constructor
    · split
      · exact r
      · exact q.1
    · split
      · exact r
      · exact q.2
set_option maxRecDepth 100000 in
theorem L_X1_wearDifference {h : zH} (hb : XB h) (ok : zOk h) (Q : Int → zH → Prop) (hQ : Q (xGap h) h) : ∀ (n : Nat) (i c d : Int), 1 ≤ i → (i = 1 ∨ i ≤ gs h 70) → gs h 70 - i < n → c = xMin h (i - 1).toNat → d = xMax h (i - 1).toNat → zX cX zNo RX1 cX1_wearDifference 4 (some .int) rX1_wearDifference 16 [some (.ref 3), some (.int (iI c)), some (.int (iI d)), some (.int (iI i))] [] h (zEi cX Q) := by
  obtain ⟨⟨b1, b2⟩, ⟨b3, b4⟩, b5⟩ := hb
  intro n
  induction n with
  | zero =>
    intro i c d g1 g2 g3 g4 g5
    have g8 := xmm_r ok (i - 1).toNat
    rw [← g4, ← g5] at g8
    refine zx_iload_n (pc := 16) dX1_wearDifference_16 rfl rfl ?_
    refine zx_aload_n (pc := 17) dX1_wearDifference_17 rfl rfl ?_
    refine zg_X1_43 (pc := 18) dX1_wearDifference_18 ?_
    refine zx_icmp_ge (pc := 21) (tgt := 52) dX1_wearDifference_21 (by decide) (fun o => by first | exact o.1 _ (by decide) | exact o.2 _ _ | omega) (fun o => by first | exact o.1 _ (by decide) | exact o.2 _ _ | omega) (fun c21 => ?_) (fun c21 => absurd c21 (by omega))
    refine zx_iload_n (pc := 52) dX1_wearDifference_52 rfl rfl ?_
    refine zx_iload_n (pc := 53) dX1_wearDifference_53 rfl rfl ?_
    refine zx_isub (pc := 54) dX1_wearDifference_54 ?_
    refine zx_wr ?_
    refine zx_iret (pc := 55) dX1_wearDifference_55 (fun _ => wr_rng _) ?_
    have e : (i - 1).toNat = (gs h 70 - 1).toNat := by omega
    rw [g4, g5, e]
    exact hQ
  | succ n ih =>
    intro i c d g1 g2 g3 g4 g5
    have g8 := xmm_r ok (i - 1).toNat
    rw [← g4, ← g5] at g8
    have e1 : (i + 1 - 1).toNat = (i - 1).toNat + 1 := by omega
    have e2 : ((i - 1).toNat : Int) + 1 = i := by omega
    have y1 : (if ga h 19 i < c then ga h 19 i else c) = xMin h (i + 1 - 1).toNat := by
      rw [e1, xMin, e2, ← g4]
    have y2 : (if d < ga h 19 i then ga h 19 i else d) = xMax h (i + 1 - 1).toNat := by
      rw [e1, xMax, e2, ← g5]
    refine zx_iload_n (pc := 16) dX1_wearDifference_16 rfl rfl ?_
    refine zx_aload_n (pc := 17) dX1_wearDifference_17 rfl rfl ?_
    refine zg_X1_43 (pc := 18) dX1_wearDifference_18 ?_
    refine zx_icmp_ge (pc := 21) (tgt := 52) dX1_wearDifference_21 (by decide) (fun o => by first | exact o.1 _ (by decide) | exact o.2 _ _ | omega) (fun o => by first | exact o.1 _ (by decide) | exact o.2 _ _ | omega) (fun c21 => ?_) (fun c21 => ?_)
    · skip
      refine zx_iload_n (pc := 52) dX1_wearDifference_52 rfl rfl ?_
      refine zx_iload_n (pc := 53) dX1_wearDifference_53 rfl rfl ?_
      refine zx_isub (pc := 54) dX1_wearDifference_54 ?_
      refine zx_wr ?_
      refine zx_iret (pc := 55) dX1_wearDifference_55 (fun _ => wr_rng _) ?_
      have e : (i - 1).toNat = (gs h 70 - 1).toNat := by omega
      rw [g4, g5, e]
      exact hQ
    · skip
      refine zx_iload_n (pc := 24) dX1_wearDifference_24 rfl rfl ?_
      refine zx_aload_n (pc := 25) dX1_wearDifference_25 rfl rfl ?_
      refine zg_X1_40 (pc := 26) dX1_wearDifference_26 ?_
      refine zx_iload_n (pc := 29) dX1_wearDifference_29 rfl rfl ?_
      refine zx_iaload (pc := 30) aX1_wear dX1_wearDifference_30 (by omega) (by omega) (by omega) ?_
      refine zx_mmin (pc := 31) dX1_wearDifference_31 zl_X1_83 zj_smin zj_ini zj_cmin (by decide) (Nat.le_of_ble_eq_true rfl) (fun o => by first | exact o.1 _ (by decide) | exact o.2 _ _ | omega) (fun o => by first | exact o.1 _ (by decide) | exact o.2 _ _ | omega) ?_
      refine zx_istore_n (pc := 34) dX1_wearDifference_34 rfl (by decide) rfl ?_
      refine zx_iload_n (pc := 35) dX1_wearDifference_35 rfl rfl ?_
      refine zx_aload_n (pc := 36) dX1_wearDifference_36 rfl rfl ?_
      refine zg_X1_40 (pc := 37) dX1_wearDifference_37 ?_
      refine zx_iload_n (pc := 40) dX1_wearDifference_40 rfl rfl ?_
      refine zx_iaload (pc := 41) aX1_wear dX1_wearDifference_41 (by omega) (by omega) (by omega) ?_
      refine zx_mmax (pc := 42) dX1_wearDifference_42 zl_X1_89 zj_smax zj_ini zj_cmax (by decide) (Nat.le_of_ble_eq_true rfl) (fun o => by first | exact o.1 _ (by decide) | exact o.2 _ _ | omega) (fun o => by first | exact o.1 _ (by decide) | exact o.2 _ _ | omega) ?_
      refine zx_istore_n (pc := 45) dX1_wearDifference_45 rfl (by decide) rfl ?_
      refine zx_iinc (pc := 46) dX1_wearDifference_46 (by decide) rfl rfl ?_
      refine zx_goto (pc := 49) (tgt := 16) dX1_wearDifference_49 (by decide) ?_
      exact ih (i + 1) _ _ (by omega) (by omega) (by omega) y1 y2
set_option maxRecDepth 100000 in
theorem C_X1_wearDifference {h : zH} (hb : XB h) : kX1_wearDifference h (fun r h2 => r = xGap h ∧ h2 = h) := by
  apply eX1_wearDifference
  refine zx_ok (fun ok => ?_)
  refine zx_aload_n (pc := 0) dX1_wearDifference_0 rfl rfl ?_
  refine zg_X1_40 (pc := 1) dX1_wearDifference_1 ?_
  refine zx_iconst (pc := 4) dX1_wearDifference_4 ?_
  refine zx_iaload (pc := 5) aX1_wear dX1_wearDifference_5 (by omega) (by omega) (by omega) ?_
  refine zx_istore_n (pc := 6) dX1_wearDifference_6 rfl (by decide) rfl ?_
  refine zx_aload_n (pc := 7) dX1_wearDifference_7 rfl rfl ?_
  refine zg_X1_40 (pc := 8) dX1_wearDifference_8 ?_
  refine zx_iconst (pc := 11) dX1_wearDifference_11 ?_
  refine zx_iaload (pc := 12) aX1_wear dX1_wearDifference_12 (by omega) (by omega) (by omega) ?_
  refine zx_istore_n (pc := 13) dX1_wearDifference_13 rfl (by decide) rfl ?_
  refine zx_iconst (pc := 14) dX1_wearDifference_14 ?_
  refine zx_istore_n (pc := 15) dX1_wearDifference_15 rfl (by decide) rfl ?_
  exact L_X1_wearDifference hb ok (fun r h2 => r = xGap h ∧ h2 = h) ⟨rfl, rfl⟩ 33 1 _ _ (Int.le_refl _) (Or.inl rfl) (by have := hb.1.2; omega) rfl rfl
def xDataAt (h : zH) (page its i : Int) : Prop := ga h 10 i = 1 ∧ ga h 11 i = page ∧ ga h 13 i = its ∧ ga h 17 i = 0
noncomputable def xFind (h : zH) (page its : Int) : Int := ff (xDataAt h page its) 0 (gs h 72).toNat
set_option maxRecDepth 100000 in
theorem L_X1_findData {h : zH} (hb : XB h) {a1 a2 : Int} (r1 : -2147483648 ≤ a1 ∧ a1 < 2147483648) (r2 : -2147483648 ≤ a2 ∧ a2 < 2147483648) (Q : Int → zH → Prop) : ∀ (n : Nat) (i : Int), 0 ≤ i → i + n = gs h 72 → Q (ff (xDataAt h a1 a2) i n) h → zX cX zNo RX1 cX1_findData 4 (some .int) rX1_findData 2 [some (.ref 3), some (.int (iI a1)), some (.int (iI a2)), some (.int (iI i))] [] h (zEi cX Q) := by
  have m7 := xb_size hb
  intro n
  induction n with
  | zero =>
    intro i g1 g2 hQ
    refine zx_iload_n (pc := 2) dX1_findData_2 rfl rfl ?_
    refine zx_aload_n (pc := 3) dX1_findData_3 rfl rfl ?_
    refine zg_X1_50 (pc := 4) dX1_findData_4 ?_
    refine zx_icmp_ge (pc := 7) (tgt := 57) dX1_findData_7 (by decide) (fun o => by first | exact o.1 _ (by decide) | exact o.2 _ _ | omega) (fun o => by first | exact o.1 _ (by decide) | exact o.2 _ _ | omega) (fun c7 => ?_) (fun c7 => absurd c7 (by omega))
    refine zx_iconst (pc := 57) dX1_findData_57 ?_
    refine zx_iret (pc := 58) dX1_findData_58 (fun o => by first | exact o.1 _ (by decide) | exact o.2 _ _ | omega) ?_
    exact hQ
  | succ n ih =>
    intro i g1 g2 hQ
    rw [ff] at hQ
    refine zx_iload_n (pc := 2) dX1_findData_2 rfl rfl ?_
    refine zx_aload_n (pc := 3) dX1_findData_3 rfl rfl ?_
    refine zg_X1_50 (pc := 4) dX1_findData_4 ?_
    refine zx_icmp_ge (pc := 7) (tgt := 57) dX1_findData_7 (by decide) (fun o => by first | exact o.1 _ (by decide) | exact o.2 _ _ | omega) (fun o => by first | exact o.1 _ (by decide) | exact o.2 _ _ | omega) (fun c7 => absurd c7 (by omega)) (fun c7 => ?_)
    refine zx_aload_n (pc := 10) dX1_findData_10 rfl rfl ?_
    refine zg_X1_9 (pc := 11) dX1_findData_11 ?_
    refine zx_iload_n (pc := 14) dX1_findData_14 rfl rfl ?_
    refine zx_iaload (pc := 15) aX1_kind dX1_findData_15 (by omega) (by omega) (by omega) ?_
    refine zx_iconst (pc := 16) dX1_findData_16 ?_
    refine zx_icmp_ne (pc := 17) (tgt := 51) dX1_findData_17 (by decide) (fun o => by first | exact o.1 _ (by decide) | exact o.2 _ _ | omega) (fun o => by first | exact o.1 _ (by decide) | exact o.2 _ _ | omega) (fun c17 => ?_) (fun c17 => ?_)
    · skip
      rw [ifp_f (fun z => c17 z.1)] at hQ
      refine zx_iinc (pc := 51) dX1_findData_51 (by decide) rfl rfl ?_
      refine zx_goto (pc := 54) (tgt := 2) dX1_findData_54 (by decide) ?_
      exact ih (i + 1) (by omega) (by omega) hQ
    · skip
      refine zx_aload_n (pc := 20) dX1_findData_20 rfl rfl ?_
      refine zg_X1_15 (pc := 21) dX1_findData_21 ?_
      refine zx_iload_n (pc := 24) dX1_findData_24 rfl rfl ?_
      refine zx_iaload (pc := 25) aX1_index dX1_findData_25 (by omega) (by omega) (by omega) ?_
      refine zx_iload_n (pc := 26) dX1_findData_26 rfl rfl ?_
      refine zx_icmp_ne (pc := 27) (tgt := 51) dX1_findData_27 (by decide) (fun o => by first | exact o.1 _ (by decide) | exact o.2 _ _ | omega) (fun o => by first | exact o.1 _ (by decide) | exact o.2 _ _ | omega) (fun c27 => ?_) (fun c27 => ?_)
      · skip
        rw [ifp_f (fun z => c27 z.2.1)] at hQ
        refine zx_iinc (pc := 51) dX1_findData_51 (by decide) rfl rfl ?_
        refine zx_goto (pc := 54) (tgt := 2) dX1_findData_54 (by decide) ?_
        exact ih (i + 1) (by omega) (by omega) hQ
      · skip
        refine zx_aload_n (pc := 30) dX1_findData_30 rfl rfl ?_
        refine zg_X1_21 (pc := 31) dX1_findData_31 ?_
        refine zx_iload_n (pc := 34) dX1_findData_34 rfl rfl ?_
        refine zx_iaload (pc := 35) aX1_version dX1_findData_35 (by omega) (by omega) (by omega) ?_
        refine zx_iload_n (pc := 36) dX1_findData_36 rfl rfl ?_
        refine zx_icmp_ne (pc := 37) (tgt := 51) dX1_findData_37 (by decide) (fun o => by first | exact o.1 _ (by decide) | exact o.2 _ _ | omega) (fun o => by first | exact o.1 _ (by decide) | exact o.2 _ _ | omega) (fun c37 => ?_) (fun c37 => ?_)
        · skip
          rw [ifp_f (fun z => c37 z.2.2.1)] at hQ
          refine zx_iinc (pc := 51) dX1_findData_51 (by decide) rfl rfl ?_
          refine zx_goto (pc := 54) (tgt := 2) dX1_findData_54 (by decide) ?_
          exact ih (i + 1) (by omega) (by omega) hQ
        · skip
          refine zx_aload_n (pc := 40) dX1_findData_40 rfl rfl ?_
          refine zg_X1_33 (pc := 41) dX1_findData_41 ?_
          refine zx_iload_n (pc := 44) dX1_findData_44 rfl rfl ?_
          refine zx_baload (pc := 45) aX1_copied dX1_findData_45 (by omega) (by omega) (by omega) ?_
          refine zx_if_ne (pc := 46) (tgt := 51) dX1_findData_46 (by decide) (fun o => by first | exact o.1 _ (by decide) | exact o.2 _ _ | omega) (fun c46 => ?_) (fun c46 => ?_)
          · skip
            rw [ifp_f (fun z => c46 z.2.2.2)] at hQ
            refine zx_iinc (pc := 51) dX1_findData_51 (by decide) rfl rfl ?_
            refine zx_goto (pc := 54) (tgt := 2) dX1_findData_54 (by decide) ?_
            exact ih (i + 1) (by omega) (by omega) hQ
          · skip
            rw [ifp_t ⟨c17, c27, c37, c46⟩] at hQ
            refine zx_iload_n (pc := 49) dX1_findData_49 rfl rfl ?_
            refine zx_iret (pc := 50) dX1_findData_50 (fun o => by first | exact o.1 _ (by decide) | exact o.2 _ _ | omega) ?_
            exact hQ
set_option maxRecDepth 100000 in
theorem C_X1_findData {h : zH} (hb : XB h) {a1 a2 : Int} (r1 : -2147483648 ≤ a1 ∧ a1 < 2147483648) (r2 : -2147483648 ≤ a2 ∧ a2 < 2147483648) : kX1_findData a1 a2 h (fun r h2 => r = xFind h a1 a2 ∧ h2 = h) := by
  have m7 := xb_size hb
  apply eX1_findData
  refine zx_iconst (pc := 0) dX1_findData_0 ?_
  refine zx_istore_n (pc := 1) dX1_findData_1 rfl (by decide) rfl ?_
  exact L_X1_findData hb r1 r2 (fun r h2 => r = xFind h a1 a2 ∧ h2 = h) (gs h 72).toNat 0 (Int.le_refl _) (by omega) ⟨rfl, rfl⟩
noncomputable def xLE (h : zH) : Nat → Int
  | 0 => -1
  | n + 1 => ifp (ga h 10 n = 4 ∧ (xLE h n < 0 ∨ ga h 13 (xLE h n) < ga h 13 n)) (n : Int) (xLE h n)
noncomputable def xEnd (h : zH) : Int := xLE h (gs h 72).toNat
theorem xLE_r (h : zH) : ∀ n : Nat, -1 ≤ xLE h n ∧ xLE h n < n
  | 0 => by simp [xLE]
  | n + 1 => by
    have q := xLE_r h n
    rw [xLE]
    rcases Classical.em (ga h 10 n = 4 ∧ (xLE h n < 0 ∨ ga h 13 (xLE h n) < ga h 13 n)) with c | c
    · rw [ifp_t c]; omega
    · rw [ifp_f c]; omega
set_option maxRecDepth 100000 in
theorem L_X1_findLatestEnd {h : zH} (hb : XB h) (Q : Int → zH → Prop) (hQ : Q (xEnd h) h) : ∀ (n : Nat) (i c : Int), 0 ≤ i → i ≤ gs h 72 → gs h 72 - i < n → c = xLE h i.toNat → zX cX zNo RX1 cX1_findLatestEnd 3 (some .int) rX1_findLatestEnd 4 [some (.ref 3), some (.int (iI c)), some (.int (iI i))] [] h (zEi cX Q) := by
  have m7 := xb_size hb
  intro n
  induction n with
  | zero => intro i c g1 g2 g3; omega
  | succ n ih =>
    intro i c g1 g2 g3 g4
    have g5 := xLE_r h i.toNat
    obtain ⟨g6, g7⟩ := toNat_next g1
    have y (z : ga h 10 i = 4 ∧ (c < 0 ∨ ga h 13 c < ga h 13 i)) : xLE h (i + 1).toNat = i := by
      rw [g6, xLE, g7, ← g4]
      exact ifp_t z
    have nn (z : ¬ (ga h 10 i = 4 ∧ (c < 0 ∨ ga h 13 c < ga h 13 i))) : xLE h (i + 1).toNat = c := by
      rw [g6, xLE, g7, ← g4]
      exact ifp_f z
    refine zx_iload_n (pc := 4) dX1_findLatestEnd_4 rfl rfl ?_
    refine zx_aload_n (pc := 5) dX1_findLatestEnd_5 rfl rfl ?_
    refine zg_X1_50 (pc := 6) dX1_findLatestEnd_6 ?_
    refine zx_icmp_ge (pc := 9) (tgt := 49) dX1_findLatestEnd_9 (by decide) (fun o => by first | exact o.1 _ (by decide) | exact o.2 _ _ | omega) (fun o => by first | exact o.1 _ (by decide) | exact o.2 _ _ | omega) (fun c9 => ?_) (fun c9 => ?_)
    · skip
      refine zx_iload_n (pc := 49) dX1_findLatestEnd_49 rfl rfl ?_
      refine zx_iret (pc := 50) dX1_findLatestEnd_50 (fun o => by first | exact o.1 _ (by decide) | exact o.2 _ _ | omega) ?_
      have e : i = gs h 72 := by omega
      rw [g4, e]
      exact hQ
    · skip
      refine zx_aload_n (pc := 12) dX1_findLatestEnd_12 rfl rfl ?_
      refine zg_X1_9 (pc := 13) dX1_findLatestEnd_13 ?_
      refine zx_iload_n (pc := 16) dX1_findLatestEnd_16 rfl rfl ?_
      refine zx_iaload (pc := 17) aX1_kind dX1_findLatestEnd_17 (by omega) (by omega) (by omega) ?_
      refine zx_iconst (pc := 18) dX1_findLatestEnd_18 ?_
      refine zx_icmp_ne (pc := 19) (tgt := 43) dX1_findLatestEnd_19 (by decide) (fun o => by first | exact o.1 _ (by decide) | exact o.2 _ _ | omega) (fun o => by first | exact o.1 _ (by decide) | exact o.2 _ _ | omega) (fun c19 => ?_) (fun c19 => ?_)
      · skip
        refine zx_iinc (pc := 43) dX1_findLatestEnd_43 (by decide) rfl rfl ?_
        refine zx_goto (pc := 46) (tgt := 4) dX1_findLatestEnd_46 (by decide) ?_
        first
        | (have w2 := w
           exact ih (i + 1) _ (by omega) (by omega) (by omega) w2.symm)
        | exact ih (i + 1) _ (by omega) (by omega) (by omega) (nn (by omega)).symm
      · skip
        refine zx_iload_n (pc := 22) dX1_findLatestEnd_22 rfl rfl ?_
        refine zx_if_lt (pc := 23) (tgt := 41) dX1_findLatestEnd_23 (by decide) (fun o => by first | exact o.1 _ (by decide) | exact o.2 _ _ | omega) (fun c23 => ?_) (fun c23 => ?_)
        · skip
          have w := y (by omega)
          refine zx_iload_n (pc := 41) dX1_findLatestEnd_41 rfl rfl ?_
          refine zx_istore_n (pc := 42) dX1_findLatestEnd_42 rfl (by decide) rfl ?_
          refine zx_iinc (pc := 43) dX1_findLatestEnd_43 (by decide) rfl rfl ?_
          refine zx_goto (pc := 46) (tgt := 4) dX1_findLatestEnd_46 (by decide) ?_
          first
          | (have w2 := w
             exact ih (i + 1) _ (by omega) (by omega) (by omega) w2.symm)
          | exact ih (i + 1) _ (by omega) (by omega) (by omega) (nn (by omega)).symm
        · skip
          refine zx_aload_n (pc := 26) dX1_findLatestEnd_26 rfl rfl ?_
          refine zg_X1_21 (pc := 27) dX1_findLatestEnd_27 ?_
          refine zx_iload_n (pc := 30) dX1_findLatestEnd_30 rfl rfl ?_
          refine zx_iaload (pc := 31) aX1_version dX1_findLatestEnd_31 (by omega) (by omega) (by omega) ?_
          refine zx_aload_n (pc := 32) dX1_findLatestEnd_32 rfl rfl ?_
          refine zg_X1_21 (pc := 33) dX1_findLatestEnd_33 ?_
          refine zx_iload_n (pc := 36) dX1_findLatestEnd_36 rfl rfl ?_
          refine zx_iaload (pc := 37) aX1_version dX1_findLatestEnd_37 (by omega) (by omega) (by omega) ?_
          refine zx_icmp_le (pc := 38) (tgt := 43) dX1_findLatestEnd_38 (by decide) (fun o => by first | exact o.1 _ (by decide) | exact o.2 _ _ | omega) (fun o => by first | exact o.1 _ (by decide) | exact o.2 _ _ | omega) (fun c38 => ?_) (fun c38 => ?_)
          · skip
            refine zx_iinc (pc := 43) dX1_findLatestEnd_43 (by decide) rfl rfl ?_
            refine zx_goto (pc := 46) (tgt := 4) dX1_findLatestEnd_46 (by decide) ?_
            first
            | (have w2 := w
               exact ih (i + 1) _ (by omega) (by omega) (by omega) w2.symm)
            | exact ih (i + 1) _ (by omega) (by omega) (by omega) (nn (by omega)).symm
          · skip
            have w := y (by omega)
            refine zx_iload_n (pc := 41) dX1_findLatestEnd_41 rfl rfl ?_
            refine zx_istore_n (pc := 42) dX1_findLatestEnd_42 rfl (by decide) rfl ?_
            refine zx_iinc (pc := 43) dX1_findLatestEnd_43 (by decide) rfl rfl ?_
            refine zx_goto (pc := 46) (tgt := 4) dX1_findLatestEnd_46 (by decide) ?_
            first
            | (have w2 := w
               exact ih (i + 1) _ (by omega) (by omega) (by omega) w2.symm)
            | exact ih (i + 1) _ (by omega) (by omega) (by omega) (nn (by omega)).symm
set_option maxRecDepth 100000 in
theorem C_X1_findLatestEnd {h : zH} (hb : XB h) : kX1_findLatestEnd h (fun r h2 => r = xEnd h ∧ h2 = h) := by
  have m7 := xb_size hb
  apply eX1_findLatestEnd
  refine zx_iconst (pc := 0) dX1_findLatestEnd_0 ?_
  refine zx_istore_n (pc := 1) dX1_findLatestEnd_1 rfl (by decide) rfl ?_
  refine zx_iconst (pc := 2) dX1_findLatestEnd_2 ?_
  refine zx_istore_n (pc := 3) dX1_findLatestEnd_3 rfl (by decide) rfl ?_
  exact L_X1_findLatestEnd hb (fun r h2 => r = xEnd h ∧ h2 = h) ⟨rfl, rfl⟩ 1025 0 _ (Int.le_refl _) m7.1 (by omega) rfl
noncomputable def xNr (h : zH) (i : Int) (s : Int × Int) : Nat → Int × Int
  | 0 => s
  | n + 1 => ifp ((xNr h i s n).2 < ga h 14 (i * gs h 71 + n)) (i, ga h 14 (i * gs h 71 + n)) (xNr h i s n)
noncomputable def xNb (h : zH) : Nat → Int × Int
  | 0 => (-1, 0)
  | n + 1 => xNr h n (xNb h n) (gs h 71).toNat
noncomputable def xNewest (h : zH) : Int := (xNb h (gs h 70).toNat).1
theorem xNr_r {h : zH} (ok : zOk h) (i : Int) (s : Int × Int) (hs : -2147483648 ≤ s.2 ∧ s.2 < 2147483648) (h1 : -1 ≤ s.1 ∧ s.1 ≤ i) (hi : 0 ≤ i) : ∀ n : Nat, (-2147483648 ≤ (xNr h i s n).2 ∧ (xNr h i s n).2 < 2147483648) ∧ -1 ≤ (xNr h i s n).1 ∧ (xNr h i s n).1 ≤ i
  | 0 => ⟨hs, h1⟩
  | n + 1 => by
    have q := xNr_r ok i s hs h1 hi n
    rw [xNr]
    rcases Classical.em ((xNr h i s n).2 < ga h 14 (i * gs h 71 + n)) with c | c
    · rw [ifp_t c]; exact ⟨ok.2 14 _, by show -1 ≤ i; omega, Int.le_refl _⟩
    · rw [ifp_f c]; exact q
theorem xNb_r {h : zH} (ok : zOk h) : ∀ n : Nat, (-2147483648 ≤ (xNb h n).2 ∧ (xNb h n).2 < 2147483648) ∧ -1 ≤ (xNb h n).1 ∧ (xNb h n).1 < n
  | 0 => by simp [xNb]
  | n + 1 => by
    have q := xNb_r ok n
    have r := xNr_r ok n (xNb h n) q.1 ⟨q.2.1, by omega⟩ (by omega) (gs h 71).toNat
    rw [xNb]
    exact ⟨r.1, r.2.1, by omega⟩
set_option maxRecDepth 100000 in
theorem L1_X1_findNewestBlock {h : zH} (hb : XB h) (ok : zOk h) {i : Int} (k1 : 0 ≤ i) (k2 : i < gs h 70) (s : Int × Int) (hs : -2147483648 ≤ s.2 ∧ s.2 < 2147483648) (h1 : -1 ≤ s.1 ∧ s.1 ≤ i) (E : zF) (k : zX cX zNo RX1 cX1_findNewestBlock 6 (some .int) rX1_findNewestBlock 59 [some (.ref 3), some (.int (iI (xNr h i s (gs h 71).toNat).1)), some (.int (iI (xNr h i s (gs h 71).toNat).2)), some (.int (iI i)), none, none] [] h E) : ∀ (n : Nat) (j c d : Int), 0 ≤ j → j ≤ gs h 71 → gs h 71 - j < n → c = (xNr h i s j.toNat).1 → d = (xNr h i s j.toNat).2 → zX cX zNo RX1 cX1_findNewestBlock 6 (some .int) rX1_findNewestBlock 17 [some (.ref 3), some (.int (iI c)), some (.int (iI d)), some (.int (iI i)), some (.int (iI j)), none] [] h E := by
  have q := xb_blk hb k1 k2
  have b4 := hb.2.1
  intro n
  induction n with
  | zero => intro j c d g1 g2 g3; omega
  | succ n ih =>
    intro j c d g1 g2 g3 g4 g5
    obtain ⟨g6, g7⟩ := toNat_next g1
    have g8 := xNr_r ok i s hs h1 k1 j.toNat
    rw [← g4, ← g5] at g8
    have y (z : d < ga h 14 (i * gs h 71 + j)) : xNr h i s (j + 1).toNat = (i, ga h 14 (i * gs h 71 + j)) := by
      rw [g6, xNr, g7, ← g5]
      exact ifp_t z
    have nn (z : ¬ d < ga h 14 (i * gs h 71 + j)) : xNr h i s (j + 1).toNat = xNr h i s j.toNat := by
      rw [g6, xNr, g7, ← g5]
      exact ifp_f z
    refine zx_iload (pc := 17) dX1_findNewestBlock_17 rfl ?_
    refine zx_aload_n (pc := 19) dX1_findNewestBlock_19 rfl rfl ?_
    refine zg_X1_47 (pc := 20) dX1_findNewestBlock_20 ?_
    refine zx_icmp_ge (pc := 23) (tgt := 59) dX1_findNewestBlock_23 (by decide) (fun o => by first | exact o.1 _ (by decide) | exact o.2 _ _ | omega) (fun o => by first | exact o.1 _ (by decide) | exact o.2 _ _ | omega) (fun c23 => ?_) (fun c23 => ?_)
    · skip
      have e : j = gs h 71 := by omega
      rw [g4, g5, e]
      refine zx_sub [true, true, true, true, false, false] ?_
      dsimp only [zMask, List.set]
      exact k
    · skip
      refine zx_aload_n (pc := 26) dX1_findNewestBlock_26 rfl rfl ?_
      refine zg_X1_24 (pc := 27) dX1_findNewestBlock_27 ?_
      refine zx_iload_n (pc := 30) dX1_findNewestBlock_30 rfl rfl ?_
      refine zx_aload_n (pc := 31) dX1_findNewestBlock_31 rfl rfl ?_
      refine zg_X1_47 (pc := 32) dX1_findNewestBlock_32 ?_
      refine zx_imul (pc := 35) dX1_findNewestBlock_35 ?_
      refine zx_iload (pc := 36) dX1_findNewestBlock_36 rfl ?_
      refine zx_iadd (pc := 38) dX1_findNewestBlock_38 ?_
      refine zx_iaload (pc := 39) aX1_sequence dX1_findNewestBlock_39 (by omega) (by omega) (by omega) ?_
      refine zx_istore (pc := 40) dX1_findNewestBlock_40 (by decide) rfl ?_
      refine zx_iload (pc := 42) dX1_findNewestBlock_42 rfl ?_
      refine zx_iload_n (pc := 44) dX1_findNewestBlock_44 rfl rfl ?_
      refine zx_icmp_le (pc := 45) (tgt := 53) dX1_findNewestBlock_45 (by decide) (fun o => by first | exact o.1 _ (by decide) | exact o.2 _ _ | omega) (fun o => by first | exact o.1 _ (by decide) | exact o.2 _ _ | omega) (fun c45 => ?_) (fun c45 => ?_)
      · skip
        have w := nn (by omega)
        refine zx_iinc (pc := 53) dX1_findNewestBlock_53 (by decide) rfl rfl ?_
        refine zx_goto (pc := 56) (tgt := 17) dX1_findNewestBlock_56 (by decide) ?_
        refine zx_sub [true, true, true, true, true, false] ?_
        dsimp only [zMask, List.set]
        first
        | exact ih (j + 1) _ _ (by omega) (by omega) (by omega) (by rw [w, g4]) (by rw [w, g5])
        | exact ih (j + 1) _ _ (by omega) (by omega) (by omega) (by rw [w]) (by rw [w])
      · skip
        have w := y c45
        refine zx_iload (pc := 48) dX1_findNewestBlock_48 rfl ?_
        refine zx_istore_n (pc := 50) dX1_findNewestBlock_50 rfl (by decide) rfl ?_
        refine zx_iload_n (pc := 51) dX1_findNewestBlock_51 rfl rfl ?_
        refine zx_istore_n (pc := 52) dX1_findNewestBlock_52 rfl (by decide) rfl ?_
        refine zx_iinc (pc := 53) dX1_findNewestBlock_53 (by decide) rfl rfl ?_
        refine zx_goto (pc := 56) (tgt := 17) dX1_findNewestBlock_56 (by decide) ?_
        refine zx_sub [true, true, true, true, true, false] ?_
        dsimp only [zMask, List.set]
        first
        | exact ih (j + 1) _ _ (by omega) (by omega) (by omega) (by rw [w, g4]) (by rw [w, g5])
        | exact ih (j + 1) _ _ (by omega) (by omega) (by omega) (by rw [w]) (by rw [w])
set_option maxRecDepth 100000 in
theorem L2_X1_findNewestBlock {h : zH} (hb : XB h) (ok : zOk h) (Q : Int → zH → Prop) (hQ : Q (xNewest h) h) : ∀ (n : Nat) (i c d : Int), 0 ≤ i → i ≤ gs h 70 → gs h 70 - i < n → c = (xNb h i.toNat).1 → d = (xNb h i.toNat).2 → zX cX zNo RX1 cX1_findNewestBlock 6 (some .int) rX1_findNewestBlock 6 [some (.ref 3), some (.int (iI c)), some (.int (iI d)), some (.int (iI i)), none, none] [] h (zEi cX Q) := by
  obtain ⟨⟨b1, b2⟩, ⟨b3, b4⟩, b5⟩ := hb
  intro n
  induction n with
  | zero => intro i c d g1 g2 g3; omega
  | succ n ih =>
    intro i c d g1 g2 g3 g4 g5
    obtain ⟨g6, g7⟩ := toNat_next g1
    have g8 := xNb_r ok i.toNat
    have g9 := g8
    rw [← g4, ← g5] at g8
    have e : xNb h (i + 1).toNat = xNr h i (xNb h i.toNat) (gs h 71).toNat := by rw [g6, xNb, g7]
    refine zx_iload_n (pc := 6) dX1_findNewestBlock_6 rfl rfl ?_
    refine zx_aload_n (pc := 7) dX1_findNewestBlock_7 rfl rfl ?_
    refine zg_X1_43 (pc := 8) dX1_findNewestBlock_8 ?_
    refine zx_icmp_ge (pc := 11) (tgt := 65) dX1_findNewestBlock_11 (by decide) (fun o => by first | exact o.1 _ (by decide) | exact o.2 _ _ | omega) (fun o => by first | exact o.1 _ (by decide) | exact o.2 _ _ | omega) (fun c11 => ?_) (fun c11 => ?_)
    · skip
      refine zx_iload_n (pc := 65) dX1_findNewestBlock_65 rfl rfl ?_
      refine zx_iret (pc := 66) dX1_findNewestBlock_66 (fun o => by first | exact o.1 _ (by decide) | exact o.2 _ _ | omega) ?_
      have e : i = gs h 70 := by omega
      rw [g4, e]
      exact hQ
    · skip
      refine zx_iconst (pc := 14) dX1_findNewestBlock_14 ?_
      refine zx_istore (pc := 15) dX1_findNewestBlock_15 (by decide) rfl ?_
      refine L1_X1_findNewestBlock ⟨⟨b1, b2⟩, ⟨b3, b4⟩, b5⟩ ok g1 c11 (xNb h i.toNat) g9.1 ⟨g9.2.1, by omega⟩ (zEi cX Q) ?_ 33 0 c d (Int.le_refl _) b3 (by omega) g4 g5
      refine zx_iinc (pc := 59) dX1_findNewestBlock_59 (by decide) rfl rfl ?_
      refine zx_goto (pc := 62) (tgt := 6) dX1_findNewestBlock_62 (by decide) ?_
      exact ih (i + 1) _ _ (by omega) (by omega) (by omega) (by rw [e]) (by rw [e])
set_option maxRecDepth 100000 in
theorem C_X1_findNewestBlock {h : zH} (hb : XB h) : kX1_findNewestBlock h (fun r h2 => r = xNewest h ∧ h2 = h) := by
  apply eX1_findNewestBlock
  refine zx_ok (fun ok => ?_)
  refine zx_iconst (pc := 0) dX1_findNewestBlock_0 ?_
  refine zx_istore_n (pc := 1) dX1_findNewestBlock_1 rfl (by decide) rfl ?_
  refine zx_iconst (pc := 2) dX1_findNewestBlock_2 ?_
  refine zx_istore_n (pc := 3) dX1_findNewestBlock_3 rfl (by decide) rfl ?_
  refine zx_iconst (pc := 4) dX1_findNewestBlock_4 ?_
  refine zx_istore_n (pc := 5) dX1_findNewestBlock_5 rfl (by decide) rfl ?_
  exact L2_X1_findNewestBlock hb ok (fun r h2 => r = xNewest h ∧ h2 = h) ⟨rfl, rfl⟩ 33 0 _ _ (Int.le_refl _) hb.1.1 (by have := hb.1.2; omega) rfl rfl
def x_anewF (h : zH) (B P : Int) : zH := ps (ps (ps (ps (ps (prr (prr (x_clrR (ps (ps (ps h 70 B) 71 P) 72 (B * P)) 0 1024 0) 18 0 32 0) 19 0 32 0) 73 0) 74 0) 75 0) 76 0) 77 0
set_option maxRecDepth 100000 in
theorem L1_X1_clearAll {h0 : zH} {a1 a2 : Int} (Q : zH → Prop) (k : ∀ i, zX cX zNo RX1 cX1_clearAll 4 none rX1_clearAll 38 [some (.ref 3), some (.int (iI a1)), some (.int (iI a2)), some (.int (iI i))] [] (x_clrR h0 0 1024 0) (zEv cX Q)) : ∀ (n : Nat) (i : Int), 0 ≤ i → i ≤ 1024 → 1024 - i < n → zX cX zNo RX1 cX1_clearAll 4 none rX1_clearAll 19 [some (.ref 3), some (.int (iI a1)), some (.int (iI a2)), some (.int (iI i))] [] (x_clrR h0 0 i 0) (zEv cX Q) := by
  intro n
  induction n with
  | zero => intro i g1 g2 g3; omega
  | succ n ih =>
    intro i g1 g2 g3
    have e := x_clr_next h0 (a := 0) (i := i) 0 g1
    refine zx_iload_n (pc := 19) dX1_clearAll_19 rfl rfl ?_
    refine zx_sipush (pc := 20) dX1_clearAll_20 (by decide +kernel) ?_
    refine zx_icmp_ge (pc := 23) (tgt := 38) dX1_clearAll_23 (by decide) (fun o => by first | exact o.1 _ (by decide) | exact o.2 _ _ | omega) (fun o => by first | exact o.1 _ (by decide) | exact o.2 _ _ | omega) (fun c23 => ?_) (fun c23 => ?_)
    · skip
      have e2 : i = 1024 := by omega
      rw [e2]
      exact k _
    · skip
      refine zx_aload_n (pc := 26) dX1_clearAll_26 rfl rfl ?_
      refine zx_iload_n (pc := 27) dX1_clearAll_27 rfl rfl ?_
      refine zx_iconst (pc := 28) dX1_clearAll_28 ?_
      refine zi_X1_53 (pc := 29) dX1_clearAll_29 (C_X1_clearPage g1 c23 (by omega)) (by decide) (Nat.le_of_ble_eq_true rfl) (fun h29 q29 => ?_)
      rw [q29]
      clear q29 h29
      refine zx_iinc (pc := 32) dX1_clearAll_32 (by decide) rfl rfl ?_
      refine zx_goto (pc := 35) (tgt := 19) dX1_clearAll_35 (by decide) ?_
      rw [e]
      exact ih (i + 1) (by omega) (by omega) (by omega)
set_option maxRecDepth 100000 in
theorem L2_X1_clearAll {h0 : zH} {a1 a2 : Int} (Q : zH → Prop) (k : ∀ i, zX cX zNo RX1 cX1_clearAll 4 none rX1_clearAll 66 [some (.ref 3), some (.int (iI a1)), some (.int (iI a2)), some (.int (iI i))] [] (prr (prr h0 18 0 32 0) 19 0 32 0) (zEv cX Q)) : ∀ (n : Nat) (i : Int), 0 ≤ i → i ≤ 32 → 32 - i < n → zX cX zNo RX1 cX1_clearAll 4 none rX1_clearAll 40 [some (.ref 3), some (.int (iI a1)), some (.int (iI a2)), some (.int (iI i))] [] (prr (prr h0 18 0 i 0) 19 0 i 0) (zEv cX Q) := by
  intro n
  induction n with
  | zero => intro i g1 g2 g3; omega
  | succ n ih =>
    intro i g1 g2 g3
    have e : pa (pa (prr (prr h0 18 0 i 0) 19 0 i 0) 18 i 0) 19 i 0 = prr (prr h0 18 0 (i + 1) 0) 19 0 (i + 1) 0 := by
      rw [pa_prr _ _ _ _ _ _ (show 18 ≠ 19 by decide), prr_next _ _ _ g1, prr_next _ _ _ g1]
    refine zx_iload_n (pc := 40) dX1_clearAll_40 rfl rfl ?_
    refine zx_bipush (pc := 41) dX1_clearAll_41 (by decide +kernel) ?_
    refine zx_icmp_ge (pc := 43) (tgt := 66) dX1_clearAll_43 (by decide) (fun o => by first | exact o.1 _ (by decide) | exact o.2 _ _ | omega) (fun o => by first | exact o.1 _ (by decide) | exact o.2 _ _ | omega) (fun c43 => ?_) (fun c43 => ?_)
    · skip
      have e2 : i = 32 := by omega
      rw [e2]
      exact k _
    · skip
      refine zx_aload_n (pc := 46) dX1_clearAll_46 rfl rfl ?_
      refine zg_X1_37 (pc := 47) dX1_clearAll_47 ?_
      refine zx_iload_n (pc := 50) dX1_clearAll_50 rfl rfl ?_
      refine zx_iconst (pc := 51) dX1_clearAll_51 ?_
      refine zx_iastore (pc := 52) aX1_used dX1_clearAll_52 (by omega) (by omega) (by omega) (fun o => by first | exact o.1 _ (by decide) | exact o.2 _ _ | omega) ?_
      refine zx_aload_n (pc := 53) dX1_clearAll_53 rfl rfl ?_
      refine zg_X1_40 (pc := 54) dX1_clearAll_54 ?_
      refine zx_iload_n (pc := 57) dX1_clearAll_57 rfl rfl ?_
      refine zx_iconst (pc := 58) dX1_clearAll_58 ?_
      refine zx_iastore (pc := 59) aX1_wear dX1_clearAll_59 (by omega) (by omega) (by omega) (fun o => by first | exact o.1 _ (by decide) | exact o.2 _ _ | omega) ?_
      refine zx_iinc (pc := 60) dX1_clearAll_60 (by decide) rfl rfl ?_
      refine zx_goto (pc := 63) (tgt := 40) dX1_clearAll_63 (by decide) ?_
      rw [e]
      exact ih (i + 1) (by omega) (by omega) (by omega)
set_option maxRecDepth 100000 in
theorem C_X1_clearAll {h : zH} {a1 a2 : Int} (h1 : 0 ≤ a1 ∧ a1 ≤ 32) (h2 : 0 ≤ a2 ∧ a2 ≤ 32) : kX1_clearAll a1 a2 h (fun h2 => h2 = x_anewF h a1 a2) := by
  have m7 := mb_size h1.1 h1.2 h2.1 h2.2
  apply eX1_clearAll
  refine zx_aload_n (pc := 0) dX1_clearAll_0 rfl rfl ?_
  refine zx_iload_n (pc := 1) dX1_clearAll_1 rfl rfl ?_
  refine zp_X1_43 (pc := 2) dX1_clearAll_2 (fun _ => by omega) ?_
  refine zx_aload_n (pc := 5) dX1_clearAll_5 rfl rfl ?_
  refine zx_iload_n (pc := 6) dX1_clearAll_6 rfl rfl ?_
  refine zp_X1_47 (pc := 7) dX1_clearAll_7 (fun _ => by omega) ?_
  refine zx_aload_n (pc := 10) dX1_clearAll_10 rfl rfl ?_
  refine zx_iload_n (pc := 11) dX1_clearAll_11 rfl rfl ?_
  refine zx_iload_n (pc := 12) dX1_clearAll_12 rfl rfl ?_
  refine zx_imul (pc := 13) dX1_clearAll_13 ?_
  refine zp_X1_50 (pc := 14) dX1_clearAll_14 (fun _ => by omega) ?_
  refine zx_iconst (pc := 17) dX1_clearAll_17 ?_
  refine zx_istore_n (pc := 18) dX1_clearAll_18 rfl (by decide) rfl ?_
  have r := L1_X1_clearAll (h0 := ps (ps (ps h 70 a1) 71 a2) 72 (a1 * a2)) (a1 := a1) (a2 := a2) (fun h2 => h2 = x_anewF h a1 a2) (fun i => ?_) 1025 0 (Int.le_refl _) (by omega) (by omega)
  · rw [x_clr_0] at r
    exact r
  refine zx_iconst (pc := 38) dX1_clearAll_38 ?_
  refine zx_istore_n (pc := 39) dX1_clearAll_39 rfl (by decide) rfl ?_
  have r := L2_X1_clearAll (h0 := x_clrR (ps (ps (ps h 70 a1) 71 a2) 72 (a1 * a2)) 0 1024 0) (a1 := a1) (a2 := a2) (fun h2 => h2 = x_anewF h a1 a2) (fun j => ?_) 33 0 (Int.le_refl _) (by omega) (by omega)
  · rw [prr_0, prr_0] at r
    exact r
  refine zx_aload_n (pc := 66) dX1_clearAll_66 rfl rfl ?_
  refine zx_iconst (pc := 67) dX1_clearAll_67 ?_
  refine zp_X1_57 (pc := 68) dX1_clearAll_68 (fun o => by first | exact o.1 _ (by decide) | exact o.2 _ _ | omega) ?_
  refine zx_aload_n (pc := 71) dX1_clearAll_71 rfl rfl ?_
  refine zx_iconst (pc := 72) dX1_clearAll_72 ?_
  refine zp_X1_60 (pc := 73) dX1_clearAll_73 (fun o => by first | exact o.1 _ (by decide) | exact o.2 _ _ | omega) ?_
  refine zx_aload_n (pc := 76) dX1_clearAll_76 rfl rfl ?_
  refine zx_iconst (pc := 77) dX1_clearAll_77 ?_
  refine zp_X1_63 (pc := 78) dX1_clearAll_78 (fun o => by first | exact o.1 _ (by decide) | exact o.2 _ _ | omega) ?_
  refine zx_aload_n (pc := 81) dX1_clearAll_81 rfl rfl ?_
  refine zx_iconst (pc := 82) dX1_clearAll_82 ?_
  refine zp_X1_66 (pc := 83) dX1_clearAll_83 (fun o => by first | exact o.1 _ (by decide) | exact o.2 _ _ | omega) ?_
  refine zx_aload_n (pc := 86) dX1_clearAll_86 rfl rfl ?_
  refine zx_iconst (pc := 87) dX1_clearAll_87 ?_
  refine zp_X1_69 (pc := 88) dX1_clearAll_88 (fun o => by first | exact o.1 _ (by decide) | exact o.2 _ _ | omega) ?_
  refine zx_vret (pc := 91) dX1_clearAll_91 ?_
  rfl

