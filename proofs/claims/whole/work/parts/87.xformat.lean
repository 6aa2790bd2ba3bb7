/-! the class: format's contract -/
theorem XS_wout {h : zH} (s : XS h) (p v : Int) : XS (x_wout h p v).1 := by
  have q := (xpage_r s 1 p 0 v).1
  unfold x_wout
  rcases Classical.em (xPl (x_page h 1 p 0 v).1 (x_page h 1 p 0 v).2) with c | c
  · rw [ifp_t c]
    unfold x_wo2
    have w := (xcc_r (XS_setC q p (ga (x_page h 1 p 0 v).1 13 (x_page h 1 p 0 v).2))).1
    rcases Classical.em ((x_cc (x_setC (x_page h 1 p 0 v).1 p (ga (x_page h 1 p 0 v).1 13 (x_page h 1 p 0 v).2))).2 = 1) with d | d
    · rw [ifp_t d]
      exact XS_53 w _
    · rw [ifp_f d]
      exact w
  · rw [ifp_f c]
    exact q
theorem XS_anewD (x : zH) {B P L : Int} (e : Int) (b1 : 0 ≤ B ∧ B ≤ 32) (b2 : 0 ≤ P ∧ P ≤ 32) (b3 : 0 ≤ L ∧ L ≤ 64) : XS (x_anewD x B P L e) := by
  refine ⟨⟨b1, b2, rfl⟩, fun b c0 c1 => ?_, b3, ⟨Int.le_refl 0, show (0 : Int) ≤ 1000 by decide⟩, ⟨Int.le_refl 0, show (0 : Int) < 16 by decide⟩, Int.le_refl 0, ⟨Int.le_refl (-1), show (-1 : Int) < B by omega⟩, rfl⟩
  have c1 : b < B := c1
  have e18 : ga (x_anewD x B P L e) 18 b = 0 := by
    show ga (x_forget _) 18 b = _
    unfold x_forget x_anewT x_anewF
    simp only [ga_ps, ga_prr]
    have : b < 32 := by omega
    unfold x_forget
    simp only [ga_ps, ga_prr]
    simp [c0, this]
  rw [e18]
  exact ⟨Int.le_refl 0, show 0 ≤ P by omega⟩
set_option maxRecDepth 100000 in
theorem L_X6_format {a1 N : Int} (hN : N ≤ 64) (Q : Int → zH → Prop) (X : String → zH → Prop) : ∀ (n : Nat) (h : zH) (i : Int), XS h → gs h 29 = N → 0 ≤ i → i + n = N → Q N (x_fiL n h i) → zX cX zGt RX6 cX6_format 3 (some .int) tX6_format 98 [some (.ref 0), some (.int (iI a1)), some (.int (iI i))] [] h (zEx cX Q X) := by
  intro n
  induction n with
  | zero =>
    intro h i s e i0 i1 hQ
    rw [x_fiL] at hQ
    refine zx_iload_n (pc := 98) dX6_format_98 rfl rfl ?_
    refine zx_aload_n (pc := 99) dX6_format_99 rfl rfl ?_
    refine zg_X6_10 (pc := 100) dX6_format_100 ?_
    refine zg_X6_67 (pc := 103) dX6_format_103 ?_
    refine zx_icmp_ge (pc := 106) (tgt := 133) dX6_format_106 (by decide) (fun o => by first | exact o.1 _ (by decide) | exact o.2 _ _ | omega) (fun o => by first | exact o.1 _ (by decide) | exact o.2 _ _ | omega) (fun c106 => ?_) (fun c106 => absurd c106 (by omega))
    refine zx_aload_n (pc := 133) dX6_format_133 rfl rfl ?_
    refine zg_X6_10 (pc := 134) dX6_format_134 ?_
    refine zg_X6_67 (pc := 137) dX6_format_137 ?_
    refine zx_xiret (pc := 140) dX6_format_140 (fun o => by first | exact o.1 _ (by decide) | exact o.2 _ _ | omega) ?_
    rw [e]
    exact hQ
  | succ n ih =>
    intro h i s e i0 i1 hQ
    rw [x_fiL] at hQ
    refine zx_ok (fun ok => ?_)
    have xw := XK_wout h i (ga h 8 i)
    refine zx_iload_n (pc := 98) dX6_format_98 rfl rfl ?_
    refine zx_aload_n (pc := 99) dX6_format_99 rfl rfl ?_
    refine zg_X6_10 (pc := 100) dX6_format_100 ?_
    refine zg_X6_67 (pc := 103) dX6_format_103 ?_
    refine zx_icmp_ge (pc := 106) (tgt := 133) dX6_format_106 (by decide) (fun o => by first | exact o.1 _ (by decide) | exact o.2 _ _ | omega) (fun o => by first | exact o.1 _ (by decide) | exact o.2 _ _ | omega) (fun c106 => absurd c106 (by omega)) (fun c106 => ?_)
    refine zx_aload_n (pc := 109) dX6_format_109 rfl rfl ?_
    refine zg_X6_19 (pc := 110) dX6_format_110 ?_
    refine zx_iload_n (pc := 113) dX6_format_113 rfl rfl ?_
    refine zx_aload_n (pc := 114) dX6_format_114 rfl rfl ?_
    refine zg_X6_10 (pc := 115) dX6_format_115 ?_
    refine zg_X6_70 (pc := 118) dX6_format_118 ?_
    refine zx_iload_n (pc := 121) dX6_format_121 rfl rfl ?_
    refine zx_iaload (pc := 122) aX2_values dX6_format_122 (by omega) (by omega) (by omega) ?_
    refine zi_X6_74 (pc := 123) dX6_format_123 (C_X0_writeOutside s (by omega) (ok.2 8 i)) (by decide) (Nat.le_of_ble_eq_true rfl) (fun z123 h123 u123 v123 q123 => ?_)
    obtain ⟨rfl, e123⟩ := q123
    rw [e123]
    clear e123 h123
    refine zx_pop (pc := 126) dX6_format_126 rfl ?_
    refine zx_iinc (pc := 127) dX6_format_127 (by decide) rfl rfl ?_
    refine zx_goto (pc := 130) (tgt := 98) dX6_format_130 (by decide) ?_
    exact ih _ (i + 1) (XS_wout s _ _) ((xw.1 29 (by decide)).trans e) (by omega) (by omega) hQ
set_option maxRecDepth 100000 in
theorem T_format {h : zH} (b1 : 0 ≤ gs h 22) (b2 : gs h 22 ≤ 600) {a1 : Int} (r1 : -2147483648 ≤ a1 ∧ a1 < 2147483648) (hB : 0 ≤ a1 → a1 ≤ gs h 22 → gs (x_parse h a1) 23 = 0 → (4 ≤ gs (x_parse h a1) 25 ∧ gs (x_parse h a1) 25 ≤ 32) ∧ (2 ≤ gs (x_parse h a1) 26 ∧ gs (x_parse h a1) 26 ≤ 32) ∧ (1 ≤ gs (x_parse h a1) 27 ∧ gs (x_parse h a1) 27 ≤ 64) ∧ (1 ≤ gs (x_parse h a1) 28 ∧ gs (x_parse h a1) 28 ≤ 50) ∧ 0 ≤ gs (x_parse h a1) 29 ∧ gs (x_parse h a1) 29 ≤ 64) : kT_format a1 h (zQn (X_format h a1)) (zXn [nAE, nIE] (X_format h a1)) := by
  apply eT_format
  unfold X_format
  refine zx_iload_n (pc := 0) dX6_format_0 rfl rfl ?_
  refine zx_if_lt (pc := 1) (tgt := 15) dX6_format_1 (by decide) (fun o => by first | exact o.1 _ (by decide) | exact o.2 _ _ | omega) (fun c1 => ?_) (fun c1 => ?_)
  · skip
    rw [ifp_t (Or.inl c1)]
    refine zx_throw (k := 2) (ik := 38) (is := 40) (ic := 42) (pc := 15) zt_42 zt_x40 dX6_format_15 dX6_format_18 (Or.inl ⟨dX6_format_19, rfl⟩) dX6_format_21 dX6_format_24 ⟨by decide, by decide, rfl, rfl⟩ (by decide) ?_
    exact ⟨0, rfl, rfl, rfl⟩
  · skip
    refine zx_iload_n (pc := 4) dX6_format_4 rfl rfl ?_
    refine zx_aload_n (pc := 5) dX6_format_5 rfl rfl ?_
    refine zg_X6_10 (pc := 6) dX6_format_6 ?_
    refine zg_X6_23 (pc := 9) dX6_format_9 ?_
    refine zx_icmp_le (pc := 12) (tgt := 25) dX6_format_12 (by decide) (fun o => by first | exact o.1 _ (by decide) | exact o.2 _ _ | omega) (fun o => by first | exact o.1 _ (by decide) | exact o.2 _ _ | omega) (fun c12 => ?_) (fun c12 => ?_)
    · skip
      rw [ifp_f (by omega)]
      have hB1 := hB (by omega) (by omega)
      refine zx_aload_n (pc := 25) dX6_format_25 rfl rfl ?_
      refine zg_X6_10 (pc := 26) dX6_format_26 ?_
      refine zx_iload_n (pc := 29) dX6_format_29 rfl rfl ?_
      refine zx_invVsv (pc := 30) (as := [.int (iI a1)]) (n := 1) (st := []) hGt dX6_format_30 zl_X6_43 zc_X2_parse rfl ⟨_, rfl⟩ ⟨rfl, by decide +kernel⟩ ⟨rfl, rfl⟩ ⟨Nat.le_of_ble_eq_true rfl, Nat.le_of_ble_eq_true rfl⟩ (K_parse (by omega) (by omega)) rfl (by decide) (fun h30 q30 => ?_)
      rw [q30]
      clear q30 h30
      refine zx_aload_n (pc := 33) dX6_format_33 rfl rfl ?_
      refine zg_X6_10 (pc := 34) dX6_format_34 ?_
      refine zx_iconst (pc := 37) dX6_format_37 ?_
      refine zp_X6_23 (pc := 38) dX6_format_38 (fun o => by first | exact o.1 _ (by decide) | exact o.2 _ _ | omega) ?_
      refine zx_aload_n (pc := 41) dX6_format_41 rfl rfl ?_
      refine zg_X6_10 (pc := 42) dX6_format_42 ?_
      refine zg_X6_46 (pc := 45) dX6_format_45 ?_
      refine zx_if_eq (pc := 48) (tgt := 61) dX6_format_48 (by decide) (fun o => by first | exact o.1 _ (by decide) | exact o.2 _ _ | omega) (fun c48 => ?_) (fun c48 => ?_)
      · skip
        have c48a : gs (x_parse h a1) 23 = 0 := c48
        rw [ifp_f (fun z => z c48a)]
        have hB2 := hB1 c48a
        have e25 : gs (ps (x_parse h a1) 22 0) 25 = gs (x_parse h a1) 25 := rfl
        have e26 : gs (ps (x_parse h a1) 22 0) 26 = gs (x_parse h a1) 26 := rfl
        have e27 : gs (ps (x_parse h a1) 22 0) 27 = gs (x_parse h a1) 27 := rfl
        have e28 : gs (ps (x_parse h a1) 22 0) 28 = gs (x_parse h a1) 28 := rfl
        refine zx_aload_n (pc := 61) dX6_format_61 rfl rfl ?_
        refine zg_X6_19 (pc := 62) dX6_format_62 ?_
        refine zx_aload_n (pc := 65) dX6_format_65 rfl rfl ?_
        refine zg_X6_10 (pc := 66) dX6_format_66 ?_
        refine zg_X6_51 (pc := 69) dX6_format_69 ?_
        refine zx_aload_n (pc := 72) dX6_format_72 rfl rfl ?_
        refine zg_X6_10 (pc := 73) dX6_format_73 ?_
        refine zg_X6_54 (pc := 76) dX6_format_76 ?_
        refine zx_aload_n (pc := 79) dX6_format_79 rfl rfl ?_
        refine zg_X6_10 (pc := 80) dX6_format_80 ?_
        refine zg_X6_57 (pc := 83) dX6_format_83 ?_
        refine zx_aload_n (pc := 86) dX6_format_86 rfl rfl ?_
        refine zg_X6_10 (pc := 87) dX6_format_87 ?_
        refine zg_X6_60 (pc := 90) dX6_format_90 ?_
        refine zi_X6_63 (pc := 93) dX6_format_93 (C_X0_beginAnew (h := ps (x_parse h a1) 22 0) (by omega) (by omega) (by omega) (by omega)) (by decide) (Nat.le_of_ble_eq_true rfl) (fun h93 q93 => ?_)
        rw [q93]
        clear q93 h93
        refine zx_iconst (pc := 96) dX6_format_96 ?_
        refine zx_istore_n (pc := 97) dX6_format_97 rfl (by decide) rfl ?_
        exact L_X6_format hB2.2.2.2.2.2 _ _ (gs (x_parse h a1) 29).toNat _ 0 (XS_anewD _ _ (by omega) (by omega) (by omega)) rfl (Int.le_refl 0) (by omega) ⟨rfl, rfl, rfl⟩
      · skip
        have c48a : gs (x_parse h a1) 23 ≠ 0 := c48
        rw [ifp_t c48a]
        refine zx_throw (k := 2) (ik := 27) (is := 49) (ic := 31) (pc := 51) zt_31 zt_x49 dX6_format_51 dX6_format_54 (Or.inl ⟨dX6_format_55, rfl⟩) dX6_format_57 dX6_format_60 ⟨by decide, by decide, rfl, rfl⟩ (by decide) ?_
        exact ⟨1, rfl, rfl, rfl⟩
    · skip
      rw [ifp_t (Or.inr (by omega))]
      refine zx_throw (k := 2) (ik := 38) (is := 40) (ic := 42) (pc := 15) zt_42 zt_x40 dX6_format_15 dX6_format_18 (Or.inl ⟨dX6_format_19, rfl⟩) dX6_format_21 dX6_format_24 ⟨by decide, by decide, rfl, rfl⟩ (by decide) ?_
      exact ⟨0, rfl, rfl, rfl⟩

