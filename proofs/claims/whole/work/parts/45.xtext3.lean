/-! the class: the whole text -/
noncomputable def xSg (h : zH) (p : Int) : Int := b2i (isL (ga h 7 p))
noncomputable def xZe (h : zH) (e p : Int) : Int := xRE (xLD (xSg h p)) h e 601 p
noncomputable def x_run (h : zH) (e p j : Int) : zH × Int := ifp (p = j) (h, 1) (x_trun h p (xZe h e p) (xSg h p))
/-- one sign, or one run of signs: what stands then, where reading goes on, where the last run ended -/
noncomputable def x_stp (h : zH) (e p j : Int) : zH × Int × Int :=
  ifp (isL (ga h 7 p) ∨ isD (ga h 7 p)) (x_serr (x_run h e p j).1 (x_run h e p j).2 p, xZe h e p, xZe h e p)
  (ifp (ga h 7 p = 59) (x_serr (x_semi h).1 (x_semi h).2 p, p + 1, j)
  (ifp (ga h 7 p = 32 ∨ ga h 7 p = 10) (h, p + 1, j) (x_serr h 1 p, p + 1, j)))
noncomputable def x_parL (e : Int) : Nat → zH → Int → Int → zH
  | 0, h, _, _ => h
  | n + 1, h, p, j => ifp (p < e ∧ gs h 23 = 0) (x_parL e n (x_stp h e p j).1 (x_stp h e p j).2.1 (x_stp h e p j).2.2) h
def x_par0 (h : zH) : zH := ps (ps (ps (ps h 23 0) 24 (-1)) 29 0) 30 0
noncomputable def x_par9 (h : zH) (e : Int) : zH := ifp (gs h 23 = 0 ∧ gs h 30 ≠ 9) (x_serr h 1 e) h
noncomputable def x_parse (h : zH) (e : Int) : zH := x_par9 (x_parL e 601 (x_par0 h) 0 (-1)) e
theorem xLD_sg {h : zH} {p : Int} (c : isL (ga h 7 p) ∨ isD (ga h 7 p)) : xLD (xSg h p) (ga h 7 p) := by
  unfold xLD xSg
  rcases Classical.em (isL (ga h 7 p)) with d | d
  · rw [b2i_t d]; exact Or.inl ⟨by decide, d⟩
  · rw [b2i_f d]
    rcases c with c | c
    · exact absurd c d
    · exact Or.inr ⟨rfl, c⟩
theorem xZe_r {h : zH} {e p : Int} (pe : p < e) (c : isL (ga h 7 p) ∨ isD (ga h 7 p)) : p + 1 ≤ xZe h e p ∧ xZe h e p ≤ e ∧ ∀ j, p ≤ j → j < xZe h e p → xLD (xSg h p) (ga h 7 j) := by
  have r := xRE_r (p := xLD (xSg h p)) h e 601 p (by omega)
  refine ⟨?_, r.2.1, r.2.2⟩
  have q := xRE_r (p := xLD (xSg h p)) h e 600 (p + 1) (by omega)
  show p + 1 ≤ xRE (xLD (xSg h p)) h e 601 p
  rw [xRE, ifp_t ⟨pe, xLD_sg c⟩]
  exact q.1
/-- the text's bytes stay -/
theorem ga_son (h : zH) (p : Int) (c : Nat) (i : Int) : ga (x_son h p).1 c i = ga h c i := by
  unfold x_son
  rcases Classical.em (p = 0) with d | d
  · rw [ifp_t d]
  · rw [ifp_f d]; rfl
theorem ga_serr (h : zH) (a b : Int) (c : Nat) (i : Int) : ga (x_serr h a b) c i = ga h c i := by
  unfold x_serr
  rw [ga_if]
  exact ifp_same
theorem ga_xsemi (h : zH) (c : Nat) (i : Int) : ga (x_semi h).1 c i = ga h c i := by
  unfold x_semi
  rcases Classical.em (gs h 30 = 8 ∨ gs h 30 = 11) with d | d
  · rw [ifp_t d]; rfl
  · rw [ifp_f d]
theorem ga_tval (h : zH) (v : Int) (c : Nat) (i : Int) (hc : c ≠ 8) : ga (x_tval h v).1 c i = ga h c i := by
  unfold x_tval
  rcases Classical.em (gs h 27 ≤ gs h 29 ∨ 64 ≤ gs h 29) with d | d
  · rw [ifp_t d]
  · rw [ifp_f d, ga_ps, ga_ps, ga_pa, if_neg (fun z => hc z.1)]
theorem ga_trun (h : zH) (s e b : Int) (c : Nat) (i : Int) (hc : c ≠ 8) : ga (x_trun h s e b).1 c i = ga h c i := by
  unfold x_trun
  rcases Classical.em (b = 0) with d | d
  · rw [ifp_t d]
    unfold x_tnum
    rcases Classical.em (6 < e - s) with d2 | d2
    · rw [ifp_t d2]
    · rw [ifp_f d2]
      generalize xNum h s (e - s).toNat = v
      by_cases c1 : gs h 30 = 1
      · rw [tn_1 v c1, ga_son]; rfl
      · by_cases c3 : gs h 30 = 3
        · rw [tn_3 v c3, ga_son]; rfl
        · by_cases c5 : gs h 30 = 5
          · rw [tn_5 v c5, ga_son]; rfl
          · by_cases c7 : gs h 30 = 7
            · rw [tn_7 v c7, ga_son]; rfl
            · by_cases c10 : gs h 30 = 10 ∨ gs h 30 = 11
              · rw [tn_10 v c10, ga_tval _ _ _ _ hc]
              · rw [tn_o v (by omega)]
  · rw [ifp_f d]
    unfold x_tword
    rcases Classical.em (xDue h s e) with d2 | d2
    · rw [ifp_t d2]; rfl
    · rw [ifp_f d2]
theorem trun_r (h : zH) (s e b : Int) : 0 ≤ (x_trun h s e b).2 ∧ (x_trun h s e b).2 ≤ 3 := by
  have son (g : zH) (p : Int) : 0 ≤ (x_son g p).2 ∧ (x_son g p).2 ≤ 3 := by
    unfold x_son
    rcases Classical.em (p = 0) with d | d
    · rw [ifp_t d]; exact ⟨by simp, by simp⟩
    · rw [ifp_f d]; exact ⟨by simp, by simp⟩
  unfold x_trun
  rcases Classical.em (b = 0) with d | d
  · rw [ifp_t d]
    unfold x_tnum
    rcases Classical.em (6 < e - s) with d2 | d2
    · rw [ifp_t d2]; exact ⟨by simp, by simp⟩
    · rw [ifp_f d2]
      generalize xNum h s (e - s).toNat = v
      by_cases c1 : gs h 30 = 1
      · rw [tn_1 v c1]; exact son _ _
      · by_cases c3 : gs h 30 = 3
        · rw [tn_3 v c3]; exact son _ _
        · by_cases c5 : gs h 30 = 5
          · rw [tn_5 v c5]; exact son _ _
          · by_cases c7 : gs h 30 = 7
            · rw [tn_7 v c7]; exact son _ _
            · by_cases c10 : gs h 30 = 10 ∨ gs h 30 = 11
              · rw [tn_10 v c10]
                unfold x_tval
                rcases Classical.em (gs h 27 ≤ gs h 29 ∨ 64 ≤ gs h 29) with d | d
                · rw [ifp_t d]; exact ⟨by simp, by simp⟩
                · rw [ifp_f d]; exact ⟨by simp, by simp⟩
              · rw [tn_o v (by omega)]; exact ⟨by simp, by simp⟩
  · rw [ifp_f d]
    unfold x_tword
    rcases Classical.em (xDue h s e) with d2 | d2
    · rw [ifp_t d2]; exact ⟨by simp, by simp⟩
    · rw [ifp_f d2]; exact ⟨by simp, by simp⟩
theorem XP_stp {h : zH} (xp : XP h) {e p : Int} (pe : p < e) (j : Int) : XP (x_stp h e p j).1 ∧ p + 1 ≤ (x_stp h e p j).2.1 ∧ (x_stp h e p j).2.1 ≤ e ∧ ∀ i, ga (x_stp h e p j).1 7 i = ga h 7 i := by
  unfold x_stp
  rcases Classical.em (isL (ga h 7 p) ∨ isD (ga h 7 p)) with c | c
  · rw [ifp_t c]
    have z := xZe_r pe c
    have xr : XP (x_run h e p j).1 ∧ ∀ i, ga (x_run h e p j).1 7 i = ga h 7 i := by
      unfold x_run
      rcases Classical.em (p = j) with d | d
      · rw [ifp_t d]; exact ⟨xp, fun _ => rfl⟩
      · rw [ifp_f d]; exact ⟨XP_trun xp (by omega) _, fun i => ga_trun _ _ _ _ _ _ (by decide)⟩
    exact ⟨XP_serr xr.1 _ _, z.1, z.2.1, fun i => by rw [ga_serr]; exact xr.2 i⟩
  · rw [ifp_f c]
    rcases Classical.em (ga h 7 p = 59) with d | d
    · rw [ifp_t d]
      exact ⟨XP_serr (XP_semi xp) _ _, Int.le_refl _, (show p + 1 ≤ e by omega), fun i => by rw [ga_serr, ga_xsemi]⟩
    · rw [ifp_f d]
      rcases Classical.em (ga h 7 p = 32 ∨ ga h 7 p = 10) with f | f
      · rw [ifp_t f]; exact ⟨xp, Int.le_refl _, (show p + 1 ≤ e by omega), fun _ => rfl⟩
      · rw [ifp_f f]; exact ⟨XP_serr xp _ _, Int.le_refl _, (show p + 1 ≤ e by omega), fun i => by rw [ga_serr]⟩
abbrev kS_parse (a1 : Int) (h : zH) (Q : zH → Prop) : Prop := zMsv cX yX2_parse cX2_parse 7 rX2_parse [.ref 1, .int (iI a1)] h Q
set_option maxRecDepth 100000 in
theorem L1_X2_parse {h : zH} (xp : XP h) {a1 p j s : Int} (h2 : a1 ≤ 600) (g1 : 0 ≤ p) (pe : p < a1) (rj : -1 ≤ j ∧ j ≤ 600) (c : isL (ga h 7 p) ∨ isD (ga h 7 p)) (es : s = ga h 7 p) (E : zF) (k : ∀ x, zX cX zGs RX2 cX2_parse 7 none rX2_parse 24 [some (.ref 1), some (.int (iI a1)), some (.int (iI (xZe h a1 p))), some (.int (iI (xZe h a1 p))), some (.int (iI p)), some (.int (iI s)), some (.int (iI x))] [] (x_serr (x_run h a1 p j).1 (x_run h a1 p j).2 p) E) : zX cX zGs RX2 cX2_parse 7 none rX2_parse 69 [some (.ref 1), some (.int (iI a1)), some (.int (iI (p + 1))), some (.int (iI j)), some (.int (iI p)), some (.int (iI s)), none] [] h E := by
  have zz := xZe_r pe c
  have sg := b2i_r (isL (ga h 7 p))
  have esg : b2i (isL (ga h 7 p)) = xSg h p := rfl
  have eze : xRE (xLD (xSg h p)) h a1 601 p = xZe h a1 p := rfl
  have tr := trun_r h p (xZe h a1 p) (xSg h p)
  have mx : (if p + 1 < xZe h a1 p then xZe h a1 p else p + 1) = xZe h a1 p := by split <;> omega
  subst es
  refine zx_ok (fun ok => ?_)
  refine zx_iload_n (pc := 69) dX2_parse_69 rfl rfl ?_
  refine zx_aload_n (pc := 70) dX2_parse_70 rfl rfl ?_
  refine zx_iload (pc := 71) dX2_parse_71 rfl ?_
  refine zx_iload_n (pc := 73) dX2_parse_73 rfl rfl ?_
  refine zx_iload (pc := 74) dX2_parse_74 rfl ?_
  refine zi_X2_34 (pc := 76) dX2_parse_76 (C_X2_isLetter (ok.2 7 p)) (by decide) (Nat.le_of_ble_eq_true rfl) (fun z76 h76 u76 v76 q76 => ?_)
  obtain ⟨rfl, eQ⟩ := q76
  rw [eQ]
  clear eQ h76
  refine zi_X2_41 (pc := 79) dX2_parse_79 (C_X2_endOfRun g1 (by omega) h2 (b2i_01 _)) (by decide) (Nat.le_of_ble_eq_true rfl) (fun z79 h79 u79 v79 q79 => ?_)
  obtain ⟨rfl, eQ⟩ := q79
  rw [eQ, esg, eze]
  clear eQ h79
  refine zx_mmax (pc := 82) dX2_parse_82 zl_X2_45 zj_smax zj_ini zj_cmax (by decide) (Nat.le_of_ble_eq_true rfl) (fun _ => by omega) (fun _ => by omega) ?_
  rw [mx]
  refine zx_istore_n (pc := 85) dX2_parse_85 rfl (by decide) rfl ?_
  refine zx_iload (pc := 86) dX2_parse_86 rfl ?_
  refine zx_iload_n (pc := 88) dX2_parse_88 rfl rfl ?_
  refine zx_icmp_ne (pc := 89) (tgt := 96) dX2_parse_89 (by decide) (fun _ => by omega) (fun _ => by omega) (fun c89 => ?_) (fun c89 => ?_)
  · skip
    have er : x_run h a1 p j = x_trun h p (xZe h a1 p) (xSg h p) := ifp_f c89
    refine zx_aload_n (pc := 96) dX2_parse_96 rfl rfl ?_
    refine zx_iload (pc := 97) dX2_parse_97 rfl ?_
    refine zx_iload_n (pc := 99) dX2_parse_99 rfl rfl ?_
    refine zx_iload (pc := 100) dX2_parse_100 rfl ?_
    refine zi_X2_34 (pc := 102) dX2_parse_102 (C_X2_isLetter (ok.2 7 p)) (by decide) (Nat.le_of_ble_eq_true rfl) (fun z102 h102 u102 v102 q102 => ?_)
    obtain ⟨rfl, eQ⟩ := q102
    rw [eQ]
    clear eQ h102
    refine zx_invVsi (pc := 105) (as := [.int (iI p), .int (iI (xZe h a1 p)), .int (iI (xSg h p))]) (n := 3) hGs dX2_parse_105 zl_X2_51 zc_X2_takeRun rfl ⟨_, rfl⟩ ⟨rfl, by decide +kernel⟩ ⟨rfl, rfl⟩ ⟨Nat.le_of_ble_eq_true rfl, Nat.le_of_ble_eq_true rfl⟩ (K_takeRun xp g1 (by omega) (by omega) (b2i_01 _) zz.2.2) rfl (Nat.le_of_ble_eq_true rfl) (fun z105 h105 u105 v105 q105 => ?_)
    obtain ⟨rfl, e105⟩ := q105
    rw [e105]
    clear e105 h105
    refine zx_istore (pc := 108) dX2_parse_108 (by decide) rfl ?_
    refine zx_aload_n (pc := 110) dX2_parse_110 rfl rfl ?_
    refine zx_iload (pc := 111) dX2_parse_111 rfl ?_
    refine zx_iload (pc := 113) dX2_parse_113 rfl ?_
    refine zi_X2_54 (pc := 115) dX2_parse_115 (C_X2_setError (by omega) (by omega)) (by decide) (Nat.le_of_ble_eq_true rfl) (fun h115 q115 => ?_)
    rw [q115]
    clear q115 h115
    refine zx_iload_n (pc := 118) dX2_parse_118 rfl rfl ?_
    refine zx_istore_n (pc := 119) dX2_parse_119 rfl (by decide) rfl ?_
    refine zx_goto (pc := 120) (tgt := 164) dX2_parse_120 (by decide) ?_
    refine zx_goto (pc := 164) (tgt := 24) dX2_parse_164 (by decide) ?_
    rw [er] at k
    exact k _
  · skip
    have er : x_run h a1 p j = (h, 1) := ifp_t c89
    refine zx_iconst (pc := 92) dX2_parse_92 ?_
    refine zx_goto (pc := 93) (tgt := 108) dX2_parse_93 (by decide) ?_
    refine zx_istore (pc := 108) dX2_parse_108 (by decide) rfl ?_
    refine zx_aload_n (pc := 110) dX2_parse_110 rfl rfl ?_
    refine zx_iload (pc := 111) dX2_parse_111 rfl ?_
    refine zx_iload (pc := 113) dX2_parse_113 rfl ?_
    refine zi_X2_54 (pc := 115) dX2_parse_115 (C_X2_setError (by omega) (by omega)) (by decide) (Nat.le_of_ble_eq_true rfl) (fun h115 q115 => ?_)
    rw [q115]
    clear q115 h115
    refine zx_iload_n (pc := 118) dX2_parse_118 rfl rfl ?_
    refine zx_istore_n (pc := 119) dX2_parse_119 rfl (by decide) rfl ?_
    refine zx_goto (pc := 120) (tgt := 164) dX2_parse_120 (by decide) ?_
    refine zx_goto (pc := 164) (tgt := 24) dX2_parse_164 (by decide) ?_
    rw [er] at k
    exact k _
set_option maxRecDepth 100000 in
theorem L2_X2_parse {a1 : Int} (h1 : 0 ≤ a1) (h2 : a1 ≤ 600) (Q : zH → Prop) : ∀ (n : Nat) (h : zH) (p j : Int), XP h → 0 ≤ p → p ≤ a1 → a1 - p < n → (-1 ≤ j ∧ j ≤ 600) → Q (x_par9 (x_parL a1 n h p j) a1) → zX cX zGs RX2 cX2_parse 7 none rX2_parse 24 [some (.ref 1), some (.int (iI a1)), some (.int (iI p)), some (.int (iI j)), none, none, none] [] h (zEv cX Q) := by
  intro n
  induction n with
  | zero => intro h p j xp g1 g2 g3; omega
  | succ n ih =>
    intro h p j xp g1 g2 g3 rj hQ
    rw [x_parL] at hQ
    refine zx_ok (fun ok => ?_)
    have fin (z : ¬ (p < a1 ∧ gs h 23 = 0)) : Q (x_par9 h a1) := by
      rw [ifp_f z] at hQ
      exact hQ
    have nx (z : p < a1 ∧ gs h 23 = 0) : zX cX zGs RX2 cX2_parse 7 none rX2_parse 24 [some (.ref 1), some (.int (iI a1)), some (.int (iI (x_stp h a1 p j).2.1)), some (.int (iI (x_stp h a1 p j).2.2)), none, none, none] [] (x_stp h a1 p j).1 (zEv cX Q) := by
      rw [ifp_t z] at hQ
      have r := XP_stp xp z.1 j
      refine ih _ _ _ r.1 (by omega) r.2.2.1 (by omega) ?_ hQ
      unfold x_stp
      rcases Classical.em (isL (ga h 7 p) ∨ isD (ga h 7 p)) with c | c
      · rw [ifp_t c]
        have zz := xZe_r z.1 c
        show -1 ≤ xZe h a1 p ∧ xZe h a1 p ≤ 600
        omega
      · rw [ifp_f c]
        rcases Classical.em (ga h 7 p = 59) with d | d
        · rw [ifp_t d]; exact rj
        · rw [ifp_f d]
          rcases Classical.em (ga h 7 p = 32 ∨ ga h 7 p = 10) with f | f
          · rw [ifp_t f]; exact rj
          · rw [ifp_f f]; exact rj
    have run (z : p < a1 ∧ gs h 23 = 0) (c : isL (ga h 7 p) ∨ isD (ga h 7 p)) : zX cX zGs RX2 cX2_parse 7 none rX2_parse 69 [some (.ref 1), some (.int (iI a1)), some (.int (iI (p + 1))), some (.int (iI j)), some (.int (iI p)), some (.int (iI (ga h 7 p))), none] [] h (zEv cX Q) := by
      refine L1_X2_parse xp h2 g1 z.1 rj c rfl (zEv cX Q) (fun x => ?_)
      have n2 := nx z
      have es : x_stp h a1 p j = (x_serr (x_run h a1 p j).1 (x_run h a1 p j).2 p, xZe h a1 p, xZe h a1 p) := ifp_t c
      rw [es] at n2
      refine zx_sub [true, true, true, true, false, false, false] ?_
      dsimp only [zMask, List.set]
      exact n2
    have semr : 0 ≤ (x_semi h).2 ∧ (x_semi h).2 ≤ 1 := by
      unfold x_semi
      rcases Classical.em (gs h 30 = 8 ∨ gs h 30 = 11) with d | d
      · rw [ifp_t d]; exact ⟨by simp, by simp⟩
      · rw [ifp_f d]; exact ⟨by simp, by simp⟩
    refine zx_iload_n (pc := 24) dX2_parse_24 rfl rfl ?_
    refine zx_iload_n (pc := 25) dX2_parse_25 rfl rfl ?_
    refine zx_icmp_ge (pc := 26) (tgt := 167) dX2_parse_26 (by decide) (fun o => by first | exact o.1 _ (by decide) | exact o.2 _ _ | omega) (fun o => by first | exact o.1 _ (by decide) | exact o.2 _ _ | omega) (fun c26 => ?_) (fun c26 => ?_)
    · skip
      refine zx_aload_n (pc := 167) dX2_parse_167 rfl rfl ?_
      refine zg_X2_25 (pc := 168) dX2_parse_168 ?_
      refine zx_if_ne (pc := 171) (tgt := 189) dX2_parse_171 (by decide) (fun o => by first | exact o.1 _ (by decide) | exact o.2 _ _ | omega) (fun c171 => ?_) (fun c171 => ?_)
      · skip
        refine zx_vret (pc := 189) dX2_parse_189 ?_
        have f := fin (by omega)
        unfold x_par9 at f
        first
        | (rw [ifp_t ⟨by omega, c180⟩] at f; exact f)
        | (rw [ifp_f (by omega)] at f; exact f)
      · skip
        refine zx_aload_n (pc := 174) dX2_parse_174 rfl rfl ?_
        refine zg_X2_31 (pc := 175) dX2_parse_175 ?_
        refine zx_bipush (pc := 178) dX2_parse_178 (by decide +kernel) ?_
        refine zx_icmp_eq (pc := 180) (tgt := 189) dX2_parse_180 (by decide) (fun o => by first | exact o.1 _ (by decide) | exact o.2 _ _ | omega) (fun o => by first | exact o.1 _ (by decide) | exact o.2 _ _ | omega) (fun c180 => ?_) (fun c180 => ?_)
        · skip
          refine zx_vret (pc := 189) dX2_parse_189 ?_
          have f := fin (by omega)
          unfold x_par9 at f
          first
          | (rw [ifp_t ⟨by omega, c180⟩] at f; exact f)
          | (rw [ifp_f (by omega)] at f; exact f)
        · skip
          refine zx_aload_n (pc := 183) dX2_parse_183 rfl rfl ?_
          refine zx_iconst (pc := 184) dX2_parse_184 ?_
          refine zx_iload_n (pc := 185) dX2_parse_185 rfl rfl ?_
          refine zi_X2_54 (pc := 186) dX2_parse_186 (C_X2_setError (by decide) (by omega)) (by decide) (Nat.le_of_ble_eq_true rfl) (fun h186 q186 => ?_)
          rw [q186]
          clear q186 h186
          refine zx_vret (pc := 189) dX2_parse_189 ?_
          have f := fin (by omega)
          unfold x_par9 at f
          first
          | (rw [ifp_t ⟨by omega, c180⟩] at f; exact f)
          | (rw [ifp_f (by omega)] at f; exact f)
    · skip
      refine zx_aload_n (pc := 29) dX2_parse_29 rfl rfl ?_
      refine zg_X2_25 (pc := 30) dX2_parse_30 ?_
      refine zx_if_ne (pc := 33) (tgt := 167) dX2_parse_33 (by decide) (fun o => by first | exact o.1 _ (by decide) | exact o.2 _ _ | omega) (fun c33 => ?_) (fun c33 => ?_)
      · skip
        refine zx_aload_n (pc := 167) dX2_parse_167 rfl rfl ?_
        refine zg_X2_25 (pc := 168) dX2_parse_168 ?_
        refine zx_if_ne (pc := 171) (tgt := 189) dX2_parse_171 (by decide) (fun o => by first | exact o.1 _ (by decide) | exact o.2 _ _ | omega) (fun c171 => ?_) (fun c171 => ?_)
        · skip
          refine zx_vret (pc := 189) dX2_parse_189 ?_
          have f := fin (by omega)
          unfold x_par9 at f
          first
          | (rw [ifp_t ⟨by omega, c180⟩] at f; exact f)
          | (rw [ifp_f (by omega)] at f; exact f)
        · skip
          refine zx_aload_n (pc := 174) dX2_parse_174 rfl rfl ?_
          refine zg_X2_31 (pc := 175) dX2_parse_175 ?_
          refine zx_bipush (pc := 178) dX2_parse_178 (by decide +kernel) ?_
          refine zx_icmp_eq (pc := 180) (tgt := 189) dX2_parse_180 (by decide) (fun o => by first | exact o.1 _ (by decide) | exact o.2 _ _ | omega) (fun o => by first | exact o.1 _ (by decide) | exact o.2 _ _ | omega) (fun c180 => ?_) (fun c180 => ?_)
          · skip
            refine zx_vret (pc := 189) dX2_parse_189 ?_
            have f := fin (by omega)
            unfold x_par9 at f
            first
            | (rw [ifp_t ⟨by omega, c180⟩] at f; exact f)
            | (rw [ifp_f (by omega)] at f; exact f)
          · skip
            refine zx_aload_n (pc := 183) dX2_parse_183 rfl rfl ?_
            refine zx_iconst (pc := 184) dX2_parse_184 ?_
            refine zx_iload_n (pc := 185) dX2_parse_185 rfl rfl ?_
            refine zi_X2_54 (pc := 186) dX2_parse_186 (C_X2_setError (by decide) (by omega)) (by decide) (Nat.le_of_ble_eq_true rfl) (fun h186 q186 => ?_)
            rw [q186]
            clear q186 h186
            refine zx_vret (pc := 189) dX2_parse_189 ?_
            have f := fin (by omega)
            unfold x_par9 at f
            first
            | (rw [ifp_t ⟨by omega, c180⟩] at f; exact f)
            | (rw [ifp_f (by omega)] at f; exact f)
      · skip
        refine zx_iload_n (pc := 36) dX2_parse_36 rfl rfl ?_
        refine zx_istore (pc := 37) dX2_parse_37 (by decide) rfl ?_
        refine zx_aload_n (pc := 39) dX2_parse_39 rfl rfl ?_
        refine zg_X2_9 (pc := 40) dX2_parse_40 ?_
        refine zx_iload (pc := 43) dX2_parse_43 rfl ?_
        refine zx_iaload (pc := 45) aX2_bytes dX2_parse_45 (by omega) (by omega) (by omega) ?_
        refine zx_istore (pc := 46) dX2_parse_46 (by decide) rfl ?_
        refine zx_iload (pc := 48) dX2_parse_48 rfl ?_
        refine zx_iconst (pc := 50) dX2_parse_50 ?_
        refine zx_iadd (pc := 51) dX2_parse_51 ?_
        refine zx_istore_n (pc := 52) dX2_parse_52 rfl (by decide) rfl ?_
        refine zx_iload (pc := 53) dX2_parse_53 rfl ?_
        refine zi_X2_34 (pc := 55) dX2_parse_55 (C_X2_isLetter (ok.2 7 p)) (by decide) (Nat.le_of_ble_eq_true rfl) (fun z55 h55 u55 v55 q55 => ?_)
        obtain ⟨rfl, e55⟩ := q55
        rw [e55]
        clear e55 h55
        refine zx_if_ne (pc := 58) (tgt := 69) dX2_parse_58 (by decide) (fun o => by first | exact o.1 _ (by decide) | exact o.2 _ _ | omega) (fun c58 => ?_) (fun c58 => ?_)
        · skip
          try replace c58 := b2i_n0.mp c58
          first
          | exact run ⟨by omega, by omega⟩ (Or.inl c58)
          | exact run ⟨by omega, by omega⟩ (Or.inr c66)
        · skip
          try replace c58 := b2i_0.mp c58
          refine zx_iload (pc := 61) dX2_parse_61 rfl ?_
          refine zi_X2_38 (pc := 63) dX2_parse_63 (C_X2_isDigit (ok.2 7 p)) (by decide) (Nat.le_of_ble_eq_true rfl) (fun z63 h63 u63 v63 q63 => ?_)
          obtain ⟨rfl, e63⟩ := q63
          rw [e63]
          clear e63 h63
          refine zx_if_eq (pc := 66) (tgt := 123) dX2_parse_66 (by decide) (fun o => by first | exact o.1 _ (by decide) | exact o.2 _ _ | omega) (fun c66 => ?_) (fun c66 => ?_)
          · skip
            try replace c66 := b2i_0.mp c66
            refine zx_iload (pc := 123) dX2_parse_123 rfl ?_
            refine zx_bipush (pc := 125) dX2_parse_125 (by decide +kernel) ?_
            refine zx_icmp_ne (pc := 127) (tgt := 143) dX2_parse_127 (by decide) (fun o => by first | exact o.1 _ (by decide) | exact o.2 _ _ | omega) (fun o => by first | exact o.1 _ (by decide) | exact o.2 _ _ | omega) (fun c127 => ?_) (fun c127 => ?_)
            · skip
              have nn : ¬ (isL (ga h 7 p) ∨ isD (ga h 7 p)) := fun z => by rcases z with z | z; exact c58 z; exact c66 z
              have es0 : x_stp h a1 p j = ifp (ga h 7 p = 32 ∨ ga h 7 p = 10) (h, p + 1, j) (x_serr h 1 p, p + 1, j) := by
                unfold x_stp
                rw [ifp_f nn, ifp_f c127]
              refine zx_iload (pc := 143) dX2_parse_143 rfl ?_
              refine zx_bipush (pc := 145) dX2_parse_145 (by decide +kernel) ?_
              refine zx_icmp_eq (pc := 147) (tgt := 164) dX2_parse_147 (by decide) (fun o => by first | exact o.1 _ (by decide) | exact o.2 _ _ | omega) (fun o => by first | exact o.1 _ (by decide) | exact o.2 _ _ | omega) (fun c147 => ?_) (fun c147 => ?_)
              · skip
                have es : x_stp h a1 p j = (h, p + 1, j) := by
                  rw [es0, ifp_t (Or.inl c147)]
                refine zx_goto (pc := 164) (tgt := 24) dX2_parse_164 (by decide) ?_
                have n2 := nx ⟨by omega, by omega⟩
                rw [es] at n2
                refine zx_sub [true, true, true, true, false, false, false] ?_
                dsimp only [zMask, List.set]
                exact n2
              · skip
                refine zx_iload (pc := 150) dX2_parse_150 rfl ?_
                refine zx_bipush (pc := 152) dX2_parse_152 (by decide +kernel) ?_
                refine zx_icmp_eq (pc := 154) (tgt := 164) dX2_parse_154 (by decide) (fun o => by first | exact o.1 _ (by decide) | exact o.2 _ _ | omega) (fun o => by first | exact o.1 _ (by decide) | exact o.2 _ _ | omega) (fun c154 => ?_) (fun c154 => ?_)
                · skip
                  have es : x_stp h a1 p j = (h, p + 1, j) := by
                    rw [es0, ifp_t (Or.inr c154)]
                  refine zx_goto (pc := 164) (tgt := 24) dX2_parse_164 (by decide) ?_
                  have n2 := nx ⟨by omega, by omega⟩
                  rw [es] at n2
                  refine zx_sub [true, true, true, true, false, false, false] ?_
                  dsimp only [zMask, List.set]
                  exact n2
                · skip
                  have es : x_stp h a1 p j = (x_serr h 1 p, p + 1, j) := by
                    rw [es0, ifp_f (by omega)]
                  refine zx_aload_n (pc := 157) dX2_parse_157 rfl rfl ?_
                  refine zx_iconst (pc := 158) dX2_parse_158 ?_
                  refine zx_iload (pc := 159) dX2_parse_159 rfl ?_
                  refine zi_X2_54 (pc := 161) dX2_parse_161 (C_X2_setError (by decide) (by omega)) (by decide) (Nat.le_of_ble_eq_true rfl) (fun h161 q161 => ?_)
                  rw [q161]
                  clear q161 h161
                  refine zx_goto (pc := 164) (tgt := 24) dX2_parse_164 (by decide) ?_
                  have n2 := nx ⟨by omega, by omega⟩
                  rw [es] at n2
                  refine zx_sub [true, true, true, true, false, false, false] ?_
                  dsimp only [zMask, List.set]
                  exact n2
            · skip
              have nn : ¬ (isL (ga h 7 p) ∨ isD (ga h 7 p)) := fun z => by rcases z with z | z; exact c58 z; exact c66 z
              have es : x_stp h a1 p j = (x_serr (x_semi h).1 (x_semi h).2 p, p + 1, j) := by
                unfold x_stp
                rw [ifp_f nn, ifp_t c127]
              refine zx_aload_n (pc := 130) dX2_parse_130 rfl rfl ?_
              refine zx_aload_n (pc := 131) dX2_parse_131 rfl rfl ?_
              refine zi_X2_58 (pc := 132) dX2_parse_132 (C_X2_takeSemicolon) (by decide) (Nat.le_of_ble_eq_true rfl) (fun z132 h132 u132 v132 q132 => ?_)
              obtain ⟨rfl, e132⟩ := q132
              rw [e132]
              clear e132 h132
              refine zx_iload (pc := 135) dX2_parse_135 rfl ?_
              refine zi_X2_54 (pc := 137) dX2_parse_137 (C_X2_setError (by omega) (by omega)) (by decide) (Nat.le_of_ble_eq_true rfl) (fun h137 q137 => ?_)
              rw [q137]
              clear q137 h137
              refine zx_goto (pc := 140) (tgt := 164) dX2_parse_140 (by decide) ?_
              refine zx_goto (pc := 164) (tgt := 24) dX2_parse_164 (by decide) ?_
              have n2 := nx ⟨by omega, by omega⟩
              rw [es] at n2
              refine zx_sub [true, true, true, true, false, false, false] ?_
              dsimp only [zMask, List.set]
              exact n2
          · skip
            try replace c66 := b2i_n0.mp c66
            first
            | exact run ⟨by omega, by omega⟩ (Or.inl c58)
            | exact run ⟨by omega, by omega⟩ (Or.inr c66)
set_option maxRecDepth 100000 in
theorem K_parse {h : zH} {a1 : Int} (h1 : 0 ≤ a1) (h2 : a1 ≤ 600) : kS_parse a1 h (fun h2 => h2 = x_parse h a1) := by
  refine zMsv_of [some (.ref 1), some (.int (iI a1)), none, none, none, none, none] zc_X2_parse.2.2.2.2.2 (fun _ => Nat.le_of_ble_eq_true rfl) (fun _ => rfl) ?_
  refine zx_aload_n (pc := 0) dX2_parse_0 rfl rfl ?_
  refine zx_iconst (pc := 1) dX2_parse_1 ?_
  refine zp_X2_25 (pc := 2) dX2_parse_2 (fun o => by first | exact o.1 _ (by decide) | exact o.2 _ _ | omega) ?_
  refine zx_aload_n (pc := 5) dX2_parse_5 rfl rfl ?_
  refine zx_iconst (pc := 6) dX2_parse_6 ?_
  refine zp_X2_18 (pc := 7) dX2_parse_7 (fun o => by first | exact o.1 _ (by decide) | exact o.2 _ _ | omega) ?_
  refine zx_aload_n (pc := 10) dX2_parse_10 rfl rfl ?_
  refine zx_iconst (pc := 11) dX2_parse_11 ?_
  refine zp_X2_28 (pc := 12) dX2_parse_12 (fun o => by first | exact o.1 _ (by decide) | exact o.2 _ _ | omega) ?_
  refine zx_aload_n (pc := 15) dX2_parse_15 rfl rfl ?_
  refine zx_iconst (pc := 16) dX2_parse_16 ?_
  refine zp_X2_31 (pc := 17) dX2_parse_17 (fun o => by first | exact o.1 _ (by decide) | exact o.2 _ _ | omega) ?_
  refine zx_iconst (pc := 20) dX2_parse_20 ?_
  refine zx_istore_n (pc := 21) dX2_parse_21 rfl (by decide) rfl ?_
  refine zx_iconst (pc := 22) dX2_parse_22 ?_
  refine zx_istore_n (pc := 23) dX2_parse_23 rfl (by decide) rfl ?_
  exact L2_X2_parse h1 h2 (fun h2 => h2 = x_parse h a1) 601 (x_par0 h) 0 (-1) ⟨⟨Int.le_refl _, by show (0 : Int) ≤ 11; decide⟩, ⟨Int.le_refl _, by show (0 : Int) ≤ 64; decide⟩, fun z => absurd (show (2 : Int) ≤ 0 from z) (by decide), fun z => absurd (show (4 : Int) ≤ 0 from z) (by decide)⟩ (Int.le_refl _) h1 (by omega) (by decide) rfl

