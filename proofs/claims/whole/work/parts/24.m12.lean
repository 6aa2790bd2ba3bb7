/-! recovery, continued: contracts -/
def Fs (h h2 : zH) : Prop := (∀ k, k ≠ 33 → k ≠ 34 → k ≠ 36 → gs h2 k = gs h k) ∧ ∀ c i, c ≠ 10 → c ≠ 17 → ga h2 c i = ga h c i
theorem Fs.rf (h : zH) : Fs h h := ⟨fun _ _ _ _ => rfl, fun _ _ _ _ => rfl⟩
theorem Fs.tr {a b c : zH} (x : Fs a b) (y : Fs b c) : Fs a c := ⟨fun k h1 h2 h3 => (y.1 k h1 h2 h3).trans (x.1 k h1 h2 h3), fun d i h1 h2 => (y.2 d i h1 h2).trans (x.2 d i h1 h2)⟩
theorem Fs.ms {h h2 : zH} (x : Fs h h2) {u : Int → Int} (s : MS h u) : MS h2 u := MS_c s (x.1 1 (by decide) (by decide) (by decide)) (x.1 2 (by decide) (by decide) (by decide)) (x.1 3 (by decide) (by decide) (by decide)) (x.1 25 (by decide) (by decide) (by decide)) (x.1 32 (by decide) (by decide) (by decide)) (fun i => x.2 2 i (by decide) (by decide)) (fun i => x.2 3 i (by decide) (by decide))
theorem Fs_pa (h : zH) {c : Nat} (hc : c = 10 ∨ c = 17) (i v : Int) : Fs h (pa h c i v) := ⟨fun _ _ _ _ => rfl, fun d j h1 h2 => by rw [ga_pa, if_neg (by omega)]⟩
theorem Fs_ps (h : zH) {k : Nat} (hk : k = 33 ∨ k = 34 ∨ k = 36) (v : Int) : Fs h (ps h k v) := ⟨fun j h1 h2 h3 => by rw [gs_ps, if_neg (by omega)], fun _ _ _ _ => rfl⟩
theorem Fs_cp8 (h : zH) (a b : Int) : Fs h (cp8 h 10 a b 8) := ⟨fun _ _ _ _ => rfl, fun d j h1 h2 => by rw [ga_cp8, if_neg (by omega)]⟩
theorem Fs_prr (h : zH) (a b v : Int) : Fs h (prr h 17 a b v) := ⟨fun _ _ _ _ => rfl, fun d j h1 h2 => by rw [ga_prr, if_neg (by omega)]⟩
theorem Fs_ac3 (h : zH) (n : Int) : Fs h (m_ac3 h n) := ⟨fun _ _ _ _ => rfl, fun d j h1 h2 => by rw [ga_ac3, if_neg (by omega)]⟩
theorem Fs_rckL : ∀ (n : Nat) (h : zH) (i : Int), Fs h (m_rckL n h i)
  | 0, h, _ => Fs.rf h
  | n + 1, h, i => by
    rw [m_rckL]
    rcases Classical.em (ga h 2 i = 3 ∧ ga h 4 i = gs h 33) with c | c
    · rw [ifp_t c]
      exact (Fs_cp8 h _ _).tr (Fs_rckL n _ _)
    · rw [ifp_f c]
      exact Fs_rckL n _ _
theorem Fs_rck (h : zH) : Fs h (m_rck h) := by
  unfold m_rck
  rcases Classical.em (mEnd h = -1) with c | c
  · rw [ifp_t c]
    exact Fs.rf h
  · rw [ifp_f c]
    exact ((Fs_ps h (Or.inl rfl) _).tr (Fs_ps _ (Or.inr (Or.inl rfl)) _)).tr (Fs_rckL _ _ _)
theorem Fs_acL : ∀ (n : Nat) (h : zH) (t i : Int), Fs h (m_acL n h t i)
  | 0, h, _, _ => Fs.rf h
  | n + 1, h, t, i => by
    rw [m_acL]
    rcases Classical.em (ga h 2 i = 1 ∧ ga h 4 i = t ∧ ga h 17 (ga h 3 i) < ga h 5 i) with c | c
    · rw [ifp_t c]
      exact (Fs_pa h (Or.inr rfl) _ _).tr (Fs_acL n _ _ _)
    · rw [ifp_f c]
      exact Fs_acL n _ _ _
theorem Fs_ac (h : zH) (t : Int) : Fs h (m_ac h t) := ((Fs_prr h _ _ _).tr (Fs_acL _ _ _ _)).tr (Fs_ac3 _ _)
theorem Fs_app0 (h : zH) (p : Int) : Fs h (m_app0 h p) := by
  unfold m_app0
  rcases Classical.em (ga h 2 p = 2) with c | c
  · rw [ifp_t c]
    exact Fs_ac h _
  · rw [ifp_f c]
    exact Fs_pa h (Or.inl rfl) _ _
theorem Fs_app1 (h : zH) (p : Int) : Fs h (m_app1 h p) := (Fs_app0 h p).tr (Fs_ps _ (Or.inr (Or.inr rfl)) _)
theorem Fs_aaL : ∀ (n : Nat) (h : zH) (p : Int), Fs h (m_aaL n h p)
  | 0, h, _ => Fs.rf h
  | n + 1, h, p => by
    rw [m_aaL]
    rcases Classical.em (p = -1) with c | c
    · rw [ifp_t c]
      exact Fs.rf h
    · rw [ifp_f c]
      exact (Fs_app1 h p).tr (Fs_aaL n _ _)
set_option maxRecDepth 100000 in
theorem L1_X7_appliesCommit {h0 : zH} (hb : MB h0) {a1 : Int} (Q : zH → Prop) (k : ∀ i, zX cM zNo RX7 cX7_appliesCommit 3 none rX7_appliesCommit 23 [some (.ref 0), some (.int (iI a1)), some (.int (iI i))] [] (prr h0 17 0 (gs h0 3) 0) (zEv cM Q)) : ∀ (n : Nat) (i : Int), 0 ≤ i → i ≤ gs h0 3 → gs h0 3 - i < n → zX cM zNo RX7 cX7_appliesCommit 3 none rX7_appliesCommit 2 [some (.ref 0), some (.int (iI a1)), some (.int (iI i))] [] (prr h0 17 0 i 0) (zEv cM Q) := by
  obtain ⟨m1, m2, m3, m4, m5, m6⟩ := hb
  intro n
  induction n with
  | zero => intro i g1 g2 g3; omega
  | succ n ih =>
    intro i g1 g2 g3
    have e := prr_next h0 17 0 g1
    have e3 : gs (prr h0 17 0 i 0) 3 = gs h0 3 := rfl
    refine zx_iload_n (pc := 2) dX7_appliesCommit_2 rfl rfl ?_
    refine zx_aload_n (pc := 3) dX7_appliesCommit_3 rfl rfl ?_
    refine zg_X7_72 (pc := 4) dX7_appliesCommit_4 ?_
    refine zx_icmp_ge (pc := 7) (tgt := 23) dX7_appliesCommit_7 (by decide) (fun o => by first | exact o.1 _ (by decide) | exact o.2 _ _ | omega) (fun o => by first | exact o.1 _ (by decide) | exact o.2 _ _ | omega) (fun c7 => ?_) (fun c7 => ?_)
    · skip
      rw [e3] at c7
      have e2 : i = gs h0 3 := by omega
      rw [e2]
      exact k _
    · skip
      rw [e3] at c7
      refine zx_aload_n (pc := 10) dX7_appliesCommit_10 rfl rfl ?_
      refine zg_X7_66 (pc := 11) dX7_appliesCommit_11 ?_
      refine zx_iload_n (pc := 14) dX7_appliesCommit_14 rfl rfl ?_
      refine zx_iconst (pc := 15) dX7_appliesCommit_15 ?_
      refine zx_iastore (pc := 16) aX7_greatest dX7_appliesCommit_16 (by omega) (by omega) (by omega) (fun o => by first | exact o.1 _ (by decide) | exact o.2 _ _ | omega) ?_
      refine zx_iinc (pc := 17) dX7_appliesCommit_17 (by decide) rfl rfl ?_
      refine zx_goto (pc := 20) (tgt := 2) dX7_appliesCommit_20 (by decide) ?_
      rw [e]
      exact ih (i + 1) (by omega) (by omega) (by omega)
set_option maxRecDepth 100000 in
theorem L2_X7_appliesCommit {a1 : Int} (r1 : -2147483648 ≤ a1 ∧ a1 < 2147483648) (Q : zH → Prop) : ∀ (n : Nat) (h : zH) (i : Int), MB h → MI h → 0 ≤ i → i + n = gs h 1 * gs h 2 → (∀ j, zX cM zNo RX7 cX7_appliesCommit 3 none rX7_appliesCommit 96 [some (.ref 0), some (.int (iI a1)), some (.int (iI j))] [] (m_acL n h a1 i) (zEv cM Q)) → zX cM zNo RX7 cX7_appliesCommit 3 none rX7_appliesCommit 25 [some (.ref 0), some (.int (iI a1)), some (.int (iI i))] [] h (zEv cM Q) := by
  intro n
  induction n with
  | zero =>
    intro h i hb hi g1 g2 k
    have m7 := mb_size hb.1 hb.2.1 hb.2.2.1 hb.2.2.2.1
    refine zx_iload_n (pc := 25) dX7_appliesCommit_25 rfl rfl ?_
    refine zx_aload_n (pc := 26) dX7_appliesCommit_26 rfl rfl ?_
    refine zi_X7_264 (pc := 27) dX7_appliesCommit_27 (C_X7_flashSize hb) (by decide) (Nat.le_of_ble_eq_true rfl) (fun z27 h27 u27 v27 q27 => ?_)
    obtain ⟨rfl, e27⟩ := q27
    rw [e27]
    clear e27 h27
    refine zx_icmp_ge (pc := 30) (tgt := 96) dX7_appliesCommit_30 (by decide) (fun o => by first | exact o.1 _ (by decide) | exact o.2 _ _ | omega) (fun o => by first | exact o.1 _ (by decide) | exact o.2 _ _ | omega) (fun c30 => ?_) (fun c30 => absurd c30 (by omega))
    exact k i
  | succ n ih =>
    intro h i hb hi g1 g2 k
    have m7 := mb_size hb.1 hb.2.1 hb.2.2.1 hb.2.2.2.1
    have q := (hi i g1 (by omega)).1
    have q6 := hb.2.2.2.2.2
    rw [m_acL] at k
    refine zx_iload_n (pc := 25) dX7_appliesCommit_25 rfl rfl ?_
    refine zx_aload_n (pc := 26) dX7_appliesCommit_26 rfl rfl ?_
    refine zi_X7_264 (pc := 27) dX7_appliesCommit_27 (C_X7_flashSize hb) (by decide) (Nat.le_of_ble_eq_true rfl) (fun z27 h27 u27 v27 q27 => ?_)
    obtain ⟨rfl, e27⟩ := q27
    rw [e27]
    clear e27 h27
    refine zx_icmp_ge (pc := 30) (tgt := 96) dX7_appliesCommit_30 (by decide) (fun o => by first | exact o.1 _ (by decide) | exact o.2 _ _ | omega) (fun o => by first | exact o.1 _ (by decide) | exact o.2 _ _ | omega) (fun c30 => absurd c30 (by omega)) (fun c30 => ?_)
    refine zx_aload_n (pc := 33) dX7_appliesCommit_33 rfl rfl ?_
    refine zg_X7_13 (pc := 34) dX7_appliesCommit_34 ?_
    refine zx_iload_n (pc := 37) dX7_appliesCommit_37 rfl rfl ?_
    refine zx_iaload (pc := 38) aX7_kind dX7_appliesCommit_38 (by omega) (by omega) (by omega) ?_
    refine zx_iconst (pc := 39) dX7_appliesCommit_39 ?_
    refine zx_icmp_ne (pc := 40) (tgt := 90) dX7_appliesCommit_40 (by decide) (fun o => by first | exact o.1 _ (by decide) | exact o.2 _ _ | omega) (fun o => by first | exact o.1 _ (by decide) | exact o.2 _ _ | omega) (fun c40 => ?_) (fun c40 => ?_)
    · skip
      rw [ifp_f (fun z => c40 z.1)] at k
      refine zx_iinc (pc := 90) dX7_appliesCommit_90 (by decide) rfl rfl ?_
      refine zx_goto (pc := 93) (tgt := 25) dX7_appliesCommit_93 (by decide) ?_
      first
      | exact ih _ (i + 1) hb hi (by omega) (by omega) k
      | exact ih _ (i + 1) (MB_c hb rfl rfl rfl) (MI_c hi rfl rfl rfl (fun j _ => ⟨by rw [ga_pa, if_neg (by omega)], by rw [ga_pa, if_neg (by omega)]⟩)) (by omega) (by rw [gs_pa, gs_pa]; omega) k
    · skip
      have q1 := q c40
      refine zx_aload_n (pc := 43) dX7_appliesCommit_43 rfl rfl ?_
      refine zg_X7_19 (pc := 44) dX7_appliesCommit_44 ?_
      refine zx_iload_n (pc := 47) dX7_appliesCommit_47 rfl rfl ?_
      refine zx_iaload (pc := 48) aX7_group dX7_appliesCommit_48 (by omega) (by omega) (by omega) ?_
      refine zx_iload_n (pc := 49) dX7_appliesCommit_49 rfl rfl ?_
      refine zx_icmp_ne (pc := 50) (tgt := 90) dX7_appliesCommit_50 (by decide) (fun o => by first | exact o.1 _ (by decide) | exact o.2 _ _ | omega) (fun o => by first | exact o.1 _ (by decide) | exact o.2 _ _ | omega) (fun c50 => ?_) (fun c50 => ?_)
      · skip
        rw [ifp_f (fun z => c50 z.2.1)] at k
        refine zx_iinc (pc := 90) dX7_appliesCommit_90 (by decide) rfl rfl ?_
        refine zx_goto (pc := 93) (tgt := 25) dX7_appliesCommit_93 (by decide) ?_
        first
        | exact ih _ (i + 1) hb hi (by omega) (by omega) k
        | exact ih _ (i + 1) (MB_c hb rfl rfl rfl) (MI_c hi rfl rfl rfl (fun j _ => ⟨by rw [ga_pa, if_neg (by omega)], by rw [ga_pa, if_neg (by omega)]⟩)) (by omega) (by rw [gs_pa, gs_pa]; omega) k
      · skip
        refine zx_aload_n (pc := 53) dX7_appliesCommit_53 rfl rfl ?_
        refine zg_X7_22 (pc := 54) dX7_appliesCommit_54 ?_
        refine zx_iload_n (pc := 57) dX7_appliesCommit_57 rfl rfl ?_
        refine zx_iaload (pc := 58) aX7_version dX7_appliesCommit_58 (by omega) (by omega) (by omega) ?_
        refine zx_aload_n (pc := 59) dX7_appliesCommit_59 rfl rfl ?_
        refine zg_X7_66 (pc := 60) dX7_appliesCommit_60 ?_
        refine zx_aload_n (pc := 63) dX7_appliesCommit_63 rfl rfl ?_
        refine zg_X7_16 (pc := 64) dX7_appliesCommit_64 ?_
        refine zx_iload_n (pc := 67) dX7_appliesCommit_67 rfl rfl ?_
        refine zx_iaload (pc := 68) aX7_index dX7_appliesCommit_68 (by omega) (by omega) (by omega) ?_
        refine zx_iaload (pc := 69) aX7_greatest dX7_appliesCommit_69 (by omega) (by omega) (by omega) ?_
        refine zx_icmp_le (pc := 70) (tgt := 90) dX7_appliesCommit_70 (by decide) (fun o => by first | exact o.1 _ (by decide) | exact o.2 _ _ | omega) (fun o => by first | exact o.1 _ (by decide) | exact o.2 _ _ | omega) (fun c70 => ?_) (fun c70 => ?_)
        · skip
          rw [ifp_f (fun z => by have := z.2.2; omega)] at k
          refine zx_iinc (pc := 90) dX7_appliesCommit_90 (by decide) rfl rfl ?_
          refine zx_goto (pc := 93) (tgt := 25) dX7_appliesCommit_93 (by decide) ?_
          first
          | exact ih _ (i + 1) hb hi (by omega) (by omega) k
          | exact ih _ (i + 1) (MB_c hb rfl rfl rfl) (MI_c hi rfl rfl rfl (fun j _ => ⟨by rw [ga_pa, if_neg (by omega)], by rw [ga_pa, if_neg (by omega)]⟩)) (by omega) (by rw [gs_pa, gs_pa]; omega) k
        · skip
          rw [ifp_t ⟨c40, c50, c70⟩] at k
          refine zx_aload_n (pc := 73) dX7_appliesCommit_73 rfl rfl ?_
          refine zg_X7_66 (pc := 74) dX7_appliesCommit_74 ?_
          refine zx_aload_n (pc := 77) dX7_appliesCommit_77 rfl rfl ?_
          refine zg_X7_16 (pc := 78) dX7_appliesCommit_78 ?_
          refine zx_iload_n (pc := 81) dX7_appliesCommit_81 rfl rfl ?_
          refine zx_iaload (pc := 82) aX7_index dX7_appliesCommit_82 (by omega) (by omega) (by omega) ?_
          refine zx_aload_n (pc := 83) dX7_appliesCommit_83 rfl rfl ?_
          refine zg_X7_22 (pc := 84) dX7_appliesCommit_84 ?_
          refine zx_iload_n (pc := 87) dX7_appliesCommit_87 rfl rfl ?_
          refine zx_iaload (pc := 88) aX7_version dX7_appliesCommit_88 (by omega) (by omega) (by omega) ?_
          refine zx_iastore (pc := 89) aX7_greatest dX7_appliesCommit_89 (by omega) (by omega) (by omega) (fun o => o.2 _ _) ?_
          refine zx_iinc (pc := 90) dX7_appliesCommit_90 (by decide) rfl rfl ?_
          refine zx_goto (pc := 93) (tgt := 25) dX7_appliesCommit_93 (by decide) ?_
          first
          | exact ih _ (i + 1) hb hi (by omega) (by omega) k
          | exact ih _ (i + 1) (MB_c hb rfl rfl rfl) (MI_c hi rfl rfl rfl (fun j _ => ⟨by rw [ga_pa, if_neg (by omega)], by rw [ga_pa, if_neg (by omega)]⟩)) (by omega) (by rw [gs_pa, gs_pa]; omega) k
theorem ac3_next (h : zH) {i : Int} (h0 : 0 ≤ i) : pa (m_ac3 h i) 10 i (ifp (0 < ga h 17 i) (ga h 17 i) (ga h 10 i)) = m_ac3 h (i + 1) := by
  apply zH_ext
  · intro k; rfl
  · intro c j
    simp only [ga_pa, ga_ac3]
    by_cases q : c = 10 ∧ j = i
    · obtain ⟨q1, q2⟩ := q
      subst q2
      rw [if_pos ⟨q1, rfl⟩]
      rcases Classical.em (0 < ga h 17 j) with d | d
      · rw [ifp_t d, if_pos (by omega)]
      · rw [ifp_f d, if_neg (by omega), q1]
    · rw [if_neg q]
      by_cases q2 : c = 10 ∧ 0 ≤ j ∧ j < i ∧ 0 < ga h 17 j
      · rw [if_pos q2, if_pos (by omega)]
      · rw [if_neg q2, if_neg (by omega)]
set_option maxRecDepth 100000 in
theorem L3_X7_appliesCommit {h0 : zH} (hb : MB h0) {a1 : Int} : ∀ (n : Nat) (i : Int), 0 ≤ i → i ≤ gs h0 3 → gs h0 3 - i < n → zX cM zNo RX7 cX7_appliesCommit 3 none rX7_appliesCommit 98 [some (.ref 0), some (.int (iI a1)), some (.int (iI i))] [] (m_ac3 h0 i) (zEv cM (fun h2 => h2 = m_ac3 h0 (gs h0 3))) := by
  obtain ⟨m1, m2, m3, m4, m5, m6⟩ := hb
  intro n
  induction n with
  | zero => intro i g1 g2 g3; omega
  | succ n ih =>
    intro i g1 g2 g3
    have e := ac3_next h0 g1
    have e3 : gs (m_ac3 h0 i) 3 = gs h0 3 := rfl
    have e17 : ga (m_ac3 h0 i) 17 i = ga h0 17 i := by rw [ga_ac3, if_neg (by omega)]
    have e10 : ga (m_ac3 h0 i) 10 i = ga h0 10 i := by rw [ga_ac3, if_neg (by omega)]
    refine zx_iload_n (pc := 98) dX7_appliesCommit_98 rfl rfl ?_
    refine zx_aload_n (pc := 99) dX7_appliesCommit_99 rfl rfl ?_
    refine zg_X7_72 (pc := 100) dX7_appliesCommit_100 ?_
    refine zx_icmp_ge (pc := 103) (tgt := 142) dX7_appliesCommit_103 (by decide) (fun o => by first | exact o.1 _ (by decide) | exact o.2 _ _ | omega) (fun o => by first | exact o.1 _ (by decide) | exact o.2 _ _ | omega) (fun c103 => ?_) (fun c103 => ?_)
    · skip
      rw [e3] at c103
      refine zx_vret (pc := 142) dX7_appliesCommit_142 ?_
      have e2 : i = gs h0 3 := by omega
      rw [e2]
    · skip
      rw [e3] at c103
      refine zx_aload_n (pc := 106) dX7_appliesCommit_106 rfl rfl ?_
      refine zg_X7_37 (pc := 107) dX7_appliesCommit_107 ?_
      refine zx_iload_n (pc := 110) dX7_appliesCommit_110 rfl rfl ?_
      refine zx_aload_n (pc := 111) dX7_appliesCommit_111 rfl rfl ?_
      refine zg_X7_66 (pc := 112) dX7_appliesCommit_112 ?_
      refine zx_iload_n (pc := 115) dX7_appliesCommit_115 rfl rfl ?_
      refine zx_iaload (pc := 116) aX7_greatest dX7_appliesCommit_116 (by omega) (by omega) (by omega) ?_
      refine zx_if_le (pc := 117) (tgt := 129) dX7_appliesCommit_117 (by decide) (fun o => by first | exact o.1 _ (by decide) | exact o.2 _ _ | omega) (fun c117 => ?_) (fun c117 => ?_)
      · skip
        rw [e17] at c117
        rw [ifp_f (by omega)] at e
        refine zx_aload_n (pc := 129) dX7_appliesCommit_129 rfl rfl ?_
        refine zg_X7_37 (pc := 130) dX7_appliesCommit_130 ?_
        refine zx_iload_n (pc := 133) dX7_appliesCommit_133 rfl rfl ?_
        refine zx_iaload (pc := 134) aX7_committed dX7_appliesCommit_134 (by omega) (by omega) (by omega) ?_
        refine zx_iastore (pc := 135) aX7_committed dX7_appliesCommit_135 (by omega) (by omega) (by omega) (fun o => o.2 _ _) ?_
        refine zx_iinc (pc := 136) dX7_appliesCommit_136 (by decide) rfl rfl ?_
        refine zx_goto (pc := 139) (tgt := 98) dX7_appliesCommit_139 (by decide) ?_
        first | rw [e17, e] | rw [e10, e]
        exact ih (i + 1) (by omega) (by omega) (by omega)
      · skip
        rw [e17] at c117
        rw [ifp_t c117] at e
        refine zx_aload_n (pc := 120) dX7_appliesCommit_120 rfl rfl ?_
        refine zg_X7_66 (pc := 121) dX7_appliesCommit_121 ?_
        refine zx_iload_n (pc := 124) dX7_appliesCommit_124 rfl rfl ?_
        refine zx_iaload (pc := 125) aX7_greatest dX7_appliesCommit_125 (by omega) (by omega) (by omega) ?_
        refine zx_goto (pc := 126) (tgt := 135) dX7_appliesCommit_126 (by decide) ?_
        refine zx_iastore (pc := 135) aX7_committed dX7_appliesCommit_135 (by omega) (by omega) (by omega) (fun o => o.2 _ _) ?_
        refine zx_iinc (pc := 136) dX7_appliesCommit_136 (by decide) rfl rfl ?_
        refine zx_goto (pc := 139) (tgt := 98) dX7_appliesCommit_139 (by decide) ?_
        first | rw [e17, e] | rw [e10, e]
        exact ih (i + 1) (by omega) (by omega) (by omega)
set_option maxRecDepth 100000 in
theorem C_X7_appliesCommit {h : zH} (hb : MB h) (hi : MI h) {a1 : Int} (r1 : -2147483648 ≤ a1 ∧ a1 < 2147483648) : kX7_appliesCommit a1 h (fun h2 => h2 = m_ac h a1) := by
  have m7 := mb_size hb.1 hb.2.1 hb.2.2.1 hb.2.2.2.1
  have hL := hb.2.2.2.2
  have f2 := Fs_acL (gs h 1 * gs h 2).toNat (prr h 17 0 (gs h 3) 0) a1 0
  have b2 : MB (m_acL (gs h 1 * gs h 2).toNat (prr h 17 0 (gs h 3) 0) a1 0) := MB_c hb (f2.1 1 (by decide) (by decide) (by decide)) (f2.1 2 (by decide) (by decide) (by decide)) (f2.1 3 (by decide) (by decide) (by decide))
  have e3 : gs (m_acL (gs h 1 * gs h 2).toNat (prr h 17 0 (gs h 3) 0) a1 0) 3 = gs h 3 := f2.1 3 (by decide) (by decide) (by decide)
  apply eX7_appliesCommit
  refine zx_iconst (pc := 0) dX7_appliesCommit_0 ?_
  refine zx_istore_n (pc := 1) dX7_appliesCommit_1 rfl (by decide) rfl ?_
  have r := L1_X7_appliesCommit (h0 := h) hb (a1 := a1) (fun h2 => h2 = m_ac h a1) (fun i => ?_) 65 0 (Int.le_refl _) hL.1 (by omega)
  · rw [prr_0] at r
    exact r
  refine zx_iconst (pc := 23) dX7_appliesCommit_23 ?_
  refine zx_istore_n (pc := 24) dX7_appliesCommit_24 rfl (by decide) rfl ?_
  refine L2_X7_appliesCommit r1 _ (gs h 1 * gs h 2).toNat (prr h 17 0 (gs h 3) 0) 0 hb (MI_c hi rfl rfl rfl (fun j _ => ⟨by rw [ga_prr, if_neg (by omega)], by rw [ga_prr, if_neg (by omega)]⟩)) (Int.le_refl _) (by show 0 + _ = gs h 1 * gs h 2; omega) (fun j => ?_)
  refine zx_iconst (pc := 96) dX7_appliesCommit_96 ?_
  refine zx_istore_n (pc := 97) dX7_appliesCommit_97 rfl (by decide) rfl ?_
  have r := L3_X7_appliesCommit b2 (a1 := a1) 65 0 (Int.le_refl _) (by omega) (by omega)
  rw [e3] at r
  rw [show m_ac3 (m_acL (gs h 1 * gs h 2).toNat (prr h 17 0 (gs h 3) 0) a1 0) 0 = m_acL (gs h 1 * gs h 2).toNat (prr h 17 0 (gs h 3) 0) a1 0 from zH_ext (fun _ => rfl) (fun c j => by rw [ga_ac3, if_neg (by omega)])] at r
  exact r
/-- how many records are still to come -/
noncomputable def mRem (h : zH) (v : Int) : Int := cnt (fun i => mApp h i ∧ v ≤ ga h 5 i) 0 (gs h 1 * gs h 2).toNat
theorem mRem_c {h h2 : zH} (f : Fs h h2) (v : Int) : mRem h2 v = mRem h v := by
  have e1 := f.1 1 (by decide) (by decide) (by decide)
  have e2 := f.1 2 (by decide) (by decide) (by decide)
  unfold mRem mApp
  rw [e1, e2]
  exact cnt_c (fun i _ _ => by rw [f.2 2 i (by decide) (by decide), f.2 4 i (by decide) (by decide), f.2 5 i (by decide) (by decide)])
theorem mNA_r {h : zH} (hb : MB h) (v : Int) : -1 ≤ mNA h v ∧ mNA h v < gs h 1 * gs h 2 ∧ (mNA h v ≠ -1 → mApp h (mNA h v) ∧ v < ga h 5 (mNA h v)) := by
  have m7 := mb_size hb.1 hb.2.1 hb.2.2.1 hb.2.2.2.1
  have q := mNAL_r h v (gs h 1 * gs h 2).toNat
  unfold mNA
  exact ⟨q.1, by omega, q.2.2⟩
set_option maxRecDepth 100000 in
theorem L_X7_appliesAll : ∀ (n : Nat) (h : zH) (p : Int), MB h → MI h → (p = -1 ∨ 0 ≤ p ∧ p < gs h 1 * gs h 2 ∧ mApp h p ∧ mRem h (ga h 5 p) ≤ n) → zX cM zNo RX7 cX7_appliesAll 2 none rX7_appliesAll 9 [some (.ref 0), some (.int (iI p))] [] h (zEv cM (fun h2 => h2 = m_aaL (n + 1) h p)) := by
  intro n
  induction n with
  | zero =>
    intro h p hb hi c
    have c2 : p = -1 := by
      rcases c with c | ⟨c1, c2, c3, c4⟩
      · exact c
      · exfalso
        have q := cnt_lt (p := fun _ => False) (q := fun i => mApp h i ∧ ga h 5 p ≤ ga h 5 i) (a := 0) (b := p) (n := (gs h 1 * gs h 2).toNat) (fun i _ _ z => z.elim) c1 (by omega) (fun z => z) ⟨c3, Int.le_refl _⟩
        have r := cnt_r (fun _ => False) 0 (gs h 1 * gs h 2).toNat
        have e : mRem h (ga h 5 p) = cnt (fun i => mApp h i ∧ ga h 5 p ≤ ga h 5 i) 0 (gs h 1 * gs h 2).toNat := rfl
        omega
    subst c2
    rw [m_aaL, ifp_t rfl]
    refine zx_iload_n (pc := 9) dX7_appliesAll_9 rfl rfl ?_
    refine zx_iconst (pc := 10) dX7_appliesAll_10 ?_
    refine zx_icmp_eq (pc := 11) (tgt := 78) dX7_appliesAll_11 (by decide) (fun o => by first | exact o.1 _ (by decide) | exact o.2 _ _ | omega) (fun o => by first | exact o.1 _ (by decide) | exact o.2 _ _ | omega) (fun c11 => ?_) (fun c11 => absurd rfl c11)
    refine zx_vret (pc := 78) dX7_appliesAll_78 ?_
    rfl
  | succ n ih =>
    intro h p hb hi c
    rw [m_aaL]
    refine zx_ok (fun ok => ?_)
    have m7 := mb_size hb.1 hb.2.1 hb.2.2.1 hb.2.2.2.1
    have fin : p ≠ -1 → (p = -1 ∨ 0 ≤ p ∧ p < gs h 1 * gs h 2 ∧ mApp h p ∧ mRem h (ga h 5 p) ≤ ((n + 1 : Nat) : Int)) → (mNA (m_app1 h p) (ga (m_app1 h p) 5 p) = -1 ∨ 0 ≤ mNA (m_app1 h p) (ga (m_app1 h p) 5 p) ∧ mNA (m_app1 h p) (ga (m_app1 h p) 5 p) < gs (m_app1 h p) 1 * gs (m_app1 h p) 2 ∧ mApp (m_app1 h p) (mNA (m_app1 h p) (ga (m_app1 h p) 5 p)) ∧ mRem (m_app1 h p) (ga (m_app1 h p) 5 (mNA (m_app1 h p) (ga (m_app1 h p) 5 p))) ≤ (n : Int)) := by
      intro hp c
      have f := Fs_app1 h p
      have b1 := MB_c hb (f.1 1 (by decide) (by decide) (by decide)) (f.1 2 (by decide) (by decide) (by decide)) (f.1 3 (by decide) (by decide) (by decide))
      have q := mNA_r b1 (ga (m_app1 h p) 5 p)
      rcases c with c | ⟨c1, c2, c3, c4⟩
      · exact absurd c hp
      by_cases d : mNA (m_app1 h p) (ga (m_app1 h p) 5 p) = -1
      · exact Or.inl d
      · obtain ⟨q1, q2, q3⟩ := q
        obtain ⟨q4, q5⟩ := q3 d
        refine Or.inr ⟨by omega, q2, q4, ?_⟩
        rw [mRem_c f]
        have e5 := f.2 5 p (by decide) (by decide)
        rw [e5] at q5 ⊢
        have w := cnt_lt (p := fun i => mApp h i ∧ ga (m_app1 h p) 5 (mNA (m_app1 h p) (ga h 5 p)) ≤ ga h 5 i) (q := fun i => mApp h i ∧ ga h 5 p ≤ ga h 5 i) (a := 0) (b := p) (n := (gs h 1 * gs h 2).toNat) (fun i _ _ z => ⟨z.1, by have := z.2; omega⟩) c1 (by omega) (fun z => by have := z.2; omega) ⟨c3, Int.le_refl _⟩
        have e : mRem h (ga h 5 p) = cnt (fun i => mApp h i ∧ ga h 5 p ≤ ga h 5 i) 0 (gs h 1 * gs h 2).toNat := rfl
        unfold mRem
        omega
    by_cases hp : p = -1
    · subst hp
      rw [ifp_t rfl]
      refine zx_iload_n (pc := 9) dX7_appliesAll_9 rfl rfl ?_
      refine zx_iconst (pc := 10) dX7_appliesAll_10 ?_
      refine zx_icmp_eq (pc := 11) (tgt := 78) dX7_appliesAll_11 (by decide) (fun o => by first | exact o.1 _ (by decide) | exact o.2 _ _ | omega) (fun o => by first | exact o.1 _ (by decide) | exact o.2 _ _ | omega) (fun c11 => ?_) (fun c11 => absurd rfl c11)
      refine zx_vret (pc := 78) dX7_appliesAll_78 ?_
      rfl
    · have cc := fin hp c
      rw [ifp_f hp]
      rcases c with c | ⟨c1, c2, c3, c4⟩
      · exact absurd c hp
      have q := (hi p c1 c2).1
      have q6 := hb.2.2.2.2.2
      have f0 := Fs_app0 h p
      have f := Fs_app1 h p
      have b1 := MB_c hb (f.1 1 (by decide) (by decide) (by decide)) (f.1 2 (by decide) (by decide) (by decide)) (f.1 3 (by decide) (by decide) (by decide))
      have rr : -2147483648 ≤ ga (m_app1 h p) 5 p ∧ ga (m_app1 h p) 5 p < 2147483648 := by
        rw [f.2 5 p (by decide) (by decide)]
        exact ok.2 5 p
      have i1 : MI (m_app1 h p) := MI_c hi (f.1 1 (by decide) (by decide) (by decide)) (f.1 2 (by decide) (by decide) (by decide)) (f.1 3 (by decide) (by decide) (by decide)) (fun j _ => ⟨f.2 2 j (by decide) (by decide), f.2 3 j (by decide) (by decide)⟩)
      refine zx_iload_n (pc := 9) dX7_appliesAll_9 rfl rfl ?_
      refine zx_iconst (pc := 10) dX7_appliesAll_10 ?_
      refine zx_icmp_eq (pc := 11) (tgt := 78) dX7_appliesAll_11 (by decide) (fun o => by first | exact o.1 _ (by decide) | exact o.2 _ _ | omega) (fun o => by first | exact o.1 _ (by decide) | exact o.2 _ _ | omega) (fun c11 => absurd c11 hp) (fun c11 => ?_)
      refine zx_aload_n (pc := 14) dX7_appliesAll_14 rfl rfl ?_
      refine zg_X7_13 (pc := 15) dX7_appliesAll_15 ?_
      refine zx_iload_n (pc := 18) dX7_appliesAll_18 rfl rfl ?_
      refine zx_iaload (pc := 19) aX7_kind dX7_appliesAll_19 (by omega) (by omega) (by omega) ?_
      refine zx_iconst (pc := 20) dX7_appliesAll_20 ?_
      refine zx_icmp_ne (pc := 21) (tgt := 37) dX7_appliesAll_21 (by decide) (fun o => by first | exact o.1 _ (by decide) | exact o.2 _ _ | omega) (fun o => by first | exact o.1 _ (by decide) | exact o.2 _ _ | omega) (fun c21 => ?_) (fun c21 => ?_)
      · skip
        have ea : m_app0 h p = pa h 10 (ga h 3 p) (ga h 5 p) := ifp_f c21
        have q1 := q (c3.elim (fun z => absurd z c21) (fun z => z.1))
        refine zx_aload_n (pc := 37) dX7_appliesAll_37 rfl rfl ?_
        refine zg_X7_37 (pc := 38) dX7_appliesAll_38 ?_
        refine zx_aload_n (pc := 41) dX7_appliesAll_41 rfl rfl ?_
        refine zg_X7_16 (pc := 42) dX7_appliesAll_42 ?_
        refine zx_iload_n (pc := 45) dX7_appliesAll_45 rfl rfl ?_
        refine zx_iaload (pc := 46) aX7_index dX7_appliesAll_46 (by omega) (by omega) (by omega) ?_
        refine zx_aload_n (pc := 47) dX7_appliesAll_47 rfl rfl ?_
        refine zg_X7_22 (pc := 48) dX7_appliesAll_48 ?_
        refine zx_iload_n (pc := 51) dX7_appliesAll_51 rfl rfl ?_
        refine zx_iaload (pc := 52) aX7_version dX7_appliesAll_52 (by omega) (by omega) (by omega) ?_
        refine zx_iastore (pc := 53) aX7_committed dX7_appliesAll_53 (by omega) (by omega) (by omega) (fun o => o.2 _ _) ?_
        rw [← ea]
        refine zx_aload_n (pc := 54) dX7_appliesAll_54 rfl rfl ?_
        refine zx_aload_n (pc := 55) dX7_appliesAll_55 rfl rfl ?_
        refine zg_X7_98 (pc := 56) dX7_appliesAll_56 ?_
        refine zx_iconst (pc := 59) dX7_appliesAll_59 ?_
        refine zx_iadd (pc := 60) dX7_appliesAll_60 ?_
        refine zx_wr ?_
        refine zp_X7_98 (pc := 61) dX7_appliesAll_61 (fun _ => wr_rng _) ?_
        refine zx_aload_n (pc := 64) dX7_appliesAll_64 rfl rfl ?_
        refine zx_aload_n (pc := 65) dX7_appliesAll_65 rfl rfl ?_
        refine zg_X7_22 (pc := 66) dX7_appliesAll_66 ?_
        refine zx_iload_n (pc := 69) dX7_appliesAll_69 rfl rfl ?_
        refine zx_iaload (pc := 70) aX7_version dX7_appliesAll_70 (by omega) (by omega) (by omega) ?_
        refine zi_X7_395 (pc := 71) dX7_appliesAll_71 (C_X7_nextApplied b1 rr) (by decide) (Nat.le_of_ble_eq_true rfl) (fun z71 h71 u71 v71 q71 => ?_)
        obtain ⟨rfl, e71⟩ := q71
        rw [e71]
        clear e71 h71
        refine zx_istore_n (pc := 74) dX7_appliesAll_74 rfl (by decide) rfl ?_
        refine zx_goto (pc := 75) (tgt := 9) dX7_appliesAll_75 (by decide) ?_
        exact ih (m_app1 h p) _ b1 i1 cc
      · skip
        have ea : m_app0 h p = m_ac h (ga h 4 p) := ifp_t c21
        refine zx_aload_n (pc := 24) dX7_appliesAll_24 rfl rfl ?_
        refine zx_aload_n (pc := 25) dX7_appliesAll_25 rfl rfl ?_
        refine zg_X7_19 (pc := 26) dX7_appliesAll_26 ?_
        refine zx_iload_n (pc := 29) dX7_appliesAll_29 rfl rfl ?_
        refine zx_iaload (pc := 30) aX7_group dX7_appliesAll_30 (by omega) (by omega) (by omega) ?_
        refine zi_X7_398 (pc := 31) dX7_appliesAll_31 (C_X7_appliesCommit hb hi (ok.2 4 p)) (by decide) (Nat.le_of_ble_eq_true rfl) (fun h31 q31 => ?_)
        rw [q31]
        clear q31 h31
        refine zx_goto (pc := 34) (tgt := 54) dX7_appliesAll_34 (by decide) ?_
        rw [← ea]
        refine zx_aload_n (pc := 54) dX7_appliesAll_54 rfl rfl ?_
        refine zx_aload_n (pc := 55) dX7_appliesAll_55 rfl rfl ?_
        refine zg_X7_98 (pc := 56) dX7_appliesAll_56 ?_
        refine zx_iconst (pc := 59) dX7_appliesAll_59 ?_
        refine zx_iadd (pc := 60) dX7_appliesAll_60 ?_
        refine zx_wr ?_
        refine zp_X7_98 (pc := 61) dX7_appliesAll_61 (fun _ => wr_rng _) ?_
        refine zx_aload_n (pc := 64) dX7_appliesAll_64 rfl rfl ?_
        refine zx_aload_n (pc := 65) dX7_appliesAll_65 rfl rfl ?_
        refine zg_X7_22 (pc := 66) dX7_appliesAll_66 ?_
        refine zx_iload_n (pc := 69) dX7_appliesAll_69 rfl rfl ?_
        refine zx_iaload (pc := 70) aX7_version dX7_appliesAll_70 (by omega) (by omega) (by omega) ?_
        refine zi_X7_395 (pc := 71) dX7_appliesAll_71 (C_X7_nextApplied b1 rr) (by decide) (Nat.le_of_ble_eq_true rfl) (fun z71 h71 u71 v71 q71 => ?_)
        obtain ⟨rfl, e71⟩ := q71
        rw [e71]
        clear e71 h71
        refine zx_istore_n (pc := 74) dX7_appliesAll_74 rfl (by decide) rfl ?_
        refine zx_goto (pc := 75) (tgt := 9) dX7_appliesAll_75 (by decide) ?_
        exact ih (m_app1 h p) _ b1 i1 cc
set_option maxRecDepth 100000 in
theorem C_X7_appliesAll {h : zH} (hb : MB h) (hi : MI h) : kX7_appliesAll h (fun h2 => h2 = m_aa h) := by
  have m7 := mb_size hb.1 hb.2.1 hb.2.2.1 hb.2.2.2.1
  have q := mNA_r hb (gs h 34)
  have r : mRem h (ga h 5 (mNA h (gs h 34))) ≤ 1024 := by
    have := cnt_r (fun i => mApp h i ∧ ga h 5 (mNA h (gs h 34)) ≤ ga h 5 i) 0 (gs h 1 * gs h 2).toNat
    unfold mRem
    omega
  apply eX7_appliesAll
  refine zx_ok (fun ok => ?_)
  refine zx_aload_n (pc := 0) dX7_appliesAll_0 rfl rfl ?_
  refine zx_aload_n (pc := 1) dX7_appliesAll_1 rfl rfl ?_
  refine zg_X7_92 (pc := 2) dX7_appliesAll_2 ?_
  refine zi_X7_395 (pc := 5) dX7_appliesAll_5 (C_X7_nextApplied hb (ok.1 34 (by decide))) (by decide) (Nat.le_of_ble_eq_true rfl) (fun z5 h5 u5 v5 q5 => ?_)
  obtain ⟨rfl, e5⟩ := q5
  rw [e5]
  clear e5 h5
  refine zx_istore_n (pc := 8) dX7_appliesAll_8 rfl (by decide) rfl ?_
  exact L_X7_appliesAll 1024 h (mNA h (gs h 34)) hb hi (by
    by_cases d : mNA h (gs h 34) = -1
    · exact Or.inl d
    · exact Or.inr ⟨by omega, q.2.1, (q.2.2 d).1, r⟩)

