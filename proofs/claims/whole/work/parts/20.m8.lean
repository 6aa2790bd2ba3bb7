/-! transactions of the reference: contracts -/
theorem Kp_map (h : zH) (a : Int) : Kp h (m_map h a).1 := by
  have q := Kp_page h 3 a (gs h 35)
  unfold m_map
  rcases Classical.em ((m_page h 3 a (gs h 35)).2 = -1) with c | c
  · rw [ifp_t c]
    exact q
  · rw [ifp_f c]
    refine q.tr ⟨fun k _ => rfl, fun c i hc => ?_⟩
    unfold kAr at hc
    show ga (cp8 _ _ _ _ _) c i = _
    rw [ga_cp8, if_neg (by omega)]
/-- the same, without what a checkpoint counts -/
def kS2 (k : Nat) : Prop := kSc k ∧ k ≠ 39
def Kq (h h2 : zH) : Prop := (∀ k, kS2 k → gs h2 k = gs h k) ∧ ∀ c i, kAr c → ga h2 c i = ga h c i
theorem Kq.tr {a b c : zH} (x : Kq a b) (y : Kq b c) : Kq a c := ⟨fun k hk => (y.1 k hk).trans (x.1 k hk), fun d i hd => (y.2 d i hd).trans (x.2 d i hd)⟩
theorem Kp.q {a b : zH} (x : Kp a b) : Kq a b := ⟨fun k hk => x.1 k hk.1, x.2⟩
theorem Kp_ckL : ∀ (n : Nat) (h : zH) (a : Int), Kp h (m_ckL n h a).1
  | 0, h, _ => Kp.rf h
  | n + 1, h, a => by
    rw [m_ckL]
    rcases Classical.em ((m_map h a).2 = 1) with c | c
    · rw [ifp_t c]
      exact (Kp_map h a).tr (Kp_ckL n _ _)
    · rw [ifp_f c]
      exact Kp_map h a
theorem Kq_ck (h : zH) : Kq h (m_ck h).1 := by
  have q0 : Kq h (m_ck0 h) := by
    refine ⟨fun k hk => ?_, fun _ _ _ => rfl⟩
    obtain ⟨hk, h9⟩ := hk
    unfold kSc at hk
    simp only [m_ck0, gs_ps]
    rw [if_neg (by omega), if_neg (by omega)]
  have q1 : Kq h (m_ck1 h).1 := q0.tr (Kp_ckL _ _ _).q
  unfold m_ck
  rcases Classical.em ((m_ck1 h).2 = 1) with c | c
  · rw [ifp_t c]
    have q2 := q1.tr (Kp_page (m_ck1 h).1 4 0 (gs (m_ck1 h).1 35)).q
    unfold m_ck2
    rcases Classical.em ((m_page (m_ck1 h).1 4 0 (gs (m_ck1 h).1 35)).2 = -1) with d | d
    · rw [ifp_t d]
      exact q2
    · rw [ifp_f d]
      refine q2.tr ⟨fun k hk => ?_, fun _ _ _ => rfl⟩
      obtain ⟨hk, h9⟩ := hk
      unfold kSc at hk
      show gs (m_ckEnd _ _) k = _
      simp only [m_ckEnd, gs_ps]
      rw [if_neg (by omega), if_neg (by omega), if_neg (by omega), if_neg (by omega)]
  · rw [ifp_f c]
    exact q1
theorem Kq_36 (h : zH) (v : Int) : Kq h (ps h 36 v) := ⟨fun k hk => by obtain ⟨hk, -⟩ := hk; unfold kSc at hk; rw [gs_ps, if_neg (by omega)], fun _ _ _ => rfl⟩
theorem Kq_cc (h : zH) : Kq h (m_cc h).1 := by
  unfold m_cc
  rcases Classical.em (wr (gs h 36 + 1) < gs h 4) with c | c
  · rw [ifp_t c]
    exact Kq_36 h _
  · rw [ifp_f c]
    exact (Kq_36 h _).tr (Kq_ck _)
set_option maxRecDepth 100000 in
theorem C_X7_programsData {h : zH} {u : Int → Int} (s : MS h u) (hp : 0 < gs h 2) {a1 a2 a3 : Int} (r1 : -2147483648 ≤ a1 ∧ a1 < 2147483648) (h1 : 0 ≤ a2) (h2 : a2 < gs h 3) (r3 : -2147483648 ≤ a3 ∧ a3 < 2147483648) : kX7_programsData a1 a2 a3 h (fun r h2 => r = (m_data h a1 a2 a3).2 ∧ h2 = (m_data h a1 a2 a3).1) := by
  have hL := s.1.2.2.2.2.2
  obtain ⟨u2, t1, t2⟩ := page_MS s hp (w := 1) (ix := a2) (g := a1) (by decide) (fun _ => ⟨h1, h2⟩) (fun z => absurd z (by decide))
  apply eX7_programsData
  unfold m_data
  refine zx_aload_n (pc := 0) dX7_programsData_0 rfl rfl ?_
  refine zx_iconst (pc := 1) dX7_programsData_1 ?_
  refine zx_iload_n (pc := 2) dX7_programsData_2 rfl rfl ?_
  refine zx_iload_n (pc := 3) dX7_programsData_3 rfl rfl ?_
  refine zi_X7_328 (pc := 4) dX7_programsData_4 (C_X7_programsPage s hp (by omega) (by omega) r1) (by decide) (Nat.le_of_ble_eq_true rfl) (fun z4 h4 u4 v4 q4 => ?_)
  obtain ⟨rfl, e4⟩ := q4
  rw [e4]
  clear e4 h4
  refine zx_istore (pc := 7) dX7_programsData_7 (by decide) rfl ?_
  refine zx_iload (pc := 9) dX7_programsData_9 rfl ?_
  refine zx_iconst (pc := 11) dX7_programsData_11 ?_
  refine zx_icmp_eq (pc := 12) (tgt := 23) dX7_programsData_12 (by decide) (fun o => by first | exact o.1 _ (by decide) | exact o.2 _ _ | omega) (fun o => by first | exact o.1 _ (by decide) | exact o.2 _ _ | omega) (fun c12 => ?_) (fun c12 => ?_)
  · skip
    refine zx_iload (pc := 23) dX7_programsData_23 rfl ?_
    refine zx_iret (pc := 25) dX7_programsData_25 (fun o => by first | exact o.1 _ (by decide) | exact o.2 _ _ | omega) ?_
    first | rw [ifp_t c12] | rw [ifp_f c12]
    exact ⟨rfl, rfl⟩
  · skip
    rcases t2 with t2 | ⟨t2, t3, t4, t5⟩
    · exact absurd t2 c12
    refine zx_aload_n (pc := 15) dX7_programsData_15 rfl rfl ?_
    refine zg_X7_28 (pc := 16) dX7_programsData_16 ?_
    refine zx_iload (pc := 19) dX7_programsData_19 rfl ?_
    refine zx_iload_n (pc := 21) dX7_programsData_21 rfl rfl ?_
    refine zx_iastore (pc := 22) aX7_value dX7_programsData_22 (by omega) (by omega) (by omega) (fun o => by first | exact o.1 _ (by decide) | exact o.2 _ _ | omega) ?_
    refine zx_iload (pc := 23) dX7_programsData_23 rfl ?_
    refine zx_iret (pc := 25) dX7_programsData_25 (fun o => by first | exact o.1 _ (by decide) | exact o.2 _ _ | omega) ?_
    first | rw [ifp_t c12] | rw [ifp_f c12]
    exact ⟨rfl, rfl⟩
theorem data_MS {h : zH} {u : Int → Int} (s : MS h u) (hp : 0 < gs h 2) {t p v : Int} (h1 : 0 ≤ p) (h2 : p < gs h 3) : (∃ u2, MS (m_data h t p v).1 u2) ∧ gs (m_data h t p v).1 2 = gs h 2 ∧ gs (m_data h t p v).1 3 = gs h 3 ∧ ((m_data h t p v).2 = -1 ∨ 0 ≤ (m_data h t p v).2 ∧ (m_data h t p v).2 < 1024) := by
  obtain ⟨u2, t1, t2⟩ := page_MS s hp (w := 1) (ix := p) (g := t) (by decide) (fun _ => ⟨h1, h2⟩) (fun z => absurd z (by decide))
  have kp := Kp_page h 1 p t
  have e2 := kp.1 2 (by unfold kSc; decide)
  have e3 := kp.1 3 (by unfold kSc; decide)
  unfold m_data
  refine ⟨?_, ?_, ?_, ?_⟩
  · rcases Classical.em ((m_page h 1 p t).2 = -1) with c | c
    · rw [ifp_t c]
      exact ⟨u2, t1⟩
    · rw [ifp_f c]
      exact ⟨u2, MS_c t1 rfl rfl rfl rfl rfl (fun i => by simp [ga_pa]) (fun i => by simp [ga_pa])⟩
  · show gs (ifp _ _ _) 2 = _
    rw [gs_if, gs_pa, ifp_same, e2]
  · show gs (ifp _ _ _) 3 = _
    rw [gs_if, gs_pa, ifp_same, e3]
  · show (m_page h 1 p t).2 = -1 ∨ _
    rcases t2 with t2 | t2
    · exact Or.inl t2
    · exact Or.inr ⟨t2.1, t2.2.2.1⟩
theorem MS_pa {h : zH} {u : Int → Int} (s : MS h u) {c : Nat} (hc : c ≠ 2 ∧ c ≠ 3) (i v : Int) : MS (pa h c i v) u := MS_c s rfl rfl rfl rfl rfl (fun j => by rw [ga_pa, if_neg (by omega)]) (fun j => by rw [ga_pa, if_neg (by omega)])
set_option maxRecDepth 100000 in
theorem C_X7_writesOutside {h : zH} {u : Int → Int} (s : MS h u) (hp : 0 < gs h 2) {a1 a2 : Int} (h1 : 0 ≤ a1) (h2 : a1 < gs h 3) (r2 : -2147483648 ≤ a2 ∧ a2 < 2147483648) : kX7_writesOutside a1 a2 h (fun r h2 => r = (m_wout h a1 a2).2 ∧ h2 = (m_wout h a1 a2).1) := by
  have hL := s.1.2.2.2.2.2
  have hb := s.1
  have hpf : 0 ≤ m_pfc h ∧ m_pfc h ≤ 1000 := by
    unfold m_pfc mParts
    have := hb.2.2.2.2.1
    rcases Classical.em (gs h 4 ≤ wr (gs h 36 + 1)) with c | c
    · rw [ifp_t c]; omega
    · rw [ifp_f c]; omega
  obtain ⟨⟨u2, t1⟩, t2, t3, t4⟩ := data_MS s hp (t := 0) (v := a2) h1 h2
  have w1 := MS_pa t1 (c := 10) (by decide) a1 (ga (m_data h 0 a1 a2).1 5 (m_data h 0 a1 a2).2)
  have hp2 : 0 < gs (pa (m_data h 0 a1 a2).1 10 a1 (ga (m_data h 0 a1 a2).1 5 (m_data h 0 a1 a2).2)) 2 := by rw [gs_pa, t2]; exact hp
  have q := (cc_MS w1 hp2).2.2.2
  apply eX7_writesOutside
  unfold m_wout
  refine zx_aload_n (pc := 0) dX7_writesOutside_0 rfl rfl ?_
  refine zx_aload_n (pc := 1) dX7_writesOutside_1 rfl rfl ?_
  refine zi_X7_347 (pc := 2) dX7_writesOutside_2 (C_X7_pagesForCommit hb) (by decide) (Nat.le_of_ble_eq_true rfl) (fun z2 h2 u2 v2 q2 => ?_)
  obtain ⟨rfl, e2⟩ := q2
  rw [e2]
  clear e2 h2
  refine zi_X7_341 (pc := 5) dX7_writesOutside_5 (C_X7_hasRoom hb s.2.1 hpf.1 hpf.2) (by decide) (Nat.le_of_ble_eq_true rfl) (fun z5 h5 u5 v5 q5 => ?_)
  obtain ⟨rfl, e5⟩ := q5
  rw [e5]
  clear e5 h5
  refine zx_if_ne (pc := 8) (tgt := 13) dX7_writesOutside_8 (by decide) (fun o => by first | exact o.1 _ (by decide) | exact o.2 _ _ | omega) (fun c8 => ?_) (fun c8 => ?_)
  · skip
    try replace c8 := b2i_n0.mp c8
    rw [ifp_t c8]
    unfold m_wo1
    refine zx_aload_n (pc := 13) dX7_writesOutside_13 rfl rfl ?_
    refine zx_iconst (pc := 14) dX7_writesOutside_14 ?_
    refine zx_iload_n (pc := 15) dX7_writesOutside_15 rfl rfl ?_
    refine zx_iload_n (pc := 16) dX7_writesOutside_16 rfl rfl ?_
    refine zi_X7_350 (pc := 17) dX7_writesOutside_17 (C_X7_programsData s hp (by omega) h1 h2 r2) (by decide) (Nat.le_of_ble_eq_true rfl) (fun z17 h17 u17 v17 q17 => ?_)
    obtain ⟨rfl, e17⟩ := q17
    rw [e17]
    clear e17 h17
    refine zx_istore_n (pc := 20) dX7_writesOutside_20 rfl (by decide) rfl ?_
    refine zx_iload_n (pc := 21) dX7_writesOutside_21 rfl rfl ?_
    refine zx_iconst (pc := 22) dX7_writesOutside_22 ?_
    refine zx_icmp_ne (pc := 23) (tgt := 28) dX7_writesOutside_23 (by decide) (fun o => by first | exact o.1 _ (by decide) | exact o.2 _ _ | omega) (fun o => by first | exact o.1 _ (by decide) | exact o.2 _ _ | omega) (fun c23 => ?_) (fun c23 => ?_)
    · skip
      rcases t4 with t4 | ⟨t4, t5⟩
      · exact absurd t4 c23
      rw [ifp_f c23]
      unfold m_wo2
      refine zx_ok (fun ok2 => ?_)
      refine zx_aload_n (pc := 28) dX7_writesOutside_28 rfl rfl ?_
      refine zg_X7_22 (pc := 29) dX7_writesOutside_29 ?_
      refine zx_iload_n (pc := 32) dX7_writesOutside_32 rfl rfl ?_
      refine zx_iaload (pc := 33) aX7_version dX7_writesOutside_33 (by omega) (by omega) (by omega) ?_
      refine zx_istore (pc := 34) dX7_writesOutside_34 (by decide) rfl ?_
      refine zx_aload_n (pc := 36) dX7_writesOutside_36 rfl rfl ?_
      refine zg_X7_37 (pc := 37) dX7_writesOutside_37 ?_
      refine zx_iload_n (pc := 40) dX7_writesOutside_40 rfl rfl ?_
      refine zx_iload (pc := 41) dX7_writesOutside_41 rfl ?_
      refine zx_iastore (pc := 43) aX7_committed dX7_writesOutside_43 (by omega) (by omega) (by omega) (fun o => by first | exact o.1 _ (by decide) | exact o.2 _ _ | omega) ?_
      refine zx_aload_n (pc := 44) dX7_writesOutside_44 rfl rfl ?_
      refine zi_X7_353 (pc := 45) dX7_writesOutside_45 (C_X7_countsCommit w1 hp2) (by decide) (Nat.le_of_ble_eq_true rfl) (fun z45 h45 u45 v45 q45 => ?_)
      obtain ⟨rfl, e45⟩ := q45
      rw [e45]
      clear e45 h45
      refine zx_if_ne (pc := 48) (tgt := 53) dX7_writesOutside_48 (by decide) (fun o => by first | exact o.1 _ (by decide) | exact o.2 _ _ | omega) (fun c48 => ?_) (fun c48 => ?_)
      · skip
        try replace c48 := b2i_n0.mp c48
        rw [ifp_t (by omega)]
        refine zx_aload_n (pc := 53) dX7_writesOutside_53 rfl rfl ?_
        refine zx_aload_n (pc := 54) dX7_writesOutside_54 rfl rfl ?_
        refine zg_X7_123 (pc := 55) dX7_writesOutside_55 ?_
        refine zx_iconst (pc := 58) dX7_writesOutside_58 ?_
        refine zx_iadd (pc := 59) dX7_writesOutside_59 ?_
        refine zx_wr ?_
        refine zp_X7_123 (pc := 60) dX7_writesOutside_60 (fun _ => wr_rng _) ?_
        refine zx_iload (pc := 63) dX7_writesOutside_63 rfl ?_
        refine zx_iret (pc := 65) dX7_writesOutside_65 (fun _ => ok2.2 5 _) ?_
        exact ⟨rfl, rfl⟩
      · skip
        try replace c48 := b2i_0.mp c48
        rw [ifp_f (by omega)]
        refine zx_iconst (pc := 51) dX7_writesOutside_51 ?_
        refine zx_iret (pc := 52) dX7_writesOutside_52 (fun o => by first | exact o.1 _ (by decide) | exact o.2 _ _ | omega) ?_
        exact ⟨rfl, rfl⟩
    · skip
      rw [ifp_t c23]
      refine zx_iconst (pc := 26) dX7_writesOutside_26 ?_
      refine zx_iret (pc := 27) dX7_writesOutside_27 (fun o => by first | exact o.1 _ (by decide) | exact o.2 _ _ | omega) ?_
      exact ⟨rfl, rfl⟩
  · skip
    try replace c8 := b2i_0.mp c8
    rw [ifp_f c8]
    refine zx_iconst (pc := 11) dX7_writesOutside_11 ?_
    refine zx_iret (pc := 12) dX7_writesOutside_12 (fun o => by first | exact o.1 _ (by decide) | exact o.2 _ _ | omega) ?_
    exact ⟨rfl, rfl⟩
set_option maxRecDepth 100000 in
theorem C_X7_writesIn {h : zH} {u : Int → Int} (s : MS h u) (hp : 0 < gs h 2) {a1 a2 a3 : Int} (r1 : -2147483648 ≤ a1 ∧ a1 < 2147483648) (h1 : 0 ≤ a2) (h2 : a2 < gs h 3) (r3 : -2147483648 ≤ a3 ∧ a3 < 2147483648) : kX7_writesIn a1 a2 a3 h (fun r h2 => r = (m_win h a1 a2 a3).2 ∧ h2 = (m_win h a1 a2 a3).1) := by
  have hL := s.1.2.2.2.2.2
  have hb := s.1
  obtain ⟨⟨u2, t1⟩, t2, t3, t4⟩ := data_MS s hp (t := a1) (v := a3) h1 h2
  apply eX7_writesIn
  unfold m_win
  refine zx_aload_n (pc := 0) dX7_writesIn_0 rfl rfl ?_
  refine zx_iconst (pc := 1) dX7_writesIn_1 ?_
  refine zi_X7_341 (pc := 2) dX7_writesIn_2 (C_X7_hasRoom hb s.2.1 (by omega) (by omega)) (by decide) (Nat.le_of_ble_eq_true rfl) (fun z2 h2 u2 v2 q2 => ?_)
  obtain ⟨rfl, e2⟩ := q2
  rw [e2]
  clear e2 h2
  refine zx_if_ne (pc := 5) (tgt := 10) dX7_writesIn_5 (by decide) (fun o => by first | exact o.1 _ (by decide) | exact o.2 _ _ | omega) (fun c5 => ?_) (fun c5 => ?_)
  · skip
    try replace c5 := b2i_n0.mp c5
    rw [ifp_t c5]
    unfold m_wi1
    refine zx_aload_n (pc := 10) dX7_writesIn_10 rfl rfl ?_
    refine zx_iload_n (pc := 11) dX7_writesIn_11 rfl rfl ?_
    refine zx_iload_n (pc := 12) dX7_writesIn_12 rfl rfl ?_
    refine zx_iload_n (pc := 13) dX7_writesIn_13 rfl rfl ?_
    refine zi_X7_350 (pc := 14) dX7_writesIn_14 (C_X7_programsData s hp r1 h1 h2 r3) (by decide) (Nat.le_of_ble_eq_true rfl) (fun z14 h14 u14 v14 q14 => ?_)
    obtain ⟨rfl, e14⟩ := q14
    rw [e14]
    clear e14 h14
    refine zx_istore (pc := 17) dX7_writesIn_17 (by decide) rfl ?_
    refine zx_iload (pc := 19) dX7_writesIn_19 rfl ?_
    refine zx_iconst (pc := 21) dX7_writesIn_21 ?_
    refine zx_icmp_ne (pc := 22) (tgt := 27) dX7_writesIn_22 (by decide) (fun o => by first | exact o.1 _ (by decide) | exact o.2 _ _ | omega) (fun o => by first | exact o.1 _ (by decide) | exact o.2 _ _ | omega) (fun c22 => ?_) (fun c22 => ?_)
    · skip
      rcases t4 with t4 | ⟨t4, t5⟩
      · exact absurd t4 c22
      rw [ifp_f c22]
      unfold m_wi2
      refine zx_aload_n (pc := 27) dX7_writesIn_27 rfl rfl ?_
      refine zg_X7_40 (pc := 28) dX7_writesIn_28 ?_
      refine zx_iload_n (pc := 31) dX7_writesIn_31 rfl rfl ?_
      refine zx_iload_n (pc := 32) dX7_writesIn_32 rfl rfl ?_
      refine zx_iastore (pc := 33) aX7_locker dX7_writesIn_33 (by omega) (by omega) (by omega) (fun _ => by omega) ?_
      refine zx_aload_n (pc := 34) dX7_writesIn_34 rfl rfl ?_
      refine zg_X7_43 (pc := 35) dX7_writesIn_35 ?_
      refine zx_iload_n (pc := 38) dX7_writesIn_38 rfl rfl ?_
      refine zx_aload_n (pc := 39) dX7_writesIn_39 rfl rfl ?_
      refine zg_X7_22 (pc := 40) dX7_writesIn_40 ?_
      refine zx_iload (pc := 43) dX7_writesIn_43 rfl ?_
      refine zx_iaload (pc := 45) aX7_version dX7_writesIn_45 (by omega) (by omega) (by omega) ?_
      refine zx_iastore (pc := 46) aX7_shadow dX7_writesIn_46 (by omega) (by omega) (by omega) (fun o => o.2 5 _) ?_
      refine zx_aload_n (pc := 47) dX7_writesIn_47 rfl rfl ?_
      refine zx_aload_n (pc := 48) dX7_writesIn_48 rfl rfl ?_
      refine zg_X7_123 (pc := 49) dX7_writesIn_49 ?_
      refine zx_iconst (pc := 52) dX7_writesIn_52 ?_
      refine zx_iadd (pc := 53) dX7_writesIn_53 ?_
      refine zx_wr ?_
      refine zp_X7_123 (pc := 54) dX7_writesIn_54 (fun _ => wr_rng _) ?_
      refine zx_aload_n (pc := 57) dX7_writesIn_57 rfl rfl ?_
      refine zg_X7_22 (pc := 58) dX7_writesIn_58 ?_
      refine zx_iload (pc := 61) dX7_writesIn_61 rfl ?_
      refine zx_iaload (pc := 63) aX7_version dX7_writesIn_63 (by omega) (by omega) (by omega) ?_
      refine zx_iret (pc := 64) dX7_writesIn_64 (fun o => by first | exact o.1 _ (by decide) | exact o.2 _ _ | omega) ?_
      exact ⟨rfl, rfl⟩
    · skip
      rw [ifp_t c22]
      refine zx_iconst (pc := 25) dX7_writesIn_25 ?_
      refine zx_iret (pc := 26) dX7_writesIn_26 (fun o => by first | exact o.1 _ (by decide) | exact o.2 _ _ | omega) ?_
      exact ⟨rfl, rfl⟩
  · skip
    try replace c5 := b2i_0.mp c5
    rw [ifp_f c5]
    refine zx_iconst (pc := 8) dX7_writesIn_8 ?_
    refine zx_iret (pc := 9) dX7_writesIn_9 (fun o => by first | exact o.1 _ (by decide) | exact o.2 _ _ | omega) ?_
    exact ⟨rfl, rfl⟩
set_option maxRecDepth 100000 in
theorem C_X7_canAct {h : zH} {a1 : Int} (h1 : 0 ≤ a1) (h2 : a1 ≤ 1000) : kX7_canAct a1 h (fun r h2 => r = b2i (mAct h a1) ∧ h2 = h) := by
  apply eX7_canAct
  refine zx_aload_n (pc := 0) dX7_canAct_0 rfl rfl ?_
  refine zg_X7_104 (pc := 1) dX7_canAct_1 ?_
  refine zx_if_eq (pc := 4) (tgt := 25) dX7_canAct_4 (by decide) (fun o => by first | exact o.1 _ (by decide) | exact o.2 _ _ | omega) (fun c4 => ?_) (fun c4 => ?_)
  · skip
    refine zx_iconst (pc := 25) dX7_canAct_25 ?_
    refine zx_zret (pc := 26) dX7_canAct_26 (by omega) ?_
    refine ⟨?_, rfl⟩
    first | exact (b2i_t (by unfold mAct; omega)).symm | exact (b2i_f (by unfold mAct; omega)).symm
  · skip
    refine zx_iload_n (pc := 7) dX7_canAct_7 rfl rfl ?_
    refine zx_if_eq (pc := 8) (tgt := 21) dX7_canAct_8 (by decide) (fun o => by first | exact o.1 _ (by decide) | exact o.2 _ _ | omega) (fun c8 => ?_) (fun c8 => ?_)
    · skip
      refine zx_iconst (pc := 21) dX7_canAct_21 ?_
      refine zx_goto (pc := 22) (tgt := 26) dX7_canAct_22 (by decide) ?_
      refine zx_zret (pc := 26) dX7_canAct_26 (by omega) ?_
      refine ⟨?_, rfl⟩
      first | exact (b2i_t (by unfold mAct; omega)).symm | exact (b2i_f (by unfold mAct; omega)).symm
    · skip
      refine zx_aload_n (pc := 11) dX7_canAct_11 rfl rfl ?_
      refine zg_X7_57 (pc := 12) dX7_canAct_12 ?_
      refine zx_iload_n (pc := 15) dX7_canAct_15 rfl rfl ?_
      refine zx_iaload (pc := 16) aX7_states dX7_canAct_16 (by omega) (by omega) (by omega) ?_
      refine zx_iconst (pc := 17) dX7_canAct_17 ?_
      refine zx_icmp_ne (pc := 18) (tgt := 25) dX7_canAct_18 (by decide) (fun o => by first | exact o.1 _ (by decide) | exact o.2 _ _ | omega) (fun o => by first | exact o.1 _ (by decide) | exact o.2 _ _ | omega) (fun c18 => ?_) (fun c18 => ?_)
      · skip
        refine zx_iconst (pc := 25) dX7_canAct_25 ?_
        refine zx_zret (pc := 26) dX7_canAct_26 (by omega) ?_
        refine ⟨?_, rfl⟩
        first | exact (b2i_t (by unfold mAct; omega)).symm | exact (b2i_f (by unfold mAct; omega)).symm
      · skip
        refine zx_iconst (pc := 21) dX7_canAct_21 ?_
        refine zx_goto (pc := 22) (tgt := 26) dX7_canAct_22 (by decide) ?_
        refine zx_zret (pc := 26) dX7_canAct_26 (by omega) ?_
        refine ⟨?_, rfl⟩
        first | exact (b2i_t (by unfold mAct; omega)).symm | exact (b2i_f (by unfold mAct; omega)).symm
set_option maxRecDepth 100000 in
theorem C_X7_isTransaction {h : zH} {a1 : Int} (r1 : -2147483648 ≤ a1 ∧ a1 < 2147483648) : kX7_isTransaction a1 h (fun r h2 => r = b2i (mTx h a1) ∧ h2 = h) := by
  apply eX7_isTransaction
  refine zx_ok (fun ok => ?_)
  refine zx_iload_n (pc := 0) dX7_isTransaction_0 rfl rfl ?_
  refine zx_iconst (pc := 1) dX7_isTransaction_1 ?_
  refine zx_aload_n (pc := 2) dX7_isTransaction_2 rfl rfl ?_
  refine zg_X7_129 (pc := 3) dX7_isTransaction_3 ?_
  refine zi_X7_85 (pc := 6) dX7_isTransaction_6 (C_X7_in r1 (by omega) (ok.1 38 (by decide))) (by decide) (Nat.le_of_ble_eq_true rfl) (fun z6 h6 u6 v6 q6 => ?_)
  obtain ⟨rfl, e6⟩ := q6
  rw [e6]
  clear e6 h6
  refine zx_zret (pc := 9) dX7_isTransaction_9 (b2i_01 _) ?_
  exact ⟨rfl, rfl⟩

