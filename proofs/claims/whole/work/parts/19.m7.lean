/-! room, checkpoints, writing: contracts -/
theorem sz_le {h : zH} (hb : MB h) : -2048 ≤ (gs h 1 - 2) * gs h 2 ∧ (gs h 1 - 2) * gs h 2 ≤ 1024 := by
  obtain ⟨m1, m2, m3, m4, m5, m6⟩ := hb
  have m7 := mb_size m1 m2 m3 m4
  rw [Int.sub_mul]
  omega
set_option maxRecDepth 100000 in
theorem C_X7_hasRoom {h : zH} (hb : MB h) (hi : MI h) {a1 : Int} (h1 : 0 ≤ a1) (h2 : a1 ≤ 1000) : kX7_hasRoom a1 h (fun r h2 => r = b2i (mRoomFor h a1) ∧ h2 = h) := by
  have q := mValidAll_r hb (gs h 1).toNat (by have := hb.1; have := hb.2.1; omega)
  have q2 := sz_le hb
  have q3 : mValidAll h = zsum (mValidIn h) (gs h 1).toNat := rfl
  rw [← q3] at q
  apply eX7_hasRoom
  refine zx_aload_n (pc := 0) dX7_hasRoom_0 rfl rfl ?_
  refine zi_X7_325 (pc := 1) dX7_hasRoom_1 (C_X7_validAll hb hi) (by decide) (Nat.le_of_ble_eq_true rfl) (fun z1 h1 u1 v1 q1 => ?_)
  obtain ⟨rfl, e1⟩ := q1
  rw [e1]
  clear e1 h1
  refine zx_iload_n (pc := 4) dX7_hasRoom_4 rfl rfl ?_
  refine zx_iadd (pc := 5) dX7_hasRoom_5 ?_
  refine zx_aload_n (pc := 6) dX7_hasRoom_6 rfl rfl ?_
  refine zg_X7_79 (pc := 7) dX7_hasRoom_7 ?_
  refine zx_iconst (pc := 10) dX7_hasRoom_10 ?_
  refine zx_isub (pc := 11) dX7_hasRoom_11 ?_
  refine zx_aload_n (pc := 12) dX7_hasRoom_12 rfl rfl ?_
  refine zg_X7_82 (pc := 13) dX7_hasRoom_13 ?_
  refine zx_imul (pc := 16) dX7_hasRoom_16 ?_
  refine zx_icmp_gt (pc := 17) (tgt := 24) dX7_hasRoom_17 (by decide) (fun o => by first | exact o.1 _ (by decide) | exact o.2 _ _ | omega) (fun o => by first | exact o.1 _ (by decide) | exact o.2 _ _ | omega) (fun c17 => ?_) (fun c17 => ?_)
  · skip
    refine zx_iconst (pc := 24) dX7_hasRoom_24 ?_
    refine zx_zret (pc := 25) dX7_hasRoom_25 (by omega) ?_
    refine ⟨?_, rfl⟩
    first | exact (b2i_t (by unfold mRoomFor; omega)).symm | exact (b2i_f (by unfold mRoomFor; omega)).symm
  · skip
    refine zx_iconst (pc := 20) dX7_hasRoom_20 ?_
    refine zx_goto (pc := 21) (tgt := 25) dX7_hasRoom_21 (by decide) ?_
    refine zx_zret (pc := 25) dX7_hasRoom_25 (by omega) ?_
    refine ⟨?_, rfl⟩
    first | exact (b2i_t (by unfold mRoomFor; omega)).symm | exact (b2i_f (by unfold mRoomFor; omega)).symm
set_option maxRecDepth 100000 in
theorem L_X7_programsMap {h0 : zH} {a1 v : Int} (h1 : 0 ≤ a1) (h2 : a1 < 8) (h3 : 0 ≤ v) (h4 : v < 1024) (Q : Int → zH → Prop) (hQ : Q 1 (cp8 h0 8 v a1 10)) : ∀ (n : Nat) (i : Int), 0 ≤ i → i ≤ 8 → 8 - i < n → zX cM zNo RX7 cX7_programsMap 4 (some .boolean) rX7_programsMap 20 [some (.ref 0), some (.int (iI a1)), some (.int (iI v)), some (.int (iI i))] [] (cpk h0 8 v a1 10 i) (zEi cM Q) := by
  intro n
  induction n with
  | zero => intro i g1 g2 g3; omega
  | succ n ih =>
    intro i g1 g2 g3
    have e : pa (cpk h0 8 v a1 10 i) 8 (8 * v + i) (ga (cpk h0 8 v a1 10 i) 10 (8 * a1 + i)) = cpk h0 8 v a1 10 (i + 1) := by
      apply zH_ext
      · intro k; rfl
      · intro c j
        simp only [ga_pa, ga_cpk]
        by_cases e1 : c = 8
        · subst e1
          by_cases e2 : j = 8 * v + i
          · subst e2
            rw [if_pos ⟨rfl, rfl⟩, if_neg (by omega), if_pos (by omega)]
            congr 1
            omega
          · rw [if_neg (by omega)]
            by_cases e3 : 8 * v ≤ j ∧ j < 8 * v + i
            · rw [if_pos (by omega), if_pos (by omega)]
            · rw [if_neg (by omega), if_neg (by omega)]
        · rw [if_neg (fun z => e1 z.1), if_neg (fun z => e1 z.1), if_neg (fun z => e1 z.1)]
    refine zx_iload_n (pc := 20) dX7_programsMap_20 rfl rfl ?_
    refine zx_bipush (pc := 21) dX7_programsMap_21 (by decide +kernel) ?_
    refine zx_icmp_ge (pc := 23) (tgt := 54) dX7_programsMap_23 (by decide) (fun o => by first | exact o.1 _ (by decide) | exact o.2 _ _ | omega) (fun o => by first | exact o.1 _ (by decide) | exact o.2 _ _ | omega) (fun c23 => ?_) (fun c23 => ?_)
    · skip
      refine zx_iconst (pc := 54) dX7_programsMap_54 ?_
      refine zx_zret (pc := 55) dX7_programsMap_55 (by omega) ?_
      have e2 : i = 8 := by omega
      rw [e2]
      exact hQ
    · skip
      refine zx_aload_n (pc := 26) dX7_programsMap_26 rfl rfl ?_
      refine zg_X7_31 (pc := 27) dX7_programsMap_27 ?_
      refine zx_bipush (pc := 30) dX7_programsMap_30 (by decide +kernel) ?_
      refine zx_iload_n (pc := 32) dX7_programsMap_32 rfl rfl ?_
      refine zx_imul (pc := 33) dX7_programsMap_33 ?_
      refine zx_iload_n (pc := 34) dX7_programsMap_34 rfl rfl ?_
      refine zx_iadd (pc := 35) dX7_programsMap_35 ?_
      refine zx_aload_n (pc := 36) dX7_programsMap_36 rfl rfl ?_
      refine zg_X7_37 (pc := 37) dX7_programsMap_37 ?_
      refine zx_bipush (pc := 40) dX7_programsMap_40 (by decide +kernel) ?_
      refine zx_iload_n (pc := 42) dX7_programsMap_42 rfl rfl ?_
      refine zx_imul (pc := 43) dX7_programsMap_43 ?_
      refine zx_iload_n (pc := 44) dX7_programsMap_44 rfl rfl ?_
      refine zx_iadd (pc := 45) dX7_programsMap_45 ?_
      refine zx_iaload (pc := 46) aX7_committed dX7_programsMap_46 (by omega) (by omega) (by omega) ?_
      refine zx_iastore (pc := 47) aX7_mapped dX7_programsMap_47 (by omega) (by omega) (by omega) (fun o => by first | exact o.1 _ (by decide) | exact o.2 _ _ | omega) ?_
      refine zx_iinc (pc := 48) dX7_programsMap_48 (by decide) rfl rfl ?_
      refine zx_goto (pc := 51) (tgt := 20) dX7_programsMap_51 (by decide) ?_
      rw [e]
      exact ih (i + 1) (by omega) (by omega) (by omega)
set_option maxRecDepth 100000 in
theorem C_X7_programsMap {h : zH} {u : Int → Int} (s : MS h u) (hp : 0 < gs h 2) {a1 : Int} (h1 : 0 ≤ a1) (h2 : 8 * a1 < gs h 3) : kX7_programsMap a1 h (fun r h2 => r = (m_map h a1).2 ∧ h2 = (m_map h a1).1) := by
  have hL := s.1.2.2.2.2.2
  obtain ⟨u2, t1, t2⟩ := page_MS s hp (w := 3) (ix := a1) (g := gs h 35) (by decide) (fun z => absurd z (by decide)) (fun _ => ⟨h1, h2⟩)
  apply eX7_programsMap
  refine zx_ok (fun ok => ?_)
  unfold m_map
  refine zx_aload_n (pc := 0) dX7_programsMap_0 rfl rfl ?_
  refine zx_iconst (pc := 1) dX7_programsMap_1 ?_
  refine zx_iload_n (pc := 2) dX7_programsMap_2 rfl rfl ?_
  refine zx_aload_n (pc := 3) dX7_programsMap_3 rfl rfl ?_
  refine zg_X7_95 (pc := 4) dX7_programsMap_4 ?_
  refine zi_X7_328 (pc := 7) dX7_programsMap_7 (C_X7_programsPage s hp (by omega) (by omega) (ok.1 35 (by decide))) (by decide) (Nat.le_of_ble_eq_true rfl) (fun z7 h7 u7 v7 q7 => ?_)
  obtain ⟨rfl, e7⟩ := q7
  rw [e7]
  clear e7 h7
  refine zx_istore_n (pc := 10) dX7_programsMap_10 rfl (by decide) rfl ?_
  refine zx_iload_n (pc := 11) dX7_programsMap_11 rfl rfl ?_
  refine zx_iconst (pc := 12) dX7_programsMap_12 ?_
  refine zx_icmp_ne (pc := 13) (tgt := 18) dX7_programsMap_13 (by decide) (fun o => by first | exact o.1 _ (by decide) | exact o.2 _ _ | omega) (fun o => by first | exact o.1 _ (by decide) | exact o.2 _ _ | omega) (fun c13 => ?_) (fun c13 => ?_)
  · skip
    refine zx_iconst (pc := 18) dX7_programsMap_18 ?_
    refine zx_istore_n (pc := 19) dX7_programsMap_19 rfl (by decide) rfl ?_
    rcases t2 with t2 | ⟨t2, t3, t4, t5⟩
    · exact absurd t2 c13
    rw [ifp_f c13]
    have r := L_X7_programsMap (h0 := (m_page h 3 a1 (gs h 35)).1) h1 (by omega) t2 t4 (fun r h2 => r = 1 ∧ h2 = cp8 (m_page h 3 a1 (gs h 35)).1 8 (m_page h 3 a1 (gs h 35)).2 a1 10) ⟨rfl, rfl⟩ 9 0 (by omega) (by omega) (by omega)
    rw [show cpk (m_page h 3 a1 (gs h 35)).1 8 (m_page h 3 a1 (gs h 35)).2 a1 10 0 = (m_page h 3 a1 (gs h 35)).1 from cpk_0 _ _ _ _ _] at r
    exact r
  · skip
    refine zx_iconst (pc := 16) dX7_programsMap_16 ?_
    refine zx_zret (pc := 17) dX7_programsMap_17 (by omega) ?_
    rw [ifp_t c13]
    exact ⟨rfl, rfl⟩
theorem map_MS {h : zH} {u : Int → Int} (s : MS h u) (hp : 0 < gs h 2) {a1 : Int} (h1 : 0 ≤ a1) (h2 : 8 * a1 < gs h 3) : (∃ u2, MS (m_map h a1).1 u2) ∧ gs (m_map h a1).1 2 = gs h 2 ∧ gs (m_map h a1).1 3 = gs h 3 ∧ ((m_map h a1).2 = 0 ∨ (m_map h a1).2 = 1) := by
  obtain ⟨u2, t1, t2⟩ := page_MS s hp (w := 3) (ix := a1) (g := gs h 35) (by decide) (fun z => absurd z (by decide)) (fun _ => ⟨h1, h2⟩)
  have kp := Kp_page h 3 a1 (gs h 35)
  have e2 := kp.1 2 (by unfold kSc; decide)
  have e3 := kp.1 3 (by unfold kSc; decide)
  unfold m_map
  rcases Classical.em ((m_page h 3 a1 (gs h 35)).2 = -1) with c | c
  · rw [ifp_t c]
    exact ⟨⟨u2, t1⟩, e2, e3, Or.inl rfl⟩
  · rw [ifp_f c]
    refine ⟨⟨u2, MS_c t1 rfl rfl rfl rfl rfl (fun i => ?_) (fun i => ?_)⟩, e2, e3, Or.inr rfl⟩
    · rw [ga_cp8, if_neg (by omega)]
    · rw [ga_cp8, if_neg (by omega)]
theorem ckL_MS : ∀ (n : Nat) (h : zH) (u : Int → Int) (a : Int), MS h u → 0 < gs h 2 → 0 ≤ a → a + n ≤ mParts h → (∃ u2, MS (m_ckL n h a).1 u2) ∧ gs (m_ckL n h a).1 2 = gs h 2 ∧ gs (m_ckL n h a).1 3 = gs h 3 ∧ ((m_ckL n h a).2 = 0 ∨ (m_ckL n h a).2 = 1)
  | 0, h, u, a, s, _, _, _ => ⟨⟨u, s⟩, rfl, rfl, Or.inr rfl⟩
  | n + 1, h, u, a, s, hp, h1, h2 => by
    unfold mParts at h2
    obtain ⟨⟨u2, t1⟩, t2, t3, t4⟩ := map_MS s hp h1 (by omega)
    rw [m_ckL]
    rcases t4 with t4 | t4
    · rw [ifp_f (by omega)]
      exact ⟨⟨u2, t1⟩, t2, t3, Or.inl t4⟩
    · rw [ifp_t t4]
      have q := ckL_MS n _ u2 (a + 1) t1 (by rw [t2]; exact hp) (by omega) (by unfold mParts; rw [t3]; omega)
      rw [t2, t3] at q
      exact q
set_option maxRecDepth 100000 in
theorem L_X7_makesCheckpoint {L : Int} (Q : Int → zH → Prop) : ∀ (n : Nat) (h : zH) (u : Int → Int) (a : Int), MS h u → 0 < gs h 2 → gs h 3 = L → 0 ≤ a → a + n = mParts h → ((m_ckL n h a).2 = 0 → Q 0 (m_ckL n h a).1) → (∀ hN j, m_ckL n h a = (hN, 1) → zX cM zNo RX7 cX7_makesCheckpoint 2 (some .boolean) rX7_makesCheckpoint 44 [some (.ref 0), some (.int (iI j))] [] hN (zEi cM Q)) → zX cM zNo RX7 cX7_makesCheckpoint 2 (some .boolean) rX7_makesCheckpoint 20 [some (.ref 0), some (.int (iI a))] [] h (zEi cM Q) := by
  intro n
  induction n with
  | zero =>
    intro h u a s hp hL h1 h2 k0 k1
    have hb := s.1
    obtain ⟨m1, m2, m3, m4, m5, m6⟩ := s.1
    unfold mParts at h2
    refine zx_iload_n (pc := 20) dX7_makesCheckpoint_20 rfl rfl ?_
    refine zx_aload_n (pc := 21) dX7_makesCheckpoint_21 rfl rfl ?_
    refine zi_X7_332 (pc := 22) dX7_makesCheckpoint_22 (C_X7_parts hb) (by decide) (Nat.le_of_ble_eq_true rfl) (fun z22 h22 u22 v22 q22 => ?_)
    obtain ⟨rfl, e22⟩ := q22
    rw [e22]
    clear e22 h22
    refine zx_icmp_ge (pc := 25) (tgt := 44) dX7_makesCheckpoint_25 (by decide) (fun o => by first | exact o.1 _ (by decide) | exact o.2 _ _ | omega) (fun o => by first | exact o.1 _ (by decide) | exact o.2 _ _ | omega) (fun c25 => ?_) (fun c25 => absurd c25 (by omega))
    exact k1 h a rfl
  | succ n ih =>
    intro h u a s hp hL h1 h2 k0 k1
    have hb := s.1
    obtain ⟨m1, m2, m3, m4, m5, m6⟩ := s.1
    unfold mParts at h2
    rw [m_ckL] at k0 k1
    obtain ⟨⟨u2, t1⟩, t2, t3, t4⟩ := map_MS s hp h1 (by omega)
    refine zx_iload_n (pc := 20) dX7_makesCheckpoint_20 rfl rfl ?_
    refine zx_aload_n (pc := 21) dX7_makesCheckpoint_21 rfl rfl ?_
    refine zi_X7_332 (pc := 22) dX7_makesCheckpoint_22 (C_X7_parts hb) (by decide) (Nat.le_of_ble_eq_true rfl) (fun z22 h22 u22 v22 q22 => ?_)
    obtain ⟨rfl, e22⟩ := q22
    rw [e22]
    clear e22 h22
    refine zx_icmp_ge (pc := 25) (tgt := 44) dX7_makesCheckpoint_25 (by decide) (fun o => by first | exact o.1 _ (by decide) | exact o.2 _ _ | omega) (fun o => by first | exact o.1 _ (by decide) | exact o.2 _ _ | omega) (fun c25 => absurd c25 (by omega)) (fun c25 => ?_)
    refine zx_aload_n (pc := 28) dX7_makesCheckpoint_28 rfl rfl ?_
    refine zx_iload_n (pc := 29) dX7_makesCheckpoint_29 rfl rfl ?_
    refine zi_X7_335 (pc := 30) dX7_makesCheckpoint_30 (C_X7_programsMap s hp h1 (by omega)) (by decide) (Nat.le_of_ble_eq_true rfl) (fun z30 h30 u30 v30 q30 => ?_)
    obtain ⟨rfl, e30⟩ := q30
    rw [e30]
    clear e30 h30
    refine zx_if_ne (pc := 33) (tgt := 38) dX7_makesCheckpoint_33 (by decide) (fun o => by first | exact o.1 _ (by decide) | exact o.2 _ _ | omega) (fun c33 => ?_) (fun c33 => ?_)
    · skip
      try replace c33 := b2i_n0.mp c33
      refine zx_iinc (pc := 38) dX7_makesCheckpoint_38 (by decide) rfl rfl ?_
      refine zx_goto (pc := 41) (tgt := 20) dX7_makesCheckpoint_41 (by decide) ?_
      have t5 : (m_map h a).2 = 1 := by omega
      rw [ifp_t t5] at k0 k1
      exact ih _ u2 (a + 1) t1 (by rw [t2]; exact hp) (by rw [t3]; exact hL) (by omega) (by unfold mParts; rw [t3]; omega) k0 k1
    · skip
      try replace c33 := b2i_0.mp c33
      refine zx_iconst (pc := 36) dX7_makesCheckpoint_36 ?_
      refine zx_zret (pc := 37) dX7_makesCheckpoint_37 (by omega) ?_
      rw [ifp_f (by omega)] at k0
      exact k0 c33
set_option maxRecDepth 100000 in
theorem C_X7_makesCheckpoint {h : zH} {u : Int → Int} (s : MS h u) (hp : 0 < gs h 2) : kX7_makesCheckpoint h (fun r h2 => r = (m_ck h).2 ∧ h2 = (m_ck h).1) := by
  have s0 : MS (m_ck0 h) u := MS_c s rfl rfl rfl rfl rfl (fun _ => rfl) (fun _ => rfl)
  have q5 := s.1.2.2.2.2.1
  have hpart : 0 ≤ mParts h := by unfold mParts; omega
  obtain ⟨⟨u2, t1⟩, t2, t3, t4⟩ := ckL_MS (mParts h).toNat (m_ck0 h) u 0 s0 hp (Int.le_refl _) (by show 0 + _ ≤ mParts h; omega)
  apply eX7_makesCheckpoint
  refine zx_aload_n (pc := 0) dX7_makesCheckpoint_0 rfl rfl ?_
  refine zx_aload_n (pc := 1) dX7_makesCheckpoint_1 rfl rfl ?_
  refine zg_X7_132 (pc := 2) dX7_makesCheckpoint_2 ?_
  refine zx_iconst (pc := 5) dX7_makesCheckpoint_5 ?_
  refine zx_iadd (pc := 6) dX7_makesCheckpoint_6 ?_
  refine zx_wr ?_
  refine zp_X7_132 (pc := 7) dX7_makesCheckpoint_7 (fun _ => wr_rng _) ?_
  refine zx_aload_n (pc := 10) dX7_makesCheckpoint_10 rfl rfl ?_
  refine zx_aload_n (pc := 11) dX7_makesCheckpoint_11 rfl rfl ?_
  refine zg_X7_132 (pc := 12) dX7_makesCheckpoint_12 ?_
  refine zp_X7_95 (pc := 15) dX7_makesCheckpoint_15 (fun _ => wr_rng _) ?_
  refine zx_iconst (pc := 18) dX7_makesCheckpoint_18 ?_
  refine zx_istore_n (pc := 19) dX7_makesCheckpoint_19 rfl (by decide) rfl ?_
  refine L_X7_makesCheckpoint (L := gs h 3) _ (mParts h).toNat (m_ck0 h) u 0 s0 hp rfl (Int.le_refl _) (by show 0 + _ = mParts h; omega) (fun z => ?_) (fun hN j e => ?_)
  · unfold m_ck m_ck1
    rw [ifp_f (by omega)]
    exact ⟨z.symm, rfl⟩
  rw [e] at t1 t2
  have e0 : m_ck h = m_ck2 hN := by
    unfold m_ck m_ck1
    rw [e, ifp_t rfl]
  rw [e0]
  unfold m_ck2
  have hp2 : 0 < gs hN 2 := by rw [t2]; exact hp
  obtain ⟨u3, w1, w2⟩ := page_MS t1 hp2 (w := 4) (ix := 0) (g := gs hN 35) (by decide) (fun z => absurd z (by decide)) (fun z => absurd z (by decide))
  refine zx_ok (fun ok => ?_)
  refine zx_aload_n (pc := 44) dX7_makesCheckpoint_44 rfl rfl ?_
  refine zx_iconst (pc := 45) dX7_makesCheckpoint_45 ?_
  refine zx_iconst (pc := 46) dX7_makesCheckpoint_46 ?_
  refine zx_aload_n (pc := 47) dX7_makesCheckpoint_47 rfl rfl ?_
  refine zg_X7_95 (pc := 48) dX7_makesCheckpoint_48 ?_
  refine zi_X7_328 (pc := 51) dX7_makesCheckpoint_51 (C_X7_programsPage t1 hp2 (by omega) (by omega) (ok.1 35 (by decide))) (by decide) (Nat.le_of_ble_eq_true rfl) (fun z51 h51 u51 v51 q51 => ?_)
  obtain ⟨rfl, e51⟩ := q51
  rw [e51]
  clear e51 h51
  refine zx_istore_n (pc := 54) dX7_makesCheckpoint_54 rfl (by decide) rfl ?_
  refine zx_iload_n (pc := 55) dX7_makesCheckpoint_55 rfl rfl ?_
  refine zx_iconst (pc := 56) dX7_makesCheckpoint_56 ?_
  refine zx_icmp_ne (pc := 57) (tgt := 62) dX7_makesCheckpoint_57 (by decide) (fun o => by first | exact o.1 _ (by decide) | exact o.2 _ _ | omega) (fun o => by first | exact o.1 _ (by decide) | exact o.2 _ _ | omega) (fun c57 => ?_) (fun c57 => ?_)
  · skip
    rcases w2 with w2 | ⟨w2, w3, w4, w5⟩
    · exact absurd w2 c57
    refine zx_aload_n (pc := 62) dX7_makesCheckpoint_62 rfl rfl ?_
    refine zx_aload_n (pc := 63) dX7_makesCheckpoint_63 rfl rfl ?_
    refine zg_X7_95 (pc := 64) dX7_makesCheckpoint_64 ?_
    refine zp_X7_89 (pc := 67) dX7_makesCheckpoint_67 (fun o => by first | exact o.1 _ (by decide) | exact o.2 _ _ | omega) ?_
    refine zx_aload_n (pc := 70) dX7_makesCheckpoint_70 rfl rfl ?_
    refine zx_iconst (pc := 71) dX7_makesCheckpoint_71 ?_
    refine zp_X7_95 (pc := 72) dX7_makesCheckpoint_72 (fun o => by first | exact o.1 _ (by decide) | exact o.2 _ _ | omega) ?_
    refine zx_aload_n (pc := 75) dX7_makesCheckpoint_75 rfl rfl ?_
    refine zx_aload_n (pc := 76) dX7_makesCheckpoint_76 rfl rfl ?_
    refine zg_X7_22 (pc := 77) dX7_makesCheckpoint_77 ?_
    refine zx_iload_n (pc := 80) dX7_makesCheckpoint_80 rfl rfl ?_
    refine zx_iaload (pc := 81) aX7_version dX7_makesCheckpoint_81 (by omega) (by omega) (by omega) ?_
    refine zp_X7_92 (pc := 82) dX7_makesCheckpoint_82 (fun o => by first | exact o.1 _ (by decide) | exact o.2 _ _ | omega) ?_
    refine zx_aload_n (pc := 85) dX7_makesCheckpoint_85 rfl rfl ?_
    refine zx_iconst (pc := 86) dX7_makesCheckpoint_86 ?_
    refine zp_X7_98 (pc := 87) dX7_makesCheckpoint_87 (fun o => by first | exact o.1 _ (by decide) | exact o.2 _ _ | omega) ?_
    refine zx_iconst (pc := 90) dX7_makesCheckpoint_90 ?_
    refine zx_zret (pc := 91) dX7_makesCheckpoint_91 (by omega) ?_
    rw [ifp_f c57]
    exact ⟨rfl, rfl⟩
  · skip
    refine zx_iconst (pc := 60) dX7_makesCheckpoint_60 ?_
    refine zx_zret (pc := 61) dX7_makesCheckpoint_61 (by omega) ?_
    rw [ifp_t c57]
    exact ⟨rfl, rfl⟩
set_option maxRecDepth 100000 in
theorem C_X7_pagesForCommit {h : zH} (hb : MB h) : kX7_pagesForCommit h (fun r h2 => r = m_pfc h ∧ h2 = h) := by
  have hb0 := hb
  obtain ⟨m1, m2, m3, m4, m5, m6⟩ := hb
  have w := wr_rng (gs h 36 + 1)
  apply eX7_pagesForCommit
  unfold m_pfc mParts
  refine zx_aload_n (pc := 0) dX7_pagesForCommit_0 rfl rfl ?_
  refine zg_X7_98 (pc := 1) dX7_pagesForCommit_1 ?_
  refine zx_iconst (pc := 4) dX7_pagesForCommit_4 ?_
  refine zx_iadd (pc := 5) dX7_pagesForCommit_5 ?_
  refine zx_wr ?_
  refine zx_aload_n (pc := 6) dX7_pagesForCommit_6 rfl rfl ?_
  refine zg_X7_248 (pc := 7) dX7_pagesForCommit_7 ?_
  refine zx_icmp_lt (pc := 10) (tgt := 22) dX7_pagesForCommit_10 (by decide) (fun _ => w) (fun o => by first | exact o.1 _ (by decide) | exact o.2 _ _ | omega) (fun c10 => ?_) (fun c10 => ?_)
  · skip
    refine zx_iconst (pc := 22) dX7_pagesForCommit_22 ?_
    refine zx_iret (pc := 23) dX7_pagesForCommit_23 (fun o => by first | exact o.1 _ (by decide) | exact o.2 _ _ | omega) ?_
    first | rw [ifp_t c10] | rw [ifp_f (by omega)]
    exact ⟨rfl, rfl⟩
  · skip
    refine zx_aload_n (pc := 13) dX7_pagesForCommit_13 rfl rfl ?_
    refine zi_X7_332 (pc := 14) dX7_pagesForCommit_14 (C_X7_parts hb0) (by decide) (Nat.le_of_ble_eq_true rfl) (fun z14 h14 u14 v14 q14 => ?_)
    obtain ⟨rfl, e14⟩ := q14
    rw [e14]
    clear e14 h14
    refine zx_iconst (pc := 17) dX7_pagesForCommit_17 ?_
    refine zx_iadd (pc := 18) dX7_pagesForCommit_18 ?_
    refine zx_goto (pc := 19) (tgt := 23) dX7_pagesForCommit_19 (by decide) ?_
    refine zx_iret (pc := 23) dX7_pagesForCommit_23 (fun o => by first | exact o.1 _ (by decide) | exact o.2 _ _ | omega) ?_
    first | rw [ifp_t c10] | rw [ifp_f (by omega)]
    exact ⟨rfl, rfl⟩
theorem ck_MS {h : zH} {u : Int → Int} (s : MS h u) (hp : 0 < gs h 2) : (∃ u2, MS (m_ck h).1 u2) ∧ gs (m_ck h).1 2 = gs h 2 ∧ gs (m_ck h).1 3 = gs h 3 ∧ ((m_ck h).2 = 0 ∨ (m_ck h).2 = 1) := by
  have s0 : MS (m_ck0 h) u := MS_c s rfl rfl rfl rfl rfl (fun _ => rfl) (fun _ => rfl)
  have q5 := s.1.2.2.2.2.1
  have hpart : 0 ≤ mParts h := by unfold mParts; omega
  obtain ⟨⟨u2, t1⟩, t2, t3, t4⟩ := ckL_MS (mParts h).toNat (m_ck0 h) u 0 s0 hp (Int.le_refl _) (by show 0 + _ ≤ mParts h; omega)
  have ed : m_ck1 h = m_ckL (mParts h).toNat (m_ck0 h) 0 := rfl
  rw [← ed] at t1 t2 t3 t4
  unfold m_ck
  rcases t4 with t4 | t4
  · rw [ifp_f (by omega)]
    exact ⟨⟨u2, t1⟩, t2, t3, Or.inl t4⟩
  · rw [ifp_t t4]
    have hp2 : 0 < gs (m_ck1 h).1 2 := by rw [t2]; exact hp
    obtain ⟨u3, w1, w2⟩ := page_MS t1 hp2 (w := 4) (ix := 0) (g := gs (m_ck1 h).1 35) (by decide) (fun z => absurd z (by decide)) (fun z => absurd z (by decide))
    have kp := Kp_page (m_ck1 h).1 4 0 (gs (m_ck1 h).1 35)
    have e2 := (kp.1 2 (by unfold kSc; decide)).trans t2
    have e3 := (kp.1 3 (by unfold kSc; decide)).trans t3
    unfold m_ck2
    rcases Classical.em ((m_page (m_ck1 h).1 4 0 (gs (m_ck1 h).1 35)).2 = -1) with c | c
    · rw [ifp_t c]
      exact ⟨⟨u3, w1⟩, e2, e3, Or.inl rfl⟩
    · rw [ifp_f c]
      exact ⟨⟨u3, MS_c w1 rfl rfl rfl rfl rfl (fun _ => rfl) (fun _ => rfl)⟩, e2, e3, Or.inr rfl⟩
theorem MS_36 {h : zH} {u : Int → Int} (s : MS h u) (v : Int) : MS (ps h 36 v) u := MS_c s rfl rfl rfl rfl rfl (fun _ => rfl) (fun _ => rfl)
theorem cc_MS {h : zH} {u : Int → Int} (s : MS h u) (hp : 0 < gs h 2) : (∃ u2, MS (m_cc h).1 u2) ∧ gs (m_cc h).1 2 = gs h 2 ∧ gs (m_cc h).1 3 = gs h 3 ∧ ((m_cc h).2 = 0 ∨ (m_cc h).2 = 1) := by
  unfold m_cc
  rcases Classical.em (wr (gs h 36 + 1) < gs h 4) with c | c
  · rw [ifp_t c]
    exact ⟨⟨u, MS_36 s _⟩, rfl, rfl, Or.inr rfl⟩
  · rw [ifp_f c]
    exact ck_MS (MS_36 s _) hp
set_option maxRecDepth 100000 in
theorem C_X7_countsCommit {h : zH} {u : Int → Int} (s : MS h u) (hp : 0 < gs h 2) : kX7_countsCommit h (fun r h2 => r = (m_cc h).2 ∧ h2 = (m_cc h).1) := by
  have s0 := MS_36 s (wr (gs h 36 + 1))
  have e1 : gs (ps h 36 (wr (gs h 36 + 1))) 36 = wr (gs h 36 + 1) := rfl
  have e2 : gs (ps h 36 (wr (gs h 36 + 1))) 4 = gs h 4 := rfl
  have e3 := (ck_MS s0 hp).2.2.2
  apply eX7_countsCommit
  unfold m_cc
  refine zx_aload_n (pc := 0) dX7_countsCommit_0 rfl rfl ?_
  refine zx_aload_n (pc := 1) dX7_countsCommit_1 rfl rfl ?_
  refine zg_X7_98 (pc := 2) dX7_countsCommit_2 ?_
  refine zx_iconst (pc := 5) dX7_countsCommit_5 ?_
  refine zx_iadd (pc := 6) dX7_countsCommit_6 ?_
  refine zx_wr ?_
  refine zp_X7_98 (pc := 7) dX7_countsCommit_7 (fun _ => wr_rng _) ?_
  refine zx_aload_n (pc := 10) dX7_countsCommit_10 rfl rfl ?_
  refine zg_X7_98 (pc := 11) dX7_countsCommit_11 ?_
  refine zx_aload_n (pc := 14) dX7_countsCommit_14 rfl rfl ?_
  refine zg_X7_248 (pc := 15) dX7_countsCommit_15 ?_
  refine zx_icmp_lt (pc := 18) (tgt := 28) dX7_countsCommit_18 (by decide) (fun o => by first | exact o.1 _ (by decide) | exact o.2 _ _ | omega) (fun o => by first | exact o.1 _ (by decide) | exact o.2 _ _ | omega) (fun c18 => ?_) (fun c18 => ?_)
  · skip
    rw [e1, e2] at c18
    rw [ifp_t c18]
    refine zx_iconst (pc := 28) dX7_countsCommit_28 ?_
    refine zx_goto (pc := 29) (tgt := 33) dX7_countsCommit_29 (by decide) ?_
    refine zx_zret (pc := 33) dX7_countsCommit_33 (by omega) ?_
    exact ⟨by first | rfl | omega, rfl⟩
  · skip
    rw [e1, e2] at c18
    rw [ifp_f (by omega)]
    refine zx_aload_n (pc := 21) dX7_countsCommit_21 rfl rfl ?_
    refine zi_X7_338 (pc := 22) dX7_countsCommit_22 (C_X7_makesCheckpoint s0 hp) (by decide) (Nat.le_of_ble_eq_true rfl) (fun z22 h22 u22 v22 q22 => ?_)
    obtain ⟨rfl, e22⟩ := q22
    rw [e22]
    clear e22 h22
    refine zx_if_eq (pc := 25) (tgt := 32) dX7_countsCommit_25 (by decide) (fun o => by first | exact o.1 _ (by decide) | exact o.2 _ _ | omega) (fun c25 => ?_) (fun c25 => ?_)
    · skip
      try replace c25 := b2i_0.mp c25
      refine zx_iconst (pc := 32) dX7_countsCommit_32 ?_
      refine zx_zret (pc := 33) dX7_countsCommit_33 (by omega) ?_
      exact ⟨by first | rfl | omega, rfl⟩
    · skip
      try replace c25 := b2i_n0.mp c25
      refine zx_iconst (pc := 28) dX7_countsCommit_28 ?_
      refine zx_goto (pc := 29) (tgt := 33) dX7_countsCommit_29 (by decide) ?_
      refine zx_zret (pc := 33) dX7_countsCommit_33 (by omega) ?_
      exact ⟨by first | rfl | omega, rfl⟩

