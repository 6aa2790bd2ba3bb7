/-! recovery, the end: contracts -/
theorem lost_next (h : zH) {i : Int} (h0 : 1 ≤ i) : pa (m_lost h i) 15 i (ifp (ga h 15 i = 1) 4 (ga h 15 i)) = m_lost h (i + 1) := by
  apply zH_ext
  · intro k; rfl
  · intro c j
    simp only [ga_pa, ga_lost]
    by_cases q : c = 15 ∧ j = i
    · obtain ⟨q1, q2⟩ := q
      subst q2
      rw [if_pos ⟨q1, rfl⟩]
      rcases Classical.em (ga h 15 j = 1) with d | d
      · rw [ifp_t d, if_pos (by omega)]
      · rw [ifp_f d, if_neg (by omega), q1]
    · rw [if_neg q]
      by_cases q2 : c = 15 ∧ 1 ≤ j ∧ j < i ∧ ga h 15 j = 1
      · rw [if_pos q2, if_pos (by omega)]
      · rw [if_neg q2, if_neg (by omega)]
set_option maxRecDepth 100000 in
theorem L_X7_recover {h0 : zH} (h1 : 0 ≤ gs h0 38) (h2 : gs h0 38 ≤ 1000) (Q : Int → zH → Prop) (k : ∀ i, zX cM zNo RX7 cX7_recover 3 (some .int) rX7_recover 79 [some (.ref 0), some (.int (iI i)), none] [] (m_lost h0 (gs h0 38 + 1)) (zEi cM Q)) : ∀ (n : Nat) (i : Int), 1 ≤ i → i ≤ gs h0 38 + 1 → gs h0 38 + 1 - i < n → zX cM zNo RX7 cX7_recover 3 (some .int) rX7_recover 39 [some (.ref 0), some (.int (iI i)), none] [] (m_lost h0 i) (zEi cM Q) := by
  intro n
  induction n with
  | zero => intro i g1 g2 g3; omega
  | succ n ih =>
    intro i g1 g2 g3
    have e := lost_next h0 g1
    have e38 : gs (m_lost h0 i) 38 = gs h0 38 := rfl
    have e15 : ga (m_lost h0 i) 15 i = ga h0 15 i := by rw [ga_lost, if_neg (by omega)]
    refine zx_iload_n (pc := 39) dX7_recover_39 rfl rfl ?_
    refine zx_aload_n (pc := 40) dX7_recover_40 rfl rfl ?_
    refine zg_X7_129 (pc := 41) dX7_recover_41 ?_
    refine zx_icmp_gt (pc := 44) (tgt := 79) dX7_recover_44 (by decide) (fun o => by first | exact o.1 _ (by decide) | exact o.2 _ _ | omega) (fun o => by first | exact o.1 _ (by decide) | exact o.2 _ _ | omega) (fun c44 => ?_) (fun c44 => ?_)
    · skip
      rw [e38] at c44
      have e2 : i = gs h0 38 + 1 := by omega
      rw [e2]
      exact k _
    · skip
      rw [e38] at c44
      refine zx_aload_n (pc := 47) dX7_recover_47 rfl rfl ?_
      refine zg_X7_57 (pc := 48) dX7_recover_48 ?_
      refine zx_iload_n (pc := 51) dX7_recover_51 rfl rfl ?_
      refine zx_aload_n (pc := 52) dX7_recover_52 rfl rfl ?_
      refine zg_X7_57 (pc := 53) dX7_recover_53 ?_
      refine zx_iload_n (pc := 56) dX7_recover_56 rfl rfl ?_
      refine zx_iaload (pc := 57) aX7_states dX7_recover_57 (by omega) (by omega) (by omega) ?_
      refine zx_iconst (pc := 58) dX7_recover_58 ?_
      refine zx_icmp_ne (pc := 59) (tgt := 66) dX7_recover_59 (by decide) (fun o => by first | exact o.1 _ (by decide) | exact o.2 _ _ | omega) (fun o => by first | exact o.1 _ (by decide) | exact o.2 _ _ | omega) (fun c59 => ?_) (fun c59 => ?_)
      · skip
        rw [e15] at c59
        rw [ifp_f c59] at e
        refine zx_aload_n (pc := 66) dX7_recover_66 rfl rfl ?_
        refine zg_X7_57 (pc := 67) dX7_recover_67 ?_
        refine zx_iload_n (pc := 70) dX7_recover_70 rfl rfl ?_
        refine zx_iaload (pc := 71) aX7_states dX7_recover_71 (by omega) (by omega) (by omega) ?_
        refine zx_iastore (pc := 72) aX7_states dX7_recover_72 (by omega) (by omega) (by omega) (fun o => by first | exact o.2 _ _ | omega) ?_
        refine zx_iinc (pc := 73) dX7_recover_73 (by decide) rfl rfl ?_
        refine zx_goto (pc := 76) (tgt := 39) dX7_recover_76 (by decide) ?_
        first | rw [e15, e] | rw [e]
        exact ih (i + 1) (by omega) (by omega) (by omega)
      · skip
        rw [e15] at c59
        rw [ifp_t c59] at e
        refine zx_iconst (pc := 62) dX7_recover_62 ?_
        refine zx_goto (pc := 63) (tgt := 72) dX7_recover_63 (by decide) ?_
        refine zx_iastore (pc := 72) aX7_states dX7_recover_72 (by omega) (by omega) (by omega) (fun o => by first | exact o.2 _ _ | omega) ?_
        refine zx_iinc (pc := 73) dX7_recover_73 (by decide) rfl rfl ?_
        refine zx_goto (pc := 76) (tgt := 39) dX7_recover_76 (by decide) ?_
        first | rw [e15, e] | rw [e]
        exact ih (i + 1) (by omega) (by omega) (by omega)
theorem euL_MS : ∀ (n : Nat) (h : zH) (u : Int → Int) (b : Int), MS h u → 0 ≤ b → b + n = gs h 1 → (∃ u2, MS (m_euL n h b).1 u2) ∧ gs (m_euL n h b).1 1 = gs h 1 ∧ ((m_euL n h b).2 = 0 ∨ (m_euL n h b).2 = 1)
  | 0, h, u, b, s, _, _ => ⟨⟨u, s⟩, rfl, Or.inr rfl⟩
  | n + 1, h, u, b, s, h1, h2 => by
    rw [m_euL]
    have e1 := gs_erase h b 1 (by decide)
    rcases Classical.em (mFreeIn h b < gs h 2 ∧ mValidIn h b = 0) with c | c
    · rw [ifp_t c]
      have se := MS_erase s h1 (by omega : b < gs h 1)
      rcases Classical.em (mOK h) with d | d
      · rw [ifp_t d]
        have q := euL_MS n _ _ (b + 1) se (by omega) (by rw [e1]; omega)
        rw [e1] at q
        exact q
      · rw [ifp_f d]
        exact ⟨⟨_, se⟩, e1, Or.inl rfl⟩
    · rw [ifp_f c]
      exact euL_MS n h u (b + 1) s (by omega) (by omega)
set_option maxRecDepth 100000 in
theorem L_X7_erasesUseless : ∀ (n : Nat) (h : zH) (u : Int → Int) (b : Int), MS h u → 0 ≤ b → b + n = gs h 1 → zX cM zNo RX7 cX7_erasesUseless 2 (some .boolean) rX7_erasesUseless 2 [some (.ref 0), some (.int (iI b))] [] h (zEi cM (fun r h2 => r = (m_euL n h b).2 ∧ h2 = (m_euL n h b).1)) := by
  intro n
  induction n with
  | zero =>
    intro h u b s h1 h2
    obtain ⟨m1, m2, m3, m4, m5, m6⟩ := s.1
    refine zx_iload_n (pc := 2) dX7_erasesUseless_2 rfl rfl ?_
    refine zx_aload_n (pc := 3) dX7_erasesUseless_3 rfl rfl ?_
    refine zg_X7_79 (pc := 4) dX7_erasesUseless_4 ?_
    refine zx_icmp_ge (pc := 7) (tgt := 46) dX7_erasesUseless_7 (by decide) (fun o => by first | exact o.1 _ (by decide) | exact o.2 _ _ | omega) (fun o => by first | exact o.1 _ (by decide) | exact o.2 _ _ | omega) (fun c7 => ?_) (fun c7 => absurd c7 (by omega))
    refine zx_iconst (pc := 46) dX7_erasesUseless_46 ?_
    refine zx_zret (pc := 47) dX7_erasesUseless_47 (by omega) ?_
    exact ⟨rfl, rfl⟩
  | succ n ih =>
    intro h u b s h1 h2
    have hb := s.1
    have q1 := mFreeIn_r hb b
    have q2 := mValidIn_r hb b
    obtain ⟨m1, m2, m3, m4, m5, m6⟩ := s.1
    have hB : b < gs h 1 := by omega
    have e1 := gs_erase h b 1 (by decide)
    rw [m_euL]
    refine zx_iload_n (pc := 2) dX7_erasesUseless_2 rfl rfl ?_
    refine zx_aload_n (pc := 3) dX7_erasesUseless_3 rfl rfl ?_
    refine zg_X7_79 (pc := 4) dX7_erasesUseless_4 ?_
    refine zx_icmp_ge (pc := 7) (tgt := 46) dX7_erasesUseless_7 (by decide) (fun o => by first | exact o.1 _ (by decide) | exact o.2 _ _ | omega) (fun o => by first | exact o.1 _ (by decide) | exact o.2 _ _ | omega) (fun c7 => absurd c7 (by omega)) (fun c7 => ?_)
    refine zx_aload_n (pc := 10) dX7_erasesUseless_10 rfl rfl ?_
    refine zx_iload_n (pc := 11) dX7_erasesUseless_11 rfl rfl ?_
    refine zi_X7_285 (pc := 12) dX7_erasesUseless_12 (C_X7_freeIn hb h1 hB) (by decide) (Nat.le_of_ble_eq_true rfl) (fun z12 h12 u12 v12 q12 => ?_)
    obtain ⟨rfl, e12⟩ := q12
    rw [e12]
    clear e12 h12
    refine zx_aload_n (pc := 15) dX7_erasesUseless_15 rfl rfl ?_
    refine zg_X7_82 (pc := 16) dX7_erasesUseless_16 ?_
    refine zx_icmp_ge (pc := 19) (tgt := 40) dX7_erasesUseless_19 (by decide) (fun o => by first | exact o.1 _ (by decide) | exact o.2 _ _ | omega) (fun o => by first | exact o.1 _ (by decide) | exact o.2 _ _ | omega) (fun c19 => ?_) (fun c19 => ?_)
    · skip
      rw [ifp_f (by omega)]
      refine zx_iinc (pc := 40) dX7_erasesUseless_40 (by decide) rfl rfl ?_
      refine zx_goto (pc := 43) (tgt := 2) dX7_erasesUseless_43 (by decide) ?_
      first
      | (have c9 := c35
         exact ih (m_erase h b) _ (b + 1) (MS_erase s h1 hB) (by omega) (by rw [e1]; omega))
      | exact ih h u (b + 1) s (by omega) (by omega)
    · skip
      refine zx_aload_n (pc := 22) dX7_erasesUseless_22 rfl rfl ?_
      refine zx_iload_n (pc := 23) dX7_erasesUseless_23 rfl rfl ?_
      refine zi_X7_279 (pc := 24) dX7_erasesUseless_24 (C_X7_validIn hb s.2.1 h1 hB) (by decide) (Nat.le_of_ble_eq_true rfl) (fun z24 h24 u24 v24 q24 => ?_)
      obtain ⟨rfl, e24⟩ := q24
      rw [e24]
      clear e24 h24
      refine zx_if_ne (pc := 27) (tgt := 40) dX7_erasesUseless_27 (by decide) (fun o => by first | exact o.1 _ (by decide) | exact o.2 _ _ | omega) (fun c27 => ?_) (fun c27 => ?_)
      · skip
        rw [ifp_f (by omega)]
        refine zx_iinc (pc := 40) dX7_erasesUseless_40 (by decide) rfl rfl ?_
        refine zx_goto (pc := 43) (tgt := 2) dX7_erasesUseless_43 (by decide) ?_
        first
        | (have c9 := c35
           exact ih (m_erase h b) _ (b + 1) (MS_erase s h1 hB) (by omega) (by rw [e1]; omega))
        | exact ih h u (b + 1) s (by omega) (by omega)
      · skip
        rw [ifp_t ⟨c19, c27⟩]
        refine zx_aload_n (pc := 30) dX7_erasesUseless_30 rfl rfl ?_
        refine zx_iload_n (pc := 31) dX7_erasesUseless_31 rfl rfl ?_
        refine zi_X7_307 (pc := 32) dX7_erasesUseless_32 (C_X7_erasesBlock hb s.2.2.2.1.1 h1 hB) (by decide) (Nat.le_of_ble_eq_true rfl) (fun z32 h32 u32 v32 q32 => ?_)
        obtain ⟨rfl, e32⟩ := q32
        rw [e32]
        clear e32 h32
        refine zx_if_ne (pc := 35) (tgt := 40) dX7_erasesUseless_35 (by decide) (fun o => by first | exact o.1 _ (by decide) | exact o.2 _ _ | omega) (fun c35 => ?_) (fun c35 => ?_)
        · skip
          try replace c35 := b2i_n0.mp c35
          rw [ifp_t c35]
          refine zx_iinc (pc := 40) dX7_erasesUseless_40 (by decide) rfl rfl ?_
          refine zx_goto (pc := 43) (tgt := 2) dX7_erasesUseless_43 (by decide) ?_
          first
          | (have c9 := c35
             exact ih (m_erase h b) _ (b + 1) (MS_erase s h1 hB) (by omega) (by rw [e1]; omega))
          | exact ih h u (b + 1) s (by omega) (by omega)
        · skip
          try replace c35 := b2i_0.mp c35
          rw [ifp_f c35]
          refine zx_iconst (pc := 38) dX7_erasesUseless_38 ?_
          refine zx_zret (pc := 39) dX7_erasesUseless_39 (by omega) ?_
          exact ⟨rfl, rfl⟩
set_option maxRecDepth 100000 in
theorem C_X7_erasesUseless {h : zH} {u : Int → Int} (s : MS h u) : kX7_erasesUseless h (fun r h2 => r = (m_eu h).2 ∧ h2 = (m_eu h).1) := by
  apply eX7_erasesUseless
  refine zx_iconst (pc := 0) dX7_erasesUseless_0 ?_
  refine zx_istore_n (pc := 1) dX7_erasesUseless_1 rfl (by decide) rfl ?_
  exact L_X7_erasesUseless (gs h 1).toNat h u 0 s (Int.le_refl _) (by have := s.1.1; omega)
theorem mLast_r {h : zH} (hb : MB h) : -1 ≤ mLast h ∧ mLast h < gs h 1 * gs h 2 := by
  have m7 := mb_size hb.1 hb.2.1 hb.2.2.1 hb.2.2.2.1
  have q := mLN_r h (gs h 1 * gs h 2).toNat
  unfold mLast
  omega
theorem div_blk {p B x : Int} (h0 : 0 ≤ x) (h1 : x < B * p) (hB : 0 ≤ B) (hp0 : 0 ≤ p) : 0 < p ∧ 0 ≤ x / p ∧ x / p < B := by
  have hp : 0 < p := by
    by_cases e : p = 0
    · rw [e, Int.mul_zero] at h1
      omega
    · omega
  exact ⟨hp, Int.ediv_nonneg h0 (by omega), Int.ediv_lt_of_lt_mul hp h1⟩
set_option maxRecDepth 100000 in
theorem L_X7_findsActive {h : zH} (hb : MB h) (Q : zH → Prop) (k : ∀ j, zX cM zNo RX7 cX7_findsActive 3 none rX7_findsActive 48 [some (.ref 0), some (.int (iI (mLast h))), some (.int (iI j))] [] h (zEv cM Q)) : ∀ (n : Nat) (i c : Int), 0 ≤ i → i ≤ gs h 1 * gs h 2 → gs h 1 * gs h 2 - i < n → c = mLN h i.toNat → zX cM zNo RX7 cX7_findsActive 3 none rX7_findsActive 4 [some (.ref 0), some (.int (iI c)), some (.int (iI i))] [] h (zEv cM Q) := by
  have m7 := mb_size hb.1 hb.2.1 hb.2.2.1 hb.2.2.2.1
  intro n
  induction n with
  | zero => intro i c g1 g2 g3; omega
  | succ n ih =>
    intro i c g1 g2 g3 g4
    have g5 := mLN_r h i.toNat
    obtain ⟨g6, g7⟩ := toNat_next g1
    have y (z : mProgd h i ∧ (c = -1 ∨ ga h 6 c < ga h 6 i)) : mLN h (i + 1).toNat = i := by
      rw [g6, mLN, g7, ← g4]
      exact ifp_t z
    have nn (z : ¬ (mProgd h i ∧ (c = -1 ∨ ga h 6 c < ga h 6 i))) : mLN h (i + 1).toNat = c := by
      rw [g6, mLN, g7, ← g4]
      exact ifp_f z
    refine zx_iload_n (pc := 4) dX7_findsActive_4 rfl rfl ?_
    refine zx_aload_n (pc := 5) dX7_findsActive_5 rfl rfl ?_
    refine zi_X7_264 (pc := 6) dX7_findsActive_6 (C_X7_flashSize hb) (by decide) (Nat.le_of_ble_eq_true rfl) (fun z6 h6 u6 v6 q6 => ?_)
    obtain ⟨rfl, e6⟩ := q6
    rw [e6]
    clear e6 h6
    refine zx_icmp_ge (pc := 9) (tgt := 48) dX7_findsActive_9 (by decide) (fun o => by first | exact o.1 _ (by decide) | exact o.2 _ _ | omega) (fun o => by first | exact o.1 _ (by decide) | exact o.2 _ _ | omega) (fun c9 => ?_) (fun c9 => ?_)
    · skip
      have e : i = gs h 1 * gs h 2 := by omega
      have e2 : c = mLast h := by rw [g4, e]; rfl
      rw [e2]
      exact k _
    · skip
      refine zx_aload_n (pc := 12) dX7_findsActive_12 rfl rfl ?_
      refine zx_iload_n (pc := 13) dX7_findsActive_13 rfl rfl ?_
      refine zi_X7_401 (pc := 14) dX7_findsActive_14 (C_X7_isProgrammed g1 (by omega)) (by decide) (Nat.le_of_ble_eq_true rfl) (fun z14 h14 u14 v14 q14 => ?_)
      obtain ⟨rfl, e14⟩ := q14
      rw [e14]
      clear e14 h14
      refine zx_if_eq (pc := 17) (tgt := 42) dX7_findsActive_17 (by decide) (fun o => by first | exact o.1 _ (by decide) | exact o.2 _ _ | omega) (fun c17 => ?_) (fun c17 => ?_)
      · skip
        try replace c17 := b2i_0.mp c17
        refine zx_iinc (pc := 42) dX7_findsActive_42 (by decide) rfl rfl ?_
        refine zx_goto (pc := 45) (tgt := 4) dX7_findsActive_45 (by decide) ?_
        first
        | (have w2 := w
           exact ih (i + 1) _ (by omega) (by omega) (by omega) w2.symm)
        | exact ih (i + 1) _ (by omega) (by omega) (by omega) (nn (fun z => by have z1 := z.1; first | exact c17 z1 | (have z2 := z.2; omega))).symm
      · skip
        try replace c17 := b2i_n0.mp c17
        refine zx_iload_n (pc := 20) dX7_findsActive_20 rfl rfl ?_
        refine zx_iconst (pc := 21) dX7_findsActive_21 ?_
        refine zx_icmp_eq (pc := 22) (tgt := 40) dX7_findsActive_22 (by decide) (fun o => by first | exact o.1 _ (by decide) | exact o.2 _ _ | omega) (fun o => by first | exact o.1 _ (by decide) | exact o.2 _ _ | omega) (fun c22 => ?_) (fun c22 => ?_)
        · skip
          have w := y ⟨c17, by omega⟩
          refine zx_iload_n (pc := 40) dX7_findsActive_40 rfl rfl ?_
          refine zx_istore_n (pc := 41) dX7_findsActive_41 rfl (by decide) rfl ?_
          refine zx_iinc (pc := 42) dX7_findsActive_42 (by decide) rfl rfl ?_
          refine zx_goto (pc := 45) (tgt := 4) dX7_findsActive_45 (by decide) ?_
          first
          | (have w2 := w
             exact ih (i + 1) _ (by omega) (by omega) (by omega) w2.symm)
          | exact ih (i + 1) _ (by omega) (by omega) (by omega) (nn (fun z => by have z1 := z.1; first | exact c17 z1 | (have z2 := z.2; omega))).symm
        · skip
          refine zx_aload_n (pc := 25) dX7_findsActive_25 rfl rfl ?_
          refine zg_X7_25 (pc := 26) dX7_findsActive_26 ?_
          refine zx_iload_n (pc := 29) dX7_findsActive_29 rfl rfl ?_
          refine zx_iaload (pc := 30) aX7_sequence dX7_findsActive_30 (by omega) (by omega) (by omega) ?_
          refine zx_aload_n (pc := 31) dX7_findsActive_31 rfl rfl ?_
          refine zg_X7_25 (pc := 32) dX7_findsActive_32 ?_
          refine zx_iload_n (pc := 35) dX7_findsActive_35 rfl rfl ?_
          refine zx_iaload (pc := 36) aX7_sequence dX7_findsActive_36 (by omega) (by omega) (by omega) ?_
          refine zx_icmp_le (pc := 37) (tgt := 42) dX7_findsActive_37 (by decide) (fun o => by first | exact o.1 _ (by decide) | exact o.2 _ _ | omega) (fun o => by first | exact o.1 _ (by decide) | exact o.2 _ _ | omega) (fun c37 => ?_) (fun c37 => ?_)
          · skip
            refine zx_iinc (pc := 42) dX7_findsActive_42 (by decide) rfl rfl ?_
            refine zx_goto (pc := 45) (tgt := 4) dX7_findsActive_45 (by decide) ?_
            first
            | (have w2 := w
               exact ih (i + 1) _ (by omega) (by omega) (by omega) w2.symm)
            | exact ih (i + 1) _ (by omega) (by omega) (by omega) (nn (fun z => by have z1 := z.1; first | exact c17 z1 | (have z2 := z.2; omega))).symm
          · skip
            have w := y ⟨c17, by omega⟩
            refine zx_iload_n (pc := 40) dX7_findsActive_40 rfl rfl ?_
            refine zx_istore_n (pc := 41) dX7_findsActive_41 rfl (by decide) rfl ?_
            refine zx_iinc (pc := 42) dX7_findsActive_42 (by decide) rfl rfl ?_
            refine zx_goto (pc := 45) (tgt := 4) dX7_findsActive_45 (by decide) ?_
            first
            | (have w2 := w
               exact ih (i + 1) _ (by omega) (by omega) (by omega) w2.symm)
            | exact ih (i + 1) _ (by omega) (by omega) (by omega) (nn (fun z => by have z1 := z.1; first | exact c17 z1 | (have z2 := z.2; omega))).symm
set_option maxRecDepth 100000 in
theorem C_X7_findsActive {h : zH} (hb : MB h) : kX7_findsActive h (fun h2 => h2 = m_fa h) := by
  have m7 := mb_size hb.1 hb.2.1 hb.2.2.1 hb.2.2.2.1
  have q := mLast_r hb
  have hp2 := hb.2.2.2.1
  have d (z : mLast h ≠ -1) := div_blk (x := mLast h) (by omega) q.2 hb.1 hb.2.2.1
  have qq := mFreeIn_r hb (mLast h / gs h 2)
  have hB := hb.2.1
  apply eX7_findsActive
  refine zx_iconst (pc := 0) dX7_findsActive_0 ?_
  refine zx_istore_n (pc := 1) dX7_findsActive_1 rfl (by decide) rfl ?_
  refine zx_iconst (pc := 2) dX7_findsActive_2 ?_
  refine zx_istore_n (pc := 3) dX7_findsActive_3 rfl (by decide) rfl ?_
  refine L_X7_findsActive hb (fun h2 => h2 = m_fa h) (fun j => ?_) 1025 0 _ (Int.le_refl _) m7.1 (by omega) rfl
  refine zx_aload_n (pc := 48) dX7_findsActive_48 rfl rfl ?_
  refine zx_iload_n (pc := 49) dX7_findsActive_49 rfl rfl ?_
  refine zx_iconst (pc := 50) dX7_findsActive_50 ?_
  refine zx_icmp_eq (pc := 51) (tgt := 76) dX7_findsActive_51 (by decide) (fun o => by first | exact o.1 _ (by decide) | exact o.2 _ _ | omega) (fun o => by first | exact o.1 _ (by decide) | exact o.2 _ _ | omega) (fun c51 => ?_) (fun c51 => ?_)
  · skip
    have w : m_fa h = ps h 32 (-1) := by
      unfold m_fa
      rw [ifp_f (fun z => z.1 c51)]
    refine zx_iconst (pc := 76) dX7_findsActive_76 ?_
    refine zp_X7_53 (pc := 77) dX7_findsActive_77 (fun o => by first | exact o.1 _ (by decide) | exact o.2 _ _ | omega) ?_
    refine zx_vret (pc := 80) dX7_findsActive_80 ?_
    exact w.symm
  · skip
    have d1 := d c51
    refine zx_aload_n (pc := 54) dX7_findsActive_54 rfl rfl ?_
    refine zx_iload_n (pc := 55) dX7_findsActive_55 rfl rfl ?_
    refine zx_aload_n (pc := 56) dX7_findsActive_56 rfl rfl ?_
    refine zg_X7_82 (pc := 57) dX7_findsActive_57 ?_
    refine zx_idiv (pc := 60) dX7_findsActive_60 (by omega) (by omega) (by omega) (by omega) ?_
    refine zi_X7_285 (pc := 61) dX7_findsActive_61 (C_X7_freeIn hb d1.2.1 d1.2.2) (by decide) (Nat.le_of_ble_eq_true rfl) (fun z61 h61 u61 v61 q61 => ?_)
    obtain ⟨rfl, e61⟩ := q61
    rw [e61]
    clear e61 h61
    refine zx_if_le (pc := 64) (tgt := 76) dX7_findsActive_64 (by decide) (fun o => by first | exact o.1 _ (by decide) | exact o.2 _ _ | omega) (fun c64 => ?_) (fun c64 => ?_)
    · skip
      have w : m_fa h = ps h 32 (-1) := by
        unfold m_fa
        rw [ifp_f (fun z => by have := z.2; omega)]
      refine zx_iconst (pc := 76) dX7_findsActive_76 ?_
      refine zp_X7_53 (pc := 77) dX7_findsActive_77 (fun o => by first | exact o.1 _ (by decide) | exact o.2 _ _ | omega) ?_
      refine zx_vret (pc := 80) dX7_findsActive_80 ?_
      exact w.symm
    · skip
      have w : m_fa h = ps h 32 (mLast h / gs h 2) := by
        unfold m_fa
        rw [ifp_t ⟨c51, c64⟩]
      refine zx_iload_n (pc := 67) dX7_findsActive_67 rfl rfl ?_
      refine zx_aload_n (pc := 68) dX7_findsActive_68 rfl rfl ?_
      refine zg_X7_82 (pc := 69) dX7_findsActive_69 ?_
      refine zx_idiv (pc := 72) dX7_findsActive_72 (by omega) (by omega) (by omega) (by omega) ?_
      refine zx_goto (pc := 73) (tgt := 77) dX7_findsActive_73 (by decide) ?_
      refine zp_X7_53 (pc := 77) dX7_findsActive_77 (fun o => by first | exact o.1 _ (by decide) | exact o.2 _ _ | omega) ?_
      refine zx_vret (pc := 80) dX7_findsActive_80 ?_
      exact w.symm
set_option maxRecDepth 100000 in
theorem L2_X7_recover {h : zH} (hb : MB h) (Q : Int → zH → Prop) (hQ : Q (mWrit h) h) : ∀ (n : Nat) (i c : Int), 0 ≤ i → i ≤ gs h 3 → gs h 3 - i < n → c = cnt (fun p => ga h 10 p ≠ 0) 0 (i - 0).toNat → zX cM zNo RX7 cX7_recover 3 (some .int) rX7_recover 105 [some (.ref 0), some (.int (iI c)), some (.int (iI i))] [] h (zEi cM Q) := by
  obtain ⟨m1, m2, m3, m4, m5, m6⟩ := hb
  intro n
  induction n with
  | zero => intro i c g1 g2 g3; omega
  | succ n ih =>
    intro i c g1 g2 g3 g4
    have g5 := cnt_r (fun p => ga h 10 p ≠ 0) 0 (i - 0).toNat
    have g6 := cnt_next (p := fun p => ga h 10 p ≠ 0) g1
    refine zx_iload_n (pc := 105) dX7_recover_105 rfl rfl ?_
    refine zx_aload_n (pc := 106) dX7_recover_106 rfl rfl ?_
    refine zg_X7_72 (pc := 107) dX7_recover_107 ?_
    refine zx_icmp_ge (pc := 110) (tgt := 136) dX7_recover_110 (by decide) (fun o => by first | exact o.1 _ (by decide) | exact o.2 _ _ | omega) (fun o => by first | exact o.1 _ (by decide) | exact o.2 _ _ | omega) (fun c110 => ?_) (fun c110 => ?_)
    · skip
      refine zx_iload_n (pc := 136) dX7_recover_136 rfl rfl ?_
      refine zx_iret (pc := 137) dX7_recover_137 (fun o => by first | exact o.1 _ (by decide) | exact o.2 _ _ | omega) ?_
      have e : i - 0 = gs h 3 := by omega
      rw [g4, e]
      exact hQ
    · skip
      refine zx_aload_n (pc := 113) dX7_recover_113 rfl rfl ?_
      refine zg_X7_37 (pc := 114) dX7_recover_114 ?_
      refine zx_iload_n (pc := 117) dX7_recover_117 rfl rfl ?_
      refine zx_iaload (pc := 118) aX7_committed dX7_recover_118 (by omega) (by omega) (by omega) ?_
      refine zx_if_eq (pc := 119) (tgt := 128) dX7_recover_119 (by decide) (fun o => by first | exact o.1 _ (by decide) | exact o.2 _ _ | omega) (fun c119 => ?_) (fun c119 => ?_)
      · skip
        refine zx_iload_n (pc := 128) dX7_recover_128 rfl rfl ?_
        refine zx_istore_n (pc := 129) dX7_recover_129 rfl (by decide) rfl ?_
        refine zx_iinc (pc := 130) dX7_recover_130 (by decide) rfl rfl ?_
        refine zx_goto (pc := 133) (tgt := 105) dX7_recover_133 (by decide) ?_
        exact ih (i + 1) _ (by omega) (by omega) (by omega) (by first | rw [g6, g4, b2i_t (by omega)] | rw [g6, g4, b2i_f (by omega), Int.add_zero])
      · skip
        refine zx_iload_n (pc := 122) dX7_recover_122 rfl rfl ?_
        refine zx_iconst (pc := 123) dX7_recover_123 ?_
        refine zx_iadd (pc := 124) dX7_recover_124 ?_
        refine zx_goto (pc := 125) (tgt := 129) dX7_recover_125 (by decide) ?_
        refine zx_istore_n (pc := 129) dX7_recover_129 rfl (by decide) rfl ?_
        refine zx_iinc (pc := 130) dX7_recover_130 (by decide) rfl rfl ?_
        refine zx_goto (pc := 133) (tgt := 105) dX7_recover_133 (by decide) ?_
        exact ih (i + 1) _ (by omega) (by omega) (by omega) (by first | rw [g6, g4, b2i_t (by omega)] | rw [g6, g4, b2i_f (by omega), Int.add_zero])
theorem MS_forgets {h : zH} {u : Int → Int} (s : MS h u) : MS (m_forgets h) u := by
  obtain ⟨s1, s2, s3, s4, s5⟩ := s
  refine ⟨s1, MI_c s2 rfl rfl rfl (fun i _ => ⟨?_, ?_⟩), ⟨by show (-1 : Int) ≤ -1; omega, by have := s1.1; show -1 < gs h 1; omega⟩, s4, SF_c s5 rfl rfl (fun i => ?_)⟩
  · simp [m_forgets, ga_ps, ga_prr]
  · simp [m_forgets, ga_ps, ga_prr]
  · simp [m_forgets, ga_ps, ga_prr]
theorem MS_lost {h : zH} {u : Int → Int} (s : MS h u) (n : Int) : MS (m_lost h n) u := MS_c s rfl rfl rfl rfl rfl (fun j => by rw [ga_lost, if_neg (by omega)]) (fun j => by rw [ga_lost, if_neg (by omega)])
theorem MS_26 {h : zH} {u : Int → Int} (s : MS h u) (v : Int) : MS (ps h 26 v) u := MS_c s rfl rfl rfl rfl rfl (fun _ => rfl) (fun _ => rfl)
theorem MS_rec2 {h : zH} {u : Int → Int} (s : MS h u) : MS (m_rec2 h) u := MS_26 (MS_lost (((Fs_rck _).tr (Fs_aaL 1025 _ _)).ms (MS_forgets s)) _) 1
theorem fa_MB {h : zH} (hb : MB h) : MB (m_fa h) := hb
set_option maxRecDepth 100000 in
theorem C_X7_recover {h : zH} {u : Int → Int} (s : MS h u) (h1 : 0 ≤ gs h 38) (h2 : gs h 38 ≤ 1000) : kX7_recover h (fun r h2 => r = (m_rec h).2 ∧ h2 = (m_rec h).1) := by
  have s0 := MS_0 s 0
  have e26 : gs (ps h 0 0) 26 = gs h 26 := rfl
  have e1 : gs (ps h 0 0) 1 = gs h 1 := rfl
  have s1 := MS_forgets s0
  have s2 := (Fs_rck _).ms s1
  have f3 : Fs (m_forgets (ps h 0 0)) (m_rec1 (ps h 0 0)) := (Fs_rck _).tr (Fs_aaL 1025 _ _)
  have e38 : gs (m_rec1 (ps h 0 0)) 38 = gs h 38 := f3.1 38 (by decide) (by decide) (by decide)
  have s4 := MS_rec2 s0
  have q5 := euL_MS (gs h 1).toNat (m_rec2 (ps h 0 0)) u 0 s4 (Int.le_refl _) (by
    have e9 : gs (m_rec2 (ps h 0 0)) 1 = gs h 1 := f3.1 1 (by decide) (by decide) (by decide)
    have := s.1.1
    rw [e9]
    omega)
  have e9 : gs (m_rec2 (ps h 0 0)) 1 = gs h 1 := f3.1 1 (by decide) (by decide) (by decide)
  have eu : m_euL (gs h 1).toNat (m_rec2 (ps h 0 0)) 0 = m_eu (m_rec2 (ps h 0 0)) := by
    unfold m_eu
    rw [e9]
  rw [eu] at q5
  obtain ⟨⟨u5, s5⟩, q6, q7⟩ := q5
  apply eX7_recover
  unfold m_rec
  refine zx_aload_n (pc := 0) dX7_recover_0 rfl rfl ?_
  refine zx_iconst (pc := 1) dX7_recover_1 ?_
  refine zp_X7_69 (pc := 2) dX7_recover_2 (fun o => by first | exact o.1 _ (by decide) | exact o.2 _ _ | omega) ?_
  refine zx_aload_n (pc := 5) dX7_recover_5 rfl rfl ?_
  refine zg_X7_104 (pc := 6) dX7_recover_6 ?_
  refine zx_if_ne (pc := 9) (tgt := 19) dX7_recover_9 (by decide) (fun o => by first | exact o.1 _ (by decide) | exact o.2 _ _ | omega) (fun c9 => ?_) (fun c9 => ?_)
  · skip
    rw [e26] at c9
    rw [ifp_t (Or.inl c9)]
    refine zx_aload_n (pc := 19) dX7_recover_19 rfl rfl ?_
    refine zx_iconst (pc := 20) dX7_recover_20 ?_
    refine zi_X7_138 (pc := 21) dX7_recover_21 (C_X7_refuse2 (by decide)) (by decide) (Nat.le_of_ble_eq_true rfl) (fun z21 h21 u21 v21 q21 => ?_)
    obtain ⟨rfl, e21⟩ := q21
    rw [e21]
    clear e21 h21
    refine zx_iret (pc := 24) dX7_recover_24 (fun o => by first | exact o.1 _ (by decide) | exact o.2 _ _ | omega) ?_
    exact ⟨rfl, ps_ps _ _ _ _⟩
  · skip
    rw [e26] at c9
    refine zx_aload_n (pc := 12) dX7_recover_12 rfl rfl ?_
    refine zg_X7_79 (pc := 13) dX7_recover_13 ?_
    refine zx_if_ne (pc := 16) (tgt := 25) dX7_recover_16 (by decide) (fun o => by first | exact o.1 _ (by decide) | exact o.2 _ _ | omega) (fun c16 => ?_) (fun c16 => ?_)
    · skip
      rw [e1] at c16
      rw [ifp_f (fun z => z.elim (fun y => y c9) c16)]
      refine zx_aload_n (pc := 25) dX7_recover_25 rfl rfl ?_
      refine zi_X7_101 (pc := 26) dX7_recover_26 (C_X7_forgets) (by decide) (Nat.le_of_ble_eq_true rfl) (fun h26 q26 => ?_)
      rw [q26]
      clear q26 h26
      refine zx_aload_n (pc := 29) dX7_recover_29 rfl rfl ?_
      refine zi_X7_404 (pc := 30) dX7_recover_30 (C_X7_readsCheckpoint s1.1 s1.2.1) (by decide) (Nat.le_of_ble_eq_true rfl) (fun h30 q30 => ?_)
      rw [q30]
      clear q30 h30
      refine zx_aload_n (pc := 33) dX7_recover_33 rfl rfl ?_
      refine zi_X7_407 (pc := 34) dX7_recover_34 (C_X7_appliesAll s2.1 s2.2.1) (by decide) (Nat.le_of_ble_eq_true rfl) (fun h34 q34 => ?_)
      rw [q34]
      clear q34 h34
      refine zx_iconst (pc := 37) dX7_recover_37 ?_
      refine zx_istore_n (pc := 38) dX7_recover_38 rfl (by decide) rfl ?_
      refine zx_sub [true, true, false] ?_
      dsimp only [zMask, List.set]
      have r := L_X7_recover (h0 := m_rec1 (ps h 0 0)) (by rw [e38]; exact h1) (by rw [e38]; exact h2) (fun r h2 => r = (ifp ((m_eu (m_rec2 (ps h 0 0))).2 = 1) (m_fa (m_eu (m_rec2 (ps h 0 0))).1, mWrit (m_fa (m_eu (m_rec2 (ps h 0 0))).1)) (ps (m_eu (m_rec2 (ps h 0 0))).1 0 1, 0)).2 ∧ h2 = (ifp ((m_eu (m_rec2 (ps h 0 0))).2 = 1) (m_fa (m_eu (m_rec2 (ps h 0 0))).1, mWrit (m_fa (m_eu (m_rec2 (ps h 0 0))).1)) (ps (m_eu (m_rec2 (ps h 0 0))).1 0 1, 0)).1) (fun i => ?_) 1002 1 (Int.le_refl _) (by rw [e38]; omega) (by rw [e38]; omega)
      · rw [show m_lost (m_rec1 (ps h 0 0)) 1 = m_rec1 (ps h 0 0) from zH_ext (fun _ => rfl) (fun c j => by rw [ga_lost, if_neg (by omega)])] at r
        exact r
      refine zx_aload_n (pc := 79) dX7_recover_79 rfl rfl ?_
      refine zx_iconst (pc := 80) dX7_recover_80 ?_
      refine zp_X7_104 (pc := 81) dX7_recover_81 (by omega) (fun o => by first | exact o.1 _ (by decide) | exact o.2 _ _ | omega) ?_
      rw [show ps (m_lost (m_rec1 (ps h 0 0)) (gs (m_rec1 (ps h 0 0)) 38 + 1)) 26 1 = m_rec2 (ps h 0 0) from rfl]
      refine zx_aload_n (pc := 84) dX7_recover_84 rfl rfl ?_
      refine zi_X7_410 (pc := 85) dX7_recover_85 (C_X7_erasesUseless s4) (by decide) (Nat.le_of_ble_eq_true rfl) (fun z85 h85 u85 v85 q85 => ?_)
      obtain ⟨rfl, e85⟩ := q85
      rw [e85]
      clear e85 h85
      refine zx_if_ne (pc := 88) (tgt := 97) dX7_recover_88 (by decide) (fun o => by first | exact o.1 _ (by decide) | exact o.2 _ _ | omega) (fun c88 => ?_) (fun c88 => ?_)
      · skip
        try replace c88 := b2i_n0.mp c88
        rw [ifp_t (by omega)]
        refine zx_aload_n (pc := 97) dX7_recover_97 rfl rfl ?_
        refine zi_X7_413 (pc := 98) dX7_recover_98 (C_X7_findsActive s5.1) (by decide) (Nat.le_of_ble_eq_true rfl) (fun h98 q98 => ?_)
        rw [q98]
        clear q98 h98
        refine zx_iconst (pc := 101) dX7_recover_101 ?_
        refine zx_istore_n (pc := 102) dX7_recover_102 rfl (by decide) rfl ?_
        refine zx_iconst (pc := 103) dX7_recover_103 ?_
        refine zx_istore_n (pc := 104) dX7_recover_104 rfl (by decide) rfl ?_
        exact L2_X7_recover (h := m_fa (m_eu (m_rec2 (ps h 0 0))).1) (fa_MB s5.1) _ ⟨rfl, rfl⟩ 65 0 _ (Int.le_refl _) (fa_MB s5.1).2.2.2.2.1 (by have := (fa_MB s5.1).2.2.2.2.2; omega) rfl
      · skip
        try replace c88 := b2i_0.mp c88
        rw [ifp_f (by omega)]
        refine zx_aload_n (pc := 91) dX7_recover_91 rfl rfl ?_
        refine zx_iconst (pc := 92) dX7_recover_92 ?_
        refine zi_X7_138 (pc := 93) dX7_recover_93 (C_X7_refuse2 (by decide)) (by decide) (Nat.le_of_ble_eq_true rfl) (fun z93 h93 u93 v93 q93 => ?_)
        obtain ⟨rfl, e93⟩ := q93
        rw [e93]
        clear e93 h93
        refine zx_iret (pc := 96) dX7_recover_96 (fun o => by first | exact o.1 _ (by decide) | exact o.2 _ _ | omega) ?_
        exact ⟨rfl, rfl⟩
    · skip
      rw [e1] at c16
      rw [ifp_t (Or.inr c16)]
      refine zx_aload_n (pc := 19) dX7_recover_19 rfl rfl ?_
      refine zx_iconst (pc := 20) dX7_recover_20 ?_
      refine zi_X7_138 (pc := 21) dX7_recover_21 (C_X7_refuse2 (by decide)) (by decide) (Nat.le_of_ble_eq_true rfl) (fun z21 h21 u21 v21 q21 => ?_)
      obtain ⟨rfl, e21⟩ := q21
      rw [e21]
      clear e21 h21
      refine zx_iret (pc := 24) dX7_recover_24 (fun o => by first | exact o.1 _ (by decide) | exact o.2 _ _ | omega) ?_
      exact ⟨rfl, ps_ps _ _ _ _⟩

