/-! the reference's calls on transactions: contracts -/
theorem ifp_i {p : Prop} {a b : Int} {r : Int → Prop} (h1 : r a) (h2 : r b) : r (ifp p a b) := by
  rcases Classical.em p with c | c
  · rw [ifp_t c]; exact h1
  · rw [ifp_f c]; exact h2
set_option maxRecDepth 100000 in
theorem C_X7_checkpoint {h : zH} {u : Int → Int} (s : MS h u) (hp : gs h 26 ≠ 0 → 0 < gs h 2) : kX7_checkpoint h (fun r h2 => r = (m_checkpoint h).2 ∧ h2 = (m_checkpoint h).1) := by
  have s0 := MS_0 s 0
  have e26 : gs (ps h 0 0) 26 = gs h 26 := rfl
  have ep : mParts (ps h 0 0) = mParts h := rfl
  have epd : mParts h = (gs h 3 + 7) / 8 := rfl
  have hL := s.1.2.2.2.2
  apply eX7_checkpoint
  unfold m_checkpoint
  refine zx_aload_n (pc := 0) dX7_checkpoint_0 rfl rfl ?_
  refine zx_iconst (pc := 1) dX7_checkpoint_1 ?_
  refine zp_X7_69 (pc := 2) dX7_checkpoint_2 (fun o => by first | exact o.1 _ (by decide) | exact o.2 _ _ | omega) ?_
  refine zx_aload_n (pc := 5) dX7_checkpoint_5 rfl rfl ?_
  refine zg_X7_104 (pc := 6) dX7_checkpoint_6 ?_
  refine zx_if_eq (pc := 9) (tgt := 32) dX7_checkpoint_9 (by decide) (fun o => by first | exact o.1 _ (by decide) | exact o.2 _ _ | omega) (fun c9 => ?_) (fun c9 => ?_)
  · skip
    rw [e26] at c9
    rw [ifp_f (fun z => z.1 c9)]
    refine zx_aload_n (pc := 32) dX7_checkpoint_32 rfl rfl ?_
    refine zx_iconst (pc := 33) dX7_checkpoint_33 ?_
    refine zi_X7_138 (pc := 34) dX7_checkpoint_34 (C_X7_refuse2 (by decide)) (by decide) (Nat.le_of_ble_eq_true rfl) (fun z34 h34 u34 v34 q34 => ?_)
    obtain ⟨rfl, e34⟩ := q34
    rw [e34]
    clear e34 h34
    refine zx_iret (pc := 37) dX7_checkpoint_37 (fun o => by first | exact o.1 _ (by decide) | exact o.2 _ _ | omega) ?_
    first | exact ⟨rfl, rfl⟩ | exact ⟨rfl, ps_ps _ _ _ _⟩
  · skip
    rw [e26] at c9
    refine zx_aload_n (pc := 12) dX7_checkpoint_12 rfl rfl ?_
    refine zx_aload_n (pc := 13) dX7_checkpoint_13 rfl rfl ?_
    refine zi_X7_332 (pc := 14) dX7_checkpoint_14 (C_X7_parts s0.1) (by decide) (Nat.le_of_ble_eq_true rfl) (fun z14 h14 u14 v14 q14 => ?_)
    obtain ⟨rfl, e14⟩ := q14
    rw [e14]
    clear e14 h14
    refine zx_iconst (pc := 17) dX7_checkpoint_17 ?_
    refine zx_iadd (pc := 18) dX7_checkpoint_18 ?_
    refine zi_X7_341 (pc := 19) dX7_checkpoint_19 (C_X7_hasRoom s0.1 s0.2.1 (a1 := mParts h + 1) (by omega) (by omega)) (by decide) (Nat.le_of_ble_eq_true rfl) (fun z19 h19 u19 v19 q19 => ?_)
    obtain ⟨rfl, e19⟩ := q19
    rw [e19]
    clear e19 h19
    refine zx_if_eq (pc := 22) (tgt := 32) dX7_checkpoint_22 (by decide) (fun o => by first | exact o.1 _ (by decide) | exact o.2 _ _ | omega) (fun c22 => ?_) (fun c22 => ?_)
    · skip
      try replace c22 := b2i_0.mp c22
      rw [ifp_f (fun z => c22 z.2)]
      refine zx_aload_n (pc := 32) dX7_checkpoint_32 rfl rfl ?_
      refine zx_iconst (pc := 33) dX7_checkpoint_33 ?_
      refine zi_X7_138 (pc := 34) dX7_checkpoint_34 (C_X7_refuse2 (by decide)) (by decide) (Nat.le_of_ble_eq_true rfl) (fun z34 h34 u34 v34 q34 => ?_)
      obtain ⟨rfl, e34⟩ := q34
      rw [e34]
      clear e34 h34
      refine zx_iret (pc := 37) dX7_checkpoint_37 (fun o => by first | exact o.1 _ (by decide) | exact o.2 _ _ | omega) ?_
      first | exact ⟨rfl, rfl⟩ | exact ⟨rfl, ps_ps _ _ _ _⟩
    · skip
      try replace c22 := b2i_n0.mp c22
      rw [ifp_t ⟨c9, c22⟩]
      have q := (ck_MS s0 (hp c9)).2.2.2
      refine zx_aload_n (pc := 25) dX7_checkpoint_25 rfl rfl ?_
      refine zi_X7_338 (pc := 26) dX7_checkpoint_26 (C_X7_makesCheckpoint s0 (hp c9)) (by decide) (Nat.le_of_ble_eq_true rfl) (fun z26 h26 u26 v26 q26 => ?_)
      obtain ⟨rfl, e26⟩ := q26
      rw [e26]
      clear e26 h26
      refine zx_if_ne (pc := 29) (tgt := 38) dX7_checkpoint_29 (by decide) (fun o => by first | exact o.1 _ (by decide) | exact o.2 _ _ | omega) (fun c29 => ?_) (fun c29 => ?_)
      · skip
        try replace c29 := b2i_n0.mp c29
        rw [ifp_t (by omega)]
        refine zx_aload_n (pc := 38) dX7_checkpoint_38 rfl rfl ?_
        refine zg_X7_89 (pc := 39) dX7_checkpoint_39 ?_
        refine zx_iret (pc := 42) dX7_checkpoint_42 (fun o => by first | exact o.1 _ (by decide) | exact o.2 _ _ | omega) ?_
        exact ⟨rfl, rfl⟩
      · skip
        try replace c29 := b2i_0.mp c29
        rw [ifp_f (by omega)]
        refine zx_aload_n (pc := 32) dX7_checkpoint_32 rfl rfl ?_
        refine zx_iconst (pc := 33) dX7_checkpoint_33 ?_
        refine zi_X7_138 (pc := 34) dX7_checkpoint_34 (C_X7_refuse2 (by decide)) (by decide) (Nat.le_of_ble_eq_true rfl) (fun z34 h34 u34 v34 q34 => ?_)
        obtain ⟨rfl, e34⟩ := q34
        rw [e34]
        clear e34 h34
        refine zx_iret (pc := 37) dX7_checkpoint_37 (fun o => by first | exact o.1 _ (by decide) | exact o.2 _ _ | omega) ?_
        first | exact ⟨rfl, rfl⟩ | exact ⟨rfl, ps_ps _ _ _ _⟩
theorem cnt_one (p : Int → Prop) (n : Nat) : 0 ≤ cnt p 1 n ∧ cnt p 1 n ≤ n := cnt_r p 1 n
set_option maxRecDepth 100000 in
theorem L_X7_openMany {h : zH} (h1 : 0 ≤ gs h 38) (h2 : gs h 38 ≤ 1000) (Q : Int → zH → Prop) (hQ : Q (mOpen h) h) : ∀ (n : Nat) (i c : Int), 1 ≤ i → i ≤ gs h 38 + 1 → gs h 38 + 1 - i < n → c = cnt (fun t => ga h 15 t = 1) 1 (i - 1).toNat → zX cM zNo RX7 cX7_openMany 3 (some .int) rX7_openMany 4 [some (.ref 0), some (.int (iI c)), some (.int (iI i))] [] h (zEi cM Q) := by
  intro n
  induction n with
  | zero => intro i c g1 g2 g3; omega
  | succ n ih =>
    intro i c g1 g2 g3 g4
    have g5 := cnt_r (fun t => ga h 15 t = 1) 1 (i - 1).toNat
    have g6 := cnt_next (p := fun t => ga h 15 t = 1) g1
    refine zx_iload_n (pc := 4) dX7_openMany_4 rfl rfl ?_
    refine zx_aload_n (pc := 5) dX7_openMany_5 rfl rfl ?_
    refine zg_X7_129 (pc := 6) dX7_openMany_6 ?_
    refine zx_icmp_gt (pc := 9) (tgt := 36) dX7_openMany_9 (by decide) (fun o => by first | exact o.1 _ (by decide) | exact o.2 _ _ | omega) (fun o => by first | exact o.1 _ (by decide) | exact o.2 _ _ | omega) (fun c9 => ?_) (fun c9 => ?_)
    · skip
      refine zx_iload_n (pc := 36) dX7_openMany_36 rfl rfl ?_
      refine zx_iret (pc := 37) dX7_openMany_37 (fun o => by first | exact o.1 _ (by decide) | exact o.2 _ _ | omega) ?_
      have e : i - 1 = gs h 38 := by omega
      rw [g4, e]
      exact hQ
    · skip
      refine zx_aload_n (pc := 12) dX7_openMany_12 rfl rfl ?_
      refine zg_X7_57 (pc := 13) dX7_openMany_13 ?_
      refine zx_iload_n (pc := 16) dX7_openMany_16 rfl rfl ?_
      refine zx_iaload (pc := 17) aX7_states dX7_openMany_17 (by omega) (by omega) (by omega) ?_
      refine zx_iconst (pc := 18) dX7_openMany_18 ?_
      refine zx_icmp_ne (pc := 19) (tgt := 28) dX7_openMany_19 (by decide) (fun o => by first | exact o.1 _ (by decide) | exact o.2 _ _ | omega) (fun o => by first | exact o.1 _ (by decide) | exact o.2 _ _ | omega) (fun c19 => ?_) (fun c19 => ?_)
      · skip
        refine zx_iload_n (pc := 28) dX7_openMany_28 rfl rfl ?_
        refine zx_istore_n (pc := 29) dX7_openMany_29 rfl (by decide) rfl ?_
        refine zx_iinc (pc := 30) dX7_openMany_30 (by decide) rfl rfl ?_
        refine zx_goto (pc := 33) (tgt := 4) dX7_openMany_33 (by decide) ?_
        exact ih (i + 1) _ (by omega) (by omega) (by omega) (by first | rw [g6, g4, b2i_t (by omega)] | rw [g6, g4, b2i_f (by omega), Int.add_zero])
      · skip
        refine zx_iload_n (pc := 22) dX7_openMany_22 rfl rfl ?_
        refine zx_iconst (pc := 23) dX7_openMany_23 ?_
        refine zx_iadd (pc := 24) dX7_openMany_24 ?_
        refine zx_goto (pc := 25) (tgt := 29) dX7_openMany_25 (by decide) ?_
        refine zx_istore_n (pc := 29) dX7_openMany_29 rfl (by decide) rfl ?_
        refine zx_iinc (pc := 30) dX7_openMany_30 (by decide) rfl rfl ?_
        refine zx_goto (pc := 33) (tgt := 4) dX7_openMany_33 (by decide) ?_
        exact ih (i + 1) _ (by omega) (by omega) (by omega) (by first | rw [g6, g4, b2i_t (by omega)] | rw [g6, g4, b2i_f (by omega), Int.add_zero])
set_option maxRecDepth 100000 in
theorem C_X7_openMany {h : zH} (h1 : 0 ≤ gs h 38) (h2 : gs h 38 ≤ 1000) : kX7_openMany h (fun r h2 => r = mOpen h ∧ h2 = h) := by
  apply eX7_openMany
  refine zx_iconst (pc := 0) dX7_openMany_0 ?_
  refine zx_istore_n (pc := 1) dX7_openMany_1 rfl (by decide) rfl ?_
  refine zx_iconst (pc := 2) dX7_openMany_2 ?_
  refine zx_istore_n (pc := 3) dX7_openMany_3 rfl (by decide) rfl ?_
  exact L_X7_openMany h1 h2 (fun r h2 => r = mOpen h ∧ h2 = h) ⟨rfl, rfl⟩ ((gs h 38).toNat + 2) 1 _ (Int.le_refl _) (by omega) (by omega) rfl
theorem mOpen_r {h : zH} : 0 ≤ mOpen h ∧ mOpen h ≤ (gs h 38).toNat := cnt_r _ _ _
theorem mLocks_r {h : zH} (t : Int) : 0 ≤ mLocks h t ∧ mLocks h t ≤ (gs h 3).toNat := cnt_r _ _ _
set_option maxRecDepth 100000 in
theorem L_X7_locksOf {h : zH} (hb : MB h) {a1 : Int} (r1 : -2147483648 ≤ a1 ∧ a1 < 2147483648) (Q : Int → zH → Prop) (hQ : Q (mLocks h a1) h) : ∀ (n : Nat) (i c : Int), 0 ≤ i → i ≤ gs h 3 → gs h 3 - i < n → c = cnt (fun p => ga h 11 p = a1) 0 (i - 0).toNat → zX cM zNo RX7 cX7_locksOf 4 (some .int) rX7_locksOf 4 [some (.ref 0), some (.int (iI a1)), some (.int (iI c)), some (.int (iI i))] [] h (zEi cM Q) := by
  obtain ⟨m1, m2, m3, m4, m5, m6⟩ := hb
  intro n
  induction n with
  | zero => intro i c g1 g2 g3; omega
  | succ n ih =>
    intro i c g1 g2 g3 g4
    have g5 := cnt_r (fun p => ga h 11 p = a1) 0 (i - 0).toNat
    have g6 := cnt_next (p := fun p => ga h 11 p = a1) g1
    refine zx_iload_n (pc := 4) dX7_locksOf_4 rfl rfl ?_
    refine zx_aload_n (pc := 5) dX7_locksOf_5 rfl rfl ?_
    refine zg_X7_72 (pc := 6) dX7_locksOf_6 ?_
    refine zx_icmp_ge (pc := 9) (tgt := 36) dX7_locksOf_9 (by decide) (fun o => by first | exact o.1 _ (by decide) | exact o.2 _ _ | omega) (fun o => by first | exact o.1 _ (by decide) | exact o.2 _ _ | omega) (fun c9 => ?_) (fun c9 => ?_)
    · skip
      refine zx_iload_n (pc := 36) dX7_locksOf_36 rfl rfl ?_
      refine zx_iret (pc := 37) dX7_locksOf_37 (fun o => by first | exact o.1 _ (by decide) | exact o.2 _ _ | omega) ?_
      have e : i - 0 = gs h 3 := by omega
      rw [g4, e]
      exact hQ
    · skip
      refine zx_aload_n (pc := 12) dX7_locksOf_12 rfl rfl ?_
      refine zg_X7_40 (pc := 13) dX7_locksOf_13 ?_
      refine zx_iload_n (pc := 16) dX7_locksOf_16 rfl rfl ?_
      refine zx_iaload (pc := 17) aX7_locker dX7_locksOf_17 (by omega) (by omega) (by omega) ?_
      refine zx_iload_n (pc := 18) dX7_locksOf_18 rfl rfl ?_
      refine zx_icmp_ne (pc := 19) (tgt := 28) dX7_locksOf_19 (by decide) (fun o => by first | exact o.1 _ (by decide) | exact o.2 _ _ | omega) (fun o => by first | exact o.1 _ (by decide) | exact o.2 _ _ | omega) (fun c19 => ?_) (fun c19 => ?_)
      · skip
        refine zx_iload_n (pc := 28) dX7_locksOf_28 rfl rfl ?_
        refine zx_istore_n (pc := 29) dX7_locksOf_29 rfl (by decide) rfl ?_
        refine zx_iinc (pc := 30) dX7_locksOf_30 (by decide) rfl rfl ?_
        refine zx_goto (pc := 33) (tgt := 4) dX7_locksOf_33 (by decide) ?_
        exact ih (i + 1) _ (by omega) (by omega) (by omega) (by first | rw [g6, g4, b2i_t (by omega)] | rw [g6, g4, b2i_f (by omega), Int.add_zero])
      · skip
        refine zx_iload_n (pc := 22) dX7_locksOf_22 rfl rfl ?_
        refine zx_iconst (pc := 23) dX7_locksOf_23 ?_
        refine zx_iadd (pc := 24) dX7_locksOf_24 ?_
        refine zx_goto (pc := 25) (tgt := 29) dX7_locksOf_25 (by decide) ?_
        refine zx_istore_n (pc := 29) dX7_locksOf_29 rfl (by decide) rfl ?_
        refine zx_iinc (pc := 30) dX7_locksOf_30 (by decide) rfl rfl ?_
        refine zx_goto (pc := 33) (tgt := 4) dX7_locksOf_33 (by decide) ?_
        exact ih (i + 1) _ (by omega) (by omega) (by omega) (by first | rw [g6, g4, b2i_t (by omega)] | rw [g6, g4, b2i_f (by omega), Int.add_zero])
set_option maxRecDepth 100000 in
theorem C_X7_locksOf {h : zH} (hb : MB h) {a1 : Int} (r1 : -2147483648 ≤ a1 ∧ a1 < 2147483648) : kX7_locksOf a1 h (fun r h2 => r = mLocks h a1 ∧ h2 = h) := by
  apply eX7_locksOf
  refine zx_iconst (pc := 0) dX7_locksOf_0 ?_
  refine zx_istore_n (pc := 1) dX7_locksOf_1 rfl (by decide) rfl ?_
  refine zx_iconst (pc := 2) dX7_locksOf_2 ?_
  refine zx_istore_n (pc := 3) dX7_locksOf_3 rfl (by decide) rfl ?_
  exact L_X7_locksOf hb r1 (fun r h2 => r = mLocks h a1 ∧ h2 = h) ⟨rfl, rfl⟩ 65 0 _ (Int.le_refl _) hb.2.2.2.2.1 (by have := hb.2.2.2.2.2; omega) rfl
theorem unl_0 (h : zH) (t : Int) : m_unl h t 0 = h := by
  apply zH_ext
  · intro k; rfl
  · intro c j
    rw [ga_unl, if_neg (by omega)]
theorem unl_y (h : zH) {t n : Int} (h0 : 0 ≤ n) (e : ga h 11 n = t) : pa (pa (m_unl h t n) 11 n 0) 12 n 0 = m_unl h t (n + 1) := by
  apply zH_ext
  · intro k; rfl
  · intro c j
    simp only [ga_pa, ga_unl]
    by_cases hj : j = n
    · subst hj
      by_cases c1 : c = 12
      · rw [if_pos ⟨c1, rfl⟩, if_pos (by omega)]
      · rw [if_neg (by omega)]
        by_cases c2 : c = 11
        · rw [if_pos (by omega), if_pos (by omega)]
        · rw [if_neg (by omega), if_neg (by omega), if_neg (by omega)]
    · rw [if_neg (by omega), if_neg (by omega)]
      by_cases q : (c = 11 ∨ c = 12) ∧ 0 ≤ j ∧ j < n ∧ ga h 11 j = t
      · rw [if_pos q, if_pos (by omega)]
      · rw [if_neg q, if_neg (by omega)]
theorem unl_n (h : zH) {t n : Int} (e : ga h 11 n ≠ t) : m_unl h t n = m_unl h t (n + 1) := by
  apply zH_ext
  · intro k; rfl
  · intro c j
    simp only [ga_unl]
    by_cases hj : j = n
    · subst hj
      rw [if_neg (by omega), if_neg (by omega)]
    · by_cases q : (c = 11 ∨ c = 12) ∧ 0 ≤ j ∧ j < n ∧ ga h 11 j = t
      · rw [if_pos q, if_pos (by omega)]
      · rw [if_neg q, if_neg (by omega)]
set_option maxRecDepth 100000 in
theorem L_X7_unlocks {h : zH} (hb : MB h) {a1 : Int} (r1 : -2147483648 ≤ a1 ∧ a1 < 2147483648) : ∀ (n : Nat) (i : Int), 0 ≤ i → i ≤ gs h 3 → gs h 3 - i < n → zX cM zNo RX7 cX7_unlocks 3 none rX7_unlocks 2 [some (.ref 0), some (.int (iI a1)), some (.int (iI i))] [] (m_unl h a1 i) (zEv cM (fun h2 => h2 = m_unl h a1 (gs h 3))) := by
  obtain ⟨m1, m2, m3, m4, m5, m6⟩ := hb
  intro n
  induction n with
  | zero => intro i g1 g2 g3; omega
  | succ n ih =>
    intro i g1 g2 g3
    have e3 : gs (m_unl h a1 i) 3 = gs h 3 := rfl
    have e11 : ga (m_unl h a1 i) 11 i = ga h 11 i := by rw [ga_unl, if_neg (by omega)]
    refine zx_iload_n (pc := 2) dX7_unlocks_2 rfl rfl ?_
    refine zx_aload_n (pc := 3) dX7_unlocks_3 rfl rfl ?_
    refine zg_X7_72 (pc := 4) dX7_unlocks_4 ?_
    refine zx_icmp_ge (pc := 7) (tgt := 40) dX7_unlocks_7 (by decide) (fun o => by first | exact o.1 _ (by decide) | exact o.2 _ _ | omega) (fun o => by first | exact o.1 _ (by decide) | exact o.2 _ _ | omega) (fun c7 => ?_) (fun c7 => ?_)
    · skip
      rw [e3] at c7
      refine zx_vret (pc := 40) dX7_unlocks_40 ?_
      have e : i = gs h 3 := by omega
      rw [e]
    · skip
      rw [e3] at c7
      refine zx_aload_n (pc := 10) dX7_unlocks_10 rfl rfl ?_
      refine zg_X7_40 (pc := 11) dX7_unlocks_11 ?_
      refine zx_iload_n (pc := 14) dX7_unlocks_14 rfl rfl ?_
      refine zx_iaload (pc := 15) aX7_locker dX7_unlocks_15 (by omega) (by omega) (by omega) ?_
      refine zx_iload_n (pc := 16) dX7_unlocks_16 rfl rfl ?_
      refine zx_icmp_ne (pc := 17) (tgt := 34) dX7_unlocks_17 (by decide) (fun o => by first | exact o.1 _ (by decide) | exact o.2 _ _ | omega) (fun o => by first | exact o.1 _ (by decide) | exact o.2 _ _ | omega) (fun c17 => ?_) (fun c17 => ?_)
      · skip
        rw [e11] at c17
        rw [unl_n h c17]
        try rw [unl_y h g1 c17]
        refine zx_iinc (pc := 34) dX7_unlocks_34 (by decide) rfl rfl ?_
        refine zx_goto (pc := 37) (tgt := 2) dX7_unlocks_37 (by decide) ?_
        exact ih (i + 1) (by omega) (by omega) (by omega)
      · skip
        rw [e11] at c17
        refine zx_aload_n (pc := 20) dX7_unlocks_20 rfl rfl ?_
        refine zg_X7_40 (pc := 21) dX7_unlocks_21 ?_
        refine zx_iload_n (pc := 24) dX7_unlocks_24 rfl rfl ?_
        refine zx_iconst (pc := 25) dX7_unlocks_25 ?_
        refine zx_iastore (pc := 26) aX7_locker dX7_unlocks_26 (by omega) (by omega) (by omega) (fun o => by first | exact o.1 _ (by decide) | exact o.2 _ _ | omega) ?_
        refine zx_aload_n (pc := 27) dX7_unlocks_27 rfl rfl ?_
        refine zg_X7_43 (pc := 28) dX7_unlocks_28 ?_
        refine zx_iload_n (pc := 31) dX7_unlocks_31 rfl rfl ?_
        refine zx_iconst (pc := 32) dX7_unlocks_32 ?_
        refine zx_iastore (pc := 33) aX7_shadow dX7_unlocks_33 (by omega) (by omega) (by omega) (fun o => by first | exact o.1 _ (by decide) | exact o.2 _ _ | omega) ?_
        try rw [unl_y h g1 c17]
        refine zx_iinc (pc := 34) dX7_unlocks_34 (by decide) rfl rfl ?_
        refine zx_goto (pc := 37) (tgt := 2) dX7_unlocks_37 (by decide) ?_
        exact ih (i + 1) (by omega) (by omega) (by omega)
set_option maxRecDepth 100000 in
theorem C_X7_unlocks {h : zH} (hb : MB h) {a1 : Int} (r1 : -2147483648 ≤ a1 ∧ a1 < 2147483648) : kX7_unlocks a1 h (fun h2 => h2 = m_unl h a1 (gs h 3)) := by
  apply eX7_unlocks
  refine zx_iconst (pc := 0) dX7_unlocks_0 ?_
  refine zx_istore_n (pc := 1) dX7_unlocks_1 rfl (by decide) rfl ?_
  have r := L_X7_unlocks hb r1 65 0 (Int.le_refl _) hb.2.2.2.2.1 (by have := hb.2.2.2.2.2; omega)
  rw [unl_0] at r
  exact r
set_option maxRecDepth 100000 in
theorem C_X7_begin {h : zH} (h1 : 0 ≤ gs h 38) (h2 : gs h 38 ≤ 1000) : kX7_begin h (fun r h2 => r = (m_begin h).2 ∧ h2 = (m_begin h).1) := by
  have q := mOpen_r (h := h)
  have e26 : gs (ps h 0 0) 26 = gs h 26 := rfl
  have e38 : gs (ps h 0 0) 38 = gs h 38 := rfl
  have eo : mOpen (ps h 0 0) = mOpen h := rfl
  have e39 : gs (ps (ps h 0 0) 38 (gs (ps h 0 0) 38 + 1)) 38 = gs h 38 + 1 := rfl
  apply eX7_begin
  unfold m_begin
  refine zx_aload_n (pc := 0) dX7_begin_0 rfl rfl ?_
  refine zx_iconst (pc := 1) dX7_begin_1 ?_
  refine zp_X7_69 (pc := 2) dX7_begin_2 (fun o => by first | exact o.1 _ (by decide) | exact o.2 _ _ | omega) ?_
  refine zx_aload_n (pc := 5) dX7_begin_5 rfl rfl ?_
  refine zg_X7_104 (pc := 6) dX7_begin_6 ?_
  refine zx_if_eq (pc := 9) (tgt := 31) dX7_begin_9 (by decide) (fun o => by first | exact o.1 _ (by decide) | exact o.2 _ _ | omega) (fun c9 => ?_) (fun c9 => ?_)
  · skip
    refine zx_aload_n (pc := 31) dX7_begin_31 rfl rfl ?_
    refine zx_iconst (pc := 32) dX7_begin_32 ?_
    refine zi_X7_138 (pc := 33) dX7_begin_33 (C_X7_refuse2 (by decide)) (by decide) (Nat.le_of_ble_eq_true rfl) (fun z33 h33 u33 v33 q33 => ?_)
    obtain ⟨rfl, e33⟩ := q33
    rw [e33]
    clear e33 h33
    refine zx_iret (pc := 36) dX7_begin_36 (fun o => by first | exact o.1 _ (by decide) | exact o.2 _ _ | omega) ?_
    rw [ifp_t (by omega)]
    exact ⟨rfl, ps_ps _ _ _ _⟩
  · skip
    refine zx_aload_n (pc := 12) dX7_begin_12 rfl rfl ?_
    refine zi_X7_344 (pc := 13) dX7_begin_13 (C_X7_openMany (h := ps h 0 0) h1 h2) (by decide) (Nat.le_of_ble_eq_true rfl) (fun z13 h13 u13 v13 q13 => ?_)
    obtain ⟨rfl, e13⟩ := q13
    rw [e13]
    clear e13 h13
    refine zx_bipush (pc := 16) dX7_begin_16 (by decide +kernel) ?_
    refine zx_icmp_eq (pc := 18) (tgt := 31) dX7_begin_18 (by decide) (fun o => by first | exact o.1 _ (by decide) | exact o.2 _ _ | omega) (fun o => by first | exact o.1 _ (by decide) | exact o.2 _ _ | omega) (fun c18 => ?_) (fun c18 => ?_)
    · skip
      refine zx_aload_n (pc := 31) dX7_begin_31 rfl rfl ?_
      refine zx_iconst (pc := 32) dX7_begin_32 ?_
      refine zi_X7_138 (pc := 33) dX7_begin_33 (C_X7_refuse2 (by decide)) (by decide) (Nat.le_of_ble_eq_true rfl) (fun z33 h33 u33 v33 q33 => ?_)
      obtain ⟨rfl, e33⟩ := q33
      rw [e33]
      clear e33 h33
      refine zx_iret (pc := 36) dX7_begin_36 (fun o => by first | exact o.1 _ (by decide) | exact o.2 _ _ | omega) ?_
      rw [ifp_t (by omega)]
      exact ⟨rfl, ps_ps _ _ _ _⟩
    · skip
      refine zx_aload_n (pc := 21) dX7_begin_21 rfl rfl ?_
      refine zg_X7_129 (pc := 22) dX7_begin_22 ?_
      refine zx_sipush (pc := 25) dX7_begin_25 (by decide +kernel) ?_
      refine zx_icmp_ne (pc := 28) (tgt := 37) dX7_begin_28 (by decide) (fun o => by first | exact o.1 _ (by decide) | exact o.2 _ _ | omega) (fun o => by first | exact o.1 _ (by decide) | exact o.2 _ _ | omega) (fun c28 => ?_) (fun c28 => ?_)
      · skip
        refine zx_aload_n (pc := 37) dX7_begin_37 rfl rfl ?_
        refine zx_aload_n (pc := 38) dX7_begin_38 rfl rfl ?_
        refine zg_X7_129 (pc := 39) dX7_begin_39 ?_
        refine zx_iconst (pc := 42) dX7_begin_42 ?_
        refine zx_iadd (pc := 43) dX7_begin_43 ?_
        refine zp_X7_129 (pc := 44) dX7_begin_44 (fun o => by first | exact o.1 _ (by decide) | exact o.2 _ _ | omega) ?_
        refine zx_aload_n (pc := 47) dX7_begin_47 rfl rfl ?_
        refine zg_X7_57 (pc := 48) dX7_begin_48 ?_
        refine zx_aload_n (pc := 51) dX7_begin_51 rfl rfl ?_
        refine zg_X7_129 (pc := 52) dX7_begin_52 ?_
        refine zx_iconst (pc := 55) dX7_begin_55 ?_
        refine zx_iastore (pc := 56) aX7_states dX7_begin_56 (by omega) (by omega) (by omega) (fun o => by first | exact o.1 _ (by decide) | exact o.2 _ _ | omega) ?_
        refine zx_aload_n (pc := 57) dX7_begin_57 rfl rfl ?_
        refine zg_X7_129 (pc := 58) dX7_begin_58 ?_
        refine zx_iret (pc := 61) dX7_begin_61 (fun o => by first | exact o.1 _ (by decide) | exact o.2 _ _ | omega) ?_
        rw [ifp_f (by omega)]
        exact ⟨rfl, rfl⟩
      · skip
        refine zx_aload_n (pc := 31) dX7_begin_31 rfl rfl ?_
        refine zx_iconst (pc := 32) dX7_begin_32 ?_
        refine zi_X7_138 (pc := 33) dX7_begin_33 (C_X7_refuse2 (by decide)) (by decide) (Nat.le_of_ble_eq_true rfl) (fun z33 h33 u33 v33 q33 => ?_)
        obtain ⟨rfl, e33⟩ := q33
        rw [e33]
        clear e33 h33
        refine zx_iret (pc := 36) dX7_begin_36 (fun o => by first | exact o.1 _ (by decide) | exact o.2 _ _ | omega) ?_
        rw [ifp_t (by omega)]
        exact ⟨rfl, ps_ps _ _ _ _⟩
theorem mTx_0 (h : zH) (v t : Int) : mTx (ps h 0 v) t ↔ mTx h t := Iff.rfl
theorem mLg_0 (h : zH) (v p : Int) : (0 ≤ p ∧ p < gs (ps h 0 v) 3) ↔ mLg h p := Iff.rfl
theorem mAct_0 (h : zH) (v t : Int) : mAct (ps h 0 v) t ↔ mAct h t := Iff.rfl
theorem g11_0 (h : zH) (v : Int) (p : Int) : ga (ps h 0 v) 11 p = ga h 11 p := rfl
set_option maxRecDepth 100000 in
theorem C_X7_write {h : zH} {u : Int → Int} (s : MS h u) (hp : gs h 26 ≠ 0 → 0 < gs h 2) (h1 : 0 ≤ gs h 38) (h2 : gs h 38 ≤ 1000) {a1 a2 a3 : Int} (r1 : -2147483648 ≤ a1 ∧ a1 < 2147483648) (r2 : -2147483648 ≤ a2 ∧ a2 < 2147483648) (r3 : -2147483648 ≤ a3 ∧ a3 < 2147483648) : kX7_write a1 a2 a3 h (fun r h2 => r = (m_write h a1 a2 a3).2 ∧ h2 = (m_write h a1 a2 a3).1) := by
  have s0 := MS_0 s 0
  have hL := s.1.2.2.2.2
  apply eX7_write
  unfold m_write
  refine zx_ok (fun ok => ?_)
  refine zx_aload_n (pc := 0) dX7_write_0 rfl rfl ?_
  refine zx_iconst (pc := 1) dX7_write_1 ?_
  refine zp_X7_69 (pc := 2) dX7_write_2 (fun o => by first | exact o.1 _ (by decide) | exact o.2 _ _ | omega) ?_
  refine zx_iload_n (pc := 5) dX7_write_5 rfl rfl ?_
  refine zx_if_eq (pc := 6) (tgt := 17) dX7_write_6 (by decide) (fun o => by first | exact o.1 _ (by decide) | exact o.2 _ _ | omega) (fun c6 => ?_) (fun c6 => ?_)
  · skip
    refine zx_aload_n (pc := 17) dX7_write_17 rfl rfl ?_
    refine zx_iload_n (pc := 18) dX7_write_18 rfl rfl ?_
    refine zi_X7_359 (pc := 19) dX7_write_19 (C_X7_isLogical s0.1 r2) (by decide) (Nat.le_of_ble_eq_true rfl) (fun z19 h19 u19 v19 q19 => ?_)
    obtain ⟨rfl, e19⟩ := q19
    rw [e19]
    clear e19 h19
    refine zx_if_ne (pc := 22) (tgt := 31) dX7_write_22 (by decide) (fun o => by first | exact o.1 _ (by decide) | exact o.2 _ _ | omega) (fun c22 => ?_) (fun c22 => ?_)
    · skip
      try replace c22 := b2i_n0.mp c22
      rw [mLg_0] at c22
      rw [ifp_f (by grind)]
      have c22a := c22
      unfold mLg at c22a
      refine zx_iload_n (pc := 31) dX7_write_31 rfl rfl ?_
      refine zx_iconst (pc := 32) dX7_write_32 ?_
      refine zx_ldc (pc := 33) (n := 999999) dX7_write_33 (by rw [show iI 999999 = (999999 : Int32) by decide +kernel]; exact zo_X7_230) ?_
      refine zi_X7_85 (pc := 35) dX7_write_35 (C_X7_in r3 (by decide) (by decide)) (by decide) (Nat.le_of_ble_eq_true rfl) (fun z35 h35 u35 v35 q35 => ?_)
      obtain ⟨rfl, e35⟩ := q35
      rw [e35]
      clear e35 h35
      refine zx_if_ne (pc := 38) (tgt := 47) dX7_write_38 (by decide) (fun o => by first | exact o.1 _ (by decide) | exact o.2 _ _ | omega) (fun c38 => ?_) (fun c38 => ?_)
      · skip
        try replace c38 := b2i_n0.mp c38
        rw [ifp_f (by grind)]
        refine zx_aload_n (pc := 47) dX7_write_47 rfl rfl ?_
        refine zx_iload_n (pc := 48) dX7_write_48 rfl rfl ?_
        refine zi_X7_362 (pc := 49) dX7_write_49 (C_X7_canAct (by first | omega | (unfold mTx at *; omega)) (by first | omega | (unfold mTx at *; omega))) (by decide) (Nat.le_of_ble_eq_true rfl) (fun z49 h49 u49 v49 q49 => ?_)
        obtain ⟨rfl, e49⟩ := q49
        rw [e49]
        clear e49 h49
        refine zx_if_eq (pc := 52) (tgt := 74) dX7_write_52 (by decide) (fun o => by first | exact o.1 _ (by decide) | exact o.2 _ _ | omega) (fun c52 => ?_) (fun c52 => ?_)
        · skip
          try replace c52 := b2i_0.mp c52
          rw [mAct_0] at c52
          rw [ifp_t (Or.inl c52)]
          refine zx_aload_n (pc := 74) dX7_write_74 rfl rfl ?_
          refine zx_iconst (pc := 75) dX7_write_75 ?_
          refine zi_X7_138 (pc := 76) dX7_write_76 (C_X7_refuse2 (by decide)) (by decide) (Nat.le_of_ble_eq_true rfl) (fun z76 h76 u76 v76 q76 => ?_)
          obtain ⟨rfl, e76⟩ := q76
          rw [e76]
          clear e76 h76
          refine zx_iret (pc := 79) dX7_write_79 (fun o => by first | exact o.1 _ (by decide) | exact o.2 _ _ | omega) ?_
          first | exact ⟨rfl, rfl⟩ | exact ⟨rfl, ps_ps _ _ _ _⟩
        · skip
          try replace c52 := b2i_n0.mp c52
          rw [mAct_0] at c52
          refine zx_aload_n (pc := 55) dX7_write_55 rfl rfl ?_
          refine zg_X7_40 (pc := 56) dX7_write_56 ?_
          refine zx_iload_n (pc := 59) dX7_write_59 rfl rfl ?_
          refine zx_iaload (pc := 60) aX7_locker dX7_write_60 (by omega) (by omega) (by omega) ?_
          refine zx_if_eq (pc := 61) (tgt := 80) dX7_write_61 (by decide) (fun o => by first | exact o.1 _ (by decide) | exact o.2 _ _ | omega) (fun c61 => ?_) (fun c61 => ?_)
          · skip
            rw [g11_0] at c61
            rw [ifp_f (by grind)]
            refine zx_iload_n (pc := 80) dX7_write_80 rfl rfl ?_
            refine zx_if_ne (pc := 81) (tgt := 93) dX7_write_81 (by decide) (fun o => by first | exact o.1 _ (by decide) | exact o.2 _ _ | omega) (fun c81 => ?_) (fun c81 => ?_)
            · skip
              rw [ifp_f c81]
              unfold m_wres
              refine zx_aload_n (pc := 93) dX7_write_93 rfl rfl ?_
              refine zx_iload_n (pc := 94) dX7_write_94 rfl rfl ?_
              refine zx_iload_n (pc := 95) dX7_write_95 rfl rfl ?_
              refine zx_iload_n (pc := 96) dX7_write_96 rfl rfl ?_
              refine zi_X7_365 (pc := 97) dX7_write_97 (C_X7_writesIn s0 (hp c52.1) r1 c22.1 c22.2 r3) (by decide) (Nat.le_of_ble_eq_true rfl) (fun z97 h97 u97 v97 q97 => ?_)
              obtain ⟨rfl, e97⟩ := q97
              rw [e97]
              clear e97 h97
              refine zx_istore (pc := 100) dX7_write_100 (by decide) rfl ?_
              refine zx_iload (pc := 102) dX7_write_102 rfl ?_
              refine zx_if_ne (pc := 104) (tgt := 115) dX7_write_104 (by decide) (fun o => by first | exact o.1 _ (by decide) | exact o.2 _ _ | omega) (fun c104 => ?_) (fun c104 => ?_)
              · skip
                rw [ifp_f c104]
                refine zx_iload (pc := 115) dX7_write_115 rfl ?_
                refine zx_iret (pc := 117) dX7_write_117 (fun o => by first | exact o.1 _ (by decide) | exact o.2 _ _ | omega) ?_
                first | exact ⟨rfl, rfl⟩ | exact ⟨rfl, ps_ps _ _ _ _⟩
              · skip
                rw [ifp_t c104]
                refine zx_aload_n (pc := 107) dX7_write_107 rfl rfl ?_
                refine zx_iconst (pc := 108) dX7_write_108 ?_
                refine zi_X7_138 (pc := 109) dX7_write_109 (C_X7_refuse2 (by decide)) (by decide) (Nat.le_of_ble_eq_true rfl) (fun z109 h109 u109 v109 q109 => ?_)
                obtain ⟨rfl, e109⟩ := q109
                rw [e109]
                clear e109 h109
                refine zx_goto (pc := 112) (tgt := 117) dX7_write_112 (by decide) ?_
                refine zx_iret (pc := 117) dX7_write_117 (fun o => by first | exact o.1 _ (by decide) | exact o.2 _ _ | omega) ?_
                first | exact ⟨rfl, rfl⟩ | exact ⟨rfl, ps_ps _ _ _ _⟩
            · skip
              rw [ifp_t c81]
              unfold m_wres
              refine zx_aload_n (pc := 84) dX7_write_84 rfl rfl ?_
              refine zx_iload_n (pc := 85) dX7_write_85 rfl rfl ?_
              refine zx_iload_n (pc := 86) dX7_write_86 rfl rfl ?_
              refine zi_X7_254 (pc := 87) dX7_write_87 (C_X7_writesOutside s0 (hp c52.1) c22.1 c22.2 r3) (by decide) (Nat.le_of_ble_eq_true rfl) (fun z87 h87 u87 v87 q87 => ?_)
              obtain ⟨rfl, e87⟩ := q87
              rw [e87]
              clear e87 h87
              refine zx_goto (pc := 90) (tgt := 100) dX7_write_90 (by decide) ?_
              refine zx_istore (pc := 100) dX7_write_100 (by decide) rfl ?_
              refine zx_iload (pc := 102) dX7_write_102 rfl ?_
              refine zx_if_ne (pc := 104) (tgt := 115) dX7_write_104 (by decide) (fun o => by first | exact o.1 _ (by decide) | exact o.2 _ _ | omega) (fun c104 => ?_) (fun c104 => ?_)
              · skip
                rw [ifp_f c104]
                refine zx_iload (pc := 115) dX7_write_115 rfl ?_
                refine zx_iret (pc := 117) dX7_write_117 (fun o => by first | exact o.1 _ (by decide) | exact o.2 _ _ | omega) ?_
                first | exact ⟨rfl, rfl⟩ | exact ⟨rfl, ps_ps _ _ _ _⟩
              · skip
                rw [ifp_t c104]
                refine zx_aload_n (pc := 107) dX7_write_107 rfl rfl ?_
                refine zx_iconst (pc := 108) dX7_write_108 ?_
                refine zi_X7_138 (pc := 109) dX7_write_109 (C_X7_refuse2 (by decide)) (by decide) (Nat.le_of_ble_eq_true rfl) (fun z109 h109 u109 v109 q109 => ?_)
                obtain ⟨rfl, e109⟩ := q109
                rw [e109]
                clear e109 h109
                refine zx_goto (pc := 112) (tgt := 117) dX7_write_112 (by decide) ?_
                refine zx_iret (pc := 117) dX7_write_117 (fun o => by first | exact o.1 _ (by decide) | exact o.2 _ _ | omega) ?_
                first | exact ⟨rfl, rfl⟩ | exact ⟨rfl, ps_ps _ _ _ _⟩
          · skip
            rw [g11_0] at c61
            refine zx_aload_n (pc := 64) dX7_write_64 rfl rfl ?_
            refine zg_X7_40 (pc := 65) dX7_write_65 ?_
            refine zx_iload_n (pc := 68) dX7_write_68 rfl rfl ?_
            refine zx_iaload (pc := 69) aX7_locker dX7_write_69 (by omega) (by omega) (by omega) ?_
            refine zx_iload_n (pc := 70) dX7_write_70 rfl rfl ?_
            refine zx_icmp_eq (pc := 71) (tgt := 80) dX7_write_71 (by decide) (fun o => by first | exact o.1 _ (by decide) | exact o.2 _ _ | omega) (fun o => by first | exact o.1 _ (by decide) | exact o.2 _ _ | omega) (fun c71 => ?_) (fun c71 => ?_)
            · skip
              rw [g11_0] at c71
              rw [ifp_f (by grind)]
              refine zx_iload_n (pc := 80) dX7_write_80 rfl rfl ?_
              refine zx_if_ne (pc := 81) (tgt := 93) dX7_write_81 (by decide) (fun o => by first | exact o.1 _ (by decide) | exact o.2 _ _ | omega) (fun c81 => ?_) (fun c81 => ?_)
              · skip
                rw [ifp_f c81]
                unfold m_wres
                refine zx_aload_n (pc := 93) dX7_write_93 rfl rfl ?_
                refine zx_iload_n (pc := 94) dX7_write_94 rfl rfl ?_
                refine zx_iload_n (pc := 95) dX7_write_95 rfl rfl ?_
                refine zx_iload_n (pc := 96) dX7_write_96 rfl rfl ?_
                refine zi_X7_365 (pc := 97) dX7_write_97 (C_X7_writesIn s0 (hp c52.1) r1 c22.1 c22.2 r3) (by decide) (Nat.le_of_ble_eq_true rfl) (fun z97 h97 u97 v97 q97 => ?_)
                obtain ⟨rfl, e97⟩ := q97
                rw [e97]
                clear e97 h97
                refine zx_istore (pc := 100) dX7_write_100 (by decide) rfl ?_
                refine zx_iload (pc := 102) dX7_write_102 rfl ?_
                refine zx_if_ne (pc := 104) (tgt := 115) dX7_write_104 (by decide) (fun o => by first | exact o.1 _ (by decide) | exact o.2 _ _ | omega) (fun c104 => ?_) (fun c104 => ?_)
                · skip
                  rw [ifp_f c104]
                  refine zx_iload (pc := 115) dX7_write_115 rfl ?_
                  refine zx_iret (pc := 117) dX7_write_117 (fun o => by first | exact o.1 _ (by decide) | exact o.2 _ _ | omega) ?_
                  first | exact ⟨rfl, rfl⟩ | exact ⟨rfl, ps_ps _ _ _ _⟩
                · skip
                  rw [ifp_t c104]
                  refine zx_aload_n (pc := 107) dX7_write_107 rfl rfl ?_
                  refine zx_iconst (pc := 108) dX7_write_108 ?_
                  refine zi_X7_138 (pc := 109) dX7_write_109 (C_X7_refuse2 (by decide)) (by decide) (Nat.le_of_ble_eq_true rfl) (fun z109 h109 u109 v109 q109 => ?_)
                  obtain ⟨rfl, e109⟩ := q109
                  rw [e109]
                  clear e109 h109
                  refine zx_goto (pc := 112) (tgt := 117) dX7_write_112 (by decide) ?_
                  refine zx_iret (pc := 117) dX7_write_117 (fun o => by first | exact o.1 _ (by decide) | exact o.2 _ _ | omega) ?_
                  first | exact ⟨rfl, rfl⟩ | exact ⟨rfl, ps_ps _ _ _ _⟩
              · skip
                rw [ifp_t c81]
                unfold m_wres
                refine zx_aload_n (pc := 84) dX7_write_84 rfl rfl ?_
                refine zx_iload_n (pc := 85) dX7_write_85 rfl rfl ?_
                refine zx_iload_n (pc := 86) dX7_write_86 rfl rfl ?_
                refine zi_X7_254 (pc := 87) dX7_write_87 (C_X7_writesOutside s0 (hp c52.1) c22.1 c22.2 r3) (by decide) (Nat.le_of_ble_eq_true rfl) (fun z87 h87 u87 v87 q87 => ?_)
                obtain ⟨rfl, e87⟩ := q87
                rw [e87]
                clear e87 h87
                refine zx_goto (pc := 90) (tgt := 100) dX7_write_90 (by decide) ?_
                refine zx_istore (pc := 100) dX7_write_100 (by decide) rfl ?_
                refine zx_iload (pc := 102) dX7_write_102 rfl ?_
                refine zx_if_ne (pc := 104) (tgt := 115) dX7_write_104 (by decide) (fun o => by first | exact o.1 _ (by decide) | exact o.2 _ _ | omega) (fun c104 => ?_) (fun c104 => ?_)
                · skip
                  rw [ifp_f c104]
                  refine zx_iload (pc := 115) dX7_write_115 rfl ?_
                  refine zx_iret (pc := 117) dX7_write_117 (fun o => by first | exact o.1 _ (by decide) | exact o.2 _ _ | omega) ?_
                  first | exact ⟨rfl, rfl⟩ | exact ⟨rfl, ps_ps _ _ _ _⟩
                · skip
                  rw [ifp_t c104]
                  refine zx_aload_n (pc := 107) dX7_write_107 rfl rfl ?_
                  refine zx_iconst (pc := 108) dX7_write_108 ?_
                  refine zi_X7_138 (pc := 109) dX7_write_109 (C_X7_refuse2 (by decide)) (by decide) (Nat.le_of_ble_eq_true rfl) (fun z109 h109 u109 v109 q109 => ?_)
                  obtain ⟨rfl, e109⟩ := q109
                  rw [e109]
                  clear e109 h109
                  refine zx_goto (pc := 112) (tgt := 117) dX7_write_112 (by decide) ?_
                  refine zx_iret (pc := 117) dX7_write_117 (fun o => by first | exact o.1 _ (by decide) | exact o.2 _ _ | omega) ?_
                  first | exact ⟨rfl, rfl⟩ | exact ⟨rfl, ps_ps _ _ _ _⟩
            · skip
              rw [g11_0] at c71
              rw [ifp_t (Or.inr ⟨c61, c71⟩)]
              refine zx_aload_n (pc := 74) dX7_write_74 rfl rfl ?_
              refine zx_iconst (pc := 75) dX7_write_75 ?_
              refine zi_X7_138 (pc := 76) dX7_write_76 (C_X7_refuse2 (by decide)) (by decide) (Nat.le_of_ble_eq_true rfl) (fun z76 h76 u76 v76 q76 => ?_)
              obtain ⟨rfl, e76⟩ := q76
              rw [e76]
              clear e76 h76
              refine zx_iret (pc := 79) dX7_write_79 (fun o => by first | exact o.1 _ (by decide) | exact o.2 _ _ | omega) ?_
              first | exact ⟨rfl, rfl⟩ | exact ⟨rfl, ps_ps _ _ _ _⟩
      · skip
        try replace c38 := b2i_0.mp c38
        rw [ifp_t c38]
        refine zx_aload_n (pc := 41) dX7_write_41 rfl rfl ?_
        refine zx_iconst (pc := 42) dX7_write_42 ?_
        refine zi_X7_138 (pc := 43) dX7_write_43 (C_X7_refuse2 (by decide)) (by decide) (Nat.le_of_ble_eq_true rfl) (fun z43 h43 u43 v43 q43 => ?_)
        obtain ⟨rfl, e43⟩ := q43
        rw [e43]
        clear e43 h43
        refine zx_iret (pc := 46) dX7_write_46 (fun o => by first | exact o.1 _ (by decide) | exact o.2 _ _ | omega) ?_
        first | exact ⟨rfl, rfl⟩ | exact ⟨rfl, ps_ps _ _ _ _⟩
    · skip
      try replace c22 := b2i_0.mp c22
      rw [mLg_0] at c22
      rw [ifp_t (Or.inr c22)]
      refine zx_aload_n (pc := 25) dX7_write_25 rfl rfl ?_
      refine zx_iconst (pc := 26) dX7_write_26 ?_
      refine zi_X7_138 (pc := 27) dX7_write_27 (C_X7_refuse2 (by decide)) (by decide) (Nat.le_of_ble_eq_true rfl) (fun z27 h27 u27 v27 q27 => ?_)
      obtain ⟨rfl, e27⟩ := q27
      rw [e27]
      clear e27 h27
      refine zx_iret (pc := 30) dX7_write_30 (fun o => by first | exact o.1 _ (by decide) | exact o.2 _ _ | omega) ?_
      first | exact ⟨rfl, rfl⟩ | exact ⟨rfl, ps_ps _ _ _ _⟩
  · skip
    refine zx_aload_n (pc := 9) dX7_write_9 rfl rfl ?_
    refine zx_iload_n (pc := 10) dX7_write_10 rfl rfl ?_
    refine zi_X7_356 (pc := 11) dX7_write_11 (C_X7_isTransaction r1) (by decide) (Nat.le_of_ble_eq_true rfl) (fun z11 h11 u11 v11 q11 => ?_)
    obtain ⟨rfl, e11⟩ := q11
    rw [e11]
    clear e11 h11
    refine zx_if_eq (pc := 14) (tgt := 25) dX7_write_14 (by decide) (fun o => by first | exact o.1 _ (by decide) | exact o.2 _ _ | omega) (fun c14 => ?_) (fun c14 => ?_)
    · skip
      try replace c14 := b2i_0.mp c14
      rw [mTx_0] at c14
      rw [ifp_t (Or.inl ⟨c6, c14⟩)]
      refine zx_aload_n (pc := 25) dX7_write_25 rfl rfl ?_
      refine zx_iconst (pc := 26) dX7_write_26 ?_
      refine zi_X7_138 (pc := 27) dX7_write_27 (C_X7_refuse2 (by decide)) (by decide) (Nat.le_of_ble_eq_true rfl) (fun z27 h27 u27 v27 q27 => ?_)
      obtain ⟨rfl, e27⟩ := q27
      rw [e27]
      clear e27 h27
      refine zx_iret (pc := 30) dX7_write_30 (fun o => by first | exact o.1 _ (by decide) | exact o.2 _ _ | omega) ?_
      first | exact ⟨rfl, rfl⟩ | exact ⟨rfl, ps_ps _ _ _ _⟩
    · skip
      try replace c14 := b2i_n0.mp c14
      rw [mTx_0] at c14
      refine zx_aload_n (pc := 17) dX7_write_17 rfl rfl ?_
      refine zx_iload_n (pc := 18) dX7_write_18 rfl rfl ?_
      refine zi_X7_359 (pc := 19) dX7_write_19 (C_X7_isLogical s0.1 r2) (by decide) (Nat.le_of_ble_eq_true rfl) (fun z19 h19 u19 v19 q19 => ?_)
      obtain ⟨rfl, e19⟩ := q19
      rw [e19]
      clear e19 h19
      refine zx_if_ne (pc := 22) (tgt := 31) dX7_write_22 (by decide) (fun o => by first | exact o.1 _ (by decide) | exact o.2 _ _ | omega) (fun c22 => ?_) (fun c22 => ?_)
      · skip
        try replace c22 := b2i_n0.mp c22
        rw [mLg_0] at c22
        rw [ifp_f (by grind)]
        have c22a := c22
        unfold mLg at c22a
        refine zx_iload_n (pc := 31) dX7_write_31 rfl rfl ?_
        refine zx_iconst (pc := 32) dX7_write_32 ?_
        refine zx_ldc (pc := 33) (n := 999999) dX7_write_33 (by rw [show iI 999999 = (999999 : Int32) by decide +kernel]; exact zo_X7_230) ?_
        refine zi_X7_85 (pc := 35) dX7_write_35 (C_X7_in r3 (by decide) (by decide)) (by decide) (Nat.le_of_ble_eq_true rfl) (fun z35 h35 u35 v35 q35 => ?_)
        obtain ⟨rfl, e35⟩ := q35
        rw [e35]
        clear e35 h35
        refine zx_if_ne (pc := 38) (tgt := 47) dX7_write_38 (by decide) (fun o => by first | exact o.1 _ (by decide) | exact o.2 _ _ | omega) (fun c38 => ?_) (fun c38 => ?_)
        · skip
          try replace c38 := b2i_n0.mp c38
          rw [ifp_f (by grind)]
          refine zx_aload_n (pc := 47) dX7_write_47 rfl rfl ?_
          refine zx_iload_n (pc := 48) dX7_write_48 rfl rfl ?_
          refine zi_X7_362 (pc := 49) dX7_write_49 (C_X7_canAct (by first | omega | (unfold mTx at *; omega)) (by first | omega | (unfold mTx at *; omega))) (by decide) (Nat.le_of_ble_eq_true rfl) (fun z49 h49 u49 v49 q49 => ?_)
          obtain ⟨rfl, e49⟩ := q49
          rw [e49]
          clear e49 h49
          refine zx_if_eq (pc := 52) (tgt := 74) dX7_write_52 (by decide) (fun o => by first | exact o.1 _ (by decide) | exact o.2 _ _ | omega) (fun c52 => ?_) (fun c52 => ?_)
          · skip
            try replace c52 := b2i_0.mp c52
            rw [mAct_0] at c52
            rw [ifp_t (Or.inl c52)]
            refine zx_aload_n (pc := 74) dX7_write_74 rfl rfl ?_
            refine zx_iconst (pc := 75) dX7_write_75 ?_
            refine zi_X7_138 (pc := 76) dX7_write_76 (C_X7_refuse2 (by decide)) (by decide) (Nat.le_of_ble_eq_true rfl) (fun z76 h76 u76 v76 q76 => ?_)
            obtain ⟨rfl, e76⟩ := q76
            rw [e76]
            clear e76 h76
            refine zx_iret (pc := 79) dX7_write_79 (fun o => by first | exact o.1 _ (by decide) | exact o.2 _ _ | omega) ?_
            first | exact ⟨rfl, rfl⟩ | exact ⟨rfl, ps_ps _ _ _ _⟩
          · skip
            try replace c52 := b2i_n0.mp c52
            rw [mAct_0] at c52
            refine zx_aload_n (pc := 55) dX7_write_55 rfl rfl ?_
            refine zg_X7_40 (pc := 56) dX7_write_56 ?_
            refine zx_iload_n (pc := 59) dX7_write_59 rfl rfl ?_
            refine zx_iaload (pc := 60) aX7_locker dX7_write_60 (by omega) (by omega) (by omega) ?_
            refine zx_if_eq (pc := 61) (tgt := 80) dX7_write_61 (by decide) (fun o => by first | exact o.1 _ (by decide) | exact o.2 _ _ | omega) (fun c61 => ?_) (fun c61 => ?_)
            · skip
              rw [g11_0] at c61
              rw [ifp_f (by grind)]
              refine zx_iload_n (pc := 80) dX7_write_80 rfl rfl ?_
              refine zx_if_ne (pc := 81) (tgt := 93) dX7_write_81 (by decide) (fun o => by first | exact o.1 _ (by decide) | exact o.2 _ _ | omega) (fun c81 => ?_) (fun c81 => ?_)
              · skip
                rw [ifp_f c81]
                unfold m_wres
                refine zx_aload_n (pc := 93) dX7_write_93 rfl rfl ?_
                refine zx_iload_n (pc := 94) dX7_write_94 rfl rfl ?_
                refine zx_iload_n (pc := 95) dX7_write_95 rfl rfl ?_
                refine zx_iload_n (pc := 96) dX7_write_96 rfl rfl ?_
                refine zi_X7_365 (pc := 97) dX7_write_97 (C_X7_writesIn s0 (hp c52.1) r1 c22.1 c22.2 r3) (by decide) (Nat.le_of_ble_eq_true rfl) (fun z97 h97 u97 v97 q97 => ?_)
                obtain ⟨rfl, e97⟩ := q97
                rw [e97]
                clear e97 h97
                refine zx_istore (pc := 100) dX7_write_100 (by decide) rfl ?_
                refine zx_iload (pc := 102) dX7_write_102 rfl ?_
                refine zx_if_ne (pc := 104) (tgt := 115) dX7_write_104 (by decide) (fun o => by first | exact o.1 _ (by decide) | exact o.2 _ _ | omega) (fun c104 => ?_) (fun c104 => ?_)
                · skip
                  rw [ifp_f c104]
                  refine zx_iload (pc := 115) dX7_write_115 rfl ?_
                  refine zx_iret (pc := 117) dX7_write_117 (fun o => by first | exact o.1 _ (by decide) | exact o.2 _ _ | omega) ?_
                  first | exact ⟨rfl, rfl⟩ | exact ⟨rfl, ps_ps _ _ _ _⟩
                · skip
                  rw [ifp_t c104]
                  refine zx_aload_n (pc := 107) dX7_write_107 rfl rfl ?_
                  refine zx_iconst (pc := 108) dX7_write_108 ?_
                  refine zi_X7_138 (pc := 109) dX7_write_109 (C_X7_refuse2 (by decide)) (by decide) (Nat.le_of_ble_eq_true rfl) (fun z109 h109 u109 v109 q109 => ?_)
                  obtain ⟨rfl, e109⟩ := q109
                  rw [e109]
                  clear e109 h109
                  refine zx_goto (pc := 112) (tgt := 117) dX7_write_112 (by decide) ?_
                  refine zx_iret (pc := 117) dX7_write_117 (fun o => by first | exact o.1 _ (by decide) | exact o.2 _ _ | omega) ?_
                  first | exact ⟨rfl, rfl⟩ | exact ⟨rfl, ps_ps _ _ _ _⟩
              · skip
                rw [ifp_t c81]
                unfold m_wres
                refine zx_aload_n (pc := 84) dX7_write_84 rfl rfl ?_
                refine zx_iload_n (pc := 85) dX7_write_85 rfl rfl ?_
                refine zx_iload_n (pc := 86) dX7_write_86 rfl rfl ?_
                refine zi_X7_254 (pc := 87) dX7_write_87 (C_X7_writesOutside s0 (hp c52.1) c22.1 c22.2 r3) (by decide) (Nat.le_of_ble_eq_true rfl) (fun z87 h87 u87 v87 q87 => ?_)
                obtain ⟨rfl, e87⟩ := q87
                rw [e87]
                clear e87 h87
                refine zx_goto (pc := 90) (tgt := 100) dX7_write_90 (by decide) ?_
                refine zx_istore (pc := 100) dX7_write_100 (by decide) rfl ?_
                refine zx_iload (pc := 102) dX7_write_102 rfl ?_
                refine zx_if_ne (pc := 104) (tgt := 115) dX7_write_104 (by decide) (fun o => by first | exact o.1 _ (by decide) | exact o.2 _ _ | omega) (fun c104 => ?_) (fun c104 => ?_)
                · skip
                  rw [ifp_f c104]
                  refine zx_iload (pc := 115) dX7_write_115 rfl ?_
                  refine zx_iret (pc := 117) dX7_write_117 (fun o => by first | exact o.1 _ (by decide) | exact o.2 _ _ | omega) ?_
                  first | exact ⟨rfl, rfl⟩ | exact ⟨rfl, ps_ps _ _ _ _⟩
                · skip
                  rw [ifp_t c104]
                  refine zx_aload_n (pc := 107) dX7_write_107 rfl rfl ?_
                  refine zx_iconst (pc := 108) dX7_write_108 ?_
                  refine zi_X7_138 (pc := 109) dX7_write_109 (C_X7_refuse2 (by decide)) (by decide) (Nat.le_of_ble_eq_true rfl) (fun z109 h109 u109 v109 q109 => ?_)
                  obtain ⟨rfl, e109⟩ := q109
                  rw [e109]
                  clear e109 h109
                  refine zx_goto (pc := 112) (tgt := 117) dX7_write_112 (by decide) ?_
                  refine zx_iret (pc := 117) dX7_write_117 (fun o => by first | exact o.1 _ (by decide) | exact o.2 _ _ | omega) ?_
                  first | exact ⟨rfl, rfl⟩ | exact ⟨rfl, ps_ps _ _ _ _⟩
            · skip
              rw [g11_0] at c61
              refine zx_aload_n (pc := 64) dX7_write_64 rfl rfl ?_
              refine zg_X7_40 (pc := 65) dX7_write_65 ?_
              refine zx_iload_n (pc := 68) dX7_write_68 rfl rfl ?_
              refine zx_iaload (pc := 69) aX7_locker dX7_write_69 (by omega) (by omega) (by omega) ?_
              refine zx_iload_n (pc := 70) dX7_write_70 rfl rfl ?_
              refine zx_icmp_eq (pc := 71) (tgt := 80) dX7_write_71 (by decide) (fun o => by first | exact o.1 _ (by decide) | exact o.2 _ _ | omega) (fun o => by first | exact o.1 _ (by decide) | exact o.2 _ _ | omega) (fun c71 => ?_) (fun c71 => ?_)
              · skip
                rw [g11_0] at c71
                rw [ifp_f (by grind)]
                refine zx_iload_n (pc := 80) dX7_write_80 rfl rfl ?_
                refine zx_if_ne (pc := 81) (tgt := 93) dX7_write_81 (by decide) (fun o => by first | exact o.1 _ (by decide) | exact o.2 _ _ | omega) (fun c81 => ?_) (fun c81 => ?_)
                · skip
                  rw [ifp_f c81]
                  unfold m_wres
                  refine zx_aload_n (pc := 93) dX7_write_93 rfl rfl ?_
                  refine zx_iload_n (pc := 94) dX7_write_94 rfl rfl ?_
                  refine zx_iload_n (pc := 95) dX7_write_95 rfl rfl ?_
                  refine zx_iload_n (pc := 96) dX7_write_96 rfl rfl ?_
                  refine zi_X7_365 (pc := 97) dX7_write_97 (C_X7_writesIn s0 (hp c52.1) r1 c22.1 c22.2 r3) (by decide) (Nat.le_of_ble_eq_true rfl) (fun z97 h97 u97 v97 q97 => ?_)
                  obtain ⟨rfl, e97⟩ := q97
                  rw [e97]
                  clear e97 h97
                  refine zx_istore (pc := 100) dX7_write_100 (by decide) rfl ?_
                  refine zx_iload (pc := 102) dX7_write_102 rfl ?_
                  refine zx_if_ne (pc := 104) (tgt := 115) dX7_write_104 (by decide) (fun o => by first | exact o.1 _ (by decide) | exact o.2 _ _ | omega) (fun c104 => ?_) (fun c104 => ?_)
                  · skip
                    rw [ifp_f c104]
                    refine zx_iload (pc := 115) dX7_write_115 rfl ?_
                    refine zx_iret (pc := 117) dX7_write_117 (fun o => by first | exact o.1 _ (by decide) | exact o.2 _ _ | omega) ?_
                    first | exact ⟨rfl, rfl⟩ | exact ⟨rfl, ps_ps _ _ _ _⟩
                  · skip
                    rw [ifp_t c104]
                    refine zx_aload_n (pc := 107) dX7_write_107 rfl rfl ?_
                    refine zx_iconst (pc := 108) dX7_write_108 ?_
                    refine zi_X7_138 (pc := 109) dX7_write_109 (C_X7_refuse2 (by decide)) (by decide) (Nat.le_of_ble_eq_true rfl) (fun z109 h109 u109 v109 q109 => ?_)
                    obtain ⟨rfl, e109⟩ := q109
                    rw [e109]
                    clear e109 h109
                    refine zx_goto (pc := 112) (tgt := 117) dX7_write_112 (by decide) ?_
                    refine zx_iret (pc := 117) dX7_write_117 (fun o => by first | exact o.1 _ (by decide) | exact o.2 _ _ | omega) ?_
                    first | exact ⟨rfl, rfl⟩ | exact ⟨rfl, ps_ps _ _ _ _⟩
                · skip
                  rw [ifp_t c81]
                  unfold m_wres
                  refine zx_aload_n (pc := 84) dX7_write_84 rfl rfl ?_
                  refine zx_iload_n (pc := 85) dX7_write_85 rfl rfl ?_
                  refine zx_iload_n (pc := 86) dX7_write_86 rfl rfl ?_
                  refine zi_X7_254 (pc := 87) dX7_write_87 (C_X7_writesOutside s0 (hp c52.1) c22.1 c22.2 r3) (by decide) (Nat.le_of_ble_eq_true rfl) (fun z87 h87 u87 v87 q87 => ?_)
                  obtain ⟨rfl, e87⟩ := q87
                  rw [e87]
                  clear e87 h87
                  refine zx_goto (pc := 90) (tgt := 100) dX7_write_90 (by decide) ?_
                  refine zx_istore (pc := 100) dX7_write_100 (by decide) rfl ?_
                  refine zx_iload (pc := 102) dX7_write_102 rfl ?_
                  refine zx_if_ne (pc := 104) (tgt := 115) dX7_write_104 (by decide) (fun o => by first | exact o.1 _ (by decide) | exact o.2 _ _ | omega) (fun c104 => ?_) (fun c104 => ?_)
                  · skip
                    rw [ifp_f c104]
                    refine zx_iload (pc := 115) dX7_write_115 rfl ?_
                    refine zx_iret (pc := 117) dX7_write_117 (fun o => by first | exact o.1 _ (by decide) | exact o.2 _ _ | omega) ?_
                    first | exact ⟨rfl, rfl⟩ | exact ⟨rfl, ps_ps _ _ _ _⟩
                  · skip
                    rw [ifp_t c104]
                    refine zx_aload_n (pc := 107) dX7_write_107 rfl rfl ?_
                    refine zx_iconst (pc := 108) dX7_write_108 ?_
                    refine zi_X7_138 (pc := 109) dX7_write_109 (C_X7_refuse2 (by decide)) (by decide) (Nat.le_of_ble_eq_true rfl) (fun z109 h109 u109 v109 q109 => ?_)
                    obtain ⟨rfl, e109⟩ := q109
                    rw [e109]
                    clear e109 h109
                    refine zx_goto (pc := 112) (tgt := 117) dX7_write_112 (by decide) ?_
                    refine zx_iret (pc := 117) dX7_write_117 (fun o => by first | exact o.1 _ (by decide) | exact o.2 _ _ | omega) ?_
                    first | exact ⟨rfl, rfl⟩ | exact ⟨rfl, ps_ps _ _ _ _⟩
              · skip
                rw [g11_0] at c71
                rw [ifp_t (Or.inr ⟨c61, c71⟩)]
                refine zx_aload_n (pc := 74) dX7_write_74 rfl rfl ?_
                refine zx_iconst (pc := 75) dX7_write_75 ?_
                refine zi_X7_138 (pc := 76) dX7_write_76 (C_X7_refuse2 (by decide)) (by decide) (Nat.le_of_ble_eq_true rfl) (fun z76 h76 u76 v76 q76 => ?_)
                obtain ⟨rfl, e76⟩ := q76
                rw [e76]
                clear e76 h76
                refine zx_iret (pc := 79) dX7_write_79 (fun o => by first | exact o.1 _ (by decide) | exact o.2 _ _ | omega) ?_
                first | exact ⟨rfl, rfl⟩ | exact ⟨rfl, ps_ps _ _ _ _⟩
        · skip
          try replace c38 := b2i_0.mp c38
          rw [ifp_t c38]
          refine zx_aload_n (pc := 41) dX7_write_41 rfl rfl ?_
          refine zx_iconst (pc := 42) dX7_write_42 ?_
          refine zi_X7_138 (pc := 43) dX7_write_43 (C_X7_refuse2 (by decide)) (by decide) (Nat.le_of_ble_eq_true rfl) (fun z43 h43 u43 v43 q43 => ?_)
          obtain ⟨rfl, e43⟩ := q43
          rw [e43]
          clear e43 h43
          refine zx_iret (pc := 46) dX7_write_46 (fun o => by first | exact o.1 _ (by decide) | exact o.2 _ _ | omega) ?_
          first | exact ⟨rfl, rfl⟩ | exact ⟨rfl, ps_ps _ _ _ _⟩
      · skip
        try replace c22 := b2i_0.mp c22
        rw [mLg_0] at c22
        rw [ifp_t (Or.inr c22)]
        refine zx_aload_n (pc := 25) dX7_write_25 rfl rfl ?_
        refine zx_iconst (pc := 26) dX7_write_26 ?_
        refine zi_X7_138 (pc := 27) dX7_write_27 (C_X7_refuse2 (by decide)) (by decide) (Nat.le_of_ble_eq_true rfl) (fun z27 h27 u27 v27 q27 => ?_)
        obtain ⟨rfl, e27⟩ := q27
        rw [e27]
        clear e27 h27
        refine zx_iret (pc := 30) dX7_write_30 (fun o => by first | exact o.1 _ (by decide) | exact o.2 _ _ | omega) ?_
        first | exact ⟨rfl, rfl⟩ | exact ⟨rfl, ps_ps _ _ _ _⟩
set_option maxRecDepth 100000 in
theorem L_X7_valueOf {h : zH} (hb : MB h) {a1 a2 : Int} (r1 : -2147483648 ≤ a1 ∧ a1 < 2147483648) (r2 : -2147483648 ≤ a2 ∧ a2 < 2147483648) (Q : Int → zH → Prop) : ∀ (n : Nat) (i : Int), 0 ≤ i → i + n = gs h 1 * gs h 2 → Q (ifp (0 < a2) (mValF h a1 a2 i n) (-1)) h → zX cM zNo RX7 cX7_valueOf 4 (some .int) rX7_valueOf 2 [some (.ref 0), some (.int (iI a1)), some (.int (iI a2)), some (.int (iI i))] [] h (zEi cM Q) := by
  have m7 := mb_size hb.1 hb.2.1 hb.2.2.1 hb.2.2.2.1
  intro n
  induction n with
  | zero =>
    intro i g1 g2 hQ
    have e : ifp (0 < a2) (mValF h a1 a2 i 0) (-1) = -1 := by
      have e0 : mValF h a1 a2 i 0 = -1 := ifp_t rfl
      rw [e0, ifp_same]
    rw [e] at hQ
    refine zx_iload_n (pc := 2) dX7_valueOf_2 rfl rfl ?_
    refine zx_aload_n (pc := 3) dX7_valueOf_3 rfl rfl ?_
    refine zi_X7_264 (pc := 4) dX7_valueOf_4 (C_X7_flashSize hb) (by decide) (Nat.le_of_ble_eq_true rfl) (fun z4 h4 u4 v4 q4 => ?_)
    obtain ⟨rfl, e4⟩ := q4
    rw [e4]
    clear e4 h4
    refine zx_icmp_ge (pc := 7) (tgt := 57) dX7_valueOf_7 (by decide) (fun o => by first | exact o.1 _ (by decide) | exact o.2 _ _ | omega) (fun o => by first | exact o.1 _ (by decide) | exact o.2 _ _ | omega) (fun c7 => ?_) (fun c7 => absurd c7 (by omega))
    refine zx_iconst (pc := 57) dX7_valueOf_57 ?_
    refine zx_iret (pc := 58) dX7_valueOf_58 (fun o => by first | exact o.1 _ (by decide) | exact o.2 _ _ | omega) ?_
    exact hQ
  | succ n ih =>
    intro i g1 g2 hQ
    have y (z : mDataAt h a1 a2 i) : mValF h a1 a2 i (n + 1) = ga h 7 i := by
      unfold mValF
      rw [ff, ifp_t z]
      exact ifp_f (by omega)
    have nn (z : ¬ mDataAt h a1 a2 i) : mValF h a1 a2 i (n + 1) = mValF h a1 a2 (i + 1) n := by
      unfold mValF
      rw [ff, ifp_f z]
    refine zx_iload_n (pc := 2) dX7_valueOf_2 rfl rfl ?_
    refine zx_aload_n (pc := 3) dX7_valueOf_3 rfl rfl ?_
    refine zi_X7_264 (pc := 4) dX7_valueOf_4 (C_X7_flashSize hb) (by decide) (Nat.le_of_ble_eq_true rfl) (fun z4 h4 u4 v4 q4 => ?_)
    obtain ⟨rfl, e4⟩ := q4
    rw [e4]
    clear e4 h4
    refine zx_icmp_ge (pc := 7) (tgt := 57) dX7_valueOf_7 (by decide) (fun o => by first | exact o.1 _ (by decide) | exact o.2 _ _ | omega) (fun o => by first | exact o.1 _ (by decide) | exact o.2 _ _ | omega) (fun c7 => absurd c7 (by omega)) (fun c7 => ?_)
    refine zx_iload_n (pc := 10) dX7_valueOf_10 rfl rfl ?_
    refine zx_if_le (pc := 11) (tgt := 57) dX7_valueOf_11 (by decide) (fun o => by first | exact o.1 _ (by decide) | exact o.2 _ _ | omega) (fun c11 => ?_) (fun c11 => ?_)
    · skip
      rw [ifp_f (by omega)] at hQ
      refine zx_iconst (pc := 57) dX7_valueOf_57 ?_
      refine zx_iret (pc := 58) dX7_valueOf_58 (fun o => by first | exact o.1 _ (by decide) | exact o.2 _ _ | omega) ?_
      exact hQ
    · skip
      refine zx_aload_n (pc := 14) dX7_valueOf_14 rfl rfl ?_
      refine zg_X7_13 (pc := 15) dX7_valueOf_15 ?_
      refine zx_iload_n (pc := 18) dX7_valueOf_18 rfl rfl ?_
      refine zx_iaload (pc := 19) aX7_kind dX7_valueOf_19 (by omega) (by omega) (by omega) ?_
      refine zx_iconst (pc := 20) dX7_valueOf_20 ?_
      refine zx_icmp_ne (pc := 21) (tgt := 51) dX7_valueOf_21 (by decide) (fun o => by first | exact o.1 _ (by decide) | exact o.2 _ _ | omega) (fun o => by first | exact o.1 _ (by decide) | exact o.2 _ _ | omega) (fun c21 => ?_) (fun c21 => ?_)
      · skip
        rw [nn (fun z => c21 z.1)] at hQ
        refine zx_iinc (pc := 51) dX7_valueOf_51 (by decide) rfl rfl ?_
        refine zx_goto (pc := 54) (tgt := 2) dX7_valueOf_54 (by decide) ?_
        exact ih (i + 1) (by omega) (by omega) hQ
      · skip
        refine zx_aload_n (pc := 24) dX7_valueOf_24 rfl rfl ?_
        refine zg_X7_16 (pc := 25) dX7_valueOf_25 ?_
        refine zx_iload_n (pc := 28) dX7_valueOf_28 rfl rfl ?_
        refine zx_iaload (pc := 29) aX7_index dX7_valueOf_29 (by omega) (by omega) (by omega) ?_
        refine zx_iload_n (pc := 30) dX7_valueOf_30 rfl rfl ?_
        refine zx_icmp_ne (pc := 31) (tgt := 51) dX7_valueOf_31 (by decide) (fun o => by first | exact o.1 _ (by decide) | exact o.2 _ _ | omega) (fun o => by first | exact o.1 _ (by decide) | exact o.2 _ _ | omega) (fun c31 => ?_) (fun c31 => ?_)
        · skip
          rw [nn (fun z => c31 z.2.1)] at hQ
          refine zx_iinc (pc := 51) dX7_valueOf_51 (by decide) rfl rfl ?_
          refine zx_goto (pc := 54) (tgt := 2) dX7_valueOf_54 (by decide) ?_
          exact ih (i + 1) (by omega) (by omega) hQ
        · skip
          refine zx_aload_n (pc := 34) dX7_valueOf_34 rfl rfl ?_
          refine zg_X7_22 (pc := 35) dX7_valueOf_35 ?_
          refine zx_iload_n (pc := 38) dX7_valueOf_38 rfl rfl ?_
          refine zx_iaload (pc := 39) aX7_version dX7_valueOf_39 (by omega) (by omega) (by omega) ?_
          refine zx_iload_n (pc := 40) dX7_valueOf_40 rfl rfl ?_
          refine zx_icmp_ne (pc := 41) (tgt := 51) dX7_valueOf_41 (by decide) (fun o => by first | exact o.1 _ (by decide) | exact o.2 _ _ | omega) (fun o => by first | exact o.1 _ (by decide) | exact o.2 _ _ | omega) (fun c41 => ?_) (fun c41 => ?_)
          · skip
            rw [nn (fun z => c41 z.2.2)] at hQ
            refine zx_iinc (pc := 51) dX7_valueOf_51 (by decide) rfl rfl ?_
            refine zx_goto (pc := 54) (tgt := 2) dX7_valueOf_54 (by decide) ?_
            exact ih (i + 1) (by omega) (by omega) hQ
          · skip
            rw [ifp_t c11, y ⟨c21, c31, c41⟩] at hQ
            refine zx_aload_n (pc := 44) dX7_valueOf_44 rfl rfl ?_
            refine zg_X7_28 (pc := 45) dX7_valueOf_45 ?_
            refine zx_iload_n (pc := 48) dX7_valueOf_48 rfl rfl ?_
            refine zx_iaload (pc := 49) aX7_value dX7_valueOf_49 (by omega) (by omega) (by omega) ?_
            refine zx_iret (pc := 50) dX7_valueOf_50 (fun o => by first | exact o.1 _ (by decide) | exact o.2 _ _ | omega) ?_
            exact hQ
set_option maxRecDepth 100000 in
theorem C_X7_valueOf {h : zH} (hb : MB h) {a1 a2 : Int} (r1 : -2147483648 ≤ a1 ∧ a1 < 2147483648) (r2 : -2147483648 ≤ a2 ∧ a2 < 2147483648) : kX7_valueOf a1 a2 h (fun r h2 => r = mVal h a1 a2 ∧ h2 = h) := by
  have m7 := mb_size hb.1 hb.2.1 hb.2.2.1 hb.2.2.2.1
  apply eX7_valueOf
  refine zx_iconst (pc := 0) dX7_valueOf_0 ?_
  refine zx_istore_n (pc := 1) dX7_valueOf_1 rfl (by decide) rfl ?_
  exact L_X7_valueOf hb r1 r2 (fun r h2 => r = mVal h a1 a2 ∧ h2 = h) (gs h 1 * gs h 2).toNat 0 (Int.le_refl _) (by omega) ⟨rfl, rfl⟩
set_option maxRecDepth 100000 in
theorem C_X7_read {h : zH} {u : Int → Int} (s : MS h u) (h1 : 0 ≤ gs h 38) (h2 : gs h 38 ≤ 1000) {a1 a2 : Int} (r1 : -2147483648 ≤ a1 ∧ a1 < 2147483648) (r2 : -2147483648 ≤ a2 ∧ a2 < 2147483648) : kX7_read a1 a2 h (fun r h2 => r = (m_read h a1 a2).2 ∧ h2 = (m_read h a1 a2).1) := by
  have s0 := MS_0 s 0
  have hL := s.1.2.2.2.2
  apply eX7_read
  unfold m_read
  refine zx_ok (fun ok => ?_)
  have ev (a b : Int) : mVal (ps h 0 0) a b = mVal h a b := rfl
  refine zx_aload_n (pc := 0) dX7_read_0 rfl rfl ?_
  refine zx_iconst (pc := 1) dX7_read_1 ?_
  refine zp_X7_69 (pc := 2) dX7_read_2 (fun o => by first | exact o.1 _ (by decide) | exact o.2 _ _ | omega) ?_
  refine zx_iload_n (pc := 5) dX7_read_5 rfl rfl ?_
  refine zx_if_eq (pc := 6) (tgt := 17) dX7_read_6 (by decide) (fun o => by first | exact o.1 _ (by decide) | exact o.2 _ _ | omega) (fun c6 => ?_) (fun c6 => ?_)
  · skip
    refine zx_aload_n (pc := 17) dX7_read_17 rfl rfl ?_
    refine zx_iload_n (pc := 18) dX7_read_18 rfl rfl ?_
    refine zi_X7_359 (pc := 19) dX7_read_19 (C_X7_isLogical s0.1 r2) (by decide) (Nat.le_of_ble_eq_true rfl) (fun z19 h19 u19 v19 q19 => ?_)
    obtain ⟨rfl, e19⟩ := q19
    rw [e19]
    clear e19 h19
    refine zx_if_ne (pc := 22) (tgt := 31) dX7_read_22 (by decide) (fun o => by first | exact o.1 _ (by decide) | exact o.2 _ _ | omega) (fun c22 => ?_) (fun c22 => ?_)
    · skip
      try replace c22 := b2i_n0.mp c22
      rw [mLg_0] at c22
      rw [ifp_f (by grind)]
      unfold mLg at c22
      refine zx_aload_n (pc := 31) dX7_read_31 rfl rfl ?_
      refine zx_iload_n (pc := 32) dX7_read_32 rfl rfl ?_
      refine zi_X7_362 (pc := 33) dX7_read_33 (C_X7_canAct (by first | omega | (unfold mTx at *; omega)) (by first | omega | (unfold mTx at *; omega))) (by decide) (Nat.le_of_ble_eq_true rfl) (fun z33 h33 u33 v33 q33 => ?_)
      obtain ⟨rfl, e33⟩ := q33
      rw [e33]
      clear e33 h33
      refine zx_if_ne (pc := 36) (tgt := 45) dX7_read_36 (by decide) (fun o => by first | exact o.1 _ (by decide) | exact o.2 _ _ | omega) (fun c36 => ?_) (fun c36 => ?_)
      · skip
        try replace c36 := b2i_n0.mp c36
        rw [mAct_0] at c36
        rw [ifp_f (by grind)]
        refine zx_iload_n (pc := 45) dX7_read_45 rfl rfl ?_
        refine zx_if_eq (pc := 46) (tgt := 63) dX7_read_46 (by decide) (fun o => by first | exact o.1 _ (by decide) | exact o.2 _ _ | omega) (fun c46 => ?_) (fun c46 => ?_)
        · skip
          rw [ifp_f (by grind)]
          refine zx_iconst (pc := 63) dX7_read_63 ?_
          refine zx_istore_n (pc := 64) dX7_read_64 rfl (by decide) rfl ?_
          refine zx_aload_n (pc := 65) dX7_read_65 rfl rfl ?_
          refine zx_iload_n (pc := 66) dX7_read_66 rfl rfl ?_
          refine zx_iload_n (pc := 67) dX7_read_67 rfl rfl ?_
          refine zx_if_eq (pc := 68) (tgt := 80) dX7_read_68 (by decide) (fun _ => by decide) (fun _ => ?_) (fun c9 => absurd c9 (by decide))
          refine zx_aload_n (pc := 80) dX7_read_80 rfl rfl ?_
          refine zg_X7_37 (pc := 81) dX7_read_81 ?_
          refine zx_iload_n (pc := 84) dX7_read_84 rfl rfl ?_
          refine zx_iaload (pc := 85) aX7_committed dX7_read_85 (by omega) (by omega) (by omega) ?_
          refine zi_X7_368 (pc := 86) dX7_read_86 (C_X7_valueOf s0.1 r2 (ok.2 _ _)) (by decide) (Nat.le_of_ble_eq_true rfl) (fun z86 h86 u86 v86 q86 => ?_)
          obtain ⟨rfl, e86⟩ := q86
          rw [e86]
          clear e86 h86
          refine zx_iret (pc := 89) dX7_read_89 (fun o => by first | exact o.1 _ (by decide) | exact o.2 _ _ | omega) ?_
          first | exact ⟨rfl, rfl⟩ | exact ⟨rfl, ps_ps _ _ _ _⟩
        · skip
          refine zx_aload_n (pc := 49) dX7_read_49 rfl rfl ?_
          refine zg_X7_40 (pc := 50) dX7_read_50 ?_
          refine zx_iload_n (pc := 53) dX7_read_53 rfl rfl ?_
          refine zx_iaload (pc := 54) aX7_locker dX7_read_54 (by omega) (by omega) (by omega) ?_
          refine zx_iload_n (pc := 55) dX7_read_55 rfl rfl ?_
          refine zx_icmp_ne (pc := 56) (tgt := 63) dX7_read_56 (by decide) (fun o => by first | exact o.1 _ (by decide) | exact o.2 _ _ | omega) (fun o => by first | exact o.1 _ (by decide) | exact o.2 _ _ | omega) (fun c56 => ?_) (fun c56 => ?_)
          · skip
            rw [g11_0] at c56
            rw [ifp_f (by grind)]
            refine zx_iconst (pc := 63) dX7_read_63 ?_
            refine zx_istore_n (pc := 64) dX7_read_64 rfl (by decide) rfl ?_
            refine zx_aload_n (pc := 65) dX7_read_65 rfl rfl ?_
            refine zx_iload_n (pc := 66) dX7_read_66 rfl rfl ?_
            refine zx_iload_n (pc := 67) dX7_read_67 rfl rfl ?_
            refine zx_if_eq (pc := 68) (tgt := 80) dX7_read_68 (by decide) (fun _ => by decide) (fun _ => ?_) (fun c9 => absurd c9 (by decide))
            refine zx_aload_n (pc := 80) dX7_read_80 rfl rfl ?_
            refine zg_X7_37 (pc := 81) dX7_read_81 ?_
            refine zx_iload_n (pc := 84) dX7_read_84 rfl rfl ?_
            refine zx_iaload (pc := 85) aX7_committed dX7_read_85 (by omega) (by omega) (by omega) ?_
            refine zi_X7_368 (pc := 86) dX7_read_86 (C_X7_valueOf s0.1 r2 (ok.2 _ _)) (by decide) (Nat.le_of_ble_eq_true rfl) (fun z86 h86 u86 v86 q86 => ?_)
            obtain ⟨rfl, e86⟩ := q86
            rw [e86]
            clear e86 h86
            refine zx_iret (pc := 89) dX7_read_89 (fun o => by first | exact o.1 _ (by decide) | exact o.2 _ _ | omega) ?_
            first | exact ⟨rfl, rfl⟩ | exact ⟨rfl, ps_ps _ _ _ _⟩
          · skip
            rw [g11_0] at c56
            rw [ifp_t ⟨c46, c56⟩]
            refine zx_iconst (pc := 59) dX7_read_59 ?_
            refine zx_goto (pc := 60) (tgt := 64) dX7_read_60 (by decide) ?_
            refine zx_istore_n (pc := 64) dX7_read_64 rfl (by decide) rfl ?_
            refine zx_aload_n (pc := 65) dX7_read_65 rfl rfl ?_
            refine zx_iload_n (pc := 66) dX7_read_66 rfl rfl ?_
            refine zx_iload_n (pc := 67) dX7_read_67 rfl rfl ?_
            refine zx_if_eq (pc := 68) (tgt := 80) dX7_read_68 (by decide) (fun _ => by decide) (fun c9 => absurd c9 (by decide)) (fun _ => ?_)
            refine zx_aload_n (pc := 71) dX7_read_71 rfl rfl ?_
            refine zg_X7_43 (pc := 72) dX7_read_72 ?_
            refine zx_iload_n (pc := 75) dX7_read_75 rfl rfl ?_
            refine zx_iaload (pc := 76) aX7_shadow dX7_read_76 (by omega) (by omega) (by omega) ?_
            refine zx_goto (pc := 77) (tgt := 86) dX7_read_77 (by decide) ?_
            refine zi_X7_368 (pc := 86) dX7_read_86 (C_X7_valueOf s0.1 r2 (ok.2 _ _)) (by decide) (Nat.le_of_ble_eq_true rfl) (fun z86 h86 u86 v86 q86 => ?_)
            obtain ⟨rfl, e86⟩ := q86
            rw [e86]
            clear e86 h86
            refine zx_iret (pc := 89) dX7_read_89 (fun o => by first | exact o.1 _ (by decide) | exact o.2 _ _ | omega) ?_
            first | exact ⟨rfl, rfl⟩ | exact ⟨rfl, ps_ps _ _ _ _⟩
      · skip
        try replace c36 := b2i_0.mp c36
        rw [mAct_0] at c36
        rw [ifp_t c36]
        refine zx_aload_n (pc := 39) dX7_read_39 rfl rfl ?_
        refine zx_iconst (pc := 40) dX7_read_40 ?_
        refine zi_X7_138 (pc := 41) dX7_read_41 (C_X7_refuse2 (by decide)) (by decide) (Nat.le_of_ble_eq_true rfl) (fun z41 h41 u41 v41 q41 => ?_)
        obtain ⟨rfl, e41⟩ := q41
        rw [e41]
        clear e41 h41
        refine zx_iret (pc := 44) dX7_read_44 (fun o => by first | exact o.1 _ (by decide) | exact o.2 _ _ | omega) ?_
        first | exact ⟨rfl, rfl⟩ | exact ⟨rfl, ps_ps _ _ _ _⟩
    · skip
      try replace c22 := b2i_0.mp c22
      rw [mLg_0] at c22
      rw [ifp_t (Or.inr c22)]
      refine zx_aload_n (pc := 25) dX7_read_25 rfl rfl ?_
      refine zx_iconst (pc := 26) dX7_read_26 ?_
      refine zi_X7_138 (pc := 27) dX7_read_27 (C_X7_refuse2 (by decide)) (by decide) (Nat.le_of_ble_eq_true rfl) (fun z27 h27 u27 v27 q27 => ?_)
      obtain ⟨rfl, e27⟩ := q27
      rw [e27]
      clear e27 h27
      refine zx_iret (pc := 30) dX7_read_30 (fun o => by first | exact o.1 _ (by decide) | exact o.2 _ _ | omega) ?_
      first | exact ⟨rfl, rfl⟩ | exact ⟨rfl, ps_ps _ _ _ _⟩
  · skip
    refine zx_aload_n (pc := 9) dX7_read_9 rfl rfl ?_
    refine zx_iload_n (pc := 10) dX7_read_10 rfl rfl ?_
    refine zi_X7_356 (pc := 11) dX7_read_11 (C_X7_isTransaction r1) (by decide) (Nat.le_of_ble_eq_true rfl) (fun z11 h11 u11 v11 q11 => ?_)
    obtain ⟨rfl, e11⟩ := q11
    rw [e11]
    clear e11 h11
    refine zx_if_eq (pc := 14) (tgt := 25) dX7_read_14 (by decide) (fun o => by first | exact o.1 _ (by decide) | exact o.2 _ _ | omega) (fun c14 => ?_) (fun c14 => ?_)
    · skip
      try replace c14 := b2i_0.mp c14
      rw [mTx_0] at c14
      rw [ifp_t (Or.inl ⟨c6, c14⟩)]
      refine zx_aload_n (pc := 25) dX7_read_25 rfl rfl ?_
      refine zx_iconst (pc := 26) dX7_read_26 ?_
      refine zi_X7_138 (pc := 27) dX7_read_27 (C_X7_refuse2 (by decide)) (by decide) (Nat.le_of_ble_eq_true rfl) (fun z27 h27 u27 v27 q27 => ?_)
      obtain ⟨rfl, e27⟩ := q27
      rw [e27]
      clear e27 h27
      refine zx_iret (pc := 30) dX7_read_30 (fun o => by first | exact o.1 _ (by decide) | exact o.2 _ _ | omega) ?_
      first | exact ⟨rfl, rfl⟩ | exact ⟨rfl, ps_ps _ _ _ _⟩
    · skip
      try replace c14 := b2i_n0.mp c14
      rw [mTx_0] at c14
      refine zx_aload_n (pc := 17) dX7_read_17 rfl rfl ?_
      refine zx_iload_n (pc := 18) dX7_read_18 rfl rfl ?_
      refine zi_X7_359 (pc := 19) dX7_read_19 (C_X7_isLogical s0.1 r2) (by decide) (Nat.le_of_ble_eq_true rfl) (fun z19 h19 u19 v19 q19 => ?_)
      obtain ⟨rfl, e19⟩ := q19
      rw [e19]
      clear e19 h19
      refine zx_if_ne (pc := 22) (tgt := 31) dX7_read_22 (by decide) (fun o => by first | exact o.1 _ (by decide) | exact o.2 _ _ | omega) (fun c22 => ?_) (fun c22 => ?_)
      · skip
        try replace c22 := b2i_n0.mp c22
        rw [mLg_0] at c22
        rw [ifp_f (by grind)]
        unfold mLg at c22
        refine zx_aload_n (pc := 31) dX7_read_31 rfl rfl ?_
        refine zx_iload_n (pc := 32) dX7_read_32 rfl rfl ?_
        refine zi_X7_362 (pc := 33) dX7_read_33 (C_X7_canAct (by first | omega | (unfold mTx at *; omega)) (by first | omega | (unfold mTx at *; omega))) (by decide) (Nat.le_of_ble_eq_true rfl) (fun z33 h33 u33 v33 q33 => ?_)
        obtain ⟨rfl, e33⟩ := q33
        rw [e33]
        clear e33 h33
        refine zx_if_ne (pc := 36) (tgt := 45) dX7_read_36 (by decide) (fun o => by first | exact o.1 _ (by decide) | exact o.2 _ _ | omega) (fun c36 => ?_) (fun c36 => ?_)
        · skip
          try replace c36 := b2i_n0.mp c36
          rw [mAct_0] at c36
          rw [ifp_f (by grind)]
          refine zx_iload_n (pc := 45) dX7_read_45 rfl rfl ?_
          refine zx_if_eq (pc := 46) (tgt := 63) dX7_read_46 (by decide) (fun o => by first | exact o.1 _ (by decide) | exact o.2 _ _ | omega) (fun c46 => ?_) (fun c46 => ?_)
          · skip
            rw [ifp_f (by grind)]
            refine zx_iconst (pc := 63) dX7_read_63 ?_
            refine zx_istore_n (pc := 64) dX7_read_64 rfl (by decide) rfl ?_
            refine zx_aload_n (pc := 65) dX7_read_65 rfl rfl ?_
            refine zx_iload_n (pc := 66) dX7_read_66 rfl rfl ?_
            refine zx_iload_n (pc := 67) dX7_read_67 rfl rfl ?_
            refine zx_if_eq (pc := 68) (tgt := 80) dX7_read_68 (by decide) (fun _ => by decide) (fun _ => ?_) (fun c9 => absurd c9 (by decide))
            refine zx_aload_n (pc := 80) dX7_read_80 rfl rfl ?_
            refine zg_X7_37 (pc := 81) dX7_read_81 ?_
            refine zx_iload_n (pc := 84) dX7_read_84 rfl rfl ?_
            refine zx_iaload (pc := 85) aX7_committed dX7_read_85 (by omega) (by omega) (by omega) ?_
            refine zi_X7_368 (pc := 86) dX7_read_86 (C_X7_valueOf s0.1 r2 (ok.2 _ _)) (by decide) (Nat.le_of_ble_eq_true rfl) (fun z86 h86 u86 v86 q86 => ?_)
            obtain ⟨rfl, e86⟩ := q86
            rw [e86]
            clear e86 h86
            refine zx_iret (pc := 89) dX7_read_89 (fun o => by first | exact o.1 _ (by decide) | exact o.2 _ _ | omega) ?_
            first | exact ⟨rfl, rfl⟩ | exact ⟨rfl, ps_ps _ _ _ _⟩
          · skip
            refine zx_aload_n (pc := 49) dX7_read_49 rfl rfl ?_
            refine zg_X7_40 (pc := 50) dX7_read_50 ?_
            refine zx_iload_n (pc := 53) dX7_read_53 rfl rfl ?_
            refine zx_iaload (pc := 54) aX7_locker dX7_read_54 (by omega) (by omega) (by omega) ?_
            refine zx_iload_n (pc := 55) dX7_read_55 rfl rfl ?_
            refine zx_icmp_ne (pc := 56) (tgt := 63) dX7_read_56 (by decide) (fun o => by first | exact o.1 _ (by decide) | exact o.2 _ _ | omega) (fun o => by first | exact o.1 _ (by decide) | exact o.2 _ _ | omega) (fun c56 => ?_) (fun c56 => ?_)
            · skip
              rw [g11_0] at c56
              rw [ifp_f (by grind)]
              refine zx_iconst (pc := 63) dX7_read_63 ?_
              refine zx_istore_n (pc := 64) dX7_read_64 rfl (by decide) rfl ?_
              refine zx_aload_n (pc := 65) dX7_read_65 rfl rfl ?_
              refine zx_iload_n (pc := 66) dX7_read_66 rfl rfl ?_
              refine zx_iload_n (pc := 67) dX7_read_67 rfl rfl ?_
              refine zx_if_eq (pc := 68) (tgt := 80) dX7_read_68 (by decide) (fun _ => by decide) (fun _ => ?_) (fun c9 => absurd c9 (by decide))
              refine zx_aload_n (pc := 80) dX7_read_80 rfl rfl ?_
              refine zg_X7_37 (pc := 81) dX7_read_81 ?_
              refine zx_iload_n (pc := 84) dX7_read_84 rfl rfl ?_
              refine zx_iaload (pc := 85) aX7_committed dX7_read_85 (by omega) (by omega) (by omega) ?_
              refine zi_X7_368 (pc := 86) dX7_read_86 (C_X7_valueOf s0.1 r2 (ok.2 _ _)) (by decide) (Nat.le_of_ble_eq_true rfl) (fun z86 h86 u86 v86 q86 => ?_)
              obtain ⟨rfl, e86⟩ := q86
              rw [e86]
              clear e86 h86
              refine zx_iret (pc := 89) dX7_read_89 (fun o => by first | exact o.1 _ (by decide) | exact o.2 _ _ | omega) ?_
              first | exact ⟨rfl, rfl⟩ | exact ⟨rfl, ps_ps _ _ _ _⟩
            · skip
              rw [g11_0] at c56
              rw [ifp_t ⟨c46, c56⟩]
              refine zx_iconst (pc := 59) dX7_read_59 ?_
              refine zx_goto (pc := 60) (tgt := 64) dX7_read_60 (by decide) ?_
              refine zx_istore_n (pc := 64) dX7_read_64 rfl (by decide) rfl ?_
              refine zx_aload_n (pc := 65) dX7_read_65 rfl rfl ?_
              refine zx_iload_n (pc := 66) dX7_read_66 rfl rfl ?_
              refine zx_iload_n (pc := 67) dX7_read_67 rfl rfl ?_
              refine zx_if_eq (pc := 68) (tgt := 80) dX7_read_68 (by decide) (fun _ => by decide) (fun c9 => absurd c9 (by decide)) (fun _ => ?_)
              refine zx_aload_n (pc := 71) dX7_read_71 rfl rfl ?_
              refine zg_X7_43 (pc := 72) dX7_read_72 ?_
              refine zx_iload_n (pc := 75) dX7_read_75 rfl rfl ?_
              refine zx_iaload (pc := 76) aX7_shadow dX7_read_76 (by omega) (by omega) (by omega) ?_
              refine zx_goto (pc := 77) (tgt := 86) dX7_read_77 (by decide) ?_
              refine zi_X7_368 (pc := 86) dX7_read_86 (C_X7_valueOf s0.1 r2 (ok.2 _ _)) (by decide) (Nat.le_of_ble_eq_true rfl) (fun z86 h86 u86 v86 q86 => ?_)
              obtain ⟨rfl, e86⟩ := q86
              rw [e86]
              clear e86 h86
              refine zx_iret (pc := 89) dX7_read_89 (fun o => by first | exact o.1 _ (by decide) | exact o.2 _ _ | omega) ?_
              first | exact ⟨rfl, rfl⟩ | exact ⟨rfl, ps_ps _ _ _ _⟩
        · skip
          try replace c36 := b2i_0.mp c36
          rw [mAct_0] at c36
          rw [ifp_t c36]
          refine zx_aload_n (pc := 39) dX7_read_39 rfl rfl ?_
          refine zx_iconst (pc := 40) dX7_read_40 ?_
          refine zi_X7_138 (pc := 41) dX7_read_41 (C_X7_refuse2 (by decide)) (by decide) (Nat.le_of_ble_eq_true rfl) (fun z41 h41 u41 v41 q41 => ?_)
          obtain ⟨rfl, e41⟩ := q41
          rw [e41]
          clear e41 h41
          refine zx_iret (pc := 44) dX7_read_44 (fun o => by first | exact o.1 _ (by decide) | exact o.2 _ _ | omega) ?_
          first | exact ⟨rfl, rfl⟩ | exact ⟨rfl, ps_ps _ _ _ _⟩
      · skip
        try replace c22 := b2i_0.mp c22
        rw [mLg_0] at c22
        rw [ifp_t (Or.inr c22)]
        refine zx_aload_n (pc := 25) dX7_read_25 rfl rfl ?_
        refine zx_iconst (pc := 26) dX7_read_26 ?_
        refine zi_X7_138 (pc := 27) dX7_read_27 (C_X7_refuse2 (by decide)) (by decide) (Nat.le_of_ble_eq_true rfl) (fun z27 h27 u27 v27 q27 => ?_)
        obtain ⟨rfl, e27⟩ := q27
        rw [e27]
        clear e27 h27
        refine zx_iret (pc := 30) dX7_read_30 (fun o => by first | exact o.1 _ (by decide) | exact o.2 _ _ | omega) ?_
        first | exact ⟨rfl, rfl⟩ | exact ⟨rfl, ps_ps _ _ _ _⟩
theorem page_Kp_ix {h : zH} (w ix g : Int) : gs (m_page h w ix g).1 3 = gs h 3 ∧ gs (m_page h w ix g).1 2 = gs h 2 := ⟨(Kp_page h w ix g).1 3 (by unfold kSc; decide), (Kp_page h w ix g).1 2 (by unfold kSc; decide)⟩
theorem MS_shd {h : zH} {u : Int → Int} (s : MS h u) (t n : Int) : MS (m_shd h t n) u := MS_c s rfl rfl rfl rfl rfl (fun j => by rw [ga_shd, if_neg (by omega)]) (fun j => by rw [ga_shd, if_neg (by omega)])
theorem MS_unl {h : zH} {u : Int → Int} (s : MS h u) (t n : Int) : MS (m_unl h t n) u := MS_c s rfl rfl rfl rfl rfl (fun j => by rw [ga_unl, if_neg (by omega)]) (fun j => by rw [ga_unl, if_neg (by omega)])
theorem shd_0 (h : zH) (t : Int) : m_shd h t 0 = h := by
  apply zH_ext
  · intro k; rfl
  · intro c j
    rw [ga_shd, if_neg (by omega)]
theorem shd_y (h : zH) {t n : Int} (h0 : 0 ≤ n) (e : ga h 11 n = t) : pa (m_shd h t n) 10 n (ga h 12 n) = m_shd h t (n + 1) := by
  apply zH_ext
  · intro k; rfl
  · intro c j
    simp only [ga_pa, ga_shd]
    by_cases hj : c = 10 ∧ j = n
    · obtain ⟨q1, q2⟩ := hj
      subst q2
      rw [if_pos ⟨q1, rfl⟩, if_pos (by omega)]
    · rw [if_neg hj]
      by_cases q : c = 10 ∧ 0 ≤ j ∧ j < n ∧ ga h 11 j = t
      · rw [if_pos q, if_pos (by omega)]
      · rw [if_neg q, if_neg (by omega)]
theorem shd_n (h : zH) {t n : Int} (e : ga h 11 n ≠ t) : pa (m_shd h t n) 10 n (ga h 10 n) = m_shd h t (n + 1) := by
  apply zH_ext
  · intro k; rfl
  · intro c j
    simp only [ga_pa, ga_shd]
    by_cases hj : c = 10 ∧ j = n
    · obtain ⟨q1, q2⟩ := hj
      subst q2
      rw [if_pos ⟨q1, rfl⟩, if_neg (by omega), q1]
    · rw [if_neg hj]
      by_cases q : c = 10 ∧ 0 ≤ j ∧ j < n ∧ ga h 11 j = t
      · rw [if_pos q, if_pos (by omega)]
      · rw [if_neg q, if_neg (by
          intro z
          by_cases e2 : j = n
          · exact e (by rw [← e2]; exact z.2.2.2)
          · omega)]
set_option maxRecDepth 100000 in
theorem L_X7_commits0 {h : zH} (hb : MB h) {a1 a2 : Int} (r1 : -2147483648 ≤ a1 ∧ a1 < 2147483648) (Q : Int → zH → Prop) (k : ∀ j, zX cM zNo RX7 cX7_commits0 4 (some .boolean) rX7_commits0 71 [some (.ref 0), some (.int (iI a1)), some (.int (iI a2)), some (.int (iI j))] [] (m_shd h a1 (gs h 3)) (zEi cM Q)) : ∀ (n : Nat) (i : Int), 0 ≤ i → i ≤ gs h 3 → gs h 3 - i < n → zX cM zNo RX7 cX7_commits0 4 (some .boolean) rX7_commits0 26 [some (.ref 0), some (.int (iI a1)), some (.int (iI a2)), some (.int (iI i))] [] (m_shd h a1 i) (zEi cM Q) := by
  obtain ⟨m1, m2, m3, m4, m5, m6⟩ := hb
  intro n
  induction n with
  | zero => intro i g1 g2 g3; omega
  | succ n ih =>
    intro i g1 g2 g3
    have e3 : gs (m_shd h a1 i) 3 = gs h 3 := rfl
    have e11 : ga (m_shd h a1 i) 11 i = ga h 11 i := by rw [ga_shd, if_neg (by omega)]
    have e12 : ga (m_shd h a1 i) 12 i = ga h 12 i := by rw [ga_shd, if_neg (by omega)]
    have e10 : ga (m_shd h a1 i) 10 i = ga h 10 i := by rw [ga_shd, if_neg (by omega)]
    refine zx_iload_n (pc := 26) dX7_commits0_26 rfl rfl ?_
    refine zx_aload_n (pc := 27) dX7_commits0_27 rfl rfl ?_
    refine zg_X7_72 (pc := 28) dX7_commits0_28 ?_
    refine zx_icmp_ge (pc := 31) (tgt := 71) dX7_commits0_31 (by decide) (fun o => by first | exact o.1 _ (by decide) | exact o.2 _ _ | omega) (fun o => by first | exact o.1 _ (by decide) | exact o.2 _ _ | omega) (fun c31 => ?_) (fun c31 => ?_)
    · skip
      rw [e3] at c31
      have e : i = gs h 3 := by omega
      rw [e]
      exact k _
    · skip
      rw [e3] at c31
      refine zx_aload_n (pc := 34) dX7_commits0_34 rfl rfl ?_
      refine zg_X7_37 (pc := 35) dX7_commits0_35 ?_
      refine zx_iload_n (pc := 38) dX7_commits0_38 rfl rfl ?_
      refine zx_aload_n (pc := 39) dX7_commits0_39 rfl rfl ?_
      refine zg_X7_40 (pc := 40) dX7_commits0_40 ?_
      refine zx_iload_n (pc := 43) dX7_commits0_43 rfl rfl ?_
      refine zx_iaload (pc := 44) aX7_locker dX7_commits0_44 (by omega) (by omega) (by omega) ?_
      refine zx_iload_n (pc := 45) dX7_commits0_45 rfl rfl ?_
      refine zx_icmp_ne (pc := 46) (tgt := 58) dX7_commits0_46 (by decide) (fun o => by first | exact o.1 _ (by decide) | exact o.2 _ _ | omega) (fun o => by first | exact o.1 _ (by decide) | exact o.2 _ _ | omega) (fun c46 => ?_) (fun c46 => ?_)
      · skip
        rw [e11] at c46
        refine zx_aload_n (pc := 58) dX7_commits0_58 rfl rfl ?_
        refine zg_X7_37 (pc := 59) dX7_commits0_59 ?_
        refine zx_iload_n (pc := 62) dX7_commits0_62 rfl rfl ?_
        refine zx_iaload (pc := 63) aX7_committed dX7_commits0_63 (by omega) (by omega) (by omega) ?_
        refine zx_iastore (pc := 64) aX7_committed dX7_commits0_64 (by omega) (by omega) (by omega) (fun o => o.2 _ _) ?_
        refine zx_iinc (pc := 65) dX7_commits0_65 (by decide) rfl rfl ?_
        refine zx_goto (pc := 68) (tgt := 26) dX7_commits0_68 (by decide) ?_
        first | (have c9 := c46; rw [e12, shd_y h g1 (by omega)]) | rw [e10, shd_n h c46]
        exact ih (i + 1) (by omega) (by omega) (by omega)
      · skip
        rw [e11] at c46
        refine zx_aload_n (pc := 49) dX7_commits0_49 rfl rfl ?_
        refine zg_X7_43 (pc := 50) dX7_commits0_50 ?_
        refine zx_iload_n (pc := 53) dX7_commits0_53 rfl rfl ?_
        refine zx_iaload (pc := 54) aX7_shadow dX7_commits0_54 (by omega) (by omega) (by omega) ?_
        refine zx_goto (pc := 55) (tgt := 64) dX7_commits0_55 (by decide) ?_
        refine zx_iastore (pc := 64) aX7_committed dX7_commits0_64 (by omega) (by omega) (by omega) (fun o => o.2 _ _) ?_
        refine zx_iinc (pc := 65) dX7_commits0_65 (by decide) rfl rfl ?_
        refine zx_goto (pc := 68) (tgt := 26) dX7_commits0_68 (by decide) ?_
        first | (have c9 := c46; rw [e12, shd_y h g1 (by omega)]) | rw [e10, shd_n h c46]
        exact ih (i + 1) (by omega) (by omega) (by omega)
set_option maxRecDepth 100000 in
theorem C_X7_commits0 {h : zH} {u : Int → Int} (s : MS h u) (hp : 0 < gs h 2) {a1 a2 : Int} (h1 : 1 ≤ a1) (h2 : a1 ≤ 1000) (r2 : -2147483648 ≤ a2 ∧ a2 < 2147483648) : kX7_commits0 a1 a2 h (fun r h2 => r = (m_com0 h a1 a2).2 ∧ h2 = (m_com0 h a1 a2).1) := by
  have hL := s.1.2.2.2.2.2
  have hb := s.1
  have hpf : 0 ≤ m_pfc h ∧ m_pfc h ≤ 1000 := by
    unfold m_pfc mParts
    have := hb.2.2.2.2.1
    rcases Classical.em (gs h 4 ≤ wr (gs h 36 + 1)) with c | c
    · rw [ifp_t c]; omega
    · rw [ifp_f c]; omega
  obtain ⟨u2, t1, t2⟩ := page_MS s hp (w := 2) (ix := a2) (g := a1) (by decide) (fun z => absurd z (by decide)) (fun z => absurd z (by decide))
  obtain ⟨e3, e2⟩ := page_Kp_ix (h := h) 2 a2 a1
  have w0 := MS_shd t1 a1 (gs (m_page h 2 a2 a1).1 3)
  have w1 := MS_unl w0 a1 (gs (m_page h 2 a2 a1).1 3)
  have w2 := MS_pa w1 (c := 15) (by decide) a1 2
  have hp2 : 0 < gs (m_cm2 (m_page h 2 a2 a1).1 a1) 2 := by
    show 0 < gs (m_page h 2 a2 a1).1 2
    rw [e2]; exact hp
  have q := (cc_MS (h := m_cm2 (m_page h 2 a2 a1).1 a1) w2 hp2).2.2.2
  apply eX7_commits0
  unfold m_com0
  refine zx_aload_n (pc := 0) dX7_commits0_0 rfl rfl ?_
  refine zx_aload_n (pc := 1) dX7_commits0_1 rfl rfl ?_
  refine zi_X7_347 (pc := 2) dX7_commits0_2 (C_X7_pagesForCommit hb) (by decide) (Nat.le_of_ble_eq_true rfl) (fun z2 h2 u2 v2 q2 => ?_)
  obtain ⟨rfl, e2⟩ := q2
  rw [e2]
  clear e2 h2
  refine zi_X7_341 (pc := 5) dX7_commits0_5 (C_X7_hasRoom hb s.2.1 hpf.1 hpf.2) (by decide) (Nat.le_of_ble_eq_true rfl) (fun z5 h5 u5 v5 q5 => ?_)
  obtain ⟨rfl, e5⟩ := q5
  rw [e5]
  clear e5 h5
  refine zx_if_eq (pc := 8) (tgt := 22) dX7_commits0_8 (by decide) (fun o => by first | exact o.1 _ (by decide) | exact o.2 _ _ | omega) (fun c8 => ?_) (fun c8 => ?_)
  · skip
    try replace c8 := b2i_0.mp c8
    rw [ifp_f c8]
    refine zx_iconst (pc := 22) dX7_commits0_22 ?_
    refine zx_zret (pc := 23) dX7_commits0_23 (by omega) ?_
    exact ⟨rfl, rfl⟩
  · skip
    try replace c8 := b2i_n0.mp c8
    rw [ifp_t c8]
    unfold m_cm1
    refine zx_aload_n (pc := 11) dX7_commits0_11 rfl rfl ?_
    refine zx_iconst (pc := 12) dX7_commits0_12 ?_
    refine zx_iload_n (pc := 13) dX7_commits0_13 rfl rfl ?_
    refine zx_iload_n (pc := 14) dX7_commits0_14 rfl rfl ?_
    refine zi_X7_328 (pc := 15) dX7_commits0_15 (C_X7_programsPage s hp (by omega) r2 (by omega)) (by decide) (Nat.le_of_ble_eq_true rfl) (fun z15 h15 u15 v15 q15 => ?_)
    obtain ⟨rfl, e15⟩ := q15
    rw [e15]
    clear e15 h15
    refine zx_iconst (pc := 18) dX7_commits0_18 ?_
    refine zx_icmp_ne (pc := 19) (tgt := 24) dX7_commits0_19 (by decide) (fun o => by first | exact o.1 _ (by decide) | exact o.2 _ _ | omega) (fun o => by first | exact o.1 _ (by decide) | exact o.2 _ _ | omega) (fun c19 => ?_) (fun c19 => ?_)
    · skip
      rcases t2 with t2 | t2
      · exact absurd t2 c19
      rw [ifp_f c19]
      refine zx_iconst (pc := 24) dX7_commits0_24 ?_
      refine zx_istore_n (pc := 25) dX7_commits0_25 rfl (by decide) rfl ?_
      have r := L_X7_commits0 (h := (m_page h 2 a2 a1).1) t1.1 (a1 := a1) (a2 := a2) (by omega) (fun r h2 => r = (m_cc (m_cm2 (m_page h 2 a2 a1).1 a1)).2 ∧ h2 = (m_cc (m_cm2 (m_page h 2 a2 a1).1 a1)).1) (fun j => ?_) 65 0 (Int.le_refl _) (by rw [e3]; exact s.1.2.2.2.2.1) (by rw [e3]; omega)
      · rw [shd_0] at r
        exact r
      refine zx_aload_n (pc := 71) dX7_commits0_71 rfl rfl ?_
      refine zx_iload_n (pc := 72) dX7_commits0_72 rfl rfl ?_
      refine zi_X7_371 (pc := 73) dX7_commits0_73 (C_X7_unlocks w0.1 (by omega)) (by decide) (Nat.le_of_ble_eq_true rfl) (fun h73 q73 => ?_)
      rw [q73]
      clear q73 h73
      refine zx_aload_n (pc := 76) dX7_commits0_76 rfl rfl ?_
      refine zg_X7_57 (pc := 77) dX7_commits0_77 ?_
      refine zx_iload_n (pc := 80) dX7_commits0_80 rfl rfl ?_
      refine zx_iconst (pc := 81) dX7_commits0_81 ?_
      refine zx_iastore (pc := 82) aX7_states dX7_commits0_82 (by omega) (by omega) (by omega) (fun o => by first | exact o.1 _ (by decide) | exact o.2 _ _ | omega) ?_
      refine zx_aload_n (pc := 83) dX7_commits0_83 rfl rfl ?_
      refine zi_X7_353 (pc := 84) dX7_commits0_84 (C_X7_countsCommit (h := m_cm2 (m_page h 2 a2 a1).1 a1) w2 hp2) (by decide) (Nat.le_of_ble_eq_true rfl) (fun z84 h84 u84 v84 q84 => ?_)
      obtain ⟨rfl, e84⟩ := q84
      rw [e84]
      clear e84 h84
      refine zx_zret (pc := 87) dX7_commits0_87 (by omega) ?_
      exact ⟨rfl, rfl⟩
    · skip
      rw [ifp_t c19]
      refine zx_iconst (pc := 22) dX7_commits0_22 ?_
      refine zx_zret (pc := 23) dX7_commits0_23 (by omega) ?_
      exact ⟨rfl, rfl⟩
theorem cm1_MS {h : zH} {u : Int → Int} (s : MS h u) (hp : 0 < gs h 2) (t n : Int) : (∃ u2, MS (m_cm1 h t n).1 u2) ∧ ((m_cm1 h t n).2 = 0 ∨ (m_cm1 h t n).2 = 1) := by
  obtain ⟨u2, t1, t2⟩ := page_MS s hp (w := 2) (ix := n) (g := t) (by decide) (fun z => absurd z (by decide)) (fun z => absurd z (by decide))
  obtain ⟨e3, e2⟩ := page_Kp_ix (h := h) 2 n t
  have w0 := MS_shd t1 t (gs (m_page h 2 n t).1 3)
  have w1 := MS_unl w0 t (gs (m_page h 2 n t).1 3)
  have w2 := MS_pa w1 (c := 15) (by decide) t 2
  have hp2 : 0 < gs (m_cm2 (m_page h 2 n t).1 t) 2 := by
    show 0 < gs (m_page h 2 n t).1 2
    rw [e2]; exact hp
  unfold m_cm1
  rcases Classical.em ((m_page h 2 n t).2 = -1) with c | c
  · rw [ifp_t c]
    exact ⟨⟨u2, t1⟩, Or.inl rfl⟩
  · rw [ifp_f c]
    have q := cc_MS (h := m_cm2 (m_page h 2 n t).1 t) w2 hp2
    exact ⟨q.1, q.2.2.2⟩
theorem com0_01 {h : zH} {u : Int → Int} (s : MS h u) (hp : 0 < gs h 2) (t n : Int) : (m_com0 h t n).2 = 0 ∨ (m_com0 h t n).2 = 1 := by
  unfold m_com0
  rcases Classical.em (mRoomFor h (m_pfc h)) with c | c
  · rw [ifp_t c]
    exact (cm1_MS s hp t n).2
  · rw [ifp_f c]
    exact Or.inl rfl
set_option maxRecDepth 100000 in
theorem C_X7_commit {h : zH} {u : Int → Int} (s : MS h u) (hp : gs h 26 ≠ 0 → 0 < gs h 2) (h1 : 0 ≤ gs h 38) (h2 : gs h 38 ≤ 1000) {a1 : Int} (r1 : -2147483648 ≤ a1 ∧ a1 < 2147483648) : kX7_commit a1 h (fun r h2 => r = (m_commit h a1).2 ∧ h2 = (m_commit h a1).1) := by
  have s0 := MS_0 s 0
  have hL := s.1.2.2.2.2
  have ql := mLocks_r (h := h) a1
  have el : mLocks (ps h 0 0) a1 = mLocks h a1 := rfl
  apply eX7_commit
  unfold m_commit
  refine zx_aload_n (pc := 0) dX7_commit_0 rfl rfl ?_
  refine zx_iconst (pc := 1) dX7_commit_1 ?_
  refine zp_X7_69 (pc := 2) dX7_commit_2 (fun o => by first | exact o.1 _ (by decide) | exact o.2 _ _ | omega) ?_
  refine zx_aload_n (pc := 5) dX7_commit_5 rfl rfl ?_
  refine zx_iload_n (pc := 6) dX7_commit_6 rfl rfl ?_
  refine zi_X7_356 (pc := 7) dX7_commit_7 (C_X7_isTransaction r1) (by decide) (Nat.le_of_ble_eq_true rfl) (fun z7 h7 u7 v7 q7 => ?_)
  obtain ⟨rfl, e7⟩ := q7
  rw [e7]
  clear e7 h7
  refine zx_if_ne (pc := 10) (tgt := 19) dX7_commit_10 (by decide) (fun o => by first | exact o.1 _ (by decide) | exact o.2 _ _ | omega) (fun c10 => ?_) (fun c10 => ?_)
  · skip
    try replace c10 := b2i_n0.mp c10
    rw [mTx_0] at c10
    rw [ifp_f (fun z => z c10)]
    have c10a := c10
    unfold mTx at c10a
    refine zx_aload_n (pc := 19) dX7_commit_19 rfl rfl ?_
    refine zx_iload_n (pc := 20) dX7_commit_20 rfl rfl ?_
    refine zi_X7_362 (pc := 21) dX7_commit_21 (C_X7_canAct (by unfold mTx at c10; omega) (by unfold mTx at c10; omega)) (by decide) (Nat.le_of_ble_eq_true rfl) (fun z21 h21 u21 v21 q21 => ?_)
    obtain ⟨rfl, e21⟩ := q21
    rw [e21]
    clear e21 h21
    refine zx_if_ne (pc := 24) (tgt := 33) dX7_commit_24 (by decide) (fun o => by first | exact o.1 _ (by decide) | exact o.2 _ _ | omega) (fun c24 => ?_) (fun c24 => ?_)
    · skip
      try replace c24 := b2i_n0.mp c24
      rw [mAct_0] at c24
      rw [ifp_f (fun z => z c24)]
      refine zx_aload_n (pc := 33) dX7_commit_33 rfl rfl ?_
      refine zx_iload_n (pc := 34) dX7_commit_34 rfl rfl ?_
      refine zi_X7_374 (pc := 35) dX7_commit_35 (C_X7_locksOf s0.1 r1) (by decide) (Nat.le_of_ble_eq_true rfl) (fun z35 h35 u35 v35 q35 => ?_)
      obtain ⟨rfl, e35⟩ := q35
      rw [e35]
      clear e35 h35
      refine zx_istore_n (pc := 38) dX7_commit_38 rfl (by decide) rfl ?_
      refine zx_iload_n (pc := 39) dX7_commit_39 rfl rfl ?_
      refine zx_if_ne (pc := 40) (tgt := 52) dX7_commit_40 (by decide) (fun o => by first | exact o.1 _ (by decide) | exact o.2 _ _ | omega) (fun c40 => ?_) (fun c40 => ?_)
      · skip
        rw [el] at c40
        rw [ifp_f c40]
        refine zx_aload_n (pc := 52) dX7_commit_52 rfl rfl ?_
        refine zx_iload_n (pc := 53) dX7_commit_53 rfl rfl ?_
        refine zx_iload_n (pc := 54) dX7_commit_54 rfl rfl ?_
        refine zi_X7_377 (pc := 55) dX7_commit_55 (C_X7_commits0 s0 (hp c24.1) c10.1 (by unfold mTx at c10; omega) (by omega)) (by decide) (Nat.le_of_ble_eq_true rfl) (fun z55 h55 u55 v55 q55 => ?_)
        obtain ⟨rfl, e55⟩ := q55
        rw [e55]
        clear e55 h55
        refine zx_if_eq (pc := 58) (tgt := 65) dX7_commit_58 (by decide) (fun o => by first | exact o.1 _ (by decide) | exact o.2 _ _ | omega) (fun c58 => ?_) (fun c58 => ?_)
        · skip
          try replace c58 := b2i_0.mp c58
          rw [el] at c58
          have t2 := com0_01 s0 (hp c24.1) a1 (mLocks h a1)
          rw [ifp_f (by omega)]
          refine zx_aload_n (pc := 65) dX7_commit_65 rfl rfl ?_
          refine zx_iconst (pc := 66) dX7_commit_66 ?_
          refine zi_X7_138 (pc := 67) dX7_commit_67 (C_X7_refuse2 (by decide)) (by decide) (Nat.le_of_ble_eq_true rfl) (fun z67 h67 u67 v67 q67 => ?_)
          obtain ⟨rfl, e67⟩ := q67
          rw [e67]
          clear e67 h67
          refine zx_iret (pc := 70) dX7_commit_70 (fun o => by first | exact o.1 _ (by decide) | exact o.2 _ _ | omega) ?_
          first | exact ⟨rfl, rfl⟩ | exact ⟨rfl, ps_ps _ _ _ _⟩
        · skip
          try replace c58 := b2i_n0.mp c58
          rw [el] at c58
          have t2 := com0_01 s0 (hp c24.1) a1 (mLocks h a1)
          rw [ifp_t (by omega)]
          refine zx_iload_n (pc := 61) dX7_commit_61 rfl rfl ?_
          refine zx_goto (pc := 62) (tgt := 70) dX7_commit_62 (by decide) ?_
          refine zx_iret (pc := 70) dX7_commit_70 (fun o => by first | exact o.1 _ (by decide) | exact o.2 _ _ | omega) ?_
          first | exact ⟨rfl, rfl⟩ | exact ⟨rfl, ps_ps _ _ _ _⟩
      · skip
        rw [el] at c40
        rw [ifp_t c40]
        refine zx_aload_n (pc := 43) dX7_commit_43 rfl rfl ?_
        refine zg_X7_57 (pc := 44) dX7_commit_44 ?_
        refine zx_iload_n (pc := 47) dX7_commit_47 rfl rfl ?_
        refine zx_iconst (pc := 48) dX7_commit_48 ?_
        refine zx_iastore (pc := 49) aX7_states dX7_commit_49 (by omega) (by omega) (by omega) (fun o => by first | exact o.1 _ (by decide) | exact o.2 _ _ | omega) ?_
        refine zx_iconst (pc := 50) dX7_commit_50 ?_
        refine zx_iret (pc := 51) dX7_commit_51 (fun o => by first | exact o.1 _ (by decide) | exact o.2 _ _ | omega) ?_
        first | exact ⟨rfl, rfl⟩ | exact ⟨rfl, ps_ps _ _ _ _⟩
    · skip
      try replace c24 := b2i_0.mp c24
      rw [mAct_0] at c24
      rw [ifp_t c24]
      refine zx_aload_n (pc := 27) dX7_commit_27 rfl rfl ?_
      refine zx_iconst (pc := 28) dX7_commit_28 ?_
      refine zi_X7_138 (pc := 29) dX7_commit_29 (C_X7_refuse2 (by decide)) (by decide) (Nat.le_of_ble_eq_true rfl) (fun z29 h29 u29 v29 q29 => ?_)
      obtain ⟨rfl, e29⟩ := q29
      rw [e29]
      clear e29 h29
      refine zx_iret (pc := 32) dX7_commit_32 (fun o => by first | exact o.1 _ (by decide) | exact o.2 _ _ | omega) ?_
      first | exact ⟨rfl, rfl⟩ | exact ⟨rfl, ps_ps _ _ _ _⟩
  · skip
    try replace c10 := b2i_0.mp c10
    rw [mTx_0] at c10
    rw [ifp_t c10]
    refine zx_aload_n (pc := 13) dX7_commit_13 rfl rfl ?_
    refine zx_iconst (pc := 14) dX7_commit_14 ?_
    refine zi_X7_138 (pc := 15) dX7_commit_15 (C_X7_refuse2 (by decide)) (by decide) (Nat.le_of_ble_eq_true rfl) (fun z15 h15 u15 v15 q15 => ?_)
    obtain ⟨rfl, e15⟩ := q15
    rw [e15]
    clear e15 h15
    refine zx_iret (pc := 18) dX7_commit_18 (fun o => by first | exact o.1 _ (by decide) | exact o.2 _ _ | omega) ?_
    first | exact ⟨rfl, rfl⟩ | exact ⟨rfl, ps_ps _ _ _ _⟩
set_option maxRecDepth 100000 in
theorem C_X7_abort {h : zH} {u : Int → Int} (s : MS h u) (h1 : 0 ≤ gs h 38) (h2 : gs h 38 ≤ 1000) {a1 : Int} (r1 : -2147483648 ≤ a1 ∧ a1 < 2147483648) : kX7_abort a1 h (fun r h2 => r = (m_abort h a1).2 ∧ h2 = (m_abort h a1).1) := by
  have s0 := MS_0 s 0
  have hL := s.1.2.2.2.2
  have ql := mLocks_r (h := h) a1
  have el : mLocks (ps h 0 0) a1 = mLocks h a1 := rfl
  apply eX7_abort
  unfold m_abort
  refine zx_aload_n (pc := 0) dX7_abort_0 rfl rfl ?_
  refine zx_iconst (pc := 1) dX7_abort_1 ?_
  refine zp_X7_69 (pc := 2) dX7_abort_2 (fun o => by first | exact o.1 _ (by decide) | exact o.2 _ _ | omega) ?_
  refine zx_aload_n (pc := 5) dX7_abort_5 rfl rfl ?_
  refine zx_iload_n (pc := 6) dX7_abort_6 rfl rfl ?_
  refine zi_X7_356 (pc := 7) dX7_abort_7 (C_X7_isTransaction r1) (by decide) (Nat.le_of_ble_eq_true rfl) (fun z7 h7 u7 v7 q7 => ?_)
  obtain ⟨rfl, e7⟩ := q7
  rw [e7]
  clear e7 h7
  refine zx_if_ne (pc := 10) (tgt := 19) dX7_abort_10 (by decide) (fun o => by first | exact o.1 _ (by decide) | exact o.2 _ _ | omega) (fun c10 => ?_) (fun c10 => ?_)
  · skip
    try replace c10 := b2i_n0.mp c10
    rw [mTx_0] at c10
    rw [ifp_f (fun z => z c10)]
    have c10a := c10
    unfold mTx at c10a
    refine zx_aload_n (pc := 19) dX7_abort_19 rfl rfl ?_
    refine zx_iload_n (pc := 20) dX7_abort_20 rfl rfl ?_
    refine zi_X7_362 (pc := 21) dX7_abort_21 (C_X7_canAct (by unfold mTx at c10; omega) (by unfold mTx at c10; omega)) (by decide) (Nat.le_of_ble_eq_true rfl) (fun z21 h21 u21 v21 q21 => ?_)
    obtain ⟨rfl, e21⟩ := q21
    rw [e21]
    clear e21 h21
    refine zx_if_ne (pc := 24) (tgt := 33) dX7_abort_24 (by decide) (fun o => by first | exact o.1 _ (by decide) | exact o.2 _ _ | omega) (fun c24 => ?_) (fun c24 => ?_)
    · skip
      try replace c24 := b2i_n0.mp c24
      rw [mAct_0] at c24
      rw [ifp_f (fun z => z c24)]
      refine zx_aload_n (pc := 33) dX7_abort_33 rfl rfl ?_
      refine zx_iload_n (pc := 34) dX7_abort_34 rfl rfl ?_
      refine zi_X7_374 (pc := 35) dX7_abort_35 (C_X7_locksOf s0.1 r1) (by decide) (Nat.le_of_ble_eq_true rfl) (fun z35 h35 u35 v35 q35 => ?_)
      obtain ⟨rfl, e35⟩ := q35
      rw [e35]
      clear e35 h35
      refine zx_istore_n (pc := 38) dX7_abort_38 rfl (by decide) rfl ?_
      refine zx_aload_n (pc := 39) dX7_abort_39 rfl rfl ?_
      refine zx_iload_n (pc := 40) dX7_abort_40 rfl rfl ?_
      refine zi_X7_371 (pc := 41) dX7_abort_41 (C_X7_unlocks s0.1 r1) (by decide) (Nat.le_of_ble_eq_true rfl) (fun h41 q41 => ?_)
      rw [q41]
      clear q41 h41
      refine zx_aload_n (pc := 44) dX7_abort_44 rfl rfl ?_
      refine zg_X7_57 (pc := 45) dX7_abort_45 ?_
      refine zx_iload_n (pc := 48) dX7_abort_48 rfl rfl ?_
      refine zx_iconst (pc := 49) dX7_abort_49 ?_
      refine zx_iastore (pc := 50) aX7_states dX7_abort_50 (by omega) (by omega) (by omega) (fun o => by first | exact o.1 _ (by decide) | exact o.2 _ _ | omega) ?_
      refine zx_iload_n (pc := 51) dX7_abort_51 rfl rfl ?_
      refine zx_iret (pc := 52) dX7_abort_52 (fun o => by first | exact o.1 _ (by decide) | exact o.2 _ _ | omega) ?_
      first | exact ⟨rfl, rfl⟩ | exact ⟨rfl, ps_ps _ _ _ _⟩
    · skip
      try replace c24 := b2i_0.mp c24
      rw [mAct_0] at c24
      rw [ifp_t c24]
      refine zx_aload_n (pc := 27) dX7_abort_27 rfl rfl ?_
      refine zx_iconst (pc := 28) dX7_abort_28 ?_
      refine zi_X7_138 (pc := 29) dX7_abort_29 (C_X7_refuse2 (by decide)) (by decide) (Nat.le_of_ble_eq_true rfl) (fun z29 h29 u29 v29 q29 => ?_)
      obtain ⟨rfl, e29⟩ := q29
      rw [e29]
      clear e29 h29
      refine zx_iret (pc := 32) dX7_abort_32 (fun o => by first | exact o.1 _ (by decide) | exact o.2 _ _ | omega) ?_
      first | exact ⟨rfl, rfl⟩ | exact ⟨rfl, ps_ps _ _ _ _⟩
  · skip
    try replace c10 := b2i_0.mp c10
    rw [mTx_0] at c10
    rw [ifp_t c10]
    refine zx_aload_n (pc := 13) dX7_abort_13 rfl rfl ?_
    refine zx_iconst (pc := 14) dX7_abort_14 ?_
    refine zi_X7_138 (pc := 15) dX7_abort_15 (C_X7_refuse2 (by decide)) (by decide) (Nat.le_of_ble_eq_true rfl) (fun z15 h15 u15 v15 q15 => ?_)
    obtain ⟨rfl, e15⟩ := q15
    rw [e15]
    clear e15 h15
    refine zx_iret (pc := 18) dX7_abort_18 (fun o => by first | exact o.1 _ (by decide) | exact o.2 _ _ | omega) ?_
    first | exact ⟨rfl, rfl⟩ | exact ⟨rfl, ps_ps _ _ _ _⟩

