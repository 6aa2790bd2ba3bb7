/-! collecting, making room, programming a page: contracts -/
set_option maxRecDepth 100000 in
theorem L_X7_collects {b : Int} (Q : Int → zH → Prop) : ∀ (n : Nat) (h : zH) (u : Int → Int) (i : Int), MS h u → 0 ≤ gs h 32 → 0 ≤ b → b < gs h 1 → b ≠ gs h 32 → gs h 2 * b ≤ i → i + n = gs h 2 * b + gs h 2 → u (gs h 32) + cnt (mGood h) i n < gs h 2 → ((m_collL n h i).2 = 0 → Q 0 (m_collL n h i).1) → (∀ hN j, m_collL n h i = (hN, 1) → zX cM zNo RX7 cX7_collects 3 (some .boolean) rX7_collects 43 [some (.ref 0), some (.int (iI b)), some (.int (iI j))] [] hN (zEi cM Q)) → zX cM zNo RX7 cX7_collects 3 (some .boolean) rX7_collects 7 [some (.ref 0), some (.int (iI b)), some (.int (iI i))] [] h (zEi cM Q) := by
  intro n
  induction n with
  | zero =>
    intro h u i s h1 b1 b2 b3 i1 i2 hc k0 k1
    obtain ⟨m1, m2, m3, m4, m5, m6⟩ := s.1
    obtain ⟨p1, p2, p3, p4⟩ := mb_blk b1 b2 m2 m3 m4
    refine zx_iload_n (pc := 7) dX7_collects_7 rfl rfl ?_
    refine zx_aload_n (pc := 8) dX7_collects_8 rfl rfl ?_
    refine zg_X7_82 (pc := 9) dX7_collects_9 ?_
    refine zx_iload_n (pc := 12) dX7_collects_12 rfl rfl ?_
    refine zx_iconst (pc := 13) dX7_collects_13 ?_
    refine zx_iadd (pc := 14) dX7_collects_14 ?_
    refine zx_imul (pc := 15) dX7_collects_15 ?_
    refine zx_icmp_ge (pc := 16) (tgt := 43) dX7_collects_16 (by decide) (fun o => by first | exact o.1 _ (by decide) | exact o.2 _ _ | omega) (fun o => by first | exact o.1 _ (by decide) | exact o.2 _ _ | omega) (fun c16 => ?_) (fun c16 => absurd c16 (by omega))
    exact k1 h i rfl
  | succ n ih =>
    intro h u i s h1 b1 b2 b3 i1 i2 hc k0 k1
    have hb := s.1
    have hi := s.2.1
    have hact := s.2.2.1.2
    have harm := s.2.2.2.1.1
    obtain ⟨m1, m2, m3, m4, m5, m6⟩ := s.1
    obtain ⟨p1, p2, p3, p4⟩ := mb_blk b1 b2 m2 m3 m4
    have p5 := Int.mul_comm (gs h 2) (gs h 1)
    have r0 := cnt_r (mGood h) (i + 1) n
    rw [cnt_first] at hc
    rw [m_collL] at k0 k1
    refine zx_iload_n (pc := 7) dX7_collects_7 rfl rfl ?_
    refine zx_aload_n (pc := 8) dX7_collects_8 rfl rfl ?_
    refine zg_X7_82 (pc := 9) dX7_collects_9 ?_
    refine zx_iload_n (pc := 12) dX7_collects_12 rfl rfl ?_
    refine zx_iconst (pc := 13) dX7_collects_13 ?_
    refine zx_iadd (pc := 14) dX7_collects_14 ?_
    refine zx_imul (pc := 15) dX7_collects_15 ?_
    refine zx_icmp_ge (pc := 16) (tgt := 43) dX7_collects_16 (by decide) (fun o => by first | exact o.1 _ (by decide) | exact o.2 _ _ | omega) (fun o => by first | exact o.1 _ (by decide) | exact o.2 _ _ | omega) (fun c16 => absurd c16 (by omega)) (fun c16 => ?_)
    refine zx_aload_n (pc := 19) dX7_collects_19 rfl rfl ?_
    refine zx_iload_n (pc := 20) dX7_collects_20 rfl rfl ?_
    refine zi_X7_276 (pc := 21) dX7_collects_21 (C_X7_isGood hb hi (by omega) (by omega)) (by decide) (Nat.le_of_ble_eq_true rfl) (fun z21 h21 u21 v21 q21 => ?_)
    obtain ⟨rfl, e21⟩ := q21
    rw [e21]
    clear e21 h21
    refine zx_if_eq (pc := 24) (tgt := 37) dX7_collects_24 (by decide) (fun o => by first | exact o.1 _ (by decide) | exact o.2 _ _ | omega) (fun c24 => ?_) (fun c24 => ?_)
    · skip
      try replace c24 := b2i_0.mp c24
      rw [ifp_f c24] at k0 k1
      rw [b2i_f c24, Int.zero_add] at hc
      refine zx_iinc (pc := 37) dX7_collects_37 (by decide) rfl rfl ?_
      refine zx_goto (pc := 40) (tgt := 7) dX7_collects_40 (by decide) ?_
      first
      | (have c := c32
         have sc := MS_copy s h1 h3 (by omega : 0 ≤ i) (by omega : i < gs h 1 * gs h 2) (mWanted_k c24.2.1)
         have e1 := gs_copyT c i 1 (by decide)
         have e2 := gs_copyT c i 2 (by decide)
         have e32 := gs_copyT c i 32 (by decide)
         have hlow := low_at s h1
         have hu := (s.2.2.2.2 _ h1 s.2.2.1.2).1
         have mono : cnt (mGood (m_copy h i)) (i + 1) n ≤ cnt (mGood h) (i + 1) n := by
           refine cnt_le (fun j j1 j2 gj => good_copy s h1 h3 c ?_ gj)
           rw [hlow]
           have := blk_ne (p := gs h 2) (b := b) (c := gs h 32) (i := j - gs h 2 * b) (j := u (gs h 32)) (by omega) (by omega) hu h3 b3
           omega
         exact ih (m_copy h i) _ (i + 1) sc (by rw [e32]; exact h1) b1 (by rw [e1]; exact b2) (by rw [e32]; exact b3) (by rw [e2]; omega) (by rw [e2]; omega) (by rw [e32, uup_s, e2]; omega) k0 k1)
      | exact ih h u (i + 1) s h1 b1 b2 b3 (by omega) (by omega) (by omega) k0 k1
    · skip
      try replace c24 := b2i_n0.mp c24
      rw [ifp_t c24] at k0 k1
      rw [b2i_t c24] at hc
      have h3 : u (gs h 32) < gs h 2 := by omega
      obtain ⟨l1, l2, l3, l4⟩ := low_in s h1 h3
      refine zx_aload_n (pc := 27) dX7_collects_27 rfl rfl ?_
      refine zx_iload_n (pc := 28) dX7_collects_28 rfl rfl ?_
      refine zi_X7_304 (pc := 29) dX7_collects_29 (C_X7_copiesPage hb harm h1 hact l1 l3 (by omega) (by omega)) (by decide) (Nat.le_of_ble_eq_true rfl) (fun z29 h29 u29 v29 q29 => ?_)
      obtain ⟨rfl, e29⟩ := q29
      rw [e29]
      clear e29 h29
      refine zx_if_ne (pc := 32) (tgt := 37) dX7_collects_32 (by decide) (fun o => by first | exact o.1 _ (by decide) | exact o.2 _ _ | omega) (fun c32 => ?_) (fun c32 => ?_)
      · skip
        try replace c32 := b2i_n0.mp c32
        rw [ifp_t c32] at k0 k1
        refine zx_iinc (pc := 37) dX7_collects_37 (by decide) rfl rfl ?_
        refine zx_goto (pc := 40) (tgt := 7) dX7_collects_40 (by decide) ?_
        first
        | (have c := c32
           have sc := MS_copy s h1 h3 (by omega : 0 ≤ i) (by omega : i < gs h 1 * gs h 2) (mWanted_k c24.2.1)
           have e1 := gs_copyT c i 1 (by decide)
           have e2 := gs_copyT c i 2 (by decide)
           have e32 := gs_copyT c i 32 (by decide)
           have hlow := low_at s h1
           have hu := (s.2.2.2.2 _ h1 s.2.2.1.2).1
           have mono : cnt (mGood (m_copy h i)) (i + 1) n ≤ cnt (mGood h) (i + 1) n := by
             refine cnt_le (fun j j1 j2 gj => good_copy s h1 h3 c ?_ gj)
             rw [hlow]
             have := blk_ne (p := gs h 2) (b := b) (c := gs h 32) (i := j - gs h 2 * b) (j := u (gs h 32)) (by omega) (by omega) hu h3 b3
             omega
           exact ih (m_copy h i) _ (i + 1) sc (by rw [e32]; exact h1) b1 (by rw [e1]; exact b2) (by rw [e32]; exact b3) (by rw [e2]; omega) (by rw [e2]; omega) (by rw [e32, uup_s, e2]; omega) k0 k1)
        | exact ih h u (i + 1) s h1 b1 b2 b3 (by omega) (by omega) (by omega) k0 k1
      · skip
        try replace c32 := b2i_0.mp c32
        rw [ifp_f c32] at k0
        refine zx_iconst (pc := 35) dX7_collects_35 ?_
        refine zx_zret (pc := 36) dX7_collects_36 (by omega) ?_
        exact k0 rfl
set_option maxRecDepth 100000 in
theorem C_X7_collects {h : zH} {u : Int → Int} (s : MS h u) (h1 : 0 ≤ gs h 32) {a1 : Int} (b1 : 0 ≤ a1) (b2 : a1 < gs h 1) (b3 : a1 ≠ gs h 32) (hv : mValidIn h a1 < mFreeIn h (gs h 32)) : kX7_collects a1 h (fun r h2 => r = (m_collect h a1).2 ∧ h2 = (m_collect h a1).1) := by
  have p0 := s.1.2.2.1
  have hf := sf_free s.2.2.2.2 h1 s.2.2.1.2
  have hc : u (gs h 32) + cnt (mGood h) (gs h 2 * a1) (gs h 2).toNat < gs h 2 := by
    have e : mValidIn h a1 = cnt (mGood h) (gs h 2 * a1) (gs h 2).toNat := rfl
    omega
  obtain ⟨u2, t1, t2, t3, t4⟩ := collL_MS (gs h 2).toNat h u (gs h 2 * a1) s h1 b1 b2 b3 (Int.le_refl _) (by omega) hc
  apply eX7_collects
  refine zx_aload_n (pc := 0) dX7_collects_0 rfl rfl ?_
  refine zg_X7_82 (pc := 1) dX7_collects_1 ?_
  refine zx_iload_n (pc := 4) dX7_collects_4 rfl rfl ?_
  refine zx_imul (pc := 5) dX7_collects_5 ?_
  refine zx_istore_n (pc := 6) dX7_collects_6 rfl (by decide) rfl ?_
  refine L_X7_collects _ (gs h 2).toNat h u (gs h 2 * a1) s h1 b1 b2 b3 (Int.le_refl _) (by omega) hc (fun z => ?_) (fun hN j e => ?_)
  · unfold m_collect
    rw [ifp_f (by omega)]
    exact ⟨z.symm, rfl⟩
  rw [e] at t1 t2
  have hb := t1.1
  have harm := t1.2.2.2.1.1
  have em : m_collect h a1 = (m_erase hN a1, b2i (mOK hN)) := by
    unfold m_collect
    rw [e, ifp_t rfl]
  refine zx_aload_n (pc := 43) dX7_collects_43 rfl rfl ?_
  refine zx_iload_n (pc := 44) dX7_collects_44 rfl rfl ?_
  refine zi_X7_307 (pc := 45) dX7_collects_45 (C_X7_erasesBlock hb harm b1 (by rw [t2]; exact b2)) (by decide) (Nat.le_of_ble_eq_true rfl) (fun z45 h45 u45 v45 q45 => ?_)
  obtain ⟨rfl, e45⟩ := q45
  rw [e45]
  clear e45 h45
  refine zx_zret (pc := 48) dX7_collects_48 (b2i_01 _) ?_
  rw [em]
  exact ⟨rfl, rfl⟩
theorem mFreeMany_r {h : zH} (hb : MB h) : 0 ≤ mFreeMany h ∧ mFreeMany h ≤ 32 := by
  have g := cnt_r (mIsFree h) 0 (gs h 1).toNat
  have e : mFreeMany h = cnt (mIsFree h) 0 (gs h 1).toNat := rfl
  have := hb.2.1
  omega
/-- the room that is made, and what it leaves -/
theorem roomL_MS : ∀ (n : Nat) (h : zH) (u : Int → Int), MS h u → 0 ≤ gs h 32 → u (gs h 32) < gs h 2 → ∃ u2, MS (m_roomL n h).1 u2 ∧ gs (m_roomL n h).1 1 = gs h 1 ∧ gs (m_roomL n h).1 2 = gs h 2 ∧ ((m_roomL n h).2 = 0 ∨ (m_roomL n h).2 = 1 ∧ gs (m_roomL n h).1 32 = gs h 32 ∧ gs (m_roomL n h).1 26 = gs h 26 ∧ u2 (gs h 32) < gs h 2)
  | 0, h, u, s, h1, h3 => ⟨u, s, rfl, rfl, Or.inr ⟨rfl, rfl, rfl, h3⟩⟩
  | n + 1, h, u, s, h1, h3 => by
    rw [m_roomL]
    rcases Classical.em (mFreeMany h < 2 ∧ m_vict h ≠ -1) with c | c
    · rw [ifp_t c]
      obtain ⟨v1, v2, v3, v4, v5⟩ := vict_ok s.1 c.2
      obtain ⟨u2, t1, t2, t3, t4⟩ := collect_MS s h1 v1 v2 v3 v5
      rcases t4 with t4 | ⟨t4, t5, t6, t7, t8, t9⟩
      · rw [ifp_f (by omega)]
        exact ⟨u2, t1, t2, t3, Or.inl t4⟩
      · rw [ifp_t t4]
        obtain ⟨u3, w1, w2, w3, w4⟩ := roomL_MS n _ u2 t1 (by rw [t5]; exact h1) (by rw [t5, t3]; exact t7)
        refine ⟨u3, w1, by rw [w2, t2], by rw [w3, t3], ?_⟩
        rcases w4 with w4 | ⟨w4, w5, w6, w7⟩
        · exact Or.inl w4
        · exact Or.inr ⟨w4, by rw [w5, t5], by rw [w6, t6], by rw [← t3, ← t5]; exact w7⟩
    · rw [ifp_f c]
      exact ⟨u, s, rfl, rfl, Or.inr ⟨rfl, rfl, rfl, h3⟩⟩
theorem fblk_ok {h : zH} (hb : MB h) (v : m_fblk h ≠ -1) : 0 ≤ m_fblk h ∧ m_fblk h < gs h 1 ∧ mIsFree h (m_fblk h) := by
  have key : ∀ n : Nat, mFB h n = -1 ∨ 0 ≤ mFB h n ∧ mFB h n < n ∧ mIsFree h (mFB h n) := by
    intro n
    induction n with
    | zero => exact Or.inl rfl
    | succ n ih =>
      rw [mFB]
      rcases Classical.em (mIsFree h n ∧ (mFB h n = -1 ∨ ga h 9 n < ga h 9 (mFB h n))) with c | c
      · rw [ifp_t c]
        exact Or.inr ⟨by omega, by omega, c.1⟩
      · rw [ifp_f c]
        rcases ih with ih | ih
        · exact Or.inl ih
        · exact Or.inr ⟨ih.1, by omega, ih.2.2⟩
  have := hb.1
  rcases key (gs h 1).toNat with q | ⟨q1, q2, q3⟩
  · exact absurd q v
  · unfold m_fblk
    exact ⟨q1, by omega, q3⟩
theorem MS_act {h : zH} {u : Int → Int} (s : MS h u) {b : Int} (b1 : -1 ≤ b) (b2 : b < gs h 1) : MS (ps h 32 b) u := by
  obtain ⟨s1, s2, s3, s4, s5⟩ := s
  exact ⟨s1, s2, ⟨b1, b2⟩, s4, s5⟩
theorem room_act {h : zH} {u : Int → Int} (s : MS h u) (hp : 0 < gs h 2) (v : m_fblk h ≠ -1) : MS (ps h 32 (m_fblk h)) u ∧ 0 ≤ gs (ps h 32 (m_fblk h)) 32 ∧ u (gs (ps h 32 (m_fblk h)) 32) < gs (ps h 32 (m_fblk h)) 2 := by
  obtain ⟨q1, q2, q3⟩ := fblk_ok s.1 v
  refine ⟨MS_act s (by omega) q2, q1, ?_⟩
  show u (m_fblk h) < gs h 2
  have r := sf_free s.2.2.2.2 q1 q2
  have := q3.2
  omega
theorem room_MS {h : zH} {u : Int → Int} (s : MS h u) (hp : 0 < gs h 2) : ∃ u2, MS (m_room h).1 u2 ∧ gs (m_room h).1 1 = gs h 1 ∧ gs (m_room h).1 2 = gs h 2 ∧ ((m_room h).2 = 0 ∨ (m_room h).2 = 1 ∧ 0 ≤ gs (m_room h).1 32 ∧ gs (m_room h).1 26 = gs h 26 ∧ u2 (gs (m_room h).1 32) < gs h 2) := by
  unfold m_room
  rcases Classical.em (m_fblk h = -1) with c | c
  · rw [ifp_t c]
    exact ⟨u, MS_loses s, gs_loses h 1 (by decide), gs_loses h 2 (by decide), Or.inl rfl⟩
  · rw [ifp_f c]
    obtain ⟨r1, r2, r3⟩ := room_act s hp c
    obtain ⟨u2, t1, t2, t3, t4⟩ := roomL_MS 3 _ u r1 r2 r3
    refine ⟨u2, t1, t2, t3, ?_⟩
    rcases t4 with t4 | ⟨t4, t5, t6, t7⟩
    · exact Or.inl t4
    · exact Or.inr ⟨t4, by rw [t5]; exact r2, t6, by rw [t5]; exact t7⟩
set_option maxRecDepth 100000 in
theorem L_X7_makesRoom (Q : Int → zH → Prop) {x1 : Int} : ∀ (n : Nat) (h : zH) (u : Int → Int), MS h u → 0 ≤ gs h 32 → u (gs h 32) < gs h 2 → 2 ≤ mFreeMany h + n → Q (m_roomL n h).2 (m_roomL n h).1 → zX cM zNo RX7 cX7_makesRoom 3 (some .boolean) rX7_makesRoom 21 [some (.ref 0), some (.int (iI x1)), none] [] h (zEi cM Q) := by
  intro n
  induction n with
  | zero =>
    intro h u s h1 h3 g hQ
    have hb := s.1
    have rr := mFreeMany_r hb
    refine zx_aload_n (pc := 21) dX7_makesRoom_21 rfl rfl ?_
    refine zi_X7_313 (pc := 22) dX7_makesRoom_22 (C_X7_freeMany hb) (by decide) (Nat.le_of_ble_eq_true rfl) (fun z22 h22 u22 v22 q22 => ?_)
    obtain ⟨rfl, e22⟩ := q22
    rw [e22]
    clear e22 h22
    refine zx_iconst (pc := 25) dX7_makesRoom_25 ?_
    refine zx_icmp_ge (pc := 26) (tgt := 54) dX7_makesRoom_26 (by decide) (fun o => by first | exact o.1 _ (by decide) | exact o.2 _ _ | omega) (fun o => by first | exact o.1 _ (by decide) | exact o.2 _ _ | omega) (fun c26 => ?_) (fun c26 => absurd c26 (by omega))
    refine zx_iconst (pc := 54) dX7_makesRoom_54 ?_
    refine zx_zret (pc := 55) dX7_makesRoom_55 (by omega) ?_
    exact hQ
  | succ n ih =>
    intro h u s h1 h3 g hQ
    have hb := s.1
    have rr := mFreeMany_r hb
    rw [m_roomL] at hQ
    refine zx_aload_n (pc := 21) dX7_makesRoom_21 rfl rfl ?_
    refine zi_X7_313 (pc := 22) dX7_makesRoom_22 (C_X7_freeMany hb) (by decide) (Nat.le_of_ble_eq_true rfl) (fun z22 h22 u22 v22 q22 => ?_)
    obtain ⟨rfl, e22⟩ := q22
    rw [e22]
    clear e22 h22
    refine zx_iconst (pc := 25) dX7_makesRoom_25 ?_
    refine zx_icmp_ge (pc := 26) (tgt := 54) dX7_makesRoom_26 (by decide) (fun o => by first | exact o.1 _ (by decide) | exact o.2 _ _ | omega) (fun o => by first | exact o.1 _ (by decide) | exact o.2 _ _ | omega) (fun c26 => ?_) (fun c26 => ?_)
    · skip
      rw [ifp_f (by omega)] at hQ
      refine zx_iconst (pc := 54) dX7_makesRoom_54 ?_
      refine zx_zret (pc := 55) dX7_makesRoom_55 (by omega) ?_
      exact hQ
    · skip
      refine zx_aload_n (pc := 29) dX7_makesRoom_29 rfl rfl ?_
      refine zi_X7_316 (pc := 30) dX7_makesRoom_30 (C_X7_nextVictim hb s.2.1 h1 s.2.2.1.2) (by decide) (Nat.le_of_ble_eq_true rfl) (fun z30 h30 u30 v30 q30 => ?_)
      obtain ⟨rfl, e30⟩ := q30
      rw [e30]
      clear e30 h30
      refine zx_istore_n (pc := 33) dX7_makesRoom_33 rfl (by decide) rfl ?_
      refine zx_iload_n (pc := 34) dX7_makesRoom_34 rfl rfl ?_
      refine zx_iconst (pc := 35) dX7_makesRoom_35 ?_
      refine zx_icmp_ne (pc := 36) (tgt := 41) dX7_makesRoom_36 (by decide) (fun o => by first | exact o.1 _ (by decide) | exact o.2 _ _ | omega) (fun o => by first | exact o.1 _ (by decide) | exact o.2 _ _ | omega) (fun c36 => ?_) (fun c36 => ?_)
      · skip
        rw [ifp_t ⟨c26, c36⟩] at hQ
        obtain ⟨v1, v2, v3, v4, v5⟩ := vict_ok hb c36
        obtain ⟨u2, t1, t2, t3, t4⟩ := collect_MS s h1 v1 v2 v3 v5
        refine zx_aload_n (pc := 41) dX7_makesRoom_41 rfl rfl ?_
        refine zx_iload_n (pc := 42) dX7_makesRoom_42 rfl rfl ?_
        refine zi_X7_319 (pc := 43) dX7_makesRoom_43 (C_X7_collects s h1 v1 v2 v3 v5) (by decide) (Nat.le_of_ble_eq_true rfl) (fun z43 h43 u43 v43 q43 => ?_)
        obtain ⟨rfl, e43⟩ := q43
        rw [e43]
        have c46a : (m_collect h (m_vict h)).2 = 0 ∨ (m_collect h (m_vict h)).2 = 1 := by rcases t4 with t4 | t4 <;> omega
        refine zx_if_ne (pc := 46) (tgt := 51) dX7_makesRoom_46 (by decide) (fun o => by first | exact o.1 _ (by decide) | exact o.2 _ _ | omega) (fun c46 => ?_) (fun c46 => ?_)
        · skip
          try replace c46 := b2i_n0.mp c46
          refine zx_goto (pc := 51) (tgt := 21) dX7_makesRoom_51 (by decide) ?_
          have t9 : (m_collect h (m_vict h)).2 = 1 := by omega
          rw [ifp_t t9] at hQ
          rcases t4 with t4 | ⟨t4, t5, t6, t7, t8, t10⟩
          · omega
          have fr := collect_free s h1 v1 v2 v3 v4 v5 t9
          refine zx_sub [true, true, false] ?_
          dsimp only [zMask, List.set]
          exact ih _ u2 t1 (by rw [t5]; exact h1) (by rw [t5, t3]; exact t7) (by omega) hQ
        · skip
          try replace c46 := b2i_0.mp c46
          refine zx_iconst (pc := 49) dX7_makesRoom_49 ?_
          refine zx_zret (pc := 50) dX7_makesRoom_50 (by omega) ?_
          rw [ifp_f (by omega), c46] at hQ
          exact hQ
      · skip
        rw [ifp_f (by omega)] at hQ
        refine zx_iconst (pc := 39) dX7_makesRoom_39 ?_
        refine zx_zret (pc := 40) dX7_makesRoom_40 (by omega) ?_
        exact hQ
set_option maxRecDepth 100000 in
theorem C_X7_makesRoom {h : zH} {u : Int → Int} (s : MS h u) (hp : 0 < gs h 2) : kX7_makesRoom h (fun r h2 => r = (m_room h).2 ∧ h2 = (m_room h).1) := by
  have hb := s.1
  have fr := mFB_r h (gs h 1).toNat
  have fe : mFB h (gs h 1).toNat = m_fblk h := rfl
  rw [fe] at fr
  apply eX7_makesRoom
  unfold m_room
  refine zx_aload_n (pc := 0) dX7_makesRoom_0 rfl rfl ?_
  refine zi_X7_310 (pc := 1) dX7_makesRoom_1 (C_X7_freeBlock hb) (by decide) (Nat.le_of_ble_eq_true rfl) (fun z1 h1 u1 v1 q1 => ?_)
  obtain ⟨rfl, e1⟩ := q1
  rw [e1]
  clear e1 h1
  refine zx_istore_n (pc := 4) dX7_makesRoom_4 rfl (by decide) rfl ?_
  refine zx_iload_n (pc := 5) dX7_makesRoom_5 rfl rfl ?_
  refine zx_iconst (pc := 6) dX7_makesRoom_6 ?_
  refine zx_icmp_ne (pc := 7) (tgt := 16) dX7_makesRoom_7 (by decide) (fun o => by first | exact o.1 _ (by decide) | exact o.2 _ _ | omega) (fun o => by first | exact o.1 _ (by decide) | exact o.2 _ _ | omega) (fun c7 => ?_) (fun c7 => ?_)
  · skip
    refine zx_aload_n (pc := 16) dX7_makesRoom_16 rfl rfl ?_
    refine zx_iload_n (pc := 17) dX7_makesRoom_17 rfl rfl ?_
    refine zp_X7_53 (pc := 18) dX7_makesRoom_18 (fun o => by first | exact o.1 _ (by decide) | exact o.2 _ _ | omega) ?_
    rw [ifp_f c7]
    obtain ⟨r1, r2, r3⟩ := room_act s hp c7
    exact L_X7_makesRoom _ 3 _ u r1 r2 r3 (by have := mFreeMany_r r1.1; omega) ⟨rfl, rfl⟩
  · skip
    refine zx_aload_n (pc := 10) dX7_makesRoom_10 rfl rfl ?_
    refine zi_X7_294 (pc := 11) dX7_makesRoom_11 (C_X7_losesPower) (by decide) (Nat.le_of_ble_eq_true rfl) (fun h11 q11 => ?_)
    rw [q11]
    clear q11 h11
    refine zx_iconst (pc := 14) dX7_makesRoom_14 ?_
    refine zx_zret (pc := 15) dX7_makesRoom_15 (by omega) ?_
    rw [ifp_t c7]
    exact ⟨rfl, rfl⟩
theorem page1_MS {h : zH} {u : Int → Int} (s : MS h u) (hp : 0 < gs h 2) : ∃ u2, MS (m_page1 h).1 u2 ∧ gs (m_page1 h).1 1 = gs h 1 ∧ gs (m_page1 h).1 2 = gs h 2 ∧ ((m_page1 h).2 = 0 ∨ (m_page1 h).2 = 1 ∧ 0 ≤ gs (m_page1 h).1 32 ∧ gs (m_page1 h).1 26 = gs h 26 ∧ u2 (gs (m_page1 h).1 32) < gs (m_page1 h).1 2) := by
  unfold m_page1
  rcases Classical.em (mFull h) with c | c
  · rw [ifp_t c]
    obtain ⟨u2, t1, t2, t3, t4⟩ := room_MS s hp
    exact ⟨u2, t1, t2, t3, by rw [t3]; exact t4⟩
  · rw [ifp_f c]
    refine ⟨u, s, rfl, rfl, Or.inr ⟨rfl, ?_, rfl, ?_⟩⟩
    · have := s.2.2.1
      unfold mFull at c
      show 0 ≤ gs h 32
      omega
    · have h1 : 0 ≤ gs h 32 := by
        have := s.2.2.1
        unfold mFull at c
        omega
      have r := sf_free s.2.2.2.2 h1 s.2.2.1.2
      have a := s.2.2.2.2 _ h1 s.2.2.1.2
      unfold mFull at c
      show u (gs h 32) < gs h 2
      omega
set_option maxRecDepth 100000 in
theorem C_X7_programsPage {h : zH} {u : Int → Int} (s : MS h u) (hp : 0 < gs h 2) {a1 a2 a3 : Int} (r1 : -2147483648 ≤ a1 ∧ a1 < 2147483648) (r2 : -2147483648 ≤ a2 ∧ a2 < 2147483648) (r3 : -2147483648 ≤ a3 ∧ a3 < 2147483648) : kX7_programsPage a1 a2 a3 h (fun r h2 => r = (m_page h a1 a2 a3).2 ∧ h2 = (m_page h a1 a2 a3).1) := by
  have hb := s.1
  obtain ⟨u2, t1, t2, t3, t4⟩ := page1_MS s hp
  have frr := mFreeIn_r hb (gs h 32)
  have tail : (m_page1 h).2 = 1 → zX cM zNo RX7 cX7_programsPage 6 (some .int) rX7_programsPage 40 [some (.ref 0), some (.int (iI a1)), some (.int (iI a2)), some (.int (iI a3)), none, none] [] (m_page1 h).1 (zEi cM (fun r h2 => r = (m_page h a1 a2 a3).2 ∧ h2 = (m_page h a1 a2 a3).1)) := by
    intro ok
    rcases t4 with t4 | ⟨-, w1, w2, w3⟩
    · omega
    obtain ⟨l1, l2, l3, l4⟩ := low_in t1 w1 w3
    refine zx_aload_n (pc := 40) dX7_programsPage_40 rfl rfl ?_
    refine zi_X7_297 (pc := 41) dX7_programsPage_41 (C_X7_lowestFree t1.1 w1 t1.2.2.1.2) (by decide) (Nat.le_of_ble_eq_true rfl) (fun z41 h41 u41 v41 q41 => ?_)
    obtain ⟨rfl, e41⟩ := q41
    rw [e41]
    clear e41 h41
    refine zx_istore (pc := 44) dX7_programsPage_44 (by decide) rfl ?_
    refine zx_aload_n (pc := 46) dX7_programsPage_46 rfl rfl ?_
    refine zx_iload (pc := 47) dX7_programsPage_47 rfl ?_
    refine zx_iload_n (pc := 49) dX7_programsPage_49 rfl rfl ?_
    refine zx_iload_n (pc := 50) dX7_programsPage_50 rfl rfl ?_
    refine zx_iload_n (pc := 51) dX7_programsPage_51 rfl rfl ?_
    refine zi_X7_300 (pc := 52) dX7_programsPage_52 (C_X7_programsAt t1.2.2.2.1.1 l1 l3 r1 r2 r3) (by decide) (Nat.le_of_ble_eq_true rfl) (fun z52 h52 u52 v52 q52 => ?_)
    obtain ⟨rfl, e52⟩ := q52
    rw [e52]
    clear e52 h52
    refine zx_if_eq (pc := 55) (tgt := 63) dX7_programsPage_55 (by decide) (fun o => by first | exact o.1 _ (by decide) | exact o.2 _ _ | omega) (fun c55 => ?_) (fun c55 => ?_)
    · skip
      try replace c55 := b2i_0.mp c55
      refine zx_iconst (pc := 63) dX7_programsPage_63 ?_
      refine zx_iret (pc := 64) dX7_programsPage_64 (fun o => by first | exact o.1 _ (by decide) | exact o.2 _ _ | omega) ?_
      unfold m_page
      rw [ifp_t ok]
      first | rw [ifp_t c55] | rw [ifp_f c55]
      exact ⟨rfl, rfl⟩
    · skip
      try replace c55 := b2i_n0.mp c55
      refine zx_iload (pc := 58) dX7_programsPage_58 rfl ?_
      refine zx_goto (pc := 60) (tgt := 64) dX7_programsPage_60 (by decide) ?_
      refine zx_iret (pc := 64) dX7_programsPage_64 (fun o => by first | exact o.1 _ (by decide) | exact o.2 _ _ | omega) ?_
      unfold m_page
      rw [ifp_t ok]
      first | rw [ifp_t c55] | rw [ifp_f c55]
      exact ⟨rfl, rfl⟩
  apply eX7_programsPage
  refine zx_aload_n (pc := 0) dX7_programsPage_0 rfl rfl ?_
  refine zg_X7_53 (pc := 1) dX7_programsPage_1 ?_
  refine zx_iconst (pc := 4) dX7_programsPage_4 ?_
  refine zx_icmp_eq (pc := 5) (tgt := 19) dX7_programsPage_5 (by decide) (fun o => by first | exact o.1 _ (by decide) | exact o.2 _ _ | omega) (fun o => by first | exact o.1 _ (by decide) | exact o.2 _ _ | omega) (fun c5 => ?_) (fun c5 => ?_)
  · skip
    refine zx_iconst (pc := 19) dX7_programsPage_19 ?_
    refine zx_goto (pc := 20) (tgt := 24) dX7_programsPage_20 (by decide) ?_
    refine zx_istore (pc := 24) dX7_programsPage_24 (by decide) rfl ?_
    refine zx_iload (pc := 26) dX7_programsPage_26 rfl ?_
    refine zx_if_eq (pc := 28) (tgt := 40) dX7_programsPage_28 (by decide) (fun _ => by decide) (fun c9 => absurd c9 (by decide)) (fun _ => ?_)
    have hfull : mFull h := by unfold mFull; omega
    refine zx_aload_n (pc := 31) dX7_programsPage_31 rfl rfl ?_
    refine zi_X7_322 (pc := 32) dX7_programsPage_32 (C_X7_makesRoom s hp) (by decide) (Nat.le_of_ble_eq_true rfl) (fun z32 h32 u32 v32 q32 => ?_)
    obtain ⟨rfl, e32⟩ := q32
    have em : m_page1 h = m_room h := by
      unfold m_page1
      rw [ifp_t hfull]
    rw [e32, ← em]
    rw [← em] at u32 v32
    refine zx_if_ne (pc := 35) (tgt := 40) dX7_programsPage_35 (by decide) (fun o => by first | exact o.1 _ (by decide) | exact o.2 _ _ | omega) (fun c35 => ?_) (fun c35 => ?_)
    · skip
      try replace c35 := b2i_n0.mp c35
      refine zx_sub [true, true, true, true, false, false] ?_
      dsimp only [zMask, List.set]
      first
      | (have t9 : (m_page1 h).2 = 1 := by omega
         exact tail t9)
      | (have em2 : m_page1 h = (h, 1) := by
           unfold m_page1
           rw [ifp_f (by unfold mFull; omega)]
         have t := tail (by rw [em2])
         rw [em2] at t
         exact t)
    · skip
      try replace c35 := b2i_0.mp c35
      refine zx_iconst (pc := 38) dX7_programsPage_38 ?_
      refine zx_iret (pc := 39) dX7_programsPage_39 (fun o => by first | exact o.1 _ (by decide) | exact o.2 _ _ | omega) ?_
      unfold m_page
      rw [ifp_f (by omega)]
      exact ⟨by omega, rfl⟩
  · skip
    refine zx_aload_n (pc := 8) dX7_programsPage_8 rfl rfl ?_
    refine zx_aload_n (pc := 9) dX7_programsPage_9 rfl rfl ?_
    refine zg_X7_53 (pc := 10) dX7_programsPage_10 ?_
    refine zi_X7_285 (pc := 13) dX7_programsPage_13 (C_X7_freeIn hb (by have := s.2.2.1; omega) s.2.2.1.2) (by decide) (Nat.le_of_ble_eq_true rfl) (fun z13 h13 u13 v13 q13 => ?_)
    obtain ⟨rfl, e13⟩ := q13
    rw [e13]
    clear e13 h13
    refine zx_if_ne (pc := 16) (tgt := 23) dX7_programsPage_16 (by decide) (fun o => by first | exact o.1 _ (by decide) | exact o.2 _ _ | omega) (fun c16 => ?_) (fun c16 => ?_)
    · skip
      refine zx_iconst (pc := 23) dX7_programsPage_23 ?_
      refine zx_istore (pc := 24) dX7_programsPage_24 (by decide) rfl ?_
      refine zx_iload (pc := 26) dX7_programsPage_26 rfl ?_
      refine zx_if_eq (pc := 28) (tgt := 40) dX7_programsPage_28 (by decide) (fun _ => by decide) (fun _ => ?_) (fun c9 => absurd c9 (by decide))
      refine zx_sub [true, true, true, true, false, false] ?_
      dsimp only [zMask, List.set]
      first
      | (have t9 : (m_page1 h).2 = 1 := by omega
         exact tail t9)
      | (have em2 : m_page1 h = (h, 1) := by
           unfold m_page1
           rw [ifp_f (by unfold mFull; omega)]
         have t := tail (by rw [em2])
         rw [em2] at t
         exact t)
    · skip
      refine zx_iconst (pc := 19) dX7_programsPage_19 ?_
      refine zx_goto (pc := 20) (tgt := 24) dX7_programsPage_20 (by decide) ?_
      refine zx_istore (pc := 24) dX7_programsPage_24 (by decide) rfl ?_
      refine zx_iload (pc := 26) dX7_programsPage_26 rfl ?_
      refine zx_if_eq (pc := 28) (tgt := 40) dX7_programsPage_28 (by decide) (fun _ => by decide) (fun c9 => absurd c9 (by decide)) (fun _ => ?_)
      have hfull : mFull h := by unfold mFull; omega
      refine zx_aload_n (pc := 31) dX7_programsPage_31 rfl rfl ?_
      refine zi_X7_322 (pc := 32) dX7_programsPage_32 (C_X7_makesRoom s hp) (by decide) (Nat.le_of_ble_eq_true rfl) (fun z32 h32 u32 v32 q32 => ?_)
      obtain ⟨rfl, e32⟩ := q32
      have em : m_page1 h = m_room h := by
        unfold m_page1
        rw [ifp_t hfull]
      rw [e32, ← em]
      rw [← em] at u32 v32
      refine zx_if_ne (pc := 35) (tgt := 40) dX7_programsPage_35 (by decide) (fun o => by first | exact o.1 _ (by decide) | exact o.2 _ _ | omega) (fun c35 => ?_) (fun c35 => ?_)
      · skip
        try replace c35 := b2i_n0.mp c35
        refine zx_sub [true, true, true, true, false, false] ?_
        dsimp only [zMask, List.set]
        first
        | (have t9 : (m_page1 h).2 = 1 := by omega
           exact tail t9)
        | (have em2 : m_page1 h = (h, 1) := by
             unfold m_page1
             rw [ifp_f (by unfold mFull; omega)]
           have t := tail (by rw [em2])
           rw [em2] at t
           exact t)
      · skip
        try replace c35 := b2i_0.mp c35
        refine zx_iconst (pc := 38) dX7_programsPage_38 ?_
        refine zx_iret (pc := 39) dX7_programsPage_39 (fun o => by first | exact o.1 _ (by decide) | exact o.2 _ _ | omega) ?_
        unfold m_page
        rw [ifp_f (by omega)]
        exact ⟨by omega, rfl⟩

