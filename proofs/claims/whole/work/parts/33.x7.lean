/-! the class: writing, checkpoints, commits: what they make, and contracts -/
noncomputable def x_nv (h : zH) : zH × Int := ifp (xFblk h (gs h 46) < 0 ∨ 2 ≤ xFreeMany h (xFblk h (gs h 46))) (h, -1) (x_cl h, xVict (x_cl h) (xFblk h (gs h 46)))
set_option maxRecDepth 100000 in
theorem C_X0_nextVictim {h : zH} (s : XS h) : kX0_nextVictim h (fun r h2 => r = (x_nv h).2 ∧ h2 = (x_nv h).1) := by
  have act := s.2.2.2.2.2.2.1
  have b5 := s.1.1.2
  have fr := xFblk_r h s.1 (gs h 46)
  have fm := xFreeMany_r s.1 (xFblk h (gs h 46))
  have sc := XS_xcl s
  apply eX0_nextVictim
  unfold x_nv
  refine zx_aload_n (pc := 0) dX0_nextVictim_0 rfl rfl ?_
  refine zg_X0_12 (pc := 1) dX0_nextVictim_1 ?_
  refine zx_aload_n (pc := 4) dX0_nextVictim_4 rfl rfl ?_
  refine zg_X0_43 (pc := 5) dX0_nextVictim_5 ?_
  refine zi_X0_153 (pc := 8) dX0_nextVictim_8 (C_X1_leastWornFreeBlock s.1 (by omega)) (by decide) (Nat.le_of_ble_eq_true rfl) (fun z8 h8 u8 v8 q8 => ?_)
  obtain ⟨rfl, e8⟩ := q8
  rw [e8]
  clear e8 h8
  refine zx_istore_n (pc := 11) dX0_nextVictim_11 rfl (by decide) rfl ?_
  refine zx_iload_n (pc := 12) dX0_nextVictim_12 rfl rfl ?_
  refine zx_if_lt (pc := 13) (tgt := 28) dX0_nextVictim_13 (by decide) (fun o => by first | exact o.1 _ (by decide) | exact o.2 _ _ | omega) (fun c13 => ?_) (fun c13 => ?_)
  · skip
    refine zx_iconst (pc := 28) dX0_nextVictim_28 ?_
    refine zx_iret (pc := 29) dX0_nextVictim_29 (fun o => by first | exact o.1 _ (by decide) | exact o.2 _ _ | omega) ?_
    rw [ifp_t (by omega)]
    exact ⟨rfl, rfl⟩
  · skip
    refine zx_aload_n (pc := 16) dX0_nextVictim_16 rfl rfl ?_
    refine zg_X0_12 (pc := 17) dX0_nextVictim_17 ?_
    refine zx_iload_n (pc := 20) dX0_nextVictim_20 rfl rfl ?_
    refine zi_X0_156 (pc := 21) dX0_nextVictim_21 (C_X1_countFreeBlocks s.1 (by omega)) (by decide) (Nat.le_of_ble_eq_true rfl) (fun z21 h21 u21 v21 q21 => ?_)
    obtain ⟨rfl, e21⟩ := q21
    rw [e21]
    clear e21 h21
    refine zx_iconst (pc := 24) dX0_nextVictim_24 ?_
    refine zx_icmp_lt (pc := 25) (tgt := 30) dX0_nextVictim_25 (by decide) (fun o => by first | exact o.1 _ (by decide) | exact o.2 _ _ | omega) (fun o => by first | exact o.1 _ (by decide) | exact o.2 _ _ | omega) (fun c25 => ?_) (fun c25 => ?_)
    · skip
      refine zx_aload_n (pc := 30) dX0_nextVictim_30 rfl rfl ?_
      refine zi_X0_124 (pc := 31) dX0_nextVictim_31 (C_X0_countLive s) (by decide) (Nat.le_of_ble_eq_true rfl) (fun z31 h31 u31 v31 q31 => ?_)
      obtain ⟨rfl, e31⟩ := q31
      rw [e31]
      clear e31 h31
      refine zx_pop (pc := 34) dX0_nextVictim_34 rfl ?_
      refine zx_aload_n (pc := 35) dX0_nextVictim_35 rfl rfl ?_
      refine zx_iload_n (pc := 36) dX0_nextVictim_36 rfl rfl ?_
      refine zi_X0_159 (pc := 37) dX0_nextVictim_37 (C_X0_chooseVictim (h := x_cl h) sc.1 sc.2.1 (by omega)) (by decide) (Nat.le_of_ble_eq_true rfl) (fun z37 h37 u37 v37 q37 => ?_)
      obtain ⟨rfl, e37⟩ := q37
      rw [e37]
      clear e37 h37
      refine zx_iret (pc := 40) dX0_nextVictim_40 (fun o => by first | exact o.1 _ (by decide) | exact o.2 _ _ | omega) ?_
      rw [ifp_f (by omega)]
      exact ⟨rfl, rfl⟩
    · skip
      refine zx_iconst (pc := 28) dX0_nextVictim_28 ?_
      refine zx_iret (pc := 29) dX0_nextVictim_29 (fun o => by first | exact o.1 _ (by decide) | exact o.2 _ _ | omega) ?_
      rw [ifp_t (by omega)]
      exact ⟨rfl, rfl⟩
theorem XS_s {h h2 : zH} (s : XS h) (g : ∀ k, gs h2 k = gs h k) (a : ∀ b, ga h2 18 b = ga h 18 b) : XS h2 := XS_c s (g _) (g _) (g _) (g _) (g _) (g _) (g _) (by rw [g]; exact s.2.2.2.2.2.1) (g _) (XU_c s.2.1 (g _) (g _) a)
theorem XS_setC {h : zH} (s : XS h) (p v : Int) : XS (x_setC h p v) := XS_s s (fun k => by unfold x_setC; rw [gs_if, gs_pa, ifp_same]) (fun b => by unfold x_setC; rw [ga_if, ga_pa, if_neg (fun z => absurd z.1 (by decide)), ifp_same])
theorem XS_pis {h : zH} (s : XS h) (t p v : Int) : XS (x_pis h t p v) := XS_s s (fun k => by unfold x_pis; rw [gs_if, gs_pa, gs_pa, ifp_same]) (fun b => by unfold x_pis; rw [ga_if, ga_pa, if_neg (fun z => absurd z.1 (by decide)), ga_pa, if_neg (fun z => absurd z.1 (by decide)), ifp_same])
theorem XS_close {h : zH} (s : XS h) (t v : Int) : XS (x_close h t v) := XS_s s (fun k => by unfold x_close; rw [gs_if, gs_pa, ifp_same]) (fun b => by unfold x_close; rw [ga_if, ga_pa, if_neg (fun z => absurd z.1 (by decide)), ifp_same])
theorem XS_cms {h : zH} (s : XS h) (t : Int) : XS (x_cms h t) := XS_s s (fun _ => rfl) (fun b => by unfold x_cms; rw [ga_xrel, if_neg (by omega), ga_xshd, if_neg (by omega)])
theorem XS_48 {h : zH} (s : XS h) (v : Int) : XS (ps h 48 v) := XS_c s rfl rfl rfl rfl rfl rfl rfl s.2.2.2.2.2.1 rfl s.2.1
theorem XS_49 {h : zH} (s : XS h) (v w : Int) : XS (ps (ps h 49 v) 52 w) := XS_c s rfl rfl rfl rfl rfl rfl rfl s.2.2.2.2.2.1 rfl s.2.1
theorem XS_53 {h : zH} (s : XS h) (v : Int) : XS (ps h 53 v) := XS_c s rfl rfl rfl rfl rfl rfl rfl s.2.2.2.2.2.1 rfl s.2.1
theorem XS_end {h : zH} (s : XS h) (a b c d : Int) : XS (ps (ps (ps (ps h 50 a) 51 b) 52 c) 48 d) := XS_c s rfl rfl rfl rfl rfl rfl rfl s.2.2.2.2.2.1 rfl s.2.1
/-- what a page that is programmed leaves of the device -/
theorem xroomL_g (k : Nat) (hk : k ≠ 73 ∧ k ≠ 74 ∧ k ≠ 75 ∧ k ≠ 76 ∧ k ≠ 77) : (∀ (n : Nat) (h : zH) (f : Int), gs (x_collL n h f).1 k = gs h k) ∧ ∀ (n : Nat) (h : zH), gs (x_roomL n h).1 k = gs h k := by
  have cl : ∀ (n : Nat) (h : zH) (f : Int), gs (x_collL n h f).1 k = gs h k := by
    intro n
    induction n with
    | zero => intro h f; rfl
    | succ n ih =>
      intro h f
      rw [x_collL]
      rcases Classical.em (xLive h f) with c | c
      · rw [ifp_t c]
        have e1 : gs (x_cpy h f).1 k = gs h k := gs_xprog _ _ _ _ _ _ _ (by omega)
        rcases Classical.em ((x_cpy h f).2 < 0) with d | d
        · rw [ifp_t d]; exact e1
        · rw [ifp_f d, ih, gs_xmkcopy _ _ _ _ (by omega), e1]
      · rw [ifp_f c, ih]
  refine ⟨cl, ?_⟩
  intro n
  induction n with
  | zero => intro h; rfl
  | succ n ih =>
    intro h
    have cc : ∀ b, gs (x_collect (x_cl h) b).1 k = gs h k := by
      intro b
      unfold x_collect
      rcases Classical.em ((x_collL (gs (x_cl h) 71).toNat (x_cl h) (b * gs (x_cl h) 71)).2 = 1) with c | c
      · rw [ifp_t c]
        show gs (x_erase _ _) k = _
        rw [gs_xerase _ _ _ (by omega), cl]
        rfl
      · rw [ifp_f c, cl]
        rfl
    rw [x_roomL]
    rcases Classical.em (xFreeMany h (gs h 46) < 2) with c | c
    · rw [ifp_t c]
      rcases Classical.em (xVict (x_cl h) (gs h 46) < 0) with d | d
      · rw [ifp_t d]; rfl
      · rw [ifp_f d]
        rcases Classical.em ((x_collect (x_cl h) (xVict (x_cl h) (gs h 46))).2 = 1) with e | e
        · rw [ifp_t e, ih, cc]
        · rw [ifp_f e, cc]
    · rw [ifp_f c]
theorem xpage1_g {h : zH} (k : Nat) (hk : k ≠ 73 ∧ k ≠ 74 ∧ k ≠ 75 ∧ k ≠ 76 ∧ k ≠ 77 ∧ k ≠ 46) : gs (x_page1 h).1 k = gs h k := by
  unfold x_page1
  rcases Classical.em (0 < xFP h (gs h 46)) with c | c
  · rw [ifp_t c]
  · rw [ifp_f c]
    unfold x_room
    rcases Classical.em (xFblk h (gs h 46) < 0) with d | d
    · rw [ifp_t d, gs_ps, if_neg hk.2.2.2.2.2]
    · rw [ifp_f d, (xroomL_g k (by omega)).2, gs_ps, if_neg hk.2.2.2.2.2]
theorem gs_xlose (h : zH) (k : Nat) (hk : k ≠ 45 ∧ k ≠ 54 ∧ k ≠ 46 ∧ k ≠ 50 ∧ k ≠ 51 ∧ k ≠ 52 ∧ k ≠ 48 ∧ k ≠ 106) : gs (x_lose h) k = gs h k := by
  simp only [x_lose, x_forget, gs_ps, gs_prr]
  simp [hk]
theorem xpage_g (h : zH) (k ix g v : Int) (j : Nat) (hj : j = 47 ∨ j = 49 ∨ j = 53 ∨ j = 70 ∨ j = 71 ∨ j = 72 ∨ j = 81 ∨ j = 104 ∨ j = 105) : gs (x_page h k ix g v).1 j = gs h j := by
  unfold x_page
  rcases Classical.em ((x_page1 h).2 = 1) with c | c
  · rw [ifp_t c]
    unfold x_pg2
    rcases Classical.em ((x_prog (x_page1 h).1 (gs (x_page1 h).1 46) k ix g v).2 < 0) with d | d
    · rw [ifp_t d]
      show gs (x_lose _) j = _
      rw [gs_xlose _ _ (by omega), gs_xprog _ _ _ _ _ _ _ (by omega), xpage1_g _ (by omega)]
    · rw [ifp_f d, gs_xprog _ _ _ _ _ _ _ (by omega), xpage1_g _ (by omega)]
  · rw [ifp_f c]
    show gs (x_lose _) j = _
    rw [gs_xlose _ _ (by omega), xpage1_g _ (by omega)]
theorem xpage_r {h : zH} (s : XS h) (k ix g v : Int) : XS (x_page h k ix g v).1 ∧ ((x_page h k ix g v).2 = -1 ∨ 0 ≤ (x_page h k ix g v).2 ∧ (x_page h k ix g v).2 < gs h 72) := by
  obtain ⟨t1, t2, t3, t4⟩ := xpage1_r s
  have e72 : gs (x_page1 h).1 72 = gs h 72 := xpage1_g _ (by decide)
  unfold x_page
  rcases Classical.em ((x_page1 h).2 = 1) with c | c
  · rw [ifp_t c]
    obtain ⟨w1, w2, w3, w4, w5, w6⟩ := xpg2_r t1 k ix g v
    rw [e72] at w6
    exact ⟨w1, w6⟩
  · rw [ifp_f c]
    exact ⟨XS_lose t1, Or.inl rfl⟩
noncomputable def x_wi2 (h : zH) (t p pl : Int) : zH := ps (x_pis h t p (ga h 13 pl)) 53 (wr (gs (x_pis h t p (ga h 13 pl)) 53 + 1))
noncomputable def x_win (h : zH) (t p v : Int) : zH × Int := ifp (xPl (x_page h 1 p t v).1 (x_page h 1 p t v).2) (x_wi2 (x_page h 1 p t v).1 t p (x_page h 1 p t v).2, ga (x_wi2 (x_page h 1 p t v).1 t p (x_page h 1 p t v).2) 13 (x_page h 1 p t v).2) ((x_page h 1 p t v).1, -1)
set_option maxRecDepth 100000 in
theorem C_X0_writeInside {h : zH} (s : XS h) {a1 a2 a3 : Int} (r1 : -2147483648 ≤ a1 ∧ a1 < 2147483648) (r2 : -2147483648 ≤ a2 ∧ a2 < 2147483648) (r3 : -2147483648 ≤ a3 ∧ a3 < 2147483648) : kX0_writeInside a1 a2 a3 h (fun r h2 => r = (x_win h a1 a2 a3).2 ∧ h2 = (x_win h a1 a2 a3).1) := by
  obtain ⟨p1, p2⟩ := xpage_r s 1 a2 a1 a3
  have m7 := xb_size p1.1
  apply eX0_writeInside
  unfold x_win
  refine zx_aload_n (pc := 0) dX0_writeInside_0 rfl rfl ?_
  refine zx_iconst (pc := 1) dX0_writeInside_1 ?_
  refine zx_iload_n (pc := 2) dX0_writeInside_2 rfl rfl ?_
  refine zx_iload_n (pc := 3) dX0_writeInside_3 rfl rfl ?_
  refine zx_iload_n (pc := 4) dX0_writeInside_4 rfl rfl ?_
  refine zi_X0_177 (pc := 5) dX0_writeInside_5 (C_X0_program s (by decide) r2 r1 r3) (by decide) (Nat.le_of_ble_eq_true rfl) (fun z5 h5 u5 v5 q5 => ?_)
  obtain ⟨rfl, e5⟩ := q5
  rw [e5]
  clear e5 h5
  refine zx_ok (fun ok => ?_)
  refine zx_istore (pc := 8) dX0_writeInside_8 (by decide) rfl ?_
  refine zx_aload_n (pc := 10) dX0_writeInside_10 rfl rfl ?_
  refine zg_X0_12 (pc := 11) dX0_writeInside_11 ?_
  refine zx_iload (pc := 14) dX0_writeInside_14 rfl ?_
  refine zi_X0_91 (pc := 16) dX0_writeInside_16 (C_X1_hasPlace (by omega)) (by decide) (Nat.le_of_ble_eq_true rfl) (fun z16 h16 u16 v16 q16 => ?_)
  obtain ⟨rfl, e16⟩ := q16
  rw [e16]
  clear e16 h16
  refine zx_if_ne (pc := 19) (tgt := 24) dX0_writeInside_19 (by decide) (fun o => by first | exact o.1 _ (by decide) | exact o.2 _ _ | omega) (fun c19 => ?_) (fun c19 => ?_)
  · skip
    try replace c19 := b2i_n0.mp c19
    rw [ifp_t c19]
    obtain ⟨k1, k2⟩ := c19
    refine zx_aload_n (pc := 24) dX0_writeInside_24 rfl rfl ?_
    refine zg_X0_28 (pc := 25) dX0_writeInside_25 ?_
    refine zx_iload_n (pc := 28) dX0_writeInside_28 rfl rfl ?_
    refine zx_iload_n (pc := 29) dX0_writeInside_29 rfl rfl ?_
    refine zx_aload_n (pc := 30) dX0_writeInside_30 rfl rfl ?_
    refine zg_X0_12 (pc := 31) dX0_writeInside_31 ?_
    refine zg_X0_105 (pc := 34) dX0_writeInside_34 ?_
    refine zx_iload (pc := 37) dX0_writeInside_37 rfl ?_
    refine zx_iaload (pc := 39) aX1_version dX0_writeInside_39 (by omega) (by omega) (by omega) ?_
    refine zi_X0_180 (pc := 40) dX0_writeInside_40 (C_X4_putInShadow p1.2.2.1 r1 r2 (ok.2 13 _)) (by decide) (Nat.le_of_ble_eq_true rfl) (fun h40 q40 => ?_)
    rw [q40]
    clear q40 h40
    refine zx_aload_n (pc := 43) dX0_writeInside_43 rfl rfl ?_
    refine zx_dup (pc := 44) dX0_writeInside_44 rfl ?_
    refine zg_X0_78 (pc := 45) dX0_writeInside_45 ?_
    refine zx_iconst (pc := 48) dX0_writeInside_48 ?_
    refine zx_iadd (pc := 49) dX0_writeInside_49 ?_
    refine zx_wr ?_
    refine zp_X0_78 (pc := 50) dX0_writeInside_50 (fun _ => wr_rng _) ?_
    refine zx_aload_n (pc := 53) dX0_writeInside_53 rfl rfl ?_
    refine zg_X0_12 (pc := 54) dX0_writeInside_54 ?_
    refine zg_X0_105 (pc := 57) dX0_writeInside_57 ?_
    refine zx_iload (pc := 60) dX0_writeInside_60 rfl ?_
    refine zx_iaload (pc := 62) aX1_version dX0_writeInside_62 (by omega) (by omega) (by omega) ?_
    refine zx_iret (pc := 63) dX0_writeInside_63 (fun o => by first | exact o.1 _ (by decide) | exact o.2 _ _ | omega) ?_
    exact ⟨rfl, rfl⟩
  · skip
    try replace c19 := b2i_0.mp c19
    rw [ifp_f c19]
    refine zx_iconst (pc := 22) dX0_writeInside_22 ?_
    refine zx_iret (pc := 23) dX0_writeInside_23 (fun o => by first | exact o.1 _ (by decide) | exact o.2 _ _ | omega) ?_
    exact ⟨rfl, rfl⟩
noncomputable def x_fill (h : zH) (pl part n : Int) : zH := (h.1, fun c j => ifp (c = 16 ∧ pl * 8 ≤ j ∧ j < pl * 8 + n) (xSeen h 0 (part * 8 + (j - pl * 8))) (h.2 c j))
theorem gs_xfill (h : zH) (pl part n : Int) (k : Nat) : gs (x_fill h pl part n) k = gs h k := rfl
theorem ga_xfill (h : zH) (pl part n : Int) (c : Nat) (j : Int) : ga (x_fill h pl part n) c j = ifp (c = 16 ∧ pl * 8 ≤ j ∧ j < pl * 8 + n) (xSeen h 0 (part * 8 + (j - pl * 8))) (ga h c j) := rfl
theorem ga_xfill_o (h : zH) (pl part n : Int) (c : Nat) (j : Int) (hc : c ≠ 16) : ga (x_fill h pl part n) c j = ga h c j := ifp_f (fun z => hc z.1)
noncomputable def x_fmp (h : zH) (pl part : Int) : zH := ifp (xPl h pl) (x_fill h pl part 8) h
theorem xfill_0 (h : zH) (pl part : Int) : x_fill h pl part 0 = h := by
  apply zH_ext
  · intro k; rfl
  · intro c j
    rw [ga_xfill, ifp_f (by omega)]
theorem xfill_next (h : zH) (pl part : Int) {i : Int} (hi : 0 ≤ i) : pa (x_fill h pl part i) 16 (pl * 8 + i) (xSeen h 0 (part * 8 + i)) = x_fill h pl part (i + 1) := by
  apply zH_ext
  · intro k; rfl
  · intro c j
    rw [ga_pa, ga_xfill, ga_xfill]
    by_cases q : c = 16 ∧ j = pl * 8 + i
    · rw [if_pos q, ifp_t (by omega), q.2]
      congr 1
      omega
    · rw [if_neg q]
      by_cases w : c = 16 ∧ pl * 8 ≤ j ∧ j < pl * 8 + i
      · rw [ifp_t w, ifp_t (by omega)]
      · rw [ifp_f w, ifp_f (by omega)]
theorem xSeen_fill (h : zH) (pl part n t p : Int) : xSeen (x_fill h pl part n) t p = xSeen h t p := by
  unfold xSeen xHas
  rw [gs_xfill, ga_xfill_o _ _ _ _ _ _ (by decide), ga_xfill_o _ _ _ _ _ _ (by decide), ga_xfill_o _ _ _ _ _ _ (by decide)]
set_option maxRecDepth 100000 in
theorem L_X0_fillMapPage {h : zH} (s : XS h) {a1 a2 : Int} (r2 : 0 ≤ a2 ∧ a2 ≤ 1000) (c : xPl h a1) : ∀ (n : Nat) (i : Int), 0 ≤ i → i ≤ 8 → 8 - i < n → zX cX zNo RX0 cX0_fillMapPage 4 none rX0_fillMapPage 2 [some (.ref 2), some (.int (iI a1)), some (.int (iI a2)), some (.int (iI i))] [] (x_fill h a1 a2 i) (zEv cX (fun h2 => h2 = x_fill h a1 a2 8)) := by
  have m7 := xb_size s.1
  have c0 := c
  obtain ⟨k1, k2⟩ := c
  intro n
  induction n with
  | zero => intro i g1 g2 g3; omega
  | succ n ih =>
    intro i g1 g2 g3
    have sn := xSeen_fill h a1 a2 i 0 (a2 * 8 + i)
    have nx := xfill_next h a1 a2 g1
    refine zx_aload_n (pc := 2) dX0_fillMapPage_2 rfl rfl ?_
    refine zg_X0_12 (pc := 3) dX0_fillMapPage_3 ?_
    refine zx_iload_n (pc := 6) dX0_fillMapPage_6 rfl rfl ?_
    refine zi_X0_91 (pc := 7) dX0_fillMapPage_7 (C_X1_hasPlace (h := x_fill h a1 a2 i) (a1 := a1) (by omega)) (by decide) (Nat.le_of_ble_eq_true rfl) (fun z7 h7 u7 v7 q7 => ?_)
    obtain ⟨rfl, e7⟩ := q7
    rw [e7]
    clear e7 h7
    refine zx_if_eq (pc := 10) (tgt := 53) dX0_fillMapPage_10 (by decide) (fun o => by first | exact o.1 _ (by decide) | exact o.2 _ _ | omega) (fun c10 => ?_) (fun c10 => ?_)
    · skip
      try replace c10 := b2i_0.mp c10
      exact absurd c0 c10
    · skip
      try replace c10 := b2i_n0.mp c10
      refine zx_iload_n (pc := 13) dX0_fillMapPage_13 rfl rfl ?_
      refine zx_bipush (pc := 14) dX0_fillMapPage_14 (by decide +kernel) ?_
      refine zx_icmp_ge (pc := 16) (tgt := 53) dX0_fillMapPage_16 (by decide) (fun o => by first | exact o.1 _ (by decide) | exact o.2 _ _ | omega) (fun o => by first | exact o.1 _ (by decide) | exact o.2 _ _ | omega) (fun c16 => ?_) (fun c16 => ?_)
      · skip
        refine zx_vret (pc := 53) dX0_fillMapPage_53 ?_
        have e : i = 8 := by omega
        rw [e]
      · skip
        refine zx_aload_n (pc := 19) dX0_fillMapPage_19 rfl rfl ?_
        refine zg_X0_12 (pc := 20) dX0_fillMapPage_20 ?_
        refine zg_X0_199 (pc := 23) dX0_fillMapPage_23 ?_
        refine zx_iload_n (pc := 26) dX0_fillMapPage_26 rfl rfl ?_
        refine zx_bipush (pc := 27) dX0_fillMapPage_27 (by decide +kernel) ?_
        refine zx_imul (pc := 29) dX0_fillMapPage_29 ?_
        refine zx_iload_n (pc := 30) dX0_fillMapPage_30 rfl rfl ?_
        refine zx_iadd (pc := 31) dX0_fillMapPage_31 ?_
        refine zx_aload_n (pc := 32) dX0_fillMapPage_32 rfl rfl ?_
        refine zg_X0_28 (pc := 33) dX0_fillMapPage_33 ?_
        refine zx_iconst (pc := 36) dX0_fillMapPage_36 ?_
        refine zx_iload_n (pc := 37) dX0_fillMapPage_37 rfl rfl ?_
        refine zx_bipush (pc := 38) dX0_fillMapPage_38 (by decide +kernel) ?_
        refine zx_imul (pc := 40) dX0_fillMapPage_40 ?_
        refine zx_iload_n (pc := 41) dX0_fillMapPage_41 rfl rfl ?_
        refine zx_iadd (pc := 42) dX0_fillMapPage_42 ?_
        refine zi_X0_202 (pc := 43) dX0_fillMapPage_43 (C_X4_versionSeenBy (h := x_fill h a1 a2 i) s.2.2.1 (by decide) (by omega)) (by decide) (Nat.le_of_ble_eq_true rfl) (fun z43 h43 u43 v43 q43 => ?_)
        obtain ⟨rfl, e43⟩ := q43
        rw [e43]
        clear e43 h43
        refine zx_iastore (pc := 46) aX1_mapped dX0_fillMapPage_46 (by omega) (by omega) (by omega) (fun _ => ⟨u43, v43⟩) ?_
        refine zx_iinc (pc := 47) dX0_fillMapPage_47 (by decide) rfl rfl ?_
        refine zx_goto (pc := 50) (tgt := 2) dX0_fillMapPage_50 (by decide) ?_
        rw [sn, nx]
        exact ih (i + 1) (by omega) (by omega) (by omega)
set_option maxRecDepth 100000 in
theorem C_X0_fillMapPage {h : zH} (s : XS h) {a1 a2 : Int} (r1 : -2147483648 ≤ a1 ∧ a1 < 2147483648) (r2 : 0 ≤ a2 ∧ a2 ≤ 1000) : kX0_fillMapPage a1 a2 h (fun h2 => h2 = x_fmp h a1 a2) := by
  apply eX0_fillMapPage
  unfold x_fmp
  rcases Classical.em (xPl h a1) with c | c
  · rw [ifp_t c]
    refine zx_iconst (pc := 0) dX0_fillMapPage_0 ?_
    refine zx_istore_n (pc := 1) dX0_fillMapPage_1 rfl (by decide) rfl ?_
    have r := L_X0_fillMapPage s r2 c 9 0 (Int.le_refl _) (by omega) (by omega)
    rw [xfill_0] at r
    exact r
  · rw [ifp_f c]
    refine zx_iconst (pc := 0) dX0_fillMapPage_0 ?_
    refine zx_istore_n (pc := 1) dX0_fillMapPage_1 rfl (by decide) rfl ?_
    refine zx_aload_n (pc := 2) dX0_fillMapPage_2 rfl rfl ?_
    refine zg_X0_12 (pc := 3) dX0_fillMapPage_3 ?_
    refine zx_iload_n (pc := 6) dX0_fillMapPage_6 rfl rfl ?_
    refine zi_X0_91 (pc := 7) dX0_fillMapPage_7 (C_X1_hasPlace r1) (by decide) (Nat.le_of_ble_eq_true rfl) (fun z7 h7 u7 v7 q7 => ?_)
    obtain ⟨rfl, e7⟩ := q7
    rw [e7]
    clear e7 h7
    refine zx_if_eq (pc := 10) (tgt := 53) dX0_fillMapPage_10 (by decide) (fun o => by first | exact o.1 _ (by decide) | exact o.2 _ _ | omega) (fun c10 => ?_) (fun c10 => ?_)
    · skip
      try replace c10 := b2i_0.mp c10
      refine zx_vret (pc := 53) dX0_fillMapPage_53 ?_
      rfl
    · skip
      try replace c10 := b2i_n0.mp c10
      exact absurd c10 c
noncomputable def x_ckL : Nat → zH → Int → zH × Int
  | 0, h, _ => (h, 1)
  | n + 1, h, part => ifp ((x_page h 3 part (gs h 49) (-2)).2 < 0) ((x_page h 3 part (gs h 49) (-2)).1, 0) (x_ckL n (x_fmp (x_page h 3 part (gs h 49) (-2)).1 (x_page h 3 part (gs h 49) (-2)).2 part) (part + 1))
def x_ckEnd (h : zH) (pl : Int) : zH := ps (ps (ps (ps h 50 (gs h 49)) 51 (ga h 13 pl)) 52 0) 48 0
noncomputable def x_ck2 (h : zH) : zH × Int := ifp (xPl (x_page h 4 0 (gs h 49) (-2)).1 (x_page h 4 0 (gs h 49) (-2)).2) (x_ckEnd (x_page h 4 0 (gs h 49) (-2)).1 (x_page h 4 0 (gs h 49) (-2)).2, 1) ((x_page h 4 0 (gs h 49) (-2)).1, 0)
def x_ck0 (h : zH) : zH := ps (ps h 49 (wr (gs h 49 + 1))) 52 (wr (gs h 49 + 1))
noncomputable def x_ck1 (h : zH) : zH × Int := x_ckL (gs h 105).toNat (x_ck0 h) 0
noncomputable def x_ck (h : zH) : zH × Int := ifp ((x_ck1 h).2 = 1) (x_ck2 (x_ck1 h).1) (x_ck1 h)
theorem XS_fmp {h : zH} (s : XS h) (pl part : Int) : XS (x_fmp h pl part) := XS_s s (fun k => by unfold x_fmp; rw [gs_if, gs_xfill, ifp_same]) (fun b => by unfold x_fmp; rw [ga_if, ga_xfill_o _ _ _ _ _ _ (by decide), ifp_same])
theorem gs_xfmp (h : zH) (pl part : Int) (k : Nat) : gs (x_fmp h pl part) k = gs h k := by unfold x_fmp; rw [gs_if, gs_xfill, ifp_same]
theorem xckL_r : ∀ (n : Nat) (h : zH) (part : Int), XS h → XS (x_ckL n h part).1 ∧ (∀ j, (j = 47 ∨ j = 49 ∨ j = 53 ∨ j = 70 ∨ j = 71 ∨ j = 72 ∨ j = 81 ∨ j = 104 ∨ j = 105) → gs (x_ckL n h part).1 j = gs h j) ∧ ((x_ckL n h part).2 = 0 ∨ (x_ckL n h part).2 = 1)
  | 0, h, _, s => ⟨s, fun _ _ => rfl, Or.inr rfl⟩
  | n + 1, h, part, s => by
    rw [x_ckL]
    have p := (xpage_r s 3 part (gs h 49) (-2)).1
    rcases Classical.em ((x_page h 3 part (gs h 49) (-2)).2 < 0) with c | c
    · rw [ifp_t c]
      exact ⟨p, fun j hj => xpage_g _ _ _ _ _ _ hj, Or.inl rfl⟩
    · rw [ifp_f c]
      obtain ⟨t1, t2, t3⟩ := xckL_r n _ (part + 1) (XS_fmp p (x_page h 3 part (gs h 49) (-2)).2 part)
      exact ⟨t1, fun j hj => by rw [t2 j hj, gs_xfmp, xpage_g _ _ _ _ _ _ hj], t3⟩
theorem xck2_r {h : zH} (s : XS h) : XS (x_ck2 h).1 ∧ (∀ j, (j = 47 ∨ j = 49 ∨ j = 53 ∨ j = 70 ∨ j = 71 ∨ j = 72 ∨ j = 81 ∨ j = 104 ∨ j = 105) → gs (x_ck2 h).1 j = gs h j) ∧ ((x_ck2 h).2 = 0 ∨ (x_ck2 h).2 = 1) := by
  have p := (xpage_r s 4 0 (gs h 49) (-2)).1
  unfold x_ck2
  rcases Classical.em (xPl (x_page h 4 0 (gs h 49) (-2)).1 (x_page h 4 0 (gs h 49) (-2)).2) with c | c
  · rw [ifp_t c]
    refine ⟨XS_end p _ _ _ _, fun j hj => ?_, Or.inr rfl⟩
    rw [← xpage_g h 4 0 (gs h 49) (-2) j hj]
    simp only [x_ckEnd, gs_ps]
    rw [if_neg (by omega), if_neg (by omega), if_neg (by omega), if_neg (by omega)]
  · rw [ifp_f c]
    exact ⟨p, fun j hj => xpage_g _ _ _ _ _ _ hj, Or.inl rfl⟩
theorem xck_r {h : zH} (s : XS h) : XS (x_ck h).1 ∧ (∀ j, (j = 47 ∨ j = 53 ∨ j = 70 ∨ j = 71 ∨ j = 72 ∨ j = 81 ∨ j = 104 ∨ j = 105) → gs (x_ck h).1 j = gs h j) ∧ ((x_ck h).2 = 0 ∨ (x_ck h).2 = 1) := by
  have s0 : XS (x_ck0 h) := XS_49 s _ _
  have e0 (j : Nat) (hj : j = 47 ∨ j = 53 ∨ j = 70 ∨ j = 71 ∨ j = 72 ∨ j = 81 ∨ j = 104 ∨ j = 105) : gs (x_ck0 h) j = gs h j := by
    simp only [x_ck0, gs_ps]
    rw [if_neg (by omega), if_neg (by omega)]
  obtain ⟨t1, t2, t3⟩ := xckL_r (gs h 105).toNat _ 0 s0
  unfold x_ck x_ck1
  rcases Classical.em ((x_ckL (gs h 105).toNat (x_ck0 h) 0).2 = 1) with c | c
  · rw [ifp_t c]
    obtain ⟨w1, w2, w3⟩ := xck2_r t1
    exact ⟨w1, fun j hj => by rw [w2 j (by omega), t2 j (by omega), e0 j hj], w3⟩
  · rw [ifp_f c]
    exact ⟨t1, fun j hj => by rw [t2 j (by omega), e0 j hj], t3⟩
set_option maxRecDepth 100000 in
theorem L_X0_makeCheckpoint (Q : Int → zH → Prop) : ∀ (n : Nat) (h : zH) (i : Int), XS h → 0 ≤ i → i + n = gs h 105 → ((x_ckL n h i).2 = 0 → Q 0 (x_ckL n h i).1) → (∀ hN j, x_ckL n h i = (hN, 1) → zX cX zNo RX0 cX0_makeCheckpoint 3 (some .boolean) rX0_makeCheckpoint 62 [some (.ref 2), some (.int (iI j)), none] [] hN (zEi cX Q)) → zX cX zNo RX0 cX0_makeCheckpoint 3 (some .boolean) rX0_makeCheckpoint 20 [some (.ref 2), some (.int (iI i)), none] [] h (zEi cX Q) := by
  intro n
  induction n with
  | zero =>
    intro h i s i1 i2 k0 k1
    have s8 := s.2.2.2.2.2.2.2
    have st := s.2.2.1
    unfold XT at st
    refine zx_iload_n (pc := 20) dX0_makeCheckpoint_20 rfl rfl ?_
    refine zx_aload_n (pc := 21) dX0_makeCheckpoint_21 rfl rfl ?_
    refine zg_X0_28 (pc := 22) dX0_makeCheckpoint_22 ?_
    refine zg_X0_128 (pc := 25) dX0_makeCheckpoint_25 ?_
    refine zx_icmp_ge (pc := 28) (tgt := 62) dX0_makeCheckpoint_28 (by decide) (fun o => by first | exact o.1 _ (by decide) | exact o.2 _ _ | omega) (fun o => by first | exact o.1 _ (by decide) | exact o.2 _ _ | omega) (fun c28 => ?_) (fun c28 => absurd c28 (by omega))
    exact k1 h i rfl
  | succ n ih =>
    intro h i s i1 i2 k0 k1
    have s8 := s.2.2.2.2.2.2.2
    have st := s.2.2.1
    unfold XT at st
    obtain ⟨p1, p2⟩ := xpage_r s 3 i (gs h 49) (-2)
    rw [x_ckL] at k0 k1
    refine zx_ok (fun ok => ?_)
    refine zx_iload_n (pc := 20) dX0_makeCheckpoint_20 rfl rfl ?_
    refine zx_aload_n (pc := 21) dX0_makeCheckpoint_21 rfl rfl ?_
    refine zg_X0_28 (pc := 22) dX0_makeCheckpoint_22 ?_
    refine zg_X0_128 (pc := 25) dX0_makeCheckpoint_25 ?_
    refine zx_icmp_ge (pc := 28) (tgt := 62) dX0_makeCheckpoint_28 (by decide) (fun o => by first | exact o.1 _ (by decide) | exact o.2 _ _ | omega) (fun o => by first | exact o.1 _ (by decide) | exact o.2 _ _ | omega) (fun c28 => absurd c28 (by omega)) (fun c28 => ?_)
    refine zx_aload_n (pc := 31) dX0_makeCheckpoint_31 rfl rfl ?_
    refine zx_iconst (pc := 32) dX0_makeCheckpoint_32 ?_
    refine zx_iload_n (pc := 33) dX0_makeCheckpoint_33 rfl rfl ?_
    refine zx_aload_n (pc := 34) dX0_makeCheckpoint_34 rfl rfl ?_
    refine zg_X0_66 (pc := 35) dX0_makeCheckpoint_35 ?_
    refine zx_bipush (pc := 38) dX0_makeCheckpoint_38 (by decide +kernel) ?_
    refine zi_X0_177 (pc := 40) dX0_makeCheckpoint_40 (C_X0_program s (by decide) (by omega) (ok.1 49 (by decide)) (by decide)) (by decide) (Nat.le_of_ble_eq_true rfl) (fun z40 h40 u40 v40 q40 => ?_)
    obtain ⟨rfl, e40⟩ := q40
    rw [e40]
    clear e40 h40
    refine zx_istore_n (pc := 43) dX0_makeCheckpoint_43 rfl (by decide) rfl ?_
    refine zx_iload_n (pc := 44) dX0_makeCheckpoint_44 rfl rfl ?_
    refine zx_if_ge (pc := 45) (tgt := 50) dX0_makeCheckpoint_45 (by decide) (fun o => by first | exact o.1 _ (by decide) | exact o.2 _ _ | omega) (fun c45 => ?_) (fun c45 => ?_)
    · skip
      rw [ifp_f (by omega)] at k0 k1
      refine zx_aload_n (pc := 50) dX0_makeCheckpoint_50 rfl rfl ?_
      refine zx_iload_n (pc := 51) dX0_makeCheckpoint_51 rfl rfl ?_
      refine zx_iload_n (pc := 52) dX0_makeCheckpoint_52 rfl rfl ?_
      refine zi_X0_196 (pc := 53) dX0_makeCheckpoint_53 (C_X0_fillMapPage p1 ⟨u40, v40⟩ (by omega)) (by decide) (Nat.le_of_ble_eq_true rfl) (fun h53 q53 => ?_)
      rw [q53]
      clear q53 h53
      refine zx_iinc (pc := 56) dX0_makeCheckpoint_56 (by decide) rfl rfl ?_
      refine zx_goto (pc := 59) (tgt := 20) dX0_makeCheckpoint_59 (by decide) ?_
      refine zx_sub [true, true, false] ?_
      dsimp only [zMask, List.set]
      exact ih _ (i + 1) (XS_fmp p1 _ _) (by omega) (by rw [gs_xfmp, xpage_g _ _ _ _ _ _ (by omega)]; omega) k0 k1
    · skip
      rw [ifp_t (by omega)] at k0
      refine zx_iconst (pc := 48) dX0_makeCheckpoint_48 ?_
      refine zx_zret (pc := 49) dX0_makeCheckpoint_49 (by omega) ?_
      exact k0 rfl
set_option maxRecDepth 100000 in
theorem C_X0_makeCheckpoint {h : zH} (s : XS h) : kX0_makeCheckpoint h (fun r h2 => r = (x_ck h).2 ∧ h2 = (x_ck h).1) := by
  have s0 : XS (x_ck0 h) := XS_49 s _ _
  have s8 := s.2.2.2.2.2.2.2
  have st := s.2.2.1
  unfold XT at st
  obtain ⟨t1, t2, t3⟩ := xckL_r (gs h 105).toNat _ 0 s0
  have e105 : gs (x_ck0 h) 105 = gs h 105 := rfl
  apply eX0_makeCheckpoint
  refine zx_ok (fun ok => ?_)
  refine zx_aload_n (pc := 0) dX0_makeCheckpoint_0 rfl rfl ?_
  refine zx_dup (pc := 1) dX0_makeCheckpoint_1 rfl ?_
  refine zg_X0_66 (pc := 2) dX0_makeCheckpoint_2 ?_
  refine zx_iconst (pc := 5) dX0_makeCheckpoint_5 ?_
  refine zx_iadd (pc := 6) dX0_makeCheckpoint_6 ?_
  refine zx_wr ?_
  refine zp_X0_66 (pc := 7) dX0_makeCheckpoint_7 (fun _ => wr_rng _) ?_
  refine zx_aload_n (pc := 10) dX0_makeCheckpoint_10 rfl rfl ?_
  refine zx_aload_n (pc := 11) dX0_makeCheckpoint_11 rfl rfl ?_
  refine zg_X0_66 (pc := 12) dX0_makeCheckpoint_12 ?_
  refine zp_X0_75 (pc := 15) dX0_makeCheckpoint_15 (fun _ => wr_rng _) ?_
  refine zx_iconst (pc := 18) dX0_makeCheckpoint_18 ?_
  refine zx_istore_n (pc := 19) dX0_makeCheckpoint_19 rfl (by decide) rfl ?_
  refine L_X0_makeCheckpoint _ (gs h 105).toNat (x_ck0 h) 0 s0 (Int.le_refl _) (by rw [e105]; omega) (fun z => ?_) (fun hN j e => ?_)
  · have e : x_ck h = x_ckL (gs h 105).toNat (x_ck0 h) 0 := by
      unfold x_ck x_ck1
      rw [ifp_f (by omega)]
    rw [e]
    exact ⟨z.symm, rfl⟩
  rw [e] at t1 t2
  have em : x_ck h = x_ck2 hN := by
    unfold x_ck x_ck1
    rw [e, ifp_t rfl]
  obtain ⟨p1, p2⟩ := xpage_r t1 4 0 (gs hN 49) (-2)
  have m7 := xb_size p1.1
  have m8 := xb_size t1.1
  have e72 : gs (x_page hN 4 0 (gs hN 49) (-2)).1 72 = gs hN 72 := xpage_g _ _ _ _ _ _ (by omega)
  rw [em]
  unfold x_ck2
  refine zx_ok (fun ok2 => ?_)
  refine zx_aload_n (pc := 62) dX0_makeCheckpoint_62 rfl rfl ?_
  refine zx_iconst (pc := 63) dX0_makeCheckpoint_63 ?_
  refine zx_iconst (pc := 64) dX0_makeCheckpoint_64 ?_
  refine zx_aload_n (pc := 65) dX0_makeCheckpoint_65 rfl rfl ?_
  refine zg_X0_66 (pc := 66) dX0_makeCheckpoint_66 ?_
  refine zx_bipush (pc := 69) dX0_makeCheckpoint_69 (by decide +kernel) ?_
  refine zi_X0_177 (pc := 71) dX0_makeCheckpoint_71 (C_X0_program t1 (by decide) (by decide) (ok2.1 49 (by decide)) (by decide)) (by decide) (Nat.le_of_ble_eq_true rfl) (fun z71 h71 u71 v71 q71 => ?_)
  obtain ⟨rfl, e71⟩ := q71
  rw [e71]
  clear e71 h71
  refine zx_istore_n (pc := 74) dX0_makeCheckpoint_74 rfl (by decide) rfl ?_
  refine zx_aload_n (pc := 75) dX0_makeCheckpoint_75 rfl rfl ?_
  refine zg_X0_12 (pc := 76) dX0_makeCheckpoint_76 ?_
  refine zx_iload_n (pc := 79) dX0_makeCheckpoint_79 rfl rfl ?_
  refine zi_X0_91 (pc := 80) dX0_makeCheckpoint_80 (C_X1_hasPlace (by omega)) (by decide) (Nat.le_of_ble_eq_true rfl) (fun z80 h80 u80 v80 q80 => ?_)
  obtain ⟨rfl, e80⟩ := q80
  rw [e80]
  clear e80 h80
  refine zx_if_ne (pc := 83) (tgt := 88) dX0_makeCheckpoint_83 (by decide) (fun o => by first | exact o.1 _ (by decide) | exact o.2 _ _ | omega) (fun c83 => ?_) (fun c83 => ?_)
  · skip
    try replace c83 := b2i_n0.mp c83
    rw [ifp_t c83]
    obtain ⟨k1, k2⟩ := c83
    refine zx_ok (fun ok3 => ?_)
    refine zx_aload_n (pc := 88) dX0_makeCheckpoint_88 rfl rfl ?_
    refine zx_aload_n (pc := 89) dX0_makeCheckpoint_89 rfl rfl ?_
    refine zg_X0_66 (pc := 90) dX0_makeCheckpoint_90 ?_
    refine zp_X0_69 (pc := 93) dX0_makeCheckpoint_93 (fun _ => ok3.1 49 (by decide)) ?_
    refine zx_aload_n (pc := 96) dX0_makeCheckpoint_96 rfl rfl ?_
    refine zx_aload_n (pc := 97) dX0_makeCheckpoint_97 rfl rfl ?_
    refine zg_X0_12 (pc := 98) dX0_makeCheckpoint_98 ?_
    refine zg_X0_105 (pc := 101) dX0_makeCheckpoint_101 ?_
    refine zx_iload_n (pc := 104) dX0_makeCheckpoint_104 rfl rfl ?_
    refine zx_iaload (pc := 105) aX1_version dX0_makeCheckpoint_105 (by omega) (by omega) (by omega) ?_
    refine zp_X0_72 (pc := 106) dX0_makeCheckpoint_106 (fun _ => ok3.2 13 _) ?_
    refine zx_aload_n (pc := 109) dX0_makeCheckpoint_109 rfl rfl ?_
    refine zx_iconst (pc := 110) dX0_makeCheckpoint_110 ?_
    refine zp_X0_75 (pc := 111) dX0_makeCheckpoint_111 (fun _ => by omega) ?_
    refine zx_aload_n (pc := 114) dX0_makeCheckpoint_114 rfl rfl ?_
    refine zx_iconst (pc := 115) dX0_makeCheckpoint_115 ?_
    refine zp_X0_63 (pc := 116) dX0_makeCheckpoint_116 (fun _ => by omega) ?_
    refine zx_iconst (pc := 119) dX0_makeCheckpoint_119 ?_
    refine zx_zret (pc := 120) dX0_makeCheckpoint_120 (by omega) ?_
    exact ⟨rfl, rfl⟩
  · skip
    try replace c83 := b2i_0.mp c83
    rw [ifp_f c83]
    refine zx_iconst (pc := 86) dX0_makeCheckpoint_86 ?_
    refine zx_zret (pc := 87) dX0_makeCheckpoint_87 (by omega) ?_
    exact ⟨rfl, rfl⟩
noncomputable def x_cc (h : zH) : zH × Int := ifp (wr (gs h 48 + 1) < gs h 47) (ps h 48 (wr (gs h 48 + 1)), 1) (x_ck (ps h 48 (wr (gs h 48 + 1))))
theorem xcc_t {h : zH} (c : gs (ps h 48 (wr (gs h 48 + 1))) 48 < gs (ps h 48 (wr (gs h 48 + 1))) 47) : x_cc h = (ps h 48 (wr (gs h 48 + 1)), 1) := ifp_t c
theorem xcc_f {h : zH} (c : gs (ps h 48 (wr (gs h 48 + 1))) 47 ≤ gs (ps h 48 (wr (gs h 48 + 1))) 48) : x_cc h = x_ck (ps h 48 (wr (gs h 48 + 1))) := ifp_f (fun z => absurd (Int.lt_of_lt_of_le z c) (Int.lt_irrefl _))
noncomputable def x_wo2 (h : zH) (ver : Int) : zH × Int := ifp ((x_cc h).2 = 1) (ps (x_cc h).1 53 (wr (gs (x_cc h).1 53 + 1)), ver) ((x_cc h).1, -1)
noncomputable def x_wout (h : zH) (p v : Int) : zH × Int := ifp (xPl (x_page h 1 p 0 v).1 (x_page h 1 p 0 v).2) (x_wo2 (x_setC (x_page h 1 p 0 v).1 p (ga (x_page h 1 p 0 v).1 13 (x_page h 1 p 0 v).2)) (ga (x_page h 1 p 0 v).1 13 (x_page h 1 p 0 v).2)) ((x_page h 1 p 0 v).1, -1)
theorem xcc_r {h : zH} (s : XS h) : XS (x_cc h).1 ∧ (∀ j, (j = 47 ∨ j = 53 ∨ j = 70 ∨ j = 71 ∨ j = 72 ∨ j = 81 ∨ j = 104 ∨ j = 105) → gs (x_cc h).1 j = gs h j) ∧ ((x_cc h).2 = 0 ∨ (x_cc h).2 = 1) := by
  have s0 := XS_48 s (wr (gs h 48 + 1))
  have e0 (j : Nat) (hj : j = 47 ∨ j = 53 ∨ j = 70 ∨ j = 71 ∨ j = 72 ∨ j = 81 ∨ j = 104 ∨ j = 105) : gs (ps h 48 (wr (gs h 48 + 1))) j = gs h j := by
    rw [gs_ps, if_neg (by omega)]
  unfold x_cc
  rcases Classical.em (wr (gs h 48 + 1) < gs h 47) with c | c
  · rw [ifp_t c]; exact ⟨s0, e0, Or.inr rfl⟩
  · rw [ifp_f c]
    obtain ⟨t1, t2, t3⟩ := xck_r s0
    exact ⟨t1, fun j hj => by rw [t2 j hj, e0 j hj], t3⟩
set_option maxRecDepth 100000 in
theorem C_X0_writeOutside {h : zH} (s : XS h) {a1 a2 : Int} (r1 : -2147483648 ≤ a1 ∧ a1 < 2147483648) (r2 : -2147483648 ≤ a2 ∧ a2 < 2147483648) : kX0_writeOutside a1 a2 h (fun r h2 => r = (x_wout h a1 a2).2 ∧ h2 = (x_wout h a1 a2).1) := by
  obtain ⟨p1, p2⟩ := xpage_r s 1 a1 0 a2
  have m7 := xb_size p1.1
  have sc := XS_setC p1 a1 (ga (x_page h 1 a1 0 a2).1 13 (x_page h 1 a1 0 a2).2)
  have s4 := XS_48 sc (wr (gs (x_setC (x_page h 1 a1 0 a2).1 a1 (ga (x_page h 1 a1 0 a2).1 13 (x_page h 1 a1 0 a2).2)) 48 + 1))
  apply eX0_writeOutside
  unfold x_wout
  refine zx_aload_n (pc := 0) dX0_writeOutside_0 rfl rfl ?_
  refine zx_iconst (pc := 1) dX0_writeOutside_1 ?_
  refine zx_iload_n (pc := 2) dX0_writeOutside_2 rfl rfl ?_
  refine zx_iconst (pc := 3) dX0_writeOutside_3 ?_
  refine zx_iload_n (pc := 4) dX0_writeOutside_4 rfl rfl ?_
  refine zi_X0_177 (pc := 5) dX0_writeOutside_5 (C_X0_program s (by decide) r1 (by decide) r2) (by decide) (Nat.le_of_ble_eq_true rfl) (fun z5 h5 u5 v5 q5 => ?_)
  obtain ⟨rfl, e5⟩ := q5
  rw [e5]
  clear e5 h5
  refine zx_ok (fun ok => ?_)
  refine zx_istore_n (pc := 8) dX0_writeOutside_8 rfl (by decide) rfl ?_
  refine zx_aload_n (pc := 9) dX0_writeOutside_9 rfl rfl ?_
  refine zg_X0_12 (pc := 10) dX0_writeOutside_10 ?_
  refine zx_iload_n (pc := 13) dX0_writeOutside_13 rfl rfl ?_
  refine zi_X0_91 (pc := 14) dX0_writeOutside_14 (C_X1_hasPlace (by omega)) (by decide) (Nat.le_of_ble_eq_true rfl) (fun z14 h14 u14 v14 q14 => ?_)
  obtain ⟨rfl, e14⟩ := q14
  rw [e14]
  clear e14 h14
  refine zx_if_ne (pc := 17) (tgt := 22) dX0_writeOutside_17 (by decide) (fun o => by first | exact o.1 _ (by decide) | exact o.2 _ _ | omega) (fun c17 => ?_) (fun c17 => ?_)
  · skip
    try replace c17 := b2i_n0.mp c17
    rw [ifp_t c17]
    obtain ⟨k1, k2⟩ := c17
    unfold x_wo2
    refine zx_aload_n (pc := 22) dX0_writeOutside_22 rfl rfl ?_
    refine zg_X0_12 (pc := 23) dX0_writeOutside_23 ?_
    refine zg_X0_105 (pc := 26) dX0_writeOutside_26 ?_
    refine zx_iload_n (pc := 29) dX0_writeOutside_29 rfl rfl ?_
    refine zx_iaload (pc := 30) aX1_version dX0_writeOutside_30 (by omega) (by omega) (by omega) ?_
    refine zx_istore (pc := 31) dX0_writeOutside_31 (by decide) rfl ?_
    refine zx_aload_n (pc := 33) dX0_writeOutside_33 rfl rfl ?_
    refine zg_X0_28 (pc := 34) dX0_writeOutside_34 ?_
    refine zx_iload_n (pc := 37) dX0_writeOutside_37 rfl rfl ?_
    refine zx_iload (pc := 38) dX0_writeOutside_38 rfl ?_
    refine zi_X0_184 (pc := 40) dX0_writeOutside_40 (C_X4_setCommitted p1.2.2.1 r1 (ok.2 13 _)) (by decide) (Nat.le_of_ble_eq_true rfl) (fun h40 q40 => ?_)
    rw [q40]
    clear q40 h40
    refine zx_aload_n (pc := 43) dX0_writeOutside_43 rfl rfl ?_
    refine zx_dup (pc := 44) dX0_writeOutside_44 rfl ?_
    refine zg_X0_63 (pc := 45) dX0_writeOutside_45 ?_
    refine zx_iconst (pc := 48) dX0_writeOutside_48 ?_
    refine zx_iadd (pc := 49) dX0_writeOutside_49 ?_
    refine zx_wr ?_
    refine zp_X0_63 (pc := 50) dX0_writeOutside_50 (fun _ => wr_rng _) ?_
    refine zx_aload_n (pc := 53) dX0_writeOutside_53 rfl rfl ?_
    refine zg_X0_63 (pc := 54) dX0_writeOutside_54 ?_
    refine zx_aload_n (pc := 57) dX0_writeOutside_57 rfl rfl ?_
    refine zg_X0_60 (pc := 58) dX0_writeOutside_58 ?_
    refine zx_icmp_lt (pc := 61) (tgt := 73) dX0_writeOutside_61 (by decide) (fun _ => wr_rng _) (fun o => o.1 47 (by decide)) (fun c61 => ?_) (fun c61 => ?_)
    · skip
      have em := xcc_t c61
      refine zx_aload_n (pc := 73) dX0_writeOutside_73 rfl rfl ?_
      refine zx_dup (pc := 74) dX0_writeOutside_74 rfl ?_
      refine zg_X0_78 (pc := 75) dX0_writeOutside_75 ?_
      refine zx_iconst (pc := 78) dX0_writeOutside_78 ?_
      refine zx_iadd (pc := 79) dX0_writeOutside_79 ?_
      refine zx_wr ?_
      refine zp_X0_78 (pc := 80) dX0_writeOutside_80 (fun _ => wr_rng _) ?_
      refine zx_iload (pc := 83) dX0_writeOutside_83 rfl ?_
      refine zx_iret (pc := 85) dX0_writeOutside_85 (fun _ => ok.2 13 _) ?_
      rw [em]
      first
      | (rw [ifp_t rfl]; exact ⟨rfl, rfl⟩)
      | (rw [ifp_t (by omega)]; exact ⟨rfl, rfl⟩)
    · skip
      have em := xcc_f c61
      refine zx_aload_n (pc := 64) dX0_writeOutside_64 rfl rfl ?_
      refine zi_X0_187 (pc := 65) dX0_writeOutside_65 (C_X0_makeCheckpoint s4) (by decide) (Nat.le_of_ble_eq_true rfl) (fun z65 h65 u65 v65 q65 => ?_)
      obtain ⟨rfl, e65⟩ := q65
      rw [e65]
      clear e65 h65
      refine zx_if_ne (pc := 68) (tgt := 73) dX0_writeOutside_68 (by decide) (fun o => by first | exact o.1 _ (by decide) | exact o.2 _ _ | omega) (fun c68 => ?_) (fun c68 => ?_)
      · skip
        try replace c68 := b2i_n0.mp c68
        have q3 := (xck_r s4).2.2
        refine zx_aload_n (pc := 73) dX0_writeOutside_73 rfl rfl ?_
        refine zx_dup (pc := 74) dX0_writeOutside_74 rfl ?_
        refine zg_X0_78 (pc := 75) dX0_writeOutside_75 ?_
        refine zx_iconst (pc := 78) dX0_writeOutside_78 ?_
        refine zx_iadd (pc := 79) dX0_writeOutside_79 ?_
        refine zx_wr ?_
        refine zp_X0_78 (pc := 80) dX0_writeOutside_80 (fun _ => wr_rng _) ?_
        refine zx_iload (pc := 83) dX0_writeOutside_83 rfl ?_
        refine zx_iret (pc := 85) dX0_writeOutside_85 (fun _ => ok.2 13 _) ?_
        rw [em]
        first
        | (rw [ifp_t rfl]; exact ⟨rfl, rfl⟩)
        | (rw [ifp_t (by omega)]; exact ⟨rfl, rfl⟩)
      · skip
        try replace c68 := b2i_0.mp c68
        rw [em, ifp_f (by rw [c68]; decide)]
        refine zx_iconst (pc := 71) dX0_writeOutside_71 ?_
        refine zx_iret (pc := 72) dX0_writeOutside_72 (fun _ => by decide) ?_
        exact ⟨rfl, rfl⟩
  · skip
    try replace c17 := b2i_0.mp c17
    rw [ifp_f c17]
    refine zx_iconst (pc := 20) dX0_writeOutside_20 ?_
    refine zx_iret (pc := 21) dX0_writeOutside_21 (fun _ => by decide) ?_
    exact ⟨rfl, rfl⟩
noncomputable def x_cm2 (h : zH) (t : Int) : zH := x_close (x_cms h t) t 2
noncomputable def x_com (h : zH) (t n : Int) : zH × Int := ifp (n = 0) (x_close h t 2, 1) (ifp ((x_page h 2 n t (-2)).2 < 0) ((x_page h 2 n t (-2)).1, 0) (x_cc (x_cm2 (x_page h 2 n t (-2)).1 t)))
set_option maxRecDepth 100000 in
theorem C_X0_commitTransaction {h : zH} (s : XS h) {a1 a2 : Int} (r1 : -2147483648 ≤ a1 ∧ a1 < 2147483648) (r2 : -2147483648 ≤ a2 ∧ a2 < 2147483648) : kX0_commitTransaction a1 a2 h (fun r h2 => r = (x_com h a1 a2).2 ∧ h2 = (x_com h a1 a2).1) := by
  obtain ⟨p1, p2⟩ := xpage_r s 2 a2 a1 (-2)
  have sm := XS_cms p1 a1
  have sc : XS (x_cm2 (x_page h 2 a2 a1 (-2)).1 a1) := XS_close sm a1 2
  have s4 := XS_48 sc (wr (gs (x_cm2 (x_page h 2 a2 a1 (-2)).1 a1) 48 + 1))
  have q3 := (xck_r s4).2.2
  apply eX0_commitTransaction
  unfold x_com
  refine zx_iload_n (pc := 0) dX0_commitTransaction_0 rfl rfl ?_
  refine zx_if_ne (pc := 1) (tgt := 15) dX0_commitTransaction_1 (by decide) (fun o => by first | exact o.1 _ (by decide) | exact o.2 _ _ | omega) (fun c1 => ?_) (fun c1 => ?_)
  · skip
    rw [ifp_f c1]
    refine zx_aload_n (pc := 15) dX0_commitTransaction_15 rfl rfl ?_
    refine zx_iconst (pc := 16) dX0_commitTransaction_16 ?_
    refine zx_iload_n (pc := 17) dX0_commitTransaction_17 rfl rfl ?_
    refine zx_iload_n (pc := 18) dX0_commitTransaction_18 rfl rfl ?_
    refine zx_bipush (pc := 19) dX0_commitTransaction_19 (by decide +kernel) ?_
    refine zi_X0_177 (pc := 21) dX0_commitTransaction_21 (C_X0_program s (by decide) r2 r1 (by decide)) (by decide) (Nat.le_of_ble_eq_true rfl) (fun z21 h21 u21 v21 q21 => ?_)
    obtain ⟨rfl, e21⟩ := q21
    rw [e21]
    clear e21 h21
    refine zx_if_ge (pc := 24) (tgt := 29) dX0_commitTransaction_24 (by decide) (fun o => by first | exact o.1 _ (by decide) | exact o.2 _ _ | omega) (fun c24 => ?_) (fun c24 => ?_)
    · skip
      rw [ifp_f (by omega)]
      refine zx_aload_n (pc := 29) dX0_commitTransaction_29 rfl rfl ?_
      refine zg_X0_28 (pc := 30) dX0_commitTransaction_30 ?_
      refine zx_iload_n (pc := 33) dX0_commitTransaction_33 rfl rfl ?_
      refine zi_X0_193 (pc := 34) dX0_commitTransaction_34 (C_X4_commitShadows p1.2.2.1 r1) (by decide) (Nat.le_of_ble_eq_true rfl) (fun h34 q34 => ?_)
      rw [q34]
      clear q34 h34
      refine zx_aload_n (pc := 37) dX0_commitTransaction_37 rfl rfl ?_
      refine zg_X0_21 (pc := 38) dX0_commitTransaction_38 ?_
      refine zx_iload_n (pc := 41) dX0_commitTransaction_41 rfl rfl ?_
      refine zx_iconst (pc := 42) dX0_commitTransaction_42 ?_
      refine zi_X0_190 (pc := 43) dX0_commitTransaction_43 (C_X3_close sm.2.2.2.1 r1 (by decide)) (by decide) (Nat.le_of_ble_eq_true rfl) (fun h43 q43 => ?_)
      rw [q43]
      clear q43 h43
      refine zx_aload_n (pc := 46) dX0_commitTransaction_46 rfl rfl ?_
      refine zx_dup (pc := 47) dX0_commitTransaction_47 rfl ?_
      refine zg_X0_63 (pc := 48) dX0_commitTransaction_48 ?_
      refine zx_iconst (pc := 51) dX0_commitTransaction_51 ?_
      refine zx_iadd (pc := 52) dX0_commitTransaction_52 ?_
      refine zx_wr ?_
      refine zp_X0_63 (pc := 53) dX0_commitTransaction_53 (fun _ => wr_rng _) ?_
      refine zx_aload_n (pc := 56) dX0_commitTransaction_56 rfl rfl ?_
      refine zg_X0_63 (pc := 57) dX0_commitTransaction_57 ?_
      refine zx_aload_n (pc := 60) dX0_commitTransaction_60 rfl rfl ?_
      refine zg_X0_60 (pc := 61) dX0_commitTransaction_61 ?_
      refine zx_icmp_lt (pc := 64) (tgt := 74) dX0_commitTransaction_64 (by decide) (fun _ => wr_rng _) (fun o => o.1 47 (by decide)) (fun c64 => ?_) (fun c64 => ?_)
      · skip
        have em := xcc_t (h := x_cm2 (x_page h 2 a2 a1 (-2)).1 a1) c64
        rw [em]
        refine zx_iconst (pc := 74) dX0_commitTransaction_74 ?_
        refine zx_goto (pc := 75) (tgt := 79) dX0_commitTransaction_75 (by decide) ?_
        refine zx_zret (pc := 79) dX0_commitTransaction_79 (by omega) ?_
        first
        | exact ⟨rfl, rfl⟩
        | (refine ⟨?_, rfl⟩; exact c71.symm)
        | exact ⟨by omega, rfl⟩
      · skip
        have em := xcc_f (h := x_cm2 (x_page h 2 a2 a1 (-2)).1 a1) c64
        rw [em]
        refine zx_aload_n (pc := 67) dX0_commitTransaction_67 rfl rfl ?_
        refine zi_X0_187 (pc := 68) dX0_commitTransaction_68 (C_X0_makeCheckpoint s4) (by decide) (Nat.le_of_ble_eq_true rfl) (fun z68 h68 u68 v68 q68 => ?_)
        obtain ⟨rfl, e68⟩ := q68
        rw [e68]
        clear e68 h68
        refine zx_if_eq (pc := 71) (tgt := 78) dX0_commitTransaction_71 (by decide) (fun o => by first | exact o.1 _ (by decide) | exact o.2 _ _ | omega) (fun c71 => ?_) (fun c71 => ?_)
        · skip
          try replace c71 := b2i_0.mp c71
          refine zx_iconst (pc := 78) dX0_commitTransaction_78 ?_
          refine zx_zret (pc := 79) dX0_commitTransaction_79 (by omega) ?_
          first
          | exact ⟨rfl, rfl⟩
          | (refine ⟨?_, rfl⟩; exact c71.symm)
          | exact ⟨by omega, rfl⟩
        · skip
          try replace c71 := b2i_n0.mp c71
          have c72 : (x_ck (ps (x_cm2 (x_page h 2 a2 a1 (-2)).1 a1) 48 (wr (gs (x_cm2 (x_page h 2 a2 a1 (-2)).1 a1) 48 + 1)))).2 ≠ 0 := c71
          refine zx_iconst (pc := 74) dX0_commitTransaction_74 ?_
          refine zx_goto (pc := 75) (tgt := 79) dX0_commitTransaction_75 (by decide) ?_
          refine zx_zret (pc := 79) dX0_commitTransaction_79 (by omega) ?_
          first
          | exact ⟨rfl, rfl⟩
          | (refine ⟨?_, rfl⟩; exact c71.symm)
          | exact ⟨by omega, rfl⟩
    · skip
      rw [ifp_t (by omega)]
      refine zx_iconst (pc := 27) dX0_commitTransaction_27 ?_
      refine zx_zret (pc := 28) dX0_commitTransaction_28 (by omega) ?_
      exact ⟨rfl, rfl⟩
  · skip
    rw [ifp_t c1]
    refine zx_aload_n (pc := 4) dX0_commitTransaction_4 rfl rfl ?_
    refine zg_X0_21 (pc := 5) dX0_commitTransaction_5 ?_
    refine zx_iload_n (pc := 8) dX0_commitTransaction_8 rfl rfl ?_
    refine zx_iconst (pc := 9) dX0_commitTransaction_9 ?_
    refine zi_X0_190 (pc := 10) dX0_commitTransaction_10 (C_X3_close s.2.2.2.1 r1 (by decide)) (by decide) (Nat.le_of_ble_eq_true rfl) (fun h10 q10 => ?_)
    rw [q10]
    clear q10 h10
    refine zx_iconst (pc := 13) dX0_commitTransaction_13 ?_
    refine zx_zret (pc := 14) dX0_commitTransaction_14 (by omega) ?_
    exact ⟨rfl, rfl⟩

