/-! the class: collecting, making room, programming: what they make, and contracts -/
theorem x_prog_cases (h : zH) (b k ix g v : Int) : (x_prog h b k ix g v = (h, -1)) ∨ ((xBlk h b ∧ ga h 18 b < gs h 71) ∧ (xOK h ∧ x_prog h b k ix g v = (x_progOk (x_arm (pa h 18 b (ga h 18 b + 1))) (b * gs h 71 + ga h 18 b) k ix g v, b * gs h 71 + ga h 18 b) ∨ ¬ xOK h ∧ x_prog h b k ix g v = (x_clear (x_arm (pa h 18 b (ga h 18 b + 1))) (b * gs h 71 + ga h 18 b) 5, -1))) := by
  unfold x_prog
  rcases Classical.em (xBlk h b ∧ ga h 18 b < gs h 71) with c | c
  · rw [ifp_t c]
    right
    refine ⟨c, ?_⟩
    rcases Classical.em (xOK h) with d | d
    · rw [ifp_t d]; exact Or.inl ⟨d, rfl⟩
    · rw [ifp_f d]; exact Or.inr ⟨d, rfl⟩
  · rw [ifp_f c]; exact Or.inl rfl
theorem gs_xprog (h : zH) (b k ix g v : Int) (j : Nat) (hj : j ≠ 73 ∧ j ≠ 74 ∧ j ≠ 77) : gs (x_prog h b k ix g v).1 j = gs h j := by
  rcases x_prog_cases h b k ix g v with e | ⟨_, ⟨_, e⟩ | ⟨_, e⟩⟩
  · rw [e]
  · rw [e]
    simp only [x_progOk, gs_pa, gs_ps]
    rw [if_neg hj.2.1, if_neg hj.1, gs_xarm _ _ hj.2.2, gs_pa]
  · rw [e]
    simp only [x_clear, gs_pa]
    rw [gs_xarm _ _ hj.2.2, gs_pa]
theorem xarm_77 {h : zH} (ha : 0 ≤ gs h 77) : 0 ≤ gs (x_arm h) 77 := by
  unfold x_arm
  rcases Classical.em (gs h 77 = 0) with c | c
  · rw [ifp_t c]; exact ha
  · rw [ifp_f c]
    show 0 ≤ gs h 77 - 1
    omega
theorem xprog_77 {h : zH} (ha : 0 ≤ gs h 77) (b k ix g v : Int) : 0 ≤ gs (x_prog h b k ix g v).1 77 := by
  rcases x_prog_cases h b k ix g v with e | ⟨_, ⟨_, e⟩ | ⟨_, e⟩⟩
  · rw [e]; exact ha
  · rw [e]
    exact xarm_77 (h := pa h 18 b (ga h 18 b + 1)) ha
  · rw [e]
    exact xarm_77 (h := pa h 18 b (ga h 18 b + 1)) ha
theorem ga_xprog_o (h : zH) (b k ix g v : Int) (c : Nat) (i : Int) (hc : c ≠ 10 ∧ c ≠ 11 ∧ c ≠ 12 ∧ c ≠ 13 ∧ c ≠ 14 ∧ c ≠ 15 ∧ c ≠ 17 ∧ c ≠ 18) : ga (x_prog h b k ix g v).1 c i = ga h c i := by
  rcases x_prog_cases h b k ix g v with e | ⟨_, ⟨_, e⟩ | ⟨_, e⟩⟩
  · rw [e]
  · rw [e]
    simp only [x_progOk, ga_pa, ga_ps, ga_xarm]
    simp [hc]
  · rw [e]
    simp only [x_clear, ga_pa, ga_xarm]
    simp [hc]
theorem ga_xprog_18 (h : zH) (b k ix g v : Int) (i : Int) : ga (x_prog h b k ix g v).1 18 i = ga h 18 i ∨ (i = b ∧ ga h 18 b < gs h 71 ∧ ga (x_prog h b k ix g v).1 18 i = ga h 18 b + 1) := by
  rcases x_prog_cases h b k ix g v with e | ⟨c, ⟨_, e⟩ | ⟨_, e⟩⟩
  · rw [e]; exact Or.inl rfl
  · rw [e]
    have e2 : ga (x_progOk (x_arm (pa h 18 b (ga h 18 b + 1))) (b * gs h 71 + ga h 18 b) k ix g v) 18 i = ga (pa h 18 b (ga h 18 b + 1)) 18 i := by
      simp only [x_progOk, ga_pa, ga_ps, ga_xarm]
      simp
    show ga (x_progOk _ _ _ _ _ _) 18 i = _ ∨ _
    rw [e2, ga_pa]
    by_cases q : i = b
    · rw [if_pos ⟨rfl, q⟩]; exact Or.inr ⟨q, c.2, rfl⟩
    · rw [if_neg (fun z => q z.2)]; exact Or.inl rfl
  · rw [e]
    have e2 : ga (x_clear (x_arm (pa h 18 b (ga h 18 b + 1))) (b * gs h 71 + ga h 18 b) 5) 18 i = ga (pa h 18 b (ga h 18 b + 1)) 18 i := by
      simp only [x_clear, ga_pa, ga_xarm]
      simp
    show ga (x_clear _ _ _) 18 i = _ ∨ _
    rw [e2, ga_pa]
    by_cases q : i = b
    · rw [if_pos ⟨rfl, q⟩]; exact Or.inr ⟨q, c.2, rfl⟩
    · rw [if_neg (fun z => q z.2)]; exact Or.inl rfl
theorem XS_xprog {h : zH} (s : XS h) (b k ix g v : Int) : XS (x_prog h b k ix g v).1 := by
  have e70 := gs_xprog h b k ix g v 70 (by decide)
  have e71 := gs_xprog h b k ix g v 71 (by decide)
  refine XS_c s e70 e71 (gs_xprog _ _ _ _ _ _ _ (by decide)) (gs_xprog _ _ _ _ _ _ _ (by decide)) (gs_xprog _ _ _ _ _ _ _ (by decide)) (gs_xprog _ _ _ _ _ _ _ (by decide)) (gs_xprog _ _ _ _ _ _ _ (by decide)) (xprog_77 s.2.2.2.2.2.1 _ _ _ _ _) (gs_xprog _ _ _ _ _ _ _ (by decide)) ?_
  intro c c1 c2
  rw [e70] at c2
  rw [e71]
  have q := s.2.1 c c1 c2
  rcases ga_xprog_18 h b k ix g v c with e | ⟨e1, e2, e3⟩
  · rw [e]; exact q
  · rw [e3]
    rw [e1] at q
    omega
theorem xprog_r {h : zH} (hb : XB h) (hu : XU h) (b k ix g v : Int) : (x_prog h b k ix g v).2 = -1 ∨ 0 ≤ (x_prog h b k ix g v).2 ∧ (x_prog h b k ix g v).2 < gs h 72 := by
  rcases x_prog_cases h b k ix g v with e | ⟨c, ⟨_, e⟩ | ⟨_, e⟩⟩
  · rw [e]; exact Or.inl rfl
  · rw [e]
    right
    have p := xb_blk hb c.1.1 c.1.2
    have u := hu b c.1.1 c.1.2
    have c2 := c.2
    show 0 ≤ b * gs h 71 + ga h 18 b ∧ b * gs h 71 + ga h 18 b < gs h 72
    omega
  · rw [e]; exact Or.inl rfl
theorem gs_xmkcopy (h : zH) (p f : Int) (j : Nat) (hj : j ≠ 76) : gs (x_mkcopy h p f) j = gs h j := by
  unfold x_mkcopy
  rw [gs_if]
  simp only [x_mkc, gs_ps, gs_pa, gs_cp8]
  rw [if_neg hj, ifp_same]
theorem ga_xmkcopy_o (h : zH) (p f : Int) (c : Nat) (i : Int) (hc : c ≠ 13 ∧ c ≠ 16 ∧ c ≠ 17) : ga (x_mkcopy h p f) c i = ga h c i := by
  unfold x_mkcopy
  rw [ga_if]
  simp only [x_mkc, ga_ps, ga_pa, ga_cp8]
  rw [if_neg (fun z => hc.2.2 z.1), if_neg (fun z => hc.2.1 z.1), if_neg (fun z => hc.1 z.1), ifp_same]
theorem XS_xmkcopy {h : zH} (s : XS h) (p f : Int) : XS (x_mkcopy h p f) := by
  have e70 := gs_xmkcopy h p f 70 (by decide)
  have e71 := gs_xmkcopy h p f 71 (by decide)
  refine XS_c s e70 e71 (gs_xmkcopy _ _ _ _ (by decide)) (gs_xmkcopy _ _ _ _ (by decide)) (gs_xmkcopy _ _ _ _ (by decide)) (gs_xmkcopy _ _ _ _ (by decide)) (gs_xmkcopy _ _ _ _ (by decide)) (by rw [gs_xmkcopy _ _ _ _ (by decide)]; exact s.2.2.2.2.2.1) (gs_xmkcopy _ _ _ _ (by decide)) ?_
  exact XU_c s.2.1 e70 e71 (fun c => ga_xmkcopy_o _ _ _ _ _ (by decide))
theorem gs_xerase (h : zH) (b : Int) (j : Nat) (hj : j ≠ 75 ∧ j ≠ 77) : gs (x_erase h b) j = gs h j := by
  have e : gs (x_erase0 h b) j = gs h j := by
    unfold x_erase0
    rw [gs_if]
    simp only [gs_ps, gs_pa, gs_xclrR]
    rw [if_neg hj.1, gs_xarm _ _ hj.2, ifp_same]
  unfold x_erase
  rw [gs_if, e, ifp_same]
theorem ga_xerase_o (h : zH) (b : Int) (c : Nat) (i : Int) (hc : c ≠ 10 ∧ c ≠ 11 ∧ c ≠ 12 ∧ c ≠ 13 ∧ c ≠ 14 ∧ c ≠ 15 ∧ c ≠ 17 ∧ c ≠ 18 ∧ c ≠ 19) : ga (x_erase h b) c i = ga h c i := by
  have e : ga (x_erase0 h b) c i = ga h c i := by
    unfold x_erase0
    rw [ga_if]
    simp only [ga_ps, ga_pa]
    rw [if_neg (fun z => hc.2.2.2.2.2.2.2.2 z.1), if_neg (fun z => hc.2.2.2.2.2.2.2.1 z.1), if_neg (fun z => hc.2.2.2.2.2.2.2.1 z.1), ga_xclrR_o _ _ _ _ _ _ (by omega), ga_xclrR_o _ _ _ _ _ _ (by omega), ga_xarm, ifp_same]
  unfold x_erase
  rw [ga_if, e, ifp_same]
theorem XS_xerase {h : zH} (s : XS h) (b : Int) : XS (x_erase h b) := by
  have e70 := gs_xerase h b 70 (by decide)
  have e71 := gs_xerase h b 71 (by decide)
  have b3 := s.1.2.1
  refine XS_c s e70 e71 (gs_xerase _ _ _ (by decide)) (gs_xerase _ _ _ (by decide)) (gs_xerase _ _ _ (by decide)) (gs_xerase _ _ _ (by decide)) (gs_xerase _ _ _ (by decide)) ?_ (gs_xerase _ _ _ (by decide)) ?_
  · unfold x_erase
    rw [gs_if]
    refine ifp_i (r := fun z => 0 ≤ z) ?_ s.2.2.2.2.2.1
    unfold x_erase0
    rw [gs_if]
    exact ifp_i (r := fun z => 0 ≤ z) (xarm_77 s.2.2.2.2.2.1) (xarm_77 s.2.2.2.2.2.1)
  · intro c c1 c2
    rw [e70] at c2
    rw [e71]
    have q := s.2.1 c c1 c2
    unfold x_erase
    rw [ga_if]
    refine ifp_i (r := fun z => 0 ≤ z ∧ z ≤ gs h 71) ?_ q
    unfold x_erase0
    rw [ga_if]
    refine ifp_i (r := fun z => 0 ≤ z ∧ z ≤ gs h 71) ?_ ?_
    · simp only [ga_ps, ga_pa]
      rw [if_neg (fun z => absurd z.1 (by decide))]
      by_cases w : c = b
      · rw [if_pos (by simpa using w)]; omega
      · rw [if_neg (fun z => w z.2), ga_xclrR_o _ _ _ _ _ _ (by decide), ga_xarm]; exact q
    · rw [ga_pa]
      by_cases w : c = b
      · rw [if_pos ⟨rfl, w⟩]; omega
      · rw [if_neg (fun z => w z.2), ga_xclrR_o _ _ _ _ _ _ (by decide), ga_xarm]; exact q
theorem XS_xcl {h : zH} (s : XS h) : XS (x_cl h) := XS_c s rfl rfl rfl rfl rfl rfl rfl s.2.2.2.2.2.1 rfl (XU_c s.2.1 rfl rfl (fun c => ga_xcln_o _ _ _ _ (by decide)))
theorem XS_act {h : zH} (s : XS h) {b : Int} (b1 : -1 ≤ b) (b2 : b < gs h 70) : XS (ps h 46 b) := by
  obtain ⟨s1, s2, s3, s4, s5, s6, s7, s8⟩ := s
  exact ⟨s1, s2, s3, s4, s5, s6, ⟨b1, b2⟩, s8⟩
theorem XS_lose {h : zH} (s : XS h) : XS (x_lose h) := by
  obtain ⟨s1, s2, s3, s4, s5, s6, s7, s8⟩ := s
  have b0 := s1.1.1
  refine ⟨s1, ?_, s3, s4, ⟨Int.le_refl _, by show (0 : Int) < 16; decide⟩, s6, ⟨Int.le_refl _, ?_⟩, s8⟩
  · exact XU_c s2 rfl rfl (fun c => by simp only [x_lose, x_forget, ga_ps, ga_prr]; rw [if_neg (fun z => absurd z.1 (by decide)), if_neg (fun z => absurd z.1 (by decide)), if_neg (fun z => absurd z.1 (by decide))])
  · show -1 < gs h 70
    omega
noncomputable def x_cpy (h : zH) (f : Int) : zH × Int := x_prog h (gs h 46) (ga h 10 f) (ga h 11 f) (ga h 12 f) (ga h 15 f)
noncomputable def x_collL : Nat → zH → Int → zH × Int
  | 0, h, _ => (h, 1)
  | n + 1, h, f => ifp (xLive h f) (ifp ((x_cpy h f).2 < 0) ((x_cpy h f).1, 0) (x_collL n (x_mkcopy (x_cpy h f).1 (x_cpy h f).2 f) (f + 1))) (x_collL n h (f + 1))
noncomputable def x_collect (h : zH) (b : Int) : zH × Int := ifp ((x_collL (gs h 71).toNat h (b * gs h 71)).2 = 1) (x_erase (x_collL (gs h 71).toNat h (b * gs h 71)).1 b, b2i (xOK (x_collL (gs h 71).toNat h (b * gs h 71)).1)) (x_collL (gs h 71).toNat h (b * gs h 71))
theorem xcollL_r : ∀ (n : Nat) (h : zH) (f : Int), XS h → XS (x_collL n h f).1 ∧ gs (x_collL n h f).1 70 = gs h 70 ∧ gs (x_collL n h f).1 71 = gs h 71 ∧ gs (x_collL n h f).1 46 = gs h 46 ∧ ((x_collL n h f).2 = 0 ∨ (x_collL n h f).2 = 1)
  | 0, h, _, s => ⟨s, rfl, rfl, rfl, Or.inr rfl⟩
  | n + 1, h, f, s => by
    rw [x_collL]
    rcases Classical.em (xLive h f) with c | c
    · rw [ifp_t c]
      have s1 : XS (x_cpy h f).1 := XS_xprog s _ _ _ _ _
      have e1 (k : Nat) (hk : k ≠ 73 ∧ k ≠ 74 ∧ k ≠ 77) : gs (x_cpy h f).1 k = gs h k := gs_xprog _ _ _ _ _ _ _ hk
      rcases Classical.em ((x_cpy h f).2 < 0) with d | d
      · rw [ifp_t d]
        exact ⟨s1, e1 70 (by decide), e1 71 (by decide), e1 46 (by decide), Or.inl rfl⟩
      · rw [ifp_f d]
        obtain ⟨t1, t2, t3, t4, t5⟩ := xcollL_r n _ (f + 1) (XS_xmkcopy s1 (x_cpy h f).2 f)
        refine ⟨t1, ?_, ?_, ?_, t5⟩
        · rw [t2, gs_xmkcopy _ _ _ _ (by decide), e1 70 (by decide)]
        · rw [t3, gs_xmkcopy _ _ _ _ (by decide), e1 71 (by decide)]
        · rw [t4, gs_xmkcopy _ _ _ _ (by decide), e1 46 (by decide)]
    · rw [ifp_f c]
      exact xcollL_r n h (f + 1) s
theorem xcollect_r {h : zH} (s : XS h) (b : Int) : XS (x_collect h b).1 ∧ gs (x_collect h b).1 70 = gs h 70 ∧ gs (x_collect h b).1 71 = gs h 71 ∧ gs (x_collect h b).1 46 = gs h 46 ∧ ((x_collect h b).2 = 0 ∨ (x_collect h b).2 = 1) := by
  obtain ⟨t1, t2, t3, t4, t5⟩ := xcollL_r (gs h 71).toNat h (b * gs h 71) s
  unfold x_collect
  rcases Classical.em ((x_collL (gs h 71).toNat h (b * gs h 71)).2 = 1) with c | c
  · rw [ifp_t c]
    exact ⟨XS_xerase t1 b, (gs_xerase _ b 70 (by decide)).trans t2, (gs_xerase _ b 71 (by decide)).trans t3, (gs_xerase _ b 46 (by decide)).trans t4, b2i_01 _⟩
  · rw [ifp_f c]
    exact ⟨t1, t2, t3, t4, t5⟩
set_option maxRecDepth 100000 in
theorem L_X0_collect {b : Int} (Q : Int → zH → Prop) : ∀ (n : Nat) (h : zH) (i : Int), XS h → 0 ≤ b → b < gs h 70 → 0 ≤ i → i + n = gs h 71 → ((x_collL n h (b * gs h 71 + i)).2 = 0 → Q 0 (x_collL n h (b * gs h 71 + i)).1) → (∀ hN j, x_collL n h (b * gs h 71 + i) = (hN, 1) → zX cX zNo RX0 cX0_collect 5 (some .boolean) rX0_collect 105 [some (.ref 2), some (.int (iI b)), some (.int (iI j)), none, none] [] hN (zEi cX Q)) → zX cX zNo RX0 cX0_collect 5 (some .boolean) rX0_collect 2 [some (.ref 2), some (.int (iI b)), some (.int (iI i)), none, none] [] h (zEi cX Q) := by
  intro n
  induction n with
  | zero =>
    intro h i s b1 b2 i1 i2 k0 k1
    have b3 := s.1.2.1.2
    refine zx_iload_n (pc := 2) dX0_collect_2 rfl rfl ?_
    refine zx_aload_n (pc := 3) dX0_collect_3 rfl rfl ?_
    refine zg_X0_12 (pc := 4) dX0_collect_4 ?_
    refine zg_X0_115 (pc := 7) dX0_collect_7 ?_
    refine zx_icmp_ge (pc := 10) (tgt := 105) dX0_collect_10 (by decide) (fun o => by first | exact o.1 _ (by decide) | exact o.2 _ _ | omega) (fun o => by first | exact o.1 _ (by decide) | exact o.2 _ _ | omega) (fun c10 => ?_) (fun c10 => absurd c10 (by omega))
    exact k1 h i rfl
  | succ n ih =>
    intro h i s b1 b2 i1 i2 k0 k1
    have b3 := s.1.2.1.2
    have p := xb_blk s.1 b1 b2
    have b4 := s.1.1.2
    have act := s.2.2.2.2.2.2.1
    have s1 : XS (x_cpy h (b * gs h 71 + i)).1 := XS_xprog s _ _ _ _ _
    have r1 : (x_cpy h (b * gs h 71 + i)).2 = -1 ∨ 0 ≤ (x_cpy h (b * gs h 71 + i)).2 ∧ (x_cpy h (b * gs h 71 + i)).2 < gs h 72 := xprog_r s.1 s.2.1 _ _ _ _ _
    have e1 (k : Nat) (hk : k ≠ 73 ∧ k ≠ 74 ∧ k ≠ 77) : gs (x_cpy h (b * gs h 71 + i)).1 k = gs h k := gs_xprog _ _ _ _ _ _ _ hk
    have ex : x_prog h (gs h 46) (ga h 10 (b * gs h 71 + i)) (ga h 11 (b * gs h 71 + i)) (ga h 12 (b * gs h 71 + i)) (ga h 15 (b * gs h 71 + i)) = x_cpy h (b * gs h 71 + i) := rfl
    have ea : b * gs h 71 + (i + 1) = b * gs h 71 + i + 1 := by omega
    rw [x_collL] at k0 k1
    refine zx_ok (fun ok => ?_)
    refine zx_iload_n (pc := 2) dX0_collect_2 rfl rfl ?_
    refine zx_aload_n (pc := 3) dX0_collect_3 rfl rfl ?_
    refine zg_X0_12 (pc := 4) dX0_collect_4 ?_
    refine zg_X0_115 (pc := 7) dX0_collect_7 ?_
    refine zx_icmp_ge (pc := 10) (tgt := 105) dX0_collect_10 (by decide) (fun o => by first | exact o.1 _ (by decide) | exact o.2 _ _ | omega) (fun o => by first | exact o.1 _ (by decide) | exact o.2 _ _ | omega) (fun c10 => absurd c10 (by omega)) (fun c10 => ?_)
    refine zx_iload_n (pc := 13) dX0_collect_13 rfl rfl ?_
    refine zx_aload_n (pc := 14) dX0_collect_14 rfl rfl ?_
    refine zg_X0_12 (pc := 15) dX0_collect_15 ?_
    refine zg_X0_115 (pc := 18) dX0_collect_18 ?_
    refine zx_imul (pc := 21) dX0_collect_21 ?_
    refine zx_iload_n (pc := 22) dX0_collect_22 rfl rfl ?_
    refine zx_iadd (pc := 23) dX0_collect_23 ?_
    refine zx_istore_n (pc := 24) dX0_collect_24 rfl (by decide) rfl ?_
    refine zx_aload_n (pc := 25) dX0_collect_25 rfl rfl ?_
    refine zx_iload_n (pc := 26) dX0_collect_26 rfl rfl ?_
    refine zi_X0_118 (pc := 27) dX0_collect_27 (C_X0_isLive s.1 s.2.2.2.2.1 s.2.2.1 (by omega)) (by decide) (Nat.le_of_ble_eq_true rfl) (fun z27 h27 u27 v27 q27 => ?_)
    obtain ⟨rfl, e27⟩ := q27
    rw [e27]
    clear e27 h27
    refine zx_if_eq (pc := 30) (tgt := 99) dX0_collect_30 (by decide) (fun o => by first | exact o.1 _ (by decide) | exact o.2 _ _ | omega) (fun c30 => ?_) (fun c30 => ?_)
    · skip
      try replace c30 := b2i_0.mp c30
      rw [ifp_f c30] at k0 k1
      refine zx_iinc (pc := 99) dX0_collect_99 (by decide) rfl rfl ?_
      refine zx_goto (pc := 102) (tgt := 2) dX0_collect_102 (by decide) ?_
      refine zx_sub [true, true, true, false, false] ?_
      dsimp only [zMask, List.set]
      first
      | (have em (k : Nat) (hk : k ≠ 73 ∧ k ≠ 74 ∧ k ≠ 77 ∧ k ≠ 76) : gs (x_mkcopy (x_cpy h (b * gs h 71 + i)).1 (x_cpy h (b * gs h 71 + i)).2 (b * gs h 71 + i)) k = gs h k := by
           rw [gs_xmkcopy _ _ _ _ hk.2.2.2, e1 k ⟨hk.1, hk.2.1, hk.2.2.1⟩]
         exact ih _ (i + 1) (XS_xmkcopy s1 _ _) b1 (by rw [em 70 (by decide)]; exact b2) (by omega) (by rw [em 71 (by decide)]; omega) (by rw [em 71 (by decide), ea]; exact k0) (by rw [em 71 (by decide), ea]; exact k1))
      | exact ih h (i + 1) s b1 b2 (by omega) (by omega) (by rw [ea]; exact k0) (by rw [ea]; exact k1)
    · skip
      try replace c30 := b2i_n0.mp c30
      rw [ifp_t c30] at k0 k1
      refine zx_aload_n (pc := 33) dX0_collect_33 rfl rfl ?_
      refine zg_X0_12 (pc := 34) dX0_collect_34 ?_
      refine zx_aload_n (pc := 37) dX0_collect_37 rfl rfl ?_
      refine zg_X0_43 (pc := 38) dX0_collect_38 ?_
      refine zx_aload_n (pc := 41) dX0_collect_41 rfl rfl ?_
      refine zg_X0_12 (pc := 42) dX0_collect_42 ?_
      refine zg_X0_99 (pc := 45) dX0_collect_45 ?_
      refine zx_iload_n (pc := 48) dX0_collect_48 rfl rfl ?_
      refine zx_iaload (pc := 49) aX1_kind dX0_collect_49 (by omega) (by omega) (by omega) ?_
      refine zx_aload_n (pc := 50) dX0_collect_50 rfl rfl ?_
      refine zg_X0_12 (pc := 51) dX0_collect_51 ?_
      refine zg_X0_102 (pc := 54) dX0_collect_54 ?_
      refine zx_iload_n (pc := 57) dX0_collect_57 rfl rfl ?_
      refine zx_iaload (pc := 58) aX1_index dX0_collect_58 (by omega) (by omega) (by omega) ?_
      refine zx_aload_n (pc := 59) dX0_collect_59 rfl rfl ?_
      refine zg_X0_12 (pc := 60) dX0_collect_60 ?_
      refine zg_X0_112 (pc := 63) dX0_collect_63 ?_
      refine zx_iload_n (pc := 66) dX0_collect_66 rfl rfl ?_
      refine zx_iaload (pc := 67) aX1_group dX0_collect_67 (by omega) (by omega) (by omega) ?_
      refine zx_aload_n (pc := 68) dX0_collect_68 rfl rfl ?_
      refine zg_X0_12 (pc := 69) dX0_collect_69 ?_
      refine zg_X0_135 (pc := 72) dX0_collect_72 ?_
      refine zx_iload_n (pc := 75) dX0_collect_75 rfl rfl ?_
      refine zx_iaload (pc := 76) aX1_value dX0_collect_76 (by omega) (by omega) (by omega) ?_
      refine zi_X0_146 (pc := 77) dX0_collect_77 (C_X1_program s.1 s.2.2.2.2.2.1 (by omega) (fun z => s.2.1 _ z.1 z.2) (ok.2 10 _) (ok.2 11 _) (ok.2 12 _) (ok.2 15 _)) (by decide) (Nat.le_of_ble_eq_true rfl) (fun z77 h77 u77 v77 q77 => ?_)
      obtain ⟨rfl, e77⟩ := q77
      rw [e77]
      clear e77 h77
      rw [ex] at u77 v77
      rw [ex]
      refine zx_istore (pc := 80) dX0_collect_80 (by decide) rfl ?_
      refine zx_iload (pc := 82) dX0_collect_82 rfl ?_
      refine zx_if_ge (pc := 84) (tgt := 89) dX0_collect_84 (by decide) (fun o => by first | exact o.1 _ (by decide) | exact o.2 _ _ | omega) (fun c84 => ?_) (fun c84 => ?_)
      · skip
        rw [ifp_f (by omega)] at k0 k1
        refine zx_aload_n (pc := 89) dX0_collect_89 rfl rfl ?_
        refine zg_X0_12 (pc := 90) dX0_collect_90 ?_
        refine zx_iload (pc := 93) dX0_collect_93 rfl ?_
        refine zx_iload_n (pc := 95) dX0_collect_95 rfl rfl ?_
        refine zi_X0_171 (pc := 96) dX0_collect_96 (C_X1_makeCopy s1.1 (by omega) (by omega)) (by decide) (Nat.le_of_ble_eq_true rfl) (fun h96 q96 => ?_)
        rw [q96]
        clear q96 h96
        refine zx_iinc (pc := 99) dX0_collect_99 (by decide) rfl rfl ?_
        refine zx_goto (pc := 102) (tgt := 2) dX0_collect_102 (by decide) ?_
        refine zx_sub [true, true, true, false, false] ?_
        dsimp only [zMask, List.set]
        first
        | (have em (k : Nat) (hk : k ≠ 73 ∧ k ≠ 74 ∧ k ≠ 77 ∧ k ≠ 76) : gs (x_mkcopy (x_cpy h (b * gs h 71 + i)).1 (x_cpy h (b * gs h 71 + i)).2 (b * gs h 71 + i)) k = gs h k := by
             rw [gs_xmkcopy _ _ _ _ hk.2.2.2, e1 k ⟨hk.1, hk.2.1, hk.2.2.1⟩]
           exact ih _ (i + 1) (XS_xmkcopy s1 _ _) b1 (by rw [em 70 (by decide)]; exact b2) (by omega) (by rw [em 71 (by decide)]; omega) (by rw [em 71 (by decide), ea]; exact k0) (by rw [em 71 (by decide), ea]; exact k1))
        | exact ih h (i + 1) s b1 b2 (by omega) (by omega) (by rw [ea]; exact k0) (by rw [ea]; exact k1)
      · skip
        rw [ifp_t (by omega)] at k0
        refine zx_iconst (pc := 87) dX0_collect_87 ?_
        refine zx_zret (pc := 88) dX0_collect_88 (by omega) ?_
        exact k0 rfl
set_option maxRecDepth 100000 in
theorem C_X0_collect {h : zH} (s : XS h) {a1 : Int} (b1 : 0 ≤ a1) (b2 : a1 < gs h 70) : kX0_collect a1 h (fun r h2 => r = (x_collect h a1).2 ∧ h2 = (x_collect h a1).1) := by
  obtain ⟨t1, t2, t3, t4, t5⟩ := xcollL_r (gs h 71).toNat h (a1 * gs h 71) s
  have b3 := s.1.2.1.1
  have b5 := s.1.1.2
  have ea : a1 * gs h 71 + 0 = a1 * gs h 71 := Int.add_zero _
  apply eX0_collect
  refine zx_iconst (pc := 0) dX0_collect_0 ?_
  refine zx_istore_n (pc := 1) dX0_collect_1 rfl (by decide) rfl ?_
  refine L_X0_collect _ (gs h 71).toNat h 0 s b1 b2 (Int.le_refl _) (by omega) (fun z => ?_) (fun hN j e => ?_)
  · rw [ea] at z ⊢
    unfold x_collect
    rw [ifp_f (by omega)]
    exact ⟨z.symm, rfl⟩
  rw [ea] at e
  rw [e] at t1 t2
  have em : x_collect h a1 = (x_erase hN a1, b2i (xOK hN)) := by
    unfold x_collect
    rw [e, ifp_t rfl]
  refine zx_aload_n (pc := 105) dX0_collect_105 rfl rfl ?_
  refine zg_X0_12 (pc := 106) dX0_collect_106 ?_
  refine zx_iload_n (pc := 109) dX0_collect_109 rfl rfl ?_
  refine zi_X0_174 (pc := 110) dX0_collect_110 (C_X1_erase t1.1 t1.2.2.2.2.2.1 (by omega)) (by decide) (Nat.le_of_ble_eq_true rfl) (fun z110 h110 u110 v110 q110 => ?_)
  obtain ⟨rfl, e110⟩ := q110
  rw [e110]
  clear e110 h110
  refine zx_zret (pc := 113) dX0_collect_113 (b2i_01 _) ?_
  rw [em]
  refine ⟨b2i_c ⟨fun z => z ⟨b1, ?_⟩, fun z _ => z⟩, rfl⟩
  show a1 < gs hN 70
  have t2a : gs hN 70 = gs h 70 := t2
  rw [t2a]
  exact b2
noncomputable def x_roomL : Nat → zH → zH × Int
  | 0, h => (h, 1)
  | n + 1, h => ifp (xFreeMany h (gs h 46) < 2) (ifp (xVict (x_cl h) (gs h 46) < 0) (x_cl h, 1) (ifp ((x_collect (x_cl h) (xVict (x_cl h) (gs h 46))).2 = 1) (x_roomL n (x_collect (x_cl h) (xVict (x_cl h) (gs h 46))).1) (x_collect (x_cl h) (xVict (x_cl h) (gs h 46))))) (h, 1)
noncomputable def x_room (h : zH) : zH × Int := ifp (xFblk h (gs h 46) < 0) (ps h 46 (xFblk h (gs h 46)), 0) (x_roomL 2 (ps h 46 (xFblk h (gs h 46))))
theorem xroomL_r : ∀ (n : Nat) (h : zH), XS h → XS (x_roomL n h).1 ∧ gs (x_roomL n h).1 70 = gs h 70 ∧ gs (x_roomL n h).1 71 = gs h 71 ∧ ((x_roomL n h).2 = 0 ∨ (x_roomL n h).2 = 1)
  | 0, h, s => ⟨s, rfl, rfl, Or.inr rfl⟩
  | n + 1, h, s => by
    rw [x_roomL]
    rcases Classical.em (xFreeMany h (gs h 46) < 2) with c | c
    · rw [ifp_t c]
      rcases Classical.em (xVict (x_cl h) (gs h 46) < 0) with d | d
      · rw [ifp_t d]
        exact ⟨XS_xcl s, rfl, rfl, Or.inr rfl⟩
      · rw [ifp_f d]
        obtain ⟨t1, t2, t3, t4, t5⟩ := xcollect_r (XS_xcl s) (xVict (x_cl h) (gs h 46))
        rcases Classical.em ((x_collect (x_cl h) (xVict (x_cl h) (gs h 46))).2 = 1) with e | e
        · rw [ifp_t e]
          obtain ⟨w1, w2, w3, w4⟩ := xroomL_r n _ t1
          exact ⟨w1, by rw [w2, t2]; rfl, by rw [w3, t3]; rfl, w4⟩
        · rw [ifp_f e]
          exact ⟨t1, t2, t3, t5⟩
    · rw [ifp_f c]
      exact ⟨s, rfl, rfl, Or.inr rfl⟩
theorem xFblk_r (h : zH) (hb : XB h) (a : Int) : -1 ≤ xFblk h a ∧ xFblk h a < gs h 70 ∨ xFblk h a = -1 := by
  have q := xFB_r h a (gs h 70).toNat
  have e : xFblk h a = xFB h a (gs h 70).toNat := rfl
  have b := hb.1.1
  omega
theorem XS_fblk {h : zH} (s : XS h) : XS (ps h 46 (xFblk h (gs h 46))) := by
  have q := xFblk_r h s.1 (gs h 46)
  have b := s.1.1.1
  exact XS_act s (by omega) (by omega)
theorem xroom_r {h : zH} (s : XS h) : XS (x_room h).1 ∧ gs (x_room h).1 70 = gs h 70 ∧ gs (x_room h).1 71 = gs h 71 ∧ ((x_room h).2 = 0 ∨ (x_room h).2 = 1) := by
  unfold x_room
  rcases Classical.em (xFblk h (gs h 46) < 0) with c | c
  · rw [ifp_t c]
    exact ⟨XS_fblk s, rfl, rfl, Or.inl rfl⟩
  · rw [ifp_f c]
    obtain ⟨w1, w2, w3, w4⟩ := xroomL_r 2 _ (XS_fblk s)
    exact ⟨w1, w2, w3, w4⟩
theorem xVict_r (h : zH) (hb : XB h) (a : Int) : xVict h a = -1 ∨ 0 ≤ xVict h a ∧ xVict h a < gs h 70 := by
  have q := xCV_r h a (gs h 70).toNat
  have e : xVict h a = xCV h a (gs h 70).toNat := rfl
  have b := hb.1.1
  omega
theorem xFreeMany_r {h : zH} (hb : XB h) (a : Int) : 0 ≤ xFreeMany h a ∧ xFreeMany h a ≤ 32 := by
  have g := cnt_r (xFree h a) 0 (gs h 70).toNat
  have e : xFreeMany h a = cnt (xFree h a) 0 (gs h 70).toNat := rfl
  have := hb.1
  omega
set_option maxRecDepth 100000 in
theorem L_X0_makeRoom (Q : Int → zH → Prop) : ∀ (n : Nat) (h : zH) (i : Int), XS h → 0 ≤ i → i + n = 2 → Q (x_roomL n h).2 (x_roomL n h).1 → zX cX zNo RX0 cX0_makeRoom 3 (some .boolean) rX0_makeRoom 26 [some (.ref 2), some (.int (iI i)), none] [] h (zEi cX Q) := by
  intro n
  induction n with
  | zero =>
    intro h i s i1 i2 hQ
    refine zx_iload_n (pc := 26) dX0_makeRoom_26 rfl rfl ?_
    refine zx_iconst (pc := 27) dX0_makeRoom_27 ?_
    refine zx_icmp_ge (pc := 28) (tgt := 82) dX0_makeRoom_28 (by decide) (fun o => by first | exact o.1 _ (by decide) | exact o.2 _ _ | omega) (fun o => by first | exact o.1 _ (by decide) | exact o.2 _ _ | omega) (fun c28 => ?_) (fun c28 => absurd c28 (by omega))
    refine zx_iconst (pc := 82) dX0_makeRoom_82 ?_
    refine zx_zret (pc := 83) dX0_makeRoom_83 (by omega) ?_
    exact hQ
  | succ n ih =>
    intro h i s i1 i2 hQ
    have act := s.2.2.2.2.2.2.1
    have b5 := s.1.1.2
    have fm := xFreeMany_r s.1 (gs h 46)
    have sc := XS_xcl s
    have ec : gs (x_cl h) 46 = gs h 46 := rfl
    have ec7 : gs (x_cl h) 70 = gs h 70 := rfl
    have vr := xVict_r (x_cl h) sc.1 (gs h 46)
    rw [x_roomL] at hQ
    refine zx_iload_n (pc := 26) dX0_makeRoom_26 rfl rfl ?_
    refine zx_iconst (pc := 27) dX0_makeRoom_27 ?_
    refine zx_icmp_ge (pc := 28) (tgt := 82) dX0_makeRoom_28 (by decide) (fun o => by first | exact o.1 _ (by decide) | exact o.2 _ _ | omega) (fun o => by first | exact o.1 _ (by decide) | exact o.2 _ _ | omega) (fun c28 => absurd c28 (by omega)) (fun c28 => ?_)
    refine zx_aload_n (pc := 31) dX0_makeRoom_31 rfl rfl ?_
    refine zg_X0_12 (pc := 32) dX0_makeRoom_32 ?_
    refine zx_aload_n (pc := 35) dX0_makeRoom_35 rfl rfl ?_
    refine zg_X0_43 (pc := 36) dX0_makeRoom_36 ?_
    refine zi_X0_156 (pc := 39) dX0_makeRoom_39 (C_X1_countFreeBlocks s.1 (by omega)) (by decide) (Nat.le_of_ble_eq_true rfl) (fun z39 h39 u39 v39 q39 => ?_)
    obtain ⟨rfl, e39⟩ := q39
    rw [e39]
    clear e39 h39
    refine zx_iconst (pc := 42) dX0_makeRoom_42 ?_
    refine zx_icmp_ge (pc := 43) (tgt := 82) dX0_makeRoom_43 (by decide) (fun o => by first | exact o.1 _ (by decide) | exact o.2 _ _ | omega) (fun o => by first | exact o.1 _ (by decide) | exact o.2 _ _ | omega) (fun c43 => ?_) (fun c43 => ?_)
    · skip
      rw [ifp_f (by omega)] at hQ
      refine zx_iconst (pc := 82) dX0_makeRoom_82 ?_
      refine zx_zret (pc := 83) dX0_makeRoom_83 (by omega) ?_
      exact hQ
    · skip
      rw [ifp_t (by omega)] at hQ
      refine zx_aload_n (pc := 46) dX0_makeRoom_46 rfl rfl ?_
      refine zi_X0_124 (pc := 47) dX0_makeRoom_47 (C_X0_countLive s) (by decide) (Nat.le_of_ble_eq_true rfl) (fun z47 h47 u47 v47 q47 => ?_)
      obtain ⟨rfl, e47⟩ := q47
      rw [e47]
      clear e47 h47
      refine zx_pop (pc := 50) dX0_makeRoom_50 rfl ?_
      refine zx_aload_n (pc := 51) dX0_makeRoom_51 rfl rfl ?_
      refine zx_aload_n (pc := 52) dX0_makeRoom_52 rfl rfl ?_
      refine zg_X0_43 (pc := 53) dX0_makeRoom_53 ?_
      refine zi_X0_159 (pc := 56) dX0_makeRoom_56 (C_X0_chooseVictim (h := x_cl h) (a1 := gs h 46) sc.1 sc.2.1 (by omega)) (by decide) (Nat.le_of_ble_eq_true rfl) (fun z56 h56 u56 v56 q56 => ?_)
      obtain ⟨rfl, e56⟩ := q56
      rw [e56]
      clear e56 h56
      refine zx_istore_n (pc := 59) dX0_makeRoom_59 rfl (by decide) rfl ?_
      refine zx_iload_n (pc := 60) dX0_makeRoom_60 rfl rfl ?_
      refine zx_if_ge (pc := 61) (tgt := 66) dX0_makeRoom_61 (by decide) (fun o => by first | exact o.1 _ (by decide) | exact o.2 _ _ | omega) (fun c61 => ?_) (fun c61 => ?_)
      · skip
        rw [ifp_f (by omega)] at hQ
        refine zx_aload_n (pc := 66) dX0_makeRoom_66 rfl rfl ?_
        refine zx_iload_n (pc := 67) dX0_makeRoom_67 rfl rfl ?_
        refine zi_X0_162 (pc := 68) dX0_makeRoom_68 (C_X0_collect sc (by omega) (by omega)) (by decide) (Nat.le_of_ble_eq_true rfl) (fun z68 h68 u68 v68 q68 => ?_)
        obtain ⟨rfl, e68⟩ := q68
        rw [e68]
        clear e68 h68
        refine zx_if_ne (pc := 71) (tgt := 76) dX0_makeRoom_71 (by decide) (fun o => by first | exact o.1 _ (by decide) | exact o.2 _ _ | omega) (fun c71 => ?_) (fun c71 => ?_)
        · skip
          try replace c71 := b2i_n0.mp c71
          have t5 := (xcollect_r sc (xVict (x_cl h) (gs h 46))).2.2.2.2
          rw [ifp_t (by omega)] at hQ
          refine zx_iinc (pc := 76) dX0_makeRoom_76 (by decide) rfl rfl ?_
          refine zx_goto (pc := 79) (tgt := 26) dX0_makeRoom_79 (by decide) ?_
          refine zx_sub [true, true, false] ?_
          dsimp only [zMask, List.set]
          exact ih _ (i + 1) (xcollect_r sc _).1 (by omega) (by omega) hQ
        · skip
          try replace c71 := b2i_0.mp c71
          rw [ifp_f (by omega), c71] at hQ
          refine zx_iconst (pc := 74) dX0_makeRoom_74 ?_
          refine zx_zret (pc := 75) dX0_makeRoom_75 (by omega) ?_
          exact hQ
      · skip
        rw [ifp_t (by omega)] at hQ
        refine zx_iconst (pc := 64) dX0_makeRoom_64 ?_
        refine zx_zret (pc := 65) dX0_makeRoom_65 (by omega) ?_
        exact hQ
set_option maxRecDepth 100000 in
theorem C_X0_makeRoom {h : zH} (s : XS h) : kX0_makeRoom h (fun r h2 => r = (x_room h).2 ∧ h2 = (x_room h).1) := by
  have act := s.2.2.2.2.2.2.1
  have b5 := s.1.1.2
  have fr := xFblk_r h s.1 (gs h 46)
  have e46 : gs (ps h 46 (xFblk h (gs h 46))) 46 = xFblk h (gs h 46) := rfl
  apply eX0_makeRoom
  unfold x_room
  refine zx_aload_n (pc := 0) dX0_makeRoom_0 rfl rfl ?_
  refine zx_aload_n (pc := 1) dX0_makeRoom_1 rfl rfl ?_
  refine zg_X0_12 (pc := 2) dX0_makeRoom_2 ?_
  refine zx_aload_n (pc := 5) dX0_makeRoom_5 rfl rfl ?_
  refine zg_X0_43 (pc := 6) dX0_makeRoom_6 ?_
  refine zi_X0_153 (pc := 9) dX0_makeRoom_9 (C_X1_leastWornFreeBlock s.1 (by omega)) (by decide) (Nat.le_of_ble_eq_true rfl) (fun z9 h9 u9 v9 q9 => ?_)
  obtain ⟨rfl, e9⟩ := q9
  rw [e9]
  clear e9 h9
  refine zp_X0_43 (pc := 12) dX0_makeRoom_12 (fun _ => ⟨by omega, by omega⟩) ?_
  refine zx_aload_n (pc := 15) dX0_makeRoom_15 rfl rfl ?_
  refine zg_X0_43 (pc := 16) dX0_makeRoom_16 ?_
  refine zx_if_ge (pc := 19) (tgt := 24) dX0_makeRoom_19 (by decide) (fun _ => by rw [e46]; omega) (fun c19 => ?_) (fun c19 => ?_)
  · skip
    rw [e46] at c19
    rw [ifp_f (by omega)]
    refine zx_iconst (pc := 24) dX0_makeRoom_24 ?_
    refine zx_istore_n (pc := 25) dX0_makeRoom_25 rfl (by decide) rfl ?_
    exact L_X0_makeRoom _ 2 _ 0 (XS_fblk s) (Int.le_refl _) (by omega) ⟨rfl, rfl⟩
  · skip
    rw [e46] at c19
    rw [ifp_t (by omega)]
    refine zx_iconst (pc := 22) dX0_makeRoom_22 ?_
    refine zx_zret (pc := 23) dX0_makeRoom_23 (by omega) ?_
    exact ⟨rfl, rfl⟩
noncomputable def x_page1 (h : zH) : zH × Int := ifp (0 < xFP h (gs h 46)) (h, 1) (x_room h)
noncomputable def x_pg2 (h : zH) (k ix g v : Int) : zH × Int := ifp ((x_prog h (gs h 46) k ix g v).2 < 0) (x_lose (x_prog h (gs h 46) k ix g v).1, (x_prog h (gs h 46) k ix g v).2) (x_prog h (gs h 46) k ix g v)
noncomputable def x_page (h : zH) (k ix g v : Int) : zH × Int := ifp ((x_page1 h).2 = 1) (x_pg2 (x_page1 h).1 k ix g v) (x_lose (x_page1 h).1, -1)
theorem xpage1_r {h : zH} (s : XS h) : XS (x_page1 h).1 ∧ gs (x_page1 h).1 70 = gs h 70 ∧ gs (x_page1 h).1 71 = gs h 71 ∧ ((x_page1 h).2 = 0 ∨ (x_page1 h).2 = 1) := by
  unfold x_page1
  rcases Classical.em (0 < xFP h (gs h 46)) with c | c
  · rw [ifp_t c]; exact ⟨s, rfl, rfl, Or.inr rfl⟩
  · rw [ifp_f c]; exact xroom_r s
set_option maxRecDepth 100000 in
theorem C_X0_program {h : zH} (s : XS h) {a1 a2 a3 a4 : Int} (r1 : -2147483648 ≤ a1 ∧ a1 < 2147483648) (r2 : -2147483648 ≤ a2 ∧ a2 < 2147483648) (r3 : -2147483648 ≤ a3 ∧ a3 < 2147483648) (r4 : -2147483648 ≤ a4 ∧ a4 < 2147483648) : kX0_program a1 a2 a3 a4 h (fun r h2 => r = (x_page h a1 a2 a3 a4).2 ∧ h2 = (x_page h a1 a2 a3 a4).1) := by
  have act := s.2.2.2.2.2.2.1
  have b5 := s.1.1.2
  obtain ⟨t1, t2, t3, t4⟩ := xpage1_r s
  have actb := t1.2.2.2.2.2.2.1
  have b5b := t1.1.1.2
  have ef : ifp (xBlk h (gs h 46)) (gs h 71 - ga h 18 (gs h 46)) 0 = xFP h (gs h 46) := rfl
  have tail : (x_page1 h).2 = 1 → zX cX zNo RX0 cX0_program 6 (some .int) rX0_program 24 [some (.ref 2), some (.int (iI a1)), some (.int (iI a2)), some (.int (iI a3)), some (.int (iI a4)), some (.int (iI (-1)))] [] (x_page1 h).1 (zEi cX (fun r h2 => r = (x_page h a1 a2 a3 a4).2 ∧ h2 = (x_page h a1 a2 a3 a4).1)) := by
    intro ok
    have pr := xprog_r t1.1 t1.2.1 (gs (x_page1 h).1 46) a1 a2 a3 a4
    refine zx_aload_n (pc := 24) dX0_program_24 rfl rfl ?_
    refine zg_X0_12 (pc := 25) dX0_program_25 ?_
    refine zx_aload_n (pc := 28) dX0_program_28 rfl rfl ?_
    refine zg_X0_43 (pc := 29) dX0_program_29 ?_
    refine zx_iload_n (pc := 32) dX0_program_32 rfl rfl ?_
    refine zx_iload_n (pc := 33) dX0_program_33 rfl rfl ?_
    refine zx_iload_n (pc := 34) dX0_program_34 rfl rfl ?_
    refine zx_iload (pc := 35) dX0_program_35 rfl ?_
    refine zi_X0_146 (pc := 37) dX0_program_37 (C_X1_program t1.1 t1.2.2.2.2.2.1 (by omega) (fun z => t1.2.1 _ z.1 z.2) r1 r2 r3 r4) (by decide) (Nat.le_of_ble_eq_true rfl) (fun z37 h37 u37 v37 q37 => ?_)
    obtain ⟨rfl, e37⟩ := q37
    rw [e37]
    clear e37 h37
    refine zx_istore (pc := 40) dX0_program_40 (by decide) rfl ?_
    refine zx_iload (pc := 42) dX0_program_42 rfl ?_
    refine zx_if_ge (pc := 44) (tgt := 51) dX0_program_44 (by decide) (fun o => by first | exact o.1 _ (by decide) | exact o.2 _ _ | omega) (fun c44 => ?_) (fun c44 => ?_)
    · skip
      have ep : x_page h a1 a2 a3 a4 = x_prog (x_page1 h).1 (gs (x_page1 h).1 46) a1 a2 a3 a4 := by
        unfold x_page x_pg2
        rw [ifp_t ok, ifp_f (by omega)]
      refine zx_iload (pc := 51) dX0_program_51 rfl ?_
      refine zx_iret (pc := 53) dX0_program_53 (fun o => by first | exact o.1 _ (by decide) | exact o.2 _ _ | omega) ?_
      rw [ep]
      exact ⟨rfl, rfl⟩
    · skip
      have ep : x_page h a1 a2 a3 a4 = (x_lose (x_prog (x_page1 h).1 (gs (x_page1 h).1 46) a1 a2 a3 a4).1, (x_prog (x_page1 h).1 (gs (x_page1 h).1 46) a1 a2 a3 a4).2) := by
        unfold x_page x_pg2
        rw [ifp_t ok, ifp_t (by omega)]
      refine zx_aload_n (pc := 47) dX0_program_47 rfl rfl ?_
      refine zi_X0_150 (pc := 48) dX0_program_48 (C_X0_losePower) (by decide) (Nat.le_of_ble_eq_true rfl) (fun h48 q48 => ?_)
      rw [q48]
      clear q48 h48
      refine zx_iload (pc := 51) dX0_program_51 rfl ?_
      refine zx_iret (pc := 53) dX0_program_53 (fun o => by first | exact o.1 _ (by decide) | exact o.2 _ _ | omega) ?_
      rw [ep]
      exact ⟨rfl, rfl⟩
  have fail : (x_page1 h).2 = 0 → zX cX zNo RX0 cX0_program 6 (some .int) rX0_program 42 [some (.ref 2), some (.int (iI a1)), some (.int (iI a2)), some (.int (iI a3)), some (.int (iI a4)), some (.int (iI (-1)))] [] (x_page1 h).1 (zEi cX (fun r h2 => r = (x_page h a1 a2 a3 a4).2 ∧ h2 = (x_page h a1 a2 a3 a4).1)) := by
    intro ok
    have ep : x_page h a1 a2 a3 a4 = (x_lose (x_page1 h).1, -1) := by
      unfold x_page
      rw [ifp_f (by omega)]
    refine zx_iload (pc := 42) dX0_program_42 rfl ?_
    refine zx_if_ge (pc := 44) (tgt := 51) dX0_program_44 (by decide) (fun o => by first | exact o.1 _ (by decide) | exact o.2 _ _ | omega) (fun c44 => absurd c44 (by omega)) (fun c44 => ?_)
    refine zx_aload_n (pc := 47) dX0_program_47 rfl rfl ?_
    refine zi_X0_150 (pc := 48) dX0_program_48 (C_X0_losePower) (by decide) (Nat.le_of_ble_eq_true rfl) (fun h48 q48 => ?_)
    rw [q48]
    clear q48 h48
    refine zx_iload (pc := 51) dX0_program_51 rfl ?_
    refine zx_iret (pc := 53) dX0_program_53 (fun o => by first | exact o.1 _ (by decide) | exact o.2 _ _ | omega) ?_
    rw [ep]
    exact ⟨rfl, rfl⟩
  apply eX0_program
  refine zx_iconst (pc := 0) dX0_program_0 ?_
  refine zx_istore (pc := 1) dX0_program_1 (by decide) rfl ?_
  refine zx_aload_n (pc := 3) dX0_program_3 rfl rfl ?_
  refine zg_X0_12 (pc := 4) dX0_program_4 ?_
  refine zx_aload_n (pc := 7) dX0_program_7 rfl rfl ?_
  refine zg_X0_43 (pc := 8) dX0_program_8 ?_
  refine zi_X0_138 (pc := 11) dX0_program_11 (C_X1_countFreePages s.1 (by omega) (fun z => s.2.1 _ z.1 z.2)) (by decide) (Nat.le_of_ble_eq_true rfl) (fun z11 h11 u11 v11 q11 => ?_)
  obtain ⟨rfl, e11⟩ := q11
  rw [e11]
  clear e11 h11
  refine zx_if_gt (pc := 14) (tgt := 24) dX0_program_14 (by decide) (fun _ => by rw [ef]; have := xFP_r s.1 s.2.1 (gs h 46); omega) (fun c14 => ?_) (fun c14 => ?_)
  · skip
    rw [ef] at c14
    have em : x_page1 h = (h, 1) := by
      unfold x_page1
      rw [ifp_t (by omega)]
    have t9 : (x_page1 h).2 = 1 := by
      first
      | (rw [em]; done)
      | (rw [em] at t4 ⊢; omega)
    have w := tail t9
    rw [em] at w
    exact w
  · skip
    rw [ef] at c14
    have em : x_page1 h = x_room h := by
      unfold x_page1
      rw [ifp_f (by omega)]
    refine zx_aload_n (pc := 17) dX0_program_17 rfl rfl ?_
    refine zi_X0_142 (pc := 18) dX0_program_18 (C_X0_makeRoom s) (by decide) (Nat.le_of_ble_eq_true rfl) (fun z18 h18 u18 v18 q18 => ?_)
    obtain ⟨rfl, e18⟩ := q18
    rw [e18]
    clear e18 h18
    refine zx_if_eq (pc := 21) (tgt := 42) dX0_program_21 (by decide) (fun o => by first | exact o.1 _ (by decide) | exact o.2 _ _ | omega) (fun c21 => ?_) (fun c21 => ?_)
    · skip
      try replace c21 := b2i_0.mp c21
      have w := fail (by rw [em]; exact c21)
      rw [em] at w
      exact w
    · skip
      try replace c21 := b2i_n0.mp c21
      have t9 : (x_page1 h).2 = 1 := by
        first
        | (rw [em]; done)
        | (rw [em] at t4 ⊢; omega)
      have w := tail t9
      rw [em] at w
      exact w
theorem xpg2_r {h : zH} (s : XS h) (k ix g v : Int) : XS (x_pg2 h k ix g v).1 ∧ gs (x_pg2 h k ix g v).1 72 = gs h 72 ∧ gs (x_pg2 h k ix g v).1 104 = gs h 104 ∧ gs (x_pg2 h k ix g v).1 105 = gs h 105 ∧ gs (x_pg2 h k ix g v).1 81 = gs h 81 ∧ ((x_pg2 h k ix g v).2 = -1 ∨ 0 ≤ (x_pg2 h k ix g v).2 ∧ (x_pg2 h k ix g v).2 < gs h 72) := by
  have p := xprog_r s.1 s.2.1 (gs h 46) k ix g v
  have s1 := XS_xprog s (gs h 46) k ix g v
  unfold x_pg2
  rcases Classical.em ((x_prog h (gs h 46) k ix g v).2 < 0) with c | c
  · rw [ifp_t c]
    exact ⟨XS_lose s1, gs_xprog _ _ _ _ _ _ _ (by decide), gs_xprog _ _ _ _ _ _ _ (by decide), gs_xprog _ _ _ _ _ _ _ (by decide), gs_xprog _ _ _ _ _ _ _ (by decide), p⟩
  · rw [ifp_f c]
    exact ⟨s1, gs_xprog _ _ _ _ _ _ _ (by decide), gs_xprog _ _ _ _ _ _ _ (by decide), gs_xprog _ _ _ _ _ _ _ (by decide), gs_xprog _ _ _ _ _ _ _ (by decide), p⟩

