/-! the class: recovery: what it makes, and contracts -/
def XM (h : zH) : Prop := ∀ i, 0 ≤ i → i < gs h 72 → ga h 10 i = 3 → 0 ≤ ga h 11 i ∧ ga h 11 i ≤ 1000
def x_rm1 (h : zH) (i n : Int) : zH := (h.1, fun c j => if c = 21 ∧ ga h 11 i * 8 ≤ j ∧ j < ga h 11 i * 8 + n ∧ j < gs h 104 then h.2 16 (i * 8 + (j - ga h 11 i * 8)) else h.2 c j)
theorem ga_xrm1 (h : zH) (i n : Int) (c : Nat) (j : Int) : ga (x_rm1 h i n) c j = if c = 21 ∧ ga h 11 i * 8 ≤ j ∧ j < ga h 11 i * 8 + n ∧ j < gs h 104 then ga h 16 (i * 8 + (j - ga h 11 i * 8)) else ga h c j := rfl
theorem gs_xrm1 (h : zH) (i n : Int) (k : Nat) : gs (x_rm1 h i n) k = gs h k := rfl
theorem xrm1_0 (h : zH) (i : Int) : x_rm1 h i 0 = h := by
  apply zH_ext
  · intro k; rfl
  · intro c j
    rw [ga_xrm1, if_neg (by omega)]
theorem xrm1_next (h : zH) {i n : Int} (n0 : 0 ≤ n) (x0 : 0 ≤ ga h 11 i) : x_setC (x_rm1 h i n) (ga h 11 i * 8 + n) (ga h 16 (i * 8 + n)) = x_rm1 h i (n + 1) := by
  unfold x_setC
  rcases Classical.em (xHas (x_rm1 h i n) (ga h 11 i * 8 + n)) with c | c
  · rw [ifp_t c]
    have c2 : ga h 11 i * 8 + n < gs h 104 := c.2
    apply zH_ext
    · intro k; rfl
    · intro d j
      rw [ga_pa, ga_xrm1, ga_xrm1]
      by_cases q : d = 21 ∧ j = ga h 11 i * 8 + n
      · obtain ⟨q1, q2⟩ := q
        rw [if_pos ⟨q1, q2⟩, if_pos (by omega), q2]
        congr 1
        omega
      · rw [if_neg q]
        by_cases w : d = 21 ∧ ga h 11 i * 8 ≤ j ∧ j < ga h 11 i * 8 + n ∧ j < gs h 104
        · rw [if_pos w, if_pos (by omega)]
        · rw [if_neg w, if_neg (by omega)]
  · rw [ifp_f c]
    have c2 : ¬ ga h 11 i * 8 + n < gs h 104 := fun y => c ⟨by omega, y⟩
    apply zH_ext
    · intro k; rfl
    · intro d j
      rw [ga_xrm1, ga_xrm1]
      by_cases w : d = 21 ∧ ga h 11 i * 8 ≤ j ∧ j < ga h 11 i * 8 + n ∧ j < gs h 104
      · rw [if_pos w, if_pos (by omega)]
      · rw [if_neg w, if_neg (by omega)]
noncomputable def x_rmL : Nat → zH → Int → zH
  | 0, h, _ => h
  | n + 1, h, i => x_rmL n (ifp (ga h 10 i = 3 ∧ ga h 12 i = gs h 50) (x_rm1 h i 8) h) (i + 1)
noncomputable def x_rm (h : zH) : zH := x_rmL (gs h 72).toNat h 0
/-- only the table's versions differ -/
def FC (h h2 : zH) : Prop := (∀ k, gs h2 k = gs h k) ∧ ∀ c i, c ≠ 21 → ga h2 c i = ga h c i
theorem FC.rf (h : zH) : FC h h := ⟨fun _ => rfl, fun _ _ _ => rfl⟩
theorem FC.tr {a b c : zH} (f : FC a b) (g : FC b c) : FC a c := ⟨fun k => (g.1 k).trans (f.1 k), fun c i h1 => (g.2 c i h1).trans (f.2 c i h1)⟩
theorem FC_rm1 (h : zH) (i n : Int) : FC h (x_rm1 h i n) := ⟨fun _ => rfl, fun c j h1 => by rw [ga_xrm1, if_neg (fun z => h1 z.1)]⟩
theorem FC_rmL : ∀ (n : Nat) (h : zH) (i : Int), FC h (x_rmL n h i)
  | 0, h, _ => FC.rf h
  | n + 1, h, i => by
    rw [x_rmL]
    refine FC.tr ?_ (FC_rmL n _ (i + 1))
    rcases Classical.em (ga h 10 i = 3 ∧ ga h 12 i = gs h 50) with c | c
    · rw [ifp_t c]; exact FC_rm1 h i 8
    · rw [ifp_f c]; exact FC.rf h
set_option maxRecDepth 100000 in
theorem L1_X0_readMap {h : zH} (ht : XT h) {i : Int} (i1 : 0 ≤ i) (i2 : i < 1024) (x1 : 0 ≤ ga h 11 i) (x2 : ga h 11 i ≤ 1000) (E : zF) (k : ∀ j, zX cX zNo RX0 cX0_readMap 3 none rX0_readMap 91 [some (.ref 2), some (.int (iI i)), some (.int (iI j))] [] (x_rm1 h i 8) E) : ∀ (n : Nat) (j : Int), 0 ≤ j → j ≤ 8 → 8 - j < n → zX cX zNo RX0 cX0_readMap 3 none rX0_readMap 44 [some (.ref 2), some (.int (iI i)), some (.int (iI j))] [] (x_rm1 h i j) E := by
  intro n
  induction n with
  | zero => intro j g1 g2 g3; omega
  | succ n ih =>
    intro j g1 g2 g3
    have e11 : ga (x_rm1 h i j) 11 i = ga h 11 i := by rw [ga_xrm1, if_neg (by omega)]
    have e16 : ga (x_rm1 h i j) 16 (i * 8 + j) = ga h 16 (i * 8 + j) := by rw [ga_xrm1, if_neg (by omega)]
    refine zx_ok (fun ok => ?_)
    refine zx_iload_n (pc := 44) dX0_readMap_44 rfl rfl ?_
    refine zx_bipush (pc := 45) dX0_readMap_45 (by decide +kernel) ?_
    refine zx_icmp_ge (pc := 47) (tgt := 91) dX0_readMap_47 (by decide) (fun o => by first | exact o.1 _ (by decide) | exact o.2 _ _ | omega) (fun o => by first | exact o.1 _ (by decide) | exact o.2 _ _ | omega) (fun c47 => ?_) (fun c47 => ?_)
    · skip
      have e : j = 8 := by omega
      rw [e]
      exact k _
    · skip
      refine zx_aload_n (pc := 50) dX0_readMap_50 rfl rfl ?_
      refine zg_X0_28 (pc := 51) dX0_readMap_51 ?_
      refine zx_aload_n (pc := 54) dX0_readMap_54 rfl rfl ?_
      refine zg_X0_12 (pc := 55) dX0_readMap_55 ?_
      refine zg_X0_102 (pc := 58) dX0_readMap_58 ?_
      refine zx_iload_n (pc := 61) dX0_readMap_61 rfl rfl ?_
      refine zx_iaload (pc := 62) aX1_index dX0_readMap_62 (by omega) (by omega) (by omega) ?_
      refine zx_bipush (pc := 63) dX0_readMap_63 (by decide +kernel) ?_
      refine zx_imul (pc := 65) dX0_readMap_65 ?_
      refine zx_iload_n (pc := 66) dX0_readMap_66 rfl rfl ?_
      refine zx_iadd (pc := 67) dX0_readMap_67 ?_
      refine zx_aload_n (pc := 68) dX0_readMap_68 rfl rfl ?_
      refine zg_X0_12 (pc := 69) dX0_readMap_69 ?_
      refine zg_X0_199 (pc := 72) dX0_readMap_72 ?_
      refine zx_iload_n (pc := 75) dX0_readMap_75 rfl rfl ?_
      refine zx_bipush (pc := 76) dX0_readMap_76 (by decide +kernel) ?_
      refine zx_imul (pc := 78) dX0_readMap_78 ?_
      refine zx_iload_n (pc := 79) dX0_readMap_79 rfl rfl ?_
      refine zx_iadd (pc := 80) dX0_readMap_80 ?_
      refine zx_iaload (pc := 81) aX1_mapped dX0_readMap_81 (by omega) (by omega) (by omega) ?_
      refine zi_X0_184 (pc := 82) dX0_readMap_82 (C_X4_setCommitted (h := x_rm1 h i j) ht (by rw [e11]; omega) (ok.2 16 _)) (by decide) (Nat.le_of_ble_eq_true rfl) (fun h82 q82 => ?_)
      rw [q82]
      clear q82 h82
      rw [e11, e16, xrm1_next h g1 x1]
      refine zx_iinc (pc := 85) dX0_readMap_85 (by decide) rfl rfl ?_
      refine zx_goto (pc := 88) (tgt := 44) dX0_readMap_88 (by decide) ?_
      exact ih (j + 1) (by omega) (by omega) (by omega)
set_option maxRecDepth 100000 in
theorem L2_X0_readMap {h0 : zH} (hb : XB h0) (ht : XT h0) (hm : XM h0) (Q : zH → Prop) : ∀ (n : Nat) (h : zH) (i : Int), FC h0 h → 0 ≤ i → i + n = gs h0 72 → Q (x_rmL n h i) → zX cX zNo RX0 cX0_readMap 3 none rX0_readMap 2 [some (.ref 2), some (.int (iI i)), none] [] h (zEv cX Q) := by
  have m7 := xb_size hb
  intro n
  induction n with
  | zero =>
    intro h i f i1 i2 hQ
    have e72 := f.1 72
    refine zx_iload_n (pc := 2) dX0_readMap_2 rfl rfl ?_
    refine zx_aload_n (pc := 3) dX0_readMap_3 rfl rfl ?_
    refine zg_X0_12 (pc := 4) dX0_readMap_4 ?_
    refine zg_X0_224 (pc := 7) dX0_readMap_7 ?_
    refine zx_icmp_ge (pc := 10) (tgt := 97) dX0_readMap_10 (by decide) (fun o => by first | exact o.1 _ (by decide) | exact o.2 _ _ | omega) (fun o => by first | exact o.1 _ (by decide) | exact o.2 _ _ | omega) (fun c10 => ?_) (fun c10 => absurd c10 (by omega))
    refine zx_vret (pc := 97) dX0_readMap_97 ?_
    exact hQ
  | succ n ih =>
    intro h i f i1 i2 hQ
    have e72 := f.1 72
    have e104 := f.1 104
    have ht1 : XT h := by unfold XT; rw [e104]; exact ht
    have e10 := f.2 10 i (by decide)
    have e11 := f.2 11 i (by decide)
    have q := hm i i1 (by omega)
    rw [← e10, ← e11] at q
    rw [x_rmL] at hQ
    have no (z : ¬ (ga h 10 i = 3 ∧ ga h 12 i = gs h 50)) : zX cX zNo RX0 cX0_readMap 3 none rX0_readMap 2 [some (.ref 2), some (.int (iI (i + 1))), none] [] h (zEv cX Q) := by
      rw [ifp_f z] at hQ
      exact ih h (i + 1) f (by omega) (by omega) hQ
    refine zx_iload_n (pc := 2) dX0_readMap_2 rfl rfl ?_
    refine zx_aload_n (pc := 3) dX0_readMap_3 rfl rfl ?_
    refine zg_X0_12 (pc := 4) dX0_readMap_4 ?_
    refine zg_X0_224 (pc := 7) dX0_readMap_7 ?_
    refine zx_icmp_ge (pc := 10) (tgt := 97) dX0_readMap_10 (by decide) (fun o => by first | exact o.1 _ (by decide) | exact o.2 _ _ | omega) (fun o => by first | exact o.1 _ (by decide) | exact o.2 _ _ | omega) (fun c10 => absurd c10 (by omega)) (fun c10 => ?_)
    refine zx_aload_n (pc := 13) dX0_readMap_13 rfl rfl ?_
    refine zg_X0_12 (pc := 14) dX0_readMap_14 ?_
    refine zg_X0_99 (pc := 17) dX0_readMap_17 ?_
    refine zx_iload_n (pc := 20) dX0_readMap_20 rfl rfl ?_
    refine zx_iaload (pc := 21) aX1_kind dX0_readMap_21 (by omega) (by omega) (by omega) ?_
    refine zx_iconst (pc := 22) dX0_readMap_22 ?_
    refine zx_icmp_ne (pc := 23) (tgt := 91) dX0_readMap_23 (by decide) (fun o => by first | exact o.1 _ (by decide) | exact o.2 _ _ | omega) (fun o => by first | exact o.1 _ (by decide) | exact o.2 _ _ | omega) (fun c23 => ?_) (fun c23 => ?_)
    · skip
      refine zx_iinc (pc := 91) dX0_readMap_91 (by decide) rfl rfl ?_
      refine zx_goto (pc := 94) (tgt := 2) dX0_readMap_94 (by decide) ?_
      refine zx_sub [true, true, false] ?_
      dsimp only [zMask, List.set]
      exact no (by omega)
    · skip
      refine zx_aload_n (pc := 26) dX0_readMap_26 rfl rfl ?_
      refine zg_X0_12 (pc := 27) dX0_readMap_27 ?_
      refine zg_X0_112 (pc := 30) dX0_readMap_30 ?_
      refine zx_iload_n (pc := 33) dX0_readMap_33 rfl rfl ?_
      refine zx_iaload (pc := 34) aX1_group dX0_readMap_34 (by omega) (by omega) (by omega) ?_
      refine zx_aload_n (pc := 35) dX0_readMap_35 rfl rfl ?_
      refine zg_X0_69 (pc := 36) dX0_readMap_36 ?_
      refine zx_icmp_ne (pc := 39) (tgt := 91) dX0_readMap_39 (by decide) (fun o => by first | exact o.1 _ (by decide) | exact o.2 _ _ | omega) (fun o => by first | exact o.1 _ (by decide) | exact o.2 _ _ | omega) (fun c39 => ?_) (fun c39 => ?_)
      · skip
        refine zx_iinc (pc := 91) dX0_readMap_91 (by decide) rfl rfl ?_
        refine zx_goto (pc := 94) (tgt := 2) dX0_readMap_94 (by decide) ?_
        refine zx_sub [true, true, false] ?_
        dsimp only [zMask, List.set]
        exact no (by omega)
      · skip
        refine zx_iconst (pc := 42) dX0_readMap_42 ?_
        refine zx_istore_n (pc := 43) dX0_readMap_43 rfl (by decide) rfl ?_
        rw [ifp_t ⟨c23, c39⟩] at hQ
        have q2 := q c23
        have r := L1_X0_readMap ht1 i1 (by omega) q2.1 q2.2 (zEv cX Q) (fun j => ?_) 9 0 (Int.le_refl _) (by omega) (by omega)
        · rw [xrm1_0] at r
          exact r
        refine zx_iinc (pc := 91) dX0_readMap_91 (by decide) rfl rfl ?_
        refine zx_goto (pc := 94) (tgt := 2) dX0_readMap_94 (by decide) ?_
        refine zx_sub [true, true, false] ?_
        dsimp only [zMask, List.set]
        exact ih _ (i + 1) (f.tr (FC_rm1 h i 8)) (by omega) (by omega) hQ
set_option maxRecDepth 100000 in
theorem C_X0_readMap {h : zH} (hb : XB h) (ht : XT h) (hm : XM h) : kX0_readMap h (fun h2 => h2 = x_rm h) := by
  have m7 := xb_size hb
  apply eX0_readMap
  refine zx_iconst (pc := 0) dX0_readMap_0 ?_
  refine zx_istore_n (pc := 1) dX0_readMap_1 rfl (by decide) rfl ?_
  exact L2_X0_readMap hb ht hm (fun h2 => h2 = x_rm h) (gs h 72).toNat h 0 (FC.rf h) (Int.le_refl _) (by omega) rfl
noncomputable def x_edL : Nat → zH → Int → zH × Int
  | 0, h, _ => (h, 1)
  | n + 1, h, i => ifp (0 < ga h 18 i ∧ ga h 9 i = 0) (ifp (xOK h) (x_edL n (x_erase h i) (i + 1)) (x_erase h i, 0)) (x_edL n h (i + 1))
noncomputable def x_ed (h : zH) : zH × Int := x_edL (gs h 70).toNat (x_cl h) 0
theorem xedL_r : ∀ (n : Nat) (h : zH) (i : Int), XS h → XS (x_edL n h i).1 ∧ gs (x_edL n h i).1 70 = gs h 70 ∧ ((x_edL n h i).2 = 0 ∨ (x_edL n h i).2 = 1)
  | 0, h, _, s => ⟨s, rfl, Or.inr rfl⟩
  | n + 1, h, i, s => by
    rw [x_edL]
    rcases Classical.em (0 < ga h 18 i ∧ ga h 9 i = 0) with c | c
    · rw [ifp_t c]
      have s1 := XS_xerase s i
      rcases Classical.em (xOK h) with d | d
      · rw [ifp_t d]
        obtain ⟨t1, t2, t3⟩ := xedL_r n _ (i + 1) s1
        exact ⟨t1, t2.trans (gs_xerase _ _ _ (by decide)), t3⟩
      · rw [ifp_f d]
        exact ⟨s1, gs_xerase _ _ _ (by decide), Or.inl rfl⟩
    · rw [ifp_f c]
      exact xedL_r n h (i + 1) s
theorem xed_r {h : zH} (s : XS h) : XS (x_ed h).1 ∧ ((x_ed h).2 = 0 ∨ (x_ed h).2 = 1) := by
  obtain ⟨t1, t2, t3⟩ := xedL_r (gs h 70).toNat _ 0 (XS_xcl s)
  exact ⟨t1, t3⟩
set_option maxRecDepth 100000 in
theorem L_X0_eraseDead (Q : Int → zH → Prop) : ∀ (n : Nat) (h : zH) (i : Int), XS h → 0 ≤ i → i + n = gs h 70 → Q (x_edL n h i).2 (x_edL n h i).1 → zX cX zNo RX0 cX0_eraseDeadBlocks 2 (some .boolean) rX0_eraseDeadBlocks 7 [some (.ref 2), some (.int (iI i))] [] h (zEi cX Q) := by
  intro n
  induction n with
  | zero =>
    intro h i s i1 i2 hQ
    have b1 := s.1.1.2
    refine zx_iload_n (pc := 7) dX0_eraseDeadBlocks_7 rfl rfl ?_
    refine zx_aload_n (pc := 8) dX0_eraseDeadBlocks_8 rfl rfl ?_
    refine zg_X0_12 (pc := 9) dX0_eraseDeadBlocks_9 ?_
    refine zg_X0_47 (pc := 12) dX0_eraseDeadBlocks_12 ?_
    refine zx_icmp_ge (pc := 15) (tgt := 58) dX0_eraseDeadBlocks_15 (by decide) (fun o => by first | exact o.1 _ (by decide) | exact o.2 _ _ | omega) (fun o => by first | exact o.1 _ (by decide) | exact o.2 _ _ | omega) (fun c15 => ?_) (fun c15 => absurd c15 (by omega))
    refine zx_iconst (pc := 58) dX0_eraseDeadBlocks_58 ?_
    refine zx_zret (pc := 59) dX0_eraseDeadBlocks_59 (by omega) ?_
    exact hQ
  | succ n ih =>
    intro h i s i1 i2 hQ
    have b1 := s.1.1.2
    have uu := s.2.1 i i1 (by omega)
    have hblk : xBlk h i := ⟨i1, by omega⟩
    rw [x_edL] at hQ
    refine zx_iload_n (pc := 7) dX0_eraseDeadBlocks_7 rfl rfl ?_
    refine zx_aload_n (pc := 8) dX0_eraseDeadBlocks_8 rfl rfl ?_
    refine zg_X0_12 (pc := 9) dX0_eraseDeadBlocks_9 ?_
    refine zg_X0_47 (pc := 12) dX0_eraseDeadBlocks_12 ?_
    refine zx_icmp_ge (pc := 15) (tgt := 58) dX0_eraseDeadBlocks_15 (by decide) (fun o => by first | exact o.1 _ (by decide) | exact o.2 _ _ | omega) (fun o => by first | exact o.1 _ (by decide) | exact o.2 _ _ | omega) (fun c15 => absurd c15 (by omega)) (fun c15 => ?_)
    refine zx_aload_n (pc := 18) dX0_eraseDeadBlocks_18 rfl rfl ?_
    refine zg_X0_12 (pc := 19) dX0_eraseDeadBlocks_19 ?_
    refine zg_X0_121 (pc := 22) dX0_eraseDeadBlocks_22 ?_
    refine zx_iload_n (pc := 25) dX0_eraseDeadBlocks_25 rfl rfl ?_
    refine zx_iaload (pc := 26) aX1_used dX0_eraseDeadBlocks_26 (by omega) (by omega) (by omega) ?_
    refine zx_if_le (pc := 27) (tgt := 52) dX0_eraseDeadBlocks_27 (by decide) (fun o => by first | exact o.1 _ (by decide) | exact o.2 _ _ | omega) (fun c27 => ?_) (fun c27 => ?_)
    · skip
      rw [ifp_f (fun z => by have := z.1; omega)] at hQ
      refine zx_iinc (pc := 52) dX0_eraseDeadBlocks_52 (by decide) rfl rfl ?_
      refine zx_goto (pc := 55) (tgt := 7) dX0_eraseDeadBlocks_55 (by decide) ?_
      first
      | exact ih _ (i + 1) (XS_xerase s i) (by omega) (by rw [gs_xerase _ _ _ (by decide)]; omega) hQ
      | exact ih h (i + 1) s (by omega) (by omega) hQ
    · skip
      refine zx_aload_n (pc := 30) dX0_eraseDeadBlocks_30 rfl rfl ?_
      refine zg_X0_39 (pc := 31) dX0_eraseDeadBlocks_31 ?_
      refine zx_iload_n (pc := 34) dX0_eraseDeadBlocks_34 rfl rfl ?_
      refine zx_iaload (pc := 35) aX0_liveIn dX0_eraseDeadBlocks_35 (by omega) (by omega) (by omega) ?_
      refine zx_if_ne (pc := 36) (tgt := 52) dX0_eraseDeadBlocks_36 (by decide) (fun o => by first | exact o.1 _ (by decide) | exact o.2 _ _ | omega) (fun c36 => ?_) (fun c36 => ?_)
      · skip
        rw [ifp_f (fun z => c36 z.2)] at hQ
        refine zx_iinc (pc := 52) dX0_eraseDeadBlocks_52 (by decide) rfl rfl ?_
        refine zx_goto (pc := 55) (tgt := 7) dX0_eraseDeadBlocks_55 (by decide) ?_
        first
        | exact ih _ (i + 1) (XS_xerase s i) (by omega) (by rw [gs_xerase _ _ _ (by decide)]; omega) hQ
        | exact ih h (i + 1) s (by omega) (by omega) hQ
      · skip
        refine zx_aload_n (pc := 39) dX0_eraseDeadBlocks_39 rfl rfl ?_
        refine zg_X0_12 (pc := 40) dX0_eraseDeadBlocks_40 ?_
        refine zx_iload_n (pc := 43) dX0_eraseDeadBlocks_43 rfl rfl ?_
        refine zi_X0_174 (pc := 44) dX0_eraseDeadBlocks_44 (C_X1_erase s.1 s.2.2.2.2.2.1 (by omega)) (by decide) (Nat.le_of_ble_eq_true rfl) (fun z44 h44 u44 v44 q44 => ?_)
        obtain ⟨rfl, e44⟩ := q44
        rw [e44]
        clear e44 h44
        refine zx_if_ne (pc := 47) (tgt := 52) dX0_eraseDeadBlocks_47 (by decide) (fun o => by first | exact o.1 _ (by decide) | exact o.2 _ _ | omega) (fun c47 => ?_) (fun c47 => ?_)
        · skip
          try replace c47 := b2i_n0.mp c47
          rw [ifp_t ⟨c27, c36⟩, ifp_t (c47 hblk)] at hQ
          refine zx_iinc (pc := 52) dX0_eraseDeadBlocks_52 (by decide) rfl rfl ?_
          refine zx_goto (pc := 55) (tgt := 7) dX0_eraseDeadBlocks_55 (by decide) ?_
          first
          | exact ih _ (i + 1) (XS_xerase s i) (by omega) (by rw [gs_xerase _ _ _ (by decide)]; omega) hQ
          | exact ih h (i + 1) s (by omega) (by omega) hQ
        · skip
          try replace c47 := b2i_0.mp c47
          rw [ifp_t ⟨c27, c36⟩, ifp_f (fun z => c47 (fun _ => z))] at hQ
          refine zx_iconst (pc := 50) dX0_eraseDeadBlocks_50 ?_
          refine zx_zret (pc := 51) dX0_eraseDeadBlocks_51 (by omega) ?_
          exact hQ
set_option maxRecDepth 100000 in
theorem C_X0_eraseDeadBlocks {h : zH} (s : XS h) : kX0_eraseDeadBlocks h (fun r h2 => r = (x_ed h).2 ∧ h2 = (x_ed h).1) := by
  have b1 := s.1.1.1
  apply eX0_eraseDeadBlocks
  refine zx_aload_n (pc := 0) dX0_eraseDeadBlocks_0 rfl rfl ?_
  refine zi_X0_124 (pc := 1) dX0_eraseDeadBlocks_1 (C_X0_countLive s) (by decide) (Nat.le_of_ble_eq_true rfl) (fun z1 h1 u1 v1 q1 => ?_)
  obtain ⟨rfl, e1⟩ := q1
  rw [e1]
  clear e1 h1
  refine zx_pop (pc := 4) dX0_eraseDeadBlocks_4 rfl ?_
  refine zx_iconst (pc := 5) dX0_eraseDeadBlocks_5 ?_
  refine zx_istore_n (pc := 6) dX0_eraseDeadBlocks_6 rfl (by decide) rfl ?_
  exact L_X0_eraseDead _ (gs h 70).toNat (x_cl h) 0 (XS_xcl s) (Int.le_refl _) (by show 0 + _ = gs h 70; omega) ⟨rfl, rfl⟩
noncomputable def x_rs1 (h : zH) : zH := ifp (xPl h (xEnd h)) (x_rm (ps (ps h 50 (ga h 12 (xEnd h))) 51 (ga h 13 (xEnd h)))) h
noncomputable def x_rs2 (q : zH × Int) : zH := ps (x_lost (ps q.1 48 q.2) (gs q.1 81 + 1)) 45 1
noncomputable def x_fa (h : zH) : zH := ps h 46 (ifp (0 < xFP h (xNewest h)) (xNewest h) (-1))
noncomputable def x_rs3 (e : zH × Int) : zH × Int := ifp (e.2 = 1) (x_fa e.1, 1) (x_lose e.1, 0)
theorem FA_apL : ∀ (n : Nat) (h : zH) (i last c : Int), FA h (x_apL n h i last c).1
  | 0, h, _, _, _ => FA.rf h
  | n + 1, h, i, last, c => by
    rw [x_apL]
    rcases Classical.em (ga h 13 (ga h 25 i) ≠ last) with d | d
    · rw [ifp_t d]
      exact FA.tr (FA_ap1 h _) (FA_apL n _ _ _ _)
    · rw [ifp_f d]
      exact FA_apL n h _ _ _
theorem XS_rs1 {h : zH} (s : XS h) : XS (x_rs1 h) := by
  unfold x_rs1
  rcases Classical.em (xPl h (xEnd h)) with c | c
  · rw [ifp_t c]
    have f := FC_rmL (gs h 72).toNat (ps (ps h 50 (ga h 12 (xEnd h))) 51 (ga h 13 (xEnd h))) 0
    exact XS_c s (f.1 70) (f.1 71) (f.1 72) (f.1 81) (f.1 104) (f.1 105) (f.1 106) (by rw [show gs (x_rm (ps (ps h 50 (ga h 12 (xEnd h))) 51 (ga h 13 (xEnd h)))) 77 = gs h 77 from f.1 77]; exact s.2.2.2.2.2.1) (f.1 46) (XU_c s.2.1 (f.1 70) (f.1 71) (fun b => f.2 18 b (by decide)))
  · rw [ifp_f c]; exact s
theorem XS_rs2 {h h1 : zH} (s : XS h) {a : Int} (g : xLogOf h a h1) (n : Nat) (i last c : Int) : XS (x_rs2 (x_apL n h1 i last c)) := by
  have f := g.1
  have fa := FA_apL n h1 i last c
  have e (k : Nat) (hk : k ≠ 122) : gs (x_apL n h1 i last c).1 k = gs h k := (fa.1 k).trans (f.1 k hk)
  exact XS_c s (e 70 (by decide)) (e 71 (by decide)) (e 72 (by decide)) (e 81 (by decide)) (e 104 (by decide)) (e 105 (by decide)) (e 106 (by decide)) (by rw [show gs (x_rs2 (x_apL n h1 i last c)) 77 = gs h 77 from e 77 (by decide)]; exact s.2.2.2.2.2.1) (e 46 (by decide)) (XU_c s.2.1 (e 70 (by decide)) (e 71 (by decide)) (fun b => by
    unfold x_rs2
    rw [ga_ps, ga_xlost, if_neg (by omega), ga_ps, fa.2 18 b (by decide) (by decide), f.2 18 b (by decide)]))
theorem xNewest_r {h : zH} (hb : XB h) (ok : zOk h) : -1 ≤ xNewest h ∧ xNewest h < gs h 70 ∨ xNewest h = -1 := by
  have q := xNb_r ok (gs h 70).toNat
  have e : xNewest h = (xNb h (gs h 70).toNat).1 := rfl
  have b := hb.1.1
  omega
set_option maxRecDepth 100000 in
theorem C_X0_restore {h : zH} (s : XS h) (hm : XM h) : kX0_restore h (fun r h2 => ∃ h1, xLogOf (x_rs1 h) (gs (x_rs1 h) 51) h1 ∧ r = (x_rs3 (x_ed (x_rs2 (x_apL (gs h1 122).toNat h1 0 0 0)))).2 ∧ h2 = (x_rs3 (x_ed (x_rs2 (x_apL (gs h1 122).toNat h1 0 0 0)))).1) := by
  have m7 := xb_size s.1
  have s1 := XS_rs1 s
  have le : -1 ≤ xEnd h ∧ xEnd h < (gs h 72).toNat := xLE_r h (gs h 72).toNat
  have tail : ∀ H, H = x_rs1 h → zX cX zNo RX0 cX0_restore 3 (some .boolean) rX0_restore 49 [some (.ref 2), some (.int (iI (xEnd h))), none] [] H (zEi cX (fun r h2 => ∃ h1, xLogOf (x_rs1 h) (gs (x_rs1 h) 51) h1 ∧ r = (x_rs3 (x_ed (x_rs2 (x_apL (gs h1 122).toNat h1 0 0 0)))).2 ∧ h2 = (x_rs3 (x_ed (x_rs2 (x_apL (gs h1 122).toNat h1 0 0 0)))).1)) := by
    intro H eH
    subst eH
    refine zx_ok (fun ok => ?_)
    refine zx_aload_n (pc := 49) dX0_restore_49 rfl rfl ?_
    refine zx_aload_n (pc := 50) dX0_restore_50 rfl rfl ?_
    refine zg_X0_35 (pc := 51) dX0_restore_51 ?_
    refine zx_aload_n (pc := 54) dX0_restore_54 rfl rfl ?_
    refine zg_X0_12 (pc := 55) dX0_restore_55 ?_
    refine zx_aload_n (pc := 58) dX0_restore_58 rfl rfl ?_
    refine zg_X0_28 (pc := 59) dX0_restore_59 ?_
    refine zx_aload_n (pc := 62) dX0_restore_62 rfl rfl ?_
    refine zg_X0_72 (pc := 63) dX0_restore_63 ?_
    refine zi_X0_211 (pc := 66) dX0_restore_66 (C_X5_apply s1.1 s1.2.2.1 (ok.1 51 (by decide))) (by decide) (Nat.le_of_ble_eq_true rfl) (fun z66 h66 u66 v66 q66 => ?_)
    obtain ⟨hs, g, rfl, e66⟩ := q66
    rw [e66]
    clear e66 h66
    have s2 := XS_rs2 s1 g (gs hs 122).toNat 0 0 0
    have sl : XL (ps (x_apL (gs hs 122).toNat hs 0 0 0).1 48 (x_apL (gs hs 122).toNat hs 0 0 0).2) := s2.2.2.2.1
    obtain ⟨s3, r3⟩ := xed_r s2
    refine zp_X0_63 (pc := 69) dX0_restore_69 (fun _ => ⟨u66, v66⟩) ?_
    refine zx_aload_n (pc := 72) dX0_restore_72 rfl rfl ?_
    refine zg_X0_21 (pc := 73) dX0_restore_73 ?_
    refine zi_X0_215 (pc := 76) dX0_restore_76 (C_X3_loseOpen (h := ps (x_apL (gs hs 122).toNat hs 0 0 0).1 48 (x_apL (gs hs 122).toNat hs 0 0 0).2) sl) (by decide) (Nat.le_of_ble_eq_true rfl) (fun h76 q76 => ?_)
    rw [q76]
    clear q76 h76
    refine zx_aload_n (pc := 79) dX0_restore_79 rfl rfl ?_
    refine zx_iconst (pc := 80) dX0_restore_80 ?_
    refine zp_X0_84 (pc := 81) dX0_restore_81 (by omega) (fun _ => by decide) ?_
    rw [show ps (x_lost (ps (x_apL (gs hs 122).toNat hs 0 0 0).1 48 (x_apL (gs hs 122).toNat hs 0 0 0).2) (gs (ps (x_apL (gs hs 122).toNat hs 0 0 0).1 48 (x_apL (gs hs 122).toNat hs 0 0 0).2) 81 + 1)) 45 1 = x_rs2 (x_apL (gs hs 122).toNat hs 0 0 0) from rfl]
    refine zx_aload_n (pc := 84) dX0_restore_84 rfl rfl ?_
    refine zi_X0_218 (pc := 85) dX0_restore_85 (C_X0_eraseDeadBlocks s2) (by decide) (Nat.le_of_ble_eq_true rfl) (fun z85 h85 u85 v85 q85 => ?_)
    obtain ⟨rfl, e85⟩ := q85
    rw [e85]
    clear e85 h85
    refine zx_if_ne (pc := 88) (tgt := 97) dX0_restore_88 (by decide) (fun o => by first | exact o.1 _ (by decide) | exact o.2 _ _ | omega) (fun c88 => ?_) (fun c88 => ?_)
    · skip
      try replace c88 := b2i_n0.mp c88
      have r3a : (x_ed (x_rs2 (x_apL (gs hs 122).toNat hs 0 0 0))).2 = 0 ∨ (x_ed (x_rs2 (x_apL (gs hs 122).toNat hs 0 0 0))).2 = 1 := r3
      have c88a : (x_ed (x_rs2 (x_apL (gs hs 122).toNat hs 0 0 0))).2 ≠ 0 := c88
      have er : x_rs3 (x_ed (x_rs2 (x_apL (gs hs 122).toNat hs 0 0 0))) = (x_fa (x_ed (x_rs2 (x_apL (gs hs 122).toNat hs 0 0 0))).1, 1) := by
        unfold x_rs3
        rw [ifp_t (by omega)]
      refine zx_aload_n (pc := 97) dX0_restore_97 rfl rfl ?_
      refine zg_X0_12 (pc := 98) dX0_restore_98 ?_
      refine zi_X0_221 (pc := 101) dX0_restore_101 (C_X1_findNewestBlock s3.1) (by decide) (Nat.le_of_ble_eq_true rfl) (fun z101 h101 u101 v101 q101 => ?_)
      obtain ⟨rfl, e101⟩ := q101
      rw [e101]
      clear e101 h101
      refine zx_ok (fun ok3 => ?_)
      have nr := xNewest_r s3.1 ok3
      have b1 := s3.1.1
      refine zx_istore_n (pc := 104) dX0_restore_104 rfl (by decide) rfl ?_
      refine zx_aload_n (pc := 105) dX0_restore_105 rfl rfl ?_
      refine zx_aload_n (pc := 106) dX0_restore_106 rfl rfl ?_
      refine zg_X0_12 (pc := 107) dX0_restore_107 ?_
      refine zx_iload_n (pc := 110) dX0_restore_110 rfl rfl ?_
      refine zi_X0_138 (pc := 111) dX0_restore_111 (C_X1_countFreePages s3.1 (by omega) (fun z => s3.2.1 _ z.1 z.2)) (by decide) (Nat.le_of_ble_eq_true rfl) (fun z111 h111 u111 v111 q111 => ?_)
      obtain ⟨rfl, e111⟩ := q111
      rw [e111]
      clear e111 h111
      refine zx_if_le (pc := 114) (tgt := 121) dX0_restore_114 (by decide) (fun o => by first | exact o.1 _ (by decide) | exact o.2 _ _ | omega) (fun c114 => ?_) (fun c114 => ?_)
      · skip
        have ef : x_fa (x_ed (x_rs2 (x_apL (gs hs 122).toNat hs 0 0 0))).1 = ps (x_ed (x_rs2 (x_apL (gs hs 122).toNat hs 0 0 0))).1 46 (-1) := by
          unfold x_fa
          rw [ifp_f (by unfold xFP; omega)]
        refine zx_iconst (pc := 121) dX0_restore_121 ?_
        refine zp_X0_43 (pc := 122) dX0_restore_122 (fun _ => by omega) ?_
        refine zx_iconst (pc := 125) dX0_restore_125 ?_
        refine zx_zret (pc := 126) dX0_restore_126 (by omega) ?_
        exact ⟨hs, g, by rw [er], by rw [er]; exact ef.symm⟩
      · skip
        have ef : x_fa (x_ed (x_rs2 (x_apL (gs hs 122).toNat hs 0 0 0))).1 = ps (x_ed (x_rs2 (x_apL (gs hs 122).toNat hs 0 0 0))).1 46 (xNewest (x_ed (x_rs2 (x_apL (gs hs 122).toNat hs 0 0 0))).1) := by
          unfold x_fa
          rw [ifp_t (by unfold xFP; omega)]
        refine zx_iload_n (pc := 117) dX0_restore_117 rfl rfl ?_
        refine zx_goto (pc := 118) (tgt := 122) dX0_restore_118 (by decide) ?_
        refine zp_X0_43 (pc := 122) dX0_restore_122 (fun _ => by omega) ?_
        refine zx_iconst (pc := 125) dX0_restore_125 ?_
        refine zx_zret (pc := 126) dX0_restore_126 (by omega) ?_
        exact ⟨hs, g, by rw [er], by rw [er]; exact ef.symm⟩
    · skip
      try replace c88 := b2i_0.mp c88
      have c88a : (x_ed (x_rs2 (x_apL (gs hs 122).toNat hs 0 0 0))).2 = 0 := c88
      have er : x_rs3 (x_ed (x_rs2 (x_apL (gs hs 122).toNat hs 0 0 0))) = (x_lose (x_ed (x_rs2 (x_apL (gs hs 122).toNat hs 0 0 0))).1, 0) := by
        unfold x_rs3
        rw [ifp_f (by omega)]
      refine zx_aload_n (pc := 91) dX0_restore_91 rfl rfl ?_
      refine zi_X0_150 (pc := 92) dX0_restore_92 (C_X0_losePower) (by decide) (Nat.le_of_ble_eq_true rfl) (fun h92 q92 => ?_)
      rw [q92]
      clear q92 h92
      refine zx_iconst (pc := 95) dX0_restore_95 ?_
      refine zx_zret (pc := 96) dX0_restore_96 (by omega) ?_
      exact ⟨hs, g, by rw [er], by rw [er]⟩
  apply eX0_restore
  refine zx_ok (fun ok => ?_)
  refine zx_aload_n (pc := 0) dX0_restore_0 rfl rfl ?_
  refine zg_X0_12 (pc := 1) dX0_restore_1 ?_
  refine zi_X0_205 (pc := 4) dX0_restore_4 (C_X1_findLatestEnd s.1) (by decide) (Nat.le_of_ble_eq_true rfl) (fun z4 h4 u4 v4 q4 => ?_)
  obtain ⟨rfl, e4⟩ := q4
  rw [e4]
  clear e4 h4
  refine zx_istore_n (pc := 7) dX0_restore_7 rfl (by decide) rfl ?_
  refine zx_aload_n (pc := 8) dX0_restore_8 rfl rfl ?_
  refine zg_X0_12 (pc := 9) dX0_restore_9 ?_
  refine zx_iload_n (pc := 12) dX0_restore_12 rfl rfl ?_
  refine zi_X0_91 (pc := 13) dX0_restore_13 (C_X1_hasPlace (by omega)) (by decide) (Nat.le_of_ble_eq_true rfl) (fun z13 h13 u13 v13 q13 => ?_)
  obtain ⟨rfl, e13⟩ := q13
  rw [e13]
  clear e13 h13
  refine zx_if_eq (pc := 16) (tgt := 49) dX0_restore_16 (by decide) (fun o => by first | exact o.1 _ (by decide) | exact o.2 _ _ | omega) (fun c16 => ?_) (fun c16 => ?_)
  · skip
    try replace c16 := b2i_0.mp c16
    have er : x_rs1 h = h := ifp_f c16
    exact tail _ er.symm
  · skip
    try replace c16 := b2i_n0.mp c16
    have er : x_rs1 h = x_rm (ps (ps h 50 (ga h 12 (xEnd h))) 51 (ga h 13 (xEnd h))) := ifp_t c16
    obtain ⟨k1, k2⟩ := c16
    refine zx_aload_n (pc := 19) dX0_restore_19 rfl rfl ?_
    refine zx_aload_n (pc := 20) dX0_restore_20 rfl rfl ?_
    refine zg_X0_12 (pc := 21) dX0_restore_21 ?_
    refine zg_X0_112 (pc := 24) dX0_restore_24 ?_
    refine zx_iload_n (pc := 27) dX0_restore_27 rfl rfl ?_
    refine zx_iaload (pc := 28) aX1_group dX0_restore_28 (by omega) (by omega) (by omega) ?_
    refine zp_X0_69 (pc := 29) dX0_restore_29 (fun _ => ok.2 12 _) ?_
    refine zx_aload_n (pc := 32) dX0_restore_32 rfl rfl ?_
    refine zx_aload_n (pc := 33) dX0_restore_33 rfl rfl ?_
    refine zg_X0_12 (pc := 34) dX0_restore_34 ?_
    refine zg_X0_105 (pc := 37) dX0_restore_37 ?_
    refine zx_iload_n (pc := 40) dX0_restore_40 rfl rfl ?_
    refine zx_iaload (pc := 41) aX1_version dX0_restore_41 (by omega) (by omega) (by omega) ?_
    refine zp_X0_72 (pc := 42) dX0_restore_42 (fun _ => ok.2 13 _) ?_
    refine zx_aload_n (pc := 45) dX0_restore_45 rfl rfl ?_
    refine zi_X0_208 (pc := 46) dX0_restore_46 (C_X0_readMap (h := ps (ps h 50 (ga h 12 (xEnd h))) 51 (ga h 13 (xEnd h))) s.1 s.2.2.1 hm) (by decide) (Nat.le_of_ble_eq_true rfl) (fun h46 q46 => ?_)
    rw [q46]
    clear q46 h46
    exact tail _ er.symm

