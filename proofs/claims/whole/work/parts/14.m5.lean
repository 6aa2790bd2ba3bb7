/-! copying a page, the free block, the victim: contracts -/
def cpk (h : zH) (c : Nat) (to fr : Int) (d : Nat) (n : Int) : zH := (h.1, fun e j => if e = c ∧ 8 * to ≤ j ∧ j < 8 * to + n then h.2 d (8 * fr + (j - 8 * to)) else h.2 e j)
theorem ga_cpk (h : zH) (c d e : Nat) (to fr j n : Int) : ga (cpk h c to fr d n) e j = if e = c ∧ 8 * to ≤ j ∧ j < 8 * to + n then ga h d (8 * fr + (j - 8 * to)) else ga h e j := rfl
theorem cpk_0 (h : zH) (c : Nat) (to fr : Int) (d : Nat) : cpk h c to fr d 0 = h := by
  apply zH_ext
  · intro k; rfl
  · intro e j
    simp only [ga_cpk]
    grind
theorem cpk_next (h : zH) (c : Nat) (to fr : Int) {n : Int} (h0 : 0 ≤ n) (h1 : n < 8) : pa (cpk h c to fr c n) c (8 * to + n) (ga (cpk h c to fr c n) c (8 * fr + n)) = cpk h c to fr c (n + 1) := by
  apply zH_ext
  · intro k; rfl
  · intro e j
    simp only [ga_pa, ga_cpk]
    by_cases e1 : e = c
    · subst e1
      by_cases e2 : j = 8 * to + n
      · subst e2
        rw [if_pos ⟨rfl, rfl⟩, if_neg (by omega), if_pos (by omega)]
        congr 1
        omega
      · rw [if_neg (by omega)]
        by_cases e3 : 8 * to ≤ j ∧ j < 8 * to + n
        · rw [if_pos (by omega), if_pos (by omega)]
        · rw [if_neg (by omega), if_neg (by omega)]
    · rw [if_neg (fun z => e1 z.1), if_neg (fun z => e1 z.1), if_neg (fun z => e1 z.1)]
set_option maxRecDepth 100000 in
theorem L_X7_copiesPage {h0 : zH} {a1 v : Int} (h1 : 0 ≤ a1) (h2 : a1 < 1024) (h3 : 0 ≤ v) (h4 : v < 1024) (Q : Int → zH → Prop) (k : ∀ i, zX cM zNo RX7 cX7_copiesPage 4 (some .boolean) rX7_copiesPage 93 [some (.ref 0), some (.int (iI a1)), some (.int (iI v)), some (.int (iI i))] [] (cpk h0 8 v a1 8 8) (zEi cM Q)) : ∀ (n : Nat) (i : Int), 0 ≤ i → i ≤ 8 → 8 - i < n → zX cM zNo RX7 cX7_copiesPage 4 (some .boolean) rX7_copiesPage 59 [some (.ref 0), some (.int (iI a1)), some (.int (iI v)), some (.int (iI i))] [] (cpk h0 8 v a1 8 i) (zEi cM Q) := by
  intro n
  induction n with
  | zero => intro i g1 g2 g3; omega
  | succ n ih =>
    intro i g1 g2 g3
    refine zx_iload_n (pc := 59) dX7_copiesPage_59 rfl rfl ?_
    refine zx_bipush (pc := 60) dX7_copiesPage_60 (by decide +kernel) ?_
    refine zx_icmp_ge (pc := 62) (tgt := 93) dX7_copiesPage_62 (by decide) (fun o => by first | exact o.1 _ (by decide) | exact o.2 _ _ | omega) (fun o => by first | exact o.1 _ (by decide) | exact o.2 _ _ | omega) (fun c62 => ?_) (fun c62 => ?_)
    · skip
      have e2 : i = 8 := by omega
      rw [e2]
      exact k _
    · skip
      refine zx_aload_n (pc := 65) dX7_copiesPage_65 rfl rfl ?_
      refine zg_X7_31 (pc := 66) dX7_copiesPage_66 ?_
      refine zx_bipush (pc := 69) dX7_copiesPage_69 (by decide +kernel) ?_
      refine zx_iload_n (pc := 71) dX7_copiesPage_71 rfl rfl ?_
      refine zx_imul (pc := 72) dX7_copiesPage_72 ?_
      refine zx_iload_n (pc := 73) dX7_copiesPage_73 rfl rfl ?_
      refine zx_iadd (pc := 74) dX7_copiesPage_74 ?_
      refine zx_aload_n (pc := 75) dX7_copiesPage_75 rfl rfl ?_
      refine zg_X7_31 (pc := 76) dX7_copiesPage_76 ?_
      refine zx_bipush (pc := 79) dX7_copiesPage_79 (by decide +kernel) ?_
      refine zx_iload_n (pc := 81) dX7_copiesPage_81 rfl rfl ?_
      refine zx_imul (pc := 82) dX7_copiesPage_82 ?_
      refine zx_iload_n (pc := 83) dX7_copiesPage_83 rfl rfl ?_
      refine zx_iadd (pc := 84) dX7_copiesPage_84 ?_
      refine zx_iaload (pc := 85) aX7_mapped dX7_copiesPage_85 (by omega) (by omega) (by omega) ?_
      refine zx_iastore (pc := 86) aX7_mapped dX7_copiesPage_86 (by omega) (by omega) (by omega) (fun o => by first | exact o.1 _ (by decide) | exact o.2 _ _ | omega) ?_
      refine zx_iinc (pc := 87) dX7_copiesPage_87 (by decide) rfl rfl ?_
      refine zx_goto (pc := 90) (tgt := 59) dX7_copiesPage_90 (by decide) ?_
      rw [cpk_next _ _ _ _ g1 c62]
      exact ih (i + 1) (by omega) (by omega) (by omega)
set_option maxRecDepth 100000 in
theorem C_X7_copiesPage {h : zH} (hb : MB h) (ha : 0 ≤ gs h 25) (h1 : 0 ≤ gs h 32) (h2 : gs h 32 < gs h 1) (l1 : 0 ≤ m_low h) (l2 : m_low h < 1024) {a1 : Int} (g1 : 0 ≤ a1) (g2 : a1 < 1024) : kX7_copiesPage a1 h (fun r h2 => r = b2i (mOK h) ∧ h2 = m_copy h a1) := by
  apply eX7_copiesPage
  refine zx_ok (fun ok => ?_)
  have r := b2i_r (mOK h)
  refine zx_aload_n (pc := 0) dX7_copiesPage_0 rfl rfl ?_
  refine zi_X7_297 (pc := 1) dX7_copiesPage_1 (C_X7_lowestFree hb h1 h2) (by decide) (Nat.le_of_ble_eq_true rfl) (fun z1 h1 u1 v1 q1 => ?_)
  obtain ⟨rfl, e1⟩ := q1
  rw [e1]
  clear e1 h1
  refine zx_istore_n (pc := 4) dX7_copiesPage_4 rfl (by decide) rfl ?_
  refine zx_aload_n (pc := 5) dX7_copiesPage_5 rfl rfl ?_
  refine zx_iload_n (pc := 6) dX7_copiesPage_6 rfl rfl ?_
  refine zx_aload_n (pc := 7) dX7_copiesPage_7 rfl rfl ?_
  refine zg_X7_13 (pc := 8) dX7_copiesPage_8 ?_
  refine zx_iload_n (pc := 11) dX7_copiesPage_11 rfl rfl ?_
  refine zx_iaload (pc := 12) aX7_kind dX7_copiesPage_12 (by omega) (by omega) (by omega) ?_
  refine zx_aload_n (pc := 13) dX7_copiesPage_13 rfl rfl ?_
  refine zg_X7_16 (pc := 14) dX7_copiesPage_14 ?_
  refine zx_iload_n (pc := 17) dX7_copiesPage_17 rfl rfl ?_
  refine zx_iaload (pc := 18) aX7_index dX7_copiesPage_18 (by omega) (by omega) (by omega) ?_
  refine zx_aload_n (pc := 19) dX7_copiesPage_19 rfl rfl ?_
  refine zg_X7_19 (pc := 20) dX7_copiesPage_20 ?_
  refine zx_iload_n (pc := 23) dX7_copiesPage_23 rfl rfl ?_
  refine zx_iaload (pc := 24) aX7_group dX7_copiesPage_24 (by omega) (by omega) (by omega) ?_
  refine zi_X7_300 (pc := 25) dX7_copiesPage_25 (C_X7_programsAt ha l1 l2 (ok.2 2 a1) (ok.2 3 a1) (ok.2 4 a1)) (by decide) (Nat.le_of_ble_eq_true rfl) (fun z25 h25 u25 v25 q25 => ?_)
  obtain ⟨rfl, e25⟩ := q25
  rw [e25]
  clear e25 h25
  refine zx_if_ne (pc := 28) (tgt := 33) dX7_copiesPage_28 (by decide) (fun o => by first | exact o.1 _ (by decide) | exact o.2 _ _ | omega) (fun c28 => ?_) (fun c28 => ?_)
  · skip
    replace c28 := b2i_n0.mp c28
    refine zx_aload_n (pc := 33) dX7_copiesPage_33 rfl rfl ?_
    refine zg_X7_22 (pc := 34) dX7_copiesPage_34 ?_
    refine zx_iload_n (pc := 37) dX7_copiesPage_37 rfl rfl ?_
    refine zx_aload_n (pc := 38) dX7_copiesPage_38 rfl rfl ?_
    refine zg_X7_22 (pc := 39) dX7_copiesPage_39 ?_
    refine zx_iload_n (pc := 42) dX7_copiesPage_42 rfl rfl ?_
    refine zx_iaload (pc := 43) aX7_version dX7_copiesPage_43 (by omega) (by omega) (by omega) ?_
    refine zx_iastore (pc := 44) aX7_version dX7_copiesPage_44 (by omega) (by omega) (by omega) (fun o => by first | exact o.1 _ (by decide) | exact o.2 _ _ | omega) ?_
    refine zx_aload_n (pc := 45) dX7_copiesPage_45 rfl rfl ?_
    refine zg_X7_28 (pc := 46) dX7_copiesPage_46 ?_
    refine zx_iload_n (pc := 49) dX7_copiesPage_49 rfl rfl ?_
    refine zx_aload_n (pc := 50) dX7_copiesPage_50 rfl rfl ?_
    refine zg_X7_28 (pc := 51) dX7_copiesPage_51 ?_
    refine zx_iload_n (pc := 54) dX7_copiesPage_54 rfl rfl ?_
    refine zx_iaload (pc := 55) aX7_value dX7_copiesPage_55 (by omega) (by omega) (by omega) ?_
    refine zx_iastore (pc := 56) aX7_value dX7_copiesPage_56 (by omega) (by omega) (by omega) (fun o => by first | exact o.1 _ (by decide) | exact o.2 _ _ | omega) ?_
    refine zx_iconst (pc := 57) dX7_copiesPage_57 ?_
    refine zx_istore_n (pc := 58) dX7_copiesPage_58 rfl (by decide) rfl ?_
    have r := L_X7_copiesPage (h0 := pa (pa (m_prog h (m_low h) (ga h 2 a1) (ga h 3 a1) (ga h 4 a1)) 5 (m_low h) (ga (m_prog h (m_low h) (ga h 2 a1) (ga h 3 a1) (ga h 4 a1)) 5 a1)) 7 (m_low h) (ga (m_prog h (m_low h) (ga h 2 a1) (ga h 3 a1) (ga h 4 a1)) 7 a1)) g1 g2 l1 l2 (fun r h2 => r = b2i (mOK h) ∧ h2 = m_copy h a1) (fun i => ?_) 9 0 (by omega) (by omega) (by omega)
    · rw [cpk_0] at r
      exact r
    refine zx_aload_n (pc := 93) dX7_copiesPage_93 rfl rfl ?_
    refine zx_aload_n (pc := 94) dX7_copiesPage_94 rfl rfl ?_
    refine zg_X7_120 (pc := 95) dX7_copiesPage_95 ?_
    refine zx_iconst (pc := 98) dX7_copiesPage_98 ?_
    refine zx_iadd (pc := 99) dX7_copiesPage_99 ?_
    refine zx_wr ?_
    refine zp_X7_120 (pc := 100) dX7_copiesPage_100 (fun _ => wr_rng _) ?_
    refine zx_iconst (pc := 103) dX7_copiesPage_103 ?_
    refine zx_zret (pc := 104) dX7_copiesPage_104 (by omega) ?_
    refine ⟨(b2i_t c28).symm, ?_⟩
    unfold m_copy
    rw [ifp_t c28]
    rfl
  · skip
    replace c28 := b2i_0.mp c28
    refine zx_iconst (pc := 31) dX7_copiesPage_31 ?_
    refine zx_zret (pc := 32) dX7_copiesPage_32 (by omega) ?_
    exact ⟨(b2i_f c28).symm, by unfold m_copy; rw [ifp_f c28]⟩
theorem mFB_r (h : zH) : ∀ n : Nat, -1 ≤ mFB h n ∧ mFB h n < n
  | 0 => by simp [mFB]
  | n + 1 => by
    have q := mFB_r h n
    rw [mFB]
    rcases Classical.em (mIsFree h n ∧ (mFB h n = -1 ∨ ga h 9 n < ga h 9 (mFB h n))) with c | c
    · rw [ifp_t c]; omega
    · rw [ifp_f c]; omega
theorem toNat_next {i : Int} (h : 0 ≤ i) : (i + 1).toNat = i.toNat + 1 ∧ (i.toNat : Int) = i := by omega
set_option maxRecDepth 100000 in
theorem L_X7_freeBlock {h : zH} (hb : MB h) (Q : Int → zH → Prop) (hQ : Q (m_fblk h) h) : ∀ (n : Nat) (i c : Int), 0 ≤ i → i ≤ gs h 1 → gs h 1 - i < n → c = mFB h i.toNat → zX cM zNo RX7 cX7_freeBlock 3 (some .int) rX7_freeBlock 4 [some (.ref 0), some (.int (iI c)), some (.int (iI i))] [] h (zEi cM Q) := by
  have hb0 := hb
  obtain ⟨m1, m2, m3, m4, m5, m6⟩ := hb
  intro n
  induction n with
  | zero => intro i c g1 g2 g3; omega
  | succ n ih =>
    intro i c g1 g2 g3 g4
    have g5 := mFB_r h i.toNat
    obtain ⟨g6, g7⟩ := toNat_next g1
    have y (z : mIsFree h i ∧ (c = -1 ∨ ga h 9 i < ga h 9 c)) : mFB h (i + 1).toNat = i := by
      rw [g6, mFB, g7, ← g4]
      exact ifp_t z
    have nn (z : ¬ (mIsFree h i ∧ (c = -1 ∨ ga h 9 i < ga h 9 c))) : mFB h (i + 1).toNat = c := by
      rw [g6, mFB, g7, ← g4]
      exact ifp_f z
    refine zx_iload_n (pc := 4) dX7_freeBlock_4 rfl rfl ?_
    refine zx_aload_n (pc := 5) dX7_freeBlock_5 rfl rfl ?_
    refine zg_X7_79 (pc := 6) dX7_freeBlock_6 ?_
    refine zx_icmp_ge (pc := 9) (tgt := 48) dX7_freeBlock_9 (by decide) (fun o => by first | exact o.1 _ (by decide) | exact o.2 _ _ | omega) (fun o => by first | exact o.1 _ (by decide) | exact o.2 _ _ | omega) (fun c9 => ?_) (fun c9 => ?_)
    · skip
      refine zx_iload_n (pc := 48) dX7_freeBlock_48 rfl rfl ?_
      refine zx_iret (pc := 49) dX7_freeBlock_49 (fun o => by first | exact o.1 _ (by decide) | exact o.2 _ _ | omega) ?_
      have e : i = gs h 1 := by omega
      rw [g4, e]
      exact hQ
    · skip
      refine zx_aload_n (pc := 12) dX7_freeBlock_12 rfl rfl ?_
      refine zx_iload_n (pc := 13) dX7_freeBlock_13 rfl rfl ?_
      refine zi_X7_288 (pc := 14) dX7_freeBlock_14 (C_X7_isFree hb0 g1 c9) (by decide) (Nat.le_of_ble_eq_true rfl) (fun z14 h14 u14 v14 q14 => ?_)
      obtain ⟨rfl, e14⟩ := q14
      rw [e14]
      clear e14 h14
      refine zx_if_eq (pc := 17) (tgt := 42) dX7_freeBlock_17 (by decide) (fun o => by first | exact o.1 _ (by decide) | exact o.2 _ _ | omega) (fun c17 => ?_) (fun c17 => ?_)
      · skip
        replace c17 := b2i_0.mp c17
        refine zx_iinc (pc := 42) dX7_freeBlock_42 (by decide) rfl rfl ?_
        refine zx_goto (pc := 45) (tgt := 4) dX7_freeBlock_45 (by decide) ?_
        exact ih (i + 1) _ (by omega) (by omega) (by omega) (by first | exact (y (by grind)).symm | exact (nn (by grind)).symm)
      · skip
        replace c17 := b2i_n0.mp c17
        refine zx_iload_n (pc := 20) dX7_freeBlock_20 rfl rfl ?_
        refine zx_iconst (pc := 21) dX7_freeBlock_21 ?_
        refine zx_icmp_eq (pc := 22) (tgt := 40) dX7_freeBlock_22 (by decide) (fun o => by first | exact o.1 _ (by decide) | exact o.2 _ _ | omega) (fun o => by first | exact o.1 _ (by decide) | exact o.2 _ _ | omega) (fun c22 => ?_) (fun c22 => ?_)
        · skip
          refine zx_iload_n (pc := 40) dX7_freeBlock_40 rfl rfl ?_
          refine zx_istore_n (pc := 41) dX7_freeBlock_41 rfl (by decide) rfl ?_
          refine zx_iinc (pc := 42) dX7_freeBlock_42 (by decide) rfl rfl ?_
          refine zx_goto (pc := 45) (tgt := 4) dX7_freeBlock_45 (by decide) ?_
          exact ih (i + 1) _ (by omega) (by omega) (by omega) (by first | exact (y (by grind)).symm | exact (nn (by grind)).symm)
        · skip
          refine zx_aload_n (pc := 25) dX7_freeBlock_25 rfl rfl ?_
          refine zg_X7_34 (pc := 26) dX7_freeBlock_26 ?_
          refine zx_iload_n (pc := 29) dX7_freeBlock_29 rfl rfl ?_
          refine zx_iaload (pc := 30) aX7_eraseCount dX7_freeBlock_30 (by omega) (by omega) (by omega) ?_
          refine zx_aload_n (pc := 31) dX7_freeBlock_31 rfl rfl ?_
          refine zg_X7_34 (pc := 32) dX7_freeBlock_32 ?_
          refine zx_iload_n (pc := 35) dX7_freeBlock_35 rfl rfl ?_
          refine zx_iaload (pc := 36) aX7_eraseCount dX7_freeBlock_36 (by omega) (by omega) (by omega) ?_
          refine zx_icmp_ge (pc := 37) (tgt := 42) dX7_freeBlock_37 (by decide) (fun o => by first | exact o.1 _ (by decide) | exact o.2 _ _ | omega) (fun o => by first | exact o.1 _ (by decide) | exact o.2 _ _ | omega) (fun c37 => ?_) (fun c37 => ?_)
          · skip
            refine zx_iinc (pc := 42) dX7_freeBlock_42 (by decide) rfl rfl ?_
            refine zx_goto (pc := 45) (tgt := 4) dX7_freeBlock_45 (by decide) ?_
            exact ih (i + 1) _ (by omega) (by omega) (by omega) (by first | exact (y (by grind)).symm | exact (nn (by grind)).symm)
          · skip
            refine zx_iload_n (pc := 40) dX7_freeBlock_40 rfl rfl ?_
            refine zx_istore_n (pc := 41) dX7_freeBlock_41 rfl (by decide) rfl ?_
            refine zx_iinc (pc := 42) dX7_freeBlock_42 (by decide) rfl rfl ?_
            refine zx_goto (pc := 45) (tgt := 4) dX7_freeBlock_45 (by decide) ?_
            exact ih (i + 1) _ (by omega) (by omega) (by omega) (by first | exact (y (by grind)).symm | exact (nn (by grind)).symm)
set_option maxRecDepth 100000 in
theorem C_X7_freeBlock {h : zH} (hb : MB h) : kX7_freeBlock h (fun r h2 => r = m_fblk h ∧ h2 = h) := by
  apply eX7_freeBlock
  refine zx_iconst (pc := 0) dX7_freeBlock_0 ?_
  refine zx_istore_n (pc := 1) dX7_freeBlock_1 rfl (by decide) rfl ?_
  refine zx_iconst (pc := 2) dX7_freeBlock_2 ?_
  refine zx_istore_n (pc := 3) dX7_freeBlock_3 rfl (by decide) rfl ?_
  exact L_X7_freeBlock hb (fun r h2 => r = m_fblk h ∧ h2 = h) ⟨rfl, rfl⟩ ((gs h 1).toNat + 1) 0 _ (Int.le_refl _) hb.1 (by have := hb.1; omega) rfl
theorem mNV_r {h : zH} (hb : MB h) : ∀ n : Nat, -1 ≤ (mNV h n).1 ∧ (mNV h n).1 < n ∧ 0 ≤ (mNV h n).2 ∧ (mNV h n).2 ≤ 32
  | 0 => by
    have q := mFreeIn_r hb (gs h 32)
    have := hb.2.2.2.1
    simp only [mNV]
    omega
  | n + 1 => by
    have q := mNV_r hb n
    have q2 := mValidIn_r hb n
    have := hb.2.2.2.1
    rw [mNV]
    rcases Classical.em (¬ ((n : Int) = gs h 32 ∨ mIsFree h n) ∧ (mValidIn h n < (mNV h n).2 ∨ (mNV h n).1 ≠ -1 ∧ mValidIn h n = (mNV h n).2 ∧ ga h 9 n < ga h 9 (mNV h n).1)) with c | c
    · rw [ifp_t c]; simp only; omega
    · rw [ifp_f c]; omega
set_option maxRecDepth 100000 in
theorem L_X7_nextVictim {h : zH} (hb : MB h) (hi : MI h) (Q : Int → zH → Prop) (hQ : Q (m_vict h) h) : ∀ (n : Nat) (i c f : Int), 0 ≤ i → i ≤ gs h 1 → gs h 1 - i < n → c = (mNV h i.toNat).1 → f = (mNV h i.toNat).2 → zX cM zNo RX7 cX7_nextVictim 6 (some .int) rX7_nextVictim 13 [some (.ref 0), some (.int (iI c)), some (.int (iI f)), some (.int (iI i)), none, none] [] h (zEi cM Q) := by
  have hb0 := hb
  obtain ⟨m1, m2, m3, m4, m5, m6⟩ := hb
  intro n
  induction n with
  | zero => intro i c f g1 g2 g3; omega
  | succ n ih =>
    intro i c f g1 g2 g3 g4 g8
    have g5 := mNV_r hb0 i.toNat
    have g9 := mValidIn_r hb0 i
    obtain ⟨g6, g7⟩ := toNat_next g1
    have y (z : ¬ (i = gs h 32 ∨ mIsFree h i) ∧ (mValidIn h i < f ∨ c ≠ -1 ∧ mValidIn h i = f ∧ ga h 9 i < ga h 9 c)) : mNV h (i + 1).toNat = (i, mValidIn h i) := by
      rw [g6, mNV, g7, ← g4, ← g8]
      exact ifp_t z
    have nn (z : ¬ (¬ (i = gs h 32 ∨ mIsFree h i) ∧ (mValidIn h i < f ∨ c ≠ -1 ∧ mValidIn h i = f ∧ ga h 9 i < ga h 9 c))) : mNV h (i + 1).toNat = (c, f) := by
      rw [g6, mNV, g7, ← g4, ← g8]
      exact (ifp_f z).trans (by rw [g4, g8])
    refine zx_iload_n (pc := 13) dX7_nextVictim_13 rfl rfl ?_
    refine zx_aload_n (pc := 14) dX7_nextVictim_14 rfl rfl ?_
    refine zg_X7_79 (pc := 15) dX7_nextVictim_15 ?_
    refine zx_icmp_ge (pc := 18) (tgt := 102) dX7_nextVictim_18 (by decide) (fun o => by first | exact o.1 _ (by decide) | exact o.2 _ _ | omega) (fun o => by first | exact o.1 _ (by decide) | exact o.2 _ _ | omega) (fun c18 => ?_) (fun c18 => ?_)
    · skip
      refine zx_iload_n (pc := 102) dX7_nextVictim_102 rfl rfl ?_
      refine zx_iret (pc := 103) dX7_nextVictim_103 (fun o => by first | exact o.1 _ (by decide) | exact o.2 _ _ | omega) ?_
      have e : i = gs h 1 := by omega
      rw [g4, e]
      exact hQ
    · skip
      refine zx_iload_n (pc := 21) dX7_nextVictim_21 rfl rfl ?_
      refine zx_aload_n (pc := 22) dX7_nextVictim_22 rfl rfl ?_
      refine zg_X7_53 (pc := 23) dX7_nextVictim_23 ?_
      refine zx_icmp_eq (pc := 26) (tgt := 96) dX7_nextVictim_26 (by decide) (fun o => by first | exact o.1 _ (by decide) | exact o.2 _ _ | omega) (fun o => by first | exact o.1 _ (by decide) | exact o.2 _ _ | omega) (fun c26 => ?_) (fun c26 => ?_)
      · skip
        refine zx_iinc (pc := 96) dX7_nextVictim_96 (by decide) rfl rfl ?_
        refine zx_goto (pc := 99) (tgt := 13) dX7_nextVictim_99 (by decide) ?_
        refine zx_sub [true, true, true, true, false, false] ?_
        dsimp only [zMask, List.set]
        first
        | (have w2 := w
           exact ih (i + 1) _ _ (by omega) (by omega) (by omega) (by rw [w2]) (by rw [w2]))
        | (have w2 := nn (by grind)
           exact ih (i + 1) _ _ (by omega) (by omega) (by omega) (by rw [w2]) (by rw [w2]))
      · skip
        refine zx_aload_n (pc := 29) dX7_nextVictim_29 rfl rfl ?_
        refine zx_iload_n (pc := 30) dX7_nextVictim_30 rfl rfl ?_
        refine zi_X7_288 (pc := 31) dX7_nextVictim_31 (C_X7_isFree hb0 g1 c18) (by decide) (Nat.le_of_ble_eq_true rfl) (fun z31 h31 u31 v31 q31 => ?_)
        obtain ⟨rfl, e31⟩ := q31
        rw [e31]
        clear e31 h31
        refine zx_if_eq (pc := 34) (tgt := 40) dX7_nextVictim_34 (by decide) (fun o => by first | exact o.1 _ (by decide) | exact o.2 _ _ | omega) (fun c34 => ?_) (fun c34 => ?_)
        · skip
          replace c34 := b2i_0.mp c34
          refine zx_aload_n (pc := 40) dX7_nextVictim_40 rfl rfl ?_
          refine zx_iload_n (pc := 41) dX7_nextVictim_41 rfl rfl ?_
          refine zi_X7_279 (pc := 42) dX7_nextVictim_42 (C_X7_validIn hb0 hi g1 c18) (by decide) (Nat.le_of_ble_eq_true rfl) (fun z42 h42 u42 v42 q42 => ?_)
          obtain ⟨rfl, e42⟩ := q42
          rw [e42]
          clear e42 h42
          refine zx_istore (pc := 45) dX7_nextVictim_45 (by decide) rfl ?_
          refine zx_iload (pc := 47) dX7_nextVictim_47 rfl ?_
          refine zx_iload_n (pc := 49) dX7_nextVictim_49 rfl rfl ?_
          refine zx_icmp_lt (pc := 50) (tgt := 79) dX7_nextVictim_50 (by decide) (fun o => by first | exact o.1 _ (by decide) | exact o.2 _ _ | omega) (fun o => by first | exact o.1 _ (by decide) | exact o.2 _ _ | omega) (fun c50 => ?_) (fun c50 => ?_)
          · skip
            refine zx_iconst (pc := 79) dX7_nextVictim_79 ?_
            refine zx_goto (pc := 80) (tgt := 84) dX7_nextVictim_80 (by decide) ?_
            refine zx_istore (pc := 84) dX7_nextVictim_84 (by decide) rfl ?_
            refine zx_iload (pc := 86) dX7_nextVictim_86 rfl ?_
            refine zx_if_eq (pc := 88) (tgt := 96) dX7_nextVictim_88 (by decide) (fun _ => by decide) (fun c9 => absurd c9 (by decide)) (fun _ => ?_)
            have w := y (by grind)
            refine zx_iload_n (pc := 91) dX7_nextVictim_91 rfl rfl ?_
            refine zx_istore_n (pc := 92) dX7_nextVictim_92 rfl (by decide) rfl ?_
            refine zx_iload (pc := 93) dX7_nextVictim_93 rfl ?_
            refine zx_istore_n (pc := 95) dX7_nextVictim_95 rfl (by decide) rfl ?_
            refine zx_iinc (pc := 96) dX7_nextVictim_96 (by decide) rfl rfl ?_
            refine zx_goto (pc := 99) (tgt := 13) dX7_nextVictim_99 (by decide) ?_
            refine zx_sub [true, true, true, true, false, false] ?_
            dsimp only [zMask, List.set]
            first
            | (have w2 := w
               exact ih (i + 1) _ _ (by omega) (by omega) (by omega) (by rw [w2]) (by rw [w2]))
            | (have w2 := nn (by grind)
               exact ih (i + 1) _ _ (by omega) (by omega) (by omega) (by rw [w2]) (by rw [w2]))
          · skip
            refine zx_iload_n (pc := 53) dX7_nextVictim_53 rfl rfl ?_
            refine zx_iconst (pc := 54) dX7_nextVictim_54 ?_
            refine zx_icmp_eq (pc := 55) (tgt := 83) dX7_nextVictim_55 (by decide) (fun o => by first | exact o.1 _ (by decide) | exact o.2 _ _ | omega) (fun o => by first | exact o.1 _ (by decide) | exact o.2 _ _ | omega) (fun c55 => ?_) (fun c55 => ?_)
            · skip
              refine zx_iconst (pc := 83) dX7_nextVictim_83 ?_
              refine zx_istore (pc := 84) dX7_nextVictim_84 (by decide) rfl ?_
              refine zx_iload (pc := 86) dX7_nextVictim_86 rfl ?_
              refine zx_if_eq (pc := 88) (tgt := 96) dX7_nextVictim_88 (by decide) (fun _ => by decide) (fun _ => ?_) (fun c9 => absurd c9 (by decide))
              refine zx_iinc (pc := 96) dX7_nextVictim_96 (by decide) rfl rfl ?_
              refine zx_goto (pc := 99) (tgt := 13) dX7_nextVictim_99 (by decide) ?_
              refine zx_sub [true, true, true, true, false, false] ?_
              dsimp only [zMask, List.set]
              first
              | (have w2 := w
                 exact ih (i + 1) _ _ (by omega) (by omega) (by omega) (by rw [w2]) (by rw [w2]))
              | (have w2 := nn (by grind)
                 exact ih (i + 1) _ _ (by omega) (by omega) (by omega) (by rw [w2]) (by rw [w2]))
            · skip
              refine zx_iload (pc := 58) dX7_nextVictim_58 rfl ?_
              refine zx_iload_n (pc := 60) dX7_nextVictim_60 rfl rfl ?_
              refine zx_icmp_ne (pc := 61) (tgt := 83) dX7_nextVictim_61 (by decide) (fun o => by first | exact o.1 _ (by decide) | exact o.2 _ _ | omega) (fun o => by first | exact o.1 _ (by decide) | exact o.2 _ _ | omega) (fun c61 => ?_) (fun c61 => ?_)
              · skip
                refine zx_iconst (pc := 83) dX7_nextVictim_83 ?_
                refine zx_istore (pc := 84) dX7_nextVictim_84 (by decide) rfl ?_
                refine zx_iload (pc := 86) dX7_nextVictim_86 rfl ?_
                refine zx_if_eq (pc := 88) (tgt := 96) dX7_nextVictim_88 (by decide) (fun _ => by decide) (fun _ => ?_) (fun c9 => absurd c9 (by decide))
                refine zx_iinc (pc := 96) dX7_nextVictim_96 (by decide) rfl rfl ?_
                refine zx_goto (pc := 99) (tgt := 13) dX7_nextVictim_99 (by decide) ?_
                refine zx_sub [true, true, true, true, false, false] ?_
                dsimp only [zMask, List.set]
                first
                | (have w2 := w
                   exact ih (i + 1) _ _ (by omega) (by omega) (by omega) (by rw [w2]) (by rw [w2]))
                | (have w2 := nn (by grind)
                   exact ih (i + 1) _ _ (by omega) (by omega) (by omega) (by rw [w2]) (by rw [w2]))
              · skip
                refine zx_aload_n (pc := 64) dX7_nextVictim_64 rfl rfl ?_
                refine zg_X7_34 (pc := 65) dX7_nextVictim_65 ?_
                refine zx_iload_n (pc := 68) dX7_nextVictim_68 rfl rfl ?_
                refine zx_iaload (pc := 69) aX7_eraseCount dX7_nextVictim_69 (by omega) (by omega) (by omega) ?_
                refine zx_aload_n (pc := 70) dX7_nextVictim_70 rfl rfl ?_
                refine zg_X7_34 (pc := 71) dX7_nextVictim_71 ?_
                refine zx_iload_n (pc := 74) dX7_nextVictim_74 rfl rfl ?_
                refine zx_iaload (pc := 75) aX7_eraseCount dX7_nextVictim_75 (by omega) (by omega) (by omega) ?_
                refine zx_icmp_ge (pc := 76) (tgt := 83) dX7_nextVictim_76 (by decide) (fun o => by first | exact o.1 _ (by decide) | exact o.2 _ _ | omega) (fun o => by first | exact o.1 _ (by decide) | exact o.2 _ _ | omega) (fun c76 => ?_) (fun c76 => ?_)
                · skip
                  refine zx_iconst (pc := 83) dX7_nextVictim_83 ?_
                  refine zx_istore (pc := 84) dX7_nextVictim_84 (by decide) rfl ?_
                  refine zx_iload (pc := 86) dX7_nextVictim_86 rfl ?_
                  refine zx_if_eq (pc := 88) (tgt := 96) dX7_nextVictim_88 (by decide) (fun _ => by decide) (fun _ => ?_) (fun c9 => absurd c9 (by decide))
                  refine zx_iinc (pc := 96) dX7_nextVictim_96 (by decide) rfl rfl ?_
                  refine zx_goto (pc := 99) (tgt := 13) dX7_nextVictim_99 (by decide) ?_
                  refine zx_sub [true, true, true, true, false, false] ?_
                  dsimp only [zMask, List.set]
                  first
                  | (have w2 := w
                     exact ih (i + 1) _ _ (by omega) (by omega) (by omega) (by rw [w2]) (by rw [w2]))
                  | (have w2 := nn (by grind)
                     exact ih (i + 1) _ _ (by omega) (by omega) (by omega) (by rw [w2]) (by rw [w2]))
                · skip
                  refine zx_iconst (pc := 79) dX7_nextVictim_79 ?_
                  refine zx_goto (pc := 80) (tgt := 84) dX7_nextVictim_80 (by decide) ?_
                  refine zx_istore (pc := 84) dX7_nextVictim_84 (by decide) rfl ?_
                  refine zx_iload (pc := 86) dX7_nextVictim_86 rfl ?_
                  refine zx_if_eq (pc := 88) (tgt := 96) dX7_nextVictim_88 (by decide) (fun _ => by decide) (fun c9 => absurd c9 (by decide)) (fun _ => ?_)
                  have w := y (by grind)
                  refine zx_iload_n (pc := 91) dX7_nextVictim_91 rfl rfl ?_
                  refine zx_istore_n (pc := 92) dX7_nextVictim_92 rfl (by decide) rfl ?_
                  refine zx_iload (pc := 93) dX7_nextVictim_93 rfl ?_
                  refine zx_istore_n (pc := 95) dX7_nextVictim_95 rfl (by decide) rfl ?_
                  refine zx_iinc (pc := 96) dX7_nextVictim_96 (by decide) rfl rfl ?_
                  refine zx_goto (pc := 99) (tgt := 13) dX7_nextVictim_99 (by decide) ?_
                  refine zx_sub [true, true, true, true, false, false] ?_
                  dsimp only [zMask, List.set]
                  first
                  | (have w2 := w
                     exact ih (i + 1) _ _ (by omega) (by omega) (by omega) (by rw [w2]) (by rw [w2]))
                  | (have w2 := nn (by grind)
                     exact ih (i + 1) _ _ (by omega) (by omega) (by omega) (by rw [w2]) (by rw [w2]))
        · skip
          replace c34 := b2i_n0.mp c34
          refine zx_goto (pc := 37) (tgt := 96) dX7_nextVictim_37 (by decide) ?_
          refine zx_iinc (pc := 96) dX7_nextVictim_96 (by decide) rfl rfl ?_
          refine zx_goto (pc := 99) (tgt := 13) dX7_nextVictim_99 (by decide) ?_
          refine zx_sub [true, true, true, true, false, false] ?_
          dsimp only [zMask, List.set]
          first
          | (have w2 := w
             exact ih (i + 1) _ _ (by omega) (by omega) (by omega) (by rw [w2]) (by rw [w2]))
          | (have w2 := nn (by grind)
             exact ih (i + 1) _ _ (by omega) (by omega) (by omega) (by rw [w2]) (by rw [w2]))
set_option maxRecDepth 100000 in
theorem C_X7_nextVictim {h : zH} (hb : MB h) (hi : MI h) (h1 : 0 ≤ gs h 32) (h2 : gs h 32 < gs h 1) : kX7_nextVictim h (fun r h2 => r = m_vict h ∧ h2 = h) := by
  apply eX7_nextVictim
  have q := mFreeIn_r hb (gs h 32)
  refine zx_iconst (pc := 0) dX7_nextVictim_0 ?_
  refine zx_istore_n (pc := 1) dX7_nextVictim_1 rfl (by decide) rfl ?_
  refine zx_aload_n (pc := 2) dX7_nextVictim_2 rfl rfl ?_
  refine zx_aload_n (pc := 3) dX7_nextVictim_3 rfl rfl ?_
  refine zg_X7_53 (pc := 4) dX7_nextVictim_4 ?_
  refine zi_X7_285 (pc := 7) dX7_nextVictim_7 (C_X7_freeIn hb h1 h2) (by decide) (Nat.le_of_ble_eq_true rfl) (fun z7 h7 u7 v7 q7 => ?_)
  obtain ⟨rfl, e7⟩ := q7
  rw [e7]
  clear e7 h7
  refine zx_istore_n (pc := 10) dX7_nextVictim_10 rfl (by decide) rfl ?_
  refine zx_iconst (pc := 11) dX7_nextVictim_11 ?_
  refine zx_istore_n (pc := 12) dX7_nextVictim_12 rfl (by decide) rfl ?_
  exact L_X7_nextVictim hb hi (fun r h2 => r = m_vict h ∧ h2 = h) ⟨rfl, rfl⟩ ((gs h 1).toNat + 1) 0 _ _ (Int.le_refl _) hb.1 (by have := hb.1; omega) rfl rfl

