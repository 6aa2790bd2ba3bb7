/-! readers, power: what they make, and contracts -/
noncomputable def mReaders (h : zH) : Int := cnt (fun r => ga h 14 r ≠ 0) 0 4
def mRd (h : zH) (r : Int) : Prop := (0 ≤ r ∧ r ≤ 3) ∧ ga h 14 r ≠ 0
def m_rdv (h : zH) (r n : Int) : zH := (h.1, fun c j => if c = 13 ∧ 64 * r ≤ j ∧ j < 64 * r + n then h.2 10 (j - 64 * r) else h.2 c j)
theorem ga_rdv (h : zH) (r n : Int) (c : Nat) (j : Int) : ga (m_rdv h r n) c j = if c = 13 ∧ 64 * r ≤ j ∧ j < 64 * r + n then ga h 10 (j - 64 * r) else ga h c j := rfl
theorem gs_rdv (h : zH) (r n : Int) (k : Nat) : gs (m_rdv h r n) k = gs h k := rfl
noncomputable def mNewRd (h : zH) : Int := ff (fun r => ga h 14 r = 0) 0 4
noncomputable def m_openR (h : zH) : zH × Int := ifp (gs h 26 = 0 ∨ mReaders h = 4) (ps h 0 1, 0) (m_rdv (pa (ps h 0 0) 14 (mNewRd h) 1) (mNewRd h) 64, mNewRd h)
noncomputable def m_readBy (h : zH) (r p : Int) : zH × Int := ifp (¬ mRd h r ∨ ¬ mLg h p) (ps h 0 1, 0) (ps h 0 0, mVal h p (ga h 13 (64 * r + p)))
noncomputable def m_closeR (h : zH) (r : Int) : zH × Int := ifp (mRd h r) (pa (ps h 0 0) 14 r 0, mReaders (pa (ps h 0 0) 14 r 0)) (ps h 0 1, 0)
noncomputable def m_arm (h : zH) (n : Int) : zH × Int := ifp (0 ≤ n ∧ n ≤ 1000) (ps (ps h 0 0) 25 (ifp (gs h 1 = 0) 0 n), gs h 25) (ps h 0 1, 0)
noncomputable def m_off (h : zH) : zH × Int := ifp (gs h 26 = 0) (ps h 0 1, 0) (m_loses (ps h 0 0), mOpen h)
set_option maxRecDepth 100000 in
theorem L_X7_readerMany {h : zH} (Q : Int → zH → Prop) (hQ : Q (mReaders h) h) : ∀ (n : Nat) (i c : Int), 0 ≤ i → i ≤ 4 → 4 - i < n → c = cnt (fun r => ga h 14 r ≠ 0) 0 (i - 0).toNat → zX cM zNo RX7 cX7_readerMany 3 (some .int) rX7_readerMany 4 [some (.ref 0), some (.int (iI c)), some (.int (iI i))] [] h (zEi cM Q) := by
  intro n
  induction n with
  | zero => intro i c g1 g2 g3; omega
  | succ n ih =>
    intro i c g1 g2 g3 g4
    have g5 := cnt_r (fun r => ga h 14 r ≠ 0) 0 (i - 0).toNat
    have g6 := cnt_next (p := fun r => ga h 14 r ≠ 0) g1
    refine zx_iload_n (pc := 4) dX7_readerMany_4 rfl rfl ?_
    refine zx_iconst (pc := 5) dX7_readerMany_5 ?_
    refine zx_icmp_ge (pc := 6) (tgt := 32) dX7_readerMany_6 (by decide) (fun o => by first | exact o.1 _ (by decide) | exact o.2 _ _ | omega) (fun o => by first | exact o.1 _ (by decide) | exact o.2 _ _ | omega) (fun c6 => ?_) (fun c6 => ?_)
    · skip
      refine zx_iload_n (pc := 32) dX7_readerMany_32 rfl rfl ?_
      refine zx_iret (pc := 33) dX7_readerMany_33 (fun o => by first | exact o.1 _ (by decide) | exact o.2 _ _ | omega) ?_
      have e : i - 0 = 4 := by omega
      rw [g4, e]
      exact hQ
    · skip
      refine zx_aload_n (pc := 9) dX7_readerMany_9 rfl rfl ?_
      refine zg_X7_49 (pc := 10) dX7_readerMany_10 ?_
      refine zx_iload_n (pc := 13) dX7_readerMany_13 rfl rfl ?_
      refine zx_baload (pc := 14) aX7_isReader dX7_readerMany_14 (by omega) (by omega) (by omega) ?_
      refine zx_if_eq (pc := 15) (tgt := 24) dX7_readerMany_15 (by decide) (fun o => by first | exact o.1 _ (by decide) | exact o.2 _ _ | omega) (fun c15 => ?_) (fun c15 => ?_)
      · skip
        refine zx_iload_n (pc := 24) dX7_readerMany_24 rfl rfl ?_
        refine zx_istore_n (pc := 25) dX7_readerMany_25 rfl (by decide) rfl ?_
        refine zx_iinc (pc := 26) dX7_readerMany_26 (by decide) rfl rfl ?_
        refine zx_goto (pc := 29) (tgt := 4) dX7_readerMany_29 (by decide) ?_
        exact ih (i + 1) _ (by omega) (by omega) (by omega) (by first | rw [g6, g4, b2i_t (by omega)] | rw [g6, g4, b2i_f (by omega), Int.add_zero])
      · skip
        refine zx_iload_n (pc := 18) dX7_readerMany_18 rfl rfl ?_
        refine zx_iconst (pc := 19) dX7_readerMany_19 ?_
        refine zx_iadd (pc := 20) dX7_readerMany_20 ?_
        refine zx_goto (pc := 21) (tgt := 25) dX7_readerMany_21 (by decide) ?_
        refine zx_istore_n (pc := 25) dX7_readerMany_25 rfl (by decide) rfl ?_
        refine zx_iinc (pc := 26) dX7_readerMany_26 (by decide) rfl rfl ?_
        refine zx_goto (pc := 29) (tgt := 4) dX7_readerMany_29 (by decide) ?_
        exact ih (i + 1) _ (by omega) (by omega) (by omega) (by first | rw [g6, g4, b2i_t (by omega)] | rw [g6, g4, b2i_f (by omega), Int.add_zero])
set_option maxRecDepth 100000 in
theorem C_X7_readerMany {h : zH} : kX7_readerMany h (fun r h2 => r = mReaders h ∧ h2 = h) := by
  apply eX7_readerMany
  refine zx_iconst (pc := 0) dX7_readerMany_0 ?_
  refine zx_istore_n (pc := 1) dX7_readerMany_1 rfl (by decide) rfl ?_
  refine zx_iconst (pc := 2) dX7_readerMany_2 ?_
  refine zx_istore_n (pc := 3) dX7_readerMany_3 rfl (by decide) rfl ?_
  exact L_X7_readerMany (fun r h2 => r = mReaders h ∧ h2 = h) ⟨rfl, rfl⟩ 5 0 _ (Int.le_refl _) (by omega) (by omega) rfl
set_option maxRecDepth 100000 in
theorem C_X7_isOpenReader {h : zH} {a1 : Int} (r1 : -2147483648 ≤ a1 ∧ a1 < 2147483648) : kX7_isOpenReader a1 h (fun r h2 => r = b2i (mRd h a1) ∧ h2 = h) := by
  apply eX7_isOpenReader
  refine zx_iload_n (pc := 0) dX7_isOpenReader_0 rfl rfl ?_
  refine zx_iconst (pc := 1) dX7_isOpenReader_1 ?_
  refine zx_iconst (pc := 2) dX7_isOpenReader_2 ?_
  refine zi_X7_85 (pc := 3) dX7_isOpenReader_3 (C_X7_in r1 (by omega) (by omega)) (by decide) (Nat.le_of_ble_eq_true rfl) (fun z3 h3 u3 v3 q3 => ?_)
  obtain ⟨rfl, e3⟩ := q3
  rw [e3]
  clear e3 h3
  refine zx_if_eq (pc := 6) (tgt := 22) dX7_isOpenReader_6 (by decide) (fun o => by first | exact o.1 _ (by decide) | exact o.2 _ _ | omega) (fun c6 => ?_) (fun c6 => ?_)
  · skip
    try replace c6 := b2i_0.mp c6
    refine zx_iconst (pc := 22) dX7_isOpenReader_22 ?_
    refine zx_zret (pc := 23) dX7_isOpenReader_23 (by omega) ?_
    refine ⟨?_, rfl⟩
    first | exact (b2i_t (by unfold mRd; omega)).symm | exact (b2i_f (by unfold mRd; omega)).symm
  · skip
    try replace c6 := b2i_n0.mp c6
    refine zx_aload_n (pc := 9) dX7_isOpenReader_9 rfl rfl ?_
    refine zg_X7_49 (pc := 10) dX7_isOpenReader_10 ?_
    refine zx_iload_n (pc := 13) dX7_isOpenReader_13 rfl rfl ?_
    refine zx_baload (pc := 14) aX7_isReader dX7_isOpenReader_14 (by omega) (by omega) (by omega) ?_
    refine zx_if_eq (pc := 15) (tgt := 22) dX7_isOpenReader_15 (by decide) (fun o => by first | exact o.1 _ (by decide) | exact o.2 _ _ | omega) (fun c15 => ?_) (fun c15 => ?_)
    · skip
      refine zx_iconst (pc := 22) dX7_isOpenReader_22 ?_
      refine zx_zret (pc := 23) dX7_isOpenReader_23 (by omega) ?_
      refine ⟨?_, rfl⟩
      first | exact (b2i_t (by unfold mRd; omega)).symm | exact (b2i_f (by unfold mRd; omega)).symm
    · skip
      refine zx_iconst (pc := 18) dX7_isOpenReader_18 ?_
      refine zx_goto (pc := 19) (tgt := 23) dX7_isOpenReader_19 (by decide) ?_
      refine zx_zret (pc := 23) dX7_isOpenReader_23 (by omega) ?_
      refine ⟨?_, rfl⟩
      first | exact (b2i_t (by unfold mRd; omega)).symm | exact (b2i_f (by unfold mRd; omega)).symm
theorem cnt_full {p : Int → Prop} {a : Int} : ∀ {n : Nat}, (∀ i, a ≤ i → i < a + n → p i) → cnt p a n = n
  | 0, _ => rfl
  | n + 1, h => by
    rw [cnt, cnt_full (n := n) (fun i h1 h2 => h i h1 (by omega)), b2i_t (h _ (by omega) (by omega))]
    omega
theorem newRd_ok {h : zH} (c : mReaders h ≠ 4) : 0 ≤ mNewRd h ∧ mNewRd h < 4 ∧ ga h 14 (mNewRd h) = 0 ∧ ∀ j, 0 ≤ j → j < mNewRd h → ga h 14 j ≠ 0 := by
  have q := ff_r (fun r => ga h 14 r = 0) 4 0 (Int.le_refl _)
  unfold mNewRd
  rcases q with q | q
  · exfalso
    apply c
    unfold mReaders
    have all : ∀ i, 0 ≤ i → i < 0 + ((4 : Nat) : Int) → ga h 14 i ≠ 0 := by
      have key : ∀ (n : Nat) (i : Int), ff (fun r => ga h 14 r = 0) i n = -1 → 0 ≤ i → ∀ j, i ≤ j → j < i + n → ga h 14 j ≠ 0 := by
        intro n
        induction n with
        | zero => intro i _ _ j h1 h2; omega
        | succ n ih =>
          intro i e hi j h1 h2
          rw [ff] at e
          rcases Classical.em (ga h 14 i = 0) with d | d
          · rw [ifp_t d] at e
            omega
          · rw [ifp_f d] at e
            by_cases ej : j = i
            · rw [ej]; exact d
            · exact ih (i + 1) e (by omega) j (by omega) (by omega)
      exact fun i h1 h2 => key 4 0 q (Int.le_refl _) i h1 h2
    rw [cnt_full all]
    rfl
  · exact ⟨q.1, by omega, q.2.2.1, q.2.2.2⟩
set_option maxRecDepth 100000 in
theorem L_X7_openReader {h0 : zH} {x : Int} (hx : 0 ≤ x) (hx2 : x < 4) : ∀ (n : Nat) (i : Int), 0 ≤ i → i ≤ 64 → 64 - i < n → zX cM zNo RX7 cX7_openReader 3 (some .int) rX7_openReader 53 [some (.ref 0), some (.int (iI x)), some (.int (iI i))] [] (m_rdv h0 x i) (zEi cM (fun r h2 => r = x ∧ h2 = m_rdv h0 x 64)) := by
  intro n
  induction n with
  | zero => intro i g1 g2 g3; omega
  | succ n ih =>
    intro i g1 g2 g3
    have e10 : ga (m_rdv h0 x i) 10 i = ga h0 10 i := by rw [ga_rdv, if_neg (by omega)]
    have e : pa (m_rdv h0 x i) 13 (64 * x + i) (ga h0 10 i) = m_rdv h0 x (i + 1) := by
      apply zH_ext
      · intro k; rfl
      · intro c j
        simp only [ga_pa, ga_rdv]
        by_cases q : c = 13 ∧ j = 64 * x + i
        · rw [if_pos q, if_pos (by omega), q.2]
          congr 1
          omega
        · rw [if_neg q]
          by_cases q2 : c = 13 ∧ 64 * x ≤ j ∧ j < 64 * x + i
          · rw [if_pos q2, if_pos (by omega)]
          · rw [if_neg q2, if_neg (by omega)]
    refine zx_iload_n (pc := 53) dX7_openReader_53 rfl rfl ?_
    refine zx_bipush (pc := 54) dX7_openReader_54 (by decide +kernel) ?_
    refine zx_icmp_ge (pc := 56) (tgt := 82) dX7_openReader_56 (by decide) (fun o => by first | exact o.1 _ (by decide) | exact o.2 _ _ | omega) (fun o => by first | exact o.1 _ (by decide) | exact o.2 _ _ | omega) (fun c56 => ?_) (fun c56 => ?_)
    · skip
      refine zx_iload_n (pc := 82) dX7_openReader_82 rfl rfl ?_
      refine zx_iret (pc := 83) dX7_openReader_83 (fun o => by first | exact o.1 _ (by decide) | exact o.2 _ _ | omega) ?_
      have e2 : i = 64 := by omega
      rw [e2]
      exact ⟨rfl, rfl⟩
    · skip
      refine zx_aload_n (pc := 59) dX7_openReader_59 rfl rfl ?_
      refine zg_X7_46 (pc := 60) dX7_openReader_60 ?_
      refine zx_bipush (pc := 63) dX7_openReader_63 (by decide +kernel) ?_
      refine zx_iload_n (pc := 65) dX7_openReader_65 rfl rfl ?_
      refine zx_imul (pc := 66) dX7_openReader_66 ?_
      refine zx_iload_n (pc := 67) dX7_openReader_67 rfl rfl ?_
      refine zx_iadd (pc := 68) dX7_openReader_68 ?_
      refine zx_aload_n (pc := 69) dX7_openReader_69 rfl rfl ?_
      refine zg_X7_37 (pc := 70) dX7_openReader_70 ?_
      refine zx_iload_n (pc := 73) dX7_openReader_73 rfl rfl ?_
      refine zx_iaload (pc := 74) aX7_committed dX7_openReader_74 (by omega) (by omega) (by omega) ?_
      refine zx_iastore (pc := 75) aX7_readerVersion dX7_openReader_75 (by omega) (by omega) (by omega) (fun o => o.2 _ _) ?_
      refine zx_iinc (pc := 76) dX7_openReader_76 (by decide) rfl rfl ?_
      refine zx_goto (pc := 79) (tgt := 53) dX7_openReader_79 (by decide) ?_
      rw [e10, e]
      exact ih (i + 1) (by omega) (by omega) (by omega)
set_option maxRecDepth 100000 in
theorem L2_X7_openReader {h : zH} {x : Int} (hx2 : x < 4) (hx3 : ga h 14 x = 0) (hx4 : ∀ j, 0 ≤ j → j < x → ga h 14 j ≠ 0) : ∀ (n : Nat) (i : Int), 0 ≤ i → i ≤ x → x - i < n → zX cM zNo RX7 cX7_openReader 3 (some .int) rX7_openReader 28 [some (.ref 0), some (.int (iI i)), none] [] h (zEi cM (fun r h2 => r = x ∧ h2 = m_rdv (pa h 14 x 1) x 64)) := by
  intro n
  induction n with
  | zero => intro i g1 g2 g3; omega
  | succ n ih =>
    intro i g1 g2 g3
    refine zx_aload_n (pc := 28) dX7_openReader_28 rfl rfl ?_
    refine zg_X7_49 (pc := 29) dX7_openReader_29 ?_
    refine zx_iload_n (pc := 32) dX7_openReader_32 rfl rfl ?_
    refine zx_baload (pc := 33) aX7_isReader dX7_openReader_33 (by omega) (by omega) (by omega) ?_
    refine zx_if_eq (pc := 34) (tgt := 44) dX7_openReader_34 (by decide) (fun o => by first | exact o.1 _ (by decide) | exact o.2 _ _ | omega) (fun c34 => ?_) (fun c34 => ?_)
    · skip
      have e : i = x := by
        by_cases q : i = x
        · exact q
        · exact absurd c34 (hx4 i g1 (by omega))
      subst e
      refine zx_aload_n (pc := 44) dX7_openReader_44 rfl rfl ?_
      refine zg_X7_49 (pc := 45) dX7_openReader_45 ?_
      refine zx_iload_n (pc := 48) dX7_openReader_48 rfl rfl ?_
      refine zx_iconst (pc := 49) dX7_openReader_49 ?_
      refine zx_bastore (pc := 50) aX7_isReader dX7_openReader_50 (by omega) (by omega) (by omega) (by omega) (fun o => by first | exact o.1 _ (by decide) | exact o.2 _ _ | omega) ?_
      refine zx_iconst (pc := 51) dX7_openReader_51 ?_
      refine zx_istore_n (pc := 52) dX7_openReader_52 rfl (by decide) rfl ?_
      have r := L_X7_openReader (h0 := pa h 14 i 1) g1 hx2 65 0 (Int.le_refl _) (by omega) (by omega)
      rw [show m_rdv (pa h 14 i 1) i 0 = pa h 14 i 1 from zH_ext (fun _ => rfl) (fun c j => by rw [ga_rdv, if_neg (by omega)])] at r
      exact r
    · skip
      have e : i ≠ x := by
        intro q
        rw [q] at c34
        exact c34 hx3
      refine zx_iload_n (pc := 37) dX7_openReader_37 rfl rfl ?_
      refine zx_iconst (pc := 38) dX7_openReader_38 ?_
      refine zx_iadd (pc := 39) dX7_openReader_39 ?_
      refine zx_istore_n (pc := 40) dX7_openReader_40 rfl (by decide) rfl ?_
      refine zx_goto (pc := 41) (tgt := 28) dX7_openReader_41 (by decide) ?_
      exact ih (i + 1) (by omega) (by omega) (by omega)
set_option maxRecDepth 100000 in
theorem C_X7_openReader {h : zH} : kX7_openReader h (fun r h2 => r = (m_openR h).2 ∧ h2 = (m_openR h).1) := by
  have q : 0 ≤ mReaders h ∧ mReaders h ≤ 4 := cnt_r _ _ _
  have e26 : gs (ps h 0 0) 26 = gs h 26 := rfl
  have er : mReaders (ps h 0 0) = mReaders h := rfl
  apply eX7_openReader
  unfold m_openR
  refine zx_aload_n (pc := 0) dX7_openReader_0 rfl rfl ?_
  refine zx_iconst (pc := 1) dX7_openReader_1 ?_
  refine zp_X7_69 (pc := 2) dX7_openReader_2 (fun o => by first | exact o.1 _ (by decide) | exact o.2 _ _ | omega) ?_
  refine zx_aload_n (pc := 5) dX7_openReader_5 rfl rfl ?_
  refine zg_X7_104 (pc := 6) dX7_openReader_6 ?_
  refine zx_if_eq (pc := 9) (tgt := 20) dX7_openReader_9 (by decide) (fun o => by first | exact o.1 _ (by decide) | exact o.2 _ _ | omega) (fun c9 => ?_) (fun c9 => ?_)
  · skip
    rw [e26] at c9
    rw [ifp_t (Or.inl c9)]
    refine zx_aload_n (pc := 20) dX7_openReader_20 rfl rfl ?_
    refine zx_iconst (pc := 21) dX7_openReader_21 ?_
    refine zi_X7_138 (pc := 22) dX7_openReader_22 (C_X7_refuse2 (by decide)) (by decide) (Nat.le_of_ble_eq_true rfl) (fun z22 h22 u22 v22 q22 => ?_)
    obtain ⟨rfl, e22⟩ := q22
    rw [e22]
    clear e22 h22
    refine zx_iret (pc := 25) dX7_openReader_25 (fun o => by first | exact o.1 _ (by decide) | exact o.2 _ _ | omega) ?_
    exact ⟨rfl, ps_ps _ _ _ _⟩
  · skip
    rw [e26] at c9
    refine zx_aload_n (pc := 12) dX7_openReader_12 rfl rfl ?_
    refine zi_X7_380 (pc := 13) dX7_openReader_13 (C_X7_readerMany) (by decide) (Nat.le_of_ble_eq_true rfl) (fun z13 h13 u13 v13 q13 => ?_)
    obtain ⟨rfl, e13⟩ := q13
    rw [e13]
    clear e13 h13
    refine zx_iconst (pc := 16) dX7_openReader_16 ?_
    refine zx_icmp_ne (pc := 17) (tgt := 26) dX7_openReader_17 (by decide) (fun o => by first | exact o.1 _ (by decide) | exact o.2 _ _ | omega) (fun o => by first | exact o.1 _ (by decide) | exact o.2 _ _ | omega) (fun c17 => ?_) (fun c17 => ?_)
    · skip
      rw [er] at c17
      rw [ifp_f (fun z => z.elim c9 c17)]
      obtain ⟨w1, w2, w3, w4⟩ := newRd_ok c17
      refine zx_iconst (pc := 26) dX7_openReader_26 ?_
      refine zx_istore_n (pc := 27) dX7_openReader_27 rfl (by decide) rfl ?_
      exact L2_X7_openReader (h := ps h 0 0) w2 w3 w4 5 0 (Int.le_refl _) w1 (by omega)
    · skip
      rw [er] at c17
      rw [ifp_t (Or.inr c17)]
      refine zx_aload_n (pc := 20) dX7_openReader_20 rfl rfl ?_
      refine zx_iconst (pc := 21) dX7_openReader_21 ?_
      refine zi_X7_138 (pc := 22) dX7_openReader_22 (C_X7_refuse2 (by decide)) (by decide) (Nat.le_of_ble_eq_true rfl) (fun z22 h22 u22 v22 q22 => ?_)
      obtain ⟨rfl, e22⟩ := q22
      rw [e22]
      clear e22 h22
      refine zx_iret (pc := 25) dX7_openReader_25 (fun o => by first | exact o.1 _ (by decide) | exact o.2 _ _ | omega) ?_
      exact ⟨rfl, ps_ps _ _ _ _⟩
set_option maxRecDepth 100000 in
theorem C_X7_readBy {h : zH} (hb : MB h) {a1 a2 : Int} (r1 : -2147483648 ≤ a1 ∧ a1 < 2147483648) (r2 : -2147483648 ≤ a2 ∧ a2 < 2147483648) : kX7_readBy a1 a2 h (fun r h2 => r = (m_readBy h a1 a2).2 ∧ h2 = (m_readBy h a1 a2).1) := by
  have hb0 : MB (ps h 0 0) := hb
  have hL := hb.2.2.2.2
  apply eX7_readBy
  unfold m_readBy
  refine zx_ok (fun ok => ?_)
  refine zx_aload_n (pc := 0) dX7_readBy_0 rfl rfl ?_
  refine zx_iconst (pc := 1) dX7_readBy_1 ?_
  refine zp_X7_69 (pc := 2) dX7_readBy_2 (fun o => by first | exact o.1 _ (by decide) | exact o.2 _ _ | omega) ?_
  refine zx_aload_n (pc := 5) dX7_readBy_5 rfl rfl ?_
  refine zx_iload_n (pc := 6) dX7_readBy_6 rfl rfl ?_
  refine zi_X7_383 (pc := 7) dX7_readBy_7 (C_X7_isOpenReader r1) (by decide) (Nat.le_of_ble_eq_true rfl) (fun z7 h7 u7 v7 q7 => ?_)
  obtain ⟨rfl, e7⟩ := q7
  rw [e7]
  clear e7 h7
  refine zx_if_eq (pc := 10) (tgt := 21) dX7_readBy_10 (by decide) (fun o => by first | exact o.1 _ (by decide) | exact o.2 _ _ | omega) (fun c10 => ?_) (fun c10 => ?_)
  · skip
    try replace c10 := b2i_0.mp c10
    rw [ifp_t (Or.inl (show ¬ mRd h a1 from c10))]
    refine zx_aload_n (pc := 21) dX7_readBy_21 rfl rfl ?_
    refine zx_iconst (pc := 22) dX7_readBy_22 ?_
    refine zi_X7_138 (pc := 23) dX7_readBy_23 (C_X7_refuse2 (by decide)) (by decide) (Nat.le_of_ble_eq_true rfl) (fun z23 h23 u23 v23 q23 => ?_)
    obtain ⟨rfl, e23⟩ := q23
    rw [e23]
    clear e23 h23
    refine zx_iret (pc := 26) dX7_readBy_26 (fun o => by first | exact o.1 _ (by decide) | exact o.2 _ _ | omega) ?_
    exact ⟨rfl, ps_ps _ _ _ _⟩
  · skip
    try replace c10 := b2i_n0.mp c10
    have c10a : mRd h a1 := c10
    obtain ⟨⟨c10b, c10c⟩, c10d⟩ := c10a
    refine zx_aload_n (pc := 13) dX7_readBy_13 rfl rfl ?_
    refine zx_iload_n (pc := 14) dX7_readBy_14 rfl rfl ?_
    refine zi_X7_359 (pc := 15) dX7_readBy_15 (C_X7_isLogical hb0 r2) (by decide) (Nat.le_of_ble_eq_true rfl) (fun z15 h15 u15 v15 q15 => ?_)
    obtain ⟨rfl, e15⟩ := q15
    rw [e15]
    clear e15 h15
    refine zx_if_ne (pc := 18) (tgt := 27) dX7_readBy_18 (by decide) (fun o => by first | exact o.1 _ (by decide) | exact o.2 _ _ | omega) (fun c18 => ?_) (fun c18 => ?_)
    · skip
      try replace c18 := b2i_n0.mp c18
      rw [mLg_0] at c18
      have c18a := c18
      unfold mLg at c18a
      rw [ifp_f (fun z => z.elim (fun y => y c10) (fun y => y c18))]
      refine zx_aload_n (pc := 27) dX7_readBy_27 rfl rfl ?_
      refine zx_iload_n (pc := 28) dX7_readBy_28 rfl rfl ?_
      refine zx_aload_n (pc := 29) dX7_readBy_29 rfl rfl ?_
      refine zg_X7_46 (pc := 30) dX7_readBy_30 ?_
      refine zx_bipush (pc := 33) dX7_readBy_33 (by decide +kernel) ?_
      refine zx_iload_n (pc := 35) dX7_readBy_35 rfl rfl ?_
      refine zx_imul (pc := 36) dX7_readBy_36 ?_
      refine zx_iload_n (pc := 37) dX7_readBy_37 rfl rfl ?_
      refine zx_iadd (pc := 38) dX7_readBy_38 ?_
      refine zx_iaload (pc := 39) aX7_readerVersion dX7_readBy_39 (by omega) (by omega) (by omega) ?_
      refine zi_X7_368 (pc := 40) dX7_readBy_40 (C_X7_valueOf hb0 r2 (ok.2 13 _)) (by decide) (Nat.le_of_ble_eq_true rfl) (fun z40 h40 u40 v40 q40 => ?_)
      obtain ⟨rfl, e40⟩ := q40
      rw [e40]
      clear e40 h40
      refine zx_iret (pc := 43) dX7_readBy_43 (fun o => by first | exact o.1 _ (by decide) | exact o.2 _ _ | omega) ?_
      exact ⟨rfl, rfl⟩
    · skip
      try replace c18 := b2i_0.mp c18
      rw [mLg_0] at c18
      rw [ifp_t (Or.inr c18)]
      refine zx_aload_n (pc := 21) dX7_readBy_21 rfl rfl ?_
      refine zx_iconst (pc := 22) dX7_readBy_22 ?_
      refine zi_X7_138 (pc := 23) dX7_readBy_23 (C_X7_refuse2 (by decide)) (by decide) (Nat.le_of_ble_eq_true rfl) (fun z23 h23 u23 v23 q23 => ?_)
      obtain ⟨rfl, e23⟩ := q23
      rw [e23]
      clear e23 h23
      refine zx_iret (pc := 26) dX7_readBy_26 (fun o => by first | exact o.1 _ (by decide) | exact o.2 _ _ | omega) ?_
      exact ⟨rfl, ps_ps _ _ _ _⟩
set_option maxRecDepth 100000 in
theorem C_X7_closeReader {h : zH} {a1 : Int} (r1 : -2147483648 ≤ a1 ∧ a1 < 2147483648) : kX7_closeReader a1 h (fun r h2 => r = (m_closeR h a1).2 ∧ h2 = (m_closeR h a1).1) := by
  apply eX7_closeReader
  unfold m_closeR
  refine zx_aload_n (pc := 0) dX7_closeReader_0 rfl rfl ?_
  refine zx_iconst (pc := 1) dX7_closeReader_1 ?_
  refine zp_X7_69 (pc := 2) dX7_closeReader_2 (fun o => by first | exact o.1 _ (by decide) | exact o.2 _ _ | omega) ?_
  refine zx_aload_n (pc := 5) dX7_closeReader_5 rfl rfl ?_
  refine zx_iload_n (pc := 6) dX7_closeReader_6 rfl rfl ?_
  refine zi_X7_383 (pc := 7) dX7_closeReader_7 (C_X7_isOpenReader r1) (by decide) (Nat.le_of_ble_eq_true rfl) (fun z7 h7 u7 v7 q7 => ?_)
  obtain ⟨rfl, e7⟩ := q7
  rw [e7]
  clear e7 h7
  refine zx_if_ne (pc := 10) (tgt := 19) dX7_closeReader_10 (by decide) (fun o => by first | exact o.1 _ (by decide) | exact o.2 _ _ | omega) (fun c10 => ?_) (fun c10 => ?_)
  · skip
    try replace c10 := b2i_n0.mp c10
    have c10a : mRd h a1 := c10
    obtain ⟨⟨c10b, c10c⟩, c10d⟩ := c10a
    rw [ifp_t (show mRd h a1 from c10)]
    refine zx_aload_n (pc := 19) dX7_closeReader_19 rfl rfl ?_
    refine zg_X7_49 (pc := 20) dX7_closeReader_20 ?_
    refine zx_iload_n (pc := 23) dX7_closeReader_23 rfl rfl ?_
    refine zx_iconst (pc := 24) dX7_closeReader_24 ?_
    refine zx_bastore (pc := 25) aX7_isReader dX7_closeReader_25 (by omega) (by omega) (by omega) (by omega) (fun o => by first | exact o.1 _ (by decide) | exact o.2 _ _ | omega) ?_
    refine zx_aload_n (pc := 26) dX7_closeReader_26 rfl rfl ?_
    refine zi_X7_380 (pc := 27) dX7_closeReader_27 (C_X7_readerMany) (by decide) (Nat.le_of_ble_eq_true rfl) (fun z27 h27 u27 v27 q27 => ?_)
    obtain ⟨rfl, e27⟩ := q27
    rw [e27]
    clear e27 h27
    refine zx_iret (pc := 30) dX7_closeReader_30 (fun o => by first | exact o.1 _ (by decide) | exact o.2 _ _ | omega) ?_
    exact ⟨rfl, rfl⟩
  · skip
    try replace c10 := b2i_0.mp c10
    rw [ifp_f (show ¬ mRd h a1 from c10)]
    refine zx_aload_n (pc := 13) dX7_closeReader_13 rfl rfl ?_
    refine zx_iconst (pc := 14) dX7_closeReader_14 ?_
    refine zi_X7_138 (pc := 15) dX7_closeReader_15 (C_X7_refuse2 (by decide)) (by decide) (Nat.le_of_ble_eq_true rfl) (fun z15 h15 u15 v15 q15 => ?_)
    obtain ⟨rfl, e15⟩ := q15
    rw [e15]
    clear e15 h15
    refine zx_iret (pc := 18) dX7_closeReader_18 (fun o => by first | exact o.1 _ (by decide) | exact o.2 _ _ | omega) ?_
    exact ⟨rfl, ps_ps _ _ _ _⟩
set_option maxRecDepth 100000 in
theorem C_X7_isOn {h : zH} (h1 : gs h 26 = 0 ∨ gs h 26 = 1) : kX7_isOn h (fun r h2 => r = gs h 26 ∧ h2 = ps h 0 0) := by
  have e26 : gs (ps h 0 0) 26 = gs h 26 := rfl
  apply eX7_isOn
  refine zx_aload_n (pc := 0) dX7_isOn_0 rfl rfl ?_
  refine zx_iconst (pc := 1) dX7_isOn_1 ?_
  refine zp_X7_69 (pc := 2) dX7_isOn_2 (fun o => by first | exact o.1 _ (by decide) | exact o.2 _ _ | omega) ?_
  refine zx_aload_n (pc := 5) dX7_isOn_5 rfl rfl ?_
  refine zg_X7_104 (pc := 6) dX7_isOn_6 ?_
  refine zx_zret (pc := 9) dX7_isOn_9 (by omega) ?_
  exact ⟨rfl, rfl⟩
set_option maxRecDepth 100000 in
theorem C_X7_arm {h : zH} {a1 : Int} (r1 : -2147483648 ≤ a1 ∧ a1 < 2147483648) : kX7_arm a1 h (fun r h2 => r = (m_arm h a1).2 ∧ h2 = (m_arm h a1).1) := by
  have e1 : gs (ps h 0 0) 1 = gs h 1 := rfl
  apply eX7_arm
  unfold m_arm
  refine zx_ok (fun ok => ?_)
  refine zx_aload_n (pc := 0) dX7_arm_0 rfl rfl ?_
  refine zx_iconst (pc := 1) dX7_arm_1 ?_
  refine zp_X7_69 (pc := 2) dX7_arm_2 (fun _ => by omega) ?_
  refine zx_iload_n (pc := 5) dX7_arm_5 rfl rfl ?_
  refine zx_iconst (pc := 6) dX7_arm_6 ?_
  refine zx_sipush (pc := 7) dX7_arm_7 (by decide +kernel) ?_
  refine zi_X7_85 (pc := 10) dX7_arm_10 (C_X7_in r1 (by omega) (by omega)) (by decide) (Nat.le_of_ble_eq_true rfl) (fun z10 h10 u10 v10 q10 => ?_)
  obtain ⟨rfl, e10⟩ := q10
  rw [e10]
  clear e10 h10
  refine zx_if_ne (pc := 13) (tgt := 22) dX7_arm_13 (by decide) (fun o => by first | exact o.1 _ (by decide) | exact o.2 _ _ | omega) (fun c13 => ?_) (fun c13 => ?_)
  · skip
    try replace c13 := b2i_n0.mp c13
    rw [ifp_t c13]
    refine zx_aload_n (pc := 22) dX7_arm_22 rfl rfl ?_
    refine zg_X7_126 (pc := 23) dX7_arm_23 ?_
    refine zx_istore_n (pc := 26) dX7_arm_26 rfl (by decide) rfl ?_
    refine zx_aload_n (pc := 27) dX7_arm_27 rfl rfl ?_
    refine zx_aload_n (pc := 28) dX7_arm_28 rfl rfl ?_
    refine zg_X7_79 (pc := 29) dX7_arm_29 ?_
    refine zx_if_ne (pc := 32) (tgt := 39) dX7_arm_32 (by decide) (fun o => by first | exact o.1 _ (by decide) | exact o.2 _ _ | omega) (fun c32 => ?_) (fun c32 => ?_)
    · skip
      rw [e1] at c32
      rw [ifp_f c32]
      refine zx_iload_n (pc := 39) dX7_arm_39 rfl rfl ?_
      refine zp_X7_126 (pc := 40) dX7_arm_40 (fun _ => by omega) ?_
      refine zx_iload_n (pc := 43) dX7_arm_43 rfl rfl ?_
      refine zx_iret (pc := 44) dX7_arm_44 (fun _ => ok.1 25 (by decide)) ?_
      exact ⟨rfl, rfl⟩
    · skip
      rw [e1] at c32
      rw [ifp_t c32]
      refine zx_iconst (pc := 35) dX7_arm_35 ?_
      refine zx_goto (pc := 36) (tgt := 40) dX7_arm_36 (by decide) ?_
      refine zp_X7_126 (pc := 40) dX7_arm_40 (fun _ => by omega) ?_
      refine zx_iload_n (pc := 43) dX7_arm_43 rfl rfl ?_
      refine zx_iret (pc := 44) dX7_arm_44 (fun _ => ok.1 25 (by decide)) ?_
      exact ⟨rfl, rfl⟩
  · skip
    try replace c13 := b2i_0.mp c13
    rw [ifp_f c13]
    refine zx_aload_n (pc := 16) dX7_arm_16 rfl rfl ?_
    refine zx_iconst (pc := 17) dX7_arm_17 ?_
    refine zi_X7_138 (pc := 18) dX7_arm_18 (C_X7_refuse2 (by decide)) (by decide) (Nat.le_of_ble_eq_true rfl) (fun z18 h18 u18 v18 q18 => ?_)
    obtain ⟨rfl, e18⟩ := q18
    rw [e18]
    clear e18 h18
    refine zx_iret (pc := 21) dX7_arm_21 (fun o => by first | exact o.1 _ (by decide) | exact o.2 _ _ | omega) ?_
    exact ⟨rfl, ps_ps _ _ _ _⟩
set_option maxRecDepth 100000 in
theorem C_X7_powerOff {h : zH} (h1 : 0 ≤ gs h 38) (h2 : gs h 38 ≤ 1000) : kX7_powerOff h (fun r h2 => r = (m_off h).2 ∧ h2 = (m_off h).1) := by
  have e26 : gs (ps h 0 0) 26 = gs h 26 := rfl
  have e38 : gs (m_loses (ps h 0 0)) 38 = gs h 38 := gs_loses _ _ (by decide)
  have eo : mOpen (m_loses (ps h 0 0)) = mOpen h := by
    unfold mOpen
    rw [e38]
    exact cnt_c (fun i _ _ => by rw [ga_loses _ _ _ (by decide)]; rfl)
  apply eX7_powerOff
  unfold m_off
  refine zx_aload_n (pc := 0) dX7_powerOff_0 rfl rfl ?_
  refine zx_iconst (pc := 1) dX7_powerOff_1 ?_
  refine zp_X7_69 (pc := 2) dX7_powerOff_2 (fun o => by first | exact o.1 _ (by decide) | exact o.2 _ _ | omega) ?_
  refine zx_aload_n (pc := 5) dX7_powerOff_5 rfl rfl ?_
  refine zg_X7_104 (pc := 6) dX7_powerOff_6 ?_
  refine zx_if_ne (pc := 9) (tgt := 18) dX7_powerOff_9 (by decide) (fun o => by first | exact o.1 _ (by decide) | exact o.2 _ _ | omega) (fun c9 => ?_) (fun c9 => ?_)
  · skip
    rw [e26] at c9
    rw [ifp_f c9]
    refine zx_aload_n (pc := 18) dX7_powerOff_18 rfl rfl ?_
    refine zi_X7_294 (pc := 19) dX7_powerOff_19 (C_X7_losesPower) (by decide) (Nat.le_of_ble_eq_true rfl) (fun h19 q19 => ?_)
    rw [q19]
    clear q19 h19
    refine zx_aload_n (pc := 22) dX7_powerOff_22 rfl rfl ?_
    refine zi_X7_344 (pc := 23) dX7_powerOff_23 (C_X7_openMany (by omega) (by omega)) (by decide) (Nat.le_of_ble_eq_true rfl) (fun z23 h23 u23 v23 q23 => ?_)
    obtain ⟨rfl, e23⟩ := q23
    rw [e23]
    clear e23 h23
    refine zx_iret (pc := 26) dX7_powerOff_26 (fun o => by first | exact o.1 _ (by decide) | exact o.2 _ _ | omega) ?_
    exact ⟨eo, rfl⟩
  · skip
    rw [e26] at c9
    rw [ifp_t c9]
    refine zx_aload_n (pc := 12) dX7_powerOff_12 rfl rfl ?_
    refine zx_iconst (pc := 13) dX7_powerOff_13 ?_
    refine zi_X7_138 (pc := 14) dX7_powerOff_14 (C_X7_refuse2 (by decide)) (by decide) (Nat.le_of_ble_eq_true rfl) (fun z14 h14 u14 v14 q14 => ?_)
    obtain ⟨rfl, e14⟩ := q14
    rw [e14]
    clear e14 h14
    refine zx_iret (pc := 17) dX7_powerOff_17 (fun o => by first | exact o.1 _ (by decide) | exact o.2 _ _ | omega) ?_
    exact ⟨rfl, ps_ps _ _ _ _⟩

