/-! the reference: numbers, settings, the whole text: what it makes, and contracts -/
/-- reading changes only the reader's own fields -/
def TF (h h2 : zH) : Prop := (∀ k, k ≠ 42 → k ≠ 44 → k ≠ 45 → k ≠ 46 → k ≠ 47 → k ≠ 48 → k ≠ 1049 → gs h2 k = gs h k) ∧ ∀ c i, ga h2 c i = ga h c i
theorem TF.rf (h : zH) : TF h h := ⟨fun _ _ _ _ _ _ _ _ => rfl, fun _ _ => rfl⟩
theorem TF.tr {a b c : zH} (f : TF a b) (g : TF b c) : TF a c := ⟨fun k h1 h2 h3 h4 h5 h6 h7 => (g.1 k h1 h2 h3 h4 h5 h6 h7).trans (f.1 k h1 h2 h3 h4 h5 h6 h7), fun c i => (g.2 c i).trans (f.2 c i)⟩
theorem TF.ps {h h2 : zH} (f : TF h h2) (k : Nat) (v : Int) (hk : k = 42 ∨ k = 44 ∨ k = 45 ∨ k = 46 ∨ k = 47 ∨ k = 48 ∨ k = 1049) : TF h (ps h2 k v) := ⟨fun j h1 h2 h3 h4 h5 h6 h7 => by rw [gs_ps, if_neg (by omega)]; exact f.1 j h1 h2 h3 h4 h5 h6 h7, f.2⟩
theorem TF_peek (h : zH) : TF h (m_peek h) := ((TF.rf h).ps 42 _ (by decide)).ps 45 _ (by decide)
theorem TF_fails (h : zH) (a b : Int) : TF h (m_fails h a b) := ((TF.rf h).ps 47 _ (by decide)).ps 48 _ (by decide)
theorem MT_peek {h : zH} (t : MT h) : MT (m_peek h) := by
  have r := mTok_r t
  refine ⟨t.1, ?_, r.2⟩
  show 0 ≤ mTok h
  have := t.2.1
  omega
theorem word_r {h : zH} (t : MT h) (w : Int) : TF h (m_word h w).1 ∧ MT (m_word h w).1 ∧ ((m_word h w).2 = 0 ∨ (m_word h w).2 = 1) ∧ gs h 42 ≤ gs (m_word h w).1 42 := by
  have tr := mTok_r t
  have mp := MT_peek t
  obtain ⟨r1, r2, r3⟩ := mRE_r noL h 601 (mTok h) tr.2
  have we : mRE isL h 601 (mTok h) = m_wend h := rfl
  rw [we] at r1 r2
  have f1 : TF h (ps (m_peek h) 1049 (m_wh h)) := (TF_peek h).ps 1049 _ (by decide)
  unfold m_word
  rcases Classical.em (¬ isL (mBy h (mTok h)) ∨ mTok h = gs h 44) with c | c
  · rw [ifp_t c]
    exact ⟨(TF_peek h).tr (TF_fails _ _ _), mp, Or.inl rfl, tr.1⟩
  · rw [ifp_f c]
    rcases Classical.em (m_wh h ≠ w) with d | d
    · rw [ifp_t d]
      exact ⟨f1.tr (TF_fails _ _ _), mp, Or.inl rfl, tr.1⟩
    · rw [ifp_f d]
      refine ⟨(f1.ps 42 _ (by decide)).ps 44 _ (by decide), ⟨t.1, ?_, r2⟩, Or.inr rfl, ?_⟩
      · show 0 ≤ m_wend h
        have := t.2.1
        omega
      · show gs h 42 ≤ m_wend h
        omega
noncomputable def mNum (h : zH) (t : Int) : Nat → Int
  | 0 => 0
  | n + 1 => ifp (n < 6) (10 * mNum h t n + mBy h (t + n) - 48) (mNum h t n)
theorem mNum_r (h : zH) (t : Int) : ∀ n : Nat, (∀ j, t ≤ j → j < t + n → isD (mBy h j)) → 0 ≤ mNum h t n ∧ mNum h t n < 10 ^ n ∧ mNum h t n < 1000000
  | 0, _ => by rw [mNum]; decide
  | n + 1, hl => by
    have q := mNum_r h t n (fun j h1 h2 => hl j h1 (by omega))
    have b := hl (t + n) (by omega) (by omega)
    unfold isD at b
    have e : (10 : Int) ^ (n + 1) = 10 * 10 ^ n := by rw [Int.pow_succ]; omega
    have pp : (0 : Int) < 10 ^ n := Int.pow_pos (by decide)
    rw [mNum]
    rcases Classical.em (n < 6) with c | c
    · rw [ifp_t c]
      have e6 : (10 : Int) ^ (n + 1) ≤ 10 ^ 6 := by
        have r := Nat.pow_le_pow_right (n := 10) (by decide) (show n + 1 ≤ 6 by omega)
        have e1 : ((10 ^ (n + 1) : Nat) : Int) = 10 ^ (n + 1) := by simp
        have e2 : ((10 ^ 6 : Nat) : Int) = 10 ^ 6 := by simp
        omega
      have e3 : (10 : Int) ^ 6 = 1000000 := by decide
      omega
    · rw [ifp_f c]; omega
noncomputable def m_nend (h : zH) : Int := mRE isD h 601 (mTok h)
noncomputable def m_nv (h : zH) : Int := mNum h (mTok h) (m_nend h - mTok h).toNat
noncomputable def m_number (h : zH) (lo hi : Int) : zH × Int := ifp (¬ isD (mBy h (mTok h)) ∨ mTok h = gs h 44) (m_fails (m_peek h) 1 (mTok h), 0) (ifp (6 < m_nend h - mTok h) (m_fails (ps (m_peek h) 46 (m_nv h)) 1 (mTok h), 0) (ifp (¬ (lo ≤ m_nv h ∧ m_nv h ≤ hi)) (m_fails (ps (m_peek h) 46 (m_nv h)) 2 (mTok h), 0) (ps (ps (ps (m_peek h) 46 (m_nv h)) 42 (m_nend h)) 44 (m_nend h), 1)))
set_option maxRecDepth 100000 in
theorem L_X7_readNumber {h : zH} (t : MT h) {a1 a2 : Int} (E : zF) (k : zX cM zNo RX7 cX7_readNumber 4 (some .boolean) rX7_readNumber 99 [some (.ref 0), some (.int (iI a1)), some (.int (iI a2)), some (.int (iI (m_nend h - mTok h)))] [] (ps (m_peek h) 46 (m_nv h)) E) : ∀ (n : Nat) (c : Int), 0 ≤ c → mTok h + c ≤ gs h 43 → gs h 43 - (mTok h + c) < n → mRE isD h n (mTok h + c) = m_nend h → (∀ j, mTok h ≤ j → j < mTok h + c → isD (mBy h j)) → zX cM zNo RX7 cX7_readNumber 4 (some .boolean) rX7_readNumber 38 [some (.ref 0), some (.int (iI a1)), some (.int (iI a2)), some (.int (iI c))] [] (ps (m_peek h) 46 (mNum h (mTok h) c.toNat)) E := by
  have tr := mTok_r t
  obtain ⟨⟨t1, t2⟩, t3, t4⟩ := t
  intro n
  induction n with
  | zero => intro c g1 g2 g3; omega
  | succ n ih =>
    intro c g1 g2 g3 g4 g5
    have eb (x : Int) : mBy (ps (m_peek h) 46 x) (mTok h + c) = mBy h (mTok h + c) := rfl
    refine zx_ok (fun ok => ?_)
    have br : -2147483648 ≤ mBy h (mTok h + c) ∧ mBy h (mTok h + c) < 2147483648 := mBy_r (h := ps (m_peek h) 46 (mNum h (mTok h) c.toNat)) ok (mTok h + c)
    obtain ⟨g6, g7⟩ := toNat_next g1
    have nr := mNum_r h (mTok h) c.toNat (fun j h1 h2 => g5 j h1 (by omega))
    rw [mRE] at g4
    refine zx_aload_n (pc := 38) dX7_readNumber_38 rfl rfl ?_
    refine zx_aload_n (pc := 39) dX7_readNumber_39 rfl rfl ?_
    refine zg_X7_160 (pc := 40) dX7_readNumber_40 ?_
    refine zx_iload_n (pc := 43) dX7_readNumber_43 rfl rfl ?_
    refine zx_iadd (pc := 44) dX7_readNumber_44 ?_
    refine zi_X7_157 (pc := 45) dX7_readNumber_45 (C_X7_byteAt (h := ps (m_peek h) 46 (mNum h (mTok h) c.toNat)) (a1 := mTok h + c) t2 (by omega) (by omega)) (by decide) (Nat.le_of_ble_eq_true rfl) (fun z45 h45 u45 v45 q45 => ?_)
    obtain ⟨rfl, e45⟩ := q45
    rw [e45]
    clear e45 h45
    refine zi_X7_186 (pc := 48) dX7_readNumber_48 (C_X7_isDigit (a1 := mBy h (mTok h + c)) br) (by decide) (Nat.le_of_ble_eq_true rfl) (fun z48 h48 u48 v48 q48 => ?_)
    obtain ⟨rfl, e48⟩ := q48
    rw [e48]
    clear e48 h48
    refine zx_if_eq (pc := 51) (tgt := 99) dX7_readNumber_51 (by decide) (fun o => by first | exact o.1 _ (by decide) | exact o.2 _ _ | omega) (fun c51 => ?_) (fun c51 => ?_)
    · skip
      try replace c51 := b2i_0.mp c51
      rw [ifp_f c51] at g4
      have e : c = m_nend h - mTok h := by omega
      have e2 : mNum h (mTok h) c.toNat = m_nv h := by unfold m_nv; rw [← e]
      rw [e2, e]
      exact k
    · skip
      try replace c51 := b2i_n0.mp c51
      rw [ifp_t c51] at g4
      have i := mBy_in (h := h) (k := mTok h + c) (fun z => noD (by rw [z] at c51; exact c51))
      have c51a := c51
      unfold isD at c51a
      refine zx_aload_n (pc := 54) dX7_readNumber_54 rfl rfl ?_
      refine zx_iload_n (pc := 55) dX7_readNumber_55 rfl rfl ?_
      refine zx_bipush (pc := 56) dX7_readNumber_56 (by decide +kernel) ?_
      refine zx_icmp_ge (pc := 58) (tgt := 85) dX7_readNumber_58 (by decide) (fun o => by first | exact o.1 _ (by decide) | exact o.2 _ _ | omega) (fun o => by first | exact o.1 _ (by decide) | exact o.2 _ _ | omega) (fun c58 => ?_) (fun c58 => ?_)
      · skip
        have e : mNum h (mTok h) c.toNat = mNum h (mTok h) (c + 1).toNat := by
          rw [g6, mNum, ifp_f (by omega)]
        refine zx_aload_n (pc := 85) dX7_readNumber_85 rfl rfl ?_
        refine zg_X7_189 (pc := 86) dX7_readNumber_86 ?_
        refine zp_X7_189 (pc := 89) dX7_readNumber_89 (fun _ => by first | (show -2147483648 ≤ mNum h (mTok h) c.toNat ∧ mNum h (mTok h) c.toNat < 2147483648; omega) | (show -2147483648 ≤ 10 * mNum h (mTok h) c.toNat + mBy h (mTok h + c) - 48 ∧ 10 * mNum h (mTok h) c.toNat + mBy h (mTok h + c) - 48 < 2147483648; omega)) ?_
        refine zx_iload_n (pc := 92) dX7_readNumber_92 rfl rfl ?_
        refine zx_iconst (pc := 93) dX7_readNumber_93 ?_
        refine zx_iadd (pc := 94) dX7_readNumber_94 ?_
        refine zx_istore_n (pc := 95) dX7_readNumber_95 rfl (by decide) rfl ?_
        refine zx_goto (pc := 96) (tgt := 38) dX7_readNumber_96 (by decide) ?_
        have r := ih (c + 1) (by omega) (by omega) (by omega) (by rw [← g4]; congr 1; omega) (fun j h1 h2 => by
          by_cases q : j = mTok h + c
          · rw [q]; exact c51
          · exact g5 j h1 (by omega))
        rw [← e, ← ps_ps (m_peek h) 46 (mNum h (mTok h) c.toNat)] at r
        exact r
      · skip
        have e : 10 * mNum h (mTok h) c.toNat + mBy h (mTok h + c) - 48 = mNum h (mTok h) (c + 1).toNat := by
          rw [g6, mNum, g7, ifp_t (by omega)]
        refine zx_bipush (pc := 61) dX7_readNumber_61 (by decide +kernel) ?_
        refine zx_aload_n (pc := 63) dX7_readNumber_63 rfl rfl ?_
        refine zg_X7_189 (pc := 64) dX7_readNumber_64 ?_
        refine zx_imul (pc := 67) dX7_readNumber_67 ?_
        refine zx_aload_n (pc := 68) dX7_readNumber_68 rfl rfl ?_
        refine zx_aload_n (pc := 69) dX7_readNumber_69 rfl rfl ?_
        refine zg_X7_160 (pc := 70) dX7_readNumber_70 ?_
        refine zx_iload_n (pc := 73) dX7_readNumber_73 rfl rfl ?_
        refine zx_iadd (pc := 74) dX7_readNumber_74 ?_
        refine zi_X7_157 (pc := 75) dX7_readNumber_75 (C_X7_byteAt (h := ps (m_peek h) 46 (mNum h (mTok h) c.toNat)) (a1 := mTok h + c) t2 (by omega) (by omega)) (by decide) (Nat.le_of_ble_eq_true rfl) (fun z75 h75 u75 v75 q75 => ?_)
        obtain ⟨rfl, e75⟩ := q75
        rw [e75]
        clear e75 h75
        refine zx_iadd (pc := 78) dX7_readNumber_78 ?_
        refine zx_bipush (pc := 79) dX7_readNumber_79 (by decide +kernel) ?_
        refine zx_isub (pc := 81) dX7_readNumber_81 ?_
        refine zx_goto (pc := 82) (tgt := 89) dX7_readNumber_82 (by decide) ?_
        refine zp_X7_189 (pc := 89) dX7_readNumber_89 (fun _ => by first | (show -2147483648 ≤ mNum h (mTok h) c.toNat ∧ mNum h (mTok h) c.toNat < 2147483648; omega) | (show -2147483648 ≤ 10 * mNum h (mTok h) c.toNat + mBy h (mTok h + c) - 48 ∧ 10 * mNum h (mTok h) c.toNat + mBy h (mTok h + c) - 48 < 2147483648; omega)) ?_
        refine zx_iload_n (pc := 92) dX7_readNumber_92 rfl rfl ?_
        refine zx_iconst (pc := 93) dX7_readNumber_93 ?_
        refine zx_iadd (pc := 94) dX7_readNumber_94 ?_
        refine zx_istore_n (pc := 95) dX7_readNumber_95 rfl (by decide) rfl ?_
        refine zx_goto (pc := 96) (tgt := 38) dX7_readNumber_96 (by decide) ?_
        have r := ih (c + 1) (by omega) (by omega) (by omega) (by rw [← g4]; congr 1; omega) (fun j h1 h2 => by
          by_cases q : j = mTok h + c
          · rw [q]; exact c51
          · exact g5 j h1 (by omega))
        rw [← e, ← ps_ps (m_peek h) 46 (mNum h (mTok h) c.toNat)] at r
        exact r
theorem nv_r {h : zH} (t : MT h) : mTok h ≤ m_nend h ∧ m_nend h ≤ gs h 43 ∧ 0 ≤ m_nv h ∧ m_nv h < 1000000 ∧ (isD (mBy h (mTok h)) → mTok h < m_nend h) := by
  have tr := mTok_r t
  obtain ⟨r1, r2, r3⟩ := mRE_r noD h 601 (mTok h) tr.2
  have we : mRE isD h 601 (mTok h) = m_nend h := rfl
  rw [we] at r1 r2 r3
  have q := mNum_r h (mTok h) (m_nend h - mTok h).toNat (fun j h1 h2 => r3 j h1 (by omega))
  refine ⟨r1, r2, q.1, q.2.2, fun d => ?_⟩
  have e := mRE_e noD h 601 (mTok h) tr.2 (by have := t.1.2; have := t.2.1; omega)
  rw [we] at e
  by_cases c : mTok h = m_nend h
  · rw [← c] at e; exact absurd d e
  · omega
set_option maxRecDepth 100000 in
theorem C_X7_readNumber {h : zH} (t : MT h) {a1 a2 : Int} (w1 : -2147483648 ≤ a1 ∧ a1 < 2147483648) (w2 : -2147483648 ≤ a2 ∧ a2 < 2147483648) : kX7_readNumber a1 a2 h (fun r h2 => r = (m_number h a1 a2).2 ∧ h2 = (m_number h a1 a2).1) := by
  have tr := mTok_r t
  obtain ⟨r1, r2, r3, r4, r5⟩ := nv_r t
  have t1 := t.1.2
  have t2 := t.1.1
  have t3 := t.2.1
  apply eX7_readNumber
  unfold m_number
  refine zx_ok (fun ok => ?_)
  have e45 : gs (m_peek h) 45 = mTok h := rfl
  have e44 : gs (m_peek h) 44 = gs h 44 := rfl
  refine zx_aload_n (pc := 0) dX7_readNumber_0 rfl rfl ?_
  refine zi_X7_163 (pc := 1) dX7_readNumber_1 (C_X7_peek t) (by decide) (Nat.le_of_ble_eq_true rfl) (fun z1 h1 u1 v1 q1 => ?_)
  obtain ⟨rfl, e1⟩ := q1
  rw [e1]
  clear e1 h1
  refine zi_X7_186 (pc := 4) dX7_readNumber_4 (C_X7_isDigit (mBy_r ok _)) (by decide) (Nat.le_of_ble_eq_true rfl) (fun z4 h4 u4 v4 q4 => ?_)
  obtain ⟨rfl, e4⟩ := q4
  rw [e4]
  clear e4 h4
  refine zx_if_eq (pc := 7) (tgt := 21) dX7_readNumber_7 (by decide) (fun o => by first | exact o.1 _ (by decide) | exact o.2 _ _ | omega) (fun c7 => ?_) (fun c7 => ?_)
  · skip
    try replace c7 := b2i_0.mp c7
    rw [ifp_t (Or.inl c7)]
    refine zx_aload_n (pc := 21) dX7_readNumber_21 rfl rfl ?_
    refine zx_iconst (pc := 22) dX7_readNumber_22 ?_
    refine zx_aload_n (pc := 23) dX7_readNumber_23 rfl rfl ?_
    refine zg_X7_160 (pc := 24) dX7_readNumber_24 ?_
    refine zi_X7_174 (pc := 27) dX7_readNumber_27 (C_X7_fails (a2 := mTok h) (by decide) (by omega)) (by decide) (Nat.le_of_ble_eq_true rfl) (fun z27 h27 u27 v27 q27 => ?_)
    obtain ⟨rfl, e27⟩ := q27
    rw [e27]
    clear e27 h27
    refine zx_zret (pc := 30) dX7_readNumber_30 (by omega) ?_
    exact ⟨rfl, rfl⟩
  · skip
    try replace c7 := b2i_n0.mp c7
    refine zx_aload_n (pc := 10) dX7_readNumber_10 rfl rfl ?_
    refine zg_X7_160 (pc := 11) dX7_readNumber_11 ?_
    refine zx_aload_n (pc := 14) dX7_readNumber_14 rfl rfl ?_
    refine zg_X7_171 (pc := 15) dX7_readNumber_15 ?_
    refine zx_icmp_ne (pc := 18) (tgt := 31) dX7_readNumber_18 (by decide) (fun o => by first | exact o.1 _ (by decide) | exact o.2 _ _ | omega) (fun o => by first | exact o.1 _ (by decide) | exact o.2 _ _ | omega) (fun c18 => ?_) (fun c18 => ?_)
    · skip
      have c18a : mTok h ≠ gs h 44 := c18
      rw [ifp_f (fun z => by rcases z with z | z; exact z c7; exact c18a z)]
      refine zx_aload_n (pc := 31) dX7_readNumber_31 rfl rfl ?_
      refine zx_iconst (pc := 32) dX7_readNumber_32 ?_
      refine zp_X7_189 (pc := 33) dX7_readNumber_33 (fun o => by first | exact o.1 _ (by decide) | exact o.2 _ _ | omega) ?_
      refine zx_iconst (pc := 36) dX7_readNumber_36 ?_
      refine zx_istore_n (pc := 37) dX7_readNumber_37 rfl (by decide) rfl ?_
      refine L_X7_readNumber t (zEi cM _) ?_ 601 0 (Int.le_refl _) (by omega) (by omega) (by rw [Int.add_zero]; rfl) (fun j h1 h2 => by omega)
      refine zx_iload_n (pc := 99) dX7_readNumber_99 rfl rfl ?_
      refine zx_bipush (pc := 100) dX7_readNumber_100 (by decide +kernel) ?_
      refine zx_icmp_le (pc := 102) (tgt := 115) dX7_readNumber_102 (by decide) (fun o => by first | exact o.1 _ (by decide) | exact o.2 _ _ | omega) (fun o => by first | exact o.1 _ (by decide) | exact o.2 _ _ | omega) (fun c102 => ?_) (fun c102 => ?_)
      · skip
        rw [ifp_f (by omega)]
        refine zx_aload_n (pc := 115) dX7_readNumber_115 rfl rfl ?_
        refine zg_X7_189 (pc := 116) dX7_readNumber_116 ?_
        refine zx_iload_n (pc := 119) dX7_readNumber_119 rfl rfl ?_
        refine zx_iload_n (pc := 120) dX7_readNumber_120 rfl rfl ?_
        refine zi_X7_85 (pc := 121) dX7_readNumber_121 (C_X7_in (h := ps (m_peek h) 46 (m_nv h)) (a1 := m_nv h) (by omega) w1 w2) (by decide) (Nat.le_of_ble_eq_true rfl) (fun z121 h121 u121 v121 q121 => ?_)
        obtain ⟨rfl, e121⟩ := q121
        rw [e121]
        clear e121 h121
        refine zx_if_ne (pc := 124) (tgt := 137) dX7_readNumber_124 (by decide) (fun o => by first | exact o.1 _ (by decide) | exact o.2 _ _ | omega) (fun c124 => ?_) (fun c124 => ?_)
        · skip
          try replace c124 := b2i_n0.mp c124
          have c124a : a1 ≤ m_nv h ∧ m_nv h ≤ a2 := c124
          rw [ifp_f (fun z => z c124a)]
          refine zx_aload_n (pc := 137) dX7_readNumber_137 rfl rfl ?_
          refine zx_aload_n (pc := 138) dX7_readNumber_138 rfl rfl ?_
          refine zg_X7_160 (pc := 139) dX7_readNumber_139 ?_
          refine zx_iload_n (pc := 142) dX7_readNumber_142 rfl rfl ?_
          refine zx_iadd (pc := 143) dX7_readNumber_143 ?_
          refine zp_X7_154 (pc := 144) dX7_readNumber_144 (fun _ => by show -2147483648 ≤ mTok h + (m_nend h - mTok h) ∧ mTok h + (m_nend h - mTok h) < 2147483648; omega) ?_
          refine zx_aload_n (pc := 147) dX7_readNumber_147 rfl rfl ?_
          refine zx_aload_n (pc := 148) dX7_readNumber_148 rfl rfl ?_
          refine zg_X7_154 (pc := 149) dX7_readNumber_149 ?_
          refine zp_X7_171 (pc := 152) dX7_readNumber_152 (fun o => o.1 42 (by decide)) ?_
          refine zx_iconst (pc := 155) dX7_readNumber_155 ?_
          refine zx_zret (pc := 156) dX7_readNumber_156 (by omega) ?_
          refine ⟨rfl, ?_⟩
          have e : mTok h + (m_nend h - mTok h) = m_nend h := by omega
          show ps (ps (ps (m_peek h) 46 (m_nv h)) 42 (mTok h + (m_nend h - mTok h))) 44 (mTok h + (m_nend h - mTok h)) = _
          rw [e]
        · skip
          try replace c124 := b2i_0.mp c124
          have c124a : ¬ (a1 ≤ m_nv h ∧ m_nv h ≤ a2) := c124
          rw [ifp_t c124a]
          refine zx_aload_n (pc := 127) dX7_readNumber_127 rfl rfl ?_
          refine zx_iconst (pc := 128) dX7_readNumber_128 ?_
          refine zx_aload_n (pc := 129) dX7_readNumber_129 rfl rfl ?_
          refine zg_X7_160 (pc := 130) dX7_readNumber_130 ?_
          refine zi_X7_174 (pc := 133) dX7_readNumber_133 (C_X7_fails (h := ps (m_peek h) 46 (m_nv h)) (a2 := mTok h) (by decide) (by omega)) (by decide) (Nat.le_of_ble_eq_true rfl) (fun z133 h133 u133 v133 q133 => ?_)
          obtain ⟨rfl, e133⟩ := q133
          rw [e133]
          clear e133 h133
          refine zx_zret (pc := 136) dX7_readNumber_136 (by omega) ?_
          exact ⟨rfl, rfl⟩
      · skip
        rw [ifp_t (by omega)]
        refine zx_aload_n (pc := 105) dX7_readNumber_105 rfl rfl ?_
        refine zx_iconst (pc := 106) dX7_readNumber_106 ?_
        refine zx_aload_n (pc := 107) dX7_readNumber_107 rfl rfl ?_
        refine zg_X7_160 (pc := 108) dX7_readNumber_108 ?_
        refine zi_X7_174 (pc := 111) dX7_readNumber_111 (C_X7_fails (h := ps (m_peek h) 46 (m_nv h)) (a2 := mTok h) (by decide) (by omega)) (by decide) (Nat.le_of_ble_eq_true rfl) (fun z111 h111 u111 v111 q111 => ?_)
        obtain ⟨rfl, e111⟩ := q111
        rw [e111]
        clear e111 h111
        refine zx_zret (pc := 114) dX7_readNumber_114 (by omega) ?_
        exact ⟨rfl, rfl⟩
    · skip
      have c18a : mTok h = gs h 44 := c18
      rw [ifp_t (Or.inr c18a)]
      refine zx_aload_n (pc := 21) dX7_readNumber_21 rfl rfl ?_
      refine zx_iconst (pc := 22) dX7_readNumber_22 ?_
      refine zx_aload_n (pc := 23) dX7_readNumber_23 rfl rfl ?_
      refine zg_X7_160 (pc := 24) dX7_readNumber_24 ?_
      refine zi_X7_174 (pc := 27) dX7_readNumber_27 (C_X7_fails (a2 := mTok h) (by decide) (by omega)) (by decide) (Nat.le_of_ble_eq_true rfl) (fun z27 h27 u27 v27 q27 => ?_)
      obtain ⟨rfl, e27⟩ := q27
      rw [e27]
      clear e27 h27
      refine zx_zret (pc := 30) dX7_readNumber_30 (by omega) ?_
      exact ⟨rfl, rfl⟩
theorem number_r {h : zH} (t : MT h) (lo hi : Int) : TF h (m_number h lo hi).1 ∧ MT (m_number h lo hi).1 ∧ ((m_number h lo hi).2 = 0 ∧ gs h 42 ≤ gs (m_number h lo hi).1 42 ∨ (m_number h lo hi).2 = 1 ∧ gs h 42 < gs (m_number h lo hi).1 42 ∧ lo ≤ gs (m_number h lo hi).1 46 ∧ gs (m_number h lo hi).1 46 ≤ hi) := by
  have tr := mTok_r t
  have mp := MT_peek t
  obtain ⟨r1, r2, r3, r4, r5⟩ := nv_r t
  have f1 : TF h (ps (m_peek h) 46 (m_nv h)) := (TF_peek h).ps 46 _ (by decide)
  unfold m_number
  rcases Classical.em (¬ isD (mBy h (mTok h)) ∨ mTok h = gs h 44) with c | c
  · rw [ifp_t c]
    exact ⟨(TF_peek h).tr (TF_fails _ _ _), mp, Or.inl ⟨rfl, tr.1⟩⟩
  · rw [ifp_f c]
    rcases Classical.em (6 < m_nend h - mTok h) with d | d
    · rw [ifp_t d]
      exact ⟨f1.tr (TF_fails _ _ _), mp, Or.inl ⟨rfl, tr.1⟩⟩
    · rw [ifp_f d]
      rcases Classical.em (¬ (lo ≤ m_nv h ∧ m_nv h ≤ hi)) with e | e
      · rw [ifp_t e]
        exact ⟨f1.tr (TF_fails _ _ _), mp, Or.inl ⟨rfl, tr.1⟩⟩
      · rw [ifp_f e]
        have e2 := Classical.byContradiction e
        have dd : isD (mBy h (mTok h)) := Classical.byContradiction (fun z => c (Or.inl z))
        have r6 := r5 dd
        refine ⟨(f1.ps 42 _ (by decide)).ps 44 _ (by decide), ⟨t.1, ?_, r2⟩, Or.inr ⟨rfl, ?_, e2.1, e2.2⟩⟩
        · show 0 ≤ m_nend h
          have := t.2.1
          omega
        · show gs h 42 < m_nend h
          omega
noncomputable def m_setting (h : zH) (w lo hi : Int) : zH × Int := ifp ((m_word h w).2 = 1) (m_number (m_word h w).1 lo hi) ((m_word h w).1, 0)
set_option maxRecDepth 100000 in
theorem C_X7_readSetting {h : zH} (t : MT h) {a1 a2 a3 : Int} (w1 : 0 ≤ a1) (w2 : a1 < 34359738368) (w3 : -2147483648 ≤ a2 ∧ a2 < 2147483648) (w4 : -2147483648 ≤ a3 ∧ a3 < 2147483648) : kX7_readSetting a1 a2 a3 h (fun r h2 => r = (m_setting h a1 a2 a3).2 ∧ h2 = (m_setting h a1 a2 a3).1) := by
  obtain ⟨q1, q2, q3, q4⟩ := word_r t a1
  obtain ⟨n1, n2, n3⟩ := number_r q2 a2 a3
  apply eX7_readSetting
  unfold m_setting
  refine zx_aload_n (pc := 0) dX7_readSetting_0 rfl rfl ?_
  refine zx_lload_n (pc := 1) dX7_readSetting_1 rfl rfl ?_
  refine zi_X7_192 (pc := 2) dX7_readSetting_2 (C_X7_takesWord t w1 w2) (by decide) (Nat.le_of_ble_eq_true rfl) (fun z2 h2 u2 v2 q2 => ?_)
  obtain ⟨rfl, e2⟩ := q2
  rw [e2]
  clear e2 h2
  refine zx_if_eq (pc := 5) (tgt := 22) dX7_readSetting_5 (by decide) (fun o => by first | exact o.1 _ (by decide) | exact o.2 _ _ | omega) (fun c5 => ?_) (fun c5 => ?_)
  · skip
    try replace c5 := b2i_0.mp c5
    rw [ifp_f (by omega)]
    refine zx_iconst (pc := 22) dX7_readSetting_22 ?_
    refine zx_zret (pc := 23) dX7_readSetting_23 (by omega) ?_
    exact ⟨by omega, rfl⟩
  · skip
    try replace c5 := b2i_n0.mp c5
    rw [ifp_t (by omega)]
    refine zx_aload_n (pc := 8) dX7_readSetting_8 rfl rfl ?_
    refine zx_iload_n (pc := 9) dX7_readSetting_9 rfl rfl ?_
    refine zx_iload (pc := 10) dX7_readSetting_10 rfl ?_
    refine zi_X7_196 (pc := 12) dX7_readSetting_12 (C_X7_readNumber q2 w3 w4) (by decide) (Nat.le_of_ble_eq_true rfl) (fun z12 h12 u12 v12 q12 => ?_)
    obtain ⟨rfl, e12⟩ := q12
    rw [e12]
    clear e12 h12
    refine zx_if_eq (pc := 15) (tgt := 22) dX7_readSetting_15 (by decide) (fun o => by first | exact o.1 _ (by decide) | exact o.2 _ _ | omega) (fun c15 => ?_) (fun c15 => ?_)
    · skip
      try replace c15 := b2i_0.mp c15
      refine zx_iconst (pc := 22) dX7_readSetting_22 ?_
      refine zx_zret (pc := 23) dX7_readSetting_23 (by omega) ?_
      exact ⟨by omega, rfl⟩
    · skip
      try replace c15 := b2i_n0.mp c15
      refine zx_iconst (pc := 18) dX7_readSetting_18 ?_
      refine zx_goto (pc := 19) (tgt := 23) dX7_readSetting_19 (by decide) ?_
      refine zx_zret (pc := 23) dX7_readSetting_23 (by omega) ?_
      exact ⟨by omega, rfl⟩
theorem setting_r {h : zH} (t : MT h) (w lo hi : Int) : TF h (m_setting h w lo hi).1 ∧ MT (m_setting h w lo hi).1 ∧ ((m_setting h w lo hi).2 = 0 ∨ (m_setting h w lo hi).2 = 1 ∧ lo ≤ gs (m_setting h w lo hi).1 46 ∧ gs (m_setting h w lo hi).1 46 ≤ hi) := by
  obtain ⟨q1, q2, q3, q4⟩ := word_r t w
  obtain ⟨n1, n2, n3⟩ := number_r q2 lo hi
  unfold m_setting
  rcases Classical.em ((m_word h w).2 = 1) with c | c
  · rw [ifp_t c]
    refine ⟨q1.tr n1, n2, ?_⟩
    rcases n3 with n3 | n3
    · exact Or.inl n3.1
    · exact Or.inr ⟨n3.1, n3.2.2⟩
  · rw [ifp_f c]
    exact ⟨q1, q2, Or.inl rfl⟩
noncomputable def m_semi (h : zH) : zH × Int := ifp (mBy h (mTok h) = 59) (ps (ps (m_peek h) 42 (mTok h + 1)) 44 (-1), 1) (m_fails (m_peek h) 1 (mTok h), 0)
set_option maxRecDepth 100000 in
theorem C_X7_readSemicolon {h : zH} (t : MT h) : kX7_readSemicolon h (fun r h2 => r = (m_semi h).2 ∧ h2 = (m_semi h).1) := by
  have tr := mTok_r t
  have t1 := t.1.2
  have t3 := t.2.1
  apply eX7_readSemicolon
  unfold m_semi
  refine zx_ok (fun ok => ?_)
  refine zx_aload_n (pc := 0) dX7_readSemicolon_0 rfl rfl ?_
  refine zi_X7_163 (pc := 1) dX7_readSemicolon_1 (C_X7_peek t) (by decide) (Nat.le_of_ble_eq_true rfl) (fun z1 h1 u1 v1 q1 => ?_)
  obtain ⟨rfl, e1⟩ := q1
  rw [e1]
  clear e1 h1
  refine zx_bipush (pc := 4) dX7_readSemicolon_4 (by decide +kernel) ?_
  refine zx_icmp_eq (pc := 6) (tgt := 19) dX7_readSemicolon_6 (by decide) (fun _ => mBy_r ok _) (fun o => by first | exact o.1 _ (by decide) | exact o.2 _ _ | omega) (fun c6 => ?_) (fun c6 => ?_)
  · skip
    rw [ifp_t c6]
    refine zx_aload_n (pc := 19) dX7_readSemicolon_19 rfl rfl ?_
    refine zx_aload_n (pc := 20) dX7_readSemicolon_20 rfl rfl ?_
    refine zg_X7_160 (pc := 21) dX7_readSemicolon_21 ?_
    refine zx_iconst (pc := 24) dX7_readSemicolon_24 ?_
    refine zx_iadd (pc := 25) dX7_readSemicolon_25 ?_
    refine zp_X7_154 (pc := 26) dX7_readSemicolon_26 (fun _ => by show -2147483648 ≤ mTok h + 1 ∧ mTok h + 1 < 2147483648; omega) ?_
    refine zx_aload_n (pc := 29) dX7_readSemicolon_29 rfl rfl ?_
    refine zx_iconst (pc := 30) dX7_readSemicolon_30 ?_
    refine zp_X7_171 (pc := 31) dX7_readSemicolon_31 (fun _ => by decide) ?_
    refine zx_iconst (pc := 34) dX7_readSemicolon_34 ?_
    refine zx_zret (pc := 35) dX7_readSemicolon_35 (by omega) ?_
    exact ⟨rfl, rfl⟩
  · skip
    rw [ifp_f c6]
    refine zx_aload_n (pc := 9) dX7_readSemicolon_9 rfl rfl ?_
    refine zx_iconst (pc := 10) dX7_readSemicolon_10 ?_
    refine zx_aload_n (pc := 11) dX7_readSemicolon_11 rfl rfl ?_
    refine zg_X7_160 (pc := 12) dX7_readSemicolon_12 ?_
    refine zi_X7_174 (pc := 15) dX7_readSemicolon_15 (C_X7_fails (a2 := mTok h) (by decide) (by omega)) (by decide) (Nat.le_of_ble_eq_true rfl) (fun z15 h15 u15 v15 q15 => ?_)
    obtain ⟨rfl, e15⟩ := q15
    rw [e15]
    clear e15 h15
    refine zx_zret (pc := 18) dX7_readSemicolon_18 (by omega) ?_
    exact ⟨rfl, rfl⟩
theorem semi_r {h : zH} (t : MT h) : TF h (m_semi h).1 ∧ MT (m_semi h).1 ∧ ((m_semi h).2 = 0 ∧ gs h 42 ≤ gs (m_semi h).1 42 ∨ (m_semi h).2 = 1 ∧ gs h 42 < gs (m_semi h).1 42) := by
  have tr := mTok_r t
  have mp := MT_peek t
  unfold m_semi
  rcases Classical.em (mBy h (mTok h) = 59) with c | c
  · rw [ifp_t c]
    have i := mBy_in (h := h) (k := mTok h) (by omega)
    refine ⟨((TF_peek h).ps 42 _ (by decide)).ps 44 _ (by decide), ⟨t.1, ?_, ?_⟩, Or.inr ⟨rfl, ?_⟩⟩
    · show 0 ≤ mTok h + 1
      have := t.2.1
      omega
    · show mTok h + 1 ≤ gs h 43
      omega
    · show gs h 42 < mTok h + 1
      omega
  · rw [ifp_f c]
    exact ⟨(TF_peek h).tr (TF_fails _ _ _), mp, Or.inl ⟨rfl, tr.1⟩⟩
def mFits (h : zH) : Prop := gs h 7 + 2 * ((gs h 7 + 7) / 8 + 1) + 1 ≤ (gs h 5 - 2) * gs h 6
noncomputable def m_logical (h : zH) : zH × Int := ifp ((m_setting h 13395856428 1 64).2 = 1) (ifp (mFits (ps (m_setting h 13395856428 1 64).1 7 (gs (m_setting h 13395856428 1 64).1 46))) (ps (m_setting h 13395856428 1 64).1 7 (gs (m_setting h 13395856428 1 64).1 46), 1) (m_fails (ps (m_setting h 13395856428 1 64).1 7 (gs (m_setting h 13395856428 1 64).1 46)) 2 (gs (m_setting h 13395856428 1 64).1 45), 0)) ((m_setting h 13395856428 1 64).1, 0)
set_option maxRecDepth 100000 in
theorem C_X7_readLogical {h : zH} (t : MT h) (b5 : 0 ≤ gs h 5 ∧ gs h 5 ≤ 32) (b6 : 0 ≤ gs h 6 ∧ gs h 6 ≤ 32) : kX7_readLogical h (fun r h2 => r = (m_logical h).2 ∧ h2 = (m_logical h).1) := by
  obtain ⟨q1, q2, q3⟩ := setting_r t 13395856428 1 64
  have e5 := q1.1 5 (by decide) (by decide) (by decide) (by decide) (by decide) (by decide) (by decide)
  have e6 := q1.1 6 (by decide) (by decide) (by decide) (by decide) (by decide) (by decide) (by decide)
  have m := mb_size b5.1 b5.2 b6.1 b6.2
  have mm : (gs h 5 - 2) * gs h 6 = gs h 5 * gs h 6 - 2 * gs h 6 := Int.sub_mul _ _ _
  apply eX7_readLogical
  unfold m_logical
  refine zx_aload_n (pc := 0) dX7_readLogical_0 rfl rfl ?_
  refine zx_ldc2 (pc := 1) (n := 13395856428) dX7_readLogical_1 (by rw [show lL 13395856428 = (13395856428 : Int64) by decide +kernel]; exact zo_X7_199) ?_
  refine zx_iconst (pc := 4) dX7_readLogical_4 ?_
  refine zx_bipush (pc := 5) dX7_readLogical_5 (by decide +kernel) ?_
  refine zi_X7_201 (pc := 7) dX7_readLogical_7 (C_X7_readSetting t (by decide) (by decide) (by decide) (by decide)) (by decide) (Nat.le_of_ble_eq_true rfl) (fun z7 h7 u7 v7 q7 => ?_)
  obtain ⟨rfl, e7⟩ := q7
  rw [e7]
  clear e7 h7
  refine zx_ok (fun ok => ?_)
  have z5 : gs (ps (m_setting h 13395856428 1 64).1 7 (gs (m_setting h 13395856428 1 64).1 46)) 5 = gs h 5 := e5
  have z6 : gs (ps (m_setting h 13395856428 1 64).1 7 (gs (m_setting h 13395856428 1 64).1 46)) 6 = gs h 6 := e6
  have z7 : gs (ps (m_setting h 13395856428 1 64).1 7 (gs (m_setting h 13395856428 1 64).1 46)) 7 = gs (m_setting h 13395856428 1 64).1 46 := rfl
  refine zx_if_ne (pc := 10) (tgt := 15) dX7_readLogical_10 (by decide) (fun o => by first | exact o.1 _ (by decide) | exact o.2 _ _ | omega) (fun c10 => ?_) (fun c10 => ?_)
  · skip
    try replace c10 := b2i_n0.mp c10
    rw [ifp_t (by omega)]
    refine zx_aload_n (pc := 15) dX7_readLogical_15 rfl rfl ?_
    refine zx_aload_n (pc := 16) dX7_readLogical_16 rfl rfl ?_
    refine zg_X7_189 (pc := 17) dX7_readLogical_17 ?_
    refine zp_X7_205 (pc := 20) dX7_readLogical_20 (fun o => by first | exact o.1 _ (by decide) | exact o.2 _ _ | omega) ?_
    refine zx_aload_n (pc := 23) dX7_readLogical_23 rfl rfl ?_
    refine zg_X7_208 (pc := 24) dX7_readLogical_24 ?_
    refine zx_iconst (pc := 27) dX7_readLogical_27 ?_
    refine zx_isub (pc := 28) dX7_readLogical_28 ?_
    refine zx_aload_n (pc := 29) dX7_readLogical_29 rfl rfl ?_
    refine zg_X7_211 (pc := 30) dX7_readLogical_30 ?_
    refine zx_imul (pc := 33) dX7_readLogical_33 ?_
    refine zx_aload_n (pc := 34) dX7_readLogical_34 rfl rfl ?_
    refine zg_X7_205 (pc := 35) dX7_readLogical_35 ?_
    refine zx_iconst (pc := 38) dX7_readLogical_38 ?_
    refine zx_aload_n (pc := 39) dX7_readLogical_39 rfl rfl ?_
    refine zg_X7_205 (pc := 40) dX7_readLogical_40 ?_
    refine zi_X7_75 (pc := 43) dX7_readLogical_43 (C_X7_partsOf (h := ps (m_setting h 13395856428 1 64).1 7 (gs (m_setting h 13395856428 1 64).1 46)) (a1 := gs (m_setting h 13395856428 1 64).1 46) (by omega) (by omega)) (by decide) (Nat.le_of_ble_eq_true rfl) (fun z43 h43 u43 v43 q43 => ?_)
    obtain ⟨rfl, e43⟩ := q43
    rw [e43]
    clear e43 h43
    refine zx_iconst (pc := 46) dX7_readLogical_46 ?_
    refine zx_iadd (pc := 47) dX7_readLogical_47 ?_
    refine zx_imul (pc := 48) dX7_readLogical_48 ?_
    refine zx_iadd (pc := 49) dX7_readLogical_49 ?_
    refine zx_iconst (pc := 50) dX7_readLogical_50 ?_
    refine zx_iadd (pc := 51) dX7_readLogical_51 ?_
    refine zx_icmp_lt (pc := 52) (tgt := 59) dX7_readLogical_52 (by decide) (fun _ => by rw [z5, z6]; omega) (fun _ => by rw [z7]; omega) (fun c52 => ?_) (fun c52 => ?_)
    · skip
      rw [z5, z6, z7] at c52
      rw [ifp_f (by unfold mFits; rw [z5, z6, z7]; omega)]
      refine zx_iconst (pc := 59) dX7_readLogical_59 ?_
      refine zx_istore_n (pc := 60) dX7_readLogical_60 rfl (by decide) rfl ?_
      refine zx_iload_n (pc := 61) dX7_readLogical_61 rfl rfl ?_
      refine zx_if_ne (pc := 62) (tgt := 77) dX7_readLogical_62 (by decide) (fun _ => by decide) (fun c9 => absurd c9 (by decide)) (fun _ => ?_)
      refine zx_aload_n (pc := 65) dX7_readLogical_65 rfl rfl ?_
      refine zx_iconst (pc := 66) dX7_readLogical_66 ?_
      refine zx_aload_n (pc := 67) dX7_readLogical_67 rfl rfl ?_
      refine zg_X7_160 (pc := 68) dX7_readLogical_68 ?_
      refine zi_X7_174 (pc := 71) dX7_readLogical_71 (C_X7_fails (h := ps (m_setting h 13395856428 1 64).1 7 (gs (m_setting h 13395856428 1 64).1 46)) (a2 := gs (m_setting h 13395856428 1 64).1 45) (by decide) (ok.1 45 (by decide))) (by decide) (Nat.le_of_ble_eq_true rfl) (fun z71 h71 u71 v71 q71 => ?_)
      obtain ⟨rfl, e71⟩ := q71
      rw [e71]
      clear e71 h71
      refine zx_if_eq (pc := 74) (tgt := 81) dX7_readLogical_74 (by decide) (fun o => by first | exact o.1 _ (by decide) | exact o.2 _ _ | omega) (fun c74 => ?_) (fun c74 => ?_)
      · skip
        try replace c74 := b2i_0.mp c74
        refine zx_iconst (pc := 81) dX7_readLogical_81 ?_
        refine zx_zret (pc := 82) dX7_readLogical_82 (by omega) ?_
        exact ⟨rfl, rfl⟩
      · skip
        try replace c74 := b2i_n0.mp c74
        exact absurd rfl c74
    · skip
      rw [z5, z6, z7] at c52
      rw [ifp_t (by unfold mFits; rw [z5, z6, z7]; omega)]
      refine zx_iconst (pc := 55) dX7_readLogical_55 ?_
      refine zx_goto (pc := 56) (tgt := 60) dX7_readLogical_56 (by decide) ?_
      refine zx_istore_n (pc := 60) dX7_readLogical_60 rfl (by decide) rfl ?_
      refine zx_iload_n (pc := 61) dX7_readLogical_61 rfl rfl ?_
      refine zx_if_ne (pc := 62) (tgt := 77) dX7_readLogical_62 (by decide) (fun _ => by decide) (fun _ => ?_) (fun c9 => absurd c9 (by decide))
      refine zx_iconst (pc := 77) dX7_readLogical_77 ?_
      refine zx_goto (pc := 78) (tgt := 82) dX7_readLogical_78 (by decide) ?_
      refine zx_zret (pc := 82) dX7_readLogical_82 (by omega) ?_
      exact ⟨rfl, rfl⟩
  · skip
    try replace c10 := b2i_0.mp c10
    rw [ifp_f (by omega)]
    refine zx_iconst (pc := 13) dX7_readLogical_13 ?_
    refine zx_zret (pc := 14) dX7_readLogical_14 (by omega) ?_
    exact ⟨rfl, rfl⟩

