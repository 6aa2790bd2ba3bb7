/-! the reference: reading a text: what it makes, and contracts -/
def isL (c : Int) : Prop := 97 ≤ c ∧ c ≤ 122
def isD (c : Int) : Prop := 48 ≤ c ∧ c ≤ 57
def mBy (h : zH) (k : Int) : Int := if k < gs h 43 then ga h 16 k else -1
def MT (h : zH) : Prop := (0 ≤ gs h 43 ∧ gs h 43 ≤ 600) ∧ (0 ≤ gs h 42 ∧ gs h 42 ≤ gs h 43)
noncomputable def mSk (h : zH) : Nat → Int → Int
  | 0, p => p
  | n + 1, p => ifp (mBy h p = 32 ∨ mBy h p = 10) (mSk h n (p + 1)) p
noncomputable def mTok (h : zH) : Int := mSk h 601 (gs h 42)
noncomputable def m_peek (h : zH) : zH := ps (ps h 42 (mTok h)) 45 (mTok h)
theorem mBy_r {h : zH} (ok : zOk h) (k : Int) : -2147483648 ≤ mBy h k ∧ mBy h k < 2147483648 := by
  unfold mBy
  split
  · exact ok.2 16 k
  · decide
theorem mBy_in {h : zH} {k : Int} (c : mBy h k ≠ -1) : k < gs h 43 := by
  unfold mBy at c
  by_cases q : k < gs h 43
  · exact q
  · rw [if_neg q] at c
    exact absurd rfl c
theorem mSk_r (h : zH) : ∀ (n : Nat) (p : Int), p ≤ gs h 43 → p ≤ mSk h n p ∧ mSk h n p ≤ gs h 43
  | 0, p, hp => ⟨Int.le_refl _, hp⟩
  | n + 1, p, hp => by
    rw [mSk]
    rcases Classical.em (mBy h p = 32 ∨ mBy h p = 10) with c | c
    · rw [ifp_t c]
      have i := mBy_in (h := h) (k := p) (by omega)
      have q := mSk_r h n (p + 1) (by omega)
      omega
    · rw [ifp_f c]
      exact ⟨Int.le_refl _, hp⟩
theorem mTok_r {h : zH} (t : MT h) : gs h 42 ≤ mTok h ∧ mTok h ≤ gs h 43 := mSk_r h 601 _ t.2.2
set_option maxRecDepth 100000 in
theorem C_X7_byteAt {h : zH} (t : gs h 43 ≤ 600) {a1 : Int} (h1 : 0 ≤ a1) (h2 : a1 < 100000) : kX7_byteAt a1 h (fun r h2 => r = mBy h a1 ∧ h2 = h) := by
  apply eX7_byteAt
  unfold mBy
  refine zx_iload_n (pc := 0) dX7_byteAt_0 rfl rfl ?_
  refine zx_aload_n (pc := 1) dX7_byteAt_1 rfl rfl ?_
  refine zg_X7_151 (pc := 2) dX7_byteAt_2 ?_
  refine zx_icmp_ge (pc := 5) (tgt := 17) dX7_byteAt_5 (by decide) (fun o => by first | exact o.1 _ (by decide) | exact o.2 _ _ | omega) (fun o => by first | exact o.1 _ (by decide) | exact o.2 _ _ | omega) (fun c5 => ?_) (fun c5 => ?_)
  · skip
    rw [if_neg (by omega)]
    refine zx_iconst (pc := 17) dX7_byteAt_17 ?_
    refine zx_iret (pc := 18) dX7_byteAt_18 (fun o => by first | exact o.1 _ (by decide) | exact o.2 _ _ | omega) ?_
    exact ⟨rfl, rfl⟩
  · skip
    rw [if_pos c5]
    refine zx_aload_n (pc := 8) dX7_byteAt_8 rfl rfl ?_
    refine zg_X7_60 (pc := 9) dX7_byteAt_9 ?_
    refine zx_iload_n (pc := 12) dX7_byteAt_12 rfl rfl ?_
    refine zx_iaload (pc := 13) aX7_buffer dX7_byteAt_13 (by omega) (by omega) (by omega) ?_
    refine zx_goto (pc := 14) (tgt := 18) dX7_byteAt_14 (by decide) ?_
    refine zx_iret (pc := 18) dX7_byteAt_18 (fun o => by first | exact o.1 _ (by decide) | exact o.2 _ _ | omega) ?_
    exact ⟨rfl, rfl⟩
set_option maxRecDepth 100000 in
theorem C_X7_isLetter {h : zH} {a1 : Int} (r1 : -2147483648 ≤ a1 ∧ a1 < 2147483648) : kX7_isLetter a1 h (fun r h2 => r = b2i (isL a1) ∧ h2 = h) := by
  apply eX7_isLetter
  refine zx_iload_n (pc := 0) dX7_isLetter_0 rfl rfl ?_
  refine zx_bipush (pc := 1) dX7_isLetter_1 (by decide +kernel) ?_
  refine zx_bipush (pc := 3) dX7_isLetter_3 (by decide +kernel) ?_
  refine zi_X7_85 (pc := 5) dX7_isLetter_5 (C_X7_in r1 (by decide) (by decide)) (by decide) (Nat.le_of_ble_eq_true rfl) (fun z5 h5 u5 v5 q5 => ?_)
  obtain ⟨rfl, e5⟩ := q5
  rw [e5]
  clear e5 h5
  refine zx_zret (pc := 8) dX7_isLetter_8 (b2i_01 _) ?_
  exact ⟨rfl, rfl⟩
set_option maxRecDepth 100000 in
theorem C_X7_isDigit {h : zH} {a1 : Int} (r1 : -2147483648 ≤ a1 ∧ a1 < 2147483648) : kX7_isDigit a1 h (fun r h2 => r = b2i (isD a1) ∧ h2 = h) := by
  apply eX7_isDigit
  refine zx_iload_n (pc := 0) dX7_isDigit_0 rfl rfl ?_
  refine zx_bipush (pc := 1) dX7_isDigit_1 (by decide +kernel) ?_
  refine zx_bipush (pc := 3) dX7_isDigit_3 (by decide +kernel) ?_
  refine zi_X7_85 (pc := 5) dX7_isDigit_5 (C_X7_in r1 (by decide) (by decide)) (by decide) (Nat.le_of_ble_eq_true rfl) (fun z5 h5 u5 v5 q5 => ?_)
  obtain ⟨rfl, e5⟩ := q5
  rw [e5]
  clear e5 h5
  refine zx_zret (pc := 8) dX7_isDigit_8 (b2i_01 _) ?_
  exact ⟨rfl, rfl⟩
def m_fails (h : zH) (a b : Int) : zH := ps (ps h 47 a) 48 b
set_option maxRecDepth 100000 in
theorem C_X7_fails {h : zH} {a1 a2 : Int} (r1 : -2147483648 ≤ a1 ∧ a1 < 2147483648) (r2 : -2147483648 ≤ a2 ∧ a2 < 2147483648) : kX7_fails a1 a2 h (fun r h2 => r = 0 ∧ h2 = m_fails h a1 a2) := by
  apply eX7_fails
  refine zx_aload_n (pc := 0) dX7_fails_0 rfl rfl ?_
  refine zx_iload_n (pc := 1) dX7_fails_1 rfl rfl ?_
  refine zp_X7_145 (pc := 2) dX7_fails_2 (fun o => by first | exact o.1 _ (by decide) | exact o.2 _ _ | omega) ?_
  refine zx_aload_n (pc := 5) dX7_fails_5 rfl rfl ?_
  refine zx_iload_n (pc := 6) dX7_fails_6 rfl rfl ?_
  refine zp_X7_63 (pc := 7) dX7_fails_7 (fun o => by first | exact o.1 _ (by decide) | exact o.2 _ _ | omega) ?_
  refine zx_iconst (pc := 10) dX7_fails_10 ?_
  refine zx_zret (pc := 11) dX7_fails_11 (by omega) ?_
  exact ⟨rfl, rfl⟩
set_option maxRecDepth 100000 in
theorem L_X7_peek {h : zH} (t1 : gs h 43 ≤ 600) : ∀ (n : Nat) (p : Int), 0 ≤ p → p ≤ gs h 43 → gs h 43 - p < n → zX cM zNo RX7 cX7_peek 1 (some .int) rX7_peek 0 [some (.ref 0)] [] (ps h 42 p) (zEi cM (fun r h2 => r = mBy h (mSk h n p) ∧ h2 = ps (ps h 42 (mSk h n p)) 45 (mSk h n p))) := by
  intro n
  induction n with
  | zero => intro p g1 g2 g3; omega
  | succ n ih =>
    intro p g1 g2 g3
    have e42 : gs (ps h 42 p) 42 = p := rfl
    have eb : mBy (ps h 42 p) p = mBy h p := rfl
    have eb2 : mBy (ps (ps h 42 p) 45 p) p = mBy h p := rfl
    have e422 : gs (ps (ps h 42 p) 45 p) 42 = p := rfl
    refine zx_ok (fun ok => ?_)
    have br : -2147483648 ≤ mBy h p ∧ mBy h p < 2147483648 := mBy_r (h := ps h 42 p) ok p
    rw [mSk]
    have go (z : mBy h p = 32 ∨ mBy h p = 10) : zX cM zNo RX7 cX7_peek 1 (some .int) rX7_peek 0 [some (.ref 0)] [] (ps (ps h 42 p) 42 (p + 1)) (zEi cM (fun r h2 => r = mBy h (ifp (mBy h p = 32 ∨ mBy h p = 10) (mSk h n (p + 1)) p) ∧ h2 = ps (ps h 42 (ifp (mBy h p = 32 ∨ mBy h p = 10) (mSk h n (p + 1)) p)) 45 (ifp (mBy h p = 32 ∨ mBy h p = 10) (mSk h n (p + 1)) p))) := by
      have i := mBy_in (h := h) (k := p) (by omega)
      rw [ps_ps, ifp_t z]
      exact ih (p + 1) (by omega) (by omega) (by omega)
    refine zx_aload_n (pc := 0) dX7_peek_0 rfl rfl ?_
    refine zx_aload_n (pc := 1) dX7_peek_1 rfl rfl ?_
    refine zg_X7_154 (pc := 2) dX7_peek_2 ?_
    refine zi_X7_157 (pc := 5) dX7_peek_5 (C_X7_byteAt (h := ps h 42 p) (a1 := p) t1 g1 (by omega)) (by decide) (Nat.le_of_ble_eq_true rfl) (fun z5 h5 u5 v5 q5 => ?_)
    obtain ⟨rfl, eQ⟩ := q5
    rw [eQ]
    clear eQ h5
    refine zx_bipush (pc := 8) dX7_peek_8 (by decide +kernel) ?_
    refine zx_icmp_eq (pc := 10) (tgt := 26) dX7_peek_10 (by decide) (fun _ => br) (fun o => by first | exact o.1 _ (by decide) | exact o.2 _ _ | omega) (fun c10 => ?_) (fun c10 => ?_)
    · skip
      have c10a : mBy h p = 32 := c10
      refine zx_aload_n (pc := 26) dX7_peek_26 rfl rfl ?_
      refine zx_aload_n (pc := 27) dX7_peek_27 rfl rfl ?_
      refine zg_X7_154 (pc := 28) dX7_peek_28 ?_
      refine zx_iconst (pc := 31) dX7_peek_31 ?_
      refine zx_iadd (pc := 32) dX7_peek_32 ?_
      refine zp_X7_154 (pc := 33) dX7_peek_33 (fun _ => by omega) ?_
      refine zx_goto (pc := 36) (tgt := 0) dX7_peek_36 (by decide) ?_
      exact go (by omega)
    · skip
      have c10a : mBy h p ≠ 32 := c10
      refine zx_aload_n (pc := 13) dX7_peek_13 rfl rfl ?_
      refine zx_aload_n (pc := 14) dX7_peek_14 rfl rfl ?_
      refine zg_X7_154 (pc := 15) dX7_peek_15 ?_
      refine zi_X7_157 (pc := 18) dX7_peek_18 (C_X7_byteAt (h := ps h 42 p) (a1 := p) t1 g1 (by omega)) (by decide) (Nat.le_of_ble_eq_true rfl) (fun z18 h18 u18 v18 q18 => ?_)
      obtain ⟨rfl, eQ⟩ := q18
      rw [eQ]
      clear eQ h18
      refine zx_bipush (pc := 21) dX7_peek_21 (by decide +kernel) ?_
      refine zx_icmp_ne (pc := 23) (tgt := 39) dX7_peek_23 (by decide) (fun _ => br) (fun o => by first | exact o.1 _ (by decide) | exact o.2 _ _ | omega) (fun c23 => ?_) (fun c23 => ?_)
      · skip
        have c23a : mBy h p ≠ 10 := c23
        refine zx_aload_n (pc := 39) dX7_peek_39 rfl rfl ?_
        refine zx_aload_n (pc := 40) dX7_peek_40 rfl rfl ?_
        refine zg_X7_154 (pc := 41) dX7_peek_41 ?_
        refine zp_X7_160 (pc := 44) dX7_peek_44 (fun _ => by rw [e42]; omega) ?_
        refine zx_aload_n (pc := 47) dX7_peek_47 rfl rfl ?_
        refine zx_aload_n (pc := 48) dX7_peek_48 rfl rfl ?_
        refine zg_X7_154 (pc := 49) dX7_peek_49 ?_
        refine zi_X7_157 (pc := 52) dX7_peek_52 (C_X7_byteAt (h := ps (ps h 42 p) 45 p) (a1 := p) t1 g1 (by omega)) (by decide) (Nat.le_of_ble_eq_true rfl) (fun z52 h52 u52 v52 q52 => ?_)
        obtain ⟨rfl, eQ⟩ := q52
        rw [eQ]
        clear eQ h52
        refine zx_iret (pc := 55) dX7_peek_55 (fun _ => br) ?_
        rw [ifp_f (by omega)]
        exact ⟨rfl, rfl⟩
      · skip
        have c23a : mBy h p = 10 := c23
        refine zx_aload_n (pc := 26) dX7_peek_26 rfl rfl ?_
        refine zx_aload_n (pc := 27) dX7_peek_27 rfl rfl ?_
        refine zg_X7_154 (pc := 28) dX7_peek_28 ?_
        refine zx_iconst (pc := 31) dX7_peek_31 ?_
        refine zx_iadd (pc := 32) dX7_peek_32 ?_
        refine zp_X7_154 (pc := 33) dX7_peek_33 (fun _ => by omega) ?_
        refine zx_goto (pc := 36) (tgt := 0) dX7_peek_36 (by decide) ?_
        exact go (by omega)
set_option maxRecDepth 100000 in
theorem C_X7_peek {h : zH} (t : MT h) : kX7_peek h (fun r h2 => r = mBy h (mTok h) ∧ h2 = m_peek h) := by
  apply eX7_peek
  have r := L_X7_peek t.1.2 601 (gs h 42) t.2.1 t.2.2 (by have := t.1.2; have := t.2.1; omega)
  rw [ps_same] at r
  exact r
/-- the end of a run of bytes with p -/
noncomputable def mRE (p : Int → Prop) (h : zH) : Nat → Int → Int
  | 0, k => k
  | n + 1, k => ifp (p (mBy h k)) (mRE p h n (k + 1)) k
theorem mRE_r {p : Int → Prop} (hp : ¬ p (-1)) (h : zH) : ∀ (n : Nat) (k : Int), k ≤ gs h 43 → k ≤ mRE p h n k ∧ mRE p h n k ≤ gs h 43 ∧ ∀ j, k ≤ j → j < mRE p h n k → p (mBy h j)
  | 0, k, hk => ⟨Int.le_refl _, hk, fun j h1 h2 => absurd h2 (by rw [mRE]; omega)⟩
  | n + 1, k, hk => by
    rw [mRE]
    rcases Classical.em (p (mBy h k)) with c | c
    · rw [ifp_t c]
      have i := mBy_in (h := h) (k := k) (fun z => hp (by rw [z] at c; exact c))
      obtain ⟨q1, q2, q3⟩ := mRE_r hp h n (k + 1) (by omega)
      refine ⟨by omega, q2, fun j h1 h2 => ?_⟩
      by_cases e : j = k
      · rw [e]; exact c
      · exact q3 j (by omega) h2
    · rw [ifp_f c]
      exact ⟨Int.le_refl _, hk, fun j h1 h2 => by omega⟩
theorem mRE_e {p : Int → Prop} (hp : ¬ p (-1)) (h : zH) : ∀ (n : Nat) (k : Int), k ≤ gs h 43 → gs h 43 - k < n → ¬ p (mBy h (mRE p h n k))
  | 0, k, h1, h2 => by omega
  | n + 1, k, h1, h2 => by
    rw [mRE]
    rcases Classical.em (p (mBy h k)) with c | c
    · rw [ifp_t c]
      have i := mBy_in (h := h) (k := k) (fun z => hp (by rw [z] at c; exact c))
      exact mRE_e hp h n (k + 1) (by omega) (by omega)
    · rw [ifp_f c]; exact c
theorem noL : ¬ isL (-1) := by unfold isL; omega
theorem noD : ¬ isD (-1) := by unfold isD; omega
noncomputable def mHash (h : zH) (t : Int) : Nat → Int
  | 0 => 0
  | n + 1 => ifp (n < 7) (32 * mHash h t n + mBy h (t + n) - 96) 0
theorem mHash_r (h : zH) (t : Int) : ∀ n : Nat, (∀ j, t ≤ j → j < t + n → isL (mBy h j)) → 0 ≤ mHash h t n ∧ (mHash h t n < 32 ^ n ∨ mHash h t n = 0)
  | 0, _ => ⟨Int.le_refl _, Or.inr rfl⟩
  | n + 1, hl => by
    have q := mHash_r h t n (fun j h1 h2 => hl j h1 (by omega))
    have b := hl (t + n) (by omega) (by omega)
    unfold isL at b
    have e : (32 : Int) ^ (n + 1) = 32 * 32 ^ n := by rw [Int.pow_succ]; omega
    have pp : (0 : Int) < 32 ^ n := Int.pow_pos (by decide)
    rw [mHash]
    rcases Classical.em (n < 7) with c | c
    · rw [ifp_t c]; omega
    · rw [ifp_f c]; omega
theorem mHash_b (h : zH) (t : Int) (n : Nat) (hl : ∀ j, t ≤ j → j < t + n → isL (mBy h j)) : 0 ≤ mHash h t n ∧ mHash h t n < 34359738368 := by
  have q := mHash_r h t n hl
  refine ⟨q.1, ?_⟩
  by_cases c : n ≤ 7
  · have e : (32 : Int) ^ n ≤ 32 ^ 7 := by
      have r := Nat.pow_le_pow_right (n := 32) (by decide) c
      have e1 : ((32 ^ n : Nat) : Int) = 32 ^ n := by simp
      have e2 : ((32 ^ 7 : Nat) : Int) = 32 ^ 7 := by simp
      omega
    have e3 : (32 : Int) ^ 7 = 34359738368 := by decide
    omega
  · have e : mHash h t n = 0 := by
      obtain ⟨k, rfl⟩ : ∃ k, n = k + 1 := ⟨n - 1, by omega⟩
      rw [mHash, ifp_f (by omega)]
    omega
noncomputable def m_wend (h : zH) : Int := mRE isL h 601 (mTok h)
noncomputable def m_wh (h : zH) : Int := mHash h (mTok h) (m_wend h - mTok h).toNat
noncomputable def m_word (h : zH) (w : Int) : zH × Int := ifp (¬ isL (mBy h (mTok h)) ∨ mTok h = gs h 44) (m_fails (m_peek h) 1 (mTok h), 0) (ifp (m_wh h ≠ w) (m_fails (ps (m_peek h) 1049 (m_wh h)) 1 (mTok h), 0) (ps (ps (ps (m_peek h) 1049 (m_wh h)) 42 (m_wend h)) 44 (m_wend h), 1))
set_option maxRecDepth 100000 in
theorem L_X7_takesWord {h : zH} (t : MT h) {a1 : Int} (E : zF) (k : zX cM zNo RX7 cX7_takesWord 4 (some .boolean) rX7_takesWord 99 [some (.ref 0), some (.long (lL a1)), none, some (.int (iI (m_wend h - mTok h)))] [] (ps (m_peek h) 1049 (m_wh h)) E) : ∀ (n : Nat) (c : Int), 0 ≤ c → mTok h + c ≤ gs h 43 → gs h 43 - (mTok h + c) < n → mRE isL h n (mTok h + c) = m_wend h → (∀ j, mTok h ≤ j → j < mTok h + c → isL (mBy h j)) → zX cM zNo RX7 cX7_takesWord 4 (some .boolean) rX7_takesWord 38 [some (.ref 0), some (.long (lL a1)), none, some (.int (iI c))] [] (ps (m_peek h) 1049 (mHash h (mTok h) c.toNat)) E := by
  have tr := mTok_r t
  obtain ⟨⟨t1, t2⟩, t3, t4⟩ := t
  intro n
  induction n with
  | zero => intro c g1 g2 g3; omega
  | succ n ih =>
    intro c g1 g2 g3 g4 g5
    have eb (x : Int) : mBy (ps (m_peek h) 1049 x) (mTok h + c) = mBy h (mTok h + c) := rfl
    refine zx_ok (fun ok => ?_)
    have br : -2147483648 ≤ mBy h (mTok h + c) ∧ mBy h (mTok h + c) < 2147483648 := mBy_r (h := ps (m_peek h) 1049 (mHash h (mTok h) c.toNat)) ok (mTok h + c)
    obtain ⟨g6, g7⟩ := toNat_next g1
    rw [mRE] at g4
    refine zx_aload_n (pc := 38) dX7_takesWord_38 rfl rfl ?_
    refine zx_aload_n (pc := 39) dX7_takesWord_39 rfl rfl ?_
    refine zg_X7_160 (pc := 40) dX7_takesWord_40 ?_
    refine zx_iload_n (pc := 43) dX7_takesWord_43 rfl rfl ?_
    refine zx_iadd (pc := 44) dX7_takesWord_44 ?_
    refine zi_X7_157 (pc := 45) dX7_takesWord_45 (C_X7_byteAt (h := ps (m_peek h) 1049 (mHash h (mTok h) c.toNat)) (a1 := mTok h + c) t2 (by omega) (by omega)) (by decide) (Nat.le_of_ble_eq_true rfl) (fun z45 h45 u45 v45 q45 => ?_)
    obtain ⟨rfl, e45⟩ := q45
    rw [e45]
    clear e45 h45
    refine zi_X7_167 (pc := 48) dX7_takesWord_48 (C_X7_isLetter (a1 := mBy h (mTok h + c)) br) (by decide) (Nat.le_of_ble_eq_true rfl) (fun z48 h48 u48 v48 q48 => ?_)
    obtain ⟨rfl, e48⟩ := q48
    rw [e48]
    clear e48 h48
    refine zx_if_eq (pc := 51) (tgt := 99) dX7_takesWord_51 (by decide) (fun o => by first | exact o.1 _ (by decide) | exact o.2 _ _ | omega) (fun c51 => ?_) (fun c51 => ?_)
    · skip
      try replace c51 := b2i_0.mp c51
      rw [ifp_f c51] at g4
      have e : c = m_wend h - mTok h := by omega
      have e2 : mHash h (mTok h) c.toNat = m_wh h := by unfold m_wh; rw [← e]
      rw [e2, e]
      exact k
    · skip
      try replace c51 := b2i_n0.mp c51
      rw [ifp_t c51] at g4
      have i := mBy_in (h := h) (k := mTok h + c) (fun z => noL (by rw [z] at c51; exact c51))
      refine zx_aload_n (pc := 54) dX7_takesWord_54 rfl rfl ?_
      refine zx_iload_n (pc := 55) dX7_takesWord_55 rfl rfl ?_
      refine zx_bipush (pc := 56) dX7_takesWord_56 (by decide +kernel) ?_
      refine zx_icmp_ge (pc := 58) (tgt := 88) dX7_takesWord_58 (by decide) (fun o => by first | exact o.1 _ (by decide) | exact o.2 _ _ | omega) (fun o => by first | exact o.1 _ (by decide) | exact o.2 _ _ | omega) (fun c58 => ?_) (fun c58 => ?_)
      · skip
        have e : 0 = mHash h (mTok h) (c + 1).toNat := by
          rw [g6, mHash, ifp_f (by omega)]
        refine zx_lconst (pc := 88) (z := 0) dX7_takesWord_88 (by decide +kernel) ?_
        refine zp_X7_178 (pc := 89) dX7_takesWord_89 ?_
        refine zx_iload_n (pc := 92) dX7_takesWord_92 rfl rfl ?_
        refine zx_iconst (pc := 93) dX7_takesWord_93 ?_
        refine zx_iadd (pc := 94) dX7_takesWord_94 ?_
        refine zx_istore_n (pc := 95) dX7_takesWord_95 rfl (by decide) rfl ?_
        refine zx_goto (pc := 96) (tgt := 38) dX7_takesWord_96 (by decide) ?_
        have r := ih (c + 1) (by omega) (by omega) (by omega) (by rw [← g4]; congr 1; omega) (fun j h1 h2 => by
          by_cases q : j = mTok h + c
          · rw [q]; exact c51
          · exact g5 j h1 (by omega))
        rw [← e, ← ps_ps (m_peek h) 1049 (mHash h (mTok h) c.toNat)] at r
        exact r
      · skip
        have e : 32 * mHash h (mTok h) c.toNat + mBy h (mTok h + c) - 96 = mHash h (mTok h) (c + 1).toNat := by
          rw [g6, mHash, g7, ifp_t (by omega)]
        refine zx_ldc2 (pc := 61) (n := 32) dX7_takesWord_61 (by rw [show lL 32 = (32 : Int64) by decide +kernel]; exact zo_X7_182) ?_
        refine zx_aload_n (pc := 64) dX7_takesWord_64 rfl rfl ?_
        refine zg_X7_178 (pc := 65) dX7_takesWord_65 ?_
        refine zx_lmul (pc := 68) dX7_takesWord_68 ?_
        refine zx_aload_n (pc := 69) dX7_takesWord_69 rfl rfl ?_
        refine zx_aload_n (pc := 70) dX7_takesWord_70 rfl rfl ?_
        refine zg_X7_160 (pc := 71) dX7_takesWord_71 ?_
        refine zx_iload_n (pc := 74) dX7_takesWord_74 rfl rfl ?_
        refine zx_iadd (pc := 75) dX7_takesWord_75 ?_
        refine zi_X7_157 (pc := 76) dX7_takesWord_76 (C_X7_byteAt (h := ps (m_peek h) 1049 (mHash h (mTok h) c.toNat)) (a1 := mTok h + c) t2 (by omega) (by omega)) (by decide) (Nat.le_of_ble_eq_true rfl) (fun z76 h76 u76 v76 q76 => ?_)
        obtain ⟨rfl, e76⟩ := q76
        rw [e76]
        clear e76 h76
        refine zx_i2l (pc := 79) dX7_takesWord_79 (fun _ => br) ?_
        refine zx_ladd (pc := 80) dX7_takesWord_80 ?_
        refine zx_ldc2 (pc := 81) (n := 96) dX7_takesWord_81 (by rw [show lL 96 = (96 : Int64) by decide +kernel]; exact zo_X7_184) ?_
        refine zx_lsub (pc := 84) dX7_takesWord_84 ?_
        refine zx_goto (pc := 85) (tgt := 89) dX7_takesWord_85 (by decide) ?_
        refine zp_X7_178 (pc := 89) dX7_takesWord_89 ?_
        refine zx_iload_n (pc := 92) dX7_takesWord_92 rfl rfl ?_
        refine zx_iconst (pc := 93) dX7_takesWord_93 ?_
        refine zx_iadd (pc := 94) dX7_takesWord_94 ?_
        refine zx_istore_n (pc := 95) dX7_takesWord_95 rfl (by decide) rfl ?_
        refine zx_goto (pc := 96) (tgt := 38) dX7_takesWord_96 (by decide) ?_
        have r := ih (c + 1) (by omega) (by omega) (by omega) (by rw [← g4]; congr 1; omega) (fun j h1 h2 => by
          by_cases q : j = mTok h + c
          · rw [q]; exact c51
          · exact g5 j h1 (by omega))
        rw [← e, ← ps_ps (m_peek h) 1049 (mHash h (mTok h) c.toNat)] at r
        exact r
set_option maxRecDepth 100000 in
theorem C_X7_takesWord {h : zH} (t : MT h) {a1 : Int} (w1 : 0 ≤ a1) (w2 : a1 < 34359738368) : kX7_takesWord a1 h (fun r h2 => r = (m_word h a1).2 ∧ h2 = (m_word h a1).1) := by
  have tr := mTok_r t
  obtain ⟨r1, r2, r3⟩ := mRE_r noL h 601 (mTok h) tr.2
  have hb := mHash_b h (mTok h) (m_wend h - mTok h).toNat (fun j h1 h2 => r3 j h1 (by have e : mRE isL h 601 (mTok h) = m_wend h := rfl; omega))
  have we : mRE isL h 601 (mTok h) = m_wend h := rfl
  rw [we] at r1 r2
  have hb2 : 0 ≤ m_wh h ∧ m_wh h < 34359738368 := hb
  have t1 := t.1.2
  have t2 := t.1.1
  have t3 := t.2.1
  apply eX7_takesWord
  unfold m_word
  refine zx_ok (fun ok => ?_)
  have e45 : gs (m_peek h) 45 = mTok h := rfl
  have e44 : gs (m_peek h) 44 = gs h 44 := rfl
  refine zx_aload_n (pc := 0) dX7_takesWord_0 rfl rfl ?_
  refine zi_X7_163 (pc := 1) dX7_takesWord_1 (C_X7_peek t) (by decide) (Nat.le_of_ble_eq_true rfl) (fun z1 h1 u1 v1 q1 => ?_)
  obtain ⟨rfl, e1⟩ := q1
  rw [e1]
  clear e1 h1
  refine zi_X7_167 (pc := 4) dX7_takesWord_4 (C_X7_isLetter (mBy_r ok _)) (by decide) (Nat.le_of_ble_eq_true rfl) (fun z4 h4 u4 v4 q4 => ?_)
  obtain ⟨rfl, e4⟩ := q4
  rw [e4]
  clear e4 h4
  refine zx_if_eq (pc := 7) (tgt := 21) dX7_takesWord_7 (by decide) (fun o => by first | exact o.1 _ (by decide) | exact o.2 _ _ | omega) (fun c7 => ?_) (fun c7 => ?_)
  · skip
    try replace c7 := b2i_0.mp c7
    rw [ifp_t (Or.inl c7)]
    refine zx_aload_n (pc := 21) dX7_takesWord_21 rfl rfl ?_
    refine zx_iconst (pc := 22) dX7_takesWord_22 ?_
    refine zx_aload_n (pc := 23) dX7_takesWord_23 rfl rfl ?_
    refine zg_X7_160 (pc := 24) dX7_takesWord_24 ?_
    refine zi_X7_174 (pc := 27) dX7_takesWord_27 (C_X7_fails (a2 := mTok h) (by decide) (by omega)) (by decide) (Nat.le_of_ble_eq_true rfl) (fun z27 h27 u27 v27 q27 => ?_)
    obtain ⟨rfl, e27⟩ := q27
    rw [e27]
    clear e27 h27
    refine zx_zret (pc := 30) dX7_takesWord_30 (by omega) ?_
    exact ⟨rfl, rfl⟩
  · skip
    try replace c7 := b2i_n0.mp c7
    refine zx_aload_n (pc := 10) dX7_takesWord_10 rfl rfl ?_
    refine zg_X7_160 (pc := 11) dX7_takesWord_11 ?_
    refine zx_aload_n (pc := 14) dX7_takesWord_14 rfl rfl ?_
    refine zg_X7_171 (pc := 15) dX7_takesWord_15 ?_
    refine zx_icmp_ne (pc := 18) (tgt := 31) dX7_takesWord_18 (by decide) (fun o => by first | exact o.1 _ (by decide) | exact o.2 _ _ | omega) (fun o => by first | exact o.1 _ (by decide) | exact o.2 _ _ | omega) (fun c18 => ?_) (fun c18 => ?_)
    · skip
      have c18a : mTok h ≠ gs h 44 := c18
      rw [ifp_f (fun z => by rcases z with z | z; exact z c7; exact c18a z)]
      refine zx_aload_n (pc := 31) dX7_takesWord_31 rfl rfl ?_
      refine zx_lconst (pc := 32) (z := 0) dX7_takesWord_32 (by decide +kernel) ?_
      refine zp_X7_178 (pc := 33) dX7_takesWord_33 ?_
      refine zx_iconst (pc := 36) dX7_takesWord_36 ?_
      refine zx_istore_n (pc := 37) dX7_takesWord_37 rfl (by decide) rfl ?_
      refine L_X7_takesWord t (zEi cM _) ?_ 601 0 (Int.le_refl _) (by omega) (by omega) (by rw [Int.add_zero]; rfl) (fun j h1 h2 => by omega)
      refine zx_aload_n (pc := 99) dX7_takesWord_99 rfl rfl ?_
      refine zg_X7_178 (pc := 100) dX7_takesWord_100 ?_
      refine zx_lload_n (pc := 103) dX7_takesWord_103 rfl rfl ?_
      refine zx_lcmp (pc := 104) dX7_takesWord_104 (by show -9223372036854775808 ≤ m_wh h ∧ m_wh h < 9223372036854775808; omega) (by omega) ?_
      refine zx_if_eq (pc := 105) (tgt := 118) dX7_takesWord_105 (by decide) (fun _ => by unfold lc; split; decide; split; decide; decide) (fun c105 => ?_) (fun c105 => ?_)
      · skip
        have cw : m_wh h = a1 := by
          have c9 : lc (m_wh h) a1 = 0 := c105
          unfold lc at c9
          by_cases q : a1 < m_wh h
          · rw [if_pos q] at c9; omega
          · rw [if_neg q] at c9
            by_cases q2 : m_wh h = a1
            · exact q2
            · rw [if_neg q2] at c9; omega
        rw [ifp_f (fun z => z cw)]
        refine zx_aload_n (pc := 118) dX7_takesWord_118 rfl rfl ?_
        refine zx_aload_n (pc := 119) dX7_takesWord_119 rfl rfl ?_
        refine zg_X7_160 (pc := 120) dX7_takesWord_120 ?_
        refine zx_iload_n (pc := 123) dX7_takesWord_123 rfl rfl ?_
        refine zx_iadd (pc := 124) dX7_takesWord_124 ?_
        refine zp_X7_154 (pc := 125) dX7_takesWord_125 (fun _ => by show -2147483648 ≤ mTok h + (m_wend h - mTok h) ∧ mTok h + (m_wend h - mTok h) < 2147483648; omega) ?_
        refine zx_aload_n (pc := 128) dX7_takesWord_128 rfl rfl ?_
        refine zx_aload_n (pc := 129) dX7_takesWord_129 rfl rfl ?_
        refine zg_X7_154 (pc := 130) dX7_takesWord_130 ?_
        refine zp_X7_171 (pc := 133) dX7_takesWord_133 (fun o => o.1 42 (by decide)) ?_
        refine zx_iconst (pc := 136) dX7_takesWord_136 ?_
        refine zx_zret (pc := 137) dX7_takesWord_137 (by omega) ?_
        refine ⟨rfl, ?_⟩
        have e : mTok h + (m_wend h - mTok h) = m_wend h := by omega
        show ps (ps (ps (m_peek h) 1049 (m_wh h)) 42 (mTok h + (m_wend h - mTok h))) 44 (mTok h + (m_wend h - mTok h)) = _
        rw [e]
      · skip
        have cw : m_wh h ≠ a1 := by
          intro q
          apply c105
          show lc (m_wh h) a1 = 0
          unfold lc
          rw [if_neg (by omega), if_pos q]
        rw [ifp_t cw]
        refine zx_aload_n (pc := 108) dX7_takesWord_108 rfl rfl ?_
        refine zx_iconst (pc := 109) dX7_takesWord_109 ?_
        refine zx_aload_n (pc := 110) dX7_takesWord_110 rfl rfl ?_
        refine zg_X7_160 (pc := 111) dX7_takesWord_111 ?_
        refine zi_X7_174 (pc := 114) dX7_takesWord_114 (C_X7_fails (h := ps (m_peek h) 1049 (m_wh h)) (a2 := mTok h) (by decide) (by omega)) (by decide) (Nat.le_of_ble_eq_true rfl) (fun z114 h114 u114 v114 q114 => ?_)
        obtain ⟨rfl, e114⟩ := q114
        rw [e114]
        clear e114 h114
        refine zx_zret (pc := 117) dX7_takesWord_117 (by omega) ?_
        exact ⟨rfl, rfl⟩
    · skip
      have c18a : mTok h = gs h 44 := c18
      rw [ifp_t (Or.inr c18a)]
      refine zx_aload_n (pc := 21) dX7_takesWord_21 rfl rfl ?_
      refine zx_iconst (pc := 22) dX7_takesWord_22 ?_
      refine zx_aload_n (pc := 23) dX7_takesWord_23 rfl rfl ?_
      refine zg_X7_160 (pc := 24) dX7_takesWord_24 ?_
      refine zi_X7_174 (pc := 27) dX7_takesWord_27 (C_X7_fails (a2 := mTok h) (by decide) (by omega)) (by decide) (Nat.le_of_ble_eq_true rfl) (fun z27 h27 u27 v27 q27 => ?_)
      obtain ⟨rfl, e27⟩ := q27
      rw [e27]
      clear e27 h27
      refine zx_zret (pc := 30) dX7_takesWord_30 (by omega) ?_
      exact ⟨rfl, rfl⟩

