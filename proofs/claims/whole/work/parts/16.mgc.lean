/-! collecting a block: what stays, what becomes free -/
theorem MS_c {h h2 : zH} {u : Int → Int} (s : MS h u) (e1 : gs h2 1 = gs h 1) (e2 : gs h2 2 = gs h 2) (e3 : gs h2 3 = gs h 3) (e25 : gs h2 25 = gs h 25) (e32 : gs h2 32 = gs h 32) (a2 : ∀ i, ga h2 2 i = ga h 2 i) (a3 : ∀ i, ga h2 3 i = ga h 3 i) : MS h2 u := by
  obtain ⟨s1, s2, s3, s4, s5⟩ := s
  exact ⟨MB_c s1 e1 e2 e3, MI_c s2 e1 e2 e3 (fun i _ => ⟨a2 i, a3 i⟩), by rw [e1, e32]; exact s3, by rw [e25]; exact s4, SF_c s5 e1 e2 (fun i => by rw [a2])⟩
theorem ga_progOk_o (h : zH) (place w ix g : Int) (c : Nat) (i : Int) (hc : c ≠ 2 ∧ c ≠ 3 ∧ c ≠ 4 ∧ c ≠ 5 ∧ c ≠ 6) : ga (m_progOk h place w ix g) c i = ga h c i := by
  simp only [m_progOk, ga_pa, ga_ps]
  simp [hc]
theorem ga_progT_o {h : zH} (c : mOK h) (place w ix g : Int) (k : Nat) (i : Int) (hc : k ≠ 2 ∧ k ≠ 3 ∧ k ≠ 4 ∧ k ≠ 5 ∧ k ≠ 6) : ga (m_prog h place w ix g) k i = ga h k i := by
  unfold m_prog
  rw [ifp_t c, ga_progOk_o _ _ _ _ _ _ _ hc, ga_oper]
theorem gs_copyT {h : zH} (c : mOK h) (fr : Int) (k : Nat) (hk : k ≠ 19 ∧ k ≠ 20 ∧ k ≠ 22 ∧ k ≠ 25) : gs (m_copy h fr) k = gs h k := by
  unfold m_copy
  rw [ifp_t c]
  simp only [m_copyOk, gs_ps, gs_cp8, gs_pa]
  rw [if_neg hk.2.2.1, gs_progT c _ _ _ _ _ (by omega)]
theorem ga_copyT {h : zH} (c : mOK h) (fr : Int) (k : Nat) (i : Int) (hk : k ≠ 8) (hi : i ≠ m_low h) : ga (m_copy h fr) k i = ga h k i := by
  unfold m_copy
  rw [ifp_t c]
  simp only [m_copyOk, ga_ps, ga_cp8, ga_pa]
  rw [if_neg (fun z => hk z.1), if_neg (fun z => hi z.2), if_neg (fun z => hi z.2), ga_progT c _ _ _ _ _ _ hi]
theorem ga_copyT_o {h : zH} (c : mOK h) (fr : Int) (k : Nat) (i : Int) (hk : k ≠ 2 ∧ k ≠ 3 ∧ k ≠ 4 ∧ k ≠ 5 ∧ k ≠ 6 ∧ k ≠ 7 ∧ k ≠ 8) : ga (m_copy h fr) k i = ga h k i := by
  unfold m_copy
  rw [ifp_t c]
  simp only [m_copyOk, ga_ps, ga_cp8, ga_pa]
  rw [if_neg (fun z => hk.2.2.2.2.2.2 z.1), if_neg (fun z => hk.2.2.2.2.2.1 z.1), if_neg (fun z => hk.2.2.2.1 z.1), ga_progT_o c _ _ _ _ _ _ (by omega)]
theorem MS_copy {h : zH} {u : Int → Int} (s : MS h u) (h1 : 0 ≤ gs h 32) (h3 : u (gs h 32) < gs h 2) {fr : Int} (f1 : 0 ≤ fr) (f2 : fr < gs h 1 * gs h 2) (hk : ga h 2 fr ≠ 0) : MS (m_copy h fr) (uup u (gs h 32) (u (gs h 32) + 1)) := by
  have q := s.2.1 fr f1 f2
  have r := MS_prog s h1 h3 (w := ga h 2 fr) (ix := ga h 3 fr) (g := ga h 4 fr) hk q.1 q.2
  unfold m_copy
  rcases Classical.em (mOK h) with c | c
  · rw [ifp_t c]
    exact MS_c r rfl rfl rfl rfl rfl (fun _ => rfl) (fun _ => rfl)
  · rw [ifp_f c]
    exact r
theorem mWanted_k {h : zH} {i : Int} (w : mWanted h i) : ga h 2 i ≠ 0 := by
  unfold mWanted at w
  omega
theorem good_copy {h : zH} {u : Int → Int} (s : MS h u) (h1 : 0 ≤ gs h 32) (h3 : u (gs h 32) < gs h 2) (c : mOK h) {fr j : Int} (hj : j ≠ m_low h) (g : mGood (m_copy h fr) j) : mGood h j := by
  obtain ⟨g1, g2, g3⟩ := g
  have e5 := ga_copyT c fr 5 j (by decide) hj
  have e2 := ga_copyT c fr 2 j (by decide) hj
  have e3 := ga_copyT c fr 3 j (by decide) hj
  have e4 := ga_copyT c fr 4 j (by decide) hj
  have w : mWanted h j := by
    unfold mWanted mWantedData mReadBy at g2 ⊢
    simp only [e2, e3, e4, e5, gs_copyT c fr 33 (by decide), gs_copyT c fr 34 (by decide), gs_copyT c fr 35 (by decide), ga_copyT_o c fr 10 _ (by decide), ga_copyT_o c fr 11 _ (by decide), ga_copyT_o c fr 12 _ (by decide), ga_copyT_o c fr 13 _ (by decide), ga_copyT_o c fr 14 _ (by decide)] at g2
    exact g2
  refine ⟨by rw [gs_copyT c fr 26 (by decide)] at g1; exact g1, w, fun o q1 q2 q3 => ?_⟩
  have l4 := (low_in s h1 h3).2.2.2
  have ho : o ≠ m_low h := by
    intro e
    rw [e] at q3
    exact mWanted_k w (q3.1.symm.trans l4)
  have r := g3 o q1 (by rw [gs_copyT c fr 1 (by decide), gs_copyT c fr 2 (by decide)]; exact q2)
  unfold mCopyOf at r q3
  rw [e2, e3, e4, e5, ga_copyT c fr 2 o (by decide) ho, ga_copyT c fr 3 o (by decide) ho, ga_copyT c fr 4 o (by decide) ho, ga_copyT c fr 5 o (by decide) ho, ga_copyT c fr 6 o (by decide) ho, ga_copyT c fr 6 j (by decide) hj] at r
  exact r q3
theorem cnt_le {p q : Int → Prop} {a : Int} : ∀ {n : Nat}, (∀ i, a ≤ i → i < a + n → p i → q i) → cnt p a n ≤ cnt q a n
  | 0, _ => Int.le_refl _
  | n + 1, h => by
    have r := cnt_le (n := n) (fun i h1 h2 => h i h1 (by omega))
    have r1 := b2i_r (p (a + n))
    have r2 := b2i_r (q (a + n))
    rw [cnt, cnt]
    rcases Classical.em (p (a + n)) with c | c
    · rw [b2i_t (h _ (by omega) (by omega) c), b2i_t c]
      omega
    · rw [b2i_f c]
      omega
theorem cnt_lt {p q : Int → Prop} {a b : Int} : ∀ {n : Nat}, (∀ i, a ≤ i → i < a + n → p i → q i) → a ≤ b → b < a + n → ¬ p b → q b → cnt p a n + 1 ≤ cnt q a n
  | 0, _, h1, h2, _, _ => by omega
  | n + 1, h, h1, h2, h3, h4 => by
    have r1 := b2i_r (q (a + n))
    rw [cnt, cnt]
    by_cases e : b = a + n
    · rw [← e, b2i_f h3, b2i_t h4]
      have r := cnt_le (n := n) (fun i h1 h2 => h i h1 (by omega))
      omega
    · have r := cnt_lt (n := n) (fun i h1 h2 => h i h1 (by omega)) h1 (by omega) h3 h4
      rcases Classical.em (p (a + n)) with c | c
      · rw [b2i_t (h _ (by omega) (by omega) c), b2i_t c]
        omega
      · rw [b2i_f c]
        omega
theorem cnt_first (p : Int → Prop) (a : Int) : ∀ n : Nat, cnt p a (n + 1) = b2i (p a) + cnt p (a + 1) n
  | 0 => by
    rw [cnt, cnt, cnt]
    simp
  | n + 1 => by
    rw [cnt, cnt_first p a n, cnt, show a + 1 + (n : Int) = a + ((n + 1 : Nat) : Int) by omega]
    omega
/-- the copies of a block: what they leave -/
theorem collL_MS {b : Int} : ∀ (n : Nat) (h : zH) (u : Int → Int) (i : Int), MS h u → 0 ≤ gs h 32 → 0 ≤ b → b < gs h 1 → b ≠ gs h 32 → gs h 2 * b ≤ i → i + n = gs h 2 * b + gs h 2 → u (gs h 32) + cnt (mGood h) i n < gs h 2 →
    ∃ u2, MS (m_collL n h i).1 u2 ∧ gs (m_collL n h i).1 1 = gs h 1 ∧ gs (m_collL n h i).1 2 = gs h 2 ∧ ((m_collL n h i).2 = 0 ∨ (m_collL n h i).2 = 1 ∧ gs (m_collL n h i).1 32 = gs h 32 ∧ gs (m_collL n h i).1 26 = gs h 26 ∧ u2 (gs h 32) ≤ u (gs h 32) + cnt (mGood h) i n ∧ ∀ c, c ≠ gs h 32 → u2 c = u c)
  | 0, h, u, i, s, _, _, _, _, _, _, _ => ⟨u, s, rfl, rfl, Or.inr ⟨rfl, rfl, rfl, by simp [m_collL, cnt], fun _ _ => rfl⟩⟩
  | n + 1, h, u, i, s, h1, b1, b2, b3, i1, i2, hc => by
    have r0 := cnt_r (mGood h) (i + 1) n
    have p0 := s.1.2.2.1
    rw [cnt_first] at hc
    rw [m_collL]
    have hin : 0 ≤ i ∧ i < gs h 1 * gs h 2 := by
      have q := Int.mul_nonneg p0 b1
      have q2 := blk_lt p0 b2
      rw [Int.mul_comm (gs h 1)]
      omega
    rcases Classical.em (mGood h i) with g | g
    · rw [ifp_t g]
      rw [b2i_t g] at hc
      have h3 : u (gs h 32) < gs h 2 := by omega
      have sc := MS_copy s h1 h3 hin.1 hin.2 (mWanted_k g.2.1)
      rcases Classical.em (mOK h) with c | c
      · rw [ifp_t c]
        have e1 := gs_copyT c i 1 (by decide)
        have e2 := gs_copyT c i 2 (by decide)
        have e26 := gs_copyT c i 26 (by decide)
        have e32 := gs_copyT c i 32 (by decide)
        have hlow := low_at s h1
        have hu := (s.2.2.2.2 _ h1 s.2.2.1.2).1
        have mono : cnt (mGood (m_copy h i)) (i + 1) n ≤ cnt (mGood h) (i + 1) n := by
          refine cnt_le (fun j j1 j2 gj => good_copy s h1 h3 c ?_ gj)
          rw [hlow]
          have := blk_ne (p := gs h 2) (b := b) (c := gs h 32) (i := j - gs h 2 * b) (j := u (gs h 32)) (by omega) (by omega) hu h3 b3
          omega
        obtain ⟨u2, t1, t2, t3, t4⟩ := collL_MS n (m_copy h i) _ (i + 1) sc (by rw [e32]; exact h1) b1 (by rw [e1]; exact b2) (by rw [e32]; exact b3) (by rw [e2]; omega) (by rw [e2]; omega) (by rw [e32, uup_s, e2]; omega)
        refine ⟨u2, t1, by rw [t2, e1], by rw [t3, e2], ?_⟩
        rcases t4 with t4 | ⟨t4, t5, t6, t7, t8⟩
        · exact Or.inl t4
        · rw [e32] at t5 t7 t8
          rw [e26] at t6
          rw [uup_s] at t7
          refine Or.inr ⟨t4, t5, t6, ?_, fun c hc2 => by rw [t8 c hc2, uup_n _ _ hc2]⟩
          rw [cnt_first, b2i_t g]
          omega
      · rw [ifp_f c]
        refine ⟨_, sc, ?_, ?_, Or.inl rfl⟩
        · show gs (m_copy h i) 1 = _
          unfold m_copy
          rw [ifp_f c, gs_prog _ _ _ _ _ _ (by decide)]
        · show gs (m_copy h i) 2 = _
          unfold m_copy
          rw [ifp_f c, gs_prog _ _ _ _ _ _ (by decide)]
    · rw [ifp_f g]
      rw [b2i_f g] at hc
      obtain ⟨u2, t1, t2, t3, t4⟩ := collL_MS n h u (i + 1) s h1 b1 b2 b3 (by omega) (by omega) (by omega)
      refine ⟨u2, t1, t2, t3, ?_⟩
      rw [cnt_first, b2i_f g, Int.zero_add]
      exact t4
theorem gs_erase (h : zH) (b : Int) (k : Nat) (hk : k ≠ 21 ∧ k ≠ 24 ∧ k ≠ 25 ∧ k ≠ 26 ∧ k ≠ 32 ∧ k ≠ 33 ∧ k ≠ 34 ∧ k ≠ 35 ∧ k ≠ 36) : gs (m_erase h b) k = gs h k := by
  unfold m_erase
  rw [gs_if, gs_ps, if_neg hk.1, gs_pa, gs_prr, gs_loses _ _ (by omega), gs_prr, ifp_same, gs_oper _ _ (by omega)]
theorem gs_eraseT {h : zH} (c : mOK h) (b : Int) (k : Nat) (hk : k ≠ 21 ∧ k ≠ 25) : gs (m_erase h b) k = gs h k := by
  unfold m_erase
  rw [ifp_t c, gs_ps, if_neg hk.1, gs_pa, gs_prr, gs_oper _ _ hk.2]
theorem MS_erase {h : zH} {u : Int → Int} (s : MS h u) {b : Int} (b1 : 0 ≤ b) (b2 : b < gs h 1) : MS (m_erase h b) (uup u b (ifp (mOK h) 0 (gs h 2))) := by
  have so := MS_oper s
  have e1 := gs_oper h 1 (by decide)
  have e2 := gs_oper h 2 (by decide)
  have p0 := s.1.2.2.1
  have key : ∀ v : Int, v = 0 ∨ v = 5 → MS (prr (m_oper h) 2 (gs h 2 * b) (gs h 2 * b + gs h 2) v) (uup u b (ifp (v = 0) 0 (gs h 2))) := by
    intro v hv
    obtain ⟨t1, t2, t3, t4, t5⟩ := so
    refine ⟨t1, ?_, t3, t4, ?_⟩
    · refine MI_c t2 rfl rfl rfl (fun i z => ?_)
      simp only [ga_prr] at z ⊢
      split at z
      · omega
      · rename_i q
        rw [if_neg q]
        exact ⟨rfl, by rw [if_neg (by omega)]⟩
    · intro c g1 g2
      have g2' : c < gs h 1 := by rw [← e1]; exact g2
      show 0 ≤ _ ∧ _ ≤ gs (m_oper h) 2 ∧ ∀ i : Int, 0 ≤ i → i < gs (m_oper h) 2 → (ga (prr (m_oper h) 2 (gs h 2 * b) (gs h 2 * b + gs h 2) v) 2 (gs (m_oper h) 2 * c + i) = 0 ↔ _)
      rw [e2]
      obtain ⟨a1, a2, a3⟩ := t5 c g1 g2
      rw [e2] at a2 a3
      by_cases q : c = b
      · rw [q, uup_s]
        rcases hv with hv | hv
        · rw [ifp_t hv]
          refine ⟨Int.le_refl _, p0, fun i q1 q2 => ?_⟩
          rw [ga_prr, if_pos (by omega)]
          omega
        · rw [ifp_f (by omega)]
          refine ⟨p0, Int.le_refl _, fun i q1 q2 => ?_⟩
          rw [ga_prr, if_pos (by omega)]
          omega
      · rw [uup_n _ _ q]
        refine ⟨a1, a2, fun i q1 q2 => ?_⟩
        rw [ga_prr, if_neg]
        · exact a3 i q1 q2
        · intro z
          have := blk_ne (p := gs h 2) (b := c) (c := b) (i := i) (j := gs h 2 * c + i - gs h 2 * b) q1 q2 (by omega) (by omega) q
          omega
  unfold m_erase
  rcases Classical.em (mOK h) with c | c
  · rw [ifp_t c, ifp_t c]
    have r := key 0 (Or.inl rfl)
    rw [ifp_t rfl] at r
    exact MS_c r rfl rfl rfl rfl rfl (fun i => by simp [ga_ps, ga_pa]) (fun i => by simp [ga_ps, ga_pa])
  · rw [ifp_f c, ifp_f c]
    have r := key 5 (Or.inr rfl)
    rw [ifp_f (by decide)] at r
    exact MS_loses r
/-- the victim -/
theorem mNV_ok (h : zH) : ∀ n : Nat, (mNV h n).2 ≤ mFreeIn h (gs h 32) ∧ ((mNV h n).1 = -1 ∨ 0 ≤ (mNV h n).1 ∧ (mNV h n).1 < n ∧ (mNV h n).1 ≠ gs h 32 ∧ ¬ mIsFree h (mNV h n).1 ∧ mValidIn h (mNV h n).1 = (mNV h n).2 ∧ (mNV h n).2 < mFreeIn h (gs h 32))
  | 0 => ⟨Int.le_refl _, Or.inl rfl⟩
  | n + 1 => by
    obtain ⟨q1, q2⟩ := mNV_ok h n
    rw [mNV]
    rcases Classical.em (¬ ((n : Int) = gs h 32 ∨ mIsFree h n) ∧ (mValidIn h n < (mNV h n).2 ∨ (mNV h n).1 ≠ -1 ∧ mValidIn h n = (mNV h n).2 ∧ ga h 9 n < ga h 9 (mNV h n).1)) with c | c
    · rw [ifp_t c]
      obtain ⟨c1, c2⟩ := c
      have c3 : mValidIn h n < mFreeIn h (gs h 32) := by
        rcases c2 with c2 | ⟨c2, c4, -⟩
        · omega
        · rcases q2 with q2 | q2
          · exact absurd q2 c2
          · omega
      exact ⟨by show mValidIn h n ≤ _; omega, Or.inr ⟨by show 0 ≤ (n : Int); omega, by show (n : Int) < _; omega, fun z => c1 (Or.inl z), fun z => c1 (Or.inr z), rfl, c3⟩⟩
    · rw [ifp_f c]
      refine ⟨q1, ?_⟩
      rcases q2 with q2 | q2
      · exact Or.inl q2
      · exact Or.inr ⟨q2.1, by omega, q2.2.2⟩
theorem vict_ok {h : zH} (hb : MB h) (v : m_vict h ≠ -1) : 0 ≤ m_vict h ∧ m_vict h < gs h 1 ∧ m_vict h ≠ gs h 32 ∧ ¬ mIsFree h (m_vict h) ∧ mValidIn h (m_vict h) < mFreeIn h (gs h 32) := by
  have q := (mNV_ok h (gs h 1).toNat).2
  have := hb.1
  rcases q with q | ⟨q1, q2, q3, q4, q5, q6⟩
  · exact absurd q v
  · unfold m_vict
    exact ⟨q1, by omega, q3, q4, by omega⟩
/-- a whole collection -/
theorem collect_MS {h : zH} {u : Int → Int} (s : MS h u) (h1 : 0 ≤ gs h 32) {b : Int} (b1 : 0 ≤ b) (b2 : b < gs h 1) (b3 : b ≠ gs h 32) (hv : mValidIn h b < mFreeIn h (gs h 32)) :
    ∃ u2, MS (m_collect h b).1 u2 ∧ gs (m_collect h b).1 1 = gs h 1 ∧ gs (m_collect h b).1 2 = gs h 2 ∧ ((m_collect h b).2 = 0 ∨ (m_collect h b).2 = 1 ∧ gs (m_collect h b).1 32 = gs h 32 ∧ gs (m_collect h b).1 26 = gs h 26 ∧ u2 (gs h 32) < gs h 2 ∧ u2 b = 0 ∧ ∀ c, c ≠ gs h 32 → c ≠ b → u2 c = u c) := by
  have p0 := s.1.2.2.1
  have hf := sf_free s.2.2.2.2 h1 s.2.2.1.2
  have hc : u (gs h 32) + cnt (mGood h) (gs h 2 * b) (gs h 2).toNat < gs h 2 := by
    have e : mValidIn h b = cnt (mGood h) (gs h 2 * b) (gs h 2).toNat := rfl
    omega
  obtain ⟨u2, t1, t2, t3, t4⟩ := collL_MS (gs h 2).toNat h u (gs h 2 * b) s h1 b1 b2 b3 (Int.le_refl _) (by omega) hc
  unfold m_collect
  rcases t4 with t4 | ⟨t4, t5, t6, t7, t8⟩
  · rw [ifp_f (by omega)]
    exact ⟨u2, t1, t2, t3, Or.inl t4⟩
  · rw [ifp_t t4]
    have r := MS_erase t1 b1 (by rw [t2]; exact b2)
    refine ⟨_, r, ?_, ?_, ?_⟩
    · show gs (m_erase _ _) 1 = _
      rw [gs_erase _ _ _ (by decide), t2]
    · show gs (m_erase _ _) 2 = _
      rw [gs_erase _ _ _ (by decide), t3]
    · rcases Classical.em (mOK (m_collL (gs h 2).toNat h (gs h 2 * b)).1) with c | c
      · refine Or.inr ⟨b2i_t c, ?_, ?_, ?_, ?_, fun c2 z1 z2 => ?_⟩
        · show gs (m_erase _ _) 32 = _
          rw [gs_eraseT c _ _ (by decide), t5]
        · show gs (m_erase _ _) 26 = _
          rw [gs_eraseT c _ _ (by decide), t6]
        · rw [uup_n _ _ (fun z => b3 z.symm)]
          omega
        · rw [uup_s, ifp_t c]
        · rw [uup_n _ _ z2, t8 c2 z1]
      · exact Or.inl (b2i_f c)
theorem collect_free {h : zH} {u : Int → Int} (s : MS h u) (h1 : 0 ≤ gs h 32) {b : Int} (b1 : 0 ≤ b) (b2 : b < gs h 1) (b3 : b ≠ gs h 32) (b4 : ¬ mIsFree h b) (hv : mValidIn h b < mFreeIn h (gs h 32)) (ok : (m_collect h b).2 = 1) : mFreeMany h + 1 ≤ mFreeMany (m_collect h b).1 := by
  obtain ⟨u2, t1, t2, t3, t4⟩ := collect_MS s h1 b1 b2 b3 hv
  rcases t4 with t4 | ⟨-, t5, -, t6, t7, t8⟩
  · omega
  · unfold mFreeMany
    rw [t2]
    have hB := s.1.1
    have fr : ∀ c, 0 ≤ c → c < gs h 1 → (mIsFree (m_collect h b).1 c ↔ c ≠ gs h 32 ∧ u2 c = 0) := by
      intro c c1 c2
      unfold mIsFree
      rw [t5, t3, sf_free t1.2.2.2.2 c1 (by rw [t2]; exact c2), t3]
      exact and_congr_right fun _ => by omega
    refine cnt_lt (b := b) (fun i i1 i2 z => ?_) b1 (by omega) b4 ((fr b b1 b2).mpr ⟨b3, t7⟩)
    obtain ⟨z1, z2⟩ := z
    rw [sf_free s.2.2.2.2 i1 (by omega)] at z2
    refine (fr i i1 (by omega)).mpr ⟨z1, ?_⟩
    by_cases e : i = b
    · rw [e]; exact t7
    · rw [t8 i z1 e]; omega

