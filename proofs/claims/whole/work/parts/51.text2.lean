/-! the two texts agree: values, fills, the whole text -/
def FV (m h : zH) : Prop := (gs h 25 = gs m 5 ∧ gs h 26 = gs m 6 ∧ gs h 27 = gs m 7 ∧ gs h 28 = gs m 8) ∧ gs h 29 = gs m 10 ∧ ∀ k, 0 ≤ k → k < gs m 10 → ga h 8 k = ga m 1 k
theorem FV_c {m m2 h h2 : zH} (f : FV m h) (t : TF m m2) (g : ∀ k, k = 25 ∨ k = 26 ∨ k = 27 ∨ k = 28 ∨ k = 29 → gs h2 k = gs h k) (a : ∀ i, ga h2 8 i = ga h 8 i) : FV m2 h2 := by
  obtain ⟨⟨f1, f2, f3, f4⟩, f5, f6⟩ := f
  refine ⟨⟨?_, ?_, ?_, ?_⟩, ?_, fun k k0 k1 => ?_⟩
  · rw [g 25 (by decide), tf_k t 5 (by decide)]; exact f1
  · rw [g 26 (by decide), tf_k t 6 (by decide)]; exact f2
  · rw [g 27 (by decide), tf_k t 7 (by decide)]; exact f3
  · rw [g 28 (by decide), tf_k t 8 (by decide)]; exact f4
  · rw [g 29 (by decide), tf_k t 10 (by decide)]; exact f5
  · rw [tf_k t 10 (by decide)] at k1
    rw [a, t.2 1 k]
    exact f6 k k0 k1
theorem mSk_peek (m : zH) : ∀ (n : Nat) (p : Int), mSk (m_peek m) n p = mSk m n p
  | 0, _ => rfl
  | n + 1, p => by
    rw [mSk, mSk, mSk_peek m n (p + 1)]
    rfl
theorem mTok_peek {m : zH} (b : ¬ (mBy m (mTok m) = 32 ∨ mBy m (mTok m) = 10)) : mTok (m_peek m) = mTok m := by
  show mSk (m_peek m) 601 (mTok m) = mTok m
  rw [mSk_peek, show (601 : Nat) = 600 + 1 from rfl, mSk, ifp_f b]
theorem Rp_peek {m h : zH} {e j s : Int} (r : Rp m h e j s) : Rp (m_peek m) h e j s ∧ xF e h (gs m 42) j = xF e h (gs (m_peek m) 42) j ∧ mTok (m_peek m) = mTok m ∧ ∀ k, mBy (m_peek m) k = mBy m k := by
  obtain ⟨be, mt, ⟨er, e24, m47, m48⟩, es, jle, jj⟩ := r
  have tr := mTok_r mt
  have b := tok_b be mt
  refine ⟨⟨BE_c be rfl (fun _ => rfl) (fun _ => rfl), MT_peek mt, ⟨er, e24, m47, m48⟩, es, ?_, fun q hq => ?_⟩, tok_x be mt er j, mTok_peek b, fun _ => rfl⟩
  · show j ≤ mTok m
    omega
  · have hq2 : mTok m ≤ q := hq
    exact jj q (by omega)
theorem XVal {m h : zH} {e j s : Int} (r : Rp m h e j s) (fv : FV m h) (mv : MV m) (hs : s = 10 ∨ s = 11 ∧ isD (mBy m (mTok m))) : Go (m_value m) (xF e h (gs m 42) j) e 11 (fun m2 h2 => FV m2 h2 ∧ MV m2) := by
  have g := r.2.2.1
  have es := r.2.2.2.1
  have vr := value_r r.2.1 mv
  rcases XN r (by rcases hs with z | z; exact Or.inr (Or.inr (Or.inr (Or.inr (Or.inl z)))); exact Or.inr (Or.inr (Or.inr (Or.inr (Or.inr z))))) 0 999999 with b | ⟨n1, n2, n3⟩
  · left
    refine Bad_1 b ?_ ?_
    · unfold m_value; rw [ifp_f (by rw [b.1]; decide)]
    · unfold m_value; rw [ifp_f (by rw [b.1]; decide)]
  · rw [ifp_f (fun z => z ⟨n2.1, by omega⟩)] at n1
    have tv : x_tn2 h (m_nv m) = x_tval h (m_nv m) := tn_10 _ (by omega)
    rw [tv] at n3
    have v1 : MV m := mv
    unfold MV at v1
    obtain ⟨⟨f1, f2, f3, f4⟩, f5, f6⟩ := fv
    have ev : m_value m = ifp (gs m 10 = gs m 7) (m_fails (m_number m 0 999999).1 3 (gs (m_number m 0 999999).1 45), 0) (ps (pa (m_number m 0 999999).1 1 (gs (m_number m 0 999999).1 10) (gs (m_number m 0 999999).1 46)) 10 (gs (m_number m 0 999999).1 10 + 1), 1) := by
      unfold m_value
      rw [ifp_t (by rw [n1])]
      rw [show gs (m_number m 0 999999).1 10 = gs m 10 by rw [n1]; rfl, show gs (m_number m 0 999999).1 7 = gs m 7 by rw [n1]; rfl]
    rcases Classical.em (gs m 10 = gs m 7) with c | c
    · left
      rw [ifp_t c] at ev
      have xt : x_tval h (m_nv m) = (h, 3) := ifp_t (by omega)
      rw [xt] at n3
      rw [n3, ev, n1]
      have f := xF_err (e := e) (h := h) (c := 3) (q := mTok m) (p := m_nend m) (j := m_nend m) (by decide)
      exact ⟨rfl, f.1, f.2, by show (3 : Int) ≠ 0; decide⟩
    · right
      rw [ifp_f c] at ev
      have xt : x_tval h (m_nv m) = (ps (ps (pa h 8 (gs h 29) (m_nv m)) 29 (gs h 29 + 1)) 30 11, 0) := ifp_f (by omega)
      rw [xt, serr_0] at n3
      have e42 : gs (m_value m).1 42 = m_nend m := by rw [ev, n1]; rfl
      have e10 : gs (m_value m).1 10 = gs m 10 + 1 := by rw [ev, n1]; rfl
      refine ⟨by rw [ev], ps (ps (pa h 8 (gs h 29) (m_nv m)) 29 (gs h 29 + 1)) 30 11, m_nend m, ⟨BE_c r.1 (by rw [ev, n1]; rfl) (fun k => ?_) (fun k => ?_), vr.2.1, ⟨g.1, g.2.1, ?_, ?_⟩, rfl, ?_, fun q hq => ?_⟩, ⟨⟨⟨?_, ?_, ?_, ?_⟩, ?_, fun k k0 k1 => ?_⟩, vr.2.2.1⟩, by rw [n3, e42]⟩
      · exact vr.1.2 16 k (by decide)
      · rw [ga_ps, ga_ps, ga_pa, if_neg (fun z => absurd z.1 (by decide))]
      · rw [ev, n1]; exact g.2.2.1
      · rw [ev, n1]; exact g.2.2.2
      · rw [e42]; exact Int.le_refl _
      · rw [show gs (m_value m).1 44 = m_nend m by rw [ev, n1]; rfl]
      · exact f1.trans vr.2.2.2.1.1.symm
      · exact f2.trans vr.2.2.2.1.2.1.symm
      · exact f3.trans vr.2.2.2.1.2.2.1.symm
      · exact f4.trans vr.2.2.2.1.2.2.2.symm
      · rw [e10, ← f5]; rfl
      · rw [e10] at k1
        have ea : ga (m_value m).1 1 k = if k = gs m 10 then m_nv m else ga m 1 k := by
          rw [ev, n1]
          show ga (pa _ 1 _ _) 1 k = _
          rw [ga_pa]
          by_cases q : k = gs m 10
          · rw [if_pos ⟨rfl, q⟩, if_pos q]; rfl
          · rw [if_neg (fun z => q z.2), if_neg q]; rfl
        rw [ea, ga_ps, ga_ps, ga_pa, f5]
        by_cases q : k = gs m 10
        · rw [if_pos ⟨rfl, q⟩, if_pos q]
        · rw [if_neg (fun z => q z.2), if_neg q]
          exact f6 k k0 (by omega)
theorem XFv {e : Int} : ∀ (n : Nat) (m h : zH) (j : Int), Rp m h e j 11 → FV m h → MV m → gs m 43 - gs m 42 < n → Go (m_fvL n m) (xF e h (gs m 42) j) e 9 (fun m2 h2 => FV m2 h2 ∧ MV m2)
  | 0, m, h, j, r, _, _, hn => by
    have := r.2.1.2.2
    omega
  | n + 1, m, h, j, r, fv, mv, hn => by
    obtain ⟨r2, x2, t2, b2⟩ := Rp_peek r
    have fv2 := FV_c fv (TF_peek m) (fun _ _ => rfl) (fun _ => rfl)
    have mv2 := MV_c mv (TF_peek m)
    have tr := mTok_r r.2.1
    rw [x2, m_fvL]
    rcases Classical.em (isD (mBy m (mTok m))) with d | d
    · rw [ifp_t d]
      have dv : isD (mBy (m_peek m) (mTok (m_peek m))) := by rw [t2, b2]; exact d
      have vr := (value_r r2.2.1 mv2).2.2.2.2
      have v43 : gs (m_value (m_peek m)).1 43 = gs m 43 := (value_r r2.2.1 mv2).1.1 43 (by decide) (by decide) (by decide) (by decide) (by decide) (by decide) (by decide) (by decide) (by decide) (by decide) (by decide) (by decide)
      have p42 : gs (m_peek m) 42 = mTok m := rfl
      rcases XVal r2 fv2 mv2 (Or.inr ⟨rfl, dv⟩) with q | ⟨q1, h2, j2, q2, ⟨q3, q4⟩, q5⟩
      · left
        refine Bad_1 q ?_ ?_
        · rw [ifp_f (by rw [q.1]; decide)]
        · rw [ifp_f (by rw [q.1]; decide)]
      · rw [ifp_t q1, q5]
        exact XFv n _ h2 j2 q2 q3 q4 (by omega)
    · rw [ifp_f d]
      have dv : ¬ isD (mBy (m_peek m) (mTok (m_peek m))) := by rw [t2, b2]; exact d
      rcases XSemi r2 (Or.inr ⟨rfl, dv⟩) with q | ⟨q1, h2, j2, q2, ⟨q3, q4⟩, q5⟩
      · exact Or.inl q
      · refine Or.inr ⟨q1, h2, j2, q2, ⟨?_, MV_c mv2 q3⟩, q5⟩
        rw [q4]
        exact FV_c fv2 q3 (fun k hk => by rw [gs_ps, if_neg (by omega)]) (fun _ => rfl)
theorem XFill {m h : zH} {e j : Int} (r : Rp m h e j 9) (fv : FV m h) (mv : MV m) (ne : mTok m < e) : Go (m_fill m) (xF e h (gs m 42) j) e 9 (fun m2 h2 => FV m2 h2 ∧ MV m2) := by
  have wr0 := word_r r.2.1 (sW 4)
  rcases XW (i := 4) r (by decide) (by decide) (by decide) (fun _ => ne) with b | ⟨w1, w2, w3⟩
  · left
    refine Bad_1 b ?_ ?_
    · unfold m_fill; rw [ifp_f (by rw [show (206220 : Int) = sW 4 from rfl, b.1]; decide)]; rfl
    · unfold m_fill; rw [ifp_f (by rw [show (206220 : Int) = sW 4 from rfl, b.1]; decide)]
  · have em : m_fill m = ifp ((m_value (m_word m (sW 4)).1).2 = 1) (m_fvL 601 (m_value (m_word m (sW 4)).1).1) ((m_value (m_word m (sW 4)).1).1, 0) := ifp_t w1
    rw [em, w3]
    have fv2 : FV (m_word m (sW 4)).1 (ps h 30 (9 + 1)) := FV_c fv wr0.1 (fun k hk => by rw [gs_ps, if_neg (by omega)]) (fun _ => rfl)
    have mv2 := MV_c mv wr0.1
    generalize (m_word m (sW 4)).1 = m1 at w2 fv2 mv2 ⊢
    rcases XVal w2 fv2 mv2 (Or.inl (by decide)) with q | ⟨q1, h2, j2, q2, ⟨q3, q4⟩, q5⟩
    · left
      refine Bad_1 q ?_ ?_
      · rw [ifp_f (by rw [q.1]; decide)]
      · rw [ifp_f (by rw [q.1]; decide)]
    · rw [ifp_t q1, q5]
      exact XFv 601 _ h2 j2 q2 q3 q4 (by have := q2.2.1.2.1; have := q2.2.1.1.2; omega)
/-- both read all, or the same error -/
def GoE (r : zH × Int) (X : zH) : Prop := Bad r X ∨ (r.2 = 1 ∧ FV r.1 X ∧ (gs X 23 = 0 ∧ gs X 24 = -1) ∧ gs r.1 47 = 0 ∧ gs r.1 48 = -1)
theorem XFl {e : Int} : ∀ (n : Nat) (m h : zH) (j : Int), Rp m h e j 9 → FV m h → MV m → gs m 43 - gs m 42 < n → GoE (m_rfL n m) (xF e h (gs m 42) j)
  | 0, m, h, j, r, _, _, hn => by
    have := r.2.1.2.2
    omega
  | n + 1, m, h, j, r, fv, mv, hn => by
    obtain ⟨r2, x2, t2, b2⟩ := Rp_peek r
    have fv2 := FV_c fv (TF_peek m) (fun _ _ => rfl) (fun _ => rfl)
    have mv2 := MV_c mv (TF_peek m)
    have tr := mTok_r r.2.1
    have m0 := r.2.1.2.1
    have be := r.1
    have te : mTok m ≤ e := by rw [← be.1]; exact tr.2
    have p42 : gs (m_peek m) 42 = mTok m := rfl
    rw [x2, m_rfL]
    by_cases k1 : mTok m < e
    · have by1 := BE_by be (k := mTok m) (by omega) k1
      have nn := (be.2.2 (mTok m) (by omega) k1)
      rw [ifp_f (show ¬ mBy m (mTok m) = -1 by omega)]
      have fr := (fill_r r2.2.1 mv2).2.2.2.2
      have f43 : gs (m_fill (m_peek m)).1 43 = gs m 43 := (fill_r r2.2.1 mv2).1.1 43 (by decide) (by decide) (by decide) (by decide) (by decide) (by decide) (by decide) (by decide) (by decide) (by decide) (by decide) (by decide)
      rcases XFill r2 fv2 mv2 (by rw [t2]; exact k1) with q | ⟨q1, h2, j2, q2, ⟨q3, q4⟩, q5⟩
      · left
        refine Bad_1 q ?_ ?_
        · rw [ifp_f (by rw [q.1]; decide)]
        · rw [ifp_f (by rw [q.1]; decide)]
      · rw [ifp_t q1, q5]
        exact XFl n _ h2 j2 q2 q3 q4 (by omega)
    · have em : mBy m (mTok m) = -1 := BE_end be (by omega)
      rw [ifp_t em]
      have xs : xF e h (gs (m_peek m) 42) j = h := by
        rw [xF_stop j (fun z => by have := z.1; omega)]
        exact ifp_f (fun z => z.2 r.2.2.2.1)
      rw [xs]
      exact Or.inr ⟨rfl, fv2, ⟨r.2.2.1.1, r.2.2.1.2.1⟩, r2.2.2.1.2.2.1, r2.2.2.1.2.2.2⟩
/-- the texts agree -/
theorem text_eq {m x : zH} {len : Int} (l0 : 0 ≤ len) (l1 : len ≤ 600) (by0 : ∀ k, 0 ≤ k → k < len → ga x 7 k = ga m 16 k ∧ 0 ≤ ga m 16 k) : GoE (m_rfmt (m_fm0 m len)) (x_parse x len) := by
  have rp : Rp (ps (m_fm0 m len) 10 0) (x_par0 x) len (-1) 0 := by
    refine ⟨⟨rfl, ⟨l0, l1⟩, by0⟩, ⟨⟨l0, l1⟩, Int.le_refl _, l0⟩, ⟨rfl, rfl, rfl, rfl⟩, rfl, (by show (-1 : Int) ≤ 0; decide), fun q hq => Iff.rfl⟩
  have hr := head_r rp.2.1
  have ex : x_parse x len = xF len (x_par0 x) (gs (ps (m_fm0 m len) 10 0) 42) (-1) := rfl
  rw [ex]
  unfold m_rfmt
  rcases XHead rp with q | ⟨q1, h2, j2, q2, ⟨q3, q4, q5, q6, q7⟩, q8⟩
  · left
    refine Bad_1 q ?_ ?_
    · rw [ifp_f (by rw [q.1]; decide)]
    · rw [ifp_f (by rw [q.1]; decide)]
  · rw [ifp_t q1, q8]
    have e10 : gs (m_head (ps (m_fm0 m len) 10 0)).1 10 = 0 := hr.2.2.1
    have g7 : 1 ≤ gs (m_head (ps (m_fm0 m len) 10 0)).1 7 ∧ gs (m_head (ps (m_fm0 m len) 10 0)).1 7 ≤ 64 := by
      rcases hr.2.2.2 with z | z
      · omega
      · exact z.2.2.2.1
    refine XFl 601 _ h2 j2 q2 ⟨⟨q4, q5, q6, q7⟩, ?_, fun k k0 k1 => by omega⟩ ?_ (by have := q2.2.1.2.1; have := q2.2.1.1.2; omega)
    · rw [e10]; exact q3.1
    · unfold MV
      omega

