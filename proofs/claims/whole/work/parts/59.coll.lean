/-! a block is collected, on both sides -/
theorem FO_mono {m x : zH} {T T2 n : Int} (f : FO m x T n) (h : T ≤ T2) : FO m x T2 n := by
  obtain ⟨s, ⟨v1, v2, v3, v4, v5, v6⟩, f3⟩ := f
  exact ⟨s, ⟨v1, v2, v3, ⟨by omega, by omega, fun b b0 b1 => by have := v4.2.2 b b0 b1; omega⟩, v5, v6⟩, f3⟩
theorem blk_one {P a b i : Int} (p : 0 ≤ P) (h1 : P * a ≤ i) (h2 : i < P * a + P) (h3 : P * b ≤ i) (h4 : i < P * b + P) : a = b := by
  rcases Int.lt_trichotomy a b with c | c | c
  · have := Int.mul_le_mul_of_nonneg_left (show a + 1 ≤ b by omega) p
    rw [Int.mul_add, Int.mul_one] at this
    omega
  · exact c
  · have := Int.mul_le_mul_of_nonneg_left (show b + 1 ≤ a by omega) p
    rw [Int.mul_add, Int.mul_one] at this
    omega
theorem good_pg {m : zH} {i : Int} (i0 : 0 ≤ i) (i1 : i < mN m) (g : mGood m i) : pg m i := ⟨i0, i1, by
  have h := g.2.1
  unfold mProgd
  unfold mWanted at h
  omega⟩
theorem FO_torn {m x : zH} {T n : Int} (f : FO m x T n) (a0 : 0 ≤ gs m 32) (fr : ga x 18 (gs m 32) < gs m 2) (no : ¬ mOK m) (w ix g v : Int) :
    m_prog m (m_low m) w ix g = m_loses (pa (m_oper m) 2 (m_low m) 5) ∧ (x_prog x (gs x 46) w ix g v).2 = -1 ∧ FO (pa (m_oper m) 2 (m_low m) 5) (x_prog x (gs x 46) w ix g v).1 T n := by
  obtain ⟨e1, e2, e3, e4, e5, e6⟩ := prog_torn f.1 a0 fr no (w := w) (ix := ix) (g := g) v
  obtain ⟨s, dv, nf, on, o, p1⟩ := f
  have hg (k : Nat) (hk : k ≠ 25) : gs (pa (m_oper m) 2 (m_low m) 5) k = gs m k := gs_oper m k hk
  have hk (c : Nat) (i : Int) (hc : c ≠ 2 ∨ i ≠ m_low m) : ga (pa (m_oper m) 2 (m_low m) 5) c i = ga m c i := by
    rw [ga_pa, if_neg (by omega), ga_oper]
  have eN : mN (pa (m_oper m) 2 (m_low m) 5) = mN m := by
    unfold mN
    rw [hg 1 (by decide), hg 2 (by decide)]
  have d : Del m (pa (m_oper m) 2 (m_low m) 5) (ga x 17) (ga (x_prog x (gs x 46) w ix g v).1 17) := by
    refine ⟨fun k h => hg k (by omega), fun c i h => hk c i (by omega), fun i h => ?_, fun i h z => ?_⟩
    · have ne : i ≠ m_low m := fun z => by
        have q := h.2.2
        unfold mProgd at q
        rw [ga_pa, if_pos ⟨rfl, z⟩] at q
        omega
      refine ⟨⟨h.1, by rw [← eN]; exact h.2.1, ?_⟩, fun c _ _ => hk c i (Or.inr ne), fun k _ _ => hk 8 _ (by omega), by rw [e6, if_neg ne]⟩
      have q := h.2.2
      unfold mProgd at q ⊢
      rw [hk 2 i (Or.inr ne)] at q
      exact q
    · have q := h.2.2
      unfold mProgd at q
      have ne : i ≠ m_low m := fun y => by rw [y] at q; omega
      exact absurd ⟨h.1, by rw [eN]; exact h.2.1, by unfold mProgd; rw [hk 2 i (Or.inr ne)]; exact q⟩ z
  obtain ⟨q1, q2, q3⟩ := DEL d (by omega) dv nf on (Int.le_refl T) (fun b b0 b1 => by rw [hk 9 b (by omega)]; exact dv.2.2.2.1.2.2 b b0 b1)
  exact ⟨e1, e2, e5, q1, q2, q3, by rw [hg 26 (by decide)]; exact o, by rw [hg 2 (by decide)]; exact p1⟩
theorem FO_copy {m x : zH} {T n : Int} (f : FO m x T n) (hT : T ≤ 2147483000) (a0 : 0 ≤ gs m 32) (fr : ga x 18 (gs m 32) < gs m 2) (ok : mOK m) {i : Int} (i0 : 0 ≤ i) (i1 : i < mN m) (hi : mGood m i) :
    (x_cpy x i).2 = m_low m ∧ (0 ≤ m_low m) ∧ FO (m_copy m i) (x_mkcopy (x_cpy x i).1 (x_cpy x i).2 i) (T + 1) n ∧ (gs (m_copy m i) 32 = gs m 32 ∧ gs (m_copy m i) 1 = gs m 1 ∧ gs (m_copy m i) 2 = gs m 2) ∧ (∀ j, 0 ≤ j → j < mN m → (mGood (m_copy m i) j ↔ j = m_low m ∨ mGood m j ∧ j ≠ i)) ∧ (∀ c, c ≠ gs m 32 → ga (x_mkcopy (x_cpy x i).1 (x_cpy x i).2 i) 18 c = ga x 18 c) ∧ ga (x_mkcopy (x_cpy x i).1 (x_cpy x i).2 i) 18 (gs m 32) = ga x 18 (gs m 32) + 1 := by
  have ip := good_pg i0 i1 hi
  obtain ⟨e1, e2, e3, e4, e5, e6, e7⟩ := SIM_copy f.1 a0 fr ok i0 i1 ip.2.2
  obtain ⟨s, dv, nf, on, o, p1⟩ := f
  have gm (k : Nat) (hk : k ≠ 19 ∧ k ≠ 20 ∧ k ≠ 22 ∧ k ≠ 25) := gs_copyT ok i k hk
  have ne : i ≠ m_low m := fun z => by
    have q := ip.2.2
    unfold mProgd at q
    rw [z] at q
    omega
  have e19 : wr (gs (m_oper m) 19 + 1) = gs m 19 + 1 := by
    rw [gs_oper m 19 (by decide)]
    have := dv.2.2.2.1.1
    exact wr_id (by omega) (by omega)
  have r17 : ga x 17 (m_low m) = 0 := ((s.2.2.2.1 (m_low m) e2.1 e2.2).2.2.1 (fun z => by unfold mProgd at z; omega)).2.2.2.2
  have d : Cpa m (m_copy m i) (ga x 17) (ga (x_mkcopy (x_cpy x i).1 (x_cpy x i).2 i) 17) (m_low m) i := by
    refine ⟨fun k h => gm k (by omega), ?_, fun c j h1 h2 => ga_copyT_o ok i c j (by omega), fun j j0 j1 => ⟨?_, fun c c1 c2 => ?_, fun z => ?_, fun z k k0 k1 => ?_, ?_⟩, ⟨e2, e3⟩, ip, hi⟩
    · rw [e5, gs_copyOk _ _ _ _ (by decide)]
      exact e19
    · rw [e5, ga_copyOk, if_neg (by omega), if_neg (by omega), if_neg (by omega), ga_mprogOk, e19]
      by_cases z : j = m_low m
      · rw [if_pos ⟨rfl, z⟩, if_pos z]
      · rw [if_neg (fun y => z y.2), if_neg z, if_neg (by omega), if_neg (by omega), if_neg (by omega), if_neg (by omega), ga_oper]
    · rw [e5, ga_copyOk, if_neg (by omega), if_neg (by omega)]
      by_cases z : j = m_low m
      · rw [z, pi_r]
        rcases (show c = 2 ∨ c = 3 ∨ c = 4 ∨ c = 5 by omega) with y | y | y | y
        · rw [y, if_neg (by omega), ga_mprogOk, if_neg (by omega), if_neg (by omega), if_neg (by omega), if_neg (by omega), if_pos ⟨rfl, rfl⟩]
        · rw [y, if_neg (by omega), ga_mprogOk, if_neg (by omega), if_neg (by omega), if_neg (by omega), if_pos ⟨rfl, rfl⟩]
        · rw [y, if_neg (by omega), ga_mprogOk, if_neg (by omega), if_neg (by omega), if_pos ⟨rfl, rfl⟩]
        · rw [y, if_pos ⟨rfl, rfl⟩, ga_mprogOk, if_neg (by omega), if_neg (by omega), if_neg (by omega), if_neg (by omega), if_neg (by omega), ga_oper]
      · rw [pi_n i z, if_neg (fun y => z y.2), ga_mprogOk, if_neg (fun y => z y.2), if_neg (fun y => z y.2), if_neg (fun y => z y.2), if_neg (fun y => z y.2), if_neg (fun y => z y.2), ga_oper]
    · rw [e5, ga_copyOk, if_neg (by omega)]
      by_cases y : j = m_low m
      · rw [y, pi_r, if_pos ⟨rfl, rfl⟩, ga_mprogOk, if_neg (by omega), if_neg (by omega), if_neg (by omega), if_neg (by omega), if_neg (by omega), ga_oper]
      · rw [pi_n i y, if_neg (fun h => y h.2), if_neg (by omega), ga_mprogOk, if_neg (by omega), if_neg (by omega), if_neg (by omega), if_neg (by omega), if_neg (by omega), ga_oper]
    · rw [e5, ga_copyOk]
      by_cases y : j = m_low m
      · rw [y, pi_r, if_pos (by omega), ga_mprogOk, if_neg (by omega), if_neg (by omega), if_neg (by omega), if_neg (by omega), if_neg (by omega), ga_oper, show 8 * m_low m + k - 8 * m_low m = k by omega]
      · rw [pi_n i y, if_neg (by omega), if_neg (by omega), if_neg (by omega), ga_mprogOk, if_neg (by omega), if_neg (by omega), if_neg (by omega), if_neg (by omega), if_neg (by omega), ga_oper]
    · rw [e6]
      by_cases y : j = i
      · rw [if_pos y, if_pos y]
      · rw [if_neg y, if_neg y]
        by_cases z : j = m_low m
        · rw [if_pos z, z, r17]
        · rw [if_neg z]
  obtain ⟨⟨q1, q2, q3⟩, q4⟩ := CPA d dv nf on (Int.le_refl (T + 1))
  refine ⟨e1, e2.1, ⟨e4, q1, q2, q3, by rw [gm 26 (by decide)]; exact o, by rw [gm 2 (by decide)]; exact p1⟩, ⟨gm 32 (by decide), gm 1 (by decide), gm 2 (by decide)⟩, q4, fun c hc => ?_, e7⟩
  rw [ga_xmkcopy_o _ _ _ _ _ (by decide)]
  unfold x_cpy
  rcases ga_xprog_18 x (gs x 46) (ga x 10 i) (ga x 11 i) (ga x 12 i) (ga x 15 i) c with z | z
  · exact z
  · exact absurd (z.1.trans (sg s.1 (a := 32) (b := 46) (by decide))) hc
theorem cnt_front (p : Int → Prop) (a : Int) (n : Nat) : cnt p a (n + 1) = b2i (p a) + cnt p (a + 1) n := by
  have q := cnt_add (p := p) (a := a) 1 n
  rw [show 1 + n = n + 1 by omega] at q
  rw [q]
  have e : cnt p a 1 = b2i (p a) := by
    rw [cnt, cnt, show a + ((0 : Nat) : Int) = a by omega]
    omega
  rw [e]
  rfl
def CollR (m x : zH) (T k : Int) (b : Int) (F : Int) (r s : zH × Int) : Prop :=
  (r.2 = 1 ∧ s.2 = 1 ∧ FO r.1 s.1 T k ∧ (gs r.1 32 = gs m 32 ∧ gs r.1 1 = gs m 1 ∧ gs r.1 2 = gs m 2) ∧ (∀ j, gs m 2 * b ≤ j → j < gs m 2 * b + gs m 2 → ¬ mGood r.1 j) ∧ (∀ c, c ≠ gs m 32 → ga s.1 18 c = ga x 18 c) ∧ ga s.1 18 (gs m 32) ≤ ga x 18 (gs m 32) + F) ∨
  (r.2 = 0 ∧ s.2 = 0 ∧ ∃ M, r.1 = m_loses M ∧ FO M s.1 T k)
theorem COLL : ∀ (n : Nat) (m x : zH) (T k i b : Int), FO m x T k → T + n ≤ 2147483000 → 0 ≤ b → b < gs m 1 → b ≠ gs m 32 → 0 ≤ gs m 32 → gs m 2 * b ≤ i → i + n = gs m 2 * b + gs m 2 → cnt (mGood m) i n ≤ gs m 2 - ga x 18 (gs m 32) → (∀ j, gs m 2 * b ≤ j → j < i → ¬ mGood m j) → CollR m x (T + n) k b (cnt (mGood m) i n) (m_collL n m i) (x_collL n x i) := by
  intro n
  induction n with
  | zero =>
    intro m x T k i b f hT b0 b1 bn a0 h1 h2 h3 h4
    refine Or.inl ⟨rfl, rfl, FO_mono f (by omega), ⟨rfl, rfl, rfl⟩, fun j j0 j1 => h4 j j0 (by omega), fun _ _ => rfl, ?_⟩
    show ga x 18 _ ≤ ga x 18 _ + cnt (mGood m) i 0
    rw [cnt]
    omega
  | succ n ih =>
    intro m x T k i b f hT b0 b1 bn a0 h1 h2 h3 h4
    have mb := f.1.2.2.1.1
    have ir := blk_N mb b0 b1 h1 (by omega)
    have lv := live_g f ir.1 ir.2
    rw [cnt_front] at h3 ⊢
    rw [m_collL, x_collL]
    by_cases g : mGood m i
    · rw [b2i_t g] at h3 ⊢
      rw [ifp_t g, ifp_t (lv.mpr g)]
      have c0 := cnt_r (mGood m) (i + 1) n
      have fr : ga x 18 (gs m 32) < gs m 2 := by omega
      by_cases ok : mOK m
      · obtain ⟨e1, e2, e3, e4, e5, e6, e7⟩ := FO_copy f (by omega) a0 fr ok ir.1 ir.2 g
        rw [ifp_t ok, ifp_f (by rw [e1]; omega)]
        have low := low_u f.1.2.2.1 a0
        have u := f.1.2.2.1.2.2.2.2 (gs m 32) a0 f.1.2.2.1.2.2.1.2
        have lb (j : Int) (j0 : gs m 2 * b ≤ j) (j1 : j < gs m 2 * b + gs m 2) : j ≠ m_low m := fun z => bn (blk_one (i := j) mb.2.2.1 j0 j1 (by omega) (by omega))
        have cc : cnt (mGood (m_copy m i)) (i + 1) n = cnt (mGood m) (i + 1) n := cnt_c (fun j j0 j1 => by
          have jr := blk_N mb b0 b1 (i := j) (by omega) (by omega)
          rw [e5 j jr.1 jr.2]
          constructor
          · rintro (z | z)
            · exact absurd z (lb j (by omega) (by omega))
            · exact z.1
          · exact fun z => Or.inr ⟨z, by omega⟩)
        have q := ih (m_copy m i) (x_mkcopy (x_cpy x i).1 (x_cpy x i).2 i) (T + 1) k (i + 1) b e3 (by omega) b0 (by rw [e4.2.1]; exact b1) (by rw [e4.1]; exact bn) (by rw [e4.1]; exact a0) (by rw [e4.2.2]; omega) (by rw [e4.2.2]; omega) (by rw [cc, e4.1, e4.2.2, e7]; omega) (fun j j0 j1 => by
          rw [e4.2.2] at j0
          have jr := blk_N mb b0 b1 (i := j) j0 (by omega)
          rw [e5 j jr.1 jr.2]
          rintro (z | z)
          · exact lb j j0 (by omega) z
          · exact h4 j j0 (by omega) z.1)
        rw [show T + ((n + 1 : Nat) : Int) = T + 1 + n by omega]
        rw [cc] at q
        rcases q with ⟨q1, q2, q3, q4, q5, q6, q7⟩ | q
        · rw [e4.1] at q4 q6 q7
          rw [e4.2.1, e4.2.2] at q4
          rw [e4.2.2] at q5
          refine Or.inl ⟨q1, q2, q3, q4, q5, fun c hc => (q6 c hc).trans (e6 c hc), ?_⟩
          rw [e7] at q7
          omega
        · exact Or.inr q
      · obtain ⟨t1, t2, t3⟩ := FO_torn f a0 fr ok (ga x 10 i) (ga x 11 i) (ga x 12 i) (ga x 15 i)
        rw [ifp_f ok, ifp_t (by show (x_prog x (gs x 46) _ _ _ _).2 < 0; rw [t2]; decide)]
        refine Or.inr ⟨rfl, rfl, _, ?_, FO_mono t3 (by omega)⟩
        show m_copy m i = _
        unfold m_copy
        rw [ifp_f ok]
        exact (FO_torn f a0 fr ok _ _ _ 0).1
    · rw [b2i_f g] at h3 ⊢
      rw [ifp_f g, ifp_f (fun z => g (lv.mp z)), show T + ((n + 1 : Nat) : Int) = T + 1 + n by omega]
      have q := ih m x (T + 1) k (i + 1) b (FO_mono f (by omega)) (by omega) b0 b1 bn a0 (by omega) (by omega) (by omega) (fun j j0 j1 => by
        by_cases z : j = i
        · rw [z]; exact g
        · exact h4 j j0 (by omega))
      rw [show 0 + cnt (mGood m) (i + 1) n = cnt (mGood m) (i + 1) n by omega]
      exact q

