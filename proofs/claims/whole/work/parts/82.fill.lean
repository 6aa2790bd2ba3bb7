/-! format's fills never fail: what stays without a loss of power, how many pages are good -/
theorem oper_0 {m : zH} (h : gs m 25 = 0) : m_oper m = m := ifp_t h
theorem ok_0 {m : zH} (h : gs m 25 = 0) : mOK m := Or.inl h
theorem copy_25 {m : zH} (h : gs m 25 = 0) (f : Int) : gs (m_copy m f) 25 = 0 := by
  unfold m_copy m_prog
  rw [ifp_t (ok_0 h), ifp_t (ok_0 h), gs_copyOk _ _ _ _ (by decide), gs_progOk _ _ _ _ _ _ (by decide), oper_0 h]
  exact h
theorem erase_25 {m : zH} (h : gs m 25 = 0) (b : Int) : gs (m_erase m b) 25 = 0 := by
  unfold m_erase
  rw [ifp_t (ok_0 h), oper_0 h]
  exact h
/-- each page is one of before, but for its place and its sequence -/
def PSub (m m2 : zH) : Prop := mN m2 = mN m ∧ ∀ i, pg m2 i → ∃ j, pg m j ∧ ∀ c, 2 ≤ c → c ≤ 5 → ga m2 c i = ga m c j
theorem PSub.rf (m : zH) : PSub m m := ⟨rfl, fun i h => ⟨i, h, fun _ _ _ => rfl⟩⟩
theorem PSub.tr {a b c : zH} (h : PSub a b) (k : PSub b c) : PSub a c := ⟨k.1.trans h.1, fun i hi => by
  obtain ⟨j, j1, j2⟩ := k.2 i hi
  obtain ⟨o, o1, o2⟩ := h.2 j j1
  exact ⟨o, o1, fun c c1 c2 => (j2 c c1 c2).trans (o2 c c1 c2)⟩⟩
theorem PSub_copy {m : zH} (ok : mOK m) {f : Int} (f0 : 0 ≤ f) (f1 : f < mN m) (g : mGood m f) (y : f ≠ m_low m) : PSub m (m_copy m f) := by
  have fp := good_pg f0 f1 g
  have gm (k : Nat) (hk : k ≠ 19 ∧ k ≠ 20 ∧ k ≠ 22 ∧ k ≠ 25) := gs_copyT ok f k hk
  have eN : mN (m_copy m f) = mN m := by unfold mN; rw [gm 1 (by decide), gm 2 (by decide)]
  refine ⟨eN, fun i hi => ?_⟩
  by_cases z : i = m_low m
  · refine ⟨f, fp, fun c c1 c2 => ?_⟩
    unfold m_copy m_prog
    rw [ifp_t ok, ifp_t ok, z, ga_copyOk, if_neg (by omega), if_neg (by omega)]
    rcases (show c = 2 ∨ c = 3 ∨ c = 4 ∨ c = 5 by omega) with e | e | e | e
    · rw [e, if_neg (by omega), ga_mprogOk, if_neg (by omega), if_neg (by omega), if_neg (by omega), if_neg (by omega), if_pos ⟨rfl, rfl⟩]
    · rw [e, if_neg (by omega), ga_mprogOk, if_neg (by omega), if_neg (by omega), if_neg (by omega), if_pos ⟨rfl, rfl⟩]
    · rw [e, if_neg (by omega), ga_mprogOk, if_neg (by omega), if_neg (by omega), if_pos ⟨rfl, rfl⟩]
    · rw [e, if_pos ⟨rfl, rfl⟩, ga_mprogOk, if_neg (by omega), if_neg (by omega), if_neg (by omega), if_neg (by omega), if_neg (by omega), ga_oper]
  · have e (c : Nat) (h : c ≠ 8) : ga (m_copy m f) c i = ga m c i := ga_copyT ok f c i h z
    refine ⟨i, ⟨hi.1, by rw [← eN]; exact hi.2.1, ?_⟩, fun c _ _ => e c (by omega)⟩
    have q := hi.2.2
    unfold mProgd at q ⊢
    rw [e 2 (by decide)] at q
    exact q
theorem COLL_P : ∀ (n : Nat) (m x : zH) (T k i b : Int), FO m x T k → T + n ≤ 2147483000 → gs m 25 = 0 → 0 ≤ b → b < gs m 1 → b ≠ gs m 32 → 0 ≤ gs m 32 → gs m 2 * b ≤ i → i + n = gs m 2 * b + gs m 2 → cnt (mGood m) i n ≤ gs m 2 - ga x 18 (gs m 32) → (m_collL n m i).2 = 1 ∧ gs (m_collL n m i).1 25 = 0 ∧ PSub m (m_collL n m i).1 := by
  intro n
  induction n with
  | zero =>
    intro m x T k i b f hT z b0 b1 bn a0 h1 h2 h3
    exact ⟨rfl, z, PSub.rf m⟩
  | succ n ih =>
    intro m x T k i b f hT z b0 b1 bn a0 h1 h2 h3
    have mb := f.1.2.2.1.1
    have ir := blk_N mb b0 b1 h1 (by omega)
    rw [cnt_front] at h3
    rw [m_collL]
    by_cases g : mGood m i
    · rw [b2i_t g] at h3
      rw [ifp_t g]
      have c0 := cnt_r (mGood m) (i + 1) n
      have fr : ga x 18 (gs m 32) < gs m 2 := by omega
      have ok := ok_0 z
      obtain ⟨e1, e2, e3, e4, e5, e6, e7⟩ := FO_copy f (by omega) a0 fr ok ir.1 ir.2 g
      rw [ifp_t ok]
      have low := low_u f.1.2.2.1 a0
      have u := f.1.2.2.1.2.2.2.2 (gs m 32) a0 f.1.2.2.1.2.2.1.2
      have lb (j : Int) (j0 : gs m 2 * b ≤ j) (j1 : j < gs m 2 * b + gs m 2) : j ≠ m_low m := fun z => bn (blk_one (i := j) mb.2.2.1 j0 j1 (by omega) (by omega))
      have cc : cnt (mGood (m_copy m i)) (i + 1) n = cnt (mGood m) (i + 1) n := cnt_c (fun j j0 j1 => by
        have jr := blk_N mb b0 b1 (i := j) (by omega) (by omega)
        rw [e5 j jr.1 jr.2]
        constructor
        · rintro (z | z)
          · exact absurd z (lb j (by omega) (by omega))
          · exact z.1
        · exact fun z => Or.inr ⟨z, by omega⟩)
      have q := ih (m_copy m i) (x_mkcopy (x_cpy x i).1 (x_cpy x i).2 i) (T + 1) k (i + 1) b e3 (by omega) (copy_25 z i) b0 (by rw [e4.2.1]; exact b1) (by rw [e4.1]; exact bn) (by rw [e4.1]; exact a0) (by rw [e4.2.2]; omega) (by rw [e4.2.2]; omega) (by rw [cc, e4.1, e4.2.2, e7]; omega)
      exact ⟨q.1, q.2.1, (PSub_copy ok ir.1 ir.2 g (lb i h1 (by omega))).tr q.2.2⟩
    · rw [b2i_f g] at h3
      rw [ifp_f g]
      exact ih m x (T + 1) k (i + 1) b (FO_mono f (by omega)) (by omega) z b0 b1 bn a0 (by omega) (by omega) (by omega)
theorem PSub_erase {m : zH} (ok : mOK m) (b : Int) : PSub m (m_erase m b) := by
  have e1 : m_er1 m b = m_erase m b := ifp_t ok
  have gk (k : Nat) (hk : k ≠ 21 ∧ k ≠ 25) : gs (m_er1 m b) k = gs m k := er1_gs k hk
  rw [← e1]
  refine ⟨by unfold mN; rw [gk 1 (by decide), gk 2 (by decide)], fun i hi => ?_⟩
  have q := hi.2.2
  unfold mProgd at q
  by_cases z : gs m 2 * b ≤ i ∧ i < gs m 2 * b + gs m 2
  · rw [er1_ga, if_pos ⟨rfl, z⟩, ifp_t ok] at q
    omega
  · have s (c : Nat) (h : c ≠ 9) : ga (m_er1 m b) c i = ga m c i := by rw [er1_ga, if_neg (fun y => z y.2), if_neg (fun y => h y.1)]
    rw [s 2 (by decide)] at q
    refine ⟨i, ⟨hi.1, ?_, q⟩, fun c _ _ => s c (by omega)⟩
    have := hi.2.1
    unfold mN at this ⊢
    rw [gk 1 (by decide), gk 2 (by decide)] at this
    exact this
theorem COLLECT_P {m x : zH} {T k : Int} (f : FO m x T k) (hT : T + 40 ≤ 2147483000) (z : gs m 25 = 0) (a0 : 0 ≤ gs m 32) {b : Int} (b0 : 0 ≤ b) (b1 : b < gs m 1) (bn : b ≠ gs m 32) (hv : mValidIn m b < mFreeIn m (gs m 32)) : (m_collect m b).2 = 1 ∧ gs (m_collect m b).1 25 = 0 ∧ PSub m (m_collect m b).1 := by
  have mb := f.1.2.2.1.1
  have fr := fp_v f.1 a0
  have p32 := mb.2.2.2.1
  have p32a := mb.2.2.1
  have hc : mValidIn m b = cnt (mGood m) (gs m 2 * b) (gs m 2).toNat := rfl
  have q := COLL_P (gs m 2).toNat m x T k (gs m 2 * b) b f (by omega) z b0 b1 bn a0 (Int.le_refl _) (by omega) (by rw [← hc]; omega)
  unfold m_collect
  rw [ifp_t q.1]
  exact ⟨b2i_t (ok_0 q.2.1), erase_25 q.2.1 b, q.2.2.tr (PSub_erase (ok_0 q.2.1) b)⟩
/-- free blocks don't get fewer, and one more comes where a block is collected -/
theorem ROOML_P : ∀ (n : Nat) (m x : zH) (T k : Int), FO m x T k → T + 40 * n ≤ 2147483000 → gs m 25 = 0 → 0 ≤ gs m 32 → ga x 18 (gs m 32) < gs m 2 → (m_roomL n m).2 = 1 ∧ gs (m_roomL n m).1 25 = 0 ∧ PSub m (m_roomL n m).1 ∧ mFreeMany m ≤ mFreeMany (m_roomL n m).1 ∧ (1 ≤ n → mFreeMany m < 2 → m_vict m ≠ -1 → mFreeMany m + 1 ≤ mFreeMany (m_roomL n m).1) := by
  intro n
  induction n with
  | zero =>
    intro m x T k f hT z a0 fr
    exact ⟨rfl, z, PSub.rf m, Int.le_refl _, fun h => by omega⟩
  | succ n ih =>
    intro m x T k f hT z a0 fr
    rw [m_roomL]
    by_cases c : mFreeMany m < 2 ∧ m_vict m ≠ -1
    · rw [ifp_t c]
      rcases vict_r f with v | ⟨⟨v0, v1⟩, v2, v3, v4⟩
      · exact absurd v c.2
      · obtain ⟨q, qa⟩ := COLLECT f (by omega) a0 v0 v1 v2 v3
        obtain ⟨p1, p2, p3⟩ := COLLECT_P f (by omega) z a0 v0 v1 v2 v3
        have cf := collect_free f.1.2.2.1 a0 v0 v1 v2 (fun z => by
          have y := (free_v f.1 f.2.2.2.2.2 v0 v1).mpr z
          have := y.1
          omega) v3 p1
        rcases q with ⟨q1, q2, q3, q4, q5⟩ | ⟨q1, _⟩
        · rw [ifp_t p1]
          obtain ⟨t1, t2, t3, t4, t5⟩ := ih _ _ _ _ q3 (by omega) p2 q4 q5
          exact ⟨t1, t2, p3.tr t3, by omega, fun _ _ _ => by omega⟩
        · omega
    · rw [ifp_f c]
      exact ⟨rfl, z, PSub.rf m, Int.le_refl _, fun _ h1 h2 => absurd ⟨h1, h2⟩ c⟩
theorem zsum_cnt {p : Int → Prop} {P : Int} (h : 0 ≤ P) : ∀ n : Nat, zsum (fun b => cnt p (P * b) P.toNat) n = cnt p 0 (P.toNat * n)
  | 0 => rfl
  | n + 1 => by
    have e : ((P.toNat * n : Nat) : Int) = P * n := by
      have a : ((P.toNat : Nat) : Int) = P := by omega
      rw [Int.natCast_mul, a]
    rw [zsum, zsum_cnt h n, Nat.mul_add, Nat.mul_one, cnt_add, e]
    rw [show (0 : Int) + P * (n : Int) = P * n by omega]
theorem vall_cnt {m : zH} (b : MB m) : mValidAll m = cnt (mGood m) 0 (mN m).toNat := by
  have q := zsum_cnt (p := mGood m) b.2.2.1 (gs m 1).toNat
  have e : (gs m 2).toNat * (gs m 1).toNat = (mN m).toNat := by
    have a : (((gs m 2).toNat : Nat) : Int) = gs m 2 := by have := b.2.2.1; omega
    have c : (((gs m 1).toNat : Nat) : Int) = gs m 1 := by have := b.1; omega
    have d : (((gs m 2).toNat * (gs m 1).toNat : Nat) : Int) = mN m := by rw [Int.natCast_mul, a, c, Int.mul_comm]; rfl
    omega
  rw [e] at q
  exact q
/-- as many as codes -/
theorem pigeon {p : Int → Prop} {f : Int → Int} {n : Nat} : ∀ K : Nat, (∀ i : Int, 0 ≤ i → i < n → p i → 0 ≤ f i ∧ f i < K) → (∀ i j : Int, 0 ≤ i → i < n → 0 ≤ j → j < n → p i → p j → f i = f j → i = j) → cnt p 0 n ≤ K
  | 0, h, _ => by
    rw [cnt_zero (fun i i0 i1 z => by have := h i i0 (by omega) z; omega)]
    exact Int.le_refl _
  | K + 1, h, inj => by
    have ih := pigeon (p := fun i => p i ∧ f i < K) (f := f) (n := n) K (fun i i0 i1 z => ⟨(h i i0 i1 z.1).1, z.2⟩) (fun i j i0 i1 j0 j1 a b e => inj i j i0 i1 j0 j1 a.1 b.1 e)
    by_cases c : ∃ i : Int, (0 ≤ i ∧ i < n) ∧ p i ∧ f i = K
    · obtain ⟨i, ⟨i0, i1⟩, ip, ik⟩ := c
      have q := cnt_plus (p := fun i => p i ∧ f i < K) (q := p) (a := 0) (b := i) (n := n) (fun j j0 j1 ji => by
        constructor
        · exact fun z => z.1
        · intro z
          have r := h j j0 (by omega) z
          refine ⟨z, ?_⟩
          have : f j ≠ K := fun y => ji (inj j i j0 (by omega) i0 i1 z ip (by omega))
          omega) i0 (by omega) (fun z => by have := z.2; omega) ip
      omega
    · have q : cnt p 0 n = cnt (fun i => p i ∧ f i < K) 0 n := cnt_c (fun j j0 j1 => by
        constructor
        · intro z
          have r := h j j0 (by omega) z
          exact ⟨z, by
            have : f j ≠ K := fun y => c ⟨j, ⟨j0, by omega⟩, z, y⟩
            omega⟩
        · exact fun z => z.1)
      omega
/-- a checkpoint's parts stand once, but for copies -/
def UQ (m : zH) (n : Int) : Prop := (∀ i j, pg m i → pg m j → ga m 2 i = 3 → ga m 2 j = 3 → ga m 4 i = ga m 4 j → ga m 3 i = ga m 3 j → ga m 5 i = ga m 5 j) ∧ (∀ i j, pg m i → pg m j → ga m 2 i = 4 → ga m 2 j = 4 → ga m 4 i = ga m 4 j → ga m 5 i = ga m 5 j) ∧ (gs m 35 ≠ 0 → ∀ i, pg m i → ga m 2 i = 3 → ga m 4 i = gs m 35 → ga m 3 i < n)
theorem UQ_sub {m m2 : zH} {n : Int} (u : UQ m n) (s : PSub m m2) (e : gs m2 35 = gs m 35) : UQ m2 n := by
  obtain ⟨u1, u2, u3⟩ := u
  refine ⟨fun i j hi hj a b c d => ?_, fun i j hi hj a b c => ?_, fun z i hi a b => ?_⟩
  · obtain ⟨k, k1, k2⟩ := s.2 i hi
    obtain ⟨l, l1, l2⟩ := s.2 j hj
    rw [k2 2 (by decide) (by decide)] at a
    rw [l2 2 (by decide) (by decide)] at b
    rw [k2 4 (by decide) (by decide), l2 4 (by decide) (by decide)] at c
    rw [k2 3 (by decide) (by decide), l2 3 (by decide) (by decide)] at d
    rw [k2 5 (by decide) (by decide), l2 5 (by decide) (by decide)]
    exact u1 k l k1 l1 a b c d
  · obtain ⟨k, k1, k2⟩ := s.2 i hi
    obtain ⟨l, l1, l2⟩ := s.2 j hj
    rw [k2 2 (by decide) (by decide)] at a
    rw [l2 2 (by decide) (by decide)] at b
    rw [k2 4 (by decide) (by decide), l2 4 (by decide) (by decide)] at c
    rw [k2 5 (by decide) (by decide), l2 5 (by decide) (by decide)]
    exact u2 k l k1 l1 a b c
  · obtain ⟨k, k1, k2⟩ := s.2 i hi
    rw [k2 2 (by decide) (by decide)] at a
    rw [k2 4 (by decide) (by decide), e] at b
    rw [k2 3 (by decide) (by decide)]
    exact u3 (by rw [← e]; exact z) k k1 a b
/-- at most so many pages are good, where there is no transaction and no reader -/
theorem VB {m x : zH} {T n : Int} (f : FO m x T n) (z38 : gs m 38 = 0) (rd : ∀ r, 0 ≤ r → r < 4 → ga m 14 r = 0) (u : UQ m n) (n0 : 0 ≤ n) : mValidAll m ≤ gs m 3 + mParts m + 1 + (if gs m 35 = 0 then 0 else n) := by
  have mb := f.1.2.2.1.1
  have mi := f.1.2.2.1.2.1
  have L := mb.2.2.2.2
  have pr := parts_r mb
  have o1 := f.2.2.2.1.1
  have o3 := f.2.2.2.1.2.2.1
  obtain ⟨v1, v2, v3, v4, v5, v6⟩ := f.2.1
  rw [vall_cnt mb]
  have nr := mN_r mb
  have same (i j : Int) (hi : pg m i) (hj : pg m j) (gi : mGood m i) (gj : mGood m j) (e : ga m 5 i = ga m 5 j) : i = j := by
    have c := (v3 i j hi hj e).1
    have a := gi.2.2 j hj.1 hj.2.1 (copy_sy c)
    have b := gj.2.2 i hi.1 hi.2.1 c
    exact v2 i j hi hj (by omega)
  have kinds (i : Int) (hi : pg m i) (g : mGood m i) : (ga m 2 i = 1 ∧ (0 ≤ ga m 3 i ∧ ga m 3 i < gs m 3) ∧ ga m 5 i = ga m 10 (ga m 3 i)) ∨ (ga m 2 i = 4 ∧ ga m 4 i = gs m 33) ∨ (ga m 2 i = 3 ∧ (0 ≤ ga m 3 i ∧ ga m 3 i < mParts m) ∧ ga m 4 i = gs m 33) ∨ (ga m 2 i = 3 ∧ (0 ≤ ga m 3 i ∧ ga m 3 i < mParts m) ∧ gs m 35 ≠ 0 ∧ ga m 4 i = gs m 35) := by
    have w := g.2.1
    rw [want_W] at w
    have v := v5 i hi
    rcases w with w | w | w | w
    · have r := (mi i hi.1 hi.2.1).1 w.1
      refine Or.inl ⟨w.1, r, ?_⟩
      have o := (o1 (ga m 3 i) r.1 (by omega)).2.1
      rcases w.2 with y | y | ⟨q, q0, q1, q2, _⟩
      · exact y.symm
      · omega
      · exact absurd (rd q q0 q1) q2
    · have := (v.2.1 w.1).1
      omega
    · have r := (mi i hi.1 hi.2.1).2 w.1
      have vv := v.2.2 (Or.inl w.1)
      have r2 : 0 ≤ ga m 3 i ∧ ga m 3 i < mParts m := by unfold mParts; omega
      rcases w.2 with y | y
      · exact Or.inr (Or.inr (Or.inl ⟨w.1, r2, y⟩))
      · exact Or.inr (Or.inr (Or.inr ⟨w.1, r2, by omega, y⟩))
    · exact Or.inr (Or.inl w)
  have code (i : Int) (hi : pg m i) (g : mGood m i) := kinds i hi g
  have key := pigeon (p := mGood m) (f := fun i => if ga m 2 i = 1 then ga m 3 i else if ga m 2 i = 4 then gs m 3 + mParts m else if ga m 4 i = gs m 33 then gs m 3 + ga m 3 i else gs m 3 + mParts m + 1 + ga m 3 i) (n := (mN m).toNat) (gs m 3 + mParts m + 1 + (if gs m 35 = 0 then 0 else n)).toNat (fun i i0 i1 g => by
    have hi := good_pg i0 (by omega) g
    rcases kinds i hi g with ⟨k1, k2, k3⟩ | ⟨k1, k2⟩ | ⟨k1, k2, k3⟩ | ⟨k1, k2, k3, k4⟩
    · simp only [k1, if_true]
      split <;> omega
    · simp only [k1]
      simp
      split <;> omega
    · simp only [k1, k3]
      simp
      split <;> omega
    · have lt := u.2.2 k3 i hi k1 k4
      have ne : ga m 4 i ≠ gs m 33 := by omega
      simp only [k1, ne]
      simp
      rw [if_neg k3]
      omega) (fun i j i0 i1 j0 j1 gi gj e => by
    have hi := good_pg i0 (by omega) gi
    have hj := good_pg j0 (by omega) gj
    refine same i j hi hj gi gj ?_
    rcases kinds i hi gi with ⟨k1, k2, k3⟩ | ⟨k1, k2⟩ | ⟨k1, k2, k3⟩ | ⟨k1, k2, k3, k4⟩ <;> rcases kinds j hj gj with ⟨l1, l2, l3⟩ | ⟨l1, l2⟩ | ⟨l1, l2, l3⟩ | ⟨l1, l2, l3, l4⟩
    · simp [k1, l1] at e
      rw [k3, l3, e]
    · simp [k1, l1] at e
      omega
    · simp [k1, l1, l3] at e
      omega
    · have ne : ga m 4 j ≠ gs m 33 := by omega
      simp [k1, l1, ne] at e
      omega
    · simp [k1, l1] at e
      omega
    · exact u.2.1 i j hi hj k1 l1 (by omega)
    · simp [k1, l1, l3] at e
      omega
    · have ne : ga m 4 j ≠ gs m 33 := by omega
      simp [k1, l1, ne] at e
      omega
    · simp [k1, k3, l1] at e
      omega
    · simp [k1, k3, l1] at e
      omega
    · simp [k1, k3, l1, l3] at e
      exact u.1 i j hi hj k1 l1 (by omega) (by omega)
    · have ne : ga m 4 j ≠ gs m 33 := by omega
      simp [k1, k3, l1, ne] at e
      omega
    · have ne : ga m 4 i ≠ gs m 33 := by omega
      simp [k1, l1, ne] at e
      omega
    · have ne : ga m 4 i ≠ gs m 33 := by omega
      simp [k1, l1, ne] at e
      omega
    · have ne : ga m 4 i ≠ gs m 33 := by omega
      simp [k1, l1, l3, ne] at e
      omega
    · have ne : ga m 4 i ≠ gs m 33 := by omega
      have ne2 : ga m 4 j ≠ gs m 33 := by omega
      simp [k1, l1, ne, ne2] at e
      exact u.1 i j hi hj k1 l1 (by omega) (by omega))
  have : 0 ≤ (if gs m 35 = 0 then 0 else n) := by split <;> omega
  omega

