/-! what is valid: the two sides agree -/
/-- both devices with power, their tables full; n parts of a checkpoint stand; T bounds the numbers -/
def FO (m x : zH) (T n : Int) : Prop := SIM m x ∧ Dv m T ∧ Nf m (ga x 17) ∧ On m (ga x 17) n ∧ gs m 26 = 1 ∧ 1 ≤ gs m 2
theorem sg_F {m x : zH} {T n : Int} (f : FO m x T n) {a b : Nat} (h : (a, b) ∈ prs) : gs x b = gs m a := f.1.1 (a, b) h
theorem keeps_w {m x : zH} {T n : Int} (f : FO m x T n) {p v : Int} (p0 : 0 ≤ p) (p1 : p < gs m 3) (v0 : 1 ≤ v) : xKeeps x p v ↔ v = ga m 10 p ∨ 0 < ga m 11 p ∧ v = ga m 12 p ∨ mReadBy m p v := by
  obtain ⟨⟨s1, s2, s3, s4, s5, s6, s7, s8⟩, dv, nf, on, o, _⟩ := f
  have L := s3.1.2.2.2.2.2
  obtain ⟨t1, t2, t3⟩ := s6 p p0 (by omega)
  have o1 := on.1 p p0 (by omega)
  unfold xKeeps xHas mReadBy
  rw [t1, t2, sg s1 (a := 3) (b := 104) (by decide)]
  constructor
  · rintro ⟨_, h | h | ⟨r, r0, r1, r2, r3⟩⟩
    · exact Or.inl h.symm
    · exact Or.inr (Or.inl ⟨by omega, h.symm⟩)
    · obtain ⟨q1, q2⟩ := s7 r r0 r1
      have q := q1.mp r2
      refine Or.inr (Or.inr ⟨r, r0, r1, q, ?_⟩)
      rw [← q2 q p p0 (by omega)]
      exact r3
  · rintro (h | h | ⟨r, r0, r1, r2, r3⟩)
    · exact ⟨⟨p0, p1⟩, Or.inl h.symm⟩
    · exact ⟨⟨p0, p1⟩, Or.inr (Or.inl h.2.symm)⟩
    · obtain ⟨q1, q2⟩ := s7 r r0 r1
      refine ⟨⟨p0, p1⟩, Or.inr (Or.inr ⟨r, r0, r1, q1.mpr r2, ?_⟩)⟩
      rw [q2 r2 p p0 (by omega)]
      exact r3
theorem want_w {m x : zH} {T n : Int} (f : FO m x T n) {i : Int} (i0 : 0 ≤ i) (i1 : i < mN m) : xWant x i ↔ mWanted m i := by
  have k := @keeps_w m x T n f
  have g50 : gs x 50 = gs m 33 := sg_F f (by decide)
  have g51 : gs x 51 = gs m 34 := sg_F f (by decide)
  have g52 : gs x 52 = gs m 35 := sg_F f (by decide)
  obtain ⟨⟨s1, s2, s3, s4, s5, s6, s7, s8⟩, dv, nf, on, o, _⟩ := f
  obtain ⟨p1, p2, p3, p4, p5, p6⟩ := s4 i i0 i1
  have mi := s3.2.1 i i0 i1
  unfold xWant mWanted mWantedData
  rw [g50, g51, g52, p1.1]
  by_cases h : mProgd m i
  · obtain ⟨q1, q2, q3, q4⟩ := p2 h
    have v1 := dv.1 i ⟨i0, i1, h⟩
    rw [q1, q2, q3]
    by_cases e : ga m 2 i = 1
    · have kk := k (mi.1 e).1 (mi.1 e).2 v1.1
      rw [kk]
    · constructor
      · rintro (z | z)
        · exact absurd z.1 e
        · exact Or.inr z
      · rintro (z | z)
        · exact absurd z.1 e
        · exact Or.inr z
  · unfold mProgd at h
    constructor <;> intro z <;> omega
theorem live_g {m x : zH} {T n : Int} (f : FO m x T n) {i : Int} (i0 : 0 ≤ i) (i1 : i < mN m) : xLive x i ↔ mGood m i := by
  have w := want_w f i0 i1
  have e := S72 f.1.1 f.1.2.1
  obtain ⟨sim, dv, nf, on, o, _⟩ := f
  have pw : mWanted m i → pg m i := fun h => ⟨i0, i1, by
    unfold mProgd
    unfold mWanted at h
    omega⟩
  unfold xLive mGood xPl
  rw [e, w]
  constructor
  · rintro ⟨⟨_, c⟩, h⟩
    exact ⟨by omega, h, nf.1 i (pw h) c⟩
  · rintro ⟨_, h, h2⟩
    refine ⟨⟨⟨i0, i1⟩, ?_⟩, h⟩
    rcases nf.2 i (pw h) with c | c
    · exact c
    · exact absurd h (on.2.2.2.1 i (pw h) c h2)
theorem lin_v {m x : zH} {T n : Int} (f : FO m x T n) {b : Int} (b0 : 0 ≤ b) (b1 : b < gs m 1) : xLin x b = mValidIn m b := by
  unfold xLin mValidIn
  rw [sg_F f (a := 2) (b := 71) (by decide), Int.mul_comm b]
  exact cnt_c (fun i h1 h2 => by
    have r := blk_N f.1.2.2.1.1 b0 b1 h1 (by have := f.1.2.2.1.1.2.2.1; omega)
    exact live_g f r.1 r.2)
theorem cnt_zero {p : Int → Prop} {a : Int} : ∀ {n : Nat}, (∀ i, a ≤ i → i < a + n → ¬ p i) → cnt p a n = 0
  | 0, _ => rfl
  | n + 1, h => by
    rw [cnt, cnt_zero (n := n) (fun i h1 h2 => h i h1 (by omega)), b2i_f (h (a + n) (by omega) (by omega))]
    rfl
theorem cnt_add {p : Int → Prop} {a : Int} (u : Nat) : ∀ n : Nat, cnt p a (u + n) = cnt p a u + cnt p (a + u) n
  | 0 => by simp [cnt]
  | n + 1 => by
    rw [show u + (n + 1) = (u + n) + 1 by omega, cnt, cnt_add u n, cnt, show a + ((u + n : Nat) : Int) = a + u + n by omega]
    omega
theorem lu_v {m x : zH} {T n : Int} (f : FO m x T n) {b : Int} (b0 : 0 ≤ b) (b1 : b < gs m 1) : xLu x b = mValidIn m b := by
  rw [← lin_v f b0 b1]
  obtain ⟨u1, u2, u3⟩ := f.1.2.2.1.2.2.2.2 b b0 b1
  have e71 := sg_F f (a := 2) (b := 71) (by decide)
  unfold xLu xLin
  have e : (gs x 71).toNat = (ga x 18 b).toNat + (gs m 2 - ga x 18 b).toNat := by rw [e71]; omega
  rw [e, cnt_add, cnt_zero (a := b * gs x 71 + ((ga x 18 b).toNat : Nat)) (fun i h1 h2 h3 => ?_)]
  · omega
  · rw [e71, Int.mul_comm b] at h1 h2
    have r := blk_N f.1.2.2.1.1 b0 b1 (i := i) (by omega) (by omega)
    have g := (live_g f r.1 r.2).mp h3
    have k := (u3 (i - gs m 2 * b) (by omega) (by omega)).mpr (by omega)
    rw [show gs m 2 * b + (i - gs m 2 * b) = i by omega] at k
    have w := g.2.1
    unfold mWanted at w
    omega
theorem tot_v {m x : zH} {T n : Int} (f : FO m x T n) : xTot x = mValidAll m := by
  unfold xTot mValidAll
  rw [sg_F f (a := 1) (b := 70) (by decide)]
  exact zsum_c (fun b b0 b1 => lu_v f (by omega) (by have := f.1.2.2.1.1.1; omega))
theorem room_v {m x : zH} {T n : Int} (f : FO m x T n) (k : Int) : xRoomFor x k ↔ mRoomFor m k := by
  unfold xRoomFor mRoomFor
  rw [tot_v f, sg_F f (a := 1) (b := 70) (by decide), sg_F f (a := 2) (b := 71) (by decide)]
theorem free_v {m x : zH} (s : SIM m x) (p1 : 1 ≤ gs m 2) {b : Int} (b0 : 0 ≤ b) (b1 : b < gs m 1) : xFree x (gs m 32) b ↔ mIsFree m b := by
  have e := free_u s.2.2.1 b0 b1
  have u := s.2.2.1.2.2.2.2 b b0 b1
  unfold xFree mIsFree
  rw [e]
  omega
theorem freeMany_v {m x : zH} (s : SIM m x) (p1 : 1 ≤ gs m 2) : xFreeMany x (gs m 32) = mFreeMany m := by
  unfold xFreeMany mFreeMany
  rw [sg s.1 (a := 1) (b := 70) (by decide)]
  exact cnt_c (fun b b0 b1 => free_v s p1 b0 (by have := s.2.2.1.1.1; omega))
theorem mFB_lt (h : zH) : ∀ n : Nat, -1 ≤ mFB h n ∧ mFB h n < n
  | 0 => by simp [mFB]
  | n + 1 => by
    have q := mFB_lt h n
    rw [mFB]
    rcases Classical.em (mIsFree h n ∧ (mFB h n = -1 ∨ ga h 9 n < ga h 9 (mFB h n))) with c | c
    · rw [ifp_t c]; omega
    · rw [ifp_f c]; omega
theorem mFB_free (h : zH) : ∀ n : Nat, mFB h n ≠ -1 → mIsFree h (mFB h n)
  | 0 => fun c => absurd rfl c
  | n + 1 => by
    rw [mFB]
    rcases Classical.em (mIsFree h n ∧ (mFB h n = -1 ∨ ga h 9 n < ga h 9 (mFB h n))) with c | c
    · rw [ifp_t c]
      exact fun _ => c.1
    · rw [ifp_f c]
      exact mFB_free h n
theorem fb_v {m x : zH} (s : SIM m x) (p1 : 1 ≤ gs m 2) : ∀ k : Nat, (k : Int) ≤ gs m 1 → xFB x (gs m 32) k = mFB m k
  | 0, _ => rfl
  | k + 1, h => by
    have ih := fb_v s p1 k (by omega)
    have r := mFB_lt m k
    rw [xFB, mFB, ih]
    have e1 := s.2.2.2.2.1 k (by omega) (by omega)
    have fv := free_v s p1 (b := k) (by omega) (by omega)
    have cc : (xFree x (gs m 32) k ∧ (mFB m k < 0 ∨ ga x 19 k < ga x 19 (mFB m k))) ↔ (mIsFree m k ∧ (mFB m k = -1 ∨ ga m 9 k < ga m 9 (mFB m k))) := by
      rw [fv, e1]
      by_cases z : mFB m k = -1
      · rw [z]
        constructor
        · exact fun y => ⟨y.1, Or.inl rfl⟩
        · exact fun y => ⟨y.1, Or.inl (by decide)⟩
      · rw [s.2.2.2.2.1 (mFB m k) (by omega) (by omega)]
        constructor
        · exact fun y => ⟨y.1, Or.inr (by omega)⟩
        · exact fun y => ⟨y.1, Or.inr (by omega)⟩
    by_cases z : mIsFree m k ∧ (mFB m k = -1 ∨ ga m 9 k < ga m 9 (mFB m k))
    · rw [ifp_t z, ifp_t (cc.mpr z)]
    · rw [ifp_f z, ifp_f (fun y => z (cc.mp y))]
theorem fblk_v {m x : zH} (s : SIM m x) (p1 : 1 ≤ gs m 2) : xFblk x (gs m 32) = m_fblk m := by
  unfold xFblk m_fblk
  rw [sg s.1 (a := 1) (b := 70) (by decide)]
  exact fb_v s p1 _ (by have := s.2.2.1.1.1; omega)
theorem fp_v {m x : zH} (s : SIM m x) (a0 : 0 ≤ gs m 32) : xFP x (gs m 32) = mFreeIn m (gs m 32) ∧ mFreeIn m (gs m 32) = gs m 2 - ga x 18 (gs m 32) := by
  have q := s.2.2.1.2.2.1.2
  refine ⟨?_, free_u s.2.2.1 a0 q⟩
  rw [free_u s.2.2.1 a0 q]
  unfold xFP xBlk
  rw [sg s.1 (a := 1) (b := 70) (by decide), sg s.1 (a := 2) (b := 71) (by decide), ifp_t ⟨a0, q⟩]

