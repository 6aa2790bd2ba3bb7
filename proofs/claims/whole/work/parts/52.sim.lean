/-! the two devices: how their states belong together -/
def mN (m : zH) : Int := gs m 1 * gs m 2
def prs : List (Nat × Nat) := [(1, 70), (2, 71), (3, 104), (4, 47), (19, 73), (20, 74), (21, 75), (22, 76), (23, 53), (24, 54), (25, 77), (26, 45), (32, 46), (33, 50), (34, 51), (35, 52), (36, 48), (38, 81), (39, 49)]
/-- the numbers are the same -/
def Sn (m x : zH) : Prop := ∀ q ∈ prs, gs x q.2 = gs m q.1
theorem prs_inj : ∀ q ∈ prs, ∀ r ∈ prs, (q.1 = r.1 ↔ q.2 = r.2) := by decide
theorem Sn_ps {m x : zH} (s : Sn m x) {a b : Nat} (h : (a, b) ∈ prs) (v : Int) : Sn (ps m a v) (ps x b v) := fun q hq => by
  rw [gs_ps, gs_ps]
  have j := prs_inj q hq (a, b) h
  by_cases c : q.1 = a
  · rw [if_pos c, if_pos (j.mp c)]
  · rw [if_neg c, if_neg (fun z => c (j.mpr z))]
    exact s q hq
theorem Sn_m {m x : zH} (s : Sn m x) {a : Nat} (h : ∀ q ∈ prs, q.1 ≠ a) (v : Int) : Sn (ps m a v) x := fun q hq => by
  rw [gs_ps, if_neg (h q hq)]
  exact s q hq
theorem Sn_x {m x : zH} (s : Sn m x) {b : Nat} (h : ∀ q ∈ prs, q.2 ≠ b) (v : Int) : Sn m (ps x b v) := fun q hq => by
  rw [gs_ps, if_neg (h q hq)]
  exact s q hq
theorem Sn_g {m x m2 x2 : zH} (s : Sn m x) (a : ∀ k, gs m2 k = gs m k) (b : ∀ k, gs x2 k = gs x k) : Sn m2 x2 := fun q hq => by
  rw [a, b]
  exact s q hq
/-- a page is the same on both sides -/
def Sp (m x : zH) (i : Int) : Prop := (ga x 10 i = ga m 2 i ∧ 0 ≤ ga m 2 i ∧ ga m 2 i ≤ 5) ∧ (mProgd m i → ga x 11 i = ga m 3 i ∧ ga x 12 i = ga m 4 i ∧ ga x 13 i = ga m 5 i ∧ ga x 14 i = ga m 6 i) ∧ (¬ mProgd m i → ga x 11 i = -1 ∧ ga x 12 i = -1 ∧ ga x 13 i = -1 ∧ ga x 14 i = -1 ∧ ga x 17 i = 0) ∧ (ga m 2 i = 1 → ga x 15 i = ga m 7 i) ∧ (ga m 2 i ≠ 1 → ga x 15 i = -2) ∧ (ga m 2 i = 3 → ∀ j, 8 * i ≤ j → j < 8 * i + 8 → ga x 16 j = ga m 8 j)
theorem Sp_c {m m2 x x2 : zH} {i : Int} (s : Sp m x i) (a : ∀ c, 2 ≤ c → c ≤ 7 → ga m2 c i = ga m c i) (a8 : ∀ j, 8 * i ≤ j → j < 8 * i + 8 → ga m2 8 j = ga m 8 j) (b : ∀ c, 10 ≤ c → c ≤ 17 → c ≠ 16 → ga x2 c i = ga x c i) (b16 : ∀ j, 8 * i ≤ j → j < 8 * i + 8 → ga x2 16 j = ga x 16 j) : Sp m2 x2 i := by
  obtain ⟨s1, s2, s3, s4, s5, s6⟩ := s
  unfold Sp mProgd
  rw [a 2 (by decide) (by decide), a 3 (by decide) (by decide), a 4 (by decide) (by decide), a 5 (by decide) (by decide), a 6 (by decide) (by decide), a 7 (by decide) (by decide), b 10 (by decide) (by decide) (by decide), b 11 (by decide) (by decide) (by decide), b 12 (by decide) (by decide) (by decide), b 13 (by decide) (by decide) (by decide), b 14 (by decide) (by decide) (by decide), b 15 (by decide) (by decide) (by decide), b 17 (by decide) (by decide) (by decide)]
  exact ⟨s1, s2, s3, s4, s5, fun k j j1 j2 => by rw [b16 j j1 j2, a8 j j1 j2]; exact s6 k j j1 j2⟩
def Sb (m x : zH) : Prop := ∀ b, 0 ≤ b → b < gs m 1 → ga x 19 b = ga m 9 b
def St (m x : zH) : Prop := ∀ p, 0 ≤ p → p < 64 → ga x 21 p = ga m 10 p ∧ ga x 22 p = ga m 12 p ∧ ga x 23 p = ga m 11 p
def Sr (m x : zH) : Prop := ∀ r, 0 ≤ r → r < 4 → (xBit (gs x 106) r ↔ ga m 14 r ≠ 0) ∧ (ga m 14 r ≠ 0 → ∀ p, 0 ≤ p → p < 64 → ga x 24 (r * 64 + p) = ga m 13 (64 * r + p))
def Ss (m x : zH) : Prop := ∀ t, 1 ≤ t → t ≤ gs m 38 → ga x 20 t = ga m 15 t
/-- the devices' states, but for page r -/
def SIMx (m x : zH) (r : Int) : Prop := Sn m x ∧ XS x ∧ MS m (ga x 18) ∧ (∀ i, 0 ≤ i → i < mN m → i ≠ r → Sp m x i) ∧ Sb m x ∧ St m x ∧ Sr m x ∧ Ss m x
def SIM (m x : zH) : Prop := Sn m x ∧ XS x ∧ MS m (ga x 18) ∧ (∀ i, 0 ≤ i → i < mN m → Sp m x i) ∧ Sb m x ∧ St m x ∧ Sr m x ∧ Ss m x
theorem SIMx_fin {m x : zH} {r : Int} (s : SIMx m x r) (h : Sp m x r) : SIM m x := by
  obtain ⟨s1, s2, s3, s4, s5, s6, s7, s8⟩ := s
  exact ⟨s1, s2, s3, fun i i0 i1 => by by_cases q : i = r; rw [q]; exact h; exact s4 i i0 i1 q, s5, s6, s7, s8⟩
theorem SIM_x {m x : zH} (s : SIM m x) (r : Int) : SIMx m x r := ⟨s.1, s.2.1, s.2.2.1, fun i i0 i1 _ => s.2.2.2.1 i i0 i1, s.2.2.2.2⟩
theorem sg {m x : zH} (s : Sn m x) {a b : Nat} (h : (a, b) ∈ prs) : gs x b = gs m a := s (a, b) h
theorem S72 {m x : zH} (s : Sn m x) (xs : XS x) : gs x 72 = mN m := by
  rw [xs.1.2.2, sg s (a := 1) (by decide), sg s (a := 2) (by decide)]
  rfl
theorem mN_r {m : zH} (b : MB m) : 0 ≤ mN m ∧ mN m ≤ 1024 := mb_size b.1 b.2.1 b.2.2.1 b.2.2.2.1
theorem MS_u {m : zH} {u v : Int → Int} (s : MS m u) (e : ∀ b, 0 ≤ b → b < gs m 1 → v b = u b) : MS m v := ⟨s.1, s.2.1, s.2.2.1, s.2.2.2.1, fun b b0 b1 => by rw [e b b0 b1]; exact s.2.2.2.2 b b0 b1⟩
/-- what is free of a block -/
theorem free_u {m : zH} {u : Int → Int} (s : MS m u) {b : Int} (b0 : 0 ≤ b) (b1 : b < gs m 1) : mFreeIn m b = gs m 2 - u b := by
  obtain ⟨u1, u2, u3⟩ := s.2.2.2.2 b b0 b1
  have key : ∀ n : Nat, (n : Int) ≤ gs m 2 → cnt (fun i => ga m 2 i = 0) (gs m 2 * b) n = ifp ((n : Int) ≤ u b) 0 ((n : Int) - u b) := by
    intro n
    induction n with
    | zero => intro _; rw [cnt, ifp_t (by omega)]
    | succ n ih =>
      intro hn
      rw [cnt, ih (by omega)]
      have q := u3 (n : Int) (by omega) (by omega)
      by_cases c : (n : Int) + 1 ≤ u b
      · rw [ifp_t (by omega), ifp_t (by omega), b2i_f (fun z => by have := q.mp z; omega)]
        rfl
      · rw [ifp_f (p := ((n + 1 : Nat) : Int) ≤ u b) (by omega), b2i_t (q.mpr (by omega))]
        by_cases c2 : (n : Int) ≤ u b
        · rw [ifp_t c2]; omega
        · rw [ifp_f c2]; omega
  have k := key (gs m 2).toNat (by have := s.1.2.2.1; omega)
  have e : mFreeIn m b = cnt (fun i => ga m 2 i = 0) (gs m 2 * b) (gs m 2).toNat := rfl
  have g := s.1.2.2.1
  rw [e, k]
  by_cases c : ((gs m 2).toNat : Int) ≤ u b
  · rw [ifp_t c]; omega
  · rw [ifp_f c]; omega
theorem low_u {m : zH} {u : Int → Int} (s : MS m u) (h1 : 0 ≤ gs m 32) : m_low m = gs m 2 * gs m 32 + u (gs m 32) := by
  unfold m_low
  rw [free_u s h1 s.2.2.1.2]
  omega
theorem ok_eq {m x : zH} (s : Sn m x) (h : 0 ≤ gs m 25) : mOK m ↔ xOK x := by
  unfold mOK xOK
  rw [sg s (a := 25) (b := 77) (by decide)]
  omega
theorem Sn_arm {m x m2 x2 : zH} (s : Sn m x) (a : ∀ k, gs m2 k = gs m k) (b : ∀ k, gs x2 k = gs x k) : Sn (m_oper m2) (x_arm x2) := by
  have e1 : gs x2 77 = gs m2 25 := by rw [a, b]; exact sg s (by decide)
  have s2 := Sn_g s a b
  unfold m_oper x_arm
  by_cases c : gs m2 25 = 0
  · rw [ifp_t c, ifp_t (by rw [e1]; exact c)]
    exact s2
  · rw [ifp_f c, ifp_f (by rw [e1]; exact c), e1]
    exact Sn_ps s2 (by decide) _
/-! a page is programmed -/
theorem ga_mprogOk (h : zH) (r w ix g : Int) (c : Nat) (i : Int) : ga (m_progOk h r w ix g) c i = if c = 6 ∧ i = r then wr (gs h 19 + 1) else if c = 5 ∧ i = r then wr (gs h 19 + 1) else if c = 4 ∧ i = r then g else if c = 3 ∧ i = r then ix else if c = 2 ∧ i = r then w else ga h c i := rfl
theorem ga_xprogOk (h : zH) (r w ix g v : Int) (c : Nat) (i : Int) : ga (x_progOk h r w ix g v) c i = if c = 15 ∧ i = r then v else if c = 14 ∧ i = r then wr (gs h 73 + 1) else if c = 13 ∧ i = r then wr (gs h 73 + 1) else if c = 12 ∧ i = r then g else if c = 11 ∧ i = r then ix else if c = 10 ∧ i = r then w else ga h c i := rfl
theorem prog_ok {m x : zH} (s : SIM m x) (a0 : 0 ≤ gs m 32) (fr : ga x 18 (gs m 32) < gs m 2) (ok : mOK m) {w ix g : Int} (v : Int) (hw : w ≠ 0) (hd : w = 1 → 0 ≤ ix ∧ ix < gs m 3) (hm : w = 3 → 0 ≤ ix ∧ 8 * ix < gs m 3) :
    m_prog m (m_low m) w ix g = m_progOk (m_oper m) (m_low m) w ix g ∧ x_prog x (gs x 46) w ix g v = (x_progOk (x_arm (pa x 18 (gs m 32) (ga x 18 (gs m 32) + 1))) (m_low m) w ix g v, m_low m) ∧ (0 ≤ m_low m ∧ m_low m < mN m) ∧ ga m 2 (m_low m) = 0 ∧ SIMx (m_prog m (m_low m) w ix g) (x_prog x (gs x 46) w ix g v).1 (m_low m) := by
  obtain ⟨s1, s2, s3, s4, s5, s6, s7, s8⟩ := s
  have e46 : gs x 46 = gs m 32 := sg s1 (by decide)
  have e71 : gs x 71 = gs m 2 := sg s1 (by decide)
  have e70 : gs x 70 = gs m 1 := sg s1 (by decide)
  have act := s3.2.2.1
  obtain ⟨u1, u2, u3⟩ := s3.2.2.2.2 (gs m 32) a0 act.2
  have q := mb_blk a0 act.2 s3.1.2.1 s3.1.2.2.1 s3.1.2.2.2.1
  have low := low_u s3 a0
  have lr : 0 ≤ m_low m ∧ m_low m < mN m := by
    have e : mN m = gs m 2 * gs m 1 := Int.mul_comm _ _
    omega
  have free : ga m 2 (m_low m) = 0 := by
    rw [low]
    exact (u3 _ u1 fr).mpr (Int.le_refl _)
  have em : m_prog m (m_low m) w ix g = m_progOk (m_oper m) (m_low m) w ix g := ifp_t ok
  have el : gs m 32 * gs m 2 + ga x 18 (gs m 32) = m_low m := by rw [low, Int.mul_comm (gs m 32)]
  have ex : x_prog x (gs x 46) w ix g v = (x_progOk (x_arm (pa x 18 (gs m 32) (ga x 18 (gs m 32) + 1))) (m_low m) w ix g v, m_low m) := by
    unfold x_prog
    rw [e46, e71, el, ifp_t ⟨⟨a0, by rw [e70]; exact act.2⟩, fr⟩, ifp_t ((ok_eq s1 s3.2.2.2.1.1).mp ok)]
  have k1 : Sn (m_progOk (m_oper m) (m_low m) w ix g) (x_progOk (x_arm (pa x 18 (gs m 32) (ga x 18 (gs m 32) + 1))) (m_low m) w ix g v) := by
    have a1 := Sn_arm (m2 := m) (x2 := pa x 18 (gs m 32) (ga x 18 (gs m 32) + 1)) s1 (fun _ => rfl) (fun _ => rfl)
    have e73 := sg a1 (a := 19) (b := 73) (by decide)
    have e74 := sg a1 (a := 20) (b := 74) (by decide)
    unfold m_progOk x_progOk
    rw [e73, e74]
    exact Sn_g (Sn_ps (Sn_ps a1 (a := 19) (b := 73) (by decide) _) (a := 20) (b := 74) (by decide) _) (fun _ => rfl) (fun _ => rfl)
  have x2 := XS_xprog s2 (gs x 46) w ix g v
  have m3 := MS_prog s3 a0 fr (ix := ix) (g := g) hw hd hm
  have hk (c : Nat) (i : Int) (hc : c ≠ 2 ∧ c ≠ 3 ∧ c ≠ 4 ∧ c ≠ 5 ∧ c ≠ 6) : ga (m_progOk (m_oper m) (m_low m) w ix g) c i = ga m c i := by
    rw [ga_mprogOk, if_neg (by omega), if_neg (by omega), if_neg (by omega), if_neg (by omega), if_neg (by omega), ga_oper]
  have hi (c : Nat) (i : Int) (hc : i ≠ m_low m) : ga (m_progOk (m_oper m) (m_low m) w ix g) c i = ga m c i := by
    rw [ga_mprogOk, if_neg (by omega), if_neg (by omega), if_neg (by omega), if_neg (by omega), if_neg (by omega), ga_oper]
  have xk (c : Nat) (i : Int) (hc : c ≠ 10 ∧ c ≠ 11 ∧ c ≠ 12 ∧ c ≠ 13 ∧ c ≠ 14 ∧ c ≠ 15) : ga (x_progOk (x_arm (pa x 18 (gs m 32) (ga x 18 (gs m 32) + 1))) (m_low m) w ix g v) c i = if c = 18 ∧ i = gs m 32 then ga x 18 (gs m 32) + 1 else ga x c i := by
    rw [ga_xprogOk, if_neg (by omega), if_neg (by omega), if_neg (by omega), if_neg (by omega), if_neg (by omega), if_neg (by omega), ga_xarm, ga_pa]
  have xi (c : Nat) (i : Int) (hc : i ≠ m_low m) (h18 : c ≠ 18) : ga (x_progOk (x_arm (pa x 18 (gs m 32) (ga x 18 (gs m 32) + 1))) (m_low m) w ix g v) c i = ga x c i := by
    rw [ga_xprogOk, if_neg (by omega), if_neg (by omega), if_neg (by omega), if_neg (by omega), if_neg (by omega), if_neg (by omega), ga_xarm, ga_pa, if_neg (fun z => h18 z.1)]
  have g1 (k : Nat) (hk9 : k ≠ 19 ∧ k ≠ 20 ∧ k ≠ 25) : gs (m_progOk (m_oper m) (m_low m) w ix g) k = gs m k := by
    show gs (ps (ps (m_oper m) 19 _) 20 _) k = _
    rw [gs_ps, if_neg (by omega), gs_ps, if_neg (by omega), gs_oper _ _ (by omega)]
  refine ⟨em, ex, lr, free, ?_⟩
  rw [ex] at x2 ⊢
  rw [em] at m3 ⊢
  have eN : mN (m_progOk (m_oper m) (m_low m) w ix g) = mN m := by
    unfold mN
    rw [g1 1 (by decide), g1 2 (by decide)]
  have e106 : gs (x_progOk (x_arm (pa x 18 (gs m 32) (ga x 18 (gs m 32) + 1))) (m_low m) w ix g v) 106 = gs x 106 := by
    simp only [x_progOk, gs_pa, gs_ps]
    rw [if_neg (by decide), if_neg (by decide), gs_xarm _ _ (by decide), gs_pa]
  refine ⟨k1, x2, MS_u m3 (fun b b0 b1 => ?_), fun i i0 i1 ir => ?_, fun b b0 b1 => ?_, fun p p0 p1 => ?_, fun r r0 r1 => ?_, fun t t0 t1 => ?_⟩
  · rw [xk 18 b (by decide)]
    unfold uup
    by_cases c : b = gs m 32
    · rw [if_pos ⟨rfl, c⟩, if_pos c]
    · rw [if_neg (fun z => c z.2), if_neg c]
  · refine Sp_c (s4 i i0 (by rw [← eN]; exact i1)) (fun c _ _ => hi c i ir) (fun j _ _ => hk 8 j (by decide)) (fun c c1 c2 _ => xi c i ir (by omega)) (fun j _ _ => ?_)
    rw [xk 16 j (by decide), if_neg (by omega)]
  · rw [hk 9 b (by decide), xk 19 b (by decide), if_neg (by omega)]
    exact s5 b b0 (by rw [← g1 1 (by decide)]; exact b1)
  · rw [hk 10 p (by decide), hk 12 p (by decide), hk 11 p (by decide), xk 21 p (by decide), if_neg (by omega), xk 22 p (by decide), if_neg (by omega), xk 23 p (by decide), if_neg (by omega)]
    exact s6 p p0 p1
  · rw [hk 14 r (by decide), e106]
    refine ⟨(s7 r r0 r1).1, fun z p p0 p1 => ?_⟩
    rw [hk 13 _ (by decide), xk 24 _ (by decide), if_neg (by omega)]
    exact (s7 r r0 r1).2 z p p0 p1
  · rw [hk 15 t (by decide), xk 20 t (by decide), if_neg (by omega)]
    exact s8 t t0 (by rw [← g1 38 (by decide)]; exact t1)

