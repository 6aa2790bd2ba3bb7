/-! the two devices: losses, torn pages, erasing, copying -/
theorem prs_all {P : Nat × Nat → Prop} (h : P (1, 70) ∧ P (2, 71) ∧ P (3, 104) ∧ P (4, 47) ∧ P (19, 73) ∧ P (20, 74) ∧ P (21, 75) ∧ P (22, 76) ∧ P (23, 53) ∧ P (24, 54) ∧ P (25, 77) ∧ P (26, 45) ∧ P (32, 46) ∧ P (33, 50) ∧ P (34, 51) ∧ P (35, 52) ∧ P (36, 48) ∧ P (38, 81) ∧ P (39, 49)) : ∀ q ∈ prs, P q := by
  obtain ⟨h1, h2, h3, h4, h5, h6, h7, h8, h9, h10, h11, h12, h13, h14, h15, h16, h17, h18, h19⟩ := h
  intro q hq
  simp only [prs, List.mem_cons, List.not_mem_nil, or_false] at hq
  rcases hq with rfl | rfl | rfl | rfl | rfl | rfl | rfl | rfl | rfl | rfl | rfl | rfl | rfl | rfl | rfl | rfl | rfl | rfl | rfl
  · exact h1
  · exact h2
  · exact h3
  · exact h4
  · exact h5
  · exact h6
  · exact h7
  · exact h8
  · exact h9
  · exact h10
  · exact h11
  · exact h12
  · exact h13
  · exact h14
  · exact h15
  · exact h16
  · exact h17
  · exact h18
  · exact h19
theorem ga_xlose (h : zH) (c : Nat) (i : Int) : ga (x_lose h) c i = if (c = 21 ∨ c = 22 ∨ c = 23) ∧ 0 ≤ i ∧ i < 64 then 0 else ga h c i := by
  simp only [x_lose, x_forget, ga_ps, ga_prr]
  by_cases z : (c = 21 ∨ c = 22 ∨ c = 23) ∧ 0 ≤ i ∧ i < 64
  · rw [if_pos z]
    rcases z.1 with e | e | e
    · rw [if_neg (by omega), if_neg (by omega), if_pos ⟨e, z.2⟩]
    · rw [if_neg (by omega), if_pos ⟨e, z.2⟩]
    · rw [if_pos ⟨e, z.2⟩]
  · rw [if_neg z, if_neg (fun y => z ⟨by omega, y.2⟩), if_neg (fun y => z ⟨by omega, y.2⟩), if_neg (fun y => z ⟨by omega, y.2⟩)]
theorem ga_mloses (h : zH) (c : Nat) (i : Int) : ga (m_loses h) c i = if (c = 10 ∨ c = 11 ∨ c = 12) ∧ 0 ≤ i ∧ i < 64 ∨ c = 14 ∧ 0 ≤ i ∧ i < 4 then 0 else ga h c i := by
  simp only [m_loses, m_forgets, ga_ps, ga_prr]
  by_cases z : (c = 10 ∨ c = 11 ∨ c = 12) ∧ 0 ≤ i ∧ i < 64 ∨ c = 14 ∧ 0 ≤ i ∧ i < 4
  · rw [if_pos z]
    by_cases e : c = 14
    · rw [if_pos (by omega)]
    · rw [if_neg (fun y => e y.1)]
      by_cases e2 : c = 12
      · rw [if_pos (by omega)]
      · rw [if_neg (fun y => e2 y.1)]
        by_cases e3 : c = 11
        · rw [if_pos (by omega)]
        · rw [if_neg (fun y => e3 y.1), if_pos (by omega)]
  · rw [if_neg z, if_neg (by omega), if_neg (by omega), if_neg (by omega), if_neg (by omega)]
theorem xBit_0 (r : Int) : ¬ xBit 0 r := by
  unfold xBit
  rw [show (0 : Int) / 2 ^ r.toNat = 0 by simp]
  decide
theorem SIM_lose {m x : zH} (s : SIM m x) : SIM (m_loses m) (x_lose x) := by
  obtain ⟨s1, s2, s3, s4, s5, s6, s7, s8⟩ := s
  refine ⟨prs_all ⟨sg s1 (a := 1) (b := 70) (by decide), sg s1 (a := 2) (b := 71) (by decide), sg s1 (a := 3) (b := 104) (by decide), sg s1 (a := 4) (b := 47) (by decide), sg s1 (a := 19) (b := 73) (by decide), sg s1 (a := 20) (b := 74) (by decide), sg s1 (a := 21) (b := 75) (by decide), sg s1 (a := 22) (b := 76) (by decide), sg s1 (a := 23) (b := 53) (by decide), ?_, sg s1 (a := 25) (b := 77) (by decide), rfl, rfl, rfl, rfl, rfl, rfl, sg s1 (a := 38) (b := 81) (by decide), sg s1 (a := 39) (b := 49) (by decide)⟩, XS_lose s2, MS_u (MS_loses s3) (fun b _ _ => ?_), fun i i0 i1 => ?_, fun b b0 b1 => ?_, fun p p0 p1 => ?_, fun r r0 r1 => ?_, fun t t0 t1 => ?_⟩
  · show wr (gs x 54 + 1) = wr (gs m 24 + 1)
    rw [sg s1 (a := 24) (b := 54) (by decide)]
  · rw [ga_xlose, if_neg (by omega)]
  · refine Sp_c (s4 i i0 i1) (fun c _ _ => ?_) (fun j _ _ => ?_) (fun c _ _ _ => ?_) (fun j _ _ => ?_)
    · rw [ga_mloses, if_neg (by omega)]
    · rw [ga_mloses, if_neg (by omega)]
    · rw [ga_xlose, if_neg (by omega)]
    · rw [ga_xlose, if_neg (by omega)]
  · rw [ga_xlose, if_neg (by omega), ga_mloses, if_neg (by omega)]
    exact s5 b b0 b1
  · rw [ga_xlose, if_pos (by omega), ga_xlose, if_pos (by omega), ga_xlose, if_pos (by omega), ga_mloses, if_pos (by omega), ga_mloses, if_pos (by omega), ga_mloses, if_pos (by omega)]
    exact ⟨rfl, rfl, rfl⟩
  · have e : ga (m_loses m) 14 r = 0 := by rw [ga_mloses, if_pos (by omega)]
    rw [e]
    exact ⟨⟨fun z => absurd z (xBit_0 r), fun z => absurd rfl z⟩, fun z => absurd rfl z⟩
  · rw [ga_xlose, if_neg (by omega), ga_mloses, if_neg (by omega)]
    exact s8 t t0 t1
/-- a torn page where one was to be programmed -/
theorem prog_torn {m x : zH} (s : SIM m x) (a0 : 0 ≤ gs m 32) (fr : ga x 18 (gs m 32) < gs m 2) (no : ¬ mOK m) {w ix g : Int} (v : Int) :
    m_prog m (m_low m) w ix g = m_loses (pa (m_oper m) 2 (m_low m) 5) ∧ (x_prog x (gs x 46) w ix g v).2 = -1 ∧ (0 ≤ m_low m ∧ m_low m < mN m) ∧ ga m 2 (m_low m) = 0 ∧ SIM (pa (m_oper m) 2 (m_low m) 5) (x_prog x (gs x 46) w ix g v).1 ∧ ∀ i, ga (x_prog x (gs x 46) w ix g v).1 17 i = if i = m_low m then 0 else ga x 17 i := by
  obtain ⟨s1, s2, s3, s4, s5, s6, s7, s8⟩ := s
  have e46 : gs x 46 = gs m 32 := sg s1 (by decide)
  have e71 : gs x 71 = gs m 2 := sg s1 (by decide)
  have e70 : gs x 70 = gs m 1 := sg s1 (by decide)
  have act := s3.2.2.1
  obtain ⟨u1, u2, u3⟩ := s3.2.2.2.2 (gs m 32) a0 act.2
  have q := mb_blk a0 act.2 s3.1.2.1 s3.1.2.2.1 s3.1.2.2.2.1
  have low := low_u s3 a0
  have lr : 0 ≤ m_low m ∧ m_low m < mN m := by
    have e : mN m = gs m 2 * gs m 1 := Int.mul_comm _ _
    omega
  have free : ga m 2 (m_low m) = 0 := by
    rw [low]
    exact (u3 _ u1 fr).mpr (Int.le_refl _)
  have el : gs m 32 * gs m 2 + ga x 18 (gs m 32) = m_low m := by rw [low, Int.mul_comm (gs m 32)]
  have em : m_prog m (m_low m) w ix g = m_loses (pa (m_oper m) 2 (m_low m) 5) := ifp_f no
  have ex : x_prog x (gs x 46) w ix g v = (x_clear (x_arm (pa x 18 (gs m 32) (ga x 18 (gs m 32) + 1))) (m_low m) 5, -1) := by
    unfold x_prog
    rw [e46, e71, el, ifp_t ⟨⟨a0, by rw [e70]; exact act.2⟩, fr⟩, ifp_f (fun z => no ((ok_eq s1 s3.2.2.2.1.1).mpr z))]
  have k1 : Sn (pa (m_oper m) 2 (m_low m) 5) (x_clear (x_arm (pa x 18 (gs m 32) (ga x 18 (gs m 32) + 1))) (m_low m) 5) := Sn_g (Sn_arm (m2 := m) (x2 := pa x 18 (gs m 32) (ga x 18 (gs m 32) + 1)) s1 (fun _ => rfl) (fun _ => rfl)) (fun _ => rfl) (fun _ => rfl)
  have x2 := XS_xprog s2 (gs x 46) w ix g v
  have mo := MS_oper s3
  have hg (k : Nat) (hk : k ≠ 25) : gs (pa (m_oper m) 2 (m_low m) 5) k = gs m k := gs_oper m k hk
  have hk (c : Nat) (i : Int) (hc : c ≠ 2 ∨ i ≠ m_low m) : ga (pa (m_oper m) 2 (m_low m) 5) c i = ga m c i := by
    rw [ga_pa, if_neg (by omega), ga_oper]
  have xk (c : Nat) (i : Int) (hc : c ≠ 10 ∧ c ≠ 11 ∧ c ≠ 12 ∧ c ≠ 13 ∧ c ≠ 14 ∧ c ≠ 15 ∧ c ≠ 17 ∨ i ≠ m_low m) : ga (x_clear (x_arm (pa x 18 (gs m 32) (ga x 18 (gs m 32) + 1))) (m_low m) 5) c i = if c = 18 ∧ i = gs m 32 then ga x 18 (gs m 32) + 1 else ga x c i := by
    simp only [x_clear, ga_pa, ga_xarm]
    rw [if_neg (by omega), if_neg (by omega), if_neg (by omega), if_neg (by omega), if_neg (by omega), if_neg (by omega), if_neg (by omega)]
  have e106 : gs (x_clear (x_arm (pa x 18 (gs m 32) (ga x 18 (gs m 32) + 1))) (m_low m) 5) 106 = gs x 106 := by
    simp only [x_clear, gs_pa]
    rw [gs_xarm _ _ (by decide), gs_pa]
  have sf : SF (pa (m_oper m) 2 (m_low m) 5) (uup (ga x 18) (gs m 32) (ga x 18 (gs m 32) + 1)) := SF_put s3 a0 fr (hg 1 (by decide)) (hg 2 (by decide)) (fun i hi => hk 2 i (Or.inr hi)) (by rw [ga_pa, if_pos ⟨rfl, rfl⟩]; decide)
  have m3 : MS (pa (m_oper m) 2 (m_low m) 5) (uup (ga x 18) (gs m 32) (ga x 18 (gs m 32) + 1)) := by
    refine ⟨mo.1, ?_, mo.2.2.1, mo.2.2.2.1, sf⟩
    refine MI_c mo.2.1 rfl rfl rfl (fun i hi => ?_)
    by_cases c : i = m_low m
    · rw [ga_pa, if_pos ⟨rfl, c⟩] at hi
      omega
    · rw [ga_pa, if_neg (fun z => c z.2), ga_pa, if_neg (fun z => c z.2)]
      exact ⟨rfl, rfl⟩
  rw [ex] at x2 ⊢
  have eN : mN (pa (m_oper m) 2 (m_low m) 5) = mN m := by
    unfold mN
    rw [hg 1 (by decide), hg 2 (by decide)]
  refine ⟨em, rfl, lr, free, ⟨k1, x2, MS_u m3 (fun b b0 b1 => ?_), fun i i0 i1 => ?_, fun b b0 b1 => ?_, fun p p0 p1 => ?_, fun r r0 r1 => ?_, fun t t0 t1 => ?_⟩, fun i => ?_⟩
  · rw [xk 18 b (by omega)]
    unfold uup
    by_cases c : b = gs m 32
    · rw [if_pos ⟨rfl, c⟩, if_pos c]
    · rw [if_neg (fun z => c z.2), if_neg c]
  · by_cases c : i = m_low m
    · rw [c]
      have e2 : ga (pa (m_oper m) 2 (m_low m) 5) 2 (m_low m) = 5 := by rw [ga_pa, if_pos ⟨rfl, rfl⟩]
      unfold Sp mProgd
      rw [e2]
      refine ⟨⟨by simp [x_clear, ga_pa], by decide, by decide⟩, fun z => by omega, fun _ => ⟨by simp [x_clear, ga_pa], by simp [x_clear, ga_pa], by simp [x_clear, ga_pa], by simp [x_clear, ga_pa], by simp [x_clear, ga_pa]⟩, fun z => by omega, fun _ => by simp [x_clear, ga_pa], fun z => by omega⟩
    · refine Sp_c (s4 i i0 (by rw [← eN]; exact i1)) (fun d _ _ => hk d i (Or.inr c)) (fun j _ _ => hk 8 j (by omega)) (fun d _ _ _ => ?_) (fun j _ _ => ?_)
      · rw [xk d i (Or.inr c), if_neg (by omega)]
      · rw [xk 16 j (by omega), if_neg (by omega)]
  · rw [hk 9 b (by omega), xk 19 b (by omega), if_neg (by omega)]
    exact s5 b b0 (by rw [← hg 1 (by decide)]; exact b1)
  · rw [hk 10 p (by omega), hk 12 p (by omega), hk 11 p (by omega), xk 21 p (by omega), if_neg (by omega), xk 22 p (by omega), if_neg (by omega), xk 23 p (by omega), if_neg (by omega)]
    exact s6 p p0 p1
  · rw [hk 14 r (by omega), e106]
    refine ⟨(s7 r r0 r1).1, fun z p p0 p1 => ?_⟩
    rw [hk 13 _ (by omega), xk 24 _ (by omega), if_neg (by omega)]
    exact (s7 r r0 r1).2 z p p0 p1
  · rw [hk 15 t (by omega), xk 20 t (by omega), if_neg (by omega)]
    exact s8 t t0 (by rw [← hg 38 (by decide)]; exact t1)
  · show ga (x_clear _ _ _) 17 i = _
    by_cases c : i = m_low m
    · simp [x_clear, ga_pa, ga_xarm, c]
    · simp [x_clear, ga_pa, ga_xarm, c]
/-- a block is erased, or torn -/
noncomputable def m_er1 (m : zH) (b : Int) : zH := ifp (mOK m) (m_erase m b) (prr (m_oper m) 2 (gs m 2 * b) (gs m 2 * b + gs m 2) 5)
theorem ga_xclrR (h : zH) (a b k : Int) (c : Nat) (i : Int) : ga (x_clrR h a b k) c i = if c = 17 ∧ a ≤ i ∧ i < b then 0 else if c = 15 ∧ a ≤ i ∧ i < b then -2 else if c = 14 ∧ a ≤ i ∧ i < b then -1 else if c = 13 ∧ a ≤ i ∧ i < b then -1 else if c = 12 ∧ a ≤ i ∧ i < b then -1 else if c = 11 ∧ a ≤ i ∧ i < b then -1 else if c = 10 ∧ a ≤ i ∧ i < b then k else ga h c i := rfl
theorem er1_ga {m : zH} {b : Int} (c : Nat) (i : Int) : ga (m_er1 m b) c i = if c = 2 ∧ gs m 2 * b ≤ i ∧ i < gs m 2 * b + gs m 2 then ifp (mOK m) 0 5 else if c = 9 ∧ i = b then ifp (mOK m) (wr (ga m 9 b + 1)) (ga m 9 b) else ga m c i := by
  unfold m_er1 m_erase
  rcases Classical.em (mOK m) with o | o
  · rw [ifp_t o, ifp_t o, ifp_t o, ifp_t o, ga_ps, ga_pa, ga_prr, ga_oper]
    by_cases z : c = 9 ∧ i = b
    · rw [if_pos z, if_neg (by omega), if_pos z]
    · rw [if_neg z, if_neg z]
  · rw [ifp_f o, ifp_f o, ifp_f o, ga_prr, ga_oper]
    by_cases y : c = 2 ∧ gs m 2 * b ≤ i ∧ i < gs m 2 * b + gs m 2
    · rw [if_pos y, if_pos y]
    · rw [if_neg y, if_neg y]
      by_cases z : c = 9 ∧ i = b
      · rw [if_pos z, z.1, z.2]
      · rw [if_neg z]
theorem er1_gs {m : zH} {b : Int} (k : Nat) (hk : k ≠ 21 ∧ k ≠ 25) : gs (m_er1 m b) k = gs m k := by
  unfold m_er1 m_erase
  rcases Classical.em (mOK m) with o | o
  · rw [ifp_t o, ifp_t o, gs_ps, if_neg hk.1]
    exact gs_oper m k hk.2
  · rw [ifp_f o]
    exact gs_oper m k hk.2
theorem xer_ga {x : zH} {b : Int} (h : xBlk x b) (c : Nat) (i : Int) : ga (x_erase x b) c i = if c = 18 ∧ i = b then ifp (xOK x) 0 (gs x 71) else if c = 19 ∧ i = b then ifp (xOK x) (wr (ga x 19 b + 1)) (ga x 19 b) else ga (x_clrR x (b * gs x 71) (b * gs x 71 + gs x 71) (ifp (xOK x) 0 5)) c i := by
  unfold x_erase x_erase0
  rw [ifp_t h]
  rcases Classical.em (xOK x) with o | o
  · rw [ifp_t o, ifp_t o, ifp_t o, ifp_t o, ga_ps, ga_pa, ga_pa, ga_xclrR, ga_xclrR, ga_xarm]
    by_cases z : c = 19 ∧ i = b
    · rw [if_pos z, if_neg (by omega), if_pos z]
    · rw [if_neg z, if_neg z]
  · rw [ifp_f o, ifp_f o, ifp_f o, ifp_f o, ga_pa, ga_xclrR, ga_xclrR, ga_xarm]
    by_cases y : c = 18 ∧ i = b
    · rw [if_pos y, if_pos y]
    · rw [if_neg y, if_neg y]
      by_cases z : c = 19 ∧ i = b
      · rw [if_pos z, z.1, z.2, if_neg (by omega), if_neg (by omega), if_neg (by omega), if_neg (by omega), if_neg (by omega), if_neg (by omega), if_neg (by omega)]
      · rw [if_neg z]
/-- places of a block, and others -/
theorem blk_N {m : zH} (b : MB m) {c i : Int} (c0 : 0 ≤ c) (c1 : c < gs m 1) (h1 : gs m 2 * c ≤ i) (h2 : i < gs m 2 * c + gs m 2) : 0 ≤ i ∧ i < mN m := by
  have q := mb_blk c0 c1 b.2.1 b.2.2.1 b.2.2.2.1
  have e : mN m = gs m 2 * gs m 1 := Int.mul_comm _ _
  omega
theorem SIM_erase {m x : zH} (s : SIM m x) {b : Int} (b0 : 0 ≤ b) (b1 : b < gs m 1) : SIM (m_er1 m b) (x_erase x b) := by
  obtain ⟨s1, s2, s3, s4, s5, s6, s7, s8⟩ := s
  have e71 : gs x 71 = gs m 2 := sg s1 (by decide)
  have e70 : gs x 70 = gs m 1 := sg s1 (by decide)
  have hx : xBlk x b := ⟨b0, by rw [e70]; exact b1⟩
  have okk := ok_eq s1 s3.2.2.2.1.1
  have eok : ifp (xOK x) (0 : Int) 5 = ifp (mOK m) 0 5 := by rw [propext okk]
  have x2 := XS_xerase s2 b
  have k1 : Sn (m_er1 m b) (x_erase x b) := by
    unfold m_er1 m_erase x_erase x_erase0
    rw [ifp_t hx]
    have a1 (z : zH) (hz : ∀ k, gs z k = gs x k) := Sn_arm (m2 := m) (x2 := x) s1 (fun _ => rfl) (fun _ => rfl)
    have a2 := a1 x (fun _ => rfl)
    rcases Classical.em (mOK m) with o | o
    · rw [ifp_t o, ifp_t o, ifp_t (okk.mp o), sg s1 (a := 21) (b := 75) (by decide)]
      exact Sn_ps (Sn_g a2 (fun _ => rfl) (fun _ => rfl)) (by decide) _
    · rw [ifp_f o, ifp_f (fun z => o (okk.mpr z))]
      exact Sn_g a2 (fun _ => rfl) (fun _ => rfl)
  have m3 : MS (m_er1 m b) (uup (ga x 18) b (ifp (mOK m) 0 (gs m 2))) := by
    rcases Classical.em (mOK m) with o | o
    · have e : m_er1 m b = m_erase m b := ifp_t o
      rw [e]
      exact MS_erase s3 b0 b1
    · have e : m_er1 m b = prr (m_oper m) 2 (gs m 2 * b) (gs m 2 * b + gs m 2) 5 := ifp_f o
      have t := MS_erase s3 b0 b1
      have e2 : m_erase m b = m_loses (m_er1 m b) := by rw [e]; exact ifp_f o
      rw [e2] at t
      have mo := MS_oper s3
      refine ⟨by rw [e]; exact mo.1, ?_, by rw [e]; exact mo.2.2.1, by rw [e]; exact mo.2.2.2.1, ?_⟩
      · refine MI_c t.2.1 ?_ ?_ ?_ (fun i _ => ?_)
        · rw [e]; rfl
        · rw [e]; rfl
        · rw [e]; rfl
        · rw [ga_mloses, if_neg (by omega), ga_mloses, if_neg (by omega)]
          exact ⟨rfl, rfl⟩
      · refine SF_c t.2.2.2.2 ?_ ?_ (fun i => ?_)
        · rw [e]; rfl
        · rw [e]; rfl
        · rw [ga_mloses, if_neg (by omega)]
  have eN : mN (m_er1 m b) = mN m := by
    unfold mN
    rw [er1_gs 1 (by decide), er1_gs 2 (by decide)]
  have hmul : b * gs m 2 = gs m 2 * b := Int.mul_comm _ _
  have e106 : gs (x_erase x b) 106 = gs x 106 := gs_xerase x b 106 (by decide)
  refine ⟨k1, x2, MS_u m3 (fun c c0 c1 => ?_), fun i i0 i1 => ?_, fun c c0 c1 => ?_, fun p p0 p1 => ?_, fun r r0 r1 => ?_, fun t t0 t1 => ?_⟩
  · rw [xer_ga hx, e71]
    unfold uup
    by_cases z : c = b
    · rw [if_pos ⟨rfl, z⟩, if_pos z, propext okk]
    · rw [if_neg (fun y => z y.2), if_neg z, if_neg (by omega), ga_xclrR, if_neg (by omega), if_neg (by omega), if_neg (by omega), if_neg (by omega), if_neg (by omega), if_neg (by omega), if_neg (by omega)]
  · by_cases z : gs m 2 * b ≤ i ∧ i < gs m 2 * b + gs m 2
    · have e2 : ga (m_er1 m b) 2 i = ifp (mOK m) 0 5 := by rw [er1_ga, if_pos ⟨rfl, z⟩]
      have e05 : ifp (mOK m) (0 : Int) 5 = 0 ∨ ifp (mOK m) (0 : Int) 5 = 5 := by
        rcases Classical.em (mOK m) with o | o
        · rw [ifp_t o]; exact Or.inl rfl
        · rw [ifp_f o]; exact Or.inr rfl
      have z2 : b * gs x 71 ≤ i ∧ i < b * gs x 71 + gs x 71 := by rw [e71, hmul]; exact z
      have xc (c : Nat) (hc : c ≠ 18 ∧ c ≠ 19) : ga (x_erase x b) c i = ga (x_clrR x (b * gs x 71) (b * gs x 71 + gs x 71) (ifp (xOK x) 0 5)) c i := by
        rw [xer_ga hx, if_neg (by omega), if_neg (by omega)]
      unfold Sp mProgd
      rw [e2, xc 10 (by decide), xc 11 (by decide), xc 12 (by decide), xc 13 (by decide), xc 14 (by decide), xc 15 (by decide), xc 17 (by decide), eok]
      simp only [ga_xclrR]
      refine ⟨⟨by simp [z2], by omega, by omega⟩, fun y => by omega, fun _ => ⟨by simp [z2], by simp [z2], by simp [z2], by simp [z2], by simp [z2]⟩, fun y => by omega, fun _ => by simp [z2], fun y => by omega⟩
    · have z2 : ¬ (b * gs x 71 ≤ i ∧ i < b * gs x 71 + gs x 71) := by rw [e71, hmul]; exact z
      refine Sp_c (s4 i i0 (by rw [← eN]; exact i1)) (fun d d1 d2 => ?_) (fun j _ _ => ?_) (fun d d1 d2 _ => ?_) (fun j _ _ => ?_)
      · rw [er1_ga, if_neg (fun y => z y.2), if_neg (by omega)]
      · rw [er1_ga, if_neg (by omega), if_neg (by omega)]
      · rw [xer_ga hx, if_neg (by omega), if_neg (by omega), ga_xclrR, if_neg (fun y => z2 y.2), if_neg (fun y => z2 y.2), if_neg (fun y => z2 y.2), if_neg (fun y => z2 y.2), if_neg (fun y => z2 y.2), if_neg (fun y => z2 y.2), if_neg (fun y => z2 y.2)]
      · rw [xer_ga hx, if_neg (by omega), if_neg (by omega), ga_xclrR, if_neg (by omega), if_neg (by omega), if_neg (by omega), if_neg (by omega), if_neg (by omega), if_neg (by omega), if_neg (by omega)]
  · rw [er1_gs 1 (by decide)] at c1
    have q := s5 c c0 c1
    rw [er1_ga, if_neg (by omega), xer_ga hx, if_neg (by omega)]
    by_cases z : c = b
    · rw [if_pos ⟨rfl, z⟩, if_pos ⟨rfl, z⟩, ← z, q, propext okk]
    · rw [if_neg (fun y => z y.2), if_neg (fun y => z y.2), ga_xclrR, if_neg (by omega), if_neg (by omega), if_neg (by omega), if_neg (by omega), if_neg (by omega), if_neg (by omega), if_neg (by omega)]
      exact q
  · have xo (c : Nat) (hc : 20 ≤ c) : ga (x_erase x b) c p = ga x c p := by
      rw [xer_ga hx, if_neg (by omega), if_neg (by omega), ga_xclrR, if_neg (by omega), if_neg (by omega), if_neg (by omega), if_neg (by omega), if_neg (by omega), if_neg (by omega), if_neg (by omega)]
    have mo (c : Nat) (hc : 10 ≤ c) : ga (m_er1 m b) c p = ga m c p := by
      rw [er1_ga, if_neg (by omega), if_neg (by omega)]
    rw [xo 21 (by decide), xo 22 (by decide), xo 23 (by decide), mo 10 (by decide), mo 12 (by decide), mo 11 (by decide)]
    exact s6 p p0 p1
  · rw [e106, er1_ga, if_neg (by omega), if_neg (by omega)]
    refine ⟨(s7 r r0 r1).1, fun y p p0 p1 => ?_⟩
    rw [er1_ga, if_neg (by omega), if_neg (by omega), xer_ga hx, if_neg (by omega), if_neg (by omega), ga_xclrR, if_neg (by omega), if_neg (by omega), if_neg (by omega), if_neg (by omega), if_neg (by omega), if_neg (by omega), if_neg (by omega)]
    exact (s7 r r0 r1).2 y p p0 p1
  · rw [er1_gs 38 (by decide)] at t1
    rw [er1_ga, if_neg (by omega), if_neg (by omega), xer_ga hx, if_neg (by omega), if_neg (by omega), ga_xclrR, if_neg (by omega), if_neg (by omega), if_neg (by omega), if_neg (by omega), if_neg (by omega), if_neg (by omega), if_neg (by omega)]
    exact s8 t t0 t1

