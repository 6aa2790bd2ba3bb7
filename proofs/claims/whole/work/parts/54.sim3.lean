/-! the two devices: a page is copied -/
theorem ga_copyOk (h : zH) (p f : Int) (c : Nat) (i : Int) : ga (m_copyOk h p f) c i = if c = 8 ∧ 8 * p ≤ i ∧ i < 8 * p + 8 then ga h 8 (8 * f + (i - 8 * p)) else if c = 7 ∧ i = p then ga h 7 f else if c = 5 ∧ i = p then ga h 5 f else ga h c i := by
  show (if c = 8 ∧ 8 * p ≤ i ∧ i < 8 * p + 8 then ga (pa (pa h 5 p (ga h 5 f)) 7 p (ga h 7 f)) 8 (8 * f + (i - 8 * p)) else ga (pa (pa h 5 p (ga h 5 f)) 7 p (ga h 7 f)) c i) = _
  simp only [ga_pa]
  by_cases z : c = 8 ∧ 8 * p ≤ i ∧ i < 8 * p + 8
  · rw [if_pos z, if_pos z, if_neg (by omega), if_neg (by omega)]
  · rw [if_neg z, if_neg z]
theorem gs_copyOk (h : zH) (p f : Int) (k : Nat) (hk : k ≠ 22) : gs (m_copyOk h p f) k = gs h k := by
  show gs (ps _ 22 _) k = _
  rw [gs_ps, if_neg hk]
  rfl
theorem ga_mkc (h : zH) (p f : Int) (c : Nat) (i : Int) : ga (x_mkc h p f) c i = if c = 17 ∧ i = f then 1 else if c = 16 ∧ 8 * p ≤ i ∧ i < 8 * p + 8 then ga h 16 (8 * f + (i - 8 * p)) else if c = 13 ∧ i = p then ga h 13 f else ga h c i := by
  show ga (ps (pa _ 17 f 1) 76 _) c i = _
  rw [ga_ps, ga_pa]
  by_cases y : c = 17 ∧ i = f
  · rw [if_pos y, if_pos y]
  · rw [if_neg y, if_neg y]
    show (if c = 16 ∧ 8 * p ≤ i ∧ i < 8 * p + 8 then ga (pa h 13 p (ga h 13 f)) 16 (8 * f + (i - 8 * p)) else ga (pa h 13 p (ga h 13 f)) c i) = _
    simp only [ga_pa]
    by_cases z : c = 16 ∧ 8 * p ≤ i ∧ i < 8 * p + 8
    · rw [if_pos z, if_pos z, if_neg (by omega)]
    · rw [if_neg z, if_neg z]
theorem SIM_copy {m x : zH} (s : SIM m x) (a0 : 0 ≤ gs m 32) (fr : ga x 18 (gs m 32) < gs m 2) (ok : mOK m) {f : Int} (f0 : 0 ≤ f) (f1 : f < mN m) (hf : mProgd m f) :
    (x_cpy x f).2 = m_low m ∧ (0 ≤ m_low m ∧ m_low m < mN m) ∧ ga m 2 (m_low m) = 0 ∧ SIM (m_copy m f) (x_mkcopy (x_cpy x f).1 (x_cpy x f).2 f) ∧ m_copy m f = m_copyOk (m_progOk (m_oper m) (m_low m) (ga m 2 f) (ga m 3 f) (ga m 4 f)) (m_low m) f ∧ (∀ i, ga (x_mkcopy (x_cpy x f).1 (x_cpy x f).2 f) 17 i = if i = f then 1 else ga x 17 i) ∧ ga (x_mkcopy (x_cpy x f).1 (x_cpy x f).2 f) 18 (gs m 32) = ga x 18 (gs m 32) + 1 := by
  have sp := s.2.2.2.1 f f0 f1
  have mi := s.2.2.1.2.1 f f0 f1
  unfold mProgd at hf
  have hp2 := sp.2.1 hf
  have ec : x_cpy x f = x_prog x (gs x 46) (ga m 2 f) (ga m 3 f) (ga m 4 f) (ga x 15 f) := by
    unfold x_cpy
    rw [sp.1.1, hp2.1, hp2.2.1]
  obtain ⟨e1, e2, e3, e4, e5⟩ := prog_ok s a0 fr ok (w := ga m 2 f) (ix := ga m 3 f) (g := ga m 4 f) (ga x 15 f) (by omega) mi.1 mi.2
  have em : m_copy m f = m_copyOk (m_progOk (m_oper m) (m_low m) (ga m 2 f) (ga m 3 f) (ga m 4 f)) (m_low m) f := by
    unfold m_copy
    rw [ifp_t ok, e1]
  have ne : f ≠ m_low m := fun z => by rw [z] at hf; omega
  rw [ec, e2]
  rw [e1, e2] at e5
  obtain ⟨s1, s2, s3, s4, s5, s6, s7, s8⟩ := e5
  generalize hM : m_progOk (m_oper m) (m_low m) (ga m 2 f) (ga m 3 f) (ga m 4 f) = M at em s1 s3 s4 s5 s6 s7 s8
  have hX2 : (x_progOk (x_arm (pa x 18 (gs m 32) (ga x 18 (gs m 32) + 1))) (m_low m) (ga m 2 f) (ga m 3 f) (ga m 4 f) (ga x 15 f), m_low m).1 = x_progOk (x_arm (pa x 18 (gs m 32) (ga x 18 (gs m 32) + 1))) (m_low m) (ga m 2 f) (ga m 3 f) (ga m 4 f) (ga x 15 f) := rfl
  rw [hX2] at s1 s2 s3 s4 s5 s6 s7 s8
  show m_low m = m_low m ∧ _
  rw [hX2]
  generalize hX : x_progOk (x_arm (pa x 18 (gs m 32) (ga x 18 (gs m 32) + 1))) (m_low m) (ga m 2 f) (ga m 3 f) (ga m 4 f) (ga x 15 f) = X at s1 s2 s3 s4 s5 s6 s7 s8
  have eN : mN M = mN m := by
    rw [← hM]
    unfold mN
    rw [gs_progOk _ _ _ _ _ 1 (by decide), gs_progOk _ _ _ _ _ 2 (by decide), gs_oper _ _ (by decide), gs_oper _ _ (by decide)]
  have x72 : gs X 72 = mN m := by rw [S72 s1 s2, eN]
  have ex : x_mkcopy X (m_low m) f = x_mkc X (m_low m) f := ifp_t ⟨⟨e3.1, by rw [x72]; exact e3.2⟩, f0, by rw [x72]; exact f1⟩
  have x3 := XS_xmkcopy s2 (m_low m) f
  rw [ex] at x3 ⊢
  rw [em]
  have sf := s4 f f0 (by rw [eN]; exact f1) ne
  have pf : mProgd M f := by
    unfold mProgd
    rw [← hM, ga_mprogOk, if_neg (by omega), if_neg (by omega), if_neg (by omega), if_neg (by omega), if_neg (by omega), ga_oper]
    exact hf
  have mk (c : Nat) (i : Int) (hc : i ≠ m_low m) (h8 : c ≠ 8) : ga (m_copyOk M (m_low m) f) c i = ga M c i := by
    rw [ga_copyOk, if_neg (by omega), if_neg (by omega), if_neg (by omega)]
  have mk2 (c : Nat) (i : Int) (h8 : c ≠ 8 ∧ c ≠ 7 ∧ c ≠ 5) : ga (m_copyOk M (m_low m) f) c i = ga M c i := by
    rw [ga_copyOk, if_neg (by omega), if_neg (by omega), if_neg (by omega)]
  have xk (c : Nat) (i : Int) (hc : c ≠ 17 ∧ c ≠ 16 ∧ c ≠ 13) : ga (x_mkc X (m_low m) f) c i = ga X c i := by
    rw [ga_mkc, if_neg (by omega), if_neg (by omega), if_neg (by omega)]
  have gm (k : Nat) (hk : k ≠ 22) : gs (m_copyOk M (m_low m) f) k = gs M k := gs_copyOk M _ _ k hk
  have eN2 : mN (m_copyOk M (m_low m) f) = mN m := by
    rw [← eN]
    unfold mN
    rw [gm 1 (by decide), gm 2 (by decide)]
  have x17 (i : Int) : ga (x_mkc X (m_low m) f) 17 i = if i = f then 1 else ga x 17 i := by
    rw [ga_mkc]
    by_cases z : i = f
    · rw [if_pos ⟨rfl, z⟩, if_pos z]
    · rw [if_neg (fun y => z y.2), if_neg z, if_neg (by omega), if_neg (by omega), ← hX, ga_xprogOk, if_neg (by omega), if_neg (by omega), if_neg (by omega), if_neg (by omega), if_neg (by omega), if_neg (by omega), ga_xarm, ga_pa, if_neg (by omega)]
  have x18 : ga (x_mkc X (m_low m) f) 18 (gs m 32) = ga x 18 (gs m 32) + 1 := by
    rw [xk 18 _ (by decide), ← hX, ga_xprogOk, if_neg (by omega), if_neg (by omega), if_neg (by omega), if_neg (by omega), if_neg (by omega), if_neg (by omega), ga_xarm, ga_pa, if_pos ⟨rfl, rfl⟩]
  refine ⟨rfl, e3, e4, ⟨?_, x3, ?_, fun i i0 i1 => ?_, fun c c0 c1 => ?_, fun p p0 p1 => ?_, fun r r0 r1 => ?_, fun t t0 t1 => ?_⟩, rfl, x17, x18⟩
  · have q := Sn_ps s1 (a := 22) (b := 76) (by decide) (wr (gs X 76 + 1))
    have e22 := sg s1 (a := 22) (b := 76) (by decide)
    refine fun w hw => ?_
    have q2 := q w hw
    show gs (ps X 76 (wr (gs X 76 + 1))) w.2 = gs (ps M 22 (wr (gs M 22 + 1))) w.1
    rw [← e22]
    exact q2
  · refine MS_u (MS_c s3 (gm 1 (by decide)) (gm 2 (by decide)) (gm 3 (by decide)) (gm 25 (by decide)) (gm 32 (by decide)) (fun i => mk2 2 i (by decide)) (fun i => mk2 3 i (by decide))) (fun b _ _ => xk 18 b (by decide))
  · rw [eN2] at i1
    by_cases z : i = m_low m
    · rw [z]
      have v19 : gs X 73 = gs M 19 := sg s1 (by decide)
      have hk : ga (m_copyOk M (m_low m) f) 2 (m_low m) = ga m 2 f := by
        rw [mk2 2 _ (by decide), ← hM, ga_mprogOk, if_neg (by omega), if_neg (by omega), if_neg (by omega), if_neg (by omega), if_pos ⟨rfl, rfl⟩]
      have xx (c : Nat) (hc : c ≠ 13 ∧ c ≠ 16 ∧ c ≠ 17) : ga (x_mkc X (m_low m) f) c (m_low m) = ga X c (m_low m) := xk c _ (by omega)
      have e75 : gs (x_arm (pa x 18 (gs m 32) (ga x 18 (gs m 32) + 1))) 73 = gs m 19 := by
        rw [gs_xarm _ _ (by decide), gs_pa]
        exact sg s.1 (by decide)
      have e19 : gs (m_oper m) 19 = gs m 19 := gs_oper m 19 (by decide)
      have x10 : ga X 10 (m_low m) = ga m 2 f := by
        rw [← hX, ga_xprogOk, if_neg (by omega), if_neg (by omega), if_neg (by omega), if_neg (by omega), if_neg (by omega), if_pos ⟨rfl, rfl⟩]
      have x11 : ga X 11 (m_low m) = ga m 3 f := by
        rw [← hX, ga_xprogOk, if_neg (by omega), if_neg (by omega), if_neg (by omega), if_neg (by omega), if_pos ⟨rfl, rfl⟩]
      have x12 : ga X 12 (m_low m) = ga m 4 f := by
        rw [← hX, ga_xprogOk, if_neg (by omega), if_neg (by omega), if_neg (by omega), if_pos ⟨rfl, rfl⟩]
      have x14 : ga X 14 (m_low m) = wr (gs m 19 + 1) := by
        rw [← hX, ga_xprogOk, if_neg (by omega), if_pos ⟨rfl, rfl⟩, e75]
      have x15 : ga X 15 (m_low m) = ga x 15 f := by
        rw [← hX, ga_xprogOk, if_pos ⟨rfl, rfl⟩]
      have m3 : ga (m_copyOk M (m_low m) f) 3 (m_low m) = ga m 3 f := by
        rw [mk2 3 _ (by decide), ← hM, ga_mprogOk, if_neg (by omega), if_neg (by omega), if_neg (by omega), if_pos ⟨rfl, rfl⟩]
      have m4 : ga (m_copyOk M (m_low m) f) 4 (m_low m) = ga m 4 f := by
        rw [mk2 4 _ (by decide), ← hM, ga_mprogOk, if_neg (by omega), if_neg (by omega), if_pos ⟨rfl, rfl⟩]
      have m6 : ga (m_copyOk M (m_low m) f) 6 (m_low m) = wr (gs m 19 + 1) := by
        rw [mk2 6 _ (by decide), ← hM, ga_mprogOk, if_pos ⟨rfl, rfl⟩, e19]
      have m5 : ga (m_copyOk M (m_low m) f) 5 (m_low m) = ga M 5 f := by
        rw [ga_copyOk, if_neg (by omega), if_neg (by omega), if_pos ⟨rfl, rfl⟩]
      have m7 : ga (m_copyOk M (m_low m) f) 7 (m_low m) = ga M 7 f := by
        rw [ga_copyOk, if_neg (by omega), if_pos ⟨rfl, rfl⟩]
      have y13 : ga (x_mkc X (m_low m) f) 13 (m_low m) = ga X 13 f := by
        rw [ga_mkc, if_neg (by omega), if_neg (by omega), if_pos ⟨rfl, rfl⟩]
      have M2 : ga M 2 f = ga m 2 f := by
        rw [← hM, ga_mprogOk, if_neg (by omega), if_neg (by omega), if_neg (by omega), if_neg (by omega), if_neg (by omega), ga_oper]
      have X15 : ga X 15 f = ga x 15 f := by
        rw [← hX, ga_xprogOk, if_neg (by omega), if_neg (by omega), if_neg (by omega), if_neg (by omega), if_neg (by omega), if_neg (by omega), ga_xarm, ga_pa, if_neg (by omega)]
      have sq := sf.2.1 pf
      unfold Sp mProgd
      rw [hk, xx 10 (by decide), xx 11 (by decide), xx 12 (by decide), xx 14 (by decide), xx 15 (by decide), x10, x11, x12, x14, x15, m3, m4, m5, m6, m7, y13]
      refine ⟨⟨rfl, by omega, by omega⟩, fun _ => ⟨rfl, rfl, sq.2.2.1, rfl⟩, fun y => absurd hf y, fun y => ?_, fun y => ?_, fun y j j1 j2 => ?_⟩
      · rw [← X15]
        exact sf.2.2.2.1 (by rw [M2]; exact y)
      · exact sp.2.2.2.2.1 y
      · rw [ga_mkc, if_neg (by omega), if_pos ⟨rfl, j1, j2⟩, ga_copyOk, if_pos ⟨rfl, j1, j2⟩]
        exact sf.2.2.2.2.2 (by rw [M2]; exact y) _ (by omega) (by omega)
    · have si := s4 i i0 (by rw [eN]; exact i1) z
      by_cases y : i = f
      · rw [y]
        obtain ⟨q1, q2, q3, q4, q5, q6⟩ := sf
        have xf (c : Nat) (hc : c ≠ 16 ∧ c ≠ 17) : ga (x_mkc X (m_low m) f) c f = ga X c f := by
          rw [ga_mkc, if_neg (by omega), if_neg (by omega), if_neg (by omega)]
        unfold Sp mProgd
        rw [mk 2 f ne (by decide), mk 3 f ne (by decide), mk 4 f ne (by decide), mk 5 f ne (by decide), mk 6 f ne (by decide), mk 7 f ne (by decide), xf 10 (by decide), xf 11 (by decide), xf 12 (by decide), xf 13 (by decide), xf 14 (by decide), xf 15 (by decide)]
        refine ⟨q1, q2, fun w => absurd pf w, q4, q5, fun w j j1 j2 => ?_⟩
        rw [ga_mkc, if_neg (by omega), if_neg (by omega), if_neg (by omega), ga_copyOk, if_neg (by omega), if_neg (by omega), if_neg (by omega)]
        exact q6 w j j1 j2
      · refine Sp_c si (fun c _ c7 => mk c i z (by omega)) (fun j j1 j2 => ?_) (fun c c1 c2 c3 => ?_) (fun j j1 j2 => ?_)
        · rw [ga_copyOk, if_neg (by omega), if_neg (by omega), if_neg (by omega)]
        · rw [ga_mkc, if_neg (by omega), if_neg (by omega), if_neg (by omega)]
        · rw [ga_mkc, if_neg (by omega), if_neg (by omega), if_neg (by omega)]
  · rw [gm 1 (by decide)] at c1
    rw [mk2 9 c (by decide), xk 19 c (by decide)]
    exact s5 c c0 c1
  · rw [mk2 10 p (by decide), mk2 12 p (by decide), mk2 11 p (by decide), xk 21 p (by decide), xk 22 p (by decide), xk 23 p (by decide)]
    exact s6 p p0 p1
  · rw [mk2 14 r (by decide)]
    refine ⟨(s7 r r0 r1).1, fun y p p0 p1 => ?_⟩
    rw [mk2 13 _ (by decide), xk 24 _ (by decide)]
    exact (s7 r r0 r1).2 y p p0 p1
  · rw [gm 38 (by decide)] at t1
    rw [mk2 15 t (by decide), xk 20 t (by decide)]
    exact s8 t t0 t1

