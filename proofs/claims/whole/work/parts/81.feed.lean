/-! what the devices are does not hang on the text; feed -/
theorem SIM_t {m x m2 x2 : zH} (s : SIM m x) (gm : ∀ k, (1 ≤ k ∧ k ≤ 4 ∨ 19 ≤ k ∧ k < 40) → gs m2 k = gs m k) (am : ∀ c i, 2 ≤ c → c ≤ 15 → ga m2 c i = ga m c i) (gx : ∀ k, 45 ≤ k → gs x2 k = gs x k) (ax : ∀ c i, 9 ≤ c → ga x2 c i = ga x c i) : SIM m2 x2 := by
  obtain ⟨s1, s2, s3, s4, s5, s6, s7, s8⟩ := s
  have eN : mN m2 = mN m := by unfold mN; rw [gm 1 (by decide), gm 2 (by decide)]
  have k (a b : Nat) (h : (a, b) ∈ prs) (ha : 1 ≤ a ∧ a ≤ 4 ∨ 19 ≤ a ∧ a < 40) (hb : 45 ≤ b) : gs x2 b = gs m2 a := by
    rw [gx b hb, gm a ha]
    exact sg s1 h
  refine ⟨prs_all ⟨k 1 70 (by decide) (by decide) (by decide), k 2 71 (by decide) (by decide) (by decide), k 3 104 (by decide) (by decide) (by decide), k 4 47 (by decide) (by decide) (by decide), k 19 73 (by decide) (by decide) (by decide), k 20 74 (by decide) (by decide) (by decide), k 21 75 (by decide) (by decide) (by decide), k 22 76 (by decide) (by decide) (by decide), k 23 53 (by decide) (by decide) (by decide), k 24 54 (by decide) (by decide) (by decide), k 25 77 (by decide) (by decide) (by decide), k 26 45 (by decide) (by decide) (by decide), k 32 46 (by decide) (by decide) (by decide), k 33 50 (by decide) (by decide) (by decide), k 34 51 (by decide) (by decide) (by decide), k 35 52 (by decide) (by decide) (by decide), k 36 48 (by decide) (by decide) (by decide), k 38 81 (by decide) (by decide) (by decide), k 39 49 (by decide) (by decide) (by decide)⟩, XS_c s2 (gx _ (by decide)) (gx _ (by decide)) (gx _ (by decide)) (gx _ (by decide)) (gx _ (by decide)) (gx _ (by decide)) (gx _ (by decide)) (by rw [gx _ (by decide)]; exact s2.2.2.2.2.2.1) (gx _ (by decide)) (XU_c s2.2.1 (gx _ (by decide)) (gx _ (by decide)) (fun b => ax 18 b (by decide))), MS_u (MS_c s3 (gm _ (by decide)) (gm _ (by decide)) (gm _ (by decide)) (gm _ (by decide)) (gm _ (by decide)) (fun i => am 2 i (by decide) (by decide)) (fun i => am 3 i (by decide) (by decide))) (fun b _ _ => ax 18 b (by decide)), fun i i0 i1 => Sp_c (s4 i i0 (by rw [← eN]; exact i1)) (fun c c1 c2 => am c i c1 (by omega)) (fun j _ _ => am 8 j (by decide) (by decide)) (fun c c1 _ _ => ax c i (by omega)) (fun j _ _ => ax 16 j (by decide)), fun b b0 b1 => ?_, fun p p0 p1 => ?_, fun r r0 r1 => ?_, fun t t0 t1 => ?_⟩
  · rw [ax 19 b (by decide), am 9 b (by decide) (by decide)]
    exact s5 b b0 (by rw [← gm 1 (by decide)]; exact b1)
  · rw [ax 21 p (by decide), ax 22 p (by decide), ax 23 p (by decide), am 10 p (by decide) (by decide), am 11 p (by decide) (by decide), am 12 p (by decide) (by decide)]
    exact s6 p p0 p1
  · rw [gx 106 (by decide), am 14 r (by decide) (by decide)]
    refine ⟨(s7 r r0 r1).1, fun z p p0 p1 => ?_⟩
    rw [ax 24 _ (by decide), am 13 _ (by decide) (by decide)]
    exact (s7 r r0 r1).2 z p p0 p1
  · rw [ax 20 t (by decide), am 15 t (by decide) (by decide)]
    exact s8 t t0 (by rw [← gm 38 (by decide)]; exact t1)
theorem FO_t {m x m2 x2 : zH} {T n : Int} (f : FO m x T n) (gm : ∀ k, (1 ≤ k ∧ k ≤ 4 ∨ 19 ≤ k ∧ k < 40) → gs m2 k = gs m k) (am : ∀ c i, 2 ≤ c → c ≤ 15 → ga m2 c i = ga m c i) (gx : ∀ k, 45 ≤ k → gs x2 k = gs x k) (ax : ∀ c i, 9 ≤ c → ga x2 c i = ga x c i) : FO m2 x2 T n := by
  refine FO_tabs2 f (SIM_t f.1 gm am gx ax) (fun k _ h => gm k h) ⟨by rw [gm 38 (by decide)]; exact Int.le_refl _, by rw [gm 38 (by decide)]; exact f.2.1.2.2.2.2.2.2⟩ (fun c i h1 h2 => am c i h1 (by omega)) (fun i => ax 17 i (by decide)) (fun p v _ _ hw => ⟨(Wv_c (fun c i h => am c i (by omega) (by omega)) p v).mp hw, fun _ => ⟨am 11 p (by decide) (by decide), am 12 p (by decide) (by decide)⟩⟩) (fun p p0 p1 => ?_) (fun t t0 t1 => ?_)
  · have q := f.2.2.2.1.1 p p0 p1
    rw [am 11 p (by decide) (by decide), am 12 p (by decide) (by decide), am 15 _ (by decide) (by decide), gm 38 (by decide)]
    exact ⟨q.2.1, fun z => (q.2.2 z).2⟩
  · rw [am 15 t (by decide) (by decide)]
    exact ⟨fun _ h => ⟨h, fun p _ _ _ => ⟨am 11 p (by decide) (by decide), am 12 p (by decide) (by decide)⟩⟩, fun _ h => h⟩
theorem FF_t {m x m2 x2 : zH} {T : Int} (f : FF m x T) (gm : ∀ k, (1 ≤ k ∧ k ≤ 4 ∨ 19 ≤ k ∧ k < 40) → gs m2 k = gs m k) (am : ∀ c i, 2 ≤ c → c ≤ 15 → ga m2 c i = ga m c i) (gx : ∀ k, 45 ≤ k → gs x2 k = gs x k) (ax : ∀ c i, 9 ≤ c → ga x2 c i = ga x c i) : FF m2 x2 T := by
  have s9 := SIM_t f.1 gm am gx ax
  obtain ⟨s, dv, nf, ⟨lt, le, cm, ex, o2, o3, o4, o5, o6⟩, off, p1, ⟨z1, z2, z3, z4, z5, z6, z7⟩⟩ := f
  have pg0 : Pgt m m2 := ⟨⟨gm 1 (by decide), gm 2 (by decide), gm 3 (by decide), gm 19 (by decide), gm 38 (by decide), gm 39 (by decide)⟩, fun c i h => am c i h.1 (by omega)⟩
  refine ⟨s9, Dv_st pg0 dv (fun t _ _ h => by rw [am 15 t (by decide) (by decide)]; exact h), Nf_e (Pgt_Nf pg0 nf) (fun i => ax 17 i (by decide)), ⟨lt, le, cm, Pgt_EX pg0 ex, fun i hi hc hn hb => ?_, fun p p0 p1 hp => ?_, fun p p0 p1 => by rw [gm 3 (by decide)]; exact o4 p p0 p1, by rw [gm 39 (by decide)]; exact o5, by rw [gm 19 (by decide)]; exact o6⟩, by rw [gm 26 (by decide)]; exact off, by rw [gm 1 (by decide), gm 2 (by decide)]; exact p1, ⟨fun p p0 p1 => ?_, fun r r0 r1 => ?_, by rw [gm 32 (by decide)]; exact z3, by rw [gm 33 (by decide)]; exact z4, by rw [gm 34 (by decide)]; exact z5, by rw [gm 35 (by decide)]; exact z6, by rw [gm 36 (by decide)]; exact z7⟩⟩
  · rw [ax 17 i (by decide)] at hc
    refine o2 i ((Pgt_pg pg0 i).mp hi) hc ((Pgt_new pg0 i).mp hn) ?_
    unfold BW at hb ⊢
    rw [am 2 i (by decide) (by decide), am 3 i (by decide) (by decide), am 4 i (by decide) (by decide), am 5 i (by decide) (by decide)] at hb
    exact hb
  · rw [gm 3 (by decide)] at p1
    obtain ⟨i, i1, i2, i3, i4⟩ := o3 p p0 p1 hp
    exact ⟨i, (Pgt_pg pg0 i).mpr i1, by rw [am 2 i (by decide) (by decide)]; exact i2, by rw [am 3 i (by decide) (by decide)]; exact i3, by rw [am 5 i (by decide) (by decide)]; exact i4⟩
  · rw [am 10 p (by decide) (by decide), am 11 p (by decide) (by decide), am 12 p (by decide) (by decide)]
    exact z1 p p0 p1
  · rw [am 14 r (by decide) (by decide)]
    exact z2 r r0 r1
theorem PW_t {m x m2 x2 : zH} {T : Int} (p : PW m x T) (gm : ∀ k, (1 ≤ k ∧ k ≤ 4 ∨ 19 ≤ k ∧ k < 40) → gs m2 k = gs m k) (am : ∀ c i, 2 ≤ c → c ≤ 15 → ga m2 c i = ga m c i) (gx : ∀ k, 45 ≤ k → gs x2 k = gs x k) (ax : ∀ c i, 9 ≤ c → ga x2 c i = ga x c i) : PW m2 x2 T := by
  rcases p with ⟨f, z, b⟩ | ⟨f, z⟩
  · exact Or.inl ⟨FO_t f gm am gx ax, by rw [gm 35 (by decide)]; exact z, by rw [gm 1 (by decide)]; exact b⟩
  · exact Or.inr ⟨FF_t f gm am gx ax, fun y => by rw [gm 1 (by decide)] at y; rw [gm 25 (by decide)]; exact z y⟩
theorem open_t {m m2 : zH} (g : gs m2 38 = gs m 38) (a : ∀ i, ga m2 15 i = ga m 15 i) : mOpen m2 = mOpen m := by
  unfold mOpen
  rw [g]
  exact cnt_c (fun t _ _ => by rw [a])
/-- bytes come on both sides -/
def Fde (m x m2 x2 : zH) : Prop := (∀ k, k ≠ 41 → gs m2 k = gs m k) ∧ (∀ c i, c ≠ 16 → ga m2 c i = ga m c i) ∧ (∀ k, k ≠ 22 → gs x2 k = gs x k) ∧ (∀ c i, c ≠ 7 → ga x2 c i = ga x c i) ∧ gs x2 22 = gs m2 41 ∧ ∀ k, 0 ≤ k → k < gs m2 41 → ga x2 7 k = ga m2 16 k ∧ 0 ≤ ga m2 16 k
theorem Fde_bt {m x m1 x1 : zH} (f : Fde m x m1 x1) (v s : Int) (hs : s = 24 ∨ s = 16 ∨ s = 8 ∨ s = 0) : Fde m x (m_bt1 m1 v s) (x_bt1 x1 v s) := by
  obtain ⟨f1, f2, f3, f4, f5, f6⟩ := f
  have b := bv_eq v s hs
  refine ⟨fun k hk => ?_, fun c i hc => ?_, fun k hk => ?_, fun c i hc => ?_, ?_, fun k k0 k1 => ?_⟩
  · unfold m_bt1
    rw [gs_ps, if_neg hk, gs_pa]
    exact f1 k hk
  · unfold m_bt1
    rw [ga_ps, ga_pa, if_neg (fun z => hc z.1)]
    exact f2 c i hc
  · unfold x_bt1
    rw [gs_ps, if_neg hk, gs_pa]
    exact f3 k hk
  · unfold x_bt1
    rw [ga_ps, ga_pa, if_neg (fun z => hc z.1)]
    exact f4 c i hc
  · show gs x1 22 + 1 = gs m1 41 + 1
    rw [f5]
  · have k1 : k < gs m1 41 + 1 := k1
    unfold m_bt1 x_bt1
    rw [ga_ps, ga_pa, ga_ps, ga_pa, f5]
    by_cases z : k = gs m1 41
    · rw [if_pos ⟨rfl, z⟩, if_pos ⟨rfl, z⟩]
      exact b
    · rw [if_neg (fun y => z y.2), if_neg (fun y => z y.2)]
      exact f6 k k0 (by omega)
theorem Fde_ap {m x m1 x1 : zH} (f : Fde m x m1 x1) (v : Int) : Fde m x (m_append m1 v) (x_append x1 v) := Fde_bt (Fde_bt (Fde_bt (Fde_bt f v 24 (by decide)) v 16 (by decide)) v 8 (by decide)) v 0 (by decide)
theorem B_feed {m x : zH} {T : Int} (r : REL m x T) (a b c d e : Int) : AG T (m_feed m a b c d e) (X_feed x a b c d e) := by
  obtain ⟨p, ⟨t1, t2, t3, t4, t5⟩, o⟩ := r
  unfold m_feed X_feed
  rw [t1]
  by_cases z : 600 < gs m 41 + 20
  · rw [ifp_t z, ifp_t (show 580 < gs m 41 by omega)]
    exact AG_no ⟨p, ⟨t1, t2, t3, t4, t5⟩, o⟩ 1 0 0 (by decide)
  · rw [ifp_f z, ifp_f (show ¬ 580 < gs m 41 by omega)]
    have f0 : Fde (ps m 0 0) x (ps m 0 0) x := ⟨fun _ _ => rfl, fun _ _ _ => rfl, fun _ _ => rfl, fun _ _ _ => rfl, t1, t3⟩
    obtain ⟨f1, f2, f3, f4, f5, f6⟩ := Fde_ap (Fde_ap (Fde_ap (Fde_ap (Fde_ap f0 a) b) c) d) e
    have em : m_feed5 (ps m 0 0) a b c d e = m_append (m_append (m_append (m_append (m_append (ps m 0 0) a) b) c) d) e := rfl
    have e41 : gs (m_append (m_append (m_append (m_append (m_append (ps m 0 0) a) b) c) d) e) 41 = gs m 41 + 20 := by
      rw [m_append_41, m_append_41, m_append_41, m_append_41, m_append_41]
      show gs m 41 + 4 + 4 + 4 + 4 + 4 = _
      omega
    rw [em]
    generalize m_append (m_append (m_append (m_append (m_append (ps m 0 0) a) b) c) d) e = M at f1 f2 f3 f4 f5 f6 e41 ⊢
    generalize x_append (x_append (x_append (x_append (x_append x a) b) c) d) e = X at f1 f2 f3 f4 f5 f6 ⊢
    have gm (k : Nat) (h : k ≠ 41) (h0 : k ≠ 0) : gs M k = gs m k := by rw [f1 k h, gs_ps, if_neg h0]
    refine ⟨f1 0 (by decide), fun _ => f5.symm, PW_t p (fun k h => gm k (by omega) (by omega)) (fun c i _ h => by rw [f2 c i (by omega)]; rfl) (fun k h => f3 k (by omega)) (fun c i h => f4 c i (by omega)), ⟨f5, show 0 ≤ gs M 41 ∧ gs M 41 ≤ 600 by omega, f6, ?_, ?_⟩, ?_⟩
    · rw [f3 23 (by decide), gm 47 (by decide) (by decide)]
      exact t4
    · rw [f3 24 (by decide), gm 48 (by decide) (by decide)]
      exact t5
    · rw [open_t (gm 38 (by decide) (by decide)) (fun i => by rw [f2 15 i (by decide)]; rfl)]
      exact o

