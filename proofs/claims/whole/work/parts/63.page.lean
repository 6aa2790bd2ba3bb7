/-! a page is written, on both sides -/
def PR (M X0 M2 X : zH) (r w ix g v : Int) : Prop := M2 = m_progOk (m_oper M) r w ix g ∧ X = x_progOk (x_arm (pa X0 18 (gs M 32) (ga X0 18 (gs M 32) + 1))) r w ix g v ∧ ((0 ≤ r ∧ r < mN M) ∧ ga M 2 r = 0) ∧ SIMx M2 X r
theorem PAGE {m x : zH} {T k : Int} (f : FO m x T k) (hT : T + 81 ≤ 2147483000) {w ix g : Int} (v : Int) (hw : w ≠ 0) (hd : w = 1 → 0 ≤ ix ∧ ix < gs m 3) (hm : w = 3 → 0 ≤ ix ∧ 8 * ix < gs m 3) :
    ((m_page m w ix g).2 = -1 ∧ (x_page x w ix g v).2 = -1 ∧ FF (m_page m w ix g).1 (x_page x w ix g v).1 (T + 80)) ∨
    ∃ M X0 r M2 X, m_page m w ix g = (M2, r) ∧ x_page x w ix g v = (X, r) ∧ FO M X0 (T + 80) k ∧ TK m M ∧ PR M X0 M2 X r w ix g v := by
  have q := PAGE1 f (by omega)
  have tk := TK_page1 m
  unfold m_page x_page
  generalize m_page1 m = a at q tk ⊢
  generalize x_page1 x = b at q ⊢
  rcases q with ⟨q1, q2, q3, q4, q5⟩ | ⟨q1, q2, M, q3, q4⟩
  · rw [ifp_t q1, ifp_t q2]
    have t := tk q1
    have e3 := t.1 3 (by decide) (by decide) (by decide) (by decide) (by decide) (by decide)
    rcases Classical.em (mOK a.1) with ok | ok
    · obtain ⟨p1, p2, p3, p4, p5⟩ := prog_ok q3.1 q4 q5 ok (w := w) (ix := ix) (g := g) v hw (by rw [e3]; exact hd) (by rw [e3]; exact hm)
      refine Or.inr ⟨a.1, b.1, m_low a.1, _, _, ?_, ?_, q3, t, ⟨rfl, rfl, ⟨p3, p4⟩, ?_⟩⟩
      · rw [ifp_t ok, p1]
      · unfold x_pg2
        rw [p2, ifp_f (by show ¬ m_low a.1 < 0; omega)]
      · rw [p1, p2] at p5
        exact p5
    · obtain ⟨t1, t2, t3⟩ := FO_torn q3 q4 q5 ok w ix g v
      rw [ifp_f ok]
      refine Or.inl ⟨rfl, ?_, ?_⟩
      · unfold x_pg2
        rw [ifp_t (by omega)]
        exact t2
      · unfold x_pg2
        rw [ifp_t (by omega), t1]
        exact LOSE t3
  · rw [ifp_f (by omega), ifp_f (by omega)]
    refine Or.inl ⟨rfl, rfl, ?_⟩
    show FF a.1 (x_lose b.1) _
    rw [q3]
    exact LOSE q4
theorem PRfin {M X0 M2 X M3 X3 : zH} {r w ix g v T k : Int} (p : PR M X0 M2 X r w ix g v) (f : FO M X0 T k) (hT : T ≤ 2147483000) (w1 : 1 ≤ w) (w4 : w ≤ 4)
    (g3 : ∀ k, gs M3 k = gs M2 k) (a3 : ∀ c i, c ≠ 7 → c ≠ 8 → ga M3 c i = ga M2 c i) (a7 : ∀ i, i ≠ r → ga M3 7 i = ga M2 7 i) (a8 : ∀ j, ¬ (8 * r ≤ j ∧ j < 8 * r + 8) → ga M3 8 j = ga M2 8 j)
    (xg : ∀ k, gs X3 k = gs X k) (xa : ∀ c i, c ≠ 16 → ga X3 c i = ga X c i) (x16 : ∀ j, ¬ (8 * r ≤ j ∧ j < 8 * r + 8) → ga X3 16 j = ga X 16 j)
    (kv : (w = 1 → ga M3 7 r = v) ∧ (w ≠ 1 → v = -2) ∧ (w = 3 → ∀ j, 8 * r ≤ j → j < 8 * r + 8 → ga X3 16 j = ga M3 8 j)) :
    SIM M3 X3 ∧ Adp M M3 (ga X0 17) (ga X3 17) r w ix g ∧ ga X3 13 r = gs M 19 + 1 ∧ ga M3 5 r = gs M 19 + 1 := by
  obtain ⟨p1, p2, ⟨⟨r0, r1⟩, r2⟩, s1, s2, s3, s4, s5, s6, s7, s8⟩ := p
  obtain ⟨sm, dv, nf, on, o, pp⟩ := f
  have e19 : wr (gs (m_oper M) 19 + 1) = gs M 19 + 1 := by
    rw [gs_oper M 19 (by decide)]
    have := dv.2.2.2.1.1
    exact wr_id (by omega) (by omega)
  have e73 : wr (gs (x_arm (pa X0 18 (gs M 32) (ga X0 18 (gs M 32) + 1))) 73 + 1) = gs M 19 + 1 := by
    rw [gs_xarm _ _ (by decide), gs_pa, sg sm.1 (a := 19) (b := 73) (by decide)]
    have := dv.2.2.2.1.1
    exact wr_id (by omega) (by omega)
  have gk (k : Nat) (hk : k ≠ 19 ∧ k ≠ 20 ∧ k ≠ 25) : gs M3 k = gs M k := by
    rw [g3, p1, gs_progOk _ _ _ _ _ k (by omega), gs_oper _ _ (by omega)]
  have eN3 : mN M3 = mN M := by unfold mN; rw [gk 1 (by decide), gk 2 (by decide)]
  have eN2 : mN M2 = mN M := by
    rw [← eN3]
    unfold mN
    rw [g3, g3]
  have ok (c : Nat) (i : Int) (hi : i ≠ r) (hc : c ≠ 8) : ga M3 c i = ga M c i := by
    have e : ga M3 c i = ga M2 c i := by
      by_cases z : c = 7
      · rw [z]; exact a7 i hi
      · exact a3 c i z hc
    rw [e, p1, ga_progOk _ _ _ _ _ _ _ hi, ga_oper]
  have o8 (j : Int) (h : ¬ (8 * r ≤ j ∧ j < 8 * r + 8)) : ga M3 8 j = ga M 8 j := by
    rw [a8 j h, p1, ga_progOk_o _ _ _ _ _ _ _ (by decide), ga_oper]
  obtain ⟨b2, b3, b4, b5, b6⟩ := ga_progOk_at (m_oper M) r w ix g
  rw [e19] at b5 b6
  have m2 : ga M3 2 r = w := by rw [a3 2 r (by decide) (by decide), p1]; exact b2
  have m3 : ga M3 3 r = ix := by rw [a3 3 r (by decide) (by decide), p1]; exact b3
  have m4 : ga M3 4 r = g := by rw [a3 4 r (by decide) (by decide), p1]; exact b4
  have m5 : ga M3 5 r = gs M 19 + 1 := by rw [a3 5 r (by decide) (by decide), p1]; exact b5
  have m6 : ga M3 6 r = gs M 19 + 1 := by rw [a3 6 r (by decide) (by decide), p1]; exact b6
  have x10 : ga X3 10 r = w := by rw [xa 10 r (by decide), p2, ga_xprogOk, if_neg (by omega), if_neg (by omega), if_neg (by omega), if_neg (by omega), if_neg (by omega), if_pos ⟨rfl, rfl⟩]
  have x11 : ga X3 11 r = ix := by rw [xa 11 r (by decide), p2, ga_xprogOk, if_neg (by omega), if_neg (by omega), if_neg (by omega), if_neg (by omega), if_pos ⟨rfl, rfl⟩]
  have x12 : ga X3 12 r = g := by rw [xa 12 r (by decide), p2, ga_xprogOk, if_neg (by omega), if_neg (by omega), if_neg (by omega), if_pos ⟨rfl, rfl⟩]
  have x13 : ga X3 13 r = gs M 19 + 1 := by rw [xa 13 r (by decide), p2, ga_xprogOk, if_neg (by omega), if_neg (by omega), if_pos ⟨rfl, rfl⟩, e73]
  have x14 : ga X3 14 r = gs M 19 + 1 := by rw [xa 14 r (by decide), p2, ga_xprogOk, if_neg (by omega), if_pos ⟨rfl, rfl⟩, e73]
  have x15 : ga X3 15 r = v := by rw [xa 15 r (by decide), p2, ga_xprogOk, if_pos ⟨rfl, rfl⟩]
  have x17 (i : Int) : ga X3 17 i = ga X0 17 i := by rw [xa 17 i (by decide), p2, ga_xprogOk, if_neg (by omega), if_neg (by omega), if_neg (by omega), if_neg (by omega), if_neg (by omega), if_neg (by omega), ga_xarm, ga_pa, if_neg (by omega)]
  have r17 : ga X0 17 r = 0 := ((sm.2.2.2.1 r r0 r1).2.2.1 (fun z => by unfold mProgd at z; omega)).2.2.2.2
  refine ⟨⟨Sn_g s1 g3 xg, XS_s s2 xg (fun b => xa 18 b (by decide)), ?_, fun i i0 i1 => ?_, fun b b0 b1 => ?_, fun q q0 q1 => ?_, fun q q0 q1 => ?_, fun t t0 t1 => ?_⟩, ⟨⟨gk 1 (by decide), gk 2 (by decide), gk 3 (by decide), ?_⟩, fun i hi => ⟨fun c c1 c2 => ok c i hi (by omega), fun k k0 k1 => o8 _ (by omega), x17 i⟩, ⟨⟨m2, m3, m4, m5, m6⟩, by rw [x17]; exact r17⟩, ⟨⟨r0, r1⟩, r2⟩, w1, w4⟩, x13, m5⟩
  · refine MS_u (MS_c s3 (g3 1) (g3 2) (g3 3) (g3 25) (g3 32) (fun i => a3 2 i (by decide) (by decide)) (fun i => a3 3 i (by decide) (by decide))) (fun b _ _ => xa 18 b (by decide))
  · rw [eN3] at i1
    by_cases z : i = r
    · rw [z]
      unfold Sp mProgd
      rw [m2, m3, m4, m5, m6, x10, x11, x12, x13, x14, x15]
      refine ⟨⟨rfl, by omega, by omega⟩, fun _ => ⟨rfl, rfl, rfl, rfl⟩, fun y => absurd ⟨w1, w4⟩ y, fun y => (kv.1 y).symm, fun y => kv.2.1 y, kv.2.2⟩
    · exact Sp_c (s4 i i0 (by rw [eN2]; exact i1) z) (fun c c1 c2 => by
        by_cases y : c = 7
        · rw [y]; exact a7 i z
        · exact a3 c i y (by omega)) (fun j j1 j2 => a8 j (by omega)) (fun c _ _ h => xa c i h) (fun j j1 j2 => x16 j (by omega))
  · rw [xa 19 b (by decide), a3 9 b (by decide) (by decide)]
    exact s5 b b0 (by rw [← g3]; exact b1)
  · rw [xa 21 q (by decide), xa 22 q (by decide), xa 23 q (by decide), a3 10 q (by decide) (by decide), a3 11 q (by decide) (by decide), a3 12 q (by decide) (by decide)]
    exact s6 q q0 q1
  · rw [xg, a3 14 q (by decide) (by decide)]
    refine ⟨(s7 q q0 q1).1, fun z p p0 p1 => ?_⟩
    rw [xa 24 _ (by decide), a3 13 _ (by decide) (by decide)]
    exact (s7 q q0 q1).2 z p p0 p1
  · rw [xa 20 t (by decide), a3 15 t (by decide) (by decide)]
    exact s8 t t0 (by rw [← g3]; exact t1)
  · rw [g3, p1]
    exact e19
/-- tables and states change on both sides alike -/
theorem SIM_tab {m x m2 x2 : zH} (s : SIM m x) (gm : ∀ k, gs m2 k = gs m k) (gx : ∀ k, gs x2 k = gs x k) (am : ∀ c i, c ≠ 10 → c ≠ 11 → c ≠ 12 → c ≠ 15 → ga m2 c i = ga m c i) (ax : ∀ c i, c ≠ 20 → c ≠ 21 → c ≠ 22 → c ≠ 23 → ga x2 c i = ga x c i) (t : St m2 x2) (u : Ss m2 x2) : SIM m2 x2 := by
  obtain ⟨s1, s2, s3, s4, s5, s6, s7, s8⟩ := s
  have eN : mN m2 = mN m := by unfold mN; rw [gm, gm]
  refine ⟨Sn_g s1 gm gx, XS_s s2 gx (fun b => ax 18 b (by decide) (by decide) (by decide) (by decide)), MS_u (MS_c s3 (gm _) (gm _) (gm _) (gm _) (gm _) (fun i => am 2 i (by decide) (by decide) (by decide) (by decide)) (fun i => am 3 i (by decide) (by decide) (by decide) (by decide))) (fun b _ _ => ax 18 b (by decide) (by decide) (by decide) (by decide)), fun i i0 i1 => Sp_c (s4 i i0 (by rw [← eN]; exact i1)) (fun c _ _ => am c i (by omega) (by omega) (by omega) (by omega)) (fun j _ _ => am 8 j (by decide) (by decide) (by decide) (by decide)) (fun c _ _ _ => ax c i (by omega) (by omega) (by omega) (by omega)) (fun j _ _ => ax 16 j (by decide) (by decide) (by decide) (by decide)), fun b b0 b1 => ?_, t, fun r r0 r1 => ?_, u⟩
  · rw [ax 19 b (by decide) (by decide) (by decide) (by decide), am 9 b (by decide) (by decide) (by decide) (by decide)]
    exact s5 b b0 (by rw [← gm]; exact b1)
  · rw [gx, am 14 r (by decide) (by decide) (by decide) (by decide)]
    refine ⟨(s7 r r0 r1).1, fun z p p0 p1 => ?_⟩
    rw [ax 24 _ (by decide) (by decide) (by decide) (by decide), am 13 _ (by decide) (by decide) (by decide) (by decide)]
    exact (s7 r r0 r1).2 z p p0 p1

