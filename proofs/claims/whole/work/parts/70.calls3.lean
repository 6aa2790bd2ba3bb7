/-! calls that write -/
/-- the reference's side keeps what is not the device's -/
def FR (m r : zH) : Prop := (gs r 1 = gs m 1 ∧ gs r 41 = gs m 41 ∧ gs r 47 = gs m 47 ∧ gs r 48 = gs m 48 ∧ gs r 38 = gs m 38) ∧ (∀ i, ga r 16 i = ga m 16 i) ∧ ∀ i, ga r 15 i = 1 → ga m 15 i = 1
theorem REL_mk {m x r s : zH} {T T2 : Int} (p : REL m x T) (b1 : 1 ≤ gs m 1) (h : FO r s T2 0 ∧ gs r 35 = 0 ∨ FF r s T2) (k : XK x s) (f : FR m r) : REL r s T2 := by
  obtain ⟨⟨f1, f2, f3, f4, f5⟩, f6, f7⟩ := f
  refine ⟨?_, TX_k p.2.1 k f2 f3 f4 f6, ?_⟩
  · rcases h with h | h
    · exact Or.inl ⟨h.1, h.2, by rw [f1]; exact b1⟩
    · exact Or.inr ⟨h, fun z => by omega⟩
  · have q : mOpen m ≤ 6 := p.2.2
    unfold mOpen at q ⊢
    rw [f5]
    have := cnt_le (p := fun t => ga r 15 t = 1) (q := fun t => ga m 15 t = 1) (a := 1) (n := (gs m 38).toNat) (fun t _ _ z => f7 t z)
    omega
theorem FR_q {m r : zH} (h1 : ∀ k, kS2 k → k ≠ 23 → gs r k = gs m k) (h2 : ∀ c i, kAr c → c ≠ 10 → ga r c i = ga m c i) : gs r 0 = gs m 0 ∧ FR m r := by
  have g (k : Nat) (h : k = 0 ∨ k = 1 ∨ k = 41 ∨ k = 47 ∨ k = 48 ∨ k = 38) : gs r k = gs m k := h1 k (by unfold kS2 kSc; omega) (by omega)
  exact ⟨g 0 (by decide), ⟨g 1 (by decide), g 41 (by decide), g 47 (by decide), g 48 (by decide), g 38 (by decide)⟩, fun i => h2 16 i (by unfold kAr; decide) (by decide), fun i z => by rw [← h2 15 i (by unfold kAr; decide) (by decide)]; exact z⟩
theorem pfc_v {m x : zH} {T n : Int} (f : FO m x T n) : xPfc x = m_pfc m := by
  unfold xPfc m_pfc
  rw [sg_F f (a := 4) (b := 47) (by decide), sg_F f (a := 36) (b := 48) (by decide), x105 f.1]
/-- a page written outside: done with its version, or power is gone on both sides -/
theorem WOUT {m x : zH} {T k n : Int} (f : FO m x T k) (hT : T + 900 ≤ 2147480000) (z35 : gs m 35 = 0) {p : Int} (v : Int) (p0 : 0 ≤ p) (p1 : p < gs m 3) :
    ((m_wo1 m p v).2 = (x_wout x p v).2 ∧ 1 ≤ (m_wo1 m p v).2 ∧ FO (m_wo1 m p v).1 (x_wout x p v).1 (T + 900) n ∧ gs (m_wo1 m p v).1 35 = 0) ∨
    ((m_wo1 m p v).2 = 0 ∧ (x_wout x p v).2 = -1 ∧ FF (m_wo1 m p v).1 (x_wout x p v).1 (T + 900)) := by
  rcases PAGE f (by omega) (w := 1) (ix := p) (g := 0) v (by decide) (fun _ => ⟨p0, p1⟩) (fun y => absurd y (by decide)) with ⟨q1, q2, q3⟩ | ⟨M, X0, r, M2, X, q1, q2, q3, q4, q5⟩
  · have hd : m_data m 0 p v = ((m_page m 1 p 0).1, -1) := by
      unfold m_data
      rw [ifp_t q1, q1]
    have hm : m_wo1 m p v = ((m_page m 1 p 0).1, 0) := by
      unfold m_wo1
      rw [hd]
      exact ifp_t rfl
    have hx : x_wout x p v = ((x_page x 1 p 0 v).1, -1) := by
      unfold x_wout
      exact ifp_f (fun y => by
        have := y.1
        omega)
    rw [hm, hx]
    exact Or.inr ⟨rfl, rfl, FF_mono q3 (by omega)⟩
  · have r0 := q5.2.2.1.1.1
    have r1 := q5.2.2.1.1.2
    have sx := q5.2.2.2
    have x72 : gs X 72 = mN M2 := S72 sx.1 sx.2.1
    have pr := PR_o q5
    have eN : mN M2 = mN M := by unfold mN; rw [pr.1 1 (by decide) (by decide) (by decide), pr.1 2 (by decide) (by decide) (by decide)]
    have e35 : gs M 35 = 0 := (q4.1 35 (by decide) (by decide) (by decide) (by decide) (by decide) (by decide)).trans z35
    have e3 : gs M 3 = gs m 3 := q4.1 3 (by decide) (by decide) (by decide) (by decide) (by decide) (by decide)
    obtain ⟨w1, w2, w3⟩ := FO_out (n := 0) q5 q3 (by omega) e35 p0 (by rw [e3]; exact p1)
    have d19 := q3.2.1.2.2.2.1.1
    have hd : m_data m 0 p v = (pa M2 7 r v, r) := by
      unfold m_data
      rw [q1, ifp_f (show ¬ (M2, r).2 = -1 from fun y => by have : r = -1 := y; omega)]
    have e5 : ga (pa M2 7 r v) 5 r = gs M 19 + 1 := by rw [ga_pa, if_neg (fun z => absurd z.1 (by decide))]; exact w1
    have hm : m_wo1 m p v = m_wo2 (pa M2 7 r v) p r := by
      unfold m_wo1
      rw [hd]
      exact ifp_f (fun y => by have : r = -1 := y; omega)
    have hx : x_wout x p v = x_wo2 (x_setC X p (gs M 19 + 1)) (gs M 19 + 1) := by
      unfold x_wout
      rw [q2]
      show ifp (xPl X r) (x_wo2 (x_setC X p (ga X 13 r)) (ga X 13 r)) (X, -1) = _
      rw [w2]
      exact ifp_t ⟨r0, by rw [x72, eN]; exact r1⟩
    rw [hm, hx]
    unfold m_wo2 x_wo2
    rw [e5]
    have e35b : gs (pa (pa M2 7 r v) 10 p (gs M 19 + 1)) 35 = 0 := (pr.1 35 (by decide) (by decide) (by decide)).trans e35
    have q := CC (n := n) w3 (by omega) e35b
    generalize m_cc (pa (pa M2 7 r v) 10 p (gs M 19 + 1)) = a at q ⊢
    generalize x_cc (x_setC X p (gs M 19 + 1)) = b at q ⊢
    rcases q with ⟨c1, c2, c3, c4, c5⟩ | ⟨c1, c2, c3⟩
    · rw [ifp_t c1, ifp_t c2]
      have e53 : gs b.1 53 = gs a.1 23 := sg_F c3 (by decide)
      refine Or.inl ⟨rfl, ?_, ?_, ?_⟩
      · show 1 ≤ gs M 19 + 1
        omega
      · show FO (ps a.1 23 _) (ps b.1 53 (wr (gs b.1 53 + 1))) _ n
        rw [e53]
        exact FO_mono (FO_num c3 (Or.inr ⟨rfl, rfl⟩) _) (by omega)
      · exact c4
    · rw [ifp_f (by omega), ifp_f (by omega)]
      exact Or.inr ⟨rfl, rfl, FF_mono c3 (by omega)⟩
theorem WIN {m x : zH} {T k n : Int} (f : FO m x T k) (hT : T + 900 ≤ 2147480000) (z35 : gs m 35 = 0) {t p : Int} (v : Int) (p0 : 0 ≤ p) (p1 : p < gs m 3) (t0 : mTx m t) (ts : ga m 15 t = 1) (ow : ga m 11 p = 0 ∨ ga m 11 p = t) :
    ((m_wi1 m t p v).2 = (x_win x t p v).2 ∧ 1 ≤ (m_wi1 m t p v).2 ∧ FO (m_wi1 m t p v).1 (x_win x t p v).1 (T + 900) n ∧ gs (m_wi1 m t p v).1 35 = 0) ∨
    ((m_wi1 m t p v).2 = 0 ∧ (x_win x t p v).2 = -1 ∧ FF (m_wi1 m t p v).1 (x_win x t p v).1 (T + 900)) := by
  rcases PAGE f (by omega) (w := 1) (ix := p) (g := t) v (by decide) (fun _ => ⟨p0, p1⟩) (fun y => absurd y (by decide)) with ⟨q1, q2, q3⟩ | ⟨M, X0, r, M2, X, q1, q2, q3, q4, q5⟩
  · have hd : m_data m t p v = ((m_page m 1 p t).1, -1) := by
      unfold m_data
      rw [ifp_t q1, q1]
    have hm : m_wi1 m t p v = ((m_page m 1 p t).1, 0) := by
      unfold m_wi1
      rw [hd]
      exact ifp_t rfl
    have hx : x_win x t p v = ((x_page x 1 p t v).1, -1) := by
      unfold x_win
      exact ifp_f (fun y => by
        have := y.1
        omega)
    rw [hm, hx]
    exact Or.inr ⟨rfl, rfl, FF_mono q3 (by omega)⟩
  · have r0 := q5.2.2.1.1.1
    have r1 := q5.2.2.1.1.2
    have sx := q5.2.2.2
    have x72 : gs X 72 = mN M2 := S72 sx.1 sx.2.1
    have pr := PR_o q5
    have eN : mN M2 = mN M := by unfold mN; rw [pr.1 1 (by decide) (by decide) (by decide), pr.1 2 (by decide) (by decide) (by decide)]
    have gk (k : Nat) (h : k = 35 ∨ k = 3 ∨ k = 38) : gs M k = gs m k := q4.1 k (by omega) (by omega) (by omega) (by omega) (by omega) (by omega)
    have e35 : gs M 35 = 0 := (gk 35 (by decide)).trans z35
    obtain ⟨w1, w2, w3⟩ := FO_in (n := n) q5 q3 (by omega) e35 p0 (by rw [gk 3 (by decide)]; exact p1) t0.1 (by rw [gk 38 (by decide)]; exact t0.2) (by rw [q4.2 15 t (by decide)]; exact ts) (by rw [q4.2 11 p (by decide)]; exact ow)
    have d19 := q3.2.1.2.2.2.1.1
    have e5 : ga (pa M2 7 r v) 5 r = gs M 19 + 1 := by rw [ga_pa, if_neg (fun z => absurd z.1 (by decide))]; exact w1
    have fn := FO_num w3 (Or.inr ⟨rfl, rfl⟩) (wr (gs (pa (pa (pa M2 7 r v) 11 p t) 12 p (gs M 19 + 1)) 23 + 1))
    have e53 : gs (x_pis X t p (gs M 19 + 1)) 53 = gs (pa (pa (pa M2 7 r v) 11 p t) 12 p (gs M 19 + 1)) 23 := sg_F w3 (by decide)
    have hm : m_wi2 (pa M2 7 r v) t p r = (ps (pa (pa (pa M2 7 r v) 11 p t) 12 p (gs M 19 + 1)) 23 (wr (gs (pa (pa (pa M2 7 r v) 11 p t) 12 p (gs M 19 + 1)) 23 + 1)), gs M 19 + 1) := by
      unfold m_wi2
      rw [e5]
      rfl
    have hx : x_wi2 X t p r = ps (x_pis X t p (gs M 19 + 1)) 53 (wr (gs (pa (pa (pa M2 7 r v) 11 p t) 12 p (gs M 19 + 1)) 23 + 1)) := by
      unfold x_wi2
      rw [w2, e53]
    have h13 : ga (ps (x_pis X t p (gs M 19 + 1)) 53 (wr (gs (pa (pa (pa M2 7 r v) 11 p t) 12 p (gs M 19 + 1)) 23 + 1))) 13 r = gs M 19 + 1 := by
      rw [ga_ps]
      unfold x_pis
      rw [ga_if, ga_pa, if_neg (fun z => absurd z.1 (by decide)), ga_pa, if_neg (fun z => absurd z.1 (by decide)), ifp_same]
      exact w2
    have hd : m_data m t p v = (pa M2 7 r v, r) := by
      unfold m_data
      rw [q1, ifp_f (show ¬ (M2, r).2 = -1 from fun y => by have : r = -1 := y; omega)]
    have hm1 : m_wi1 m t p v = m_wi2 (pa M2 7 r v) t p r := by
      unfold m_wi1
      rw [hd]
      exact ifp_f (fun y => by have : r = -1 := y; omega)
    have hx1 : x_win x t p v = (x_wi2 X t p r, ga (x_wi2 X t p r) 13 r) := by
      unfold x_win
      rw [q2]
      exact ifp_t (show xPl X r from ⟨r0, by rw [x72, eN]; exact r1⟩)
    rw [hm1, hx1, hm, hx, h13]
    refine Or.inl ⟨rfl, by show 1 ≤ gs M 19 + 1; omega, FO_mono fn (by omega), ?_⟩
    exact (pr.1 35 (by decide) (by decide) (by decide)).trans e35
theorem FR_wi1 (m : zH) (t p v : Int) : gs (m_wi1 m t p v).1 0 = gs m 0 ∧ FR m (m_wi1 m t p v).1 := by
  have kp := Kp_page m 1 p t
  have q : (∀ k, kSc k → k ≠ 23 → gs (m_wi1 m t p v).1 k = gs m k) ∧ ∀ c i, kAr c → ga (m_wi1 m t p v).1 c i = ga m c i := by
    unfold m_wi1 m_data
    by_cases z : (m_page m 1 p t).2 = -1
    · rw [ifp_t z, ifp_t z]
      exact ⟨fun k hk _ => kp.1 k hk, kp.2⟩
    · rw [ifp_f z, ifp_f z]
      refine ⟨fun k hk h => ?_, fun c i hc => ?_⟩
      · show gs (ps _ 23 _) k = _
        rw [gs_ps, if_neg h, gs_pa, gs_pa, gs_pa]
        exact kp.1 k hk
      · show ga (ps _ 23 _) c i = _
        have h2 := hc
        unfold kAr at h2
        rw [ga_ps, ga_pa, if_neg (by omega), ga_pa, if_neg (by omega), ga_pa, if_neg (by omega)]
        exact kp.2 c i hc
  exact FR_q (fun k h h2 => q.1 k h.1 h2) (fun c i h _ => q.2 c i h)
theorem FR_0 {m r : zH} (h : FR (ps m 0 0) r) : FR m r := h
theorem FR_w {m r : zH} (h : FR m r) (v : Int) : FR m (ps r 0 v) := h
theorem B_write {m x : zH} {T : Int} (r : REL m x T) (hT : T + 900 ≤ 2147480000) (t p v : Int) : AG (T + 900) (m_write m t p v) (X_write x t p v) := by
  have s := PW_sim r.1
  have rr : REL m x (T + 900) := REL_mono r (by omega)
  unfold m_write X_write
  by_cases c1 : t ≠ 0 ∧ ¬ mTx m t ∨ ¬ mLg m p
  · rw [ifp_t c1, ifp_t ((kno s t p).mpr c1)]
    exact AG_no rr 1 0 0 (by decide)
  · rw [ifp_f c1, ifp_f (fun z => c1 ((kno s t p).mp z))]
    have k1 : mLg m p := Classical.byContradiction fun z => c1 (Or.inr z)
    have k2 : t = 0 ∨ mTx m t := by
      by_cases z : t = 0
      · exact Or.inl z
      · exact Or.inr (Classical.byContradiction fun y => c1 (Or.inl ⟨z, y⟩))
    by_cases c2 : -1 ≤ v ∧ v ≤ 999999
    · rw [ifp_f (fun z : ¬ (-1 ≤ v ∧ v ≤ 999999) => z c2), ifp_f (show ¬ (v < -1 ∨ 999999 < v) by omega)]
      have pr := lg_64 s k1
      have ow : xOwner x p = ga m 11 p := by
        unfold xOwner
        rw [ifp_t ((logi s p).mpr k1)]
        exact (s.2.2.2.2.2.1 p pr.1 pr.2).2.2
      have na := nact s k2
      by_cases c3 : ¬ mAct m t ∨ ga m 11 p ≠ 0 ∧ ga m 11 p ≠ t
      · rw [ifp_t c3, ifp_t (show gs x 45 = 0 ∨ ¬ xNo x t ∨ (xOwner x p ≠ 0 ∧ xOwner x p ≠ t) from by
          rw [ow]
          rcases c3 with z | z
          · rcases na.mpr z with y | y
            · exact Or.inl y
            · exact Or.inr (Or.inl y)
          · exact Or.inr (Or.inr z))]
        exact AG_no rr 3 0 0 (by decide)
      · have act : mAct m t := Classical.byContradiction fun z => c3 (Or.inl z)
        have own : ga m 11 p = 0 ∨ ga m 11 p = t := by
          by_cases z : ga m 11 p = 0
          · exact Or.inl z
          · exact Or.inr (Classical.byContradiction fun y => c3 (Or.inr ⟨z, y⟩))
        rw [ifp_f c3, ifp_f (show ¬ (gs x 45 = 0 ∨ ¬ xNo x t ∨ (xOwner x p ≠ 0 ∧ xOwner x p ≠ t)) from fun z => by
          rw [ow] at z
          rcases z with z | z | z
          · exact na.mp (Or.inl z) act
          · exact na.mp (Or.inr z) act
          · exact c3 (Or.inr z))]
        obtain ⟨fo, z35, b1⟩ := PW_on r.1 act.1
        have f0 := FO_cl (FO_0 fo 0)
        have rc : REL m (x_cl x) (T + 900) := REL_cl rr act.1
        by_cases ct : t = 0
        · rw [ifp_t ct, ifp_t ct]
          unfold m_wout X_wr0
          have rv : xRoomFor x (xPfc x) ↔ mRoomFor (ps m 0 0) (m_pfc (ps m 0 0)) := by
            rw [pfc_v (FO_0 fo 0)]
            exact room_v (FO_0 fo 0) _
          by_cases rm : mRoomFor (ps m 0 0) (m_pfc (ps m 0 0))
          · rw [ifp_t rm, ifp_t (rv.mpr rm)]
            have fr : gs (m_wo1 (ps m 0 0) p v).1 0 = gs (ps m 0 0) 0 ∧ FR (ps m 0 0) (m_wo1 (ps m 0 0) p v).1 := by
              have q := Kq_wout (ps m 0 0) p v
              unfold m_wout at q
              rw [ifp_t rm] at q
              exact FR_q q.1 q.2
            have xk := (XK_cl x).tr (XK_wout (x_cl x) p v)
            rcases WOUT (n := 0) f0 hT z35 v k1.1 k1.2 with ⟨w1, w2, w3, w4⟩ | ⟨w1, w2, w3⟩
            · rw [ifp_f (by omega)]
              have e : m_wres (m_wo1 (ps m 0 0) p v) = m_wo1 (ps m 0 0) p v := ifp_f (by omega)
              rw [e]
              exact ⟨fr.1, fun _ => w1, REL_mk r b1 (Or.inl ⟨w3, w4⟩) xk (FR_0 fr.2)⟩
            · rw [ifp_t (by omega)]
              have e : m_wres (m_wo1 (ps m 0 0) p v) = (ps (m_wo1 (ps m 0 0) p v).1 0 3, 0) := ifp_t w1
              rw [e]
              exact ⟨rfl, fun z => absurd z (show ¬ (3 : Int) = 0 by decide), REL_mk r b1 (Or.inr (FF_0 w3 3)) xk (FR_w (FR_0 fr.2) 3)⟩
          · rw [ifp_f rm, ifp_f (fun z => rm (rv.mp z))]
            have e : m_wres (ps m 0 0, 0) = (ps m 0 3, 0) := by
              unfold m_wres
              rw [ifp_t rfl, ps_ps]
            rw [e]
            exact AG_no rc 3 0 0 (by decide)
        · rw [ifp_f ct, ifp_f ct]
          unfold m_win X_wrT
          have rv : xRoomFor x 1 ↔ mRoomFor (ps m 0 0) 1 := room_v (FO_0 fo 0) _
          by_cases rm : mRoomFor (ps m 0 0) 1
          · rw [ifp_t rm, ifp_t (rv.mpr rm)]
            have fr := FR_wi1 (ps m 0 0) t p v
            have xk := (XK_cl x).tr (XK_win (x_cl x) t p v)
            rcases WIN (n := 0) f0 hT z35 v k1.1 k1.2 (k2.resolve_left ct) (act.2.resolve_left ct) own with ⟨w1, w2, w3, w4⟩ | ⟨w1, w2, w3⟩
            · rw [ifp_f (by omega)]
              have e : m_wres (m_wi1 (ps m 0 0) t p v) = m_wi1 (ps m 0 0) t p v := ifp_f (by omega)
              rw [e]
              exact ⟨fr.1, fun _ => w1, REL_mk r b1 (Or.inl ⟨w3, w4⟩) xk (FR_0 fr.2)⟩
            · rw [ifp_t (by omega)]
              have e : m_wres (m_wi1 (ps m 0 0) t p v) = (ps (m_wi1 (ps m 0 0) t p v).1 0 3, 0) := ifp_t w1
              rw [e]
              exact ⟨rfl, fun z => absurd z (show ¬ (3 : Int) = 0 by decide), REL_mk r b1 (Or.inr (FF_0 w3 3)) xk (FR_w (FR_0 fr.2) 3)⟩
          · rw [ifp_f rm, ifp_f (fun z => rm (rv.mp z))]
            have e : m_wres (ps m 0 0, 0) = (ps m 0 3, 0) := by
              unfold m_wres
              rw [ifp_t rfl, ps_ps]
            rw [e]
            exact AG_no rc 3 0 0 (by decide)
    · rw [ifp_t c2, ifp_t (show v < -1 ∨ 999999 < v by omega)]
      exact AG_no rr 2 0 0 (by decide)

