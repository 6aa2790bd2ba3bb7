/-! commits and checkpoints -/
theorem COM {m x : zH} {T k n : Int} (f : FO m x T k) (hT : T + 900 ≤ 2147480000) (z35 : gs m 35 = 0) {t c : Int} (c0 : c ≠ 0) (t0 : mTx m t) (ts : ga m 15 t = 1) :
    ((m_cm1 m t c).2 = 1 ∧ (x_com x t c).2 = 1 ∧ FO (m_cm1 m t c).1 (x_com x t c).1 (T + 900) n ∧ gs (m_cm1 m t c).1 35 = 0) ∨
    ((m_cm1 m t c).2 = 0 ∧ (x_com x t c).2 = 0 ∧ FF (m_cm1 m t c).1 (x_com x t c).1 (T + 900)) := by
  rcases PAGE f (by omega) (w := 2) (ix := c) (g := t) (-2) (by decide) (fun y => absurd y (by decide)) (fun y => absurd y (by decide)) with ⟨q1, q2, q3⟩ | ⟨M, X0, r, M2, X, q1, q2, q3, q4, q5⟩
  · have hm : m_cm1 m t c = ((m_page m 2 c t).1, 0) := by
      unfold m_cm1
      exact ifp_t q1
    have hx : x_com x t c = ((x_page x 2 c t (-2)).1, 0) := by
      unfold x_com
      rw [ifp_f c0]
      exact ifp_t (by omega)
    rw [hm, hx]
    exact Or.inr ⟨rfl, rfl, FF_mono q3 (by omega)⟩
  · have r0 := q5.2.2.1.1.1
    have pr := PR_o q5
    have gk (k : Nat) (h : k = 35 ∨ k = 38) : gs M k = gs m k := q4.1 k (by omega) (by omega) (by omega) (by omega) (by omega) (by omega)
    have e35 : gs M 35 = 0 := (gk 35 (by decide)).trans z35
    have hm : m_cm1 m t c = m_cc (m_cm2 M2 t) := by
      unfold m_cm1
      rw [q1]
      exact ifp_f (fun y => by have : r = -1 := y; omega)
    have hx : x_com x t c = x_cc (x_cm2 X t) := by
      unfold x_com
      rw [ifp_f c0, q2]
      exact ifp_f (fun y => by have : r < 0 := y; omega)
    have w := FO_com (n := 0) q5 q3 (by omega) e35 t0.1 (by rw [gk 38 (by decide)]; exact t0.2) (by rw [q4.2 15 t (by decide)]; exact ts)
    have z2 : gs (m_cm2 M2 t) 35 = 0 := (pr.1 35 (by decide) (by decide) (by decide)).trans e35
    rw [hm, hx]
    rcases CC (n := n) w (by omega) z2 with ⟨c1, c2, c3, c4, _⟩ | ⟨c1, c2, c3⟩
    · exact Or.inl ⟨c1, c2, FO_mono c3 (by omega), c4⟩
    · exact Or.inr ⟨c1, c2, FF_mono c3 (by omega)⟩
theorem FR_cm1 (m : zH) (t c : Int) : gs (m_cm1 m t c).1 0 = gs m 0 ∧ FR m (m_cm1 m t c).1 := by
  have kp := Kp_page m 2 c t
  unfold m_cm1
  by_cases z : (m_page m 2 c t).2 = -1
  · rw [ifp_t z]
    exact FR_q (fun k h _ => kp.1 k h.1) (fun c i h _ => kp.2 c i h)
  · rw [ifp_f z]
    have kq := Kq_cc (m_cm2 (m_page m 2 c t).1 t)
    have g (k : Nat) (h : k = 0 ∨ k = 1 ∨ k = 41 ∨ k = 47 ∨ k = 48 ∨ k = 38) : gs (m_cc (m_cm2 (m_page m 2 c t).1 t)).1 k = gs m k :=
      (kq.1 k (by unfold kS2 kSc; omega)).trans (kp.1 k (by unfold kSc; omega))
    have a (c2 : Nat) (i : Int) (h : c2 = 15 ∨ c2 = 16) : ga (m_cc (m_cm2 (m_page m 2 c t).1 t)).1 c2 i = ga (m_cm2 (m_page m 2 c t).1 t) c2 i := kq.2 c2 i (by unfold kAr; omega)
    refine ⟨g 0 (by decide), ⟨g 1 (by decide), g 41 (by decide), g 47 (by decide), g 48 (by decide), g 38 (by decide)⟩, fun i => ?_, fun i h => ?_⟩
    · rw [a 16 i (by decide)]
      unfold m_cm2
      rw [ga_pa, if_neg (by omega), ga_unl, if_neg (by omega), ga_shd, if_neg (by omega)]
      exact kp.2 16 i (by unfold kAr; decide)
    · rw [a 15 i (by decide)] at h
      unfold m_cm2 at h
      rw [ga_pa] at h
      by_cases y : i = t
      · rw [if_pos ⟨rfl, y⟩] at h
        omega
      · rw [if_neg (fun w => y w.2), ga_unl, if_neg (by omega), ga_shd, if_neg (by omega), kp.2 15 i (by unfold kAr; decide)] at h
        exact h
theorem B_commit {m x : zH} {T : Int} (r : REL m x T) (hT : T + 900 ≤ 2147480000) (t : Int) : AG (T + 900) (m_commit m t) (X_commit x t) := by
  have s := PW_sim r.1
  have rr : REL m x (T + 900) := REL_mono r (by omega)
  have L := s.2.2.1.1.2.2.2.2
  unfold m_commit X_commit
  rw [txi s t]
  by_cases c1 : mTx m t
  · rw [ifp_f (fun z : ¬ mTx m t => z c1), ifp_f (fun z : ¬ mTx m t => z c1)]
    by_cases c2 : mAct m t
    · rw [ifp_f (fun z : ¬ mAct m t => z c2), ifp_f (fun z : gs x 45 = 0 ∨ ¬ xState x t = 1 => (nact2 s c1).mp z c2), locks_v s t]
      obtain ⟨fo, z35, b1⟩ := PW_on r.1 c2.1
      have t1 := c1.1
      have st1 : ga m 15 t = 1 := c2.2.resolve_left (by omega)
      have n0 : 0 ≤ mLocks m t := (cnt_r _ _ _).1
      by_cases c3 : mLocks m t = 0
      · rw [ifp_t c3, ifp_f (show ¬ 0 < mLocks m t by omega), c3]
        have hx : X_cm1 x t 0 = (pa x 20 t 2, 0, 0) := by
          have e : x_com x t 0 = (pa x 20 t 2, 1) := by
            unfold x_com
            rw [ifp_t rfl]
            have : x_close x t 2 = pa x 20 t 2 := ifp_t ((txi s t).mpr c1)
            rw [this]
          unfold X_cm1
          rw [e]
          exact ifp_f (show ¬ (1 : Int) = 0 by decide)
        rw [hx]
        have no (p : Int) (p0 : 0 ≤ p) (p1 : p < gs m 3) : ga m 11 p ≠ t := fun z => by
          have := cnt_lt (p := fun _ : Int => False) (q := fun p => ga m 11 p = t) (a := 0) (b := p) (n := (gs m 3).toNat) (fun _ _ _ h => h.elim) p0 (by omega) (fun h => h) z
          have w := cnt_r (fun _ : Int => False) 0 (gs m 3).toNat
          unfold mLocks at c3
          omega
        have m15 (i : Int) : ga (pa (ps m 0 0) 15 t 2) 15 i = if i = t then 2 else ga m 15 i := by
          rw [ga_pa]
          by_cases z : i = t
          · rw [if_pos ⟨rfl, z⟩, if_pos z]
          · rw [if_neg (fun y => z y.2), if_neg z]
            rfl
        have mo (c : Nat) (i : Int) (h : c ≠ 15) : ga (pa (ps m 0 0) 15 t 2) c i = ga m c i := by
          rw [ga_pa, if_neg (fun y => h y.1)]
          rfl
        have s9 : SIM (pa (ps m 0 0) 15 t 2) (pa x 20 t 2) := by
          refine SIM_tab (SIM_0 s 0) (fun _ => rfl) (fun _ => rfl) (fun c i _ _ _ h4 => by rw [mo c i h4]; rfl) (fun c i h1 _ _ _ => by rw [ga_pa, if_neg (fun y => h1 y.1)]) (fun p p0 p1 => ?_) (fun i i0 i1 => ?_)
          · exact s.2.2.2.2.2.1 p p0 p1
          · have q := s.2.2.2.2.2.2.2 i i0 i1
            rw [m15, ga_pa]
            by_cases z : i = t
            · rw [if_pos ⟨rfl, z⟩, if_pos z]
            · rw [if_neg (fun y => z y.2), if_neg z]
              exact q
        have fo2 := FO_tabs fo s9 (fun k h _ => by rw [gs_pa, gs_ps, if_neg h]) ⟨Int.le_refl _, fo.2.1.2.2.2.2.2.2⟩ (fun c i _ _ _ _ h5 => mo c i h5) (fun i => rfl) (fun p v _ _ hw => ⟨hw, fun _ => ⟨rfl, rfl⟩⟩) (fun p p0 p1 => ?_) (fun i i0 i1 => ?_)
        · refine ⟨rfl, fun _ => rfl, REL_mk r b1 (Or.inl ⟨FO_mono fo2 (by omega), z35⟩) (XK_pa x 20 _ _ (by decide)) ⟨⟨rfl, rfl, rfl, rfl, rfl⟩, fun i => rfl, fun i h => ?_⟩⟩
          rw [m15] at h
          by_cases z : i = t
          · rw [if_pos z] at h; omega
          · rw [if_neg z] at h; exact h
        · have q := fo.2.2.2.1.1 p p0 p1
          rw [mo 11 p (by decide), mo 12 p (by decide), m15]
          refine ⟨?_, fun y => (q.2.2 y).2⟩
          rcases q.2.1 with k | k
          · exact Or.inl k
          · refine Or.inr ⟨k.1, ?_, k.2.2⟩
            rw [if_neg (no p p0 (Classical.byContradiction fun w => by have := (q.2.2 (by omega)).2; omega))]
            exact k.2.1
        · rw [m15]
          by_cases z : i = t
          · rw [if_pos z]
            exact ⟨fun _ h => by omega, fun _ _ => rfl⟩
          · rw [if_neg z]
            exact ⟨fun _ h => ⟨h, fun p _ _ _ => ⟨rfl, rfl⟩⟩, fun _ h => h⟩
      · rw [ifp_f c3, ifp_t (show 0 < mLocks m t by omega)]
        have f0 := FO_cl (FO_0 fo 0)
        have rc : REL m (x_cl x) (T + 900) := REL_cl rr c2.1
        have rv : xRoomFor x (xPfc x) ↔ mRoomFor (ps m 0 0) (m_pfc (ps m 0 0)) := by
          rw [pfc_v (FO_0 fo 0)]
          exact room_v (FO_0 fo 0) _
        generalize mLocks m t = c at c3 n0 ⊢
        by_cases rm : mRoomFor (ps m 0 0) (m_pfc (ps m 0 0))
        · have hm : m_com0 (ps m 0 0) t c = m_cm1 (ps m 0 0) t c := ifp_t rm
          rw [hm, ifp_t (rv.mpr rm)]
          have fr := FR_cm1 (ps m 0 0) t c
          have xk := (XK_cl x).tr (XK_com (x_cl x) t c)
          unfold X_cm1
          rcases COM (n := 0) f0 hT z35 c3 c1 st1 with ⟨w1, w2, w3, w4⟩ | ⟨w1, w2, w3⟩
          · rw [ifp_t w1, ifp_f (show ¬ (x_com (x_cl x) t c).2 = 0 by omega)]
            exact ⟨fr.1, fun _ => rfl, REL_mk r b1 (Or.inl ⟨w3, w4⟩) xk (FR_0 fr.2)⟩
          · rw [ifp_f (show ¬ (m_cm1 (ps m 0 0) t c).2 = 1 by omega), ifp_t w2]
            exact ⟨rfl, fun z => absurd z (show ¬ (2 : Int) = 0 by decide), REL_mk r b1 (Or.inr (FF_0 w3 2)) xk (FR_w (FR_0 fr.2) 2)⟩
        · have hm : m_com0 (ps m 0 0) t c = (ps m 0 0, 0) := ifp_f rm
          rw [hm, ifp_f (show ¬ xRoomFor x (xPfc x) from fun z => rm (rv.mp z)), ifp_f (show ¬ (ps m 0 0, (0 : Int)).2 = 1 from (show ¬ (0 : Int) = 1 by decide))]
          show AG _ (ps (ps m 0 0) 0 2, 0) _
          rw [ps_ps]
          exact AG_no rc 2 0 0 (by decide)
    · rw [ifp_t c2, ifp_t ((nact2 s c1).mpr c2)]
      exact AG_no rr 2 0 0 (by decide)
  · rw [ifp_t c1, ifp_t c1]
    exact AG_no rr 1 0 0 (by decide)
theorem B_checkpoint {m x : zH} {T : Int} (r : REL m x T) (hT : T + 900 ≤ 2147480000) : AG (T + 900) (m_checkpoint m) (X_checkpoint x) := by
  have s := PW_sim r.1
  have rr : REL m x (T + 900) := REL_mono r (by omega)
  have e45 : gs x 45 = gs m 26 := sg s.1 (by decide)
  unfold m_checkpoint X_checkpoint
  rw [e45]
  by_cases c : gs m 26 = 0
  · rw [ifp_f (fun z => z.1 c), ifp_t c]
    exact AG_no rr 1 0 0 (by decide)
  · rw [ifp_f c]
    obtain ⟨fo, z35, b1⟩ := PW_on r.1 c
    have rc : REL m (x_cl x) (T + 900) := REL_cl rr c
    have rv : xRoomFor x (gs x 105 + 1) ↔ mRoomFor (ps m 0 0) (mParts m + 1) := by
      rw [x105 s]
      exact room_v (FO_0 fo 0) _
    by_cases rm : mRoomFor (ps m 0 0) (mParts m + 1)
    · rw [ifp_t ⟨c, rm⟩, ifp_t (rv.mpr rm)]
      have kq := Kq_ck (ps m 0 0)
      have fr := FR_q (fun k h _ => kq.1 k h) (fun c i h _ => kq.2 c i h)
      have xk := (XK_cl x).tr (XK_ck (x_cl x))
      rcases CK (n := 0) (FO_cl (FO_0 fo 0)) (by omega) z35 with ⟨w1, w2, w3, w4, _⟩ | ⟨w1, w2, w3⟩
      · rw [ifp_t w1, ifp_f (show ¬ (x_ck (x_cl x)).2 = 0 by omega)]
        exact ⟨fr.1, fun _ => (sg_F w3 (a := 33) (b := 50) (by decide)).symm, REL_mk r b1 (Or.inl ⟨FO_mono w3 (by omega), w4⟩) xk (FR_0 fr.2)⟩
      · rw [ifp_f (show ¬ (m_ck (ps m 0 0)).2 = 1 by omega), ifp_t w2]
        exact ⟨rfl, fun z => absurd z (show ¬ (1 : Int) = 0 by decide), REL_mk r b1 (Or.inr (FF_0 (FF_mono w3 (by omega)) 1)) xk (FR_w (FR_0 fr.2) 1)⟩
    · rw [ifp_f (fun z => rm z.2), ifp_f (fun z => rm (rv.mp z))]
      exact AG_no rc 1 0 0 (by decide)

