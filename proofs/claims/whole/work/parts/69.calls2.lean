/-! calls of readers, aborts, questions -/
theorem readers_v {m x : zH} (s : SIM m x) : (∀ r, 0 ≤ r → r < 4 → (gs x 106 / 2 ^ r.toNat % 2 = b2i (ga m 14 r ≠ 0))) ∧ xPop (gs x 106) = mReaders m ∧ gs x 106 = mBits m 4 := by
  have c := s.2.1.2.2.2.2.1
  unfold XR at c
  have k : ∀ r, 0 ≤ r → r < 4 → (gs x 106 / 2 ^ r.toNat % 2 = b2i (ga m 14 r ≠ 0)) := fun r r0 r1 => by
    have q := (s.2.2.2.2.2.2.1 r r0 r1).1
    unfold xBit at q
    by_cases z : ga m 14 r ≠ 0
    · rw [b2i_t z]; exact q.mpr z
    · rw [b2i_f z]
      have := fun y => z (q.mp y)
      omega
  have k0 := k 0 (by decide) (by decide)
  have k1 := k 1 (by decide) (by decide)
  have k2 := k 2 (by decide) (by decide)
  have k3 := k 3 (by decide) (by decide)
  have e0 : gs x 106 / 2 ^ (0 : Int).toNat = gs x 106 := by show gs x 106 / 1 = _; omega
  have e1 : gs x 106 / 2 ^ (1 : Int).toNat = gs x 106 / 2 := rfl
  have e2 : gs x 106 / 2 ^ (2 : Int).toNat = gs x 106 / 4 := rfl
  have e3 : gs x 106 / 2 ^ (3 : Int).toNat = gs x 106 / 8 := rfl
  rw [e0] at k0
  rw [e1] at k1
  rw [e2] at k2
  rw [e3] at k3
  refine ⟨k, ?_, ?_⟩
  · have e : mReaders m = 0 + b2i (ga m 14 0 ≠ 0) + b2i (ga m 14 1 ≠ 0) + b2i (ga m 14 2 ≠ 0) + b2i (ga m 14 3 ≠ 0) := rfl
    unfold xPop
    rw [e]
    omega
  · have e : mBits m 4 = 0 + ifp (ga m 14 0 ≠ 0) 1 0 + ifp (ga m 14 1 ≠ 0) 2 0 + ifp (ga m 14 2 ≠ 0) 4 0 + ifp (ga m 14 3 ≠ 0) 8 0 := rfl
    have w (p : Prop) (v : Int) : ifp p v 0 = b2i p * v := by
      rcases Classical.em p with z | z
      · rw [ifp_t z, b2i_t z]; omega
      · rw [ifp_f z, b2i_f z]; omega
    rw [e, w, w, w, w]
    omega
theorem newR_v {m x : zH} (s : SIM m x) : xNewRd x = mNewRd m := by
  unfold xNewRd mNewRd
  exact ff_c 4 0 (fun j j0 j1 => by
    have q := (s.2.2.2.2.2.2.1 j j0 (by omega)).1
    constructor
    · exact fun z => Classical.byContradiction fun y => z (q.mpr y)
    · exact fun z y => q.mp y z)
theorem B_openReader {m x : zH} {T : Int} (r : REL m x T) : AG T (m_openR m) (X_openReader x) := by
  have s := PW_sim r.1
  have e45 : gs x 45 = gs m 26 := sg s.1 (by decide)
  have nv := newR_v s
  have c16 := s.2.1.2.2.2.2.1
  unfold XR at c16
  have f4 : mReaders m = 4 ↔ mNewRd m = -1 := by
    constructor
    · intro h
      rcases ff_r (fun r => ga m 14 r = 0) 4 0 (Int.le_refl _) with q | ⟨q1, q2, q3, _⟩
      · exact q
      · have := cnt_lt (p := fun r => ga m 14 r ≠ 0) (q := fun _ => True) (a := 0) (b := ff (fun r => ga m 14 r = 0) 0 4) (n := 4) (fun _ _ _ _ => trivial) q1 q2 (fun z => z q3) trivial
        have w := cnt_r (fun _ : Int => True) 0 4
        unfold mReaders at h
        omega
    · intro h
      exact cnt_full (p := fun r => ga m 14 r ≠ 0) (a := 0) (n := 4) (fun j j0 j1 => ff_n _ 4 0 (Int.le_refl _) h j j0 (by omega))
  unfold m_openR X_openReader
  rw [e45]
  by_cases c : gs m 26 = 0
  · rw [ifp_t (Or.inl c), ifp_t c]
    exact AG_no r 1 0 0 (by decide)
  · rw [ifp_f c, nv]
    have hr : mNewRd m = -1 ∨ (0 ≤ mNewRd m ∧ mNewRd m < 4) ∧ ga m 14 (mNewRd m) = 0 := by
      rcases ff_r (fun r => ga m 14 r = 0) 4 0 (Int.le_refl _) with q | ⟨q1, q2, q3, _⟩
      · exact Or.inl q
      · exact Or.inr ⟨⟨q1, q2⟩, q3⟩
    rcases hr with d | ⟨⟨d0, d1⟩, d2⟩
    · rw [ifp_t (Or.inr (f4.mpr d)), ifp_t (by omega)]
      have e : x_addR x = x := by
        unfold x_addR
        rw [nv, ifp_t d]
      rw [e]
      exact AG_no r 1 0 0 (by decide)
    · rw [ifp_f (fun z => z.elim c (fun y => by have := f4.mp y; omega)), ifp_f (by omega)]
      have e : x_addR x = x_rdv (ps x 106 (gs x 106 + 2 ^ (mNewRd m).toNat)) (mNewRd m) 64 := by
        unfold x_addR
        rw [nv, ifp_f (by omega)]
      rw [e]
      generalize mNewRd m = R at d0 d1 d2 ⊢
      have nb : ¬ xBit (gs x 106) R := fun z => (s.2.2.2.2.2.2.1 R d0 d1).1.mp z d2
      obtain ⟨fo, z35, b1⟩ := PW_on r.1 c
      have mo (c : Nat) (i : Int) (h : c ≠ 13 ∧ c ≠ 14) : ga (m_rdv (pa (ps m 0 0) 14 R 1) R 64) c i = ga m c i := by
        rw [ga_rdv, if_neg (by omega), ga_pa, if_neg (by omega)]
        rfl
      have xo (c : Nat) (i : Int) (h : c ≠ 24) : ga (x_rdv (ps x 106 (gs x 106 + 2 ^ R.toNat)) R 64) c i = ga x c i := by
        rw [ga_xrdv, if_neg (by omega)]
        rfl
      have m14 (q : Int) : ga (m_rdv (pa (ps m 0 0) 14 R 1) R 64) 14 q = if q = R then 1 else ga m 14 q := by
        rw [ga_rdv, if_neg (by omega), ga_pa]
        by_cases z : q = R
        · rw [if_pos ⟨rfl, z⟩, if_pos z]
        · rw [if_neg (fun y => z y.2), if_neg z]
          rfl
      have m13 (q : Int) : ga (m_rdv (pa (ps m 0 0) 14 R 1) R 64) 13 q = if 64 * R ≤ q ∧ q < 64 * R + 64 then ga m 10 (q - 64 * R) else ga m 13 q := by
        rw [ga_rdv]
        by_cases z : 64 * R ≤ q ∧ q < 64 * R + 64
        · rw [if_pos ⟨rfl, z⟩, if_pos z, ga_pa, if_neg (by omega)]
          rfl
        · rw [if_neg (fun y => z y.2), if_neg z, ga_pa, if_neg (by omega)]
          rfl
      have s9 : SIM (m_rdv (pa (ps m 0 0) 14 R 1) R 64) (x_rdv (ps x 106 (gs x 106 + 2 ^ R.toNat)) R 64) := by
        obtain ⟨s1, s2, s3, s4, s5, s6, s7, s8⟩ := s
        refine ⟨Sn_g (Sn_x (Sn_m s1 (by decide) 0) (b := 106) (by decide) (gs x 106 + 2 ^ R.toNat)) (fun _ => rfl) (fun _ => rfl), ?_, MS_c s3 rfl rfl rfl rfl rfl (fun i => mo 2 i (by decide)) (fun i => mo 3 i (by decide)), fun i i0 i1 => Sp_c (s4 i i0 i1) (fun c _ _ => mo c i (by omega)) (fun j _ _ => mo 8 j (by decide)) (fun c _ _ _ => xo c i (by omega)) (fun j _ _ => xo 16 j (by decide)), fun b q0 q1 => ?_, fun p p0 p1 => ?_, fun q q0 q1 => ?_, fun t t0 t1 => ?_⟩
        · obtain ⟨x1, x2, x3, x4, x5, x6, x7, x8⟩ := s2
          exact ⟨x1, XU_c x2 rfl rfl (fun b => xo 18 b (by decide)), x3, x4, bt_orr2 d0 d1 c16.1 c16.2 nb, x6, x7, x8⟩
        · rw [xo 19 b (by decide), mo 9 b (by decide)]
          exact s5 b q0 q1
        · rw [xo 21 p (by decide), xo 22 p (by decide), xo 23 p (by decide), mo 10 p (by decide), mo 11 p (by decide), mo 12 p (by decide)]
          exact s6 p p0 p1
        · rw [m14]
          have q2 := s7 q q0 q1
          have ba := bit_add d0 d1 c16.1 c16.2 nb q0 q1
          show (xBit (gs x 106 + 2 ^ R.toNat) q ↔ _) ∧ _
          rw [ba]
          by_cases z : q = R
          · rw [if_pos z]
            refine ⟨⟨fun _ => by decide, fun _ => Or.inl z⟩, fun _ p p0 p1 => ?_⟩
            rw [m13, if_pos (by omega), ga_xrdv, if_pos (by omega), show 64 * q + p - 64 * R = p by omega, show q * 64 + p - R * 64 = p by omega]
            exact (s6 p p0 p1).1
          · rw [if_neg z]
            refine ⟨⟨fun y => q2.1.mp (y.resolve_left z), fun y => Or.inr (q2.1.mpr y)⟩, fun y p p0 p1 => ?_⟩
            rw [m13, if_neg (by omega), ga_xrdv, if_neg (by omega)]
            exact q2.2 y p p0 p1
        · rw [xo 20 t (by decide), mo 15 t (by decide)]
          exact s8 t t0 t1
      have wv : ∀ p v, 0 ≤ p → p < gs m 3 → Wv (m_rdv (pa (ps m 0 0) 14 R 1) R 64) p v → Wv m p v := fun p v p0 p1 => by
        have L := s.2.2.1.1.2.2.2.2.2
        unfold Wv
        rw [mo 10 _ (by decide), mo 11 _ (by decide), mo 12 _ (by decide)]
        rintro (h | h | ⟨q, q0, q1, q2, q3⟩)
        · exact Or.inl h
        · exact Or.inr (Or.inl h)
        · rw [m14] at q2
          rw [m13] at q3
          by_cases z : q = R
          · rw [if_pos (by omega), show 64 * q + p - 64 * R = p by omega] at q3
            exact Or.inl q3
          · rw [if_neg z] at q2
            rw [if_neg (by omega)] at q3
            exact Or.inr (Or.inr ⟨q, q0, q1, q2, q3⟩)
      have fo2 := FO_tabs fo s9 (fun k h _ => by rw [gs_rdv, gs_pa, gs_ps, if_neg h]) ⟨Int.le_refl _, fo.2.1.2.2.2.2.2.2⟩ (fun c i _ _ h1 h2 _ => mo c i ⟨h1, h2⟩) (fun i => xo 17 i (by decide)) (fun p v p0 p1 hw => ⟨wv p v p0 p1 hw, fun _ => ⟨mo 11 p (by decide), mo 12 p (by decide)⟩⟩) (fun p p0 p1 => ?_) (fun t t0 t1 => ?_)
      · refine ⟨rfl, fun _ => rfl, Or.inl ⟨fo2, z35, b1⟩, TX_k r.2.1 ((XK_ps x 106 (gs x 106 + 2 ^ R.toNat) (by decide)).tr ⟨fun _ _ => rfl, fun c i hc => by rw [ga_xrdv, if_neg (by omega)]⟩) rfl rfl rfl (fun i => mo 16 i (by decide)), ?_⟩
        show cnt (fun t => ga (m_rdv (pa (ps m 0 0) 14 R 1) R 64) 15 t = 1) 1 (gs m 38).toNat ≤ 6
        rw [cnt_c (q := fun t => ga m 15 t = 1) (fun t _ _ => by rw [mo 15 t (by decide)])]
        exact r.2.2
      · have q := fo.2.2.2.1.1 p p0 p1
        rw [mo 11 p (by decide), mo 12 p (by decide), mo 15 _ (by decide)]
        exact ⟨q.2.1, fun z => (q.2.2 z).2⟩
      · rw [mo 15 _ (by decide)]
        exact ⟨fun _ h => ⟨h, fun p _ _ _ => ⟨mo 11 p (by decide), mo 12 p (by decide)⟩⟩, fun _ h => h⟩
theorem rd_v {m x : zH} (s : SIM m x) (q : Int) : xRd x q ↔ mRd m q := by
  unfold xRd mRd
  by_cases z : 0 ≤ q ∧ q < 4
  · have w := (s.2.2.2.2.2.2.1 q z.1 z.2).1
    exact ⟨fun h => ⟨by omega, w.mp h.2⟩, fun h => ⟨z, w.mpr h.2⟩⟩
  · exact ⟨fun h => absurd h.1 z, fun h => absurd h.1 (by omega)⟩
theorem B_readBy {m x : zH} {T : Int} (r : REL m x T) (q p : Int) : AG T (m_readBy m q p) (X_readBy x q p) := by
  have s := PW_sim r.1
  unfold m_readBy X_readBy
  rw [rd_v s q, logi s p]
  by_cases c : ¬ mRd m q ∨ ¬ mLg m p
  · rw [ifp_t c, ifp_t c]
    exact AG_no r 1 0 0 (by decide)
  · rw [ifp_f c, ifp_f c]
    have c1 : mRd m q := Classical.byContradiction fun z => c (Or.inl z)
    have c2 : mLg m p := Classical.byContradiction fun z => c (Or.inr z)
    have pr := lg_64 s c2
    have q4 : q < 4 := by have := c1.1.2; omega
    have on : gs m 26 ≠ 0 := fun z => by
      have f := (PW_off r.1 z).1
      exact c1.2 (f.2.2.2.2.2.2.2.1 q c1.1.1 (by omega))
    have fo := (PW_on r.1 on).1
    have e : xKept x q p = ga m 13 (64 * q + p) := by
      unfold xKept
      rw [ifp_t ⟨(rd_v s q).mpr c1, (logi s p).mpr c2⟩]
      exact (s.2.2.2.2.2.2.1 q c1.1.1 (by omega)).2 c1.2 p pr.1 pr.2
    rw [e]
    exact AG_q r (val_eq fo c2.1 c2.2 (fun _ => Or.inr (Or.inr ⟨q, c1.1.1, by omega, c1.2, rfl⟩))).symm
theorem B_closeReader {m x : zH} {T : Int} (r : REL m x T) (q : Int) : AG T (m_closeR m q) (X_closeReader x q) := by
  have s := PW_sim r.1
  have c16 := s.2.1.2.2.2.2.1
  unfold XR at c16
  unfold m_closeR X_closeReader
  rw [rd_v s q]
  by_cases c : mRd m q
  · rw [ifp_t c, ifp_f (fun z => z c)]
    have cx := (rd_v s q).mpr c
    have q0 := c.1.1
    have q1 : q < 4 := by have := c.1.2; omega
    have on : gs m 26 ≠ 0 := fun z => by
      have f := (PW_off r.1 z).1
      exact c.2 (f.2.2.2.2.2.2.2.1 q q0 q1)
    obtain ⟨fo, z35, b1⟩ := PW_on r.1 on
    have e : x_remR x q = ps x 106 (gs x 106 - 2 ^ q.toNat) := ifp_t cx
    rw [e]
    have m14 (i : Int) : ga (pa (ps m 0 0) 14 q 0) 14 i = if i = q then 0 else ga m 14 i := by
      rw [ga_pa]
      by_cases z : i = q
      · rw [if_pos ⟨rfl, z⟩, if_pos z]
      · rw [if_neg (fun y => z y.2), if_neg z]
        rfl
    have mo (c : Nat) (i : Int) (h : c ≠ 14) : ga (pa (ps m 0 0) 14 q 0) c i = ga m c i := by
      rw [ga_pa, if_neg (fun y => h y.1)]
      rfl
    have s9 : SIM (pa (ps m 0 0) 14 q 0) (ps x 106 (gs x 106 - 2 ^ q.toNat)) := by
      obtain ⟨s1, s2, s3, s4, s5, s6, s7, s8⟩ := s
      refine ⟨Sn_g (Sn_x (Sn_m s1 (by decide) 0) (b := 106) (by decide) (gs x 106 - 2 ^ q.toNat)) (fun _ => rfl) (fun _ => rfl), ?_, MS_c s3 rfl rfl rfl rfl rfl (fun i => mo 2 i (by decide)) (fun i => mo 3 i (by decide)), fun i i0 i1 => Sp_c (s4 i i0 i1) (fun c _ _ => mo c i (by omega)) (fun j _ _ => mo 8 j (by decide)) (fun c _ _ _ => rfl) (fun j _ _ => rfl), s5, fun p p0 p1 => s6 p p0 p1, fun i i0 i1 => ?_, fun t t0 t1 => s8 t t0 t1⟩
      · obtain ⟨x1, x2, x3, x4, x5, x6, x7, x8⟩ := s2
        exact ⟨x1, x2, x3, x4, bt_clrr2 q0 q1 c16.1 c16.2 cx.2, x6, x7, x8⟩
      · rw [m14]
        have q2 := s7 i i0 i1
        have ba := bit_sub q0 q1 c16.1 c16.2 cx.2 i0 i1
        show (xBit (gs x 106 - 2 ^ q.toNat) i ↔ _) ∧ _
        rw [ba]
        by_cases z : i = q
        · rw [if_pos z]
          exact ⟨⟨fun y => absurd z y.1, fun y => absurd rfl y⟩, fun y => absurd rfl y⟩
        · rw [if_neg z]
          exact ⟨⟨fun y => q2.1.mp y.2, fun y => ⟨z, q2.1.mpr y⟩⟩, fun y p p0 p1 => q2.2 y p p0 p1⟩
    have wv : ∀ p v, Wv (pa (ps m 0 0) 14 q 0) p v → Wv m p v := fun p v => by
      unfold Wv
      rw [mo 10 _ (by decide), mo 11 _ (by decide), mo 12 _ (by decide)]
      rintro (h | h | ⟨i, i0, i1, i2, i3⟩)
      · exact Or.inl h
      · exact Or.inr (Or.inl h)
      · rw [m14] at i2
        by_cases z : i = q
        · rw [if_pos z] at i2
          exact absurd rfl i2
        · rw [if_neg z] at i2
          exact Or.inr (Or.inr ⟨i, i0, i1, i2, i3⟩)
    have fo2 := FO_tabs fo s9 (fun k h _ => by rw [gs_pa, gs_ps, if_neg h]) ⟨Int.le_refl _, fo.2.1.2.2.2.2.2.2⟩ (fun c i _ _ _ h2 _ => mo c i h2) (fun i => rfl) (fun p v _ _ hw => ⟨wv p v hw, fun _ => ⟨rfl, rfl⟩⟩) (fun p p0 p1 => by
      have q := fo.2.2.2.1.1 p p0 p1
      exact ⟨q.2.1, fun z => (q.2.2 z).2⟩) (fun t t0 t1 => ⟨fun _ h => ⟨h, fun p _ _ _ => ⟨rfl, rfl⟩⟩, fun _ h => h⟩)
    exact ⟨rfl, fun _ => (readers_v s9).2.1.symm, Or.inl ⟨fo2, z35, b1⟩, TX_k r.2.1 (XK_ps x 106 _ (by decide)) rfl rfl rfl (fun _ => rfl), r.2.2⟩
  · rw [ifp_f c, ifp_t c]
    exact AG_no r 1 0 0 (by decide)
theorem locks_v {m x : zH} (s : SIM m x) (t : Int) : xLocks x t = mLocks m t := by
  have L := s.2.2.1.1.2.2.2.2
  unfold xLocks mLocks
  rw [sg s.1 (a := 3) (b := 104) (by decide)]
  exact cnt_c (fun p p0 p1 => by rw [(s.2.2.2.2.2.1 p p0 (by omega)).2.2])
theorem B_abort {m x : zH} {T : Int} (r : REL m x T) (t : Int) : AG T (m_abort m t) (X_abort x t) := by
  have s := PW_sim r.1
  have L := s.2.2.1.1.2.2.2.2
  unfold m_abort X_abort
  rw [txi s t]
  by_cases c1 : mTx m t
  · rw [ifp_f (fun z : ¬ mTx m t => z c1), ifp_f (fun z : ¬ mTx m t => z c1)]
    by_cases c2 : mAct m t
    · rw [ifp_f (fun z : ¬ mAct m t => z c2), ifp_f (fun z : gs x 45 = 0 ∨ ¬ xState x t = 1 => (nact2 s c1).mp z c2), locks_v s t]
      obtain ⟨fo, z35, b1⟩ := PW_on r.1 c2.1
      have t1 := c1.1
      have st1 : ga m 15 t = 1 := c2.2.resolve_left (by omega)
      have e104 : gs x 104 = gs m 3 := sg s.1 (by decide)
      have hx : x_close (x_rel x t (gs x 104)) t 3 = pa (x_rel x t (gs m 3)) 20 t 3 := by
        rw [e104]
        exact ifp_t ((txi s t).mpr c1)
      rw [hx]
      have mc (c : Nat) (j : Int) : ga (pa (m_unl (ps m 0 0) t (gs m 3)) 15 t 3) c j = if c = 15 ∧ j = t then 3 else if (c = 11 ∨ c = 12) ∧ 0 ≤ j ∧ j < gs m 3 ∧ ga m 11 j = t then 0 else ga m c j := by
        rw [ga_pa, ga_unl]
        rfl
      have xc (c : Nat) (j : Int) : ga (pa (x_rel x t (gs m 3)) 20 t 3) c j = if c = 20 ∧ j = t then 3 else if (c = 22 ∨ c = 23) ∧ 0 ≤ j ∧ j < gs m 3 ∧ ga x 23 j = t then 0 else ga x c j := by
        rw [ga_pa, ga_xrel]
      have mo (c : Nat) (i : Int) (h : c ≠ 11 ∧ c ≠ 12 ∧ c ≠ 15) : ga (pa (m_unl (ps m 0 0) t (gs m 3)) 15 t 3) c i = ga m c i := by
        rw [mc, if_neg (by omega), if_neg (by omega)]
      have m15 (i : Int) : ga (pa (m_unl (ps m 0 0) t (gs m 3)) 15 t 3) 15 i = if i = t then 3 else ga m 15 i := by
        rw [mc]
        by_cases z : i = t
        · rw [if_pos ⟨rfl, z⟩, if_pos z]
        · rw [if_neg (fun y => z y.2), if_neg z, if_neg (by omega)]
      have m11 (p : Int) : ga (pa (m_unl (ps m 0 0) t (gs m 3)) 15 t 3) 11 p = if 0 ≤ p ∧ p < gs m 3 ∧ ga m 11 p = t then 0 else ga m 11 p := by
        rw [mc, if_neg (by omega)]
        by_cases z : 0 ≤ p ∧ p < gs m 3 ∧ ga m 11 p = t
        · rw [if_pos ⟨Or.inl rfl, z⟩, if_pos z]
        · rw [if_neg (fun y => z y.2), if_neg z]
      have m12 (p : Int) : ga (pa (m_unl (ps m 0 0) t (gs m 3)) 15 t 3) 12 p = if 0 ≤ p ∧ p < gs m 3 ∧ ga m 11 p = t then 0 else ga m 12 p := by
        rw [mc, if_neg (by omega)]
        by_cases z : 0 ≤ p ∧ p < gs m 3 ∧ ga m 11 p = t
        · rw [if_pos ⟨Or.inr rfl, z⟩, if_pos z]
        · rw [if_neg (fun y => z y.2), if_neg z]
      have s9 : SIM (pa (m_unl (ps m 0 0) t (gs m 3)) 15 t 3) (pa (x_rel x t (gs m 3)) 20 t 3) := by
        refine SIM_tab (SIM_0 s 0) (fun _ => rfl) (fun _ => rfl) (fun c i h1 h2 h3 h4 => by rw [mo c i ⟨h2, h3, h4⟩]; rfl) (fun c i h1 h2 h3 h4 => by rw [xc, if_neg (by omega), if_neg (by omega)]) (fun p p0 p1 => ?_) (fun i i0 i1 => ?_)
        · obtain ⟨q2, q3, q4⟩ := s.2.2.2.2.2.1 p p0 p1
          rw [mo 10 p (by decide), m11, m12]
          simp only [xc, q2, q3, q4]
          by_cases z : 0 ≤ p ∧ p < gs m 3 ∧ ga m 11 p = t
          · simp [z]
          · simp [z]
        · have q := s.2.2.2.2.2.2.2 i i0 i1
          rw [m15]
          simp only [xc, q]
          by_cases z : i = t
          · simp [z]
          · simp [z]
      have wv : ∀ p v, Wv (pa (m_unl (ps m 0 0) t (gs m 3)) 15 t 3) p v → Wv m p v ∧ (0 < ga (pa (m_unl (ps m 0 0) t (gs m 3)) 15 t 3) 11 p → ga (pa (m_unl (ps m 0 0) t (gs m 3)) 15 t 3) 11 p = ga m 11 p ∧ ga (pa (m_unl (ps m 0 0) t (gs m 3)) 15 t 3) 12 p = ga m 12 p) := fun p v => by
        have rd : mReadBy (pa (m_unl (ps m 0 0) t (gs m 3)) 15 t 3) p v ↔ mReadBy m p v := by
          unfold mReadBy
          simp only [mo 13 _ (by decide), mo 14 _ (by decide)]
        unfold Wv
        rw [rd, mo 10 _ (by decide), m11, m12]
        by_cases z : 0 ≤ p ∧ p < gs m 3 ∧ ga m 11 p = t
        · rw [if_pos z, if_pos z]
          rintro (h | h | h)
          · exact ⟨Or.inl h, fun y => by omega⟩
          · omega
          · exact ⟨Or.inr (Or.inr h), fun y => by omega⟩
        · rw [if_neg z, if_neg z]
          exact fun h => ⟨h, fun _ => ⟨rfl, rfl⟩⟩
      have fo2 := FO_tabs fo s9 (fun k h _ => by rw [gs_pa, gs_unl, gs_ps, if_neg h]) ⟨Int.le_refl _, fo.2.1.2.2.2.2.2.2⟩ (fun c i h1 h2 _ _ h5 => mo c i ⟨h1, h2, h5⟩) (fun i => by rw [xc, if_neg (by omega), if_neg (by omega)]) (fun p v _ _ hw => wv p v hw) (fun p p0 p1 => ?_) (fun i i0 i1 => ?_)
      · refine ⟨rfl, fun _ => rfl, Or.inl ⟨fo2, z35, b1⟩, TX_k r.2.1 ((XK_rel x t _).tr (XK_pa _ 20 _ _ (by decide))) rfl rfl rfl (fun i => mo 16 i (by decide)), ?_⟩
        show cnt (fun i => ga (pa (m_unl (ps m 0 0) t (gs m 3)) 15 t 3) 15 i = 1) 1 (gs m 38).toNat ≤ 6
        have := cnt_le (p := fun i => ga (pa (m_unl (ps m 0 0) t (gs m 3)) 15 t 3) 15 i = 1) (q := fun i => ga m 15 i = 1) (a := 1) (n := (gs m 38).toNat) (fun i _ _ h => by
          rw [m15] at h
          by_cases z : i = t
          · rw [if_pos z] at h; omega
          · rw [if_neg z] at h; exact h)
        have o : cnt (fun i => ga m 15 i = 1) 1 (gs m 38).toNat ≤ 6 := r.2.2
        omega
      · have q := fo.2.2.2.1.1 p p0 p1
        rw [m11, m12, m15]
        by_cases z : 0 ≤ p ∧ p < gs m 3 ∧ ga m 11 p = t
        · rw [if_pos z, if_pos z]
          exact ⟨Or.inl ⟨rfl, rfl⟩, fun _ => rfl⟩
        · rw [if_neg z, if_neg z]
          refine ⟨?_, fun y => (q.2.2 y).2⟩
          rcases q.2.1 with k | k
          · exact Or.inl k
          · refine Or.inr ⟨k.1, ?_, k.2.2⟩
            rw [if_neg (fun y => z ⟨p0, Classical.byContradiction fun w => by have := (q.2.2 (by omega)).2; omega, y⟩)]
            exact k.2.1
      · rw [m15]
        by_cases z : i = t
        · rw [if_pos z]
          exact ⟨fun _ h => by omega, fun _ h => by rw [z] at h; omega⟩
        · rw [if_neg z]
          refine ⟨fun _ h => ⟨h, fun p p0 p1 hp => ?_⟩, fun _ h => h⟩
          rw [m11, m12, if_neg (fun y => z (by rw [← hp]; exact y.2.2)), if_neg (fun y => z (by rw [← hp]; exact y.2.2))]
          exact ⟨rfl, rfl⟩
    · rw [ifp_t c2, ifp_t ((nact2 s c1).mpr c2)]
      exact AG_no r 2 0 0 (by decide)
  · rw [ifp_t c1, ifp_t c1]
    exact AG_no r 1 0 0 (by decide)

