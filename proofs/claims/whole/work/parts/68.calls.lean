/-! calls that touch the tables alone, and questions -/
theorem ff_n (p : Int → Prop) : ∀ (n : Nat) (i : Int), 0 ≤ i → ff p i n = -1 → ∀ j, i ≤ j → j < i + n → ¬ p j
  | 0, i, _ => fun _ j h1 h2 => by omega
  | n + 1, i, hi => by
    rw [ff]
    rcases Classical.em (p i) with c | c
    · rw [ifp_t c]
      intro h
      omega
    · rw [ifp_f c]
      intro h j h1 h2
      by_cases e : j = i
      · rw [e]; exact c
      · exact ff_n p n (i + 1) (by omega) h j (by omega) (by omega)
theorem ff_c {p q : Int → Prop} : ∀ (n : Nat) (i : Int), (∀ j, i ≤ j → j < i + n → (p j ↔ q j)) → ff p i n = ff q i n
  | 0, i, _ => rfl
  | n + 1, i, h => by
    rw [ff, ff, ff_c n (i + 1) (fun j h1 h2 => h j (by omega) (by omega)), propext (h i (Int.le_refl _) (by omega))]
theorem data_x {m x : zH} (s : SIM m x) {p v j : Int} (j0 : 0 ≤ j) (j1 : j < mN m) : xDataAt x p v j ↔ mDataAt m p v j ∧ ga x 17 j = 0 := by
  have q := s.2.2.2.1 j j0 j1
  unfold xDataAt mDataAt
  rw [q.1.1]
  by_cases c : ga m 2 j = 1
  · have w := q.2.1 (by unfold mProgd; omega)
    rw [w.1, w.2.2.1]
    exact ⟨fun h => ⟨⟨h.1, h.2.1, h.2.2.1⟩, h.2.2.2⟩, fun h => ⟨h.1.1, h.1.2.1, h.1.2.2, h.2⟩⟩
  · exact ⟨fun h => absurd h.1 c, fun h => absurd h.1.1 c⟩
theorem find_no {m x : zH} {T : Int} (s : SIM m x) (dv : Dv m T) {p v : Int} (h : v ≤ 0) : xFind x p v = -1 := by
  have e := S72 s.1 s.2.1
  have r := mN_r s.2.2.1.1
  unfold xFind
  rw [e]
  rcases ff_r (xDataAt x p v) (mN m).toNat 0 (Int.le_refl _) with q | ⟨q1, q2, q3, _⟩
  · exact q
  · have w := ((data_x s q1 (by omega)).mp q3).1
    have := dv.1 _ ⟨q1, by omega, by unfold mProgd; have := w.1; omega⟩
    have := w.2.2
    omega
theorem val_eq {m x : zH} {T n : Int} (f : FO m x T n) {p v : Int} (p0 : 0 ≤ p) (p1 : p < gs m 3) (hw : 0 < v → Wv m p v) : xVal x p v = mVal m p v := by
  have e72 := S72 f.1.1 f.1.2.1
  have r := mN_r f.1.2.2.1.1
  unfold xVal mVal
  by_cases v0 : 0 < v
  · rw [ifp_f (by omega), ifp_t v0]
    have w := hw v0
    obtain ⟨i, i1, i2, i3, i4, _⟩ := f.2.2.2.1.2.2.2.2.1 p v p0 p1 (by omega) w
    have iw : mWanted m i := by
      rw [want_W, i3, i4]
      exact Or.inl ⟨i2, w⟩
    obtain ⟨j, j1, j2, j3⟩ := newest_ex i1
    have jw := want_cp j2 iw
    have jc : ga x 17 j = 0 := by
      rcases f.2.2.1.2 j j1 with z | z
      · exact z
      · exact absurd jw (f.2.2.2.1.2.2.2.1 j j1 z j3)
    have jd : mDataAt m p v j := ⟨j2.1.trans i2, j2.2.2.1.trans i3, j2.2.2.2.trans i4⟩
    unfold mValF
    have hN : gs m 1 * gs m 2 = mN m := rfl
    rw [hN]
    have fx : xFind x p v ≠ -1 := fun z => by
      unfold xFind at z
      rw [e72] at z
      exact ff_n _ _ 0 (Int.le_refl _) z j j1.1 (by have := j1.2.1; omega) ((data_x f.1 j1.1 j1.2.1).mpr ⟨jd, jc⟩)
    have fm : ff (mDataAt m p v) 0 (mN m).toNat ≠ -1 := fun z => ff_n _ _ 0 (Int.le_refl _) z j j1.1 (by have := j1.2.1; omega) jd
    have hx : 0 ≤ xFind x p v ∧ xFind x p v < mN m ∧ xDataAt x p v (xFind x p v) := by
      unfold xFind at fx ⊢
      rw [e72] at fx ⊢
      rcases ff_r (xDataAt x p v) (mN m).toNat 0 (Int.le_refl _) with q | ⟨q1, q2, q3, _⟩
      · exact absurd q fx
      · exact ⟨q1, by omega, q3⟩
    have hm : 0 ≤ ff (mDataAt m p v) 0 (mN m).toNat ∧ ff (mDataAt m p v) 0 (mN m).toNat < mN m ∧ mDataAt m p v (ff (mDataAt m p v) 0 (mN m).toNat) := by
      rcases ff_r (mDataAt m p v) (mN m).toNat 0 (Int.le_refl _) with q | ⟨q1, q2, q3, _⟩
      · exact absurd q fm
      · exact ⟨q1, by omega, q3⟩
    rw [ifp_t (show xPl x (xFind x p v) from ⟨hx.1, by rw [e72]; exact hx.2.1⟩), ifp_f fm]
    have d1 := ((data_x f.1 hx.1 hx.2.1).mp hx.2.2).1
    have d2 := hm.2.2
    have sp := f.1.2.2.2.1 _ hx.1 hx.2.1
    rw [sp.2.2.2.1 d1.1]
    exact (f.2.1.2.2.1 _ _ ⟨hx.1, hx.2.1, by unfold mProgd; have := d1.1; omega⟩ ⟨hm.1, hm.2.1, by unfold mProgd; have := d2.1; omega⟩ (d1.2.2.trans d2.2.2.symm)).2.1 d1.1
  · rw [ifp_f v0]
    by_cases z : v = 0
    · rw [ifp_t z]
    · rw [ifp_f z, find_no f.1 f.2.1 (by omega), ifp_f (fun y => by have := y.1; omega)]
theorem logi {m x : zH} (s : SIM m x) (p : Int) : xHas x p ↔ mLg m p := by
  unfold xHas mLg
  rw [sg s.1 (a := 3) (b := 104) (by decide)]
theorem txi {m x : zH} (s : SIM m x) (t : Int) : xTx x t ↔ mTx m t := by
  unfold xTx mTx
  rw [sg s.1 (a := 38) (b := 81) (by decide)]
theorem lg_64 {m x : zH} (s : SIM m x) {p : Int} (h : mLg m p) : 0 ≤ p ∧ p < 64 := by
  have := s.2.2.1.1.2.2.2.2.2
  have := h.2
  exact ⟨h.1, by omega⟩
theorem seen_v {m x : zH} (s : SIM m x) {t p : Int} (h : mLg m p) : xSeen x t p = ifp (t ≠ 0 ∧ ga m 11 p = t) (ga m 12 p) (ga m 10 p) := by
  have r := lg_64 s h
  obtain ⟨q1, q2, q3⟩ := s.2.2.2.2.2.1 p r.1 r.2
  unfold xSeen
  rw [ifp_t ((logi s p).mpr h), q1, q2, q3]
theorem kno {m x : zH} (s : SIM m x) (t p : Int) : (¬ xKn x t ∨ ¬ xHas x p) ↔ (t ≠ 0 ∧ ¬ mTx m t ∨ ¬ mLg m p) := by
  rw [logi s p]
  unfold xKn
  rw [txi s t]
  constructor
  · rintro (h | h)
    · exact Or.inl ⟨fun z => h (Or.inl z), fun z => h (Or.inr z)⟩
    · exact Or.inr h
  · rintro (h | h)
    · exact Or.inl (fun z => z.elim h.1 h.2)
    · exact Or.inr h
theorem state_v {m x : zH} (s : SIM m x) {t : Int} (h : mTx m t) : xState x t = ga m 15 t := by
  unfold xState
  rw [ifp_t ((txi s t).mpr h)]
  exact s.2.2.2.2.2.2.2 t h.1 h.2
theorem nact {m x : zH} (s : SIM m x) {t : Int} (h : t = 0 ∨ mTx m t) : (gs x 45 = 0 ∨ ¬ xNo x t) ↔ ¬ mAct m t := by
  rw [sg s.1 (a := 26) (b := 45) (by decide)]
  unfold xNo mAct
  by_cases z : t = 0
  · constructor
    · rintro (y | y)
      · exact fun w => w.1 y
      · exact absurd (Or.inl z) y
    · intro y
      exact Or.inl (Classical.byContradiction fun w => y ⟨w, Or.inl z⟩)
  · have e := state_v s (h.resolve_left z)
    rw [e]
    constructor
    · rintro (y | y)
      · exact fun w => w.1 y
      · exact fun w => y w.2
    · intro y
      by_cases w : gs m 26 = 0
      · exact Or.inl w
      · exact Or.inr (fun v => y ⟨w, v⟩)
theorem nact2 {m x : zH} (s : SIM m x) {t : Int} (h : mTx m t) : (gs x 45 = 0 ∨ ¬ xState x t = 1) ↔ ¬ mAct m t := by
  have t0 : t ≠ 0 := fun z => by have := h.1; omega
  rw [← nact s (Or.inr h)]
  unfold xNo
  constructor
  · rintro (y | y)
    · exact Or.inl y
    · exact Or.inr (fun w => w.elim t0 y)
  · rintro (y | y)
    · exact Or.inl y
    · exact Or.inr (fun w => y (Or.inr w))
theorem B_read {m x : zH} {T : Int} (r : REL m x T) (t p : Int) : AG T (m_read m t p) (X_read x t p) := by
  have s := PW_sim r.1
  unfold m_read X_read
  by_cases c1 : t ≠ 0 ∧ ¬ mTx m t ∨ ¬ mLg m p
  · rw [ifp_t c1, ifp_t ((kno s t p).mpr c1)]
    exact AG_no r 1 0 0 (by decide)
  · rw [ifp_f c1, ifp_f (fun z => c1 ((kno s t p).mp z))]
    have k1 : mLg m p := Classical.byContradiction fun z => c1 (Or.inr z)
    have k2 : t = 0 ∨ mTx m t := by
      by_cases z : t = 0
      · exact Or.inl z
      · exact Or.inr (Classical.byContradiction fun y => c1 (Or.inl ⟨z, y⟩))
    by_cases c2 : mAct m t
    · rw [ifp_f (fun z => z c2), ifp_f (fun z => (nact s k2).mp z c2)]
      have fo := (PW_on r.1 c2.1).1
      rw [seen_v s k1]
      refine AG_q r (val_eq fo k1.1 k1.2 (fun v0 => ?_)).symm
      by_cases z : t ≠ 0 ∧ ga m 11 p = t
      · rw [ifp_t z]
        have := (k2.resolve_left z.1).1
        exact Or.inr (Or.inl ⟨by omega, rfl⟩)
      · rw [ifp_f z]
        exact Or.inl rfl
    · rw [ifp_t c2, ifp_t ((nact s k2).mpr c2)]
      exact AG_no r 2 0 0 (by decide)
theorem B_begin {m x : zH} {T : Int} (r : REL m x T) : AG T (m_begin m) (X_begin x) := by
  have s := PW_sim r.1
  have e45 : gs x 45 = gs m 26 := sg s.1 (by decide)
  have e81 : gs x 81 = gs m 38 := sg s.1 (by decide)
  have o := r.2.2
  have v6 := (PW_dv r.1).2.2.2.2.2
  unfold m_begin X_begin
  rw [open_v s, e45, e81]
  by_cases c : gs m 26 = 0 ∨ mOpen m = 6 ∨ gs m 38 = 1000
  · rw [ifp_t c, ifp_t (by omega)]
    exact AG_no r 1 0 0 (by decide)
  · rw [ifp_f c, ifp_f (by omega)]
    obtain ⟨fo, z35, b1⟩ := PW_on r.1 (fun z => c (Or.inl z))
    have hx : x_open x = pa (ps x 81 (gs m 38 + 1)) 20 (gs m 38 + 1) 1 := by
      unfold x_open
      rw [ifp_t (by omega), e81]
    rw [hx]
    have b15 (t : Int) : ga (pa (ps (ps m 0 0) 38 (gs m 38 + 1)) 15 (gs m 38 + 1) 1) 15 t = if t = gs m 38 + 1 then 1 else ga m 15 t := by
      rw [ga_pa]
      by_cases z : t = gs m 38 + 1
      · rw [if_pos ⟨rfl, z⟩, if_pos z]
      · rw [if_neg (fun y => z y.2), if_neg z]
        rfl
    have bo (c : Nat) (i : Int) (h : c ≠ 15) : ga (pa (ps (ps m 0 0) 38 (gs m 38 + 1)) 15 (gs m 38 + 1) 1) c i = ga m c i := by
      rw [ga_pa, if_neg (fun y => h y.1)]
      rfl
    have xo (c : Nat) (i : Int) (h : c ≠ 20) : ga (pa (ps x 81 (gs m 38 + 1)) 20 (gs m 38 + 1) 1) c i = ga x c i := by
      rw [ga_pa, if_neg (fun y => h y.1)]
      rfl
    have gmm (k : Nat) (h : k ≠ 0) (h2 : k ≠ 38) : gs (pa (ps (ps m 0 0) 38 (gs m 38 + 1)) 15 (gs m 38 + 1) 1) k = gs m k := by
      rw [gs_pa, gs_ps, if_neg h2, gs_ps, if_neg h]
    have s9 : SIM (pa (ps (ps m 0 0) 38 (gs m 38 + 1)) 15 (gs m 38 + 1) 1) (pa (ps x 81 (gs m 38 + 1)) 20 (gs m 38 + 1) 1) := by
      obtain ⟨s1, s2, s3, s4, s5, s6, s7, s8⟩ := s
      refine ⟨Sn_g (Sn_ps (Sn_m s1 (by decide) 0) (a := 38) (b := 81) (by decide) (gs m 38 + 1)) (fun _ => rfl) (fun _ => rfl), ?_, MS_c s3 rfl rfl rfl rfl rfl (fun i => bo 2 i (by decide)) (fun i => bo 3 i (by decide)), fun i i0 i1 => Sp_c (s4 i i0 i1) (fun c _ _ => bo c i (by omega)) (fun j _ _ => bo 8 j (by decide)) (fun c _ _ _ => xo c i (by omega)) (fun j _ _ => xo 16 j (by decide)), fun b q0 q1 => s5 b q0 q1, fun p p0 p1 => s6 p p0 p1, fun q q0 q1 => s7 q q0 q1, fun t t0 t1 => ?_⟩
      · obtain ⟨x1, x2, x3, x4, x5, x6, x7, x8⟩ := s2
        refine ⟨x1, XU_c x2 rfl rfl (fun b => xo 18 b (by decide)), x3, ?_, x5, x6, x7, x8⟩
        show 0 ≤ gs m 38 + 1 ∧ gs m 38 + 1 ≤ 1000
        omega
      · rw [b15, ga_pa]
        by_cases z : t = gs m 38 + 1
        · rw [if_pos ⟨rfl, z⟩, if_pos z]
        · rw [if_neg (fun y => z y.2), if_neg z]
          have t1 : t ≤ gs m 38 + 1 := t1
          exact s8 t t0 (by omega)
    have fo2 := FO_tabs fo s9 gmm (show gs m 38 ≤ gs m 38 + 1 ∧ gs m 38 + 1 ≤ 1000 by omega) (fun c i _ _ _ _ h => bo c i h) (fun i => xo 17 i (by decide)) (fun p v p0 p1 hw => ?_) (fun p p0 p1 => ?_) (fun t t0 t1 => ?_)
    · refine ⟨rfl, fun _ => rfl, Or.inl ⟨fo2, z35, b1⟩, TX_k r.2.1 ((XK_ps x 81 _ (by decide)).tr (XK_pa _ 20 _ _ (by decide))) rfl rfl rfl (fun i => bo 16 i (by decide)), ?_⟩
      show cnt (fun t => ga (pa (ps (ps m 0 0) 38 (gs m 38 + 1)) 15 (gs m 38 + 1) 1) 15 t = 1) 1 (gs m 38 + 1).toNat ≤ 6
      rw [show (gs m 38 + 1).toNat = (gs m 38).toNat + 1 by omega, cnt, cnt_c (q := fun t => ga m 15 t = 1) (fun t t0 t1 => by rw [b15, if_neg (by omega)])]
      have := b2i_01 (ga (pa (ps (ps m 0 0) 38 (gs m 38 + 1)) 15 (gs m 38 + 1) 1) 15 (1 + ((gs m 38).toNat : Int)) = 1)
      have e : mOpen m = cnt (fun t => ga m 15 t = 1) 1 (gs m 38).toNat := rfl
      omega
    · exact ⟨hw, fun _ => ⟨rfl, rfl⟩⟩
    · have q := fo.2.2.2.1.1 p p0 p1
      rw [b15, bo 11 _ (by decide), bo 12 _ (by decide)]
      refine ⟨?_, fun z => (q.2.2 z).2⟩
      show ga m 11 p = 0 ∧ ga m 12 p = 0 ∨ (1 ≤ ga m 11 p ∧ ga m 11 p ≤ gs m 38 + 1) ∧ _
      rcases q.2.1 with z | z
      · exact Or.inl z
      · exact Or.inr ⟨by omega, by rw [if_neg (by omega)]; exact z.2.1, z.2.2⟩
    · rw [b15, if_neg (by omega)]
      exact ⟨fun _ h => ⟨h, fun p _ _ _ => ⟨rfl, rfl⟩⟩, fun _ h => h⟩
theorem B_off {m x : zH} {T : Int} (r : REL m x T) : AG T (m_off m) (X_powerOff x) := by
  have s := PW_sim r.1
  have e45 : gs x 45 = gs m 26 := sg s.1 (by decide)
  unfold m_off X_powerOff
  rw [e45]
  by_cases c : gs m 26 = 0
  · rw [ifp_t c, ifp_t c]
    exact AG_no r 1 0 0 (by decide)
  · rw [ifp_f c, ifp_f c]
    obtain ⟨fo, z35, b1⟩ := PW_on r.1 c
    have ff := LOSE (FO_0 fo 0)
    have e : mOpen (m_loses (ps m 0 0)) = mOpen m := by
      unfold mOpen
      rw [gs_loses _ 38 (by decide)]
      exact cnt_c (fun t _ _ => by rw [ga_loses _ 15 t (by decide)]; rfl)
    refine ⟨gs_loses _ 0 (by decide), fun _ => ?_, Or.inr ⟨ff, fun z => ?_⟩, TX_k r.2.1 (XK_lose x) (gs_loses _ 41 (by decide)) (gs_loses _ 47 (by decide)) (gs_loses _ 48 (by decide)) (fun i => ga_loses _ 16 i (by decide)), ?_⟩
    · show mOpen m = xOpen (x_lose x)
      rw [open_v ff.1, e]
    · exact absurd (show gs m 1 = 0 from z) (by omega)
    · show mOpen (m_loses (ps m 0 0)) ≤ 6
      rw [e]
      exact r.2.2
theorem B_arm {m x : zH} {T : Int} (r : REL m x T) (n : Int) : AG T (m_arm m n) (X_arm x n) := by
  have s := PW_sim r.1
  have e77 : gs x 77 = gs m 25 := sg s.1 (by decide)
  have e70 : gs x 70 = gs m 1 := sg s.1 (by decide)
  unfold m_arm X_arm
  rw [e77, e70]
  by_cases c : 0 ≤ n ∧ n ≤ 1000
  · rw [ifp_t c, ifp_f (show ¬ (n < 0 ∨ 1000 < n) by omega)]
    have key : ∀ w : Int, 0 ≤ w → w ≤ 1000 → SIM (ps (ps m 0 0) 25 w) (ps x 77 w) := fun w w0 w1 => by
      obtain ⟨s1, s2, s3, s4⟩ := s
      obtain ⟨x1, x2, x3, x4, x5, x6, x7, x8⟩ := s2
      obtain ⟨y1, y2, y3, y4, y5⟩ := s3
      exact ⟨Sn_ps (Sn_m s1 (by decide) 0) (by decide) w, ⟨x1, x2, x3, x4, x5, w0, x7, x8⟩, ⟨y1, y2, y3, ⟨w0, w1⟩, y5⟩, s4⟩
    by_cases z : gs m 1 = 0
    · rw [ifp_t z, ifp_f (by omega)]
      obtain ⟨fo, fz⟩ : FF m x T ∧ (gs m 1 = 0 → gs m 25 = 0) := r.1.elim (fun q => absurd z (by have := q.2.2; omega)) id
      have e : ps (ps m 0 0) 25 0 = ps m 0 0 := by
        apply zH_ext
        · intro k
          rw [gs_ps]
          by_cases y : k = 25
          · rw [if_pos y, y]
            exact (fz z).symm
          · rw [if_neg y]
        · intro c i; rfl
      rw [e]
      exact AG_q r rfl
    · rw [ifp_f z, ifp_t (by have := s.2.2.1.1.1; omega)]
      refine ⟨rfl, fun _ => rfl, ?_, TX_k r.2.1 (XK_ps x 77 _ (by decide)) rfl rfl rfl (fun _ => rfl), r.2.2⟩
      rcases r.1 with ⟨fo, f2⟩ | ⟨fo, fz⟩
      · exact Or.inl ⟨⟨key n c.1 c.2, fo.2⟩, f2⟩
      · exact Or.inr ⟨⟨key n c.1 c.2, fo.2⟩, fun y => absurd y z⟩
  · rw [ifp_f c, ifp_t (by omega)]
    exact AG_no r 1 0 0 (by decide)

