/-! the two devices between calls, and the calls that touch the tables alone -/
def TX (m x : zH) : Prop := gs x 22 = gs m 41 ∧ (0 ≤ gs m 41 ∧ gs m 41 ≤ 600) ∧ (∀ k, 0 ≤ k → k < gs m 41 → ga x 7 k = ga m 16 k ∧ 0 ≤ ga m 16 k) ∧ gs x 23 = gs m 47 ∧ gs x 24 = gs m 48
/-- power is on on both sides, or off on both -/
def PW (m x : zH) (T : Int) : Prop := FO m x T 0 ∧ gs m 35 = 0 ∧ 1 ≤ gs m 1 ∨ FF m x T ∧ (gs m 1 = 0 → gs m 25 = 0)
def REL (m x : zH) (T : Int) : Prop := PW m x T ∧ TX m x ∧ mOpen m ≤ 6
/-- a call's outcome: the same exception or none, then the same value -/
def AG (T : Int) (r : zH × Int) (s : zH × Int × Int) : Prop := gs r.1 0 = s.2.1 ∧ (s.2.1 = 0 → r.2 = s.2.2) ∧ REL r.1 s.1 T
theorem PW_sim {m x : zH} {T : Int} (p : PW m x T) : SIM m x := p.elim (fun h => h.1.1) (fun h => h.1.1)
theorem PW_dv {m x : zH} {T : Int} (p : PW m x T) : Dv m T := p.elim (fun h => h.1.2.1) (fun h => h.1.2.1)
theorem PW_on {m x : zH} {T : Int} (p : PW m x T) (h : gs m 26 ≠ 0) : FO m x T 0 ∧ gs m 35 = 0 ∧ 1 ≤ gs m 1 := p.elim id (fun q => absurd q.1.2.2.2.2.1 h)
theorem PW_off {m x : zH} {T : Int} (p : PW m x T) (h : gs m 26 = 0) : FF m x T ∧ (gs m 1 = 0 → gs m 25 = 0) := p.elim (fun q => absurd h (by rw [q.1.2.2.2.2.1]; decide)) id
theorem PW_26 {m x : zH} {T : Int} (p : PW m x T) : gs m 26 = 0 ∨ gs m 26 = 1 := p.elim (fun h => Or.inr h.1.2.2.2.2.1) (fun h => Or.inl h.1.2.2.2.2.1)
theorem PW_mono {m x : zH} {T T2 : Int} (p : PW m x T) (h : T ≤ T2) : PW m x T2 := p.elim (fun q => Or.inl ⟨FO_mono q.1 h, q.2⟩) (fun q => Or.inr ⟨FF_mono q.1 h, q.2⟩)
theorem REL_mono {m x : zH} {T T2 : Int} (p : REL m x T) (h : T ≤ T2) : REL m x T2 := ⟨PW_mono p.1 h, p.2⟩
theorem SIM_0 {m x : zH} (s : SIM m x) (v : Int) : SIM (ps m 0 v) x := by
  obtain ⟨s1, s2, s3, s4⟩ := s
  exact ⟨Sn_m s1 (by decide) v, s2, MS_0 s3 v, s4⟩
theorem FO_0 {m x : zH} {T n : Int} (f : FO m x T n) (v : Int) : FO (ps m 0 v) x T n := ⟨SIM_0 f.1 v, f.2⟩
theorem FF_0 {m x : zH} {T : Int} (f : FF m x T) (v : Int) : FF (ps m 0 v) x T := ⟨SIM_0 f.1 v, f.2⟩
theorem PW_0 {m x : zH} {T : Int} (p : PW m x T) (v : Int) : PW (ps m 0 v) x T := p.elim (fun q => Or.inl ⟨FO_0 q.1 v, q.2⟩) (fun q => Or.inr ⟨FF_0 q.1 v, q.2⟩)
theorem REL_0 {m x : zH} {T : Int} (p : REL m x T) (v : Int) : REL (ps m 0 v) x T := ⟨PW_0 p.1 v, p.2⟩
theorem REL_cl {m x : zH} {T : Int} (p : REL m x T) (on : gs m 26 ≠ 0) : REL m (x_cl x) T := by
  refine ⟨Or.inl ⟨FO_cl (PW_on p.1 on).1, (PW_on p.1 on).2⟩, ?_, p.2.2⟩
  have k := XK_cl x
  obtain ⟨⟨t1, t2, t3, t4, t5⟩, _⟩ := p.2
  exact ⟨by rw [k.1 22 (by decide)]; exact t1, t2, fun j j0 j1 => by rw [k.2 7 j (by decide)]; exact t3 j j0 j1, by rw [k.1 23 (by decide)]; exact t4, by rw [k.1 24 (by decide)]; exact t5⟩
theorem TX_k {m m2 x x2 : zH} (t : TX m x) (k : XK x x2) (e41 : gs m2 41 = gs m 41) (e47 : gs m2 47 = gs m 47) (e48 : gs m2 48 = gs m 48) (a16 : ∀ i, ga m2 16 i = ga m 16 i) : TX m2 x2 := by
  obtain ⟨t1, t2, t3, t4, t5⟩ := t
  refine ⟨by rw [k.1 22 (by decide), e41]; exact t1, by rw [e41]; exact t2, fun j j0 j1 => ?_, by rw [k.1 23 (by decide), e47]; exact t4, by rw [k.1 24 (by decide), e48]; exact t5⟩
  rw [k.2 7 j (by decide), a16]
  exact t3 j j0 (by rw [← e41]; exact j1)
/-- refused on both sides -/
theorem AG_no {m x : zH} {T : Int} (p : REL m x T) (k v w : Int) (hk : k ≠ 0) : AG T (ps m 0 k, v) (x, k, w) := ⟨rfl, fun h => absurd h hk, REL_0 p k⟩
theorem AG_q {m x : zH} {T : Int} (p : REL m x T) {v w : Int} (h : v = w) : AG T (ps m 0 0, v) (x, 0, w) := ⟨rfl, fun _ => h, REL_0 p 0⟩
theorem open_v {m x : zH} (s : SIM m x) : xOpen x = mOpen m := by
  unfold xOpen mOpen
  rw [sg s.1 (a := 38) (b := 81) (by decide)]
  exact cnt_c (fun t t0 t1 => by rw [s.2.2.2.2.2.2.2 t t0 (by omega)])
/-- the tables change but for the committed versions; nothing becomes wanted -/
theorem FO_tabs2 {m x m2 x2 : zH} {T n : Int} (f : FO m x T n) (s2 : SIM m2 x2) (gm : ∀ k, k ≠ 38 → (1 ≤ k ∧ k ≤ 4 ∨ 19 ≤ k ∧ k < 40) → gs m2 k = gs m k) (g38 : gs m 38 ≤ gs m2 38 ∧ gs m2 38 ≤ 1000) (am : ∀ c i, 2 ≤ c → c ≤ 10 → ga m2 c i = ga m c i) (a17 : ∀ i, ga x2 17 i = ga x 17 i)
    (wv : ∀ p v, 0 ≤ p → p < gs m 3 → Wv m2 p v → Wv m p v ∧ (0 < ga m2 11 p → ga m2 11 p = ga m 11 p ∧ ga m2 12 p = ga m 12 p))
    (o1 : ∀ p, 0 ≤ p → p < 64 → (ga m2 11 p = 0 ∧ ga m2 12 p = 0 ∨ (1 ≤ ga m2 11 p ∧ ga m2 11 p ≤ gs m2 38) ∧ ga m2 15 (ga m2 11 p) = 1 ∧ 1 ≤ ga m2 12 p) ∧ (gs m 3 ≤ p → ga m2 11 p = 0))
    (st : ∀ t, 0 ≤ t → t ≤ gs m 38 → (1 ≤ t → ga m2 15 t = 1 → ga m 15 t = 1 ∧ ∀ p, 0 ≤ p → p < gs m 3 → ga m 11 p = t → ga m2 11 p = ga m 11 p ∧ ga m2 12 p = ga m 12 p) ∧ (1 ≤ t → ga m 15 t = 2 → ga m2 15 t = 2)) : FO m2 x2 T n := by
  have mi := f.1.2.2.1.2.1
  obtain ⟨s, ⟨v1, v2, v3, v4, v5, v6⟩, nf, on, o, p1⟩ := f
  obtain ⟨w1, w2, w3, w4, w5, w6, w7⟩ := on
  have eN : mN m2 = mN m := by unfold mN; rw [gm 1 (by decide) (by decide), gm 2 (by decide) (by decide)]
  have a {c : Nat} {i : Int} (h : 2 ≤ c ∧ c ≤ 10) : ga m2 c i = ga m c i := am c i h.1 h.2
  have hp (i : Int) : pg m2 i ↔ pg m i := by unfold pg mProgd; rw [eN, a (by decide)]
  have hc (i j : Int) : mCopyOf m2 i j ↔ mCopyOf m i j := by unfold mCopyOf; simp only [a (c := 2) (by decide), a (c := 3) (by decide), a (c := 4) (by decide), a (c := 5) (by decide)]
  have hn (i : Int) : mNewest m2 i ↔ mNewest m i := by
    unfold mNewest
    simp only [hc, a (c := 6) (by decide), gm 1 (by decide) (by decide), gm 2 (by decide) (by decide)]
  have hm (t p w : Int) : Mx m2 t p w ↔ Mx m t p w := by
    unfold Mx
    simp only [hp, a (c := 2) (by decide), a (c := 3) (by decide), a (c := 4) (by decide), a (c := 5) (by decide)]
  have he (le p c w : Int) : Ev m2 le p c w ↔ Ev m le p c w := by
    unfold Ev
    simp only [hp, hm, a (c := 2) (by decide), a (c := 3) (by decide), a (c := 4) (by decide), a (c := 5) (by decide)]
  have g19 := gm 19 (by decide) (by decide)
  have g39 := gm 39 (by decide) (by decide)
  have g3 := gm 3 (by decide) (by decide)
  refine ⟨s2, ⟨fun i hi => ?_, fun i j hi hj e => ?_, fun i j hi hj e => ?_, ?_, fun i hi => ?_, by omega⟩, Nf_e ⟨fun i hi h0 => ?_, fun i hi => nf.2 i ((hp i).mp hi)⟩ a17, On_e ⟨fun p p0 p1 => ?_, fun i hi h1 h2 h3 => ?_, ?_, fun i hi h0 h1 hw => ?_, fun p v p0 p1 v0 hw => ?_, ?_, fun z => ?_⟩ a17, (gm 26 (by decide) (by decide)).trans o, by rw [gm 2 (by decide) (by decide)]; exact p1⟩
  · rw [a (by decide), a (by decide), g19]
    exact v1 i ((hp i).mp hi)
  · rw [a (by decide), a (by decide)] at e
    exact v2 i j ((hp i).mp hi) ((hp j).mp hj) e
  · rw [a (by decide), a (by decide)] at e
    rw [hc]
    simp only [a (c := 2) (by decide), a (c := 7) (by decide), a (c := 8) (by decide)]
    exact v3 i j ((hp i).mp hi) ((hp j).mp hj) e
  · rw [g19, g39, gm 1 (by decide) (by decide)]
    simp only [a (c := 9) (by decide)]
    exact v4
  · have q := v5 i ((hp i).mp hi)
    rw [a (c := 2) (by decide), a (c := 4) (by decide), g39]
    refine ⟨fun z => ?_, fun z => ?_, q.2.2⟩
    · have := q.1 z; omega
    · have y := q.2.1 z
      exact ⟨by omega, (st _ (by omega) (by omega)).2 y.1.1 y.2⟩
  · exact (hn i).mpr (nf.1 i ((hp i).mp hi) h0)
  · have q := w1 p p0 p1
    rw [a (c := 10) (by decide), g3]
    exact ⟨q.1, (o1 p p0 p1).1, fun z => ⟨(q.2.2 z).1, (o1 p p0 p1).2 z⟩⟩
  · rw [a (by decide)] at h1
    rw [a (c := 4) (by decide)] at h2 h3
    rw [a (c := 3) (by decide), a (c := 4) (by decide), a (c := 5) (by decide)]
    have hi2 := (hp i).mp hi
    have q := (v5 i hi2).1 h1
    have y := (st _ q.1 q.2).1 h2 h3
    have q2 := w2 i hi2 h1 h2 y.1
    have r := (mi i hi2.1 hi2.2.1).1 h1
    have y2 := y.2 (ga m 3 i) r.1 r.2 q2.1
    rw [y2.1, y2.2]
    exact q2
  · rw [gm 33 (by decide) (by decide), gm 34 (by decide) (by decide), gm 35 (by decide) (by decide), g39, g19]
    exact w3
  · have hi2 := (hp i).mp hi
    refine w4 i hi2 h0 ((hn i).mp h1) ?_
    rw [want_W] at hw ⊢
    rw [a (by decide), a (by decide), a (by decide), a (by decide), gm 33 (by decide) (by decide), gm 34 (by decide) (by decide), gm 35 (by decide) (by decide)] at hw
    rcases hw with hw | hw
    · have r := (mi i hi2.1 hi2.2.1).1 hw.1
      exact Or.inl ⟨hw.1, (wv _ _ r.1 r.2 hw.2).1⟩
    · exact Or.inr hw
  · rw [g3] at p1
    have y := wv p v p0 p1 hw
    obtain ⟨i, i1, i2, i3, i4, i5⟩ := w5 p v p0 p1 v0 y.1
    refine ⟨i, (hp i).mpr i1, by rw [a (by decide)]; exact i2, by rw [a (by decide)]; exact i3, by rw [a (by decide)]; exact i4, fun k1 k2 => ?_⟩
    have y2 := y.2 k1
    rw [y2.1] at k1 ⊢
    rw [y2.2] at k2
    rw [a (by decide)]
    exact i5 k1 k2
  · rw [gm 33 (by decide) (by decide), gm 34 (by decide) (by decide)]
    obtain ⟨base, b⟩ := w6
    refine ⟨base, ?_⟩
    unfold EXb at b ⊢
    simp only [hp, he, a (c := 2) (by decide), a (c := 3) (by decide), a (c := 4) (by decide), a (c := 5) (by decide), a (c := 8) (by decide), a (c := 10) (by decide), g3]
    exact b
  · rw [gm 35 (by decide) (by decide)] at z ⊢
    simp only [hp, a (c := 2) (by decide), a (c := 3) (by decide), a (c := 4) (by decide), a (c := 8) (by decide), a (c := 10) (by decide)]
    exact w7 z
theorem FO_tabs {m x m2 x2 : zH} {T n : Int} (f : FO m x T n) (s2 : SIM m2 x2) (gm : ∀ k, k ≠ 0 → k ≠ 38 → gs m2 k = gs m k) (g38 : gs m 38 ≤ gs m2 38 ∧ gs m2 38 ≤ 1000) (am : ∀ c i, c ≠ 11 → c ≠ 12 → c ≠ 13 → c ≠ 14 → c ≠ 15 → ga m2 c i = ga m c i) (a17 : ∀ i, ga x2 17 i = ga x 17 i)
    (wv : ∀ p v, 0 ≤ p → p < gs m 3 → Wv m2 p v → Wv m p v ∧ (0 < ga m2 11 p → ga m2 11 p = ga m 11 p ∧ ga m2 12 p = ga m 12 p))
    (o1 : ∀ p, 0 ≤ p → p < 64 → (ga m2 11 p = 0 ∧ ga m2 12 p = 0 ∨ (1 ≤ ga m2 11 p ∧ ga m2 11 p ≤ gs m2 38) ∧ ga m2 15 (ga m2 11 p) = 1 ∧ 1 ≤ ga m2 12 p) ∧ (gs m 3 ≤ p → ga m2 11 p = 0))
    (st : ∀ t, 0 ≤ t → t ≤ gs m 38 → (1 ≤ t → ga m2 15 t = 1 → ga m 15 t = 1 ∧ ∀ p, 0 ≤ p → p < gs m 3 → ga m 11 p = t → ga m2 11 p = ga m 11 p ∧ ga m2 12 p = ga m 12 p) ∧ (1 ≤ t → ga m 15 t = 2 → ga m2 15 t = 2)) : FO m2 x2 T n :=
  FO_tabs2 f s2 (fun k h1 h2 => gm k (by omega) h1) g38 (fun c i h1 h2 => am c i (by omega) (by omega) (by omega) (by omega) (by omega)) a17 wv o1 st
theorem bt_ad : ∀ i : Fin 4, ∀ c : Fin 16, ∀ s : Fin 4, ¬ ((c.val : Int) / 2 ^ i.val % 2 = 1) → (((c.val : Int) + 2 ^ i.val) / 2 ^ s.val % 2 = 1 ↔ s.val = i.val ∨ (c.val : Int) / 2 ^ s.val % 2 = 1) := by decide +kernel
theorem bt_sb : ∀ i : Fin 4, ∀ c : Fin 16, ∀ s : Fin 4, (c.val : Int) / 2 ^ i.val % 2 = 1 → (((c.val : Int) - 2 ^ i.val) / 2 ^ s.val % 2 = 1 ↔ s.val ≠ i.val ∧ (c.val : Int) / 2 ^ s.val % 2 = 1) := by decide +kernel
theorem bit_add {c i s : Int} (h1 : 0 ≤ i) (h2 : i < 4) (h3 : 0 ≤ c) (h4 : c < 16) (h5 : ¬ xBit c i) (s0 : 0 ≤ s) (s1 : s < 4) : xBit (c + 2 ^ i.toNat) s ↔ s = i ∨ xBit c s := by
  unfold xBit at h5 ⊢
  obtain ⟨k, rfl⟩ := bt_c h3 h4
  obtain ⟨j, rfl, e⟩ := bt_i h1 h2
  obtain ⟨l, rfl, d⟩ := bt_i s0 s1
  rw [e] at h5 ⊢
  rw [d, bt_ad j k l h5]
  constructor
  · rintro (h | h)
    · exact Or.inl (by omega)
    · exact Or.inr h
  · rintro (h | h)
    · exact Or.inl (by omega)
    · exact Or.inr h
theorem bit_sub {c i s : Int} (h1 : 0 ≤ i) (h2 : i < 4) (h3 : 0 ≤ c) (h4 : c < 16) (h5 : xBit c i) (s0 : 0 ≤ s) (s1 : s < 4) : xBit (c - 2 ^ i.toNat) s ↔ s ≠ i ∧ xBit c s := by
  unfold xBit at h5 ⊢
  obtain ⟨k, rfl⟩ := bt_c h3 h4
  obtain ⟨j, rfl, e⟩ := bt_i h1 h2
  obtain ⟨l, rfl, d⟩ := bt_i s0 s1
  rw [e] at h5 ⊢
  rw [d, bt_sb j k l h5]
  constructor
  · rintro ⟨h, g⟩
    exact ⟨by omega, g⟩
  · rintro ⟨h, g⟩
    exact ⟨by omega, g⟩

