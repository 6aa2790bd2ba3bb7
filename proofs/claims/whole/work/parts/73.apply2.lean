/-! recovery: the loops that apply -/
theorem ac_m {m h : zH} {T : Int} (dv : Dv m T) (mb : MB m) (f : Fs m h) (t p : Int) : (0 ≤ p → p < gs m 3 → ((∃ w, Mx m t p w ∧ ga (m_ac h t) 10 p = w) ∨ ((∀ w, ¬ Mx m t p w) ∧ ga (m_ac h t) 10 p = ga h 10 p))) ∧ (¬ (0 ≤ p ∧ p < gs m 3) → ga (m_ac h t) 10 p = ga h 10 p) := by
  have g (k : Nat) (hk : k = 1 ∨ k = 2 ∨ k = 3) : gs h k = gs m k := f.1 k (by omega) (by omega) (by omega)
  have hN : gs h 1 * gs h 2 = mN m := by rw [g 1 (by decide), g 2 (by decide)]; rfl
  have nr := mN_r mb
  have q := acL_m dv (gs m 3) t (mN m).toNat (prr h 17 0 (gs m 3) 0) 0 (fun c o c1 c2 => by rw [ga_prr, if_neg (by omega)]; exact f.2 c o (by omega) (by omega)) (Int.le_refl _) (by omega) (fun j j0 j1 => Or.inl ⟨by rw [ga_prr, if_pos ⟨rfl, j0, j1⟩], fun o o0 o1 => by omega⟩)
  have e10 : ga (m_acL (mN m).toNat (prr h 17 0 (gs m 3) 0) t 0) 10 p = ga h 10 p := (q.2 10 p (by decide)).trans (by rw [ga_prr, if_neg (by omega)])
  unfold m_ac
  rw [hN, g 3 (by decide), ga_ac3, e10]
  refine ⟨fun p0 p1 => ?_, fun z => by rw [if_neg (fun y => z ⟨y.2.1, y.2.2.1⟩)]⟩
  have w := q.1 p p0 p1
  rw [show (0 : Int) + ((mN m).toNat : Int) = mN m by omega] at w
  rcases Gq_end dv w with ⟨y1, y2⟩ | ⟨y1, y2⟩
  · exact Or.inl ⟨_, y2, by rw [if_pos ⟨rfl, p0, p1, y1⟩]⟩
  · exact Or.inr ⟨y2, by rw [if_neg (by omega)]⟩
theorem app0_m {m h : zH} {T : Int} (dv : Dv m T) (mb : MB m) (mi : MI m) (f : Fs m h) {q : Int} (hq : pg m q) (ha : mApp m q) (p : Int) : (0 ≤ p → p < gs m 3 → ((∃ w, Nq m q p w ∧ ga (m_app0 h q) 10 p = w) ∨ ((∀ w, ¬ Nq m q p w) ∧ ga (m_app0 h q) 10 p = ga h 10 p))) ∧ (¬ (0 ≤ p ∧ p < gs m 3) → ga (m_app0 h q) 10 p = ga h 10 p) := by
  have a (c : Nat) (hc : 2 ≤ c ∧ c ≤ 5) : ga h c q = ga m c q := f.2 c q (by omega) (by omega)
  have r := ac_m dv mb f (ga m 4 q) p
  unfold m_app0
  rw [a 2 (by decide), a 3 (by decide), a 4 (by decide), a 5 (by decide)]
  by_cases z : ga m 2 q = 2
  · rw [ifp_t z]
    refine ⟨fun p0 p1 => ?_, r.2⟩
    rcases r.1 p0 p1 with ⟨w, w1, w2⟩ | ⟨w1, w2⟩
    · exact Or.inl ⟨w, Or.inr ⟨z, w1⟩, w2⟩
    · refine Or.inr ⟨fun w k => ?_, w2⟩
      rcases k with k | k
      · omega
      · exact w1 w k.2
  · have h1 : ga m 2 q = 1 := by
      rcases ha with y | y
      · exact absurd y z
      · exact y.1
    have ri := (mi q hq.1 hq.2.1).1 h1
    rw [ifp_f z, ga_pa]
    by_cases e : p = ga m 3 q
    · rw [if_pos ⟨rfl, e⟩]
      exact ⟨fun _ _ => Or.inl ⟨_, Or.inl ⟨h1, e.symm, rfl⟩, rfl⟩, fun y => absurd (by rw [e]; exact ri) y⟩
    · rw [if_neg (fun y => e y.2)]
      refine ⟨fun _ _ => Or.inr ⟨fun w k => ?_, rfl⟩, fun _ => rfl⟩
      rcases k with k | k
      · exact e k.2.1.symm
      · exact z k.1
theorem gs_app0 (h : zH) (p : Int) (k : Nat) : gs (m_app0 h p) k = gs h k := by
  have ac : ∀ (n : Nat) (h : zH) (t i : Int), gs (m_acL n h t i) k = gs h k := by
    intro n
    induction n with
    | zero => intro h t i; rfl
    | succ n ih =>
      intro h t i
      rw [m_acL, ih, gs_if, gs_pa, ifp_same]
  unfold m_app0
  rw [gs_if]
  have e : gs (m_ac h (ga h 4 p)) k = gs h k := by
    unfold m_ac
    exact ac _ _ _ _
  rw [e, gs_pa, ifp_same]
theorem mNAL_s (h : zH) (v : Int) : ∀ n : Nat, (mNAL h v n = -1 ∧ ∀ i : Int, 0 ≤ i → i < n → mApp h i → ga h 5 i ≤ v) ∨ ((0 ≤ mNAL h v n ∧ mNAL h v n < n) ∧ mApp h (mNAL h v n) ∧ v < ga h 5 (mNAL h v n) ∧ ∀ i : Int, 0 ≤ i → i < n → mApp h i → v < ga h 5 i → ga h 5 (mNAL h v n) ≤ ga h 5 i)
  | 0 => Or.inl ⟨rfl, fun i _ _ => by omega⟩
  | n + 1 => by
    have q := mNAL_s h v n
    rw [mNAL]
    by_cases c : mApp h n ∧ v < ga h 5 n ∧ (mNAL h v n = -1 ∨ ga h 5 n < ga h 5 (mNAL h v n))
    · rw [ifp_t c]
      refine Or.inr ⟨⟨by omega, by omega⟩, c.1, c.2.1, fun i i0 i1 ia iv => ?_⟩
      by_cases z : i = n
      · rw [z]; exact Int.le_refl _
      · rcases q with ⟨q1, q2⟩ | ⟨q1, q2, q3, q4⟩
        · have := q2 i i0 (by omega) ia; omega
        · have := q4 i i0 (by omega) ia iv
          have := c.2.2
          omega
    · rw [ifp_f c]
      rcases q with ⟨q1, q2⟩ | ⟨q1, q2, q3, q4⟩
      · refine Or.inl ⟨q1, fun i i0 i1 ia => ?_⟩
        by_cases z : i = n
        · rw [z] at ia ⊢
          exact Classical.byContradiction fun y => c ⟨ia, by omega, Or.inl q1⟩
        · exact q2 i i0 (by omega) ia
      · refine Or.inr ⟨⟨q1.1, by omega⟩, q2, q3, fun i i0 i1 ia iv => ?_⟩
        by_cases z : i = n
        · rw [z] at ia iv ⊢
          exact Classical.byContradiction fun y => c ⟨ia, iv, Or.inr (by omega)⟩
        · exact q4 i i0 (by omega) ia iv
theorem mNA_s {m h : zH} (mb : MB m) (f : Fs m h) (v : Int) : (mNA h v = -1 ∧ ∀ i, pg m i → mApp m i → ga m 5 i ≤ v) ∨ (pg m (mNA h v) ∧ mApp m (mNA h v) ∧ v < ga m 5 (mNA h v) ∧ ∀ i, pg m i → mApp m i → v < ga m 5 i → ga m 5 (mNA h v) ≤ ga m 5 i) := by
  have g (k : Nat) (hk : k = 1 ∨ k = 2) : gs h k = gs m k := f.1 k (by omega) (by omega) (by omega)
  have hN : gs h 1 * gs h 2 = mN m := by rw [g 1 (by decide), g 2 (by decide)]; rfl
  have a (c : Nat) (i : Int) (hc : c = 2 ∨ c = 4 ∨ c = 5) : ga h c i = ga m c i := f.2 c i (by omega) (by omega)
  have ap (i : Int) : mApp h i ↔ mApp m i := by unfold mApp; rw [a 2 i (by decide), a 4 i (by decide)]
  have nr := mN_r mb
  have q := mNAL_s h v (mN m).toNat
  unfold mNA
  rw [hN]
  simp only [ap, a 5 _ (by decide)] at q
  rcases q with ⟨q1, q2⟩ | ⟨q1, q2, q3, q4⟩
  · exact Or.inl ⟨q1, fun i h ia => q2 i h.1 (by have := h.2.1; omega) ia⟩
  · exact Or.inr ⟨⟨q1.1, by omega, by unfold mProgd; unfold mApp at q2; omega⟩, q2, q3, fun i h ia iv => q4 i h.1 (by have := h.2.1; omega) ia iv⟩
theorem MAA {m : zH} {T lt le : Int} {cm base : Int → Int} (dv : Dv m T) (hT : T ≤ 2147483000) (mb : MB m) (mi : MI m) (l0 : 0 ≤ le) (x : EXb m lt le cm base) : ∀ (n : Nat) (h : zH) (v : Int), Fs m h → le ≤ v → (∀ p, 0 ≤ p → p < gs m 3 → Tq m le base v (ga h 10) p) → gs h 36 = CV m le v → cnt (fun i => mApp m i ∧ v < ga m 5 i) 0 (mN m).toNat < n →
    Fs m (m_aaL n h (mNA h v)) ∧ (∀ p, 0 ≤ p → p < gs m 3 → ga (m_aaL n h (mNA h v)) 10 p = cm p) ∧ (∀ p, ¬ (0 ≤ p ∧ p < gs m 3) → ga (m_aaL n h (mNA h v)) 10 p = ga h 10 p) ∧ gs (m_aaL n h (mNA h v)) 36 = CV m le (gs m 19) ∧ gs (m_aaL n h (mNA h v)) 33 = gs h 33 ∧ gs (m_aaL n h (mNA h v)) 34 = gs h 34 := by
  intro n
  induction n with
  | zero =>
    intro h v f hv ht hc hn
    have := (cnt_r (fun i => mApp m i ∧ v < ga m 5 i) 0 (mN m).toNat).1
    omega
  | succ n ih =>
    intro h v f hv ht hc hn
    rcases mNA_s mb f v with ⟨q1, q2⟩ | ⟨q1, q2, q3, q4⟩
    · rw [m_aaL, ifp_t q1]
      refine ⟨f, fun p p0 p1 => Tq_end dv x p0 p1 (fun i i1 i2 => Or.inl (q2 i i1 i2)) (ht p p0 p1), fun _ _ => rfl, ?_, rfl, rfl⟩
      rw [hc]
      exact CV_end dv (fun i i1 i2 => Or.inl (q2 i i1 i2)) (fun i i1 i2 => Or.inl (by have := dv.1 i i1; omega))
    · generalize mNA h v = q at q1 q2 q3 q4 ⊢
      rw [m_aaL, ifp_f (by have := q1.1; omega)]
      have f1 := f.tr (Fs_app1 h q)
      have e5 : ga (m_app1 h q) 5 q = ga m 5 q := f1.2 5 q (by decide) (by decide)
      have ap := app0_m dv mb mi f q1 q2
      have a10 (p : Int) : ga (m_app1 h q) 10 p = ga (m_app0 h q) 10 p := rfl
      have cs := CV_step dv hv q1 q2 q3 q4
      have cr := CV_r dv l0 (ga m 5 q)
      rw [e5]
      have r := ih (m_app1 h q) (ga m 5 q) f1 (by omega) (fun p p0 p1 => Tq_step dv hv q1 q2 q3 q4 (ht p p0 p1) (by simp only [a10]; exact (ap p).1 p0 p1)) (by
        show wr (gs (m_app0 h q) 36 + 1) = _
        rw [gs_app0, hc, wr_id (by omega) (by omega)]
        omega) (by
        have w := cnt_lt (p := fun i => mApp m i ∧ ga m 5 q < ga m 5 i) (q := fun i => mApp m i ∧ v < ga m 5 i) (a := 0) (b := q) (n := (mN m).toNat) (fun i _ _ z => ⟨z.1, by have := z.2; omega⟩) q1.1 (by have := q1.2.1; omega) (fun z => by have := z.2; omega) ⟨q2, q3⟩
        omega)
      obtain ⟨r1, r2, r3, r4, r5, r6⟩ := r
      refine ⟨r1, r2, fun p z => (r3 p z).trans (by rw [a10]; exact (ap p).2 z), r4, r5.trans ?_, r6.trans ?_⟩
      · show gs (ps (m_app0 h q) 36 _) 33 = _
        rw [gs_ps, if_neg (by decide), gs_app0]
      · show gs (ps (m_app0 h q) 36 _) 34 = _
        rw [gs_ps, if_neg (by decide), gs_app0]
/-- the class's pages are the reference's -/
def Px (m h : zH) : Prop := (∀ o, 0 ≤ o → o < mN m → ga h 10 o = ga m 2 o ∧ (mProgd m o → ga h 11 o = ga m 3 o ∧ ga h 12 o = ga m 4 o ∧ ga h 13 o = ga m 5 o)) ∧ gs h 72 = mN m ∧ gs h 104 = gs m 3
theorem Px_FA {m h h2 : zH} (p : Px m h) (f : FA h h2) : Px m h2 := ⟨fun o o0 o1 => by
  rw [f.2 10 o (by decide) (by decide), f.2 11 o (by decide) (by decide), f.2 12 o (by decide) (by decide), f.2 13 o (by decide) (by decide)]
  exact p.1 o o0 o1, by rw [f.1]; exact p.2.1, by rw [f.1]; exact p.2.2⟩
theorem ac_x {m h : zH} {T : Int} (dv : Dv m T) (mb : MB m) (mi : MI m) (px : Px m h) (t p : Int) : (0 ≤ p → p < gs m 3 → ((∃ w, Mx m t p w ∧ ga (x_ac h t) 21 p = w) ∨ ((∀ w, ¬ Mx m t p w) ∧ ga (x_ac h t) 21 p = ga h 21 p))) ∧ (¬ (0 ≤ p ∧ p < gs m 3) → ga (x_ac h t) 21 p = ga h 21 p) := by
  have nr := mN_r mb
  have L := mb.2.2.2.2
  have q := acL_x dv mi L.2 t (mN m).toNat (prr h 26 0 64 0) 0 (fun o o0 o1 => by
    rw [ga_prr, if_neg (by omega), ga_prr, if_neg (by omega), ga_prr, if_neg (by omega), ga_prr, if_neg (by omega)]
    exact px.1 o o0 o1) (Int.le_refl _) (by omega) (fun j j0 j1 => Or.inl ⟨by rw [ga_prr, if_pos ⟨rfl, j0, j1⟩], fun o o0 o1 => by omega⟩)
  have e104 : gs (x_acL (mN m).toNat (prr h 26 0 64 0) t 0) 104 = gs m 3 := ((FA_acL _ _ _ _).1 104).trans px.2.2
  have e21 : ga (x_acL (mN m).toNat (prr h 26 0 64 0) t 0) 21 p = ga h 21 p := (q.2 21 p (by decide)).trans (by rw [ga_prr, if_neg (by omega)])
  unfold x_ac
  rw [px.2.1, ga_xac3, e21, e104]
  refine ⟨fun p0 p1 => ?_, fun z => by rw [if_neg (fun y => z ⟨y.2.1, y.2.2.2.1⟩)]⟩
  have w := q.1 p p0 (by omega)
  rw [show (0 : Int) + ((mN m).toNat : Int) = mN m by omega] at w
  rcases Gq_end dv w with ⟨y1, y2⟩ | ⟨y1, y2⟩
  · exact Or.inl ⟨_, y2, by rw [if_pos ⟨rfl, p0, by omega, p1, y1⟩]⟩
  · exact Or.inr ⟨y2, by rw [if_neg (by omega)]⟩
theorem ap1_x {m h : zH} {T : Int} (dv : Dv m T) (mb : MB m) (mi : MI m) (px : Px m h) {q : Int} (hq : pg m q) (ha : mApp m q) (p : Int) : (0 ≤ p → p < gs m 3 → ((∃ w, Nq m q p w ∧ ga (x_ap1 h q) 21 p = w) ∨ ((∀ w, ¬ Nq m q p w) ∧ ga (x_ap1 h q) 21 p = ga h 21 p))) ∧ (¬ (0 ≤ p ∧ p < gs m 3) → ga (x_ap1 h q) 21 p = ga h 21 p) := by
  obtain ⟨k1, k2⟩ := px.1 q hq.1 hq.2.1
  obtain ⟨k3, k4, k5⟩ := k2 hq.2.2
  have r := ac_x dv mb mi px (ga m 4 q) p
  unfold x_ap1
  rw [k1, k3, k4, k5]
  by_cases z : ga m 2 q = 1
  · have ri := (mi q hq.1 hq.2.1).1 z
    have e : x_setC h (ga m 3 q) (ga m 5 q) = pa h 21 (ga m 3 q) (ga m 5 q) := ifp_t ⟨ri.1, by rw [px.2.2]; exact ri.2⟩
    rw [ifp_t z, e, ga_pa]
    by_cases e : p = ga m 3 q
    · rw [if_pos ⟨rfl, e⟩]
      exact ⟨fun _ _ => Or.inl ⟨_, Or.inl ⟨z, e.symm, rfl⟩, rfl⟩, fun y => absurd (by rw [e]; exact ri) y⟩
    · rw [if_neg (fun y => e y.2)]
      refine ⟨fun _ _ => Or.inr ⟨fun w k => ?_, rfl⟩, fun _ => rfl⟩
      rcases k with k | k
      · exact e k.2.1.symm
      · omega
  · have h1 : ga m 2 q = 2 := by
      rcases ha with y | y
      · exact y
      · exact absurd y.1 z
    rw [ifp_f z]
    refine ⟨fun p0 p1 => ?_, r.2⟩
    rcases r.1 p0 p1 with ⟨w, w1, w2⟩ | ⟨w1, w2⟩
    · exact Or.inl ⟨w, Or.inr ⟨h1, w1⟩, w2⟩
    · refine Or.inr ⟨fun w k => ?_, w2⟩
      rcases k with k | k
      · omega
      · exact w1 w k.2
theorem XAP {m h1 : zH} {T lt le N : Int} {cm base : Int → Int} (dv : Dv m T) (mb : MB m) (mi : MI m) (l0 : 0 ≤ le) (x : EXb m lt le cm base) (px : Px m h1)
    (ls : ∀ j, 0 ≤ j → j < N → pg m (ga h1 25 j) ∧ mApp m (ga h1 25 j) ∧ le < ga m 5 (ga h1 25 j)) (sj : ∀ i, pg m i → mApp m i → le < ga m 5 i → ∃ j, 0 ≤ j ∧ j < N ∧ ga h1 25 j = i) (sd : ∀ a b, 0 ≤ a → a < b → b < N → ga m 5 (ga h1 25 a) ≤ ga m 5 (ga h1 25 b)) :
    ∀ (n : Nat) (h : zH) (i last c v : Int), FA h1 h → 0 ≤ i → i + n = N → (i = 0 ∧ last = 0 ∧ v = le ∨ 0 < i ∧ last = ga m 5 (ga h1 25 (i - 1)) ∧ v = last) → (∀ p, 0 ≤ p → p < gs m 3 → Tq m le base v (ga h 21) p) → c = CV m le v →
    (∀ p, 0 ≤ p → p < gs m 3 → ga (x_apL n h i last c).1 21 p = cm p) ∧ (∀ p, ¬ (0 ≤ p ∧ p < gs m 3) → ga (x_apL n h i last c).1 21 p = ga h 21 p) ∧ (x_apL n h i last c).2 = CV m le (gs m 19) := by
  intro n
  induction n with
  | zero =>
    intro h i last c v f i0 i1 hl ht hc
    have fin : ∀ q, pg m q → mApp m q → ga m 5 q ≤ v ∨ ga m 5 q ≤ le := fun q q1 q2 => by
      by_cases z : le < ga m 5 q
      · obtain ⟨j, j0, j1, j2⟩ := sj q q1 q2 z
        rcases hl with hl | hl
        · omega
        · left
          rw [hl.2.2, hl.2.1, ← j2]
          by_cases y : j = i - 1
          · rw [y]; exact Int.le_refl _
          · exact sd j (i - 1) j0 (by omega) (by omega)
      · exact Or.inr (by omega)
    refine ⟨fun p p0 p1 => Tq_end dv x p0 p1 fin (ht p p0 p1), fun _ _ => rfl, ?_⟩
    show c = _
    rw [hc]
    exact CV_end dv fin (fun i i1 i2 => Or.inl (by have := dv.1 i i1; omega))
  | succ n ih =>
    intro h i last c v f i0 i1 hl ht hc
    obtain ⟨q1, q2, q3⟩ := ls i i0 (by omega)
    have e25 : ga h 25 i = ga h1 25 i := f.2 25 i (by decide) (by decide)
    have px2 := Px_FA px f
    rw [x_apL, e25]
    have e13 : ga h 13 (ga h1 25 i) = ga m 5 (ga h1 25 i) := ((px2.1 _ q1.1 q1.2.1).2 q1.2.2).2.2
    rw [e13]
    have nx : (i + 1 = 0 ∧ ga m 5 (ga h1 25 i) = 0 ∧ ga m 5 (ga h1 25 i) = le ∨ 0 < i + 1 ∧ ga m 5 (ga h1 25 i) = ga m 5 (ga h1 25 (i + 1 - 1)) ∧ ga m 5 (ga h1 25 i) = ga m 5 (ga h1 25 i)) := Or.inr ⟨by omega, by rw [show i + 1 - 1 = i by omega], rfl⟩
    by_cases z : ga m 5 (ga h1 25 i) ≠ last
    · rw [ifp_t z]
      have hv : le ≤ v ∧ v < ga m 5 (ga h1 25 i) := by
        rcases hl with hl | hl
        · omega
        · have a1 := (ls (i - 1) (by omega) (by omega)).2.2
          have a2 := sd (i - 1) i (by omega) (by omega) (by omega)
          omega
      have gap : ∀ q, pg m q → mApp m q → v < ga m 5 q → ga m 5 (ga h1 25 i) ≤ ga m 5 q := fun q w1 w2 w3 => by
        obtain ⟨j, j0, j1, j2⟩ := sj q w1 w2 (by omega)
        rw [← j2] at w3 ⊢
        by_cases y : j < i
        · rcases hl with hl | hl
          · omega
          · by_cases u : j = i - 1
            · rw [u] at w3; omega
            · have := sd j (i - 1) j0 (by omega) (by omega)
              omega
        · by_cases u : j = i
          · rw [u]; exact Int.le_refl _
          · exact sd i j i0 (by omega) j1
      have ap := ap1_x dv mb mi px2 q1 q2
      have r := ih (x_ap1 h (ga h1 25 i)) (i + 1) (ga m 5 (ga h1 25 i)) (c + 1) (ga m 5 (ga h1 25 i)) (FA.tr f (FA_ap1 h _)) (by omega) (by omega) nx (fun p p0 p1 => Tq_step dv hv.1 q1 q2 hv.2 gap (ht p p0 p1) ((ap p).1 p0 p1)) (by rw [CV_step dv hv.1 q1 q2 hv.2 gap, hc])
      exact ⟨r.1, fun p y => (r.2.1 p y).trans ((ap p).2 y), r.2.2⟩
    · rw [ifp_f z]
      have e : ga m 5 (ga h1 25 i) = last := Classical.byContradiction z
      have hv : v = ga m 5 (ga h1 25 i) := by
        rcases hl with hl | hl
        · omega
        · omega
      rw [hv] at ht hc
      exact ih h (i + 1) (ga m 5 (ga h1 25 i)) c (ga m 5 (ga h1 25 i)) f (by omega) (by omega) nx ht hc

