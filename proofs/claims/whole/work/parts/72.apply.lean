/-! recovery: versions are applied one after another, on both sides -/
def Nq (m : zH) (q p w : Int) : Prop := ga m 2 q = 1 ∧ ga m 3 q = p ∧ w = ga m 5 q ∨ ga m 2 q = 2 ∧ Mx m (ga m 4 q) p w
theorem Mx_u {m : zH} {t p a b : Int} (h : Mx m t p a) (k : Mx m t p b) : a = b := by
  obtain ⟨⟨j, j1, j2, j3, j4, j5⟩, ja⟩ := h
  obtain ⟨⟨i, i1, i2, i3, i4, i5⟩, ia⟩ := k
  have := ja i i1 i2 i3 i4
  have := ia j j1 j2 j3 j4
  omega
theorem EvN {m : zH} {T : Int} (dv : Dv m T) {le q : Int} (hq : pg m q) (ha : mApp m q) (hl : le < ga m 5 q) (p w : Int) : Ev m le p (ga m 5 q) w ↔ Nq m q p w := by
  unfold Ev Nq
  constructor
  · rintro ⟨_, ⟨i, i1, i2, i3, i4, i5, i6⟩ | ⟨i, i1, i2, i3, i4⟩⟩
    · obtain ⟨c1, c2, c3, c4⟩ := (dv.2.2.1 i q i1 hq i5).1
      exact Or.inl ⟨by rw [← c1]; exact i2, by rw [← c3]; exact i4, i6⟩
    · obtain ⟨c1, c2, c3, c4⟩ := (dv.2.2.1 i q i1 hq i3).1
      exact Or.inr ⟨by rw [← c1]; exact i2, by rw [← c2]; exact i4⟩
  · rintro (⟨h1, h2, h3⟩ | ⟨h1, h2⟩)
    · have g : ga m 4 q = 0 := by
        rcases ha with z | z
        · omega
        · exact z.2
      exact ⟨hl, Or.inl ⟨q, hq, h1, g, h2, rfl, h3⟩⟩
    · exact ⟨hl, Or.inr ⟨q, hq, h1, rfl, h2⟩⟩
theorem Ev_app {m : zH} {le p c w : Int} (h : Ev m le p c w) : le < c ∧ ∃ q, pg m q ∧ mApp m q ∧ ga m 5 q = c := by
  rcases h with ⟨h0, ⟨i, i1, i2, i3, i4, i5, i6⟩ | ⟨i, i1, i2, i3, i4⟩⟩
  · exact ⟨h0, i, i1, Or.inr ⟨i2, i3⟩, i5⟩
  · exact ⟨h0, i, i1, Or.inl i2, i3⟩
theorem Ev_u {m : zH} {T : Int} (dv : Dv m T) {le p c a b : Int} (h : Ev m le p c a) (k : Ev m le p c b) : a = b := by
  obtain ⟨h0, q, q1, q2, q3⟩ := Ev_app h
  rw [← q3] at h k h0
  have x := (EvN dv q1 q2 h0 p a).mp h
  have y := (EvN dv q1 q2 h0 p b).mp k
  rcases x with x | x <;> rcases y with y | y
  · rw [x.2.2, y.2.2]
  · omega
  · omega
  · exact Mx_u x.2 y.2
/-- what a page has when the versions up to v are applied -/
def Tq (m : zH) (le : Int) (base : Int → Int) (v : Int) (tab : Int → Int) (p : Int) : Prop :=
  (∃ c w, Ev m le p c w ∧ c ≤ v ∧ (∀ c2 w2, Ev m le p c2 w2 → c2 ≤ v → c2 ≤ c) ∧ tab p = w) ∨ ((∀ c w, Ev m le p c w → v < c) ∧ tab p = base p)
noncomputable def CV (m : zH) (le v : Int) : Int := cnt (fun c => c ≤ v ∧ ∃ i, pg m i ∧ mApp m i ∧ ga m 5 i = c) (le + 1) (gs m 19 - le).toNat
theorem Tq_step {m : zH} {T : Int} (dv : Dv m T) {le v q : Int} (hv : le ≤ v) (hq : pg m q) (ha : mApp m q) (hu : v < ga m 5 q) (gap : ∀ i, pg m i → mApp m i → v < ga m 5 i → ga m 5 q ≤ ga m 5 i) {tab tab2 base : Int → Int} {p : Int} (ht : Tq m le base v tab p)
    (h2 : (∃ w, Nq m q p w ∧ tab2 p = w) ∨ ((∀ w, ¬ Nq m q p w) ∧ tab2 p = tab p)) : Tq m le base (ga m 5 q) tab2 p := by
  have ev := EvN dv hq ha (le := le) (by omega) p
  rcases h2 with ⟨w, n1, n2⟩ | ⟨n1, n2⟩
  · exact Or.inl ⟨ga m 5 q, w, (ev w).mpr n1, Int.le_refl _, fun c2 w2 _ h => h, n2⟩
  · have no : ∀ c w, Ev m le p c w → c ≤ ga m 5 q → c ≤ v := fun c w h hc => by
      obtain ⟨h0, i, i1, i2, i3⟩ := Ev_app h
      by_cases z : c = ga m 5 q
      · rw [z] at h
        exact absurd ((ev w).mp h) (n1 w)
      · refine Classical.byContradiction fun y => ?_
        have := gap i i1 i2 (by omega)
        omega
    rcases ht with ⟨c, w, t1, t2, t3, t4⟩ | ⟨t1, t2⟩
    · exact Or.inl ⟨c, w, t1, by omega, fun c2 w2 h hc => t3 c2 w2 h (no c2 w2 h hc), by rw [n2]; exact t4⟩
    · refine Or.inr ⟨fun c w h => ?_, by rw [n2]; exact t2⟩
      refine Classical.byContradiction fun y => ?_
      have := no c w h (by omega)
      have := t1 c w h
      omega
theorem cnt_plus {p q : Int → Prop} {a b : Int} : ∀ {n : Nat}, (∀ i, a ≤ i → i < a + n → i ≠ b → (p i ↔ q i)) → a ≤ b → b < a + n → ¬ p b → q b → cnt q a n = cnt p a n + 1
  | 0, _, h1, h2, _, _ => by omega
  | n + 1, h, h1, h2, h3, h4 => by
    rw [cnt, cnt]
    by_cases c : b = a + n
    · rw [cnt_c (p := q) (q := p) (n := n) (fun i i1 i2 => (h i i1 (by omega) (by omega)).symm), ← c, b2i_t h4, b2i_f h3]
      omega
    · have r := cnt_plus (n := n) (fun i i1 i2 => h i i1 (by omega)) h1 (by omega) h3 h4
      rw [r, b2i_c (h (a + n) (by omega) (by omega) (fun z => c z.symm))]
      omega
theorem CV_step {m : zH} {T : Int} (dv : Dv m T) {le v q : Int} (hv : le ≤ v) (hq : pg m q) (ha : mApp m q) (hu : v < ga m 5 q) (gap : ∀ i, pg m i → mApp m i → v < ga m 5 i → ga m 5 q ≤ ga m 5 i) : CV m le (ga m 5 q) = CV m le v + 1 := by
  have d := dv.1 q hq
  unfold CV
  refine cnt_plus (b := ga m 5 q) (fun i i1 i2 i3 => ?_) (by omega) (by omega) (fun z => by have := z.1; omega) ⟨Int.le_refl _, q, hq, ha, rfl⟩
  constructor
  · exact fun z => ⟨by have := z.1; omega, z.2⟩
  · rintro ⟨z, j, j1, j2, j3⟩
    refine ⟨?_, j, j1, j2, j3⟩
    refine Classical.byContradiction fun y => ?_
    have := gap j j1 j2 (by omega)
    omega
theorem CV_end {m : zH} {T : Int} (dv : Dv m T) {le v w : Int} (h1 : ∀ i, pg m i → mApp m i → ga m 5 i ≤ v ∨ ga m 5 i ≤ le) (h2 : ∀ i, pg m i → mApp m i → ga m 5 i ≤ w ∨ ga m 5 i ≤ le) : CV m le v = CV m le w := by
  unfold CV
  refine cnt_c (fun c c1 _ => ?_)
  constructor
  · rintro ⟨z, i, i1, i2, i3⟩
    exact ⟨by have := h2 i i1 i2; omega, i, i1, i2, i3⟩
  · rintro ⟨z, i, i1, i2, i3⟩
    exact ⟨by have := h1 i i1 i2; omega, i, i1, i2, i3⟩
theorem CV_r {m : zH} {T : Int} (dv : Dv m T) {le : Int} (l0 : 0 ≤ le) (v : Int) : 0 ≤ CV m le v ∧ CV m le v ≤ T := by
  have := cnt_r (fun c => c ≤ v ∧ ∃ i, pg m i ∧ mApp m i ∧ ga m 5 i = c) (le + 1) (gs m 19 - le).toNat
  have := dv.2.2.2.1.1
  unfold CV
  omega
theorem CV_0 {m : zH} {le : Int} : CV m le le = 0 := cnt_zero (fun i i1 _ z => by have := z.1; omega)
theorem Tq_0 {m : zH} {le : Int} {base tab : Int → Int} {p : Int} (h : tab p = base p) : Tq m le base le tab p := Or.inr ⟨fun c w k => k.1, h⟩
/-- when all is applied the page has what recovery is to find -/
theorem Tq_end {m : zH} {T : Int} (dv : Dv m T) {lt le v : Int} {cm base tab : Int → Int} (x : EXb m lt le cm base) {p : Int} (p0 : 0 ≤ p) (p1 : p < gs m 3) (h1 : ∀ i, pg m i → mApp m i → ga m 5 i ≤ v ∨ ga m 5 i ≤ le) (ht : Tq m le base v tab p) : tab p = cm p := by
  have all : ∀ c w, Ev m le p c w → c ≤ v := fun c w h => by
    obtain ⟨h0, i, i1, i2, i3⟩ := Ev_app h
    have := h1 i i1 i2
    omega
  rcases x.2.2.2.2.1 p p0 p1 with ⟨c, w, e1, e2, e3⟩ | ⟨e1, e2⟩
  · rcases ht with ⟨c2, w2, t1, t2, t3, t4⟩ | ⟨t1, t2⟩
    · have := e2 c2 w2 t1
      have := t3 c w e1 (all c w e1)
      have z : c = c2 := by omega
      rw [← z] at t1
      rw [t4, e3, Ev_u dv e1 t1]
    · have := t1 c w e1
      have := all c w e1
      omega
  · rcases ht with ⟨c2, w2, t1, t2, t3, t4⟩ | ⟨t1, t2⟩
    · exact absurd t1 (e1 c2 w2)
    · rw [t2, e2]
/-- the greatest version of a transaction's pages below place i -/
def Dq (m : zH) (t j o : Int) : Prop := ga m 2 o = 1 ∧ ga m 4 o = t ∧ ga m 3 o = j
def Gq (m : zH) (t i : Int) (f : Int → Int) (j : Int) : Prop :=
  (f j = 0 ∧ ∀ o, 0 ≤ o → o < i → ¬ Dq m t j o) ∨ ((∃ o, (0 ≤ o ∧ o < i) ∧ Dq m t j o ∧ ga m 5 o = f j) ∧ ∀ o, 0 ≤ o → o < i → Dq m t j o → ga m 5 o ≤ f j)
theorem Gq_step {m : zH} {t i j : Int} {f f2 : Int → Int} (i0 : 0 ≤ i) (hp : Dq m t j i → 1 ≤ ga m 5 i) (h : Gq m t i f j) (a : Dq m t j i ∧ f j < ga m 5 i → f2 j = ga m 5 i) (b : ¬ (Dq m t j i ∧ f j < ga m 5 i) → f2 j = f j) : Gq m t (i + 1) f2 j := by
  by_cases d : Dq m t j i
  · by_cases l : f j < ga m 5 i
    · rw [Gq, a ⟨d, l⟩]
      refine Or.inr ⟨⟨i, ⟨i0, by omega⟩, d, rfl⟩, fun o o0 o1 od => ?_⟩
      by_cases z : o = i
      · rw [z]; exact Int.le_refl _
      · rcases h with h | h
        · exact absurd od (h.2 o o0 (by omega))
        · have := h.2 o o0 (by omega) od
          omega
    · rw [Gq, b (fun z => l z.2)]
      rcases h with h | ⟨⟨o, o1, o2, o3⟩, h2⟩
      · have := hp d
        omega
      · refine Or.inr ⟨⟨o, ⟨o1.1, by omega⟩, o2, o3⟩, fun u u0 u1 ud => ?_⟩
        by_cases z : u = i
        · rw [z]; omega
        · exact h2 u u0 (by omega) ud
  · rw [Gq, b (fun z => d z.1)]
    rcases h with ⟨h1, h2⟩ | ⟨⟨o, o1, o2, o3⟩, h2⟩
    · refine Or.inl ⟨h1, fun u u0 u1 => ?_⟩
      by_cases z : u = i
      · rw [z]; exact d
      · exact h2 u u0 (by omega)
    · refine Or.inr ⟨⟨o, ⟨o1.1, by omega⟩, o2, o3⟩, fun u u0 u1 ud => ?_⟩
      by_cases z : u = i
      · rw [z] at ud; exact absurd ud d
      · exact h2 u u0 (by omega) ud
theorem Dq_pg {m : zH} {t j o : Int} (o0 : 0 ≤ o) (o1 : o < mN m) (d : Dq m t j o) : pg m o := ⟨o0, o1, by unfold mProgd; have := d.1; omega⟩
/-- the greatest of all: what a commit gives -/
theorem Gq_end {m : zH} {T : Int} (dv : Dv m T) {t j : Int} {f : Int → Int} (h : Gq m t (mN m) f j) : (0 < f j ∧ Mx m t j (f j)) ∨ (f j = 0 ∧ ∀ w, ¬ Mx m t j w) := by
  rcases h with ⟨h1, h2⟩ | ⟨⟨o, o1, o2, o3⟩, h2⟩
  · exact Or.inr ⟨h1, fun w k => by
      obtain ⟨⟨i, i1, i2, i3, i4, i5⟩, _⟩ := k
      exact h2 i i1.1 i1.2.1 ⟨i2, i3, i4⟩⟩
  · have op := Dq_pg o1.1 o1.2 o2
    have := (dv.1 o op).1
    exact Or.inl ⟨by omega, ⟨o, op, o2.1, o2.2.1, o2.2.2, o3⟩, fun u u1 u2 u3 u4 => h2 u u1.1 u1.2.1 ⟨u2, u3, u4⟩⟩
theorem acL_m {m : zH} {T : Int} (dv : Dv m T) (K t : Int) : ∀ (n : Nat) (h : zH) (i : Int), (∀ c o, 2 ≤ c → c ≤ 5 → ga h c o = ga m c o) → 0 ≤ i → i + n ≤ mN m → (∀ j, 0 ≤ j → j < K → Gq m t i (ga h 17) j) → (∀ j, 0 ≤ j → j < K → Gq m t (i + n) (ga (m_acL n h t i) 17) j) ∧ ∀ c o, c ≠ 17 → ga (m_acL n h t i) c o = ga h c o := by
  intro n
  induction n with
  | zero =>
    intro h i e i0 i1 g
    exact ⟨by rw [show i + ((0 : Nat) : Int) = i by omega]; exact g, fun _ _ _ => rfl⟩
  | succ n ih =>
    intro h i e i0 i1 g
    rw [m_acL]
    have hp (j : Int) (d : Dq m t j i) : 1 ≤ ga m 5 i := (dv.1 i (Dq_pg i0 (by omega) d)).1
    have ea : ∀ c o, c ≠ 17 → ga (ifp (ga h 2 i = 1 ∧ ga h 4 i = t ∧ ga h 17 (ga h 3 i) < ga h 5 i) (pa h 17 (ga h 3 i) (ga h 5 i)) h) c o = ga h c o := fun c o hc => by
      rw [ga_if, ga_pa, if_neg (fun z => hc z.1), ifp_same]
    have q := ih (ifp (ga h 2 i = 1 ∧ ga h 4 i = t ∧ ga h 17 (ga h 3 i) < ga h 5 i) (pa h 17 (ga h 3 i) (ga h 5 i)) h) (i + 1) (fun c o c1 c2 => by rw [ea c o (by omega)]; exact e c o c1 c2) (by omega) (by omega) (fun j j0 j1 => by
      refine Gq_step i0 (hp j) (g j j0 j1) (fun z => ?_) (fun z => ?_)
      · obtain ⟨⟨d1, d2, d3⟩, d4⟩ := z
        rw [ifp_t ⟨by rw [e 2 i (by decide) (by decide)]; exact d1, by rw [e 4 i (by decide) (by decide)]; exact d2, by rw [e 3 i (by decide) (by decide), e 5 i (by decide) (by decide), d3]; exact d4⟩, ga_pa, if_pos ⟨rfl, by rw [e 3 i (by decide) (by decide)]; exact d3.symm⟩, e 5 i (by decide) (by decide)]
      · rw [e 2 i (by decide) (by decide), e 3 i (by decide) (by decide), e 4 i (by decide) (by decide), e 5 i (by decide) (by decide)]
        by_cases y : ga m 2 i = 1 ∧ ga m 4 i = t ∧ ga h 17 (ga m 3 i) < ga m 5 i
        · rw [ifp_t y, ga_pa]
          by_cases w : j = ga m 3 i
          · exact absurd ⟨⟨y.1, y.2.1, w.symm⟩, by rw [w]; exact y.2.2⟩ z
          · rw [if_neg (fun v => w v.2)]
        · rw [ifp_f y])
    rw [show i + ((n + 1 : Nat) : Int) = i + 1 + n by omega]
    exact ⟨q.1, fun c o hc => (q.2 c o hc).trans (ea c o hc)⟩
theorem acL_x {m : zH} {T : Int} (dv : Dv m T) (mi : MI m) (L : gs m 3 ≤ 64) (t : Int) : ∀ (n : Nat) (h : zH) (i : Int), (∀ o, 0 ≤ o → o < mN m → ga h 10 o = ga m 2 o ∧ (mProgd m o → ga h 11 o = ga m 3 o ∧ ga h 12 o = ga m 4 o ∧ ga h 13 o = ga m 5 o)) → 0 ≤ i → i + n ≤ mN m → (∀ j, 0 ≤ j → j < 64 → Gq m t i (ga h 26) j) → (∀ j, 0 ≤ j → j < 64 → Gq m t (i + n) (ga (x_acL n h t i) 26) j) ∧ ∀ c o, c ≠ 26 → ga (x_acL n h t i) c o = ga h c o := by
  intro n
  induction n with
  | zero =>
    intro h i e i0 i1 g
    exact ⟨by rw [show i + ((0 : Nat) : Int) = i by omega]; exact g, fun _ _ _ => rfl⟩
  | succ n ih =>
    intro h i e i0 i1 g
    rw [x_acL]
    have hp (j : Int) (d : Dq m t j i) : 1 ≤ ga m 5 i := (dv.1 i (Dq_pg i0 (by omega) d)).1
    obtain ⟨k1, k2⟩ := e i i0 (by omega)
    have cond : (ga h 10 i = 1 ∧ ga h 12 i = t ∧ 0 ≤ ga h 11 i ∧ ga h 11 i < 64) ↔ (ga m 2 i = 1 ∧ ga m 4 i = t) := by
      rw [k1]
      constructor
      · rintro ⟨a, b, _⟩
        exact ⟨a, by rw [← (k2 (by unfold mProgd; omega)).2.1]; exact b⟩
      · rintro ⟨a, b⟩
        have w := k2 (by unfold mProgd; omega)
        have r := (mi i i0 (by show i < mN m; omega)).1 a
        rw [w.1, w.2.1]
        exact ⟨a, b, r.1, by omega⟩
    by_cases y : ga m 2 i = 1 ∧ ga m 4 i = t
    · have w := k2 (by unfold mProgd; omega)
      rw [ifp_t (cond.mpr y), w.1, w.2.2]
      have q := ih (pa h 26 (ga m 3 i) (if ga h 26 (ga m 3 i) < ga m 5 i then ga m 5 i else ga h 26 (ga m 3 i))) (i + 1) (fun o o0 o1 => by
        rw [ga_pa, if_neg (by omega), ga_pa, if_neg (by omega), ga_pa, if_neg (by omega), ga_pa, if_neg (by omega)]
        exact e o o0 o1) (by omega) (by omega) (fun j j0 j1 => by
        refine Gq_step i0 (hp j) (g j j0 j1) (fun z => ?_) (fun z => ?_)
        · obtain ⟨⟨d1, d2, d3⟩, d4⟩ := z
          rw [ga_pa, if_pos ⟨rfl, d3.symm⟩, d3, if_pos d4]
        · rw [ga_pa]
          by_cases v : j = ga m 3 i
          · rw [if_pos ⟨rfl, v⟩, ← v, if_neg (fun u => z ⟨⟨y.1, y.2, v.symm⟩, u⟩)]
          · rw [if_neg (fun u => v u.2)])
      rw [show i + ((n + 1 : Nat) : Int) = i + 1 + n by omega]
      exact ⟨q.1, fun c o hc => (q.2 c o hc).trans (by rw [ga_pa, if_neg (fun z => hc z.1)])⟩
    · rw [ifp_f (fun z => y (cond.mp z))]
      have q := ih h (i + 1) e (by omega) (by omega) (fun j j0 j1 => Gq_step i0 (hp j) (g j j0 j1) (fun z => absurd ⟨z.1.1, z.1.2.1⟩ y) (fun _ => rfl))
      rw [show i + ((n + 1 : Nat) : Int) = i + 1 + n by omega]
      exact q

