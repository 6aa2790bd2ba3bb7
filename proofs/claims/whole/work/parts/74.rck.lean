/-! recovery: the checkpoint is read, on both sides -/
theorem mLE_s (h : zH) : ∀ n : Nat, (mLE h n = -1 ∧ ∀ i : Int, 0 ≤ i → i < n → ga h 2 i ≠ 4) ∨ ((0 ≤ mLE h n ∧ mLE h n < n) ∧ ga h 2 (mLE h n) = 4 ∧ ∀ i : Int, 0 ≤ i → i < n → ga h 2 i = 4 → ga h 5 i ≤ ga h 5 (mLE h n))
  | 0 => Or.inl ⟨rfl, fun i _ _ => by omega⟩
  | n + 1 => by
    have q := mLE_s h n
    rw [mLE]
    by_cases c : ga h 2 n = 4 ∧ (mLE h n = -1 ∨ ga h 5 (mLE h n) < ga h 5 n)
    · rw [ifp_t c]
      refine Or.inr ⟨⟨by omega, by omega⟩, c.1, fun i i0 i1 ik => ?_⟩
      by_cases z : i = n
      · rw [z]; exact Int.le_refl _
      · rcases q with ⟨q1, q2⟩ | ⟨q1, q2, q3⟩
        · exact absurd ik (q2 i i0 (by omega))
        · have := q3 i i0 (by omega) ik
          omega
    · rw [ifp_f c]
      rcases q with ⟨q1, q2⟩ | ⟨q1, q2, q3⟩
      · refine Or.inl ⟨q1, fun i i0 i1 => ?_⟩
        by_cases z : i = n
        · rw [z]; exact fun y => c ⟨y, Or.inl q1⟩
        · exact q2 i i0 (by omega)
      · refine Or.inr ⟨⟨q1.1, by omega⟩, q2, fun i i0 i1 ik => ?_⟩
        by_cases z : i = n
        · rw [z] at ik ⊢
          exact Classical.byContradiction fun y => c ⟨ik, Or.inr (by omega)⟩
        · exact q3 i i0 (by omega) ik
theorem end_v {m x : zH} (s : SIM m x) : ∀ n : Nat, (n : Int) ≤ mN m → xLE x n = mLE m n
  | 0, _ => rfl
  | n + 1, h => by
    have ih := end_v s n (by omega)
    have q := mLE_s m n
    have k := s.2.2.2.1 n (by omega) (by omega)
    rw [xLE, mLE, ih, k.1.1]
    have cc : (ga m 2 n = 4 ∧ (mLE m n < 0 ∨ ga x 13 (mLE m n) < ga x 13 n)) ↔ (ga m 2 n = 4 ∧ (mLE m n = -1 ∨ ga m 5 (mLE m n) < ga m 5 n)) := by
      constructor
      · rintro ⟨a, b⟩
        have e := (k.2.1 (by unfold mProgd; omega)).2.2.1
        refine ⟨a, ?_⟩
        rcases q with ⟨q1, _⟩ | ⟨q1, q2, _⟩
        · exact Or.inl q1
        · have e2 := ((s.2.2.2.1 _ q1.1 (by omega)).2.1 (by unfold mProgd; omega)).2.2.1
          rw [e, e2] at b
          exact Or.inr (by omega)
      · rintro ⟨a, b⟩
        have e := (k.2.1 (by unfold mProgd; omega)).2.2.1
        refine ⟨a, ?_⟩
        rcases q with ⟨q1, _⟩ | ⟨q1, q2, _⟩
        · exact Or.inl (by omega)
        · have e2 := ((s.2.2.2.1 _ q1.1 (by omega)).2.1 (by unfold mProgd; omega)).2.2.1
          rw [e, e2]
          exact Or.inr (by omega)
    by_cases z : ga m 2 n = 4 ∧ (mLE m n = -1 ∨ ga m 5 (mLE m n) < ga m 5 n)
    · rw [ifp_t z, ifp_t (cc.mpr z)]
    · rw [ifp_f z, ifp_f (fun y => z (cc.mp y))]
theorem forgets_id {m : zH} (z : Zt m) : m_forgets m = m := by
  obtain ⟨z1, z2, z3, z4, z5, z6, z7⟩ := z
  apply zH_ext
  · intro k
    simp only [m_forgets, gs_ps, gs_prr]
    by_cases h36 : k = 36
    · rw [if_pos h36, h36, z7]
    · rw [if_neg h36]
      by_cases h35 : k = 35
      · rw [if_pos h35, h35, z6]
      · rw [if_neg h35]
        by_cases h34 : k = 34
        · rw [if_pos h34, h34, z5]
        · rw [if_neg h34]
          by_cases h33 : k = 33
          · rw [if_pos h33, h33, z4]
          · rw [if_neg h33]
            by_cases h32 : k = 32
            · rw [if_pos h32, h32, z3]
            · rw [if_neg h32]
  · intro c i
    simp only [m_forgets, ga_ps, ga_prr]
    by_cases h14 : c = 14 ∧ 0 ≤ i ∧ i < 4
    · rw [if_pos h14, h14.1, z2 i h14.2.1 h14.2.2]
    · rw [if_neg h14]
      by_cases h12 : c = 12 ∧ 0 ≤ i ∧ i < 64
      · rw [if_pos h12, h12.1, (z1 i h12.2.1 h12.2.2).2.2]
      · rw [if_neg h12]
        by_cases h11 : c = 11 ∧ 0 ≤ i ∧ i < 64
        · rw [if_pos h11, h11.1, (z1 i h11.2.1 h11.2.2).2.1]
        · rw [if_neg h11]
          by_cases h10 : c = 10 ∧ 0 ≤ i ∧ i < 64
          · rw [if_pos h10, h10.1, (z1 i h10.2.1 h10.2.2).1]
          · rw [if_neg h10]
/-- the parts of checkpoint lt below place i stand in the table -/
def Rq (m : zH) (lt : Int) (base : Int → Int) (i : Int) (tab : Int → Int) (p : Int) : Prop := (∃ o, (0 ≤ o ∧ o < i) ∧ ga m 2 o = 3 ∧ ga m 4 o = lt ∧ ga m 3 o = p / 8) ∧ tab p = base p ∨ (∀ o, 0 ≤ o → o < i → ga m 2 o = 3 → ga m 4 o = lt → ga m 3 o ≠ p / 8) ∧ tab p = 0
theorem Rq_step {m : zH} {lt i p : Int} {base tab tab2 : Int → Int} (i0 : 0 ≤ i) (h : Rq m lt base i tab p) (a : ga m 2 i = 3 ∧ ga m 4 i = lt ∧ ga m 3 i = p / 8 → tab2 p = base p) (b : ¬ (ga m 2 i = 3 ∧ ga m 4 i = lt ∧ ga m 3 i = p / 8) → tab2 p = tab p) : Rq m lt base (i + 1) tab2 p := by
  by_cases d : ga m 2 i = 3 ∧ ga m 4 i = lt ∧ ga m 3 i = p / 8
  · exact Or.inl ⟨⟨i, ⟨i0, by omega⟩, d⟩, a d⟩
  · unfold Rq
    rw [b d]
    rcases h with ⟨⟨o, o1, o2⟩, h⟩ | ⟨h1, h2⟩
    · exact Or.inl ⟨⟨o, ⟨o1.1, by omega⟩, o2⟩, h⟩
    · refine Or.inr ⟨fun o o0 o1 k1 k2 k3 => ?_, h2⟩
      by_cases z : o = i
      · rw [z] at k1 k2 k3
        exact d ⟨k1, k2, k3⟩
      · exact h1 o o0 (by omega) k1 k2 k3
theorem rckL_m {m : zH} {lt : Int} {base : Int → Int} (mi : MI m) (L : gs m 3 ≤ 64) (e4 : ∀ i, pg m i → ga m 2 i = 3 → ga m 4 i = lt → ∀ k, 0 ≤ k → k < 8 → ga m 8 (8 * i + k) = base (8 * ga m 3 i + k)) : ∀ (n : Nat) (h : zH) (i : Int), (∀ c o, 2 ≤ c → c ≤ 8 → ga h c o = ga m c o) → gs h 33 = lt → 0 ≤ i → i + n ≤ mN m → (∀ p, 0 ≤ p → p < 64 → Rq m lt base i (ga h 10) p) →
    (∀ p, 0 ≤ p → p < 64 → Rq m lt base (i + n) (ga (m_rckL n h i) 10) p) ∧ (∀ k, gs (m_rckL n h i) k = gs h k) := by
  intro n
  induction n with
  | zero =>
    intro h i e l i0 i1 g
    exact ⟨by rw [show i + ((0 : Nat) : Int) = i by omega]; exact g, fun _ => rfl⟩
  | succ n ih =>
    intro h i e l i0 i1 g
    rw [m_rckL, e 2 i (by decide) (by decide), e 3 i (by decide) (by decide), e 4 i (by decide) (by decide), l]
    rw [show i + ((n + 1 : Nat) : Int) = i + 1 + n by omega]
    by_cases d : ga m 2 i = 3 ∧ ga m 4 i = lt
    · rw [ifp_t d]
      have ri := (mi i i0 (by show i < mN m; omega)).2 d.1
      have q := ih (cp8 h 10 (ga m 3 i) i 8) (i + 1) (fun c o c1 c2 => by rw [ga_cp8, if_neg (by omega)]; exact e c o c1 c2) l (by omega) (by omega) (fun p p0 p1 => Rq_step i0 (g p p0 p1) (fun z => by
        rw [ga_cp8, if_pos (by omega), e 8 _ (by decide) (by decide), e4 i ⟨i0, by omega, by unfold mProgd; omega⟩ d.1 d.2 (p - 8 * ga m 3 i) (by omega) (by omega)]
        rw [show 8 * ga m 3 i + (p - 8 * ga m 3 i) = p by omega]) (fun z => by
        rw [ga_cp8, if_neg (fun y => z ⟨d.1, d.2, by omega⟩)]))
      exact ⟨q.1, fun k => (q.2 k).trans rfl⟩
    · rw [ifp_f d]
      exact ih h (i + 1) e l (by omega) (by omega) (fun p p0 p1 => Rq_step i0 (g p p0 p1) (fun z => absurd ⟨z.1, z.2.1⟩ d) (fun _ => rfl))
theorem rmL_x {m x : zH} {lt : Int} {base : Int → Int} (s : SIM m x) (e4 : ∀ i, pg m i → ga m 2 i = 3 → ga m 4 i = lt → ∀ k, 0 ≤ k → k < 8 → ga m 8 (8 * i + k) = base (8 * ga m 3 i + k)) : ∀ (n : Nat) (h : zH) (i : Int), (∀ c o, c ≠ 21 → ga h c o = ga x c o) → gs h 50 = lt → gs h 104 = gs m 3 → 0 ≤ i → i + n ≤ mN m → (∀ p, 0 ≤ p → p < gs m 3 → Rq m lt base i (ga h 21) p) →
    (∀ p, 0 ≤ p → p < gs m 3 → Rq m lt base (i + n) (ga (x_rmL n h i) 21) p) ∧ (∀ p, gs m 3 ≤ p → ga (x_rmL n h i) 21 p = ga h 21 p) := by
  intro n
  induction n with
  | zero =>
    intro h i e l l2 i0 i1 g
    exact ⟨by rw [show i + ((0 : Nat) : Int) = i by omega]; exact g, fun _ _ => rfl⟩
  | succ n ih =>
    intro h i e l l2 i0 i1 g
    have mi := s.2.2.1.2.1
    have L := s.2.2.1.1.2.2.2.2
    have sp := s.2.2.2.1 i i0 (by omega)
    rw [x_rmL, e 10 i (by decide), e 12 i (by decide), l, sp.1.1]
    rw [show i + ((n + 1 : Nat) : Int) = i + 1 + n by omega]
    have cc : (ga m 2 i = 3 ∧ ga x 12 i = lt) ↔ (ga m 2 i = 3 ∧ ga m 4 i = lt) := by
      constructor
      · exact fun z => ⟨z.1, by rw [← (sp.2.1 (by unfold mProgd; have := z.1; omega)).2.1]; exact z.2⟩
      · exact fun z => ⟨z.1, by rw [(sp.2.1 (by unfold mProgd; have := z.1; omega)).2.1]; exact z.2⟩
    by_cases d : ga m 2 i = 3 ∧ ga m 4 i = lt
    · rw [ifp_t (cc.mpr d)]
      have ri := (mi i i0 (by show i < mN m; omega)).2 d.1
      have e11 : ga h 11 i = ga m 3 i := (e 11 i (by decide)).trans (sp.2.1 (by unfold mProgd; omega)).1
      have q := ih (x_rm1 h i 8) (i + 1) (fun c o c1 => by rw [ga_xrm1, if_neg (by omega)]; exact e c o c1) l l2 (by omega) (by omega) (fun p p0 p1 => Rq_step i0 (g p p0 p1) (fun z => by
        rw [ga_xrm1, e11, l2, if_pos (by omega), e 16 _ (by decide), sp.2.2.2.2.2 d.1 _ (by omega) (by omega), show i * 8 + (p - ga m 3 i * 8) = 8 * i + (p - 8 * ga m 3 i) by omega, e4 i ⟨i0, by omega, by unfold mProgd; omega⟩ d.1 d.2 (p - 8 * ga m 3 i) (by omega) (by omega)]
        rw [show 8 * ga m 3 i + (p - 8 * ga m 3 i) = p by omega]) (fun z => by
        rw [ga_xrm1, e11, if_neg (fun y => z ⟨d.1, d.2, by omega⟩)]))
      exact ⟨q.1, fun p p1 => (q.2 p p1).trans (by rw [ga_xrm1, l2, if_neg (by omega)])⟩
    · rw [ifp_f (fun z => d (cc.mp z))]
      exact ih h (i + 1) e l l2 (by omega) (by omega) (fun p p0 p1 => Rq_step i0 (g p p0 p1) (fun z => absurd ⟨z.1, z.2.1⟩ d) (fun _ => rfl))
/-- after the checkpoint is read both sides have its versions -/
theorem RCK {m x : zH} {T lt le : Int} {cm base : Int → Int} (s : SIM m x) (dv : Dv m T) (z : Zt m) (ex : EXb m lt le cm base) (l39 : 0 ≤ lt) :
    (gs (m_rck m) 33 = lt ∧ gs (m_rck m) 34 = le ∧ gs (m_rck m) 36 = 0 ∧ ∀ p, 0 ≤ p → p < 64 → ga (m_rck m) 10 p = base p) ∧
    (gs (x_rs1 x) 50 = lt ∧ gs (x_rs1 x) 51 = le ∧ (∀ k, k ≠ 50 → k ≠ 51 → gs (x_rs1 x) k = gs x k) ∧ (∀ c o, c ≠ 21 → ga (x_rs1 x) c o = ga x c o) ∧ ∀ p, 0 ≤ p → p < 64 → ga (x_rs1 x) 21 p = base p) := by
  have mi := s.2.2.1.2.1
  have L := s.2.2.1.1.2.2.2.2
  have nr := mN_r s.2.2.1.1
  have e72 := S72 s.1 s.2.1
  have e104 : gs x 104 = gs m 3 := sg s.1 (by decide)
  have ev := end_v s (mN m).toNat (by omega)
  have ee : xEnd x = mEnd m := by unfold xEnd mEnd; rw [e72]; exact ev
  have st (p : Int) (p0 : 0 ≤ p) (p1 : p < 64) : ga x 21 p = ga m 10 p := (s.2.2.2.2.2.1 p p0 p1).1
  have t0 (p : Int) (p0 : 0 ≤ p) (p1 : p < 64) : ga m 10 p = 0 := (z.1 p p0 p1).1
  have e33 := z.2.2.2.1
  have e34 := z.2.2.2.2.1
  have e36 := z.2.2.2.2.2.2
  have x50 : gs x 50 = gs m 33 := sg s.1 (by decide)
  have x51 : gs x 51 = gs m 34 := sg s.1 (by decide)
  unfold m_rck x_rs1
  rw [ee]
  have hE : mEnd m = mLE m (mN m).toNat := rfl
  have q := mLE_s m (mN m).toNat
  rw [← hE] at q
  rcases q with ⟨q1, q2⟩ | ⟨q1, q2, q3⟩
  · have lt0 : lt = 0 := Classical.byContradiction fun y => by
      obtain ⟨i, i1, i2, i3, i4⟩ := (ex.2.1 y).1
      exact q2 i i1.1 (by have := i1.2.1; omega) i2
    obtain ⟨b1, b2, b3⟩ := ex.1 lt0
    rw [ifp_t q1, ifp_f (fun y => by have := y.1; omega)]
    exact ⟨⟨by omega, by omega, e36, fun p p0 p1 => by rw [t0 p p0 p1, b3]⟩, by omega, by omega, fun _ _ _ => rfl, fun _ _ _ => rfl, fun p p0 p1 => by rw [st p p0 p1, t0 p p0 p1, b3]⟩
  · generalize mEnd m = e at q1 q2 q3 ⊢
    have ep : pg m e := ⟨q1.1, by omega, by unfold mProgd; omega⟩
    have lt0 : lt ≠ 0 := fun y => (ex.1 y).2.1 e ep q2
    obtain ⟨⟨i, i1, i2, i3, i4⟩, ib⟩ := ex.2.1 lt0
    have v5 : ga m 5 e = le := by
      have := ib e ep q2
      have := q3 i i1.1 (by have := i1.2.1; omega) i2
      omega
    have v4 : ga m 4 e = lt := by
      have c := (dv.2.2.1 e i ep i1 (by omega)).1
      rw [c.2.1]
      exact i3
    have sp := (s.2.2.2.1 e ep.1 ep.2.1).2.1 ep.2.2
    have e4 := ex.2.2.2.1 lt0
    have fin : ∀ tab : Int → Int, (∀ p, 0 ≤ p → p < gs m 3 → Rq m lt base (mN m) tab p) → ∀ p, 0 ≤ p → p < gs m 3 → tab p = base p := fun tab h p p0 p1 => by
      rcases h p p0 p1 with y | ⟨y1, y2⟩
      · exact y.2
      · obtain ⟨o, o1, o2, o3, o4⟩ := ex.2.2.1 lt0 p p0 p1
        exact absurd o4 (y1 o o1.1 o1.2.1 o2 o3)
    have hN : gs m 1 * gs m 2 = mN m := rfl
    rw [ifp_f (show ¬ e = -1 by omega), ifp_t (show xPl x e from ⟨ep.1, by rw [e72]; exact ep.2.1⟩), v4, v5, sp.2.1, sp.2.2.1, v4, v5, hN]
    have rm := rckL_m mi L.2 e4 (mN m).toNat (ps (ps m 33 lt) 34 le) 0 (fun _ _ _ _ => rfl) rfl (Int.le_refl _) (by omega) (fun p p0 p1 => Or.inr ⟨fun o o0 o1 => by omega, t0 p p0 p1⟩)
    have rx := rmL_x s e4 (mN m).toNat (ps (ps x 50 lt) 51 le) 0 (fun _ _ _ => rfl) rfl e104 (Int.le_refl _) (by omega) (fun p p0 p1 => Or.inr ⟨fun o o0 o1 => by omega, (st p p0 (by omega)).trans (t0 p p0 (by omega))⟩)
    rw [show (0 : Int) + ((mN m).toNat : Int) = mN m by omega] at rm rx
    have xe : x_rm (ps (ps x 50 lt) 51 le) = x_rmL (mN m).toNat (ps (ps x 50 lt) 51 le) 0 := by
      unfold x_rm
      rw [show gs (ps (ps x 50 lt) 51 le) 72 = mN m from e72]
    rw [xe]
    have fc := FC_rmL (mN m).toNat (ps (ps x 50 lt) 51 le) 0
    refine ⟨⟨(rm.2 33).trans rfl, (rm.2 34).trans rfl, (rm.2 36).trans e36, fun p p0 p1 => ?_⟩, (fc.1 50).trans rfl, (fc.1 51).trans rfl, fun k h1 h2 => (fc.1 k).trans (by rw [gs_ps, if_neg h2, gs_ps, if_neg h1]), fun c o hc => fc.2 c o hc, fun p p0 p1 => ?_⟩
    · by_cases y : p < gs m 3
      · exact fin _ (fun p p0 p1 => rm.1 p p0 (by omega)) p p0 y
      · have b0 := ex.2.2.2.2.2 p (by omega)
        rcases rm.1 p p0 p1 with w | w
        · exact w.2
        · rw [w.2, b0]
    · by_cases y : p < gs m 3
      · exact fin _ rx.1 p p0 y
      · rw [rx.2 p (by omega), ex.2.2.2.2.2 p (by omega)]
        exact (st p p0 p1).trans (t0 p p0 p1)

