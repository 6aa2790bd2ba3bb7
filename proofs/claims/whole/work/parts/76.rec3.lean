/-! recovery: dead blocks are erased, the active block is found -/
theorem DEL_good {m m2 : zH} {cp cp2 : Int → Int} {T : Int} (d : Del m m2 cp cp2) (on : gs m 26 ≠ 0) (on2 : gs m2 26 ≠ 0) (dv : Dv m T) {i : Int} (hi : pg m2 i) : mGood m2 i ↔ mGood m i := by
  have d0 := d
  obtain ⟨g, a, p, r⟩ := d
  have g1 := g 1 (by decide)
  have g2 := g 2 (by decide)
  have eN : mN m2 = mN m := by unfold mN; rw [g1, g2]
  have cpy {i j : Int} (hi : pg m2 i) (hj : pg m2 j) : mCopyOf m2 i j ↔ mCopyOf m i j := by
    have fi := (p i hi).2.1
    have fj := (p j hj).2.1
    unfold mCopyOf
    rw [fi 2 (by decide) (by decide), fi 3 (by decide) (by decide), fi 4 (by decide) (by decide), fi 5 (by decide) (by decide), fj 2 (by decide) (by decide), fj 3 (by decide) (by decide), fj 4 (by decide) (by decide), fj 5 (by decide) (by decide)]
  have w := want_c a ⟨g 33 (by decide), g 34 (by decide), g 35 (by decide)⟩ (p i hi).2.1
  obtain ⟨h, f, _, _⟩ := p i hi
  constructor
  · rintro ⟨_, h2, h3⟩
    have hw := w.mp h2
    refine ⟨on, hw, ?_⟩
    obtain ⟨k, k1, k2, k3⟩ := newest_ex h
    have kg : mGood m k := ⟨on, want_cp k2 hw, k3⟩
    have kp : pg m2 k := Classical.byContradiction fun y => r k k1 y kg
    obtain ⟨_, f3, _, _⟩ := p k kp
    have le := h3 k kp.1 kp.2.1 ((cpy kp hi).mpr k2)
    rw [f3 6 (by decide) (by decide), f 6 (by decide) (by decide)] at le
    have le2 := k3 i h.1 h.2.1 (copy_sy k2)
    have e := dv.2.1 k i k1 h (by omega)
    rw [e] at k3
    exact k3
  · rintro ⟨_, h2, h3⟩
    refine ⟨on2, w.mpr h2, fun u u0 u1 uc => ?_⟩
    have up : pg m2 u := ⟨u0, u1, by have e := uc.1; have q := hi.2.2; unfold mProgd at q ⊢; rw [e]; exact q⟩
    obtain ⟨h4, f3, _, _⟩ := p u up
    rw [f 6 (by decide) (by decide), f3 6 (by decide) (by decide)]
    exact h3 u u0 h4.2.1 ((cpy up hi).mp uc)
theorem er_del {m : zH} {b : Int} {cp : Int → Int} (hg : ∀ j, gs m 2 * b ≤ j → j < gs m 2 * b + gs m 2 → ¬ mGood m j) : Del m (m_er1 m b) cp cp ∧ ∀ i, pg (m_er1 m b) i ↔ pg m i ∧ ¬ (gs m 2 * b ≤ i ∧ i < gs m 2 * b + gs m 2) := by
  have gk (k : Nat) (hk : k ≠ 21 ∧ k ≠ 25) : gs (m_er1 m b) k = gs m k := er1_gs k hk
  have eN : mN (m_er1 m b) = mN m := by unfold mN; rw [gk 1 (by decide), gk 2 (by decide)]
  have same {c : Nat} {i : Int} (h : ¬ (gs m 2 * b ≤ i ∧ i < gs m 2 * b + gs m 2)) (hc : c ≠ 9) : ga (m_er1 m b) c i = ga m c i := by
    rw [er1_ga, if_neg (fun y => h y.2), if_neg (fun y => hc y.1)]
  have hp : ∀ i, pg (m_er1 m b) i ↔ pg m i ∧ ¬ (gs m 2 * b ≤ i ∧ i < gs m 2 * b + gs m 2) := fun i => by
    unfold pg mProgd
    rw [eN]
    by_cases z : gs m 2 * b ≤ i ∧ i < gs m 2 * b + gs m 2
    · rw [er1_ga, if_pos ⟨rfl, z⟩]
      refine ⟨fun h => ?_, fun h => absurd z h.2⟩
      rcases Classical.em (mOK m) with y | y
      · rw [ifp_t y] at h; omega
      · rw [ifp_f y] at h; omega
    · rw [same z (by decide)]
      exact ⟨fun h => ⟨h, z⟩, fun h => h.1⟩
  refine ⟨⟨fun k h => gk k (by omega), fun c i h => by rw [er1_ga, if_neg (by omega), if_neg (by omega)], fun i h => ?_, fun i h z => ?_⟩, hp⟩
  · have q := (hp i).mp h
    exact ⟨q.1, fun c _ _ => same q.2 (by omega), fun k _ _ => by rw [er1_ga, if_neg (by omega), if_neg (by omega)], rfl⟩
  · have ho : gs m 2 * b ≤ i ∧ i < gs m 2 * b + gs m 2 := Classical.byContradiction fun y => z ((hp i).mpr ⟨h, y⟩)
    exact hg i ho.1 ho.2
theorem cnt_none {p : Int → Prop} {a : Int} {n : Nat} (h : cnt p a n = 0) {i : Int} (i0 : a ≤ i) (i1 : i < a + n) : ¬ p i := fun z => by
  have := cnt_lt (p := fun _ : Int => False) (q := p) (a := a) (b := i) (n := n) (fun _ _ _ h => h.elim) i0 i1 (fun h => h) z
  have := (cnt_r (fun _ : Int => False) a n).1
  omega
def EuR (m : zH) (T : Int) (r s : zH × Int) : Prop := (r.2 = 1 ∧ s.2 = 1 ∧ FO r.1 s.1 T 0 ∧ TK m r.1) ∨ (r.2 = 0 ∧ s.2 = 0 ∧ ∃ M, r.1 = m_loses M ∧ FO M s.1 T 0)
theorem EUL : ∀ (n : Nat) (m x : zH) (T b : Int), FO m x T 0 → T + n ≤ 2147483000 → 0 ≤ b → b + n = gs m 1 → (∀ c, b ≤ c → c < gs m 1 → ga x 9 c = mValidIn m c) → EuR m (T + n) (m_euL n m b) (x_edL n x b) := by
  intro n
  induction n with
  | zero =>
    intro m x T b f hT b0 b1 h9
    exact Or.inl ⟨rfl, rfl, FO_mono f (by omega), TK.rf m⟩
  | succ n ih =>
    intro m x T b f hT b0 b1 h9
    have mb := f.1.2.2.1.1
    have bB : b < gs m 1 := by omega
    have fi := free_u f.1.2.2.1 b0 bB
    have okk := ok_eq f.1.1 f.1.2.2.1.2.2.2.1.1
    rw [m_euL, x_edL, h9 b (Int.le_refl _) bB, fi]
    rw [show T + ((n + 1 : Nat) : Int) = T + 1 + n by omega]
    by_cases c : gs m 2 - ga x 18 b < gs m 2 ∧ mValidIn m b = 0
    · rw [ifp_t c, ifp_t (show 0 < ga x 18 b ∧ mValidIn m b = 0 by omega)]
      have hv : cnt (mGood m) (gs m 2 * b) (gs m 2).toNat = 0 := c.2
      have hg : ∀ j, gs m 2 * b ≤ j → j < gs m 2 * b + gs m 2 → ¬ mGood m j := fun j j0 j1 => cnt_none hv j0 (by have := mb.2.2.1; omega)
      obtain ⟨w1, w2⟩ := FO_erase f (by omega) b0 bB hg
      by_cases ok : mOK m
      · have e1 : m_er1 m b = m_erase m b := ifp_t ok
        rw [ifp_t ok, ifp_t (okk.mp ok)]
        obtain ⟨dl, hp⟩ := er_del (cp := ga x 17) hg
        rw [e1] at w1 dl hp
        have tk := TK_erase ok b
        have g1 : gs (m_erase m b) 1 = gs m 1 := gs_eraseT ok b 1 (by decide)
        have g2 : gs (m_erase m b) 2 = gs m 2 := gs_eraseT ok b 2 (by decide)
        have q := ih (m_erase m b) (x_erase x b) (T + 1) (b + 1) w1 (by omega) (by omega) (by rw [g1]; omega) (fun c c0 c1 => by
          rw [g1] at c1
          rw [ga_xerase_o _ _ _ _ (by decide), h9 c (by omega) c1]
          unfold mValidIn
          rw [g2]
          refine cnt_c (fun j j0 j1 => ?_)
          have jr := blk_N mb (c := c) (by omega) c1 (i := j) (by omega) (by have := mb.2.2.1; omega)
          have nb : ¬ (gs m 2 * b ≤ j ∧ j < gs m 2 * b + gs m 2) := fun z => by
            have := blk_one (i := j) mb.2.2.1 z.1 z.2 (by omega) (by have := mb.2.2.1; omega : j < gs m 2 * c + gs m 2)
            omega
          constructor
          · intro z
            have jp := good_pg jr.1 jr.2 z
            exact (DEL_good dl (by have := f.2.2.2.2.1; omega) (by have := w1.2.2.2.2.1; omega) f.2.1 ((hp j).mpr ⟨jp, nb⟩)).mpr z
          · intro z
            have jp := good_pg (m := m_erase m b) jr.1 (by unfold mN; rw [g1, g2]; exact jr.2) z
            exact (DEL_good dl (by have := f.2.2.2.2.1; omega) (by have := w1.2.2.2.2.1; omega) f.2.1 jp).mp z)
        rcases q with ⟨q1, q2, q3, q4⟩ | q
        · exact Or.inl ⟨q1, q2, q3, tk.tr q4⟩
        · exact Or.inr q
      · rw [ifp_f ok, ifp_f (fun z => ok (okk.mpr z))]
        refine Or.inr ⟨rfl, rfl, m_er1 m b, ?_, FO_mono w1 (by omega)⟩
        show m_erase m b = _
        unfold m_er1
        rw [ifp_f ok]
        exact ifp_f ok
    · rw [ifp_f c, ifp_f (show ¬ (0 < ga x 18 b ∧ mValidIn m b = 0) by omega)]
      exact ih m x (T + 1) (b + 1) (FO_mono f (by omega)) (by omega) (by omega) (by omega) (fun c c0 c1 => h9 c (by omega) c1)
theorem EU {m x : zH} {T : Int} (f : FO m x T 0) (hT : T + 40 ≤ 2147483000) : EuR m (T + 40) (m_eu m) (x_ed x) := by
  have mb := f.1.2.2.1.1
  unfold m_eu x_ed
  rw [sg_F f (a := 1) (b := 70) (by decide)]
  have q := EUL (gs m 1).toNat m (x_cl x) T 0 (FO_cl f) (by have := mb.2.1; omega) (Int.le_refl _) (by have := mb.1; omega) (fun c c0 c1 => cl_9 f c0 c1)
  have h32 := mb.2.1
  rcases q with ⟨q1, q2, q3, q4⟩ | ⟨q1, q2, M, q3, q4⟩
  · exact Or.inl ⟨q1, q2, FO_mono q3 (by omega), q4⟩
  · exact Or.inr ⟨q1, q2, M, q3, FO_mono q4 (by omega)⟩
/-- the newest page's block -/
def NwR (m : zH) (l : Int) (s : Int × Int) : Prop := l = -1 ∧ s = (-1, 0) ∨ pg m l ∧ s = (l / gs m 2, ga m 6 l)
theorem nr_v {m x : zH} {T : Int} (s : SIM m x) (dv : Dv m T) (P1 : 1 ≤ gs m 2) {i : Int} (i0 : 0 ≤ i) (i1 : i < gs m 1) (k : Nat) (e : (k : Int) = gs m 2 * i) (q : Int × Int) (hq : NwR m (mLN m k) q) : ∀ n : Nat, (n : Int) ≤ gs m 2 → NwR m (mLN m (k + n)) (xNr x i q n)
  | 0, _ => hq
  | n + 1, h => by
    have ih := nr_v s dv P1 i0 i1 k e q hq n (by omega)
    have e71 : gs x 71 = gs m 2 := sg s.1 (by decide)
    have jr := blk_N s.2.2.1.1 i0 i1 (i := gs m 2 * i + n) (by omega) (by omega)
    have sp := s.2.2.2.1 _ jr.1 jr.2
    rw [show k + (n + 1) = (k + n) + 1 by omega, mLN, xNr, e71, show ((k + n : Nat) : Int) = gs m 2 * i + n by omega, show i * gs m 2 + (n : Int) = gs m 2 * i + n by rw [Int.mul_comm]]
    generalize mLN m (k + n) = l at ih ⊢
    generalize xNr x i q n = w at ih ⊢
    have jb : (gs m 2 * i + (n : Int)) / gs m 2 = i := by
      rw [Int.add_comm, Int.add_mul_ediv_left _ _ (by omega), Int.ediv_eq_zero_of_lt (by omega) (by omega)]
      omega
    generalize gs m 2 * i + (n : Int) = j at jr sp jb ⊢
    by_cases pj : mProgd m j
    · have e14 : ga x 14 j = ga m 6 j := (sp.2.1 pj).2.2.2
      have vj := dv.1 j ⟨jr.1, jr.2, pj⟩
      rcases ih with ⟨l1, l2⟩ | ⟨l1, l2⟩
      · rw [ifp_t ⟨pj, Or.inl l1⟩, l2, e14, ifp_t (show (0 : Int) < ga m 6 j by omega)]
        exact Or.inr ⟨⟨jr.1, jr.2, pj⟩, by rw [jb]⟩
      · rw [l2, e14]
        by_cases c : ga m 6 l < ga m 6 j
        · rw [ifp_t ⟨pj, Or.inr c⟩, ifp_t c]
          exact Or.inr ⟨⟨jr.1, jr.2, pj⟩, by rw [jb]⟩
        · rw [ifp_f (fun z => z.2.elim (fun y => by have := l1.1; omega) c), ifp_f c]
          exact Or.inr ⟨l1, rfl⟩
    · have e14 : ga x 14 j = -1 := (sp.2.2.1 pj).2.2.2.1
      rw [ifp_f (fun z => pj z.1), e14]
      rcases ih with ⟨l1, l2⟩ | ⟨l1, l2⟩
      · rw [l2, ifp_f (show ¬ (0 : Int) < -1 by decide)]
        exact Or.inl ⟨l1, rfl⟩
      · have v := dv.1 l l1
        rw [l2, ifp_f (show ¬ ga m 6 l < -1 by omega)]
        exact Or.inr ⟨l1, rfl⟩
theorem nb_v {m x : zH} {T : Int} (s : SIM m x) (dv : Dv m T) (P1 : 1 ≤ gs m 2) : ∀ n : Nat, (n : Int) ≤ gs m 1 → NwR m (mLN m ((gs m 2).toNat * n)) (xNb x n)
  | 0, _ => Or.inl ⟨rfl, rfl⟩
  | n + 1, h => by
    have ih := nb_v s dv P1 n (by omega)
    have e71 : gs x 71 = gs m 2 := sg s.1 (by decide)
    rw [xNb, e71, Nat.mul_add, Nat.mul_one]
    have eP : (((gs m 2).toNat : Nat) : Int) = gs m 2 := by omega
    exact nr_v s dv P1 (by omega) (by omega) ((gs m 2).toNat * n) (by rw [Int.natCast_mul, eP]) (xNb x n) ih (gs m 2).toNat (by omega)
theorem newest_v {m x : zH} {T : Int} (s : SIM m x) (dv : Dv m T) (P1 : 1 ≤ gs m 2) : (mLast m = -1 ∧ xNewest x = -1) ∨ (pg m (mLast m) ∧ xNewest x = mLast m / gs m 2) := by
  have mb := s.2.2.1.1
  have q := nb_v s dv P1 (gs m 1).toNat (by have := mb.1; omega)
  have e : (gs m 2).toNat * (gs m 1).toNat = (gs m 1 * gs m 2).toNat := by
    have a : (((gs m 2).toNat : Nat) : Int) = gs m 2 := by omega
    have b : (((gs m 1).toNat : Nat) : Int) = gs m 1 := by have := mb.1; omega
    have c : (((gs m 2).toNat * (gs m 1).toNat : Nat) : Int) = gs m 1 * gs m 2 := by rw [Int.natCast_mul, a, b, Int.mul_comm]
    omega
  rw [e] at q
  have hm : mLast m = mLN m (gs m 1 * gs m 2).toNat := rfl
  have hx : xNewest x = (xNb x (gs m 1).toNat).1 := by
    unfold xNewest
    rw [sg s.1 (a := 1) (b := 70) (by decide)]
  rw [hm, hx]
  rcases q with ⟨q1, q2⟩ | ⟨q1, q2⟩
  · exact Or.inl ⟨q1, by rw [q2]⟩
  · exact Or.inr ⟨q1, by rw [q2]⟩
theorem FA_v {m x : zH} {T n : Int} (f : FO m x T n) : FO (m_fa m) (x_fa x) T n := by
  have P1 := f.2.2.2.2.2
  have mb := f.1.2.2.1.1
  have nw := newest_v f.1 f.2.1 P1
  unfold m_fa x_fa
  rcases nw with ⟨n1, n2⟩ | ⟨n1, n2⟩
  · rw [n2, ifp_f (fun z => z.1 n1), ifp_f (by unfold xFP xBlk; rw [ifp_f (by omega)]; omega)]
    exact FO_act f (Int.le_refl _) (by have := mb.1; omega)
  · have b0 : 0 ≤ mLast m / gs m 2 := Int.ediv_nonneg n1.1 (by omega)
    have b1 : mLast m / gs m 2 < gs m 1 := by
      have := n1.2.1
      unfold mN at this
      exact Int.ediv_lt_of_lt_mul (by omega) this
    have e : xFP x (xNewest x) = mFreeIn m (mLast m / gs m 2) := by
      rw [n2]
      unfold xFP xBlk
      rw [ifp_t ⟨b0, by rw [sg_F f (a := 1) (b := 70) (by decide)]; exact b1⟩, sg_F f (a := 2) (b := 71) (by decide), free_u f.1.2.2.1 b0 b1]
    rw [e, n2]
    by_cases c : 0 < mFreeIn m (mLast m / gs m 2)
    · rw [ifp_t ⟨by have := n1.1; omega, c⟩, ifp_t c]
      exact FO_act f (by omega) b1
    · rw [ifp_f (fun z => c z.2), ifp_f c]
      exact FO_act f (Int.le_refl _) (by have := mb.1; omega)

