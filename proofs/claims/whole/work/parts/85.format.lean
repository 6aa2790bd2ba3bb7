/-! format, on both sides -/
def YK (x x2 : zH) : Prop := (∀ k, k ≤ 22 ∨ 31 ≤ k → gs x2 k = gs x k) ∧ ∀ c i, c ≠ 8 → ga x2 c i = ga x c i
theorem YK.rf (x : zH) : YK x x := ⟨fun _ _ => rfl, fun _ _ _ => rfl⟩
theorem YK.tr {a b c : zH} (h : YK a b) (k : YK b c) : YK a c := ⟨fun n z => (k.1 n z).trans (h.1 n z), fun n i z => (k.2 n i z).trans (h.2 n i z)⟩
theorem YK_ps (h : zH) (k : Nat) (v : Int) (hk : 23 ≤ k ∧ k ≤ 30) : YK h (ps h k v) := ⟨fun j hj => by rw [gs_ps, if_neg (by omega)], fun _ _ _ => rfl⟩
theorem YK_if {p : Prop} {h a b : zH} (ka : YK h a) (kb : YK h b) : YK h (ifp p a b) := by
  rcases Classical.em p with c | c
  · rw [ifp_t c]; exact ka
  · rw [ifp_f c]; exact kb
theorem YK_if2 {α : Type} {p : Prop} {h : zH} {a b : zH × α} (ka : YK h a.1) (kb : YK h b.1) : YK h (ifp p a b).1 := by
  rcases Classical.em p with c | c
  · rw [ifp_t c]; exact ka
  · rw [ifp_f c]; exact kb
theorem YK_son (h : zH) (p : Int) : YK h (x_son h p).1 := by
  unfold x_son
  exact YK_if2 (YK.rf h) (YK_ps h 30 _ (by decide))
theorem YK_serr (h : zH) (a b : Int) : YK h (x_serr h a b) := by
  unfold x_serr
  exact YK_if (YK.rf h) ((YK_ps h 23 _ (by decide)).tr (YK_ps _ 24 _ (by decide)))
theorem YK_semi (h : zH) : YK h (x_semi h).1 := by
  unfold x_semi
  exact YK_if2 (YK_ps h 30 _ (by decide)) (YK.rf h)
theorem YK_tval (h : zH) (v : Int) : YK h (x_tval h v).1 := by
  unfold x_tval
  have a : YK h (pa h 8 (gs h 29) v) := ⟨fun _ _ => rfl, fun c i hc => by rw [ga_pa, if_neg (fun z => hc z.1)]⟩
  exact YK_if2 (YK.rf h) ((a.tr (YK_ps _ 29 _ (by decide))).tr (YK_ps _ 30 _ (by decide)))
theorem YK_trun (h : zH) (s e b : Int) : YK h (x_trun h s e b).1 := by
  unfold x_trun x_tnum x_tn2 x_tword
  exact YK_if2 (YK_if2 (YK.rf h) (YK_if2 ((YK_ps h 25 _ (by decide)).tr (YK_son _ _)) (YK_if2 ((YK_ps h 26 _ (by decide)).tr (YK_son _ _)) (YK_if2 ((YK_ps h 27 _ (by decide)).tr (YK_son _ _)) (YK_if2 ((YK_ps h 28 _ (by decide)).tr (YK_son _ _)) (YK_if2 (YK_tval h _) (YK.rf h))))))) (YK_if2 (YK_ps h 30 _ (by decide)) (YK.rf h))
theorem YK_stp (h : zH) (e p j : Int) : YK h (x_stp h e p j).1 := by
  unfold x_stp x_run
  exact YK_if2 ((YK_if2 (YK.rf h) (YK_trun h _ _ _)).tr (YK_serr _ _ _)) (YK_if2 ((YK_semi h).tr (YK_serr _ _ _)) (YK_if2 (YK.rf h) (YK_serr h _ _)))
theorem YK_parL (e : Int) : ∀ (n : Nat) (h : zH) (p j : Int), YK h (x_parL e n h p j)
  | 0, h, _, _ => YK.rf h
  | n + 1, h, p, j => by
    rw [x_parL]
    exact YK_if ((YK_stp h e p j).tr (YK_parL e n _ _ _)) (YK.rf h)
theorem YK_parse (h : zH) (e : Int) : YK h (x_parse h e) := by
  unfold x_parse x_par9 x_par0
  have a : YK h (ps (ps (ps (ps h 23 0) 24 (-1)) 29 0) 30 0) := (((YK_ps h 23 _ (by decide)).tr (YK_ps _ 24 _ (by decide))).tr (YK_ps _ 29 _ (by decide))).tr (YK_ps _ 30 _ (by decide))
  exact (a.tr (YK_parL e _ _ _ _)).tr (YK_if (YK_serr _ _ _) (YK.rf _))
noncomputable def x_fiL : Nat → zH → Int → zH
  | 0, h, _ => h
  | n + 1, h, i => x_fiL n (x_wout h i (ga h 8 i)).1 (i + 1)
theorem FIL : ∀ (n : Nat) (m x : zH) (T k : Int), FI m x T 0 → gs m 35 = 0 → 0 ≤ k → k + n ≤ gs m 3 → T + 900 * n ≤ 2147470000 → (∀ j, k ≤ j → j < k + n → ga x 8 j = ga m 1 j) →
    (m_fiL n m k).2 = gs m 10 ∧ FI (m_fiL n m k).1 (x_fiL n x k) (T + 900 * n) 0 ∧ gs (m_fiL n m k).1 35 = 0 ∧ XK x (x_fiL n x k) ∧ (∀ j, j = 0 ∨ j = 1 ∨ j = 41 ∨ j = 47 ∨ j = 48 ∨ j = 38 → gs (m_fiL n m k).1 j = gs m j) := by
  intro n
  induction n with
  | zero =>
    intro m x T k f z k0 k1 hT e
    refine ⟨rfl, ?_, z, XK.rf x, fun _ _ => rfl⟩
    rw [show T + 900 * ((0 : Nat) : Int) = T by omega]
    exact f
  | succ n ih =>
    intro m x T k f z k0 k1 hT e
    obtain ⟨w1, w2, w3⟩ := WOUT_I f (by omega) z (ga m 1 k) k0 (by omega)
    have kq := Kq_wout m k (ga m 1 k)
    have gk (j : Nat) (hj : j = 0 ∨ j = 1 ∨ j = 3 ∨ j = 10 ∨ j = 41 ∨ j = 47 ∨ j = 48 ∨ j = 38) : gs (m_wout m k (ga m 1 k)).1 j = gs m j := kq.1 j (by unfold kS2 kSc; omega) (by omega)
    have e1 (j : Int) : ga (m_wout m k (ga m 1 k)).1 1 j = ga m 1 j := kq.2 1 j (by unfold kAr; decide) (by decide)
    have xk := XK_wout x k (ga m 1 k)
    rw [m_fiL, ifp_f w1, x_fiL, e k (Int.le_refl _) (by omega)]
    have q := ih (m_wout m k (ga m 1 k)).1 (x_wout x k (ga m 1 k)).1 (T + 900) (k + 1) w2 w3 (by omega) (by rw [gk 3 (by decide)]; omega) (by omega) (fun j j0 j1 => by rw [xk.2 8 j (by decide), e1]; exact e j (by omega) (by omega))
    rw [show T + 900 + 900 * (n : Int) = T + 900 * ((n + 1 : Nat) : Int) by omega] at q
    obtain ⟨q1, q2, q3, q4, q5⟩ := q
    exact ⟨q1.trans (gk 10 (by decide)), q2, q3, xk.tr q4, fun j hj => (q5 j hj).trans (gk j (by omega))⟩
/-- the devices just formatted -/
theorem FI_anew {m x : zH} (b1 : 4 ≤ gs m 1 ∧ gs m 1 ≤ 32) (b2 : 2 ≤ gs m 2 ∧ gs m 2 ≤ 32) (b3 : 1 ≤ gs m 3 ∧ gs m 3 ≤ 64) (gb : gs m 3 + 2 * mParts m + 3 ≤ (gs m 1 - 2) * gs m 2) : FI (m_anew m) (x_anewD x (gs m 1) (gs m 2) (gs m 3) (gs m 4)) 0 0 := by
  have mb : MB m := ⟨by omega, by omega, by omega, by omega, by omega, by omega⟩
  have nr := mN_r mb
  have eN : mN (m_anew m) = mN m := rfl
  have a2 (i : Int) (i0 : 0 ≤ i) (i1 : i < 1024) : ga (m_anew m) 2 i = 0 := by
    rw [show ga (m_anew m) 2 i = ga (prr (prr (m_forgets m) 2 0 1024 0) 9 0 32 0) 2 i from rfl, ga_prr, if_neg (by omega), ga_prr, if_pos (by omega)]
  have a9 (i : Int) (i0 : 0 ≤ i) (i1 : i < 32) : ga (m_anew m) 9 i = 0 := by
    rw [show ga (m_anew m) 9 i = ga (prr (prr (m_forgets m) 2 0 1024 0) 9 0 32 0) 9 i from rfl, ga_prr, if_pos (by omega)]
  have at0 (c : Nat) (i : Int) (hc : c = 10 ∨ c = 11 ∨ c = 12) (i0 : 0 ≤ i) (i1 : i < 64) : ga (m_anew m) c i = 0 := by
    rw [show ga (m_anew m) c i = ga (prr (prr (m_forgets m) 2 0 1024 0) 9 0 32 0) c i from rfl, ga_prr, if_neg (by omega), ga_prr, if_neg (by omega)]
    simp only [m_forgets, ga_ps, ga_prr]
    rcases hc with e | e | e <;> subst e <;> simp [i0, i1]
  have a14 (i : Int) (i0 : 0 ≤ i) (i1 : i < 4) : ga (m_anew m) 14 i = 0 := by
    rw [show ga (m_anew m) 14 i = ga (prr (prr (m_forgets m) 2 0 1024 0) 9 0 32 0) 14 i from rfl, ga_prr, if_neg (by omega), ga_prr, if_neg (by omega)]
    simp only [m_forgets, ga_ps, ga_prr]
    simp [i0, i1]
  have xx (c : Nat) (i : Int) (h : c ≠ 21 ∧ c ≠ 22 ∧ c ≠ 23) : ga (x_anewD x (gs m 1) (gs m 2) (gs m 3) (gs m 4)) c i = ga (x_anewF x (gs m 1) (gs m 2)) c i := by
    show ga (x_forget _) c i = _
    unfold x_forget
    rw [ga_ps, ga_prr, if_neg (by omega), ga_prr, if_neg (by omega), ga_prr, if_neg (by omega)]
    rfl
  have xt (c : Nat) (i : Int) (h : c = 21 ∨ c = 22 ∨ c = 23) (i0 : 0 ≤ i) (i1 : i < 64) : ga (x_anewD x (gs m 1) (gs m 2) (gs m 3) (gs m 4)) c i = 0 := by
    show ga (x_forget _) c i = _
    unfold x_forget
    simp only [ga_ps, ga_prr]
    rcases h with e | e | e <;> subst e <;> simp [i0, i1]
  have xf (c : Nat) (i : Int) (h : c ≠ 18 ∧ c ≠ 19) : ga (x_anewF x (gs m 1) (gs m 2)) c i = ga (x_clrR (ps (ps (ps x 70 (gs m 1)) 71 (gs m 2)) 72 (gs m 1 * gs m 2)) 0 1024 0) c i := by
    unfold x_anewF
    simp only [ga_ps, ga_prr]
    rw [if_neg (by omega), if_neg (by omega)]
  have x18 (i : Int) (i0 : 0 ≤ i) (i1 : i < 32) : ga (x_anewD x (gs m 1) (gs m 2) (gs m 3) (gs m 4)) 18 i = 0 := by
    rw [xx 18 i (by decide)]
    unfold x_anewF
    simp only [ga_ps, ga_prr]
    simp [i0, i1]
  have x19 (i : Int) (i0 : 0 ≤ i) (i1 : i < 32) : ga (x_anewD x (gs m 1) (gs m 2) (gs m 3) (gs m 4)) 19 i = 0 := by
    rw [xx 19 i (by decide)]
    unfold x_anewF
    simp only [ga_ps, ga_prr]
    simp [i0, i1]
  have xp (c : Nat) (i : Int) (h : c ≠ 18 ∧ c ≠ 19 ∧ c ≠ 21 ∧ c ≠ 22 ∧ c ≠ 23) : ga (x_anewD x (gs m 1) (gs m 2) (gs m 3) (gs m 4)) c i = ga (x_clrR (ps (ps (ps x 70 (gs m 1)) 71 (gs m 2)) 72 (gs m 1 * gs m 2)) 0 1024 0) c i := (xx c i ⟨h.2.2.1, h.2.2.2.1, h.2.2.2.2⟩).trans (xf c i ⟨h.1, h.2.1⟩)
  have nopg (i : Int) : ¬ pg (m_anew m) i := fun h => by
    have q := h.2.2
    have h1 : i < mN m := h.2.1
    unfold mProgd at q
    rw [a2 i h.1 (by omega)] at q
    omega
  have g38 : gs (m_anew m) 38 = 0 := rfl
  have g35 : gs (m_anew m) 35 = 0 := rfl
  have g25 : gs (m_anew m) 25 = 0 := rfl
  have nord (p v : Int) : ¬ mReadBy (m_anew m) p v := by
    rintro ⟨r, r0, r1, r2, _⟩
    exact r2 (a14 r r0 r1)
  have sim : SIM (m_anew m) (x_anewD x (gs m 1) (gs m 2) (gs m 3) (gs m 4)) := by
    refine ⟨prs_all ⟨rfl, rfl, rfl, rfl, rfl, rfl, rfl, rfl, rfl, rfl, rfl, rfl, rfl, rfl, rfl, rfl, rfl, rfl, rfl⟩, ?_, MS_u (MS_anew mb) (fun b c0 c1 => ?_), fun i i0 i1 => ?_, fun b c0 c1 => ?_, fun p p0 p1 => ?_, fun r r0 r1 => ?_, fun t t0 t1 => ?_⟩
    · refine ⟨⟨⟨show 0 ≤ gs m 1 by omega, show gs m 1 ≤ 32 by omega⟩, ⟨show 0 ≤ gs m 2 by omega, show gs m 2 ≤ 32 by omega⟩, rfl⟩, fun b c0 c1 => ?_, ⟨show 0 ≤ gs m 3 by omega, show gs m 3 ≤ 64 by omega⟩, ⟨Int.le_refl 0, show (0 : Int) ≤ 1000 by decide⟩, ⟨Int.le_refl 0, show (0 : Int) < 16 by decide⟩, Int.le_refl 0, ⟨Int.le_refl (-1), show (-1 : Int) < gs m 1 by omega⟩, rfl⟩
      have c1 : b < gs m 1 := c1
      rw [x18 b c0 (by omega)]
      exact ⟨Int.le_refl 0, show 0 ≤ gs m 2 by omega⟩
    · have c1 : b < gs m 1 := c1
      rw [x18 b c0 (by omega)]
    · have i1 : i < mN m := i1
      unfold Sp mProgd
      rw [a2 i i0 (by omega), xp 10 i (by decide), xp 11 i (by decide), xp 12 i (by decide), xp 13 i (by decide), xp 14 i (by decide), xp 15 i (by decide), xp 17 i (by decide)]
      have lt : i < 1024 := by omega
      simp only [ga_xclrR]
      refine ⟨⟨by simp [i0, lt], by decide, by decide⟩, fun z => by omega, fun _ => ⟨by simp [i0, lt], by simp [i0, lt], by simp [i0, lt], by simp [i0, lt], by simp [i0, lt]⟩, fun z => by omega, fun _ => by simp [i0, lt], fun z => by omega⟩
    · have c1 : b < gs m 1 := c1
      rw [x19 b c0 (by omega), a9 b c0 (by omega)]
    · rw [xt 21 p (by decide) p0 p1, xt 22 p (by decide) p0 p1, xt 23 p (by decide) p0 p1, at0 10 p (by decide) p0 p1, at0 11 p (by decide) p0 p1, at0 12 p (by decide) p0 p1]
      exact ⟨rfl, rfl, rfl⟩
    · rw [a14 r r0 r1]
      exact ⟨⟨fun z => absurd z (xBit_0 r), fun z => absurd rfl z⟩, fun z => absurd rfl z⟩
    · rw [g38] at t1
      omega
  have fo : FO (m_anew m) (x_anewD x (gs m 1) (gs m 2) (gs m 3) (gs m 4)) 0 0 := by
    refine ⟨sim, ⟨fun i h => absurd h (nopg i), fun i j h => absurd h (nopg i), fun i j h => absurd h (nopg i), ⟨⟨Int.le_refl 0, Int.le_refl 0⟩, ⟨Int.le_refl 0, Int.le_refl 0⟩, fun b c0 c1 => ?_⟩, fun i h => absurd h (nopg i), ⟨Int.le_refl 0, show (0 : Int) ≤ 1000 by decide⟩⟩, ⟨fun i h => absurd h (nopg i), fun i h => absurd h (nopg i)⟩, ⟨fun p p0 p1 => ?_, fun i h => absurd h (nopg i), ⟨⟨Int.le_refl 0, Int.le_refl 0⟩, ⟨Int.le_refl 0, Int.le_refl 0⟩, Or.inl rfl⟩, fun i h => absurd h (nopg i), fun p v p0 p1 v0 hw => ?_, ⟨fun _ => 0, fun _ => ⟨rfl, fun i h => absurd h (nopg i), fun _ => rfl⟩, fun z => absurd rfl z, fun z => absurd rfl z, fun z => absurd rfl z, fun p p0 p1 => Or.inr ⟨fun c w h => ?_, ?_⟩, fun _ _ => rfl⟩, fun z => absurd g35 z⟩, rfl, show 1 ≤ gs m 2 by omega⟩
    · have c1 : b < gs m 1 := c1
      rw [a9 b c0 (by omega)]
      exact ⟨Int.le_refl 0, Int.le_refl 0⟩
    · rw [at0 10 p (by decide) p0 p1, at0 11 p (by decide) p0 p1, at0 12 p (by decide) p0 p1]
      exact ⟨Int.le_refl 0, Or.inl ⟨rfl, rfl⟩, fun _ => ⟨rfl, rfl⟩⟩
    · have p1 : p < gs m 3 := p1
      rcases hw with h | h | h
      · rw [at0 10 p (by decide) p0 (by omega)] at h
        exact absurd h.symm v0
      · rw [at0 11 p (by decide) p0 (by omega)] at h
        omega
      · exact absurd h (nord p v)
    · obtain ⟨_, q, q1, _⟩ := Ev_app h
      exact nopg q q1
    · have p1 : p < gs m 3 := p1
      exact at0 10 p (by decide) p0 (by omega)
  have pp := parts_r (m := m_anew m) mb
  refine ⟨fo, g25, g38, a14, ?_, ⟨fun i j h => absurd h (nopg i), fun i j h => absurd h (nopg i), fun z => absurd g35 z⟩, ⟨Int.le_refl 0, pp.1⟩, gb⟩
  have fr : mIsFree (m_anew m) 0 := by
    refine ⟨show (0 : Int) ≠ -1 by decide, ?_⟩
    unfold mFreeIn mKind
    rw [cnt_full (fun i i0 i1 => by
      have e : gs (m_anew m) 2 = gs m 2 := rfl
      rw [e] at i0 i1
      exact a2 i (by omega) (by omega))]
    have e : gs (m_anew m) 2 = gs m 2 := rfl
    omega
  have q := cnt_lt (p := fun _ : Int => False) (q := mIsFree (m_anew m)) (a := 0) (b := 0) (n := (gs (m_anew m) 1).toNat) (fun _ _ _ h => h.elim) (Int.le_refl 0) (by have e : gs (m_anew m) 1 = gs m 1 := rfl; omega) (fun h => h) fr
  have w := (cnt_r (fun _ : Int => False) 0 (gs (m_anew m) 1).toNat).1
  unfold mFreeMany
  omega

