/-! checkpoints, on both sides -/
theorem TK_PR {M X0 M2 X : zH} {r w ix g v : Int} (p : PR M X0 M2 X r w ix g v) : TK M M2 := ⟨fun k h1 h2 _ _ h5 _ => (PR_o p).1 k h1 h2 h5, fun c i h => (PR_o p).2 c i (by omega) (by omega) (by omega) (by omega) (by omega)⟩
theorem FO_num {m x : zH} {T n : Int} (f : FO m x T n) {a b : Nat} (h : a = 36 ∧ b = 48 ∨ a = 23 ∧ b = 53) (v : Int) : FO (ps m a v) (ps x b v) T n := by
  obtain ⟨⟨s1, s2, s3, s4, s5, s6, s7, s8⟩, dv, nf, on, o, p1⟩ := f
  rcases h with ⟨h1, h2⟩ | ⟨h1, h2⟩
  · rw [h1, h2]
    exact ⟨⟨Sn_ps s1 (by decide) v, XS_48 s2 v, MS_36 s3 v, s4, s5, s6, s7, s8⟩, dv, nf, on, o, p1⟩
  · rw [h1, h2]
    exact ⟨⟨Sn_ps s1 (by decide) v, XS_53 s2 v, MS_c s3 rfl rfl rfl rfl rfl (fun _ => rfl) (fun _ => rfl), s4, s5, s6, s7, s8⟩, dv, nf, on, o, p1⟩
theorem FO_ck0 {m x : zH} {T n : Int} (f : FO m x T n) (hT : T ≤ 2147483000) (z35 : gs m 35 = 0) : FO (m_ck0 m) (x_ck0 x) (T + 1) 0 ∧ gs (m_ck0 m) 35 ≠ 0 := by
  obtain ⟨⟨s1, s2, s3, s4, s5, s6, s7, s8⟩, dv, nf, on, o, p1⟩ := f
  have q39 := dv.2.2.2.1.2.1
  have e39 : wr (gs m 39 + 1) = gs m 39 + 1 := wr_id (by omega) (by omega)
  have x49 : gs x 49 = gs m 39 := sg s1 (by decide)
  have hm : m_ck0 m = ps (ps m 39 (gs m 39 + 1)) 35 (gs m 39 + 1) := by
    unfold m_ck0
    rw [e39]
  have hx : x_ck0 x = ps (ps x 49 (gs m 39 + 1)) 52 (gs m 39 + 1) := by
    unfold x_ck0
    rw [x49, e39]
  rw [hm, hx]
  have gk (k : Nat) (h : k ≠ 39 ∧ k ≠ 35) : gs (ps (ps m 39 (gs m 39 + 1)) 35 (gs m 39 + 1)) k = gs m k := by
    rw [gs_ps, if_neg h.2, gs_ps, if_neg h.1]
  obtain ⟨v1, v2, v3, v4, v5, v6⟩ := dv
  obtain ⟨o1, o2, o3, o4, o5, o6, o7⟩ := on
  have no (i : Int) (hi : pg m i) (h : ga m 2 i = 3 ∨ ga m 2 i = 4) : ga m 4 i ≠ gs m 39 + 1 := fun z => by
    have q := (v5 i hi).2.2 h
    omega
  refine ⟨⟨⟨Sn_ps (Sn_ps s1 (a := 39) (b := 49) (by decide) _) (a := 35) (b := 52) (by decide) _, XS_49 s2 _ _, MS_c s3 rfl rfl rfl rfl rfl (fun _ => rfl) (fun _ => rfl), s4, s5, s6, s7, s8⟩, ⟨v1, v2, v3, ⟨?_, ?_, fun b b0 b1 => ?_⟩, fun i hi => ?_, v6⟩, nf, ⟨o1, o2, ?_, fun i hi hc hn hw => ?_, o5, o6, fun _ => ⟨fun i hi h1 h2 => ?_, fun q q0 q1 => ?_, fun i hi h1 h2 => ?_⟩⟩, o, p1⟩, ?_⟩
  · rw [gk 19 (by decide)]
    omega
  · show 0 ≤ gs m 39 + 1 ∧ gs m 39 + 1 ≤ T + 1
    omega
  · show 0 ≤ ga m 9 b ∧ ga m 9 b ≤ T + 1
    have := v4.2.2 b b0 b1
    omega
  · have q := v5 i hi
    refine ⟨q.1, q.2.1, fun h => ?_⟩
    have q2 := q.2.2 h
    show 1 ≤ ga m 4 i ∧ ga m 4 i ≤ gs m 39 + 1
    omega
  · rw [gk 33 (by decide), gk 34 (by decide), gk 19 (by decide)]
    show (0 ≤ gs m 33 ∧ gs m 33 ≤ gs m 39 + 1) ∧ _ ∧ (gs m 39 + 1 = 0 ∨ gs m 39 + 1 = gs m 39 + 1 ∧ gs m 33 < gs m 39 + 1)
    omega
  · refine o4 i hi hc hn ?_
    rw [want_W] at hw ⊢
    have e1 : gs (ps (ps m 39 (gs m 39 + 1)) 35 (gs m 39 + 1)) 35 = gs m 39 + 1 := rfl
    rw [e1, gk 33 (by decide), gk 34 (by decide)] at hw
    rcases hw with h | h | h | h
    · exact Or.inl h
    · exact Or.inr (Or.inl h)
    · rcases h.2 with y | y
      · exact Or.inr (Or.inr (Or.inl ⟨h.1, Or.inl y⟩))
      · exact absurd y (no i hi (Or.inl h.1))
    · exact Or.inr (Or.inr (Or.inr h))
  · exact absurd h2 (no i hi (Or.inl h1))
  · omega
  · exact absurd h2 (no i hi (Or.inr h1))
  · show gs m 39 + 1 ≠ 0
    omega
theorem FF_mono {m x : zH} {T T2 : Int} (f : FF m x T) (h : T ≤ T2) : FF m x T2 := by
  obtain ⟨s, ⟨v1, v2, v3, v4, v5, v6⟩, f3⟩ := f
  exact ⟨s, ⟨v1, v2, v3, ⟨by omega, by omega, fun b b0 b1 => by have := v4.2.2 b b0 b1; omega⟩, v5, v6⟩, f3⟩
theorem CKL : ∀ (n : Nat) (m x : zH) (T part : Int), FO m x T part → T + 81 * n ≤ 2147482000 → gs m 35 ≠ 0 → 0 ≤ part → 8 * (part + n) < gs m 3 + 8 →
    ((m_ckL n m part).2 = 1 ∧ (x_ckL n x part).2 = 1 ∧ FO (m_ckL n m part).1 (x_ckL n x part).1 (T + 81 * n) (part + n) ∧ TK m (m_ckL n m part).1) ∨
    ((m_ckL n m part).2 = 0 ∧ (x_ckL n x part).2 = 0 ∧ FF (m_ckL n m part).1 (x_ckL n x part).1 (T + 81 * n)) := by
  intro n
  induction n with
  | zero =>
    intro m x T part f hT z p0 p1
    refine Or.inl ⟨rfl, rfl, ?_, TK.rf m⟩
    rw [show T + 81 * ((0 : Nat) : Int) = T by omega, show part + ((0 : Nat) : Int) = part by omega]
    exact f
  | succ n ih =>
    intro m x T part f hT z p0 p1
    have x49 : gs x 49 = gs m 35 := by
      rw [sg_F f (a := 39) (b := 49) (by decide)]
      have := f.2.2.2.1.2.2.1
      omega
    rw [m_ckL, x_ckL, x49]
    unfold m_map
    rcases PAGE f (by omega) (w := 3) (ix := part) (g := gs m 35) (-2) (by decide) (fun y => absurd y (by decide)) (fun _ => ⟨p0, by omega⟩) with ⟨q1, q2, q3⟩ | ⟨M, X0, r, M2, X, q1, q2, q3, q4, q5⟩
    · rw [ifp_t q1, ifp_t (show (x_page x 3 part (gs m 35) (-2)).2 < 0 by omega), ifp_f (show ¬ ((m_page m 3 part (gs m 35)).1, (0 : Int)).2 = 1 from fun y => absurd y (by show ¬ (0 : Int) = 1; decide))]
      exact Or.inr ⟨rfl, rfl, FF_mono q3 (by omega)⟩
    · have r0 := q5.2.2.1.1.1
      rw [q1, q2, ifp_f (show ¬ r = -1 by omega), ifp_f (show ¬ r < 0 by omega), ifp_t rfl]
      have e35 : gs M 35 = gs m 35 := q4.1 35 (by decide) (by decide) (by decide) (by decide) (by decide) (by decide)
      have e3 : gs M 3 = gs m 3 := q4.1 3 (by decide) (by decide) (by decide) (by decide) (by decide) (by decide)
      have tk : TK m (cp8 M2 8 r part 10) := (q4.tr (TK_PR q5)).tr ⟨fun _ _ _ _ _ _ _ => rfl, fun c i h => by rw [ga_cp8, if_neg (by omega)]⟩
      rw [← e35] at q5
      have fm := FO_map q5 q3 (by omega) (by rw [e35]; exact z) p0 (by rw [e3]; omega)
      have t := ih (cp8 M2 8 r part 10) (x_fmp X r part) (T + 80 + 1) (part + 1) fm (by omega) (by rw [tk.1 35 (by decide) (by decide) (by decide) (by decide) (by decide) (by decide)]; exact z) (by omega) (by rw [tk.1 3 (by decide) (by decide) (by decide) (by decide) (by decide) (by decide)]; omega)
      rw [show T + 80 + 1 + 81 * (n : Int) = T + 81 * ((n + 1 : Nat) : Int) by omega, show part + 1 + (n : Int) = part + ((n + 1 : Nat) : Int) by omega] at t
      rcases t with ⟨t1, t2, t3, t4⟩ | t
      · exact Or.inl ⟨t1, t2, t3, tk.tr t4⟩
      · exact Or.inr t
def TC (m m2 : zH) : Prop := (∀ k, k ≠ 19 → k ≠ 20 → k ≠ 21 → k ≠ 22 → k ≠ 25 → k ≠ 32 → k ≠ 33 → k ≠ 34 → k ≠ 35 → k ≠ 36 → k ≠ 39 → gs m2 k = gs m k) ∧ ∀ c i, 10 ≤ c → ga m2 c i = ga m c i
theorem TC.tr {a b c : zH} (h : TC a b) (k : TC b c) : TC a c := ⟨fun n h1 h2 h3 h4 h5 h6 h7 h8 h9 ha hb => (k.1 n h1 h2 h3 h4 h5 h6 h7 h8 h9 ha hb).trans (h.1 n h1 h2 h3 h4 h5 h6 h7 h8 h9 ha hb), fun n i h1 => (k.2 n i h1).trans (h.2 n i h1)⟩
theorem TK.tc {a b : zH} (h : TK a b) : TC a b := ⟨fun n h1 h2 h3 h4 h5 h6 _ _ _ _ _ => h.1 n h1 h2 h3 h4 h5 h6, h.2⟩
/-- done on both sides, or power is gone on both -/
def CkR (m : zH) (T n : Int) (r s : zH × Int) : Prop :=
  (r.2 = 1 ∧ s.2 = 1 ∧ FO r.1 s.1 T n ∧ gs r.1 35 = 0 ∧ TC m r.1) ∨ (r.2 = 0 ∧ s.2 = 0 ∧ FF r.1 s.1 T)
theorem parts_r {m : zH} (b : MB m) : 0 ≤ mParts m ∧ mParts m ≤ 8 ∧ gs m 3 ≤ 8 * mParts m ∧ 8 * mParts m < gs m 3 + 8 := by
  have := b.2.2.2.2
  unfold mParts
  omega
theorem x105 {m x : zH} (s : SIM m x) : gs x 105 = mParts m := by
  have q := s.2.1.2.2.2.2.2.2.2
  rw [q, sg s.1 (a := 3) (b := 104) (by decide)]
  rfl
theorem CK {m x : zH} {T k n : Int} (f : FO m x T k) (hT : T + 800 ≤ 2147480000) (z35 : gs m 35 = 0) : CkR m (T + 800) n (m_ck m) (x_ck x) := by
  obtain ⟨f0, z⟩ := FO_ck0 f (by omega) z35
  have p := parts_r f.1.2.2.1.1
  have t0 : TC m (m_ck0 m) := ⟨fun k _ _ _ _ _ _ _ _ h9 _ hb => by unfold m_ck0; rw [gs_ps, if_neg h9, gs_ps, if_neg hb], fun _ _ _ => rfl⟩
  have x5 := x105 f.1
  unfold m_ck x_ck m_ck1 x_ck1
  rw [x5]
  have q := CKL (mParts m).toNat (m_ck0 m) (x_ck0 x) (T + 1) 0 f0 (by omega) z (by decide) (by show 8 * (0 + ((mParts m).toNat : Int)) < gs m 3 + 8; omega)
  generalize m_ckL (mParts m).toNat (m_ck0 m) 0 = a at q ⊢
  generalize x_ckL (mParts m).toNat (x_ck0 x) 0 = b at q ⊢
  rcases q with ⟨q1, q2, q3, q4⟩ | ⟨q1, q2, q3⟩
  · rw [ifp_t q1, ifp_t q2]
    have e35 : gs a.1 35 = gs (m_ck0 m) 35 := q4.1 35 (by decide) (by decide) (by decide) (by decide) (by decide) (by decide)
    have e3 : gs a.1 3 = gs m 3 := q4.1 3 (by decide) (by decide) (by decide) (by decide) (by decide) (by decide)
    have z2 : gs a.1 35 ≠ 0 := by rw [e35]; exact z
    have x49 : gs b.1 49 = gs a.1 35 := by
      rw [sg_F q3 (a := 39) (b := 49) (by decide)]
      have := q3.2.2.2.1.2.2.1
      omega
    unfold m_ck2 x_ck2
    rw [x49]
    rcases PAGE q3 (by omega) (w := 4) (ix := 0) (g := gs a.1 35) (-2) (by decide) (fun y => absurd y (by decide)) (fun y => absurd y (by decide)) with ⟨w1, w2, w3⟩ | ⟨M, X0, r, M2, X, w1, w2, w3, w4, w5⟩
    · rw [ifp_t w1, ifp_f (fun y => by have := y.1; omega)]
      exact Or.inr ⟨rfl, rfl, FF_mono w3 (by omega)⟩
    · have r0 := w5.2.2.1.1.1
      have r1 := w5.2.2.1.1.2
      have sx := w5.2.2.2
      have x72 : gs X 72 = mN M2 := S72 sx.1 sx.2.1
      have pr := PR_o w5
      have eN : mN M2 = mN M := by unfold mN; rw [pr.1 1 (by decide) (by decide) (by decide), pr.1 2 (by decide) (by decide) (by decide)]
      rw [w1, w2, ifp_f (show ¬ r = -1 by omega), ifp_t (show xPl X r from ⟨r0, by rw [x72, eN]; exact r1⟩)]
      have e35M : gs M 35 = gs a.1 35 := w4.1 35 (by decide) (by decide) (by decide) (by decide) (by decide) (by decide)
      have e3M : gs M 3 = gs a.1 3 := w4.1 3 (by decide) (by decide) (by decide) (by decide) (by decide) (by decide)
      have tk : TC m M2 := (t0.tr q4.tc).tr (w4.tr (TK_PR w5)).tc
      rw [← e35M] at w5
      have fe := FO_end (n2 := n) w5 w3 (by omega) (by rw [e35M]; exact z2) (by omega) (by rw [e3M, e3]; omega)
      refine Or.inl ⟨rfl, rfl, FO_mono fe (by omega), rfl, tk.tr ⟨fun k _ _ _ _ _ _ h7 h8 h9 ha _ => ?_, fun _ _ _ => rfl⟩⟩
      show gs (m_ckEnd M2 r) k = _
      unfold m_ckEnd
      rw [gs_ps, if_neg ha, gs_ps, if_neg h8, gs_ps, if_neg h9, gs_ps, if_neg h7]
  · rw [ifp_f (by omega), ifp_f (by omega)]
    exact Or.inr ⟨q1, q2, FF_mono q3 (by omega)⟩
theorem CC {m x : zH} {T k n : Int} (f : FO m x T k) (hT : T + 800 ≤ 2147480000) (z35 : gs m 35 = 0) : CkR m (T + 800) n (m_cc m) (x_cc x) := by
  have e48 : gs x 48 = gs m 36 := sg_F f (by decide)
  have e47 : gs x 47 = gs m 4 := sg_F f (by decide)
  have fn := FO_num f (Or.inl ⟨rfl, rfl⟩) (wr (gs m 36 + 1))
  have t0 : TC m (ps m 36 (wr (gs m 36 + 1))) := ⟨fun k _ _ _ _ _ _ _ _ _ ha _ => by rw [gs_ps, if_neg ha], fun _ _ _ => rfl⟩
  unfold m_cc x_cc
  rw [e48, e47]
  by_cases c : wr (gs m 36 + 1) < gs m 4
  · rw [ifp_t c, ifp_t c]
    obtain ⟨a1, a2, a3, a4, a5⟩ := fn
    refine Or.inl ⟨rfl, rfl, FO_mono ⟨a1, a2, a3, ⟨a4.1, a4.2.1, a4.2.2.1, a4.2.2.2.1, a4.2.2.2.2.1, a4.2.2.2.2.2.1, fun z => absurd z35 z⟩, a5⟩ (by omega), z35, t0⟩
  · rw [ifp_f c, ifp_f c]
    rcases CK (n := n) fn hT z35 with ⟨q1, q2, q3, q4, q5⟩ | q
    · exact Or.inl ⟨q1, q2, q3, q4, t0.tr q5⟩
    · exact Or.inr q

