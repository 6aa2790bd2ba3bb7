/-! format's fills never fail: checkpoints and writes -/
theorem FI_mk {M X0 M2 X m2 x2 : zH} {r w ix g v T T2 n n2 : Int} (fi : FI M X0 T n) (p : PR M X0 M2 X r w ix g v) (hf : mFreeMany M2 = mFreeMany M) (z : gs M2 25 = 0) (fo : FO m2 x2 T2 n2) (gk : ∀ k, k = 1 ∨ k = 2 ∨ k = 3 ∨ k = 25 ∨ k = 32 ∨ k = 38 → gs m2 k = gs M2 k) (ak : ∀ c i, c = 2 ∨ c = 14 → ga m2 c i = ga M2 c i) (u : UQ m2 n2) (n0 : 0 ≤ n2) (n1 : n2 ≤ mParts M) : FI m2 x2 T2 n2 := by
  obtain ⟨f1, f2, f3, f4, f5, f6, f7, f8⟩ := fi
  have po := PR_o p
  have g (k : Nat) (h : k = 1 ∨ k = 2 ∨ k = 3 ∨ k = 32 ∨ k = 38) : gs m2 k = gs M k := (gk k (by omega)).trans (po.1 k (by omega) (by omega) (by omega))
  refine ⟨fo, (gk 25 (by decide)).trans z, (g 38 (by decide)).trans f3, fun q q0 q1 => ?_, ?_, u, ⟨n0, ?_⟩, ?_⟩
  · rw [ak 14 q (by decide), po.2 14 q (by decide) (by decide) (by decide) (by decide) (by decide)]
    exact f4 q q0 q1
  · have e : mFreeMany m2 = mFreeMany M2 := fm_c ⟨gk 1 (by decide), gk 2 (by decide), gk 32 (by decide)⟩ (fun b i _ _ _ _ _ => ak 2 i (by decide)) (by rw [po.1 2 (by decide) (by decide) (by decide)]; exact f1.1.2.2.1.1.2.2.1)
    omega
  · unfold mParts at n1 ⊢
    rw [g 3 (by decide)]
    exact n1
  · unfold mParts at f8 ⊢
    rw [g 3 (by decide), g 1 (by decide), g 2 (by decide)]
    exact f8
theorem UQ_35 {m m2 : zH} {n : Int} (u : UQ m n) (h : gs m2 1 = gs m 1 ∧ gs m2 2 = gs m 2) (a : ∀ c i, 2 ≤ c → c ≤ 5 → ga m2 c i = ga m c i) (e : gs m2 35 = gs m 35) : UQ m2 n := by
  have eN : mN m2 = mN m := by unfold mN; rw [h.1, h.2]
  exact UQ_sub u ⟨eN, fun i hi => ⟨i, ⟨hi.1, by rw [← eN]; exact hi.2.1, by have q := hi.2.2; unfold mProgd at q ⊢; rw [a 2 i (by decide) (by decide)] at q; exact q⟩, fun c c1 c2 => a c i c1 c2⟩⟩ e
theorem FI_ck0 {m x : zH} {T : Int} (f : FI m x T 0) (hT : T ≤ 2147483000) (z35 : gs m 35 = 0) : FI (m_ck0 m) (x_ck0 x) (T + 1) 0 := by
  obtain ⟨f1, f2, f3, f4, f5, f6, f7, f8⟩ := f
  obtain ⟨fo, z⟩ := FO_ck0 f1 hT z35
  have g (k : Nat) (h : k ≠ 39 ∧ k ≠ 35) : gs (m_ck0 m) k = gs m k := by
    unfold m_ck0
    rw [gs_ps, if_neg h.2, gs_ps, if_neg h.1]
  refine ⟨fo, f2, f3, f4, f5, ⟨f6.1, f6.2.1, fun _ i hi a b => ?_⟩, f7, f8⟩
  have v := (f1.2.1.2.2.2.2.1 i hi).2.2 (Or.inl a)
  have q39 := f1.2.1.2.2.2.1.2.1
  have e : gs (m_ck0 m) 35 = gs m 39 + 1 := by
    show wr (gs m 39 + 1) = _
    exact wr_id (by omega) (by omega)
  have b : ga m 4 i = gs (m_ck0 m) 35 := b
  omega
theorem CKL_I : ∀ (n : Nat) (m x : zH) (T part : Int), FI m x T part → T + 81 * n ≤ 2147482000 → gs m 35 ≠ 0 → 0 ≤ part → part + n = mParts m →
    (m_ckL n m part).2 = 1 ∧ (x_ckL n x part).2 = 1 ∧ FI (m_ckL n m part).1 (x_ckL n x part).1 (T + 81 * n) (part + n) ∧ TK m (m_ckL n m part).1 := by
  intro n
  induction n with
  | zero =>
    intro m x T part f hT z p0 p1
    refine ⟨rfl, rfl, ?_, TK.rf m⟩
    rw [show T + 81 * ((0 : Nat) : Int) = T by omega, show part + ((0 : Nat) : Int) = part by omega]
    exact f
  | succ n ih =>
    intro m x T part f hT z p0 p1
    have fo := f.1
    have pr := parts_r fo.1.2.2.1.1
    have x49 : gs x 49 = gs m 35 := by
      rw [sg_F fo (a := 39) (b := 49) (by decide)]
      have := fo.2.2.2.1.2.2.1
      omega
    rw [m_ckL, x_ckL, x49]
    unfold m_map
    obtain ⟨M, X0, r, M2, X, q1, q2, q3, q4, q5, q6, q7⟩ := PAGE_I f (by omega) (w := 3) (ix := part) (g := gs m 35) (-2) (by decide) (fun y => absurd y (by decide)) (fun _ => ⟨p0, by omega⟩)
    have r0 := q5.2.2.1.1.1
    rw [q1, q2, ifp_f (show ¬ r = -1 by omega), ifp_f (show ¬ r < 0 by omega), ifp_t rfl]
    have e35 : gs M 35 = gs m 35 := q4.1 35 (by decide) (by decide) (by decide) (by decide) (by decide) (by decide)
    have e3 : gs M 3 = gs m 3 := q4.1 3 (by decide) (by decide) (by decide) (by decide) (by decide) (by decide)
    have eP : mParts M = mParts m := by unfold mParts; rw [e3]
    have tk : TK m (cp8 M2 8 r part 10) := (q4.tr (TK_PR q5)).tr ⟨fun _ _ _ _ _ _ _ => rfl, fun c i h => by rw [ga_cp8, if_neg (by omega)]⟩
    rw [← e35] at q5
    have fm := FO_map q5 q3.1 (by omega) (by rw [e35]; exact z) p0 (by rw [e3]; omega)
    have po := PR_o q5
    have hx : gs M2 35 = gs M 35 := po.1 35 (by decide) (by decide) (by decide)
    -- the new page in the flash
    have d : Adp M (cp8 M2 8 r part 10) (ga X0 17) (fun i => if i = r then 0 else ga X0 17 i) r 3 part (gs M 35) := by
      have e19 : wr (gs (m_oper M) 19 + 1) = gs M 19 + 1 := by
        rw [gs_oper M 19 (by decide)]
        have := q3.1.2.1.2.2.2.1.1
        exact wr_id (by omega) (by omega)
      obtain ⟨b2, b3, b4, b5, b6⟩ := ga_progOk_at (m_oper M) r 3 part (gs M 35)
      rw [e19] at b5 b6
      rw [← q5.1] at b2 b3 b4 b5 b6
      have c8 (c : Nat) (i : Int) (h : c ≠ 8) : ga (cp8 M2 8 r part 10) c i = ga M2 c i := by rw [ga_cp8, if_neg (fun y => h y.1)]
      refine ⟨⟨po.1 1 (by decide) (by decide) (by decide), po.1 2 (by decide) (by decide) (by decide), po.1 3 (by decide) (by decide) (by decide), ?_⟩, fun i hi => ⟨fun c c1 c2 => ?_, fun k k0 k1 => ?_, if_neg hi⟩, ⟨⟨?_, ?_, ?_, ?_, ?_⟩, if_pos rfl⟩, q5.2.2.1, by decide, by decide⟩
      · show gs M2 19 = _
        rw [q5.1]
        exact e19
      · rw [c8 c i (by omega), q5.1, ga_progOk _ _ _ _ _ _ _ hi, ga_oper]
      · rw [ga_cp8, if_neg (by omega)]
        exact po.2 8 _ (by decide) (by decide) (by decide) (by decide) (by decide)
      · rw [c8 2 r (by decide)]; exact b2
      · rw [c8 3 r (by decide)]; exact b3
      · rw [c8 4 r (by decide)]; exact b4
      · rw [c8 5 r (by decide)]; exact b5
      · rw [c8 6 r (by decide)]; exact b6
    have uq : UQ (cp8 M2 8 r part 10) (part + 1) := UQ_add d q3.2.2.2.2.2.1 (by omega) (Or.inl hx) (fun _ => ⟨rfl, by rw [e35]; exact z, rfl, by omega⟩) (fun y => absurd y (by decide))
    have fi := FI_mk q3 q5 q6 q7 fm (fun k _ => rfl) (fun c i h => by rw [ga_cp8, if_neg (by omega)]) uq (by omega) (by rw [eP]; omega)
    have t := ih (cp8 M2 8 r part 10) (x_fmp X r part) (T + 80 + 1) (part + 1) fi (by omega) (by rw [tk.1 35 (by decide) (by decide) (by decide) (by decide) (by decide) (by decide)]; exact z) (by omega) (by unfold mParts; rw [tk.1 3 (by decide) (by decide) (by decide) (by decide) (by decide) (by decide)]; unfold mParts at p1; omega)
    rw [show T + 80 + 1 + 81 * (n : Int) = T + 81 * ((n + 1 : Nat) : Int) by omega, show part + 1 + (n : Int) = part + ((n + 1 : Nat) : Int) by omega] at t
    exact ⟨t.1, t.2.1, t.2.2.1, tk.tr t.2.2.2⟩
theorem FI_mono {m x : zH} {T T2 n : Int} (f : FI m x T n) (h : T ≤ T2) : FI m x T2 n := ⟨FO_mono f.1 h, f.2⟩
theorem CK_I {m x : zH} {T : Int} (f : FI m x T 0) (hT : T + 800 ≤ 2147480000) (z35 : gs m 35 = 0) : (m_ck m).2 = 1 ∧ (x_ck x).2 = 1 ∧ FI (m_ck m).1 (x_ck x).1 (T + 800) 0 ∧ gs (m_ck m).1 35 = 0 := by
  have f0 := FI_ck0 f (by omega) z35
  have z := (FO_ck0 f.1 (by omega) z35).2
  have p := parts_r f.1.1.2.2.1.1
  have x5 := x105 f.1.1
  unfold m_ck x_ck m_ck1 x_ck1
  rw [x5]
  have q := CKL_I (mParts m).toNat (m_ck0 m) (x_ck0 x) (T + 1) 0 f0 (by omega) z (by decide) (by show 0 + ((mParts m).toNat : Int) = mParts m; omega)
  generalize m_ckL (mParts m).toNat (m_ck0 m) 0 = a at q ⊢
  generalize x_ckL (mParts m).toNat (x_ck0 x) 0 = b at q ⊢
  obtain ⟨q1, q2, q3, q4⟩ := q
  rw [ifp_t q1, ifp_t q2]
  have e35 : gs a.1 35 = gs (m_ck0 m) 35 := q4.1 35 (by decide) (by decide) (by decide) (by decide) (by decide) (by decide)
  have e3 : gs a.1 3 = gs m 3 := q4.1 3 (by decide) (by decide) (by decide) (by decide) (by decide) (by decide)
  have z2 : gs a.1 35 ≠ 0 := by rw [e35]; exact z
  have x49 : gs b.1 49 = gs a.1 35 := by
    rw [sg_F q3.1 (a := 39) (b := 49) (by decide)]
    have := q3.1.2.2.2.1.2.2.1
    omega
  unfold m_ck2 x_ck2
  rw [x49]
  obtain ⟨M, X0, r, M2, X, w1, w2, w3, w4, w5, w6, w7⟩ := PAGE_I q3 (by omega) (w := 4) (ix := 0) (g := gs a.1 35) (-2) (by decide) (fun y => absurd y (by decide)) (fun y => absurd y (by decide))
  have r0 := w5.2.2.1.1.1
  have r1 := w5.2.2.1.1.2
  have sx := w5.2.2.2
  have x72 : gs X 72 = mN M2 := S72 sx.1 sx.2.1
  have pr := PR_o w5
  have eN : mN M2 = mN M := by unfold mN; rw [pr.1 1 (by decide) (by decide) (by decide), pr.1 2 (by decide) (by decide) (by decide)]
  rw [w1, w2, ifp_f (show ¬ r = -1 by omega), ifp_t (show xPl X r from ⟨r0, by rw [x72, eN]; exact r1⟩)]
  have e35M : gs M 35 = gs a.1 35 := w4.1 35 (by decide) (by decide) (by decide) (by decide) (by decide) (by decide)
  have e3M : gs M 3 = gs a.1 3 := w4.1 3 (by decide) (by decide) (by decide) (by decide) (by decide) (by decide)
  rw [← e35M] at w5
  have fe := FO_end (n2 := 0) w5 w3.1 (by omega) (by rw [e35M]; exact z2) (by omega) (by rw [e3M, e3]; omega)
  have o7 := w3.1.2.2.2.1.2.2.2.2.2.2 (by rw [e35M]; exact z2)
  obtain ⟨s, d, _, _⟩ := PRfin (M3 := M2) (X3 := X) w5 w3.1 (by omega) (by decide) (by decide) (fun _ => rfl) (fun _ _ _ _ => rfl) (fun _ _ => rfl) (fun _ _ => rfl) (fun _ => rfl) (fun _ _ _ => rfl) (fun _ _ => rfl) ⟨fun z => absurd z (by decide), fun _ => rfl, fun z => absurd z (by decide)⟩
  have d4 : Adp M (m_ckEnd M2 r) (ga X0 17) (ga X 17) r 4 0 (gs M 35) := Adp_tab d (fun k h => by unfold m_ckEnd; simp only [gs_ps]; rw [if_neg (by omega), if_neg (by omega), if_neg (by omega), if_neg (by omega)]) (fun _ _ _ _ => rfl) (fun _ => rfl)
  have uq0 : UQ (m_ckEnd M2 r) (0 + ((mParts m).toNat : Int)) := UQ_add d4 w3.2.2.2.2.2.1 (Int.le_refl _) (Or.inr rfl) (fun y => absurd y (by decide)) (fun _ => o7.2.2)
  have uq : UQ (m_ckEnd M2 r) 0 := ⟨uq0.1, uq0.2.1, fun y => absurd rfl y⟩
  have fi := FI_mk w3 w5 w6 w7 fe (fun k h => by unfold m_ckEnd; simp only [gs_ps]; rw [if_neg (by omega), if_neg (by omega), if_neg (by omega), if_neg (by omega)]) (fun _ _ _ => rfl) uq (Int.le_refl _) (by unfold mParts; rw [e3M, e3]; unfold mParts at p; omega)
  exact ⟨rfl, rfl, FI_mono fi (by omega), rfl⟩
theorem FI_num {m x : zH} {T n : Int} (f : FI m x T n) {a b : Nat} (h : a = 36 ∧ b = 48 ∨ a = 23 ∧ b = 53) (v : Int) : FI (ps m a v) (ps x b v) T n := by
  obtain ⟨f1, f2, f3, f4, f5, f6, f7, f8⟩ := f
  have g (k : Nat) (hk : k ≠ 36 ∧ k ≠ 23) : gs (ps m a v) k = gs m k := by rw [gs_ps, if_neg (by omega)]
  have e : mFreeMany (ps m a v) = mFreeMany m := fm_c ⟨g 1 (by decide), g 2 (by decide), g 32 (by decide)⟩ (fun _ _ _ _ _ _ _ => rfl) f1.1.2.2.1.1.2.2.1
  refine ⟨FO_num f1 h v, (g 25 (by decide)).trans f2, (g 38 (by decide)).trans f3, f4, by omega, UQ_35 f6 ⟨g 1 (by decide), g 2 (by decide)⟩ (fun _ _ _ _ => rfl) (g 35 (by decide)), ?_, ?_⟩
  · unfold mParts
    rw [g 3 (by decide)]
    exact f7
  · unfold mParts
    rw [g 3 (by decide), g 1 (by decide), g 2 (by decide)]
    exact f8
theorem CC_I {m x : zH} {T : Int} (f : FI m x T 0) (hT : T + 800 ≤ 2147480000) (z35 : gs m 35 = 0) : (m_cc m).2 = 1 ∧ (x_cc x).2 = 1 ∧ FI (m_cc m).1 (x_cc x).1 (T + 800) 0 ∧ gs (m_cc m).1 35 = 0 := by
  have e48 : gs x 48 = gs m 36 := sg_F f.1 (by decide)
  have e47 : gs x 47 = gs m 4 := sg_F f.1 (by decide)
  have fn := FI_num f (Or.inl ⟨rfl, rfl⟩) (wr (gs m 36 + 1))
  unfold m_cc x_cc
  rw [e48, e47]
  by_cases c : wr (gs m 36 + 1) < gs m 4
  · rw [ifp_t c, ifp_t c]
    exact ⟨rfl, rfl, FI_mono fn (by omega), z35⟩
  · rw [ifp_f c, ifp_f c]
    exact CK_I fn hT z35
/-- a fill is written on both sides -/
theorem WOUT_I {m x : zH} {T : Int} (f : FI m x T 0) (hT : T + 900 ≤ 2147480000) (z35 : gs m 35 = 0) {p : Int} (v : Int) (p0 : 0 ≤ p) (p1 : p < gs m 3) :
    (m_wout m p v).2 ≠ 0 ∧ FI (m_wout m p v).1 (x_wout x p v).1 (T + 900) 0 ∧ gs (m_wout m p v).1 35 = 0 := by
  have fo := f.1
  have vb := VB fo f.2.2.1 f.2.2.2.1 f.2.2.2.2.2.1 (Int.le_refl _)
  rw [if_pos z35] at vb
  have room : mRoomFor m (m_pfc m) := by
    have g := f.2.2.2.2.2.2.2
    have pr := parts_r fo.1.2.2.1.1
    have : m_pfc m ≤ mParts m + 2 := by
      unfold m_pfc
      by_cases c : gs m 4 ≤ wr (gs m 36 + 1)
      · rw [ifp_t c]; exact Int.le_refl _
      · rw [ifp_f c]; omega
    unfold mRoomFor
    omega
  have hw : m_wout m p v = m_wo1 m p v := ifp_t room
  rw [hw]
  obtain ⟨M, X0, r, M2, X, q1, q2, q3, q4, q5, q6, q7⟩ := PAGE_I f (by omega) (w := 1) (ix := p) (g := 0) v (by decide) (fun _ => ⟨p0, p1⟩) (fun y => absurd y (by decide))
  have r0 := q5.2.2.1.1.1
  have r1 := q5.2.2.1.1.2
  have sx := q5.2.2.2
  have x72 : gs X 72 = mN M2 := S72 sx.1 sx.2.1
  have pr := PR_o q5
  have eN : mN M2 = mN M := by unfold mN; rw [pr.1 1 (by decide) (by decide) (by decide), pr.1 2 (by decide) (by decide) (by decide)]
  have e35 : gs M 35 = 0 := (q4.1 35 (by decide) (by decide) (by decide) (by decide) (by decide) (by decide)).trans z35
  have e3 : gs M 3 = gs m 3 := q4.1 3 (by decide) (by decide) (by decide) (by decide) (by decide) (by decide)
  obtain ⟨w1, w2, w3⟩ := FO_out (n := 0) q5 q3.1 (by omega) e35 p0 (by rw [e3]; exact p1)
  have d19 := q3.1.2.1.2.2.2.1.1
  have hd : m_data m 0 p v = (pa M2 7 r v, r) := by
    unfold m_data
    rw [q1, ifp_f (show ¬ (M2, r).2 = -1 from fun y => by have : r = -1 := y; omega)]
  have e5 : ga (pa M2 7 r v) 5 r = gs M 19 + 1 := by rw [ga_pa, if_neg (fun z => absurd z.1 (by decide))]; exact w1
  have hm : m_wo1 m p v = m_wo2 (pa M2 7 r v) p r := by
    unfold m_wo1
    rw [hd]
    exact ifp_f (fun y => by have : r = -1 := y; omega)
  have hx : x_wout x p v = x_wo2 (x_setC X p (gs M 19 + 1)) (gs M 19 + 1) := by
    unfold x_wout
    rw [q2]
    show ifp (xPl X r) (x_wo2 (x_setC X p (ga X 13 r)) (ga X 13 r)) (X, -1) = _
    rw [w2]
    exact ifp_t ⟨r0, by rw [x72, eN]; exact r1⟩
  rw [hm, hx]
  unfold m_wo2 x_wo2
  rw [e5]
  have e35b : gs (pa (pa M2 7 r v) 10 p (gs M 19 + 1)) 35 = 0 := (pr.1 35 (by decide) (by decide) (by decide)).trans e35
  obtain ⟨s, d, _, _⟩ := PRfin (M3 := pa M2 7 r v) (X3 := X) q5 q3.1 (by omega) (by decide) (by decide) (fun _ => rfl) (fun c i h _ => by rw [ga_pa, if_neg (fun z => h z.1)]) (fun i h => by rw [ga_pa, if_neg (fun z => h z.2)]) (fun j _ => by rw [ga_pa, if_neg (fun z => absurd z.1 (by decide))]) (fun _ => rfl) (fun _ _ _ => rfl) (fun _ _ => rfl) ⟨fun _ => by rw [ga_pa, if_pos ⟨rfl, rfl⟩], fun z => absurd rfl z, fun z => absurd z (by decide)⟩
  have d4 : Adp M (pa (pa M2 7 r v) 10 p (gs M 19 + 1)) (ga X0 17) (ga X 17) r 1 p 0 := Adp_tab d (fun _ _ => rfl) (fun c i c1 c2 => by rw [ga_pa, if_neg (by omega)]) (fun i => rfl)
  have uq : UQ (pa (pa M2 7 r v) 10 p (gs M 19 + 1)) 0 := UQ_add d4 q3.2.2.2.2.2.1 (Int.le_refl _) (Or.inr e35b) (fun y => absurd y (by decide)) (fun y => absurd y (by decide))
  have pp := parts_r q3.1.1.2.2.1.1
  have fi := FI_mk q3 q5 q6 q7 w3 (fun _ _ => rfl) (fun c i h => by rw [ga_pa, if_neg (by omega), ga_pa, if_neg (by omega)]) uq (Int.le_refl _) pp.1
  obtain ⟨c1, c2, c3, c4⟩ := CC_I fi (by omega) e35b
  generalize m_cc (pa (pa M2 7 r v) 10 p (gs M 19 + 1)) = a at c1 c3 c4 ⊢
  generalize x_cc (x_setC X p (gs M 19 + 1)) = b at c2 c3 ⊢
  rw [ifp_t c1, ifp_t c2]
  have e53 : gs b.1 53 = gs a.1 23 := sg_F c3.1 (by decide)
  refine ⟨?_, ?_, c4⟩
  · show gs M 19 + 1 ≠ 0
    omega
  · show FI (ps a.1 23 _) (ps b.1 53 (wr (gs b.1 53 + 1))) _ 0
    rw [e53]
    exact FI_mono (FI_num c3 (Or.inr ⟨rfl, rfl⟩) _) (by omega)

