/-! a page of each kind, on both sides -/
theorem PR_o {M X0 M2 X : zH} {r w ix g v : Int} (p : PR M X0 M2 X r w ix g v) : (∀ k, k ≠ 19 → k ≠ 20 → k ≠ 25 → gs M2 k = gs M k) ∧ ∀ c i, c ≠ 2 → c ≠ 3 → c ≠ 4 → c ≠ 5 → c ≠ 6 → ga M2 c i = ga M c i := by
  rw [p.1]
  exact ⟨fun k h1 h2 h3 => by rw [gs_progOk _ _ _ _ _ k ⟨h1, h2⟩, gs_oper _ _ h3], fun c i h1 h2 h3 h4 h5 => by rw [ga_progOk_o _ _ _ _ _ _ _ ⟨h1, h2, h3, h4, h5⟩, ga_oper]⟩
theorem Adp_tab {m m3 m4 : zH} {cp cp3 cp4 : Int → Int} {r w ix g : Int} (d : Adp m m3 cp cp3 r w ix g) (g1 : ∀ k, k = 1 ∨ k = 2 ∨ k = 3 ∨ k = 19 → gs m4 k = gs m3 k) (a : ∀ c i, 2 ≤ c → c ≤ 8 → ga m4 c i = ga m3 c i) (e : ∀ i, cp4 i = cp3 i) : Adp m m4 cp cp4 r w ix g := by
  obtain ⟨h1, h2, h3, h4, h5⟩ := d
  refine ⟨?_, fun i hi => ⟨fun c c1 c2 => ?_, fun k k0 k1 => ?_, ?_⟩, ?_, h4, h5⟩
  · rw [g1 1 (by decide), g1 2 (by decide), g1 3 (by decide), g1 19 (by decide)]
    exact h1
  · rw [a c i c1 (by omega)]
    exact (h2 i hi).1 c c1 c2
  · rw [a 8 _ (by decide) (by decide)]
    exact (h2 i hi).2.1 k k0 k1
  · rw [e]
    exact (h2 i hi).2.2
  · rw [a 2 _ (by decide) (by decide), a 3 _ (by decide) (by decide), a 4 _ (by decide) (by decide), a 5 _ (by decide) (by decide), a 6 _ (by decide) (by decide), e]
    exact h3
theorem FO_out {M X0 M2 X : zH} {r ix v T k n : Int} (p : PR M X0 M2 X r 1 ix 0 v) (f : FO M X0 T k) (hT : T ≤ 2147483000) (z35 : gs M 35 = 0) (i0 : 0 ≤ ix) (i1 : ix < gs M 3) :
    ga M2 5 r = gs M 19 + 1 ∧ ga X 13 r = gs M 19 + 1 ∧ FO (pa (pa M2 7 r v) 10 ix (gs M 19 + 1)) (x_setC X ix (gs M 19 + 1)) (T + 1) n := by
  have L := f.1.2.2.1.1.2.2.2.2.2
  obtain ⟨s, d, x13, m5⟩ := PRfin (M3 := pa M2 7 r v) (X3 := X) p f hT (by decide) (by decide) (fun _ => rfl) (fun c i h _ => by rw [ga_pa, if_neg (fun z => h z.1)]) (fun i h => by rw [ga_pa, if_neg (fun z => h z.2)]) (fun j _ => by rw [ga_pa, if_neg (fun z => absurd z.1 (by decide))]) (fun _ => rfl) (fun _ _ _ => rfl) (fun _ _ => rfl) ⟨fun _ => by rw [ga_pa, if_pos ⟨rfl, rfl⟩], fun z => absurd rfl z, fun z => absurd z (by decide)⟩
  rw [ga_pa, if_neg (fun z => absurd z.1 (by decide))] at m5
  obtain ⟨pg1, pa1⟩ := PR_o p
  have mi := f.1.2.2.1.2.1
  obtain ⟨sm, dv, nf, on, o, pp⟩ := f
  have hx : x_setC X ix (gs M 19 + 1) = pa X 21 ix (gs M 19 + 1) := by
    refine ifp_t ⟨i0, ?_⟩
    rw [sg s.1 (a := 3) (b := 104) (by decide)]
    show ix < gs M2 3
    rw [pg1 3 (by decide) (by decide) (by decide)]
    exact i1
  rw [hx]
  have d4 : Adp M (pa (pa M2 7 r v) 10 ix (gs M 19 + 1)) (ga X0 17) (ga (pa X 21 ix (gs M 19 + 1)) 17) r 1 ix 0 := Adp_tab d (fun _ _ => rfl) (fun c i c1 c2 => by rw [ga_pa, if_neg (by omega)]) (fun i => by rw [ga_pa, if_neg (by omega)])
  have gk (k : Nat) (h : k ≠ 19 ∧ k ≠ 20 ∧ k ≠ 25) : gs (pa (pa M2 7 r v) 10 ix (gs M 19 + 1)) k = gs M k := pg1 k h.1 h.2.1 h.2.2
  have ak (c : Nat) (i : Int) (h : 8 ≤ c ∧ c ≠ 10) : ga (pa (pa M2 7 r v) 10 ix (gs M 19 + 1)) c i = ga M c i := by
    rw [ga_pa, if_neg (by omega), ga_pa, if_neg (by omega)]
    exact pa1 c i (by omega) (by omega) (by omega) (by omega) (by omega)
  refine ⟨m5, x13, ?_, adp_Dv d4 dv (Int.le_refl _) (gk 39 (by decide)) (gk 38 (by decide)) (fun b => ak 9 b (by decide)) (fun i hi h2 => ?_) ⟨fun _ => ⟨by decide, dv.2.2.2.2.2.1⟩, fun z => absurd z (by decide), fun z => by omega⟩, adp_Nf d4 dv nf, On_out d4 dv mi on i0 i1 L (gk 33 (by decide)) (gk 34 (by decide)) (gk 35 (by decide)) (gk 38 (by decide)) (gk 39 (by decide)) z35 (fun p => ?_) (fun c p h => ak c p (by omega)), (gk 26 (by decide)).trans o, by rw [gk 2 (by decide)]; exact pp⟩
  · refine SIM_tab s (fun _ => rfl) (fun _ => rfl) (fun c i h _ _ _ => by rw [ga_pa, if_neg (fun z => h z.1)]) (fun c i _ h _ _ => by rw [ga_pa, if_neg (fun z => h z.1)]) (fun q q0 q1 => ?_) (fun t t0 t1 => ?_)
    · have e := s.2.2.2.2.2.1 q q0 q1
      simp [ga_pa] at e
      obtain ⟨q2, q3, q4⟩ := e
      by_cases z : q = ix
      · simp [ga_pa, z] at q3 q4 ⊢
        exact ⟨q3, q4⟩
      · simp [ga_pa, z]
        exact ⟨q2, q3, q4⟩
    · rw [ga_pa, if_neg (fun z => absurd z.1 (by decide)), ga_pa, if_neg (fun z => absurd z.1 (by decide))]
      exact s.2.2.2.2.2.2.2 t t0 t1
  · rw [ak 15 _ (by decide)]
    exact ((dv.2.2.2.2.1 i hi).2.1 h2).2
  · rw [ga_pa]
    by_cases z : p = ix
    · rw [if_pos ⟨rfl, z⟩, if_pos z]
    · rw [if_neg (fun y => z y.2), if_neg z, ga_pa, if_neg (fun y => absurd y.1 (by decide))]
      exact pa1 10 p (by decide) (by decide) (by decide) (by decide) (by decide)
theorem FO_in {M X0 M2 X : zH} {r ix g v T k n : Int} (p : PR M X0 M2 X r 1 ix g v) (f : FO M X0 T k) (hT : T ≤ 2147483000) (z35 : gs M 35 = 0) (i0 : 0 ≤ ix) (i1 : ix < gs M 3) (t0 : 1 ≤ g) (t1 : g ≤ gs M 38) (ts : ga M 15 g = 1) (ow : ga M 11 ix = 0 ∨ ga M 11 ix = g) :
    ga M2 5 r = gs M 19 + 1 ∧ ga X 13 r = gs M 19 + 1 ∧ FO (pa (pa (pa M2 7 r v) 11 ix g) 12 ix (gs M 19 + 1)) (x_pis X g ix (gs M 19 + 1)) (T + 1) n := by
  have L := f.1.2.2.1.1.2.2.2.2.2
  obtain ⟨s, d, x13, m5⟩ := PRfin (M3 := pa M2 7 r v) (X3 := X) p f hT (by decide) (by decide) (fun _ => rfl) (fun c i h _ => by rw [ga_pa, if_neg (fun z => h z.1)]) (fun i h => by rw [ga_pa, if_neg (fun z => h z.2)]) (fun j _ => by rw [ga_pa, if_neg (fun z => absurd z.1 (by decide))]) (fun _ => rfl) (fun _ _ _ => rfl) (fun _ _ => rfl) ⟨fun _ => by rw [ga_pa, if_pos ⟨rfl, rfl⟩], fun z => absurd rfl z, fun z => absurd z (by decide)⟩
  rw [ga_pa, if_neg (fun z => absurd z.1 (by decide))] at m5
  obtain ⟨pg1, pa1⟩ := PR_o p
  have mi := f.1.2.2.1.2.1
  obtain ⟨sm, dv, nf, on, o, pp⟩ := f
  have hx : x_pis X g ix (gs M 19 + 1) = pa (pa X 23 ix g) 22 ix (gs M 19 + 1) := by
    refine ifp_t ⟨i0, ?_⟩
    rw [sg s.1 (a := 3) (b := 104) (by decide)]
    show ix < gs M2 3
    rw [pg1 3 (by decide) (by decide) (by decide)]
    exact i1
  rw [hx]
  have d4 : Adp M (pa (pa (pa M2 7 r v) 11 ix g) 12 ix (gs M 19 + 1)) (ga X0 17) (ga (pa (pa X 23 ix g) 22 ix (gs M 19 + 1)) 17) r 1 ix g := Adp_tab d (fun _ _ => rfl) (fun c i c1 c2 => by rw [ga_pa, if_neg (by omega), ga_pa, if_neg (by omega)]) (fun i => by rw [ga_pa, if_neg (by omega), ga_pa, if_neg (by omega)])
  have gk (k : Nat) (h : k ≠ 19 ∧ k ≠ 20 ∧ k ≠ 25) : gs (pa (pa (pa M2 7 r v) 11 ix g) 12 ix (gs M 19 + 1)) k = gs M k := pg1 k h.1 h.2.1 h.2.2
  have ak (c : Nat) (i : Int) (h : 8 ≤ c ∧ c ≠ 11 ∧ c ≠ 12) : ga (pa (pa (pa M2 7 r v) 11 ix g) 12 ix (gs M 19 + 1)) c i = ga M c i := by
    rw [ga_pa, if_neg (by omega), ga_pa, if_neg (by omega), ga_pa, if_neg (by omega)]
    exact pa1 c i (by omega) (by omega) (by omega) (by omega) (by omega)
  have b11 (q : Int) : ga (pa (pa (pa M2 7 r v) 11 ix g) 12 ix (gs M 19 + 1)) 11 q = if q = ix then g else ga M 11 q := by
    rw [ga_pa, if_neg (by omega), ga_pa]
    by_cases z : q = ix
    · rw [if_pos ⟨rfl, z⟩, if_pos z]
    · rw [if_neg (fun y => z y.2), if_neg z, ga_pa, if_neg (by omega)]
      exact pa1 11 q (by decide) (by decide) (by decide) (by decide) (by decide)
  have b12 (q : Int) : ga (pa (pa (pa M2 7 r v) 11 ix g) 12 ix (gs M 19 + 1)) 12 q = if q = ix then gs M 19 + 1 else ga M 12 q := by
    rw [ga_pa]
    by_cases z : q = ix
    · rw [if_pos ⟨rfl, z⟩, if_pos z]
    · rw [if_neg (fun y => z y.2), if_neg z, ga_pa, if_neg (by omega), ga_pa, if_neg (by omega)]
      exact pa1 12 q (by decide) (by decide) (by decide) (by decide) (by decide)
  refine ⟨m5, x13, ?_, adp_Dv d4 dv (Int.le_refl _) (gk 39 (by decide)) (gk 38 (by decide)) (fun b => ak 9 b (by decide)) (fun i hi h2 => ?_) ⟨fun _ => ⟨by omega, t1⟩, fun z => absurd z (by decide), fun z => by omega⟩, adp_Nf d4 dv nf, On_in d4 dv mi on i0 i1 L t0 t1 ts ow (gk 33 (by decide)) (gk 34 (by decide)) (gk 35 (by decide)) (gk 38 (by decide)) (gk 39 (by decide)) z35 b11 b12 (fun c p h => ak c p (by omega)), (gk 26 (by decide)).trans o, by rw [gk 2 (by decide)]; exact pp⟩
  · refine SIM_tab s (fun _ => rfl) (fun _ => rfl) (fun c i _ h h2 _ => by rw [ga_pa, if_neg (fun z => h2 z.1), ga_pa, if_neg (fun z => h z.1)]) (fun c i _ _ h h2 => by rw [ga_pa, if_neg (fun z => h z.1), ga_pa, if_neg (fun z => h2 z.1)]) (fun q q0 q1 => ?_) (fun t t0 t1 => ?_)
    · have e := s.2.2.2.2.2.1 q q0 q1
      simp [ga_pa] at e
      obtain ⟨q2, q3, q4⟩ := e
      by_cases z : q = ix
      · simp [ga_pa, z] at q2 ⊢
        exact q2
      · simp [ga_pa, z]
        exact ⟨q2, q3, q4⟩
    · have e := s.2.2.2.2.2.2.2 t t0 t1
      simp [ga_pa] at e ⊢
      exact e
  · rw [ak 15 _ (by decide)]
    exact ((dv.2.2.2.2.1 i hi).2.1 h2).2
theorem FO_com {M X0 M2 X : zH} {r ix g T k n : Int} (p : PR M X0 M2 X r 2 ix g (-2)) (f : FO M X0 T k) (hT : T ≤ 2147483000) (z35 : gs M 35 = 0) (t0 : 1 ≤ g) (t1 : g ≤ gs M 38) (ts : ga M 15 g = 1) :
    FO (m_cm2 M2 g) (x_cm2 X g) (T + 1) n := by
  have L := f.1.2.2.1.1.2.2.2.2.2
  obtain ⟨s, d, x13, m5⟩ := PRfin (M3 := M2) (X3 := X) p f hT (by decide) (by decide) (fun _ => rfl) (fun _ _ _ _ => rfl) (fun _ _ => rfl) (fun _ _ => rfl) (fun _ => rfl) (fun _ _ _ => rfl) (fun _ _ => rfl) ⟨fun z => absurd z (by decide), fun _ => rfl, fun z => absurd z (by decide)⟩
  obtain ⟨pg1, pa1⟩ := PR_o p
  have mi := f.1.2.2.1.2.1
  obtain ⟨sm, dv, nf, on, o, pp⟩ := f
  have e3 : gs M2 3 = gs M 3 := pg1 3 (by decide) (by decide) (by decide)
  have e38 : gs M2 38 = gs M 38 := pg1 38 (by decide) (by decide) (by decide)
  have x104 : gs X 104 = gs M 3 := by rw [sg s.1 (a := 3) (b := 104) (by decide)]; exact e3
  have x81 : gs X 81 = gs M 38 := by rw [sg s.1 (a := 38) (b := 81) (by decide)]; exact e38
  have hx : x_cm2 X g = pa (x_cms X g) 20 g 2 := by
    refine ifp_t ⟨t0, ?_⟩
    show g ≤ gs X 81
    rw [x81]
    exact t1
  have mc (c : Nat) (j : Int) : ga (m_cm2 M2 g) c j = if c = 15 ∧ j = g then 2 else if (c = 11 ∨ c = 12) ∧ 0 ≤ j ∧ j < gs M 3 ∧ ga M2 11 j = g then 0 else if c = 10 ∧ 0 ≤ j ∧ j < gs M 3 ∧ ga M2 11 j = g then ga M2 12 j else ga M2 c j := by
    unfold m_cm2
    rw [ga_pa, ga_unl, ga_shd, ga_shd, e3, if_neg (show ¬ (11 = 10 ∧ _) by omega)]
  have xc (c : Nat) (j : Int) : ga (x_cm2 X g) c j = if c = 20 ∧ j = g then 2 else if (c = 22 ∨ c = 23) ∧ 0 ≤ j ∧ j < gs M 3 ∧ ga X 23 j = g then 0 else if c = 21 ∧ 0 ≤ j ∧ j < gs M 3 ∧ ga X 23 j = g then ga X 22 j else ga X c j := by
    rw [hx]
    unfold x_cms
    rw [ga_pa, ga_xrel, ga_xshd, ga_xshd, x104, if_neg (show ¬ (23 = 21 ∧ _) by omega)]
  have gk (k : Nat) (h : k ≠ 19 ∧ k ≠ 20 ∧ k ≠ 25) : gs (m_cm2 M2 g) k = gs M k := pg1 k h.1 h.2.1 h.2.2
  have p11 (q : Int) : ga M2 11 q = ga M 11 q := pa1 11 q (by decide) (by decide) (by decide) (by decide) (by decide)
  have p12 (q : Int) : ga M2 12 q = ga M 12 q := pa1 12 q (by decide) (by decide) (by decide) (by decide) (by decide)
  have ak (c : Nat) (i : Int) (h : 8 ≤ c ∧ c ≠ 10 ∧ c ≠ 11 ∧ c ≠ 12 ∧ c ≠ 15) : ga (m_cm2 M2 g) c i = ga M c i := by
    rw [mc, if_neg (by omega), if_neg (by omega), if_neg (by omega)]
    exact pa1 c i (by omega) (by omega) (by omega) (by omega) (by omega)
  have d4 : Adp M (m_cm2 M2 g) (ga X0 17) (ga (x_cm2 X g) 17) r 2 ix g := Adp_tab d (fun _ _ => rfl) (fun c i c1 c2 => by rw [mc, if_neg (by omega), if_neg (by omega), if_neg (by omega)]) (fun i => by rw [xc, if_neg (by omega), if_neg (by omega), if_neg (by omega)])
  have b15 (t : Int) : ga (m_cm2 M2 g) 15 t = if t = g then 2 else ga M 15 t := by
    rw [mc]
    by_cases z : t = g
    · rw [if_pos ⟨rfl, z⟩, if_pos z]
    · rw [if_neg (fun y => z y.2), if_neg z, if_neg (by omega), if_neg (by omega)]
      exact pa1 15 t (by decide) (by decide) (by decide) (by decide) (by decide)
  refine ⟨?_, adp_Dv d4 dv (Int.le_refl _) (gk 39 (by decide)) (gk 38 (by decide)) (fun b => ak 9 b (by decide)) (fun i hi h2 => ?_) ⟨fun z => absurd z (by decide), fun _ => ⟨⟨t0, t1⟩, by rw [b15, if_pos rfl]⟩, fun z => by omega⟩, adp_Nf d4 dv nf, On_com d4 dv mi on L t0 t1 ts (gk 33 (by decide)) (gk 34 (by decide)) (gk 35 (by decide)) (gk 38 (by decide)) (gk 39 (by decide)) z35 (fun q => ?_) (fun q => ?_) (fun q => ?_) b15 (fun c p h => ak c p (by omega)), (gk 26 (by decide)).trans o, by rw [gk 2 (by decide)]; exact pp⟩
  · refine SIM_tab s (fun _ => rfl) (fun k => ?_) (fun c i h1 h2 h3 h4 => by rw [mc, if_neg (by omega), if_neg (by omega), if_neg (by omega)]) (fun c i h1 h2 h3 h4 => by rw [xc, if_neg (by omega), if_neg (by omega), if_neg (by omega)]) (fun q q0 q1 => ?_) (fun t y0 y1 => ?_)
    · rw [hx]; rfl
    · obtain ⟨q2, q3, q4⟩ := s.2.2.2.2.2.1 q q0 q1
      simp only [mc, xc, q2, q3, q4]
      by_cases z : 0 ≤ q ∧ q < gs M 3 ∧ ga M2 11 q = g
      · simp [z]
      · simp [z]
    · have e := s.2.2.2.2.2.2.2 t y0 y1
      simp only [mc, xc, e]
      by_cases z : t = g
      · simp [z]
      · simp [z]
  · rw [b15]
    by_cases z : ga M 4 i = g
    · rw [if_pos z]
    · rw [if_neg z]
      exact ((dv.2.2.2.2.1 i hi).2.1 h2).2
  · rw [mc, if_neg (by omega), if_neg (by omega), p11, p12, pa1 10 q (by decide) (by decide) (by decide) (by decide) (by decide)]
    by_cases z : 0 ≤ q ∧ q < gs M 3 ∧ ga M 11 q = g
    · rw [if_pos ⟨rfl, z⟩, if_pos z]
    · rw [if_neg (fun y => z y.2), if_neg z]
  · rw [mc, if_neg (by omega), p11]
    by_cases z : 0 ≤ q ∧ q < gs M 3 ∧ ga M 11 q = g
    · rw [if_pos ⟨Or.inl rfl, z⟩, if_pos z]
    · rw [if_neg (fun y => z y.2), if_neg z, if_neg (by omega)]
  · rw [mc, if_neg (by omega), p11, p12]
    by_cases z : 0 ≤ q ∧ q < gs M 3 ∧ ga M 11 q = g
    · rw [if_pos ⟨Or.inr rfl, z⟩, if_pos z]
    · rw [if_neg (fun y => z y.2), if_neg z, if_neg (by omega)]
theorem FO_map {M X0 M2 X : zH} {r n T : Int} (p : PR M X0 M2 X r 3 n (gs M 35) (-2)) (f : FO M X0 T n) (hT : T ≤ 2147483000) (z35 : gs M 35 ≠ 0) (n0 : 0 ≤ n) (n1 : 8 * n < gs M 3) :
    FO (cp8 M2 8 r n 10) (x_fmp X r n) (T + 1) (n + 1) := by
  have L := f.1.2.2.1.1.2.2.2.2.2
  obtain ⟨pg1, pa1⟩ := PR_o p
  have p10 (q : Int) : ga M2 10 q = ga M 10 q := pa1 10 q (by decide) (by decide) (by decide) (by decide) (by decide)
  have e3 : gs M2 3 = gs M 3 := pg1 3 (by decide) (by decide) (by decide)
  have sx := p.2.2.2
  have x72 : gs X 72 = mN M2 := S72 sx.1 sx.2.1
  have x104 : gs X 104 = gs M 3 := by rw [sg sx.1 (a := 3) (b := 104) (by decide)]; exact e3
  have eN : mN M2 = mN M := by unfold mN; rw [pg1 1 (by decide) (by decide) (by decide), pg1 2 (by decide) (by decide) (by decide)]
  have hx : x_fmp X r n = x_fill X r n 8 := ifp_t ⟨p.2.2.1.1.1, by rw [x72, eN]; exact p.2.2.1.1.2⟩
  rw [hx]
  have f16 (j : Int) (j0 : 8 * r ≤ j) (j1 : j < 8 * r + 8) : ga (x_fill X r n 8) 16 j = ga (cp8 M2 8 r n 10) 8 j := by
    rw [ga_xfill, ifp_t (by omega), ga_cp8, if_pos ⟨rfl, j0, j1⟩]
    unfold xSeen xHas
    have e : n * 8 + (j - r * 8) = 8 * n + (j - 8 * r) := by omega
    rw [x104, e]
    have st := sx.2.2.2.2.2.1 (8 * n + (j - 8 * r)) (by omega) (by omega)
    by_cases z : 8 * n + (j - 8 * r) < gs M 3
    · rw [ifp_t ⟨by omega, z⟩, ifp_f (fun y => absurd rfl y.1), st.1]
    · rw [ifp_f (fun y => z y.2), p10]
      exact ((f.2.2.2.1.1 (8 * n + (j - 8 * r)) (by omega) (by omega)).2.2 (by omega)).1.symm
  obtain ⟨s, d, x13, m5⟩ := PRfin (M3 := cp8 M2 8 r n 10) (X3 := x_fill X r n 8) p f hT (by decide) (by decide) (fun _ => rfl) (fun c i _ h => by rw [ga_cp8, if_neg (fun z => h z.1)]) (fun i h => by rw [ga_cp8, if_neg (by omega)]) (fun j h => by rw [ga_cp8, if_neg (fun z => h z.2)]) (fun _ => rfl) (fun c i h => ga_xfill_o _ _ _ _ _ _ h) (fun j h => by rw [ga_xfill, ifp_f (by omega)]) ⟨fun z => absurd z (by decide), fun _ => rfl, fun _ => f16⟩
  have mi := f.1.2.2.1.2.1
  obtain ⟨sm, dv, nf, on, o, pp⟩ := f
  have gk (k : Nat) (h : k ≠ 19 ∧ k ≠ 20 ∧ k ≠ 25) : gs (cp8 M2 8 r n 10) k = gs M k := pg1 k h.1 h.2.1 h.2.2
  have ak (c : Nat) (i : Int) (h : 9 ≤ c) : ga (cp8 M2 8 r n 10) c i = ga M c i := by
    rw [ga_cp8, if_neg (by omega)]
    exact pa1 c i (by omega) (by omega) (by omega) (by omega) (by omega)
  have o3 := on.2.2.1
  refine ⟨s, adp_Dv d dv (Int.le_refl _) (gk 39 (by decide)) (gk 38 (by decide)) (fun b => ak 9 b (by decide)) (fun i hi h2 => ?_) ⟨fun z => absurd z (by decide), fun z => absurd z (by decide), fun _ => by omega⟩, adp_Nf d dv nf, On_map d dv mi on z35 (gk 33 (by decide)) (gk 34 (by decide)) (gk 35 (by decide)) (gk 38 (by decide)) (gk 39 (by decide)) (fun c p h => ak c p (by omega)) (fun k k0 k1 => ?_), (gk 26 (by decide)).trans o, by rw [gk 2 (by decide)]; exact pp⟩
  · rw [ak 15 _ (by decide)]
    exact ((dv.2.2.2.2.1 i hi).2.1 h2).2
  · rw [ga_cp8, if_pos ⟨rfl, by omega, by omega⟩, p10, show 8 * r + k - 8 * r = k by omega]
theorem FO_end {M X0 M2 X : zH} {r n n2 T : Int} (p : PR M X0 M2 X r 4 0 (gs M 35) (-2)) (f : FO M X0 T n) (hT : T ≤ 2147483000) (z35 : gs M 35 ≠ 0) (n0 : 0 ≤ n) (hn : gs M 3 ≤ 8 * n) :
    FO (m_ckEnd M2 r) (x_ckEnd X r) (T + 1) n2 := by
  have L := f.1.2.2.1.1.2.2.2.2
  obtain ⟨s, d, x13, m5⟩ := PRfin (M3 := M2) (X3 := X) p f hT (by decide) (by decide) (fun _ => rfl) (fun _ _ _ _ => rfl) (fun _ _ => rfl) (fun _ _ => rfl) (fun _ => rfl) (fun _ _ _ => rfl) (fun _ _ => rfl) ⟨fun z => absurd z (by decide), fun _ => rfl, fun z => absurd z (by decide)⟩
  obtain ⟨pg1, pa1⟩ := PR_o p
  have mi := f.1.2.2.1.2.1
  obtain ⟨sm, dv, nf, on, o, pp⟩ := f
  have o3 := on.2.2.1
  have m35 : gs M2 35 = gs M 35 := pg1 35 (by decide) (by decide) (by decide)
  have x49 : gs X 49 = gs M 35 := by
    rw [sg s.1 (a := 39) (b := 49) (by decide), pg1 39 (by decide) (by decide) (by decide)]
    omega
  have hm : m_ckEnd M2 r = ps (ps (ps (ps M2 33 (gs M 35)) 35 0) 34 (gs M 19 + 1)) 36 0 := by
    unfold m_ckEnd
    rw [m35, m5]
  have hx : x_ckEnd X r = ps (ps (ps (ps X 50 (gs M 35)) 51 (gs M 19 + 1)) 52 0) 48 0 := by
    unfold x_ckEnd
    rw [x49, x13]
  rw [hm, hx]
  have gk (k : Nat) (h : k ≠ 19 ∧ k ≠ 20 ∧ k ≠ 25 ∧ k ≠ 33 ∧ k ≠ 34 ∧ k ≠ 35 ∧ k ≠ 36) : gs (ps (ps (ps (ps M2 33 (gs M 35)) 35 0) 34 (gs M 19 + 1)) 36 0) k = gs M k := by
    simp only [gs_ps]
    rw [if_neg (by omega), if_neg (by omega), if_neg (by omega), if_neg (by omega)]
    exact pg1 k h.1 h.2.1 h.2.2.1
  have ak (c : Nat) (i : Int) (h : 7 ≤ c) : ga (ps (ps (ps (ps M2 33 (gs M 35)) 35 0) 34 (gs M 19 + 1)) 36 0) c i = ga M c i := pa1 c i (by omega) (by omega) (by omega) (by omega) (by omega)
  have d4 : Adp M (ps (ps (ps (ps M2 33 (gs M 35)) 35 0) 34 (gs M 19 + 1)) 36 0) (ga X0 17) (ga (ps (ps (ps (ps X 50 (gs M 35)) 51 (gs M 19 + 1)) 52 0) 48 0) 17) r 4 0 (gs M 35) := Adp_tab d (fun k h => by simp only [gs_ps]; rw [if_neg (by omega), if_neg (by omega), if_neg (by omega), if_neg (by omega)]) (fun _ _ _ _ => rfl) (fun _ => rfl)
  have s0 := s
  obtain ⟨s1, s2, s3, s4, s5, s6, s7, s8⟩ := s
  have a1 := Sn_ps (Sn_ps (Sn_ps (Sn_ps s1 (a := 33) (b := 50) (by decide) (gs M 35)) (a := 35) (b := 52) (by decide) 0) (a := 34) (b := 51) (by decide) (gs M 19 + 1)) (a := 36) (b := 48) (by decide) 0
  have sn : Sn (ps (ps (ps (ps M2 33 (gs M 35)) 35 0) 34 (gs M 19 + 1)) 36 0) (ps (ps (ps (ps X 50 (gs M 35)) 51 (gs M 19 + 1)) 52 0) 48 0) := Sn_g a1 (fun _ => rfl) (fun k => by
    simp only [gs_ps]
    by_cases z1 : k = 48
    · rw [if_pos z1, if_pos z1]
    · rw [if_neg z1, if_neg z1]
      by_cases z2 : k = 52
      · rw [if_pos z2, if_neg (by omega), if_pos z2]
      · rw [if_neg z2, if_neg z2])
  refine ⟨⟨sn, XS_end s2 _ _ _ _, MS_c s3 rfl rfl rfl rfl rfl (fun _ => rfl) (fun _ => rfl), s4, s5, s6, s7, s8⟩, adp_Dv d4 dv (Int.le_refl _) (gk 39 (by decide)) (gk 38 (by decide)) (fun b => ak 9 b (by decide)) (fun i hi h2 => ?_) ⟨fun z => absurd z (by decide), fun z => absurd z (by decide), fun _ => by omega⟩, adp_Nf d4 dv nf, On_end d4 dv mi on z35 hn L.2 n0 rfl rfl rfl (gk 38 (by decide)) (gk 39 (by decide)) (fun c p h => ak c p (by omega)) L.1, (gk 26 (by decide)).trans o, by rw [gk 2 (by decide)]; exact pp⟩
  rw [ak 15 _ (by decide)]
  exact ((dv.2.2.2.2.1 i hi).2.1 h2).2

