/-! recovery: tables and states after the reading -/
def Pgt (m m2 : zH) : Prop := (gs m2 1 = gs m 1 ∧ gs m2 2 = gs m 2 ∧ gs m2 3 = gs m 3 ∧ gs m2 19 = gs m 19 ∧ gs m2 38 = gs m 38 ∧ gs m2 39 = gs m 39) ∧ ∀ c i, 2 ≤ c ∧ c ≤ 9 → ga m2 c i = ga m c i
theorem Pgt.rf (m : zH) : Pgt m m := ⟨⟨rfl, rfl, rfl, rfl, rfl, rfl⟩, fun _ _ _ => rfl⟩
theorem Pgt.sy {a b : zH} (h : Pgt a b) : Pgt b a := ⟨⟨h.1.1.symm, h.1.2.1.symm, h.1.2.2.1.symm, h.1.2.2.2.1.symm, h.1.2.2.2.2.1.symm, h.1.2.2.2.2.2.symm⟩, fun c i d => (h.2 c i d).symm⟩
theorem Pgt_N {m m2 : zH} (h : Pgt m m2) : mN m2 = mN m := by unfold mN; rw [h.1.1, h.1.2.1]
theorem Pgt_pg {m m2 : zH} (h : Pgt m m2) (i : Int) : pg m2 i ↔ pg m i := by
  unfold pg mProgd
  rw [Pgt_N h, h.2 2 i (by decide)]
theorem Pgt_new {m m2 : zH} (h : Pgt m m2) (i : Int) : mNewest m2 i ↔ mNewest m i := by
  unfold mNewest mCopyOf
  simp only [h.2 2 _ (by decide), h.2 3 _ (by decide), h.2 4 _ (by decide), h.2 5 _ (by decide), h.2 6 _ (by decide), h.1.1, h.1.2.1]
theorem Pgt_Nf {m m2 : zH} (h : Pgt m m2) {cp : Int → Int} (d : Nf m cp) : Nf m2 cp := ⟨fun i hi hc => (Pgt_new h i).mpr (d.1 i ((Pgt_pg h i).mp hi) hc), fun i hi => d.2 i ((Pgt_pg h i).mp hi)⟩
theorem Pgt_Mx {m m2 : zH} (h : Pgt m m2) (t p w : Int) : Mx m2 t p w ↔ Mx m t p w := by
  unfold Mx
  simp only [h.2 2 _ (by decide), h.2 3 _ (by decide), h.2 4 _ (by decide), h.2 5 _ (by decide), Pgt_pg h]
theorem Pgt_Ev {m m2 : zH} (h : Pgt m m2) (le p c w : Int) : Ev m2 le p c w ↔ Ev m le p c w := by
  unfold Ev
  simp only [h.2 2 _ (by decide), h.2 3 _ (by decide), h.2 4 _ (by decide), h.2 5 _ (by decide), Pgt_pg h, Pgt_Mx h]
theorem Pgt_EX {m m2 : zH} (h : Pgt m m2) {lt le : Int} {cm : Int → Int} (d : EX m lt le cm) : EX m2 lt le cm := by
  obtain ⟨base, b⟩ := d
  refine ⟨base, ?_⟩
  unfold EXb at b ⊢
  simp only [h.2 2 _ (by decide), h.2 3 _ (by decide), h.2 4 _ (by decide), h.2 5 _ (by decide), h.2 8 _ (by decide), Pgt_pg h, Pgt_Ev h, h.1.2.2.1]
  exact b
theorem Dv_st {m m2 : zH} {T : Int} (h : Pgt m m2) (dv : Dv m T) (st : ∀ t, 1 ≤ t → t ≤ gs m 38 → ga m 15 t = 2 → ga m2 15 t = 2) : Dv m2 T := by
  obtain ⟨v1, v2, v3, v4, v5, v6⟩ := dv
  have a {c : Nat} {i : Int} (hc : 2 ≤ c ∧ c ≤ 9) := h.2 c i hc
  refine ⟨fun i hi => ?_, fun i j hi hj e => ?_, fun i j hi hj e => ?_, ?_, fun i hi => ?_, by rw [h.1.2.2.2.2.1]; exact v6⟩
  · rw [Pgt_pg h] at hi
    rw [a (by decide), a (by decide), h.1.2.2.2.1]
    exact v1 i hi
  · rw [Pgt_pg h] at hi hj
    rw [a (by decide), a (by decide)] at e
    exact v2 i j hi hj e
  · rw [Pgt_pg h] at hi hj
    rw [a (by decide), a (by decide)] at e
    unfold mCopyOf
    simp only [a (c := 2) (by decide), a (c := 3) (by decide), a (c := 4) (by decide), a (c := 5) (by decide), a (c := 7) (by decide), a (c := 8) (by decide)]
    exact v3 i j hi hj e
  · rw [h.1.2.2.2.1, h.1.2.2.2.2.2, h.1.1]
    simp only [a (c := 9) (by decide)]
    exact v4
  · rw [Pgt_pg h] at hi
    have q := v5 i hi
    rw [a (c := 2) (by decide), a (c := 4) (by decide), h.1.2.2.2.2.1, h.1.2.2.2.2.2]
    exact ⟨q.1, fun k => ⟨(q.2.1 k).1, st _ (q.2.1 k).1.1 (q.2.1 k).1.2 (q.2.1 k).2⟩, q.2.2⟩
theorem EX_cm {m : zH} {lt le : Int} {cm cm2 : Int → Int} (x : EX m lt le cm) (h : ∀ p, 0 ≤ p → p < gs m 3 → cm2 p = cm p) : EX m lt le cm2 := by
  obtain ⟨base, e1, e2, e3, e4, e5, e6⟩ := x
  exact ⟨base, e1, e2, e3, e4, fun p p0 p1 => by rw [h p p0 p1]; exact e5 p p0 p1, e6⟩
theorem REC2 {m x h1 : zH} {T : Int} (f : FF m x T) (b1 : gs m 1 ≠ 0) (hT : T ≤ 2147483000) (g : xLogOf (x_rs1 x) (gs (x_rs1 x) 51) h1) :
    FO (m_rec2 m) (x_rs2 (x_apL (gs h1 122).toNat h1 0 0 0)) T 0 ∧ gs (m_rec2 m) 35 = 0 := by
  obtain ⟨s, dv, nf, ⟨lt, le, cm, ⟨base, ex⟩, off2, off3, off4, ⟨l0, l1⟩, l2, l3⟩, off, p1, z⟩ := f
  have P1 : 1 ≤ gs m 2 := p1.resolve_left b1
  have mi := s.2.2.1.2.1
  have mb := s.2.2.1.1
  have L := mb.2.2.2.2
  have nr := mN_r mb
  obtain ⟨⟨a33, a34, a36, a10⟩, b50, b51, bg, ba, b21⟩ := RCK s dv z ex l0
  have fr := Fs_rck m
  have e0 : m_rec1 m = m_aaL 1025 (m_rck m) (mNA (m_rck m) le) := by
    unfold m_rec1 m_aa
    rw [forgets_id z, a34]
  obtain ⟨R1, R2, R3, R4, R5, R6⟩ := MAA dv hT mb mi l2 ex 1025 (m_rck m) le fr (Int.le_refl _) (fun p p0 p1 => Tq_0 (a10 p p0 (by omega))) (by rw [a36, CV_0]) (by
    have := cnt_r (fun i => mApp m i ∧ le < ga m 5 i) 0 (mN m).toNat
    omega)
  rw [← e0] at R1 R2 R3 R4 R5 R6
  rw [a33] at R5
  rw [a34] at R6
  -- the class's side
  rw [b51] at g
  obtain ⟨g1, g2, g3, g4, g5⟩ := g
  have e72 := S72 s.1 s.2.1
  have c72 : gs (x_rs1 x) 72 = mN m := (bg 72 (by decide) (by decide)).trans e72
  have hx (c : Nat) (o : Int) (hc : c ≠ 21) (hc2 : c ≠ 25) : ga h1 c o = ga x c o := (g1.2 c o hc2).trans (ba c o hc)
  have px : Px m h1 := by
    refine ⟨fun o o0 o1 => ?_, (g1.1 72 (by decide)).trans c72, (g1.1 104 (by decide)).trans ((bg 104 (by decide) (by decide)).trans (sg s.1 (a := 3) (b := 104) (by decide)))⟩
    have sp := s.2.2.2.1 o o0 o1
    rw [hx 10 o (by decide) (by decide), hx 11 o (by decide) (by decide), hx 12 o (by decide) (by decide), hx 13 o (by decide) (by decide)]
    exact ⟨sp.1.1, fun k => ⟨(sp.2.1 k).1, (sp.2.1 k).2.1, (sp.2.1 k).2.2.1⟩⟩
  have lg (o : Int) (o0 : 0 ≤ o) (o1 : o < mN m) : xLog (x_rs1 x) le o ↔ mApp m o ∧ le < ga m 5 o := by
    have sp := s.2.2.2.1 o o0 o1
    unfold xLog mApp
    rw [ba 10 o (by decide), ba 12 o (by decide), ba 13 o (by decide), sp.1.1]
    by_cases k : mProgd m o
    · rw [(sp.2.1 k).2.1, (sp.2.1 k).2.2.1]
    · unfold mProgd at k
      constructor <;> intro y <;> omega
  have pgo (o : Int) (o0 : 0 ≤ o) (o1 : o < mN m) (k : mApp m o) : pg m o := ⟨o0, o1, by unfold mProgd; unfold mApp at k; omega⟩
  have ls : ∀ j, 0 ≤ j → j < gs h1 122 → pg m (ga h1 25 j) ∧ mApp m (ga h1 25 j) ∧ le < ga m 5 (ga h1 25 j) := fun j j0 j1 => by
    obtain ⟨⟨q1, q2⟩, q3⟩ := g4.1 j j0 j1
    rw [c72] at q2
    have q4 := (lg _ q1 q2).mp q3
    exact ⟨pgo _ q1 q2 q4.1, q4⟩
  have ver (o : Int) (h : pg m o) : ga (x_rs1 x) 13 o = ga m 5 o := (ba 13 o (by decide)).trans ((s.2.2.2.1 o h.1 h.2.1).2.1 h.2.2).2.2.1
  have X := XAP dv mb mi l2 ex px ls (fun i i1 i2 i3 => by
    obtain ⟨j, j0, j1, j2⟩ := g4.2 i i1.1 (by rw [c72]; exact i1.2.1) ((lg i i1.1 i1.2.1).mpr ⟨i2, i3⟩)
    exact ⟨j, j0, j1, j2⟩) (fun a b a0 ab b2 => by
    have q := g5 a b a0 ab b2
    rw [ver _ (ls a a0 (by omega)).1, ver _ (ls b (by omega) b2).1] at q
    exact q) (gs h1 122).toNat h1 0 0 0 le (FA.rf h1) (Int.le_refl _) (by omega) (Or.inl ⟨rfl, rfl, rfl⟩) (fun p p0 p1 => Tq_0 ((g1.2 21 p (by decide)).trans (b21 p p0 (by omega)))) CV_0.symm
  have xf := FA_apL (gs h1 122).toNat h1 0 0 0
  have xs := XS_rs2 (XS_rs1 s.2.1) (show xLogOf (x_rs1 x) le h1 from ⟨g1, g2, g3, g4, g5⟩) (gs h1 122).toNat 0 0 0
  generalize x_apL (gs h1 122).toNat h1 0 0 0 = Q at X xf xs ⊢
  obtain ⟨X1, X2, X3⟩ := X
  have gx (k : Nat) (h : k ≠ 48 ∧ k ≠ 45 ∧ k ≠ 122) : gs (x_rs2 Q) k = gs (x_rs1 x) k := by
    unfold x_rs2
    rw [gs_ps, if_neg h.2.1, gs_xlost, gs_ps, if_neg h.1, xf.1, g1.1 k h.2.2]
  have gx2 (k : Nat) (h : k ≠ 48 ∧ k ≠ 45 ∧ k ≠ 122 ∧ k ≠ 50 ∧ k ≠ 51) : gs (x_rs2 Q) k = gs x k := (gx k ⟨h.1, h.2.1, h.2.2.1⟩).trans (bg k h.2.2.2.1 h.2.2.2.2)
  have ax (c : Nat) (i : Int) (h : c ≠ 20 ∧ c ≠ 21 ∧ c ≠ 25 ∧ c ≠ 26) : ga (x_rs2 Q) c i = ga x c i := by
    unfold x_rs2
    rw [ga_ps, ga_xlost, if_neg (by omega), ga_ps, xf.2 c i h.2.1 h.2.2.2]
    exact hx c i h.2.1 h.2.2.1
  have ax20 (t : Int) (t0 : 1 ≤ t) (t1 : t ≤ gs m 38) : ga (x_rs2 Q) 20 t = if ga m 15 t = 1 then 4 else ga m 15 t := by
    have e81 : gs Q.1 81 = gs m 38 := by
      rw [xf.1, g1.1 81 (by decide), bg 81 (by decide) (by decide)]
      exact sg s.1 (by decide)
    have e20 : ga (ps Q.1 48 Q.2) 20 t = ga m 15 t := by
      rw [ga_ps, xf.2 20 t (by decide) (by decide), hx 20 t (by decide) (by decide)]
      exact s.2.2.2.2.2.2.2 t t0 t1
    unfold x_rs2
    rw [ga_ps, ga_xlost, e81, e20]
    by_cases y : ga m 15 t = 1
    · rw [if_pos ⟨rfl, t0, by omega, y⟩, if_pos y]
    · rw [if_neg (fun w => y w.2.2.2), if_neg y]
  have ax21 (p : Int) : ga (x_rs2 Q) 21 p = ga Q.1 21 p := by
    unfold x_rs2
    rw [ga_ps, ga_xlost, if_neg (by omega), ga_ps]
  have gm (k : Nat) (h : k ≠ 33 ∧ k ≠ 34 ∧ k ≠ 36 ∧ k ≠ 26) : gs (m_rec2 m) k = gs m k := by
    unfold m_rec2
    rw [gs_ps, if_neg h.2.2.2]
    exact R1.1 k h.1 h.2.1 h.2.2.1
  have am (c : Nat) (i : Int) (h : c ≠ 15 ∧ c ≠ 10 ∧ c ≠ 17) : ga (m_rec2 m) c i = ga m c i := by
    unfold m_rec2
    rw [ga_ps, ga_lost, if_neg (by omega)]
    exact R1.2 c i h.2.1 h.2.2
  have am10 (p : Int) : ga (m_rec2 m) 10 p = ga (m_rec1 m) 10 p := by
    unfold m_rec2
    rw [ga_ps, ga_lost, if_neg (by omega)]
  have am15 (t : Int) (t0 : 1 ≤ t) (t1 : t ≤ gs m 38) : ga (m_rec2 m) 15 t = if ga m 15 t = 1 then 4 else ga m 15 t := by
    have e38 : gs (m_rec1 m) 38 = gs m 38 := R1.1 38 (by decide) (by decide) (by decide)
    have e15 : ga (m_rec1 m) 15 t = ga m 15 t := R1.2 15 t (by decide) (by decide)
    unfold m_rec2
    rw [ga_ps, ga_lost, e38, e15]
    by_cases y : ga m 15 t = 1
    · rw [if_pos ⟨rfl, t0, by omega, y⟩, if_pos y]
    · rw [if_neg (fun w => y w.2.2.2), if_neg y]
  have c10 (p : Int) (p0 : 0 ≤ p) (p2 : p < 64) : ga (m_rec2 m) 10 p = (if p < gs m 3 then cm p else 0) ∧ ga (x_rs2 Q) 21 p = (if p < gs m 3 then cm p else 0) := by
    rw [am10, ax21]
    by_cases y : p < gs m 3
    · rw [if_pos y]
      exact ⟨R2 p p0 y, X1 p p0 y⟩
    · rw [if_neg y, R3 p (fun w => y w.2), X2 p (fun w => y w.2), a10 p p0 p2, g1.2 21 p (by decide), b21 p p0 p2]
      have := ex.2.2.2.2.2 p (by omega)
      exact ⟨this, this⟩
  have m33 : gs (m_rec2 m) 33 = lt := R5
  have m34 : gs (m_rec2 m) 34 = le := R6
  have m36 : gs (m_rec2 m) 36 = CV m le (gs m 19) := R4
  have m26 : gs (m_rec2 m) 26 = 1 := rfl
  have x50 : gs (x_rs2 Q) 50 = lt := (gx 50 (by decide)).trans b50
  have x51 : gs (x_rs2 Q) 51 = le := (gx 51 (by decide)).trans b51
  have x48 : gs (x_rs2 Q) 48 = CV m le (gs m 19) := X3
  have x45 : gs (x_rs2 Q) 45 = 1 := rfl
  have pgt : Pgt m (m_rec2 m) := ⟨⟨gm 1 (by decide), gm 2 (by decide), gm 3 (by decide), gm 19 (by decide), gm 38 (by decide), gm 39 (by decide)⟩, fun c i h => am c i (by omega)⟩
  have e35 : gs (m_rec2 m) 35 = 0 := (gm 35 (by decide)).trans z.2.2.2.2.2.1
  have zz (p : Int) (p0 : 0 ≤ p) (p2 : p < 64) : ga (m_rec2 m) 11 p = 0 ∧ ga (m_rec2 m) 12 p = 0 := by
    rw [am 11 p (by decide), am 12 p (by decide)]
    exact (z.1 p p0 p2).2
  have nord (p v : Int) : ¬ mReadBy (m_rec2 m) p v := by
    rintro ⟨r, r0, r1, r2, _⟩
    rw [am 14 r (by decide)] at r2
    exact r2 (z.2.1 r r0 r1)
  have wv (p v : Int) (p0 : 0 ≤ p) (p2 : p < gs m 3) (h : Wv (m_rec2 m) p v) : cm p = v := by
    have zp := zz p p0 (by omega)
    rcases h with h | h | h
    · rw [(c10 p p0 (by omega)).1, if_pos p2] at h
      exact h
    · omega
    · exact absurd h (nord p v)
  refine ⟨⟨⟨?_, xs, MS_u (MS_rec2 s.2.2.1) (fun b _ _ => ax 18 b (by decide)), fun i i0 i1 => Sp_c (s.2.2.2.1 i i0 (by rw [← Pgt_N pgt]; exact i1)) (fun c _ _ => am c i (by omega)) (fun j _ _ => am 8 j (by decide)) (fun c _ _ _ => ax c i (by omega)) (fun j _ _ => ax 16 j (by decide)), fun b q0 q1 => ?_, fun p q0 q1 => ?_, fun r q0 q1 => ?_, fun t q0 q1 => ?_⟩, Dv_st pgt dv (fun t t0 t1 h => ?_), Nf_e (Pgt_Nf pgt nf) (fun i => ax 17 i (by decide)), On_e ⟨fun p q0 q1 => ?_, fun i hi h1 h2 h3 => ?_, ?_, fun i hi hc hn hw => ?_, fun p v q0 q1 v0 hw => ?_, ?_, fun y => absurd e35 y⟩ (fun i => ax 17 i (by decide)), m26, by rw [gm 2 (by decide)]; exact P1⟩, e35⟩
  · have k (a b : Nat) (h : (a, b) ∈ prs) (ha : a ≠ 33 ∧ a ≠ 34 ∧ a ≠ 36 ∧ a ≠ 26) (hb : b ≠ 48 ∧ b ≠ 45 ∧ b ≠ 122 ∧ b ≠ 50 ∧ b ≠ 51) : gs (x_rs2 Q) b = gs (m_rec2 m) a := by
      rw [gx2 b hb, gm a ha]
      exact sg s.1 h
    exact prs_all ⟨k 1 70 (by decide) (by decide) (by decide), k 2 71 (by decide) (by decide) (by decide), k 3 104 (by decide) (by decide) (by decide), k 4 47 (by decide) (by decide) (by decide), k 19 73 (by decide) (by decide) (by decide), k 20 74 (by decide) (by decide) (by decide), k 21 75 (by decide) (by decide) (by decide), k 22 76 (by decide) (by decide) (by decide), k 23 53 (by decide) (by decide) (by decide), k 24 54 (by decide) (by decide) (by decide), k 25 77 (by decide) (by decide) (by decide), x45.trans m26.symm, k 32 46 (by decide) (by decide) (by decide), x50.trans m33.symm, x51.trans m34.symm, k 35 52 (by decide) (by decide) (by decide), x48.trans m36.symm, k 38 81 (by decide) (by decide) (by decide), k 39 49 (by decide) (by decide) (by decide)⟩
  · rw [ax 19 b (by decide), am 9 b (by decide)]
    exact s.2.2.2.2.1 b q0 (by rw [← gm 1 (by decide)]; exact q1)
  · have e := s.2.2.2.2.2.1 p q0 q1
    have c := c10 p q0 q1
    rw [c.1, c.2, ax 22 p (by decide), ax 23 p (by decide), am 11 p (by decide), am 12 p (by decide)]
    exact ⟨rfl, e.2⟩
  · rw [gx2 106 (by decide), am 14 r (by decide)]
    refine ⟨(s.2.2.2.2.2.2.1 r q0 q1).1, fun y p p0 p1 => ?_⟩
    rw [ax 24 _ (by decide), am 13 _ (by decide)]
    exact (s.2.2.2.2.2.2.1 r q0 q1).2 y p p0 p1
  · rw [gm 38 (by decide)] at q1
    rw [ax20 t q0 q1, am15 t q0 q1]
  · rw [am15 t t0 t1, if_neg (by omega)]
    exact h
  · have zp := zz p q0 q1
    have c := (off4 p q0 q1)
    rw [(c10 p q0 q1).1, gm 3 (by decide)]
    refine ⟨?_, Or.inl zp, fun y => ⟨by rw [if_neg (by omega)], zp.1⟩⟩
    by_cases y : p < gs m 3
    · rw [if_pos y]; exact c.1
    · rw [if_neg y]
      exact Int.le_refl _
  · have hi2 := (Pgt_pg pgt i).mp hi
    rw [am 2 i (by decide)] at h1
    rw [am 4 i (by decide)] at h2 h3
    have g := (dv.2.2.2.2.1 i hi2).1 h1
    rw [am15 _ h2 g.2] at h3
    by_cases y : ga m 15 (ga m 4 i) = 1
    · rw [if_pos y] at h3; omega
    · rw [if_neg y] at h3
      exact absurd h3 y
  · rw [m33, m34, e35, gm 39 (by decide), gm 19 (by decide)]
    exact ⟨⟨l0, l1⟩, ⟨l2, l3⟩, Or.inl rfl⟩
  · have hi2 := (Pgt_pg pgt i).mp hi
    rw [Pgt_new pgt] at hn
    refine off2 i hi2 hc hn ?_
    rw [want_W] at hw
    rw [am 2 i (by decide), am 3 i (by decide), am 4 i (by decide), am 5 i (by decide), m33, m34, e35] at hw
    unfold BW
    rcases hw with w | w | w | w
    · have ri := (mi i hi2.1 hi2.2.1).1 w.1
      exact Or.inl ⟨w.1, wv _ _ ri.1 ri.2 w.2⟩
    · exact Or.inr (Or.inl w)
    · have q := (dv.2.2.2.2.1 i hi2).2.2 (Or.inl w.1)
      exact Or.inr (Or.inr (Or.inl ⟨w.1, by omega⟩))
    · exact Or.inr (Or.inr (Or.inr w))
  · rw [gm 3 (by decide)] at q1
    have e := wv p v q0 q1 hw
    obtain ⟨i, i1, i2, i3, i4⟩ := off3 p q0 q1 (by rw [e]; exact v0)
    refine ⟨i, (Pgt_pg pgt i).mpr i1, by rw [am 2 i (by decide)]; exact i2, by rw [am 3 i (by decide)]; exact i3, by rw [am 5 i (by decide), i4]; exact e, fun y => ?_⟩
    rw [(zz p q0 (by omega)).1] at y
    omega
  · rw [m33, m34]
    refine EX_cm (Pgt_EX pgt ⟨base, ex⟩) (fun p q0 q1 => ?_)
    rw [gm 3 (by decide)] at q1
    rw [(c10 p q0 (by omega)).1, if_pos q1]

