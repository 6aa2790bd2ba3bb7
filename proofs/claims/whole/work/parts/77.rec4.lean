/-! recovery, as a call -/
theorem Kp_euL : ∀ (n : Nat) (h : zH) (b : Int), Kp h (m_euL n h b).1
  | 0, h, _ => Kp.rf h
  | n + 1, h, b => by
    rw [m_euL]
    rcases Classical.em (mFreeIn h b < gs h 2 ∧ mValidIn h b = 0) with c | c
    · rw [ifp_t c]
      rcases Classical.em (mOK h) with d | d
      · rw [ifp_t d]
        exact (Kp_erase h b).tr (Kp_euL n _ _)
      · rw [ifp_f d]
        exact Kp_erase h b
    · rw [ifp_f c]
      exact Kp_euL n h _
theorem FR_rec2 (m : zH) : gs (m_rec2 m) 0 = gs m 0 ∧ FR m (m_rec2 m) := by
  have f : Fs (m_forgets m) (m_rec1 m) := (Fs_rck _).tr (Fs_aaL 1025 _ _)
  have g (k : Nat) (h : k ≠ 26 ∧ k ≠ 32 ∧ k ≠ 33 ∧ k ≠ 34 ∧ k ≠ 35 ∧ k ≠ 36) : gs (m_rec2 m) k = gs m k := by
    unfold m_rec2
    rw [gs_ps, if_neg h.1]
    refine (f.1 k h.2.2.1 h.2.2.2.1 h.2.2.2.2.2).trans ?_
    simp only [m_forgets, gs_ps, gs_prr]
    rw [if_neg (by omega), if_neg (by omega), if_neg (by omega), if_neg (by omega), if_neg (by omega)]
  have a (c : Nat) (i : Int) (h : c = 15 ∨ c = 16) : ga (m_rec1 m) c i = ga m c i := by
    rw [f.2 c i (by omega) (by omega)]
    simp only [m_forgets, ga_ps, ga_prr]
    rw [if_neg (by omega), if_neg (by omega), if_neg (by omega), if_neg (by omega)]
  refine ⟨g 0 (by decide), ⟨g 1 (by decide), g 41 (by decide), g 47 (by decide), g 48 (by decide), g 38 (by decide)⟩, fun i => ?_, fun i h => ?_⟩
  · unfold m_rec2
    rw [ga_ps, ga_lost, if_neg (by omega)]
    exact a 16 i (by decide)
  · unfold m_rec2 at h
    rw [ga_ps, ga_lost, a 15 i (by decide)] at h
    by_cases z : 15 = 15 ∧ 1 ≤ i ∧ i < gs (m_rec1 m) 38 + 1 ∧ ga m 15 i = 1
    · exact z.2.2.2
    · rw [if_neg z] at h
      exact h
theorem FR.tr {a b c : zH} (h : FR a b) (k : FR b c) : FR a c := by
  obtain ⟨⟨h1, h2, h3, h4, h5⟩, h6, h7⟩ := h
  obtain ⟨⟨k1, k2, k3, k4, k5⟩, k6, k7⟩ := k
  exact ⟨⟨k1.trans h1, k2.trans h2, k3.trans h3, k4.trans h4, k5.trans h5⟩, fun i => (k6 i).trans (h6 i), fun i z => h7 i (k7 i z)⟩
theorem XK_rmL : ∀ (n : Nat) (h : zH) (i : Int), XK h (x_rmL n h i) := fun n h i => ⟨fun k _ => (FC_rmL n h i).1 k, fun c j hc => (FC_rmL n h i).2 c j (by omega)⟩
theorem XK_rs1 (h : zH) : XK h (x_rs1 h) := by
  unfold x_rs1
  exact XK_if (((XK_ps h 50 _ (by decide)).tr (XK_ps _ 51 _ (by decide))).tr (XK_rmL _ _ _)) (XK.rf h)
theorem XK_log {h h1 : zH} {a : Int} (g : xLogOf h a h1) : XK h h1 := ⟨fun k hk => g.1.1 k (by omega), fun c i hc => g.1.2 c i (by omega)⟩
theorem XK_apL (n : Nat) (h : zH) (i l c : Int) : XK h (x_apL n h i l c).1 := ⟨fun k _ => (FA_apL n h i l c).1 k, fun d j hd => (FA_apL n h i l c).2 d j (by omega) (by omega)⟩
theorem XK_rs2 (q : zH × Int) : XK q.1 (x_rs2 q) := by
  have a : XK (ps q.1 48 q.2) (x_lost (ps q.1 48 q.2) (gs q.1 81 + 1)) := ⟨fun _ _ => rfl, fun c i hc => by rw [ga_xlost, if_neg (by omega)]⟩
  exact ((XK_ps q.1 48 q.2 (by decide)).tr a).tr (XK_ps _ 45 1 (by decide))
theorem XK_edL : ∀ (n : Nat) (h : zH) (i : Int), XK h (x_edL n h i).1
  | 0, h, _ => XK.rf h
  | n + 1, h, i => by
    rw [x_edL]
    exact XK_if2 (XK_if2 ((XK_erase h i).tr (XK_edL n _ _)) (XK_erase h i)) (XK_edL n h _)
theorem XK_ed (h : zH) : XK h (x_ed h).1 := (XK_cl h).tr (XK_edL _ _ _)
theorem XK_rs3 (e : zH × Int) : XK e.1 (x_rs3 e).1 := by
  unfold x_rs3 x_fa
  exact XK_if2 (XK_ps e.1 46 _ (by decide)) (XK_lose e.1)
noncomputable def X_rec (x h1 : zH) : zH × Int × Int := ifp ((x_rs3 (x_ed (x_rs2 (x_apL (gs h1 122).toNat h1 0 0 0)))).2 = 0) ((x_rs3 (x_ed (x_rs2 (x_apL (gs h1 122).toNat h1 0 0 0)))).1, 1, 0) ((x_rs3 (x_ed (x_rs2 (x_apL (gs h1 122).toNat h1 0 0 0)))).1, 0, xWrit (x_rs3 (x_ed (x_rs2 (x_apL (gs h1 122).toNat h1 0 0 0)))).1)
/-- what recover makes: a log is one of several, but its outcome is the same -/
def X_recR (x : zH) (r : zH × Int × Int) : Prop := (gs x 45 ≠ 0 ∨ ¬ 0 < gs x 70) ∧ r = (x, 1, 0) ∨ (gs x 45 = 0 ∧ 0 < gs x 70) ∧ ∃ h1, xLogOf (x_rs1 x) (gs (x_rs1 x) 51) h1 ∧ r = X_rec x h1
theorem writ_v {m x : zH} (s : SIM m x) : xWrit x = mWrit m := by
  have L := s.2.2.1.1.2.2.2.2
  unfold xWrit mWrit
  rw [sg s.1 (a := 3) (b := 104) (by decide)]
  exact cnt_c (fun p p0 p1 => by rw [(s.2.2.2.2.2.1 p p0 (by omega)).1])
theorem B_recover {m x : zH} {T : Int} (r : REL m x T) (hT : T + 100 ≤ 2147480000) {q : zH × Int × Int} (hq : X_recR x q) : AG (T + 100) (m_rec m) q := by
  have s := PW_sim r.1
  have rr : REL m x (T + 100) := REL_mono r (by omega)
  have e45 : gs x 45 = gs m 26 := sg s.1 (by decide)
  have e70 : gs x 70 = gs m 1 := sg s.1 (by decide)
  have mb := s.2.2.1.1.1
  unfold m_rec
  rcases hq with ⟨h, rfl⟩ | ⟨⟨h1, h2⟩, h1', g, rfl⟩
  · rw [ifp_t (show gs m 26 ≠ 0 ∨ gs m 1 = 0 by omega)]
    exact AG_no rr 1 0 0 (by decide)
  · rw [ifp_f (show ¬ (gs m 26 ≠ 0 ∨ gs m 1 = 0) by omega)]
    obtain ⟨ff, fz⟩ := PW_off r.1 (by omega)
    have f0 := FF_0 ff 0
    obtain ⟨fo, z35⟩ := REC2 f0 (show gs m 1 ≠ 0 by omega) (by omega) g
    have xk : XK x (x_rs3 (x_ed (x_rs2 (x_apL (gs h1' 122).toNat h1' 0 0 0)))).1 := (((((XK_rs1 x).tr (XK_log g)).tr (XK_apL _ _ _ _ _)).tr (XK_rs2 _)).tr (XK_ed _)).tr (XK_rs3 _)
    have fr := FR_rec2 (ps m 0 0)
    have ke : Kp (m_rec2 (ps m 0 0)) (m_eu (m_rec2 (ps m 0 0))).1 := Kp_euL _ _ _
    have fe := FR_q (m := m_rec2 (ps m 0 0)) (fun k h _ => ke.1 k h.1) (fun c i h _ => ke.2 c i h)
    have frr := FR_0 (fr.2.tr fe.2)
    have e0 : gs (m_eu (m_rec2 (ps m 0 0))).1 0 = 0 := fe.1.trans (fr.1.trans rfl)
    unfold X_rec
    have eu := EU fo (by omega)
    generalize m_eu (m_rec2 (ps m 0 0)) = a at eu frr e0 ⊢
    generalize x_ed (x_rs2 (x_apL (gs h1' 122).toNat h1' 0 0 0)) = b at eu xk ⊢
    rcases eu with ⟨u1, u2, u3, u4⟩ | ⟨u1, u2, M, u3, u4⟩
    · have e3 : x_rs3 b = (x_fa b.1, 1) := ifp_t u2
      rw [e3] at xk ⊢
      rw [ifp_t u1, ifp_f (show ¬ (1 : Int) = 0 by decide)]
      have fa := FA_v u3
      refine ⟨e0, fun _ => (writ_v fa.1).symm, REL_mk r (by omega) (Or.inl ⟨FO_mono fa (by omega), ?_⟩) xk frr⟩
      exact (u4.1 35 (by decide) (by decide) (by decide) (by decide) (by decide) (by decide)).trans z35
    · have e3 : x_rs3 b = (x_lose b.1, 0) := ifp_f (by omega)
      rw [e3] at xk ⊢
      rw [ifp_f (show ¬ a.2 = 1 by omega), ifp_t rfl]
      refine ⟨rfl, fun z => absurd z (show ¬ (1 : Int) = 0 by decide), REL_mk r (by omega) (Or.inr (FF_0 ?_ 1)) xk (FR_w frr 1)⟩
      rw [u3]
      exact FF_mono (LOSE u4) (by omega)
theorem XM_of {m x : zH} (s : SIM m x) : XM x := fun i i0 i1 h => by
  have e72 := S72 s.1 s.2.1
  have sp := s.2.2.2.1 i i0 (by omega)
  have k : ga m 2 i = 3 := by rw [← sp.1.1]; exact h
  have ri := (s.2.2.1.2.1 i i0 (by show i < mN m; omega)).2 k
  have L := s.2.2.1.1.2.2.2.2
  rw [(sp.2.1 (by unfold mProgd; omega)).1]
  omega

