/-! format, as a call -/
noncomputable def X_format (x : zH) (len : Int) : zH × Int × Int := ifp (len < 0 ∨ gs x 22 < len) (x, 1, 0) (ifp (gs (x_parse x len) 23 ≠ 0) (ps (x_parse x len) 22 0, 2, 0) (x_fiL (gs (x_parse x len) 29).toNat (x_anewD (ps (x_parse x len) 22 0) (gs (x_parse x len) 25) (gs (x_parse x len) 26) (gs (x_parse x len) 27) (gs (x_parse x len) 28)) 0, 0, gs (x_parse x len) 29))
theorem XK_anewD (h : zH) (B P L e : Int) : XK h (x_anewD h B P L e) := by
  refine ⟨fun k hk => ?_, fun c i hc => ?_⟩
  · unfold x_anewD x_anewT x_forget x_anewF
    simp only [gs_ps, gs_prr, gs_xclrR]
    rw [if_neg (by omega), if_neg (by omega), if_neg (by omega), if_neg (by omega), if_neg (by omega), if_neg (by omega), if_neg (by omega), if_neg (by omega), if_neg (by omega), if_neg (by omega), if_neg (by omega), if_neg (by omega), if_neg (by omega), if_neg (by omega), if_neg (by omega), if_neg (by omega), if_neg (by omega), if_neg (by omega), if_neg (by omega), if_neg (by omega), if_neg (by omega), if_neg (by omega)]
  · unfold x_anewD x_anewT x_forget x_anewF
    simp only [ga_ps, ga_prr]
    rw [if_neg (by omega), if_neg (by omega), if_neg (by omega), if_neg (by omega), if_neg (by omega), ga_xclrR_o _ _ _ _ _ _ (by omega)]
    rfl
theorem B_format {m x : zH} {T : Int} (r : REL m x T) (hT : T + 60000 ≤ 2147400000) (len : Int) : AG (T + 60000) (m_format m len) (X_format x len) := by
  have rr : REL m x (T + 60000) := REL_mono r (by omega)
  have T0 : 0 ≤ T := by have := (PW_dv r.1).2.2.2.1.1; omega
  obtain ⟨p, ⟨t1, t2, t3, t4, t5⟩, o⟩ := r
  unfold m_format X_format
  rw [t1]
  by_cases c : 0 ≤ len ∧ len ≤ gs m 41
  · rw [ifp_t c, ifp_f (show ¬ (len < 0 ∨ gs m 41 < len) by omega)]
    have te := text_eq (m := m) (x := x) c.1 (by omega) (fun k k0 k1 => t3 k k0 (by omega))
    have mt : MT (m_fm0 m len) := ⟨⟨c.1, by show len ≤ 600; omega⟩, Int.le_refl 0, c.1⟩
    obtain ⟨tg, _, q3⟩ := rfmt_r mt
    have yk := YK_parse x len
    generalize m_rfmt (m_fm0 m len) = R at te tg q3 ⊢
    generalize x_parse x len = X at te yk ⊢
    have gR (k : Nat) (h : 1 ≤ k ∧ k ≤ 4 ∨ 19 ≤ k ∧ k < 40) : gs R.1 k = gs m k := by
      rw [tg.1 k (by omega) (by omega) (by omega) (by omega) (by omega) (by omega) (by omega) (by omega) (by omega) (by omega) (by omega) (by omega)]
      unfold m_fm0
      simp only [gs_ps]
      rw [if_neg (by omega), if_neg (by omega), if_neg (by omega), if_neg (by omega), if_neg (by omega), if_neg (by omega)]
    have aR (c : Nat) (i : Int) (h : c ≠ 1) : ga R.1 c i = ga m c i := (tg.2 c i h).trans rfl
    have g0 : gs R.1 0 = 0 := (tg.1 0 (by decide) (by decide) (by decide) (by decide) (by decide) (by decide) (by decide) (by decide) (by decide) (by decide) (by decide) (by decide)).trans rfl
    rcases te with ⟨b1, b2, b3, b4⟩ | ⟨b1, fv, ⟨b2, b3⟩, b4, b5⟩
    · rw [ifp_f (show ¬ R.2 = 1 by omega), ifp_t (show gs X 23 ≠ 0 by omega)]
      refine ⟨rfl, fun z => absurd z (show ¬ (2 : Int) = 0 by decide), PW_mono (PW_t p (fun k h => ?_) (fun c i h1 _ => aR c i (by omega)) (fun k h => ?_) (fun c i h => yk.2 c i (by omega))) (by omega), ⟨rfl, ⟨Int.le_refl 0, show (0 : Int) ≤ 600 by decide⟩, fun k k0 k1 => ?_, ?_, ?_⟩, ?_⟩
      · show gs (ps (ps R.1 41 0) 0 2) k = _
        rw [gs_ps, if_neg (by omega), gs_ps, if_neg (by omega)]
        exact gR k h
      · show gs (ps X 22 0) k = _
        rw [gs_ps, if_neg (by omega)]
        exact yk.1 k (by omega)
      · have k1 : k < 0 := k1
        omega
      · exact b2
      · exact b3
      · have e : mOpen (ps (ps R.1 41 0) 0 2) = mOpen m := open_t (gR 38 (by decide)) (fun i => aR 15 i (by decide))
        show mOpen (ps (ps R.1 41 0) 0 2) ≤ 6
        rw [e]
        exact o
    · rw [ifp_t b1, ifp_f (show ¬ gs X 23 ≠ 0 from fun z => z b2)]
      obtain ⟨gn, mv⟩ : GN R.1 ∧ MV R.1 := by
        rcases q3 with z | z
        · omega
        · exact z.2
      obtain ⟨⟨f1, f2, f3, f4⟩, f5, f6⟩ := fv
      obtain ⟨n1, n2, n3, n4, n5⟩ := gn
      unfold mFits at n5
      unfold MV at mv
      rw [f1, f2, f3, f4, f5]
      have fa := FI_anew (m := m_fm1 (ps R.1 41 0)) (x := ps X 22 0) n1 n2 n3 (by
        show gs R.1 7 + 2 * ((gs R.1 7 + 7) / 8) + 3 ≤ (gs R.1 5 - 2) * gs R.1 6
        omega)
      have fa : FI (m_anew (m_fm1 (ps R.1 41 0))) (x_anewD (ps X 22 0) (gs R.1 5) (gs R.1 6) (gs R.1 7) (gs R.1 8)) 0 0 := fa
      have xa := XK_anewD (ps X 22 0) (gs R.1 5) (gs R.1 6) (gs R.1 7) (gs R.1 8)
      have e10 : gs (m_anew (m_fm1 (ps R.1 41 0))) 10 = gs R.1 10 := rfl
      have q := FIL (gs R.1 10).toNat _ _ 0 0 fa rfl (Int.le_refl 0) (by
        show 0 + ((gs R.1 10).toNat : Int) ≤ gs R.1 7
        omega) (by omega) (fun j j0 j1 => by
        rw [xa.2 8 j (by decide)]
        exact (f6 j j0 (by omega)).trans rfl)
      unfold m_fm2
      rw [e10]
      generalize m_fiL (gs R.1 10).toNat (m_anew (m_fm1 (ps R.1 41 0))) 0 = a at q ⊢
      generalize x_fiL (gs R.1 10).toNat (x_anewD (ps X 22 0) (gs R.1 5) (gs R.1 6) (gs R.1 7) (gs R.1 8)) 0 = b at q ⊢
      obtain ⟨q1, q2, q3, q4, q5⟩ := q
      have xk := xa.tr q4
      have h41 : gs a.1 41 = 0 := q5 41 (by decide)
      refine ⟨(q5 0 (by decide)).trans g0, fun _ => q1.trans e10, Or.inl ⟨FO_mono q2.1 (by omega), q3, ?_⟩, ⟨?_, ?_, fun k k0 k1 => ?_, ?_, ?_⟩, ?_⟩
      · have e : gs a.1 1 = gs R.1 5 := q5 1 (by decide)
        show 1 ≤ gs a.1 1
        omega
      · show gs b 22 = gs a.1 41
        rw [h41, xk.1 22 (by decide)]
        rfl
      · show 0 ≤ gs a.1 41 ∧ gs a.1 41 ≤ 600
        omega
      · have k1 : k < gs a.1 41 := k1
        omega
      · show gs b 23 = gs a.1 47
        rw [xk.1 23 (by decide), q5 47 (by decide)]
        exact b2.trans b4.symm
      · show gs b 24 = gs a.1 48
        rw [xk.1 24 (by decide), q5 48 (by decide)]
        exact b3.trans b5.symm
      · have e : gs a.1 38 = 0 := q5 38 (by decide)
        show mOpen a.1 ≤ 6
        unfold mOpen
        rw [e]
        show (0 : Int) ≤ 6
        decide
  · rw [ifp_f c, ifp_t (show len < 0 ∨ gs m 41 < len by omega)]
    exact AG_no rr 1 0 0 (by decide)

