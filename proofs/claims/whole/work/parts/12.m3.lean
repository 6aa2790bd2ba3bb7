/-! the reference's smaller changes: contracts -/
set_option maxRecDepth 100000 in
theorem L1_X7_forgets {h0 : zH} (Q : zH → Prop) (k : ∀ i, zX cM zNo RX7 cX7_forgets 2 none rX7_forgets 35 [some (.ref 0), some (.int (iI i))] [] (prr (prr (prr h0 10 0 64 0) 11 0 64 0) 12 0 64 0) (zEv cM Q)) : ∀ (n : Nat) (i : Int), 0 ≤ i → i ≤ 64 → 64 - i < n → zX cM zNo RX7 cX7_forgets 2 none rX7_forgets 2 [some (.ref 0), some (.int (iI i))] [] (prr (prr (prr h0 10 0 i 0) 11 0 i 0) 12 0 i 0) (zEv cM Q) := by
  intro n
  induction n with
  | zero => intro i g1 g2 g3; omega
  | succ n ih =>
    intro i g1 g2 g3
    have e : pa (pa (pa (prr (prr (prr h0 10 0 i 0) 11 0 i 0) 12 0 i 0) 10 i 0) 11 i 0) 12 i 0 = prr (prr (prr h0 10 0 (i + 1) 0) 11 0 (i + 1) 0) 12 0 (i + 1) 0 := by
      rw [pa_prr _ _ _ _ _ _ (show 10 ≠ 12 by decide), pa_prr _ _ _ _ _ _ (show 11 ≠ 12 by decide), pa_prr _ _ _ _ _ _ (show 10 ≠ 11 by decide), prr_next _ _ _ g1, prr_next _ _ _ g1, prr_next _ _ _ g1]
    refine zx_iload_n (pc := 2) dX7_forgets_2 rfl rfl ?_
    refine zx_bipush (pc := 3) dX7_forgets_3 (by decide +kernel) ?_
    refine zx_icmp_ge (pc := 5) (tgt := 35) dX7_forgets_5 (by decide) (fun o => by first | exact o.1 _ (by decide) | exact o.2 _ _ | omega) (fun o => by first | exact o.1 _ (by decide) | exact o.2 _ _ | omega) (fun c5 => ?_) (fun c5 => ?_)
    · skip
      have e2 : i = 64 := by omega
      rw [e2]
      rw [e2] at e
      exact k _
    · skip
      refine zx_aload_n (pc := 8) dX7_forgets_8 rfl rfl ?_
      refine zg_X7_37 (pc := 9) dX7_forgets_9 ?_
      refine zx_iload_n (pc := 12) dX7_forgets_12 rfl rfl ?_
      refine zx_iconst (pc := 13) dX7_forgets_13 ?_
      refine zx_iastore (pc := 14) aX7_committed dX7_forgets_14 (by omega) (by omega) (by omega) (fun o => by first | exact o.1 _ (by decide) | exact o.2 _ _ | omega) ?_
      refine zx_aload_n (pc := 15) dX7_forgets_15 rfl rfl ?_
      refine zg_X7_40 (pc := 16) dX7_forgets_16 ?_
      refine zx_iload_n (pc := 19) dX7_forgets_19 rfl rfl ?_
      refine zx_iconst (pc := 20) dX7_forgets_20 ?_
      refine zx_iastore (pc := 21) aX7_locker dX7_forgets_21 (by omega) (by omega) (by omega) (fun o => by first | exact o.1 _ (by decide) | exact o.2 _ _ | omega) ?_
      refine zx_aload_n (pc := 22) dX7_forgets_22 rfl rfl ?_
      refine zg_X7_43 (pc := 23) dX7_forgets_23 ?_
      refine zx_iload_n (pc := 26) dX7_forgets_26 rfl rfl ?_
      refine zx_iconst (pc := 27) dX7_forgets_27 ?_
      refine zx_iastore (pc := 28) aX7_shadow dX7_forgets_28 (by omega) (by omega) (by omega) (fun o => by first | exact o.1 _ (by decide) | exact o.2 _ _ | omega) ?_
      refine zx_iinc (pc := 29) dX7_forgets_29 (by decide) rfl rfl ?_
      refine zx_goto (pc := 32) (tgt := 2) dX7_forgets_32 (by decide) ?_
      rw [e]
      exact ih (i + 1) (by omega) (by omega) (by omega)
set_option maxRecDepth 100000 in
theorem L2_X7_forgets {h0 : zH} (Q : zH → Prop) (hQ : Q (ps (ps (ps (ps (ps (prr h0 14 0 4 0) 32 (-1)) 33 0) 34 0) 35 0) 36 0)) : ∀ (n : Nat) (i : Int), 0 ≤ i → i ≤ 4 → 4 - i < n → zX cM zNo RX7 cX7_forgets 2 none rX7_forgets 37 [some (.ref 0), some (.int (iI i))] [] (prr h0 14 0 i 0) (zEv cM Q) := by
  intro n
  induction n with
  | zero => intro i g1 g2 g3; omega
  | succ n ih =>
    intro i g1 g2 g3
    have e : pa (prr h0 14 0 i 0) 14 i 0 = prr h0 14 0 (i + 1) 0 := prr_next _ _ _ g1
    refine zx_iload_n (pc := 37) dX7_forgets_37 rfl rfl ?_
    refine zx_iconst (pc := 38) dX7_forgets_38 ?_
    refine zx_icmp_ge (pc := 39) (tgt := 55) dX7_forgets_39 (by decide) (fun o => by first | exact o.1 _ (by decide) | exact o.2 _ _ | omega) (fun o => by first | exact o.1 _ (by decide) | exact o.2 _ _ | omega) (fun c39 => ?_) (fun c39 => ?_)
    · skip
      have e2 : i = 4 := by omega
      rw [e2]
      refine zx_aload_n (pc := 55) dX7_forgets_55 rfl rfl ?_
      refine zx_iconst (pc := 56) dX7_forgets_56 ?_
      refine zp_X7_53 (pc := 57) dX7_forgets_57 (fun o => by first | exact o.1 _ (by decide) | exact o.2 _ _ | omega) ?_
      refine zx_aload_n (pc := 60) dX7_forgets_60 rfl rfl ?_
      refine zx_iconst (pc := 61) dX7_forgets_61 ?_
      refine zp_X7_89 (pc := 62) dX7_forgets_62 (fun o => by first | exact o.1 _ (by decide) | exact o.2 _ _ | omega) ?_
      refine zx_aload_n (pc := 65) dX7_forgets_65 rfl rfl ?_
      refine zx_iconst (pc := 66) dX7_forgets_66 ?_
      refine zp_X7_92 (pc := 67) dX7_forgets_67 (fun o => by first | exact o.1 _ (by decide) | exact o.2 _ _ | omega) ?_
      refine zx_aload_n (pc := 70) dX7_forgets_70 rfl rfl ?_
      refine zx_iconst (pc := 71) dX7_forgets_71 ?_
      refine zp_X7_95 (pc := 72) dX7_forgets_72 (fun o => by first | exact o.1 _ (by decide) | exact o.2 _ _ | omega) ?_
      refine zx_aload_n (pc := 75) dX7_forgets_75 rfl rfl ?_
      refine zx_iconst (pc := 76) dX7_forgets_76 ?_
      refine zp_X7_98 (pc := 77) dX7_forgets_77 (fun o => by first | exact o.1 _ (by decide) | exact o.2 _ _ | omega) ?_
      refine zx_vret (pc := 80) dX7_forgets_80 ?_
      exact hQ
    · skip
      refine zx_aload_n (pc := 42) dX7_forgets_42 rfl rfl ?_
      refine zg_X7_49 (pc := 43) dX7_forgets_43 ?_
      refine zx_iload_n (pc := 46) dX7_forgets_46 rfl rfl ?_
      refine zx_iconst (pc := 47) dX7_forgets_47 ?_
      refine zx_bastore (pc := 48) aX7_isReader dX7_forgets_48 (by omega) (by omega) (by omega) (by omega) (fun o => by first | exact o.1 _ (by decide) | exact o.2 _ _ | omega) ?_
      refine zx_iinc (pc := 49) dX7_forgets_49 (by decide) rfl rfl ?_
      refine zx_goto (pc := 52) (tgt := 37) dX7_forgets_52 (by decide) ?_
      rw [e]
      exact ih (i + 1) (by omega) (by omega) (by omega)
set_option maxRecDepth 100000 in
theorem C_X7_forgets {h : zH} : kX7_forgets h (fun h2 => h2 = m_forgets h) := by
  apply eX7_forgets
  refine zx_iconst (pc := 0) dX7_forgets_0 ?_
  refine zx_istore_n (pc := 1) dX7_forgets_1 rfl (by decide) rfl ?_
  have r := L1_X7_forgets (h0 := h) (fun h2 => h2 = m_forgets h) (fun i => ?_) 65 0 (by omega) (by omega) (by omega)
  · simp only [prr_0] at r
    exact r
  refine zx_iconst (pc := 35) dX7_forgets_35 ?_
  refine zx_istore_n (pc := 36) dX7_forgets_36 rfl (by decide) rfl ?_
  have r := L2_X7_forgets (h0 := prr (prr (prr h 10 0 64 0) 11 0 64 0) 12 0 64 0) (fun h2 => h2 = m_forgets h) rfl 5 0 (by omega) (by omega) (by omega)
  simp only [prr_0] at r
  exact r
set_option maxRecDepth 100000 in
theorem C_X7_losesPower {h : zH} : kX7_losesPower h (fun h2 => h2 = m_loses h) := by
  apply eX7_losesPower
  refine zx_aload_n (pc := 0) dX7_losesPower_0 rfl rfl ?_
  refine zi_X7_101 (pc := 1) dX7_losesPower_1 (C_X7_forgets) (by decide) (Nat.le_of_ble_eq_true rfl) (fun h1 q1 => ?_)
  rw [q1]
  clear q1 h1
  refine zx_aload_n (pc := 4) dX7_losesPower_4 rfl rfl ?_
  refine zx_iconst (pc := 5) dX7_losesPower_5 ?_
  refine zp_X7_104 (pc := 6) dX7_losesPower_6 (by omega) (fun _ => by omega) ?_
  refine zx_aload_n (pc := 9) dX7_losesPower_9 rfl rfl ?_
  refine zx_aload_n (pc := 10) dX7_losesPower_10 rfl rfl ?_
  refine zg_X7_108 (pc := 11) dX7_losesPower_11 ?_
  refine zx_iconst (pc := 14) dX7_losesPower_14 ?_
  refine zx_iadd (pc := 15) dX7_losesPower_15 ?_
  refine zx_wr ?_
  refine zp_X7_108 (pc := 16) dX7_losesPower_16 (fun _ => wr_rng _) ?_
  refine zx_vret (pc := 19) dX7_losesPower_19 ?_
  rfl
set_option maxRecDepth 100000 in
theorem C_X7_operates {h : zH} (h1 : 0 ≤ gs h 25) : kX7_operates h (fun r h2 => r = b2i (mOK h) ∧ h2 = m_oper h) := by
  apply eX7_operates
  refine zx_ok (fun ok => ?_)
  have r9 := ok.1 25 (by decide)
  have e : gs h 25 ≠ 0 → gs (ps h 25 (gs h 25 - 1)) 25 = gs h 25 - 1 := fun _ => rfl
  refine zx_aload_n (pc := 0) dX7_operates_0 rfl rfl ?_
  refine zg_X7_126 (pc := 1) dX7_operates_1 ?_
  refine zx_if_ne (pc := 4) (tgt := 9) dX7_operates_4 (by decide) (fun o => by first | exact o.1 _ (by decide) | exact o.2 _ _ | omega) (fun c4 => ?_) (fun c4 => ?_)
  · skip
    refine zx_aload_n (pc := 9) dX7_operates_9 rfl rfl ?_
    refine zx_aload_n (pc := 10) dX7_operates_10 rfl rfl ?_
    refine zg_X7_126 (pc := 11) dX7_operates_11 ?_
    refine zx_iconst (pc := 14) dX7_operates_14 ?_
    refine zx_isub (pc := 15) dX7_operates_15 ?_
    refine zp_X7_126 (pc := 16) dX7_operates_16 (fun _ => by omega) ?_
    refine zx_aload_n (pc := 19) dX7_operates_19 rfl rfl ?_
    refine zg_X7_126 (pc := 20) dX7_operates_20 ?_
    refine zx_if_le (pc := 23) (tgt := 30) dX7_operates_23 (by decide) (fun _ => by rw [e c4]; omega) (fun c23 => ?_) (fun c23 => ?_)
    · skip
      refine zx_iconst (pc := 30) dX7_operates_30 ?_
      refine zx_zret (pc := 31) dX7_operates_31 (by omega) ?_
      rw [e c4] at c23
      refine ⟨?_, (ifp_f c4).symm⟩
      first | exact (b2i_t (by unfold mOK; omega)).symm | exact (b2i_f (by unfold mOK; omega)).symm
    · skip
      refine zx_iconst (pc := 26) dX7_operates_26 ?_
      refine zx_goto (pc := 27) (tgt := 31) dX7_operates_27 (by decide) ?_
      refine zx_zret (pc := 31) dX7_operates_31 (by omega) ?_
      rw [e c4] at c23
      refine ⟨?_, (ifp_f c4).symm⟩
      first | exact (b2i_t (by unfold mOK; omega)).symm | exact (b2i_f (by unfold mOK; omega)).symm
  · skip
    refine zx_iconst (pc := 7) dX7_operates_7 ?_
    refine zx_zret (pc := 8) dX7_operates_8 (by omega) ?_
    exact ⟨(b2i_t (Or.inl c4)).symm, (ifp_t c4).symm⟩

