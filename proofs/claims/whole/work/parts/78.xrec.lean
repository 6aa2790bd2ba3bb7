/-! the class: recover's contract -/
theorem XT_rs3 {e : zH × Int} (s : XS e.1) : XT (x_rs3 e).1 := by
  unfold x_rs3
  rcases Classical.em (e.2 = 1) with c | c
  · rw [ifp_t c]
    exact s.2.2.1
  · rw [ifp_f c]
    exact (XS_lose s).2.2.1
set_option maxRecDepth 100000 in
theorem T_recover {h : zH} (s : XS h) (hm : XM h) : kT_recover h (fun z h2 => ∃ r, X_recR h r ∧ zQn r z h2) (fun E h2 => ∃ r, X_recR h r ∧ zXn [nIE] r E h2) := by
  apply eT_recover
  refine zx_aload_n (pc := 0) dX6_recover_0 rfl rfl ?_
  refine zg_X6_19 (pc := 1) dX6_recover_1 ?_
  refine zg_X6_85 (pc := 4) dX6_recover_4 ?_
  refine zx_if_ne (pc := 7) (tgt := 20) dX6_recover_7 (by decide) (fun o => by first | exact o.1 _ (by decide) | exact o.2 _ _ | omega) (fun c7 => ?_) (fun c7 => ?_)
  · skip
    refine zx_throw (k := 2) (ik := 27) (is := 228) (ic := 31) (pc := 20) zt_31 zt_x228 dX6_recover_20 dX6_recover_23 (Or.inl ⟨dX6_recover_24, rfl⟩) dX6_recover_26 dX6_recover_29 ⟨by decide, by decide, rfl, rfl⟩ (by decide) ?_
    exact ⟨(h, 1, 0), Or.inl ⟨by omega, rfl⟩, 0, rfl, rfl, rfl⟩
  · skip
    refine zx_aload_n (pc := 10) dX6_recover_10 rfl rfl ?_
    refine zg_X6_19 (pc := 11) dX6_recover_11 ?_
    refine zi_X6_222 (pc := 14) dX6_recover_14 (C_X0_isFormatted s.1) (by decide) (Nat.le_of_ble_eq_true rfl) (fun z14 h14 u14 v14 q14 => ?_)
    obtain ⟨rfl, e14⟩ := q14
    rw [e14]
    clear e14 h14
    refine zx_if_ne (pc := 17) (tgt := 30) dX6_recover_17 (by decide) (fun o => by first | exact o.1 _ (by decide) | exact o.2 _ _ | omega) (fun c17 => ?_) (fun c17 => ?_)
    · skip
      try replace c17 := b2i_n0.mp c17
      refine zx_aload_n (pc := 30) dX6_recover_30 rfl rfl ?_
      refine zg_X6_19 (pc := 31) dX6_recover_31 ?_
      refine zi_X6_230 (pc := 34) dX6_recover_34 (C_X0_restore s hm) (by decide) (Nat.le_of_ble_eq_true rfl) (fun z34 h34 u34 v34 q34 => ?_)
      obtain ⟨hs, g, e34, rfl⟩ := q34
      have stt : XT (x_rs3 (x_ed (x_rs2 (x_apL (gs hs 122).toNat hs 0 0 0)))).1 := XT_rs3 (xed_r (XS_rs2 (XS_rs1 s) g (gs hs 122).toNat 0 0 0)).1
      refine zx_if_ne (pc := 37) (tgt := 50) dX6_recover_37 (by decide) (fun o => by first | exact o.1 _ (by decide) | exact o.2 _ _ | omega) (fun c37 => ?_) (fun c37 => ?_)
      · skip
        try replace c37 := b2i_n0.mp c37
        refine zx_aload_n (pc := 50) dX6_recover_50 rfl rfl ?_
        refine zg_X6_19 (pc := 51) dX6_recover_51 ?_
        refine zg_X6_107 (pc := 54) dX6_recover_54 ?_
        refine zi_X6_233 (pc := 57) dX6_recover_57 (C_X4_countWritten stt) (by decide) (Nat.le_of_ble_eq_true rfl) (fun z57 h57 u57 v57 q57 => ?_)
        obtain ⟨rfl, e57⟩ := q57
        rw [e57]
        clear e57 h57
        refine zx_xiret (pc := 60) dX6_recover_60 (fun o => by first | exact o.1 _ (by decide) | exact o.2 _ _ | omega) ?_
        have er : X_rec h hs = ((x_rs3 (x_ed (x_rs2 (x_apL (gs hs 122).toNat hs 0 0 0)))).1, 0, xWrit (x_rs3 (x_ed (x_rs2 (x_apL (gs hs 122).toNat hs 0 0 0)))).1) := ifp_f (by omega)
        exact ⟨X_rec h hs, Or.inr ⟨⟨by omega, by omega⟩, hs, g, rfl⟩, by rw [er], by rw [er], by rw [er]⟩
      · skip
        try replace c37 := b2i_0.mp c37
        refine zx_throw (k := 2) (ik := 27) (is := 145) (ic := 31) (pc := 40) zt_31 zt_x145 dX6_recover_40 dX6_recover_43 (Or.inl ⟨dX6_recover_44, rfl⟩) dX6_recover_46 dX6_recover_49 ⟨by decide, by decide, rfl, rfl⟩ (by decide) ?_
        have er : X_rec h hs = ((x_rs3 (x_ed (x_rs2 (x_apL (gs hs 122).toNat hs 0 0 0)))).1, 1, 0) := ifp_t (by omega)
        exact ⟨X_rec h hs, Or.inr ⟨⟨by omega, by omega⟩, hs, g, rfl⟩, 0, rfl, by rw [er]; rfl, by rw [er]⟩
    · skip
      try replace c17 := b2i_0.mp c17
      refine zx_throw (k := 2) (ik := 27) (is := 228) (ic := 31) (pc := 20) zt_31 zt_x228 dX6_recover_20 dX6_recover_23 (Or.inl ⟨dX6_recover_24, rfl⟩) dX6_recover_26 dX6_recover_29 ⟨by decide, by decide, rfl, rfl⟩ (by decide) ?_
      exact ⟨(h, 1, 0), Or.inl ⟨by omega, rfl⟩, 0, rfl, rfl, rfl⟩

