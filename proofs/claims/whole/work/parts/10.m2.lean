/-! the reference's questions, continued -/
set_option maxRecDepth 100000 in
theorem C_X7_isCopyOf {h : zH} {a1 a2 : Int} (h1 : 0 ≤ a1) (h2 : a1 < 1024) (h3 : 0 ≤ a2) (h4 : a2 < 1024) : kX7_isCopyOf a1 a2 h (fun r h2 => r = b2i (mCopyOf h a1 a2) ∧ h2 = h) := by
  apply eX7_isCopyOf
  refine zx_aload_n (pc := 0) dX7_isCopyOf_0 rfl rfl ?_
  refine zg_X7_13 (pc := 1) dX7_isCopyOf_1 ?_
  refine zx_iload_n (pc := 4) dX7_isCopyOf_4 rfl rfl ?_
  refine zx_iaload (pc := 5) aX7_kind dX7_isCopyOf_5 (by omega) (by omega) (by omega) ?_
  refine zx_aload_n (pc := 6) dX7_isCopyOf_6 rfl rfl ?_
  refine zg_X7_13 (pc := 7) dX7_isCopyOf_7 ?_
  refine zx_iload_n (pc := 10) dX7_isCopyOf_10 rfl rfl ?_
  refine zx_iaload (pc := 11) aX7_kind dX7_isCopyOf_11 (by omega) (by omega) (by omega) ?_
  refine zx_icmp_ne (pc := 12) (tgt := 64) dX7_isCopyOf_12 (by decide) (fun o => by first | exact o.1 _ (by decide) | exact o.2 _ _ | omega) (fun o => by first | exact o.1 _ (by decide) | exact o.2 _ _ | omega) (fun c12 => ?_) (fun c12 => ?_)
  · skip
    refine zx_iconst (pc := 64) dX7_isCopyOf_64 ?_
    refine zx_zret (pc := 65) dX7_isCopyOf_65 (by omega) ?_
    refine ⟨?_, rfl⟩
    first | exact (b2i_t (by simp only [mCopyOf]; grind)).symm | exact (b2i_f (by simp only [mCopyOf]; grind)).symm
  · skip
    refine zx_aload_n (pc := 15) dX7_isCopyOf_15 rfl rfl ?_
    refine zg_X7_19 (pc := 16) dX7_isCopyOf_16 ?_
    refine zx_iload_n (pc := 19) dX7_isCopyOf_19 rfl rfl ?_
    refine zx_iaload (pc := 20) aX7_group dX7_isCopyOf_20 (by omega) (by omega) (by omega) ?_
    refine zx_aload_n (pc := 21) dX7_isCopyOf_21 rfl rfl ?_
    refine zg_X7_19 (pc := 22) dX7_isCopyOf_22 ?_
    refine zx_iload_n (pc := 25) dX7_isCopyOf_25 rfl rfl ?_
    refine zx_iaload (pc := 26) aX7_group dX7_isCopyOf_26 (by omega) (by omega) (by omega) ?_
    refine zx_icmp_ne (pc := 27) (tgt := 64) dX7_isCopyOf_27 (by decide) (fun o => by first | exact o.1 _ (by decide) | exact o.2 _ _ | omega) (fun o => by first | exact o.1 _ (by decide) | exact o.2 _ _ | omega) (fun c27 => ?_) (fun c27 => ?_)
    · skip
      refine zx_iconst (pc := 64) dX7_isCopyOf_64 ?_
      refine zx_zret (pc := 65) dX7_isCopyOf_65 (by omega) ?_
      refine ⟨?_, rfl⟩
      first | exact (b2i_t (by simp only [mCopyOf]; grind)).symm | exact (b2i_f (by simp only [mCopyOf]; grind)).symm
    · skip
      refine zx_aload_n (pc := 30) dX7_isCopyOf_30 rfl rfl ?_
      refine zg_X7_16 (pc := 31) dX7_isCopyOf_31 ?_
      refine zx_iload_n (pc := 34) dX7_isCopyOf_34 rfl rfl ?_
      refine zx_iaload (pc := 35) aX7_index dX7_isCopyOf_35 (by omega) (by omega) (by omega) ?_
      refine zx_aload_n (pc := 36) dX7_isCopyOf_36 rfl rfl ?_
      refine zg_X7_16 (pc := 37) dX7_isCopyOf_37 ?_
      refine zx_iload_n (pc := 40) dX7_isCopyOf_40 rfl rfl ?_
      refine zx_iaload (pc := 41) aX7_index dX7_isCopyOf_41 (by omega) (by omega) (by omega) ?_
      refine zx_icmp_ne (pc := 42) (tgt := 64) dX7_isCopyOf_42 (by decide) (fun o => by first | exact o.1 _ (by decide) | exact o.2 _ _ | omega) (fun o => by first | exact o.1 _ (by decide) | exact o.2 _ _ | omega) (fun c42 => ?_) (fun c42 => ?_)
      · skip
        refine zx_iconst (pc := 64) dX7_isCopyOf_64 ?_
        refine zx_zret (pc := 65) dX7_isCopyOf_65 (by omega) ?_
        refine ⟨?_, rfl⟩
        first | exact (b2i_t (by simp only [mCopyOf]; grind)).symm | exact (b2i_f (by simp only [mCopyOf]; grind)).symm
      · skip
        refine zx_aload_n (pc := 45) dX7_isCopyOf_45 rfl rfl ?_
        refine zg_X7_22 (pc := 46) dX7_isCopyOf_46 ?_
        refine zx_iload_n (pc := 49) dX7_isCopyOf_49 rfl rfl ?_
        refine zx_iaload (pc := 50) aX7_version dX7_isCopyOf_50 (by omega) (by omega) (by omega) ?_
        refine zx_aload_n (pc := 51) dX7_isCopyOf_51 rfl rfl ?_
        refine zg_X7_22 (pc := 52) dX7_isCopyOf_52 ?_
        refine zx_iload_n (pc := 55) dX7_isCopyOf_55 rfl rfl ?_
        refine zx_iaload (pc := 56) aX7_version dX7_isCopyOf_56 (by omega) (by omega) (by omega) ?_
        refine zx_icmp_ne (pc := 57) (tgt := 64) dX7_isCopyOf_57 (by decide) (fun o => by first | exact o.1 _ (by decide) | exact o.2 _ _ | omega) (fun o => by first | exact o.1 _ (by decide) | exact o.2 _ _ | omega) (fun c57 => ?_) (fun c57 => ?_)
        · skip
          refine zx_iconst (pc := 64) dX7_isCopyOf_64 ?_
          refine zx_zret (pc := 65) dX7_isCopyOf_65 (by omega) ?_
          refine ⟨?_, rfl⟩
          first | exact (b2i_t (by simp only [mCopyOf]; grind)).symm | exact (b2i_f (by simp only [mCopyOf]; grind)).symm
        · skip
          refine zx_iconst (pc := 60) dX7_isCopyOf_60 ?_
          refine zx_goto (pc := 61) (tgt := 65) dX7_isCopyOf_61 (by decide) ?_
          refine zx_zret (pc := 65) dX7_isCopyOf_65 (by omega) ?_
          refine ⟨?_, rfl⟩
          first | exact (b2i_t (by simp only [mCopyOf]; grind)).symm | exact (b2i_f (by simp only [mCopyOf]; grind)).symm
set_option maxRecDepth 100000 in
theorem L_X7_isReadBy {h : zH} {a1 a2 : Int} (h1 : 0 ≤ a1) (h2 : a1 < 64) (r2 : -2147483648 ≤ a2 ∧ a2 < 2147483648) (Q : Int → zH → Prop) (hQ : Q (b2i (mReadBy h a1 a2)) h) : ∀ (n : Nat) (i : Int), 0 ≤ i → i ≤ 4 → 4 - i < n → (∀ r : Int, 0 ≤ r → r < i → ¬ (ga h 14 r ≠ 0 ∧ ga h 13 (64 * r + a1) = a2)) → zX cM zNo RX7 cX7_isReadBy 4 (some .boolean) rX7_isReadBy 2 [some (.ref 0), some (.int (iI a1)), some (.int (iI a2)), some (.int (iI i))] [] h (zEi cM Q) := by
  intro n
  induction n with
  | zero => intro i g1 g2 g3; omega
  | succ n ih =>
    intro i g1 g2 g3 g4
    have step : ¬ (ga h 14 i ≠ 0 ∧ ga h 13 (64 * i + a1) = a2) → ∀ r : Int, 0 ≤ r → r < i + 1 → ¬ (ga h 14 r ≠ 0 ∧ ga h 13 (64 * r + a1) = a2) := by
      intro q r h1 h2
      by_cases e : r = i
      · rw [e]; exact q
      · exact g4 r h1 (by omega)
    refine zx_iload_n (pc := 2) dX7_isReadBy_2 rfl rfl ?_
    refine zx_iconst (pc := 3) dX7_isReadBy_3 ?_
    refine zx_icmp_ge (pc := 4) (tgt := 39) dX7_isReadBy_4 (by decide) (fun o => by first | exact o.1 _ (by decide) | exact o.2 _ _ | omega) (fun o => by first | exact o.1 _ (by decide) | exact o.2 _ _ | omega) (fun c4 => ?_) (fun c4 => ?_)
    · skip
      refine zx_iconst (pc := 39) dX7_isReadBy_39 ?_
      refine zx_zret (pc := 40) dX7_isReadBy_40 (by omega) ?_
      rw [b2i_f (fun z => by obtain ⟨r, q1, q2, q3⟩ := z; exact g4 r q1 (by omega) q3)] at hQ
      exact hQ
    · skip
      refine zx_aload_n (pc := 7) dX7_isReadBy_7 rfl rfl ?_
      refine zg_X7_49 (pc := 8) dX7_isReadBy_8 ?_
      refine zx_iload_n (pc := 11) dX7_isReadBy_11 rfl rfl ?_
      refine zx_baload (pc := 12) aX7_isReader dX7_isReadBy_12 (by omega) (by omega) (by omega) ?_
      refine zx_if_eq (pc := 13) (tgt := 33) dX7_isReadBy_13 (by decide) (fun o => by first | exact o.1 _ (by decide) | exact o.2 _ _ | omega) (fun c13 => ?_) (fun c13 => ?_)
      · skip
        refine zx_iinc (pc := 33) dX7_isReadBy_33 (by decide) rfl rfl ?_
        refine zx_goto (pc := 36) (tgt := 2) dX7_isReadBy_36 (by decide) ?_
        exact ih (i + 1) (by omega) (by omega) (by omega) (step (by grind))
      · skip
        refine zx_aload_n (pc := 16) dX7_isReadBy_16 rfl rfl ?_
        refine zg_X7_46 (pc := 17) dX7_isReadBy_17 ?_
        refine zx_bipush (pc := 20) dX7_isReadBy_20 (by decide +kernel) ?_
        refine zx_iload_n (pc := 22) dX7_isReadBy_22 rfl rfl ?_
        refine zx_imul (pc := 23) dX7_isReadBy_23 ?_
        refine zx_iload_n (pc := 24) dX7_isReadBy_24 rfl rfl ?_
        refine zx_iadd (pc := 25) dX7_isReadBy_25 ?_
        refine zx_iaload (pc := 26) aX7_readerVersion dX7_isReadBy_26 (by omega) (by omega) (by omega) ?_
        refine zx_iload_n (pc := 27) dX7_isReadBy_27 rfl rfl ?_
        refine zx_icmp_ne (pc := 28) (tgt := 33) dX7_isReadBy_28 (by decide) (fun o => by first | exact o.1 _ (by decide) | exact o.2 _ _ | omega) (fun o => by first | exact o.1 _ (by decide) | exact o.2 _ _ | omega) (fun c28 => ?_) (fun c28 => ?_)
        · skip
          refine zx_iinc (pc := 33) dX7_isReadBy_33 (by decide) rfl rfl ?_
          refine zx_goto (pc := 36) (tgt := 2) dX7_isReadBy_36 (by decide) ?_
          exact ih (i + 1) (by omega) (by omega) (by omega) (step (by grind))
        · skip
          refine zx_iconst (pc := 31) dX7_isReadBy_31 ?_
          refine zx_zret (pc := 32) dX7_isReadBy_32 (by omega) ?_
          rw [b2i_t ⟨i, g1, by omega, by omega, by omega⟩] at hQ
          exact hQ
set_option maxRecDepth 100000 in
theorem C_X7_isReadBy {h : zH} {a1 a2 : Int} (h1 : 0 ≤ a1) (h2 : a1 < 64) (r2 : -2147483648 ≤ a2 ∧ a2 < 2147483648) : kX7_isReadBy a1 a2 h (fun r h2 => r = b2i (mReadBy h a1 a2) ∧ h2 = h) := by
  apply eX7_isReadBy
  refine zx_iconst (pc := 0) dX7_isReadBy_0 ?_
  refine zx_istore_n (pc := 1) dX7_isReadBy_1 rfl (by decide) rfl ?_
  exact L_X7_isReadBy h1 h2 r2 _ ⟨rfl, rfl⟩ 5 0 (by omega) (by omega) (by omega) (fun r q1 q2 => by omega)
set_option maxRecDepth 100000 in
theorem C_X7_isWantedData {h : zH} {a1 : Int} (h1 : 0 ≤ a1) (h2 : a1 < 1024) (h3 : 0 ≤ ga h 3 a1) (h4 : ga h 3 a1 < 64) : kX7_isWantedData a1 h (fun r h2 => r = b2i (mWantedData h a1) ∧ h2 = h) := by
  apply eX7_isWantedData
  refine zx_ok (fun ok => ?_)
  refine zx_aload_n (pc := 0) dX7_isWantedData_0 rfl rfl ?_
  refine zg_X7_16 (pc := 1) dX7_isWantedData_1 ?_
  refine zx_iload_n (pc := 4) dX7_isWantedData_4 rfl rfl ?_
  refine zx_iaload (pc := 5) aX7_index dX7_isWantedData_5 (by omega) (by omega) (by omega) ?_
  refine zx_istore_n (pc := 6) dX7_isWantedData_6 rfl (by decide) rfl ?_
  refine zx_aload_n (pc := 7) dX7_isWantedData_7 rfl rfl ?_
  refine zg_X7_22 (pc := 8) dX7_isWantedData_8 ?_
  refine zx_iload_n (pc := 11) dX7_isWantedData_11 rfl rfl ?_
  refine zx_iaload (pc := 12) aX7_version dX7_isWantedData_12 (by omega) (by omega) (by omega) ?_
  refine zx_istore_n (pc := 13) dX7_isWantedData_13 rfl (by decide) rfl ?_
  refine zx_iload_n (pc := 14) dX7_isWantedData_14 rfl rfl ?_
  refine zx_aload_n (pc := 15) dX7_isWantedData_15 rfl rfl ?_
  refine zg_X7_37 (pc := 16) dX7_isWantedData_16 ?_
  refine zx_iload_n (pc := 19) dX7_isWantedData_19 rfl rfl ?_
  refine zx_iaload (pc := 20) aX7_committed dX7_isWantedData_20 (by omega) (by omega) (by omega) ?_
  refine zx_icmp_eq (pc := 21) (tgt := 52) dX7_isWantedData_21 (by decide) (fun o => by first | exact o.1 _ (by decide) | exact o.2 _ _ | omega) (fun o => by first | exact o.1 _ (by decide) | exact o.2 _ _ | omega) (fun c21 => ?_) (fun c21 => ?_)
  · skip
    refine zx_iconst (pc := 52) dX7_isWantedData_52 ?_
    refine zx_goto (pc := 53) (tgt := 57) dX7_isWantedData_53 (by decide) ?_
    refine zx_zret (pc := 57) dX7_isWantedData_57 (by omega) ?_
    refine ⟨?_, rfl⟩
    first | exact (b2i_t (by simp only [mWantedData]; grind)).symm | exact (b2i_f (by simp only [mWantedData]; grind)).symm
  · skip
    refine zx_aload_n (pc := 24) dX7_isWantedData_24 rfl rfl ?_
    refine zg_X7_40 (pc := 25) dX7_isWantedData_25 ?_
    refine zx_iload_n (pc := 28) dX7_isWantedData_28 rfl rfl ?_
    refine zx_iaload (pc := 29) aX7_locker dX7_isWantedData_29 (by omega) (by omega) (by omega) ?_
    refine zx_if_le (pc := 30) (tgt := 43) dX7_isWantedData_30 (by decide) (fun o => by first | exact o.1 _ (by decide) | exact o.2 _ _ | omega) (fun c30 => ?_) (fun c30 => ?_)
    · skip
      refine zx_aload_n (pc := 43) dX7_isWantedData_43 rfl rfl ?_
      refine zx_iload_n (pc := 44) dX7_isWantedData_44 rfl rfl ?_
      refine zx_iload_n (pc := 45) dX7_isWantedData_45 rfl rfl ?_
      refine zi_X7_258 (pc := 46) dX7_isWantedData_46 (C_X7_isReadBy h3 h4 (ok.2 5 a1)) (by decide) (Nat.le_of_ble_eq_true rfl) (fun z46 h46 u46 v46 q46 => ?_)
      obtain ⟨rfl, e46⟩ := q46
      rw [e46]
      clear e46 h46
      refine zx_if_eq (pc := 49) (tgt := 56) dX7_isWantedData_49 (by decide) (fun o => by first | exact o.1 _ (by decide) | exact o.2 _ _ | omega) (fun c49 => ?_) (fun c49 => ?_)
      · skip
        replace c49 := b2i_0.mp c49
        refine zx_iconst (pc := 56) dX7_isWantedData_56 ?_
        refine zx_zret (pc := 57) dX7_isWantedData_57 (by omega) ?_
        refine ⟨?_, rfl⟩
        first | exact (b2i_t (by simp only [mWantedData]; grind)).symm | exact (b2i_f (by simp only [mWantedData]; grind)).symm
      · skip
        replace c49 := b2i_n0.mp c49
        refine zx_iconst (pc := 52) dX7_isWantedData_52 ?_
        refine zx_goto (pc := 53) (tgt := 57) dX7_isWantedData_53 (by decide) ?_
        refine zx_zret (pc := 57) dX7_isWantedData_57 (by omega) ?_
        refine ⟨?_, rfl⟩
        first | exact (b2i_t (by simp only [mWantedData]; grind)).symm | exact (b2i_f (by simp only [mWantedData]; grind)).symm
    · skip
      refine zx_iload_n (pc := 33) dX7_isWantedData_33 rfl rfl ?_
      refine zx_aload_n (pc := 34) dX7_isWantedData_34 rfl rfl ?_
      refine zg_X7_43 (pc := 35) dX7_isWantedData_35 ?_
      refine zx_iload_n (pc := 38) dX7_isWantedData_38 rfl rfl ?_
      refine zx_iaload (pc := 39) aX7_shadow dX7_isWantedData_39 (by omega) (by omega) (by omega) ?_
      refine zx_icmp_eq (pc := 40) (tgt := 52) dX7_isWantedData_40 (by decide) (fun o => by first | exact o.1 _ (by decide) | exact o.2 _ _ | omega) (fun o => by first | exact o.1 _ (by decide) | exact o.2 _ _ | omega) (fun c40 => ?_) (fun c40 => ?_)
      · skip
        refine zx_iconst (pc := 52) dX7_isWantedData_52 ?_
        refine zx_goto (pc := 53) (tgt := 57) dX7_isWantedData_53 (by decide) ?_
        refine zx_zret (pc := 57) dX7_isWantedData_57 (by omega) ?_
        refine ⟨?_, rfl⟩
        first | exact (b2i_t (by simp only [mWantedData]; grind)).symm | exact (b2i_f (by simp only [mWantedData]; grind)).symm
      · skip
        refine zx_aload_n (pc := 43) dX7_isWantedData_43 rfl rfl ?_
        refine zx_iload_n (pc := 44) dX7_isWantedData_44 rfl rfl ?_
        refine zx_iload_n (pc := 45) dX7_isWantedData_45 rfl rfl ?_
        refine zi_X7_258 (pc := 46) dX7_isWantedData_46 (C_X7_isReadBy h3 h4 (ok.2 5 a1)) (by decide) (Nat.le_of_ble_eq_true rfl) (fun z46 h46 u46 v46 q46 => ?_)
        obtain ⟨rfl, e46⟩ := q46
        rw [e46]
        clear e46 h46
        refine zx_if_eq (pc := 49) (tgt := 56) dX7_isWantedData_49 (by decide) (fun o => by first | exact o.1 _ (by decide) | exact o.2 _ _ | omega) (fun c49 => ?_) (fun c49 => ?_)
        · skip
          replace c49 := b2i_0.mp c49
          refine zx_iconst (pc := 56) dX7_isWantedData_56 ?_
          refine zx_zret (pc := 57) dX7_isWantedData_57 (by omega) ?_
          refine ⟨?_, rfl⟩
          first | exact (b2i_t (by simp only [mWantedData]; grind)).symm | exact (b2i_f (by simp only [mWantedData]; grind)).symm
        · skip
          replace c49 := b2i_n0.mp c49
          refine zx_iconst (pc := 52) dX7_isWantedData_52 ?_
          refine zx_goto (pc := 53) (tgt := 57) dX7_isWantedData_53 (by decide) ?_
          refine zx_zret (pc := 57) dX7_isWantedData_57 (by omega) ?_
          refine ⟨?_, rfl⟩
          first | exact (b2i_t (by simp only [mWantedData]; grind)).symm | exact (b2i_f (by simp only [mWantedData]; grind)).symm
set_option maxRecDepth 100000 in
theorem C_X7_isWanted {h : zH} {a1 : Int} (h1 : 0 ≤ a1) (h2 : a1 < 1024) (h3 : ga h 2 a1 = 1 → 0 ≤ ga h 3 a1 ∧ ga h 3 a1 < 64) : kX7_isWanted a1 h (fun r h2 => r = b2i (mWanted h a1) ∧ h2 = h) := by
  apply eX7_isWanted
  refine zx_aload_n (pc := 0) dX7_isWanted_0 rfl rfl ?_
  refine zg_X7_13 (pc := 1) dX7_isWanted_1 ?_
  refine zx_iload_n (pc := 4) dX7_isWanted_4 rfl rfl ?_
  refine zx_iaload (pc := 5) aX7_kind dX7_isWanted_5 (by omega) (by omega) (by omega) ?_
  rcases (show ga h 2 a1 = 1 ∨ ga h 2 a1 = 2 ∨ ga h 2 a1 = 3 ∨ ga h 2 a1 = 4 ∨ (ga h 2 a1 < 1 ∨ 4 < ga h 2 a1) by omega) with sw | sw | sw | sw | sw
  · skip
    refine zx_swIn (pc := 6) (tgt := 36) dX7_isWanted_6 (fun o => by first | exact o.1 _ (by decide) | exact o.2 _ _ | omega) (by omega) (by omega) (by rw [sw]; rfl) (by decide) ?_
    refine zx_aload_n (pc := 36) dX7_isWanted_36 rfl rfl ?_
    refine zx_iload_n (pc := 37) dX7_isWanted_37 rfl rfl ?_
    refine zi_X7_261 (pc := 38) dX7_isWanted_38 (C_X7_isWantedData h1 h2 (h3 sw).1 (h3 sw).2) (by decide) (Nat.le_of_ble_eq_true rfl) (fun z38 h38 u38 v38 q38 => ?_)
    obtain ⟨rfl, e38⟩ := q38
    rw [e38]
    clear e38 h38
    refine zx_zret (pc := 41) dX7_isWanted_41 (b2i_01 _) ?_
    exact ⟨b2i_c (by simp only [mWanted]; grind), rfl⟩
  · skip
    refine zx_swIn (pc := 6) (tgt := 42) dX7_isWanted_6 (fun o => by first | exact o.1 _ (by decide) | exact o.2 _ _ | omega) (by omega) (by omega) (by rw [sw]; rfl) (by decide) ?_
    refine zx_aload_n (pc := 42) dX7_isWanted_42 rfl rfl ?_
    refine zg_X7_22 (pc := 43) dX7_isWanted_43 ?_
    refine zx_iload_n (pc := 46) dX7_isWanted_46 rfl rfl ?_
    refine zx_iaload (pc := 47) aX7_version dX7_isWanted_47 (by omega) (by omega) (by omega) ?_
    refine zx_aload_n (pc := 48) dX7_isWanted_48 rfl rfl ?_
    refine zg_X7_92 (pc := 49) dX7_isWanted_49 ?_
    refine zx_icmp_le (pc := 52) (tgt := 59) dX7_isWanted_52 (by decide) (fun o => by first | exact o.1 _ (by decide) | exact o.2 _ _ | omega) (fun o => by first | exact o.1 _ (by decide) | exact o.2 _ _ | omega) (fun c52 => ?_) (fun c52 => ?_)
    · skip
      refine zx_iconst (pc := 59) dX7_isWanted_59 ?_
      refine zx_zret (pc := 60) dX7_isWanted_60 (by omega) ?_
      refine ⟨?_, rfl⟩
      first | exact (b2i_t (by simp only [mWanted]; grind)).symm | exact (b2i_f (by simp only [mWanted]; grind)).symm
    · skip
      refine zx_iconst (pc := 55) dX7_isWanted_55 ?_
      refine zx_goto (pc := 56) (tgt := 60) dX7_isWanted_56 (by decide) ?_
      refine zx_zret (pc := 60) dX7_isWanted_60 (by omega) ?_
      refine ⟨?_, rfl⟩
      first | exact (b2i_t (by simp only [mWanted]; grind)).symm | exact (b2i_f (by simp only [mWanted]; grind)).symm
  · skip
    refine zx_swIn (pc := 6) (tgt := 61) dX7_isWanted_6 (fun o => by first | exact o.1 _ (by decide) | exact o.2 _ _ | omega) (by omega) (by omega) (by rw [sw]; rfl) (by decide) ?_
    refine zx_aload_n (pc := 61) dX7_isWanted_61 rfl rfl ?_
    refine zg_X7_19 (pc := 62) dX7_isWanted_62 ?_
    refine zx_iload_n (pc := 65) dX7_isWanted_65 rfl rfl ?_
    refine zx_iaload (pc := 66) aX7_group dX7_isWanted_66 (by omega) (by omega) (by omega) ?_
    refine zx_aload_n (pc := 67) dX7_isWanted_67 rfl rfl ?_
    refine zg_X7_89 (pc := 68) dX7_isWanted_68 ?_
    refine zx_icmp_eq (pc := 71) (tgt := 87) dX7_isWanted_71 (by decide) (fun o => by first | exact o.1 _ (by decide) | exact o.2 _ _ | omega) (fun o => by first | exact o.1 _ (by decide) | exact o.2 _ _ | omega) (fun c71 => ?_) (fun c71 => ?_)
    · skip
      refine zx_iconst (pc := 87) dX7_isWanted_87 ?_
      refine zx_goto (pc := 88) (tgt := 92) dX7_isWanted_88 (by decide) ?_
      refine zx_zret (pc := 92) dX7_isWanted_92 (by omega) ?_
      refine ⟨?_, rfl⟩
      first | exact (b2i_t (by simp only [mWanted]; grind)).symm | exact (b2i_f (by simp only [mWanted]; grind)).symm
    · skip
      refine zx_aload_n (pc := 74) dX7_isWanted_74 rfl rfl ?_
      refine zg_X7_19 (pc := 75) dX7_isWanted_75 ?_
      refine zx_iload_n (pc := 78) dX7_isWanted_78 rfl rfl ?_
      refine zx_iaload (pc := 79) aX7_group dX7_isWanted_79 (by omega) (by omega) (by omega) ?_
      refine zx_aload_n (pc := 80) dX7_isWanted_80 rfl rfl ?_
      refine zg_X7_95 (pc := 81) dX7_isWanted_81 ?_
      refine zx_icmp_ne (pc := 84) (tgt := 91) dX7_isWanted_84 (by decide) (fun o => by first | exact o.1 _ (by decide) | exact o.2 _ _ | omega) (fun o => by first | exact o.1 _ (by decide) | exact o.2 _ _ | omega) (fun c84 => ?_) (fun c84 => ?_)
      · skip
        refine zx_iconst (pc := 91) dX7_isWanted_91 ?_
        refine zx_zret (pc := 92) dX7_isWanted_92 (by omega) ?_
        refine ⟨?_, rfl⟩
        first | exact (b2i_t (by simp only [mWanted]; grind)).symm | exact (b2i_f (by simp only [mWanted]; grind)).symm
      · skip
        refine zx_iconst (pc := 87) dX7_isWanted_87 ?_
        refine zx_goto (pc := 88) (tgt := 92) dX7_isWanted_88 (by decide) ?_
        refine zx_zret (pc := 92) dX7_isWanted_92 (by omega) ?_
        refine ⟨?_, rfl⟩
        first | exact (b2i_t (by simp only [mWanted]; grind)).symm | exact (b2i_f (by simp only [mWanted]; grind)).symm
  · skip
    refine zx_swIn (pc := 6) (tgt := 93) dX7_isWanted_6 (fun o => by first | exact o.1 _ (by decide) | exact o.2 _ _ | omega) (by omega) (by omega) (by rw [sw]; rfl) (by decide) ?_
    refine zx_aload_n (pc := 93) dX7_isWanted_93 rfl rfl ?_
    refine zg_X7_19 (pc := 94) dX7_isWanted_94 ?_
    refine zx_iload_n (pc := 97) dX7_isWanted_97 rfl rfl ?_
    refine zx_iaload (pc := 98) aX7_group dX7_isWanted_98 (by omega) (by omega) (by omega) ?_
    refine zx_aload_n (pc := 99) dX7_isWanted_99 rfl rfl ?_
    refine zg_X7_89 (pc := 100) dX7_isWanted_100 ?_
    refine zx_icmp_ne (pc := 103) (tgt := 110) dX7_isWanted_103 (by decide) (fun o => by first | exact o.1 _ (by decide) | exact o.2 _ _ | omega) (fun o => by first | exact o.1 _ (by decide) | exact o.2 _ _ | omega) (fun c103 => ?_) (fun c103 => ?_)
    · skip
      refine zx_iconst (pc := 110) dX7_isWanted_110 ?_
      refine zx_zret (pc := 111) dX7_isWanted_111 (by omega) ?_
      refine ⟨?_, rfl⟩
      first | exact (b2i_t (by simp only [mWanted]; grind)).symm | exact (b2i_f (by simp only [mWanted]; grind)).symm
    · skip
      refine zx_iconst (pc := 106) dX7_isWanted_106 ?_
      refine zx_goto (pc := 107) (tgt := 111) dX7_isWanted_107 (by decide) ?_
      refine zx_zret (pc := 111) dX7_isWanted_111 (by omega) ?_
      refine ⟨?_, rfl⟩
      first | exact (b2i_t (by simp only [mWanted]; grind)).symm | exact (b2i_f (by simp only [mWanted]; grind)).symm
  · skip
    refine zx_swOut (pc := 6) (tgt := 112) dX7_isWanted_6 (fun o => by first | exact o.1 _ (by decide) | exact o.2 _ _ | omega) sw (by decide) ?_
    refine zx_iconst (pc := 112) dX7_isWanted_112 ?_
    refine zx_zret (pc := 113) dX7_isWanted_113 (by omega) ?_
    refine ⟨?_, rfl⟩
    first | exact (b2i_t (by simp only [mWanted]; grind)).symm | exact (b2i_f (by simp only [mWanted]; grind)).symm
set_option maxRecDepth 100000 in
theorem L_X7_isNewest {h : zH} (hb : MB h) {a1 : Int} (h1 : 0 ≤ a1) (h2 : a1 < 1024) (Q : Int → zH → Prop) (hQ : Q (b2i (mNewest h a1)) h) : ∀ (n : Nat) (i : Int), 0 ≤ i → i ≤ gs h 1 * gs h 2 → gs h 1 * gs h 2 - i < n → (∀ o : Int, 0 ≤ o → o < i → mCopyOf h o a1 → ga h 6 o ≤ ga h 6 a1) → zX cM zNo RX7 cX7_isNewest 3 (some .boolean) rX7_isNewest 2 [some (.ref 0), some (.int (iI a1)), some (.int (iI i))] [] h (zEi cM Q) := by
  have m7 := mb_size hb.1 hb.2.1 hb.2.2.1 hb.2.2.2.1
  intro n
  induction n with
  | zero => intro i g1 g2 g3; omega
  | succ n ih =>
    intro i g1 g2 g3 g4
    have step : (mCopyOf h i a1 → ga h 6 i ≤ ga h 6 a1) → ∀ r : Int, 0 ≤ r → r < i + 1 → mCopyOf h r a1 → ga h 6 r ≤ ga h 6 a1 := by
      intro q r h1 h2
      by_cases e : r = i
      · rw [e]; exact q
      · exact g4 r h1 (by omega)
    refine zx_iload_n (pc := 2) dX7_isNewest_2 rfl rfl ?_
    refine zx_aload_n (pc := 3) dX7_isNewest_3 rfl rfl ?_
    refine zi_X7_264 (pc := 4) dX7_isNewest_4 (C_X7_flashSize hb) (by decide) (Nat.le_of_ble_eq_true rfl) (fun z4 h4 u4 v4 q4 => ?_)
    obtain ⟨rfl, e4⟩ := q4
    rw [e4]
    clear e4 h4
    refine zx_icmp_ge (pc := 7) (tgt := 42) dX7_isNewest_7 (by decide) (fun o => by first | exact o.1 _ (by decide) | exact o.2 _ _ | omega) (fun o => by first | exact o.1 _ (by decide) | exact o.2 _ _ | omega) (fun c7 => ?_) (fun c7 => ?_)
    · skip
      refine zx_iconst (pc := 42) dX7_isNewest_42 ?_
      refine zx_zret (pc := 43) dX7_isNewest_43 (by omega) ?_
      rw [b2i_t (p := mNewest h a1) (fun o q1 q2 q3 => g4 o q1 (by omega) q3)] at hQ
      exact hQ
    · skip
      refine zx_aload_n (pc := 10) dX7_isNewest_10 rfl rfl ?_
      refine zx_iload_n (pc := 11) dX7_isNewest_11 rfl rfl ?_
      refine zx_iload_n (pc := 12) dX7_isNewest_12 rfl rfl ?_
      refine zi_X7_267 (pc := 13) dX7_isNewest_13 (C_X7_isCopyOf g1 (by omega) h1 h2) (by decide) (Nat.le_of_ble_eq_true rfl) (fun z13 h13 u13 v13 q13 => ?_)
      obtain ⟨rfl, e13⟩ := q13
      rw [e13]
      clear e13 h13
      refine zx_if_eq (pc := 16) (tgt := 36) dX7_isNewest_16 (by decide) (fun o => by first | exact o.1 _ (by decide) | exact o.2 _ _ | omega) (fun c16 => ?_) (fun c16 => ?_)
      · skip
        replace c16 := b2i_0.mp c16
        refine zx_iinc (pc := 36) dX7_isNewest_36 (by decide) rfl rfl ?_
        refine zx_goto (pc := 39) (tgt := 2) dX7_isNewest_39 (by decide) ?_
        exact ih (i + 1) (by omega) (by omega) (by omega) (step (by grind))
      · skip
        replace c16 := b2i_n0.mp c16
        refine zx_aload_n (pc := 19) dX7_isNewest_19 rfl rfl ?_
        refine zg_X7_25 (pc := 20) dX7_isNewest_20 ?_
        refine zx_iload_n (pc := 23) dX7_isNewest_23 rfl rfl ?_
        refine zx_iaload (pc := 24) aX7_sequence dX7_isNewest_24 (by omega) (by omega) (by omega) ?_
        refine zx_aload_n (pc := 25) dX7_isNewest_25 rfl rfl ?_
        refine zg_X7_25 (pc := 26) dX7_isNewest_26 ?_
        refine zx_iload_n (pc := 29) dX7_isNewest_29 rfl rfl ?_
        refine zx_iaload (pc := 30) aX7_sequence dX7_isNewest_30 (by omega) (by omega) (by omega) ?_
        refine zx_icmp_le (pc := 31) (tgt := 36) dX7_isNewest_31 (by decide) (fun o => by first | exact o.1 _ (by decide) | exact o.2 _ _ | omega) (fun o => by first | exact o.1 _ (by decide) | exact o.2 _ _ | omega) (fun c31 => ?_) (fun c31 => ?_)
        · skip
          refine zx_iinc (pc := 36) dX7_isNewest_36 (by decide) rfl rfl ?_
          refine zx_goto (pc := 39) (tgt := 2) dX7_isNewest_39 (by decide) ?_
          exact ih (i + 1) (by omega) (by omega) (by omega) (step (by grind))
        · skip
          refine zx_iconst (pc := 34) dX7_isNewest_34 ?_
          refine zx_zret (pc := 35) dX7_isNewest_35 (by omega) ?_
          rw [b2i_f (fun z => by have := z i g1 (by omega) c16; omega)] at hQ
          exact hQ
set_option maxRecDepth 100000 in
theorem C_X7_isNewest {h : zH} (hb : MB h) {a1 : Int} (h1 : 0 ≤ a1) (h2 : a1 < 1024) : kX7_isNewest a1 h (fun r h2 => r = b2i (mNewest h a1) ∧ h2 = h) := by
  have m7 := mb_size hb.1 hb.2.1 hb.2.2.1 hb.2.2.2.1
  apply eX7_isNewest
  refine zx_iconst (pc := 0) dX7_isNewest_0 ?_
  refine zx_istore_n (pc := 1) dX7_isNewest_1 rfl (by decide) rfl ?_
  exact L_X7_isNewest hb h1 h2 _ ⟨rfl, rfl⟩ 1025 0 (by omega) (by omega) (by omega) (fun r q1 q2 => by omega)
set_option maxRecDepth 100000 in
theorem C_X7_isGood {h : zH} (hb : MB h) (hi : MI h) {a1 : Int} (h1 : 0 ≤ a1) (h2 : a1 < gs h 1 * gs h 2) : kX7_isGood a1 h (fun r h2 => r = b2i (mGood h a1) ∧ h2 = h) := by
  have m7 := mb_size hb.1 hb.2.1 hb.2.2.1 hb.2.2.2.1
  have m8 := (hi a1 h1 h2).1
  have m9 := hb.2.2.2.2.2
  apply eX7_isGood
  refine zx_aload_n (pc := 0) dX7_isGood_0 rfl rfl ?_
  refine zg_X7_104 (pc := 1) dX7_isGood_1 ?_
  refine zx_if_eq (pc := 4) (tgt := 27) dX7_isGood_4 (by decide) (fun o => by first | exact o.1 _ (by decide) | exact o.2 _ _ | omega) (fun c4 => ?_) (fun c4 => ?_)
  · skip
    refine zx_iconst (pc := 27) dX7_isGood_27 ?_
    refine zx_zret (pc := 28) dX7_isGood_28 (by omega) ?_
    refine ⟨?_, rfl⟩
    first | exact (b2i_t (by simp only [mGood]; grind)).symm | exact (b2i_f (by simp only [mGood]; grind)).symm
  · skip
    refine zx_aload_n (pc := 7) dX7_isGood_7 rfl rfl ?_
    refine zx_iload_n (pc := 8) dX7_isGood_8 rfl rfl ?_
    refine zi_X7_270 (pc := 9) dX7_isGood_9 (C_X7_isWanted h1 (by omega) (fun z => by have := m8 z; omega)) (by decide) (Nat.le_of_ble_eq_true rfl) (fun z9 h9 u9 v9 q9 => ?_)
    obtain ⟨rfl, e9⟩ := q9
    rw [e9]
    clear e9 h9
    refine zx_if_eq (pc := 12) (tgt := 27) dX7_isGood_12 (by decide) (fun o => by first | exact o.1 _ (by decide) | exact o.2 _ _ | omega) (fun c12 => ?_) (fun c12 => ?_)
    · skip
      replace c12 := b2i_0.mp c12
      refine zx_iconst (pc := 27) dX7_isGood_27 ?_
      refine zx_zret (pc := 28) dX7_isGood_28 (by omega) ?_
      refine ⟨?_, rfl⟩
      first | exact (b2i_t (by simp only [mGood]; grind)).symm | exact (b2i_f (by simp only [mGood]; grind)).symm
    · skip
      replace c12 := b2i_n0.mp c12
      refine zx_aload_n (pc := 15) dX7_isGood_15 rfl rfl ?_
      refine zx_iload_n (pc := 16) dX7_isGood_16 rfl rfl ?_
      refine zi_X7_273 (pc := 17) dX7_isGood_17 (C_X7_isNewest hb h1 (by omega)) (by decide) (Nat.le_of_ble_eq_true rfl) (fun z17 h17 u17 v17 q17 => ?_)
      obtain ⟨rfl, e17⟩ := q17
      rw [e17]
      clear e17 h17
      refine zx_if_eq (pc := 20) (tgt := 27) dX7_isGood_20 (by decide) (fun o => by first | exact o.1 _ (by decide) | exact o.2 _ _ | omega) (fun c20 => ?_) (fun c20 => ?_)
      · skip
        replace c20 := b2i_0.mp c20
        refine zx_iconst (pc := 27) dX7_isGood_27 ?_
        refine zx_zret (pc := 28) dX7_isGood_28 (by omega) ?_
        refine ⟨?_, rfl⟩
        first | exact (b2i_t (by simp only [mGood]; grind)).symm | exact (b2i_f (by simp only [mGood]; grind)).symm
      · skip
        replace c20 := b2i_n0.mp c20
        refine zx_iconst (pc := 23) dX7_isGood_23 ?_
        refine zx_goto (pc := 24) (tgt := 28) dX7_isGood_24 (by decide) ?_
        refine zx_zret (pc := 28) dX7_isGood_28 (by omega) ?_
        refine ⟨?_, rfl⟩
        first | exact (b2i_t (by simp only [mGood]; grind)).symm | exact (b2i_f (by simp only [mGood]; grind)).symm
set_option maxRecDepth 100000 in
theorem L_X7_validIn {h : zH} (hb : MB h) (hi : MI h) {a1 : Int} (h1 : 0 ≤ a1) (h2 : a1 < gs h 1) (Q : Int → zH → Prop) (hQ : Q (mValidIn h a1) h) : ∀ (n : Nat) (i c : Int), gs h 2 * a1 ≤ i → i ≤ gs h 2 * a1 + gs h 2 → gs h 2 * a1 + gs h 2 - i < n → c = cnt (mGood h) (gs h 2 * a1) (i - gs h 2 * a1).toNat → zX cM zNo RX7 cX7_validIn 4 (some .int) rX7_validIn 9 [some (.ref 0), some (.int (iI a1)), some (.int (iI c)), some (.int (iI i))] [] h (zEi cM Q) := by
  have hb0 := hb
  obtain ⟨m1, m2, m3, m4, m5, m6⟩ := hb
  obtain ⟨b1, b2, b3, b4⟩ := mb_blk h1 h2 m2 m3 m4
  have b5 := Int.mul_comm (gs h 2) (gs h 1)
  intro n
  induction n with
  | zero => intro i c g1 g2 g3; omega
  | succ n ih =>
    intro i c g1 g2 g3 g4
    have g5 := cnt_r (mGood h) (gs h 2 * a1) (i - gs h 2 * a1).toNat
    have g6 := cnt_next (p := mGood h) g1
    refine zx_iload_n (pc := 9) dX7_validIn_9 rfl rfl ?_
    refine zx_aload_n (pc := 10) dX7_validIn_10 rfl rfl ?_
    refine zg_X7_82 (pc := 11) dX7_validIn_11 ?_
    refine zx_iload_n (pc := 14) dX7_validIn_14 rfl rfl ?_
    refine zx_iconst (pc := 15) dX7_validIn_15 ?_
    refine zx_iadd (pc := 16) dX7_validIn_16 ?_
    refine zx_imul (pc := 17) dX7_validIn_17 ?_
    refine zx_icmp_ge (pc := 18) (tgt := 43) dX7_validIn_18 (by decide) (fun o => by first | exact o.1 _ (by decide) | exact o.2 _ _ | omega) (fun o => by first | exact o.1 _ (by decide) | exact o.2 _ _ | omega) (fun c18 => ?_) (fun c18 => ?_)
    · skip
      refine zx_iload_n (pc := 43) dX7_validIn_43 rfl rfl ?_
      refine zx_iret (pc := 44) dX7_validIn_44 (fun o => by first | exact o.1 _ (by decide) | exact o.2 _ _ | omega) ?_
      have e : i - gs h 2 * a1 = gs h 2 := by omega
      rw [g4, e]
      exact hQ
    · skip
      refine zx_aload_n (pc := 21) dX7_validIn_21 rfl rfl ?_
      refine zx_iload_n (pc := 22) dX7_validIn_22 rfl rfl ?_
      refine zi_X7_276 (pc := 23) dX7_validIn_23 (C_X7_isGood hb0 hi (by omega) (by omega)) (by decide) (Nat.le_of_ble_eq_true rfl) (fun z23 h23 u23 v23 q23 => ?_)
      obtain ⟨rfl, e23⟩ := q23
      rw [e23]
      clear e23 h23
      refine zx_if_eq (pc := 26) (tgt := 35) dX7_validIn_26 (by decide) (fun o => by first | exact o.1 _ (by decide) | exact o.2 _ _ | omega) (fun c26 => ?_) (fun c26 => ?_)
      · skip
        replace c26 := b2i_0.mp c26
        refine zx_iload_n (pc := 35) dX7_validIn_35 rfl rfl ?_
        refine zx_istore_n (pc := 36) dX7_validIn_36 rfl (by decide) rfl ?_
        refine zx_iinc (pc := 37) dX7_validIn_37 (by decide) rfl rfl ?_
        refine zx_goto (pc := 40) (tgt := 9) dX7_validIn_40 (by decide) ?_
        exact ih (i + 1) _ (by omega) (by omega) (by omega) (by first | rw [g6, g4, b2i_t c26] | rw [g6, g4, b2i_f c26, Int.add_zero])
      · skip
        replace c26 := b2i_n0.mp c26
        refine zx_iload_n (pc := 29) dX7_validIn_29 rfl rfl ?_
        refine zx_iconst (pc := 30) dX7_validIn_30 ?_
        refine zx_iadd (pc := 31) dX7_validIn_31 ?_
        refine zx_goto (pc := 32) (tgt := 36) dX7_validIn_32 (by decide) ?_
        refine zx_istore_n (pc := 36) dX7_validIn_36 rfl (by decide) rfl ?_
        refine zx_iinc (pc := 37) dX7_validIn_37 (by decide) rfl rfl ?_
        refine zx_goto (pc := 40) (tgt := 9) dX7_validIn_40 (by decide) ?_
        exact ih (i + 1) _ (by omega) (by omega) (by omega) (by first | rw [g6, g4, b2i_t c26] | rw [g6, g4, b2i_f c26, Int.add_zero])
set_option maxRecDepth 100000 in
theorem C_X7_validIn {h : zH} (hb : MB h) (hi : MI h) {a1 : Int} (h1 : 0 ≤ a1) (h2 : a1 < gs h 1) : kX7_validIn a1 h (fun r h2 => r = mValidIn h a1 ∧ h2 = h) := by
  have hb0 := hb
  obtain ⟨m1, m2, m3, m4, m5, m6⟩ := hb
  obtain ⟨b1, b2, b3, b4⟩ := mb_blk h1 h2 m2 m3 m4
  apply eX7_validIn
  refine zx_iconst (pc := 0) dX7_validIn_0 ?_
  refine zx_istore_n (pc := 1) dX7_validIn_1 rfl (by decide) rfl ?_
  refine zx_aload_n (pc := 2) dX7_validIn_2 rfl rfl ?_
  refine zg_X7_82 (pc := 3) dX7_validIn_3 ?_
  refine zx_iload_n (pc := 6) dX7_validIn_6 rfl rfl ?_
  refine zx_imul (pc := 7) dX7_validIn_7 ?_
  refine zx_istore_n (pc := 8) dX7_validIn_8 rfl (by decide) rfl ?_
  exact L_X7_validIn hb0 hi h1 h2 _ ⟨rfl, rfl⟩ ((gs h 2).toNat + 1) _ 0 (Int.le_refl _) (by omega) (by omega) (by rw [Int.sub_self]; rfl)
theorem mValidIn_r {h : zH} (hb : MB h) (b : Int) : 0 ≤ mValidIn h b ∧ mValidIn h b ≤ gs h 2 := by
  have g := cnt_r (mGood h) (gs h 2 * b) (gs h 2).toNat
  have e : mValidIn h b = cnt (mGood h) (gs h 2 * b) (gs h 2).toNat := rfl
  have q := hb.2.2.1
  rw [e]
  omega
theorem mValidAll_r {h : zH} (hb : MB h) : ∀ n : Nat, (n : Int) ≤ 32 → 0 ≤ zsum (mValidIn h) n ∧ zsum (mValidIn h) n ≤ 1024 := by
  intro n hn
  have q := zsum_r (f := mValidIn h) (c := 32) (n := n) (fun i _ _ => by have := mValidIn_r hb i; have := hb.2.2.2.1; omega)
  omega
set_option maxRecDepth 100000 in
theorem L_X7_validAll {h : zH} (hb : MB h) (hi : MI h) (Q : Int → zH → Prop) (hQ : Q (mValidAll h) h) : ∀ (n : Nat) (i c : Int), 0 ≤ i → i ≤ gs h 1 → gs h 1 - i < n → c = zsum (mValidIn h) i.toNat → zX cM zNo RX7 cX7_validAll 3 (some .int) rX7_validAll 4 [some (.ref 0), some (.int (iI c)), some (.int (iI i))] [] h (zEi cM Q) := by
  have hb0 := hb
  obtain ⟨m1, m2, m3, m4, m5, m6⟩ := hb
  intro n
  induction n with
  | zero => intro i c g1 g2 g3; omega
  | succ n ih =>
    intro i c g1 g2 g3 g4
    have g5 := mValidAll_r hb0 i.toNat (by omega)
    have g6 := zsum_next (f := mValidIn h) g1
    refine zx_iload_n (pc := 4) dX7_validAll_4 rfl rfl ?_
    refine zx_aload_n (pc := 5) dX7_validAll_5 rfl rfl ?_
    refine zg_X7_79 (pc := 6) dX7_validAll_6 ?_
    refine zx_icmp_ge (pc := 9) (tgt := 26) dX7_validAll_9 (by decide) (fun o => by first | exact o.1 _ (by decide) | exact o.2 _ _ | omega) (fun o => by first | exact o.1 _ (by decide) | exact o.2 _ _ | omega) (fun c9 => ?_) (fun c9 => ?_)
    · skip
      refine zx_iload_n (pc := 26) dX7_validAll_26 rfl rfl ?_
      refine zx_iret (pc := 27) dX7_validAll_27 (fun o => by first | exact o.1 _ (by decide) | exact o.2 _ _ | omega) ?_
      have e : i = gs h 1 := by omega
      rw [g4, e]
      exact hQ
    · skip
      refine zx_iload_n (pc := 12) dX7_validAll_12 rfl rfl ?_
      refine zx_aload_n (pc := 13) dX7_validAll_13 rfl rfl ?_
      refine zx_iload_n (pc := 14) dX7_validAll_14 rfl rfl ?_
      refine zi_X7_279 (pc := 15) dX7_validAll_15 (C_X7_validIn hb0 hi g1 c9) (by decide) (Nat.le_of_ble_eq_true rfl) (fun z15 h15 u15 v15 q15 => ?_)
      obtain ⟨rfl, e15⟩ := q15
      rw [e15]
      clear e15 h15
      refine zx_iadd (pc := 18) dX7_validAll_18 ?_
      refine zx_istore_n (pc := 19) dX7_validAll_19 rfl (by decide) rfl ?_
      refine zx_iinc (pc := 20) dX7_validAll_20 (by decide) rfl rfl ?_
      refine zx_goto (pc := 23) (tgt := 4) dX7_validAll_23 (by decide) ?_
      exact ih (i + 1) _ (by omega) (by omega) (by omega) (by rw [g6, g4])
set_option maxRecDepth 100000 in
theorem C_X7_validAll {h : zH} (hb : MB h) (hi : MI h) : kX7_validAll h (fun r h2 => r = mValidAll h ∧ h2 = h) := by
  apply eX7_validAll
  refine zx_iconst (pc := 0) dX7_validAll_0 ?_
  refine zx_istore_n (pc := 1) dX7_validAll_1 rfl (by decide) rfl ?_
  refine zx_iconst (pc := 2) dX7_validAll_2 ?_
  refine zx_istore_n (pc := 3) dX7_validAll_3 rfl (by decide) rfl ?_
  exact L_X7_validAll hb hi _ ⟨rfl, rfl⟩ ((gs h 1).toNat + 1) _ 0 (Int.le_refl _) hb.1 (by have := hb.1; omega) rfl

