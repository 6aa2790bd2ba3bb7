/-! recovery: what it makes, and contracts -/
noncomputable def mLE (h : zH) : Nat → Int
  | 0 => -1
  | n + 1 => ifp (ga h 2 n = 4 ∧ (mLE h n = -1 ∨ ga h 5 (mLE h n) < ga h 5 n)) (n : Int) (mLE h n)
noncomputable def mEnd (h : zH) : Int := mLE h (gs h 1 * gs h 2).toNat
noncomputable def m_rckL : Nat → zH → Int → zH
  | 0, h, _ => h
  | n + 1, h, i => m_rckL n (ifp (ga h 2 i = 3 ∧ ga h 4 i = gs h 33) (cp8 h 10 (ga h 3 i) i 8) h) (i + 1)
noncomputable def m_rck (h : zH) : zH := ifp (mEnd h = -1) h (m_rckL (gs h 1 * gs h 2).toNat (ps (ps h 33 (ga h 4 (mEnd h))) 34 (ga h 5 (mEnd h))) 0)
def mApp (h : zH) (i : Int) : Prop := ga h 2 i = 2 ∨ ga h 2 i = 1 ∧ ga h 4 i = 0
noncomputable def mNAL (h : zH) (v : Int) : Nat → Int
  | 0 => -1
  | n + 1 => ifp (mApp h n ∧ v < ga h 5 n ∧ (mNAL h v n = -1 ∨ ga h 5 n < ga h 5 (mNAL h v n))) (n : Int) (mNAL h v n)
noncomputable def mNA (h : zH) (v : Int) : Int := mNAL h v (gs h 1 * gs h 2).toNat
noncomputable def m_acL : Nat → zH → Int → Int → zH
  | 0, h, _, _ => h
  | n + 1, h, t, i => m_acL n (ifp (ga h 2 i = 1 ∧ ga h 4 i = t ∧ ga h 17 (ga h 3 i) < ga h 5 i) (pa h 17 (ga h 3 i) (ga h 5 i)) h) t (i + 1)
def m_ac3 (h : zH) (n : Int) : zH := (h.1, fun c j => if c = 10 ∧ 0 ≤ j ∧ j < n ∧ 0 < h.2 17 j then h.2 17 j else h.2 c j)
theorem ga_ac3 (h : zH) (n : Int) (c : Nat) (j : Int) : ga (m_ac3 h n) c j = if c = 10 ∧ 0 ≤ j ∧ j < n ∧ 0 < ga h 17 j then ga h 17 j else ga h c j := rfl
noncomputable def m_ac (h : zH) (t : Int) : zH := m_ac3 (m_acL (gs h 1 * gs h 2).toNat (prr h 17 0 (gs h 3) 0) t 0) (gs h 3)
noncomputable def m_app0 (h : zH) (p : Int) : zH := ifp (ga h 2 p = 2) (m_ac h (ga h 4 p)) (pa h 10 (ga h 3 p) (ga h 5 p))
noncomputable def m_app1 (h : zH) (p : Int) : zH := ps (m_app0 h p) 36 (wr (gs (m_app0 h p) 36 + 1))
noncomputable def m_aaL : Nat → zH → Int → zH
  | 0, h, _ => h
  | n + 1, h, p => ifp (p = -1) h (m_aaL n (m_app1 h p) (mNA (m_app1 h p) (ga (m_app1 h p) 5 p)))
noncomputable def m_aa (h : zH) : zH := m_aaL 1025 h (mNA h (gs h 34))
def m_lost (h : zH) (n : Int) : zH := (h.1, fun c j => if c = 15 ∧ 1 ≤ j ∧ j < n ∧ h.2 15 j = 1 then 4 else h.2 c j)
theorem ga_lost (h : zH) (n : Int) (c : Nat) (j : Int) : ga (m_lost h n) c j = if c = 15 ∧ 1 ≤ j ∧ j < n ∧ ga h 15 j = 1 then 4 else ga h c j := rfl
noncomputable def m_euL : Nat → zH → Int → zH × Int
  | 0, h, _ => (h, 1)
  | n + 1, h, b => ifp (mFreeIn h b < gs h 2 ∧ mValidIn h b = 0) (ifp (mOK h) (m_euL n (m_erase h b) (b + 1)) (m_erase h b, 0)) (m_euL n h (b + 1))
noncomputable def m_eu (h : zH) : zH × Int := m_euL (gs h 1).toNat h 0
def mProgd (h : zH) (i : Int) : Prop := 1 ≤ ga h 2 i ∧ ga h 2 i ≤ 4
noncomputable def mLN (h : zH) : Nat → Int
  | 0 => -1
  | n + 1 => ifp (mProgd h n ∧ (mLN h n = -1 ∨ ga h 6 (mLN h n) < ga h 6 n)) (n : Int) (mLN h n)
noncomputable def mLast (h : zH) : Int := mLN h (gs h 1 * gs h 2).toNat
noncomputable def m_fa (h : zH) : zH := ps h 32 (ifp (mLast h ≠ -1 ∧ 0 < mFreeIn h (mLast h / gs h 2)) (mLast h / gs h 2) (-1))
noncomputable def mWrit (h : zH) : Int := cnt (fun p => ga h 10 p ≠ 0) 0 (gs h 3).toNat
noncomputable def m_rec1 (h : zH) : zH := m_aa (m_rck (m_forgets h))
noncomputable def m_rec2 (h : zH) : zH := ps (m_lost (m_rec1 h) (gs (m_rec1 h) 38 + 1)) 26 1
noncomputable def m_rec (h : zH) : zH × Int := ifp (gs h 26 ≠ 0 ∨ gs h 1 = 0) (ps h 0 1, 0) (ifp ((m_eu (m_rec2 (ps h 0 0))).2 = 1) (m_fa (m_eu (m_rec2 (ps h 0 0))).1, mWrit (m_fa (m_eu (m_rec2 (ps h 0 0))).1)) (ps (m_eu (m_rec2 (ps h 0 0))).1 0 1, 0))
theorem mLE_r (h : zH) : ∀ n : Nat, -1 ≤ mLE h n ∧ mLE h n < n
  | 0 => by simp [mLE]
  | n + 1 => by
    have q := mLE_r h n
    rw [mLE]
    rcases Classical.em (ga h 2 n = 4 ∧ (mLE h n = -1 ∨ ga h 5 (mLE h n) < ga h 5 n)) with c | c
    · rw [ifp_t c]; omega
    · rw [ifp_f c]; omega
theorem mNAL_r (h : zH) (v : Int) : ∀ n : Nat, -1 ≤ mNAL h v n ∧ mNAL h v n < n ∧ (mNAL h v n ≠ -1 → mApp h (mNAL h v n) ∧ v < ga h 5 (mNAL h v n))
  | 0 => by simp [mNAL]
  | n + 1 => by
    have q := mNAL_r h v n
    rw [mNAL]
    rcases Classical.em (mApp h n ∧ v < ga h 5 n ∧ (mNAL h v n = -1 ∨ ga h 5 n < ga h 5 (mNAL h v n))) with c | c
    · rw [ifp_t c]; exact ⟨by omega, by omega, fun _ => ⟨c.1, c.2.1⟩⟩
    · rw [ifp_f c]; exact ⟨q.1, by omega, q.2.2⟩
theorem mLN_r (h : zH) : ∀ n : Nat, -1 ≤ mLN h n ∧ mLN h n < n
  | 0 => by simp [mLN]
  | n + 1 => by
    have q := mLN_r h n
    rw [mLN]
    rcases Classical.em (mProgd h n ∧ (mLN h n = -1 ∨ ga h 6 (mLN h n) < ga h 6 n)) with c | c
    · rw [ifp_t c]; omega
    · rw [ifp_f c]; omega
set_option maxRecDepth 100000 in
theorem L_X7_latestEnd {h : zH} (hb : MB h) (Q : Int → zH → Prop) (hQ : Q (mEnd h) h) : ∀ (n : Nat) (i c : Int), 0 ≤ i → i ≤ gs h 1 * gs h 2 → gs h 1 * gs h 2 - i < n → c = mLE h i.toNat → zX cM zNo RX7 cX7_latestEnd 3 (some .int) rX7_latestEnd 4 [some (.ref 0), some (.int (iI c)), some (.int (iI i))] [] h (zEi cM Q) := by
  have m7 := mb_size hb.1 hb.2.1 hb.2.2.1 hb.2.2.2.1
  intro n
  induction n with
  | zero => intro i c g1 g2 g3; omega
  | succ n ih =>
    intro i c g1 g2 g3 g4
    have g5 := mLE_r h i.toNat
    obtain ⟨g6, g7⟩ := toNat_next g1
    have y (z : ga h 2 i = 4 ∧ (c = -1 ∨ ga h 5 c < ga h 5 i)) : mLE h (i + 1).toNat = i := by
      rw [g6, mLE, g7, ← g4]
      exact ifp_t z
    have nn (z : ¬ (ga h 2 i = 4 ∧ (c = -1 ∨ ga h 5 c < ga h 5 i))) : mLE h (i + 1).toNat = c := by
      rw [g6, mLE, g7, ← g4]
      exact ifp_f z
    refine zx_iload_n (pc := 4) dX7_latestEnd_4 rfl rfl ?_
    refine zx_aload_n (pc := 5) dX7_latestEnd_5 rfl rfl ?_
    refine zi_X7_264 (pc := 6) dX7_latestEnd_6 (C_X7_flashSize hb) (by decide) (Nat.le_of_ble_eq_true rfl) (fun z6 h6 u6 v6 q6 => ?_)
    obtain ⟨rfl, e6⟩ := q6
    rw [e6]
    clear e6 h6
    refine zx_icmp_ge (pc := 9) (tgt := 50) dX7_latestEnd_9 (by decide) (fun o => by first | exact o.1 _ (by decide) | exact o.2 _ _ | omega) (fun o => by first | exact o.1 _ (by decide) | exact o.2 _ _ | omega) (fun c9 => ?_) (fun c9 => ?_)
    · skip
      refine zx_iload_n (pc := 50) dX7_latestEnd_50 rfl rfl ?_
      refine zx_iret (pc := 51) dX7_latestEnd_51 (fun o => by first | exact o.1 _ (by decide) | exact o.2 _ _ | omega) ?_
      have e : i = gs h 1 * gs h 2 := by omega
      rw [g4, e]
      exact hQ
    · skip
      refine zx_aload_n (pc := 12) dX7_latestEnd_12 rfl rfl ?_
      refine zg_X7_13 (pc := 13) dX7_latestEnd_13 ?_
      refine zx_iload_n (pc := 16) dX7_latestEnd_16 rfl rfl ?_
      refine zx_iaload (pc := 17) aX7_kind dX7_latestEnd_17 (by omega) (by omega) (by omega) ?_
      refine zx_iconst (pc := 18) dX7_latestEnd_18 ?_
      refine zx_icmp_ne (pc := 19) (tgt := 44) dX7_latestEnd_19 (by decide) (fun o => by first | exact o.1 _ (by decide) | exact o.2 _ _ | omega) (fun o => by first | exact o.1 _ (by decide) | exact o.2 _ _ | omega) (fun c19 => ?_) (fun c19 => ?_)
      · skip
        refine zx_iinc (pc := 44) dX7_latestEnd_44 (by decide) rfl rfl ?_
        refine zx_goto (pc := 47) (tgt := 4) dX7_latestEnd_47 (by decide) ?_
        first
        | (have w2 := w
           exact ih (i + 1) _ (by omega) (by omega) (by omega) w2.symm)
        | exact ih (i + 1) _ (by omega) (by omega) (by omega) (nn (by omega)).symm
      · skip
        refine zx_iload_n (pc := 22) dX7_latestEnd_22 rfl rfl ?_
        refine zx_iconst (pc := 23) dX7_latestEnd_23 ?_
        refine zx_icmp_eq (pc := 24) (tgt := 42) dX7_latestEnd_24 (by decide) (fun o => by first | exact o.1 _ (by decide) | exact o.2 _ _ | omega) (fun o => by first | exact o.1 _ (by decide) | exact o.2 _ _ | omega) (fun c24 => ?_) (fun c24 => ?_)
        · skip
          have w := y (by omega)
          refine zx_iload_n (pc := 42) dX7_latestEnd_42 rfl rfl ?_
          refine zx_istore_n (pc := 43) dX7_latestEnd_43 rfl (by decide) rfl ?_
          refine zx_iinc (pc := 44) dX7_latestEnd_44 (by decide) rfl rfl ?_
          refine zx_goto (pc := 47) (tgt := 4) dX7_latestEnd_47 (by decide) ?_
          first
          | (have w2 := w
             exact ih (i + 1) _ (by omega) (by omega) (by omega) w2.symm)
          | exact ih (i + 1) _ (by omega) (by omega) (by omega) (nn (by omega)).symm
        · skip
          refine zx_aload_n (pc := 27) dX7_latestEnd_27 rfl rfl ?_
          refine zg_X7_22 (pc := 28) dX7_latestEnd_28 ?_
          refine zx_iload_n (pc := 31) dX7_latestEnd_31 rfl rfl ?_
          refine zx_iaload (pc := 32) aX7_version dX7_latestEnd_32 (by omega) (by omega) (by omega) ?_
          refine zx_aload_n (pc := 33) dX7_latestEnd_33 rfl rfl ?_
          refine zg_X7_22 (pc := 34) dX7_latestEnd_34 ?_
          refine zx_iload_n (pc := 37) dX7_latestEnd_37 rfl rfl ?_
          refine zx_iaload (pc := 38) aX7_version dX7_latestEnd_38 (by omega) (by omega) (by omega) ?_
          refine zx_icmp_le (pc := 39) (tgt := 44) dX7_latestEnd_39 (by decide) (fun o => by first | exact o.1 _ (by decide) | exact o.2 _ _ | omega) (fun o => by first | exact o.1 _ (by decide) | exact o.2 _ _ | omega) (fun c39 => ?_) (fun c39 => ?_)
          · skip
            refine zx_iinc (pc := 44) dX7_latestEnd_44 (by decide) rfl rfl ?_
            refine zx_goto (pc := 47) (tgt := 4) dX7_latestEnd_47 (by decide) ?_
            first
            | (have w2 := w
               exact ih (i + 1) _ (by omega) (by omega) (by omega) w2.symm)
            | exact ih (i + 1) _ (by omega) (by omega) (by omega) (nn (by omega)).symm
          · skip
            have w := y (by omega)
            refine zx_iload_n (pc := 42) dX7_latestEnd_42 rfl rfl ?_
            refine zx_istore_n (pc := 43) dX7_latestEnd_43 rfl (by decide) rfl ?_
            refine zx_iinc (pc := 44) dX7_latestEnd_44 (by decide) rfl rfl ?_
            refine zx_goto (pc := 47) (tgt := 4) dX7_latestEnd_47 (by decide) ?_
            first
            | (have w2 := w
               exact ih (i + 1) _ (by omega) (by omega) (by omega) w2.symm)
            | exact ih (i + 1) _ (by omega) (by omega) (by omega) (nn (by omega)).symm
set_option maxRecDepth 100000 in
theorem C_X7_latestEnd {h : zH} (hb : MB h) : kX7_latestEnd h (fun r h2 => r = mEnd h ∧ h2 = h) := by
  have m7 := mb_size hb.1 hb.2.1 hb.2.2.1 hb.2.2.2.1
  apply eX7_latestEnd
  refine zx_iconst (pc := 0) dX7_latestEnd_0 ?_
  refine zx_istore_n (pc := 1) dX7_latestEnd_1 rfl (by decide) rfl ?_
  refine zx_iconst (pc := 2) dX7_latestEnd_2 ?_
  refine zx_istore_n (pc := 3) dX7_latestEnd_3 rfl (by decide) rfl ?_
  exact L_X7_latestEnd hb (fun r h2 => r = mEnd h ∧ h2 = h) ⟨rfl, rfl⟩ 1025 0 _ (Int.le_refl _) m7.1 (by omega) rfl
set_option maxRecDepth 100000 in
theorem L_X7_readsMap {h0 : zH} {a1 : Int} (h1 : 0 ≤ a1) (h2 : a1 < 1024) (i1 : 0 ≤ ga h0 3 a1) (i2 : ga h0 3 a1 < 8) : ∀ (n : Nat) (i : Int), 0 ≤ i → i ≤ 8 → 8 - i < n → zX cM zNo RX7 cX7_readsMap 3 none rX7_readsMap 2 [some (.ref 0), some (.int (iI a1)), some (.int (iI i))] [] (cpk h0 10 (ga h0 3 a1) a1 8 i) (zEv cM (fun h2 => h2 = cp8 h0 10 (ga h0 3 a1) a1 8)) := by
  intro n
  induction n with
  | zero => intro i g1 g2 g3; omega
  | succ n ih =>
    intro i g1 g2 g3
    have e3 : ga (cpk h0 10 (ga h0 3 a1) a1 8 i) 3 a1 = ga h0 3 a1 := by rw [ga_cpk, if_neg (by omega)]
    have e8 : ga (cpk h0 10 (ga h0 3 a1) a1 8 i) 8 (8 * a1 + i) = ga h0 8 (8 * a1 + i) := by rw [ga_cpk, if_neg (by omega)]
    have e : pa (cpk h0 10 (ga h0 3 a1) a1 8 i) 10 (8 * ga h0 3 a1 + i) (ga h0 8 (8 * a1 + i)) = cpk h0 10 (ga h0 3 a1) a1 8 (i + 1) := by
      apply zH_ext
      · intro k; rfl
      · intro c j
        simp only [ga_pa, ga_cpk]
        by_cases q : c = 10 ∧ j = 8 * ga h0 3 a1 + i
        · rw [if_pos q, if_pos (by omega), q.2]
          congr 1
          omega
        · rw [if_neg q]
          by_cases q2 : c = 10 ∧ 8 * ga h0 3 a1 ≤ j ∧ j < 8 * ga h0 3 a1 + i
          · rw [if_pos q2, if_pos (by omega)]
          · rw [if_neg q2, if_neg (by omega)]
    refine zx_iload_n (pc := 2) dX7_readsMap_2 rfl rfl ?_
    refine zx_bipush (pc := 3) dX7_readsMap_3 (by decide +kernel) ?_
    refine zx_icmp_ge (pc := 5) (tgt := 41) dX7_readsMap_5 (by decide) (fun o => by first | exact o.1 _ (by decide) | exact o.2 _ _ | omega) (fun o => by first | exact o.1 _ (by decide) | exact o.2 _ _ | omega) (fun c5 => ?_) (fun c5 => ?_)
    · skip
      refine zx_vret (pc := 41) dX7_readsMap_41 ?_
      have e2 : i = 8 := by omega
      rw [e2]
      rfl
    · skip
      refine zx_aload_n (pc := 8) dX7_readsMap_8 rfl rfl ?_
      refine zg_X7_37 (pc := 9) dX7_readsMap_9 ?_
      refine zx_bipush (pc := 12) dX7_readsMap_12 (by decide +kernel) ?_
      refine zx_aload_n (pc := 14) dX7_readsMap_14 rfl rfl ?_
      refine zg_X7_16 (pc := 15) dX7_readsMap_15 ?_
      refine zx_iload_n (pc := 18) dX7_readsMap_18 rfl rfl ?_
      refine zx_iaload (pc := 19) aX7_index dX7_readsMap_19 (by omega) (by omega) (by omega) ?_
      refine zx_imul (pc := 20) dX7_readsMap_20 ?_
      refine zx_iload_n (pc := 21) dX7_readsMap_21 rfl rfl ?_
      refine zx_iadd (pc := 22) dX7_readsMap_22 ?_
      refine zx_aload_n (pc := 23) dX7_readsMap_23 rfl rfl ?_
      refine zg_X7_31 (pc := 24) dX7_readsMap_24 ?_
      refine zx_bipush (pc := 27) dX7_readsMap_27 (by decide +kernel) ?_
      refine zx_iload_n (pc := 29) dX7_readsMap_29 rfl rfl ?_
      refine zx_imul (pc := 30) dX7_readsMap_30 ?_
      refine zx_iload_n (pc := 31) dX7_readsMap_31 rfl rfl ?_
      refine zx_iadd (pc := 32) dX7_readsMap_32 ?_
      refine zx_iaload (pc := 33) aX7_mapped dX7_readsMap_33 (by omega) (by omega) (by omega) ?_
      refine zx_iastore (pc := 34) aX7_committed dX7_readsMap_34 (by omega) (by omega) (by omega) (fun o => o.2 _ _) ?_
      refine zx_iinc (pc := 35) dX7_readsMap_35 (by decide) rfl rfl ?_
      refine zx_goto (pc := 38) (tgt := 2) dX7_readsMap_38 (by decide) ?_
      rw [e3, e8, e]
      exact ih (i + 1) (by omega) (by omega) (by omega)
set_option maxRecDepth 100000 in
theorem C_X7_readsMap {h : zH} {a1 : Int} (h1 : 0 ≤ a1) (h2 : a1 < 1024) (i1 : 0 ≤ ga h 3 a1) (i2 : ga h 3 a1 < 8) : kX7_readsMap a1 h (fun h2 => h2 = cp8 h 10 (ga h 3 a1) a1 8) := by
  apply eX7_readsMap
  refine zx_iconst (pc := 0) dX7_readsMap_0 ?_
  refine zx_istore_n (pc := 1) dX7_readsMap_1 rfl (by decide) rfl ?_
  have r := L_X7_readsMap h1 h2 i1 i2 9 0 (Int.le_refl _) (by omega) (by omega)
  rw [show cpk h 10 (ga h 3 a1) a1 8 0 = h from cpk_0 _ _ _ _ _] at r
  exact r
set_option maxRecDepth 100000 in
theorem L_X7_readsCheckpoint {x1 : Int} : ∀ (n : Nat) (h : zH) (i : Int), MB h → MI h → 0 ≤ i → i + n = gs h 1 * gs h 2 → zX cM zNo RX7 cX7_readsCheckpoint 3 none rX7_readsCheckpoint 33 [some (.ref 0), some (.int (iI x1)), some (.int (iI i))] [] h (zEv cM (fun h2 => h2 = m_rckL n h i)) := by
  intro n
  induction n with
  | zero =>
    intro h i hb hi g1 g2
    have m7 := mb_size hb.1 hb.2.1 hb.2.2.1 hb.2.2.2.1
    refine zx_iload_n (pc := 33) dX7_readsCheckpoint_33 rfl rfl ?_
    refine zx_aload_n (pc := 34) dX7_readsCheckpoint_34 rfl rfl ?_
    refine zi_X7_264 (pc := 35) dX7_readsCheckpoint_35 (C_X7_flashSize hb) (by decide) (Nat.le_of_ble_eq_true rfl) (fun z35 h35 u35 v35 q35 => ?_)
    obtain ⟨rfl, e35⟩ := q35
    rw [e35]
    clear e35 h35
    refine zx_icmp_ge (pc := 38) (tgt := 75) dX7_readsCheckpoint_38 (by decide) (fun o => by first | exact o.1 _ (by decide) | exact o.2 _ _ | omega) (fun o => by first | exact o.1 _ (by decide) | exact o.2 _ _ | omega) (fun c38 => ?_) (fun c38 => absurd c38 (by omega))
    refine zx_vret (pc := 75) dX7_readsCheckpoint_75 ?_
    rfl
  | succ n ih =>
    intro h i hb hi g1 g2
    have m7 := mb_size hb.1 hb.2.1 hb.2.2.1 hb.2.2.2.1
    have q := hi i g1 (by omega)
    have q6 := hb.2.2.2.2.2
    rw [m_rckL]
    refine zx_iload_n (pc := 33) dX7_readsCheckpoint_33 rfl rfl ?_
    refine zx_aload_n (pc := 34) dX7_readsCheckpoint_34 rfl rfl ?_
    refine zi_X7_264 (pc := 35) dX7_readsCheckpoint_35 (C_X7_flashSize hb) (by decide) (Nat.le_of_ble_eq_true rfl) (fun z35 h35 u35 v35 q35 => ?_)
    obtain ⟨rfl, e35⟩ := q35
    rw [e35]
    clear e35 h35
    refine zx_icmp_ge (pc := 38) (tgt := 75) dX7_readsCheckpoint_38 (by decide) (fun o => by first | exact o.1 _ (by decide) | exact o.2 _ _ | omega) (fun o => by first | exact o.1 _ (by decide) | exact o.2 _ _ | omega) (fun c38 => absurd c38 (by omega)) (fun c38 => ?_)
    refine zx_aload_n (pc := 41) dX7_readsCheckpoint_41 rfl rfl ?_
    refine zg_X7_13 (pc := 42) dX7_readsCheckpoint_42 ?_
    refine zx_iload_n (pc := 45) dX7_readsCheckpoint_45 rfl rfl ?_
    refine zx_iaload (pc := 46) aX7_kind dX7_readsCheckpoint_46 (by omega) (by omega) (by omega) ?_
    refine zx_iconst (pc := 47) dX7_readsCheckpoint_47 ?_
    refine zx_icmp_ne (pc := 48) (tgt := 69) dX7_readsCheckpoint_48 (by decide) (fun o => by first | exact o.1 _ (by decide) | exact o.2 _ _ | omega) (fun o => by first | exact o.1 _ (by decide) | exact o.2 _ _ | omega) (fun c48 => ?_) (fun c48 => ?_)
    · skip
      rw [ifp_f (fun z => c48 z.1)]
      refine zx_iinc (pc := 69) dX7_readsCheckpoint_69 (by decide) rfl rfl ?_
      refine zx_goto (pc := 72) (tgt := 33) dX7_readsCheckpoint_72 (by decide) ?_
      first
      | exact ih _ (i + 1) hb hi (by omega) (by omega)
      | exact ih _ (i + 1) (MB_c hb rfl rfl rfl) (MI_c hi rfl rfl rfl (fun j _ => ⟨by rw [ga_cp8, if_neg (by omega)], by rw [ga_cp8, if_neg (by omega)]⟩)) (by omega) (by rw [gs_cp8, gs_cp8]; omega)
    · skip
      refine zx_aload_n (pc := 51) dX7_readsCheckpoint_51 rfl rfl ?_
      refine zg_X7_19 (pc := 52) dX7_readsCheckpoint_52 ?_
      refine zx_iload_n (pc := 55) dX7_readsCheckpoint_55 rfl rfl ?_
      refine zx_iaload (pc := 56) aX7_group dX7_readsCheckpoint_56 (by omega) (by omega) (by omega) ?_
      refine zx_aload_n (pc := 57) dX7_readsCheckpoint_57 rfl rfl ?_
      refine zg_X7_89 (pc := 58) dX7_readsCheckpoint_58 ?_
      refine zx_icmp_ne (pc := 61) (tgt := 69) dX7_readsCheckpoint_61 (by decide) (fun o => by first | exact o.1 _ (by decide) | exact o.2 _ _ | omega) (fun o => by first | exact o.1 _ (by decide) | exact o.2 _ _ | omega) (fun c61 => ?_) (fun c61 => ?_)
      · skip
        rw [ifp_f (fun z => c61 z.2)]
        refine zx_iinc (pc := 69) dX7_readsCheckpoint_69 (by decide) rfl rfl ?_
        refine zx_goto (pc := 72) (tgt := 33) dX7_readsCheckpoint_72 (by decide) ?_
        first
        | exact ih _ (i + 1) hb hi (by omega) (by omega)
        | exact ih _ (i + 1) (MB_c hb rfl rfl rfl) (MI_c hi rfl rfl rfl (fun j _ => ⟨by rw [ga_cp8, if_neg (by omega)], by rw [ga_cp8, if_neg (by omega)]⟩)) (by omega) (by rw [gs_cp8, gs_cp8]; omega)
      · skip
        rw [ifp_t ⟨c48, c61⟩]
        refine zx_aload_n (pc := 64) dX7_readsCheckpoint_64 rfl rfl ?_
        refine zx_iload_n (pc := 65) dX7_readsCheckpoint_65 rfl rfl ?_
        refine zi_X7_389 (pc := 66) dX7_readsCheckpoint_66 (C_X7_readsMap g1 (by omega) (q.2 c48).1 (by have := (q.2 c48).2; omega)) (by decide) (Nat.le_of_ble_eq_true rfl) (fun h66 q66 => ?_)
        rw [q66]
        clear q66 h66
        refine zx_iinc (pc := 69) dX7_readsCheckpoint_69 (by decide) rfl rfl ?_
        refine zx_goto (pc := 72) (tgt := 33) dX7_readsCheckpoint_72 (by decide) ?_
        first
        | exact ih _ (i + 1) hb hi (by omega) (by omega)
        | exact ih _ (i + 1) (MB_c hb rfl rfl rfl) (MI_c hi rfl rfl rfl (fun j _ => ⟨by rw [ga_cp8, if_neg (by omega)], by rw [ga_cp8, if_neg (by omega)]⟩)) (by omega) (by rw [gs_cp8, gs_cp8]; omega)
theorem mEnd_r {h : zH} (hb : MB h) : -1 ≤ mEnd h ∧ mEnd h < gs h 1 * gs h 2 := by
  have m7 := mb_size hb.1 hb.2.1 hb.2.2.1 hb.2.2.2.1
  have q := mLE_r h (gs h 1 * gs h 2).toNat
  unfold mEnd
  omega
set_option maxRecDepth 100000 in
theorem C_X7_readsCheckpoint {h : zH} (hb : MB h) (hi : MI h) : kX7_readsCheckpoint h (fun h2 => h2 = m_rck h) := by
  have m7 := mb_size hb.1 hb.2.1 hb.2.2.1 hb.2.2.2.1
  have q := mEnd_r hb
  apply eX7_readsCheckpoint
  unfold m_rck
  refine zx_aload_n (pc := 0) dX7_readsCheckpoint_0 rfl rfl ?_
  refine zi_X7_386 (pc := 1) dX7_readsCheckpoint_1 (C_X7_latestEnd hb) (by decide) (Nat.le_of_ble_eq_true rfl) (fun z1 h1 u1 v1 q1 => ?_)
  obtain ⟨rfl, e1⟩ := q1
  rw [e1]
  clear e1 h1
  refine zx_istore_n (pc := 4) dX7_readsCheckpoint_4 rfl (by decide) rfl ?_
  refine zx_iload_n (pc := 5) dX7_readsCheckpoint_5 rfl rfl ?_
  refine zx_iconst (pc := 6) dX7_readsCheckpoint_6 ?_
  refine zx_icmp_ne (pc := 7) (tgt := 11) dX7_readsCheckpoint_7 (by decide) (fun o => by first | exact o.1 _ (by decide) | exact o.2 _ _ | omega) (fun o => by first | exact o.1 _ (by decide) | exact o.2 _ _ | omega) (fun c7 => ?_) (fun c7 => ?_)
  · skip
    rw [ifp_f c7]
    refine zx_aload_n (pc := 11) dX7_readsCheckpoint_11 rfl rfl ?_
    refine zx_aload_n (pc := 12) dX7_readsCheckpoint_12 rfl rfl ?_
    refine zg_X7_19 (pc := 13) dX7_readsCheckpoint_13 ?_
    refine zx_iload_n (pc := 16) dX7_readsCheckpoint_16 rfl rfl ?_
    refine zx_iaload (pc := 17) aX7_group dX7_readsCheckpoint_17 (by omega) (by omega) (by omega) ?_
    refine zp_X7_89 (pc := 18) dX7_readsCheckpoint_18 (fun o => o.2 _ _) ?_
    refine zx_aload_n (pc := 21) dX7_readsCheckpoint_21 rfl rfl ?_
    refine zx_aload_n (pc := 22) dX7_readsCheckpoint_22 rfl rfl ?_
    refine zg_X7_22 (pc := 23) dX7_readsCheckpoint_23 ?_
    refine zx_iload_n (pc := 26) dX7_readsCheckpoint_26 rfl rfl ?_
    refine zx_iaload (pc := 27) aX7_version dX7_readsCheckpoint_27 (by omega) (by omega) (by omega) ?_
    refine zp_X7_92 (pc := 28) dX7_readsCheckpoint_28 (fun o => o.2 _ _) ?_
    refine zx_iconst (pc := 31) dX7_readsCheckpoint_31 ?_
    refine zx_istore_n (pc := 32) dX7_readsCheckpoint_32 rfl (by decide) rfl ?_
    exact L_X7_readsCheckpoint (gs h 1 * gs h 2).toNat (ps (ps h 33 (ga h 4 (mEnd h))) 34 (ga h 5 (mEnd h))) 0 hb hi (Int.le_refl _) (by show 0 + _ = gs h 1 * gs h 2; omega)
  · skip
    rw [ifp_t c7]
    refine zx_vret (pc := 10) dX7_readsCheckpoint_10 ?_
    rfl
set_option maxRecDepth 100000 in
theorem C_X7_isApplied {h : zH} {a1 : Int} (h1 : 0 ≤ a1) (h2 : a1 < 1024) : kX7_isApplied a1 h (fun r h2 => r = b2i (mApp h a1) ∧ h2 = h) := by
  apply eX7_isApplied
  refine zx_aload_n (pc := 0) dX7_isApplied_0 rfl rfl ?_
  refine zg_X7_13 (pc := 1) dX7_isApplied_1 ?_
  refine zx_iload_n (pc := 4) dX7_isApplied_4 rfl rfl ?_
  refine zx_iaload (pc := 5) aX7_kind dX7_isApplied_5 (by omega) (by omega) (by omega) ?_
  refine zx_iconst (pc := 6) dX7_isApplied_6 ?_
  refine zx_icmp_eq (pc := 7) (tgt := 29) dX7_isApplied_7 (by decide) (fun o => by first | exact o.1 _ (by decide) | exact o.2 _ _ | omega) (fun o => by first | exact o.1 _ (by decide) | exact o.2 _ _ | omega) (fun c7 => ?_) (fun c7 => ?_)
  · skip
    refine zx_iconst (pc := 29) dX7_isApplied_29 ?_
    refine zx_goto (pc := 30) (tgt := 34) dX7_isApplied_30 (by decide) ?_
    refine zx_zret (pc := 34) dX7_isApplied_34 (by omega) ?_
    refine ⟨?_, rfl⟩
    first | exact (b2i_t (by unfold mApp; omega)).symm | exact (b2i_f (by unfold mApp; omega)).symm
  · skip
    refine zx_aload_n (pc := 10) dX7_isApplied_10 rfl rfl ?_
    refine zg_X7_13 (pc := 11) dX7_isApplied_11 ?_
    refine zx_iload_n (pc := 14) dX7_isApplied_14 rfl rfl ?_
    refine zx_iaload (pc := 15) aX7_kind dX7_isApplied_15 (by omega) (by omega) (by omega) ?_
    refine zx_iconst (pc := 16) dX7_isApplied_16 ?_
    refine zx_icmp_ne (pc := 17) (tgt := 33) dX7_isApplied_17 (by decide) (fun o => by first | exact o.1 _ (by decide) | exact o.2 _ _ | omega) (fun o => by first | exact o.1 _ (by decide) | exact o.2 _ _ | omega) (fun c17 => ?_) (fun c17 => ?_)
    · skip
      refine zx_iconst (pc := 33) dX7_isApplied_33 ?_
      refine zx_zret (pc := 34) dX7_isApplied_34 (by omega) ?_
      refine ⟨?_, rfl⟩
      first | exact (b2i_t (by unfold mApp; omega)).symm | exact (b2i_f (by unfold mApp; omega)).symm
    · skip
      refine zx_aload_n (pc := 20) dX7_isApplied_20 rfl rfl ?_
      refine zg_X7_19 (pc := 21) dX7_isApplied_21 ?_
      refine zx_iload_n (pc := 24) dX7_isApplied_24 rfl rfl ?_
      refine zx_iaload (pc := 25) aX7_group dX7_isApplied_25 (by omega) (by omega) (by omega) ?_
      refine zx_if_ne (pc := 26) (tgt := 33) dX7_isApplied_26 (by decide) (fun o => by first | exact o.1 _ (by decide) | exact o.2 _ _ | omega) (fun c26 => ?_) (fun c26 => ?_)
      · skip
        refine zx_iconst (pc := 33) dX7_isApplied_33 ?_
        refine zx_zret (pc := 34) dX7_isApplied_34 (by omega) ?_
        refine ⟨?_, rfl⟩
        first | exact (b2i_t (by unfold mApp; omega)).symm | exact (b2i_f (by unfold mApp; omega)).symm
      · skip
        refine zx_iconst (pc := 29) dX7_isApplied_29 ?_
        refine zx_goto (pc := 30) (tgt := 34) dX7_isApplied_30 (by decide) ?_
        refine zx_zret (pc := 34) dX7_isApplied_34 (by omega) ?_
        refine ⟨?_, rfl⟩
        first | exact (b2i_t (by unfold mApp; omega)).symm | exact (b2i_f (by unfold mApp; omega)).symm
set_option maxRecDepth 100000 in
theorem L_X7_nextApplied {h : zH} (hb : MB h) {a1 : Int} (r1 : -2147483648 ≤ a1 ∧ a1 < 2147483648) (Q : Int → zH → Prop) (hQ : Q (mNA h a1) h) : ∀ (n : Nat) (i c : Int), 0 ≤ i → i ≤ gs h 1 * gs h 2 → gs h 1 * gs h 2 - i < n → c = mNAL h a1 i.toNat → zX cM zNo RX7 cX7_nextApplied 4 (some .int) rX7_nextApplied 4 [some (.ref 0), some (.int (iI a1)), some (.int (iI c)), some (.int (iI i))] [] h (zEi cM Q) := by
  have m7 := mb_size hb.1 hb.2.1 hb.2.2.1 hb.2.2.2.1
  intro n
  induction n with
  | zero => intro i c g1 g2 g3; omega
  | succ n ih =>
    intro i c g1 g2 g3 g4
    have g5 := mNAL_r h a1 i.toNat
    obtain ⟨g6, g7⟩ := toNat_next g1
    have y (z : mApp h i ∧ a1 < ga h 5 i ∧ (c = -1 ∨ ga h 5 i < ga h 5 c)) : mNAL h a1 (i + 1).toNat = i := by
      rw [g6, mNAL, g7, ← g4]
      exact ifp_t z
    have nn (z : ¬ (mApp h i ∧ a1 < ga h 5 i ∧ (c = -1 ∨ ga h 5 i < ga h 5 c))) : mNAL h a1 (i + 1).toNat = c := by
      rw [g6, mNAL, g7, ← g4]
      exact ifp_f z
    refine zx_iload_n (pc := 4) dX7_nextApplied_4 rfl rfl ?_
    refine zx_aload_n (pc := 5) dX7_nextApplied_5 rfl rfl ?_
    refine zi_X7_264 (pc := 6) dX7_nextApplied_6 (C_X7_flashSize hb) (by decide) (Nat.le_of_ble_eq_true rfl) (fun z6 h6 u6 v6 q6 => ?_)
    obtain ⟨rfl, e6⟩ := q6
    rw [e6]
    clear e6 h6
    refine zx_icmp_ge (pc := 9) (tgt := 58) dX7_nextApplied_9 (by decide) (fun o => by first | exact o.1 _ (by decide) | exact o.2 _ _ | omega) (fun o => by first | exact o.1 _ (by decide) | exact o.2 _ _ | omega) (fun c9 => ?_) (fun c9 => ?_)
    · skip
      refine zx_iload_n (pc := 58) dX7_nextApplied_58 rfl rfl ?_
      refine zx_iret (pc := 59) dX7_nextApplied_59 (fun o => by first | exact o.1 _ (by decide) | exact o.2 _ _ | omega) ?_
      have e : i = gs h 1 * gs h 2 := by omega
      rw [g4, e]
      exact hQ
    · skip
      refine zx_aload_n (pc := 12) dX7_nextApplied_12 rfl rfl ?_
      refine zx_iload_n (pc := 13) dX7_nextApplied_13 rfl rfl ?_
      refine zi_X7_392 (pc := 14) dX7_nextApplied_14 (C_X7_isApplied g1 (by omega)) (by decide) (Nat.le_of_ble_eq_true rfl) (fun z14 h14 u14 v14 q14 => ?_)
      obtain ⟨rfl, e14⟩ := q14
      rw [e14]
      clear e14 h14
      refine zx_if_eq (pc := 17) (tgt := 52) dX7_nextApplied_17 (by decide) (fun o => by first | exact o.1 _ (by decide) | exact o.2 _ _ | omega) (fun c17 => ?_) (fun c17 => ?_)
      · skip
        try replace c17 := b2i_0.mp c17
        refine zx_iinc (pc := 52) dX7_nextApplied_52 (by decide) rfl rfl ?_
        refine zx_goto (pc := 55) (tgt := 4) dX7_nextApplied_55 (by decide) ?_
        first
        | (have w2 := w
           exact ih (i + 1) _ (by omega) (by omega) (by omega) w2.symm)
        | exact ih (i + 1) _ (by omega) (by omega) (by omega) (nn (fun z => by have z1 := z.1; first | exact c17 z1 | (have z2 := z.2; omega))).symm
      · skip
        try replace c17 := b2i_n0.mp c17
        refine zx_aload_n (pc := 20) dX7_nextApplied_20 rfl rfl ?_
        refine zg_X7_22 (pc := 21) dX7_nextApplied_21 ?_
        refine zx_iload_n (pc := 24) dX7_nextApplied_24 rfl rfl ?_
        refine zx_iaload (pc := 25) aX7_version dX7_nextApplied_25 (by omega) (by omega) (by omega) ?_
        refine zx_iload_n (pc := 26) dX7_nextApplied_26 rfl rfl ?_
        refine zx_icmp_le (pc := 27) (tgt := 52) dX7_nextApplied_27 (by decide) (fun o => by first | exact o.1 _ (by decide) | exact o.2 _ _ | omega) (fun o => by first | exact o.1 _ (by decide) | exact o.2 _ _ | omega) (fun c27 => ?_) (fun c27 => ?_)
        · skip
          refine zx_iinc (pc := 52) dX7_nextApplied_52 (by decide) rfl rfl ?_
          refine zx_goto (pc := 55) (tgt := 4) dX7_nextApplied_55 (by decide) ?_
          first
          | (have w2 := w
             exact ih (i + 1) _ (by omega) (by omega) (by omega) w2.symm)
          | exact ih (i + 1) _ (by omega) (by omega) (by omega) (nn (fun z => by have z1 := z.1; first | exact c17 z1 | (have z2 := z.2; omega))).symm
        · skip
          refine zx_iload_n (pc := 30) dX7_nextApplied_30 rfl rfl ?_
          refine zx_iconst (pc := 31) dX7_nextApplied_31 ?_
          refine zx_icmp_eq (pc := 32) (tgt := 50) dX7_nextApplied_32 (by decide) (fun o => by first | exact o.1 _ (by decide) | exact o.2 _ _ | omega) (fun o => by first | exact o.1 _ (by decide) | exact o.2 _ _ | omega) (fun c32 => ?_) (fun c32 => ?_)
          · skip
            have w := y ⟨c17, c27, by omega⟩
            refine zx_iload_n (pc := 50) dX7_nextApplied_50 rfl rfl ?_
            refine zx_istore_n (pc := 51) dX7_nextApplied_51 rfl (by decide) rfl ?_
            refine zx_iinc (pc := 52) dX7_nextApplied_52 (by decide) rfl rfl ?_
            refine zx_goto (pc := 55) (tgt := 4) dX7_nextApplied_55 (by decide) ?_
            first
            | (have w2 := w
               exact ih (i + 1) _ (by omega) (by omega) (by omega) w2.symm)
            | exact ih (i + 1) _ (by omega) (by omega) (by omega) (nn (fun z => by have z1 := z.1; first | exact c17 z1 | (have z2 := z.2; omega))).symm
          · skip
            refine zx_aload_n (pc := 35) dX7_nextApplied_35 rfl rfl ?_
            refine zg_X7_22 (pc := 36) dX7_nextApplied_36 ?_
            refine zx_iload_n (pc := 39) dX7_nextApplied_39 rfl rfl ?_
            refine zx_iaload (pc := 40) aX7_version dX7_nextApplied_40 (by omega) (by omega) (by omega) ?_
            refine zx_aload_n (pc := 41) dX7_nextApplied_41 rfl rfl ?_
            refine zg_X7_22 (pc := 42) dX7_nextApplied_42 ?_
            refine zx_iload_n (pc := 45) dX7_nextApplied_45 rfl rfl ?_
            refine zx_iaload (pc := 46) aX7_version dX7_nextApplied_46 (by omega) (by omega) (by omega) ?_
            refine zx_icmp_ge (pc := 47) (tgt := 52) dX7_nextApplied_47 (by decide) (fun o => by first | exact o.1 _ (by decide) | exact o.2 _ _ | omega) (fun o => by first | exact o.1 _ (by decide) | exact o.2 _ _ | omega) (fun c47 => ?_) (fun c47 => ?_)
            · skip
              refine zx_iinc (pc := 52) dX7_nextApplied_52 (by decide) rfl rfl ?_
              refine zx_goto (pc := 55) (tgt := 4) dX7_nextApplied_55 (by decide) ?_
              first
              | (have w2 := w
                 exact ih (i + 1) _ (by omega) (by omega) (by omega) w2.symm)
              | exact ih (i + 1) _ (by omega) (by omega) (by omega) (nn (fun z => by have z1 := z.1; first | exact c17 z1 | (have z2 := z.2; omega))).symm
            · skip
              have w := y ⟨c17, c27, by omega⟩
              refine zx_iload_n (pc := 50) dX7_nextApplied_50 rfl rfl ?_
              refine zx_istore_n (pc := 51) dX7_nextApplied_51 rfl (by decide) rfl ?_
              refine zx_iinc (pc := 52) dX7_nextApplied_52 (by decide) rfl rfl ?_
              refine zx_goto (pc := 55) (tgt := 4) dX7_nextApplied_55 (by decide) ?_
              first
              | (have w2 := w
                 exact ih (i + 1) _ (by omega) (by omega) (by omega) w2.symm)
              | exact ih (i + 1) _ (by omega) (by omega) (by omega) (nn (fun z => by have z1 := z.1; first | exact c17 z1 | (have z2 := z.2; omega))).symm
set_option maxRecDepth 100000 in
theorem C_X7_nextApplied {h : zH} (hb : MB h) {a1 : Int} (r1 : -2147483648 ≤ a1 ∧ a1 < 2147483648) : kX7_nextApplied a1 h (fun r h2 => r = mNA h a1 ∧ h2 = h) := by
  have m7 := mb_size hb.1 hb.2.1 hb.2.2.1 hb.2.2.2.1
  apply eX7_nextApplied
  refine zx_iconst (pc := 0) dX7_nextApplied_0 ?_
  refine zx_istore_n (pc := 1) dX7_nextApplied_1 rfl (by decide) rfl ?_
  refine zx_iconst (pc := 2) dX7_nextApplied_2 ?_
  refine zx_istore_n (pc := 3) dX7_nextApplied_3 rfl (by decide) rfl ?_
  exact L_X7_nextApplied hb r1 (fun r h2 => r = mNA h a1 ∧ h2 = h) ⟨rfl, rfl⟩ 1025 0 _ (Int.le_refl _) m7.1 (by omega) rfl

