/-! the class: the text: what its methods make, and contracts -/
def bvx (v s : Int) : Int := (((iI v).toUInt32 >>> ((iI s).toUInt32 &&& Int32.toUInt32 31)).toInt32 &&& iI 255).toInt
def x_bt1 (h : zH) (v s : Int) : zH := ps (pa h 7 (gs h 22) (bvx v s)) 22 (gs h 22 + 1)
def x_append (h : zH) (v : Int) : zH := x_bt1 (x_bt1 (x_bt1 (x_bt1 h v 24) v 16) v 8) v 0
set_option maxRecDepth 100000 in
theorem L_X2_append {h : zH} {a1 s : Int} (s1 : 0 ≤ s) (s2 : s ≤ 24) (b1 : 0 ≤ gs h 22) (b2 : gs h 22 < 600) (E : zF) (k : zX cX zNo RX2 cX2_append 3 none rX2_append 3 [some (.ref 1), some (.int (iI a1)), some (.int (iI (s + -8)))] [] (x_bt1 h a1 s) E) : zX cX zNo RX2 cX2_append 3 none rX2_append 3 [some (.ref 1), some (.int (iI a1)), some (.int (iI s))] [] h E := by
  refine zx_iload_n (pc := 3) dX2_append_3 rfl rfl ?_
  refine zx_if_lt (pc := 4) (tgt := 49) dX2_append_4 (by decide) (fun o => by first | exact o.1 _ (by decide) | exact o.2 _ _ | omega) (fun c4 => absurd c4 (by omega)) (fun c4 => ?_)
  refine zx_aload_n (pc := 7) dX2_append_7 rfl rfl ?_
  refine zg_X2_22 (pc := 8) dX2_append_8 ?_
  refine zx_sipush (pc := 11) dX2_append_11 (by decide +kernel) ?_
  refine zx_icmp_ge (pc := 14) (tgt := 49) dX2_append_14 (by decide) (fun o => by first | exact o.1 _ (by decide) | exact o.2 _ _ | omega) (fun o => by first | exact o.1 _ (by decide) | exact o.2 _ _ | omega) (fun c14 => absurd c14 (by omega)) (fun c14 => ?_)
  refine zx_aload_n (pc := 17) dX2_append_17 rfl rfl ?_
  refine zg_X2_9 (pc := 18) dX2_append_18 ?_
  refine zx_aload_n (pc := 21) dX2_append_21 rfl rfl ?_
  refine zg_X2_22 (pc := 22) dX2_append_22 ?_
  refine zx_iload_n (pc := 25) dX2_append_25 rfl rfl ?_
  refine zx_iload_n (pc := 26) dX2_append_26 rfl rfl ?_
  refine zx_iushr (pc := 27) dX2_append_27 rfl ?_
  refine zx_sipush (pc := 28) dX2_append_28 (by decide +kernel) ?_
  refine zx_iand (pc := 31) dX2_append_31 (iI_asI _).symm ?_
  refine zx_iastore (pc := 32) aX2_bytes dX2_append_32 (by omega) (by omega) (by omega) (fun _ => zrng _) ?_
  refine zx_aload_n (pc := 33) dX2_append_33 rfl rfl ?_
  refine zx_dup (pc := 34) dX2_append_34 rfl ?_
  refine zg_X2_22 (pc := 35) dX2_append_35 ?_
  refine zx_iconst (pc := 38) dX2_append_38 ?_
  refine zx_iadd (pc := 39) dX2_append_39 ?_
  refine zp_X2_22 (pc := 40) dX2_append_40 (fun _ => by show -2147483648 ≤ gs h 22 + 1 ∧ gs h 22 + 1 < 2147483648; omega) ?_
  refine zx_iinc (pc := 43) dX2_append_43 (by decide) rfl rfl ?_
  refine zx_goto (pc := 46) (tgt := 3) dX2_append_46 (by decide) ?_
  exact k
theorem zx_xapp8 {h : zH} {a1 : Int} (k : zX cX zNo RX2 cX2_append 3 none rX2_append 3 [some (.ref 1), some (.int (iI a1)), some (.int (iI (-8)))] [] (x_append h a1) (zEv cX (fun h2 => h2 = x_append h a1))) : zX cX zNo RX2 cX2_append 3 none rX2_append 3 [some (.ref 1), some (.int (iI a1)), some (.int (iI (0 + -8)))] [] (x_bt1 (x_bt1 (x_bt1 (x_bt1 h a1 24) a1 16) a1 8) a1 0) (zEv cX (fun h2 => h2 = x_append h a1)) := k
set_option maxRecDepth 100000 in
theorem C_X2_append {h : zH} {a1 : Int} (b1 : 0 ≤ gs h 22) (b2 : gs h 22 + 4 ≤ 600) : kX2_append a1 h (fun h2 => h2 = x_append h a1) := by
  apply eX2_append
  refine zx_bipush (pc := 0) dX2_append_0 (by decide +kernel) ?_
  refine zx_istore_n (pc := 2) dX2_append_2 rfl (by decide) rfl ?_
  refine L_X2_append (by decide) (by decide) b1 (by omega) _ ?_
  refine L_X2_append (h := x_bt1 h a1 24) (s := 16) (by decide) (by decide) (by show 0 ≤ gs h 22 + 1; omega) (by show gs h 22 + 1 < 600; omega) _ ?_
  refine L_X2_append (h := x_bt1 (x_bt1 h a1 24) a1 16) (s := 8) (by decide) (by decide) (by show 0 ≤ gs h 22 + 1 + 1; omega) (by show gs h 22 + 1 + 1 < 600; omega) _ ?_
  refine L_X2_append (h := x_bt1 (x_bt1 (x_bt1 h a1 24) a1 16) a1 8) (s := 0) (by decide) (by decide) (by show 0 ≤ gs h 22 + 1 + 1 + 1; omega) (by show gs h 22 + 1 + 1 + 1 < 600; omega) _ ?_
  refine zx_xapp8 ?_
  refine zx_iload_n (pc := 3) dX2_append_3 rfl rfl ?_
  refine zx_if_lt (pc := 4) (tgt := 49) dX2_append_4 (by decide) (fun o => by first | exact o.1 _ (by decide) | exact o.2 _ _ | omega) (fun c4 => ?_) (fun c4 => absurd c4 (by decide))
  refine zx_vret (pc := 49) dX2_append_49 ?_
  rfl
theorem x_append_22 (h : zH) (v : Int) : gs (x_append h v) 22 = gs h 22 + 4 := by
  show gs h 22 + 1 + 1 + 1 + 1 = gs h 22 + 4
  omega
noncomputable def x_serr (h : zH) (a b : Int) : zH := ifp (a = 0) h (ps (ps h 23 a) 24 b)
set_option maxRecDepth 100000 in
theorem C_X2_setError {h : zH} {a1 a2 : Int} (r1 : -2147483648 ≤ a1 ∧ a1 < 2147483648) (r2 : -2147483648 ≤ a2 ∧ a2 < 2147483648) : kX2_setError a1 a2 h (fun h2 => h2 = x_serr h a1 a2) := by
  apply eX2_setError
  unfold x_serr
  refine zx_iload_n (pc := 0) dX2_setError_0 rfl rfl ?_
  refine zx_if_eq (pc := 1) (tgt := 14) dX2_setError_1 (by decide) (fun o => by first | exact o.1 _ (by decide) | exact o.2 _ _ | omega) (fun c1 => ?_) (fun c1 => ?_)
  · skip
    rw [ifp_t c1]
    refine zx_vret (pc := 14) dX2_setError_14 ?_
    rfl
  · skip
    rw [ifp_f c1]
    refine zx_aload_n (pc := 4) dX2_setError_4 rfl rfl ?_
    refine zx_iload_n (pc := 5) dX2_setError_5 rfl rfl ?_
    refine zp_X2_25 (pc := 6) dX2_setError_6 (fun o => by first | exact o.1 _ (by decide) | exact o.2 _ _ | omega) ?_
    refine zx_aload_n (pc := 9) dX2_setError_9 rfl rfl ?_
    refine zx_iload_n (pc := 10) dX2_setError_10 rfl rfl ?_
    refine zp_X2_18 (pc := 11) dX2_setError_11 (fun o => by first | exact o.1 _ (by decide) | exact o.2 _ _ | omega) ?_
    refine zx_vret (pc := 14) dX2_setError_14 ?_
    rfl
set_option maxRecDepth 100000 in
theorem C_X2_isLetter {h : zH} {a1 : Int} (r1 : -2147483648 ≤ a1 ∧ a1 < 2147483648) : kX2_isLetter a1 h (fun r h2 => r = b2i (isL a1) ∧ h2 = h) := by
  apply eX2_isLetter
  refine zx_iload_n (pc := 0) dX2_isLetter_0 rfl rfl ?_
  refine zx_bipush (pc := 1) dX2_isLetter_1 (by decide +kernel) ?_
  refine zx_icmp_lt (pc := 3) (tgt := 16) dX2_isLetter_3 (by decide) (fun o => by first | exact o.1 _ (by decide) | exact o.2 _ _ | omega) (fun o => by first | exact o.1 _ (by decide) | exact o.2 _ _ | omega) (fun c3 => ?_) (fun c3 => ?_)
  · skip
    refine zx_iconst (pc := 16) dX2_isLetter_16 ?_
    refine zx_zret (pc := 17) dX2_isLetter_17 (by omega) ?_
    refine ⟨?_, rfl⟩
    first | exact (b2i_t (by unfold isL; omega)).symm | exact (b2i_f (by unfold isL; omega)).symm
  · skip
    refine zx_iload_n (pc := 6) dX2_isLetter_6 rfl rfl ?_
    refine zx_bipush (pc := 7) dX2_isLetter_7 (by decide +kernel) ?_
    refine zx_icmp_gt (pc := 9) (tgt := 16) dX2_isLetter_9 (by decide) (fun o => by first | exact o.1 _ (by decide) | exact o.2 _ _ | omega) (fun o => by first | exact o.1 _ (by decide) | exact o.2 _ _ | omega) (fun c9 => ?_) (fun c9 => ?_)
    · skip
      refine zx_iconst (pc := 16) dX2_isLetter_16 ?_
      refine zx_zret (pc := 17) dX2_isLetter_17 (by omega) ?_
      refine ⟨?_, rfl⟩
      first | exact (b2i_t (by unfold isL; omega)).symm | exact (b2i_f (by unfold isL; omega)).symm
    · skip
      refine zx_iconst (pc := 12) dX2_isLetter_12 ?_
      refine zx_goto (pc := 13) (tgt := 17) dX2_isLetter_13 (by decide) ?_
      refine zx_zret (pc := 17) dX2_isLetter_17 (by omega) ?_
      refine ⟨?_, rfl⟩
      first | exact (b2i_t (by unfold isL; omega)).symm | exact (b2i_f (by unfold isL; omega)).symm
set_option maxRecDepth 100000 in
theorem C_X2_isDigit {h : zH} {a1 : Int} (r1 : -2147483648 ≤ a1 ∧ a1 < 2147483648) : kX2_isDigit a1 h (fun r h2 => r = b2i (isD a1) ∧ h2 = h) := by
  apply eX2_isDigit
  refine zx_iload_n (pc := 0) dX2_isDigit_0 rfl rfl ?_
  refine zx_bipush (pc := 1) dX2_isDigit_1 (by decide +kernel) ?_
  refine zx_icmp_lt (pc := 3) (tgt := 16) dX2_isDigit_3 (by decide) (fun o => by first | exact o.1 _ (by decide) | exact o.2 _ _ | omega) (fun o => by first | exact o.1 _ (by decide) | exact o.2 _ _ | omega) (fun c3 => ?_) (fun c3 => ?_)
  · skip
    refine zx_iconst (pc := 16) dX2_isDigit_16 ?_
    refine zx_zret (pc := 17) dX2_isDigit_17 (by omega) ?_
    refine ⟨?_, rfl⟩
    first | exact (b2i_t (by unfold isD; omega)).symm | exact (b2i_f (by unfold isD; omega)).symm
  · skip
    refine zx_iload_n (pc := 6) dX2_isDigit_6 rfl rfl ?_
    refine zx_bipush (pc := 7) dX2_isDigit_7 (by decide +kernel) ?_
    refine zx_icmp_gt (pc := 9) (tgt := 16) dX2_isDigit_9 (by decide) (fun o => by first | exact o.1 _ (by decide) | exact o.2 _ _ | omega) (fun o => by first | exact o.1 _ (by decide) | exact o.2 _ _ | omega) (fun c9 => ?_) (fun c9 => ?_)
    · skip
      refine zx_iconst (pc := 16) dX2_isDigit_16 ?_
      refine zx_zret (pc := 17) dX2_isDigit_17 (by omega) ?_
      refine ⟨?_, rfl⟩
      first | exact (b2i_t (by unfold isD; omega)).symm | exact (b2i_f (by unfold isD; omega)).symm
    · skip
      refine zx_iconst (pc := 12) dX2_isDigit_12 ?_
      refine zx_goto (pc := 13) (tgt := 17) dX2_isDigit_13 (by decide) ?_
      refine zx_zret (pc := 17) dX2_isDigit_17 (by omega) ?_
      refine ⟨?_, rfl⟩
      first | exact (b2i_t (by unfold isD; omega)).symm | exact (b2i_f (by unfold isD; omega)).symm
noncomputable def xRE (p : Int → Prop) (h : zH) (e : Int) : Nat → Int → Int
  | 0, k => k
  | n + 1, k => ifp (k < e ∧ p (ga h 7 k)) (xRE p h e n (k + 1)) k
theorem xRE_r {p : Int → Prop} (h : zH) (e : Int) : ∀ (n : Nat) (k : Int), k ≤ e → k ≤ xRE p h e n k ∧ xRE p h e n k ≤ e ∧ ∀ j, k ≤ j → j < xRE p h e n k → p (ga h 7 j)
  | 0, k, hk => ⟨Int.le_refl _, hk, fun j h1 h2 => absurd h2 (by rw [xRE]; omega)⟩
  | n + 1, k, hk => by
    rw [xRE]
    rcases Classical.em (k < e ∧ p (ga h 7 k)) with c | c
    · rw [ifp_t c]
      obtain ⟨q1, q2, q3⟩ := xRE_r (p := p) h e n (k + 1) (by omega)
      refine ⟨by omega, q2, fun j h1 h2 => ?_⟩
      by_cases ee : j = k
      · rw [ee]; exact c.2
      · exact q3 j (by omega) h2
    · rw [ifp_f c]
      exact ⟨Int.le_refl _, hk, fun j h1 h2 => by omega⟩
def xLD (b c : Int) : Prop := b ≠ 0 ∧ isL c ∨ b = 0 ∧ isD c
set_option maxRecDepth 100000 in
theorem L_X2_endOfRun {h : zH} {a1 a2 a3 : Int} (h2 : a2 ≤ 600) (r3 : a3 = 0 ∨ a3 = 1) (Q : Int → zH → Prop) : ∀ (n : Nat) (i : Int), 0 ≤ i → i ≤ a2 → a2 - i < n → Q (xRE (xLD a3) h a2 n i) h → zX cX zNo RX2 cX2_endOfRun 5 (some .int) rX2_endOfRun 3 [some (.ref 1), some (.int (iI a1)), some (.int (iI a2)), some (.int (iI a3)), some (.int (iI i))] [] h (zEi cX Q) := by
  intro n
  induction n with
  | zero => intro i g1 g2 g3; omega
  | succ n ih =>
    intro i g1 g2 g3 hQ
    rw [xRE] at hQ
    refine zx_ok (fun ok => ?_)
    have ye (z : i < a2 ∧ xLD a3 (ga h 7 i)) : zX cX zNo RX2 cX2_endOfRun 5 (some .int) rX2_endOfRun 3 [some (.ref 1), some (.int (iI a1)), some (.int (iI a2)), some (.int (iI a3)), some (.int (iI (i + 1)))] [] h (zEi cX Q) := by
      rw [ifp_t z] at hQ
      exact ih (i + 1) (by omega) (by omega) (by omega) hQ
    have no (z : ¬ (i < a2 ∧ xLD a3 (ga h 7 i))) : Q i h := by
      rw [ifp_f z] at hQ
      exact hQ
    refine zx_iload (pc := 3) dX2_endOfRun_3 rfl ?_
    refine zx_iload_n (pc := 5) dX2_endOfRun_5 rfl rfl ?_
    refine zx_icmp_ge (pc := 6) (tgt := 48) dX2_endOfRun_6 (by decide) (fun o => by first | exact o.1 _ (by decide) | exact o.2 _ _ | omega) (fun o => by first | exact o.1 _ (by decide) | exact o.2 _ _ | omega) (fun c6 => ?_) (fun c6 => ?_)
    · skip
      refine zx_iload (pc := 48) dX2_endOfRun_48 rfl ?_
      refine zx_iret (pc := 50) dX2_endOfRun_50 (fun o => by first | exact o.1 _ (by decide) | exact o.2 _ _ | omega) ?_
      refine no (fun z => ?_)
      have z1 := z.1
      have z2 := z.2
      unfold xLD at z2
      first
      | omega
      | (rcases z2 with z2 | z2
         · exact c23 z2.2
         · omega)
      | (rcases z2 with z2 | z2
         · omega
         · exact c39 z2.2)
    · skip
      refine zx_iload_n (pc := 9) dX2_endOfRun_9 rfl rfl ?_
      refine zx_if_eq (pc := 10) (tgt := 29) dX2_endOfRun_10 (by decide) (fun o => by first | exact o.1 _ (by decide) | exact o.2 _ _ | omega) (fun c10 => ?_) (fun c10 => ?_)
      · skip
        refine zx_aload_n (pc := 29) dX2_endOfRun_29 rfl rfl ?_
        refine zg_X2_9 (pc := 30) dX2_endOfRun_30 ?_
        refine zx_iload (pc := 33) dX2_endOfRun_33 rfl ?_
        refine zx_iaload (pc := 35) aX2_bytes dX2_endOfRun_35 (by omega) (by omega) (by omega) ?_
        refine zi_X2_38 (pc := 36) dX2_endOfRun_36 (C_X2_isDigit (ok.2 7 i)) (by decide) (Nat.le_of_ble_eq_true rfl) (fun z36 h36 u36 v36 q36 => ?_)
        obtain ⟨rfl, e36⟩ := q36
        rw [e36]
        clear e36 h36
        refine zx_if_eq (pc := 39) (tgt := 48) dX2_endOfRun_39 (by decide) (fun o => by first | exact o.1 _ (by decide) | exact o.2 _ _ | omega) (fun c39 => ?_) (fun c39 => ?_)
        · skip
          try replace c39 := b2i_0.mp c39
          refine zx_iload (pc := 48) dX2_endOfRun_48 rfl ?_
          refine zx_iret (pc := 50) dX2_endOfRun_50 (fun o => by first | exact o.1 _ (by decide) | exact o.2 _ _ | omega) ?_
          refine no (fun z => ?_)
          have z1 := z.1
          have z2 := z.2
          unfold xLD at z2
          first
          | omega
          | (rcases z2 with z2 | z2
             · exact c23 z2.2
             · omega)
          | (rcases z2 with z2 | z2
             · omega
             · exact c39 z2.2)
        · skip
          try replace c39 := b2i_n0.mp c39
          refine zx_iinc (pc := 42) dX2_endOfRun_42 (by decide) rfl rfl ?_
          refine zx_goto (pc := 45) (tgt := 3) dX2_endOfRun_45 (by decide) ?_
          exact ye ⟨by omega, by unfold xLD; first | exact Or.inl ⟨by omega, c23⟩ | exact Or.inr ⟨by omega, c39⟩⟩
      · skip
        refine zx_aload_n (pc := 13) dX2_endOfRun_13 rfl rfl ?_
        refine zg_X2_9 (pc := 14) dX2_endOfRun_14 ?_
        refine zx_iload (pc := 17) dX2_endOfRun_17 rfl ?_
        refine zx_iaload (pc := 19) aX2_bytes dX2_endOfRun_19 (by omega) (by omega) (by omega) ?_
        refine zi_X2_34 (pc := 20) dX2_endOfRun_20 (C_X2_isLetter (ok.2 7 i)) (by decide) (Nat.le_of_ble_eq_true rfl) (fun z20 h20 u20 v20 q20 => ?_)
        obtain ⟨rfl, e20⟩ := q20
        rw [e20]
        clear e20 h20
        refine zx_if_eq (pc := 23) (tgt := 48) dX2_endOfRun_23 (by decide) (fun o => by first | exact o.1 _ (by decide) | exact o.2 _ _ | omega) (fun c23 => ?_) (fun c23 => ?_)
        · skip
          try replace c23 := b2i_0.mp c23
          refine zx_iload (pc := 48) dX2_endOfRun_48 rfl ?_
          refine zx_iret (pc := 50) dX2_endOfRun_50 (fun o => by first | exact o.1 _ (by decide) | exact o.2 _ _ | omega) ?_
          refine no (fun z => ?_)
          have z1 := z.1
          have z2 := z.2
          unfold xLD at z2
          first
          | omega
          | (rcases z2 with z2 | z2
             · exact c23 z2.2
             · omega)
          | (rcases z2 with z2 | z2
             · omega
             · exact c39 z2.2)
        · skip
          try replace c23 := b2i_n0.mp c23
          refine zx_goto (pc := 26) (tgt := 42) dX2_endOfRun_26 (by decide) ?_
          refine zx_iinc (pc := 42) dX2_endOfRun_42 (by decide) rfl rfl ?_
          refine zx_goto (pc := 45) (tgt := 3) dX2_endOfRun_45 (by decide) ?_
          exact ye ⟨by omega, by unfold xLD; first | exact Or.inl ⟨by omega, c23⟩ | exact Or.inr ⟨by omega, c39⟩⟩
set_option maxRecDepth 100000 in
theorem C_X2_endOfRun {h : zH} {a1 a2 a3 : Int} (h1 : 0 ≤ a1) (h12 : a1 ≤ a2) (h2 : a2 ≤ 600) (r3 : a3 = 0 ∨ a3 = 1) : kX2_endOfRun a1 a2 a3 h (fun r h2 => r = xRE (xLD a3) h a2 601 a1 ∧ h2 = h) := by
  apply eX2_endOfRun
  refine zx_iload_n (pc := 0) dX2_endOfRun_0 rfl rfl ?_
  refine zx_istore (pc := 1) dX2_endOfRun_1 (by decide) rfl ?_
  exact L_X2_endOfRun h2 r3 (fun r h3 => r = xRE (xLD a3) h a2 601 a1 ∧ h3 = h) 601 a1 h1 h12 (by omega) ⟨rfl, rfl⟩
noncomputable def x_semi (h : zH) : zH × Int := ifp (gs h 30 = 8 ∨ gs h 30 = 11) (ps h 30 9, 0) (h, 1)
set_option maxRecDepth 100000 in
theorem C_X2_takeSemicolon {h : zH} : kX2_takeSemicolon h (fun r h2 => r = (x_semi h).2 ∧ h2 = (x_semi h).1) := by
  apply eX2_takeSemicolon
  unfold x_semi
  refine zx_aload_n (pc := 0) dX2_takeSemicolon_0 rfl rfl ?_
  refine zg_X2_31 (pc := 1) dX2_takeSemicolon_1 ?_
  refine zx_bipush (pc := 4) dX2_takeSemicolon_4 (by decide +kernel) ?_
  refine zx_icmp_eq (pc := 6) (tgt := 20) dX2_takeSemicolon_6 (by decide) (fun o => by first | exact o.1 _ (by decide) | exact o.2 _ _ | omega) (fun o => by first | exact o.1 _ (by decide) | exact o.2 _ _ | omega) (fun c6 => ?_) (fun c6 => ?_)
  · skip
    refine zx_aload_n (pc := 20) dX2_takeSemicolon_20 rfl rfl ?_
    refine zx_bipush (pc := 21) dX2_takeSemicolon_21 (by decide +kernel) ?_
    refine zp_X2_31 (pc := 23) dX2_takeSemicolon_23 (fun o => by first | exact o.1 _ (by decide) | exact o.2 _ _ | omega) ?_
    refine zx_iconst (pc := 26) dX2_takeSemicolon_26 ?_
    refine zx_iret (pc := 27) dX2_takeSemicolon_27 (fun o => by first | exact o.1 _ (by decide) | exact o.2 _ _ | omega) ?_
    rw [ifp_t (by omega)]
    exact ⟨rfl, rfl⟩
  · skip
    refine zx_aload_n (pc := 9) dX2_takeSemicolon_9 rfl rfl ?_
    refine zg_X2_31 (pc := 10) dX2_takeSemicolon_10 ?_
    refine zx_bipush (pc := 13) dX2_takeSemicolon_13 (by decide +kernel) ?_
    refine zx_icmp_eq (pc := 15) (tgt := 20) dX2_takeSemicolon_15 (by decide) (fun o => by first | exact o.1 _ (by decide) | exact o.2 _ _ | omega) (fun o => by first | exact o.1 _ (by decide) | exact o.2 _ _ | omega) (fun c15 => ?_) (fun c15 => ?_)
    · skip
      refine zx_aload_n (pc := 20) dX2_takeSemicolon_20 rfl rfl ?_
      refine zx_bipush (pc := 21) dX2_takeSemicolon_21 (by decide +kernel) ?_
      refine zp_X2_31 (pc := 23) dX2_takeSemicolon_23 (fun o => by first | exact o.1 _ (by decide) | exact o.2 _ _ | omega) ?_
      refine zx_iconst (pc := 26) dX2_takeSemicolon_26 ?_
      refine zx_iret (pc := 27) dX2_takeSemicolon_27 (fun o => by first | exact o.1 _ (by decide) | exact o.2 _ _ | omega) ?_
      rw [ifp_t (by omega)]
      exact ⟨rfl, rfl⟩
    · skip
      refine zx_iconst (pc := 18) dX2_takeSemicolon_18 ?_
      refine zx_iret (pc := 19) dX2_takeSemicolon_19 (fun o => by first | exact o.1 _ (by decide) | exact o.2 _ _ | omega) ?_
      rw [ifp_f (by omega)]
      exact ⟨rfl, rfl⟩
noncomputable def x_son (h : zH) (p : Int) : zH × Int := ifp (p = 0) (h, 2) (ps h 30 (gs h 30 + 1), 0)
set_option maxRecDepth 100000 in
theorem C_X2_stepOnIf {h : zH} {a1 : Int} (r1 : a1 = 0 ∨ a1 = 1) (r2 : 0 ≤ gs h 30 ∧ gs h 30 ≤ 100) : kX2_stepOnIf a1 h (fun r h2 => r = (x_son h a1).2 ∧ h2 = (x_son h a1).1) := by
  apply eX2_stepOnIf
  unfold x_son
  refine zx_iload_n (pc := 0) dX2_stepOnIf_0 rfl rfl ?_
  refine zx_if_ne (pc := 1) (tgt := 6) dX2_stepOnIf_1 (by decide) (fun o => by first | exact o.1 _ (by decide) | exact o.2 _ _ | omega) (fun c1 => ?_) (fun c1 => ?_)
  · skip
    rw [ifp_f c1]
    refine zx_aload_n (pc := 6) dX2_stepOnIf_6 rfl rfl ?_
    refine zx_dup (pc := 7) dX2_stepOnIf_7 rfl ?_
    refine zg_X2_31 (pc := 8) dX2_stepOnIf_8 ?_
    refine zx_iconst (pc := 11) dX2_stepOnIf_11 ?_
    refine zx_iadd (pc := 12) dX2_stepOnIf_12 ?_
    refine zp_X2_31 (pc := 13) dX2_stepOnIf_13 (fun o => by first | exact o.1 _ (by decide) | exact o.2 _ _ | omega) ?_
    refine zx_iconst (pc := 16) dX2_stepOnIf_16 ?_
    refine zx_iret (pc := 17) dX2_stepOnIf_17 (fun o => by first | exact o.1 _ (by decide) | exact o.2 _ _ | omega) ?_
    exact ⟨rfl, rfl⟩
  · skip
    rw [ifp_t c1]
    refine zx_iconst (pc := 4) dX2_stepOnIf_4 ?_
    refine zx_iret (pc := 5) dX2_stepOnIf_5 (fun o => by first | exact o.1 _ (by decide) | exact o.2 _ _ | omega) ?_
    exact ⟨rfl, rfl⟩
def xFits (h : zH) (v : Int) : Prop := v + 2 * ((v + 7) / 8 + 1) + 1 ≤ (gs h 25 - 2) * gs h 26
set_option maxRecDepth 100000 in
theorem C_X2_hasSpaceFor {h : zH} (b5 : 0 ≤ gs h 25 ∧ gs h 25 ≤ 32) (b6 : 0 ≤ gs h 26 ∧ gs h 26 ≤ 32) {a1 : Int} (r1 : 0 ≤ a1) (r2 : a1 ≤ 64) : kX2_hasSpaceFor a1 h (fun r h2 => r = b2i (xFits h a1) ∧ h2 = h) := by
  have m := mb_size b5.1 b5.2 b6.1 b6.2
  have mm : (gs h 25 - 2) * gs h 26 = gs h 25 * gs h 26 - 2 * gs h 26 := Int.sub_mul _ _ _
  have e : (a1 + 8 - 1) / 8 = (a1 + 7) / 8 := by omega
  apply eX2_hasSpaceFor
  refine zx_iload_n (pc := 0) dX2_hasSpaceFor_0 rfl rfl ?_
  refine zx_bipush (pc := 1) dX2_hasSpaceFor_1 (by decide +kernel) ?_
  refine zx_iadd (pc := 3) dX2_hasSpaceFor_3 ?_
  refine zx_iconst (pc := 4) dX2_hasSpaceFor_4 ?_
  refine zx_isub (pc := 5) dX2_hasSpaceFor_5 ?_
  refine zx_bipush (pc := 6) dX2_hasSpaceFor_6 (by decide +kernel) ?_
  refine zx_idiv (pc := 8) dX2_hasSpaceFor_8 (by omega) (by omega) (by omega) (by omega) ?_
  refine zx_istore_n (pc := 9) dX2_hasSpaceFor_9 rfl (by decide) rfl ?_
  refine zx_aload_n (pc := 10) dX2_hasSpaceFor_10 rfl rfl ?_
  refine zg_X2_92 (pc := 11) dX2_hasSpaceFor_11 ?_
  refine zx_iconst (pc := 14) dX2_hasSpaceFor_14 ?_
  refine zx_isub (pc := 15) dX2_hasSpaceFor_15 ?_
  refine zx_aload_n (pc := 16) dX2_hasSpaceFor_16 rfl rfl ?_
  refine zg_X2_99 (pc := 17) dX2_hasSpaceFor_17 ?_
  refine zx_imul (pc := 20) dX2_hasSpaceFor_20 ?_
  refine zx_iload_n (pc := 21) dX2_hasSpaceFor_21 rfl rfl ?_
  refine zx_iconst (pc := 22) dX2_hasSpaceFor_22 ?_
  refine zx_iload_n (pc := 23) dX2_hasSpaceFor_23 rfl rfl ?_
  refine zx_iconst (pc := 24) dX2_hasSpaceFor_24 ?_
  refine zx_iadd (pc := 25) dX2_hasSpaceFor_25 ?_
  refine zx_imul (pc := 26) dX2_hasSpaceFor_26 ?_
  refine zx_iadd (pc := 27) dX2_hasSpaceFor_27 ?_
  refine zx_iconst (pc := 28) dX2_hasSpaceFor_28 ?_
  refine zx_iadd (pc := 29) dX2_hasSpaceFor_29 ?_
  refine zx_icmp_lt (pc := 30) (tgt := 37) dX2_hasSpaceFor_30 (by decide) (fun _ => by omega) (fun _ => by omega) (fun c30 => ?_) (fun c30 => ?_)
  · skip
    refine zx_iconst (pc := 37) dX2_hasSpaceFor_37 ?_
    refine zx_zret (pc := 38) dX2_hasSpaceFor_38 (by omega) ?_
    refine ⟨?_, rfl⟩
    first | exact (b2i_t (by unfold xFits; omega)).symm | exact (b2i_f (by unfold xFits; omega)).symm
  · skip
    refine zx_iconst (pc := 33) dX2_hasSpaceFor_33 ?_
    refine zx_goto (pc := 34) (tgt := 38) dX2_hasSpaceFor_34 (by decide) ?_
    refine zx_zret (pc := 38) dX2_hasSpaceFor_38 (by omega) ?_
    refine ⟨?_, rfl⟩
    first | exact (b2i_t (by unfold xFits; omega)).symm | exact (b2i_f (by unfold xFits; omega)).symm
noncomputable def x_tval (h : zH) (v : Int) : zH × Int := ifp (gs h 27 ≤ gs h 29 ∨ 64 ≤ gs h 29) (h, 3) (ps (ps (pa h 8 (gs h 29) v) 29 (gs h 29 + 1)) 30 11, 0)
set_option maxRecDepth 100000 in
theorem C_X2_takeValue {h : zH} (b9 : 0 ≤ gs h 29) {a1 : Int} (r1 : -2147483648 ≤ a1 ∧ a1 < 2147483648) : kX2_takeValue a1 h (fun r h2 => r = (x_tval h a1).2 ∧ h2 = (x_tval h a1).1) := by
  apply eX2_takeValue
  unfold x_tval
  refine zx_aload_n (pc := 0) dX2_takeValue_0 rfl rfl ?_
  refine zg_X2_28 (pc := 1) dX2_takeValue_1 ?_
  refine zx_aload_n (pc := 4) dX2_takeValue_4 rfl rfl ?_
  refine zg_X2_102 (pc := 5) dX2_takeValue_5 ?_
  refine zx_icmp_ge (pc := 8) (tgt := 20) dX2_takeValue_8 (by decide) (fun o => by first | exact o.1 _ (by decide) | exact o.2 _ _ | omega) (fun o => by first | exact o.1 _ (by decide) | exact o.2 _ _ | omega) (fun c8 => ?_) (fun c8 => ?_)
  · skip
    refine zx_iconst (pc := 20) dX2_takeValue_20 ?_
    refine zx_iret (pc := 21) dX2_takeValue_21 (fun o => by first | exact o.1 _ (by decide) | exact o.2 _ _ | omega) ?_
    rw [ifp_t (by omega)]
    exact ⟨rfl, rfl⟩
  · skip
    refine zx_aload_n (pc := 11) dX2_takeValue_11 rfl rfl ?_
    refine zg_X2_28 (pc := 12) dX2_takeValue_12 ?_
    refine zx_bipush (pc := 15) dX2_takeValue_15 (by decide +kernel) ?_
    refine zx_icmp_lt (pc := 17) (tgt := 22) dX2_takeValue_17 (by decide) (fun o => by first | exact o.1 _ (by decide) | exact o.2 _ _ | omega) (fun o => by first | exact o.1 _ (by decide) | exact o.2 _ _ | omega) (fun c17 => ?_) (fun c17 => ?_)
    · skip
      refine zx_aload_n (pc := 22) dX2_takeValue_22 rfl rfl ?_
      refine zg_X2_15 (pc := 23) dX2_takeValue_23 ?_
      refine zx_aload_n (pc := 26) dX2_takeValue_26 rfl rfl ?_
      refine zg_X2_28 (pc := 27) dX2_takeValue_27 ?_
      refine zx_iload_n (pc := 30) dX2_takeValue_30 rfl rfl ?_
      refine zx_iastore (pc := 31) aX2_values dX2_takeValue_31 (by omega) (by omega) (by omega) (fun _ => r1) ?_
      refine zx_aload_n (pc := 32) dX2_takeValue_32 rfl rfl ?_
      refine zx_dup (pc := 33) dX2_takeValue_33 rfl ?_
      refine zg_X2_28 (pc := 34) dX2_takeValue_34 ?_
      refine zx_iconst (pc := 37) dX2_takeValue_37 ?_
      refine zx_iadd (pc := 38) dX2_takeValue_38 ?_
      refine zp_X2_28 (pc := 39) dX2_takeValue_39 (fun _ => by show -2147483648 ≤ gs h 29 + 1 ∧ gs h 29 + 1 < 2147483648; omega) ?_
      refine zx_aload_n (pc := 42) dX2_takeValue_42 rfl rfl ?_
      refine zx_bipush (pc := 43) dX2_takeValue_43 (by decide +kernel) ?_
      refine zp_X2_31 (pc := 45) dX2_takeValue_45 (fun _ => by decide) ?_
      refine zx_iconst (pc := 48) dX2_takeValue_48 ?_
      refine zx_iret (pc := 49) dX2_takeValue_49 (fun o => by first | exact o.1 _ (by decide) | exact o.2 _ _ | omega) ?_
      rw [ifp_f (by omega)]
      exact ⟨rfl, rfl⟩
    · skip
      refine zx_iconst (pc := 20) dX2_takeValue_20 ?_
      refine zx_iret (pc := 21) dX2_takeValue_21 (fun o => by first | exact o.1 _ (by decide) | exact o.2 _ _ | omega) ?_
      rw [ifp_t (by omega)]
      exact ⟨rfl, rfl⟩
noncomputable def xNum (h : zH) (s : Int) : Nat → Int
  | 0 => 0
  | n + 1 => xNum h s n * 10 + (ga h 7 (s + n) - 48)
theorem xNum_r (h : zH) (s : Int) : ∀ n : Nat, (∀ j, s ≤ j → j < s + n → isD (ga h 7 j)) → 0 ≤ xNum h s n ∧ xNum h s n < 10 ^ n
  | 0, _ => by rw [xNum]; decide
  | n + 1, hl => by
    have q := xNum_r h s n (fun j h1 h2 => hl j h1 (by omega))
    have b := hl (s + n) (by omega) (by omega)
    unfold isD at b
    have e : (10 : Int) ^ (n + 1) = 10 * 10 ^ n := by rw [Int.pow_succ]; omega
    have pp : (0 : Int) < 10 ^ n := Int.pow_pos (by decide)
    rw [xNum]
    omega
theorem xNum_b (h : zH) (s : Int) (n : Nat) (hn : n ≤ 6) (hl : ∀ j, s ≤ j → j < s + n → isD (ga h 7 j)) : 0 ≤ xNum h s n ∧ xNum h s n < 1000000 := by
  have q := xNum_r h s n hl
  have r := Nat.pow_le_pow_right (n := 10) (by decide) hn
  have e1 : ((10 ^ n : Nat) : Int) = 10 ^ n := by simp
  have e2 : ((10 ^ 6 : Nat) : Int) = 10 ^ 6 := by simp
  have e3 : (10 : Int) ^ 6 = 1000000 := by decide
  omega
/-- what a number at a step leads to -/
noncomputable def x_tn2 (h : zH) (v : Int) : zH × Int :=
  ifp (gs h 30 = 1) (x_son (ps h 25 v) (b2i (4 ≤ v ∧ v ≤ 32)))
  (ifp (gs h 30 = 3) (x_son (ps h 26 v) (b2i (2 ≤ v ∧ v ≤ 32)))
  (ifp (gs h 30 = 5) (x_son (ps h 27 v) (b2i ((1 ≤ v ∧ v ≤ 64) ∧ xFits (ps h 27 v) v)))
  (ifp (gs h 30 = 7) (x_son (ps h 28 v) (b2i (1 ≤ v ∧ v ≤ 50)))
  (ifp (gs h 30 = 10 ∨ gs h 30 = 11) (x_tval h v) (h, 1)))))
noncomputable def x_tnum (h : zH) (s e : Int) : zH × Int := ifp (6 < e - s) (h, 1) (x_tn2 h (xNum h s (e - s).toNat))
/-- what the text's fields keep to -/
def XP (h : zH) : Prop := (0 ≤ gs h 30 ∧ gs h 30 ≤ 11) ∧ (0 ≤ gs h 29 ∧ gs h 29 ≤ 64) ∧ (2 ≤ gs h 30 → 4 ≤ gs h 25 ∧ gs h 25 ≤ 32) ∧ (4 ≤ gs h 30 → 2 ≤ gs h 26 ∧ gs h 26 ≤ 32)
set_option maxRecDepth 100000 in
theorem L_X2_takeNumber {h : zH} {a1 a2 : Int} (h1 : 0 ≤ a1) (h2 : a2 ≤ 600) (h3 : a2 - a1 ≤ 6) (dg : ∀ j, a1 ≤ j → j < a2 → isD (ga h 7 j)) (E : zF) (k : ∀ i, zX cX zNo RX2 cX2_takeNumber 5 (some .int) rX2_takeNumber 43 [some (.ref 1), some (.int (iI a1)), some (.int (iI a2)), some (.int (iI (xNum h a1 (a2 - a1).toNat))), some (.int (iI i))] [] h E) : ∀ (n : Nat) (i : Int), a1 ≤ i → i ≤ a2 → a2 - i < n → zX cX zNo RX2 cX2_takeNumber 5 (some .int) rX2_takeNumber 15 [some (.ref 1), some (.int (iI a1)), some (.int (iI a2)), some (.int (iI (xNum h a1 (i - a1).toNat))), some (.int (iI i))] [] h E := by
  intro n
  induction n with
  | zero => intro i g1 g2 g3; omega
  | succ n ih =>
    intro i g1 g2 g3
    have e : (i + 1 - a1).toNat = (i - a1).toNat + 1 := by omega
    have e2 : a1 + ((i - a1).toNat : Int) = i := by omega
    have nx : xNum h a1 (i + 1 - a1).toNat = xNum h a1 (i - a1).toNat * 10 + (ga h 7 i - 48) := by
      rw [e, xNum, e2]
    refine zx_iload (pc := 15) dX2_takeNumber_15 rfl ?_
    refine zx_iload_n (pc := 17) dX2_takeNumber_17 rfl rfl ?_
    refine zx_icmp_ge (pc := 18) (tgt := 43) dX2_takeNumber_18 (by decide) (fun o => by first | exact o.1 _ (by decide) | exact o.2 _ _ | omega) (fun o => by first | exact o.1 _ (by decide) | exact o.2 _ _ | omega) (fun c18 => ?_) (fun c18 => ?_)
    · skip
      have e3 : i = a2 := by omega
      rw [e3]
      exact k a2
    · skip
      refine zx_iload_n (pc := 21) dX2_takeNumber_21 rfl rfl ?_
      refine zx_bipush (pc := 22) dX2_takeNumber_22 (by decide +kernel) ?_
      refine zx_imul (pc := 24) dX2_takeNumber_24 ?_
      refine zx_aload_n (pc := 25) dX2_takeNumber_25 rfl rfl ?_
      refine zg_X2_9 (pc := 26) dX2_takeNumber_26 ?_
      refine zx_iload (pc := 29) dX2_takeNumber_29 rfl ?_
      refine zx_iaload (pc := 31) aX2_bytes dX2_takeNumber_31 (by omega) (by omega) (by omega) ?_
      refine zx_bipush (pc := 32) dX2_takeNumber_32 (by decide +kernel) ?_
      refine zx_isub (pc := 34) dX2_takeNumber_34 ?_
      refine zx_iadd (pc := 35) dX2_takeNumber_35 ?_
      refine zx_istore_n (pc := 36) dX2_takeNumber_36 rfl (by decide) rfl ?_
      refine zx_iinc (pc := 37) dX2_takeNumber_37 (by decide) rfl rfl ?_
      refine zx_goto (pc := 40) (tgt := 15) dX2_takeNumber_40 (by decide) ?_
      rw [← nx]
      exact ih (i + 1) (by omega) (by omega) (by omega)

