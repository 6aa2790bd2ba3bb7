/-! the law's helpers -/
def lMw (y : MethodName) (b : ByteArray) (nL : Nat) (rm : Room) (hh : List (Nat × Nat × Nat × Nat)) (as : List Value) (hx hm : zH) (o : Nat → Int64) (Q : Int → zH → (Nat → Int64) → Prop) : Prop :=
  ∀ (l : Launch), l.stackTraces = false → ∀ (D : va_G) (cA : Nat → ClassId) (adr : Nat → Nat) (sz : Nat), vx_Met l y (.codeWith y b nL (some .int) hh :: zU) rm (va_Pc (as.map (cvv adr)) (fun U => U.heap.size = sz ∧ lB D cA adr hx hm o (fun _ => True) U ∧ zS U (va_A (lW cA adr hx hm o) sz) adr ∧ zCa U ∧ zNc U)) (lQw Q D cA adr hm (va_A (lW cA adr hx hm o) sz)) (lNx (va_A (lW cA adr hx hm o) sz)) 1 6 (va_A (lW cA adr hx hm o) sz)
theorem lMw_of {y : MethodName} {b : ByteArray} {nL : Nat} {rm : Room} {hh : List (Nat × Nat × Nat × Nat)} {as : List Value} {hx hm : zH} {o : Nat → Int64} {Q : Int → zH → (Nat → Int64) → Prop} (ls0 : List (Option Value)) (hy : plainName y.cls = true) (hln : ∀ adr : Nat → Nat, (lg_sl (as.map (cvv adr))).length ≤ nL) (hla : ∀ adr : Nat → Nat, lv_args 0 (as.map (cvv adr)) = zL adr 0 ls0)
    (k : lX lG (tableOf hh) y.cls b nL (some .int) rm 0 0 0 ls0 [] hx hm o (lEw hm Q)) : lMw y b nL rm hh as hx hm o Q := by
  intro l hl0 D cA adr sz
  refine vx_ofWH (cc := b) (maxL := nL) (ret := some .int) hy rfl ?_
  intro p e s m args below meth c s₁ B hml hv
  obtain ⟨rfl, hsz, ⟨hO, hM, hP, hK, hD0⟩, hZ, hCa, hNc⟩ := hv
  have hts := atoms_spec (ws := .codeWith y b nL (some .int) hh :: zU) B.pre
  subst hsz
  have hl := lv_entry (as.map (cvv adr)) (n := nL) (hln adr)
  rw [lg_entry_eq]
  rw [hla adr] at hl
  exact k p l e s m _ below meth c D cA adr _ s.heap [] _ ⟨B.exec, B.bytes, B.returns, hml, findClass_of_methodNamed B.named, fun w hw => hts w (List.mem_cons_of_mem _ hw), B.notSynchronized⟩ (vx_table (x := y) B (hts _ List.mem_cons_self)) (fun q hq => Or.inr hq) ⟨hZ, hl0, hCa, hNc⟩ hO hM hK hP hD0.self va_S.rf hl
abbrev rL_feed : Room := { frames := 7, cells := 1, slots := 6, locals := 125 }
theorem hL_feed_0 : lHx (tableOf [(0, 16, 19, 13)]) RL cL_feed 8 11 nIE 1 := by
  refine ⟨(tableOf [(0, 16, 19, 13)]).take 0, (tableOf [(0, 16, 19, 13)])[0], (tableOf [(0, 16, 19, 13)]).drop 1, rfl, ?_, rfl, by decide, zk_L_13, by simp [zFc], 7, 21, Or.inl ⟨dL_feed_19, rfl⟩, by decide, dL_feed_21, dL_feed_22⟩
  intro y hy
  exact absurd hy (List.not_mem_nil)
set_option maxRecDepth 100000 in
theorem K_L_feed {a1 a2 a3 a4 a5 : Int} {hx hm : zH} {o : Nat → Int64} {Q : Int → zH → Prop} {X : String → zH → Prop} {Qw : Int → zH → (Nat → Int64) → Prop} (T : kT_feed a1 a2 a3 a4 a5 hx Q X) (hn : ∀ z h2, Q z h2 → ∀ o2 : Nat → Int64, o2 0 = lL z → Qw 0 h2 o2) (hxk : ∀ E h2, X E h2 → ∃ k : Nat, [nIE][k]? = some E ∧ Qw ((k : Int) + 1) h2 o) : lMw yL_feed cL_feed 8 rL_feed [(0, 16, 19, 13)] [.ref 0, .int (iI a1), .int (iI a2), .int (iI a3), .int (iI a4), .int (iI a5), .ref 300] hx hm o Qw := by
  refine lMw_of [some (.ref 0), some (.int (iI a1)), some (.int (iI a2)), some (.int (iI a3)), some (.int (iI a4)), some (.int (iI a5)), some (.ref 300), none] (by decide +kernel) (fun _ => Nat.le_of_ble_eq_true rfl) (fun _ => rfl) ?_
  refine lx_aload (pc := 0) dL_feed_0 rfl ?_
  refine lx_iconst (pc := 2) dL_feed_2 ?_
  refine lx_aload_n (pc := 3) dL_feed_3 rfl rfl ?_
  refine lx_iload_n (pc := 4) dL_feed_4 rfl rfl ?_
  refine lx_iload_n (pc := 5) dL_feed_5 rfl rfl ?_
  refine lx_iload_n (pc := 6) dL_feed_6 rfl rfl ?_
  refine lx_iload (pc := 7) dL_feed_7 rfl ?_
  refine lx_iload (pc := 9) dL_feed_9 rfl ?_
  refine lx_invT (pc := 11) (as := [.int (iI a1), .int (iI a2), .int (iI a3), .int (iI a4), .int (iI a5)]) (n := 5) (st := [.int (iI 0), .ref 300]) dL_feed_11 zl_L_7 zc_X6_feed ⟨rfl, by decide +kernel⟩ ⟨rfl, rfl⟩ ⟨Nat.le_of_ble_eq_true rfl, Nat.le_of_ble_eq_true rfl⟩ ⟨Nat.le_refl 1, Nat.le_refl 6⟩ T rfl (by decide) (fun E9 h9 hX => ?_) (fun z9 h9 u9 v9 q9 => ?_)
  · obtain ⟨k, hk, hq⟩ := hxk E9 h9 hX
    rcases k with _ | k
    · have e : nIE = E9 := Option.some.inj hk
      subst e
      exact ⟨1, hL_feed_0, by decide, hq⟩
    · exact absurd hk (by simp)
  skip
  refine lx_i2l (pc := 14) dL_feed_14 ⟨u9, v9⟩ ?_
  refine lx_lastore (pc := 15) dL_feed_15 (fun o2 e2 => ?_)
  refine lx_goto (pc := 16) (tgt := 23) dL_feed_16 (by decide) ?_
  refine lx_iconst (pc := 23) dL_feed_23 ?_
  exact lx_wret dL_feed_24 ⟨Nat.le_refl 1, Nat.le_refl 6⟩ (by decide) (hn _ _ q9 o2 e2)
abbrev rL_format : Room := { frames := 10, cells := 1, slots := 6, locals := 255 }
theorem hL_format_0 : lHx (tableOf [(0, 9, 12, 19), (0, 9, 15, 13)]) RL cL_format 4 4 nAE 1 := by
  refine ⟨(tableOf [(0, 9, 12, 19), (0, 9, 15, 13)]).take 0, (tableOf [(0, 9, 12, 19), (0, 9, 15, 13)])[0], (tableOf [(0, 9, 12, 19), (0, 9, 15, 13)]).drop 1, rfl, ?_, rfl, by decide, zk_L_19, by simp [zFc], 3, 13, Or.inr ⟨3, rfl, dL_format_12, rfl⟩, by decide, dL_format_13, dL_format_14⟩
  intro y hy
  exact absurd hy (List.not_mem_nil)
theorem hL_format_1 : lHx (tableOf [(0, 9, 12, 19), (0, 9, 15, 13)]) RL cL_format 4 4 nIE 2 := by
  refine ⟨(tableOf [(0, 9, 12, 19), (0, 9, 15, 13)]).take 1, (tableOf [(0, 9, 12, 19), (0, 9, 15, 13)])[1], (tableOf [(0, 9, 12, 19), (0, 9, 15, 13)]).drop 2, rfl, ?_, rfl, by decide, zk_L_13, by simp [zFc], 3, 16, Or.inr ⟨3, rfl, dL_format_15, rfl⟩, by decide, dL_format_16, dL_format_17⟩
  intro y hy
  have hy2 : y = (tableOf [(0, 9, 12, 19), (0, 9, 15, 13)])[0] := by simpa [tableOf] using hy
  have e := hy2
  exact Or.inr ⟨by rw [e]; decide, nAE, by rw [e]; exact zk_L_19, by simp⟩
set_option maxRecDepth 100000 in
theorem K_L_format {a1 : Int} {hx hm : zH} {o : Nat → Int64} {Q : Int → zH → Prop} {X : String → zH → Prop} {Qw : Int → zH → (Nat → Int64) → Prop} (T : kT_format a1 hx Q X) (hn : ∀ z h2, Q z h2 → ∀ o2 : Nat → Int64, o2 0 = lL z → Qw 0 h2 o2) (hxk : ∀ E h2, X E h2 → ∃ k : Nat, [nAE, nIE][k]? = some E ∧ Qw ((k : Int) + 1) h2 o) : lMw yL_format cL_format 4 rL_format [(0, 9, 12, 19), (0, 9, 15, 13)] [.ref 0, .int (iI a1), .ref 300] hx hm o Qw := by
  refine lMw_of [some (.ref 0), some (.int (iI a1)), some (.ref 300), none] (by decide +kernel) (fun _ => Nat.le_of_ble_eq_true rfl) (fun _ => rfl) ?_
  refine lx_aload_n (pc := 0) dL_format_0 rfl rfl ?_
  refine lx_iconst (pc := 1) dL_format_1 ?_
  refine lx_aload_n (pc := 2) dL_format_2 rfl rfl ?_
  refine lx_iload_n (pc := 3) dL_format_3 rfl rfl ?_
  refine lx_invT (pc := 4) (as := [.int (iI a1)]) (n := 1) (st := [.int (iI 0), .ref 300]) dL_format_4 zl_L_15 zc_X6_format ⟨rfl, by decide +kernel⟩ ⟨rfl, rfl⟩ ⟨Nat.le_of_ble_eq_true rfl, Nat.le_of_ble_eq_true rfl⟩ ⟨Nat.le_refl 1, Nat.le_refl 6⟩ T rfl (by decide) (fun E9 h9 hX => ?_) (fun z9 h9 u9 v9 q9 => ?_)
  · obtain ⟨k, hk, hq⟩ := hxk E9 h9 hX
    rcases k with _ | k
    · have e : nAE = E9 := Option.some.inj hk
      subst e
      exact ⟨1, hL_format_0, by decide, hq⟩
    rcases k with _ | k
    · have e : nIE = E9 := Option.some.inj hk
      subst e
      exact ⟨2, hL_format_1, by decide, hq⟩
    · exact absurd hk (by simp)
  skip
  refine lx_i2l (pc := 7) dL_format_7 ⟨u9, v9⟩ ?_
  refine lx_lastore (pc := 8) dL_format_8 (fun o2 e2 => ?_)
  refine lx_goto (pc := 9) (tgt := 18) dL_format_9 (by decide) ?_
  refine lx_iconst (pc := 18) dL_format_18 ?_
  exact lx_wret dL_format_19 ⟨Nat.le_refl 1, Nat.le_refl 6⟩ (by decide) (hn _ _ q9 o2 e2)
abbrev rL_begin : Room := { frames := 7, cells := 1, slots := 6, locals := 121 }
theorem hL_begin_0 : lHx (tableOf [(0, 8, 11, 13)]) RL cL_begin 3 3 nIE 1 := by
  refine ⟨(tableOf [(0, 8, 11, 13)]).take 0, (tableOf [(0, 8, 11, 13)])[0], (tableOf [(0, 8, 11, 13)]).drop 1, rfl, ?_, rfl, by decide, zk_L_13, by simp [zFc], 2, 12, Or.inr ⟨2, rfl, dL_begin_11, rfl⟩, by decide, dL_begin_12, dL_begin_13⟩
  intro y hy
  exact absurd hy (List.not_mem_nil)
set_option maxRecDepth 100000 in
theorem K_L_begin {hx hm : zH} {o : Nat → Int64} {Q : Int → zH → Prop} {X : String → zH → Prop} {Qw : Int → zH → (Nat → Int64) → Prop} (T : kT_begin  hx Q X) (hn : ∀ z h2, Q z h2 → ∀ o2 : Nat → Int64, o2 0 = lL z → Qw 0 h2 o2) (hxk : ∀ E h2, X E h2 → ∃ k : Nat, [nIE][k]? = some E ∧ Qw ((k : Int) + 1) h2 o) : lMw yL_begin cL_begin 3 rL_begin [(0, 8, 11, 13)] [.ref 0, .ref 300] hx hm o Qw := by
  refine lMw_of [some (.ref 0), some (.ref 300), none] (by decide +kernel) (fun _ => Nat.le_of_ble_eq_true rfl) (fun _ => rfl) ?_
  refine lx_aload_n (pc := 0) dL_begin_0 rfl rfl ?_
  refine lx_iconst (pc := 1) dL_begin_1 ?_
  refine lx_aload_n (pc := 2) dL_begin_2 rfl rfl ?_
  refine lx_invT (pc := 3) (as := []) (n := 0) (st := [.int (iI 0), .ref 300]) dL_begin_3 zl_L_21 zc_X6_begin ⟨rfl, by decide +kernel⟩ ⟨rfl, rfl⟩ ⟨Nat.le_of_ble_eq_true rfl, Nat.le_of_ble_eq_true rfl⟩ ⟨Nat.le_refl 1, Nat.le_refl 6⟩ T rfl (by decide) (fun E9 h9 hX => ?_) (fun z9 h9 u9 v9 q9 => ?_)
  · obtain ⟨k, hk, hq⟩ := hxk E9 h9 hX
    rcases k with _ | k
    · have e : nIE = E9 := Option.some.inj hk
      subst e
      exact ⟨1, hL_begin_0, by decide, hq⟩
    · exact absurd hk (by simp)
  skip
  refine lx_i2l (pc := 6) dL_begin_6 ⟨u9, v9⟩ ?_
  refine lx_lastore (pc := 7) dL_begin_7 (fun o2 e2 => ?_)
  refine lx_goto (pc := 8) (tgt := 14) dL_begin_8 (by decide) ?_
  refine lx_iconst (pc := 14) dL_begin_14 ?_
  exact lx_wret dL_begin_15 ⟨Nat.le_refl 1, Nat.le_refl 6⟩ (by decide) (hn _ _ q9 o2 e2)
abbrev rL_write : Room := { frames := 8, cells := 1, slots := 6, locals := 189 }
theorem hL_write_0 : lHx (tableOf [(0, 12, 15, 29), (0, 12, 19, 19), (0, 12, 23, 13)]) RL cL_write 6 7 nSE 1 := by
  refine ⟨(tableOf [(0, 12, 15, 29), (0, 12, 19, 19), (0, 12, 23, 13)]).take 0, (tableOf [(0, 12, 15, 29), (0, 12, 19, 19), (0, 12, 23, 13)])[0], (tableOf [(0, 12, 15, 29), (0, 12, 19, 19), (0, 12, 23, 13)]).drop 1, rfl, ?_, rfl, by decide, zk_L_29, by simp [zFc], 5, 17, Or.inl ⟨dL_write_15, rfl⟩, by decide, dL_write_17, dL_write_18⟩
  intro y hy
  exact absurd hy (List.not_mem_nil)
theorem hL_write_1 : lHx (tableOf [(0, 12, 15, 29), (0, 12, 19, 19), (0, 12, 23, 13)]) RL cL_write 6 7 nAE 2 := by
  refine ⟨(tableOf [(0, 12, 15, 29), (0, 12, 19, 19), (0, 12, 23, 13)]).take 1, (tableOf [(0, 12, 15, 29), (0, 12, 19, 19), (0, 12, 23, 13)])[1], (tableOf [(0, 12, 15, 29), (0, 12, 19, 19), (0, 12, 23, 13)]).drop 2, rfl, ?_, rfl, by decide, zk_L_19, by simp [zFc], 5, 21, Or.inl ⟨dL_write_19, rfl⟩, by decide, dL_write_21, dL_write_22⟩
  intro y hy
  have hy2 : y = (tableOf [(0, 12, 15, 29), (0, 12, 19, 19), (0, 12, 23, 13)])[0] := by simpa [tableOf] using hy
  have e := hy2
  exact Or.inr ⟨by rw [e]; decide, nSE, by rw [e]; exact zk_L_29, by simp⟩
theorem hL_write_2 : lHx (tableOf [(0, 12, 15, 29), (0, 12, 19, 19), (0, 12, 23, 13)]) RL cL_write 6 7 nIE 3 := by
  refine ⟨(tableOf [(0, 12, 15, 29), (0, 12, 19, 19), (0, 12, 23, 13)]).take 2, (tableOf [(0, 12, 15, 29), (0, 12, 19, 19), (0, 12, 23, 13)])[2], (tableOf [(0, 12, 15, 29), (0, 12, 19, 19), (0, 12, 23, 13)]).drop 3, rfl, ?_, rfl, by decide, zk_L_13, by simp [zFc], 5, 25, Or.inl ⟨dL_write_23, rfl⟩, by decide, dL_write_25, dL_write_26⟩
  intro y hy
  have hy2 : y = (tableOf [(0, 12, 15, 29), (0, 12, 19, 19), (0, 12, 23, 13)])[0] ∨ y = (tableOf [(0, 12, 15, 29), (0, 12, 19, 19), (0, 12, 23, 13)])[1] := by simpa [tableOf] using hy
  rcases hy2 with e | e
  · exact Or.inr ⟨by rw [e]; decide, nSE, by rw [e]; exact zk_L_29, by simp⟩
  · exact Or.inr ⟨by rw [e]; decide, nAE, by rw [e]; exact zk_L_19, by simp⟩
set_option maxRecDepth 100000 in
theorem K_L_write {a1 a2 a3 : Int} {hx hm : zH} {o : Nat → Int64} {Q : Int → zH → Prop} {X : String → zH → Prop} {Qw : Int → zH → (Nat → Int64) → Prop} (T : kT_write a1 a2 a3 hx Q X) (hn : ∀ z h2, Q z h2 → ∀ o2 : Nat → Int64, o2 0 = lL z → Qw 0 h2 o2) (hxk : ∀ E h2, X E h2 → ∃ k : Nat, [nSE, nAE, nIE][k]? = some E ∧ Qw ((k : Int) + 1) h2 o) : lMw yL_write cL_write 6 rL_write [(0, 12, 15, 29), (0, 12, 19, 19), (0, 12, 23, 13)] [.ref 0, .int (iI a1), .int (iI a2), .int (iI a3), .ref 300] hx hm o Qw := by
  refine lMw_of [some (.ref 0), some (.int (iI a1)), some (.int (iI a2)), some (.int (iI a3)), some (.ref 300), none] (by decide +kernel) (fun _ => Nat.le_of_ble_eq_true rfl) (fun _ => rfl) ?_
  refine lx_aload (pc := 0) dL_write_0 rfl ?_
  refine lx_iconst (pc := 2) dL_write_2 ?_
  refine lx_aload_n (pc := 3) dL_write_3 rfl rfl ?_
  refine lx_iload_n (pc := 4) dL_write_4 rfl rfl ?_
  refine lx_iload_n (pc := 5) dL_write_5 rfl rfl ?_
  refine lx_iload_n (pc := 6) dL_write_6 rfl rfl ?_
  refine lx_invT (pc := 7) (as := [.int (iI a1), .int (iI a2), .int (iI a3)]) (n := 3) (st := [.int (iI 0), .ref 300]) dL_write_7 zl_L_25 zc_X6_write ⟨rfl, by decide +kernel⟩ ⟨rfl, rfl⟩ ⟨Nat.le_of_ble_eq_true rfl, Nat.le_of_ble_eq_true rfl⟩ ⟨Nat.le_refl 1, Nat.le_refl 6⟩ T rfl (by decide) (fun E9 h9 hX => ?_) (fun z9 h9 u9 v9 q9 => ?_)
  · obtain ⟨k, hk, hq⟩ := hxk E9 h9 hX
    rcases k with _ | k
    · have e : nSE = E9 := Option.some.inj hk
      subst e
      exact ⟨1, hL_write_0, by decide, hq⟩
    rcases k with _ | k
    · have e : nAE = E9 := Option.some.inj hk
      subst e
      exact ⟨2, hL_write_1, by decide, hq⟩
    rcases k with _ | k
    · have e : nIE = E9 := Option.some.inj hk
      subst e
      exact ⟨3, hL_write_2, by decide, hq⟩
    · exact absurd hk (by simp)
  skip
  refine lx_i2l (pc := 10) dL_write_10 ⟨u9, v9⟩ ?_
  refine lx_lastore (pc := 11) dL_write_11 (fun o2 e2 => ?_)
  refine lx_goto (pc := 12) (tgt := 27) dL_write_12 (by decide) ?_
  refine lx_iconst (pc := 27) dL_write_27 ?_
  exact lx_wret dL_write_28 ⟨Nat.le_refl 1, Nat.le_refl 6⟩ (by decide) (hn _ _ q9 o2 e2)
abbrev rL_read : Room := { frames := 7, cells := 1, slots := 6, locals := 122 }
theorem hL_read_0 : lHx (tableOf [(0, 10, 13, 29), (0, 10, 17, 13)]) RL cL_read 5 5 nSE 1 := by
  refine ⟨(tableOf [(0, 10, 13, 29), (0, 10, 17, 13)]).take 0, (tableOf [(0, 10, 13, 29), (0, 10, 17, 13)])[0], (tableOf [(0, 10, 13, 29), (0, 10, 17, 13)]).drop 1, rfl, ?_, rfl, by decide, zk_L_29, by simp [zFc], 4, 15, Or.inl ⟨dL_read_13, rfl⟩, by decide, dL_read_15, dL_read_16⟩
  intro y hy
  exact absurd hy (List.not_mem_nil)
theorem hL_read_1 : lHx (tableOf [(0, 10, 13, 29), (0, 10, 17, 13)]) RL cL_read 5 5 nIE 2 := by
  refine ⟨(tableOf [(0, 10, 13, 29), (0, 10, 17, 13)]).take 1, (tableOf [(0, 10, 13, 29), (0, 10, 17, 13)])[1], (tableOf [(0, 10, 13, 29), (0, 10, 17, 13)]).drop 2, rfl, ?_, rfl, by decide, zk_L_13, by simp [zFc], 4, 19, Or.inl ⟨dL_read_17, rfl⟩, by decide, dL_read_19, dL_read_20⟩
  intro y hy
  have hy2 : y = (tableOf [(0, 10, 13, 29), (0, 10, 17, 13)])[0] := by simpa [tableOf] using hy
  have e := hy2
  exact Or.inr ⟨by rw [e]; decide, nSE, by rw [e]; exact zk_L_29, by simp⟩
set_option maxRecDepth 100000 in
theorem K_L_read {a1 a2 : Int} {hx hm : zH} {o : Nat → Int64} {Q : Int → zH → Prop} {X : String → zH → Prop} {Qw : Int → zH → (Nat → Int64) → Prop} (T : kT_read a1 a2 hx Q X) (hn : ∀ z h2, Q z h2 → ∀ o2 : Nat → Int64, o2 0 = lL z → Qw 0 h2 o2) (hxk : ∀ E h2, X E h2 → ∃ k : Nat, [nSE, nIE][k]? = some E ∧ Qw ((k : Int) + 1) h2 o) : lMw yL_read cL_read 5 rL_read [(0, 10, 13, 29), (0, 10, 17, 13)] [.ref 0, .int (iI a1), .int (iI a2), .ref 300] hx hm o Qw := by
  refine lMw_of [some (.ref 0), some (.int (iI a1)), some (.int (iI a2)), some (.ref 300), none] (by decide +kernel) (fun _ => Nat.le_of_ble_eq_true rfl) (fun _ => rfl) ?_
  refine lx_aload_n (pc := 0) dL_read_0 rfl rfl ?_
  refine lx_iconst (pc := 1) dL_read_1 ?_
  refine lx_aload_n (pc := 2) dL_read_2 rfl rfl ?_
  refine lx_iload_n (pc := 3) dL_read_3 rfl rfl ?_
  refine lx_iload_n (pc := 4) dL_read_4 rfl rfl ?_
  refine lx_invT (pc := 5) (as := [.int (iI a1), .int (iI a2)]) (n := 2) (st := [.int (iI 0), .ref 300]) dL_read_5 zl_L_31 zc_X6_read ⟨rfl, by decide +kernel⟩ ⟨rfl, rfl⟩ ⟨Nat.le_of_ble_eq_true rfl, Nat.le_of_ble_eq_true rfl⟩ ⟨Nat.le_refl 1, Nat.le_refl 6⟩ T rfl (by decide) (fun E9 h9 hX => ?_) (fun z9 h9 u9 v9 q9 => ?_)
  · obtain ⟨k, hk, hq⟩ := hxk E9 h9 hX
    rcases k with _ | k
    · have e : nSE = E9 := Option.some.inj hk
      subst e
      exact ⟨1, hL_read_0, by decide, hq⟩
    rcases k with _ | k
    · have e : nIE = E9 := Option.some.inj hk
      subst e
      exact ⟨2, hL_read_1, by decide, hq⟩
    · exact absurd hk (by simp)
  skip
  refine lx_i2l (pc := 8) dL_read_8 ⟨u9, v9⟩ ?_
  refine lx_lastore (pc := 9) dL_read_9 (fun o2 e2 => ?_)
  refine lx_goto (pc := 10) (tgt := 21) dL_read_10 (by decide) ?_
  refine lx_iconst (pc := 21) dL_read_21 ?_
  exact lx_wret dL_read_22 ⟨Nat.le_refl 1, Nat.le_refl 6⟩ (by decide) (hn _ _ q9 o2 e2)
abbrev rL_commit : Room := { frames := 8, cells := 1, slots := 6, locals := 185 }
theorem hL_commit_0 : lHx (tableOf [(0, 9, 12, 29), (0, 9, 15, 13)]) RL cL_commit 4 4 nSE 1 := by
  refine ⟨(tableOf [(0, 9, 12, 29), (0, 9, 15, 13)]).take 0, (tableOf [(0, 9, 12, 29), (0, 9, 15, 13)])[0], (tableOf [(0, 9, 12, 29), (0, 9, 15, 13)]).drop 1, rfl, ?_, rfl, by decide, zk_L_29, by simp [zFc], 3, 13, Or.inr ⟨3, rfl, dL_commit_12, rfl⟩, by decide, dL_commit_13, dL_commit_14⟩
  intro y hy
  exact absurd hy (List.not_mem_nil)
theorem hL_commit_1 : lHx (tableOf [(0, 9, 12, 29), (0, 9, 15, 13)]) RL cL_commit 4 4 nIE 2 := by
  refine ⟨(tableOf [(0, 9, 12, 29), (0, 9, 15, 13)]).take 1, (tableOf [(0, 9, 12, 29), (0, 9, 15, 13)])[1], (tableOf [(0, 9, 12, 29), (0, 9, 15, 13)]).drop 2, rfl, ?_, rfl, by decide, zk_L_13, by simp [zFc], 3, 16, Or.inr ⟨3, rfl, dL_commit_15, rfl⟩, by decide, dL_commit_16, dL_commit_17⟩
  intro y hy
  have hy2 : y = (tableOf [(0, 9, 12, 29), (0, 9, 15, 13)])[0] := by simpa [tableOf] using hy
  have e := hy2
  exact Or.inr ⟨by rw [e]; decide, nSE, by rw [e]; exact zk_L_29, by simp⟩
set_option maxRecDepth 100000 in
theorem K_L_commit {a1 : Int} {hx hm : zH} {o : Nat → Int64} {Q : Int → zH → Prop} {X : String → zH → Prop} {Qw : Int → zH → (Nat → Int64) → Prop} (T : kT_commit a1 hx Q X) (hn : ∀ z h2, Q z h2 → ∀ o2 : Nat → Int64, o2 0 = lL z → Qw 0 h2 o2) (hxk : ∀ E h2, X E h2 → ∃ k : Nat, [nSE, nIE][k]? = some E ∧ Qw ((k : Int) + 1) h2 o) : lMw yL_commit cL_commit 4 rL_commit [(0, 9, 12, 29), (0, 9, 15, 13)] [.ref 0, .int (iI a1), .ref 300] hx hm o Qw := by
  refine lMw_of [some (.ref 0), some (.int (iI a1)), some (.ref 300), none] (by decide +kernel) (fun _ => Nat.le_of_ble_eq_true rfl) (fun _ => rfl) ?_
  refine lx_aload_n (pc := 0) dL_commit_0 rfl rfl ?_
  refine lx_iconst (pc := 1) dL_commit_1 ?_
  refine lx_aload_n (pc := 2) dL_commit_2 rfl rfl ?_
  refine lx_iload_n (pc := 3) dL_commit_3 rfl rfl ?_
  refine lx_invT (pc := 4) (as := [.int (iI a1)]) (n := 1) (st := [.int (iI 0), .ref 300]) dL_commit_4 zl_L_35 zc_X6_commit ⟨rfl, by decide +kernel⟩ ⟨rfl, rfl⟩ ⟨Nat.le_of_ble_eq_true rfl, Nat.le_of_ble_eq_true rfl⟩ ⟨Nat.le_refl 1, Nat.le_refl 6⟩ T rfl (by decide) (fun E9 h9 hX => ?_) (fun z9 h9 u9 v9 q9 => ?_)
  · obtain ⟨k, hk, hq⟩ := hxk E9 h9 hX
    rcases k with _ | k
    · have e : nSE = E9 := Option.some.inj hk
      subst e
      exact ⟨1, hL_commit_0, by decide, hq⟩
    rcases k with _ | k
    · have e : nIE = E9 := Option.some.inj hk
      subst e
      exact ⟨2, hL_commit_1, by decide, hq⟩
    · exact absurd hk (by simp)
  skip
  refine lx_i2l (pc := 7) dL_commit_7 ⟨u9, v9⟩ ?_
  refine lx_lastore (pc := 8) dL_commit_8 (fun o2 e2 => ?_)
  refine lx_goto (pc := 9) (tgt := 18) dL_commit_9 (by decide) ?_
  refine lx_iconst (pc := 18) dL_commit_18 ?_
  exact lx_wret dL_commit_19 ⟨Nat.le_refl 1, Nat.le_refl 6⟩ (by decide) (hn _ _ q9 o2 e2)
abbrev rL_abort : Room := { frames := 7, cells := 1, slots := 6, locals := 122 }
theorem hL_abort_0 : lHx (tableOf [(0, 9, 12, 29), (0, 9, 15, 13)]) RL cL_abort 4 4 nSE 1 := by
  refine ⟨(tableOf [(0, 9, 12, 29), (0, 9, 15, 13)]).take 0, (tableOf [(0, 9, 12, 29), (0, 9, 15, 13)])[0], (tableOf [(0, 9, 12, 29), (0, 9, 15, 13)]).drop 1, rfl, ?_, rfl, by decide, zk_L_29, by simp [zFc], 3, 13, Or.inr ⟨3, rfl, dL_abort_12, rfl⟩, by decide, dL_abort_13, dL_abort_14⟩
  intro y hy
  exact absurd hy (List.not_mem_nil)
theorem hL_abort_1 : lHx (tableOf [(0, 9, 12, 29), (0, 9, 15, 13)]) RL cL_abort 4 4 nIE 2 := by
  refine ⟨(tableOf [(0, 9, 12, 29), (0, 9, 15, 13)]).take 1, (tableOf [(0, 9, 12, 29), (0, 9, 15, 13)])[1], (tableOf [(0, 9, 12, 29), (0, 9, 15, 13)]).drop 2, rfl, ?_, rfl, by decide, zk_L_13, by simp [zFc], 3, 16, Or.inr ⟨3, rfl, dL_abort_15, rfl⟩, by decide, dL_abort_16, dL_abort_17⟩
  intro y hy
  have hy2 : y = (tableOf [(0, 9, 12, 29), (0, 9, 15, 13)])[0] := by simpa [tableOf] using hy
  have e := hy2
  exact Or.inr ⟨by rw [e]; decide, nSE, by rw [e]; exact zk_L_29, by simp⟩
set_option maxRecDepth 100000 in
theorem K_L_abort {a1 : Int} {hx hm : zH} {o : Nat → Int64} {Q : Int → zH → Prop} {X : String → zH → Prop} {Qw : Int → zH → (Nat → Int64) → Prop} (T : kT_abort a1 hx Q X) (hn : ∀ z h2, Q z h2 → ∀ o2 : Nat → Int64, o2 0 = lL z → Qw 0 h2 o2) (hxk : ∀ E h2, X E h2 → ∃ k : Nat, [nSE, nIE][k]? = some E ∧ Qw ((k : Int) + 1) h2 o) : lMw yL_abort cL_abort 4 rL_abort [(0, 9, 12, 29), (0, 9, 15, 13)] [.ref 0, .int (iI a1), .ref 300] hx hm o Qw := by
  refine lMw_of [some (.ref 0), some (.int (iI a1)), some (.ref 300), none] (by decide +kernel) (fun _ => Nat.le_of_ble_eq_true rfl) (fun _ => rfl) ?_
  refine lx_aload_n (pc := 0) dL_abort_0 rfl rfl ?_
  refine lx_iconst (pc := 1) dL_abort_1 ?_
  refine lx_aload_n (pc := 2) dL_abort_2 rfl rfl ?_
  refine lx_iload_n (pc := 3) dL_abort_3 rfl rfl ?_
  refine lx_invT (pc := 4) (as := [.int (iI a1)]) (n := 1) (st := [.int (iI 0), .ref 300]) dL_abort_4 zl_L_38 zc_X6_abort ⟨rfl, by decide +kernel⟩ ⟨rfl, rfl⟩ ⟨Nat.le_of_ble_eq_true rfl, Nat.le_of_ble_eq_true rfl⟩ ⟨Nat.le_refl 1, Nat.le_refl 6⟩ T rfl (by decide) (fun E9 h9 hX => ?_) (fun z9 h9 u9 v9 q9 => ?_)
  · obtain ⟨k, hk, hq⟩ := hxk E9 h9 hX
    rcases k with _ | k
    · have e : nSE = E9 := Option.some.inj hk
      subst e
      exact ⟨1, hL_abort_0, by decide, hq⟩
    rcases k with _ | k
    · have e : nIE = E9 := Option.some.inj hk
      subst e
      exact ⟨2, hL_abort_1, by decide, hq⟩
    · exact absurd hk (by simp)
  skip
  refine lx_i2l (pc := 7) dL_abort_7 ⟨u9, v9⟩ ?_
  refine lx_lastore (pc := 8) dL_abort_8 (fun o2 e2 => ?_)
  refine lx_goto (pc := 9) (tgt := 18) dL_abort_9 (by decide) ?_
  refine lx_iconst (pc := 18) dL_abort_18 ?_
  exact lx_wret dL_abort_19 ⟨Nat.le_refl 1, Nat.le_refl 6⟩ (by decide) (hn _ _ q9 o2 e2)
abbrev rL_openReader : Room := { frames := 7, cells := 1, slots := 6, locals := 121 }
theorem hL_openReader_0 : lHx (tableOf [(0, 8, 11, 13)]) RL cL_openReader 3 3 nIE 1 := by
  refine ⟨(tableOf [(0, 8, 11, 13)]).take 0, (tableOf [(0, 8, 11, 13)])[0], (tableOf [(0, 8, 11, 13)]).drop 1, rfl, ?_, rfl, by decide, zk_L_13, by simp [zFc], 2, 12, Or.inr ⟨2, rfl, dL_openReader_11, rfl⟩, by decide, dL_openReader_12, dL_openReader_13⟩
  intro y hy
  exact absurd hy (List.not_mem_nil)
set_option maxRecDepth 100000 in
theorem K_L_openReader {hx hm : zH} {o : Nat → Int64} {Q : Int → zH → Prop} {X : String → zH → Prop} {Qw : Int → zH → (Nat → Int64) → Prop} (T : kT_openReader  hx Q X) (hn : ∀ z h2, Q z h2 → ∀ o2 : Nat → Int64, o2 0 = lL z → Qw 0 h2 o2) (hxk : ∀ E h2, X E h2 → ∃ k : Nat, [nIE][k]? = some E ∧ Qw ((k : Int) + 1) h2 o) : lMw yL_openReader cL_openReader 3 rL_openReader [(0, 8, 11, 13)] [.ref 0, .ref 300] hx hm o Qw := by
  refine lMw_of [some (.ref 0), some (.ref 300), none] (by decide +kernel) (fun _ => Nat.le_of_ble_eq_true rfl) (fun _ => rfl) ?_
  refine lx_aload_n (pc := 0) dL_openReader_0 rfl rfl ?_
  refine lx_iconst (pc := 1) dL_openReader_1 ?_
  refine lx_aload_n (pc := 2) dL_openReader_2 rfl rfl ?_
  refine lx_invT (pc := 3) (as := []) (n := 0) (st := [.int (iI 0), .ref 300]) dL_openReader_3 zl_L_41 zc_X6_openReader ⟨rfl, by decide +kernel⟩ ⟨rfl, rfl⟩ ⟨Nat.le_of_ble_eq_true rfl, Nat.le_of_ble_eq_true rfl⟩ ⟨Nat.le_refl 1, Nat.le_refl 6⟩ T rfl (by decide) (fun E9 h9 hX => ?_) (fun z9 h9 u9 v9 q9 => ?_)
  · obtain ⟨k, hk, hq⟩ := hxk E9 h9 hX
    rcases k with _ | k
    · have e : nIE = E9 := Option.some.inj hk
      subst e
      exact ⟨1, hL_openReader_0, by decide, hq⟩
    · exact absurd hk (by simp)
  skip
  refine lx_i2l (pc := 6) dL_openReader_6 ⟨u9, v9⟩ ?_
  refine lx_lastore (pc := 7) dL_openReader_7 (fun o2 e2 => ?_)
  refine lx_goto (pc := 8) (tgt := 14) dL_openReader_8 (by decide) ?_
  refine lx_iconst (pc := 14) dL_openReader_14 ?_
  exact lx_wret dL_openReader_15 ⟨Nat.le_refl 1, Nat.le_refl 6⟩ (by decide) (hn _ _ q9 o2 e2)
abbrev rL_readBy : Room := { frames := 7, cells := 1, slots := 6, locals := 122 }
theorem hL_readBy_0 : lHx (tableOf [(0, 10, 13, 29)]) RL cL_readBy 5 5 nSE 1 := by
  refine ⟨(tableOf [(0, 10, 13, 29)]).take 0, (tableOf [(0, 10, 13, 29)])[0], (tableOf [(0, 10, 13, 29)]).drop 1, rfl, ?_, rfl, by decide, zk_L_29, by simp [zFc], 4, 15, Or.inl ⟨dL_readBy_13, rfl⟩, by decide, dL_readBy_15, dL_readBy_16⟩
  intro y hy
  exact absurd hy (List.not_mem_nil)
set_option maxRecDepth 100000 in
theorem K_L_readBy {a1 a2 : Int} {hx hm : zH} {o : Nat → Int64} {Q : Int → zH → Prop} {X : String → zH → Prop} {Qw : Int → zH → (Nat → Int64) → Prop} (T : kT_readBy a1 a2 hx Q X) (hn : ∀ z h2, Q z h2 → ∀ o2 : Nat → Int64, o2 0 = lL z → Qw 0 h2 o2) (hxk : ∀ E h2, X E h2 → ∃ k : Nat, [nSE][k]? = some E ∧ Qw ((k : Int) + 1) h2 o) : lMw yL_readBy cL_readBy 5 rL_readBy [(0, 10, 13, 29)] [.ref 0, .int (iI a1), .int (iI a2), .ref 300] hx hm o Qw := by
  refine lMw_of [some (.ref 0), some (.int (iI a1)), some (.int (iI a2)), some (.ref 300), none] (by decide +kernel) (fun _ => Nat.le_of_ble_eq_true rfl) (fun _ => rfl) ?_
  refine lx_aload_n (pc := 0) dL_readBy_0 rfl rfl ?_
  refine lx_iconst (pc := 1) dL_readBy_1 ?_
  refine lx_aload_n (pc := 2) dL_readBy_2 rfl rfl ?_
  refine lx_iload_n (pc := 3) dL_readBy_3 rfl rfl ?_
  refine lx_iload_n (pc := 4) dL_readBy_4 rfl rfl ?_
  refine lx_invT (pc := 5) (as := [.int (iI a1), .int (iI a2)]) (n := 2) (st := [.int (iI 0), .ref 300]) dL_readBy_5 zl_L_44 zc_X6_readBy ⟨rfl, by decide +kernel⟩ ⟨rfl, rfl⟩ ⟨Nat.le_of_ble_eq_true rfl, Nat.le_of_ble_eq_true rfl⟩ ⟨Nat.le_refl 1, Nat.le_refl 6⟩ T rfl (by decide) (fun E9 h9 hX => ?_) (fun z9 h9 u9 v9 q9 => ?_)
  · obtain ⟨k, hk, hq⟩ := hxk E9 h9 hX
    rcases k with _ | k
    · have e : nSE = E9 := Option.some.inj hk
      subst e
      exact ⟨1, hL_readBy_0, by decide, hq⟩
    · exact absurd hk (by simp)
  skip
  refine lx_i2l (pc := 8) dL_readBy_8 ⟨u9, v9⟩ ?_
  refine lx_lastore (pc := 9) dL_readBy_9 (fun o2 e2 => ?_)
  refine lx_goto (pc := 10) (tgt := 17) dL_readBy_10 (by decide) ?_
  refine lx_iconst (pc := 17) dL_readBy_17 ?_
  exact lx_wret dL_readBy_18 ⟨Nat.le_refl 1, Nat.le_refl 6⟩ (by decide) (hn _ _ q9 o2 e2)
abbrev rL_closeReader : Room := { frames := 7, cells := 1, slots := 6, locals := 121 }
theorem hL_closeReader_0 : lHx (tableOf [(0, 9, 12, 29)]) RL cL_closeReader 4 4 nSE 1 := by
  refine ⟨(tableOf [(0, 9, 12, 29)]).take 0, (tableOf [(0, 9, 12, 29)])[0], (tableOf [(0, 9, 12, 29)]).drop 1, rfl, ?_, rfl, by decide, zk_L_29, by simp [zFc], 3, 13, Or.inr ⟨3, rfl, dL_closeReader_12, rfl⟩, by decide, dL_closeReader_13, dL_closeReader_14⟩
  intro y hy
  exact absurd hy (List.not_mem_nil)
set_option maxRecDepth 100000 in
theorem K_L_closeReader {a1 : Int} {hx hm : zH} {o : Nat → Int64} {Q : Int → zH → Prop} {X : String → zH → Prop} {Qw : Int → zH → (Nat → Int64) → Prop} (T : kT_closeReader a1 hx Q X) (hn : ∀ z h2, Q z h2 → ∀ o2 : Nat → Int64, o2 0 = lL z → Qw 0 h2 o2) (hxk : ∀ E h2, X E h2 → ∃ k : Nat, [nSE][k]? = some E ∧ Qw ((k : Int) + 1) h2 o) : lMw yL_closeReader cL_closeReader 4 rL_closeReader [(0, 9, 12, 29)] [.ref 0, .int (iI a1), .ref 300] hx hm o Qw := by
  refine lMw_of [some (.ref 0), some (.int (iI a1)), some (.ref 300), none] (by decide +kernel) (fun _ => Nat.le_of_ble_eq_true rfl) (fun _ => rfl) ?_
  refine lx_aload_n (pc := 0) dL_closeReader_0 rfl rfl ?_
  refine lx_iconst (pc := 1) dL_closeReader_1 ?_
  refine lx_aload_n (pc := 2) dL_closeReader_2 rfl rfl ?_
  refine lx_iload_n (pc := 3) dL_closeReader_3 rfl rfl ?_
  refine lx_invT (pc := 4) (as := [.int (iI a1)]) (n := 1) (st := [.int (iI 0), .ref 300]) dL_closeReader_4 zl_L_47 zc_X6_closeReader ⟨rfl, by decide +kernel⟩ ⟨rfl, rfl⟩ ⟨Nat.le_of_ble_eq_true rfl, Nat.le_of_ble_eq_true rfl⟩ ⟨Nat.le_refl 1, Nat.le_refl 6⟩ T rfl (by decide) (fun E9 h9 hX => ?_) (fun z9 h9 u9 v9 q9 => ?_)
  · obtain ⟨k, hk, hq⟩ := hxk E9 h9 hX
    rcases k with _ | k
    · have e : nSE = E9 := Option.some.inj hk
      subst e
      exact ⟨1, hL_closeReader_0, by decide, hq⟩
    · exact absurd hk (by simp)
  skip
  refine lx_i2l (pc := 7) dL_closeReader_7 ⟨u9, v9⟩ ?_
  refine lx_lastore (pc := 8) dL_closeReader_8 (fun o2 e2 => ?_)
  refine lx_goto (pc := 9) (tgt := 15) dL_closeReader_9 (by decide) ?_
  refine lx_iconst (pc := 15) dL_closeReader_15 ?_
  exact lx_wret dL_closeReader_16 ⟨Nat.le_refl 1, Nat.le_refl 6⟩ (by decide) (hn _ _ q9 o2 e2)
abbrev rL_checkpoint : Room := { frames := 7, cells := 1, slots := 6, locals := 161 }
theorem hL_checkpoint_0 : lHx (tableOf [(0, 8, 11, 13)]) RL cL_checkpoint 3 3 nIE 1 := by
  refine ⟨(tableOf [(0, 8, 11, 13)]).take 0, (tableOf [(0, 8, 11, 13)])[0], (tableOf [(0, 8, 11, 13)]).drop 1, rfl, ?_, rfl, by decide, zk_L_13, by simp [zFc], 2, 12, Or.inr ⟨2, rfl, dL_checkpoint_11, rfl⟩, by decide, dL_checkpoint_12, dL_checkpoint_13⟩
  intro y hy
  exact absurd hy (List.not_mem_nil)
set_option maxRecDepth 100000 in
theorem K_L_checkpoint {hx hm : zH} {o : Nat → Int64} {Q : Int → zH → Prop} {X : String → zH → Prop} {Qw : Int → zH → (Nat → Int64) → Prop} (T : kT_checkpoint  hx Q X) (hn : ∀ z h2, Q z h2 → ∀ o2 : Nat → Int64, o2 0 = lL z → Qw 0 h2 o2) (hxk : ∀ E h2, X E h2 → ∃ k : Nat, [nIE][k]? = some E ∧ Qw ((k : Int) + 1) h2 o) : lMw yL_checkpoint cL_checkpoint 3 rL_checkpoint [(0, 8, 11, 13)] [.ref 0, .ref 300] hx hm o Qw := by
  refine lMw_of [some (.ref 0), some (.ref 300), none] (by decide +kernel) (fun _ => Nat.le_of_ble_eq_true rfl) (fun _ => rfl) ?_
  refine lx_aload_n (pc := 0) dL_checkpoint_0 rfl rfl ?_
  refine lx_iconst (pc := 1) dL_checkpoint_1 ?_
  refine lx_aload_n (pc := 2) dL_checkpoint_2 rfl rfl ?_
  refine lx_invT (pc := 3) (as := []) (n := 0) (st := [.int (iI 0), .ref 300]) dL_checkpoint_3 zl_L_50 zc_X6_checkpoint ⟨rfl, by decide +kernel⟩ ⟨rfl, rfl⟩ ⟨Nat.le_of_ble_eq_true rfl, Nat.le_of_ble_eq_true rfl⟩ ⟨Nat.le_refl 1, Nat.le_refl 6⟩ T rfl (by decide) (fun E9 h9 hX => ?_) (fun z9 h9 u9 v9 q9 => ?_)
  · obtain ⟨k, hk, hq⟩ := hxk E9 h9 hX
    rcases k with _ | k
    · have e : nIE = E9 := Option.some.inj hk
      subst e
      exact ⟨1, hL_checkpoint_0, by decide, hq⟩
    · exact absurd hk (by simp)
  skip
  refine lx_i2l (pc := 6) dL_checkpoint_6 ⟨u9, v9⟩ ?_
  refine lx_lastore (pc := 7) dL_checkpoint_7 (fun o2 e2 => ?_)
  refine lx_goto (pc := 8) (tgt := 14) dL_checkpoint_8 (by decide) ?_
  refine lx_iconst (pc := 14) dL_checkpoint_14 ?_
  exact lx_wret dL_checkpoint_15 ⟨Nat.le_refl 1, Nat.le_refl 6⟩ (by decide) (hn _ _ q9 o2 e2)
abbrev rL_arm : Room := { frames := 7, cells := 1, slots := 6, locals := 122 }
theorem hL_arm_0 : lHx (tableOf [(0, 9, 12, 19)]) RL cL_arm 4 4 nAE 1 := by
  refine ⟨(tableOf [(0, 9, 12, 19)]).take 0, (tableOf [(0, 9, 12, 19)])[0], (tableOf [(0, 9, 12, 19)]).drop 1, rfl, ?_, rfl, by decide, zk_L_19, by simp [zFc], 3, 13, Or.inr ⟨3, rfl, dL_arm_12, rfl⟩, by decide, dL_arm_13, dL_arm_14⟩
  intro y hy
  exact absurd hy (List.not_mem_nil)
set_option maxRecDepth 100000 in
theorem K_L_arm {a1 : Int} {hx hm : zH} {o : Nat → Int64} {Q : Int → zH → Prop} {X : String → zH → Prop} {Qw : Int → zH → (Nat → Int64) → Prop} (T : kT_arm a1 hx Q X) (hn : ∀ z h2, Q z h2 → ∀ o2 : Nat → Int64, o2 0 = lL z → Qw 0 h2 o2) (hxk : ∀ E h2, X E h2 → ∃ k : Nat, [nAE][k]? = some E ∧ Qw ((k : Int) + 1) h2 o) : lMw yL_arm cL_arm 4 rL_arm [(0, 9, 12, 19)] [.ref 0, .int (iI a1), .ref 300] hx hm o Qw := by
  refine lMw_of [some (.ref 0), some (.int (iI a1)), some (.ref 300), none] (by decide +kernel) (fun _ => Nat.le_of_ble_eq_true rfl) (fun _ => rfl) ?_
  refine lx_aload_n (pc := 0) dL_arm_0 rfl rfl ?_
  refine lx_iconst (pc := 1) dL_arm_1 ?_
  refine lx_aload_n (pc := 2) dL_arm_2 rfl rfl ?_
  refine lx_iload_n (pc := 3) dL_arm_3 rfl rfl ?_
  refine lx_invT (pc := 4) (as := [.int (iI a1)]) (n := 1) (st := [.int (iI 0), .ref 300]) dL_arm_4 zl_L_53 zc_X6_arm ⟨rfl, by decide +kernel⟩ ⟨rfl, rfl⟩ ⟨Nat.le_of_ble_eq_true rfl, Nat.le_of_ble_eq_true rfl⟩ ⟨Nat.le_refl 1, Nat.le_refl 6⟩ T rfl (by decide) (fun E9 h9 hX => ?_) (fun z9 h9 u9 v9 q9 => ?_)
  · obtain ⟨k, hk, hq⟩ := hxk E9 h9 hX
    rcases k with _ | k
    · have e : nAE = E9 := Option.some.inj hk
      subst e
      exact ⟨1, hL_arm_0, by decide, hq⟩
    · exact absurd hk (by simp)
  skip
  refine lx_i2l (pc := 7) dL_arm_7 ⟨u9, v9⟩ ?_
  refine lx_lastore (pc := 8) dL_arm_8 (fun o2 e2 => ?_)
  refine lx_goto (pc := 9) (tgt := 15) dL_arm_9 (by decide) ?_
  refine lx_iconst (pc := 15) dL_arm_15 ?_
  exact lx_wret dL_arm_16 ⟨Nat.le_refl 1, Nat.le_refl 6⟩ (by decide) (hn _ _ q9 o2 e2)
abbrev rL_powerOff : Room := { frames := 7, cells := 1, slots := 6, locals := 120 }
theorem hL_powerOff_0 : lHx (tableOf [(0, 8, 11, 13)]) RL cL_powerOff 3 3 nIE 1 := by
  refine ⟨(tableOf [(0, 8, 11, 13)]).take 0, (tableOf [(0, 8, 11, 13)])[0], (tableOf [(0, 8, 11, 13)]).drop 1, rfl, ?_, rfl, by decide, zk_L_13, by simp [zFc], 2, 12, Or.inr ⟨2, rfl, dL_powerOff_11, rfl⟩, by decide, dL_powerOff_12, dL_powerOff_13⟩
  intro y hy
  exact absurd hy (List.not_mem_nil)
set_option maxRecDepth 100000 in
theorem K_L_powerOff {hx hm : zH} {o : Nat → Int64} {Q : Int → zH → Prop} {X : String → zH → Prop} {Qw : Int → zH → (Nat → Int64) → Prop} (T : kT_powerOff  hx Q X) (hn : ∀ z h2, Q z h2 → ∀ o2 : Nat → Int64, o2 0 = lL z → Qw 0 h2 o2) (hxk : ∀ E h2, X E h2 → ∃ k : Nat, [nIE][k]? = some E ∧ Qw ((k : Int) + 1) h2 o) : lMw yL_powerOff cL_powerOff 3 rL_powerOff [(0, 8, 11, 13)] [.ref 0, .ref 300] hx hm o Qw := by
  refine lMw_of [some (.ref 0), some (.ref 300), none] (by decide +kernel) (fun _ => Nat.le_of_ble_eq_true rfl) (fun _ => rfl) ?_
  refine lx_aload_n (pc := 0) dL_powerOff_0 rfl rfl ?_
  refine lx_iconst (pc := 1) dL_powerOff_1 ?_
  refine lx_aload_n (pc := 2) dL_powerOff_2 rfl rfl ?_
  refine lx_invT (pc := 3) (as := []) (n := 0) (st := [.int (iI 0), .ref 300]) dL_powerOff_3 zl_L_56 zc_X6_powerOff ⟨rfl, by decide +kernel⟩ ⟨rfl, rfl⟩ ⟨Nat.le_of_ble_eq_true rfl, Nat.le_of_ble_eq_true rfl⟩ ⟨Nat.le_refl 1, Nat.le_refl 6⟩ T rfl (by decide) (fun E9 h9 hX => ?_) (fun z9 h9 u9 v9 q9 => ?_)
  · obtain ⟨k, hk, hq⟩ := hxk E9 h9 hX
    rcases k with _ | k
    · have e : nIE = E9 := Option.some.inj hk
      subst e
      exact ⟨1, hL_powerOff_0, by decide, hq⟩
    · exact absurd hk (by simp)
  skip
  refine lx_i2l (pc := 6) dL_powerOff_6 ⟨u9, v9⟩ ?_
  refine lx_lastore (pc := 7) dL_powerOff_7 (fun o2 e2 => ?_)
  refine lx_goto (pc := 8) (tgt := 14) dL_powerOff_8 (by decide) ?_
  refine lx_iconst (pc := 14) dL_powerOff_14 ?_
  exact lx_wret dL_powerOff_15 ⟨Nat.le_refl 1, Nat.le_refl 6⟩ (by decide) (hn _ _ q9 o2 e2)
abbrev rL_recover : Room := { frames := 7, cells := 1, slots := 6, locals := 138 }
theorem hL_recover_0 : lHx (tableOf [(0, 8, 11, 13)]) RL cL_recover 3 3 nIE 1 := by
  refine ⟨(tableOf [(0, 8, 11, 13)]).take 0, (tableOf [(0, 8, 11, 13)])[0], (tableOf [(0, 8, 11, 13)]).drop 1, rfl, ?_, rfl, by decide, zk_L_13, by simp [zFc], 2, 12, Or.inr ⟨2, rfl, dL_recover_11, rfl⟩, by decide, dL_recover_12, dL_recover_13⟩
  intro y hy
  exact absurd hy (List.not_mem_nil)
set_option maxRecDepth 100000 in
theorem K_L_recover {hx hm : zH} {o : Nat → Int64} {Q : Int → zH → Prop} {X : String → zH → Prop} {Qw : Int → zH → (Nat → Int64) → Prop} (T : kT_recover  hx Q X) (hn : ∀ z h2, Q z h2 → ∀ o2 : Nat → Int64, o2 0 = lL z → Qw 0 h2 o2) (hxk : ∀ E h2, X E h2 → ∃ k : Nat, [nIE][k]? = some E ∧ Qw ((k : Int) + 1) h2 o) : lMw yL_recover cL_recover 3 rL_recover [(0, 8, 11, 13)] [.ref 0, .ref 300] hx hm o Qw := by
  refine lMw_of [some (.ref 0), some (.ref 300), none] (by decide +kernel) (fun _ => Nat.le_of_ble_eq_true rfl) (fun _ => rfl) ?_
  refine lx_aload_n (pc := 0) dL_recover_0 rfl rfl ?_
  refine lx_iconst (pc := 1) dL_recover_1 ?_
  refine lx_aload_n (pc := 2) dL_recover_2 rfl rfl ?_
  refine lx_invT (pc := 3) (as := []) (n := 0) (st := [.int (iI 0), .ref 300]) dL_recover_3 zl_L_59 zc_X6_recover ⟨rfl, by decide +kernel⟩ ⟨rfl, rfl⟩ ⟨Nat.le_of_ble_eq_true rfl, Nat.le_of_ble_eq_true rfl⟩ ⟨Nat.le_refl 1, Nat.le_refl 6⟩ T rfl (by decide) (fun E9 h9 hX => ?_) (fun z9 h9 u9 v9 q9 => ?_)
  · obtain ⟨k, hk, hq⟩ := hxk E9 h9 hX
    rcases k with _ | k
    · have e : nIE = E9 := Option.some.inj hk
      subst e
      exact ⟨1, hL_recover_0, by decide, hq⟩
    · exact absurd hk (by simp)
  skip
  refine lx_i2l (pc := 6) dL_recover_6 ⟨u9, v9⟩ ?_
  refine lx_lastore (pc := 7) dL_recover_7 (fun o2 e2 => ?_)
  refine lx_goto (pc := 8) (tgt := 14) dL_recover_8 (by decide) ?_
  refine lx_iconst (pc := 14) dL_recover_14 ?_
  exact lx_wret dL_recover_15 ⟨Nat.le_refl 1, Nat.le_refl 6⟩ (by decide) (hn _ _ q9 o2 e2)
abbrev rL_version : Room := { frames := 7, cells := 1, slots := 6, locals := 121 }
theorem hL_version_0 : lHx (tableOf [(0, 9, 12, 29)]) RL cL_version 4 4 nSE 1 := by
  refine ⟨(tableOf [(0, 9, 12, 29)]).take 0, (tableOf [(0, 9, 12, 29)])[0], (tableOf [(0, 9, 12, 29)]).drop 1, rfl, ?_, rfl, by decide, zk_L_29, by simp [zFc], 3, 13, Or.inr ⟨3, rfl, dL_version_12, rfl⟩, by decide, dL_version_13, dL_version_14⟩
  intro y hy
  exact absurd hy (List.not_mem_nil)
set_option maxRecDepth 100000 in
theorem K_L_version {a1 : Int} {hx hm : zH} {o : Nat → Int64} {Q : Int → zH → Prop} {X : String → zH → Prop} {Qw : Int → zH → (Nat → Int64) → Prop} (T : kT_version a1 hx Q X) (hn : ∀ z h2, Q z h2 → ∀ o2 : Nat → Int64, o2 0 = lL z → Qw 0 h2 o2) (hxk : ∀ E h2, X E h2 → ∃ k : Nat, [nSE][k]? = some E ∧ Qw ((k : Int) + 1) h2 o) : lMw yL_version cL_version 4 rL_version [(0, 9, 12, 29)] [.ref 0, .int (iI a1), .ref 300] hx hm o Qw := by
  refine lMw_of [some (.ref 0), some (.int (iI a1)), some (.ref 300), none] (by decide +kernel) (fun _ => Nat.le_of_ble_eq_true rfl) (fun _ => rfl) ?_
  refine lx_aload_n (pc := 0) dL_version_0 rfl rfl ?_
  refine lx_iconst (pc := 1) dL_version_1 ?_
  refine lx_aload_n (pc := 2) dL_version_2 rfl rfl ?_
  refine lx_iload_n (pc := 3) dL_version_3 rfl rfl ?_
  refine lx_invT (pc := 4) (as := [.int (iI a1)]) (n := 1) (st := [.int (iI 0), .ref 300]) dL_version_4 zl_L_62 zc_X6_version ⟨rfl, by decide +kernel⟩ ⟨rfl, rfl⟩ ⟨Nat.le_of_ble_eq_true rfl, Nat.le_of_ble_eq_true rfl⟩ ⟨Nat.le_refl 1, Nat.le_refl 6⟩ T rfl (by decide) (fun E9 h9 hX => ?_) (fun z9 h9 u9 v9 q9 => ?_)
  · obtain ⟨k, hk, hq⟩ := hxk E9 h9 hX
    rcases k with _ | k
    · have e : nSE = E9 := Option.some.inj hk
      subst e
      exact ⟨1, hL_version_0, by decide, hq⟩
    · exact absurd hk (by simp)
  skip
  refine lx_i2l (pc := 7) dL_version_7 ⟨u9, v9⟩ ?_
  refine lx_lastore (pc := 8) dL_version_8 (fun o2 e2 => ?_)
  refine lx_goto (pc := 9) (tgt := 15) dL_version_9 (by decide) ?_
  refine lx_iconst (pc := 15) dL_version_15 ?_
  exact lx_wret dL_version_16 ⟨Nat.le_refl 1, Nat.le_refl 6⟩ (by decide) (hn _ _ q9 o2 e2)
abbrev rL_place : Room := { frames := 7, cells := 1, slots := 6, locals := 121 }
theorem hL_place_0 : lHx (tableOf [(0, 9, 12, 29)]) RL cL_place 4 4 nSE 1 := by
  refine ⟨(tableOf [(0, 9, 12, 29)]).take 0, (tableOf [(0, 9, 12, 29)])[0], (tableOf [(0, 9, 12, 29)]).drop 1, rfl, ?_, rfl, by decide, zk_L_29, by simp [zFc], 3, 13, Or.inr ⟨3, rfl, dL_place_12, rfl⟩, by decide, dL_place_13, dL_place_14⟩
  intro y hy
  exact absurd hy (List.not_mem_nil)
set_option maxRecDepth 100000 in
theorem K_L_place {a1 : Int} {hx hm : zH} {o : Nat → Int64} {Q : Int → zH → Prop} {X : String → zH → Prop} {Qw : Int → zH → (Nat → Int64) → Prop} (T : kT_place a1 hx Q X) (hn : ∀ z h2, Q z h2 → ∀ o2 : Nat → Int64, o2 0 = lL z → Qw 0 h2 o2) (hxk : ∀ E h2, X E h2 → ∃ k : Nat, [nSE][k]? = some E ∧ Qw ((k : Int) + 1) h2 o) : lMw yL_place cL_place 4 rL_place [(0, 9, 12, 29)] [.ref 0, .int (iI a1), .ref 300] hx hm o Qw := by
  refine lMw_of [some (.ref 0), some (.int (iI a1)), some (.ref 300), none] (by decide +kernel) (fun _ => Nat.le_of_ble_eq_true rfl) (fun _ => rfl) ?_
  refine lx_aload_n (pc := 0) dL_place_0 rfl rfl ?_
  refine lx_iconst (pc := 1) dL_place_1 ?_
  refine lx_aload_n (pc := 2) dL_place_2 rfl rfl ?_
  refine lx_iload_n (pc := 3) dL_place_3 rfl rfl ?_
  refine lx_invT (pc := 4) (as := [.int (iI a1)]) (n := 1) (st := [.int (iI 0), .ref 300]) dL_place_4 zl_L_65 zc_X6_place ⟨rfl, by decide +kernel⟩ ⟨rfl, rfl⟩ ⟨Nat.le_of_ble_eq_true rfl, Nat.le_of_ble_eq_true rfl⟩ ⟨Nat.le_refl 1, Nat.le_refl 6⟩ T rfl (by decide) (fun E9 h9 hX => ?_) (fun z9 h9 u9 v9 q9 => ?_)
  · obtain ⟨k, hk, hq⟩ := hxk E9 h9 hX
    rcases k with _ | k
    · have e : nSE = E9 := Option.some.inj hk
      subst e
      exact ⟨1, hL_place_0, by decide, hq⟩
    · exact absurd hk (by simp)
  skip
  refine lx_i2l (pc := 7) dL_place_7 ⟨u9, v9⟩ ?_
  refine lx_lastore (pc := 8) dL_place_8 (fun o2 e2 => ?_)
  refine lx_goto (pc := 9) (tgt := 15) dL_place_9 (by decide) ?_
  refine lx_iconst (pc := 15) dL_place_15 ?_
  exact lx_wret dL_place_16 ⟨Nat.le_refl 1, Nat.le_refl 6⟩ (by decide) (hn _ _ q9 o2 e2)
abbrev rL_lockedBy : Room := { frames := 7, cells := 1, slots := 6, locals := 121 }
theorem hL_lockedBy_0 : lHx (tableOf [(0, 9, 12, 29)]) RL cL_lockedBy 4 4 nSE 1 := by
  refine ⟨(tableOf [(0, 9, 12, 29)]).take 0, (tableOf [(0, 9, 12, 29)])[0], (tableOf [(0, 9, 12, 29)]).drop 1, rfl, ?_, rfl, by decide, zk_L_29, by simp [zFc], 3, 13, Or.inr ⟨3, rfl, dL_lockedBy_12, rfl⟩, by decide, dL_lockedBy_13, dL_lockedBy_14⟩
  intro y hy
  exact absurd hy (List.not_mem_nil)
set_option maxRecDepth 100000 in
theorem K_L_lockedBy {a1 : Int} {hx hm : zH} {o : Nat → Int64} {Q : Int → zH → Prop} {X : String → zH → Prop} {Qw : Int → zH → (Nat → Int64) → Prop} (T : kT_lockedBy a1 hx Q X) (hn : ∀ z h2, Q z h2 → ∀ o2 : Nat → Int64, o2 0 = lL z → Qw 0 h2 o2) (hxk : ∀ E h2, X E h2 → ∃ k : Nat, [nSE][k]? = some E ∧ Qw ((k : Int) + 1) h2 o) : lMw yL_lockedBy cL_lockedBy 4 rL_lockedBy [(0, 9, 12, 29)] [.ref 0, .int (iI a1), .ref 300] hx hm o Qw := by
  refine lMw_of [some (.ref 0), some (.int (iI a1)), some (.ref 300), none] (by decide +kernel) (fun _ => Nat.le_of_ble_eq_true rfl) (fun _ => rfl) ?_
  refine lx_aload_n (pc := 0) dL_lockedBy_0 rfl rfl ?_
  refine lx_iconst (pc := 1) dL_lockedBy_1 ?_
  refine lx_aload_n (pc := 2) dL_lockedBy_2 rfl rfl ?_
  refine lx_iload_n (pc := 3) dL_lockedBy_3 rfl rfl ?_
  refine lx_invT (pc := 4) (as := [.int (iI a1)]) (n := 1) (st := [.int (iI 0), .ref 300]) dL_lockedBy_4 zl_L_68 zc_X6_lockedBy ⟨rfl, by decide +kernel⟩ ⟨rfl, rfl⟩ ⟨Nat.le_of_ble_eq_true rfl, Nat.le_of_ble_eq_true rfl⟩ ⟨Nat.le_refl 1, Nat.le_refl 6⟩ T rfl (by decide) (fun E9 h9 hX => ?_) (fun z9 h9 u9 v9 q9 => ?_)
  · obtain ⟨k, hk, hq⟩ := hxk E9 h9 hX
    rcases k with _ | k
    · have e : nSE = E9 := Option.some.inj hk
      subst e
      exact ⟨1, hL_lockedBy_0, by decide, hq⟩
    · exact absurd hk (by simp)
  skip
  refine lx_i2l (pc := 7) dL_lockedBy_7 ⟨u9, v9⟩ ?_
  refine lx_lastore (pc := 8) dL_lockedBy_8 (fun o2 e2 => ?_)
  refine lx_goto (pc := 9) (tgt := 15) dL_lockedBy_9 (by decide) ?_
  refine lx_iconst (pc := 15) dL_lockedBy_15 ?_
  exact lx_wret dL_lockedBy_16 ⟨Nat.le_refl 1, Nat.le_refl 6⟩ (by decide) (hn _ _ q9 o2 e2)
abbrev rL_state : Room := { frames := 7, cells := 1, slots := 6, locals := 121 }
theorem hL_state_0 : lHx (tableOf [(0, 9, 12, 29)]) RL cL_state 4 4 nSE 1 := by
  refine ⟨(tableOf [(0, 9, 12, 29)]).take 0, (tableOf [(0, 9, 12, 29)])[0], (tableOf [(0, 9, 12, 29)]).drop 1, rfl, ?_, rfl, by decide, zk_L_29, by simp [zFc], 3, 13, Or.inr ⟨3, rfl, dL_state_12, rfl⟩, by decide, dL_state_13, dL_state_14⟩
  intro y hy
  exact absurd hy (List.not_mem_nil)
set_option maxRecDepth 100000 in
theorem K_L_state {a1 : Int} {hx hm : zH} {o : Nat → Int64} {Q : Int → zH → Prop} {X : String → zH → Prop} {Qw : Int → zH → (Nat → Int64) → Prop} (T : kT_state a1 hx Q X) (hn : ∀ z h2, Q z h2 → ∀ o2 : Nat → Int64, o2 0 = lL z → Qw 0 h2 o2) (hxk : ∀ E h2, X E h2 → ∃ k : Nat, [nSE][k]? = some E ∧ Qw ((k : Int) + 1) h2 o) : lMw yL_state cL_state 4 rL_state [(0, 9, 12, 29)] [.ref 0, .int (iI a1), .ref 300] hx hm o Qw := by
  refine lMw_of [some (.ref 0), some (.int (iI a1)), some (.ref 300), none] (by decide +kernel) (fun _ => Nat.le_of_ble_eq_true rfl) (fun _ => rfl) ?_
  refine lx_aload_n (pc := 0) dL_state_0 rfl rfl ?_
  refine lx_iconst (pc := 1) dL_state_1 ?_
  refine lx_aload_n (pc := 2) dL_state_2 rfl rfl ?_
  refine lx_iload_n (pc := 3) dL_state_3 rfl rfl ?_
  refine lx_invT (pc := 4) (as := [.int (iI a1)]) (n := 1) (st := [.int (iI 0), .ref 300]) dL_state_4 zl_L_71 zc_X6_state ⟨rfl, by decide +kernel⟩ ⟨rfl, rfl⟩ ⟨Nat.le_of_ble_eq_true rfl, Nat.le_of_ble_eq_true rfl⟩ ⟨Nat.le_refl 1, Nat.le_refl 6⟩ T rfl (by decide) (fun E9 h9 hX => ?_) (fun z9 h9 u9 v9 q9 => ?_)
  · obtain ⟨k, hk, hq⟩ := hxk E9 h9 hX
    rcases k with _ | k
    · have e : nSE = E9 := Option.some.inj hk
      subst e
      exact ⟨1, hL_state_0, by decide, hq⟩
    · exact absurd hk (by simp)
  skip
  refine lx_i2l (pc := 7) dL_state_7 ⟨u9, v9⟩ ?_
  refine lx_lastore (pc := 8) dL_state_8 (fun o2 e2 => ?_)
  refine lx_goto (pc := 9) (tgt := 15) dL_state_9 (by decide) ?_
  refine lx_iconst (pc := 15) dL_state_15 ?_
  exact lx_wret dL_state_16 ⟨Nat.le_refl 1, Nat.le_refl 6⟩ (by decide) (hn _ _ q9 o2 e2)
abbrev rL_locks : Room := { frames := 7, cells := 1, slots := 6, locals := 121 }
theorem hL_locks_0 : lHx (tableOf [(0, 9, 12, 29)]) RL cL_locks 4 4 nSE 1 := by
  refine ⟨(tableOf [(0, 9, 12, 29)]).take 0, (tableOf [(0, 9, 12, 29)])[0], (tableOf [(0, 9, 12, 29)]).drop 1, rfl, ?_, rfl, by decide, zk_L_29, by simp [zFc], 3, 13, Or.inr ⟨3, rfl, dL_locks_12, rfl⟩, by decide, dL_locks_13, dL_locks_14⟩
  intro y hy
  exact absurd hy (List.not_mem_nil)
set_option maxRecDepth 100000 in
theorem K_L_locks {a1 : Int} {hx hm : zH} {o : Nat → Int64} {Q : Int → zH → Prop} {X : String → zH → Prop} {Qw : Int → zH → (Nat → Int64) → Prop} (T : kT_locks a1 hx Q X) (hn : ∀ z h2, Q z h2 → ∀ o2 : Nat → Int64, o2 0 = lL z → Qw 0 h2 o2) (hxk : ∀ E h2, X E h2 → ∃ k : Nat, [nSE][k]? = some E ∧ Qw ((k : Int) + 1) h2 o) : lMw yL_locks cL_locks 4 rL_locks [(0, 9, 12, 29)] [.ref 0, .int (iI a1), .ref 300] hx hm o Qw := by
  refine lMw_of [some (.ref 0), some (.int (iI a1)), some (.ref 300), none] (by decide +kernel) (fun _ => Nat.le_of_ble_eq_true rfl) (fun _ => rfl) ?_
  refine lx_aload_n (pc := 0) dL_locks_0 rfl rfl ?_
  refine lx_iconst (pc := 1) dL_locks_1 ?_
  refine lx_aload_n (pc := 2) dL_locks_2 rfl rfl ?_
  refine lx_iload_n (pc := 3) dL_locks_3 rfl rfl ?_
  refine lx_invT (pc := 4) (as := [.int (iI a1)]) (n := 1) (st := [.int (iI 0), .ref 300]) dL_locks_4 zl_L_74 zc_X6_locks ⟨rfl, by decide +kernel⟩ ⟨rfl, rfl⟩ ⟨Nat.le_of_ble_eq_true rfl, Nat.le_of_ble_eq_true rfl⟩ ⟨Nat.le_refl 1, Nat.le_refl 6⟩ T rfl (by decide) (fun E9 h9 hX => ?_) (fun z9 h9 u9 v9 q9 => ?_)
  · obtain ⟨k, hk, hq⟩ := hxk E9 h9 hX
    rcases k with _ | k
    · have e : nSE = E9 := Option.some.inj hk
      subst e
      exact ⟨1, hL_locks_0, by decide, hq⟩
    · exact absurd hk (by simp)
  skip
  refine lx_i2l (pc := 7) dL_locks_7 ⟨u9, v9⟩ ?_
  refine lx_lastore (pc := 8) dL_locks_8 (fun o2 e2 => ?_)
  refine lx_goto (pc := 9) (tgt := 15) dL_locks_9 (by decide) ?_
  refine lx_iconst (pc := 15) dL_locks_15 ?_
  exact lx_wret dL_locks_16 ⟨Nat.le_refl 1, Nat.le_refl 6⟩ (by decide) (hn _ _ q9 o2 e2)
abbrev rL_block : Room := { frames := 7, cells := 1, slots := 6, locals := 123 }
theorem hL_block_0 : lHx (tableOf [(0, 10, 13, 29), (0, 10, 17, 19)]) RL cL_block 5 5 nSE 1 := by
  refine ⟨(tableOf [(0, 10, 13, 29), (0, 10, 17, 19)]).take 0, (tableOf [(0, 10, 13, 29), (0, 10, 17, 19)])[0], (tableOf [(0, 10, 13, 29), (0, 10, 17, 19)]).drop 1, rfl, ?_, rfl, by decide, zk_L_29, by simp [zFc], 4, 15, Or.inl ⟨dL_block_13, rfl⟩, by decide, dL_block_15, dL_block_16⟩
  intro y hy
  exact absurd hy (List.not_mem_nil)
theorem hL_block_1 : lHx (tableOf [(0, 10, 13, 29), (0, 10, 17, 19)]) RL cL_block 5 5 nAE 2 := by
  refine ⟨(tableOf [(0, 10, 13, 29), (0, 10, 17, 19)]).take 1, (tableOf [(0, 10, 13, 29), (0, 10, 17, 19)])[1], (tableOf [(0, 10, 13, 29), (0, 10, 17, 19)]).drop 2, rfl, ?_, rfl, by decide, zk_L_19, by simp [zFc], 4, 19, Or.inl ⟨dL_block_17, rfl⟩, by decide, dL_block_19, dL_block_20⟩
  intro y hy
  have hy2 : y = (tableOf [(0, 10, 13, 29), (0, 10, 17, 19)])[0] := by simpa [tableOf] using hy
  have e := hy2
  exact Or.inr ⟨by rw [e]; decide, nSE, by rw [e]; exact zk_L_29, by simp⟩
set_option maxRecDepth 100000 in
theorem K_L_block {a1 a2 : Int} {hx hm : zH} {o : Nat → Int64} {Q : Int → zH → Prop} {X : String → zH → Prop} {Qw : Int → zH → (Nat → Int64) → Prop} (T : kT_block a1 a2 hx Q X) (hn : ∀ z h2, Q z h2 → ∀ o2 : Nat → Int64, o2 0 = lL z → Qw 0 h2 o2) (hxk : ∀ E h2, X E h2 → ∃ k : Nat, [nSE, nAE][k]? = some E ∧ Qw ((k : Int) + 1) h2 o) : lMw yL_block cL_block 5 rL_block [(0, 10, 13, 29), (0, 10, 17, 19)] [.ref 0, .int (iI a1), .int (iI a2), .ref 300] hx hm o Qw := by
  refine lMw_of [some (.ref 0), some (.int (iI a1)), some (.int (iI a2)), some (.ref 300), none] (by decide +kernel) (fun _ => Nat.le_of_ble_eq_true rfl) (fun _ => rfl) ?_
  refine lx_aload_n (pc := 0) dL_block_0 rfl rfl ?_
  refine lx_iconst (pc := 1) dL_block_1 ?_
  refine lx_aload_n (pc := 2) dL_block_2 rfl rfl ?_
  refine lx_iload_n (pc := 3) dL_block_3 rfl rfl ?_
  refine lx_iload_n (pc := 4) dL_block_4 rfl rfl ?_
  refine lx_invT (pc := 5) (as := [.int (iI a1), .int (iI a2)]) (n := 2) (st := [.int (iI 0), .ref 300]) dL_block_5 zl_L_77 zc_X6_block ⟨rfl, by decide +kernel⟩ ⟨rfl, rfl⟩ ⟨Nat.le_of_ble_eq_true rfl, Nat.le_of_ble_eq_true rfl⟩ ⟨Nat.le_refl 1, Nat.le_refl 6⟩ T rfl (by decide) (fun E9 h9 hX => ?_) (fun z9 h9 u9 v9 q9 => ?_)
  · obtain ⟨k, hk, hq⟩ := hxk E9 h9 hX
    rcases k with _ | k
    · have e : nSE = E9 := Option.some.inj hk
      subst e
      exact ⟨1, hL_block_0, by decide, hq⟩
    rcases k with _ | k
    · have e : nAE = E9 := Option.some.inj hk
      subst e
      exact ⟨2, hL_block_1, by decide, hq⟩
    · exact absurd hk (by simp)
  skip
  refine lx_i2l (pc := 8) dL_block_8 ⟨u9, v9⟩ ?_
  refine lx_lastore (pc := 9) dL_block_9 (fun o2 e2 => ?_)
  refine lx_goto (pc := 10) (tgt := 21) dL_block_10 (by decide) ?_
  refine lx_iconst (pc := 21) dL_block_21 ?_
  exact lx_wret dL_block_22 ⟨Nat.le_refl 1, Nat.le_refl 6⟩ (by decide) (hn _ _ q9 o2 e2)
abbrev rL_flashPage : Room := { frames := 7, cells := 1, slots := 6, locals := 123 }
theorem hL_flashPage_0 : lHx (tableOf [(0, 10, 13, 29), (0, 10, 17, 19)]) RL cL_flashPage 5 5 nSE 1 := by
  refine ⟨(tableOf [(0, 10, 13, 29), (0, 10, 17, 19)]).take 0, (tableOf [(0, 10, 13, 29), (0, 10, 17, 19)])[0], (tableOf [(0, 10, 13, 29), (0, 10, 17, 19)]).drop 1, rfl, ?_, rfl, by decide, zk_L_29, by simp [zFc], 4, 15, Or.inl ⟨dL_flashPage_13, rfl⟩, by decide, dL_flashPage_15, dL_flashPage_16⟩
  intro y hy
  exact absurd hy (List.not_mem_nil)
theorem hL_flashPage_1 : lHx (tableOf [(0, 10, 13, 29), (0, 10, 17, 19)]) RL cL_flashPage 5 5 nAE 2 := by
  refine ⟨(tableOf [(0, 10, 13, 29), (0, 10, 17, 19)]).take 1, (tableOf [(0, 10, 13, 29), (0, 10, 17, 19)])[1], (tableOf [(0, 10, 13, 29), (0, 10, 17, 19)]).drop 2, rfl, ?_, rfl, by decide, zk_L_19, by simp [zFc], 4, 19, Or.inl ⟨dL_flashPage_17, rfl⟩, by decide, dL_flashPage_19, dL_flashPage_20⟩
  intro y hy
  have hy2 : y = (tableOf [(0, 10, 13, 29), (0, 10, 17, 19)])[0] := by simpa [tableOf] using hy
  have e := hy2
  exact Or.inr ⟨by rw [e]; decide, nSE, by rw [e]; exact zk_L_29, by simp⟩
set_option maxRecDepth 100000 in
theorem K_L_flashPage {a1 a2 : Int} {hx hm : zH} {o : Nat → Int64} {Q : Int → zH → Prop} {X : String → zH → Prop} {Qw : Int → zH → (Nat → Int64) → Prop} (T : kT_flashPage a1 a2 hx Q X) (hn : ∀ z h2, Q z h2 → ∀ o2 : Nat → Int64, o2 0 = lL z → Qw 0 h2 o2) (hxk : ∀ E h2, X E h2 → ∃ k : Nat, [nSE, nAE][k]? = some E ∧ Qw ((k : Int) + 1) h2 o) : lMw yL_flashPage cL_flashPage 5 rL_flashPage [(0, 10, 13, 29), (0, 10, 17, 19)] [.ref 0, .int (iI a1), .int (iI a2), .ref 300] hx hm o Qw := by
  refine lMw_of [some (.ref 0), some (.int (iI a1)), some (.int (iI a2)), some (.ref 300), none] (by decide +kernel) (fun _ => Nat.le_of_ble_eq_true rfl) (fun _ => rfl) ?_
  refine lx_aload_n (pc := 0) dL_flashPage_0 rfl rfl ?_
  refine lx_iconst (pc := 1) dL_flashPage_1 ?_
  refine lx_aload_n (pc := 2) dL_flashPage_2 rfl rfl ?_
  refine lx_iload_n (pc := 3) dL_flashPage_3 rfl rfl ?_
  refine lx_iload_n (pc := 4) dL_flashPage_4 rfl rfl ?_
  refine lx_invT (pc := 5) (as := [.int (iI a1), .int (iI a2)]) (n := 2) (st := [.int (iI 0), .ref 300]) dL_flashPage_5 zl_L_80 zc_X6_flashPage ⟨rfl, by decide +kernel⟩ ⟨rfl, rfl⟩ ⟨Nat.le_of_ble_eq_true rfl, Nat.le_of_ble_eq_true rfl⟩ ⟨Nat.le_refl 1, Nat.le_refl 6⟩ T rfl (by decide) (fun E9 h9 hX => ?_) (fun z9 h9 u9 v9 q9 => ?_)
  · obtain ⟨k, hk, hq⟩ := hxk E9 h9 hX
    rcases k with _ | k
    · have e : nSE = E9 := Option.some.inj hk
      subst e
      exact ⟨1, hL_flashPage_0, by decide, hq⟩
    rcases k with _ | k
    · have e : nAE = E9 := Option.some.inj hk
      subst e
      exact ⟨2, hL_flashPage_1, by decide, hq⟩
    · exact absurd hk (by simp)
  skip
  refine lx_i2l (pc := 8) dL_flashPage_8 ⟨u9, v9⟩ ?_
  refine lx_lastore (pc := 9) dL_flashPage_9 (fun o2 e2 => ?_)
  refine lx_goto (pc := 10) (tgt := 21) dL_flashPage_10 (by decide) ?_
  refine lx_iconst (pc := 21) dL_flashPage_21 ?_
  exact lx_wret dL_flashPage_22 ⟨Nat.le_refl 1, Nat.le_refl 6⟩ (by decide) (hn _ _ q9 o2 e2)
abbrev rL_isValid : Room := { frames := 7, cells := 1, slots := 6, locals := 121 }
theorem hL_isValid_0 : lHx (tableOf [(0, 16, 19, 29)]) RL cL_isValid 4 4 nSE 1 := by
  refine ⟨(tableOf [(0, 16, 19, 29)]).take 0, (tableOf [(0, 16, 19, 29)])[0], (tableOf [(0, 16, 19, 29)]).drop 1, rfl, ?_, rfl, by decide, zk_L_29, by simp [zFc], 3, 20, Or.inr ⟨3, rfl, dL_isValid_19, rfl⟩, by decide, dL_isValid_20, dL_isValid_21⟩
  intro y hy
  exact absurd hy (List.not_mem_nil)
set_option maxRecDepth 100000 in
theorem K_L_isValid {a1 : Int} {hx hm : zH} {o : Nat → Int64} {Q : Int → zH → Prop} {X : String → zH → Prop} {Qw : Int → zH → (Nat → Int64) → Prop} (T : kT_isValid a1 hx Q X) (hz : ∀ z h2, Q z h2 → z = 0 ∨ z = 1) (hn : ∀ z h2, Q z h2 → ∀ o2 : Nat → Int64, o2 0 = lL z → Qw 0 h2 o2) (hxk : ∀ E h2, X E h2 → ∃ k : Nat, [nSE][k]? = some E ∧ Qw ((k : Int) + 1) h2 o) : lMw yL_isValid cL_isValid 4 rL_isValid [(0, 16, 19, 29)] [.ref 0, .int (iI a1), .ref 300] hx hm o Qw := by
  refine lMw_of [some (.ref 0), some (.int (iI a1)), some (.ref 300), none] (by decide +kernel) (fun _ => Nat.le_of_ble_eq_true rfl) (fun _ => rfl) ?_
  refine lx_aload_n (pc := 0) dL_isValid_0 rfl rfl ?_
  refine lx_iconst (pc := 1) dL_isValid_1 ?_
  refine lx_aload_n (pc := 2) dL_isValid_2 rfl rfl ?_
  refine lx_iload_n (pc := 3) dL_isValid_3 rfl rfl ?_
  refine lx_invT (pc := 4) (as := [.int (iI a1)]) (n := 1) (st := [.int (iI 0), .ref 300]) dL_isValid_4 zl_L_83 zc_X6_isValid ⟨rfl, by decide +kernel⟩ ⟨rfl, rfl⟩ ⟨Nat.le_of_ble_eq_true rfl, Nat.le_of_ble_eq_true rfl⟩ ⟨Nat.le_refl 1, Nat.le_refl 6⟩ T rfl (by decide) (fun E9 h9 hX => ?_) (fun z9 h9 u9 v9 q9 => ?_)
  · obtain ⟨k, hk, hq⟩ := hxk E9 h9 hX
    rcases k with _ | k
    · have e : nSE = E9 := Option.some.inj hk
      subst e
      exact ⟨1, hL_isValid_0, by decide, hq⟩
    · exact absurd hk (by simp)
  skip
  refine lx_if_eq (pc := 7) (tgt := 14) dL_isValid_7 (by decide) (fun _ => ⟨u9, v9⟩) (fun c7 => ?_) (fun c7 => ?_)
  · refine lx_lconst (pc := 14) (z := 0) dL_isValid_14 (by decide +kernel) ?_
    refine lx_lastore (pc := 15) dL_isValid_15 (fun o2 e2 => ?_)
    refine lx_goto (pc := 16) (tgt := 22) dL_isValid_16 (by decide) ?_
    refine lx_iconst (pc := 22) dL_isValid_22 ?_
    rw [← c7] at e2
    exact lx_wret dL_isValid_23 ⟨Nat.le_refl 1, Nat.le_refl 6⟩ (by decide) (hn _ _ q9 o2 e2)
  · refine lx_lconst (pc := 10) (z := 1) dL_isValid_10 (by decide +kernel) ?_
    refine lx_goto (pc := 11) (tgt := 15) dL_isValid_11 (by decide) ?_
    refine lx_lastore (pc := 15) dL_isValid_15 (fun o2 e2 => ?_)
    refine lx_goto (pc := 16) (tgt := 22) dL_isValid_16 (by decide) ?_
    refine lx_iconst (pc := 22) dL_isValid_22 ?_
    have z1 : z9 = 1 := by have := hz z9 h9 q9; omega
    rw [← z1] at e2
    exact lx_wret dL_isValid_23 ⟨Nat.le_refl 1, Nat.le_refl 6⟩ (by decide) (hn _ _ q9 o2 e2)

