/-! String's own methods; the class's words -/
section ZS2
variable {cs : zH → List aC} {G : zGv} {own : String} {cc : ByteArray} {nL : Nat} {ret : Option FieldType} {rm : Room} {pc : Nat} {ls : List (Option Value)} {st st0 : List Value} {h : zH} {E : zF}
theorem zx_invVsi {y : MethodName} {b : ByteArray} {nL2 idx n : Nat} {rm2 : Room} {as : List Value} {r2 : FieldType} {Q : Int → zH → Prop} {q ci : Nat} {K : String} {T : u_T} {N : Nat} (hGS : ∀ l s c A adr, G l s c A adr → zS s A adr) (hd : decode cc pc = .ok (.invokevirtual idx, 3)) (hlk : Cond.methodLink own idx y ∈ zU) (hcal : zCal K y b nL2 (some r2)) (hcl : vwCl[ci]? = some (K, T, N)) (hob : ∃ fs, (cs h)[q]? = some (.inl (ci, fs))) (hlen : as.length = n ∧ (parseMethodDescriptor y.desc).map (fun d => d.parameters.length) = some n) (hrc : rm2.cells = 0 ∧ rm2.slots = 0) (hR : rm2.frames + 1 ≤ rm.frames ∧ 8 + (nL2 + 11) + rm2.locals ≤ rm.locals) (hM : zMsi cs y b nL2 r2 rm2 (.ref q :: as) h Q) (hst : st0 = as.reverse ++ .ref q :: st) (hcat : (st.map fun v => v.category).sum ≤ 8)
    (k : ∀ (z : Int) (h2 : zH), -2147483648 ≤ z → z < 2147483648 → Q z h2 → zX cs G own cc nL ret rm (pc + 3) ls (.int (iI z) :: st) h2 E) : zX cs G own cc nL ret rm pc ls st0 h E := by
  intro p l e s m args below meth c D cA adr A H locs lsa C hA hG hO hK hP hD hS hl
  subst hst
  obtain ⟨fs, hob⟩ := hob
  have hF := zFree hD hS hA
  have hZ := hGS _ _ _ _ _ hG
  refine va_calli (va_runV (As := as.map (cvv adr)) (rest := st.map (cvv adr)) (n := n) ⟨C.1, C.2.1, C.2.2.2.1, C.2.2.2.2.1, C.2.2.2.2.2.1⟩ (hM l D cA adr H.size) (cwV n C.2.2.2.2.2.1 (zCal_good hlk hcal) rfl hrc.1 hrc.2 ⟨hcal.2.2.2.2.1.1, hcal.2.2.2.2.1.2.1, hcal.2.2.2.2.1.2.2, hlen.2⟩ hR) ⟨zBlindS, va_recv hK hP hcl (zW_obj hob), fun U hU hW => ⟨rfl, by rw [hU], ⟨hO, by rw [hU]; exact hP, va_K.moved hW.alike hK, hD.weaken (fun _ _ _ _ => trivial)⟩, zS_at hZ hS.2.1 hW hU hF⟩⟩ rfl (by rw [List.length_map]; exact hlen.1) hl.1 (by rw [List.map_append, List.map_reverse]; rfl) (lv_room (by rw [zCats]; exact hcat)) hd ⟨Nat.zero_le _, Nat.zero_le _⟩) hS (fun q9 _ h9 => hF q9 h9) hF (fun r u t H1 locs1 ht hvm hw hB hz1 hk1 hS1 => ?_)
  obtain ⟨z, rfl, rz, hw⟩ := hw
  obtain ⟨hO1, hP1, hK1, hD1⟩ := hB
  exact k z u rz.1 rz.2 hw p l e s m args below meth c D cA adr A H1 locs1 lsa C hA hG hO1 hK (by rw [← ht]; exact hP1) (hD1.weaken (fun k9 q9 _ h9 => hF q9.1 h9)) hS1 hl
theorem zx_invVsv {y : MethodName} {b : ByteArray} {nL2 idx n : Nat} {rm2 : Room} {as : List Value} {Q : zH → Prop} {q ci : Nat} {K : String} {T : u_T} {N : Nat} (hGS : ∀ l s c A adr, G l s c A adr → zS s A adr) (hd : decode cc pc = .ok (.invokevirtual idx, 3)) (hlk : Cond.methodLink own idx y ∈ zU) (hcal : zCal K y b nL2 none) (hcl : vwCl[ci]? = some (K, T, N)) (hob : ∃ fs, (cs h)[q]? = some (.inl (ci, fs))) (hlen : as.length = n ∧ (parseMethodDescriptor y.desc).map (fun d => d.parameters.length) = some n) (hrc : rm2.cells = 0 ∧ rm2.slots = 0) (hR : rm2.frames + 1 ≤ rm.frames ∧ 8 + (nL2 + 11) + rm2.locals ≤ rm.locals) (hM : zMsv cs y b nL2 rm2 (.ref q :: as) h Q) (hst : st0 = as.reverse ++ .ref q :: st) (hcat : (st.map fun v => v.category).sum ≤ 8)
    (k : ∀ h2 : zH, Q h2 → zX cs G own cc nL ret rm (pc + 3) ls st h2 E) : zX cs G own cc nL ret rm pc ls st0 h E := by
  intro p l e s m args below meth c D cA adr A H locs lsa C hA hG hO hK hP hD hS hl
  subst hst
  obtain ⟨fs, hob⟩ := hob
  have hF := zFree hD hS hA
  have hZ := hGS _ _ _ _ _ hG
  refine va_callv (va_runV (As := as.map (cvv adr)) (rest := st.map (cvv adr)) (n := n) ⟨C.1, C.2.1, C.2.2.2.1, C.2.2.2.2.1, C.2.2.2.2.2.1⟩ (hM l D cA adr H.size) (cwV n C.2.2.2.2.2.1 (zCal_good hlk hcal) rfl hrc.1 hrc.2 ⟨hcal.2.2.2.2.1.1, hcal.2.2.2.2.1.2.1, hcal.2.2.2.2.1.2.2, hlen.2⟩ hR) ⟨zBlindS, va_recv hK hP hcl (zW_obj hob), fun U hU hW => ⟨rfl, by rw [hU], ⟨hO, by rw [hU]; exact hP, va_K.moved hW.alike hK, hD.weaken (fun _ _ _ _ => trivial)⟩, zS_at hZ hS.2.1 hW hU hF⟩⟩ rfl (by rw [List.length_map]; exact hlen.1) hl.1 (by rw [List.map_append, List.map_reverse]; rfl) (lv_room (by rw [zCats]; exact hcat)) hd ⟨Nat.zero_le _, Nat.zero_le _⟩) hS (fun q9 _ h9 => hF q9 h9) hF (fun u t H1 locs1 ht hvm hw hB hz1 hk1 hS1 => ?_)
  obtain ⟨hO1, hP1, hK1, hD1⟩ := hB
  exact k u hw p l e s m args below meth c D cA adr A H1 locs1 lsa C hA hG hO1 hK (by rw [← ht]; exact hP1) (hD1.weaken (fun k9 q9 _ h9 => hF q9.1 h9)) hS1 hl
theorem zx_invVsr {y : MethodName} {b : ByteArray} {nL2 idx n r : Nat} {rm2 : Room} {as : List Value} {r2 : FieldType} {Q : zH → Prop} {q ci : Nat} {K : String} {T : u_T} {N : Nat} (hGS : ∀ l s c A adr, G l s c A adr → zS s A adr) (hd : decode cc pc = .ok (.invokevirtual idx, 3)) (hlk : Cond.methodLink own idx y ∈ zU) (hcal : zCal K y b nL2 (some r2)) (hcl : vwCl[ci]? = some (K, T, N)) (hob : ∃ fs, (cs h)[q]? = some (.inl (ci, fs))) (hlen : as.length = n ∧ (parseMethodDescriptor y.desc).map (fun d => d.parameters.length) = some n) (hrc : rm2.cells = 0 ∧ rm2.slots = 0) (hR : rm2.frames + 1 ≤ rm.frames ∧ 8 + (nL2 + 11) + rm2.locals ≤ rm.locals) (hM : zMsr cs y b nL2 r2 rm2 (.ref q :: as) h r Q) (hst : st0 = as.reverse ++ .ref q :: st) (hcat : (st.map fun v => v.category).sum ≤ 8)
    (k : ∀ h2 : zH, Q h2 → zX cs G own cc nL ret rm (pc + 3) ls (.ref r :: st) h2 E) : zX cs G own cc nL ret rm pc ls st0 h E := by
  intro p l e s m args below meth c D cA adr A H locs lsa C hA hG hO hK hP hD hS hl
  subst hst
  obtain ⟨fs, hob⟩ := hob
  have hF := zFree hD hS hA
  have hZ := hGS _ _ _ _ _ hG
  refine va_callr (va_runV (As := as.map (cvv adr)) (rest := st.map (cvv adr)) (n := n) ⟨C.1, C.2.1, C.2.2.2.1, C.2.2.2.2.1, C.2.2.2.2.2.1⟩ (hM l D cA adr H.size) (cwV n C.2.2.2.2.2.1 (zCal_good hlk hcal) rfl hrc.1 hrc.2 ⟨hcal.2.2.2.2.1.1, hcal.2.2.2.2.1.2.1, hcal.2.2.2.2.1.2.2, hlen.2⟩ hR) ⟨zBlindS, va_recv hK hP hcl (zW_obj hob), fun U hU hW => ⟨rfl, by rw [hU], ⟨hO, by rw [hU]; exact hP, va_K.moved hW.alike hK, hD.weaken (fun _ _ _ _ => trivial)⟩, zS_at hZ hS.2.1 hW hU hF⟩⟩ rfl (by rw [List.length_map]; exact hlen.1) hl.1 (by rw [List.map_append, List.map_reverse]; rfl) (lv_room (by rw [zCats]; exact hcat)) hd ⟨Nat.zero_le _, Nat.zero_le _⟩) hS (fun q9 _ h9 => hF q9 h9) hF (fun u ra t H1 locs1 ht hvm hw hB hz1 hk1 hS1 => ?_)
  obtain ⟨rfl, hO1, hP1, hK1, hD1⟩ := hB
  exact k u hw p l e s m args below meth c D cA adr A H1 locs1 lsa C hA hG hO1 hK (by rw [← ht]; exact hP1) (hD1.weaken (fun k9 q9 _ h9 => hF q9.1 h9)) hS1 hl
end ZS2
abbrev rJ0_coder : Room := { frames := 0, cells := 0, slots := 0, locals := 0 }
abbrev rJ0_isLatin1 : Room := { frames := 0, cells := 0, slots := 0, locals := 0 }
abbrev rJ0_length : Room := { frames := 1, cells := 0, slots := 0, locals := 20 }
abbrev rJ3_checkIndex : Room := { frames := 0, cells := 0, slots := 0, locals := 0 }
abbrev rJ0_checkIndex : Room := { frames := 1, cells := 0, slots := 0, locals := 22 }
abbrev rJ1_charAt : Room := { frames := 2, cells := 0, slots := 0, locals := 43 }
abbrev rJ0_charAt : Room := { frames := 3, cells := 0, slots := 0, locals := 64 }
theorem K_coder {h : zH} {i : Nat} (hi : i < 6) : zMsi cX yJ0_coder_7d493 cJ0_coder_7d493 1 .byte rJ0_coder [.ref (100 + i)] h (fun r h2 => r = 0 ∧ h2 = h) := by
  refine zMsi_of [some (.ref (100 + i))] zc_J0_coder_7d493.2.2.2.2.2 (fun _ => Nat.le_of_ble_eq_true rfl) (fun _ => rfl) ?_
  refine zx_getCS (pc := 0) hGs zf_J0_38 dJ0_coder_7d493_0 ?_
  refine zx_if_eq (pc := 3) (tgt := 13) dJ0_coder_7d493_3 (by decide) (fun _ => by decide) (fun c => absurd c (by decide)) (fun _ => ?_)
  refine zx_aload_n (pc := 6) dJ0_coder_7d493_6 rfl rfl ?_
  refine zx_getC (pc := 7) hGs hi zf_J0_15 dJ0_coder_7d493_7 ?_
  refine zx_goto (pc := 10) (tgt := 14) dJ0_coder_7d493_10 (by decide) ?_
  exact zx_nret (pc := 14) dJ0_coder_7d493_14 (by decide) (by decide +kernel) ⟨rfl, rfl⟩
theorem K_isLatin1 {h : zH} {i : Nat} (hi : i < 6) : zMsi cX yJ0_isLatin1_aae02 cJ0_isLatin1_aae02 1 .boolean rJ0_isLatin1 [.ref (100 + i)] h (fun r h2 => r = 1 ∧ h2 = h) := by
  refine zMsi_of [some (.ref (100 + i))] zc_J0_isLatin1_aae02.2.2.2.2.2 (fun _ => Nat.le_of_ble_eq_true rfl) (fun _ => rfl) ?_
  refine zx_getCS (pc := 0) hGs zf_J0_38 dJ0_isLatin1_aae02_0 ?_
  refine zx_if_eq (pc := 3) (tgt := 17) dJ0_isLatin1_aae02_3 (by decide) (fun _ => by decide) (fun c => absurd c (by decide)) (fun _ => ?_)
  refine zx_aload_n (pc := 6) dJ0_isLatin1_aae02_6 rfl rfl ?_
  refine zx_getC (pc := 7) hGs hi zf_J0_15 dJ0_isLatin1_aae02_7 ?_
  refine zx_if_ne (pc := 10) (tgt := 17) dJ0_isLatin1_aae02_10 (by decide) (fun _ => by decide) (fun c => absurd rfl c) (fun _ => ?_)
  refine zx_iconst (pc := 13) dJ0_isLatin1_aae02_13 ?_
  refine zx_goto (pc := 14) (tgt := 18) dJ0_isLatin1_aae02_14 (by decide) ?_
  exact zx_zret (pc := 18) dJ0_isLatin1_aae02_18 (by decide) ⟨rfl, rfl⟩
theorem K_length {h : zH} {i : Nat} (hi : i < 6) : zMsi cX yJ0_length_8abf5 cJ0_length_8abf5 1 .int rJ0_length [.ref (100 + i)] h (fun r h2 => r = sL i ∧ h2 = h) := by
  have lr := sL_r i hi
  refine zMsi_of [some (.ref (100 + i))] zc_J0_length_8abf5.2.2.2.2.2 (fun _ => Nat.le_of_ble_eq_true rfl) (fun _ => rfl) ?_
  refine zx_aload_n (pc := 0) dJ0_length_8abf5_0 rfl rfl ?_
  refine zx_getV (pc := 1) hGs hi zf_J0_9 dJ0_length_8abf5_1 ?_
  refine zx_slen (pc := 4) hGs hi dJ0_length_8abf5_4 ?_
  refine zx_aload_n (pc := 5) dJ0_length_8abf5_5 rfl rfl ?_
  refine zx_invStr (pc := 6) (as := []) (n := 0) hGs hi dJ0_length_8abf5_6 zl_J0_335 zc_J0_coder_7d493 ⟨rfl, by decide +kernel⟩ ⟨rfl, rfl⟩ ⟨by decide, by decide⟩ (K_coder hi) rfl (Nat.le_of_ble_eq_true rfl) (fun z h2 u v q => ?_)
  obtain ⟨rfl, e⟩ := q
  rw [e]
  refine zx_ishr (pc := 9) dJ0_length_8abf5_9 (v := iI (sL i)) ?_ ?_
  · have : ∀ j, j < 6 → iI (sL j) >>> (iI 0 &&& 31) = iI (sL j) := by decide +kernel
    exact this i hi
  · exact zx_iret (pc := 10) dJ0_length_8abf5_10 (fun _ => by omega) ⟨rfl, rfl⟩
theorem K_checkIndex3 {h : zH} {i j : Int} {v : Value} (hv : v = .null ∨ v = .ref 160) (i0 : 0 ≤ i) (i1 : i < j) (j1 : j < 1000) : zMi cX yJ3_checkIndex_8e157 cJ3_checkIndex_8e157 3 .int rJ3_checkIndex [.int (iI i), .int (iI j), v] h (fun r h2 => r = i ∧ h2 = h) := by
  refine zMi_of [some (.int (iI i)), some (.int (iI j)), some v] zc_J3_checkIndex_8e157.2.2.2.2 (fun adr => ?_) (fun adr => ?_) ?_
  · rcases hv with rfl | rfl <;> exact Nat.le_of_ble_eq_true rfl
  · rcases hv with rfl | rfl <;> rfl
  refine zx_iload_n (pc := 0) dJ3_checkIndex_8e157_0 rfl rfl ?_
  refine zx_if_lt (pc := 1) (tgt := 9) dJ3_checkIndex_8e157_1 (by decide) (fun _ => by omega) (fun c => absurd c (by omega)) (fun _ => ?_)
  refine zx_iload_n (pc := 4) dJ3_checkIndex_8e157_4 rfl rfl ?_
  refine zx_iload_n (pc := 5) dJ3_checkIndex_8e157_5 rfl rfl ?_
  refine zx_icmp_lt (pc := 6) (tgt := 16) dJ3_checkIndex_8e157_6 (by decide) (fun _ => by omega) (fun _ => by omega) (fun _ => ?_) (fun c => absurd c (by omega))
  refine zx_iload_n (pc := 16) dJ3_checkIndex_8e157_16 rfl rfl ?_
  exact zx_iret (pc := 17) dJ3_checkIndex_8e157_17 (fun _ => by omega) ⟨rfl, rfl⟩
theorem K_checkIndex0 {h : zH} {i j : Int} (i0 : 0 ≤ i) (i1 : i < j) (j1 : j < 1000) : zMsv cX yJ0_checkIndex_df160 cJ0_checkIndex_df160 2 rJ0_checkIndex [.int (iI i), .int (iI j)] h (fun h2 => h2 = h) := by
  refine zMsv_of [some (.int (iI i)), some (.int (iI j))] zc_J0_checkIndex_df160.2.2.2.2 (fun _ => Nat.le_of_ble_eq_true rfl) (fun _ => rfl) ?_
  refine zx_iload_n (pc := 0) dJ0_checkIndex_df160_0 rfl rfl ?_
  refine zx_iload_n (pc := 1) dJ0_checkIndex_df160_1 rfl rfl ?_
  refine zx_getFm (pc := 2) hGs zf_J0_1053 dJ0_checkIndex_df160_2 (fun v hv => ?_)
  refine zx_invSk (pc := 5) (as := [.int (iI i), .int (iI j), v]) (n := 3) (st := []) dJ0_checkIndex_df160_5 zl_J0_1059 zc_J3_checkIndex_8e157 ⟨rfl, by decide +kernel⟩ ⟨rfl, rfl⟩ ⟨by decide, by decide⟩ (K_checkIndex3 hv i0 i1 j1) rfl (by decide) (fun z h2 u v q => ?_)
  obtain ⟨rfl, e⟩ := q
  rw [e]
  refine zx_pop (pc := 8) dJ0_checkIndex_df160_8 rfl ?_
  exact zx_vret (pc := 9) dJ0_checkIndex_df160_9 rfl
theorem K_charAt1 {h : zH} {i : Nat} (hi : i < 6) {k : Int} (k0 : 0 ≤ k) (k1 : k < sL i) : zMsi cX yJ1_charAt_3b067 cJ1_charAt_3b067 2 .char rJ1_charAt [.ref (110 + i), .int (iI k)] h (fun r h2 => r = sC i k.toNat ∧ h2 = h) := by
  have lr := sL_r i hi
  have cr := sC_r i hi k.toNat (by omega)
  refine zMsi_of [some (.ref (110 + i)), some (.int (iI k))] zc_J1_charAt_3b067.2.2.2.2 (fun _ => Nat.le_of_ble_eq_true rfl) (fun _ => rfl) ?_
  refine zx_iload_n (pc := 0) dJ1_charAt_3b067_0 rfl rfl ?_
  refine zx_aload_n (pc := 1) dJ1_charAt_3b067_1 rfl rfl ?_
  refine zx_slen (pc := 2) hGs hi dJ1_charAt_3b067_2 ?_
  refine zx_invSsv (pc := 3) (as := [.int (iI k), .int (iI (sL i))]) (n := 2) (st := []) hGs dJ1_charAt_3b067_3 zl_J1_9 zc_J0_checkIndex_df160 ⟨rfl, by decide +kernel⟩ ⟨rfl, rfl⟩ ⟨by decide, by decide⟩ (K_checkIndex0 k0 k1 (by omega)) rfl (by decide) (fun h2 q => ?_)
  rw [q]
  refine zx_aload_n (pc := 6) dJ1_charAt_3b067_6 rfl rfl ?_
  refine zx_iload_n (pc := 7) dJ1_charAt_3b067_7 rfl rfl ?_
  refine zx_sbal (pc := 8) hGs hi k0 k1 dJ1_charAt_3b067_8 ?_
  refine zx_sipush (pc := 9) dJ1_charAt_3b067_9 (by decide +kernel) ?_
  have w : ∀ j, j < 6 → ∀ n, n < 7 → iI (sC j n) &&& iI 255 = iI (sC j n) ∧ ((iI (sC j n)).toUInt32 % 65536).toInt32 = iI (sC j n) ∧ narrow .char (.int (iI (sC j n))) = .int (iI (sC j n)) := by decide +kernel
  have w2 := w i hi k.toNat (by omega)
  refine zx_iand (pc := 12) dJ1_charAt_3b067_12 w2.1 ?_
  refine zx_i2c (pc := 13) dJ1_charAt_3b067_13 w2.2.1 ?_
  exact zx_nret (pc := 14) dJ1_charAt_3b067_14 (by omega) w2.2.2 ⟨rfl, rfl⟩
theorem K_charAt {h : zH} {i : Nat} (hi : i < 6) {k : Int} (k0 : 0 ≤ k) (k1 : k < sL i) : zMsi cX yJ0_charAt_5068e cJ0_charAt_5068e 2 .char rJ0_charAt [.ref (100 + i), .int (iI k)] h (fun r h2 => r = sC i k.toNat ∧ h2 = h) := by
  have lr := sL_r i hi
  have cr := sC_r i hi k.toNat (by omega)
  refine zMsi_of [some (.ref (100 + i)), some (.int (iI k))] zc_J0_charAt_5068e.2.2.2.2.2 (fun _ => Nat.le_of_ble_eq_true rfl) (fun _ => rfl) ?_
  refine zx_aload_n (pc := 0) dJ0_charAt_5068e_0 rfl rfl ?_
  refine zx_invStr (pc := 1) (as := []) (n := 0) (st := []) hGs hi dJ0_charAt_5068e_1 zl_J0_492 zc_J0_isLatin1_aae02 ⟨rfl, by decide +kernel⟩ ⟨rfl, rfl⟩ ⟨by decide, by decide⟩ (K_isLatin1 hi) rfl (by decide) (fun z h2 u v q => ?_)
  obtain ⟨rfl, e⟩ := q
  rw [e]
  refine zx_if_eq (pc := 4) (tgt := 16) dJ0_charAt_5068e_4 (by decide) (fun _ => by decide) (fun c => absurd c (by decide)) (fun _ => ?_)
  refine zx_aload_n (pc := 7) dJ0_charAt_5068e_7 rfl rfl ?_
  refine zx_getV (pc := 8) hGs hi zf_J0_9 dJ0_charAt_5068e_8 ?_
  refine zx_iload_n (pc := 11) dJ0_charAt_5068e_11 rfl rfl ?_
  refine zx_invSsi (pc := 12) (as := [.ref (110 + i), .int (iI k)]) (n := 2) (st := []) hGs dJ0_charAt_5068e_12 zl_J0_495 zc_J1_charAt_3b067 ⟨rfl, by decide +kernel⟩ ⟨rfl, rfl⟩ ⟨by decide, by decide⟩ (K_charAt1 hi k0 k1) rfl (by decide) (fun z h2 u v q => ?_)
  obtain ⟨rfl, e2⟩ := q
  rw [e2]
  have w : ∀ j, j < 6 → ∀ n, n < 7 → narrow .char (.int (iI (sC j n))) = .int (iI (sC j n)) := by decide +kernel
  exact zx_nret (pc := 15) dJ0_charAt_5068e_15 (by omega) (w i hi k.toNat (by omega)) ⟨rfl, rfl⟩
/-- the word that is due at a step -/
def sIx (t : Int) : Nat := if t = 0 then 0 else if t = 2 then 1 else if t = 4 then 2 else if t = 6 then 3 else if t = 9 then 4 else 5
theorem sIx_r (t : Int) : sIx t < 6 := by
  unfold sIx
  split
  · decide
  · split
    · decide
    · split
      · decide
      · split
        · decide
        · split <;> decide
theorem K_wordDue {h : zH} : zMsr cX yX2_wordDue cX2_wordDue 1 (.object "java/lang/String") rX2_wordDue [.ref 1] h (100 + sIx (gs h 30)) (fun h2 => h2 = h) := by
  refine zMsr_of [some (.ref 1)] zc_X2_wordDue.2.2.2.2.2 (fun _ => Nat.le_of_ble_eq_true rfl) (fun _ => rfl) ?_
  refine zx_aload_n (pc := 0) dX2_wordDue_0 rfl rfl ?_
  refine zg_X2_31 (pc := 1) dX2_wordDue_1 ?_
  have rt : (∃ n, FieldType.object "java/lang/String" = .object n) ∨ ∃ t, FieldType.object "java/lang/String" = .array t := Or.inl ⟨_, rfl⟩
  by_cases c0 : gs h 30 = 0
  · refine zx_swIn (pc := 4) (tgt := 60) dX2_wordDue_4 (fun o => o.1 30 (by decide)) (by omega) (by omega) (by rw [c0]; rfl) (by decide) ?_
    refine zx_ldcS (pc := 60) (i := 0) hGs (by decide) dX2_wordDue_60 rfl ?_
    have e : sIx (gs h 30) = 0 := by rw [c0]; rfl
    rw [e]
    exact zx_aret (pc := 62) rt dX2_wordDue_62 rfl
  · by_cases c2 : gs h 30 = 2
    · refine zx_swIn (pc := 4) (tgt := 63) dX2_wordDue_4 (fun o => o.1 30 (by decide)) (by omega) (by omega) (by rw [c2]; rfl) (by decide) ?_
      refine zx_ldcS (pc := 63) (i := 1) hGs (by decide) dX2_wordDue_63 rfl ?_
      have e : sIx (gs h 30) = 1 := by rw [c2]; rfl
      rw [e]
      exact zx_aret (pc := 65) rt dX2_wordDue_65 rfl
    · by_cases c4 : gs h 30 = 4
      · refine zx_swIn (pc := 4) (tgt := 66) dX2_wordDue_4 (fun o => o.1 30 (by decide)) (by omega) (by omega) (by rw [c4]; rfl) (by decide) ?_
        refine zx_ldcS (pc := 66) (i := 2) hGs (by decide) dX2_wordDue_66 rfl ?_
        have e : sIx (gs h 30) = 2 := by rw [c4]; rfl
        rw [e]
        exact zx_aret (pc := 68) rt dX2_wordDue_68 rfl
      · by_cases c6 : gs h 30 = 6
        · refine zx_swIn (pc := 4) (tgt := 69) dX2_wordDue_4 (fun o => o.1 30 (by decide)) (by omega) (by omega) (by rw [c6]; rfl) (by decide) ?_
          refine zx_ldcS (pc := 69) (i := 3) hGs (by decide) dX2_wordDue_69 rfl ?_
          have e : sIx (gs h 30) = 3 := by rw [c6]; rfl
          rw [e]
          exact zx_aret (pc := 71) rt dX2_wordDue_71 rfl
        · by_cases c9 : gs h 30 = 9
          · refine zx_swIn (pc := 4) (tgt := 72) dX2_wordDue_4 (fun o => o.1 30 (by decide)) (by omega) (by omega) (by rw [c9]; rfl) (by decide) ?_
            refine zx_ldcS (pc := 72) (i := 4) hGs (by decide) dX2_wordDue_72 rfl ?_
            have e : sIx (gs h 30) = 4 := by rw [c9]; rfl
            rw [e]
            exact zx_aret (pc := 74) rt dX2_wordDue_74 rfl
          · have e : sIx (gs h 30) = 5 := by
              unfold sIx
              rw [if_neg c0, if_neg c2, if_neg c4, if_neg c6, if_neg c9]
            rw [e]
            have fin : zX cX zGs RX2 cX2_wordDue 1 (some (.object "java/lang/String")) rX2_wordDue 75 [some (.ref 1)] [] h (zEr cX (100 + 5) (fun h2 => h2 = h)) := by
              refine zx_ldcS (pc := 75) (i := 5) hGs (by decide) dX2_wordDue_75 rfl ?_
              exact zx_aret (pc := 77) rt dX2_wordDue_77 rfl
            rcases (show gs h 30 = 1 ∨ gs h 30 = 3 ∨ gs h 30 = 5 ∨ gs h 30 = 7 ∨ gs h 30 = 8 ∨ (gs h 30 < 0 ∨ 9 < gs h 30) by omega) with c | c | c | c | c | c
            · refine zx_swIn (pc := 4) (tgt := 75) dX2_wordDue_4 (fun o => o.1 30 (by decide)) (by omega) (by omega) (by rw [c]; rfl) (by decide) fin
            · refine zx_swIn (pc := 4) (tgt := 75) dX2_wordDue_4 (fun o => o.1 30 (by decide)) (by omega) (by omega) (by rw [c]; rfl) (by decide) fin
            · refine zx_swIn (pc := 4) (tgt := 75) dX2_wordDue_4 (fun o => o.1 30 (by decide)) (by omega) (by omega) (by rw [c]; rfl) (by decide) fin
            · refine zx_swIn (pc := 4) (tgt := 75) dX2_wordDue_4 (fun o => o.1 30 (by decide)) (by omega) (by omega) (by rw [c]; rfl) (by decide) fin
            · refine zx_swIn (pc := 4) (tgt := 75) dX2_wordDue_4 (fun o => o.1 30 (by decide)) (by omega) (by omega) (by rw [c]; rfl) (by decide) fin
            · refine zx_swOut (pc := 4) (tgt := 75) dX2_wordDue_4 (fun o => o.1 30 (by decide)) c (by decide) fin

