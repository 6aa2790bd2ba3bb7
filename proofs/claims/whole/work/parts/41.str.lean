/-! the class: String constants and their methods -/
theorem zc_J0_length_8abf5 : zCal RJ0 yJ0_length_8abf5 cJ0_length_8abf5 1 (some .int) := ⟨zm3 (i := 97) (by decide +kernel) rfl, zm3 (i := 98) (by decide +kernel) rfl, zm1 (i := 15) (by decide +kernel) rfl, zm3 (i := 99) (by decide +kernel) rfl, ⟨rfl, by decide +kernel, by decide +kernel⟩, by decide +kernel⟩
theorem zc_J0_coder_7d493 : zCal RJ0 yJ0_coder_7d493 cJ0_coder_7d493 1 (some .byte) := ⟨zm3 (i := 101) (by decide +kernel) rfl, zm3 (i := 102) (by decide +kernel) rfl, zm1 (i := 15) (by decide +kernel) rfl, zm3 (i := 103) (by decide +kernel) rfl, ⟨rfl, by decide +kernel, by decide +kernel⟩, by decide +kernel⟩
theorem zc_J0_charAt_5068e : zCal RJ0 yJ0_charAt_5068e cJ0_charAt_5068e 2 (some .char) := ⟨zm3 (i := 107) (by decide +kernel) rfl, zm3 (i := 108) (by decide +kernel) rfl, zm1 (i := 15) (by decide +kernel) rfl, zm3 (i := 109) (by decide +kernel) rfl, ⟨rfl, by decide +kernel, by decide +kernel⟩, by decide +kernel⟩
theorem zc_J0_isLatin1_aae02 : zCal RJ0 yJ0_isLatin1_aae02 cJ0_isLatin1_aae02 1 (some .boolean) := ⟨zm3 (i := 111) (by decide +kernel) rfl, zm3 (i := 112) (by decide +kernel) rfl, zm1 (i := 15) (by decide +kernel) rfl, zm3 (i := 113) (by decide +kernel) rfl, ⟨rfl, by decide +kernel, by decide +kernel⟩, by decide +kernel⟩
theorem zc_J1_charAt_3b067 : zSta RJ1 yJ1_charAt_3b067 cJ1_charAt_3b067 2 (some .char) := ⟨zm3 (i := 115) (by decide +kernel) rfl, zm1 (i := 16) (by decide +kernel) rfl, zm3 (i := 116) (by decide +kernel) rfl, ⟨rfl, by decide +kernel, by decide +kernel⟩, by decide +kernel⟩
theorem zc_J0_checkIndex_df160 : zSta RJ0 yJ0_checkIndex_df160 cJ0_checkIndex_df160 2 none := ⟨zm3 (i := 118) (by decide +kernel) rfl, zm1 (i := 15) (by decide +kernel) rfl, zm3 (i := 119) (by decide +kernel) rfl, ⟨rfl, by decide +kernel, by decide +kernel⟩, by decide +kernel⟩
theorem zc_J3_checkIndex_8e157 : zSta RJ3 yJ3_checkIndex_8e157 cJ3_checkIndex_8e157 3 (some .int) := ⟨zm3 (i := 123) (by decide +kernel) rfl, zm1 (i := 17) (by decide +kernel) rfl, zm3 (i := 124) (by decide +kernel) rfl, ⟨rfl, by decide +kernel, by decide +kernel⟩, by decide +kernel⟩
theorem zl_J0_335 : Cond.methodLink RJ0 335 yJ0_coder_7d493 ∈ zU := zm3 (i := 100) (by decide +kernel) rfl
theorem zl_J0_492 : Cond.methodLink RJ0 492 yJ0_isLatin1_aae02 ∈ zU := zm3 (i := 110) (by decide +kernel) rfl
theorem zl_J0_495 : Cond.methodLink RJ0 495 yJ1_charAt_3b067 ∈ zU := zm3 (i := 114) (by decide +kernel) rfl
theorem zl_J1_9 : Cond.methodLink RJ1 9 yJ0_checkIndex_df160 ∈ zU := zm3 (i := 117) (by decide +kernel) rfl
theorem zl_J0_1059 : Cond.methodLink RJ0 1059 yJ3_checkIndex_8e157 ∈ zU := zm3 (i := 122) (by decide +kernel) rfl
theorem zf_J0_38 : Cond.fieldLink RJ0 38 "java/lang/String" "COMPACT_STRINGS" "Z" ∈ zU := zm3 (i := 104) (by decide +kernel) rfl
theorem zf_J0_9 : Cond.fieldLink RJ0 9 "java/lang/String" "value" "[B" ∈ zU := zm8 (i := 49) (by decide +kernel) rfl
theorem zf_J0_15 : Cond.fieldLink RJ0 15 "java/lang/String" "coder" "B" ∈ zU := zm8 (i := 50) (by decide +kernel) rfl
theorem zf_J0_1053 : Cond.fieldLink RJ0 1053 "jdk/internal/util/Preconditions" "SIOOBE_FORMATTER" "Ljava/util/function/BiFunction;" ∈ zU := zm3 (i := 120) (by decide +kernel) rfl
theorem dJ0_length_8abf5_0 : decode cJ0_length_8abf5 0 = .ok (.aload_n 0, 1) := by decide +kernel
theorem dJ0_length_8abf5_1 : decode cJ0_length_8abf5 1 = .ok (.getfield 9, 3) := by decide +kernel
theorem dJ0_length_8abf5_4 : decode cJ0_length_8abf5 4 = .ok (.arraylength, 1) := by decide +kernel
theorem dJ0_length_8abf5_5 : decode cJ0_length_8abf5 5 = .ok (.aload_n 0, 1) := by decide +kernel
theorem dJ0_length_8abf5_6 : decode cJ0_length_8abf5 6 = .ok (.invokevirtual 335, 3) := by decide +kernel
theorem dJ0_length_8abf5_9 : decode cJ0_length_8abf5 9 = .ok (.ishr, 1) := by decide +kernel
theorem dJ0_length_8abf5_10 : decode cJ0_length_8abf5 10 = .ok (.ireturn, 1) := by decide +kernel
theorem dJ0_charAt_5068e_0 : decode cJ0_charAt_5068e 0 = .ok (.aload_n 0, 1) := by decide +kernel
theorem dJ0_charAt_5068e_1 : decode cJ0_charAt_5068e 1 = .ok (.invokevirtual 492, 3) := by decide +kernel
theorem dJ0_charAt_5068e_4 : decode cJ0_charAt_5068e 4 = .ok (.ifCond .eq 12, 3) := by decide +kernel
theorem dJ0_charAt_5068e_7 : decode cJ0_charAt_5068e 7 = .ok (.aload_n 0, 1) := by decide +kernel
theorem dJ0_charAt_5068e_8 : decode cJ0_charAt_5068e 8 = .ok (.getfield 9, 3) := by decide +kernel
theorem dJ0_charAt_5068e_11 : decode cJ0_charAt_5068e 11 = .ok (.iload_n 1, 1) := by decide +kernel
theorem dJ0_charAt_5068e_12 : decode cJ0_charAt_5068e 12 = .ok (.invokestatic 495, 3) := by decide +kernel
theorem dJ0_charAt_5068e_15 : decode cJ0_charAt_5068e 15 = .ok (.ireturn, 1) := by decide +kernel
theorem dJ0_charAt_5068e_16 : decode cJ0_charAt_5068e 16 = .ok (.aload_n 0, 1) := by decide +kernel
theorem dJ0_charAt_5068e_17 : decode cJ0_charAt_5068e 17 = .ok (.getfield 9, 3) := by decide +kernel
theorem dJ0_charAt_5068e_20 : decode cJ0_charAt_5068e 20 = .ok (.iload_n 1, 1) := by decide +kernel
theorem dJ0_charAt_5068e_21 : decode cJ0_charAt_5068e 21 = .ok (.invokestatic 498, 3) := by decide +kernel
theorem dJ0_charAt_5068e_24 : decode cJ0_charAt_5068e 24 = .ok (.ireturn, 1) := by decide +kernel
theorem dJ0_coder_7d493_0 : decode cJ0_coder_7d493 0 = .ok (.getstatic 38, 3) := by decide +kernel
theorem dJ0_coder_7d493_3 : decode cJ0_coder_7d493 3 = .ok (.ifCond .eq 10, 3) := by decide +kernel
theorem dJ0_coder_7d493_6 : decode cJ0_coder_7d493 6 = .ok (.aload_n 0, 1) := by decide +kernel
theorem dJ0_coder_7d493_7 : decode cJ0_coder_7d493 7 = .ok (.getfield 15, 3) := by decide +kernel
theorem dJ0_coder_7d493_10 : decode cJ0_coder_7d493 10 = .ok (.goto 4, 3) := by decide +kernel
theorem dJ0_coder_7d493_13 : decode cJ0_coder_7d493 13 = .ok (.iconst 1, 1) := by decide +kernel
theorem dJ0_coder_7d493_14 : decode cJ0_coder_7d493 14 = .ok (.ireturn, 1) := by decide +kernel
theorem dJ0_isLatin1_aae02_0 : decode cJ0_isLatin1_aae02 0 = .ok (.getstatic 38, 3) := by decide +kernel
theorem dJ0_isLatin1_aae02_3 : decode cJ0_isLatin1_aae02 3 = .ok (.ifCond .eq 14, 3) := by decide +kernel
theorem dJ0_isLatin1_aae02_6 : decode cJ0_isLatin1_aae02 6 = .ok (.aload_n 0, 1) := by decide +kernel
theorem dJ0_isLatin1_aae02_7 : decode cJ0_isLatin1_aae02 7 = .ok (.getfield 15, 3) := by decide +kernel
theorem dJ0_isLatin1_aae02_10 : decode cJ0_isLatin1_aae02 10 = .ok (.ifCond .ne 7, 3) := by decide +kernel
theorem dJ0_isLatin1_aae02_13 : decode cJ0_isLatin1_aae02 13 = .ok (.iconst 1, 1) := by decide +kernel
theorem dJ0_isLatin1_aae02_14 : decode cJ0_isLatin1_aae02 14 = .ok (.goto 4, 3) := by decide +kernel
theorem dJ0_isLatin1_aae02_17 : decode cJ0_isLatin1_aae02 17 = .ok (.iconst 0, 1) := by decide +kernel
theorem dJ0_isLatin1_aae02_18 : decode cJ0_isLatin1_aae02 18 = .ok (.ireturn, 1) := by decide +kernel
theorem dJ0_checkIndex_df160_0 : decode cJ0_checkIndex_df160 0 = .ok (.iload_n 0, 1) := by decide +kernel
theorem dJ0_checkIndex_df160_1 : decode cJ0_checkIndex_df160 1 = .ok (.iload_n 1, 1) := by decide +kernel
theorem dJ0_checkIndex_df160_2 : decode cJ0_checkIndex_df160 2 = .ok (.getstatic 1053, 3) := by decide +kernel
theorem dJ0_checkIndex_df160_5 : decode cJ0_checkIndex_df160 5 = .ok (.invokestatic 1059, 3) := by decide +kernel
theorem dJ0_checkIndex_df160_8 : decode cJ0_checkIndex_df160 8 = .ok (.pop, 1) := by decide +kernel
theorem dJ0_checkIndex_df160_9 : decode cJ0_checkIndex_df160 9 = .ok (.return_, 1) := by decide +kernel
theorem dJ1_charAt_3b067_0 : decode cJ1_charAt_3b067 0 = .ok (.iload_n 1, 1) := by decide +kernel
theorem dJ1_charAt_3b067_1 : decode cJ1_charAt_3b067 1 = .ok (.aload_n 0, 1) := by decide +kernel
theorem dJ1_charAt_3b067_2 : decode cJ1_charAt_3b067 2 = .ok (.arraylength, 1) := by decide +kernel
theorem dJ1_charAt_3b067_3 : decode cJ1_charAt_3b067 3 = .ok (.invokestatic 9, 3) := by decide +kernel
theorem dJ1_charAt_3b067_6 : decode cJ1_charAt_3b067 6 = .ok (.aload_n 0, 1) := by decide +kernel
theorem dJ1_charAt_3b067_7 : decode cJ1_charAt_3b067 7 = .ok (.iload_n 1, 1) := by decide +kernel
theorem dJ1_charAt_3b067_8 : decode cJ1_charAt_3b067 8 = .ok (.baload, 1) := by decide +kernel
theorem dJ1_charAt_3b067_9 : decode cJ1_charAt_3b067 9 = .ok (.sipush 255, 3) := by decide +kernel
theorem dJ1_charAt_3b067_12 : decode cJ1_charAt_3b067 12 = .ok (.iand, 1) := by decide +kernel
theorem dJ1_charAt_3b067_13 : decode cJ1_charAt_3b067 13 = .ok (.i2c, 1) := by decide +kernel
theorem dJ1_charAt_3b067_14 : decode cJ1_charAt_3b067 14 = .ok (.ireturn, 1) := by decide +kernel
theorem dJ3_checkIndex_8e157_0 : decode cJ3_checkIndex_8e157 0 = .ok (.iload_n 0, 1) := by decide +kernel
theorem dJ3_checkIndex_8e157_1 : decode cJ3_checkIndex_8e157 1 = .ok (.ifCond .lt 8, 3) := by decide +kernel
theorem dJ3_checkIndex_8e157_4 : decode cJ3_checkIndex_8e157 4 = .ok (.iload_n 0, 1) := by decide +kernel
theorem dJ3_checkIndex_8e157_5 : decode cJ3_checkIndex_8e157 5 = .ok (.iload_n 1, 1) := by decide +kernel
theorem dJ3_checkIndex_8e157_6 : decode cJ3_checkIndex_8e157 6 = .ok (.if_icmp .lt 10, 3) := by decide +kernel
theorem dJ3_checkIndex_8e157_9 : decode cJ3_checkIndex_8e157 9 = .ok (.aload_n 2, 1) := by decide +kernel
theorem dJ3_checkIndex_8e157_10 : decode cJ3_checkIndex_8e157 10 = .ok (.iload_n 0, 1) := by decide +kernel
theorem dJ3_checkIndex_8e157_11 : decode cJ3_checkIndex_8e157 11 = .ok (.iload_n 1, 1) := by decide +kernel
theorem dJ3_checkIndex_8e157_12 : decode cJ3_checkIndex_8e157 12 = .ok (.invokestatic 95, 3) := by decide +kernel
theorem dJ3_checkIndex_8e157_15 : decode cJ3_checkIndex_8e157 15 = .ok (.athrow, 1) := by decide +kernel
theorem dJ3_checkIndex_8e157_16 : decode cJ3_checkIndex_8e157 16 = .ok (.iload_n 0, 1) := by decide +kernel
theorem dJ3_checkIndex_8e157_17 : decode cJ3_checkIndex_8e157 17 = .ok (.ireturn, 1) := by decide +kernel
def zT6 : List (Nat × String) := [(29, "the buffer is full"), (40, "length is out of range"), (49, "the text has an error"), (98, "no transaction can begin"), (118, "no such transaction or logical page"), (122, "value is out of range"), (131, "the logical page can't be written"), (139, "there is not enough room"), (145, "power is lost"), (147, "the logical page can't be read"), (158, "no such transaction"), (163, "the transaction can't be committed"), (172, "the transaction can't be aborted"), (184, "no reader can be opened"), (189, "no such open reader or logical page"), (194, "no such open reader"), (199, "the device is off"), (211, "n is out of range"), (228, "there is nothing to recover"), (241, "no such logical page"), (267, "no such block"), (281, "what is out of range"), (286, "no such page")]
def sK : Nat → Nat
  | 0 => 80
  | 1 => 82
  | 2 => 84
  | 3 => 86
  | 4 => 88
  | _ => 90
def sT : Nat → String
  | 0 => "blocks"
  | 1 => "pages"
  | 2 => "logical"
  | 3 => "every"
  | 4 => "fill"
  | _ => ""
def sB : Nat → List Int32
  | 0 => [98, 108, 111, 99, 107, 115]
  | 1 => [112, 97, 103, 101, 115]
  | 2 => [108, 111, 103, 105, 99, 97, 108]
  | 3 => [101, 118, 101, 114, 121]
  | 4 => [102, 105, 108, 108]
  | _ => []
def sL (i : Nat) : Int := ((sB i).length : Int)
def sC (i k : Nat) : Int := ((sB i).getD k 0).toInt
theorem sL_r : ∀ i, i < 6 → 0 ≤ sL i ∧ sL i ≤ 7 := by decide
theorem sC_r : ∀ i, i < 6 → ∀ k, k < 7 → 0 ≤ sC i k ∧ sC i k < 128 := by decide
/-- a String constant of the text at places 100 + i, its bytes at 110 + i -/
def zSt (s : State) (A : Nat → Prop) (H : Heap) (adr : Nat → Nat) (i : Nat) : Prop := vk_R RX2 (sK i) (sT i) (adr (100 + i)) s ∧ va_O "java/lang/String" (adr (100 + i)) A s H ∧ va_OF "java/lang/String" "coder" "B" (.int 0) (adr (100 + i)) A s H ∧ va_OF "java/lang/String" "value" "[B" (.ref (adr (110 + i))) (adr (100 + i)) A s H ∧ va_T .byte (adr (110 + i)) (sB i).length (fun j => .int ((sB i).getD j 0)) A s H
def zS (s : State) (A : Nat → Prop) (adr : Nat → Nat) : Prop :=
  va_Z "java/lang/String" "COMPACT_STRINGS" "Z" (.int 1) A s s.heap ∧ (∃ v : Value, (v = .null ∨ v = .ref 160) ∧ va_Z "jdk/internal/util/Preconditions" "SIOOBE_FORMATTER" "Ljava/util/function/BiFunction;" (cvv adr v) A s s.heap) ∧ (∀ i, i < 6 → zSt s A s.heap adr i) ∧ vx_Zq Bundle.tN "UNASSIGNED_STACK" Bundle.steD A s s.heap ∧ vx_Zq Bundle.tN "SUPPRESSED_SENTINEL" Bundle.listD A s s.heap ∧ ∀ q ∈ zT6, ∃ a, vk_R RX6 q.1 q.2 a s
theorem zS_at {s U : State} {A B : Nat → Prop} {adr : Nat → Nat} {H : Heap} (h : zS s A adr) (hq : ∀ a : Nat, a < s.heap.size → ¬ A a → H[a]? = s.heap[a]?) (hW : s.WarmedH U.vm) (hU : U.heap = H) (hF : ∀ q, B q → A q) : zS U B adr := by
  subst hU
  obtain ⟨h1, ⟨v, hv, h2⟩, h3, h4, h5, h6⟩ := h
  refine ⟨(va_Z.moved hW.alike (h1.kept hq)).narrow hF, ⟨v, hv, (va_Z.moved hW.alike (h2.kept hq)).narrow hF⟩, fun i hi => ?_, (vx_Zq.moved hW.alike (h4.kept hq)).narrow hF, (vx_Zq.moved hW.alike (h5.kept hq)).narrow hF, fun q hq9 => ?_⟩
  · obtain ⟨k1, k2, k3, k4, k5⟩ := h3 i hi
    exact ⟨vk_R.warm hW k1, (va_O.moved hW.alike (k2.kept hq)).narrow hF, (va_OF.moved hW.alike (k3.kept hq)).narrow hF, (va_OF.moved hW.alike (k4.kept hq)).narrow hF, (va_T.moved hW.alike (k5.kept hq)).narrow hF⟩
  · obtain ⟨a, ha⟩ := h6 q hq9
    exact ⟨a, vk_R.warm hW ha⟩
def zGs : zGv := fun _ s _ A adr => zS s A adr
theorem zBlindS {cs : zH → List aC} {D : va_G} {cA : Nat → ClassId} {adr : Nat → Nat} {h : zH} {sz : Nat} {av : List Value} {B : Nat → Prop} : FrameBlind (va_Pc av (fun U => U.heap.size = sz ∧ zB cs D cA adr h (fun _ => True) U ∧ zS U B adr)) := fun a U g mk q => by
  obtain ⟨q0, q1, ⟨qO, qP, qK, qD⟩, qS⟩ := q
  exact ⟨q0, q1, ⟨qO, qP, va_K.moved (u := U) (U := U.calling g mk a) (Vm.Alike.refl U.vm) qK, qD⟩, zS_at (U := U.calling g mk a) qS (fun _ _ _ => rfl) (State.WarmedH.refl U) rfl (fun _ h => h)⟩
/-- contracts of methods that use String constants -/
def zMsi (cs : zH → List aC) (y : MethodName) (b : ByteArray) (nL : Nat) (ret : FieldType) (rm : Room) (as : List Value) (h : zH) (Q : Int → zH → Prop) : Prop :=
  ∀ (l : Launch) (D : va_G) (cA : Nat → ClassId) (adr : Nat → Nat) (sz : Nat), Met l y (zTs y b nL (some ret)) rm (va_Pc (as.map (cvv adr)) (fun U => U.heap.size = sz ∧ zB cs D cA adr h (fun _ => True) U ∧ zS U (va_A (zW cA adr 0 (cs h)) sz) adr)) (zQi cs Q D cA adr (va_A (zW cA adr 0 (cs h)) sz)) 0 0 (va_A (zW cA adr 0 (cs h)) sz)
def zMsv (cs : zH → List aC) (y : MethodName) (b : ByteArray) (nL : Nat) (rm : Room) (as : List Value) (h : zH) (Q : zH → Prop) : Prop :=
  ∀ (l : Launch) (D : va_G) (cA : Nat → ClassId) (adr : Nat → Nat) (sz : Nat), Met l y (zTs y b nL none) rm (va_Pc (as.map (cvv adr)) (fun U => U.heap.size = sz ∧ zB cs D cA adr h (fun _ => True) U ∧ zS U (va_A (zW cA adr 0 (cs h)) sz) adr)) (zQv cs Q D cA adr (va_A (zW cA adr 0 (cs h)) sz)) 0 0 (va_A (zW cA adr 0 (cs h)) sz)
/-- .. that hand back one of the places -/
def zQr (cs : zH → List aC) (r : Nat) (Q : zH → Prop) (D : va_G) (cA : Nat → ClassId) (adr : Nat → Nat) (A : Nat → Prop) : Array Value → State → Outcome → State → Prop := va_Qr (fun h : zH => Q h) (fun (h : zH) a t => a = adr r ∧ zB cs D cA adr h A t) A
def zMsr (cs : zH → List aC) (y : MethodName) (b : ByteArray) (nL : Nat) (ret : FieldType) (rm : Room) (as : List Value) (h : zH) (r : Nat) (Q : zH → Prop) : Prop :=
  ∀ (l : Launch) (D : va_G) (cA : Nat → ClassId) (adr : Nat → Nat) (sz : Nat), Met l y (zTs y b nL (some ret)) rm (va_Pc (as.map (cvv adr)) (fun U => U.heap.size = sz ∧ zB cs D cA adr h (fun _ => True) U ∧ zS U (va_A (zW cA adr 0 (cs h)) sz) adr)) (zQr cs r Q D cA adr (va_A (zW cA adr 0 (cs h)) sz)) 0 0 (va_A (zW cA adr 0 (cs h)) sz)
def zEr (cs : zH → List aC) (r : Nat) (Q : zH → Prop) : zF := fun below args s A D cA adr => MQ below (zQr cs r Q D cA adr A) args s 0 0 A
theorem zMsi_of {cs : zH → List aC} {y : MethodName} {b : ByteArray} {nL : Nat} {r : FieldType} {rm : Room} {as : List Value} {h : zH} {Q : Int → zH → Prop} (ls0 : List (Option Value)) (hy : plainName y.cls = true) (hln : ∀ adr : Nat → Nat, (lg_sl (as.map (cvv adr))).length ≤ nL) (hla : ∀ adr : Nat → Nat, lv_args 0 (as.map (cvv adr)) = zL adr 0 ls0)
    (k : zX cs zGs y.cls b nL (some r) rm 0 ls0 [] h (zEi cs Q)) : zMsi cs y b nL r rm as h Q := by
  intro l D cA adr sz
  refine Met.ofW (cc := b) (maxL := nL) (ret := some r) hy rfl ?_
  intro p e s m args below meth c s₁ B hml hv
  obtain ⟨rfl, hsz, ⟨hO, hP, hK, hD0⟩, hZ⟩ := hv
  have hts := atoms_spec (ws := zTs y b nL (some r)) B.pre
  subst hsz
  have hl := lv_entry (as.map (cvv adr)) (n := nL) (hln adr)
  rw [lg_entry_eq]
  rw [hla adr] at hl
  exact k p l e s m _ below meth c D cA adr _ s.heap [] _ ⟨B.exec, B.bytes, B.returns, hml, findClass_of_methodNamed B.named, fun w hw => hts w (List.mem_cons_of_mem _ hw), B.notSynchronized⟩ (fun q hq => Or.inr hq) hZ hO hK hP hD0.self va_S.rf hl
theorem zMsv_of {cs : zH → List aC} {y : MethodName} {b : ByteArray} {nL : Nat} {rm : Room} {as : List Value} {h : zH} {Q : zH → Prop} (ls0 : List (Option Value)) (hy : plainName y.cls = true) (hln : ∀ adr : Nat → Nat, (lg_sl (as.map (cvv adr))).length ≤ nL) (hla : ∀ adr : Nat → Nat, lv_args 0 (as.map (cvv adr)) = zL adr 0 ls0)
    (k : zX cs zGs y.cls b nL none rm 0 ls0 [] h (zEv cs Q)) : zMsv cs y b nL rm as h Q := by
  intro l D cA adr sz
  refine Met.ofW (cc := b) (maxL := nL) (ret := none) hy rfl ?_
  intro p e s m args below meth c s₁ B hml hv
  obtain ⟨rfl, hsz, ⟨hO, hP, hK, hD0⟩, hZ⟩ := hv
  have hts := atoms_spec (ws := zTs y b nL none) B.pre
  subst hsz
  have hl := lv_entry (as.map (cvv adr)) (n := nL) (hln adr)
  rw [lg_entry_eq]
  rw [hla adr] at hl
  exact k p l e s m _ below meth c D cA adr _ s.heap [] _ ⟨B.exec, B.bytes, B.returns, hml, findClass_of_methodNamed B.named, fun w hw => hts w (List.mem_cons_of_mem _ hw), B.notSynchronized⟩ (fun q hq => Or.inr hq) hZ hO hK hP hD0.self va_S.rf hl
theorem zMsr_of {cs : zH → List aC} {y : MethodName} {b : ByteArray} {nL : Nat} {r : FieldType} {rm : Room} {as : List Value} {h : zH} {rp : Nat} {Q : zH → Prop} (ls0 : List (Option Value)) (hy : plainName y.cls = true) (hln : ∀ adr : Nat → Nat, (lg_sl (as.map (cvv adr))).length ≤ nL) (hla : ∀ adr : Nat → Nat, lv_args 0 (as.map (cvv adr)) = zL adr 0 ls0)
    (k : zX cs zGs y.cls b nL (some r) rm 0 ls0 [] h (zEr cs rp Q)) : zMsr cs y b nL r rm as h rp Q := by
  intro l D cA adr sz
  refine Met.ofW (cc := b) (maxL := nL) (ret := some r) hy rfl ?_
  intro p e s m args below meth c s₁ B hml hv
  obtain ⟨rfl, hsz, ⟨hO, hP, hK, hD0⟩, hZ⟩ := hv
  have hts := atoms_spec (ws := zTs y b nL (some r)) B.pre
  subst hsz
  have hl := lv_entry (as.map (cvv adr)) (n := nL) (hln adr)
  rw [lg_entry_eq]
  rw [hla adr] at hl
  exact k p l e s m _ below meth c D cA adr _ s.heap [] _ ⟨B.exec, B.bytes, B.returns, hml, findClass_of_methodNamed B.named, fun w hw => hts w (List.mem_cons_of_mem _ hw), B.notSynchronized⟩ (fun q hq => Or.inr hq) hZ hO hK hP hD0.self va_S.rf hl
section ZS
variable {cs : zH → List aC} {G : zGv} {own : String} {cc : ByteArray} {nL : Nat} {ret : Option FieldType} {rm : Room} {pc : Nat} {ls : List (Option Value)} {st st0 : List Value} {h : zH} {E : zF}
theorem zx_aret {r : Nat} {rt : FieldType} {Q : zH → Prop} (hrt : (∃ n, rt = .object n) ∨ ∃ t, rt = .array t) (hd : decode cc pc = .ok (.areturn, 1)) (hq : Q h) : zX cs G own cc nL (some rt) rm pc ls [.ref r] h (zEr cs r Q) := by
  intro p l e s m args below meth c D cA adr A H locs lsa C hA hG hO hK hP hD hS hl
  have hlocks : meth.locks = false := C.2.2.2.2.2.2
  exact W.aret (v := .ref (adr r)) C.1 C.2.1 C.2.2.1 hrt (Or.inr ⟨_, rfl⟩) (fun t ht hW => ⟨⟨h, adr r, rfl, hq, rfl, ⟨hO, by rw [ht]; exact hP, va_K.moved hW.alike hK, hD⟩⟩, hS.F ht⟩) hS.2.2 hd
theorem zx_nret {z : Int} {ty : FieldType} {Q : Int → zH → Prop} (hd : decode cc pc = .ok (.ireturn, 1)) (hz : -2147483648 ≤ z ∧ z < 2147483648) (hn : narrow ty (.int (iI z)) = .int (iI z)) (hq : Q z h) : zX cs G own cc nL (some ty) rm pc ls [.int (iI z)] h (zEi cs Q) := by
  intro p l e s m args below meth c D cA adr A H locs lsa C hA hG hO hK hP hD hS hl
  have hlocks : meth.locks = false := C.2.2.2.2.2.2
  exact W.zret (v := iI z) C.1 C.2.1 C.2.2.1 hn (fun t ht hW => ⟨⟨iI z, h, rfl, ⟨z, rfl, hz, hq⟩, ⟨hO, by rw [ht]; exact hP, va_K.moved hW.alike hK, hD⟩⟩, hS.F ht⟩) hS.2.2 hd
theorem zx_ldcS {i : Nat} (hGS : ∀ l s c A adr, G l s c A adr → zS s A adr) (hi : i < 6) (hd : decode cc pc = .ok (.ldc (sK i), 2)) (ho : own = RX2)
    (k : zX cs G own cc nL ret rm (pc + 2) ls (.ref (100 + i) :: st) h E) : zX cs G own cc nL ret rm pc ls st h E := by
  intro p l e s m args below meth c D cA adr A H locs lsa C hA hG hO hK hP hD hS hl
  have z := (hGS _ _ _ _ _ hG).2.2.1 i hi
  exact va_ldcS (own := RX2) C.1 C.2.1 (by rw [← ho]; exact C.2.2.2.2.1) z.1 hd (k p l e s m args below meth c D cA adr A H locs lsa C hA hG hO hK hP hD hS hl)
theorem zx_getV {i : Nat} (hGS : ∀ l s c A adr, G l s c A adr → zS s A adr) (hi : i < 6) (hw : Cond.fieldLink own 9 "java/lang/String" "value" "[B" ∈ zU) (hd : decode cc pc = .ok (.getfield 9, 3))
    (k : zX cs G own cc nL ret rm (pc + 3) ls (.ref (110 + i) :: st) h E) : zX cs G own cc nL ret rm pc ls (.ref (100 + i) :: st) h E := by
  intro p l e s m args below meth c D cA adr A H locs lsa C hA hG hO hK hP hD hS hl
  have z := (hGS _ _ _ _ _ hG).2.2.1 i hi
  exact vk_getf C.1 C.2.1 z.2.2.2.1 hS C.2.2.2.2.1 (C.2.2.2.2.2.1 _ hw) (fun _ h9 => h9) hd (k p l e s m args below meth c D cA adr A H locs lsa C hA hG hO hK hP hD hS hl)
theorem zx_getC {i : Nat} (hGS : ∀ l s c A adr, G l s c A adr → zS s A adr) (hi : i < 6) (hw : Cond.fieldLink own 15 "java/lang/String" "coder" "B" ∈ zU) (hd : decode cc pc = .ok (.getfield 15, 3))
    (k : zX cs G own cc nL ret rm (pc + 3) ls (.int (iI 0) :: st) h E) : zX cs G own cc nL ret rm pc ls (.ref (100 + i) :: st) h E := by
  intro p l e s m args below meth c D cA adr A H locs lsa C hA hG hO hK hP hD hS hl
  have z := (hGS _ _ _ _ _ hG).2.2.1 i hi
  exact vk_getf C.1 C.2.1 z.2.2.1 hS C.2.2.2.2.1 (C.2.2.2.2.2.1 _ hw) (fun _ h9 => h9) hd (k p l e s m args below meth c D cA adr A H locs lsa C hA hG hO hK hP hD hS hl)
theorem zx_getCS (hGS : ∀ l s c A adr, G l s c A adr → zS s A adr) (hw : Cond.fieldLink own 38 "java/lang/String" "COMPACT_STRINGS" "Z" ∈ zU) (hd : decode cc pc = .ok (.getstatic 38, 3))
    (k : zX cs G own cc nL ret rm (pc + 3) ls (.int (iI 1) :: st) h E) : zX cs G own cc nL ret rm pc ls st h E := by
  intro p l e s m args below meth c D cA adr A H locs lsa C hA hG hO hK hP hD hS hl
  exact va_gets C.1 C.2.1 (hGS _ _ _ _ _ hG).1 hS C.2.2.2.2.1 (C.2.2.2.2.2.1 _ hw) (fun _ h9 => h9) hd (k p l e s m args below meth c D cA adr A H locs lsa C hA hG hO hK hP hD hS hl)
theorem zx_getFm (hGS : ∀ l s c A adr, G l s c A adr → zS s A adr) (hw : Cond.fieldLink own 1053 "jdk/internal/util/Preconditions" "SIOOBE_FORMATTER" "Ljava/util/function/BiFunction;" ∈ zU) (hd : decode cc pc = .ok (.getstatic 1053, 3))
    (k : ∀ v : Value, (v = .null ∨ v = .ref 160) → zX cs G own cc nL ret rm (pc + 3) ls (v :: st) h E) : zX cs G own cc nL ret rm pc ls st h E := by
  intro p l e s m args below meth c D cA adr A H locs lsa C hA hG hO hK hP hD hS hl
  obtain ⟨v, hv, hz⟩ := (hGS _ _ _ _ _ hG).2.1
  exact va_gets C.1 C.2.1 hz hS C.2.2.2.2.1 (C.2.2.2.2.2.1 _ hw) (fun _ h9 => h9) hd (k v hv p l e s m args below meth c D cA adr A H locs lsa C hA hG hO hK hP hD hS hl)
theorem zx_slen {i : Nat} (hGS : ∀ l s c A adr, G l s c A adr → zS s A adr) (hi : i < 6) (hd : decode cc pc = .ok (.arraylength, 1))
    (k : zX cs G own cc nL ret rm (pc + 1) ls (.int (iI (sL i)) :: st) h E) : zX cs G own cc nL ret rm pc ls (.ref (110 + i) :: st) h E := by
  intro p l e s m args below meth c D cA adr A H locs lsa C hA hG hO hK hP hD hS hl
  have z := (hGS _ _ _ _ _ hG).2.2.1 i hi
  exact va_tlen C.1 C.2.1 z.2.2.2.2 hS (v := iI (sL i)) (by have : ∀ j, j < 6 → Int32.ofNat (sB j).length = iI (sL j) := by decide +kernel
                                                            exact this i hi) hd (k p l e s m args below meth c D cA adr A H locs lsa C hA hG hO hK hP hD hS hl)
theorem zx_sbal {i : Nat} {j : Int} (hGS : ∀ l s c A adr, G l s c A adr → zS s A adr) (hi : i < 6) (j0 : 0 ≤ j) (j1 : j < sL i) (hd : decode cc pc = .ok (.baload, 1))
    (k : zX cs G own cc nL ret rm (pc + 1) ls (.int (iI (sC i j.toNat)) :: st) h E) : zX cs G own cc nL ret rm pc ls (.int (iI j) :: .ref (110 + i) :: st) h E := by
  intro p l e s m args below meth c D cA adr A H locs lsa C hA hG hO hK hP hD hS hl
  have z := (hGS _ _ _ _ _ hG).2.2.1 i hi
  have r := sL_r i hi
  exact va_tb C.1 C.2.1 z.2.2.2.2 hS (zvp j0 j1 (by omega)) (v := .int (iI (sC i j.toNat))) (by rw [zclamp j0 (by omega)]; unfold sC; rw [iI_asI]) hd (k p l e s m args below meth c D cA adr A H locs lsa C hA hG hO hK hP hD hS hl)
theorem zx_i2c {a : Int} (hd : decode cc pc = .ok (.i2c, 1)) (ha : ((iI a).toUInt32 % 65536).toInt32 = iI a)
    (k : zX cs G own cc nL ret rm (pc + 1) ls (.int (iI a) :: st) h E) : zX cs G own cc nL ret rm pc ls (.int (iI a) :: st) h E := by
  intro p l e s m args below meth c D cA adr A H locs lsa C hA hG hO hK hP hD hS hl
  exact lv_i2c C.1 C.2.1 hd ha (k p l e s m args below meth c D cA adr A H locs lsa C hA hG hO hK hP hD hS hl)
/-- a call of a String's own method -/
theorem zx_invStr {y : MethodName} {b : ByteArray} {nL2 idx n i : Nat} {rm2 : Room} {as : List Value} {r2 : FieldType} {Q : Int → zH → Prop} (hGS : ∀ l s c A adr, G l s c A adr → zS s A adr) (hi : i < 6) (hd : decode cc pc = .ok (.invokevirtual idx, 3)) (hlk : Cond.methodLink own idx y ∈ zU) (hcal : zCal RJ0 y b nL2 (some r2)) (hlen : as.length = n ∧ (parseMethodDescriptor y.desc).map (fun d => d.parameters.length) = some n) (hrc : rm2.cells = 0 ∧ rm2.slots = 0) (hR : rm2.frames + 1 ≤ rm.frames ∧ 8 + (nL2 + 11) + rm2.locals ≤ rm.locals) (hM : zMsi cs y b nL2 r2 rm2 (.ref (100 + i) :: as) h Q) (hst : st0 = as.reverse ++ .ref (100 + i) :: st) (hcat : (st.map fun v => v.category).sum ≤ 8)
    (k : ∀ (z : Int) (h2 : zH), -2147483648 ≤ z → z < 2147483648 → Q z h2 → zX cs G own cc nL ret rm (pc + 3) ls (.int (iI z) :: st) h2 E) : zX cs G own cc nL ret rm pc ls st0 h E := by
  intro p l e s m args below meth c D cA adr A H locs lsa C hA hG hO hK hP hD hS hl
  subst hst
  have hF := zFree hD hS hA
  have hZ := hGS _ _ _ _ _ hG
  have z9 := hZ.2.2.1 i hi
  have hrec : ∃ cell : Cell, H[adr (100 + i)]? = some cell ∧ cell.vm.isStatics = false ∧ s.vm.findClass RJ0 = some cell.cls := by
    obtain ⟨cell, h1, h2, h3, -⟩ := z9.2.1.kept hS.2.1
    exact ⟨cell, h1, h2, h3⟩
  refine va_calli (va_runV (As := as.map (cvv adr)) (rest := st.map (cvv adr)) (n := n) ⟨C.1, C.2.1, C.2.2.2.1, C.2.2.2.2.1, C.2.2.2.2.2.1⟩ (hM l D cA adr H.size) (cwV n C.2.2.2.2.2.1 (zCal_good hlk hcal) rfl hrc.1 hrc.2 ⟨hcal.2.2.2.2.1.1, hcal.2.2.2.2.1.2.1, hcal.2.2.2.2.1.2.2, hlen.2⟩ hR) ⟨zBlindS, hrec, fun U hU hW => ⟨rfl, by rw [hU], ⟨hO, by rw [hU]; exact hP, va_K.moved hW.alike hK, hD.weaken (fun _ _ _ _ => trivial)⟩, zS_at hZ hS.2.1 hW hU hF⟩⟩ rfl (by rw [List.length_map]; exact hlen.1) hl.1 (by rw [List.map_append, List.map_reverse]; rfl) (lv_room (by rw [zCats]; exact hcat)) hd ⟨Nat.zero_le _, Nat.zero_le _⟩) hS (fun q9 _ h9 => hF q9 h9) hF (fun r u t H1 locs1 ht hvm hw hB hz1 hk1 hS1 => ?_)
  obtain ⟨z, rfl, rz, hw⟩ := hw
  obtain ⟨hO1, hP1, hK1, hD1⟩ := hB
  exact k z u rz.1 rz.2 hw p l e s m args below meth c D cA adr A H1 locs1 lsa C hA hG hO1 hK (by rw [← ht]; exact hP1) (hD1.weaken (fun k9 q9 _ h9 => hF q9.1 h9)) hS1 hl
theorem zx_invSsi {C0 : String} {y : MethodName} {b : ByteArray} {nL2 idx n : Nat} {rm2 : Room} {as : List Value} {r2 : FieldType} {Q : Int → zH → Prop} (hGS : ∀ l s c A adr, G l s c A adr → zS s A adr) (hd : decode cc pc = .ok (.invokestatic idx, 3)) (hlk : Cond.methodLink own idx y ∈ zU) (hcal : zSta C0 y b nL2 (some r2)) (hlen : as.length = n ∧ (parseMethodDescriptor y.desc).map (fun d => d.parameters.length) = some n) (hrc : rm2.cells = 0 ∧ rm2.slots = 0) (hR : rm2.frames + 1 ≤ rm.frames ∧ 8 + (nL2 + 11) + rm2.locals ≤ rm.locals) (hM : zMsi cs y b nL2 r2 rm2 as h Q) (hst : st0 = as.reverse ++ st) (hcat : (st.map fun v => v.category).sum ≤ 8)
    (k : ∀ (z : Int) (h2 : zH), -2147483648 ≤ z → z < 2147483648 → Q z h2 → zX cs G own cc nL ret rm (pc + 3) ls (.int (iI z) :: st) h2 E) : zX cs G own cc nL ret rm pc ls st0 h E := by
  intro p l e s m args below meth c D cA adr A H locs lsa C hA hG hO hK hP hD hS hl
  subst hst
  have hF := zFree hD hS hA
  have hZ := hGS _ _ _ _ _ hG
  refine va_calli (va_runS (As := as.map (cvv adr)) (rest := st.map (cvv adr)) (n := n) ⟨C.1, C.2.1, C.2.2.2.1, C.2.2.2.2.1, C.2.2.2.2.2.1⟩ (hM l D cA adr H.size) (va_cwS n C.2.2.2.2.2.1 (zStb_good hlk hcal) rfl hrc.1 hrc.2 ⟨hcal.2.2.2.1.2.1, hcal.2.2.2.1.2.2, hlen.2⟩ hR) ⟨zBlindS, fun U hU hW => ⟨rfl, by rw [hU], ⟨hO, by rw [hU]; exact hP, va_K.moved hW.alike hK, hD.weaken (fun _ _ _ _ => trivial)⟩, zS_at hZ hS.2.1 hW hU hF⟩⟩ rfl (by rw [List.length_map]; exact hlen.1) hl.1 (by rw [List.map_append, List.map_reverse]) (lv_room (by rw [zCats]; exact hcat)) hd ⟨Nat.zero_le _, Nat.zero_le _⟩) hS (fun q9 _ h9 => hF q9 h9) hF (fun r u t H1 locs1 ht hvm hw hB hz1 hk1 hS1 => ?_)
  obtain ⟨z, rfl, rz, hw⟩ := hw
  obtain ⟨hO1, hP1, hK1, hD1⟩ := hB
  exact k z u rz.1 rz.2 hw p l e s m args below meth c D cA adr A H1 locs1 lsa C hA hG hO1 hK (by rw [← ht]; exact hP1) (hD1.weaken (fun k9 q9 _ h9 => hF q9.1 h9)) hS1 hl
theorem zx_invSsv {C0 : String} {y : MethodName} {b : ByteArray} {nL2 idx n : Nat} {rm2 : Room} {as : List Value} {Q : zH → Prop} (hGS : ∀ l s c A adr, G l s c A adr → zS s A adr) (hd : decode cc pc = .ok (.invokestatic idx, 3)) (hlk : Cond.methodLink own idx y ∈ zU) (hcal : zSta C0 y b nL2 none) (hlen : as.length = n ∧ (parseMethodDescriptor y.desc).map (fun d => d.parameters.length) = some n) (hrc : rm2.cells = 0 ∧ rm2.slots = 0) (hR : rm2.frames + 1 ≤ rm.frames ∧ 8 + (nL2 + 11) + rm2.locals ≤ rm.locals) (hM : zMsv cs y b nL2 rm2 as h Q) (hst : st0 = as.reverse ++ st) (hcat : (st.map fun v => v.category).sum ≤ 8)
    (k : ∀ h2 : zH, Q h2 → zX cs G own cc nL ret rm (pc + 3) ls st h2 E) : zX cs G own cc nL ret rm pc ls st0 h E := by
  intro p l e s m args below meth c D cA adr A H locs lsa C hA hG hO hK hP hD hS hl
  subst hst
  have hF := zFree hD hS hA
  have hZ := hGS _ _ _ _ _ hG
  refine va_callv (va_runS (As := as.map (cvv adr)) (rest := st.map (cvv adr)) (n := n) ⟨C.1, C.2.1, C.2.2.2.1, C.2.2.2.2.1, C.2.2.2.2.2.1⟩ (hM l D cA adr H.size) (va_cwS n C.2.2.2.2.2.1 (zStb_good hlk hcal) rfl hrc.1 hrc.2 ⟨hcal.2.2.2.1.2.1, hcal.2.2.2.1.2.2, hlen.2⟩ hR) ⟨zBlindS, fun U hU hW => ⟨rfl, by rw [hU], ⟨hO, by rw [hU]; exact hP, va_K.moved hW.alike hK, hD.weaken (fun _ _ _ _ => trivial)⟩, zS_at hZ hS.2.1 hW hU hF⟩⟩ rfl (by rw [List.length_map]; exact hlen.1) hl.1 (by rw [List.map_append, List.map_reverse]) (lv_room (by rw [zCats]; exact hcat)) hd ⟨Nat.zero_le _, Nat.zero_le _⟩) hS (fun q9 _ h9 => hF q9 h9) hF (fun u t H1 locs1 ht hvm hw hB hz1 hk1 hS1 => ?_)
  obtain ⟨hO1, hP1, hK1, hD1⟩ := hB
  exact k u hw p l e s m args below meth c D cA adr A H1 locs1 lsa C hA hG hO1 hK (by rw [← ht]; exact hP1) (hD1.weaken (fun k9 q9 _ h9 => hF q9.1 h9)) hS1 hl
end ZS
theorem hGs : ∀ l s c A adr, zGs l s c A adr → zS s A adr := fun _ _ _ _ _ h => h

