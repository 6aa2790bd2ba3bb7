/-! constructors: calls -/
theorem nOI : Cond.instanceMethod Lib.objectInit ∈ zU := zm1 (i := 27) (by decide +kernel) rfl
theorem nOC : Cond.code Lib.objectInit ⟨#[0xb1]⟩ 1 none ∈ zU := zm1 (i := 28) (by decide +kernel) rfl
def nC (y : MethodName) (cc : ByteArray) (rm : Room) (ci : Nat) (dflt : List Value) (r : List aC) (mc ms : Nat) : Prop :=
  ∀ (l : Launch) (D : va_G) (cA : Nat → ClassId) (a sz : Nat), Met l y (zTs y cc 1 none) rm (va_Pc [.ref a] (fun U => U.heap.size = sz ∧ va_P D vwCl [(a, .inr (ci, dflt))] U.heap ∧ va_K D vwCl (zT cA) U ∧ va_D (fun _ => True) [(a, .inr (ci, dflt))] ∧ nNw U))
    (va_Qv (fun _ : Unit => True) (fun _ t => va_P D vwCl (zW cA (nA a sz) 0 r) t.heap ∧ va_D (va_A [(a, .inr (ci, dflt))] sz) (zW cA (nA a sz) 0 r) ∧ t.heap.size + 1 = sz + r.length) (va_A [(a, .inr (ci, dflt))] sz)) mc ms (va_A [(a, .inr (ci, dflt))] sz)
def nE (r : List aC) (mc ms : Nat) : zF := fun below args s A D cA adr => MQ below (va_Qv (fun _ : Unit => True) (fun _ t => va_P D vwCl (zW cA adr 0 r) t.heap ∧ va_D A (zW cA adr 0 r) ∧ t.heap.size + 1 = s.heap.size + r.length) A) args s mc ms A
theorem nC_of {y : MethodName} {cc : ByteArray} {rm : Room} {ci : Nat} {dflt : List Value} {r : List aC} {mc ms : Nat} (hy : plainName y.cls = true) (hy1 : y.name = "<init>") (hmp : ∀ adr : Nat → Nat, dflt.map (cvv adr) = dflt)
    (k : nX nGi 1 y.cls cc 1 none rm [.inl (ci, dflt)] 0 0 0 (fun adr => [(0, .ref (adr 0))]) [] (nE r mc ms)) : nC y cc rm ci dflt r mc ms := by
  intro l D cA a sz
  refine Met.ofW (cc := cc) (maxL := 1) (ret := none) hy rfl ?_
  intro p e s m args below meth c s₁ B hml hv
  obtain ⟨rfl, hsz, hP, hK, hD0, hN⟩ := hv
  have hts := atoms_spec (ws := zTs y cc 1 none) B.pre
  have hin : meth.name = "<init>" := (name_of_methodNamed B.named B.method).1.trans hy1
  subst hsz
  have hl := lv_entry ([.ref a]) (n := 1) (Nat.le_of_ble_eq_true rfl)
  rw [lg_entry_eq]
  have ew : zW cA (nA a s.heap.size) 0 [.inl (ci, dflt)] = [(a, .inr (ci, dflt))] := by
    show [(a, Sum.inr (ci, dflt.map (cvv (nA a s.heap.size))))] = _
    rw [hmp]
  exact k p l e s m _ below meth c D cA (nA a s.heap.size) _ s.heap [] _ ⟨B.exec, B.bytes, B.returns, hml, findClass_of_methodNamed B.named, fun w hw => hts w (List.mem_cons_of_mem _ hw), B.notSynchronized⟩ hin hN (fun q hq => Or.inr hq) (fun k hk => by show (if k = 0 then a else s.heap.size + (k - 1)) = _; rw [if_neg (by omega)]) hK (by rw [ew]; exact hP) (by rw [ew]; exact hD0.self) va_S.rf rfl (Nat.le_refl 1) hl
section NXC
variable {G : nGv} {b : Nat} {own : String} {cc : ByteArray} {nL : Nat} {ret : Option FieldType} {rm : Room} {l : List aC} {c9 s9 pc : Nat} {ls : (Nat → Nat) → List (Nat × Value)} {st st0 : List Value} {E : zF}
theorem nx_vret {r : List aC} {mc ms : Nat} (hd : decode cc pc = .ok (.return_, 1)) (hr : l = r ∧ c9 = mc ∧ s9 = ms) : nX G 1 own cc nL none rm l c9 s9 pc ls [] (nE r mc ms) := by
  intro p l_ e s m args below meth c D cA adr A H locs lsa C hn hN9 hA hB hK hP hD hS hz hb hl
  obtain ⟨rfl, rfl, rfl⟩ := hr
  have hlocks : meth.locks = false := C.2.2.2.2.2.2
  exact W.vret C.1 C.2.1 C.2.2.1 (fun t ht hW => ⟨⟨(), rfl, trivial, by rw [ht]; exact hP, hD, by rw [ht]; exact hz⟩, hS.F ht⟩) hS.2.2 hd
theorem nx_obj {idx : Nat} {q : Nat} (hd : decode cc pc = .ok (.invokespecial idx, 3)) (hlk : Cond.methodLink own idx Lib.objectInit ∈ zU) (hR : 1 ≤ rm.frames ∧ 12 ≤ rm.locals) (k : nX G b own cc nL ret rm l c9 s9 (pc + 3) ls [] E) : nX G b own cc nL ret rm l c9 s9 pc ls [.ref q] E := by
  intro p l_ e s m args below meth c D cA adr A H locs lsa C hn hN9 hA hB hK hP hD hS hz hb hl
  refine W.objInit C.1 C.2.1 C.2.2.2.2.1 (C.2.2.2.2.2.1 _ hlk) (C.2.2.2.2.2.1 _ nOI) (C.2.2.2.2.2.1 _ nOC) rfl (by rw [C.2.2.2.1]; exact hl.1) rfl hd hR.1 hR.2 ?_
  exact k p l_ e s m args below meth c D cA adr A H locs lsa C hn hN9 hA hB hK hP hD hS hz hb hl
theorem nBlind {D : va_G} {cA : Nat → ClassId} {ws : va_W} {sz : Nat} {av : List Value} : FrameBlind (va_Pc av (fun U => U.heap.size = sz ∧ va_P D vwCl ws U.heap ∧ va_K D vwCl (zT cA) U ∧ va_D (fun _ => True) ws ∧ nNw U)) := fun a U g mk q => by
  obtain ⟨q0, q1, qP, qK, qD, qN⟩ := q
  exact ⟨q0, q1, qP, va_K.moved (u := U) (U := U.calling g mk a) (Vm.Alike.refl U.vm) qK, qD, nNw_at (U := U.calling g mk a) qN (State.WarmedH.refl U)⟩
theorem nTake {A : Nat → Prop} {D : va_G} {cA : Nat → ClassId} {adr : Nat → Nat} {l0 r : List aC} {ci b sz : Nat} {dflt : List Value} {H H1 : Heap} (hmp : ∀ adr : Nat → Nat, dflt.map (cvv adr) = dflt) (hB : nAd b sz adr) (hz : H.size + b = sz + (l0 ++ [Sum.inl (ci, dflt)] : List aC).length) (hb : b ≤ (l0 ++ [Sum.inl (ci, dflt)] : List aC).length)
    (hP : va_P D vwCl (zW cA adr 0 (l0 ++ [.inl (ci, dflt)])) H) (hD : va_D A (zW cA adr 0 (l0 ++ [.inl (ci, dflt)]))) (hA : ∀ q : Nat, H.size ≤ q → A q) :
    (∀ q, va_A [(adr l0.length, .inr (ci, dflt))] H.size q → A q) ∧ va_P D vwCl [(adr l0.length, .inr (ci, dflt))] H ∧ va_D (fun _ => True) [(adr l0.length, .inr (ci, dflt))] ∧
    (va_P D vwCl (zW cA (nA (adr l0.length) H.size) 0 r) H1 → va_D (va_A [(adr l0.length, .inr (ci, dflt))] H.size) (zW cA (nA (adr l0.length) H.size) 0 r) → (∀ q : Nat, q < H.size → ¬ va_A [(adr l0.length, .inr (ci, dflt))] H.size q → H1[q]? = H[q]?) → va_P D vwCl (zW cA adr 0 (l0 ++ r.map (shC l0.length))) H1 ∧ va_D A (zW cA adr 0 (l0 ++ r.map (shC l0.length)))) := by
  have ew : zW cA adr 0 (l0 ++ [.inl (ci, dflt)]) = zW cA adr 0 l0 ++ [(adr l0.length, .inr (ci, dflt))] := by
    rw [zW_app, Nat.zero_add]
    show _ ++ [(adr l0.length, Sum.inr (ci, dflt.map (cvv adr)))] = _
    rw [hmp]
  rw [ew] at hP hD
  rw [List.length_append] at hz hb
  simp only [List.length_cons, List.length_nil] at hz hb
  have hDx := lD_r hD
  have hPx := lP_r hP
  refine ⟨fun q hq => ?_, hPx, hDx.weaken (fun _ _ _ _ => trivial), fun hP1 hD1 hk => ?_⟩
  · rcases hq with ⟨j, e, hj⟩ | hq
    · exact hDx.2 j (q, e) hj
    · exact hA q hq
  · have e2 : ∀ j, nA (adr l0.length) H.size j = adr (l0.length + j) := by
      intro j
      show (if j = 0 then adr l0.length else H.size + (j - 1)) = _
      by_cases c : j = 0
      · subst c; rfl
      · rw [if_neg c, hB _ (by omega)]
        omega
    have e3 := zW_sh (cA := cA) e2 r 0
    rw [e3] at hP1 hD1
    have hP0 : va_P D vwCl ([(adr l0.length, .inr (ci, dflt))] ++ zW cA adr 0 l0) H := va_P.app hPx (lP_l hP)
    obtain ⟨p1, d1⟩ := LFR hP0 (lD_sw hD) hP1 hD1 hk (fun _ h => h) hA
    rw [zW_app, Nat.zero_add]
    exact ⟨va_P.app (lP_r p1) (lP_l p1), lD_sw d1⟩
theorem nx_call {y : MethodName} {c2 : ByteArray} {rm2 : Room} {idx ci mc ms : Nat} {dflt : List Value} {l0 r l2 : List aC} {ca sa : Nat} (hM : nC y c2 rm2 ci dflt r mc ms) (hd : decode cc pc = .ok (.invokespecial idx, 3)) (hlk : (own, idx, y) ∈ nNl ∨ Cond.methodLink own idx y ∈ zU) (hin : Cond.instanceMethod y ∈ zU) (hco : Cond.code y c2 1 none ∈ zU) (hini : Cond.initialized y.cls ∈ zU) (hy1 : y.name = "<init>") (hy : y.cls ≠ "java/lang/invoke/MethodHandle" ∧ y.cls ≠ "java/lang/invoke/VarHandle" ∧ (parseMethodDescriptor y.desc).map (fun d => d.parameters.length) = some 0) (hmp : ∀ adr : Nat → Nat, dflt.map (cvv adr) = dflt) (hrc : rm2.cells = mc ∧ rm2.slots = ms) (hR : rm2.frames + 1 ≤ rm.frames ∧ 8 + (1 + 11) + rm2.locals ≤ rm.locals)
    (hl0 : l = l0 ++ [.inl (ci, dflt)] ∧ l0 ++ r.map (shC l0.length) = l2) (hc : c9 + mc = ca ∧ ca ≤ rm.cells) (hs : s9 + ms = sa ∧ sa ≤ rm.slots) (hst : st0 = .ref l0.length :: st) (hcat : (st.map fun v => v.category).sum ≤ 8) (k : nX G b own cc nL ret rm l2 ca sa (pc + 3) ls st E) : nX G b own cc nL ret rm l c9 s9 pc ls st0 E := by
  intro p l_ e s m args below meth c D cA adr A H locs lsa C hn hN9 hA hB hK hP hD hS hz hb hl
  obtain ⟨rfl, rfl⟩ := hl0
  obtain ⟨rfl, hc⟩ := hc
  obtain ⟨rfl, hs⟩ := hs
  subst hst
  have wd := C.2.2.2.2.2.1
  have hAH : ∀ q : Nat, H.size ≤ q → A q := fun q h => hA q (Nat.le_trans hS.1 h)
  have T := fun H1 => nTake (A := A) (D := D) (cA := cA) (adr := adr) (r := r) (H1 := H1) hmp hB hz hb hP hD hAH
  obtain ⟨hF, hPx, hDx, -⟩ := T H
  have pre : PreS s H (va_Pc [.ref (adr l0.length)] (fun U => U.heap.size = H.size ∧ va_P D vwCl [(adr l0.length, .inr (ci, dflt))] U.heap ∧ va_K D vwCl (zT cA) U ∧ va_D (fun _ => True) [(adr l0.length, .inr (ci, dflt))] ∧ nNw U)) (.ref (adr l0.length) :: []) := ⟨nBlind, fun U hU hW => ⟨rfl, by rw [hU], by rw [hU]; exact hPx, va_K.moved hW.alike hK, hDx, nNw_at hN9 hW⟩⟩
  have run : va_Run p l_ e rm s m args below meth c H locs c9 s9 mc ms (F0 m pc lsa ((Value.ref l0.length :: st).map (cvv adr))) (st.map (cvv adr)) (va_Qv (fun _ : Unit => True) (fun _ t => va_P D vwCl (zW cA (nA (adr l0.length) H.size) 0 r) t.heap ∧ va_D (va_A [(adr l0.length, .inr (ci, dflt))] H.size) (zW cA (nA (adr l0.length) H.size) 0 r) ∧ t.heap.size + 1 = H.size + r.length) (va_A [(adr l0.length, .inr (ci, dflt))] H.size) (Value.ref (adr l0.length) :: []).toArray) (va_A [(adr l0.length, .inr (ci, dflt))] H.size) := by
    rcases hlk with hlk | hlk
    · exact va_runIN (As := []) (rest := st.map (cvv adr)) ⟨C.1, C.2.1, C.2.2.2.1, C.2.2.2.2.1, wd⟩ (hM l_ D cA (adr l0.length) H.size) ⟨va_cnB (host := RX6) 0 wd (zTs_good hco) rfl hrc.1 hrc.2 (hN9 _ hlk) (wd _ hini) hy hR, hy1, wd _ hin⟩ pre rfl rfl hl.1 rfl (lv_room (by rw [zCats]; exact hcat)) hd ⟨hc, hs⟩
    · exact va_runI (As := []) (rest := st.map (cvv adr)) ⟨C.1, C.2.1, C.2.2.2.1, C.2.2.2.2.1, wd⟩ (hM l_ D cA (adr l0.length) H.size) (cwI 0 wd (zTs_good hco) rfl hrc.1 hrc.2 (wd _ hini) (wd _ hlk) (wd _ hin) hy1 hy hR) pre rfl rfl hl.1 rfl (lv_room (by rw [zCats]; exact hcat)) hd ⟨hc, hs⟩
  refine va_callv run hS (fun q9 _ h9 => hF q9 h9) hF (fun u t H1 locs1 ht hvm hw hBq hz1 hk1 hS1 => ?_)
  obtain ⟨hP1, hD1, hz9⟩ := hBq
  rw [ht] at hP1 hz9
  obtain ⟨-, -, -, fin⟩ := T H1
  obtain ⟨hP2, hD2⟩ := fin hP1 hD1 hk1
  rw [List.length_append] at hz hb
  simp only [List.length_cons, List.length_nil] at hz hb
  exact k p l_ e s m args below meth c D cA adr A H1 locs1 lsa C hn hN9 hA hB hK hP2 hD2 hS1 (by rw [List.length_append, List.length_map]; omega) (by rw [List.length_append, List.length_map]; omega) hl
end NXC

