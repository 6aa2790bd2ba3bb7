/-! the law's calculus: its helpers, questions of the class, the reference's methods -/
def lGo (G : zGw) : Prop := ∀ l s A adr, G l s A adr → lG l s A adr
theorem lBlind {D : va_G} {cA : Nat → ClassId} {adr : Nat → Nat} {hx hm : zH} {o : Nat → Int64} {sz : Nat} {av : List Value} {B : Nat → Prop} : FrameBlind (va_Pc av (fun U => U.heap.size = sz ∧ lB D cA adr hx hm o (fun _ => True) U ∧ zS U B adr ∧ zCa U ∧ zNc U)) := fun a U g mk q => by
  obtain ⟨q0, q1, ⟨qO, qM, qP, qK, qD⟩, qS, qC, qN1, qN2, qN3⟩ := q
  exact ⟨q0, q1, ⟨qO, qM, qP, va_K.moved (u := U) (U := U.calling g mk a) (Vm.Alike.refl U.vm) qK, qD⟩, zS_at (U := U.calling g mk a) qS (fun _ _ _ => rfl) (State.WarmedH.refl U) rfl (fun _ h => h), zCa_moved (U := U.calling g mk a) (Vm.Alike.refl U.vm) qC, qN1.moved (U := U.calling g mk a) (Vm.Alike.refl U.vm), qN2.moved (U := U.calling g mk a) (Vm.Alike.refl U.vm), qN3.moved (U := U.calling g mk a) (Vm.Alike.refl U.vm)⟩
section LC
variable {G : zGw} {tab : List ExceptionTableEntry} {own : String} {cc : ByteArray} {nL : Nat} {ret : Option FieldType} {rm : Room} {c9 s9 : Nat} {pc : Nat} {ls : List (Option Value)} {st st0 : List Value} {hx hm : zH} {o : Nat → Int64} {E : zF}
theorem lx_wrap {y : MethodName} {b : ByteArray} {nL2 idx n : Nat} {rm2 : Room} {hh : List (Nat × Nat × Nat × Nat)} {as : List Value} {Qw : Int → zH → (Nat → Int64) → Prop} (hg : lGo G) (hd : decode cc pc = .ok (.invokestatic idx, 3)) (hgood : GoodIn zU (va_wsS own idx y (.codeWith y b nL2 (some .int) hh :: zU))) (hy : y.cls ≠ "java/lang/invoke/MethodHandle" ∧ y.cls ≠ "java/lang/invoke/VarHandle") (hlen : as.length = n ∧ (parseMethodDescriptor y.desc).map (fun d => d.parameters.length) = some n) (hrc : rm2.cells = 1 ∧ rm2.slots = 6) (hR : rm2.frames + 1 ≤ rm.frames ∧ 8 + (nL2 + 11) + rm2.locals ≤ rm.locals) (hrm : c9 + 1 ≤ rm.cells ∧ s9 + 6 ≤ rm.slots) (hM : lMw y b nL2 rm2 hh as hx hm o Qw) (hst : st0 = as.reverse ++ st) (hcat : (st.map fun v => v.category).sum ≤ 8)
    (kk : ∀ (z : Int) (h2 : zH) (o2 : Nat → Int64), -2147483648 ≤ z → z < 2147483648 → Qw z h2 o2 → lX G tab own cc nL ret rm (c9 + 1) (s9 + 6) (pc + 3) ls (.int (iI z) :: st) h2 hm o2 E) : lX G tab own cc nL ret rm c9 s9 pc ls st0 hx hm o E := by
  intro p l e s m args below meth c D cA adr A H locs lsa C hT hA hG hO hM9 hK hP hD hS hl
  subst hst
  have hF := zFree hD hS hA
  have g := hg _ _ _ _ hG
  refine vx_calli (vx_runSX (As := as.map (cvv adr)) (rest := st.map (cvv adr)) (n := n) ⟨C.1, C.2.1, C.2.2.2.1, C.2.2.2.2.1, C.2.2.2.2.2.1⟩ (hM l g.2.1 D cA adr H.size) (vx_cwSW n C.2.2.2.2.2.1 hgood rfl hrc.1 hrc.2 ⟨hy.1, hy.2, hlen.2⟩ hR) ⟨lBlind, fun U hU hW => ⟨rfl, by rw [hU], ⟨hO, hM9, by rw [hU]; exact hP, va_K.moved hW.alike hK, hD.weaken (fun _ _ _ _ => trivial)⟩, zS_at g.1 hS.2.1 hW hU hF, zCa_moved hW.alike g.2.2.1, g.2.2.2.1.moved hW.alike, g.2.2.2.2.1.moved hW.alike, g.2.2.2.2.2.moved hW.alike⟩⟩ rfl (by rw [List.length_map]; exact hlen.1) hl.1 (by rw [List.map_append, List.map_reverse]) (lv_room (by rw [zCats]; exact hcat)) hd hrm) hS (fun q9 _ h9 => hF q9 h9) hF (fun q9 _ h9 => hF q9 h9) (fun _ _ _ _ _ _ _ _ _ hpx _ _ _ _ _ _ _ => hpx.elim) (fun r u t H1 locs1 ht hvm hw hB hz1 hk1 hS1 => ?_)
  obtain ⟨z, rfl, rz, hw⟩ := hw
  obtain ⟨hO1, hM1, hP1, hK1, hD1⟩ := hB
  exact kk z u.1 u.2 rz.1 rz.2 hw p l e s m args below meth c D cA adr A H1 locs1 lsa C hT hA hG hO1 hM1 hK (by rw [← ht]; exact hP1) (hD1.weaken (fun k9 q9 _ h9 => hF q9.1 h9)) hS1 hl
theorem lx_qx {y : MethodName} {b : ByteArray} {nL2 idx n : Nat} {rm2 : Room} {as : List Value} {r2 : FieldType} {Q : Int → zH → Prop} (hd : decode cc pc = .ok (.invokevirtual idx, 3)) (hlk : Cond.methodLink own idx y ∈ zU) (hcal : zCal RX6 y b nL2 (some r2)) (hlen : as.length = n ∧ (parseMethodDescriptor y.desc).map (fun d => d.parameters.length) = some n) (hrc : rm2.cells = 0 ∧ rm2.slots = 0) (hR : rm2.frames + 1 ≤ rm.frames ∧ 8 + (nL2 + 11) + rm2.locals ≤ rm.locals) (hM : zMi cX y b nL2 r2 rm2 (.ref 0 :: as) hx Q) (hst : st0 = as.reverse ++ .ref 0 :: st) (hcat : (st.map fun v => v.category).sum ≤ 8) (hrm : c9 ≤ rm.cells ∧ s9 ≤ rm.slots)
    (kk : ∀ (z : Int) (h2 : zH), -2147483648 ≤ z → z < 2147483648 → Q z h2 → lX G tab own cc nL ret rm c9 s9 (pc + 3) ls (.int (iI z) :: st) h2 hm o E) : lX G tab own cc nL ret rm c9 s9 pc ls st0 hx hm o E := by
  intro p l e s m args below meth c D cA adr A H locs lsa C hT hA hG hO hM9 hK hP hD hS hl
  subst hst
  have hPx : va_P D vwCl (zW cA adr 0 (cX hx)) H := lP_l hP
  have hDx : va_D A (zW cA adr 0 (cX hx)) := lD_l hD
  have hF := zFree hDx hS hA
  have hob : ∃ fs, (cX hx)[0]? = some (.inl (6, fs)) := ⟨_, rfl⟩
  obtain ⟨fs, hob⟩ := hob
  refine va_calli (va_runV (As := as.map (cvv adr)) (rest := st.map (cvv adr)) (n := n) ⟨C.1, C.2.1, C.2.2.2.1, C.2.2.2.2.1, C.2.2.2.2.2.1⟩ (hM l D cA adr H.size) (cwV n C.2.2.2.2.2.1 (zCal_good hlk hcal) rfl hrc.1 hrc.2 ⟨hcal.2.2.2.2.1.1, hcal.2.2.2.2.1.2.1, hcal.2.2.2.2.1.2.2, hlen.2⟩ hR) ⟨zBlind, va_recv (zT3_2 hK) hPx (show vwCl[6]? = some _ from rfl) (zW_obj hob), fun U hU hW => ⟨rfl, by rw [hU], hO, by rw [hU]; exact hPx, va_K.moved hW.alike (zT3_2 hK), hDx.weaken (fun _ _ _ _ => trivial)⟩⟩ rfl (by rw [List.length_map]; exact hlen.1) hl.1 (by rw [List.map_append, List.map_reverse]; rfl) (lv_room (by rw [zCats]; exact hcat)) hd hrm) hS (fun q9 _ h9 => hF q9 h9) hF (fun r u t H1 locs1 ht hvm hw hB hz1 hk1 hS1 => ?_)
  obtain ⟨z, rfl, rz, hw⟩ := hw
  obtain ⟨hO1, hP1, hK1, hD1⟩ := hB
  rw [ht] at hP1
  obtain ⟨hP2, hD2⟩ := LX (B := A) hP hD hP1 hD1 hk1 (fun _ z => z) (fun q z => hF q (Or.inr z))
  exact kk z u rz.1 rz.2 hw p l e s m args below meth c D cA adr A H1 locs1 lsa C hT hA hG hO1 hM9 hK hP2 hD2 hS1 hl
theorem lx_mv {y : MethodName} {b : ByteArray} {nL2 idx n : Nat} {rm2 : Room} {as : List Value} {r2 : FieldType} {Q : Int → zH → Prop} (hd : decode cc pc = .ok (.invokevirtual idx, 3)) (hlk : Cond.methodLink own idx y ∈ zU) (hcal : zCal RX7 y b nL2 (some r2)) (hlen : as.length = n ∧ (parseMethodDescriptor y.desc).map (fun d => d.parameters.length) = some n) (hrc : rm2.cells = 0 ∧ rm2.slots = 0) (hR : rm2.frames + 1 ≤ rm.frames ∧ 8 + (nL2 + 11) + rm2.locals ≤ rm.locals) (hM : zMi cM y b nL2 r2 rm2 (.ref 0 :: as) hm Q) (hst : st0 = as.reverse ++ .ref 200 :: st) (has : ∀ adr : Nat → Nat, as.map (cvv (lAr adr)) = as.map (cvv adr)) (hcat : (st.map fun v => v.category).sum ≤ 8) (hrm : c9 ≤ rm.cells ∧ s9 ≤ rm.slots)
    (kk : ∀ (z : Int) (h2 : zH), -2147483648 ≤ z → z < 2147483648 → Q z h2 → lX G tab own cc nL ret rm c9 s9 (pc + 3) ls (.int (iI z) :: st) hx h2 o E) : lX G tab own cc nL ret rm c9 s9 pc ls st0 hx hm o E := by
  intro p l e s m args below meth c D cA adr A H locs lsa C hT hA hG hO hM9 hK hP hD hS hl
  subst hst
  have hPm : va_P D vwCl (zW cA (lAr adr) 0 (cM hm)) H := lP_l (lP_r hP)
  have hDm : va_D A (zW cA (lAr adr) 0 (cM hm)) := lD_l (lD_r hD)
  have hF := zFree hDm hS hA
  have hob : ∃ fs, (cM hm)[0]? = some (.inl (7, fs)) := ⟨_, rfl⟩
  obtain ⟨fs, hob⟩ := hob
  refine va_calli (va_runV (As := as.map (cvv (lAr adr))) (rest := st.map (cvv adr)) (n := n) ⟨C.1, C.2.1, C.2.2.2.1, C.2.2.2.2.1, C.2.2.2.2.2.1⟩ (hM l D cA (lAr adr) H.size) (cwV n C.2.2.2.2.2.1 (zCal_good hlk hcal) rfl hrc.1 hrc.2 ⟨hcal.2.2.2.2.1.1, hcal.2.2.2.2.1.2.1, hcal.2.2.2.2.1.2.2, hlen.2⟩ hR) ⟨zBlind, va_recv (zT3_2 hK) hPm (show vwCl[7]? = some _ from rfl) (zW_obj hob), fun U hU hW => ⟨rfl, by rw [hU], hM9, by rw [hU]; exact hPm, va_K.moved hW.alike (zT3_2 hK), hDm.weaken (fun _ _ _ _ => trivial)⟩⟩ rfl (by rw [List.length_map]; exact hlen.1) hl.1 (by rw [List.map_append, List.map_reverse, has]; rfl) (lv_room (by rw [zCats]; exact hcat)) hd hrm) hS (fun q9 _ h9 => hF q9 h9) hF (fun r u t H1 locs1 ht hvm hw hB hz1 hk1 hS1 => ?_)
  obtain ⟨z, rfl, rz, hw⟩ := hw
  obtain ⟨hO1, hP1, hK1, hD1⟩ := hB
  rw [ht] at hP1
  obtain ⟨hP2, hD2⟩ := LM (B := A) hP hD hP1 hD1 hk1 (fun _ z => z) (fun q z => hF q (Or.inr z))
  exact kk z u rz.1 rz.2 hw p l e s m args below meth c D cA adr A H1 locs1 lsa C hT hA hG hO hO1 hK hP2 hD2 hS1 hl
end LC

