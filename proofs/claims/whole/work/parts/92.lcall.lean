/-! the law's calculus: a method of the class is called, its exception caught -/
def lH (cc : ByteArray) (nL hpc : Nat) (z : Int) : Prop := ∃ i hp2 : Nat, (decode cc hpc = .ok (.astore i, 2) ∧ hp2 = hpc + 2 ∨ ∃ j : Fin 4, (j : Nat) = i ∧ decode cc hpc = .ok (.astore_n j, 1) ∧ hp2 = hpc + 1) ∧ i < nL ∧ decode cc hp2 = .ok (.iconst z, 1) ∧ decode cc (hp2 + 1) = .ok (.ireturn, 1)
def lHx (tab : List ExceptionTableEntry) (own : String) (cc : ByteArray) (nL pc : Nat) (E : String) (z : Int) : Prop :=
  ∃ (pre : List ExceptionTableEntry) (x : ExceptionTableEntry) (suf : List ExceptionTableEntry), tab = pre ++ x :: suf ∧ (∀ y ∈ pre, covers y pc = false ∨ (y.catchType ≠ 0 ∧ ∃ nm : String, Cond.classLink own y.catchType nm ∈ zU ∧ (E = nAE ∧ nm = nSE ∨ E = nIE ∧ nm = nSE ∨ E = nIE ∧ nm = nAE))) ∧ covers x pc = true ∧ x.catchType ≠ 0 ∧ Cond.classLink own x.catchType E ∈ zU ∧ Cond.castable E E ∈ zFc ∧ lH cc nL x.handlerPc z
theorem zBlindT {cs : zH → List aC} {D : va_G} {cA : Nat → ClassId} {adr : Nat → Nat} {h : zH} {sz : Nat} {av : List Value} {B : Nat → Prop} : FrameBlind (va_Pc av (fun U => U.heap.size = sz ∧ zB cs D cA adr h (fun _ => True) U ∧ zS U B adr ∧ zCa U)) := fun a U g mk q => by
  obtain ⟨q0, q1, ⟨qO, qP, qK, qD⟩, qS, qC⟩ := q
  exact ⟨q0, q1, ⟨qO, qP, va_K.moved (u := U) (U := U.calling g mk a) (Vm.Alike.refl U.vm) qK, qD⟩, zS_at (U := U.calling g mk a) qS (fun _ _ _ => rfl) (State.WarmedH.refl U) rfl (fun _ h => h), zCa_moved (U := U.calling g mk a) (Vm.Alike.refl U.vm) qC⟩
theorem lx_invT {tab : List ExceptionTableEntry} {own : String} {cc : ByteArray} {nL : Nat} {rm : Room} {pc : Nat} {ls : List (Option Value)} {st st0 : List Value} {hx hm : zH} {o : Nat → Int64} {Qw : Int → zH → (Nat → Int64) → Prop} {y : MethodName} {b : ByteArray} {nL2 idx n : Nat} {rm2 : Room} {as : List Value} {r2 : FieldType} {Q : Int → zH → Prop} {X : String → zH → Prop} (hd : decode cc pc = .ok (.invokevirtual idx, 3)) (hlk : Cond.methodLink own idx y ∈ zU) (hcal : zCal RX6 y b nL2 (some r2)) (hlen : as.length = n ∧ (parseMethodDescriptor y.desc).map (fun d => d.parameters.length) = some n) (hrc : rm2.cells = 1 ∧ rm2.slots = 6) (hR : rm2.frames + 1 ≤ rm.frames ∧ 8 + (nL2 + 11) + rm2.locals ≤ rm.locals) (hrm : 1 ≤ rm.cells ∧ 6 ≤ rm.slots) (hM : zMxi cX y b nL2 r2 rm2 (.ref 0 :: as) hx Q X) (hst : st0 = as.reverse ++ .ref 0 :: st) (hcat : (st.map fun v => v.category).sum ≤ 8)
    (kx : ∀ (E : String) (h2 : zH), X E h2 → ∃ z : Int, lHx tab own cc nL pc E z ∧ (-2147483648 ≤ z ∧ z < 2147483648) ∧ Qw z h2 o)
    (kk : ∀ (z : Int) (h2 : zH), -2147483648 ≤ z → z < 2147483648 → Q z h2 → lX lG tab own cc nL (some .int) rm 1 6 (pc + 3) ls (.int (iI z) :: st) h2 hm o (lEw hm Qw)) : lX lG tab own cc nL (some .int) rm 0 0 pc ls st0 hx hm o (lEw hm Qw) := by
  intro p l e s m args below meth c D cA adr A H locs lsa C hT hA hG hO hM9 hK hP hD hS hl
  subst hst
  have hPx : va_P D vwCl (zW cA adr 0 (cX hx)) H := lP_l hP
  have hDx : va_D A (zW cA adr 0 (cX hx)) := lD_l hD
  have hF := zFree hDx hS hA
  have hlocks : meth.locks = false := C.2.2.2.2.2.2
  have hob : ∃ fs, (cX hx)[0]? = some (.inl (6, fs)) := ⟨_, rfl⟩
  obtain ⟨fs, hob⟩ := hob
  refine vx_calli (vx_runV (As := as.map (cvv adr)) (rest := st.map (cvv adr)) (n := n) ⟨C.1, C.2.1, C.2.2.2.1, C.2.2.2.2.1, C.2.2.2.2.2.1⟩ (hM l hG.2.1 D cA adr H.size) (cwV n C.2.2.2.2.2.1 (zCal_good hlk hcal) rfl hrc.1 hrc.2 ⟨hcal.2.2.2.2.1.1, hcal.2.2.2.2.1.2.1, hcal.2.2.2.2.1.2.2, hlen.2⟩ hR) ⟨zBlindT, va_recv (zT3_2 hK) hPx (show vwCl[6]? = some _ from rfl) (zW_obj hob), fun U hU hW => ⟨rfl, by rw [hU], ⟨hO, by rw [hU]; exact hPx, va_K.moved hW.alike (zT3_2 hK), hDx.weaken (fun _ _ _ _ => trivial)⟩, zS_at hG.1 hS.2.1 hW hU hF, zCa_moved hW.alike hG.2.2.1⟩⟩ rfl (by rw [List.length_map]; exact hlen.1) hl.1 (by rw [List.map_append, List.map_reverse]; rfl) (lv_room (by rw [zCats]; exact hcat)) hd ⟨by omega, by omega⟩) hS (fun q9 _ h9 => hF q9 h9) hF (fun q9 _ h9 => hF q9 h9) (fun E ce q9 u t H1 locs1 ht hvm hpx hBX hz1 hk1 hS1 hce hcv hcl => ?_) (fun r u t H1 locs1 ht hvm hw hB hz1 hk1 hS1 => ?_)
  · obtain ⟨rfl, hO1, hP1, hK1, hD1⟩ := hBX
    obtain ⟨z, ⟨pre, x, suf, h1, h2, h3, h4, h5, h6, i, hp2, h7, h8, h9, h10⟩, rz, hq⟩ := kx _ _ hpx
    rw [ht] at hP1
    obtain ⟨hP2, hD2⟩ := LX (B := A) hP hD hP1 hD1 hk1 (fun _ z => z) (fun q z => hF q (Or.inr z))
    refine vx_catch (name := u.1) C.2.2.2.2.1 pre x suf (hT.trans h1) (fun y9 hy => ?_) h3 h4 (C.2.2.2.2.2.1 _ h5) (hG.2.2.1 _ h6 args) hce hcv hcl ?_
    · rcases h2 y9 hy with w | ⟨w1, nm, w2, w3⟩
      · exact Or.inl w
      · refine Or.inr ⟨w1, nm, C.2.2.2.2.2.1 _ w2, ?_⟩
        obtain ⟨n1, n2, n3⟩ := hG.2.2.2
        rcases w3 with ⟨w3, w4⟩ | ⟨w3, w4⟩ | ⟨w3, w4⟩
        · rw [w3, w4]; exact n1
        · rw [w3, w4]; exact n2
        · rw [w3, w4]; exact n3
    · have fin : ∀ ls2 : Array Slot, W p l e rm s m args below meth c H1 locs1 (0 + 1) (0 + 6) (lEw hm Qw below args s A D cA adr) (F0 m hp2 ls2 []) := fun ls2 => by
        refine lv_iconst C.1 C.2.1 h9 rfl ?_
        refine W.widen (k := 1) (n := 6) (by omega) (by omega) (vx_ret ?_)
        exact W.iret (v := iI z) C.1 C.2.1 C.2.2.1 (fun t9 ht9 hW9 => ⟨⟨iI z, (u.2, o), rfl, ⟨z, rfl, rz, hq⟩, ⟨hO1, hM9, by rw [ht9]; exact hP2, va_K.moved hW9.alike hK, hD2⟩⟩, hS1.F ht9⟩) hS1.2.2 h10
      rcases h7 with ⟨d, e2⟩ | ⟨j, ji, d, e2⟩
      · subst e2
        exact lv_astore C.1 C.2.1 d hl h8 rfl (fun ls2 _ => fin ls2)
      · subst e2
        exact lv_astore_n C.1 C.2.1 d ji hl h8 rfl (fun ls2 _ => fin ls2)
  · obtain ⟨z, rfl, rz, hw⟩ := hw
    obtain ⟨hO1, hP1, hK1, hD1⟩ := hB
    rw [ht] at hP1
    obtain ⟨hP2, hD2⟩ := LX (B := A) hP hD hP1 hD1 hk1 (fun _ z => z) (fun q z => hF q (Or.inr z))
    exact kk z u rz.1 rz.2 hw p l e s m args below meth c D cA adr A H1 locs1 lsa C hT hA hG hO1 hM9 hK hP2 hD2 hS1 hl

