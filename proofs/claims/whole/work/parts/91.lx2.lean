/-! the law's calculus: the long array, and what the helpers give back -/
section LX2
variable {G : zGw} {tab : List ExceptionTableEntry} {own : String} {cc : ByteArray} {nL : Nat} {ret : Option FieldType} {rm : Room} {c9 s9 : Nat} {pc : Nat} {ls : List (Option Value)} {st : List Value} {hx hm : zH} {o : Nat → Int64} {E : zF}
theorem lx_i2l {a : Int} (hd : decode cc pc = .ok (.i2l, 1)) (ra : -2147483648 ≤ a ∧ a < 2147483648)
    (k : lX G tab own cc nL ret rm c9 s9 (pc + 1) ls (.long (lL a) :: st) hx hm o E) : lX G tab own cc nL ret rm c9 s9 pc ls (.int (iI a) :: st) hx hm o E := by
  intro p l e s m args below meth c D cA adr A H locs lsa C hT hA hG hO hM hK hP hD hS hl
  exact lv_i2l C.1 C.2.1 hd (lL_iI ra.1 ra.2) (k p l e s m args below meth c D cA adr A H locs lsa C hT hA hG hO hM hK hP hD hS hl)
theorem lx_lconst {n : Fin 2} {z : Int} (hd : decode cc pc = .ok (.lconst n, 1)) (hz : Int64.ofNat (n : Nat) = lL z)
    (k : lX G tab own cc nL ret rm c9 s9 (pc + 1) ls (.long (lL z) :: st) hx hm o E) : lX G tab own cc nL ret rm c9 s9 pc ls st hx hm o E := by
  intro p l e s m args below meth c D cA adr A H locs lsa C hT hA hG hO hM hK hP hD hS hl
  exact lv_lconst C.1 C.2.1 hd hz (k p l e s m args below meth c D cA adr A H locs lsa C hT hA hG hO hM hK hP hD hS hl)
theorem lW_45 (cA : Nat → ClassId) (adr : Nat → Nat) (hx hm : zH) (o : Nat → Int64) : (lW cA adr hx hm o)[45]? = some (adr 300, .inl (cA 2, 1, .inr (.inl o))) := rfl
theorem lW_set (cA : Nat → ClassId) (adr : Nat → Nat) (hx hm : zH) (o o2 : Nat → Int64) : (lW cA adr hx hm o).set 45 (adr 300, .inl (cA 2, 1, .inr (.inl o2))) = lW cA adr hx hm o2 := rfl
theorem lx_lastore {x : Int64} (hd : decode cc pc = .ok (.lastore, 1)) (k : ∀ o2 : Nat → Int64, o2 0 = x → lX G tab own cc nL ret rm c9 s9 (pc + 1) ls st hx hm o2 E) : lX G tab own cc nL ret rm c9 s9 pc ls (.long x :: .int (iI 0) :: .ref 300 :: st) hx hm o E := by
  intro p l e s m args below meth c D cA adr A H locs lsa C hT hA hG hO hM hK hP hD hS hl
  refine va_last (D := D) C.1 C.2.1 hK hP hD hS 45 2 (lW_45 cA adr hx hm o) rfl (zvp (Int.le_refl 0) (show (0 : Int) < ((1 : Nat) : Int) by decide) (by decide)) hd (fun H1 locs1 hP1 hD1 hS1 => ?_)
  rw [lW_set] at hP1 hD1
  refine k _ ?_ p l e s m args below meth c D cA adr A H1 locs1 lsa C hT hA hG hO hM hK hP1 hD1 hS1 hl
  rw [zclamp (Int.le_refl 0) (by decide)]
  rfl
theorem lx_laload (hd : decode cc pc = .ok (.laload, 1)) (k : lX G tab own cc nL ret rm c9 s9 (pc + 1) ls (.long (o 0) :: st) hx hm o E) : lX G tab own cc nL ret rm c9 s9 pc ls (.int (iI 0) :: .ref 300 :: st) hx hm o E := by
  intro p l e s m args below meth c D cA adr A H locs lsa C hT hA hG hO hM hK hP hD hS hl
  refine va_lald (D := D) C.1 C.2.1 hK hP 45 2 (lW_45 cA adr hx hm o) rfl (zvp (Int.le_refl 0) (show (0 : Int) < ((1 : Nat) : Int) by decide) (by decide)) hd ?_
  rw [zclamp (Int.le_refl 0) (by decide)]
  exact k p l e s m args below meth c D cA adr A H locs lsa C hT hA hG hO hM hK hP hD hS hl
end LX2
/-- a helper of the law: its code, the class's state after it, and the long -/
def lQw (Q : Int → zH → (Nat → Int64) → Prop) (D : va_G) (cA : Nat → ClassId) (adr : Nat → Nat) (hm : zH) (A : Nat → Prop) : Array Value → State → Outcome → State → Prop := va_Qi (fun (r : Int32) (u : zH × (Nat → Int64)) => ∃ z : Int, r = iI z ∧ (-2147483648 ≤ z ∧ z < 2147483648) ∧ Q z u.1 u.2) (fun (u : zH × (Nat → Int64)) t => lB D cA adr u.1 hm u.2 A t) A
abbrev lNx (A : Nat → Prop) : String → State → State → Prop := vx_X (fun _ : Unit => False) (fun _ _ _ => False) A
def lEw (hm : zH) (Q : Int → zH → (Nat → Int64) → Prop) : zF := fun below args s A D cA adr => vx_MQ below (lQw Q D cA adr hm A) (lNx A) args s 1 6 A
theorem lx_wret {G : zGw} {tab : List ExceptionTableEntry} {own : String} {cc : ByteArray} {nL : Nat} {rm : Room} {c9 s9 pc : Nat} {ls : List (Option Value)} {hx hm : zH} {o : Nat → Int64} {z : Int} {Q : Int → zH → (Nat → Int64) → Prop} (hd : decode cc pc = .ok (.ireturn, 1)) (hc : c9 ≤ 1 ∧ s9 ≤ 6) (rz : -2147483648 ≤ z ∧ z < 2147483648) (hq : Q z hx o) : lX G tab own cc nL (some .int) rm c9 s9 pc ls [.int (iI z)] hx hm o (lEw hm Q) := by
  intro p l e s m args below meth c D cA adr A H locs lsa C hT hA hG hO hM hK hP hD hS hl
  have hlocks : meth.locks = false := C.2.2.2.2.2.2
  refine W.widen (k := 1) (n := 6) hc.1 hc.2 (vx_ret ?_)
  exact W.iret (v := iI z) C.1 C.2.1 C.2.2.1 (fun t ht hW => ⟨⟨iI z, (hx, o), rfl, ⟨z, rfl, rz, hq⟩, ⟨hO, hM, by rw [ht]; exact hP, va_K.moved hW.alike hK, hD⟩⟩, hS.F ht⟩) hS.2.2 hd

