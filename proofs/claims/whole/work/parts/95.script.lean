/-! the law's calculus: the script -/
def lGL (L : Nat) (xs : Nat → Int32) : zGw := fun l s A adr => lG l s A adr ∧ va_X (adr 301) L xs s s.heap ∧ adr 301 < s.heap.size ∧ ¬ A (adr 301)
theorem lGL_o (L : Nat) (xs : Nat → Int32) : lGo (lGL L xs) := fun _ _ _ _ h => h.1
theorem iI_of (x : Int32) : iI x.toInt = x := Int32.ofInt_toInt x
section LS
variable {L : Nat} {xs : Nat → Int32} {tab : List ExceptionTableEntry} {own : String} {cc : ByteArray} {nL : Nat} {ret : Option FieldType} {rm : Room} {c9 s9 : Nat} {pc : Nat} {ls : List (Option Value)} {st : List Value} {hx hm : zH} {o : Nat → Int64} {E : zF}
theorem lx_slen (hL : L < 2147483648) (hd : decode cc pc = .ok (.arraylength, 1)) (k : lX (lGL L xs) tab own cc nL ret rm c9 s9 (pc + 1) ls (.int (iI (L : Int)) :: st) hx hm o E) : lX (lGL L xs) tab own cc nL ret rm c9 s9 pc ls (.ref 301 :: st) hx hm o E := by
  intro p l e s m args below meth c D cA adr A H locs lsa C hT hA hG hO hM hK hP hD hS hl
  refine va_slen C.1 C.2.1 hG.2.1 hG.2.2.1 hG.2.2.2 hS hd ?_
  have q := k p l e s m args below meth c D cA adr A H locs lsa C hT hA hG hO hM hK hP hD hS hl
  exact q
theorem lx_sload {i : Int} (hL : L < 2147483648) (h0 : 0 ≤ i) (h1 : i < (L : Int)) (hd : decode cc pc = .ok (.iaload, 1)) (k : lX (lGL L xs) tab own cc nL ret rm c9 s9 (pc + 1) ls (.int (iI (xs i.toNat).toInt) :: st) hx hm o E) : lX (lGL L xs) tab own cc nL ret rm c9 s9 pc ls (.int (iI i) :: .ref 301 :: st) hx hm o E := by
  intro p l e s m args below meth c D cA adr A H locs lsa C hT hA hG hO hM hK hP hD hS hl
  refine va_sld C.1 C.2.1 hG.2.1 hG.2.2.1 hG.2.2.2 hS (zvp h0 h1 (by omega)) hd ?_
  rw [zclamp h0 (by omega)]
  have q := k p l e s m args below meth c D cA adr A H locs lsa C hT hA hG hO hM hK hP hD hS hl
  rw [iI_of] at q
  exact q
end LS

