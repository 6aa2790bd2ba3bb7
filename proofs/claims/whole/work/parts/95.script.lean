/-! the law's calculus: the script -/
def lGL (L : Nat) (xs : Nat → Int32) : zGw := fun l s A adr => lG l s A adr ∧ va_X (adr 301) L xs s s.heap ∧ adr 301 < s.heap.size ∧ ¬ A (adr 301)
theorem lGL_o (L : Nat) (xs : Nat → Int32) : lGo (lGL L xs) := fun _ _ _ _ h => h.1
theorem iI_bk (x : Int32) : iI x.toInt = x := Int32.ofInt_toInt x
section LS
variable {L : Nat} {xs : Nat → Int32} {tab : List ExceptionTableEntry} {own : String} {cc : ByteArray} {nL : Nat} {ret : Option FieldType} {rm : Room} {c9 s9 : Nat} {pc : Nat} {ls : List (Option Value)} {st : List Value} {hx hm : zH} {o : Nat → Int64} {E : zF}
theorem lx_slen (hL : L < 2147483648) (hd : decode cc pc = .ok (.arraylength, 1)) (k : lX (lGL L xs) tab own cc nL ret rm c9 s9 (pc + 1) ls (.int (iI (L : Int)) :: st) hx hm o E) : lX (lGL L xs) tab own cc nL ret rm c9 s9 pc ls (.ref 301 :: st) hx hm o E := by
  intro p l e s m args below meth c D cA adr A H locs lsa C hT hA hG hO hM hK hP hD hS hl
  refine va_slen C.1 C.2.1 hG.2.1 hG.2.2.1 hG.2.2.2 hS hd ?_
  have q := k p l e s m args below meth c D cA adr A H locs lsa C hT hA hG hO hM hK hP hD hS hl
  exact q
theorem lx_sload {i : Int} (hL : L < 2147483648) (h0 : 0 ≤ i) (h1 : i < (L : Int)) (hd : decode cc pc = .ok (.iaload, 1)) (k : lX (lGL L xs) tab own cc nL ret rm c9 s9 (pc + 1) ls (.int (iI (xs i.toNat).toInt) :: st) hx hm o E) : lX (lGL L xs) tab own cc nL ret rm c9 s9 pc ls (.int (iI i) :: .ref 301 :: st) hx hm o E := by
  intro p l e s m args below meth c D cA adr A H locs lsa C hT hA hG hO hM hK hP hD hS hl
  refine va_sld C.1 C.2.1 hG.2.1 hG.2.2.1 hG.2.2.2 hS (zvp h0 h1 (by omega)) hd ?_
  rw [zclamp h0 (by omega)]
  have q := k p l e s m args below meth c D cA adr A H locs lsa C hT hA hG hO hM hK hP hD hS hl
  rw [iI_bk] at q
  exact q
end LS
theorem lx_lcmp {G : zGw} {tab : List ExceptionTableEntry} {own : String} {cc : ByteArray} {nL : Nat} {ret : Option FieldType} {rm : Room} {c9 s9 : Nat} {pc : Nat} {ls : List (Option Value)} {st : List Value} {hx hm : zH} {o : Nat → Int64} {E : zF} {a b : Int} (hd : decode cc pc = .ok (.lcmp, 1)) (ra : -9223372036854775808 ≤ a ∧ a < 9223372036854775808) (rb : -9223372036854775808 ≤ b ∧ b < 9223372036854775808)
    (k : lX G tab own cc nL ret rm c9 s9 (pc + 1) ls (.int (iI (lc a b)) :: st) hx hm o E) : lX G tab own cc nL ret rm c9 s9 pc ls (.long (lL b) :: .long (lL a) :: st) hx hm o E := by
  intro p l e s m args below meth c D cA adr A H locs lsa C hT hA hG hO hM hK hP hD hS hl
  refine lvx_lcmp C.1 C.2.1 hd ?_ (k p l e s m args below meth c D cA adr A H locs lsa C hT hA hG hO hM hK hP hD hS hl)
  unfold lc
  have e1 : lL a > lL b ↔ b < a := by
    show lL b < lL a ↔ _
    rw [Int64.lt_iff_toInt_lt, lL_ti ra.1 ra.2, lL_ti rb.1 rb.2]
  by_cases c1 : b < a
  · rw [if_pos (e1.mpr c1), if_pos c1]
    decide +kernel
  · rw [if_neg (fun z => c1 (e1.mp z)), if_neg c1]
    by_cases c2 : a = b
    · rw [if_pos c2, c2, if_pos (beq_self_eq_true _)]
      decide +kernel
    · rw [if_neg c2, if_neg (fun z => c2 ((lL_eq ra rb).mp (eq_of_beq z)))]
      decide +kernel
theorem lx_sub {G : zGw} {tab : List ExceptionTableEntry} {own : String} {cc : ByteArray} {nL : Nat} {ret : Option FieldType} {rm : Room} {c9 s9 : Nat} {pc : Nat} {ls : List (Option Value)} {st : List Value} {hx hm : zH} {o : Nat → Int64} {E : zF} (ms : List Bool) (k : lX G tab own cc nL ret rm c9 s9 pc (zMask ms ls) st hx hm o E) : lX G tab own cc nL ret rm c9 s9 pc ls st hx hm o E := by
  intro p l e s m args below meth c D cA adr A H locs lsa C hT hA hG hO hM hK hP hD hS hl
  refine k p l e s m args below meth c D cA adr A H locs lsa C hT hA hG hO hM hK hP hD hS ⟨hl.1, hl.2.1, fun q hq => ?_⟩
  obtain ⟨i, v, h1, h2⟩ := (zL_in adr _ 0 q).mp hq
  exact hl.2.2 q ((zL_in adr ls 0 q).mpr ⟨i, v, zMask_at ms ls i v h1, h2⟩)

