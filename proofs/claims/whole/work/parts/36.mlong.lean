/-! long numbers -/
theorem lL_add (a b : Int) : lL a + lL b = lL (a + b) := by
  unfold lL
  exact (Int64.ofInt_add a b).symm
theorem lL_sub (a b : Int) : lL a - lL b = lL (a - b) := by
  unfold lL
  exact (Int64.ofInt_sub a b).symm
theorem lL_mul (a b : Int) : lL a * lL b = lL (a * b) := by
  unfold lL
  exact (Int64.ofInt_mul a b).symm
theorem lL_ti {z : Int} (h1 : -9223372036854775808 ≤ z) (h2 : z < 9223372036854775808) : (lL z).toInt = z := by
  unfold lL
  rw [Int64.toInt_ofInt]
  show Int.bmod z 18446744073709551616 = z
  exact Int.bmod_eq_of_le (by omega) (by omega)
theorem lL_eq {a b : Int} (h1 : -9223372036854775808 ≤ a ∧ a < 9223372036854775808) (h2 : -9223372036854775808 ≤ b ∧ b < 9223372036854775808) : lL a = lL b ↔ a = b := by
  constructor
  · intro e
    have q := congrArg Int64.toInt e
    rw [lL_ti h1.1 h1.2, lL_ti h2.1 h2.2] at q
    exact q
  · intro e; rw [e]
theorem lL_iI {z : Int} (h1 : -2147483648 ≤ z) (h2 : z < 2147483648) : (iI z).toInt64 = lL z := by
  apply Int64.toInt_inj.mp
  rw [Int32.toInt_toInt64, iI_toInt h1 h2, lL_ti (by omega) (by omega)]
section LC
variable {p : Program} {l : Launch} {e : Env} {R : Room} {s : State} {m : MethodId} {args : Array Value} {below : List Frame} {meth : Method} {c : Code} {H : Heap} {locs : List Loc} {cells slots : Nat} {Q : State → Prop}
variable {cc : ByteArray} {pc : Nat} {ls : Array Slot} {rest : List Value}
theorem lvx_lcmp (hexec : p.tables.exec = Jvm.exec) (hb : c.code = cc) {x y : Int64} {v : Int32} (hdg : decode cc pc = .ok (.lcmp, 1)) (hv : (if x > y then (1 : Int32) else if x == y then 0 else -1) = v)
    (k : W p l e R s m args below meth c H locs cells slots Q (F0 m (pc + 1) ls (.int v :: rest))) : W p l e R s m args below meth c H locs cells slots Q (F0 m pc ls (.long y :: .long x :: rest)) := by
  intro T hT X
  obtain ⟨t, a, b⟩ := k T hT X
  refine ⟨t, ?_, b⟩
  rw [← hv] at a
  by_cases c1 : x > y
  · rw [if_pos c1] at a
    jvm_step X.here [X.here.top, hexec, hb, hdg, c1]
    exact a
  · rw [if_neg c1] at a
    by_cases c2 : x = y
    · rw [if_pos (by rw [c2]; exact beq_self_eq_true y)] at a
      jvm_step X.here [X.here.top, hexec, hb, hdg, c1, c2]
      exact a
    · rw [if_neg (fun z => c2 (eq_of_beq z))] at a
      jvm_step X.here [X.here.top, hexec, hb, hdg, c1, c2]
      exact a
end LC
def lc (a b : Int) : Int := if b < a then 1 else if a = b then 0 else -1
section ZXL
variable {cs : zH → List aC} {G : zGv} {own : String} {cc : ByteArray} {nL : Nat} {ret : Option FieldType} {rm : Room} {pc : Nat} {ls : List (Option Value)} {st : List Value} {h : zH} {E : zF}
theorem zx_lconst {n : Fin 2} {z : Int} (hd : decode cc pc = .ok (.lconst n, 1)) (hz : Int64.ofNat (n : Nat) = lL z)
    (k : zX cs G own cc nL ret rm (pc + 1) ls (.long (lL z) :: st) h E) : zX cs G own cc nL ret rm pc ls st h E := by
  intro p l e s m args below meth c D cA adr A H locs lsa C hA hG hO hK hP hD hS hl
  exact lv_lconst C.1 C.2.1 hd hz (k p l e s m args below meth c D cA adr A H locs lsa C hA hG hO hK hP hD hS hl)
theorem zx_ldc2 {n : Int} {idx : Nat} (hd : decode cc pc = .ok (.ldc2_w idx, 3)) (hw : Cond.constantLong own idx (lL n) ∈ zU)
    (k : zX cs G own cc nL ret rm (pc + 3) ls (.long (lL n) :: st) h E) : zX cs G own cc nL ret rm pc ls st h E := by
  intro p l e s m args below meth c D cA adr A H locs lsa C hA hG hO hK hP hD hS hl
  exact lv_ldc2 C.1 C.2.1 C.2.2.2.2.1 (C.2.2.2.2.2.1 _ hw) hd (k p l e s m args below meth c D cA adr A H locs lsa C hA hG hO hK hP hD hS hl)
theorem zx_lload_n {j : Fin 4} {i : Nat} {x : Int64} (hd : decode cc pc = .ok (.lload_n j, 1)) (hi : (j : Nat) = i) (hv : ls[i]? = some (some (.long x)))
    (k : zX cs G own cc nL ret rm (pc + 1) ls (.long x :: st) h E) : zX cs G own cc nL ret rm pc ls st h E := by
  intro p l e s m args below meth c D cA adr A H locs lsa C hA hG hO hK hP hD hS hl
  exact lv_lload_n C.1 C.2.1 hd hi (zL_at hl hv) (k p l e s m args below meth c D cA adr A H locs lsa C hA hG hO hK hP hD hS hl)
theorem zx_ladd {a b : Int} (hd : decode cc pc = .ok (.ladd, 1))
    (k : zX cs G own cc nL ret rm (pc + 1) ls (.long (lL (a + b)) :: st) h E) : zX cs G own cc nL ret rm pc ls (.long (lL b) :: .long (lL a) :: st) h E := by
  intro p l e s m args below meth c D cA adr A H locs lsa C hA hG hO hK hP hD hS hl
  refine lv_ladd C.1 C.2.1 hd ?_
  rw [lL_add]
  exact k p l e s m args below meth c D cA adr A H locs lsa C hA hG hO hK hP hD hS hl
theorem zx_lsub {a b : Int} (hd : decode cc pc = .ok (.lsub, 1))
    (k : zX cs G own cc nL ret rm (pc + 1) ls (.long (lL (a - b)) :: st) h E) : zX cs G own cc nL ret rm pc ls (.long (lL b) :: .long (lL a) :: st) h E := by
  intro p l e s m args below meth c D cA adr A H locs lsa C hA hG hO hK hP hD hS hl
  refine lv_lsub C.1 C.2.1 hd ?_
  rw [lL_sub]
  exact k p l e s m args below meth c D cA adr A H locs lsa C hA hG hO hK hP hD hS hl
theorem zx_lmul {a b : Int} (hd : decode cc pc = .ok (.lmul, 1))
    (k : zX cs G own cc nL ret rm (pc + 1) ls (.long (lL (a * b)) :: st) h E) : zX cs G own cc nL ret rm pc ls (.long (lL b) :: .long (lL a) :: st) h E := by
  intro p l e s m args below meth c D cA adr A H locs lsa C hA hG hO hK hP hD hS hl
  refine lv_lmul C.1 C.2.1 hd ?_
  rw [lL_mul]
  exact k p l e s m args below meth c D cA adr A H locs lsa C hA hG hO hK hP hD hS hl
theorem zx_i2l {a : Int} (hd : decode cc pc = .ok (.i2l, 1)) (ra : zOk h → -2147483648 ≤ a ∧ a < 2147483648)
    (k : zX cs G own cc nL ret rm (pc + 1) ls (.long (lL a) :: st) h E) : zX cs G own cc nL ret rm pc ls (.int (iI a) :: st) h E := by
  intro p l e s m args below meth c D cA adr A H locs lsa C hA hG hO hK hP hD hS hl
  exact lv_i2l C.1 C.2.1 hd (lL_iI (ra hO).1 (ra hO).2) (k p l e s m args below meth c D cA adr A H locs lsa C hA hG hO hK hP hD hS hl)
theorem zx_lcmp {a b : Int} (hd : decode cc pc = .ok (.lcmp, 1)) (ra : -9223372036854775808 ≤ a ∧ a < 9223372036854775808) (rb : -9223372036854775808 ≤ b ∧ b < 9223372036854775808)
    (k : zX cs G own cc nL ret rm (pc + 1) ls (.int (iI (lc a b)) :: st) h E) : zX cs G own cc nL ret rm pc ls (.long (lL b) :: .long (lL a) :: st) h E := by
  intro p l e s m args below meth c D cA adr A H locs lsa C hA hG hO hK hP hD hS hl
  refine lvx_lcmp C.1 C.2.1 hd ?_ (k p l e s m args below meth c D cA adr A H locs lsa C hA hG hO hK hP hD hS hl)
  unfold lc
  have e1 : lL a > lL b ↔ b < a := by
    show lL b < lL a ↔ _
    rw [Int64.lt_iff_toInt_lt, lL_ti ra.1 ra.2, lL_ti rb.1 rb.2]
  by_cases c1 : b < a
  · rw [if_pos (e1.mpr c1), if_pos c1]
    decide +kernel
  · rw [if_neg (fun z => c1 (e1.mp z)), if_neg c1]
    by_cases c2 : a = b
    · rw [if_pos c2, c2, if_pos (beq_self_eq_true _)]
      decide +kernel
    · rw [if_neg c2, if_neg (fun z => c2 ((lL_eq ra rb).mp (eq_of_beq z)))]
      decide +kernel
end ZXL
def zFldL (cs : zH → List aC) (q ci k kk : Nat) : Prop := ∀ h : zH, ∃ fs : List Value, (cs h)[q]? = some (.inl (ci, fs)) ∧ fs[k]? = some (.long (lL (gs h kk))) ∧ k < fs.length ∧ ∀ v : Int, (cs h).set q (.inl (ci, fs.set k (.long (lL v)))) = cs (ps h kk v)
theorem fX7_word : zFldL cM 0 7 49 1049 := fun h => ⟨_, rfl, rfl, Nat.le_of_ble_eq_true rfl, fun v => rfl⟩
section ZXM
variable {cs : zH → List aC} {G : zGv} {own : String} {cc : ByteArray} {nL : Nat} {ret : Option FieldType} {rm : Room} {pc : Nat} {ls : List (Option Value)} {st : List Value} {h : zH} {E : zF}
theorem zx_getL {q ci k0 idx N : Nat} {K : String} {T : u_T} {kk : Nat} (hf : zFldL cs q ci k0 kk) (hcl : vwCl[ci]? = some (K, T, N)) (hk : k0 < N) (hin : ∀ w ∈ u_ws K T N, w ∈ zU) (hlk : Cond.fieldLink own idx (T k0).1 (T k0).2.1 (T k0).2.2.1 ∈ zU) (hd : decode cc pc = .ok (.getfield idx, 3)) (k : zX cs G own cc nL ret rm (pc + 3) ls (.long (lL (gs h kk)) :: st) h E) : zX cs G own cc nL ret rm pc ls (.ref q :: st) h E := by
  intro p l e s m args below meth c D cA adr A H locs lsa C hA hG hO hK hP hD hS hl
  obtain ⟨fs, f1, f2, f3, f4⟩ := hf h
  exact va_get (D := D) (ci := ci) (v := .long (lL (gs h kk))) (C := K) (T := T) (N := N) C.1 C.2.1 C.2.2.2.2.2.1 hin C.2.2.2.2.1 hK hP q (zW_obj f1) hcl k0 hk (C.2.2.2.2.2.1 _ hlk) (fun _ h9 => h9) (by rw [List.getElem?_map, f2]; rfl) hd (k p l e s m args below meth c D cA adr A H locs lsa C hA hG hO hK hP hD hS hl)
theorem zx_putL {q ci k0 idx N : Nat} {K : String} {T : u_T} {kk : Nat} {v : Int} (hkk : 1000 ≤ kk) (hf : zFldL cs q ci k0 kk) (hcl : vwCl[ci]? = some (K, T, N)) (hk : k0 < N) (hin : ∀ w ∈ u_ws K T N, w ∈ zU) (hlk : Cond.fieldLink own idx (T k0).1 (T k0).2.1 (T k0).2.2.1 ∈ zU) (ty0 : Nat → FieldType) (hty : ∀ k, k < N → parseFieldDescriptor (T k).2.2.1 = some (ty0 k)) (hnm : ∀ a, a < N → ∀ b, b < N → a ≠ b → (T a).2.1 ≠ (T b).2.1) (hfin : (T k0).2.2.2 = false) (hd9 : parseFieldDescriptor (T k0).2.2.1 = some .long)
    (hd : decode cc pc = .ok (.putfield idx, 3)) (k : zX cs G own cc nL ret rm (pc + 3) ls st (ps h kk v) E) : zX cs G own cc nL ret rm pc ls (.long (lL v) :: .ref q :: st) h E := by
  intro p l e_ s m args below meth c D cA adr A H locs lsa C hA hG hO hK hP hD hS hl
  obtain ⟨fs, f1, f2, f3, f4⟩ := hf h
  refine va_put (D := D) (ci := ci) (v := .long (lL v)) (ty := .long) (C := K) (T := T) (N := N) C.1 C.2.1 C.2.2.2.2.2.1 hin ty0 hty hnm C.2.2.2.2.1 hK hP hD hS q (zW_obj f1) hcl k0 hk (C.2.2.2.2.2.1 _ hlk) (fun _ h9 => h9) hfin hd9 rfl rfl (by rw [List.length_map]; exact f3) hd (fun H1 locs1 hP1 hD1 hS1 => ?_)
  have e : (zW cA adr 0 (cs h)).set q (adr q, .inr (ci, (fs.map (cvv adr)).set k0 (.long (lL v)))) = zW cA adr 0 (cs (ps h kk v)) := by
    have e8 : zE cA adr (.inl (ci, fs.set k0 (.long (lL v)))) = .inr (ci, (fs.map (cvv adr)).set k0 (.long (lL v))) := by
      show Sum.inr (ci, (fs.set k0 (Value.long (lL v))).map (cvv adr)) = _
      rw [List.map_set]
      rfl
    rw [← f4 v, ← zW_set, Nat.zero_add, e8]
  rw [e] at hP1 hD1
  exact k p l e_ s m args below meth c D cA adr A H1 locs1 lsa C hA hG (zOk_psL hO hkk) hK hP1 hD1 hS1 hl
theorem zg_X7_178 (hd : decode cc pc = .ok (.getfield 178, 3)) (k : zX cM G RX7 cc nL ret rm (pc + 3) ls (.long (lL (gs h 1049)) :: st) h E) : zX cM G RX7 cc nL ret rm pc ls (.ref 0 :: st) h E := zx_getL fX7_word rfl (by decide) zu_X7 zf_X7_178 hd k
theorem zp_X7_178 {v : Int} (hd : decode cc pc = .ok (.putfield 178, 3)) (k : zX cM G RX7 cc nL ret rm (pc + 3) ls st (ps h 1049 v) E) : zX cM G RX7 cc nL ret rm pc ls (.long (lL v) :: .ref 0 :: st) h E := zx_putL (by decide) fX7_word rfl (by decide) zu_X7 zf_X7_178 tyX7 tyX7_ok nmX7 rfl (tyX7_ok 49 (by decide)) hd k
end ZXM

