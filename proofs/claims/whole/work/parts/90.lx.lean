/-! a calculus of the law and its helpers, over the law's world -/
def zNc (s : State) : Prop := va_Nc nAE nSE s ∧ va_Nc nIE nSE s ∧ va_Nc nIE nAE s
def lG (l : Launch) (s : State) (A : Nat → Prop) (adr : Nat → Nat) : Prop := zS s A adr ∧ l.stackTraces = false ∧ zCa s ∧ zNc s
abbrev zGw : Type := Launch → State → (Nat → Prop) → (Nat → Nat) → Prop
def lX (G : zGw) (tab : List ExceptionTableEntry) (own : String) (cc : ByteArray) (nL : Nat) (ret : Option FieldType) (rm : Room) (c9 s9 : Nat) (pc : Nat) (ls : List (Option Value)) (st : List Value) (hx hm : zH) (o : Nat → Int64) (E : zF) : Prop :=
  ∀ (p : Program) (l : Launch) (e : Env) (s : State) (m : MethodId) (args : Array Value) (below : List Frame) (meth : Method) (c : Code) (D : va_G) (cA : Nat → ClassId) (adr : Nat → Nat) (A : Nat → Prop) (H : Heap) (locs : List Loc) (lsa : Array Slot),
    zCx p s m args meth c own cc nL ret → c.exceptionTable.toList = tab → (∀ q : Nat, s.heap.size ≤ q → A q) → G l s A adr → zOk hx → zOk hm → va_K D vwCl (zT3 cA) s → va_P D vwCl (lW cA adr hx hm o) H → va_D A (lW cA adr hx hm o) → va_S A s.heap H locs → lv_has lsa nL (zL adr 0 ls) →
    W p l e rm s m args below meth c H locs c9 s9 (E below args s A D cA adr) (F0 m pc lsa (st.map (cvv adr)))
section LX
variable {G : zGw} {tab : List ExceptionTableEntry} {own : String} {cc : ByteArray} {nL : Nat} {ret : Option FieldType} {rm : Room} {c9 s9 : Nat} {pc : Nat} {ls : List (Option Value)} {st : List Value} {hx hm : zH} {o : Nat → Int64} {E : zF}
theorem lx_iconst {n : Int} (hd : decode cc pc = .ok (.iconst n, 1))
    (k : lX G tab own cc nL ret rm c9 s9 (pc + 1) ls (.int (iI n) :: st) hx hm o E) : lX G tab own cc nL ret rm c9 s9 pc ls st hx hm o E := by
  intro p l e s m args below meth c D cA adr A H locs lsa C hT hA hG hO hM hK hP hD hS hl
  exact lv_iconst C.1 C.2.1 hd rfl (k p l e s m args below meth c D cA adr A H locs lsa C hT hA hG hO hM hK hP hD hS hl)

theorem lx_bipush {n : Int} (hd : decode cc pc = .ok (.bipush n, 2)) (hv : (Int8.ofInt n).toInt32 = iI n)
    (k : lX G tab own cc nL ret rm c9 s9 (pc + 2) ls (.int (iI n) :: st) hx hm o E) : lX G tab own cc nL ret rm c9 s9 pc ls st hx hm o E := by
  intro p l e s m args below meth c D cA adr A H locs lsa C hT hA hG hO hM hK hP hD hS hl
  exact lv_bipush C.1 C.2.1 hd hv (k p l e s m args below meth c D cA adr A H locs lsa C hT hA hG hO hM hK hP hD hS hl)

theorem lx_iload_n {j : Fin 4} {i : Nat} {x : Int32} (hd : decode cc pc = .ok (.iload_n j, 1)) (hi : (j : Nat) = i) (hv : ls[i]? = some (some (.int x)))
    (k : lX G tab own cc nL ret rm c9 s9 (pc + 1) ls (.int x :: st) hx hm o E) : lX G tab own cc nL ret rm c9 s9 pc ls st hx hm o E := by
  intro p l e s m args below meth c D cA adr A H locs lsa C hT hA hG hO hM hK hP hD hS hl
  exact lv_iload_n C.1 C.2.1 hd hi (zL_at hl hv) (k p l e s m args below meth c D cA adr A H locs lsa C hT hA hG hO hM hK hP hD hS hl)

theorem lx_iload {i : Nat} {x : Int32} (hd : decode cc pc = .ok (.iload i, 2)) (hv : ls[i]? = some (some (.int x)))
    (k : lX G tab own cc nL ret rm c9 s9 (pc + 2) ls (.int x :: st) hx hm o E) : lX G tab own cc nL ret rm c9 s9 pc ls st hx hm o E := by
  intro p l e s m args below meth c D cA adr A H locs lsa C hT hA hG hO hM hK hP hD hS hl
  exact lv_iload C.1 C.2.1 hd (zL_at hl hv) (k p l e s m args below meth c D cA adr A H locs lsa C hT hA hG hO hM hK hP hD hS hl)

theorem lx_aload_n {j : Fin 4} {i : Nat} {x : Nat} (hd : decode cc pc = .ok (.aload_n j, 1)) (hi : (j : Nat) = i) (hv : ls[i]? = some (some (.ref x)))
    (k : lX G tab own cc nL ret rm c9 s9 (pc + 1) ls (.ref x :: st) hx hm o E) : lX G tab own cc nL ret rm c9 s9 pc ls st hx hm o E := by
  intro p l e s m args below meth c D cA adr A H locs lsa C hT hA hG hO hM hK hP hD hS hl
  exact lv_aload_n C.1 C.2.1 hd hi (zL_at hl hv) (k p l e s m args below meth c D cA adr A H locs lsa C hT hA hG hO hM hK hP hD hS hl)

theorem lx_aload {i : Nat} {x : Nat} (hd : decode cc pc = .ok (.aload i, 2)) (hv : ls[i]? = some (some (.ref x)))
    (k : lX G tab own cc nL ret rm c9 s9 (pc + 2) ls (.ref x :: st) hx hm o E) : lX G tab own cc nL ret rm c9 s9 pc ls st hx hm o E := by
  intro p l e s m args below meth c D cA adr A H locs lsa C hT hA hG hO hM hK hP hD hS hl
  exact lv_aload C.1 C.2.1 hd (zL_at hl hv) (k p l e s m args below meth c D cA adr A H locs lsa C hT hA hG hO hM hK hP hD hS hl)

theorem lx_istore_n {j : Fin 4} {i : Nat} {x : Int32} (hd : decode cc pc = .ok (.istore_n j, 1)) (hi : (j : Nat) = i) (hn : i < nL) (hc : zNL ls i = true)
    (k : lX G tab own cc nL ret rm c9 s9 (pc + 1) (ls.set i (some (.int x))) st hx hm o E) : lX G tab own cc nL ret rm c9 s9 pc ls (.int x :: st) hx hm o E := by
  intro p l e s m args below meth c D cA adr A H locs lsa C hT hA hG hO hM hK hP hD hS hl
  exact lv_istore_n C.1 C.2.1 hd hi hl hn rfl (fun ls2 hl2 => k p l e s m args below meth c D cA adr A H locs ls2 C hT hA hG hO hM hK hP hD hS (zL_put hc hl2))
theorem lx_istore {i : Nat} {x : Int32} (hd : decode cc pc = .ok (.istore i, 2)) (hn : i < nL) (hc : zNL ls i = true)
    (k : lX G tab own cc nL ret rm c9 s9 (pc + 2) (ls.set i (some (.int x))) st hx hm o E) : lX G tab own cc nL ret rm c9 s9 pc ls (.int x :: st) hx hm o E := by
  intro p l e s m args below meth c D cA adr A H locs lsa C hT hA hG hO hM hK hP hD hS hl
  exact lv_istore C.1 C.2.1 hd hl hn rfl (fun ls2 hl2 => k p l e s m args below meth c D cA adr A H locs ls2 C hT hA hG hO hM hK hP hD hS (zL_put hc hl2))
theorem lx_iinc {i : Nat} {n : Int} {a : Int} (hd : decode cc pc = .ok (.iinc i n, 3)) (hn : i < nL) (hc : zNL ls i = true) (hv : ls[i]? = some (some (.int (iI a))))
    (k : lX G tab own cc nL ret rm c9 s9 (pc + 3) (ls.set i (some (.int (iI (a + n))))) st hx hm o E) : lX G tab own cc nL ret rm c9 s9 pc ls st hx hm o E := by
  intro p l e s m args below meth c D cA adr A H locs lsa C hT hA hG hO hM hK hP hD hS hl
  obtain ⟨j, hj⟩ := List.getElem?_of_mem ((zL_in adr ls 0 (i, Value.int (iI a))).mpr ⟨i, .int (iI a), hv, by rw [Nat.zero_add]; rfl⟩)
  exact lv_iinc (v := iI (a + n)) C.1 C.2.1 hd hl hj (iI_add a n) hn rfl (fun ls2 hl2 => k p l e s m args below meth c D cA adr A H locs ls2 C hT hA hG hO hM hK hP hD hS (zL_put hc hl2))
theorem lx_iadd {a b : Int} (hd : decode cc pc = .ok (.iadd, 1))
    (k : lX G tab own cc nL ret rm c9 s9 (pc + 1) ls (.int (iI (a + b)) :: st) hx hm o E) : lX G tab own cc nL ret rm c9 s9 pc ls (.int (iI b) :: .int (iI a) :: st) hx hm o E := by
  intro p l e s m args below meth c D cA adr A H locs lsa C hT hA hG hO hM hK hP hD hS hl
  refine lv_iadd C.1 C.2.1 hd ?_
  rw [iI_add]
  exact k p l e s m args below meth c D cA adr A H locs lsa C hT hA hG hO hM hK hP hD hS hl

theorem lx_isub {a b : Int} (hd : decode cc pc = .ok (.isub, 1))
    (k : lX G tab own cc nL ret rm c9 s9 (pc + 1) ls (.int (iI (a - b)) :: st) hx hm o E) : lX G tab own cc nL ret rm c9 s9 pc ls (.int (iI b) :: .int (iI a) :: st) hx hm o E := by
  intro p l e s m args below meth c D cA adr A H locs lsa C hT hA hG hO hM hK hP hD hS hl
  refine lv_isub C.1 C.2.1 hd ?_
  rw [iI_sub]
  exact k p l e s m args below meth c D cA adr A H locs lsa C hT hA hG hO hM hK hP hD hS hl

theorem lx_iand {x y v : Int32} (hd : decode cc pc = .ok (.iand, 1)) (hv : (x &&& y) = v)
    (k : lX G tab own cc nL ret rm c9 s9 (pc + 1) ls (.int v :: st) hx hm o E) : lX G tab own cc nL ret rm c9 s9 pc ls (.int y :: .int x :: st) hx hm o E := by
  intro p l e s m args below meth c D cA adr A H locs lsa C hT hA hG hO hM hK hP hD hS hl
  subst hv
  exact lv_iand C.1 C.2.1 hd (k p l e s m args below meth c D cA adr A H locs lsa C hT hA hG hO hM hK hP hD hS hl)

theorem lx_dup {v : Value} (hd : decode cc pc = .ok (.dup, 1)) (hv : v.category = 1)
    (k : lX G tab own cc nL ret rm c9 s9 (pc + 1) ls (v :: v :: st) hx hm o E) : lX G tab own cc nL ret rm c9 s9 pc ls (v :: st) hx hm o E := by
  intro p l e s m args below meth c D cA adr A H locs lsa C hT hA hG hO hM hK hP hD hS hl
  exact lv_dup C.1 C.2.1 hd (by rw [cvv_cat]; exact hv) (k p l e s m args below meth c D cA adr A H locs lsa C hT hA hG hO hM hK hP hD hS hl)

theorem lx_pop {v : Value} (hd : decode cc pc = .ok (.pop, 1)) (hv : v.category = 1)
    (k : lX G tab own cc nL ret rm c9 s9 (pc + 1) ls st hx hm o E) : lX G tab own cc nL ret rm c9 s9 pc ls (v :: st) hx hm o E := by
  intro p l e s m args below meth c D cA adr A H locs lsa C hT hA hG hO hM hK hP hD hS hl
  exact lv_pop C.1 C.2.1 hd (by rw [cvv_cat]; exact hv) (k p l e s m args below meth c D cA adr A H locs lsa C hT hA hG hO hM hK hP hD hS hl)

theorem lx_icmp_eq {a b : Int} {off : Int} {tgt : Nat} (hd : decode cc pc = .ok (.if_icmp .eq off, 3)) (ht : (pc : Int) + off = (tgt : Int)) (ra : zOk hx → -2147483648 ≤ a ∧ a < 2147483648) (rb : zOk hx → -2147483648 ≤ b ∧ b < 2147483648)
    (kt : a = b → lX G tab own cc nL ret rm c9 s9 tgt ls st hx hm o E) (kf : a ≠ b → lX G tab own cc nL ret rm c9 s9 (pc + 3) ls st hx hm o E) : lX G tab own cc nL ret rm c9 s9 pc ls (.int (iI b) :: .int (iI a) :: st) hx hm o E := by
  intro p l e s m args below meth c D cA adr A H locs lsa C hT hA hG hO hM hK hP hD hS hl
  have hq := iI_eq (ra hO).1 (ra hO).2 (rb hO).1 (rb hO).2
  refine lv_icmp_eq C.1 C.2.1 hd ht (fun q => kt ?_ p l e s m args below meth c D cA adr A H locs lsa C hT hA hG hO hM hK hP hD hS hl) (fun q => kf ?_ p l e s m args below meth c D cA adr A H locs lsa C hT hA hG hO hM hK hP hD hS hl)

  · rw [hq] at q; omega
  · rw [hq] at q; omega

theorem lx_icmp_ne {a b : Int} {off : Int} {tgt : Nat} (hd : decode cc pc = .ok (.if_icmp .ne off, 3)) (ht : (pc : Int) + off = (tgt : Int)) (ra : zOk hx → -2147483648 ≤ a ∧ a < 2147483648) (rb : zOk hx → -2147483648 ≤ b ∧ b < 2147483648)
    (kt : a ≠ b → lX G tab own cc nL ret rm c9 s9 tgt ls st hx hm o E) (kf : a = b → lX G tab own cc nL ret rm c9 s9 (pc + 3) ls st hx hm o E) : lX G tab own cc nL ret rm c9 s9 pc ls (.int (iI b) :: .int (iI a) :: st) hx hm o E := by
  intro p l e s m args below meth c D cA adr A H locs lsa C hT hA hG hO hM hK hP hD hS hl
  have hq := iI_eq (ra hO).1 (ra hO).2 (rb hO).1 (rb hO).2
  refine lv_icmp_ne C.1 C.2.1 hd ht (fun q => kt ?_ p l e s m args below meth c D cA adr A H locs lsa C hT hA hG hO hM hK hP hD hS hl) (fun q => kf ?_ p l e s m args below meth c D cA adr A H locs lsa C hT hA hG hO hM hK hP hD hS hl)

  · rw [hq] at q; omega
  · rw [hq] at q; omega

theorem lx_icmp_lt {a b : Int} {off : Int} {tgt : Nat} (hd : decode cc pc = .ok (.if_icmp .lt off, 3)) (ht : (pc : Int) + off = (tgt : Int)) (ra : zOk hx → -2147483648 ≤ a ∧ a < 2147483648) (rb : zOk hx → -2147483648 ≤ b ∧ b < 2147483648)
    (kt : a < b → lX G tab own cc nL ret rm c9 s9 tgt ls st hx hm o E) (kf : b ≤ a → lX G tab own cc nL ret rm c9 s9 (pc + 3) ls st hx hm o E) : lX G tab own cc nL ret rm c9 s9 pc ls (.int (iI b) :: .int (iI a) :: st) hx hm o E := by
  intro p l e s m args below meth c D cA adr A H locs lsa C hT hA hG hO hM hK hP hD hS hl
  have hq := iI_lt (ra hO).1 (ra hO).2 (rb hO).1 (rb hO).2
  refine lv_icmp_lt C.1 C.2.1 hd ht (fun q => kt ?_ p l e s m args below meth c D cA adr A H locs lsa C hT hA hG hO hM hK hP hD hS hl) (fun q => kf ?_ p l e s m args below meth c D cA adr A H locs lsa C hT hA hG hO hM hK hP hD hS hl)

  · rw [hq] at q; omega
  · rw [hq] at q; omega

theorem lx_icmp_ge {a b : Int} {off : Int} {tgt : Nat} (hd : decode cc pc = .ok (.if_icmp .ge off, 3)) (ht : (pc : Int) + off = (tgt : Int)) (ra : zOk hx → -2147483648 ≤ a ∧ a < 2147483648) (rb : zOk hx → -2147483648 ≤ b ∧ b < 2147483648)
    (kt : b ≤ a → lX G tab own cc nL ret rm c9 s9 tgt ls st hx hm o E) (kf : a < b → lX G tab own cc nL ret rm c9 s9 (pc + 3) ls st hx hm o E) : lX G tab own cc nL ret rm c9 s9 pc ls (.int (iI b) :: .int (iI a) :: st) hx hm o E := by
  intro p l e s m args below meth c D cA adr A H locs lsa C hT hA hG hO hM hK hP hD hS hl
  have hq := iI_le (rb hO).1 (rb hO).2 (ra hO).1 (ra hO).2
  refine lv_icmp_ge C.1 C.2.1 hd ht (fun q => kt ?_ p l e s m args below meth c D cA adr A H locs lsa C hT hA hG hO hM hK hP hD hS hl) (fun q => kf ?_ p l e s m args below meth c D cA adr A H locs lsa C hT hA hG hO hM hK hP hD hS hl)

  · rw [hq] at q; omega
  · rw [hq] at q; omega

theorem lx_icmp_gt {a b : Int} {off : Int} {tgt : Nat} (hd : decode cc pc = .ok (.if_icmp .gt off, 3)) (ht : (pc : Int) + off = (tgt : Int)) (ra : zOk hx → -2147483648 ≤ a ∧ a < 2147483648) (rb : zOk hx → -2147483648 ≤ b ∧ b < 2147483648)
    (kt : b < a → lX G tab own cc nL ret rm c9 s9 tgt ls st hx hm o E) (kf : a ≤ b → lX G tab own cc nL ret rm c9 s9 (pc + 3) ls st hx hm o E) : lX G tab own cc nL ret rm c9 s9 pc ls (.int (iI b) :: .int (iI a) :: st) hx hm o E := by
  intro p l e s m args below meth c D cA adr A H locs lsa C hT hA hG hO hM hK hP hD hS hl
  have hq := iI_lt (rb hO).1 (rb hO).2 (ra hO).1 (ra hO).2
  refine lv_icmp_gt C.1 C.2.1 hd ht (fun q => kt ?_ p l e s m args below meth c D cA adr A H locs lsa C hT hA hG hO hM hK hP hD hS hl) (fun q => kf ?_ p l e s m args below meth c D cA adr A H locs lsa C hT hA hG hO hM hK hP hD hS hl)

  · rw [hq] at q; omega
  · rw [hq] at q; omega

theorem lx_icmp_le {a b : Int} {off : Int} {tgt : Nat} (hd : decode cc pc = .ok (.if_icmp .le off, 3)) (ht : (pc : Int) + off = (tgt : Int)) (ra : zOk hx → -2147483648 ≤ a ∧ a < 2147483648) (rb : zOk hx → -2147483648 ≤ b ∧ b < 2147483648)
    (kt : a ≤ b → lX G tab own cc nL ret rm c9 s9 tgt ls st hx hm o E) (kf : b < a → lX G tab own cc nL ret rm c9 s9 (pc + 3) ls st hx hm o E) : lX G tab own cc nL ret rm c9 s9 pc ls (.int (iI b) :: .int (iI a) :: st) hx hm o E := by
  intro p l e s m args below meth c D cA adr A H locs lsa C hT hA hG hO hM hK hP hD hS hl
  have hq := iI_le (ra hO).1 (ra hO).2 (rb hO).1 (rb hO).2
  refine lv_icmp_le C.1 C.2.1 hd ht (fun q => kt ?_ p l e s m args below meth c D cA adr A H locs lsa C hT hA hG hO hM hK hP hD hS hl) (fun q => kf ?_ p l e s m args below meth c D cA adr A H locs lsa C hT hA hG hO hM hK hP hD hS hl)

  · rw [hq] at q; omega
  · rw [hq] at q; omega

theorem lx_if_eq {a : Int} {off : Int} {tgt : Nat} (hd : decode cc pc = .ok (.ifCond .eq off, 3)) (ht : (pc : Int) + off = (tgt : Int)) (ra : zOk hx → -2147483648 ≤ a ∧ a < 2147483648)
    (kt : a = 0 → lX G tab own cc nL ret rm c9 s9 tgt ls st hx hm o E) (kf : a ≠ 0 → lX G tab own cc nL ret rm c9 s9 (pc + 3) ls st hx hm o E) : lX G tab own cc nL ret rm c9 s9 pc ls (.int (iI a) :: st) hx hm o E := by
  intro p l e s m args below meth c D cA adr A H locs lsa C hT hA hG hO hM hK hP hD hS hl
  have hq := iI_eq (b := 0) (ra hO).1 (ra hO).2 (by omega) (by omega)
  refine lv_if_eq C.1 C.2.1 hd ht (fun q => kt ?_ p l e s m args below meth c D cA adr A H locs lsa C hT hA hG hO hM hK hP hD hS hl) (fun q => kf ?_ p l e s m args below meth c D cA adr A H locs lsa C hT hA hG hO hM hK hP hD hS hl)

  · rw [← iI_0, hq] at q; omega
  · rw [← iI_0, hq] at q; omega

theorem lx_if_ne {a : Int} {off : Int} {tgt : Nat} (hd : decode cc pc = .ok (.ifCond .ne off, 3)) (ht : (pc : Int) + off = (tgt : Int)) (ra : zOk hx → -2147483648 ≤ a ∧ a < 2147483648)
    (kt : a ≠ 0 → lX G tab own cc nL ret rm c9 s9 tgt ls st hx hm o E) (kf : a = 0 → lX G tab own cc nL ret rm c9 s9 (pc + 3) ls st hx hm o E) : lX G tab own cc nL ret rm c9 s9 pc ls (.int (iI a) :: st) hx hm o E := by
  intro p l e s m args below meth c D cA adr A H locs lsa C hT hA hG hO hM hK hP hD hS hl
  have hq := iI_eq (b := 0) (ra hO).1 (ra hO).2 (by omega) (by omega)
  refine lv_if_ne C.1 C.2.1 hd ht (fun q => kt ?_ p l e s m args below meth c D cA adr A H locs lsa C hT hA hG hO hM hK hP hD hS hl) (fun q => kf ?_ p l e s m args below meth c D cA adr A H locs lsa C hT hA hG hO hM hK hP hD hS hl)

  · rw [← iI_0, hq] at q; omega
  · rw [← iI_0, hq] at q; omega

theorem lx_if_lt {a : Int} {off : Int} {tgt : Nat} (hd : decode cc pc = .ok (.ifCond .lt off, 3)) (ht : (pc : Int) + off = (tgt : Int)) (ra : zOk hx → -2147483648 ≤ a ∧ a < 2147483648)
    (kt : a < 0 → lX G tab own cc nL ret rm c9 s9 tgt ls st hx hm o E) (kf : 0 ≤ a → lX G tab own cc nL ret rm c9 s9 (pc + 3) ls st hx hm o E) : lX G tab own cc nL ret rm c9 s9 pc ls (.int (iI a) :: st) hx hm o E := by
  intro p l e s m args below meth c D cA adr A H locs lsa C hT hA hG hO hM hK hP hD hS hl
  have hq := iI_lt (b := 0) (ra hO).1 (ra hO).2 (by omega) (by omega)
  refine lv_if_lt C.1 C.2.1 hd ht (fun q => kt ?_ p l e s m args below meth c D cA adr A H locs lsa C hT hA hG hO hM hK hP hD hS hl) (fun q => kf ?_ p l e s m args below meth c D cA adr A H locs lsa C hT hA hG hO hM hK hP hD hS hl)

  · rw [← iI_0, hq] at q; omega
  · rw [← iI_0, hq] at q; omega

theorem lx_if_le {a : Int} {off : Int} {tgt : Nat} (hd : decode cc pc = .ok (.ifCond .le off, 3)) (ht : (pc : Int) + off = (tgt : Int)) (ra : zOk hx → -2147483648 ≤ a ∧ a < 2147483648)
    (kt : a ≤ 0 → lX G tab own cc nL ret rm c9 s9 tgt ls st hx hm o E) (kf : 0 < a → lX G tab own cc nL ret rm c9 s9 (pc + 3) ls st hx hm o E) : lX G tab own cc nL ret rm c9 s9 pc ls (.int (iI a) :: st) hx hm o E := by
  intro p l e s m args below meth c D cA adr A H locs lsa C hT hA hG hO hM hK hP hD hS hl
  have hq := iI_le (b := 0) (ra hO).1 (ra hO).2 (by omega) (by omega)
  refine lv_if_le C.1 C.2.1 hd ht (fun q => kt ?_ p l e s m args below meth c D cA adr A H locs lsa C hT hA hG hO hM hK hP hD hS hl) (fun q => kf ?_ p l e s m args below meth c D cA adr A H locs lsa C hT hA hG hO hM hK hP hD hS hl)

  · rw [← iI_0, hq] at q; omega
  · rw [← iI_0, hq] at q; omega

theorem lx_if_gt {a : Int} {off : Int} {tgt : Nat} (hd : decode cc pc = .ok (.ifCond .gt off, 3)) (ht : (pc : Int) + off = (tgt : Int)) (ra : zOk hx → -2147483648 ≤ a ∧ a < 2147483648)
    (kt : 0 < a → lX G tab own cc nL ret rm c9 s9 tgt ls st hx hm o E) (kf : a ≤ 0 → lX G tab own cc nL ret rm c9 s9 (pc + 3) ls st hx hm o E) : lX G tab own cc nL ret rm c9 s9 pc ls (.int (iI a) :: st) hx hm o E := by
  intro p l e s m args below meth c D cA adr A H locs lsa C hT hA hG hO hM hK hP hD hS hl
  have hq := iI_lt (a := 0) (b := a) (by omega) (by omega) (ra hO).1 (ra hO).2
  refine lv_if_gt C.1 C.2.1 hd ht (fun q => kt ?_ p l e s m args below meth c D cA adr A H locs lsa C hT hA hG hO hM hK hP hD hS hl) (fun q => kf ?_ p l e s m args below meth c D cA adr A H locs lsa C hT hA hG hO hM hK hP hD hS hl)

  · rw [← iI_0, hq] at q; omega
  · rw [← iI_0, hq] at q; omega

theorem lx_if_ge {a : Int} {off : Int} {tgt : Nat} (hd : decode cc pc = .ok (.ifCond .ge off, 3)) (ht : (pc : Int) + off = (tgt : Int)) (ra : zOk hx → -2147483648 ≤ a ∧ a < 2147483648)
    (kt : 0 ≤ a → lX G tab own cc nL ret rm c9 s9 tgt ls st hx hm o E) (kf : a < 0 → lX G tab own cc nL ret rm c9 s9 (pc + 3) ls st hx hm o E) : lX G tab own cc nL ret rm c9 s9 pc ls (.int (iI a) :: st) hx hm o E := by
  intro p l e s m args below meth c D cA adr A H locs lsa C hT hA hG hO hM hK hP hD hS hl
  have hq := iI_le (a := 0) (b := a) (by omega) (by omega) (ra hO).1 (ra hO).2
  refine lv_if_ge C.1 C.2.1 hd ht (fun q => kt ?_ p l e s m args below meth c D cA adr A H locs lsa C hT hA hG hO hM hK hP hD hS hl) (fun q => kf ?_ p l e s m args below meth c D cA adr A H locs lsa C hT hA hG hO hM hK hP hD hS hl)

  · rw [← iI_0, hq] at q; omega
  · rw [← iI_0, hq] at q; omega

theorem lx_goto {off : Int} {tgt : Nat} (hd : decode cc pc = .ok (.goto off, 3)) (ht : (pc : Int) + off = (tgt : Int)) (k : lX G tab own cc nL ret rm c9 s9 tgt ls st hx hm o E) : lX G tab own cc nL ret rm c9 s9 pc ls st hx hm o E := by
  intro p l e s m args below meth c D cA adr A H locs lsa C hT hA hG hO hM hK hP hD hS hl
  exact lv_goto C.1 C.2.1 hd ht (k p l e s m args below meth c D cA adr A H locs lsa C hT hA hG hO hM hK hP hD hS hl)
theorem lx_swIn {dflt lo hi : Int} {offs : Array Int} {len : Nat} {a off : Int} {tgt : Nat} (hd : decode cc pc = .ok (.tableswitch dflt lo hi offs, len)) (ra : zOk hx → -2147483648 ≤ a ∧ a < 2147483648) (h1 : lo ≤ a) (h2 : a ≤ hi) (ho : offs[(a - lo).toNat]? = some off) (ht : (pc : Int) + off = (tgt : Int)) (k : lX G tab own cc nL ret rm c9 s9 tgt ls st hx hm o E) : lX G tab own cc nL ret rm c9 s9 pc ls (.int (iI a) :: st) hx hm o E := by
  intro p l e s m args below meth c D cA adr A H locs lsa C hT hA hG hO hM hK hP hD hS hl
  have e9 := iI_toInt (ra hO).1 (ra hO).2
  exact lv_tableIn C.1 C.2.1 hd (by rw [e9]; omega) (by rw [e9]; omega) (by rw [e9]; exact ho) ht (k p l e s m args below meth c D cA adr A H locs lsa C hT hA hG hO hM hK hP hD hS hl)
theorem lx_swOut {dflt lo hi : Int} {offs : Array Int} {len : Nat} {a : Int} {tgt : Nat} (hd : decode cc pc = .ok (.tableswitch dflt lo hi offs, len)) (ra : zOk hx → -2147483648 ≤ a ∧ a < 2147483648) (h1 : a < lo ∨ hi < a) (ht : (pc : Int) + dflt = (tgt : Int)) (k : lX G tab own cc nL ret rm c9 s9 tgt ls st hx hm o E) : lX G tab own cc nL ret rm c9 s9 pc ls (.int (iI a) :: st) hx hm o E := by
  intro p l e s m args below meth c D cA adr A H locs lsa C hT hA hG hO hM hK hP hD hS hl
  have e9 := iI_toInt (ra hO).1 (ra hO).2
  exact lv_tableOut C.1 C.2.1 hd (by rw [e9]; exact h1) ht (k p l e s m args below meth c D cA adr A H locs lsa C hT hA hG hO hM hK hP hD hS hl)
end LX

