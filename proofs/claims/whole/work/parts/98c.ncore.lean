/-! constructors: the world grows; the place k lies at the (k - b)-th address behind the old heap -/
def nNl : List (String × Nat × MethodName) := [(RX6, 9, yX2_init), (RX6, 18, yX0_init), (RX0, 11, yX1_init), (RX0, 20, yX3_init), (RX0, 27, yX4_init), (RX0, 34, yX5_init)]
def nNw (s : State) : Prop := ∀ q ∈ nNl, va_Nw (.methodLinkNest q.1 q.2.1 q.2.2 RX6) s
theorem nNw_at {s U : State} (h : nNw s) (hW : s.WarmedH U.vm) : nNw U := fun q hq => va_Nw.warmM hW (h q hq)
def nAd (b sz : Nat) (adr : Nat → Nat) : Prop := ∀ k : Nat, b ≤ k → adr k = sz + (k - b)
def nA (a sz : Nat) : Nat → Nat := fun k => if k = 0 then a else sz + (k - 1)
abbrev nGv : Type := Launch → State → Array Value → Method → Code → (Nat → Prop) → va_G → (Nat → ClassId) → Prop
def nGi : nGv := fun _ _ _ meth _ _ _ _ => meth.name = "<init>"
def nX (G : nGv) (b : Nat) (own : String) (cc : ByteArray) (nL : Nat) (ret : Option FieldType) (rm : Room) (l : List aC) (c9 s9 pc : Nat) (ls : (Nat → Nat) → List (Nat × Value)) (st : List Value) (E : zF) : Prop :=
  ∀ (p : Program) (l_ : Launch) (e : Env) (s : State) (m : MethodId) (args : Array Value) (below : List Frame) (meth : Method) (c : Code) (D : va_G) (cA : Nat → ClassId) (adr : Nat → Nat) (A : Nat → Prop) (H : Heap) (locs : List Loc) (lsa : Array Slot),
    zCx p s m args meth c own cc nL ret → G l_ s args meth c A D cA → nNw s → (∀ q : Nat, s.heap.size ≤ q → A q) → nAd b s.heap.size adr → va_K D vwCl (zT cA) s → va_P D vwCl (zW cA adr 0 l) H → va_D A (zW cA adr 0 l) → va_S A s.heap H locs → H.size + b = s.heap.size + l.length → b ≤ l.length → lv_has lsa nL (ls adr) →
    W p l_ e rm s m args below meth c H locs c9 s9 (E below args s A D cA adr) (F0 m pc lsa (st.map (cvv adr)))
theorem zW_app (cA : Nat → ClassId) (adr : Nat → Nat) (l r : List aC) : ∀ k : Nat, zW cA adr k (l ++ r) = zW cA adr k l ++ zW cA adr (k + l.length) r := by
  induction l with
  | nil => intro k; rfl
  | cons c t ih =>
    intro k
    show (adr k, zE cA adr c) :: zW cA adr (k + 1) (t ++ r) = (adr k, zE cA adr c) :: (zW cA adr (k + 1) t ++ zW cA adr (k + (t.length + 1)) r)
    rw [ih (k + 1), show k + 1 + t.length = k + (t.length + 1) by omega]
def shV (n : Nat) (v : Value) : Value := match v with
  | .ref k => .ref (n + k)
  | w => w
def shC (n : Nat) (c : aC) : aC := match c with
  | .inl o => .inl (o.1, o.2.map (shV n))
  | .inr a => .inr a
theorem cvv_sh {adr adr2 : Nat → Nat} {n : Nat} (h : ∀ k, adr2 k = adr (n + k)) (v : Value) : cvv adr2 v = cvv adr (shV n v) := by
  cases v <;> first | rfl | (show Value.ref _ = Value.ref _; rw [h])
theorem zW_sh {cA : Nat → ClassId} {adr adr2 : Nat → Nat} {n : Nat} (h : ∀ k, adr2 k = adr (n + k)) (r : List aC) : ∀ j : Nat, zW cA adr2 j r = zW cA adr (n + j) (r.map (shC n)) := by
  induction r with
  | nil => intro j; rfl
  | cons c t ih =>
    intro j
    show (adr2 j, zE cA adr2 c) :: zW cA adr2 (j + 1) t = (adr (n + j), zE cA adr (shC n c)) :: zW cA adr (n + j + 1) (t.map (shC n))
    rw [ih (j + 1), h j, show n + (j + 1) = n + j + 1 by omega]
    have e : zE cA adr2 c = zE cA adr (shC n c) := by
      cases c with
      | inl o =>
        show Sum.inr (o.1, o.2.map (cvv adr2)) = Sum.inr (o.1, (o.2.map (shV n)).map (cvv adr))
        rw [List.map_map]
        congr 2
        exact List.map_congr_left (fun v _ => cvv_sh h v)
      | inr a => rfl
    rw [e]
section NXR
variable {G : nGv} {b : Nat} {own : String} {cc : ByteArray} {nL : Nat} {ret : Option FieldType} {rm : Room} {l : List aC} {c9 s9 pc : Nat} {ls : (Nat → Nat) → List (Nat × Value)} {st st0 : List Value} {E : zF}
theorem nx_iconst {n : Int} (hd : decode cc pc = .ok (.iconst n, 1)) (k : nX G b own cc nL ret rm l c9 s9 (pc + 1) ls (.int (iI n) :: st) E) : nX G b own cc nL ret rm l c9 s9 pc ls st E := by
  intro p l_ e s m args below meth c D cA adr A H locs lsa C hn hN hA hB hK hP hD hS hz hb hl
  exact lv_iconst C.1 C.2.1 hd rfl (k p l_ e s m args below meth c D cA adr A H locs lsa C hn hN hA hB hK hP hD hS hz hb hl)
theorem nx_bipush {n : Int} (hd : decode cc pc = .ok (.bipush n, 2)) (hv : (Int8.ofInt n).toInt32 = iI n) (k : nX G b own cc nL ret rm l c9 s9 (pc + 2) ls (.int (iI n) :: st) E) : nX G b own cc nL ret rm l c9 s9 pc ls st E := by
  intro p l_ e s m args below meth c D cA adr A H locs lsa C hn hN hA hB hK hP hD hS hz hb hl
  exact lv_bipush C.1 C.2.1 hd hv (k p l_ e s m args below meth c D cA adr A H locs lsa C hn hN hA hB hK hP hD hS hz hb hl)
theorem nx_sipush {n : Int} (hd : decode cc pc = .ok (.sipush n, 3)) (hv : (Int16.ofInt n).toInt32 = iI n) (k : nX G b own cc nL ret rm l c9 s9 (pc + 3) ls (.int (iI n) :: st) E) : nX G b own cc nL ret rm l c9 s9 pc ls st E := by
  intro p l_ e s m args below meth c D cA adr A H locs lsa C hn hN hA hB hK hP hD hS hz hb hl
  exact lv_sipush C.1 C.2.1 hd hv (k p l_ e s m args below meth c D cA adr A H locs lsa C hn hN hA hB hK hP hD hS hz hb hl)
theorem nx_aload_n {j : Fin 4} {i : Nat} {x : Nat} (hd : decode cc pc = .ok (.aload_n j, 1)) (hi : (j : Nat) = i) {k9 : Nat} (hv : ∀ adr : Nat → Nat, (ls adr)[k9]? = some (i, .ref (adr x))) (k : nX G b own cc nL ret rm l c9 s9 (pc + 1) ls (.ref x :: st) E) : nX G b own cc nL ret rm l c9 s9 pc ls st E := by
  intro p l_ e s m args below meth c D cA adr A H locs lsa C hn hN hA hB hK hP hD hS hz hb hl
  exact lv_aload_n C.1 C.2.1 hd hi (lv_at hl k9 (hv adr)) (k p l_ e s m args below meth c D cA adr A H locs lsa C hn hN hA hB hK hP hD hS hz hb hl)
theorem nx_astore_n {j : Fin 4} {i : Nat} {x : Nat} (hd : decode cc pc = .ok (.astore_n j, 1)) (hi : (j : Nat) = i) (hn9 : i < nL) {l9 : (Nat → Nat) → List (Nat × Value)} (hc : ∀ adr : Nat → Nat, (i, Value.ref (adr x)) :: (ls adr).filter (fun q => !(q.1 == i) && !(q.1 + 1 == i && q.2.category == 2)) = l9 adr) (k : nX G b own cc nL ret rm l c9 s9 (pc + 1) l9 st E) : nX G b own cc nL ret rm l c9 s9 pc ls (.ref x :: st) E := by
  intro p l_ e s m args below meth c D cA adr A H locs lsa C hn hN hA hB hK hP hD hS hz hb hl
  exact lv_astore_n C.1 C.2.1 hd hi hl hn9 (hc adr) (fun ls2 hl2 => k p l_ e s m args below meth c D cA adr A H locs ls2 C hn hN hA hB hK hP hD hS hz hb hl2)
theorem nx_dup {v : Value} (hd : decode cc pc = .ok (.dup, 1)) (hv : v.category = 1) (k : nX G b own cc nL ret rm l c9 s9 (pc + 1) ls (v :: v :: st) E) : nX G b own cc nL ret rm l c9 s9 pc ls (v :: st) E := by
  intro p l_ e s m args below meth c D cA adr A H locs lsa C hn hN hA hB hK hP hD hS hz hb hl
  exact lv_dup C.1 C.2.1 hd (by rw [cvv_cat]; exact hv) (k p l_ e s m args below meth c D cA adr A H locs lsa C hn hN hA hB hK hP hD hS hz hb hl)
theorem nx_newarray {ty9 : ArrayType} {t N : Nat} {n : Int} {ty : FieldType} {c2 s2 : Nat} (hd : decode cc pc = .ok (.newarray ty9, 2)) (hty : newarray.typeOf ty9 = ty) (ht : (t = 0 ∧ ty = .int) ∨ (t = 1 ∧ ty = .boolean)) (harr : Cond.arrayClass ty ∈ zU) (hN : n = (N : Int) ∧ N ≤ 8192) (hc : c9 + 1 = c2 ∧ c2 ≤ rm.cells) (hs : s9 + N = s2 ∧ s2 ≤ rm.slots) {l2 : List aC} {q9 : Nat} (h2 : l ++ [.inr (t, N, fun _ => iI 0)] = l2 ∧ l.length = q9) (k : nX G b own cc nL ret rm l2 c2 s2 (pc + 2) ls (.ref q9 :: st) E) : nX G b own cc nL ret rm l c9 s9 pc ls (.int (iI n) :: st) E := by
  intro p l_ e s m args below meth c D cA adr A H locs lsa C hn hN9 hA hB hK hP hD hS hz hb hl
  subst hty
  obtain ⟨hN, hN8⟩ := hN
  obtain ⟨rfl, hc⟩ := hc
  obtain ⟨rfl, hs⟩ := hs
  obtain ⟨rfl, rfl⟩ := h2
  subst hN
  have ea : H.size = adr l.length := by rw [hB _ hb]; omega
  have n1 : ¬ iI (N : Int) < 0 := nI_pos (n := N) (by omega)
  have n2 : (iI (N : Int)).toNatClampNeg = N := nI_clamp (n := N) (by omega)
  have nb : N * componentBytes (newarray.typeOf ty9) ≤ 536870912 := by
    rcases ht with ⟨-, e⟩ | ⟨-, e⟩ <;> rw [e]
    · exact Nat.le_trans (Nat.mul_le_mul_right _ hN8) (by decide)
    · exact Nat.le_trans (Nat.mul_le_mul_right _ hN8) (by decide)
  refine va_newaK C.1 C.2.1 (C.2.2.2.2.2.1 _ harr) rfl hd rfl n1 n2 nb hc hs ea (fun H1 cX e1 z1 o1 hAr hNm => ?_)
  have eC : cX = cA t := by
    rcases ht with ⟨rfl, e9⟩ | ⟨rfl, e9⟩
    · have h9 : s.vm.findClass _ = some (cA 0) := (hK.2 0 (cA 0, .int) rfl).2
      rw [e9] at hNm
      exact Option.some.inj (hNm.symm.trans h9)
    · have h9 : s.vm.findClass _ = some (cA 1) := (hK.2 1 (cA 1, .boolean) rfl).2
      rw [e9] at hNm
      exact Option.some.inj (hNm.symm.trans h9)
  have eD : defaultValue (newarray.typeOf ty9) = .int (iI 0) := by rcases ht with ⟨-, e⟩ | ⟨-, e⟩ <;> rw [e] <;> rfl
  rw [eD, eC] at e1
  have hk9 : ∀ (j : Nat) (q : Nat × va_E), (zW cA adr 0 l)[j]? = some q → H1[q.1]? = H[q.1]? := fun j q hq => o1 q.1 (by rw [← ea]; exact (hP j q hq).lt)
  have ew : zW cA adr 0 (l ++ [.inr (t, N, fun _ => iI 0)]) = zW cA adr 0 l ++ [(adr l.length, .inl (cA t, N, .inl fun _ => iI 0))] := by rw [zW_app, Nat.zero_add]; rfl
  refine k p l_ e s m args below meth c D cA adr A H1 locs lsa C hn hN9 hA hB hK ?_ ?_ ⟨Nat.le_trans hS.1 (by omega), fun q h1 h2 => (o1 q (by rw [← ea]; exact Nat.lt_of_lt_of_le h1 hS.1)).trans (hS.2.1 q h1 h2), hS.2.2⟩ (by rw [List.length_append, z1, ← ea]; simp only [List.length_cons, List.length_nil]; omega) (by rw [List.length_append]; omega) hl
  · rw [ew]
    refine va_P.app (hP.kept hk9) (fun j q hq => ?_)
    have hj : j < 1 := (List.getElem?_eq_some_iff.mp hq).1
    rw [show j = 0 by omega] at hq
    cases hq
    exact e1
  · rw [ew]
    exact hD.push hP ea.symm (hA _ (by rw [← ea]; exact hS.1))
theorem nx_new {K : String} {T : u_T} {N ci idx : Nat} {fs : List Value} {ty0 : Nat → FieldType} {c2 s2 : Nat} (hd : decode cc pc = .ok (.new idx, 3)) (hcl : vwCl[ci]? = some (K, T, N)) (hin : ∀ w ∈ u_ws K T N, w ∈ zU) (hty : ∀ k, k < N → parseFieldDescriptor (T k).2.2.1 = some (ty0 k)) (hlk : Cond.classLink own idx K ∈ zU) (hinst : Cond.instantiable K N ∈ zU) (hini : Cond.initialized K ∈ zU) (hfs : ∀ j, j < N → defaultValue (ty0 j) = vp_V fs j) (hmp : ∀ adr : Nat → Nat, fs.map (cvv adr) = fs) (hc : c9 + 1 = c2 ∧ c2 ≤ rm.cells) (hs : s9 + N = s2 ∧ s2 ≤ rm.slots) {l2 : List aC} {q9 : Nat} (h2 : l ++ [.inl (ci, fs)] = l2 ∧ l.length = q9) (k : nX G b own cc nL ret rm l2 c2 s2 (pc + 3) ls (.ref q9 :: st) E) : nX G b own cc nL ret rm l c9 s9 pc ls st E := by
  intro p l_ e s m args below meth c D cA adr A H locs lsa C hn hN9 hA hB hK hP hD hS hz hb hl
  obtain ⟨rfl, hc⟩ := hc
  obtain ⟨rfl, hs⟩ := hs
  obtain ⟨rfl, rfl⟩ := h2
  have ea : H.size = adr l.length := by rw [hB _ hb]; omega
  have hKn := hK.1 ci _ hcl
  have wd := C.2.2.2.2.2.1
  refine W.newcK C.1 C.2.1 C.2.2.2.2.1 (wd _ hlk) (wd _ hinst) (wd _ hini) rfl hd hc hs hKn.2.1 ea (fun H1 kC hkC e1 z1 o1 => ?_)
  have hk9 : ∀ (j : Nat) (q : Nat × va_E), (zW cA adr 0 l)[j]? = some q → H1[q.1]? = H[q.1]? := fun j q hq => o1 q.1 (by rw [← ea]; exact (hP j q hq).lt)
  have ew : zW cA adr 0 (l ++ [.inl (ci, fs)]) = zW cA adr 0 l ++ [(adr l.length, .inr (ci, fs))] := by
    rw [zW_app, Nat.zero_add]
    show _ ++ [(adr l.length, Sum.inr (ci, fs.map (cvv adr)))] = _
    rw [hmp]
  refine k p l_ e s m args below meth c D cA adr A H1 locs lsa C hn hN9 hA hB hK ?_ ?_ ⟨Nat.le_trans hS.1 (by omega), fun q h1 h2 => (o1 q (by rw [← ea]; exact Nat.lt_of_lt_of_le h1 hS.1)).trans (hS.2.1 q h1 h2), hS.2.2⟩ (by rw [List.length_append, z1, ← ea]; simp only [List.length_cons, List.length_nil]; omega) (by rw [List.length_append]; omega) hl
  · rw [ew]
    refine va_P.app (hP.kept hk9) (fun j q hq => ?_)
    have hj : j < 1 := (List.getElem?_eq_some_iff.mp hq).1
    rw [show j = 0 by omega] at hq
    cases hq
    exact ⟨_, hcl, (u_born ty0 wd hin hKn hkC e1 hty).to hfs⟩
  · rw [ew]
    exact hD.push hP ea.symm (hA _ (by rw [← ea]; exact hS.1))
theorem zW_setv {cA : Nat → ClassId} {adr : Nat → Nat} {l : List aC} {q ci k0 : Nat} {fs : List Value} {v : Value} : (zW cA adr 0 l).set q (adr q, .inr (ci, (fs.map (cvv adr)).set k0 (cvv adr v))) = zW cA adr 0 (l.set q (.inl (ci, fs.set k0 v))) := by
  have e8 : zE cA adr (.inl (ci, fs.set k0 v)) = .inr (ci, (fs.map (cvv adr)).set k0 (cvv adr v)) := by
    show Sum.inr (ci, (fs.set k0 v).map (cvv adr)) = _
    rw [List.map_set]
  rw [← zW_set, Nat.zero_add, e8]
theorem nx_put {q ci k0 idx N : Nat} {K : String} {T : u_T} {v : Value} {ty : FieldType} {fs : List Value} {l2 : List aC} {ty0 : Nat → FieldType} (hd : decode cc pc = .ok (.putfield idx, 3)) (hG1 : ∀ l_ s args meth c A D cA, G l_ s args meth c A D cA → meth.name = "<init>") (he : l[q]? = some (.inl (ci, fs))) (hcl : vwCl[ci]? = some (K, T, N)) (hk : k0 < N) (hlf : k0 < fs.length) (hin : ∀ w ∈ u_ws K T N, w ∈ zU) (hlk : Cond.fieldLink own idx (T k0).1 (T k0).2.1 (T k0).2.2.1 ∈ zU) (hty : ∀ k, k < N → parseFieldDescriptor (T k).2.2.1 = some (ty0 k)) (hnm : ∀ a, a < N → ∀ b, b < N → a ≠ b → (T a).2.1 ≠ (T b).2.1) (hf : (T k0).2.2.2 = false ∨ (T k0).1 = own) (hd9 : parseFieldDescriptor (T k0).2.2.1 = some ty) (hv : ∀ adr : Nat → Nat, narrow ty (cvv adr v) = cvv adr v ∧ fits ty (cvv adr v) = true) (h2 : l.set q (.inl (ci, fs.set k0 v)) = l2) (k : nX G b own cc nL ret rm l2 c9 s9 (pc + 3) ls st E) : nX G b own cc nL ret rm l c9 s9 pc ls (v :: .ref q :: st) E := by
  intro p l_ e s m args below meth c D cA adr A H locs lsa C hn hN9 hA hB hK hP hD hS hz hb hl
  subst h2
  have wd := C.2.2.2.2.2.1
  have hown : s.vm.findClass own = some m.cls := C.2.2.2.2.1
  have he2 : (zW cA adr 0 l)[q]? = some (adr q, .inr (ci, fs.map (cvv adr))) := zW_obj he
  have hap := va_apart (own := own) wd hin ty0 hty hnm hK hcl
  obtain ⟨r, r1, cell, q1, q2, q3, q4⟩ := hP q _ he2
  have er : r = (K, T, N) := Option.some.inj (r1.symm.trans hcl)
  subst er
  obtain ⟨hSl, hfc, kC, hkC, hkind⟩ := hK.1 ci _ hcl
  obtain ⟨cf, kf, fi, f, hi, hsl⟩ := hSl k0 hk
  have hst := (u_facts hfc hkC (u_lays wd hin hk) hi).1
  have hlay := wd _ (hin _ (u_in_lay hk))
  unfold u_lay at hlay
  have fin : ∀ H1 : Heap, H1[adr q]? = some (cell.setSlot f.slot (cvv adr v)) → H1.size = H.size → (∀ j : Nat, j ≠ adr q → H1[j]? = H[j]?) → W p l_ e rm s m args below meth c H1 (locs ++ [⟨adr q, f.slot⟩]) c9 s9 (E below args s A D cA adr) (F0 m (pc + 3) lsa (st.map (cvv adr))) := by
    intro H1 e1 e2 e3
    rw [hsl] at e1
    have hP1 := hP.set hD he2 (e := .inr (ci, (fs.map (cvv adr)).set k0 (cvv adr v))) ⟨_, hcl, t_OB.to (V := updV (vp_V (fs.map (cvv adr))) k0 (cvv adr v)) ⟨_, e1, q2, q3, t_set q4 hap hk (cvv adr v)⟩ (fun j _ => vp_updV_set (by rw [List.length_map]; exact hlf) (cvv adr v) j)⟩ e3
    have hD1 := hD.set (e := .inr (ci, (fs.map (cvv adr)).set k0 (cvv adr v))) he2
    rw [zW_setv] at hP1 hD1
    exact k p l_ e s m args below meth c D cA adr A H1 _ lsa C hn hN9 hA hB hK hP1 hD1 (hS.put e2 e3 (hD.2 q _ he2)) (by rw [List.length_set, e2]; exact hz) (by rw [List.length_set]; exact hb) hl
  by_cases hfin : (T k0).2.2.2 = true
  · rw [if_pos hfin] at hlay
    have hdecl : (T k0).1 = own := by
      rcases hf with h | h
      · rw [hfin] at h; cases h
      · exact h
    have hcf : m.cls = cf := by
      obtain ⟨_, _, c', _, _, _, -, -, hf', -, -, -, hown2, -⟩ := Cond.laysFinal_spec hlay
      have e1 : c' = cf := by have := hi.symm.trans hf'; simp at this; exact this.1.symm
      rw [hdecl] at hown2
      rw [← e1]
      exact Option.some.inj (hown.symm.trans hown2)
    have h6 := u_fits hfc hkC hkind (Or.inr hlay) hi hd9 (hv adr).1 (hv adr).2
    exact W.putFinK C.1 C.2.1 hown (wd _ hlk) hi hst hcf (hG1 _ _ _ _ _ _ _ _ hn) (by rw [q2]; exact h6) q1 q3 (by rw [hsl]; exact k2_hasslot (q4 k0 hk)) rfl rfl hd fin
  · rw [if_neg hfin] at hlay
    have h6 := u_store hfc hkC hkind hlay hi hd9 (hv adr).1 (hv adr).2
    exact W.putK C.1 C.2.1 (f := f) ⟨hown, wd _ hlk, ⟨_, _, _, hi⟩, hst⟩ (by rw [q2]; exact h6) q1 q3 (by rw [hsl]; exact k2_hasslot (q4 k0 hk)) rfl rfl hd fin
end NXR

