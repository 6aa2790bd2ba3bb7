/-! numbers: an int of the machine is iI z, z a whole number -/
def iI (z : Int) : Int32 := Int32.ofInt z
theorem zbmod {z : Int} (h1 : -2147483648 ≤ z) (h2 : z < 2147483648) : z.bmod (2 ^ 32) = z := by
  rw [Int.bmod_eq_of_le (by omega) (by omega)]
theorem iI_toInt {z : Int} (h1 : -2147483648 ≤ z) (h2 : z < 2147483648) : (iI z).toInt = z := by
  unfold iI
  rw [Int32.toInt_ofInt, zbmod h1 h2]
theorem iI_asI (x : Int32) : iI x.toInt = x := Int32.ofInt_toInt x
theorem zrng (x : Int32) : -2147483648 ≤ x.toInt ∧ x.toInt < 2147483648 := by
  have h1 := Int32.le_toInt x
  have h2 := Int32.toInt_lt x
  omega
theorem iI_of (x : Int32) : ∃ z : Int, x = iI z ∧ -2147483648 ≤ z ∧ z < 2147483648 := ⟨x.toInt, (iI_asI x).symm, (zrng x).1, (zrng x).2⟩
theorem iI_ti (z : Int) : (iI z).toInt = z.bmod (2 ^ 32) := by
  unfold iI
  rw [Int32.toInt_ofInt]
theorem iI_add (a b : Int) : iI a + iI b = iI (a + b) := by
  apply Int32.toInt_inj.mp
  rw [Int32.toInt_add, iI_ti, iI_ti, iI_ti, Int.bmod_add_bmod, Int.add_bmod_bmod]
theorem iI_sub (a b : Int) : iI a - iI b = iI (a - b) := by
  apply Int32.toInt_inj.mp
  rw [Int32.toInt_sub, iI_ti, iI_ti, iI_ti, Int.bmod_sub_bmod, Int.sub_bmod_bmod]
theorem iI_mul (a b : Int) : iI a * iI b = iI (a * b) := by
  apply Int32.toInt_inj.mp
  rw [Int32.toInt_mul, iI_ti, iI_ti, iI_ti, Int.bmod_mul_bmod, Int.mul_bmod_bmod]
theorem iI_lt {a b : Int} (h1 : -2147483648 ≤ a) (h2 : a < 2147483648) (h3 : -2147483648 ≤ b) (h4 : b < 2147483648) : iI a < iI b ↔ a < b := by
  rw [Int32.lt_iff_toInt_lt, iI_toInt h1 h2, iI_toInt h3 h4]
theorem iI_le {a b : Int} (h1 : -2147483648 ≤ a) (h2 : a < 2147483648) (h3 : -2147483648 ≤ b) (h4 : b < 2147483648) : iI a ≤ iI b ↔ a ≤ b := by
  rw [Int32.le_iff_toInt_le, iI_toInt h1 h2, iI_toInt h3 h4]
theorem iI_eq {a b : Int} (h1 : -2147483648 ≤ a) (h2 : a < 2147483648) (h3 : -2147483648 ≤ b) (h4 : b < 2147483648) : iI a = iI b ↔ a = b := by
  rw [← Int32.toInt_inj, iI_toInt h1 h2, iI_toInt h3 h4]
theorem iI_0 : iI 0 = 0 := by decide +kernel
/-- what an int keeps of a whole number -/
def wr (z : Int) : Int := z.bmod 4294967296
theorem wr_id {z : Int} (h1 : -2147483648 ≤ z) (h2 : z < 2147483648) : wr z = z := zbmod h1 h2
theorem wr_rng (z : Int) : -2147483648 ≤ wr z ∧ wr z < 2147483648 := by
  have h := zrng (iI z)
  rw [iI_ti] at h
  exact h
theorem iI_wr (z : Int) : iI (wr z) = iI z := by
  apply Int32.toInt_inj.mp
  rw [iI_toInt (wr_rng z).1 (wr_rng z).2, iI_ti]
  rfl
theorem zvp {i : Int} {n : Nat} (h0 : 0 ≤ i) (h1 : i < (n : Int)) (h2 : i < 2147483648) : vp_in (iI i) n := by
  rw [vp_in_iff, iI_toInt (by omega) h2]
  exact ⟨h0, h1⟩
theorem zclamp {i : Int} (h0 : 0 ≤ i) (h2 : i < 2147483648) : (iI i).toNatClampNeg = i.toNat := by
  unfold Int32.toNatClampNeg
  rw [iI_toInt (by omega) h2]
theorem iI_div {a b : Int} (h1 : 0 ≤ a) (h2 : a < 2147483648) (h3 : 0 < b) (h4 : b < 2147483648) : iI a / iI b = iI (a / b) := by
  apply Int32.toInt_inj.mp
  have q1 : 0 ≤ a / b := Int.ediv_nonneg h1 (by omega)
  have q2 : a / b ≤ a := Int.ediv_le_self _ h1
  rw [Int32.toInt_div, iI_toInt (by omega) h2, iI_toInt (by omega) h4, iI_toInt (by omega) (by omega), Int.tdiv_eq_ediv_of_nonneg h1]
  exact zbmod (by omega) (by omega)
/-! the state of one side: its numbers, and its arrays by their places -/
abbrev zH : Type := (Nat → Int) × (Nat → Int → Int)
def gs (h : zH) (k : Nat) : Int := h.1 k
def ga (h : zH) (a : Nat) (i : Int) : Int := h.2 a i
def ps (h : zH) (k : Nat) (v : Int) : zH := (fun j => if j = k then v else h.1 j, h.2)
def pa (h : zH) (a : Nat) (i : Int) (v : Int) : zH := (h.1, fun b j => if b = a ∧ j = i then v else h.2 b j)
theorem gs_ps (h : zH) (k j : Nat) (v : Int) : gs (ps h k v) j = if j = k then v else gs h j := rfl
theorem gs_pa (h : zH) (a j : Nat) (i v : Int) : gs (pa h a i v) j = gs h j := rfl
theorem ga_ps (h : zH) (k a : Nat) (i v : Int) : ga (ps h k v) a i = ga h a i := rfl
theorem ga_pa (h : zH) (a b : Nat) (i j v : Int) : ga (pa h a i v) b j = if b = a ∧ j = i then v else ga h b j := rfl
def zOk (h : zH) : Prop := (∀ k, k < 1000 → -2147483648 ≤ gs h k ∧ gs h k < 2147483648) ∧ ∀ a i, -2147483648 ≤ ga h a i ∧ ga h a i < 2147483648
theorem zOk_ps {h : zH} {k : Nat} {v : Int} (o : zOk h) (hv : -2147483648 ≤ v ∧ v < 2147483648) : zOk (ps h k v) := by
  refine ⟨fun j hj => ?_, fun a i => o.2 a i⟩
  rw [gs_ps]
  split
  · exact hv
  · exact o.1 j hj
theorem zOk_psL {h : zH} {k : Nat} {v : Int} (o : zOk h) (hk : 1000 ≤ k) : zOk (ps h k v) := by
  refine ⟨fun j hj => ?_, fun a i => o.2 a i⟩
  rw [gs_ps, if_neg (by omega)]
  exact o.1 j hj
theorem zOk_pa {h : zH} {a : Nat} {i v : Int} (o : zOk h) (hv : -2147483648 ≤ v ∧ v < 2147483648) : zOk (pa h a i v) := by
  refine ⟨fun j hj => o.1 j hj, fun b j => ?_⟩
  rw [ga_pa]
  split
  · exact hv
  · exact o.2 b j
/-! its cells, and where they lie -/
abbrev aC : Type := (Nat × List Value) ⊕ (Nat × Nat × (Nat → Int32))
def cvv (adr : Nat → Nat) (v : Value) : Value := match v with
  | .ref k => .ref (adr k)
  | w => w
theorem cvv_cat (adr : Nat → Nat) (v : Value) : (cvv adr v).category = v.category := by cases v <;> rfl
def zE (cA : Nat → ClassId) (adr : Nat → Nat) (c : aC) : va_E := match c with
  | .inl o => .inr (o.1, o.2.map (cvv adr))
  | .inr a => .inl (cA a.1, a.2.1, .inl a.2.2)
def zW (cA : Nat → ClassId) (adr : Nat → Nat) : Nat → List aC → va_W
  | _, [] => []
  | k, c :: r => (adr k, zE cA adr c) :: zW cA adr (k + 1) r
theorem zW_get (cA : Nat → ClassId) (adr : Nat → Nat) (l : List aC) : ∀ (k i : Nat), (zW cA adr k l)[i]? = (l[i]?).map (fun c => (adr (k + i), zE cA adr c)) := by
  induction l with
  | nil => intro k i; rfl
  | cons c r ih =>
    intro k i
    cases i with
    | zero => rfl
    | succ i =>
      show (zW cA adr (k + 1) r)[i]? = (r[i]?).map _
      rw [ih (k + 1) i, show k + 1 + i = k + (i + 1) by omega]
theorem zW_set (cA : Nat → ClassId) (adr : Nat → Nat) (l : List aC) (c : aC) : ∀ (k i : Nat), (zW cA adr k l).set i (adr (k + i), zE cA adr c) = zW cA adr k (l.set i c) := by
  induction l with
  | nil => intro k i; rfl
  | cons d r ih =>
    intro k i
    cases i with
    | zero => rfl
    | succ i =>
      show _ :: (zW cA adr (k + 1) r).set i _ = _ :: zW cA adr (k + 1) (r.set i c)
      rw [← ih (k + 1) i, show k + 1 + i = k + (i + 1) by omega]
theorem zW_obj {cA : Nat → ClassId} {adr : Nat → Nat} {l : List aC} {q ci : Nat} {fs : List Value} (h : l[q]? = some (.inl (ci, fs))) : (zW cA adr 0 l)[q]? = some (adr q, .inr (ci, fs.map (cvv adr))) := by
  rw [zW_get, h, Nat.zero_add]
  rfl
theorem zW_arr {cA : Nat → ClassId} {adr : Nat → Nat} {l : List aC} {q t n : Nat} {f : Nat → Int32} (h : l[q]? = some (.inr (t, n, f))) : (zW cA adr 0 l)[q]? = some (adr q, .inl (cA t, n, .inl f)) := by
  rw [zW_get, h, Nat.zero_add]
  rfl
abbrev zT (cA : Nat → ClassId) : List (ClassId × FieldType) := [(cA 0, .int), (cA 1, .boolean)]
/-- a number's field, a reference's field, an array: what they are in the cells -/
def zFld (cs : zH → List aC) (q ci k kk : Nat) : Prop := ∀ h : zH, ∃ fs : List Value, (cs h)[q]? = some (.inl (ci, fs)) ∧ fs[k]? = some (.int (iI (gs h kk))) ∧ k < fs.length ∧ ∀ v : Int, (cs h).set q (.inl (ci, fs.set k (.int (iI v)))) = cs (ps h kk v)
def zRef (cs : zH → List aC) (q ci k r : Nat) : Prop := ∀ h : zH, ∃ fs : List Value, (cs h)[q]? = some (.inl (ci, fs)) ∧ fs[k]? = some (.ref r)
def zArr (cs : zH → List aC) (q t n : Nat) : Prop := ∀ h : zH, (cs h)[q]? = some (.inr (t, n, fun j => iI (ga h q (j : Int)))) ∧ ∀ f : Nat → Int32, ∀ h' : zH, (∀ j : Nat, f j = iI (ga h' q (j : Int))) → (∀ b : Nat, b ≠ q → ∀ j : Nat, ga h' b (j : Int) = ga h b (j : Int)) → (∀ k, gs h' k = gs h k) → (cs h).set q (.inr (t, n, f)) = cs h'
def zL (adr : Nat → Nat) : Nat → List (Option Value) → List (Nat × Value)
  | _, [] => []
  | i, none :: r => zL adr (i + 1) r
  | i, some v :: r => (i, cvv adr v) :: zL adr (i + 1) r
theorem zL_in (adr : Nat → Nat) (l : List (Option Value)) : ∀ (k : Nat) (q : Nat × Value), q ∈ zL adr k l ↔ ∃ (i : Nat) (v : Value), l[i]? = some (some v) ∧ q = (k + i, cvv adr v) := by
  induction l with
  | nil => intro k q; simp [zL]
  | cons c r ih =>
    intro k q
    cases c with
    | none =>
      rw [zL, ih]
      constructor
      · rintro ⟨i, v, h1, h2⟩
        exact ⟨i + 1, v, by simpa using h1, by rw [h2]; congr 1; omega⟩
      · rintro ⟨i, v, h1, h2⟩
        cases i with
        | zero => simp at h1
        | succ i => exact ⟨i, v, by simpa using h1, by rw [h2]; congr 1; omega⟩
    | some w =>
      rw [zL, List.mem_cons, ih]
      constructor
      · rintro (h | ⟨i, v, h1, h2⟩)
        · exact ⟨0, w, by simp, h⟩
        · exact ⟨i + 1, v, by simpa using h1, by rw [h2]; congr 1; omega⟩
      · rintro ⟨i, v, h1, h2⟩
        cases i with
        | zero =>
          simp at h1
          subst h1
          exact Or.inl h2
        | succ i => exact Or.inr ⟨i, v, by simpa using h1, by rw [h2]; congr 1; omega⟩
theorem zL_at {adr : Nat → Nat} {ls : List (Option Value)} {lsa : Array Slot} {nL i : Nat} {v : Value} (hl : lv_has lsa nL (zL adr 0 ls)) (h : ls[i]? = some (some v)) : lsa[i]? = some (.val (cvv adr v)) :=
  hl.2.2 (i, cvv adr v) ((zL_in adr ls 0 _).mpr ⟨i, v, h, by rw [Nat.zero_add]⟩)
/-- no number of two places stands just before place i -/
def zNL (ls : List (Option Value)) : Nat → Bool
  | 0 => true
  | i + 1 => match ls[i]? with
    | some (some v) => v.category == 1
    | _ => true
theorem zL_put {adr : Nat → Nat} {ls : List (Option Value)} {lsa : Array Slot} {nL i : Nat} {x : Value} (hc : zNL ls i = true) (hl : lv_has lsa nL ((i, cvv adr x) :: (zL adr 0 ls).filter (fun q => !(q.1 == i) && !(q.1 + 1 == i && q.2.category == 2)))) : lv_has lsa nL (zL adr 0 (ls.set i (some x))) := by
  refine ⟨hl.1, hl.2.1, fun q hq => ?_⟩
  obtain ⟨j, v, h1, h2⟩ := (zL_in adr _ 0 q).mp hq
  rw [Nat.zero_add] at h2
  subst h2
  by_cases hj : j = i
  · subst hj
    rw [List.getElem?_set] at h1
    simp at h1
    have hv : x = v := h1.2
    subst hv
    exact hl.2.2 _ List.mem_cons_self
  · rw [List.getElem?_set, if_neg (fun e => hj e.symm)] at h1
    refine hl.2.2 _ (List.mem_cons_of_mem _ (List.mem_filter.mpr ⟨(zL_in adr ls 0 _).mpr ⟨j, v, h1, by rw [Nat.zero_add]⟩, ?_⟩))
    have e1 : (j == i) = false := by simp [hj]
    have e2 : (j + 1 == i && (cvv adr v).category == 2) = false := by
      by_cases hji : j + 1 = i
      · subst hji
        rw [zNL, h1] at hc
        simp only [beq_iff_eq] at hc
        rw [cvv_cat, hc]
        simp
      · simp [hji]
    simp only [e1, e2]
    rfl
/-! the words -/
def zU : List Cond := lw_tbl.filter goodWord
theorem zU_in {w : Cond} (h : w ∈ lw_tbl) (g : goodWord w = true) : w ∈ zU := List.mem_filter.mpr ⟨h, g⟩
theorem zU_gd {w : Cond} (h : w ∈ zU) : (w.onTables && w.keeps) = true ∨ ∃ ty, w = .arrayClass ty := good_of_word (List.mem_filter.mp h).2
def zTs (y : MethodName) (b : ByteArray) (nL : Nat) (ret : Option FieldType) : List Cond := .code y b nL ret :: zU
def zCal (C : String) (y : MethodName) (b : ByteArray) (nL : Nat) (ret : Option FieldType) : Prop := Cond.instanceMethod y ∈ zU ∧ Cond.selects C y y ∈ zU ∧ Cond.initialized C ∈ zU ∧ Cond.code y b nL ret ∈ zU ∧ (y.cls = C ∧ y.cls ≠ "java/lang/invoke/MethodHandle" ∧ y.cls ≠ "java/lang/invoke/VarHandle") ∧ plainName y.cls = true
def zSta (C : String) (y : MethodName) (b : ByteArray) (nL : Nat) (ret : Option FieldType) : Prop := Cond.static y ∈ zU ∧ Cond.initialized C ∈ zU ∧ Cond.code y b nL ret ∈ zU ∧ (y.cls = C ∧ y.cls ≠ "java/lang/invoke/MethodHandle" ∧ y.cls ≠ "java/lang/invoke/VarHandle") ∧ plainName y.cls = true
theorem zTs_good {y : MethodName} {b : ByteArray} {nL : Nat} {ret : Option FieldType} (h : Cond.code y b nL ret ∈ zU) : GoodIn zU (zTs y b nL ret) := by
  intro w hw
  rcases List.mem_cons.mp hw with rfl | hw
  · exact ⟨h, zU_gd h⟩
  · exact ⟨hw, zU_gd hw⟩
theorem zCal_good {own C : String} {idx : Nat} {y : MethodName} {b : ByteArray} {nL : Nat} {ret : Option FieldType} (hk : Cond.methodLink own idx y ∈ zU) (h : zCal C y b nL ret) : GoodIn zU (wsV own idx C y (zTs y b nL ret)) := by
  intro w hw
  rcases List.mem_append.mp hw with hw | hw
  · simp only [List.mem_cons, List.not_mem_nil, or_false] at hw
    rcases hw with rfl | rfl | rfl | rfl
    · exact ⟨hk, zU_gd hk⟩
    · exact ⟨h.1, zU_gd h.1⟩
    · exact ⟨h.2.1, zU_gd h.2.1⟩
    · exact ⟨h.2.2.1, zU_gd h.2.2.1⟩
  · exact zTs_good h.2.2.2.1 w hw
theorem zSta_good {own : String} {idx : Nat} {y : MethodName} {b : ByteArray} {nL : Nat} {ret : Option FieldType} (hk : Cond.methodLink own idx y ∈ zU) (h : zSta own y b nL ret) : GoodIn zU (wsS own idx y (zTs y b nL ret)) := by
  intro w hw
  rcases List.mem_append.mp hw with hw | hw
  · simp only [List.mem_cons, List.not_mem_nil, or_false] at hw
    rcases hw with rfl | rfl | rfl
    · exact ⟨hk, zU_gd hk⟩
    · exact ⟨h.1, zU_gd h.1⟩
    · exact ⟨h.2.1, zU_gd h.2.1⟩
  · exact zTs_good h.2.2.1 w hw
/-! the judgement: at pc, with these places and this stack, in this state, the method comes to the end E -/
abbrev zF : Type := List Frame → Array Value → State → (Nat → Prop) → va_G → (Nat → ClassId) → (Nat → Nat) → State → Prop
abbrev zGv : Type := Launch → State → Code → (Nat → Prop) → (Nat → Nat) → Prop
def zNo : zGv := fun _ _ _ _ _ => True
def zCx (p : Program) (s : State) (m : MethodId) (args : Array Value) (meth : Method) (c : Code) (own : String) (cc : ByteArray) (nL : Nat) (ret : Option FieldType) : Prop :=
  p.tables.exec = Jvm.exec ∧ c.code = cc ∧ meth.sig.returnType = ret ∧ c.maxLocals = nL ∧ s.vm.findClass own = some m.cls ∧ (∀ w ∈ zU, w.before args s = true) ∧ meth.locks = false
def zX (cs : zH → List aC) (G : zGv) (own : String) (cc : ByteArray) (nL : Nat) (ret : Option FieldType) (rm : Room) (pc : Nat) (ls : List (Option Value)) (st : List Value) (h : zH) (E : zF) : Prop :=
  ∀ (p : Program) (l : Launch) (e : Env) (s : State) (m : MethodId) (args : Array Value) (below : List Frame) (meth : Method) (c : Code) (D : va_G) (cA : Nat → ClassId) (adr : Nat → Nat) (A : Nat → Prop) (H : Heap) (locs : List Loc) (lsa : Array Slot),
    zCx p s m args meth c own cc nL ret → (∀ q : Nat, s.heap.size ≤ q → A q) → G l s c A adr → zOk h → va_K D vwCl (zT cA) s → va_P D vwCl (zW cA adr 0 (cs h)) H → va_D A (zW cA adr 0 (cs h)) → va_S A s.heap H locs → lv_has lsa nL (zL adr 0 ls) →
    W p l e rm s m args below meth c H locs 0 0 (E below args s A D cA adr) (F0 m pc lsa (st.map (cvv adr)))
/-- the world of a side, at a state -/
def zB (cs : zH → List aC) (D : va_G) (cA : Nat → ClassId) (adr : Nat → Nat) (h : zH) (A : Nat → Prop) (t : State) : Prop := zOk h ∧ va_P D vwCl (zW cA adr 0 (cs h)) t.heap ∧ va_K D vwCl (zT cA) t ∧ va_D A (zW cA adr 0 (cs h))
def zQi (cs : zH → List aC) (Q : Int → zH → Prop) (D : va_G) (cA : Nat → ClassId) (adr : Nat → Nat) (A : Nat → Prop) : Array Value → State → Outcome → State → Prop := va_Qi (fun (r : Int32) (h : zH) => ∃ z : Int, r = iI z ∧ (-2147483648 ≤ z ∧ z < 2147483648) ∧ Q z h) (fun (h : zH) t => zB cs D cA adr h A t) A
def zQv (cs : zH → List aC) (Q : zH → Prop) (D : va_G) (cA : Nat → ClassId) (adr : Nat → Nat) (A : Nat → Prop) : Array Value → State → Outcome → State → Prop := va_Qv (fun h : zH => Q h) (fun (h : zH) t => zB cs D cA adr h A t) A
def zEi (cs : zH → List aC) (Q : Int → zH → Prop) : zF := fun below args s A D cA adr => MQ below (zQi cs Q D cA adr A) args s 0 0 A
def zEv (cs : zH → List aC) (Q : zH → Prop) : zF := fun below args s A D cA adr => MQ below (zQv cs Q D cA adr A) args s 0 0 A
/-- contracts of methods that don't throw: of an int (or boolean) answer, and of none -/
def zMi (cs : zH → List aC) (y : MethodName) (b : ByteArray) (nL : Nat) (ret : FieldType) (rm : Room) (as : List Value) (h : zH) (Q : Int → zH → Prop) : Prop :=
  ∀ (l : Launch) (D : va_G) (cA : Nat → ClassId) (adr : Nat → Nat) (sz : Nat), Met l y (zTs y b nL (some ret)) rm (va_Pc (as.map (cvv adr)) (fun U => U.heap.size = sz ∧ zB cs D cA adr h (fun _ => True) U)) (zQi cs Q D cA adr (va_A (zW cA adr 0 (cs h)) sz)) 0 0 (va_A (zW cA adr 0 (cs h)) sz)
def zMv (cs : zH → List aC) (y : MethodName) (b : ByteArray) (nL : Nat) (rm : Room) (as : List Value) (h : zH) (Q : zH → Prop) : Prop :=
  ∀ (l : Launch) (D : va_G) (cA : Nat → ClassId) (adr : Nat → Nat) (sz : Nat), Met l y (zTs y b nL none) rm (va_Pc (as.map (cvv adr)) (fun U => U.heap.size = sz ∧ zB cs D cA adr h (fun _ => True) U)) (zQv cs Q D cA adr (va_A (zW cA adr 0 (cs h)) sz)) 0 0 (va_A (zW cA adr 0 (cs h)) sz)
theorem zMi_of {cs : zH → List aC} {y : MethodName} {b : ByteArray} {nL : Nat} {r : FieldType} {rm : Room} {as : List Value} {h : zH} {Q : Int → zH → Prop} (ls0 : List (Option Value)) (hy : plainName y.cls = true) (hln : ∀ adr : Nat → Nat, (lg_sl (as.map (cvv adr))).length ≤ nL) (hla : ∀ adr : Nat → Nat, lv_args 0 (as.map (cvv adr)) = zL adr 0 ls0)
    (k : zX cs zNo y.cls b nL (some r) rm 0 ls0 [] h (zEi cs Q)) : zMi cs y b nL r rm as h Q := by
  intro l D cA adr sz
  refine Met.ofW (cc := b) (maxL := nL) (ret := some r) hy rfl ?_
  intro p e s m args below meth c s₁ B hml hv
  obtain ⟨rfl, hsz, hO, hP, hK, hD0⟩ := hv
  have hts := atoms_spec (ws := zTs y b nL (some r)) B.pre
  subst hsz
  have hl := lv_entry (as.map (cvv adr)) (n := nL) (hln adr)
  rw [lg_entry_eq]
  rw [hla adr] at hl
  exact k p l e s m _ below meth c D cA adr _ s.heap [] _ ⟨B.exec, B.bytes, B.returns, hml, findClass_of_methodNamed B.named, fun w hw => hts w (List.mem_cons_of_mem _ hw), B.notSynchronized⟩ (fun q hq => Or.inr hq) trivial hO hK hP hD0.self va_S.rf hl
theorem zMv_of {cs : zH → List aC} {y : MethodName} {b : ByteArray} {nL : Nat} {rm : Room} {as : List Value} {h : zH} {Q : zH → Prop} (ls0 : List (Option Value)) (hy : plainName y.cls = true) (hln : ∀ adr : Nat → Nat, (lg_sl (as.map (cvv adr))).length ≤ nL) (hla : ∀ adr : Nat → Nat, lv_args 0 (as.map (cvv adr)) = zL adr 0 ls0)
    (k : zX cs zNo y.cls b nL none rm 0 ls0 [] h (zEv cs Q)) : zMv cs y b nL rm as h Q := by
  intro l D cA adr sz
  refine Met.ofW (cc := b) (maxL := nL) (ret := none) hy rfl ?_
  intro p e s m args below meth c s₁ B hml hv
  obtain ⟨rfl, hsz, hO, hP, hK, hD0⟩ := hv
  have hts := atoms_spec (ws := zTs y b nL none) B.pre
  subst hsz
  have hl := lv_entry (as.map (cvv adr)) (n := nL) (hln adr)
  rw [lg_entry_eq]
  rw [hla adr] at hl
  exact k p l e s m _ below meth c D cA adr _ s.heap [] _ ⟨B.exec, B.bytes, B.returns, hml, findClass_of_methodNamed B.named, fun w hw => hts w (List.mem_cons_of_mem _ hw), B.notSynchronized⟩ (fun q hq => Or.inr hq) trivial hO hK hP hD0.self va_S.rf hl
section ZX
variable {cs : zH → List aC} {G : zGv} {own : String} {cc : ByteArray} {nL : Nat} {ret : Option FieldType} {rm : Room} {pc : Nat} {ls : List (Option Value)} {st : List Value} {h : zH} {E : zF}

theorem zx_iconst {n : Int} (hd : decode cc pc = .ok (.iconst n, 1))
    (k : zX cs G own cc nL ret rm (pc + 1) ls (.int (iI n) :: st) h E) : zX cs G own cc nL ret rm pc ls st h E := by
  intro p l e s m args below meth c D cA adr A H locs lsa C hA hG hO hK hP hD hS hl
  exact lv_iconst C.1 C.2.1 hd rfl (k p l e s m args below meth c D cA adr A H locs lsa C hA hG hO hK hP hD hS hl)

theorem zx_bipush {n : Int} (hd : decode cc pc = .ok (.bipush n, 2)) (hv : (Int8.ofInt n).toInt32 = iI n)
    (k : zX cs G own cc nL ret rm (pc + 2) ls (.int (iI n) :: st) h E) : zX cs G own cc nL ret rm pc ls st h E := by
  intro p l e s m args below meth c D cA adr A H locs lsa C hA hG hO hK hP hD hS hl
  exact lv_bipush C.1 C.2.1 hd hv (k p l e s m args below meth c D cA adr A H locs lsa C hA hG hO hK hP hD hS hl)

theorem zx_sipush {n : Int} (hd : decode cc pc = .ok (.sipush n, 3)) (hv : (Int16.ofInt n).toInt32 = iI n)
    (k : zX cs G own cc nL ret rm (pc + 3) ls (.int (iI n) :: st) h E) : zX cs G own cc nL ret rm pc ls st h E := by
  intro p l e s m args below meth c D cA adr A H locs lsa C hA hG hO hK hP hD hS hl
  exact lv_sipush C.1 C.2.1 hd hv (k p l e s m args below meth c D cA adr A H locs lsa C hA hG hO hK hP hD hS hl)

theorem zx_ldc {n : Int} {idx : Nat} (hd : decode cc pc = .ok (.ldc idx, 2)) (hw : Cond.constant own idx (iI n) ∈ zU)
    (k : zX cs G own cc nL ret rm (pc + 2) ls (.int (iI n) :: st) h E) : zX cs G own cc nL ret rm pc ls st h E := by
  intro p l e s m args below meth c D cA adr A H locs lsa C hA hG hO hK hP hD hS hl
  exact lv_ldc C.1 C.2.1 C.2.2.2.2.1 (C.2.2.2.2.2.1 _ hw) hd (k p l e s m args below meth c D cA adr A H locs lsa C hA hG hO hK hP hD hS hl)

theorem zx_iload_n {j : Fin 4} {i : Nat} {x : Int32} (hd : decode cc pc = .ok (.iload_n j, 1)) (hi : (j : Nat) = i) (hv : ls[i]? = some (some (.int x)))
    (k : zX cs G own cc nL ret rm (pc + 1) ls (.int x :: st) h E) : zX cs G own cc nL ret rm pc ls st h E := by
  intro p l e s m args below meth c D cA adr A H locs lsa C hA hG hO hK hP hD hS hl
  exact lv_iload_n C.1 C.2.1 hd hi (zL_at hl hv) (k p l e s m args below meth c D cA adr A H locs lsa C hA hG hO hK hP hD hS hl)

theorem zx_iload {i : Nat} {x : Int32} (hd : decode cc pc = .ok (.iload i, 2)) (hv : ls[i]? = some (some (.int x)))
    (k : zX cs G own cc nL ret rm (pc + 2) ls (.int x :: st) h E) : zX cs G own cc nL ret rm pc ls st h E := by
  intro p l e s m args below meth c D cA adr A H locs lsa C hA hG hO hK hP hD hS hl
  exact lv_iload C.1 C.2.1 hd (zL_at hl hv) (k p l e s m args below meth c D cA adr A H locs lsa C hA hG hO hK hP hD hS hl)

theorem zx_aload_n {j : Fin 4} {i : Nat} {x : Nat} (hd : decode cc pc = .ok (.aload_n j, 1)) (hi : (j : Nat) = i) (hv : ls[i]? = some (some (.ref x)))
    (k : zX cs G own cc nL ret rm (pc + 1) ls (.ref x :: st) h E) : zX cs G own cc nL ret rm pc ls st h E := by
  intro p l e s m args below meth c D cA adr A H locs lsa C hA hG hO hK hP hD hS hl
  exact lv_aload_n C.1 C.2.1 hd hi (zL_at hl hv) (k p l e s m args below meth c D cA adr A H locs lsa C hA hG hO hK hP hD hS hl)

theorem zx_aload {i : Nat} {x : Nat} (hd : decode cc pc = .ok (.aload i, 2)) (hv : ls[i]? = some (some (.ref x)))
    (k : zX cs G own cc nL ret rm (pc + 2) ls (.ref x :: st) h E) : zX cs G own cc nL ret rm pc ls st h E := by
  intro p l e s m args below meth c D cA adr A H locs lsa C hA hG hO hK hP hD hS hl
  exact lv_aload C.1 C.2.1 hd (zL_at hl hv) (k p l e s m args below meth c D cA adr A H locs lsa C hA hG hO hK hP hD hS hl)

theorem zx_istore_n {j : Fin 4} {i : Nat} {x : Int32} (hd : decode cc pc = .ok (.istore_n j, 1)) (hi : (j : Nat) = i) (hn : i < nL) (hc : zNL ls i = true)
    (k : zX cs G own cc nL ret rm (pc + 1) (ls.set i (some (.int x))) st h E) : zX cs G own cc nL ret rm pc ls (.int x :: st) h E := by
  intro p l e s m args below meth c D cA adr A H locs lsa C hA hG hO hK hP hD hS hl
  exact lv_istore_n C.1 C.2.1 hd hi hl hn rfl (fun ls2 hl2 => k p l e s m args below meth c D cA adr A H locs ls2 C hA hG hO hK hP hD hS (zL_put hc hl2))
theorem zx_istore {i : Nat} {x : Int32} (hd : decode cc pc = .ok (.istore i, 2)) (hn : i < nL) (hc : zNL ls i = true)
    (k : zX cs G own cc nL ret rm (pc + 2) (ls.set i (some (.int x))) st h E) : zX cs G own cc nL ret rm pc ls (.int x :: st) h E := by
  intro p l e s m args below meth c D cA adr A H locs lsa C hA hG hO hK hP hD hS hl
  exact lv_istore C.1 C.2.1 hd hl hn rfl (fun ls2 hl2 => k p l e s m args below meth c D cA adr A H locs ls2 C hA hG hO hK hP hD hS (zL_put hc hl2))
theorem zx_iinc {i : Nat} {n : Int} {a : Int} (hd : decode cc pc = .ok (.iinc i n, 3)) (hn : i < nL) (hc : zNL ls i = true) (hv : ls[i]? = some (some (.int (iI a))))
    (k : zX cs G own cc nL ret rm (pc + 3) (ls.set i (some (.int (iI (a + n))))) st h E) : zX cs G own cc nL ret rm pc ls st h E := by
  intro p l e s m args below meth c D cA adr A H locs lsa C hA hG hO hK hP hD hS hl
  obtain ⟨j, hj⟩ := List.getElem?_of_mem ((zL_in adr ls 0 (i, Value.int (iI a))).mpr ⟨i, .int (iI a), hv, by rw [Nat.zero_add]; rfl⟩)
  exact lv_iinc (v := iI (a + n)) C.1 C.2.1 hd hl hj (iI_add a n) hn rfl (fun ls2 hl2 => k p l e s m args below meth c D cA adr A H locs ls2 C hA hG hO hK hP hD hS (zL_put hc hl2))
theorem zx_iadd {a b : Int} (hd : decode cc pc = .ok (.iadd, 1))
    (k : zX cs G own cc nL ret rm (pc + 1) ls (.int (iI (a + b)) :: st) h E) : zX cs G own cc nL ret rm pc ls (.int (iI b) :: .int (iI a) :: st) h E := by
  intro p l e s m args below meth c D cA adr A H locs lsa C hA hG hO hK hP hD hS hl
  refine lv_iadd C.1 C.2.1 hd ?_
  rw [iI_add]
  exact k p l e s m args below meth c D cA adr A H locs lsa C hA hG hO hK hP hD hS hl

theorem zx_isub {a b : Int} (hd : decode cc pc = .ok (.isub, 1))
    (k : zX cs G own cc nL ret rm (pc + 1) ls (.int (iI (a - b)) :: st) h E) : zX cs G own cc nL ret rm pc ls (.int (iI b) :: .int (iI a) :: st) h E := by
  intro p l e s m args below meth c D cA adr A H locs lsa C hA hG hO hK hP hD hS hl
  refine lv_isub C.1 C.2.1 hd ?_
  rw [iI_sub]
  exact k p l e s m args below meth c D cA adr A H locs lsa C hA hG hO hK hP hD hS hl

theorem zx_imul {a b : Int} (hd : decode cc pc = .ok (.imul, 1))
    (k : zX cs G own cc nL ret rm (pc + 1) ls (.int (iI (a * b)) :: st) h E) : zX cs G own cc nL ret rm pc ls (.int (iI b) :: .int (iI a) :: st) h E := by
  intro p l e s m args below meth c D cA adr A H locs lsa C hA hG hO hK hP hD hS hl
  refine lv_imul C.1 C.2.1 hd ?_
  rw [iI_mul]
  exact k p l e s m args below meth c D cA adr A H locs lsa C hA hG hO hK hP hD hS hl

theorem zx_idiv {a b : Int} (hd : decode cc pc = .ok (.idiv, 1)) (h1 : 0 ≤ a) (h2 : a < 2147483648) (h3 : 0 < b) (h4 : b < 2147483648)
    (k : zX cs G own cc nL ret rm (pc + 1) ls (.int (iI (a / b)) :: st) h E) : zX cs G own cc nL ret rm pc ls (.int (iI b) :: .int (iI a) :: st) h E := by
  intro p l e s m args below meth c D cA adr A H locs lsa C hA hG hO hK hP hD hS hl
  refine lv_idiv C.1 C.2.1 hd ?_ ?_
  · rw [← iI_0, iI_eq (by omega) h4 (by omega) (by omega)]
    omega
  rw [iI_div h1 h2 h3 h4]
  exact k p l e s m args below meth c D cA adr A H locs lsa C hA hG hO hK hP hD hS hl

theorem zx_ishl {x y v : Int32} (hd : decode cc pc = .ok (.ishl, 1)) (hv : (x <<< (y &&& 31)) = v)
    (k : zX cs G own cc nL ret rm (pc + 1) ls (.int v :: st) h E) : zX cs G own cc nL ret rm pc ls (.int y :: .int x :: st) h E := by
  intro p l e s m args below meth c D cA adr A H locs lsa C hA hG hO hK hP hD hS hl
  subst hv
  exact lv_ishl C.1 C.2.1 hd (k p l e s m args below meth c D cA adr A H locs lsa C hA hG hO hK hP hD hS hl)

theorem zx_ishr {x y v : Int32} (hd : decode cc pc = .ok (.ishr, 1)) (hv : (x >>> (y &&& 31)) = v)
    (k : zX cs G own cc nL ret rm (pc + 1) ls (.int v :: st) h E) : zX cs G own cc nL ret rm pc ls (.int y :: .int x :: st) h E := by
  intro p l e s m args below meth c D cA adr A H locs lsa C hA hG hO hK hP hD hS hl
  subst hv
  exact lv_ishr C.1 C.2.1 hd (k p l e s m args below meth c D cA adr A H locs lsa C hA hG hO hK hP hD hS hl)

theorem zx_iand {x y v : Int32} (hd : decode cc pc = .ok (.iand, 1)) (hv : (x &&& y) = v)
    (k : zX cs G own cc nL ret rm (pc + 1) ls (.int v :: st) h E) : zX cs G own cc nL ret rm pc ls (.int y :: .int x :: st) h E := by
  intro p l e s m args below meth c D cA adr A H locs lsa C hA hG hO hK hP hD hS hl
  subst hv
  exact lv_iand C.1 C.2.1 hd (k p l e s m args below meth c D cA adr A H locs lsa C hA hG hO hK hP hD hS hl)

theorem zx_ior {x y v : Int32} (hd : decode cc pc = .ok (.ior, 1)) (hv : (x ||| y) = v)
    (k : zX cs G own cc nL ret rm (pc + 1) ls (.int v :: st) h E) : zX cs G own cc nL ret rm pc ls (.int y :: .int x :: st) h E := by
  intro p l e s m args below meth c D cA adr A H locs lsa C hA hG hO hK hP hD hS hl
  subst hv
  exact lv_ior C.1 C.2.1 hd (k p l e s m args below meth c D cA adr A H locs lsa C hA hG hO hK hP hD hS hl)

theorem zx_ixor {x y v : Int32} (hd : decode cc pc = .ok (.ixor, 1)) (hv : (x ^^^ y) = v)
    (k : zX cs G own cc nL ret rm (pc + 1) ls (.int v :: st) h E) : zX cs G own cc nL ret rm pc ls (.int y :: .int x :: st) h E := by
  intro p l e s m args below meth c D cA adr A H locs lsa C hA hG hO hK hP hD hS hl
  subst hv
  exact lv_ixor C.1 C.2.1 hd (k p l e s m args below meth c D cA adr A H locs lsa C hA hG hO hK hP hD hS hl)

theorem zx_iushr {x y v : Int32} (hd : decode cc pc = .ok (.iushr, 1)) (hv : (x.toUInt32 >>> (y.toUInt32 &&& Int32.toUInt32 31)).toInt32 = v)
    (k : zX cs G own cc nL ret rm (pc + 1) ls (.int v :: st) h E) : zX cs G own cc nL ret rm pc ls (.int y :: .int x :: st) h E := by
  intro p l e s m args below meth c D cA adr A H locs lsa C hA hG hO hK hP hD hS hl
  exact lv_iushr C.1 C.2.1 hd hv (k p l e s m args below meth c D cA adr A H locs lsa C hA hG hO hK hP hD hS hl)

theorem zx_dup {v : Value} (hd : decode cc pc = .ok (.dup, 1)) (hv : v.category = 1)
    (k : zX cs G own cc nL ret rm (pc + 1) ls (v :: v :: st) h E) : zX cs G own cc nL ret rm pc ls (v :: st) h E := by
  intro p l e s m args below meth c D cA adr A H locs lsa C hA hG hO hK hP hD hS hl
  exact lv_dup C.1 C.2.1 hd (by rw [cvv_cat]; exact hv) (k p l e s m args below meth c D cA adr A H locs lsa C hA hG hO hK hP hD hS hl)

theorem zx_dup2 {u v : Value} (hd : decode cc pc = .ok (.dup2, 1)) (hu : u.category = 1) (hv : v.category = 1)
    (k : zX cs G own cc nL ret rm (pc + 1) ls (u :: v :: u :: v :: st) h E) : zX cs G own cc nL ret rm pc ls (u :: v :: st) h E := by
  intro p l e s m args below meth c D cA adr A H locs lsa C hA hG hO hK hP hD hS hl
  exact lv_dup2_11 C.1 C.2.1 hd (by rw [cvv_cat]; exact hu) (by rw [cvv_cat]; exact hv) (k p l e s m args below meth c D cA adr A H locs lsa C hA hG hO hK hP hD hS hl)

theorem zx_pop {v : Value} (hd : decode cc pc = .ok (.pop, 1)) (hv : v.category = 1)
    (k : zX cs G own cc nL ret rm (pc + 1) ls st h E) : zX cs G own cc nL ret rm pc ls (v :: st) h E := by
  intro p l e s m args below meth c D cA adr A H locs lsa C hA hG hO hK hP hD hS hl
  exact lv_pop C.1 C.2.1 hd (by rw [cvv_cat]; exact hv) (k p l e s m args below meth c D cA adr A H locs lsa C hA hG hO hK hP hD hS hl)

theorem zx_icmp_eq {a b : Int} {off : Int} {tgt : Nat} (hd : decode cc pc = .ok (.if_icmp .eq off, 3)) (ht : (pc : Int) + off = (tgt : Int)) (ra : zOk h → -2147483648 ≤ a ∧ a < 2147483648) (rb : zOk h → -2147483648 ≤ b ∧ b < 2147483648)
    (kt : a = b → zX cs G own cc nL ret rm tgt ls st h E) (kf : a ≠ b → zX cs G own cc nL ret rm (pc + 3) ls st h E) : zX cs G own cc nL ret rm pc ls (.int (iI b) :: .int (iI a) :: st) h E := by
  intro p l e s m args below meth c D cA adr A H locs lsa C hA hG hO hK hP hD hS hl
  have hq := iI_eq (ra hO).1 (ra hO).2 (rb hO).1 (rb hO).2
  refine lv_icmp_eq C.1 C.2.1 hd ht (fun q => kt ?_ p l e s m args below meth c D cA adr A H locs lsa C hA hG hO hK hP hD hS hl) (fun q => kf ?_ p l e s m args below meth c D cA adr A H locs lsa C hA hG hO hK hP hD hS hl)

  · rw [hq] at q; omega
  · rw [hq] at q; omega

theorem zx_icmp_ne {a b : Int} {off : Int} {tgt : Nat} (hd : decode cc pc = .ok (.if_icmp .ne off, 3)) (ht : (pc : Int) + off = (tgt : Int)) (ra : zOk h → -2147483648 ≤ a ∧ a < 2147483648) (rb : zOk h → -2147483648 ≤ b ∧ b < 2147483648)
    (kt : a ≠ b → zX cs G own cc nL ret rm tgt ls st h E) (kf : a = b → zX cs G own cc nL ret rm (pc + 3) ls st h E) : zX cs G own cc nL ret rm pc ls (.int (iI b) :: .int (iI a) :: st) h E := by
  intro p l e s m args below meth c D cA adr A H locs lsa C hA hG hO hK hP hD hS hl
  have hq := iI_eq (ra hO).1 (ra hO).2 (rb hO).1 (rb hO).2
  refine lv_icmp_ne C.1 C.2.1 hd ht (fun q => kt ?_ p l e s m args below meth c D cA adr A H locs lsa C hA hG hO hK hP hD hS hl) (fun q => kf ?_ p l e s m args below meth c D cA adr A H locs lsa C hA hG hO hK hP hD hS hl)

  · rw [hq] at q; omega
  · rw [hq] at q; omega

theorem zx_icmp_lt {a b : Int} {off : Int} {tgt : Nat} (hd : decode cc pc = .ok (.if_icmp .lt off, 3)) (ht : (pc : Int) + off = (tgt : Int)) (ra : zOk h → -2147483648 ≤ a ∧ a < 2147483648) (rb : zOk h → -2147483648 ≤ b ∧ b < 2147483648)
    (kt : a < b → zX cs G own cc nL ret rm tgt ls st h E) (kf : b ≤ a → zX cs G own cc nL ret rm (pc + 3) ls st h E) : zX cs G own cc nL ret rm pc ls (.int (iI b) :: .int (iI a) :: st) h E := by
  intro p l e s m args below meth c D cA adr A H locs lsa C hA hG hO hK hP hD hS hl
  have hq := iI_lt (ra hO).1 (ra hO).2 (rb hO).1 (rb hO).2
  refine lv_icmp_lt C.1 C.2.1 hd ht (fun q => kt ?_ p l e s m args below meth c D cA adr A H locs lsa C hA hG hO hK hP hD hS hl) (fun q => kf ?_ p l e s m args below meth c D cA adr A H locs lsa C hA hG hO hK hP hD hS hl)

  · rw [hq] at q; omega
  · rw [hq] at q; omega

theorem zx_icmp_ge {a b : Int} {off : Int} {tgt : Nat} (hd : decode cc pc = .ok (.if_icmp .ge off, 3)) (ht : (pc : Int) + off = (tgt : Int)) (ra : zOk h → -2147483648 ≤ a ∧ a < 2147483648) (rb : zOk h → -2147483648 ≤ b ∧ b < 2147483648)
    (kt : b ≤ a → zX cs G own cc nL ret rm tgt ls st h E) (kf : a < b → zX cs G own cc nL ret rm (pc + 3) ls st h E) : zX cs G own cc nL ret rm pc ls (.int (iI b) :: .int (iI a) :: st) h E := by
  intro p l e s m args below meth c D cA adr A H locs lsa C hA hG hO hK hP hD hS hl
  have hq := iI_le (rb hO).1 (rb hO).2 (ra hO).1 (ra hO).2
  refine lv_icmp_ge C.1 C.2.1 hd ht (fun q => kt ?_ p l e s m args below meth c D cA adr A H locs lsa C hA hG hO hK hP hD hS hl) (fun q => kf ?_ p l e s m args below meth c D cA adr A H locs lsa C hA hG hO hK hP hD hS hl)

  · rw [hq] at q; omega
  · rw [hq] at q; omega

theorem zx_icmp_gt {a b : Int} {off : Int} {tgt : Nat} (hd : decode cc pc = .ok (.if_icmp .gt off, 3)) (ht : (pc : Int) + off = (tgt : Int)) (ra : zOk h → -2147483648 ≤ a ∧ a < 2147483648) (rb : zOk h → -2147483648 ≤ b ∧ b < 2147483648)
    (kt : b < a → zX cs G own cc nL ret rm tgt ls st h E) (kf : a ≤ b → zX cs G own cc nL ret rm (pc + 3) ls st h E) : zX cs G own cc nL ret rm pc ls (.int (iI b) :: .int (iI a) :: st) h E := by
  intro p l e s m args below meth c D cA adr A H locs lsa C hA hG hO hK hP hD hS hl
  have hq := iI_lt (rb hO).1 (rb hO).2 (ra hO).1 (ra hO).2
  refine lv_icmp_gt C.1 C.2.1 hd ht (fun q => kt ?_ p l e s m args below meth c D cA adr A H locs lsa C hA hG hO hK hP hD hS hl) (fun q => kf ?_ p l e s m args below meth c D cA adr A H locs lsa C hA hG hO hK hP hD hS hl)

  · rw [hq] at q; omega
  · rw [hq] at q; omega

theorem zx_icmp_le {a b : Int} {off : Int} {tgt : Nat} (hd : decode cc pc = .ok (.if_icmp .le off, 3)) (ht : (pc : Int) + off = (tgt : Int)) (ra : zOk h → -2147483648 ≤ a ∧ a < 2147483648) (rb : zOk h → -2147483648 ≤ b ∧ b < 2147483648)
    (kt : a ≤ b → zX cs G own cc nL ret rm tgt ls st h E) (kf : b < a → zX cs G own cc nL ret rm (pc + 3) ls st h E) : zX cs G own cc nL ret rm pc ls (.int (iI b) :: .int (iI a) :: st) h E := by
  intro p l e s m args below meth c D cA adr A H locs lsa C hA hG hO hK hP hD hS hl
  have hq := iI_le (ra hO).1 (ra hO).2 (rb hO).1 (rb hO).2
  refine lv_icmp_le C.1 C.2.1 hd ht (fun q => kt ?_ p l e s m args below meth c D cA adr A H locs lsa C hA hG hO hK hP hD hS hl) (fun q => kf ?_ p l e s m args below meth c D cA adr A H locs lsa C hA hG hO hK hP hD hS hl)

  · rw [hq] at q; omega
  · rw [hq] at q; omega

theorem zx_if_eq {a : Int} {off : Int} {tgt : Nat} (hd : decode cc pc = .ok (.ifCond .eq off, 3)) (ht : (pc : Int) + off = (tgt : Int)) (ra : zOk h → -2147483648 ≤ a ∧ a < 2147483648)
    (kt : a = 0 → zX cs G own cc nL ret rm tgt ls st h E) (kf : a ≠ 0 → zX cs G own cc nL ret rm (pc + 3) ls st h E) : zX cs G own cc nL ret rm pc ls (.int (iI a) :: st) h E := by
  intro p l e s m args below meth c D cA adr A H locs lsa C hA hG hO hK hP hD hS hl
  have hq := iI_eq (b := 0) (ra hO).1 (ra hO).2 (by omega) (by omega)
  refine lv_if_eq C.1 C.2.1 hd ht (fun q => kt ?_ p l e s m args below meth c D cA adr A H locs lsa C hA hG hO hK hP hD hS hl) (fun q => kf ?_ p l e s m args below meth c D cA adr A H locs lsa C hA hG hO hK hP hD hS hl)

  · rw [← iI_0, hq] at q; omega
  · rw [← iI_0, hq] at q; omega

theorem zx_if_ne {a : Int} {off : Int} {tgt : Nat} (hd : decode cc pc = .ok (.ifCond .ne off, 3)) (ht : (pc : Int) + off = (tgt : Int)) (ra : zOk h → -2147483648 ≤ a ∧ a < 2147483648)
    (kt : a ≠ 0 → zX cs G own cc nL ret rm tgt ls st h E) (kf : a = 0 → zX cs G own cc nL ret rm (pc + 3) ls st h E) : zX cs G own cc nL ret rm pc ls (.int (iI a) :: st) h E := by
  intro p l e s m args below meth c D cA adr A H locs lsa C hA hG hO hK hP hD hS hl
  have hq := iI_eq (b := 0) (ra hO).1 (ra hO).2 (by omega) (by omega)
  refine lv_if_ne C.1 C.2.1 hd ht (fun q => kt ?_ p l e s m args below meth c D cA adr A H locs lsa C hA hG hO hK hP hD hS hl) (fun q => kf ?_ p l e s m args below meth c D cA adr A H locs lsa C hA hG hO hK hP hD hS hl)

  · rw [← iI_0, hq] at q; omega
  · rw [← iI_0, hq] at q; omega

theorem zx_if_lt {a : Int} {off : Int} {tgt : Nat} (hd : decode cc pc = .ok (.ifCond .lt off, 3)) (ht : (pc : Int) + off = (tgt : Int)) (ra : zOk h → -2147483648 ≤ a ∧ a < 2147483648)
    (kt : a < 0 → zX cs G own cc nL ret rm tgt ls st h E) (kf : 0 ≤ a → zX cs G own cc nL ret rm (pc + 3) ls st h E) : zX cs G own cc nL ret rm pc ls (.int (iI a) :: st) h E := by
  intro p l e s m args below meth c D cA adr A H locs lsa C hA hG hO hK hP hD hS hl
  have hq := iI_lt (b := 0) (ra hO).1 (ra hO).2 (by omega) (by omega)
  refine lv_if_lt C.1 C.2.1 hd ht (fun q => kt ?_ p l e s m args below meth c D cA adr A H locs lsa C hA hG hO hK hP hD hS hl) (fun q => kf ?_ p l e s m args below meth c D cA adr A H locs lsa C hA hG hO hK hP hD hS hl)

  · rw [← iI_0, hq] at q; omega
  · rw [← iI_0, hq] at q; omega

theorem zx_if_le {a : Int} {off : Int} {tgt : Nat} (hd : decode cc pc = .ok (.ifCond .le off, 3)) (ht : (pc : Int) + off = (tgt : Int)) (ra : zOk h → -2147483648 ≤ a ∧ a < 2147483648)
    (kt : a ≤ 0 → zX cs G own cc nL ret rm tgt ls st h E) (kf : 0 < a → zX cs G own cc nL ret rm (pc + 3) ls st h E) : zX cs G own cc nL ret rm pc ls (.int (iI a) :: st) h E := by
  intro p l e s m args below meth c D cA adr A H locs lsa C hA hG hO hK hP hD hS hl
  have hq := iI_le (b := 0) (ra hO).1 (ra hO).2 (by omega) (by omega)
  refine lv_if_le C.1 C.2.1 hd ht (fun q => kt ?_ p l e s m args below meth c D cA adr A H locs lsa C hA hG hO hK hP hD hS hl) (fun q => kf ?_ p l e s m args below meth c D cA adr A H locs lsa C hA hG hO hK hP hD hS hl)

  · rw [← iI_0, hq] at q; omega
  · rw [← iI_0, hq] at q; omega

theorem zx_if_gt {a : Int} {off : Int} {tgt : Nat} (hd : decode cc pc = .ok (.ifCond .gt off, 3)) (ht : (pc : Int) + off = (tgt : Int)) (ra : zOk h → -2147483648 ≤ a ∧ a < 2147483648)
    (kt : 0 < a → zX cs G own cc nL ret rm tgt ls st h E) (kf : a ≤ 0 → zX cs G own cc nL ret rm (pc + 3) ls st h E) : zX cs G own cc nL ret rm pc ls (.int (iI a) :: st) h E := by
  intro p l e s m args below meth c D cA adr A H locs lsa C hA hG hO hK hP hD hS hl
  have hq := iI_lt (a := 0) (b := a) (by omega) (by omega) (ra hO).1 (ra hO).2
  refine lv_if_gt C.1 C.2.1 hd ht (fun q => kt ?_ p l e s m args below meth c D cA adr A H locs lsa C hA hG hO hK hP hD hS hl) (fun q => kf ?_ p l e s m args below meth c D cA adr A H locs lsa C hA hG hO hK hP hD hS hl)

  · rw [← iI_0, hq] at q; omega
  · rw [← iI_0, hq] at q; omega

theorem zx_if_ge {a : Int} {off : Int} {tgt : Nat} (hd : decode cc pc = .ok (.ifCond .ge off, 3)) (ht : (pc : Int) + off = (tgt : Int)) (ra : zOk h → -2147483648 ≤ a ∧ a < 2147483648)
    (kt : 0 ≤ a → zX cs G own cc nL ret rm tgt ls st h E) (kf : a < 0 → zX cs G own cc nL ret rm (pc + 3) ls st h E) : zX cs G own cc nL ret rm pc ls (.int (iI a) :: st) h E := by
  intro p l e s m args below meth c D cA adr A H locs lsa C hA hG hO hK hP hD hS hl
  have hq := iI_le (a := 0) (b := a) (by omega) (by omega) (ra hO).1 (ra hO).2
  refine lv_if_ge C.1 C.2.1 hd ht (fun q => kt ?_ p l e s m args below meth c D cA adr A H locs lsa C hA hG hO hK hP hD hS hl) (fun q => kf ?_ p l e s m args below meth c D cA adr A H locs lsa C hA hG hO hK hP hD hS hl)

  · rw [← iI_0, hq] at q; omega
  · rw [← iI_0, hq] at q; omega

theorem zx_goto {off : Int} {tgt : Nat} (hd : decode cc pc = .ok (.goto off, 3)) (ht : (pc : Int) + off = (tgt : Int)) (k : zX cs G own cc nL ret rm tgt ls st h E) : zX cs G own cc nL ret rm pc ls st h E := by
  intro p l e s m args below meth c D cA adr A H locs lsa C hA hG hO hK hP hD hS hl
  exact lv_goto C.1 C.2.1 hd ht (k p l e s m args below meth c D cA adr A H locs lsa C hA hG hO hK hP hD hS hl)
theorem zx_swIn {dflt lo hi : Int} {offs : Array Int} {len : Nat} {a off : Int} {tgt : Nat} (hd : decode cc pc = .ok (.tableswitch dflt lo hi offs, len)) (ra : zOk h → -2147483648 ≤ a ∧ a < 2147483648) (h1 : lo ≤ a) (h2 : a ≤ hi) (ho : offs[(a - lo).toNat]? = some off) (ht : (pc : Int) + off = (tgt : Int)) (k : zX cs G own cc nL ret rm tgt ls st h E) : zX cs G own cc nL ret rm pc ls (.int (iI a) :: st) h E := by
  intro p l e s m args below meth c D cA adr A H locs lsa C hA hG hO hK hP hD hS hl
  have e9 := iI_toInt (ra hO).1 (ra hO).2
  exact lv_tableIn C.1 C.2.1 hd (by rw [e9]; omega) (by rw [e9]; omega) (by rw [e9]; exact ho) ht (k p l e s m args below meth c D cA adr A H locs lsa C hA hG hO hK hP hD hS hl)
theorem zx_swOut {dflt lo hi : Int} {offs : Array Int} {len : Nat} {a : Int} {tgt : Nat} (hd : decode cc pc = .ok (.tableswitch dflt lo hi offs, len)) (ra : zOk h → -2147483648 ≤ a ∧ a < 2147483648) (h1 : a < lo ∨ hi < a) (ht : (pc : Int) + dflt = (tgt : Int)) (k : zX cs G own cc nL ret rm tgt ls st h E) : zX cs G own cc nL ret rm pc ls (.int (iI a) :: st) h E := by
  intro p l e s m args below meth c D cA adr A H locs lsa C hA hG hO hK hP hD hS hl
  have e9 := iI_toInt (ra hO).1 (ra hO).2
  exact lv_tableOut C.1 C.2.1 hd (by rw [e9]; exact h1) ht (k p l e s m args below meth c D cA adr A H locs lsa C hA hG hO hK hP hD hS hl)

theorem zx_getS {q ci k0 idx N : Nat} {K : String} {T : u_T} {kk : Nat} (hf : zFld cs q ci k0 kk) (hcl : vwCl[ci]? = some (K, T, N)) (hk : k0 < N) (hin : ∀ w ∈ u_ws K T N, w ∈ zU) (hlk : Cond.fieldLink own idx (T k0).1 (T k0).2.1 (T k0).2.2.1 ∈ zU) (hd : decode cc pc = .ok (.getfield idx, 3)) (k : zX cs G own cc nL ret rm (pc + 3) ls (.int (iI (gs h kk)) :: st) h E) : zX cs G own cc nL ret rm pc ls (.ref q :: st) h E := by
  intro p l e s m args below meth c D cA adr A H locs lsa C hA hG hO hK hP hD hS hl
  obtain ⟨fs, f1, f2, f3, f4⟩ := hf h
  exact va_get (D := D) (ci := ci) (v := .int (iI (gs h kk))) (C := K) (T := T) (N := N) C.1 C.2.1 C.2.2.2.2.2.1 hin C.2.2.2.2.1 hK hP q (zW_obj f1) hcl k0 hk (C.2.2.2.2.2.1 _ hlk) (fun _ h9 => h9) (by rw [List.getElem?_map, f2]; rfl) hd (k p l e s m args below meth c D cA adr A H locs lsa C hA hG hO hK hP hD hS hl)
theorem zx_getR {q ci k0 idx N : Nat} {K : String} {T : u_T} {r : Nat} (hf : zRef cs q ci k0 r) (hcl : vwCl[ci]? = some (K, T, N)) (hk : k0 < N) (hin : ∀ w ∈ u_ws K T N, w ∈ zU) (hlk : Cond.fieldLink own idx (T k0).1 (T k0).2.1 (T k0).2.2.1 ∈ zU) (hd : decode cc pc = .ok (.getfield idx, 3)) (k : zX cs G own cc nL ret rm (pc + 3) ls (.ref r :: st) h E) : zX cs G own cc nL ret rm pc ls (.ref q :: st) h E := by
  intro p l e s m args below meth c D cA adr A H locs lsa C hA hG hO hK hP hD hS hl
  obtain ⟨fs, f1, f2⟩ := hf h
  exact va_get (D := D) (ci := ci) (v := .ref (adr r)) (C := K) (T := T) (N := N) C.1 C.2.1 C.2.2.2.2.2.1 hin C.2.2.2.2.1 hK hP q (zW_obj f1) hcl k0 hk (C.2.2.2.2.2.1 _ hlk) (fun _ h9 => h9) (by rw [List.getElem?_map, f2]; rfl) hd (k p l e s m args below meth c D cA adr A H locs lsa C hA hG hO hK hP hD hS hl)
theorem zx_put {q ci k0 idx N : Nat} {K : String} {T : u_T} {kk : Nat} {v : Int} {ty : FieldType} (hf : zFld cs q ci k0 kk) (hcl : vwCl[ci]? = some (K, T, N)) (hk : k0 < N) (hin : ∀ w ∈ u_ws K T N, w ∈ zU) (hlk : Cond.fieldLink own idx (T k0).1 (T k0).2.1 (T k0).2.2.1 ∈ zU) (ty0 : Nat → FieldType) (hty : ∀ k, k < N → parseFieldDescriptor (T k).2.2.1 = some (ty0 k)) (hnm : ∀ a, a < N → ∀ b, b < N → a ≠ b → (T a).2.1 ≠ (T b).2.1) (hfin : (T k0).2.2.2 = false) (hd9 : parseFieldDescriptor (T k0).2.2.1 = some ty) (hn : narrow ty (.int (iI v)) = .int (iI v)) (hfit : fits ty (.int (iI v)) = true)
    (hd : decode cc pc = .ok (.putfield idx, 3)) (rv : zOk h → -2147483648 ≤ v ∧ v < 2147483648) (k : zX cs G own cc nL ret rm (pc + 3) ls st (ps h kk v) E) : zX cs G own cc nL ret rm pc ls (.int (iI v) :: .ref q :: st) h E := by
  intro p l e_ s m args below meth c D cA adr A H locs lsa C hA hG hO hK hP hD hS hl
  obtain ⟨fs, f1, f2, f3, f4⟩ := hf h
  refine va_put (D := D) (ci := ci) (v := .int (iI v)) (ty := ty) (C := K) (T := T) (N := N) C.1 C.2.1 C.2.2.2.2.2.1 hin ty0 hty hnm C.2.2.2.2.1 hK hP hD hS q (zW_obj f1) hcl k0 hk (C.2.2.2.2.2.1 _ hlk) (fun _ h9 => h9) hfin hd9 hn hfit (by rw [List.length_map]; exact f3) hd (fun H1 locs1 hP1 hD1 hS1 => ?_)
  have e : (zW cA adr 0 (cs h)).set q (adr q, .inr (ci, (fs.map (cvv adr)).set k0 (.int (iI v)))) = zW cA adr 0 (cs (ps h kk v)) := by
    have e8 : zE cA adr (.inl (ci, fs.set k0 (.int (iI v)))) = .inr (ci, (fs.map (cvv adr)).set k0 (.int (iI v))) := by
      show Sum.inr (ci, (fs.set k0 (Value.int (iI v))).map (cvv adr)) = _
      rw [List.map_set]
      rfl
    rw [← f4 v, ← zW_set, Nat.zero_add, e8]
  rw [e] at hP1 hD1
  exact k p l e_ s m args below meth c D cA adr A H1 locs1 lsa C hA hG (zOk_ps hO (rv hO)) hK hP1 hD1 hS1 hl

theorem zx_iaload {q n : Nat} {i : Int} (hf : zArr cs q 0 n) (hd : decode cc pc = .ok (.iaload, 1)) (h0 : 0 ≤ i) (h1 : i < (n : Int)) (h2 : i < 2147483648) (k : zX cs G own cc nL ret rm (pc + 1) ls (.int (iI (ga h q i)) :: st) h E) : zX cs G own cc nL ret rm pc ls (.int (iI i) :: .ref q :: st) h E := by
  intro p l e s m args below meth c D cA adr A H locs lsa C hA hG hO hK hP hD hS hl
  refine va_iald (D := D) C.1 C.2.1 hK hP q 0 (zW_arr (hf h).1) rfl (zvp h0 h1 h2) hd ?_
  rw [zclamp h0 h2, Int.toNat_of_nonneg h0]
  exact k p l e s m args below meth c D cA adr A H locs lsa C hA hG hO hK hP hD hS hl

theorem zx_iastore {q n : Nat} {i v : Int} (hf : zArr cs q 0 n) (hd : decode cc pc = .ok (.iastore, 1)) (h0 : 0 ≤ i) (h1 : i < (n : Int)) (h2 : i < 2147483648) (rv : zOk h → -2147483648 ≤ v ∧ v < 2147483648) (k : zX cs G own cc nL ret rm (pc + 1) ls st (pa h q i v) E) : zX cs G own cc nL ret rm pc ls (.int (iI v) :: .int (iI i) :: .ref q :: st) h E := by
  intro p l e s m args below meth c D cA adr A H locs lsa C hA hG hO hK hP hD hS hl
  refine va_iast (D := D) C.1 C.2.1 hK hP hD hS q 0 (zW_arr (hf h).1) rfl (zvp h0 h1 h2) hd (fun H1 locs1 hP1 hD1 hS1 => ?_)
  have e9 : (zW cA adr 0 (cs h)).set q (adr q, .inl (cA 0, n, .inl (upd (fun j => iI (ga h q (j : Int))) (iI i).toNatClampNeg (iI v)))) = zW cA adr 0 (cs (pa h q i v)) := by
    rw [← (hf h).2 (upd (fun j => iI (ga h q (j : Int))) (iI i).toNatClampNeg (iI v)) (pa h q i v) (fun j => ?_) (fun b hb9 j => ?_) (fun _ => rfl), ← zW_set, Nat.zero_add]
    · rfl
    · rw [zclamp h0 h2, ga_pa]
      unfold upd
      by_cases hj : j = i.toNat
      · rw [if_pos hj, if_pos ⟨rfl, by omega⟩]
      · rw [if_neg hj, if_neg (fun z => hj (by omega))]
    · rw [ga_pa, if_neg (fun z => hb9 z.1)]
  rw [e9] at hP1 hD1
  exact k p l e s m args below meth c D cA adr A H1 locs1 lsa C hA hG (zOk_pa hO (rv hO)) hK hP1 hD1 hS1 hl

theorem zx_baload {q n : Nat} {i : Int} (hf : zArr cs q 1 n) (hd : decode cc pc = .ok (.baload, 1)) (h0 : 0 ≤ i) (h1 : i < (n : Int)) (h2 : i < 2147483648) (k : zX cs G own cc nL ret rm (pc + 1) ls (.int (iI (ga h q i)) :: st) h E) : zX cs G own cc nL ret rm pc ls (.int (iI i) :: .ref q :: st) h E := by
  intro p l e s m args below meth c D cA adr A H locs lsa C hA hG hO hK hP hD hS hl
  refine va_zald (D := D) C.1 C.2.1 hK hP q 1 (zW_arr (hf h).1) rfl (zvp h0 h1 h2) hd ?_
  rw [zclamp h0 h2, Int.toNat_of_nonneg h0]
  exact k p l e s m args below meth c D cA adr A H locs lsa C hA hG hO hK hP hD hS hl

theorem zx_bastore {q n : Nat} {i v : Int} (hf : zArr cs q 1 n) (hd : decode cc pc = .ok (.bastore, 1)) (hb : v = 0 ∨ v = 1) (h0 : 0 ≤ i) (h1 : i < (n : Int)) (h2 : i < 2147483648) (rv : zOk h → -2147483648 ≤ v ∧ v < 2147483648) (k : zX cs G own cc nL ret rm (pc + 1) ls st (pa h q i v) E) : zX cs G own cc nL ret rm pc ls (.int (iI v) :: .int (iI i) :: .ref q :: st) h E := by
  intro p l e s m args below meth c D cA adr A H locs lsa C hA hG hO hK hP hD hS hl
  refine va_zast (D := D) C.1 C.2.1 hK hP hD hS q 1 (zW_arr (hf h).1) rfl (zvp h0 h1 h2) hd (fun H1 locs1 hP1 hD1 hS1 => ?_)
  have hz : vp_nar .boolean (iI v) = iI v := by rcases hb with rfl | rfl <;> decide +kernel
  rw [hz] at hP1 hD1
  have e9 : (zW cA adr 0 (cs h)).set q (adr q, .inl (cA 1, n, .inl (upd (fun j => iI (ga h q (j : Int))) (iI i).toNatClampNeg (iI v)))) = zW cA adr 0 (cs (pa h q i v)) := by
    rw [← (hf h).2 (upd (fun j => iI (ga h q (j : Int))) (iI i).toNatClampNeg (iI v)) (pa h q i v) (fun j => ?_) (fun b hb9 j => ?_) (fun _ => rfl), ← zW_set, Nat.zero_add]
    · rfl
    · rw [zclamp h0 h2, ga_pa]
      unfold upd
      by_cases hj : j = i.toNat
      · rw [if_pos hj, if_pos ⟨rfl, by omega⟩]
      · rw [if_neg hj, if_neg (fun z => hj (by omega))]
    · rw [ga_pa, if_neg (fun z => hb9 z.1)]
  rw [e9] at hP1 hD1
  exact k p l e s m args below meth c D cA adr A H1 locs1 lsa C hA hG (zOk_pa hO (rv hO)) hK hP1 hD1 hS1 hl

end ZX
section ZR
variable {cs : zH → List aC} {G : zGv} {own : String} {cc : ByteArray} {nL : Nat} {rm : Room} {pc : Nat} {ls : List (Option Value)} {st : List Value} {h : zH} {E : zF}

theorem zx_iret {z : Int} {Q : Int → zH → Prop} (hd : decode cc pc = .ok (.ireturn, 1)) (rz : zOk h → -2147483648 ≤ z ∧ z < 2147483648) (hq : Q z h) : zX cs G own cc nL (some .int) rm pc ls [.int (iI z)] h (zEi cs Q) := by
  intro p l e s m args below meth c D cA adr A H locs lsa C hA hG hO hK hP hD hS hl
  have hlocks : meth.locks = false := C.2.2.2.2.2.2
  exact W.iret (v := iI z) C.1 C.2.1 C.2.2.1 (fun t ht hW => ⟨⟨iI z, h, rfl, ⟨z, rfl, rz hO, hq⟩, ⟨hO, by rw [ht]; exact hP, va_K.moved hW.alike hK, hD⟩⟩, hS.F ht⟩) hS.2.2 hd
theorem zx_zret {z : Int} {Q : Int → zH → Prop} (hd : decode cc pc = .ok (.ireturn, 1)) (hz : z = 0 ∨ z = 1) (hq : Q z h) : zX cs G own cc nL (some .boolean) rm pc ls [.int (iI z)] h (zEi cs Q) := by
  intro p l e s m args below meth c D cA adr A H locs lsa C hA hG hO hK hP hD hS hl
  have hlocks : meth.locks = false := C.2.2.2.2.2.2
  exact W.zret (v := iI z) C.1 C.2.1 C.2.2.1 (by rcases hz with rfl | rfl <;> decide +kernel) (fun t ht hW => ⟨⟨iI z, h, rfl, ⟨z, rfl, by omega, hq⟩, ⟨hO, by rw [ht]; exact hP, va_K.moved hW.alike hK, hD⟩⟩, hS.F ht⟩) hS.2.2 hd
theorem zx_vret {Q : zH → Prop} (hd : decode cc pc = .ok (.return_, 1)) (hq : Q h) : zX cs G own cc nL none rm pc ls [] h (zEv cs Q) := by
  intro p l e s m args below meth c D cA adr A H locs lsa C hA hG hO hK hP hD hS hl
  have hlocks : meth.locks = false := C.2.2.2.2.2.2
  exact W.vret C.1 C.2.1 C.2.2.1 (fun t ht hW => ⟨⟨h, rfl, hq, ⟨hO, by rw [ht]; exact hP, va_K.moved hW.alike hK, hD⟩⟩, hS.F ht⟩) hS.2.2 hd

theorem zFree {A : Nat → Prop} {ws : va_W} {s : State} {H : Heap} {locs : List Loc} (hD : va_D A ws) (hS : va_S A s.heap H locs) (hA : ∀ q : Nat, s.heap.size ≤ q → A q) : ∀ q, va_A ws H.size q → A q := by
  intro q hq
  rcases hq with ⟨k, e, hk⟩ | hq
  · exact hD.2 k (q, e) hk
  · exact hA q (Nat.le_trans hS.1 hq)
theorem zBlind {cs : zH → List aC} {D : va_G} {cA : Nat → ClassId} {adr : Nat → Nat} {h : zH} {sz : Nat} {av : List Value} : FrameBlind (va_Pc av (fun U => U.heap.size = sz ∧ zB cs D cA adr h (fun _ => True) U)) := fun a U g mk q => by
  obtain ⟨q0, q1, qO, qP, qK, qD⟩ := q
  exact ⟨q0, q1, qO, qP, va_K.moved (u := U) (U := U.calling g mk a) (Vm.Alike.refl U.vm) qK, qD⟩
theorem zCats (adr : Nat → Nat) (st : List Value) : ((st.map (cvv adr)).map fun v => v.category).sum = (st.map fun v => v.category).sum := by
  induction st with
  | nil => rfl
  | cons v r ih => simp only [List.map_cons, List.sum_cons, ih, cvv_cat]
end ZR
section ZC
variable {cs : zH → List aC} {G : zGv} {own : String} {cc : ByteArray} {nL : Nat} {ret : Option FieldType} {rm : Room} {pc : Nat} {ls : List (Option Value)} {st st0 : List Value} {h : zH} {E : zF}

theorem zx_invVi {y : MethodName} {b : ByteArray} {nL2 idx n : Nat} {rm2 : Room} {as : List Value} {r2 : FieldType} {Q : Int → zH → Prop} {q ci : Nat} {K : String} {T : u_T} {N : Nat} (hd : decode cc pc = .ok (.invokevirtual idx, 3)) (hlk : Cond.methodLink own idx y ∈ zU) (hcal : zCal K y b nL2 (some r2)) (hcl : vwCl[ci]? = some (K, T, N)) (hob : ∃ fs, (cs h)[q]? = some (.inl (ci, fs))) (hlen : as.length = n ∧ (parseMethodDescriptor y.desc).map (fun d => d.parameters.length) = some n) (hrc : rm2.cells = 0 ∧ rm2.slots = 0) (hR : rm2.frames + 1 ≤ rm.frames ∧ 8 + (nL2 + 11) + rm2.locals ≤ rm.locals) (hM : zMi cs y b nL2 r2 rm2 (.ref q :: as) h Q) (hst : st0 = as.reverse ++ .ref q :: st) (hcat : (st.map fun v => v.category).sum ≤ 8)
    (k : ∀ (z : Int) (h2 : zH), -2147483648 ≤ z → z < 2147483648 → Q z h2 → zX cs G own cc nL ret rm (pc + 3) ls (.int (iI z) :: st) h2 E) : zX cs G own cc nL ret rm pc ls st0 h E := by
  intro p l e s m args below meth c D cA adr A H locs lsa C hA hG hO hK hP hD hS hl
  subst hst

  obtain ⟨fs, hob⟩ := hob

  have hF := zFree hD hS hA

  refine va_calli (va_runV (As := as.map (cvv adr)) (rest := st.map (cvv adr)) (n := n) ⟨C.1, C.2.1, C.2.2.2.1, C.2.2.2.2.1, C.2.2.2.2.2.1⟩ (hM l D cA adr H.size) (cwV n C.2.2.2.2.2.1 (zCal_good hlk hcal) rfl hrc.1 hrc.2 ⟨hcal.2.2.2.2.1.1, hcal.2.2.2.2.1.2.1, hcal.2.2.2.2.1.2.2, hlen.2⟩ hR) ⟨zBlind, va_recv hK hP hcl (zW_obj hob), fun U hU hW => ⟨rfl, by rw [hU], hO, by rw [hU]; exact hP, va_K.moved hW.alike hK, hD.weaken (fun _ _ _ _ => trivial)⟩⟩ rfl (by rw [List.length_map]; exact hlen.1) hl.1 (by rw [List.map_append, List.map_reverse]; rfl) (lv_room (by rw [zCats]; exact hcat)) hd ⟨Nat.zero_le _, Nat.zero_le _⟩) hS (fun q9 _ h9 => hF q9 h9) hF (fun r u t H1 locs1 ht hvm hw hB hz1 hk1 hS1 => ?_)

  obtain ⟨z, rfl, rz, hw⟩ := hw
  obtain ⟨hO1, hP1, hK1, hD1⟩ := hB
  exact k z u rz.1 rz.2 hw p l e s m args below meth c D cA adr A H1 locs1 lsa C hA hG hO1 hK (by rw [← ht]; exact hP1) (hD1.weaken (fun k9 q9 _ h9 => hF q9.1 h9)) hS1 hl

theorem zx_invVv {y : MethodName} {b : ByteArray} {nL2 idx n : Nat} {rm2 : Room} {as : List Value} {Q : zH → Prop} {q ci : Nat} {K : String} {T : u_T} {N : Nat} (hd : decode cc pc = .ok (.invokevirtual idx, 3)) (hlk : Cond.methodLink own idx y ∈ zU) (hcal : zCal K y b nL2 none) (hcl : vwCl[ci]? = some (K, T, N)) (hob : ∃ fs, (cs h)[q]? = some (.inl (ci, fs))) (hlen : as.length = n ∧ (parseMethodDescriptor y.desc).map (fun d => d.parameters.length) = some n) (hrc : rm2.cells = 0 ∧ rm2.slots = 0) (hR : rm2.frames + 1 ≤ rm.frames ∧ 8 + (nL2 + 11) + rm2.locals ≤ rm.locals) (hM : zMv cs y b nL2 rm2 (.ref q :: as) h Q) (hst : st0 = as.reverse ++ .ref q :: st) (hcat : (st.map fun v => v.category).sum ≤ 8)
    (k : ∀ h2 : zH, Q h2 → zX cs G own cc nL ret rm (pc + 3) ls st h2 E) : zX cs G own cc nL ret rm pc ls st0 h E := by
  intro p l e s m args below meth c D cA adr A H locs lsa C hA hG hO hK hP hD hS hl
  subst hst

  obtain ⟨fs, hob⟩ := hob

  have hF := zFree hD hS hA

  refine va_callv (va_runV (As := as.map (cvv adr)) (rest := st.map (cvv adr)) (n := n) ⟨C.1, C.2.1, C.2.2.2.1, C.2.2.2.2.1, C.2.2.2.2.2.1⟩ (hM l D cA adr H.size) (cwV n C.2.2.2.2.2.1 (zCal_good hlk hcal) rfl hrc.1 hrc.2 ⟨hcal.2.2.2.2.1.1, hcal.2.2.2.2.1.2.1, hcal.2.2.2.2.1.2.2, hlen.2⟩ hR) ⟨zBlind, va_recv hK hP hcl (zW_obj hob), fun U hU hW => ⟨rfl, by rw [hU], hO, by rw [hU]; exact hP, va_K.moved hW.alike hK, hD.weaken (fun _ _ _ _ => trivial)⟩⟩ rfl (by rw [List.length_map]; exact hlen.1) hl.1 (by rw [List.map_append, List.map_reverse]; rfl) (lv_room (by rw [zCats]; exact hcat)) hd ⟨Nat.zero_le _, Nat.zero_le _⟩) hS (fun q9 _ h9 => hF q9 h9) hF (fun u t H1 locs1 ht hvm hw hB hz1 hk1 hS1 => ?_)

  obtain ⟨hO1, hP1, hK1, hD1⟩ := hB
  exact k u hw p l e s m args below meth c D cA adr A H1 locs1 lsa C hA hG hO1 hK (by rw [← ht]; exact hP1) (hD1.weaken (fun k9 q9 _ h9 => hF q9.1 h9)) hS1 hl

theorem zx_invSi {y : MethodName} {b : ByteArray} {nL2 idx n : Nat} {rm2 : Room} {as : List Value} {r2 : FieldType} {Q : Int → zH → Prop} (hd : decode cc pc = .ok (.invokestatic idx, 3)) (hlk : Cond.methodLink own idx y ∈ zU) (hcal : zSta own y b nL2 (some r2)) (hlen : as.length = n ∧ (parseMethodDescriptor y.desc).map (fun d => d.parameters.length) = some n) (hrc : rm2.cells = 0 ∧ rm2.slots = 0) (hR : rm2.frames + 1 ≤ rm.frames ∧ 8 + (nL2 + 11) + rm2.locals ≤ rm.locals) (hM : zMi cs y b nL2 r2 rm2 as h Q) (hst : st0 = as.reverse ++ st) (hcat : (st.map fun v => v.category).sum ≤ 8)
    (k : ∀ (z : Int) (h2 : zH), -2147483648 ≤ z → z < 2147483648 → Q z h2 → zX cs G own cc nL ret rm (pc + 3) ls (.int (iI z) :: st) h2 E) : zX cs G own cc nL ret rm pc ls st0 h E := by
  intro p l e s m args below meth c D cA adr A H locs lsa C hA hG hO hK hP hD hS hl
  subst hst

  have hF := zFree hD hS hA

  refine va_calli (va_runS (As := as.map (cvv adr)) (rest := st.map (cvv adr)) (n := n) ⟨C.1, C.2.1, C.2.2.2.1, C.2.2.2.2.1, C.2.2.2.2.2.1⟩ (hM l D cA adr H.size) (cwS n C.2.2.2.2.2.1 (zSta_good hlk hcal) rfl hrc.1 hrc.2 ⟨hcal.2.2.2.1.1, hcal.2.2.2.1.2.1, hcal.2.2.2.1.2.2, hlen.2⟩ hR) ⟨zBlind, fun U hU hW => ⟨rfl, by rw [hU], hO, by rw [hU]; exact hP, va_K.moved hW.alike hK, hD.weaken (fun _ _ _ _ => trivial)⟩⟩ rfl (by rw [List.length_map]; exact hlen.1) hl.1 (by rw [List.map_append, List.map_reverse]) (lv_room (by rw [zCats]; exact hcat)) hd ⟨Nat.zero_le _, Nat.zero_le _⟩) hS (fun q9 _ h9 => hF q9 h9) hF (fun r u t H1 locs1 ht hvm hw hB hz1 hk1 hS1 => ?_)

  obtain ⟨z, rfl, rz, hw⟩ := hw
  obtain ⟨hO1, hP1, hK1, hD1⟩ := hB
  exact k z u rz.1 rz.2 hw p l e s m args below meth c D cA adr A H1 locs1 lsa C hA hG hO1 hK (by rw [← ht]; exact hP1) (hD1.weaken (fun k9 q9 _ h9 => hF q9.1 h9)) hS1 hl

theorem zx_invSv {y : MethodName} {b : ByteArray} {nL2 idx n : Nat} {rm2 : Room} {as : List Value} {Q : zH → Prop} (hd : decode cc pc = .ok (.invokestatic idx, 3)) (hlk : Cond.methodLink own idx y ∈ zU) (hcal : zSta own y b nL2 none) (hlen : as.length = n ∧ (parseMethodDescriptor y.desc).map (fun d => d.parameters.length) = some n) (hrc : rm2.cells = 0 ∧ rm2.slots = 0) (hR : rm2.frames + 1 ≤ rm.frames ∧ 8 + (nL2 + 11) + rm2.locals ≤ rm.locals) (hM : zMv cs y b nL2 rm2 as h Q) (hst : st0 = as.reverse ++ st) (hcat : (st.map fun v => v.category).sum ≤ 8)
    (k : ∀ h2 : zH, Q h2 → zX cs G own cc nL ret rm (pc + 3) ls st h2 E) : zX cs G own cc nL ret rm pc ls st0 h E := by
  intro p l e s m args below meth c D cA adr A H locs lsa C hA hG hO hK hP hD hS hl
  subst hst

  have hF := zFree hD hS hA

  refine va_callv (va_runS (As := as.map (cvv adr)) (rest := st.map (cvv adr)) (n := n) ⟨C.1, C.2.1, C.2.2.2.1, C.2.2.2.2.1, C.2.2.2.2.2.1⟩ (hM l D cA adr H.size) (cwS n C.2.2.2.2.2.1 (zSta_good hlk hcal) rfl hrc.1 hrc.2 ⟨hcal.2.2.2.1.1, hcal.2.2.2.1.2.1, hcal.2.2.2.1.2.2, hlen.2⟩ hR) ⟨zBlind, fun U hU hW => ⟨rfl, by rw [hU], hO, by rw [hU]; exact hP, va_K.moved hW.alike hK, hD.weaken (fun _ _ _ _ => trivial)⟩⟩ rfl (by rw [List.length_map]; exact hlen.1) hl.1 (by rw [List.map_append, List.map_reverse]) (lv_room (by rw [zCats]; exact hcat)) hd ⟨Nat.zero_le _, Nat.zero_le _⟩) hS (fun q9 _ h9 => hF q9 h9) hF (fun u t H1 locs1 ht hvm hw hB hz1 hk1 hS1 => ?_)

  obtain ⟨hO1, hP1, hK1, hD1⟩ := hB
  exact k u hw p l e s m args below meth c D cA adr A H1 locs1 lsa C hA hG hO1 hK (by rw [← ht]; exact hP1) (hD1.weaken (fun k9 q9 _ h9 => hF q9.1 h9)) hS1 hl

end ZC
