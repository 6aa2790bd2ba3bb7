/-! the law's world: the class's, the reference's, and the long array -/
theorem app_l {α : Type} {a b : List α} {k : Nat} {x : α} (h : a[k]? = some x) : (a ++ b)[k]? = some x := by
  obtain ⟨h1, h2⟩ := List.getElem?_eq_some_iff.mp h
  rw [List.getElem?_append_left h1]
  exact h
theorem app_r {α : Type} {a b : List α} {k : Nat} {x : α} (h : b[k]? = some x) : (a ++ b)[a.length + k]? = some x := by
  rw [List.getElem?_append_right (by omega), show a.length + k - a.length = k by omega]
  exact h
theorem app_e {α : Type} {a b : List α} {k : Nat} {x : α} (h : (a ++ b)[k]? = some x) : (k < a.length ∧ a[k]? = some x) ∨ (a.length ≤ k ∧ b[k - a.length]? = some x) := by
  by_cases c : k < a.length
  · rw [List.getElem?_append_left c] at h
    exact Or.inl ⟨c, h⟩
  · rw [List.getElem?_append_right (by omega)] at h
    exact Or.inr ⟨by omega, h⟩
theorem lP_l {D : va_G} {cl : List vw_C} {a b : va_W} {H : Heap} (h : va_P D cl (a ++ b) H) : va_P D cl a H := fun k q hk => h k q (app_l hk)
theorem lP_r {D : va_G} {cl : List vw_C} {a b : va_W} {H : Heap} (h : va_P D cl (a ++ b) H) : va_P D cl b H := fun k q hk => h _ q (app_r hk)
theorem lD_l {A : Nat → Prop} {a b : va_W} (h : va_D A (a ++ b)) : va_D A a := ⟨fun i j p q hi hj e => h.1 i j p q (app_l hi) (app_l hj) e, fun k q hk => h.2 k q (app_l hk)⟩
theorem lD_r {A : Nat → Prop} {a b : va_W} (h : va_D A (a ++ b)) : va_D A b := ⟨fun i j p q hi hj e => by
  have := h.1 _ _ p q (app_r hi) (app_r hj) e
  omega, fun k q hk => h.2 _ q (app_r hk)⟩
theorem lD_x {A : Nat → Prop} {a b : va_W} (h : va_D A (a ++ b)) {i j : Nat} {p q : Nat × va_E} (hi : a[i]? = some p) (hj : b[j]? = some q) : p.1 ≠ q.1 := fun e => by
  obtain ⟨h1, _⟩ := List.getElem?_eq_some_iff.mp hi
  have := h.1 _ _ p q (app_l hi) (app_r hj) e
  omega
theorem lD_sw {A : Nat → Prop} {a b : va_W} (h : va_D A (a ++ b)) : va_D A (b ++ a) := (lD_r h).app (lD_l h) (fun i j p q hi hj e => lD_x h hj hi e.symm)
/-- a part of the world changes, all else stays -/
theorem LFR {D : va_G} {cl : List vw_C} {A B : Nat → Prop} {a a2 b : va_W} {H H1 : Heap} (hP : va_P D cl (a ++ b) H) (hD : va_D A (a ++ b)) (hP2 : va_P D cl a2 H1) (hD2 : va_D (va_A a H.size) a2) (hk : ∀ q : Nat, q < H.size → ¬ va_A a H.size q → H1[q]? = H[q]?) (hB : ∀ q, A q → B q) (hB2 : ∀ q, H.size ≤ q → B q) : va_P D cl (a2 ++ b) H1 ∧ va_D B (a2 ++ b) := by
  have hb := lP_r hP
  have out : ∀ (k : Nat) (q : Nat × va_E), b[k]? = some q → ¬ va_A a H.size q.1 := fun k q hq z => by
    have lt := (hb k q hq).lt
    rcases z with ⟨i, e, hi⟩ | z
    · exact lD_x hD hi hq rfl
    · omega
  refine ⟨va_P.app hP2 (hb.kept (fun k q hq => hk _ ((hb k q hq).lt) (out k q hq))), va_D.app ⟨hD2.1, fun k q hq => ?_⟩ ⟨(lD_r hD).1, fun k q hq => hB _ ((lD_r hD).2 k q hq)⟩ (fun i j p q hi hj e => out j q hj (by rw [← e]; exact hD2.2 i p hi))⟩
  rcases hD2.2 k q hq with ⟨i, e, hi⟩ | z
  · exact hB _ ((lD_l hD).2 i (q.1, e) hi)
  · exact hB2 _ z
def lAr (adr : Nat → Nat) : Nat → Nat := fun k => adr (k + 200)
def lW (cA : Nat → ClassId) (adr : Nat → Nat) (hx hm : zH) (o : Nat → Int64) : va_W := zW cA adr 0 (cX hx) ++ (zW cA (lAr adr) 0 (cM hm) ++ [(adr 300, .inl (cA 2, 1, .inr (.inl o)))])
abbrev zT3 (cA : Nat → ClassId) : List (ClassId × FieldType) := [(cA 0, .int), (cA 1, .boolean), (cA 2, .long)]
theorem zT3_2 {D : va_G} {cA : Nat → ClassId} {U : State} (h : va_K D vwCl (zT3 cA) U) : va_K D vwCl (zT cA) U := h.sub [0, 1] rfl
/-- the law's world at a state of the machine -/
def lB (D : va_G) (cA : Nat → ClassId) (adr : Nat → Nat) (hx hm : zH) (o : Nat → Int64) (A : Nat → Prop) (t : State) : Prop := zOk hx ∧ zOk hm ∧ va_P D vwCl (lW cA adr hx hm o) t.heap ∧ va_K D vwCl (zT3 cA) t ∧ va_D A (lW cA adr hx hm o)
/-- the class's part changes -/
theorem LX {D : va_G} {cA : Nat → ClassId} {adr : Nat → Nat} {hx hm hx2 : zH} {o : Nat → Int64} {A B : Nat → Prop} {H H1 : Heap} (hP : va_P D vwCl (lW cA adr hx hm o) H) (hD : va_D A (lW cA adr hx hm o)) (hP2 : va_P D vwCl (zW cA adr 0 (cX hx2)) H1) (hD2 : va_D (va_A (zW cA adr 0 (cX hx)) H.size) (zW cA adr 0 (cX hx2))) (hk : ∀ q : Nat, q < H.size → ¬ va_A (zW cA adr 0 (cX hx)) H.size q → H1[q]? = H[q]?) (hB : ∀ q, A q → B q) (hB2 : ∀ q, H.size ≤ q → B q) : va_P D vwCl (lW cA adr hx2 hm o) H1 ∧ va_D B (lW cA adr hx2 hm o) := LFR hP hD hP2 hD2 hk hB hB2
/-- the reference's part changes -/
theorem LM {D : va_G} {cA : Nat → ClassId} {adr : Nat → Nat} {hx hm hm2 : zH} {o : Nat → Int64} {A B : Nat → Prop} {H H1 : Heap} (hP : va_P D vwCl (lW cA adr hx hm o) H) (hD : va_D A (lW cA adr hx hm o)) (hP2 : va_P D vwCl (zW cA (lAr adr) 0 (cM hm2)) H1) (hD2 : va_D (va_A (zW cA (lAr adr) 0 (cM hm)) H.size) (zW cA (lAr adr) 0 (cM hm2))) (hk : ∀ q : Nat, q < H.size → ¬ va_A (zW cA (lAr adr) 0 (cM hm)) H.size q → H1[q]? = H[q]?) (hB : ∀ q, A q → B q) (hB2 : ∀ q, H.size ≤ q → B q) : va_P D vwCl (lW cA adr hx hm2 o) H1 ∧ va_D B (lW cA adr hx hm2 o) := by
  have d1 := lD_sw hD
  have p1 : va_P D vwCl ((zW cA (lAr adr) 0 (cM hm) ++ [(adr 300, .inl (cA 2, 1, .inr (.inl o)))]) ++ zW cA adr 0 (cX hx)) H := va_P.app (lP_r hP) (lP_l hP)
  rw [List.append_assoc] at p1
  rw [List.append_assoc] at d1
  obtain ⟨q1, q2⟩ := LFR p1 d1 hP2 hD2 hk hB hB2
  rw [← List.append_assoc] at q1 q2
  exact ⟨va_P.app (lP_r q1) (lP_l q1), lD_sw q2⟩

