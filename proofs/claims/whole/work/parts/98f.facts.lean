/-! the start: what the words give -/
theorem nIn {w : Cond} (h : w ∈ zU) : w ∈ lw_tbl := (List.mem_filter.mp h).1
theorem nAC2 : Cond.arrayClass .long ∈ zU := zm8 (i := 34) (by decide +kernel) rfl
def nFl : List Cond := flatC (Jvm.Cond.and given_1 narrow_1)
theorem st_of {args : Array Value} {s : State} {own tx : String} {k : Nat} {bs : List Int32} {A : Nat → Prop} (h1 : (Cond.stringRef own k tx).before args s = true) (h2 : (Cond.exactly (.string own k) "java/lang/String").before args s = true) (h3 : (Cond.eq (.field (.string own k) "java/lang/String" "coder" "B") (.int 0)).before args s = true) (h4 : (Cond.arrayOf (.field (.string own k) "java/lang/String" "value" "[B") .byte).before args s = true) (h5 : (Cond.eq (.length (.field (.string own k) "java/lang/String" "value" "[B")) (.int (Int32.ofNat bs.length))).before args s = true) (h6 : ∀ j : Nat, j < bs.length → (Cond.eq (.elem (.field (.string own k) "java/lang/String" "value" "[B") (.int (Int32.ofNat j))) (.int (bs.getD j 0))).before args s = true) (hN : bs.length < 2 ^ 31) (hA : ∀ a : Nat, a < s.heap.size → ¬ A a) :
    ∃ q : Nat × Nat, vk_R own k tx q.1 s ∧ va_O "java/lang/String" q.1 A s s.heap ∧ va_OF "java/lang/String" "coder" "B" (.int 0) q.1 A s s.heap ∧ va_OF "java/lang/String" "value" "[B" (.ref q.2) q.1 A s s.heap ∧ va_T .byte q.2 bs.length (fun j => .int (bs.getD j 0)) A s s.heap := by
  obtain ⟨a, -, -, -, ht, -⟩ := Cond.exactly_spec (args := args) (first := s) (o := none) (s := s) (idx := []) h2
  obtain ⟨v, hv, hT⟩ := va_Tof (f := fun j => .int (bs.getD j 0)) hN h4 (va_eqt h5) (fun j hj => va_eqt (h6 j hj)) hA
  exact ⟨(a, v), vk_R.of h1 ht, va_Oof h2 ht hA, vk_OFof ht (va_eqt h3) hA, vk_OFof ht hv hA, hT⟩
theorem sm_T : ∀ i, i < 6 → Cond.stringRef RX2 (sK i) (sT i) ∈ lw_tbl := by decide +kernel
theorem sm_F : ∀ i, i < 6 → (Cond.exactly (.string RX2 (sK i)) "java/lang/String" ∈ nFl ∧ Cond.eq (.field (.string RX2 (sK i)) "java/lang/String" "coder" "B") (.int 0) ∈ nFl ∧ Cond.arrayOf (.field (.string RX2 (sK i)) "java/lang/String" "value" "[B") .byte ∈ nFl ∧ Cond.eq (.length (.field (.string RX2 (sK i)) "java/lang/String" "value" "[B")) (.int (Int32.ofNat (sB i).length)) ∈ nFl ∧ ∀ j : Nat, j < (sB i).length → Cond.eq (.elem (.field (.string RX2 (sK i)) "java/lang/String" "value" "[B") (.int (Int32.ofNat j))) (.int ((sB i).getD j 0)) ∈ nFl) := by decide +kernel
theorem sm_L : ∀ i, i < 6 → (sB i).length < 2 ^ 31 := by decide +kernel
theorem sm_6 : ∀ q ∈ zT6, Cond.stringRef RX6 q.1 q.2 ∈ lw_tbl ∧ Cond.exactly (.string RX6 q.1) "java/lang/String" ∈ nFl := by decide +kernel
theorem nZS {args : Array Value} {s : State} {A : Nat → Prop} (ht : ∀ w ∈ lw_tbl, w.before args s = true) (hs : ∀ c ∈ nFl, c.before args s = true) (hA : ∀ a : Nat, a < s.heap.size → ¬ A a) :
    ∃ (f : Nat → Nat × Nat) (fm : Nat), ∀ adr : Nat → Nat, (∀ i, i < 6 → adr (100 + i) = (f i).1 ∧ adr (110 + i) = (f i).2) → adr 160 = fm → zS s A adr := by
  have hst : ∀ i : Nat, ∃ q : Nat × Nat, i < 6 → vk_R RX2 (sK i) (sT i) q.1 s ∧ va_O "java/lang/String" q.1 A s s.heap ∧ va_OF "java/lang/String" "coder" "B" (.int 0) q.1 A s s.heap ∧ va_OF "java/lang/String" "value" "[B" (.ref q.2) q.1 A s s.heap ∧ va_T .byte q.2 (sB i).length (fun j => .int ((sB i).getD j 0)) A s s.heap := by
    intro i
    by_cases hi : i < 6
    · obtain ⟨m1, m2, m3, m4, m5⟩ := sm_F i hi
      obtain ⟨q, hq⟩ := st_of (ht _ (sm_T i hi)) (hs _ m1) (hs _ m2) (hs _ m3) (hs _ m4) (fun j hj => hs _ (m5 j hj)) (sm_L i hi) hA
      exact ⟨q, fun _ => hq⟩
    · exact ⟨(0, 0), fun h => absurd h hi⟩
  have c1 : va_Z "java/lang/String" "COMPACT_STRINGS" "Z" (.int 1) A s s.heap := va_Zof (ht _ (by decide +kernel)) (ht _ (by decide +kernel)) (va_eqi (hs _ (by decide +kernel))) hA
  have c4 : vx_Zq Bundle.tN "UNASSIGNED_STACK" Bundle.steD A s s.heap := vx_Zqof (ht _ (by decide +kernel)) (ht _ (by decide +kernel)) (hs _ (by decide +kernel)) hA
  have c5 : vx_Zq Bundle.tN "SUPPRESSED_SENTINEL" Bundle.listD A s s.heap := vx_Zqof (ht _ (by decide +kernel)) (ht _ (by decide +kernel)) (hs _ (by decide +kernel)) hA
  have c2 : va_Zq "jdk/internal/util/Preconditions" "SIOOBE_FORMATTER" "Ljava/util/function/BiFunction;" A s s.heap := va_Zqof (ht _ (by decide +kernel)) (ht _ (by decide +kernel)) (hs _ (by decide +kernel)) hA
  have c6 : ∀ q ∈ zT6, ∃ a, vk_R RX6 q.1 q.2 a s := by
    intro q hq
    obtain ⟨m1, m2⟩ := sm_6 q hq
    obtain ⟨a, -, -, -, h9, -⟩ := Cond.exactly_spec (args := args) (first := s) (o := none) (s := s) (idx := []) (hs _ m2)
    exact ⟨a, vk_R.of (ht _ m1) h9⟩
  have c3 : ∀ adr : Nat → Nat, (∀ i, i < 6 → adr (100 + i) = (Classical.choose (hst i)).1 ∧ adr (110 + i) = (Classical.choose (hst i)).2) → ∀ i, i < 6 → zSt s A s.heap adr i := by
    intro adr ha i hi
    have h9 := Classical.choose_spec (hst i) hi
    obtain ⟨a1, a2⟩ := ha i hi
    unfold zSt
    rw [a1, a2]
    exact h9
  rcases c2 with c2 | ⟨t, c2⟩
  · exact ⟨fun i => Classical.choose (hst i), 0, fun adr ha _ => ⟨c1, ⟨.null, Or.inl rfl, c2⟩, c3 adr ha, c4, c5, c6⟩⟩
  · exact ⟨fun i => Classical.choose (hst i), t, fun adr ha hb => ⟨c1, ⟨.ref 160, Or.inr rfl, by show va_Z _ _ _ (.ref (adr 160)) _ _ _; rw [hb]; exact c2⟩, c3 adr ha, c4, c5, c6⟩⟩
theorem sm_C : ∀ w ∈ zFc, w ∈ lw_tbl ∧ w.onTables = true := by decide +kernel
theorem nZC {args : Array Value} {s : State} (ht : ∀ w ∈ lw_tbl, w.before args s = true) : zCa s := fun w hw _ => va_tabs (sm_C w hw).2 rfl (ht w (sm_C w hw).1)
theorem nZN {args : Array Value} {s : State} (hs : ∀ c ∈ nFl, c.before args s = true) : zNc s := ⟨va_Nc.of (hs _ (by decide +kernel)), va_Nc.of (hs _ (by decide +kernel)), va_Nc.of (hs _ (by decide +kernel))⟩
theorem sm_N : ∀ q ∈ nNl, Cond.methodLinkNest q.1 q.2.1 q.2.2 RX6 ∈ lw_tbl := by decide +kernel
theorem nZW {args : Array Value} {s : State} (ht : ∀ w ∈ lw_tbl, w.before args s = true) : nNw s := fun q hq => va_Nw.of rfl (ht _ (sm_N q hq))
theorem nK {args : Array Value} {s : State} (ht : ∀ w ∈ zU, w.before args s = true) : ∃ (D : va_G) (cA : Nat → ClassId), va_K D vwCl (zT3 cA) s := by
  obtain ⟨c0, i0, k0⟩ := u_known (n := 15) ht zu_X0 (ht _ (zm1 (i := 80) (by decide +kernel) rfl))
  obtain ⟨c1, i1, k1⟩ := u_known (n := 18) ht zu_X1 (ht _ (zm1 (i := 86) (by decide +kernel) rfl))
  obtain ⟨c2, i2, k2⟩ := u_known (n := 11) ht zu_X2 (ht _ (zm1 (i := 30) (by decide +kernel) rfl))
  obtain ⟨c3, i3, k3⟩ := u_known (n := 2) ht zu_X3 (ht _ (zm1 (i := 179) (by decide +kernel) rfl))
  obtain ⟨c4, i4, k4⟩ := u_known (n := 7) ht zu_X4 (ht _ (zm1 (i := 194) (by decide +kernel) rfl))
  obtain ⟨c5, i5, k5⟩ := u_known (n := 3) ht zu_X5 (ht _ (zm1 (i := 226) (by decide +kernel) rfl))
  obtain ⟨c6, i6, k6⟩ := u_known (n := 2) ht zu_X6 (ht _ (zm1 (i := 22) (by decide +kernel) rfl))
  obtain ⟨c7, i7, k7⟩ := u_known (n := 51) ht zu_X7 (ht _ (zm5 (i := 119) (by decide +kernel) rfl))
  obtain ⟨x0, y0, z0, p0, q0, r0⟩ := Cond.arrayClass_spec (ht _ nAC0)
  obtain ⟨x1, y1, z1, p1, q1, r1⟩ := Cond.arrayClass_spec (ht _ nAC1)
  obtain ⟨x2, y2, z2, p2, q2, r2⟩ := Cond.arrayClass_spec (ht _ nAC2)
  refine ⟨(fun c => match c with | 0 => c0 | 1 => c1 | 2 => c2 | 3 => c3 | 4 => c4 | 5 => c5 | 6 => c6 | _ => c7, fun c => match c with | 0 => i0 | 1 => i1 | 2 => i2 | 3 => i3 | 4 => i4 | 5 => i5 | 6 => i6 | _ => i7), fun t => match t with | 0 => x0 | 1 => x1 | _ => x2, fun c q hq => ?_, fun t q hq => ?_⟩
  · exact match c, hq with
    | 0, hq => by cases Option.some.inj (show some (RX0, TX0, 15) = some q from hq); exact k0
    | 1, hq => by cases Option.some.inj (show some (RX1, TX1, 18) = some q from hq); exact k1
    | 2, hq => by cases Option.some.inj (show some (RX2, TX2, 11) = some q from hq); exact k2
    | 3, hq => by cases Option.some.inj (show some (RX3, TX3, 2) = some q from hq); exact k3
    | 4, hq => by cases Option.some.inj (show some (RX4, TX4, 7) = some q from hq); exact k4
    | 5, hq => by cases Option.some.inj (show some (RX5, TX5, 3) = some q from hq); exact k5
    | 6, hq => by cases Option.some.inj (show some (RX6, TX6, 2) = some q from hq); exact k6
    | 7, hq => by cases Option.some.inj (show some (RX7, TX7, 51) = some q from hq); exact k7
    | n + 8, hq => by cases (show none = some q from hq)
  · exact match t, hq with
    | 0, hq => by cases Option.some.inj (show some (x0, FieldType.int) = some q from hq); exact ⟨fun n z => ⟨fun k h => (by cases h), y0, q0, z0, r0⟩, p0⟩
    | 1, hq => by cases Option.some.inj (show some (x1, FieldType.boolean) = some q from hq); exact ⟨fun n z => ⟨fun k h => (by cases h), y1, q1, z1, r1⟩, p1⟩
    | 2, hq => by cases Option.some.inj (show some (x2, FieldType.long) = some q from hq); exact ⟨fun n z => ⟨fun k h => (by cases h), y2, q2, z2, r2⟩, p2⟩
    | n + 3, hq => by cases (show none = some q from hq)

