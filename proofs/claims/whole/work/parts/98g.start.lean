/-! the law: its start and its end -/
def nL45 : List aC := %%LS%%
set_option maxRecDepth 100000 in
theorem nStart {G : nGv} {bb : Nat} {E : zF} (k : nX G 0 RL cL_law 7 (some .boolean) room_1 nL45 %%C4%% %%S4%% 16 (fun adr => [(2, .ref (adr 27)), (1, .ref (adr 0)), (0, .ref bb)]) [] E) : nX G 0 RL cL_law 7 (some .boolean) room_1 [] 0 0 0 (fun _ => [(0, .ref bb)]) [] E := by
  unfold nL45 at k
  refine nx_new (pc := 0) (ci := 6) (fs := [.null, .null]) (c2 := 1) (s2 := 2) (l2 := [.inl (6, [.null, .null])]) (q9 := 0) dL_law_0 rfl zu_X6 tyX6_ok (zm1 (i := 21) (by decide +kernel) rfl) (zm1 (i := 22) (by decide +kernel) rfl) (zm1 (i := 1) (by decide +kernel) rfl) nf_X6 (fun _ => rfl) ⟨rfl, Nat.le_of_ble_eq_true rfl⟩ ⟨rfl, Nat.le_of_ble_eq_true rfl⟩ ⟨rfl, rfl⟩ ?_
  refine nx_dup (pc := 3) dL_law_3 rfl ?_
  refine nx_call (pc := 4) (l0 := []) (l2 := [.inl (6, [.ref 1, .ref 4]), .inl (2, [.ref 2, .ref 3, .int (iI 0), .int (iI 0), .int (iI (-1)), .int (iI 0), .int (iI 0), .int (iI 0), .int (iI 0), .int (iI 0), .int (iI 0)]), .inr (0, 600, fun _ => iI 0), .inr (0, 64, fun _ => iI 0), .inl (0, [.ref 5, .ref 16, .ref 18, .ref 23, .ref 26, .int (iI 0), .int (iI (-1)), .int (iI 0), .int (iI 0), .int (iI 0), .int (iI 0), .int (iI 0), .int (iI 0), .int (iI 0), .int (iI 0)]), .inl (1, [.ref 6, .ref 7, .ref 8, .ref 9, .ref 10, .ref 11, .ref 12, .ref 13, .ref 14, .ref 15, .int (iI 0), .int (iI 0), .int (iI 0), .int (iI 0), .int (iI 0), .int (iI 0), .int (iI 0), .int (iI 0)]), .inr (0, 1024, fun _ => iI 0), .inr (0, 1024, fun _ => iI 0), .inr (0, 1024, fun _ => iI 0), .inr (0, 1024, fun _ => iI 0), .inr (0, 1024, fun _ => iI 0), .inr (0, 1024, fun _ => iI 0), .inr (0, 8192, fun _ => iI 0), .inr (1, 1024, fun _ => iI 0), .inr (0, 32, fun _ => iI 0), .inr (0, 32, fun _ => iI 0), .inl (3, [.ref 17, .int (iI 0)]), .inr (0, 1001, fun _ => iI 0), .inl (4, [.ref 19, .ref 20, .ref 21, .ref 22, .int (iI 0), .int (iI 0), .int (iI 0)]), .inr (0, 64, fun _ => iI 0), .inr (0, 64, fun _ => iI 0), .inr (0, 64, fun _ => iI 0), .inr (0, 256, fun _ => iI 0), .inl (5, [.ref 24, .ref 25, .int (iI 0)]), .inr (0, 1024, fun _ => iI 0), .inr (0, 64, fun _ => iI 0), .inr (0, 32, fun _ => iI 0)]) (ca := 27) (sa := 18715) nC_X6 dL_law_4 (Or.inr (zm1 (i := 23) (by decide +kernel) rfl)) (zm1 (i := 24) (by decide +kernel) rfl) (zm1 (i := 25) (by decide +kernel) rfl) (zm1 (i := 1) (by decide +kernel) rfl) rfl ⟨by decide, by decide, by decide +kernel⟩ (fun _ => rfl) ⟨rfl, rfl⟩ ⟨by decide, by decide⟩ ⟨rfl, rfl⟩ ⟨rfl, Nat.le_of_ble_eq_true rfl⟩ ⟨rfl, Nat.le_of_ble_eq_true rfl⟩ rfl (by decide) ?_
  refine nx_astore_n (pc := 7) (l9 := fun adr => [(1, .ref (adr 0)), (0, .ref bb)]) dL_law_7 rfl (by decide) (fun _ => rfl) ?_
  refine nx_new (pc := 8) (ci := 7) (fs := [.int (iI 0), .int (iI 0), .int (iI 0), .int (iI 0), .int (iI 0), .int (iI 0), .int (iI 0), .int (iI 0), .int (iI 0), .null, .int (iI 0), .null, .null, .null, .null, .null, .null, .null, .null, .int (iI 0), .int (iI 0), .int (iI 0), .int (iI 0), .int (iI 0), .int (iI 0), .int (iI 0), .int (iI 0), .null, .null, .null, .null, .null, .int (iI 0), .int (iI 0), .int (iI 0), .int (iI 0), .int (iI 0), .null, .int (iI 0), .int (iI 0), .null, .int (iI 0), .int (iI 0), .int (iI 0), .int (iI 0), .int (iI 0), .int (iI 0), .int (iI 0), .int (iI 0), .long (lL 0), .null]) (c2 := 28) (s2 := 18766) (l2 := [.inl (6, [.ref 1, .ref 4]), .inl (2, [.ref 2, .ref 3, .int (iI 0), .int (iI 0), .int (iI (-1)), .int (iI 0), .int (iI 0), .int (iI 0), .int (iI 0), .int (iI 0), .int (iI 0)]), .inr (0, 600, fun _ => iI 0), .inr (0, 64, fun _ => iI 0), .inl (0, [.ref 5, .ref 16, .ref 18, .ref 23, .ref 26, .int (iI 0), .int (iI (-1)), .int (iI 0), .int (iI 0), .int (iI 0), .int (iI 0), .int (iI 0), .int (iI 0), .int (iI 0), .int (iI 0)]), .inl (1, [.ref 6, .ref 7, .ref 8, .ref 9, .ref 10, .ref 11, .ref 12, .ref 13, .ref 14, .ref 15, .int (iI 0), .int (iI 0), .int (iI 0), .int (iI 0), .int (iI 0), .int (iI 0), .int (iI 0), .int (iI 0)]), .inr (0, 1024, fun _ => iI 0), .inr (0, 1024, fun _ => iI 0), .inr (0, 1024, fun _ => iI 0), .inr (0, 1024, fun _ => iI 0), .inr (0, 1024, fun _ => iI 0), .inr (0, 1024, fun _ => iI 0), .inr (0, 8192, fun _ => iI 0), .inr (1, 1024, fun _ => iI 0), .inr (0, 32, fun _ => iI 0), .inr (0, 32, fun _ => iI 0), .inl (3, [.ref 17, .int (iI 0)]), .inr (0, 1001, fun _ => iI 0), .inl (4, [.ref 19, .ref 20, .ref 21, .ref 22, .int (iI 0), .int (iI 0), .int (iI 0)]), .inr (0, 64, fun _ => iI 0), .inr (0, 64, fun _ => iI 0), .inr (0, 64, fun _ => iI 0), .inr (0, 256, fun _ => iI 0), .inl (5, [.ref 24, .ref 25, .int (iI 0)]), .inr (0, 1024, fun _ => iI 0), .inr (0, 64, fun _ => iI 0), .inr (0, 32, fun _ => iI 0), .inl (7, [.int (iI 0), .int (iI 0), .int (iI 0), .int (iI 0), .int (iI 0), .int (iI 0), .int (iI 0), .int (iI 0), .int (iI 0), .null, .int (iI 0), .null, .null, .null, .null, .null, .null, .null, .null, .int (iI 0), .int (iI 0), .int (iI 0), .int (iI 0), .int (iI 0), .int (iI 0), .int (iI 0), .int (iI 0), .null, .null, .null, .null, .null, .int (iI 0), .int (iI 0), .int (iI 0), .int (iI 0), .int (iI 0), .null, .int (iI 0), .int (iI 0), .null, .int (iI 0), .int (iI 0), .int (iI 0), .int (iI 0), .int (iI 0), .int (iI 0), .int (iI 0), .int (iI 0), .long (lL 0), .null])]) (q9 := 27) dL_law_8 rfl zu_X7 tyX7_ok (zm5 (i := 118) (by decide +kernel) rfl) (zm5 (i := 119) (by decide +kernel) rfl) (zm1 (i := 8) (by decide +kernel) rfl) nf_X7 (fun _ => rfl) ⟨rfl, Nat.le_of_ble_eq_true rfl⟩ ⟨rfl, Nat.le_of_ble_eq_true rfl⟩ ⟨rfl, rfl⟩ ?_
  refine nx_dup (pc := 11) dL_law_11 rfl ?_
  refine nx_call (pc := 12) (l0 := [.inl (6, [.ref 1, .ref 4]), .inl (2, [.ref 2, .ref 3, .int (iI 0), .int (iI 0), .int (iI (-1)), .int (iI 0), .int (iI 0), .int (iI 0), .int (iI 0), .int (iI 0), .int (iI 0)]), .inr (0, 600, fun _ => iI 0), .inr (0, 64, fun _ => iI 0), .inl (0, [.ref 5, .ref 16, .ref 18, .ref 23, .ref 26, .int (iI 0), .int (iI (-1)), .int (iI 0), .int (iI 0), .int (iI 0), .int (iI 0), .int (iI 0), .int (iI 0), .int (iI 0), .int (iI 0)]), .inl (1, [.ref 6, .ref 7, .ref 8, .ref 9, .ref 10, .ref 11, .ref 12, .ref 13, .ref 14, .ref 15, .int (iI 0), .int (iI 0), .int (iI 0), .int (iI 0), .int (iI 0), .int (iI 0), .int (iI 0), .int (iI 0)]), .inr (0, 1024, fun _ => iI 0), .inr (0, 1024, fun _ => iI 0), .inr (0, 1024, fun _ => iI 0), .inr (0, 1024, fun _ => iI 0), .inr (0, 1024, fun _ => iI 0), .inr (0, 1024, fun _ => iI 0), .inr (0, 8192, fun _ => iI 0), .inr (1, 1024, fun _ => iI 0), .inr (0, 32, fun _ => iI 0), .inr (0, 32, fun _ => iI 0), .inl (3, [.ref 17, .int (iI 0)]), .inr (0, 1001, fun _ => iI 0), .inl (4, [.ref 19, .ref 20, .ref 21, .ref 22, .int (iI 0), .int (iI 0), .int (iI 0)]), .inr (0, 64, fun _ => iI 0), .inr (0, 64, fun _ => iI 0), .inr (0, 64, fun _ => iI 0), .inr (0, 256, fun _ => iI 0), .inl (5, [.ref 24, .ref 25, .int (iI 0)]), .inr (0, 1024, fun _ => iI 0), .inr (0, 64, fun _ => iI 0), .inr (0, 32, fun _ => iI 0)]) (l2 := [.inl (6, [.ref 1, .ref 4]), .inl (2, [.ref 2, .ref 3, .int (iI 0), .int (iI 0), .int (iI (-1)), .int (iI 0), .int (iI 0), .int (iI 0), .int (iI 0), .int (iI 0), .int (iI 0)]), .inr (0, 600, fun _ => iI 0), .inr (0, 64, fun _ => iI 0), .inl (0, [.ref 5, .ref 16, .ref 18, .ref 23, .ref 26, .int (iI 0), .int (iI (-1)), .int (iI 0), .int (iI 0), .int (iI 0), .int (iI 0), .int (iI 0), .int (iI 0), .int (iI 0), .int (iI 0)]), .inl (1, [.ref 6, .ref 7, .ref 8, .ref 9, .ref 10, .ref 11, .ref 12, .ref 13, .ref 14, .ref 15, .int (iI 0), .int (iI 0), .int (iI 0), .int (iI 0), .int (iI 0), .int (iI 0), .int (iI 0), .int (iI 0)]), .inr (0, 1024, fun _ => iI 0), .inr (0, 1024, fun _ => iI 0), .inr (0, 1024, fun _ => iI 0), .inr (0, 1024, fun _ => iI 0), .inr (0, 1024, fun _ => iI 0), .inr (0, 1024, fun _ => iI 0), .inr (0, 8192, fun _ => iI 0), .inr (1, 1024, fun _ => iI 0), .inr (0, 32, fun _ => iI 0), .inr (0, 32, fun _ => iI 0), .inl (3, [.ref 17, .int (iI 0)]), .inr (0, 1001, fun _ => iI 0), .inl (4, [.ref 19, .ref 20, .ref 21, .ref 22, .int (iI 0), .int (iI 0), .int (iI 0)]), .inr (0, 64, fun _ => iI 0), .inr (0, 64, fun _ => iI 0), .inr (0, 64, fun _ => iI 0), .inr (0, 256, fun _ => iI 0), .inl (5, [.ref 24, .ref 25, .int (iI 0)]), .inr (0, 1024, fun _ => iI 0), .inr (0, 64, fun _ => iI 0), .inr (0, 32, fun _ => iI 0), .inl (7, [.int (iI 0), .int (iI 0), .int (iI 0), .int (iI 0), .int (iI 0), .int (iI 0), .int (iI 0), .int (iI 0), .int (iI 0), .ref 28, .int (iI 0), .ref 29, .ref 30, .ref 31, .ref 32, .ref 33, .ref 34, .ref 35, .ref 36, .int (iI 0), .int (iI 0), .int (iI 0), .int (iI 0), .int (iI 0), .int (iI 0), .int (iI 0), .int (iI 0), .ref 37, .ref 38, .ref 39, .ref 40, .ref 41, .int (iI (-1)), .int (iI 0), .int (iI 0), .int (iI 0), .int (iI 0), .ref 42, .int (iI 0), .int (iI 0), .ref 43, .int (iI 0), .int (iI 0), .int (iI 0), .int (iI 0), .int (iI 0), .int (iI 0), .int (iI 0), .int (iI (-1)), .long (lL 0), .ref 44]), .inr (0, 64, fun _ => iI 0), .inr (0, 1024, fun _ => iI 0), .inr (0, 1024, fun _ => iI 0), .inr (0, 1024, fun _ => iI 0), .inr (0, 1024, fun _ => iI 0), .inr (0, 1024, fun _ => iI 0), .inr (0, 1024, fun _ => iI 0), .inr (0, 8192, fun _ => iI 0), .inr (0, 32, fun _ => iI 0), .inr (0, 64, fun _ => iI 0), .inr (0, 64, fun _ => iI 0), .inr (0, 64, fun _ => iI 0), .inr (0, 256, fun _ => iI 0), .inr (1, 4, fun _ => iI 0), .inr (0, 1001, fun _ => iI 0), .inr (0, 600, fun _ => iI 0), .inr (0, 64, fun _ => iI 0)]) (ca := 45) (sa := 35315) nC_X7 dL_law_12 (Or.inr (zm5 (i := 120) (by decide +kernel) rfl)) (zm5 (i := 121) (by decide +kernel) rfl) (zm5 (i := 122) (by decide +kernel) rfl) (zm1 (i := 8) (by decide +kernel) rfl) rfl ⟨by decide, by decide, by decide +kernel⟩ (fun _ => rfl) ⟨rfl, rfl⟩ ⟨by decide, by decide⟩ ⟨rfl, rfl⟩ ⟨rfl, Nat.le_of_ble_eq_true rfl⟩ ⟨rfl, Nat.le_of_ble_eq_true rfl⟩ rfl (by decide) ?_
  refine nx_astore_n (pc := 15) (l9 := fun adr => [(2, .ref (adr 27)), (1, .ref (adr 0)), (0, .ref bb)]) dL_law_15 rfl (by decide) (fun _ => rfl) ?_
  exact k
def nPx : List Nat := %%PX%%
def nAdr (h b fm : Nat) (f : Nat → Nat × Nat) : Nat → Nat := fun k => if k < 27 then h + nPx.getD k 0 else if 200 ≤ k ∧ k < 218 then h + (k - 173) else if k = 300 then h + 45 else if k = 301 then b else if k = 160 then fm else if k < 110 then (f (k - 100)).1 else (f (k - 110)).2
theorem zOk_hx0 : zOk hx0 := ⟨fun k _ => by rw [gs_x0]; split <;> omega, fun a i => by show -2147483648 ≤ (0 : Int) ∧ (0 : Int) < 2147483648; omega⟩
theorem zOk_hm0 : zOk hm0 := ⟨fun k _ => by rw [gs_m0]; split <;> omega, fun a i => by show -2147483648 ≤ (0 : Int) ∧ (0 : Int) < 2147483648; omega⟩
def nIx : List Nat := %%IX%%
def nWs (cA : Nat → ClassId) (h : Nat) : va_W := zW cA (fun k => h + k) 0 nL45 ++ [(h + 45, .inl (cA 2, 1, .inr (.inl fun _ => 0)))]
set_option maxRecDepth 100000 in
theorem nW_a (cA : Nat → ClassId) (h b fm : Nat) (f : Nat → Nat × Nat) : nIx.map (fun i => (nWs cA h)[i]?) = (lW cA (nAdr h b fm f) hx0 hm0 (fun _ => 0)).map some := rfl
set_option maxRecDepth 100000 in
theorem nW_b (cA : Nat → ClassId) (h b fm : Nat) (f : Nat → Nat × Nat) : nIx.filterMap (fun i => (nWs cA h)[i]?) = lW cA (nAdr h b fm f) hx0 hm0 (fun _ => 0) := rfl
section NEND
variable {p : Program} {l : Launch} {e : Env} {R : Room} {s : State} {m : MethodId} {args : Array Value} {below : List Frame} {meth : Method} {c : Code} {H : Heap} {locs : List Loc} {cells slots : Nat}
theorem nMono {Q Q2 : State → Prop} {g : JFrame} (h : ∀ t, Q t → Q2 t) (k : W p l e R s m args below meth c H locs cells slots Q g) : W p l e R s m args below meth c H locs cells slots Q2 g := by
  intro T hT X
  obtain ⟨t, a, b⟩ := k T hT X
  exact ⟨t, a, h t b⟩
theorem nTriv {Q : State → Prop} {g : JFrame} (h : ∀ t, Q t) : W p l e R s m args below meth c H locs cells slots Q g := fun _ _ _ => ⟨_, Steps.refl _, h _⟩
end NEND
def nEnd (bb : Nat) : zF := fun below args s A _ _ _ t => (∀ q : Nat, A q → s.heap.size ≤ q) ∧ args = #[Value.ref bb] → lw_Z below #[Value.ref bb] s t
theorem nEndX {bb L : Nat} {xs : Nat → Int32} {tab : List ExceptionTableEntry} (i : Int) (hx hm : zH) (o : Nat → Int64) (c9 s9 : Nat) (h1 : c9 ≤ room_1.cells) (h2 : s9 ≤ room_1.slots) : lX (lGL L xs) tab RL cL_law 7 (some .boolean) room_1 c9 s9 1789 (lLs i) [] hx hm o (nEnd bb) := by
  intro p l e s m args below meth c D cA adr A H locs lsa C ht hA hG hO1 hO2 hK hP hD hS hl
  by_cases pr : (∀ q : Nat, A q → s.heap.size ≤ q) ∧ args = #[Value.ref bb]
  · obtain ⟨p1, rfl⟩ := pr
    refine nMono (Q := lw_Z below #[Value.ref bb] s) (fun t h9 _ => h9) ?_
    refine lv_iconst (v := 1) C.1 C.2.1 dL_law_1789 rfl ?_
    refine va_forget (fun q hq => p1 _ (hS.2.2 q hq)) ?_
    refine W.widen (k := 1107) (n := 43730) h1 h2 ?_
    exact lw_ret C.1 C.2.1 C.2.2.1 C.2.2.2.2.2.2 dL_law_1790
  · exact nTriv (fun t h => absurd h pr)
def nG (bb L : Nat) (xs : Nat → Int32) : nGv := fun l_ s args _ _ A D cA => l_.stackTraces = false ∧ A = (fun q => s.heap.size ≤ q) ∧ va_K D vwCl (zT3 cA) s ∧ zCa s ∧ zNc s ∧ va_X bb L xs s s.heap ∧ bb < s.heap.size ∧ (∃ (f : Nat → Nat × Nat) (fm : Nat), ∀ adr : Nat → Nat, (∀ i, i < 6 → adr (100 + i) = (f i).1 ∧ adr (110 + i) = (f i).2) → adr 160 = fm → zS s A adr) ∧ args = #[Value.ref bb]
theorem nAdr_s (h b fm : Nat) (f : Nat → Nat × Nat) : ∀ i, i < 6 → nAdr h b fm f (100 + i) = (f i).1 ∧ nAdr h b fm f (110 + i) = (f i).2 := by
  intro i hi
  unfold nAdr
  refine ⟨?_, ?_⟩
  · rw [if_neg (by omega), if_neg (by omega), if_neg (by omega), if_neg (by omega), if_neg (by omega), if_pos (by omega), show 100 + i - 100 = i by omega]
  · rw [if_neg (by omega), if_neg (by omega), if_neg (by omega), if_neg (by omega), if_neg (by omega), if_neg (by omega), show 110 + i - 110 = i by omega]
set_option maxRecDepth 100000 in
theorem nTail {bb L : Nat} {xs : Nat → Int32} (hL : L ≤ 3072) : nX (nG bb L xs) 0 RL cL_law 7 (some .boolean) room_1 nL45 %%C4%% %%S4%% 16 (fun adr => [(2, .ref (adr 27)), (1, .ref (adr 0)), (0, .ref bb)]) [] (nEnd bb) := by
  intro p l_ e s m args below meth c D cA adr A H locs lsa C hn hN hA hB hK0 hP hD hS hz hb hl
  obtain ⟨g1, g2, g3, g4, g5, g6, g7, ⟨f, fm, g8⟩, g9⟩ := hn
  have ead : adr = fun k => s.heap.size + k := funext (fun k => by rw [hB k (Nat.zero_le _)]; rfl)
  subst ead
  have wd := C.2.2.2.2.2.1
  have ez : H.size = s.heap.size + 45 := hz
  refine lv_iconst (v := 1) C.1 C.2.1 dL_law_16 rfl ?_
  refine va_newaK (N := 1) C.1 C.2.1 (wd _ nAC2) rfl dL_law_17 rfl (by decide) (by decide) (by decide) (by decide) (by decide) ez (fun H1 cX e1 z1 o1 hAr hNm => ?_)
  have eC : cX = cA 2 := by
    have h9 : s.vm.findClass _ = some (cA 2) := (g3.2 2 (cA 2, .long) rfl).2
    exact Option.some.inj (hNm.symm.trans h9)
  rw [eC] at e1
  have hk9 : ∀ (j : Nat) (q : Nat × va_E), (zW cA (fun k => s.heap.size + k) 0 nL45)[j]? = some q → H1[q.1]? = H[q.1]? := fun j q hq => o1 q.1 (by rw [← ez]; exact (hP j q hq).lt)
  have hP1 : va_P D vwCl (nWs cA s.heap.size) H1 := by
    refine va_P.app (hP.kept hk9) (fun j q hq => ?_)
    have hj : j < 1 := (List.getElem?_eq_some_iff.mp hq).1
    rw [show j = 0 by omega] at hq
    cases hq
    exact e1
  have hD1 : va_D A (nWs cA s.heap.size) := hD.push hP ez.symm (hA _ (Nat.le_add_right _ _))
  have hP2 := hP1.sub nIx (nW_b cA s.heap.size bb fm f)
  have hD2 := hD1.sub nIx (by decide) (nW_a cA s.heap.size bb fm f)
  refine lv_astore_n (i := 3) C.1 C.2.1 dL_law_19 rfl hl (by decide) rfl (fun ls2 hl2 => ?_)
  refine lv_iconst (v := 0) C.1 C.2.1 dL_law_20 rfl ?_
  refine lv_istore (i := 4) C.1 C.2.1 dL_law_21 hl2 (by decide) rfl (fun ls3 hl3 => ?_)
  have hl4 : lv_has ls3 7 (zL (nAdr s.heap.size bb fm f) 0 (lLs 0)) := lv_sub hl3 [4, 3, 2, 1, 0] rfl
  have key := LOOP (tab := c.exceptionTable.toList) (xs := xs) (E := nEnd bb) (c0 := %%C5%%) (s0 := %%S5%%) hL ⟨by decide, by decide⟩ (fun i hx hm o c9 s9 => nEndX i hx hm o c9 s9) (L + 1) 0 hx0 hm0 (fun _ => 0) %%C5%% %%S5%% (by rw [Int.mul_zero]; exact REL_start) (by omega) (by omega) (by omega) (by omega) (by omega)
  have hnA : ¬ A bb := by rw [g2]; exact Nat.not_le.mpr g7
  exact key p l_ e s m args below meth c D cA (nAdr s.heap.size bb fm f) A H1 locs ls3 C rfl hA ⟨⟨g8 _ (nAdr_s _ _ _ _) rfl, g1, g4, g5⟩, g6, g7, hnA⟩ zOk_hx0 zOk_hm0 g3 hP2 hD2 ⟨Nat.le_trans hS.1 (by omega), fun q h1 h2 => (o1 q (by rw [← ez]; exact Nat.lt_of_lt_of_le h1 hS.1)).trans (hS.2.1 q h1 h2), hS.2.2⟩ hl4
/-- from the entry, for every script of at most 3072 ints, the law comes to its end with true -/
theorem whole_start {p : Program} {e : Env} {s : State} {m : MethodId} {below : List Frame} {meth : Method} {c : Code} (l : Launch) (hflags : l.flags = flags0) {b L : Nat} {xs : Nat → Int32} (hL : L ≤ 3072) (C0 : lw_At p s m meth c b L xs) : W p l e room_1 s m #[Value.ref b] below meth c s.heap [] 0 0 (lw_Z below #[Value.ref b] s) (entryFrame m ([Value.ref b] : List Value).toArray 7) := by
  obtain ⟨hx, hb, hr, hml, hown, hts, hX, hbl, hlk, hgv⟩ := C0
  have hs : ∀ c ∈ nFl, c.before #[Value.ref b] s = true := flat_of_before _ hgv
  obtain ⟨D, cA, hK⟩ := nK (fun w hw => hts w (nIn hw))
  obtain ⟨f, fm, hZ⟩ := nZS (A := fun q => s.heap.size ≤ q) hts hs (fun a h h2 => Nat.not_le.mpr h h2)
  have C : zCx p s m #[Value.ref b] meth c RL cL_law 7 (some .boolean) := ⟨hx, hb, hr, hml, hown, fun w hw => hts w (nIn hw), hlk⟩
  have hl := lv_entry ([.ref b]) (n := 7) (Nat.le_of_ble_eq_true rfl)
  have hf : l.stackTraces = false := by unfold Launch.stackTraces; rw [hflags]; decide +kernel
  rw [lg_entry_eq]
  have key := nStart (nTail (bb := b) (L := L) (xs := xs) hL) p l e s m #[Value.ref b] below meth c D cA (fun k => s.heap.size + k) (fun q => s.heap.size ≤ q) s.heap [] _ C ⟨hf, rfl, hK, nZC hts, nZN hs, hX, hbl, ⟨f, fm, hZ⟩, rfl⟩ (nZW hts) (fun q h => h) (fun k _ => rfl) (zT3_2 hK) (fun k q h => by cases h) ⟨fun i j x y h => (by cases h), fun k q h => (by cases h)⟩ va_S.rf rfl (Nat.le_refl 0) hl
  exact nMono (fun t h => h ⟨fun q h => h, rfl⟩) key

