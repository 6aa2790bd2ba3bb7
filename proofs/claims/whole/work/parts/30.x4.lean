/-! the class: transactions and the table of pages, contracts -/
theorem zx_ldcw {cs : zH → List aC} {G : zGv} {own : String} {cc : ByteArray} {nL : Nat} {ret : Option FieldType} {rm : Room} {pc : Nat} {ls : List (Option Value)} {st : List Value} {h : zH} {E : zF} {n : Int} {idx : Nat} (hd : decode cc pc = .ok (.ldc_w idx, 3)) (hw : Cond.constant own idx (iI n) ∈ zU)
    (k : zX cs G own cc nL ret rm (pc + 3) ls (.int (iI n) :: st) h E) : zX cs G own cc nL ret rm pc ls st h E := by
  intro p l e s m args below meth c D cA adr A H locs lsa C hA hG hO hK hP hD hS hl
  exact lv_ldcw C.1 C.2.1 C.2.2.2.2.1 (C.2.2.2.2.2.1 _ hw) hd (k p l e s m args below meth c D cA adr A H locs lsa C hA hG hO hK hP hD hS hl)
theorem zj_bst : Cond.static yJ6_bitCount_0f7a4 ∈ zU := zm4 (i := 196) (by decide +kernel) rfl
theorem zj_bin : Cond.initialized RJ6 ∈ zU := zm1 (i := 20) (by decide +kernel) rfl
theorem zj_bco : Cond.code yJ6_bitCount_0f7a4 cJ6_bitCount_0f7a4 1 (some .int) ∈ zU := zm4 (i := 197) (by decide +kernel) rfl
theorem zc_J6_bitCount : zSta RJ6 yJ6_bitCount_0f7a4 cJ6_bitCount_0f7a4 1 (some .int) := ⟨zj_bst, zj_bin, zj_bco, ⟨rfl, by decide +kernel, by decide +kernel⟩, by decide +kernel⟩
theorem zo_J6_265 : Cond.constant RJ6 265 (1431655765 : Int32) ∈ zU := zm4 (i := 198) (by decide +kernel) rfl
theorem zo_J6_266 : Cond.constant RJ6 266 (858993459 : Int32) ∈ zU := zm4 (i := 199) (by decide +kernel) rfl
theorem zo_J6_267 : Cond.constant RJ6 267 (252645135 : Int32) ∈ zU := zm4 (i := 200) (by decide +kernel) rfl
theorem zStb_good {own C : String} {idx : Nat} {y : MethodName} {b : ByteArray} {nL : Nat} {ret : Option FieldType} (hk : Cond.methodLink own idx y ∈ zU) (h : zSta C y b nL ret) : GoodIn zU (va_wsS own idx y (zTs y b nL ret)) := by
  intro w hw
  rcases List.mem_append.mp hw with hw | hw
  · simp only [List.mem_cons, List.not_mem_nil, or_false] at hw
    rcases hw with rfl | rfl | rfl
    · exact ⟨hk, zU_gd hk⟩
    · exact ⟨h.1, zU_gd h.1⟩
    · rw [h.2.2.2.1.1]
      exact ⟨h.2.1, zU_gd h.2.1⟩
  · exact zTs_good h.2.2.1 w hw
theorem zx_invSk {cs : zH → List aC} {G : zGv} {own C0 : String} {cc : ByteArray} {nL : Nat} {ret : Option FieldType} {rm : Room} {pc : Nat} {ls : List (Option Value)} {st st0 : List Value} {h : zH} {E : zF} {y : MethodName} {b : ByteArray} {nL2 idx n : Nat} {rm2 : Room} {as : List Value} {r2 : FieldType} {Q : Int → zH → Prop} (hd : decode cc pc = .ok (.invokestatic idx, 3)) (hlk : Cond.methodLink own idx y ∈ zU) (hcal : zSta C0 y b nL2 (some r2)) (hlen : as.length = n ∧ (parseMethodDescriptor y.desc).map (fun d => d.parameters.length) = some n) (hrc : rm2.cells = 0 ∧ rm2.slots = 0) (hR : rm2.frames + 1 ≤ rm.frames ∧ 8 + (nL2 + 11) + rm2.locals ≤ rm.locals) (hM : zMi cs y b nL2 r2 rm2 as h Q) (hst : st0 = as.reverse ++ st) (hcat : (st.map fun v => v.category).sum ≤ 8)
    (k : ∀ (z : Int) (h2 : zH), -2147483648 ≤ z → z < 2147483648 → Q z h2 → zX cs G own cc nL ret rm (pc + 3) ls (.int (iI z) :: st) h2 E) : zX cs G own cc nL ret rm pc ls st0 h E := by
  intro p l e s m args below meth c D cA adr A H locs lsa C hA hG hO hK hP hD hS hl
  subst hst
  have hF := zFree hD hS hA
  refine va_calli (va_runS (As := as.map (cvv adr)) (rest := st.map (cvv adr)) (n := n) ⟨C.1, C.2.1, C.2.2.2.1, C.2.2.2.2.1, C.2.2.2.2.2.1⟩ (hM l D cA adr H.size) (va_cwS n C.2.2.2.2.2.1 (zStb_good hlk hcal) rfl hrc.1 hrc.2 ⟨hcal.2.2.2.1.2.1, hcal.2.2.2.1.2.2, hlen.2⟩ hR) ⟨zBlind, fun U hU hW => ⟨rfl, by rw [hU], hO, by rw [hU]; exact hP, va_K.moved hW.alike hK, hD.weaken (fun _ _ _ _ => trivial)⟩⟩ rfl (by rw [List.length_map]; exact hlen.1) hl.1 (by rw [List.map_append, List.map_reverse]) (lv_room (by rw [zCats]; exact hcat)) hd ⟨Nat.zero_le _, Nat.zero_le _⟩) hS (fun q9 _ h9 => hF q9 h9) hF (fun r u t H1 locs1 ht hvm hw hB hz1 hk1 hS1 => ?_)
  obtain ⟨z, rfl, rz, hw⟩ := hw
  obtain ⟨hO1, hP1, hK1, hD1⟩ := hB
  exact k z u rz.1 rz.2 hw p l e s m args below meth c D cA adr A H1 locs1 lsa C hA hG hO1 hK (by rw [← ht]; exact hP1) (hD1.weaken (fun k9 q9 _ h9 => hF q9.1 h9)) hS1 hl
theorem dJ6_bitCount_0f7a4_0 : decode cJ6_bitCount_0f7a4 0 = .ok (.iload_n 0, 1) := by decide +kernel
theorem dJ6_bitCount_0f7a4_1 : decode cJ6_bitCount_0f7a4 1 = .ok (.iload_n 0, 1) := by decide +kernel
theorem dJ6_bitCount_0f7a4_2 : decode cJ6_bitCount_0f7a4 2 = .ok (.iconst 1, 1) := by decide +kernel
theorem dJ6_bitCount_0f7a4_3 : decode cJ6_bitCount_0f7a4 3 = .ok (.iushr, 1) := by decide +kernel
theorem dJ6_bitCount_0f7a4_4 : decode cJ6_bitCount_0f7a4 4 = .ok (.ldc_w 265, 3) := by decide +kernel
theorem dJ6_bitCount_0f7a4_7 : decode cJ6_bitCount_0f7a4 7 = .ok (.iand, 1) := by decide +kernel
theorem dJ6_bitCount_0f7a4_8 : decode cJ6_bitCount_0f7a4 8 = .ok (.isub, 1) := by decide +kernel
theorem dJ6_bitCount_0f7a4_9 : decode cJ6_bitCount_0f7a4 9 = .ok (.istore_n 0, 1) := by decide +kernel
theorem dJ6_bitCount_0f7a4_10 : decode cJ6_bitCount_0f7a4 10 = .ok (.iload_n 0, 1) := by decide +kernel
theorem dJ6_bitCount_0f7a4_11 : decode cJ6_bitCount_0f7a4 11 = .ok (.ldc_w 266, 3) := by decide +kernel
theorem dJ6_bitCount_0f7a4_14 : decode cJ6_bitCount_0f7a4 14 = .ok (.iand, 1) := by decide +kernel
theorem dJ6_bitCount_0f7a4_15 : decode cJ6_bitCount_0f7a4 15 = .ok (.iload_n 0, 1) := by decide +kernel
theorem dJ6_bitCount_0f7a4_16 : decode cJ6_bitCount_0f7a4 16 = .ok (.iconst 2, 1) := by decide +kernel
theorem dJ6_bitCount_0f7a4_17 : decode cJ6_bitCount_0f7a4 17 = .ok (.iushr, 1) := by decide +kernel
theorem dJ6_bitCount_0f7a4_18 : decode cJ6_bitCount_0f7a4 18 = .ok (.ldc_w 266, 3) := by decide +kernel
theorem dJ6_bitCount_0f7a4_21 : decode cJ6_bitCount_0f7a4 21 = .ok (.iand, 1) := by decide +kernel
theorem dJ6_bitCount_0f7a4_22 : decode cJ6_bitCount_0f7a4 22 = .ok (.iadd, 1) := by decide +kernel
theorem dJ6_bitCount_0f7a4_23 : decode cJ6_bitCount_0f7a4 23 = .ok (.istore_n 0, 1) := by decide +kernel
theorem dJ6_bitCount_0f7a4_24 : decode cJ6_bitCount_0f7a4 24 = .ok (.iload_n 0, 1) := by decide +kernel
theorem dJ6_bitCount_0f7a4_25 : decode cJ6_bitCount_0f7a4 25 = .ok (.iload_n 0, 1) := by decide +kernel
theorem dJ6_bitCount_0f7a4_26 : decode cJ6_bitCount_0f7a4 26 = .ok (.iconst 4, 1) := by decide +kernel
theorem dJ6_bitCount_0f7a4_27 : decode cJ6_bitCount_0f7a4 27 = .ok (.iushr, 1) := by decide +kernel
theorem dJ6_bitCount_0f7a4_28 : decode cJ6_bitCount_0f7a4 28 = .ok (.iadd, 1) := by decide +kernel
theorem dJ6_bitCount_0f7a4_29 : decode cJ6_bitCount_0f7a4 29 = .ok (.ldc_w 267, 3) := by decide +kernel
theorem dJ6_bitCount_0f7a4_32 : decode cJ6_bitCount_0f7a4 32 = .ok (.iand, 1) := by decide +kernel
theorem dJ6_bitCount_0f7a4_33 : decode cJ6_bitCount_0f7a4 33 = .ok (.istore_n 0, 1) := by decide +kernel
theorem dJ6_bitCount_0f7a4_34 : decode cJ6_bitCount_0f7a4 34 = .ok (.iload_n 0, 1) := by decide +kernel
theorem dJ6_bitCount_0f7a4_35 : decode cJ6_bitCount_0f7a4 35 = .ok (.iload_n 0, 1) := by decide +kernel
theorem dJ6_bitCount_0f7a4_36 : decode cJ6_bitCount_0f7a4 36 = .ok (.bipush 8, 2) := by decide +kernel
theorem dJ6_bitCount_0f7a4_38 : decode cJ6_bitCount_0f7a4 38 = .ok (.iushr, 1) := by decide +kernel
theorem dJ6_bitCount_0f7a4_39 : decode cJ6_bitCount_0f7a4 39 = .ok (.iadd, 1) := by decide +kernel
theorem dJ6_bitCount_0f7a4_40 : decode cJ6_bitCount_0f7a4 40 = .ok (.istore_n 0, 1) := by decide +kernel
theorem dJ6_bitCount_0f7a4_41 : decode cJ6_bitCount_0f7a4 41 = .ok (.iload_n 0, 1) := by decide +kernel
theorem dJ6_bitCount_0f7a4_42 : decode cJ6_bitCount_0f7a4 42 = .ok (.iload_n 0, 1) := by decide +kernel
theorem dJ6_bitCount_0f7a4_43 : decode cJ6_bitCount_0f7a4 43 = .ok (.bipush 16, 2) := by decide +kernel
theorem dJ6_bitCount_0f7a4_45 : decode cJ6_bitCount_0f7a4 45 = .ok (.iushr, 1) := by decide +kernel
theorem dJ6_bitCount_0f7a4_46 : decode cJ6_bitCount_0f7a4 46 = .ok (.iadd, 1) := by decide +kernel
theorem dJ6_bitCount_0f7a4_47 : decode cJ6_bitCount_0f7a4 47 = .ok (.istore_n 0, 1) := by decide +kernel
theorem dJ6_bitCount_0f7a4_48 : decode cJ6_bitCount_0f7a4 48 = .ok (.iload_n 0, 1) := by decide +kernel
theorem dJ6_bitCount_0f7a4_49 : decode cJ6_bitCount_0f7a4 49 = .ok (.bipush 63, 2) := by decide +kernel
theorem dJ6_bitCount_0f7a4_51 : decode cJ6_bitCount_0f7a4 51 = .ok (.iand, 1) := by decide +kernel
theorem dJ6_bitCount_0f7a4_52 : decode cJ6_bitCount_0f7a4 52 = .ok (.ireturn, 1) := by decide +kernel
def XL (h : zH) : Prop := 0 ≤ gs h 81 ∧ gs h 81 ≤ 1000
def XT (h : zH) : Prop := 0 ≤ gs h 104 ∧ gs h 104 ≤ 64
def XR (h : zH) : Prop := 0 ≤ gs h 106 ∧ gs h 106 < 16
def xTx (h : zH) (t : Int) : Prop := 1 ≤ t ∧ t ≤ gs h 81
def xHas (h : zH) (p : Int) : Prop := 0 ≤ p ∧ p < gs h 104
noncomputable def xState (h : zH) (t : Int) : Int := ifp (xTx h t) (ga h 20 t) 0
noncomputable def xOpen (h : zH) : Int := cnt (fun t => ga h 20 t = 1) 1 (gs h 81).toNat
noncomputable def x_open (h : zH) : zH := ifp (gs h 81 < 1000) (pa (ps h 81 (gs h 81 + 1)) 20 (gs h 81 + 1) 1) h
noncomputable def x_close (h : zH) (t s : Int) : zH := ifp (xTx h t) (pa h 20 t s) h
def x_lost (h : zH) (n : Int) : zH := (h.1, fun c j => if c = 20 ∧ 1 ≤ j ∧ j < n ∧ h.2 20 j = 1 then 4 else h.2 c j)
theorem ga_xlost (h : zH) (n : Int) (c : Nat) (j : Int) : ga (x_lost h n) c j = if c = 20 ∧ 1 ≤ j ∧ j < n ∧ ga h 20 j = 1 then 4 else ga h c j := rfl
theorem gs_xlost (h : zH) (n : Int) (k : Nat) : gs (x_lost h n) k = gs h k := rfl
def x_forget (h : zH) : zH := ps (prr (prr (prr h 21 0 64 0) 22 0 64 0) 23 0 64 0) 106 0
def x_anewT (h : zH) (n : Int) : zH := x_forget (ps (ps h 104 n) 105 ((n + 7) / 8))
noncomputable def xSeen (h : zH) (t p : Int) : Int := ifp (xHas h p) (ifp (t ≠ 0 ∧ ga h 23 p = t) (ga h 22 p) (ga h 21 p)) 0
noncomputable def x_setC (h : zH) (p v : Int) : zH := ifp (xHas h p) (pa h 21 p v) h
noncomputable def xWrit (h : zH) : Int := cnt (fun p => ga h 21 p ≠ 0) 0 (gs h 104).toNat
noncomputable def xOwner (h : zH) (p : Int) : Int := ifp (xHas h p) (ga h 23 p) 0
noncomputable def x_pis (h : zH) (t p v : Int) : zH := ifp (xHas h p) (pa (pa h 23 p t) 22 p v) h
noncomputable def xLocks (h : zH) (t : Int) : Int := cnt (fun p => ga h 23 p = t) 0 (gs h 104).toNat
def x_rel (h : zH) (t n : Int) : zH := (h.1, fun c j => if (c = 22 ∨ c = 23) ∧ 0 ≤ j ∧ j < n ∧ h.2 23 j = t then 0 else h.2 c j)
theorem ga_xrel (h : zH) (t n : Int) (c : Nat) (j : Int) : ga (x_rel h t n) c j = if (c = 22 ∨ c = 23) ∧ 0 ≤ j ∧ j < n ∧ ga h 23 j = t then 0 else ga h c j := rfl
theorem gs_xrel (h : zH) (t n : Int) (k : Nat) : gs (x_rel h t n) k = gs h k := rfl
def x_shd (h : zH) (t n : Int) : zH := (h.1, fun c j => if c = 21 ∧ 0 ≤ j ∧ j < n ∧ h.2 23 j = t then h.2 22 j else h.2 c j)
theorem ga_xshd (h : zH) (t n : Int) (c : Nat) (j : Int) : ga (x_shd h t n) c j = if c = 21 ∧ 0 ≤ j ∧ j < n ∧ ga h 23 j = t then ga h 22 j else ga h c j := rfl
theorem gs_xshd (h : zH) (t n : Int) (k : Nat) : gs (x_shd h t n) k = gs h k := rfl
def x_cms (h : zH) (t : Int) : zH := x_rel (x_shd h t (gs h 104)) t (gs h 104)
def xBit (c r : Int) : Prop := c / 2 ^ r.toNat % 2 = 1
def xRd (h : zH) (r : Int) : Prop := (0 ≤ r ∧ r < 4) ∧ xBit (gs h 106) r
def x_rdv (h : zH) (r n : Int) : zH := (h.1, fun c j => if c = 24 ∧ r * 64 ≤ j ∧ j < r * 64 + n then h.2 21 (j - r * 64) else h.2 c j)
theorem ga_xrdv (h : zH) (r n : Int) (c : Nat) (j : Int) : ga (x_rdv h r n) c j = if c = 24 ∧ r * 64 ≤ j ∧ j < r * 64 + n then ga h 21 (j - r * 64) else ga h c j := rfl
theorem gs_xrdv (h : zH) (r n : Int) (k : Nat) : gs (x_rdv h r n) k = gs h k := rfl
noncomputable def xNewRd (h : zH) : Int := ff (fun r => ¬ xBit (gs h 106) r) 0 4
noncomputable def x_addR (h : zH) : zH := ifp (xNewRd h = -1) h (x_rdv (ps h 106 (gs h 106 + 2 ^ (xNewRd h).toNat)) (xNewRd h) 64)
noncomputable def x_remR (h : zH) (r : Int) : zH := ifp (xRd h r) (ps h 106 (gs h 106 - 2 ^ r.toNat)) h
def xPop (c : Int) : Int := c % 2 + c / 2 % 2 + c / 4 % 2 + c / 8 % 2
noncomputable def xKept (h : zH) (r p : Int) : Int := ifp (xRd h r ∧ xHas h p) (ga h 24 (r * 64 + p)) 0
def xKeeps (h : zH) (p v : Int) : Prop := xHas h p ∧ (ga h 21 p = v ∨ ga h 22 p = v ∨ ∃ r : Int, 0 ≤ r ∧ r < 4 ∧ xBit (gs h 106) r ∧ ga h 24 (r * 64 + p) = v)
/-! bits -/
theorem bt_shr : ∀ c : Fin 16, ∀ i : Fin 4, ((iI (c.val : Int)).toUInt32 >>> ((iI (i.val : Int)).toUInt32 &&& Int32.toUInt32 31)).toInt32 = iI ((c.val : Int) / 2 ^ i.val) := by decide +kernel
theorem bt_and : ∀ c : Fin 16, iI (c.val : Int) &&& iI 1 = iI ((c.val : Int) % 2) := by decide +kernel
theorem bt_or : ∀ i : Fin 4, ∀ c : Fin 16, ¬ ((c.val : Int) / 2 ^ i.val % 2 = 1) → iI (c.val : Int) ||| (iI 1 <<< (iI (i.val : Int) &&& 31)) = iI ((c.val : Int) + 2 ^ i.val) := by decide +kernel
theorem bt_clr : ∀ i : Fin 4, ∀ c : Fin 16, (c.val : Int) / 2 ^ i.val % 2 = 1 → iI (c.val : Int) &&& ((iI 1 <<< (iI (i.val : Int) &&& 31)) ^^^ iI (-1)) = iI ((c.val : Int) - 2 ^ i.val) := by decide +kernel
theorem bt_c {c : Int} (h3 : 0 ≤ c) (h4 : c < 16) : ∃ k : Fin 16, (k.val : Int) = c := ⟨⟨c.toNat, by omega⟩, by show ((c.toNat : Nat) : Int) = c; omega⟩
theorem bt_i {c : Int} (h3 : 0 ≤ c) (h4 : c < 4) : ∃ k : Fin 4, (k.val : Int) = c ∧ c.toNat = k.val := ⟨⟨c.toNat, by omega⟩, by show ((c.toNat : Nat) : Int) = c; omega, rfl⟩
theorem bt_shr2 {i c : Int} (h1 : 0 ≤ i) (h2 : i < 4) (h3 : 0 ≤ c) (h4 : c < 16) : ((iI c).toUInt32 >>> ((iI i).toUInt32 &&& Int32.toUInt32 31)).toInt32 = iI (c / 2 ^ i.toNat) := by
  obtain ⟨k, rfl⟩ := bt_c h3 h4
  obtain ⟨j, rfl, e⟩ := bt_i h1 h2
  rw [e]
  exact bt_shr k j
theorem bt_dr : ∀ c : Fin 16, ∀ i : Fin 4, 0 ≤ (c.val : Int) / 2 ^ i.val ∧ (c.val : Int) / 2 ^ i.val < 16 := by decide +kernel
theorem bt_dr2 {i c : Int} (h1 : 0 ≤ i) (h2 : i < 4) (h3 : 0 ≤ c) (h4 : c < 16) : 0 ≤ c / 2 ^ i.toNat ∧ c / 2 ^ i.toNat < 16 := by
  obtain ⟨k, rfl⟩ := bt_c h3 h4
  obtain ⟨j, rfl, e⟩ := bt_i h1 h2
  rw [e]
  exact bt_dr k j
theorem bt_and2 {c : Int} (h3 : 0 ≤ c) (h4 : c < 16) : iI c &&& iI 1 = iI (c % 2) := by
  obtain ⟨k, rfl⟩ := bt_c h3 h4
  exact bt_and k
theorem bt_or2 {i c : Int} (h1 : 0 ≤ i) (h2 : i < 4) (h3 : 0 ≤ c) (h4 : c < 16) (h5 : ¬ xBit c i) : iI c ||| (iI 1 <<< (iI i &&& 31)) = iI (c + 2 ^ i.toNat) := by
  unfold xBit at h5
  obtain ⟨k, rfl⟩ := bt_c h3 h4
  obtain ⟨j, rfl, e⟩ := bt_i h1 h2
  rw [e] at h5 ⊢
  exact bt_or j k h5
theorem bt_clr2 {i c : Int} (h1 : 0 ≤ i) (h2 : i < 4) (h3 : 0 ≤ c) (h4 : c < 16) (h5 : xBit c i) : iI c &&& ((iI 1 <<< (iI i &&& 31)) ^^^ iI (-1)) = iI (c - 2 ^ i.toNat) := by
  unfold xBit at h5
  obtain ⟨k, rfl⟩ := bt_c h3 h4
  obtain ⟨j, rfl, e⟩ := bt_i h1 h2
  rw [e] at h5 ⊢
  exact bt_clr j k h5
theorem bt_orr : ∀ i : Fin 4, ∀ c : Fin 16, ¬ ((c.val : Int) / 2 ^ i.val % 2 = 1) → 0 ≤ (c.val : Int) + 2 ^ i.val ∧ (c.val : Int) + 2 ^ i.val < 16 := by decide +kernel
theorem bt_clrr : ∀ i : Fin 4, ∀ c : Fin 16, (c.val : Int) / 2 ^ i.val % 2 = 1 → 0 ≤ (c.val : Int) - 2 ^ i.val ∧ (c.val : Int) - 2 ^ i.val < 16 := by decide +kernel
theorem bt_orr2 {i c : Int} (h1 : 0 ≤ i) (h2 : i < 4) (h3 : 0 ≤ c) (h4 : c < 16) (h5 : ¬ xBit c i) : 0 ≤ c + 2 ^ i.toNat ∧ c + 2 ^ i.toNat < 16 := by
  unfold xBit at h5
  obtain ⟨k, rfl⟩ := bt_c h3 h4
  obtain ⟨j, rfl, e⟩ := bt_i h1 h2
  rw [e] at h5 ⊢
  exact bt_orr j k h5
theorem bt_clrr2 {i c : Int} (h1 : 0 ≤ i) (h2 : i < 4) (h3 : 0 ≤ c) (h4 : c < 16) (h5 : xBit c i) : 0 ≤ c - 2 ^ i.toNat ∧ c - 2 ^ i.toNat < 16 := by
  unfold xBit at h5
  obtain ⟨k, rfl⟩ := bt_c h3 h4
  obtain ⟨j, rfl, e⟩ := bt_i h1 h2
  rw [e] at h5 ⊢
  exact bt_clrr j k h5
abbrev rJ6_bitCount : Room := { frames := 0, cells := 0, slots := 0, locals := 0 }
set_option maxRecDepth 100000 in
theorem W_J6_bitCount {h : zH} (c : Int) (Q : Int → zH → Prop) (hc : 0 ≤ c ∧ c < 16) (hQ : Q (xPop c) h) : zX cX zNo RJ6 cJ6_bitCount_0f7a4 1 (some .int) rJ6_bitCount 0 [some (.int (iI c))] [] h (zEi cX Q) := by
  refine zx_iload_n (pc := 0) dJ6_bitCount_0f7a4_0 rfl rfl ?_
  refine zx_iload_n (pc := 1) dJ6_bitCount_0f7a4_1 rfl rfl ?_
  refine zx_iconst (pc := 2) dJ6_bitCount_0f7a4_2 ?_
  refine zx_iushr (pc := 3) dJ6_bitCount_0f7a4_3 (iI_asI _).symm ?_
  refine zx_ldcw (pc := 4) (n := 1431655765) dJ6_bitCount_0f7a4_4 (by rw [show iI 1431655765 = (1431655765 : Int32) by decide +kernel]; exact zo_J6_265) ?_
  refine zx_iand (pc := 7) dJ6_bitCount_0f7a4_7 (iI_asI _).symm ?_
  refine zx_isub (pc := 8) dJ6_bitCount_0f7a4_8 ?_
  refine zx_istore_n (pc := 9) dJ6_bitCount_0f7a4_9 rfl (by decide) rfl ?_
  refine zx_iload_n (pc := 10) dJ6_bitCount_0f7a4_10 rfl rfl ?_
  refine zx_ldcw (pc := 11) (n := 858993459) dJ6_bitCount_0f7a4_11 (by rw [show iI 858993459 = (858993459 : Int32) by decide +kernel]; exact zo_J6_266) ?_
  refine zx_iand (pc := 14) dJ6_bitCount_0f7a4_14 (iI_asI _).symm ?_
  refine zx_iload_n (pc := 15) dJ6_bitCount_0f7a4_15 rfl rfl ?_
  refine zx_iconst (pc := 16) dJ6_bitCount_0f7a4_16 ?_
  refine zx_iushr (pc := 17) dJ6_bitCount_0f7a4_17 (iI_asI _).symm ?_
  refine zx_ldcw (pc := 18) (n := 858993459) dJ6_bitCount_0f7a4_18 (by rw [show iI 858993459 = (858993459 : Int32) by decide +kernel]; exact zo_J6_266) ?_
  refine zx_iand (pc := 21) dJ6_bitCount_0f7a4_21 (iI_asI _).symm ?_
  refine zx_iadd (pc := 22) dJ6_bitCount_0f7a4_22 ?_
  refine zx_istore_n (pc := 23) dJ6_bitCount_0f7a4_23 rfl (by decide) rfl ?_
  refine zx_iload_n (pc := 24) dJ6_bitCount_0f7a4_24 rfl rfl ?_
  refine zx_iload_n (pc := 25) dJ6_bitCount_0f7a4_25 rfl rfl ?_
  refine zx_iconst (pc := 26) dJ6_bitCount_0f7a4_26 ?_
  refine zx_iushr (pc := 27) dJ6_bitCount_0f7a4_27 (iI_asI _).symm ?_
  refine zx_iadd (pc := 28) dJ6_bitCount_0f7a4_28 ?_
  refine zx_ldcw (pc := 29) (n := 252645135) dJ6_bitCount_0f7a4_29 (by rw [show iI 252645135 = (252645135 : Int32) by decide +kernel]; exact zo_J6_267) ?_
  refine zx_iand (pc := 32) dJ6_bitCount_0f7a4_32 (iI_asI _).symm ?_
  refine zx_istore_n (pc := 33) dJ6_bitCount_0f7a4_33 rfl (by decide) rfl ?_
  refine zx_iload_n (pc := 34) dJ6_bitCount_0f7a4_34 rfl rfl ?_
  refine zx_iload_n (pc := 35) dJ6_bitCount_0f7a4_35 rfl rfl ?_
  refine zx_bipush (pc := 36) dJ6_bitCount_0f7a4_36 (by decide +kernel) ?_
  refine zx_iushr (pc := 38) dJ6_bitCount_0f7a4_38 (iI_asI _).symm ?_
  refine zx_iadd (pc := 39) dJ6_bitCount_0f7a4_39 ?_
  refine zx_istore_n (pc := 40) dJ6_bitCount_0f7a4_40 rfl (by decide) rfl ?_
  refine zx_iload_n (pc := 41) dJ6_bitCount_0f7a4_41 rfl rfl ?_
  refine zx_iload_n (pc := 42) dJ6_bitCount_0f7a4_42 rfl rfl ?_
  refine zx_bipush (pc := 43) dJ6_bitCount_0f7a4_43 (by decide +kernel) ?_
  refine zx_iushr (pc := 45) dJ6_bitCount_0f7a4_45 (iI_asI _).symm ?_
  refine zx_iadd (pc := 46) dJ6_bitCount_0f7a4_46 ?_
  refine zx_istore_n (pc := 47) dJ6_bitCount_0f7a4_47 rfl (by decide) rfl ?_
  refine zx_iload_n (pc := 48) dJ6_bitCount_0f7a4_48 rfl rfl ?_
  refine zx_bipush (pc := 49) dJ6_bitCount_0f7a4_49 (by decide +kernel) ?_
  refine zx_iand (pc := 51) dJ6_bitCount_0f7a4_51 (iI_asI _).symm ?_
  refine zx_iret (pc := 52) dJ6_bitCount_0f7a4_52 (fun _ => zrng _) ?_
  refine cast (congrArg (fun z => Q z h) ?_) hQ
  obtain ⟨k, rfl⟩ := bt_c hc.1 hc.2
  clear hQ hc
  revert k
  unfold xPop
  decide +kernel
theorem K_J6_bitCount {h : zH} (c : Int) (hc : 0 ≤ c ∧ c < 16) : zMi cX yJ6_bitCount_0f7a4 cJ6_bitCount_0f7a4 1 .int rJ6_bitCount [.int (iI c)] h (fun r h2 => r = xPop c ∧ h2 = h) := zMi_of [some (.int (iI c))] zc_J6_bitCount.2.2.2.2 (fun _ => Nat.le_of_ble_eq_true rfl) (fun _ => rfl) (W_J6_bitCount c _ hc ⟨rfl, rfl⟩)
/-! transactions -/
set_option maxRecDepth 100000 in
theorem C_X3_knows {h : zH} {a1 : Int} (r1 : -2147483648 ≤ a1 ∧ a1 < 2147483648) : kX3_knows a1 h (fun r h2 => r = b2i (xTx h a1) ∧ h2 = h) := by
  apply eX3_knows
  refine zx_iload_n (pc := 0) dX3_knows_0 rfl rfl ?_
  refine zx_iconst (pc := 1) dX3_knows_1 ?_
  refine zx_icmp_lt (pc := 2) (tgt := 17) dX3_knows_2 (by decide) (fun o => by first | exact o.1 _ (by decide) | exact o.2 _ _ | omega) (fun o => by first | exact o.1 _ (by decide) | exact o.2 _ _ | omega) (fun c2 => ?_) (fun c2 => ?_)
  · skip
    refine zx_iconst (pc := 17) dX3_knows_17 ?_
    refine zx_zret (pc := 18) dX3_knows_18 (by omega) ?_
    refine ⟨?_, rfl⟩
    first | exact (b2i_t (by unfold xTx; omega)).symm | exact (b2i_f (by unfold xTx; omega)).symm
  · skip
    refine zx_iload_n (pc := 5) dX3_knows_5 rfl rfl ?_
    refine zx_aload_n (pc := 6) dX3_knows_6 rfl rfl ?_
    refine zg_X3_15 (pc := 7) dX3_knows_7 ?_
    refine zx_icmp_gt (pc := 10) (tgt := 17) dX3_knows_10 (by decide) (fun o => by first | exact o.1 _ (by decide) | exact o.2 _ _ | omega) (fun o => by first | exact o.1 _ (by decide) | exact o.2 _ _ | omega) (fun c10 => ?_) (fun c10 => ?_)
    · skip
      refine zx_iconst (pc := 17) dX3_knows_17 ?_
      refine zx_zret (pc := 18) dX3_knows_18 (by omega) ?_
      refine ⟨?_, rfl⟩
      first | exact (b2i_t (by unfold xTx; omega)).symm | exact (b2i_f (by unfold xTx; omega)).symm
    · skip
      refine zx_iconst (pc := 13) dX3_knows_13 ?_
      refine zx_goto (pc := 14) (tgt := 18) dX3_knows_14 (by decide) ?_
      refine zx_zret (pc := 18) dX3_knows_18 (by omega) ?_
      refine ⟨?_, rfl⟩
      first | exact (b2i_t (by unfold xTx; omega)).symm | exact (b2i_f (by unfold xTx; omega)).symm
set_option maxRecDepth 100000 in
theorem C_X3_stateOf {h : zH} (hl : XL h) {a1 : Int} (r1 : -2147483648 ≤ a1 ∧ a1 < 2147483648) : kX3_stateOf a1 h (fun r h2 => r = xState h a1 ∧ h2 = h) := by
  obtain ⟨l1, l2⟩ := hl
  apply eX3_stateOf
  unfold xState
  refine zx_aload_n (pc := 0) dX3_stateOf_0 rfl rfl ?_
  refine zx_iload_n (pc := 1) dX3_stateOf_1 rfl rfl ?_
  refine zi_X3_19 (pc := 2) dX3_stateOf_2 (C_X3_knows r1) (by decide) (Nat.le_of_ble_eq_true rfl) (fun z2 h2 u2 v2 q2 => ?_)
  obtain ⟨rfl, e2⟩ := q2
  rw [e2]
  clear e2 h2
  refine zx_if_eq (pc := 5) (tgt := 17) dX3_stateOf_5 (by decide) (fun o => by first | exact o.1 _ (by decide) | exact o.2 _ _ | omega) (fun c5 => ?_) (fun c5 => ?_)
  · skip
    try replace c5 := b2i_0.mp c5
    rw [ifp_f c5]
    refine zx_iconst (pc := 17) dX3_stateOf_17 ?_
    refine zx_iret (pc := 18) dX3_stateOf_18 (fun o => by first | exact o.1 _ (by decide) | exact o.2 _ _ | omega) ?_
    exact ⟨rfl, rfl⟩
  · skip
    try replace c5 := b2i_n0.mp c5
    rw [ifp_t c5]
    obtain ⟨k1, k2⟩ := c5
    refine zx_aload_n (pc := 8) dX3_stateOf_8 rfl rfl ?_
    refine zg_X3_9 (pc := 9) dX3_stateOf_9 ?_
    refine zx_iload_n (pc := 12) dX3_stateOf_12 rfl rfl ?_
    refine zx_iaload (pc := 13) aX3_states dX3_stateOf_13 (by omega) (by omega) (by omega) ?_
    refine zx_goto (pc := 14) (tgt := 18) dX3_stateOf_14 (by decide) ?_
    refine zx_iret (pc := 18) dX3_stateOf_18 (fun o => by first | exact o.1 _ (by decide) | exact o.2 _ _ | omega) ?_
    exact ⟨rfl, rfl⟩
theorem xState_r {h : zH} (ok : zOk h) (t : Int) : -2147483648 ≤ xState h t ∧ xState h t < 2147483648 := by
  unfold xState
  exact ifp_i (r := fun z => -2147483648 ≤ z ∧ z < 2147483648) (ok.2 20 t) (by decide)
set_option maxRecDepth 100000 in
theorem C_X3_isOpen {h : zH} (hl : XL h) {a1 : Int} (r1 : -2147483648 ≤ a1 ∧ a1 < 2147483648) : kX3_isOpen a1 h (fun r h2 => r = b2i (xState h a1 = 1) ∧ h2 = h) := by
  apply eX3_isOpen
  refine zx_ok (fun ok => ?_)
  have q := xState_r ok a1
  refine zx_aload_n (pc := 0) dX3_isOpen_0 rfl rfl ?_
  refine zx_iload_n (pc := 1) dX3_isOpen_1 rfl rfl ?_
  refine zi_X3_23 (pc := 2) dX3_isOpen_2 (C_X3_stateOf hl r1) (by decide) (Nat.le_of_ble_eq_true rfl) (fun z2 h2 u2 v2 q2 => ?_)
  obtain ⟨rfl, e2⟩ := q2
  rw [e2]
  clear e2 h2
  refine zx_iconst (pc := 5) dX3_isOpen_5 ?_
  refine zx_icmp_ne (pc := 6) (tgt := 13) dX3_isOpen_6 (by decide) (fun o => by first | exact o.1 _ (by decide) | exact o.2 _ _ | omega) (fun o => by first | exact o.1 _ (by decide) | exact o.2 _ _ | omega) (fun c6 => ?_) (fun c6 => ?_)
  · skip
    refine zx_iconst (pc := 13) dX3_isOpen_13 ?_
    refine zx_zret (pc := 14) dX3_isOpen_14 (by omega) ?_
    refine ⟨?_, rfl⟩
    first | exact (b2i_t c6).symm | exact (b2i_f c6).symm
  · skip
    refine zx_iconst (pc := 9) dX3_isOpen_9 ?_
    refine zx_goto (pc := 10) (tgt := 14) dX3_isOpen_10 (by decide) ?_
    refine zx_zret (pc := 14) dX3_isOpen_14 (by omega) ?_
    refine ⟨?_, rfl⟩
    first | exact (b2i_t c6).symm | exact (b2i_f c6).symm
set_option maxRecDepth 100000 in
theorem L_X3_countOpen {h : zH} (hl : XL h) (Q : Int → zH → Prop) (hQ : Q (xOpen h) h) : ∀ (n : Nat) (i c : Int), 1 ≤ i → i ≤ gs h 81 + 1 → gs h 81 + 1 - i < n → c = cnt (fun t => ga h 20 t = 1) 1 (i - 1).toNat → zX cX zNo RX3 cX3_countOpen 3 (some .int) rX3_countOpen 4 [some (.ref 4), some (.int (iI c)), some (.int (iI i))] [] h (zEi cX Q) := by
  obtain ⟨l1, l2⟩ := hl
  intro n
  induction n with
  | zero => intro i c g1 g2 g3; omega
  | succ n ih =>
    intro i c g1 g2 g3 g4
    have g5 := cnt_r (fun t => ga h 20 t = 1) 1 (i - 1).toNat
    have g6 := cnt_next (p := fun t => ga h 20 t = 1) g1
    refine zx_iload_n (pc := 4) dX3_countOpen_4 rfl rfl ?_
    refine zx_aload_n (pc := 5) dX3_countOpen_5 rfl rfl ?_
    refine zg_X3_15 (pc := 6) dX3_countOpen_6 ?_
    refine zx_icmp_gt (pc := 9) (tgt := 31) dX3_countOpen_9 (by decide) (fun o => by first | exact o.1 _ (by decide) | exact o.2 _ _ | omega) (fun o => by first | exact o.1 _ (by decide) | exact o.2 _ _ | omega) (fun c9 => ?_) (fun c9 => ?_)
    · skip
      refine zx_iload_n (pc := 31) dX3_countOpen_31 rfl rfl ?_
      refine zx_iret (pc := 32) dX3_countOpen_32 (fun o => by first | exact o.1 _ (by decide) | exact o.2 _ _ | omega) ?_
      have e : i - 1 = gs h 81 := by omega
      rw [g4, e]
      exact hQ
    · skip
      refine zx_aload_n (pc := 12) dX3_countOpen_12 rfl rfl ?_
      refine zg_X3_9 (pc := 13) dX3_countOpen_13 ?_
      refine zx_iload_n (pc := 16) dX3_countOpen_16 rfl rfl ?_
      refine zx_iaload (pc := 17) aX3_states dX3_countOpen_17 (by omega) (by omega) (by omega) ?_
      refine zx_iconst (pc := 18) dX3_countOpen_18 ?_
      refine zx_icmp_ne (pc := 19) (tgt := 25) dX3_countOpen_19 (by decide) (fun o => by first | exact o.1 _ (by decide) | exact o.2 _ _ | omega) (fun o => by first | exact o.1 _ (by decide) | exact o.2 _ _ | omega) (fun c19 => ?_) (fun c19 => ?_)
      · skip
        refine zx_iinc (pc := 25) dX3_countOpen_25 (by decide) rfl rfl ?_
        refine zx_goto (pc := 28) (tgt := 4) dX3_countOpen_28 (by decide) ?_
        exact ih (i + 1) _ (by omega) (by omega) (by omega) (by first | rw [g6, g4, b2i_t (by omega)] | rw [g6, g4, b2i_f (by omega), Int.add_zero])
      · skip
        refine zx_iinc (pc := 22) dX3_countOpen_22 (by decide) rfl rfl ?_
        refine zx_iinc (pc := 25) dX3_countOpen_25 (by decide) rfl rfl ?_
        refine zx_goto (pc := 28) (tgt := 4) dX3_countOpen_28 (by decide) ?_
        exact ih (i + 1) _ (by omega) (by omega) (by omega) (by first | rw [g6, g4, b2i_t (by omega)] | rw [g6, g4, b2i_f (by omega), Int.add_zero])
set_option maxRecDepth 100000 in
theorem C_X3_countOpen {h : zH} (hl : XL h) : kX3_countOpen h (fun r h2 => r = xOpen h ∧ h2 = h) := by
  apply eX3_countOpen
  refine zx_iconst (pc := 0) dX3_countOpen_0 ?_
  refine zx_istore_n (pc := 1) dX3_countOpen_1 rfl (by decide) rfl ?_
  refine zx_iconst (pc := 2) dX3_countOpen_2 ?_
  refine zx_istore_n (pc := 3) dX3_countOpen_3 rfl (by decide) rfl ?_
  exact L_X3_countOpen hl (fun r h2 => r = xOpen h ∧ h2 = h) ⟨rfl, rfl⟩ 1002 1 _ (Int.le_refl _) (by have := hl.1; omega) (by have := hl.2; omega) rfl
set_option maxRecDepth 100000 in
theorem C_X3_open {h : zH} (hl : XL h) : kX3_open h (fun r h2 => (r = gs (x_open h) 81) ∧ h2 = x_open h) := by
  obtain ⟨l1, l2⟩ := hl
  have e : gs (ps h 81 (gs h 81 + 1)) 81 = gs h 81 + 1 := rfl
  have e2 : gs (pa (ps h 81 (gs h 81 + 1)) 20 (gs h 81 + 1) 1) 81 = gs h 81 + 1 := rfl
  apply eX3_open
  unfold x_open
  refine zx_aload_n (pc := 0) dX3_open_0 rfl rfl ?_
  refine zg_X3_15 (pc := 1) dX3_open_1 ?_
  refine zx_sipush (pc := 4) dX3_open_4 (by decide +kernel) ?_
  refine zx_icmp_ge (pc := 7) (tgt := 30) dX3_open_7 (by decide) (fun o => by first | exact o.1 _ (by decide) | exact o.2 _ _ | omega) (fun o => by first | exact o.1 _ (by decide) | exact o.2 _ _ | omega) (fun c7 => ?_) (fun c7 => ?_)
  · skip
    rw [ifp_f (by omega)]
    refine zx_aload_n (pc := 30) dX3_open_30 rfl rfl ?_
    refine zg_X3_15 (pc := 31) dX3_open_31 ?_
    refine zx_iret (pc := 34) dX3_open_34 (fun _ => by first | omega | (rw [e]; rw [e2]; omega)) ?_
    exact ⟨rfl, rfl⟩
  · skip
    rw [ifp_t (by omega)]
    refine zx_aload_n (pc := 10) dX3_open_10 rfl rfl ?_
    refine zx_dup (pc := 11) dX3_open_11 rfl ?_
    refine zg_X3_15 (pc := 12) dX3_open_12 ?_
    refine zx_iconst (pc := 15) dX3_open_15 ?_
    refine zx_iadd (pc := 16) dX3_open_16 ?_
    refine zp_X3_15 (pc := 17) dX3_open_17 (fun _ => by omega) ?_
    refine zx_aload_n (pc := 20) dX3_open_20 rfl rfl ?_
    refine zg_X3_9 (pc := 21) dX3_open_21 ?_
    refine zx_aload_n (pc := 24) dX3_open_24 rfl rfl ?_
    refine zg_X3_15 (pc := 25) dX3_open_25 ?_
    refine zx_iconst (pc := 28) dX3_open_28 ?_
    refine zx_iastore (pc := 29) aX3_states dX3_open_29 (by rw [e]; omega) (by rw [e]; omega) (by rw [e]; omega) (fun _ => by omega) ?_
    refine zx_aload_n (pc := 30) dX3_open_30 rfl rfl ?_
    refine zg_X3_15 (pc := 31) dX3_open_31 ?_
    refine zx_iret (pc := 34) dX3_open_34 (fun _ => by first | omega | (rw [e]; rw [e2]; omega)) ?_
    exact ⟨rfl, rfl⟩
set_option maxRecDepth 100000 in
theorem C_X3_close {h : zH} (hl : XL h) {a1 a2 : Int} (r1 : -2147483648 ≤ a1 ∧ a1 < 2147483648) (r2 : -2147483648 ≤ a2 ∧ a2 < 2147483648) : kX3_close a1 a2 h (fun h2 => h2 = x_close h a1 a2) := by
  obtain ⟨l1, l2⟩ := hl
  apply eX3_close
  unfold x_close
  refine zx_aload_n (pc := 0) dX3_close_0 rfl rfl ?_
  refine zx_iload_n (pc := 1) dX3_close_1 rfl rfl ?_
  refine zi_X3_19 (pc := 2) dX3_close_2 (C_X3_knows r1) (by decide) (Nat.le_of_ble_eq_true rfl) (fun z2 h2 u2 v2 q2 => ?_)
  obtain ⟨rfl, e2⟩ := q2
  rw [e2]
  clear e2 h2
  refine zx_if_eq (pc := 5) (tgt := 15) dX3_close_5 (by decide) (fun o => by first | exact o.1 _ (by decide) | exact o.2 _ _ | omega) (fun c5 => ?_) (fun c5 => ?_)
  · skip
    try replace c5 := b2i_0.mp c5
    rw [ifp_f c5]
    refine zx_vret (pc := 15) dX3_close_15 ?_
    rfl
  · skip
    try replace c5 := b2i_n0.mp c5
    rw [ifp_t c5]
    obtain ⟨k1, k2⟩ := c5
    refine zx_aload_n (pc := 8) dX3_close_8 rfl rfl ?_
    refine zg_X3_9 (pc := 9) dX3_close_9 ?_
    refine zx_iload_n (pc := 12) dX3_close_12 rfl rfl ?_
    refine zx_iload_n (pc := 13) dX3_close_13 rfl rfl ?_
    refine zx_iastore (pc := 14) aX3_states dX3_close_14 (by omega) (by omega) (by omega) (fun o => by first | exact o.1 _ (by decide) | exact o.2 _ _ | omega) ?_
    refine zx_vret (pc := 15) dX3_close_15 ?_
    rfl
theorem xlost_1 (h : zH) : x_lost h 1 = h := by
  apply zH_ext
  · intro k; rfl
  · intro c j
    rw [ga_xlost, if_neg (by omega)]
theorem xlost_y (h : zH) {n : Int} (h0 : 1 ≤ n) (e : ga h 20 n = 1) : pa (x_lost h n) 20 n 4 = x_lost h (n + 1) := by
  apply zH_ext
  · intro k; rfl
  · intro c j
    simp only [ga_pa, ga_xlost]
    grind
theorem xlost_n (h : zH) {n : Int} (e : ga h 20 n ≠ 1) : x_lost h n = x_lost h (n + 1) := by
  apply zH_ext
  · intro k; rfl
  · intro c j
    simp only [ga_xlost]
    grind
set_option maxRecDepth 100000 in
theorem L_X3_loseOpen {h : zH} (hl : XL h) : ∀ (n : Nat) (i : Int), 1 ≤ i → i ≤ gs h 81 + 1 → gs h 81 + 1 - i < n → zX cX zNo RX3 cX3_loseOpen 2 none rX3_loseOpen 2 [some (.ref 4), some (.int (iI i))] [] (x_lost h i) (zEv cX (fun h2 => h2 = x_lost h (gs h 81 + 1))) := by
  obtain ⟨l1, l2⟩ := hl
  intro n
  induction n with
  | zero => intro i g1 g2 g3; omega
  | succ n ih =>
    intro i g1 g2 g3
    have e3 : gs (x_lost h i) 81 = gs h 81 := rfl
    have e11 : ga (x_lost h i) 20 i = ga h 20 i := by rw [ga_xlost, if_neg (by omega)]
    refine zx_iload_n (pc := 2) dX3_loseOpen_2 rfl rfl ?_
    refine zx_aload_n (pc := 3) dX3_loseOpen_3 rfl rfl ?_
    refine zg_X3_15 (pc := 4) dX3_loseOpen_4 ?_
    refine zx_icmp_gt (pc := 7) (tgt := 33) dX3_loseOpen_7 (by decide) (fun o => by first | exact o.1 _ (by decide) | exact o.2 _ _ | omega) (fun o => by first | exact o.1 _ (by decide) | exact o.2 _ _ | omega) (fun c7 => ?_) (fun c7 => ?_)
    · skip
      rw [e3] at c7
      refine zx_vret (pc := 33) dX3_loseOpen_33 ?_
      have e : i = gs h 81 + 1 := by omega
      rw [e]
    · skip
      rw [e3] at c7
      refine zx_aload_n (pc := 10) dX3_loseOpen_10 rfl rfl ?_
      refine zg_X3_9 (pc := 11) dX3_loseOpen_11 ?_
      refine zx_iload_n (pc := 14) dX3_loseOpen_14 rfl rfl ?_
      refine zx_iaload (pc := 15) aX3_states dX3_loseOpen_15 (by omega) (by omega) (by omega) ?_
      refine zx_iconst (pc := 16) dX3_loseOpen_16 ?_
      refine zx_icmp_ne (pc := 17) (tgt := 27) dX3_loseOpen_17 (by decide) (fun o => by first | exact o.1 _ (by decide) | exact o.2 _ _ | omega) (fun o => by first | exact o.1 _ (by decide) | exact o.2 _ _ | omega) (fun c17 => ?_) (fun c17 => ?_)
      · skip
        rw [e11] at c17
        rw [xlost_n h c17]
        try rw [xlost_y h g1 c17]
        refine zx_iinc (pc := 27) dX3_loseOpen_27 (by decide) rfl rfl ?_
        refine zx_goto (pc := 30) (tgt := 2) dX3_loseOpen_30 (by decide) ?_
        exact ih (i + 1) (by omega) (by omega) (by omega)
      · skip
        rw [e11] at c17
        refine zx_aload_n (pc := 20) dX3_loseOpen_20 rfl rfl ?_
        refine zg_X3_9 (pc := 21) dX3_loseOpen_21 ?_
        refine zx_iload_n (pc := 24) dX3_loseOpen_24 rfl rfl ?_
        refine zx_iconst (pc := 25) dX3_loseOpen_25 ?_
        refine zx_iastore (pc := 26) aX3_states dX3_loseOpen_26 (by omega) (by omega) (by omega) (fun o => by first | exact o.1 _ (by decide) | exact o.2 _ _ | omega) ?_
        try rw [xlost_y h g1 c17]
        refine zx_iinc (pc := 27) dX3_loseOpen_27 (by decide) rfl rfl ?_
        refine zx_goto (pc := 30) (tgt := 2) dX3_loseOpen_30 (by decide) ?_
        exact ih (i + 1) (by omega) (by omega) (by omega)
set_option maxRecDepth 100000 in
theorem C_X3_loseOpen {h : zH} (hl : XL h) : kX3_loseOpen h (fun h2 => h2 = x_lost h (gs h 81 + 1)) := by
  apply eX3_loseOpen
  refine zx_iconst (pc := 0) dX3_loseOpen_0 ?_
  refine zx_istore_n (pc := 1) dX3_loseOpen_1 rfl (by decide) rfl ?_
  have r := L_X3_loseOpen hl 1002 1 (Int.le_refl _) (by have := hl.1; omega) (by have := hl.2; omega)
  rw [xlost_1] at r
  exact r
/-! the table of pages -/
set_option maxRecDepth 100000 in
theorem L_X4_forget {h : zH} : ∀ (n : Nat) (i : Int), 0 ≤ i → i ≤ 64 → 64 - i < n → zX cX zNo RX4 cX4_forget 2 none rX4_forget 2 [some (.ref 5), some (.int (iI i))] [] (prr (prr (prr h 21 0 i 0) 22 0 i 0) 23 0 i 0) (zEv cX (fun h2 => h2 = x_forget h)) := by
  intro n
  induction n with
  | zero => intro i g1 g2 g3; omega
  | succ n ih =>
    intro i g1 g2 g3
    have e : pa (pa (pa (prr (prr (prr h 21 0 i 0) 22 0 i 0) 23 0 i 0) 21 i 0) 22 i 0) 23 i 0 = prr (prr (prr h 21 0 (i + 1) 0) 22 0 (i + 1) 0) 23 0 (i + 1) 0 := by
      rw [pa_prr _ _ _ _ _ _ (show 21 ≠ 23 by decide), pa_prr _ _ _ _ _ _ (show 21 ≠ 22 by decide), pa_prr _ _ _ _ _ _ (show 22 ≠ 23 by decide), prr_next _ _ _ g1, prr_next _ _ _ g1, prr_next _ _ _ g1]
    refine zx_iload_n (pc := 2) dX4_forget_2 rfl rfl ?_
    refine zx_bipush (pc := 3) dX4_forget_3 (by decide +kernel) ?_
    refine zx_icmp_ge (pc := 5) (tgt := 35) dX4_forget_5 (by decide) (fun o => by first | exact o.1 _ (by decide) | exact o.2 _ _ | omega) (fun o => by first | exact o.1 _ (by decide) | exact o.2 _ _ | omega) (fun c5 => ?_) (fun c5 => ?_)
    · skip
      refine zx_aload_n (pc := 35) dX4_forget_35 rfl rfl ?_
      refine zx_iconst (pc := 36) dX4_forget_36 ?_
      refine zp_X4_34 (pc := 37) dX4_forget_37 (fun o => by first | exact o.1 _ (by decide) | exact o.2 _ _ | omega) ?_
      refine zx_vret (pc := 40) dX4_forget_40 ?_
      have e2 : i = 64 := by omega
      rw [e2]
      rfl
    · skip
      refine zx_aload_n (pc := 8) dX4_forget_8 rfl rfl ?_
      refine zg_X4_9 (pc := 9) dX4_forget_9 ?_
      refine zx_iload_n (pc := 12) dX4_forget_12 rfl rfl ?_
      refine zx_iconst (pc := 13) dX4_forget_13 ?_
      refine zx_iastore (pc := 14) aX4_committed dX4_forget_14 (by omega) (by omega) (by omega) (fun o => by first | exact o.1 _ (by decide) | exact o.2 _ _ | omega) ?_
      refine zx_aload_n (pc := 15) dX4_forget_15 rfl rfl ?_
      refine zg_X4_15 (pc := 16) dX4_forget_16 ?_
      refine zx_iload_n (pc := 19) dX4_forget_19 rfl rfl ?_
      refine zx_iconst (pc := 20) dX4_forget_20 ?_
      refine zx_iastore (pc := 21) aX4_shadows dX4_forget_21 (by omega) (by omega) (by omega) (fun o => by first | exact o.1 _ (by decide) | exact o.2 _ _ | omega) ?_
      refine zx_aload_n (pc := 22) dX4_forget_22 rfl rfl ?_
      refine zg_X4_18 (pc := 23) dX4_forget_23 ?_
      refine zx_iload_n (pc := 26) dX4_forget_26 rfl rfl ?_
      refine zx_iconst (pc := 27) dX4_forget_27 ?_
      refine zx_iastore (pc := 28) aX4_owners dX4_forget_28 (by omega) (by omega) (by omega) (fun o => by first | exact o.1 _ (by decide) | exact o.2 _ _ | omega) ?_
      refine zx_iinc (pc := 29) dX4_forget_29 (by decide) rfl rfl ?_
      refine zx_goto (pc := 32) (tgt := 2) dX4_forget_32 (by decide) ?_
      rw [e]
      exact ih (i + 1) (by omega) (by omega) (by omega)
set_option maxRecDepth 100000 in
theorem C_X4_forget {h : zH} : kX4_forget h (fun h2 => h2 = x_forget h) := by
  apply eX4_forget
  refine zx_iconst (pc := 0) dX4_forget_0 ?_
  refine zx_istore_n (pc := 1) dX4_forget_1 rfl (by decide) rfl ?_
  have r := L_X4_forget (h := h) 65 0 (Int.le_refl _) (by omega) (by omega)
  rw [prr_0, prr_0, prr_0] at r
  exact r
set_option maxRecDepth 100000 in
theorem C_X4_clearAll {h : zH} {a1 : Int} (h1 : 0 ≤ a1 ∧ a1 ≤ 64) : kX4_clearAll a1 h (fun h2 => h2 = x_anewT h a1) := by
  have e : (a1 + 8 - 1) / 8 = (a1 + 7) / 8 := by omega
  apply eX4_clearAll
  refine zx_aload_n (pc := 0) dX4_clearAll_0 rfl rfl ?_
  refine zx_iload_n (pc := 1) dX4_clearAll_1 rfl rfl ?_
  refine zp_X4_24 (pc := 2) dX4_clearAll_2 (fun _ => by omega) ?_
  refine zx_aload_n (pc := 5) dX4_clearAll_5 rfl rfl ?_
  refine zx_iload_n (pc := 6) dX4_clearAll_6 rfl rfl ?_
  refine zx_bipush (pc := 7) dX4_clearAll_7 (by decide +kernel) ?_
  refine zx_iadd (pc := 9) dX4_clearAll_9 ?_
  refine zx_iconst (pc := 10) dX4_clearAll_10 ?_
  refine zx_isub (pc := 11) dX4_clearAll_11 ?_
  refine zx_bipush (pc := 12) dX4_clearAll_12 (by decide +kernel) ?_
  refine zx_idiv (pc := 14) dX4_clearAll_14 (by omega) (by omega) (by omega) (by omega) ?_
  refine zp_X4_28 (pc := 15) dX4_clearAll_15 (fun _ => by omega) ?_
  refine zx_aload_n (pc := 18) dX4_clearAll_18 rfl rfl ?_
  refine zi_X4_31 (pc := 19) dX4_clearAll_19 (C_X4_forget) (by decide) (Nat.le_of_ble_eq_true rfl) (fun h19 q19 => ?_)
  rw [q19]
  clear q19 h19
  refine zx_vret (pc := 22) dX4_clearAll_22 ?_
  rw [e]
  rfl
set_option maxRecDepth 100000 in
theorem C_X4_has {h : zH} {a1 : Int} (r1 : -2147483648 ≤ a1 ∧ a1 < 2147483648) : kX4_has a1 h (fun r h2 => r = b2i (xHas h a1) ∧ h2 = h) := by
  apply eX4_has
  refine zx_iload_n (pc := 0) dX4_has_0 rfl rfl ?_
  refine zx_if_lt (pc := 1) (tgt := 16) dX4_has_1 (by decide) (fun o => by first | exact o.1 _ (by decide) | exact o.2 _ _ | omega) (fun c1 => ?_) (fun c1 => ?_)
  · skip
    refine zx_iconst (pc := 16) dX4_has_16 ?_
    refine zx_zret (pc := 17) dX4_has_17 (by omega) ?_
    refine ⟨?_, rfl⟩
    first | exact (b2i_t (by unfold xHas; omega)).symm | exact (b2i_f (by unfold xHas; omega)).symm
  · skip
    refine zx_iload_n (pc := 4) dX4_has_4 rfl rfl ?_
    refine zx_aload_n (pc := 5) dX4_has_5 rfl rfl ?_
    refine zg_X4_24 (pc := 6) dX4_has_6 ?_
    refine zx_icmp_ge (pc := 9) (tgt := 16) dX4_has_9 (by decide) (fun o => by first | exact o.1 _ (by decide) | exact o.2 _ _ | omega) (fun o => by first | exact o.1 _ (by decide) | exact o.2 _ _ | omega) (fun c9 => ?_) (fun c9 => ?_)
    · skip
      refine zx_iconst (pc := 16) dX4_has_16 ?_
      refine zx_zret (pc := 17) dX4_has_17 (by omega) ?_
      refine ⟨?_, rfl⟩
      first | exact (b2i_t (by unfold xHas; omega)).symm | exact (b2i_f (by unfold xHas; omega)).symm
    · skip
      refine zx_iconst (pc := 12) dX4_has_12 ?_
      refine zx_goto (pc := 13) (tgt := 17) dX4_has_13 (by decide) ?_
      refine zx_zret (pc := 17) dX4_has_17 (by omega) ?_
      refine ⟨?_, rfl⟩
      first | exact (b2i_t (by unfold xHas; omega)).symm | exact (b2i_f (by unfold xHas; omega)).symm
set_option maxRecDepth 100000 in
theorem C_X4_versionSeenBy {h : zH} (ht : XT h) {a1 a2 : Int} (r1 : -2147483648 ≤ a1 ∧ a1 < 2147483648) (r2 : -2147483648 ≤ a2 ∧ a2 < 2147483648) : kX4_versionSeenBy a1 a2 h (fun r h2 => r = xSeen h a1 a2 ∧ h2 = h) := by
  obtain ⟨t1, t2⟩ := ht
  apply eX4_versionSeenBy
  unfold xSeen
  refine zx_aload_n (pc := 0) dX4_versionSeenBy_0 rfl rfl ?_
  refine zx_iload_n (pc := 1) dX4_versionSeenBy_1 rfl rfl ?_
  refine zi_X4_37 (pc := 2) dX4_versionSeenBy_2 (C_X4_has r2) (by decide) (Nat.le_of_ble_eq_true rfl) (fun z2 h2 u2 v2 q2 => ?_)
  obtain ⟨rfl, e2⟩ := q2
  rw [e2]
  clear e2 h2
  refine zx_if_ne (pc := 5) (tgt := 10) dX4_versionSeenBy_5 (by decide) (fun o => by first | exact o.1 _ (by decide) | exact o.2 _ _ | omega) (fun c5 => ?_) (fun c5 => ?_)
  · skip
    try replace c5 := b2i_n0.mp c5
    rw [ifp_t c5]
    obtain ⟨k1, k2⟩ := c5
    refine zx_iload_n (pc := 10) dX4_versionSeenBy_10 rfl rfl ?_
    refine zx_if_eq (pc := 11) (tgt := 33) dX4_versionSeenBy_11 (by decide) (fun o => by first | exact o.1 _ (by decide) | exact o.2 _ _ | omega) (fun c11 => ?_) (fun c11 => ?_)
    · skip
      rw [ifp_f (fun z => z.1 c11)]
      refine zx_aload_n (pc := 33) dX4_versionSeenBy_33 rfl rfl ?_
      refine zg_X4_9 (pc := 34) dX4_versionSeenBy_34 ?_
      refine zx_iload_n (pc := 37) dX4_versionSeenBy_37 rfl rfl ?_
      refine zx_iaload (pc := 38) aX4_committed dX4_versionSeenBy_38 (by omega) (by omega) (by omega) ?_
      refine zx_iret (pc := 39) dX4_versionSeenBy_39 (fun o => by first | exact o.1 _ (by decide) | exact o.2 _ _ | omega) ?_
      exact ⟨rfl, rfl⟩
    · skip
      refine zx_aload_n (pc := 14) dX4_versionSeenBy_14 rfl rfl ?_
      refine zg_X4_18 (pc := 15) dX4_versionSeenBy_15 ?_
      refine zx_iload_n (pc := 18) dX4_versionSeenBy_18 rfl rfl ?_
      refine zx_iaload (pc := 19) aX4_owners dX4_versionSeenBy_19 (by omega) (by omega) (by omega) ?_
      refine zx_iload_n (pc := 20) dX4_versionSeenBy_20 rfl rfl ?_
      refine zx_icmp_ne (pc := 21) (tgt := 33) dX4_versionSeenBy_21 (by decide) (fun o => by first | exact o.1 _ (by decide) | exact o.2 _ _ | omega) (fun o => by first | exact o.1 _ (by decide) | exact o.2 _ _ | omega) (fun c21 => ?_) (fun c21 => ?_)
      · skip
        rw [ifp_f (fun z => c21 z.2)]
        refine zx_aload_n (pc := 33) dX4_versionSeenBy_33 rfl rfl ?_
        refine zg_X4_9 (pc := 34) dX4_versionSeenBy_34 ?_
        refine zx_iload_n (pc := 37) dX4_versionSeenBy_37 rfl rfl ?_
        refine zx_iaload (pc := 38) aX4_committed dX4_versionSeenBy_38 (by omega) (by omega) (by omega) ?_
        refine zx_iret (pc := 39) dX4_versionSeenBy_39 (fun o => by first | exact o.1 _ (by decide) | exact o.2 _ _ | omega) ?_
        exact ⟨rfl, rfl⟩
      · skip
        rw [ifp_t ⟨c11, c21⟩]
        refine zx_aload_n (pc := 24) dX4_versionSeenBy_24 rfl rfl ?_
        refine zg_X4_15 (pc := 25) dX4_versionSeenBy_25 ?_
        refine zx_iload_n (pc := 28) dX4_versionSeenBy_28 rfl rfl ?_
        refine zx_iaload (pc := 29) aX4_shadows dX4_versionSeenBy_29 (by omega) (by omega) (by omega) ?_
        refine zx_goto (pc := 30) (tgt := 39) dX4_versionSeenBy_30 (by decide) ?_
        refine zx_iret (pc := 39) dX4_versionSeenBy_39 (fun o => by first | exact o.1 _ (by decide) | exact o.2 _ _ | omega) ?_
        exact ⟨rfl, rfl⟩
  · skip
    try replace c5 := b2i_0.mp c5
    rw [ifp_f c5]
    refine zx_iconst (pc := 8) dX4_versionSeenBy_8 ?_
    refine zx_iret (pc := 9) dX4_versionSeenBy_9 (fun o => by first | exact o.1 _ (by decide) | exact o.2 _ _ | omega) ?_
    exact ⟨rfl, rfl⟩
set_option maxRecDepth 100000 in
theorem C_X4_setCommitted {h : zH} (ht : XT h) {a1 a2 : Int} (r1 : -2147483648 ≤ a1 ∧ a1 < 2147483648) (r2 : -2147483648 ≤ a2 ∧ a2 < 2147483648) : kX4_setCommitted a1 a2 h (fun h2 => h2 = x_setC h a1 a2) := by
  obtain ⟨t1, t2⟩ := ht
  apply eX4_setCommitted
  unfold x_setC
  refine zx_aload_n (pc := 0) dX4_setCommitted_0 rfl rfl ?_
  refine zx_iload_n (pc := 1) dX4_setCommitted_1 rfl rfl ?_
  refine zi_X4_37 (pc := 2) dX4_setCommitted_2 (C_X4_has r1) (by decide) (Nat.le_of_ble_eq_true rfl) (fun z2 h2 u2 v2 q2 => ?_)
  obtain ⟨rfl, e2⟩ := q2
  rw [e2]
  clear e2 h2
  refine zx_if_eq (pc := 5) (tgt := 15) dX4_setCommitted_5 (by decide) (fun o => by first | exact o.1 _ (by decide) | exact o.2 _ _ | omega) (fun c5 => ?_) (fun c5 => ?_)
  · skip
    try replace c5 := b2i_0.mp c5
    rw [ifp_f c5]
    refine zx_vret (pc := 15) dX4_setCommitted_15 ?_
    rfl
  · skip
    try replace c5 := b2i_n0.mp c5
    rw [ifp_t c5]
    obtain ⟨k1, k2⟩ := c5
    refine zx_aload_n (pc := 8) dX4_setCommitted_8 rfl rfl ?_
    refine zg_X4_9 (pc := 9) dX4_setCommitted_9 ?_
    refine zx_iload_n (pc := 12) dX4_setCommitted_12 rfl rfl ?_
    refine zx_iload_n (pc := 13) dX4_setCommitted_13 rfl rfl ?_
    refine zx_iastore (pc := 14) aX4_committed dX4_setCommitted_14 (by omega) (by omega) (by omega) (fun o => by first | exact o.1 _ (by decide) | exact o.2 _ _ | omega) ?_
    refine zx_vret (pc := 15) dX4_setCommitted_15 ?_
    rfl
set_option maxRecDepth 100000 in
theorem L_X4_countWritten {h : zH} (ht : XT h) (Q : Int → zH → Prop) (hQ : Q (xWrit h) h) : ∀ (n : Nat) (i c : Int), 0 ≤ i → i ≤ gs h 104 → gs h 104 - i < n → c = cnt (fun p => ga h 21 p ≠ 0) 0 (i - 0).toNat → zX cX zNo RX4 cX4_countWritten 3 (some .int) rX4_countWritten 4 [some (.ref 5), some (.int (iI c)), some (.int (iI i))] [] h (zEi cX Q) := by
  obtain ⟨t1, t2⟩ := ht
  intro n
  induction n with
  | zero => intro i c g1 g2 g3; omega
  | succ n ih =>
    intro i c g1 g2 g3 g4
    have g5 := cnt_r (fun p => ga h 21 p ≠ 0) 0 (i - 0).toNat
    have g6 := cnt_next (p := fun p => ga h 21 p ≠ 0) g1
    refine zx_iload_n (pc := 4) dX4_countWritten_4 rfl rfl ?_
    refine zx_aload_n (pc := 5) dX4_countWritten_5 rfl rfl ?_
    refine zg_X4_24 (pc := 6) dX4_countWritten_6 ?_
    refine zx_icmp_ge (pc := 9) (tgt := 30) dX4_countWritten_9 (by decide) (fun o => by first | exact o.1 _ (by decide) | exact o.2 _ _ | omega) (fun o => by first | exact o.1 _ (by decide) | exact o.2 _ _ | omega) (fun c9 => ?_) (fun c9 => ?_)
    · skip
      refine zx_iload_n (pc := 30) dX4_countWritten_30 rfl rfl ?_
      refine zx_iret (pc := 31) dX4_countWritten_31 (fun o => by first | exact o.1 _ (by decide) | exact o.2 _ _ | omega) ?_
      have e : i - 0 = gs h 104 := by omega
      rw [g4, e]
      exact hQ
    · skip
      refine zx_aload_n (pc := 12) dX4_countWritten_12 rfl rfl ?_
      refine zg_X4_9 (pc := 13) dX4_countWritten_13 ?_
      refine zx_iload_n (pc := 16) dX4_countWritten_16 rfl rfl ?_
      refine zx_iaload (pc := 17) aX4_committed dX4_countWritten_17 (by omega) (by omega) (by omega) ?_
      refine zx_if_eq (pc := 18) (tgt := 24) dX4_countWritten_18 (by decide) (fun o => by first | exact o.1 _ (by decide) | exact o.2 _ _ | omega) (fun c18 => ?_) (fun c18 => ?_)
      · skip
        refine zx_iinc (pc := 24) dX4_countWritten_24 (by decide) rfl rfl ?_
        refine zx_goto (pc := 27) (tgt := 4) dX4_countWritten_27 (by decide) ?_
        exact ih (i + 1) _ (by omega) (by omega) (by omega) (by first | rw [g6, g4, b2i_t (by omega)] | rw [g6, g4, b2i_f (by omega), Int.add_zero])
      · skip
        refine zx_iinc (pc := 21) dX4_countWritten_21 (by decide) rfl rfl ?_
        refine zx_iinc (pc := 24) dX4_countWritten_24 (by decide) rfl rfl ?_
        refine zx_goto (pc := 27) (tgt := 4) dX4_countWritten_27 (by decide) ?_
        exact ih (i + 1) _ (by omega) (by omega) (by omega) (by first | rw [g6, g4, b2i_t (by omega)] | rw [g6, g4, b2i_f (by omega), Int.add_zero])
set_option maxRecDepth 100000 in
theorem C_X4_countWritten {h : zH} (ht : XT h) : kX4_countWritten h (fun r h2 => r = xWrit h ∧ h2 = h) := by
  apply eX4_countWritten
  refine zx_iconst (pc := 0) dX4_countWritten_0 ?_
  refine zx_istore_n (pc := 1) dX4_countWritten_1 rfl (by decide) rfl ?_
  refine zx_iconst (pc := 2) dX4_countWritten_2 ?_
  refine zx_istore_n (pc := 3) dX4_countWritten_3 rfl (by decide) rfl ?_
  exact L_X4_countWritten ht (fun r h2 => r = xWrit h ∧ h2 = h) ⟨rfl, rfl⟩ 65 0 _ (Int.le_refl _) ht.1 (by have := ht.2; omega) rfl
set_option maxRecDepth 100000 in
theorem C_X4_ownerOf {h : zH} (ht : XT h) {a1 : Int} (r1 : -2147483648 ≤ a1 ∧ a1 < 2147483648) : kX4_ownerOf a1 h (fun r h2 => r = xOwner h a1 ∧ h2 = h) := by
  obtain ⟨t1, t2⟩ := ht
  apply eX4_ownerOf
  unfold xOwner
  refine zx_aload_n (pc := 0) dX4_ownerOf_0 rfl rfl ?_
  refine zx_iload_n (pc := 1) dX4_ownerOf_1 rfl rfl ?_
  refine zi_X4_37 (pc := 2) dX4_ownerOf_2 (C_X4_has r1) (by decide) (Nat.le_of_ble_eq_true rfl) (fun z2 h2 u2 v2 q2 => ?_)
  obtain ⟨rfl, e2⟩ := q2
  rw [e2]
  clear e2 h2
  refine zx_if_eq (pc := 5) (tgt := 17) dX4_ownerOf_5 (by decide) (fun o => by first | exact o.1 _ (by decide) | exact o.2 _ _ | omega) (fun c5 => ?_) (fun c5 => ?_)
  · skip
    try replace c5 := b2i_0.mp c5
    rw [ifp_f c5]
    refine zx_iconst (pc := 17) dX4_ownerOf_17 ?_
    refine zx_iret (pc := 18) dX4_ownerOf_18 (fun o => by first | exact o.1 _ (by decide) | exact o.2 _ _ | omega) ?_
    exact ⟨rfl, rfl⟩
  · skip
    try replace c5 := b2i_n0.mp c5
    rw [ifp_t c5]
    obtain ⟨k1, k2⟩ := c5
    refine zx_aload_n (pc := 8) dX4_ownerOf_8 rfl rfl ?_
    refine zg_X4_18 (pc := 9) dX4_ownerOf_9 ?_
    refine zx_iload_n (pc := 12) dX4_ownerOf_12 rfl rfl ?_
    refine zx_iaload (pc := 13) aX4_owners dX4_ownerOf_13 (by omega) (by omega) (by omega) ?_
    refine zx_goto (pc := 14) (tgt := 18) dX4_ownerOf_14 (by decide) ?_
    refine zx_iret (pc := 18) dX4_ownerOf_18 (fun o => by first | exact o.1 _ (by decide) | exact o.2 _ _ | omega) ?_
    exact ⟨rfl, rfl⟩
theorem xOwner_r {h : zH} (ok : zOk h) (t : Int) : -2147483648 ≤ xOwner h t ∧ xOwner h t < 2147483648 := by
  unfold xOwner
  exact ifp_i (r := fun z => -2147483648 ≤ z ∧ z < 2147483648) (ok.2 23 t) (by decide)
set_option maxRecDepth 100000 in
theorem C_X4_isLockedAgainst {h : zH} (ht : XT h) {a1 a2 : Int} (r1 : -2147483648 ≤ a1 ∧ a1 < 2147483648) (r2 : -2147483648 ≤ a2 ∧ a2 < 2147483648) : kX4_isLockedAgainst a1 a2 h (fun r h2 => r = b2i (xOwner h a1 ≠ 0 ∧ xOwner h a1 ≠ a2) ∧ h2 = h) := by
  apply eX4_isLockedAgainst
  refine zx_ok (fun ok => ?_)
  have q := xOwner_r ok a1
  refine zx_aload_n (pc := 0) dX4_isLockedAgainst_0 rfl rfl ?_
  refine zx_iload_n (pc := 1) dX4_isLockedAgainst_1 rfl rfl ?_
  refine zi_X4_41 (pc := 2) dX4_isLockedAgainst_2 (C_X4_ownerOf ht r1) (by decide) (Nat.le_of_ble_eq_true rfl) (fun z2 h2 u2 v2 q2 => ?_)
  obtain ⟨rfl, e2⟩ := q2
  rw [e2]
  clear e2 h2
  refine zx_istore_n (pc := 5) dX4_isLockedAgainst_5 rfl (by decide) rfl ?_
  refine zx_iload_n (pc := 6) dX4_isLockedAgainst_6 rfl rfl ?_
  refine zx_if_eq (pc := 7) (tgt := 19) dX4_isLockedAgainst_7 (by decide) (fun o => by first | exact o.1 _ (by decide) | exact o.2 _ _ | omega) (fun c7 => ?_) (fun c7 => ?_)
  · skip
    refine zx_iconst (pc := 19) dX4_isLockedAgainst_19 ?_
    refine zx_zret (pc := 20) dX4_isLockedAgainst_20 (by omega) ?_
    refine ⟨?_, rfl⟩
    first | exact (b2i_t (by omega)).symm | exact (b2i_f (by omega)).symm
  · skip
    refine zx_iload_n (pc := 10) dX4_isLockedAgainst_10 rfl rfl ?_
    refine zx_iload_n (pc := 11) dX4_isLockedAgainst_11 rfl rfl ?_
    refine zx_icmp_eq (pc := 12) (tgt := 19) dX4_isLockedAgainst_12 (by decide) (fun o => by first | exact o.1 _ (by decide) | exact o.2 _ _ | omega) (fun o => by first | exact o.1 _ (by decide) | exact o.2 _ _ | omega) (fun c12 => ?_) (fun c12 => ?_)
    · skip
      refine zx_iconst (pc := 19) dX4_isLockedAgainst_19 ?_
      refine zx_zret (pc := 20) dX4_isLockedAgainst_20 (by omega) ?_
      refine ⟨?_, rfl⟩
      first | exact (b2i_t (by omega)).symm | exact (b2i_f (by omega)).symm
    · skip
      refine zx_iconst (pc := 15) dX4_isLockedAgainst_15 ?_
      refine zx_goto (pc := 16) (tgt := 20) dX4_isLockedAgainst_16 (by decide) ?_
      refine zx_zret (pc := 20) dX4_isLockedAgainst_20 (by omega) ?_
      refine ⟨?_, rfl⟩
      first | exact (b2i_t (by omega)).symm | exact (b2i_f (by omega)).symm
set_option maxRecDepth 100000 in
theorem C_X4_putInShadow {h : zH} (ht : XT h) {a1 a2 a3 : Int} (r1 : -2147483648 ≤ a1 ∧ a1 < 2147483648) (r2 : -2147483648 ≤ a2 ∧ a2 < 2147483648) (r3 : -2147483648 ≤ a3 ∧ a3 < 2147483648) : kX4_putInShadow a1 a2 a3 h (fun h2 => h2 = x_pis h a1 a2 a3) := by
  obtain ⟨t1, t2⟩ := ht
  apply eX4_putInShadow
  unfold x_pis
  refine zx_aload_n (pc := 0) dX4_putInShadow_0 rfl rfl ?_
  refine zx_iload_n (pc := 1) dX4_putInShadow_1 rfl rfl ?_
  refine zi_X4_37 (pc := 2) dX4_putInShadow_2 (C_X4_has r2) (by decide) (Nat.le_of_ble_eq_true rfl) (fun z2 h2 u2 v2 q2 => ?_)
  obtain ⟨rfl, e2⟩ := q2
  rw [e2]
  clear e2 h2
  refine zx_if_eq (pc := 5) (tgt := 22) dX4_putInShadow_5 (by decide) (fun o => by first | exact o.1 _ (by decide) | exact o.2 _ _ | omega) (fun c5 => ?_) (fun c5 => ?_)
  · skip
    try replace c5 := b2i_0.mp c5
    rw [ifp_f c5]
    refine zx_vret (pc := 22) dX4_putInShadow_22 ?_
    rfl
  · skip
    try replace c5 := b2i_n0.mp c5
    rw [ifp_t c5]
    obtain ⟨k1, k2⟩ := c5
    refine zx_aload_n (pc := 8) dX4_putInShadow_8 rfl rfl ?_
    refine zg_X4_18 (pc := 9) dX4_putInShadow_9 ?_
    refine zx_iload_n (pc := 12) dX4_putInShadow_12 rfl rfl ?_
    refine zx_iload_n (pc := 13) dX4_putInShadow_13 rfl rfl ?_
    refine zx_iastore (pc := 14) aX4_owners dX4_putInShadow_14 (by omega) (by omega) (by omega) (fun o => by first | exact o.1 _ (by decide) | exact o.2 _ _ | omega) ?_
    refine zx_aload_n (pc := 15) dX4_putInShadow_15 rfl rfl ?_
    refine zg_X4_15 (pc := 16) dX4_putInShadow_16 ?_
    refine zx_iload_n (pc := 19) dX4_putInShadow_19 rfl rfl ?_
    refine zx_iload_n (pc := 20) dX4_putInShadow_20 rfl rfl ?_
    refine zx_iastore (pc := 21) aX4_shadows dX4_putInShadow_21 (by omega) (by omega) (by omega) (fun o => by first | exact o.1 _ (by decide) | exact o.2 _ _ | omega) ?_
    refine zx_vret (pc := 22) dX4_putInShadow_22 ?_
    rfl
set_option maxRecDepth 100000 in
theorem L_X4_countLocked {h : zH} (ht : XT h) {a1 : Int} (r1 : -2147483648 ≤ a1 ∧ a1 < 2147483648) (Q : Int → zH → Prop) (hQ : Q (xLocks h a1) h) : ∀ (n : Nat) (i c : Int), 0 ≤ i → i ≤ gs h 104 → gs h 104 - i < n → c = cnt (fun p => ga h 23 p = a1) 0 (i - 0).toNat → zX cX zNo RX4 cX4_countLocked 4 (some .int) rX4_countLocked 4 [some (.ref 5), some (.int (iI a1)), some (.int (iI c)), some (.int (iI i))] [] h (zEi cX Q) := by
  obtain ⟨t1, t2⟩ := ht
  intro n
  induction n with
  | zero => intro i c g1 g2 g3; omega
  | succ n ih =>
    intro i c g1 g2 g3 g4
    have g5 := cnt_r (fun p => ga h 23 p = a1) 0 (i - 0).toNat
    have g6 := cnt_next (p := fun p => ga h 23 p = a1) g1
    refine zx_iload_n (pc := 4) dX4_countLocked_4 rfl rfl ?_
    refine zx_aload_n (pc := 5) dX4_countLocked_5 rfl rfl ?_
    refine zg_X4_24 (pc := 6) dX4_countLocked_6 ?_
    refine zx_icmp_ge (pc := 9) (tgt := 31) dX4_countLocked_9 (by decide) (fun o => by first | exact o.1 _ (by decide) | exact o.2 _ _ | omega) (fun o => by first | exact o.1 _ (by decide) | exact o.2 _ _ | omega) (fun c9 => ?_) (fun c9 => ?_)
    · skip
      refine zx_iload_n (pc := 31) dX4_countLocked_31 rfl rfl ?_
      refine zx_iret (pc := 32) dX4_countLocked_32 (fun o => by first | exact o.1 _ (by decide) | exact o.2 _ _ | omega) ?_
      have e : i - 0 = gs h 104 := by omega
      rw [g4, e]
      exact hQ
    · skip
      refine zx_aload_n (pc := 12) dX4_countLocked_12 rfl rfl ?_
      refine zg_X4_18 (pc := 13) dX4_countLocked_13 ?_
      refine zx_iload_n (pc := 16) dX4_countLocked_16 rfl rfl ?_
      refine zx_iaload (pc := 17) aX4_owners dX4_countLocked_17 (by omega) (by omega) (by omega) ?_
      refine zx_iload_n (pc := 18) dX4_countLocked_18 rfl rfl ?_
      refine zx_icmp_ne (pc := 19) (tgt := 25) dX4_countLocked_19 (by decide) (fun o => by first | exact o.1 _ (by decide) | exact o.2 _ _ | omega) (fun o => by first | exact o.1 _ (by decide) | exact o.2 _ _ | omega) (fun c19 => ?_) (fun c19 => ?_)
      · skip
        refine zx_iinc (pc := 25) dX4_countLocked_25 (by decide) rfl rfl ?_
        refine zx_goto (pc := 28) (tgt := 4) dX4_countLocked_28 (by decide) ?_
        exact ih (i + 1) _ (by omega) (by omega) (by omega) (by first | rw [g6, g4, b2i_t (by omega)] | rw [g6, g4, b2i_f (by omega), Int.add_zero])
      · skip
        refine zx_iinc (pc := 22) dX4_countLocked_22 (by decide) rfl rfl ?_
        refine zx_iinc (pc := 25) dX4_countLocked_25 (by decide) rfl rfl ?_
        refine zx_goto (pc := 28) (tgt := 4) dX4_countLocked_28 (by decide) ?_
        exact ih (i + 1) _ (by omega) (by omega) (by omega) (by first | rw [g6, g4, b2i_t (by omega)] | rw [g6, g4, b2i_f (by omega), Int.add_zero])
set_option maxRecDepth 100000 in
theorem C_X4_countLocked {h : zH} (ht : XT h) {a1 : Int} (r1 : -2147483648 ≤ a1 ∧ a1 < 2147483648) : kX4_countLocked a1 h (fun r h2 => r = xLocks h a1 ∧ h2 = h) := by
  apply eX4_countLocked
  refine zx_iconst (pc := 0) dX4_countLocked_0 ?_
  refine zx_istore_n (pc := 1) dX4_countLocked_1 rfl (by decide) rfl ?_
  refine zx_iconst (pc := 2) dX4_countLocked_2 ?_
  refine zx_istore_n (pc := 3) dX4_countLocked_3 rfl (by decide) rfl ?_
  exact L_X4_countLocked ht r1 (fun r h2 => r = xLocks h a1 ∧ h2 = h) ⟨rfl, rfl⟩ 65 0 _ (Int.le_refl _) ht.1 (by have := ht.2; omega) rfl
theorem xrel_0 (h : zH) (t : Int) : x_rel h t 0 = h := by
  apply zH_ext
  · intro k; rfl
  · intro c j
    rw [ga_xrel, if_neg (by omega)]
theorem xrel_y (h : zH) {t n : Int} (h0 : 0 ≤ n) (e : ga h 23 n = t) : pa (pa (x_rel h t n) 23 n 0) 22 n 0 = x_rel h t (n + 1) := by
  apply zH_ext
  · intro k; rfl
  · intro c j
    simp only [ga_pa, ga_xrel]
    grind
theorem xrel_n (h : zH) {t n : Int} (e : ga h 23 n ≠ t) : x_rel h t n = x_rel h t (n + 1) := by
  apply zH_ext
  · intro k; rfl
  · intro c j
    simp only [ga_xrel]
    grind
set_option maxRecDepth 100000 in
theorem L_X4_release {h : zH} (ht : XT h) {a1 : Int} (r1 : -2147483648 ≤ a1 ∧ a1 < 2147483648) : ∀ (n : Nat) (i : Int), 0 ≤ i → i ≤ gs h 104 → gs h 104 - i < n → zX cX zNo RX4 cX4_release 3 none rX4_release 2 [some (.ref 5), some (.int (iI a1)), some (.int (iI i))] [] (x_rel h a1 i) (zEv cX (fun h2 => h2 = x_rel h a1 (gs h 104))) := by
  obtain ⟨t1, t2⟩ := ht
  intro n
  induction n with
  | zero => intro i g1 g2 g3; omega
  | succ n ih =>
    intro i g1 g2 g3
    have e3 : gs (x_rel h a1 i) 104 = gs h 104 := rfl
    have e11 : ga (x_rel h a1 i) 23 i = ga h 23 i := by rw [ga_xrel, if_neg (by omega)]
    refine zx_iload_n (pc := 2) dX4_release_2 rfl rfl ?_
    refine zx_aload_n (pc := 3) dX4_release_3 rfl rfl ?_
    refine zg_X4_24 (pc := 4) dX4_release_4 ?_
    refine zx_icmp_ge (pc := 7) (tgt := 40) dX4_release_7 (by decide) (fun o => by first | exact o.1 _ (by decide) | exact o.2 _ _ | omega) (fun o => by first | exact o.1 _ (by decide) | exact o.2 _ _ | omega) (fun c7 => ?_) (fun c7 => ?_)
    · skip
      rw [e3] at c7
      refine zx_vret (pc := 40) dX4_release_40 ?_
      have e : i = gs h 104 := by omega
      rw [e]
    · skip
      rw [e3] at c7
      refine zx_aload_n (pc := 10) dX4_release_10 rfl rfl ?_
      refine zg_X4_18 (pc := 11) dX4_release_11 ?_
      refine zx_iload_n (pc := 14) dX4_release_14 rfl rfl ?_
      refine zx_iaload (pc := 15) aX4_owners dX4_release_15 (by omega) (by omega) (by omega) ?_
      refine zx_iload_n (pc := 16) dX4_release_16 rfl rfl ?_
      refine zx_icmp_ne (pc := 17) (tgt := 34) dX4_release_17 (by decide) (fun o => by first | exact o.1 _ (by decide) | exact o.2 _ _ | omega) (fun o => by first | exact o.1 _ (by decide) | exact o.2 _ _ | omega) (fun c17 => ?_) (fun c17 => ?_)
      · skip
        rw [e11] at c17
        rw [xrel_n h c17]
        try rw [xrel_y h g1 c17]
        refine zx_iinc (pc := 34) dX4_release_34 (by decide) rfl rfl ?_
        refine zx_goto (pc := 37) (tgt := 2) dX4_release_37 (by decide) ?_
        exact ih (i + 1) (by omega) (by omega) (by omega)
      · skip
        rw [e11] at c17
        refine zx_aload_n (pc := 20) dX4_release_20 rfl rfl ?_
        refine zg_X4_18 (pc := 21) dX4_release_21 ?_
        refine zx_iload_n (pc := 24) dX4_release_24 rfl rfl ?_
        refine zx_iconst (pc := 25) dX4_release_25 ?_
        refine zx_iastore (pc := 26) aX4_owners dX4_release_26 (by omega) (by omega) (by omega) (fun o => by first | exact o.1 _ (by decide) | exact o.2 _ _ | omega) ?_
        refine zx_aload_n (pc := 27) dX4_release_27 rfl rfl ?_
        refine zg_X4_15 (pc := 28) dX4_release_28 ?_
        refine zx_iload_n (pc := 31) dX4_release_31 rfl rfl ?_
        refine zx_iconst (pc := 32) dX4_release_32 ?_
        refine zx_iastore (pc := 33) aX4_shadows dX4_release_33 (by omega) (by omega) (by omega) (fun o => by first | exact o.1 _ (by decide) | exact o.2 _ _ | omega) ?_
        try rw [xrel_y h g1 c17]
        refine zx_iinc (pc := 34) dX4_release_34 (by decide) rfl rfl ?_
        refine zx_goto (pc := 37) (tgt := 2) dX4_release_37 (by decide) ?_
        exact ih (i + 1) (by omega) (by omega) (by omega)
set_option maxRecDepth 100000 in
theorem C_X4_release {h : zH} (ht : XT h) {a1 : Int} (r1 : -2147483648 ≤ a1 ∧ a1 < 2147483648) : kX4_release a1 h (fun h2 => h2 = x_rel h a1 (gs h 104)) := by
  apply eX4_release
  refine zx_iconst (pc := 0) dX4_release_0 ?_
  refine zx_istore_n (pc := 1) dX4_release_1 rfl (by decide) rfl ?_
  have r := L_X4_release ht r1 65 0 (Int.le_refl _) ht.1 (by have := ht.2; omega)
  rw [xrel_0] at r
  exact r
theorem xshd_0 (h : zH) (t : Int) : x_shd h t 0 = h := by
  apply zH_ext
  · intro k; rfl
  · intro c j
    rw [ga_xshd, if_neg (by omega)]
theorem xshd_y (h : zH) {t n : Int} (h0 : 0 ≤ n) (e : ga h 23 n = t) : pa (x_shd h t n) 21 n (ga h 22 n) = x_shd h t (n + 1) := by
  apply zH_ext
  · intro k; rfl
  · intro c j
    simp only [ga_pa, ga_xshd]
    grind
theorem xshd_n (h : zH) {t n : Int} (e : ga h 23 n ≠ t) : x_shd h t n = x_shd h t (n + 1) := by
  apply zH_ext
  · intro k; rfl
  · intro c j
    simp only [ga_xshd]
    grind
set_option maxRecDepth 100000 in
theorem L_X4_commitShadows {h : zH} (ht : XT h) {a1 : Int} (r1 : -2147483648 ≤ a1 ∧ a1 < 2147483648) : ∀ (n : Nat) (i : Int), 0 ≤ i → i ≤ gs h 104 → gs h 104 - i < n → zX cX zNo RX4 cX4_commitShadows 3 none rX4_commitShadows 2 [some (.ref 5), some (.int (iI a1)), some (.int (iI i))] [] (x_shd h a1 i) (zEv cX (fun h2 => h2 = x_cms h a1)) := by
  obtain ⟨t1, t2⟩ := ht
  intro n
  induction n with
  | zero => intro i g1 g2 g3; omega
  | succ n ih =>
    intro i g1 g2 g3
    have e3 : gs (x_shd h a1 i) 104 = gs h 104 := rfl
    have e11 : ga (x_shd h a1 i) 23 i = ga h 23 i := by rw [ga_xshd, if_neg (by omega)]
    have e12 : ga (x_shd h a1 i) 22 i = ga h 22 i := by rw [ga_xshd, if_neg (by omega)]
    refine zx_iload_n (pc := 2) dX4_commitShadows_2 rfl rfl ?_
    refine zx_aload_n (pc := 3) dX4_commitShadows_3 rfl rfl ?_
    refine zg_X4_24 (pc := 4) dX4_commitShadows_4 ?_
    refine zx_icmp_ge (pc := 7) (tgt := 38) dX4_commitShadows_7 (by decide) (fun o => by first | exact o.1 _ (by decide) | exact o.2 _ _ | omega) (fun o => by first | exact o.1 _ (by decide) | exact o.2 _ _ | omega) (fun c7 => ?_) (fun c7 => ?_)
    · skip
      rw [e3] at c7
      refine zx_aload_n (pc := 38) dX4_commitShadows_38 rfl rfl ?_
      refine zx_iload_n (pc := 39) dX4_commitShadows_39 rfl rfl ?_
      refine zi_X4_45 (pc := 40) dX4_commitShadows_40 (C_X4_release (h := x_shd h a1 i) ⟨t1, t2⟩ r1) (by decide) (Nat.le_of_ble_eq_true rfl) (fun h40 q40 => ?_)
      rw [q40]
      clear q40 h40
      refine zx_vret (pc := 43) dX4_commitShadows_43 ?_
      have e : i = gs h 104 := by omega
      rw [e]
      rfl
    · skip
      rw [e3] at c7
      refine zx_aload_n (pc := 10) dX4_commitShadows_10 rfl rfl ?_
      refine zg_X4_18 (pc := 11) dX4_commitShadows_11 ?_
      refine zx_iload_n (pc := 14) dX4_commitShadows_14 rfl rfl ?_
      refine zx_iaload (pc := 15) aX4_owners dX4_commitShadows_15 (by omega) (by omega) (by omega) ?_
      refine zx_iload_n (pc := 16) dX4_commitShadows_16 rfl rfl ?_
      refine zx_icmp_ne (pc := 17) (tgt := 32) dX4_commitShadows_17 (by decide) (fun o => by first | exact o.1 _ (by decide) | exact o.2 _ _ | omega) (fun o => by first | exact o.1 _ (by decide) | exact o.2 _ _ | omega) (fun c17 => ?_) (fun c17 => ?_)
      · skip
        rw [e11] at c17
        rw [xshd_n h c17]
        try rw [e12, xshd_y h g1 c17]
        refine zx_iinc (pc := 32) dX4_commitShadows_32 (by decide) rfl rfl ?_
        refine zx_goto (pc := 35) (tgt := 2) dX4_commitShadows_35 (by decide) ?_
        exact ih (i + 1) (by omega) (by omega) (by omega)
      · skip
        rw [e11] at c17
        refine zx_aload_n (pc := 20) dX4_commitShadows_20 rfl rfl ?_
        refine zg_X4_9 (pc := 21) dX4_commitShadows_21 ?_
        refine zx_iload_n (pc := 24) dX4_commitShadows_24 rfl rfl ?_
        refine zx_aload_n (pc := 25) dX4_commitShadows_25 rfl rfl ?_
        refine zg_X4_15 (pc := 26) dX4_commitShadows_26 ?_
        refine zx_iload_n (pc := 29) dX4_commitShadows_29 rfl rfl ?_
        refine zx_iaload (pc := 30) aX4_shadows dX4_commitShadows_30 (by omega) (by omega) (by omega) ?_
        refine zx_iastore (pc := 31) aX4_committed dX4_commitShadows_31 (by omega) (by omega) (by omega) (fun o => by first | exact o.1 _ (by decide) | exact o.2 _ _ | omega) ?_
        try rw [e12, xshd_y h g1 c17]
        refine zx_iinc (pc := 32) dX4_commitShadows_32 (by decide) rfl rfl ?_
        refine zx_goto (pc := 35) (tgt := 2) dX4_commitShadows_35 (by decide) ?_
        exact ih (i + 1) (by omega) (by omega) (by omega)
set_option maxRecDepth 100000 in
theorem C_X4_commitShadows {h : zH} (ht : XT h) {a1 : Int} (r1 : -2147483648 ≤ a1 ∧ a1 < 2147483648) : kX4_commitShadows a1 h (fun h2 => h2 = x_cms h a1) := by
  apply eX4_commitShadows
  refine zx_iconst (pc := 0) dX4_commitShadows_0 ?_
  refine zx_istore_n (pc := 1) dX4_commitShadows_1 rfl (by decide) rfl ?_
  have r := L_X4_commitShadows ht r1 65 0 (Int.le_refl _) ht.1 (by have := ht.2; omega)
  rw [xshd_0] at r
  exact r
set_option maxRecDepth 100000 in
theorem C_X4_hasReader {h : zH} (hr : XR h) {a1 : Int} (r1 : -2147483648 ≤ a1 ∧ a1 < 2147483648) : kX4_hasReader a1 h (fun r h2 => r = b2i (xRd h a1) ∧ h2 = h) := by
  obtain ⟨u1, u2⟩ := hr
  apply eX4_hasReader
  refine zx_iload_n (pc := 0) dX4_hasReader_0 rfl rfl ?_
  refine zx_if_lt (pc := 1) (tgt := 25) dX4_hasReader_1 (by decide) (fun o => by first | exact o.1 _ (by decide) | exact o.2 _ _ | omega) (fun c1 => ?_) (fun c1 => ?_)
  · skip
    refine zx_iconst (pc := 25) dX4_hasReader_25 ?_
    refine zx_zret (pc := 26) dX4_hasReader_26 (by omega) ?_
    refine ⟨?_, rfl⟩
    first | exact (b2i_t (by unfold xRd xBit; exact ⟨⟨by omega, by omega⟩, by omega⟩)).symm | exact (b2i_f (by unfold xRd xBit; omega)).symm
  · skip
    have d := bt_dr2 (i := a1) (c := gs h 106)
    refine zx_iload_n (pc := 4) dX4_hasReader_4 rfl rfl ?_
    refine zx_iconst (pc := 5) dX4_hasReader_5 ?_
    refine zx_icmp_ge (pc := 6) (tgt := 25) dX4_hasReader_6 (by decide) (fun o => by first | exact o.1 _ (by decide) | exact o.2 _ _ | omega) (fun o => by first | exact o.1 _ (by decide) | exact o.2 _ _ | omega) (fun c6 => ?_) (fun c6 => ?_)
    · skip
      refine zx_iconst (pc := 25) dX4_hasReader_25 ?_
      refine zx_zret (pc := 26) dX4_hasReader_26 (by omega) ?_
      refine ⟨?_, rfl⟩
      first | exact (b2i_t (by unfold xRd xBit; exact ⟨⟨by omega, by omega⟩, by omega⟩)).symm | exact (b2i_f (by unfold xRd xBit; omega)).symm
    · skip
      refine zx_aload_n (pc := 9) dX4_hasReader_9 rfl rfl ?_
      refine zg_X4_34 (pc := 10) dX4_hasReader_10 ?_
      refine zx_iload_n (pc := 13) dX4_hasReader_13 rfl rfl ?_
      refine zx_iushr (pc := 14) dX4_hasReader_14 (bt_shr2 (by omega) (by omega) u1 u2) ?_
      refine zx_iconst (pc := 15) dX4_hasReader_15 ?_
      refine zx_iand (pc := 16) dX4_hasReader_16 (bt_and2 (d (by omega) (by omega) u1 u2).1 (d (by omega) (by omega) u1 u2).2) ?_
      refine zx_iconst (pc := 17) dX4_hasReader_17 ?_
      refine zx_icmp_ne (pc := 18) (tgt := 25) dX4_hasReader_18 (by decide) (fun o => by first | exact o.1 _ (by decide) | exact o.2 _ _ | omega) (fun o => by first | exact o.1 _ (by decide) | exact o.2 _ _ | omega) (fun c18 => ?_) (fun c18 => ?_)
      · skip
        refine zx_iconst (pc := 25) dX4_hasReader_25 ?_
        refine zx_zret (pc := 26) dX4_hasReader_26 (by omega) ?_
        refine ⟨?_, rfl⟩
        first | exact (b2i_t (by unfold xRd xBit; exact ⟨⟨by omega, by omega⟩, by omega⟩)).symm | exact (b2i_f (by unfold xRd xBit; omega)).symm
      · skip
        refine zx_iconst (pc := 21) dX4_hasReader_21 ?_
        refine zx_goto (pc := 22) (tgt := 26) dX4_hasReader_22 (by decide) ?_
        refine zx_zret (pc := 26) dX4_hasReader_26 (by omega) ?_
        refine ⟨?_, rfl⟩
        first | exact (b2i_t (by unfold xRd xBit; exact ⟨⟨by omega, by omega⟩, by omega⟩)).symm | exact (b2i_f (by unfold xRd xBit; omega)).symm
set_option maxRecDepth 100000 in
theorem C_X4_versionKeptBy {h : zH} (hr : XR h) (ht : XT h) {a1 a2 : Int} (r1 : -2147483648 ≤ a1 ∧ a1 < 2147483648) (r2 : -2147483648 ≤ a2 ∧ a2 < 2147483648) : kX4_versionKeptBy a1 a2 h (fun r h2 => r = xKept h a1 a2 ∧ h2 = h) := by
  obtain ⟨t1, t2⟩ := ht
  apply eX4_versionKeptBy
  unfold xKept
  refine zx_aload_n (pc := 0) dX4_versionKeptBy_0 rfl rfl ?_
  refine zx_iload_n (pc := 1) dX4_versionKeptBy_1 rfl rfl ?_
  refine zi_X4_49 (pc := 2) dX4_versionKeptBy_2 (C_X4_hasReader hr r1) (by decide) (Nat.le_of_ble_eq_true rfl) (fun z2 h2 u2 v2 q2 => ?_)
  obtain ⟨rfl, e2⟩ := q2
  rw [e2]
  clear e2 h2
  refine zx_if_eq (pc := 5) (tgt := 30) dX4_versionKeptBy_5 (by decide) (fun o => by first | exact o.1 _ (by decide) | exact o.2 _ _ | omega) (fun c5 => ?_) (fun c5 => ?_)
  · skip
    try replace c5 := b2i_0.mp c5
    rw [ifp_f (fun z => c5 z.1)]
    refine zx_iconst (pc := 30) dX4_versionKeptBy_30 ?_
    refine zx_iret (pc := 31) dX4_versionKeptBy_31 (fun o => by first | exact o.1 _ (by decide) | exact o.2 _ _ | omega) ?_
    exact ⟨rfl, rfl⟩
  · skip
    try replace c5 := b2i_n0.mp c5
    refine zx_aload_n (pc := 8) dX4_versionKeptBy_8 rfl rfl ?_
    refine zx_iload_n (pc := 9) dX4_versionKeptBy_9 rfl rfl ?_
    refine zi_X4_37 (pc := 10) dX4_versionKeptBy_10 (C_X4_has r2) (by decide) (Nat.le_of_ble_eq_true rfl) (fun z10 h10 u10 v10 q10 => ?_)
    obtain ⟨rfl, e10⟩ := q10
    rw [e10]
    clear e10 h10
    refine zx_if_eq (pc := 13) (tgt := 30) dX4_versionKeptBy_13 (by decide) (fun o => by first | exact o.1 _ (by decide) | exact o.2 _ _ | omega) (fun c13 => ?_) (fun c13 => ?_)
    · skip
      try replace c13 := b2i_0.mp c13
      rw [ifp_f (fun z => c13 z.2)]
      refine zx_iconst (pc := 30) dX4_versionKeptBy_30 ?_
      refine zx_iret (pc := 31) dX4_versionKeptBy_31 (fun o => by first | exact o.1 _ (by decide) | exact o.2 _ _ | omega) ?_
      exact ⟨rfl, rfl⟩
    · skip
      try replace c13 := b2i_n0.mp c13
      rw [ifp_t ⟨c5, c13⟩]
      obtain ⟨⟨k1, k2⟩, k3⟩ := c5
      obtain ⟨k4, k5⟩ := c13
      refine zx_aload_n (pc := 16) dX4_versionKeptBy_16 rfl rfl ?_
      refine zg_X4_21 (pc := 17) dX4_versionKeptBy_17 ?_
      refine zx_iload_n (pc := 20) dX4_versionKeptBy_20 rfl rfl ?_
      refine zx_bipush (pc := 21) dX4_versionKeptBy_21 (by decide +kernel) ?_
      refine zx_imul (pc := 23) dX4_versionKeptBy_23 ?_
      refine zx_iload_n (pc := 24) dX4_versionKeptBy_24 rfl rfl ?_
      refine zx_iadd (pc := 25) dX4_versionKeptBy_25 ?_
      refine zx_iaload (pc := 26) aX4_kept dX4_versionKeptBy_26 (by omega) (by omega) (by omega) ?_
      refine zx_goto (pc := 27) (tgt := 31) dX4_versionKeptBy_27 (by decide) ?_
      refine zx_iret (pc := 31) dX4_versionKeptBy_31 (fun o => by first | exact o.1 _ (by decide) | exact o.2 _ _ | omega) ?_
      exact ⟨rfl, rfl⟩
set_option maxRecDepth 100000 in
theorem L_X4_removeReader {h : zH} {a1 : Int} (k9 : 0 ≤ gs h 106 ∧ gs h 106 < 16) : zX cX zNo RX4 cX4_removeReader 2 (some .int) rX4_removeReader 26 [some (.ref 5), some (.int (iI a1))] [.int (iI (gs h 106))] h (zEi cX (fun r h2 => r = xPop (gs h 106) ∧ h2 = h)) := by
  refine zx_invSk (as := [.int (iI (gs h 106))]) (n := 1) dX4_removeReader_26 zl_X4_52 zc_J6_bitCount ⟨rfl, by decide +kernel⟩ ⟨rfl, rfl⟩ ⟨Nat.le_of_ble_eq_true rfl, Nat.le_of_ble_eq_true rfl⟩ (K_J6_bitCount _ k9) rfl (by decide) (fun z26 h26 u26 v26 q26 => ?_)
  obtain ⟨rfl, e26⟩ := q26
  rw [e26]
  refine zx_iret (pc := 29) dX4_removeReader_29 (fun _ => ⟨u26, v26⟩) ?_
  exact ⟨rfl, rfl⟩
set_option maxRecDepth 100000 in
theorem C_X4_removeReader {h : zH} (hr : XR h) {a1 : Int} (r1 : -2147483648 ≤ a1 ∧ a1 < 2147483648) : kX4_removeReader a1 h (fun r h2 => r = xPop (gs (x_remR h a1) 106) ∧ h2 = x_remR h a1) := by
  have hr0 := hr
  obtain ⟨w1, w2⟩ := hr
  apply eX4_removeReader
  unfold x_remR
  refine zx_aload_n (pc := 0) dX4_removeReader_0 rfl rfl ?_
  refine zx_iload_n (pc := 1) dX4_removeReader_1 rfl rfl ?_
  refine zi_X4_49 (pc := 2) dX4_removeReader_2 (C_X4_hasReader hr0 r1) (by decide) (Nat.le_of_ble_eq_true rfl) (fun z2 h2 u2 v2 q2 => ?_)
  obtain ⟨rfl, e2⟩ := q2
  rw [e2]
  clear e2 h2
  refine zx_if_eq (pc := 5) (tgt := 22) dX4_removeReader_5 (by decide) (fun o => by first | exact o.1 _ (by decide) | exact o.2 _ _ | omega) (fun c5 => ?_) (fun c5 => ?_)
  · skip
    try replace c5 := b2i_0.mp c5
    rw [ifp_f c5]
    refine zx_aload_n (pc := 22) dX4_removeReader_22 rfl rfl ?_
    refine zg_X4_34 (pc := 23) dX4_removeReader_23 ?_
    first
    | exact L_X4_removeReader hr0
    | exact L_X4_removeReader (h := ps h 106 (gs h 106 - 2 ^ a1.toNat)) (bt_clrr2 k1 k2 w1 w2 k3)
  · skip
    try replace c5 := b2i_n0.mp c5
    rw [ifp_t c5]
    obtain ⟨⟨k1, k2⟩, k3⟩ := c5
    refine zx_aload_n (pc := 8) dX4_removeReader_8 rfl rfl ?_
    refine zx_dup (pc := 9) dX4_removeReader_9 rfl ?_
    refine zg_X4_34 (pc := 10) dX4_removeReader_10 ?_
    refine zx_iconst (pc := 13) dX4_removeReader_13 ?_
    refine zx_iload_n (pc := 14) dX4_removeReader_14 rfl rfl ?_
    refine zx_ishl (pc := 15) dX4_removeReader_15 rfl ?_
    refine zx_iconst (pc := 16) dX4_removeReader_16 ?_
    refine zx_ixor (pc := 17) dX4_removeReader_17 rfl ?_
    refine zx_iand (pc := 18) dX4_removeReader_18 (bt_clr2 k1 k2 w1 w2 k3) ?_
    refine zp_X4_34 (pc := 19) dX4_removeReader_19 (fun _ => by have := bt_clrr2 k1 k2 w1 w2 k3; omega) ?_
    refine zx_aload_n (pc := 22) dX4_removeReader_22 rfl rfl ?_
    refine zg_X4_34 (pc := 23) dX4_removeReader_23 ?_
    first
    | exact L_X4_removeReader hr0
    | exact L_X4_removeReader (h := ps h 106 (gs h 106 - 2 ^ a1.toNat)) (bt_clrr2 k1 k2 w1 w2 k3)
set_option maxRecDepth 100000 in
theorem L_X4_addReader {h0 : zH} {x : Int} (hx : 0 ≤ x) (hx2 : x < 4) (Q : Int → zH → Prop) (hQ : Q x (x_rdv h0 x 64)) : ∀ (n : Nat) (i : Int), 0 ≤ i → i ≤ 64 → 64 - i < n → zX cX zNo RX4 cX4_addReader 3 (some .int) rX4_addReader 29 [some (.ref 5), some (.int (iI x)), some (.int (iI i))] [] (x_rdv h0 x i) (zEi cX Q) := by
  intro n
  induction n with
  | zero => intro i g1 g2 g3; omega
  | succ n ih =>
    intro i g1 g2 g3
    have e10 : ga (x_rdv h0 x i) 21 i = ga h0 21 i := by rw [ga_xrdv, if_neg (by omega)]
    have e : pa (x_rdv h0 x i) 24 (x * 64 + i) (ga h0 21 i) = x_rdv h0 x (i + 1) := by
      apply zH_ext
      · intro k; rfl
      · intro c j
        simp only [ga_pa, ga_xrdv]
        by_cases q : c = 24 ∧ j = x * 64 + i
        · rw [if_pos q, if_pos (by omega)]
          rw [q.2]
          congr 1
          omega
        · rw [if_neg q]
          by_cases w : c = 24 ∧ x * 64 ≤ j ∧ j < x * 64 + i
          · rw [if_pos w, if_pos (by omega)]
          · rw [if_neg w, if_neg (by omega)]
    refine zx_iload_n (pc := 29) dX4_addReader_29 rfl rfl ?_
    refine zx_bipush (pc := 30) dX4_addReader_30 (by decide +kernel) ?_
    refine zx_icmp_ge (pc := 32) (tgt := 58) dX4_addReader_32 (by decide) (fun o => by first | exact o.1 _ (by decide) | exact o.2 _ _ | omega) (fun o => by first | exact o.1 _ (by decide) | exact o.2 _ _ | omega) (fun c32 => ?_) (fun c32 => ?_)
    · skip
      refine zx_iload_n (pc := 58) dX4_addReader_58 rfl rfl ?_
      refine zx_iret (pc := 59) dX4_addReader_59 (fun o => by first | exact o.1 _ (by decide) | exact o.2 _ _ | omega) ?_
      have e2 : i = 64 := by omega
      rw [e2]
      exact hQ
    · skip
      refine zx_aload_n (pc := 35) dX4_addReader_35 rfl rfl ?_
      refine zg_X4_21 (pc := 36) dX4_addReader_36 ?_
      refine zx_iload_n (pc := 39) dX4_addReader_39 rfl rfl ?_
      refine zx_bipush (pc := 40) dX4_addReader_40 (by decide +kernel) ?_
      refine zx_imul (pc := 42) dX4_addReader_42 ?_
      refine zx_iload_n (pc := 43) dX4_addReader_43 rfl rfl ?_
      refine zx_iadd (pc := 44) dX4_addReader_44 ?_
      refine zx_aload_n (pc := 45) dX4_addReader_45 rfl rfl ?_
      refine zg_X4_9 (pc := 46) dX4_addReader_46 ?_
      refine zx_iload_n (pc := 49) dX4_addReader_49 rfl rfl ?_
      refine zx_iaload (pc := 50) aX4_committed dX4_addReader_50 (by omega) (by omega) (by omega) ?_
      refine zx_iastore (pc := 51) aX4_kept dX4_addReader_51 (by omega) (by omega) (by omega) (fun o => by first | exact o.1 _ (by decide) | exact o.2 _ _ | omega) ?_
      refine zx_iinc (pc := 52) dX4_addReader_52 (by decide) rfl rfl ?_
      refine zx_goto (pc := 55) (tgt := 29) dX4_addReader_55 (by decide) ?_
      rw [e10, e]
      exact ih (i + 1) (by omega) (by omega) (by omega)
theorem xrdv_0 (h : zH) (r : Int) : x_rdv h r 0 = h := by
  apply zH_ext
  · intro k; rfl
  · intro c j
    rw [ga_xrdv, if_neg (by omega)]
theorem x_addR_e {h : zH} {z : Int} (e : xNewRd h = z) : x_addR h = ifp (z = -1) h (x_rdv (ps h 106 (gs h 106 + 2 ^ z.toNat)) z 64) := by
  unfold x_addR
  rw [e]
set_option maxRecDepth 100000 in
theorem L2_X4_addReader {h : zH} (hr : XR h) : ∀ (n : Nat) (i : Int), 0 ≤ i → i + n = 4 → xNewRd h = ff (fun r => ¬ xBit (gs h 106) r) i n → zX cX zNo RX4 cX4_addReader 3 (some .int) rX4_addReader 2 [some (.ref 5), some (.int (iI i)), none] [] h (zEi cX (fun r h2 => r = xNewRd h ∧ h2 = x_addR h)) := by
  have hr0 := hr
  obtain ⟨u1, u2⟩ := hr
  intro n
  induction n with
  | zero =>
    intro i g1 g2 g3
    rw [ff] at g3
    refine zx_iload_n (pc := 2) dX4_addReader_2 rfl rfl ?_
    refine zx_iconst (pc := 3) dX4_addReader_3 ?_
    refine zx_icmp_ge (pc := 4) (tgt := 66) dX4_addReader_4 (by decide) (fun o => by first | exact o.1 _ (by decide) | exact o.2 _ _ | omega) (fun o => by first | exact o.1 _ (by decide) | exact o.2 _ _ | omega) (fun c4 => ?_) (fun c4 => absurd c4 (by omega))
    refine zx_iconst (pc := 66) dX4_addReader_66 ?_
    refine zx_iret (pc := 67) dX4_addReader_67 (fun o => by first | exact o.1 _ (by decide) | exact o.2 _ _ | omega) ?_
    refine ⟨g3.symm, ?_⟩
    rw [x_addR_e g3, ifp_t rfl]
  | succ n ih =>
    intro i g1 g2 g3
    rw [ff] at g3
    refine zx_iload_n (pc := 2) dX4_addReader_2 rfl rfl ?_
    refine zx_iconst (pc := 3) dX4_addReader_3 ?_
    refine zx_icmp_ge (pc := 4) (tgt := 66) dX4_addReader_4 (by decide) (fun o => by first | exact o.1 _ (by decide) | exact o.2 _ _ | omega) (fun o => by first | exact o.1 _ (by decide) | exact o.2 _ _ | omega) (fun c4 => absurd c4 (by omega)) (fun c4 => ?_)
    refine zx_aload_n (pc := 7) dX4_addReader_7 rfl rfl ?_
    refine zx_iload_n (pc := 8) dX4_addReader_8 rfl rfl ?_
    refine zi_X4_49 (pc := 9) dX4_addReader_9 (C_X4_hasReader hr0 (by omega)) (by decide) (Nat.le_of_ble_eq_true rfl) (fun z9 h9 u9 v9 q9 => ?_)
    obtain ⟨rfl, e9⟩ := q9
    rw [e9]
    clear e9 h9
    refine zx_if_ne (pc := 12) (tgt := 60) dX4_addReader_12 (by decide) (fun o => by first | exact o.1 _ (by decide) | exact o.2 _ _ | omega) (fun c12 => ?_) (fun c12 => ?_)
    · skip
      try replace c12 := b2i_n0.mp c12
      rw [ifp_f (fun z => z c12.2)] at g3
      refine zx_iinc (pc := 60) dX4_addReader_60 (by decide) rfl rfl ?_
      refine zx_goto (pc := 63) (tgt := 2) dX4_addReader_63 (by decide) ?_
      exact ih (i + 1) (by omega) (by omega) g3
    · skip
      try replace c12 := b2i_0.mp c12
      have k : ¬ xBit (gs h 106) i := fun z => c12 ⟨⟨g1, by omega⟩, z⟩
      rw [ifp_t k] at g3
      have k2 := bt_orr2 g1 (by omega) u1 u2 k
      refine zx_aload_n (pc := 15) dX4_addReader_15 rfl rfl ?_
      refine zx_dup (pc := 16) dX4_addReader_16 rfl ?_
      refine zg_X4_34 (pc := 17) dX4_addReader_17 ?_
      refine zx_iconst (pc := 20) dX4_addReader_20 ?_
      refine zx_iload_n (pc := 21) dX4_addReader_21 rfl rfl ?_
      refine zx_ishl (pc := 22) dX4_addReader_22 rfl ?_
      refine zx_ior (pc := 23) dX4_addReader_23 (bt_or2 g1 (by omega) u1 u2 k) ?_
      refine zp_X4_34 (pc := 24) dX4_addReader_24 (fun _ => by omega) ?_
      refine zx_iconst (pc := 27) dX4_addReader_27 ?_
      refine zx_istore_n (pc := 28) dX4_addReader_28 rfl (by decide) rfl ?_
      have r := L_X4_addReader (h0 := ps h 106 (gs h 106 + 2 ^ i.toNat)) g1 (by omega) (fun r h2 => r = xNewRd h ∧ h2 = x_addR h) ⟨g3.symm, by rw [x_addR_e g3, ifp_f (by omega)]⟩ 65 0 (Int.le_refl _) (by omega) (by omega)
      rw [xrdv_0] at r
      exact r
set_option maxRecDepth 100000 in
theorem C_X4_addReader {h : zH} (hr : XR h) : kX4_addReader h (fun r h2 => r = xNewRd h ∧ h2 = x_addR h) := by
  apply eX4_addReader
  refine zx_iconst (pc := 0) dX4_addReader_0 ?_
  refine zx_istore_n (pc := 1) dX4_addReader_1 rfl (by decide) rfl ?_
  exact L2_X4_addReader hr 4 0 (Int.le_refl _) (by omega) rfl
set_option maxRecDepth 100000 in
theorem L_X4_keeps {h : zH} (hr : XR h) {a1 a2 : Int} (k1 : 0 ≤ a1) (k2 : a1 < 64) (r2 : -2147483648 ≤ a2 ∧ a2 < 2147483648) (Q : Int → zH → Prop) : ∀ (n : Nat) (i : Int), 0 ≤ i → i + n = 4 → Q (b2i (∃ r : Int, i ≤ r ∧ r < 4 ∧ xBit (gs h 106) r ∧ ga h 24 (r * 64 + a1) = a2)) h → zX cX zNo RX4 cX4_keeps 4 (some .boolean) rX4_keeps 38 [some (.ref 5), some (.int (iI a1)), some (.int (iI a2)), some (.int (iI i))] [] h (zEi cX Q) := by
  obtain ⟨u1, u2⟩ := hr
  intro n
  induction n with
  | zero =>
    intro i g1 g2 hQ
    have e : b2i (∃ r : Int, i ≤ r ∧ r < 4 ∧ xBit (gs h 106) r ∧ ga h 24 (r * 64 + a1) = a2) = 0 := b2i_f (fun ⟨r, z1, z2, _⟩ => by omega)
    rw [e] at hQ
    refine zx_iload_n (pc := 38) dX4_keeps_38 rfl rfl ?_
    refine zx_iconst (pc := 39) dX4_keeps_39 ?_
    refine zx_icmp_ge (pc := 40) (tgt := 78) dX4_keeps_40 (by decide) (fun o => by first | exact o.1 _ (by decide) | exact o.2 _ _ | omega) (fun o => by first | exact o.1 _ (by decide) | exact o.2 _ _ | omega) (fun c40 => ?_) (fun c40 => absurd c40 (by omega))
    refine zx_iconst (pc := 78) dX4_keeps_78 ?_
    refine zx_zret (pc := 79) dX4_keeps_79 (by omega) ?_
    exact hQ
  | succ n ih =>
    intro i g1 g2 hQ
    have d := bt_dr2 (i := i) (c := gs h 106) g1 (by omega) u1 u2
    have nx (z : ¬ (xBit (gs h 106) i ∧ ga h 24 (i * 64 + a1) = a2)) : b2i (∃ r : Int, i ≤ r ∧ r < 4 ∧ xBit (gs h 106) r ∧ ga h 24 (r * 64 + a1) = a2) = b2i (∃ r : Int, i + 1 ≤ r ∧ r < 4 ∧ xBit (gs h 106) r ∧ ga h 24 (r * 64 + a1) = a2) := by
      refine b2i_c ⟨fun ⟨r, z1, z2, z3, z4⟩ => ⟨r, ?_, z2, z3, z4⟩, fun ⟨r, z1, z2, z3, z4⟩ => ⟨r, by omega, z2, z3, z4⟩⟩
      by_cases q : r = i
      · subst q; exact absurd ⟨z3, z4⟩ z
      · omega
    refine zx_iload_n (pc := 38) dX4_keeps_38 rfl rfl ?_
    refine zx_iconst (pc := 39) dX4_keeps_39 ?_
    refine zx_icmp_ge (pc := 40) (tgt := 78) dX4_keeps_40 (by decide) (fun o => by first | exact o.1 _ (by decide) | exact o.2 _ _ | omega) (fun o => by first | exact o.1 _ (by decide) | exact o.2 _ _ | omega) (fun c40 => absurd c40 (by omega)) (fun c40 => ?_)
    refine zx_aload_n (pc := 43) dX4_keeps_43 rfl rfl ?_
    refine zg_X4_34 (pc := 44) dX4_keeps_44 ?_
    refine zx_iload_n (pc := 47) dX4_keeps_47 rfl rfl ?_
    refine zx_iushr (pc := 48) dX4_keeps_48 (bt_shr2 g1 (by omega) u1 u2) ?_
    refine zx_iconst (pc := 49) dX4_keeps_49 ?_
    refine zx_iand (pc := 50) dX4_keeps_50 (bt_and2 d.1 d.2) ?_
    refine zx_iconst (pc := 51) dX4_keeps_51 ?_
    refine zx_icmp_ne (pc := 52) (tgt := 72) dX4_keeps_52 (by decide) (fun o => by first | exact o.1 _ (by decide) | exact o.2 _ _ | omega) (fun o => by first | exact o.1 _ (by decide) | exact o.2 _ _ | omega) (fun c52 => ?_) (fun c52 => ?_)
    · skip
      rw [nx (fun z => c52 z.1)] at hQ
      refine zx_iinc (pc := 72) dX4_keeps_72 (by decide) rfl rfl ?_
      refine zx_goto (pc := 75) (tgt := 38) dX4_keeps_75 (by decide) ?_
      exact ih (i + 1) (by omega) (by omega) hQ
    · skip
      refine zx_aload_n (pc := 55) dX4_keeps_55 rfl rfl ?_
      refine zg_X4_21 (pc := 56) dX4_keeps_56 ?_
      refine zx_iload_n (pc := 59) dX4_keeps_59 rfl rfl ?_
      refine zx_bipush (pc := 60) dX4_keeps_60 (by decide +kernel) ?_
      refine zx_imul (pc := 62) dX4_keeps_62 ?_
      refine zx_iload_n (pc := 63) dX4_keeps_63 rfl rfl ?_
      refine zx_iadd (pc := 64) dX4_keeps_64 ?_
      refine zx_iaload (pc := 65) aX4_kept dX4_keeps_65 (by omega) (by omega) (by omega) ?_
      refine zx_iload_n (pc := 66) dX4_keeps_66 rfl rfl ?_
      refine zx_icmp_ne (pc := 67) (tgt := 72) dX4_keeps_67 (by decide) (fun o => by first | exact o.1 _ (by decide) | exact o.2 _ _ | omega) (fun o => by first | exact o.1 _ (by decide) | exact o.2 _ _ | omega) (fun c67 => ?_) (fun c67 => ?_)
      · skip
        rw [nx (fun z => c67 z.2)] at hQ
        refine zx_iinc (pc := 72) dX4_keeps_72 (by decide) rfl rfl ?_
        refine zx_goto (pc := 75) (tgt := 38) dX4_keeps_75 (by decide) ?_
        exact ih (i + 1) (by omega) (by omega) hQ
      · skip
        rw [b2i_t ⟨i, Int.le_refl _, by omega, c52, c67⟩] at hQ
        refine zx_iconst (pc := 70) dX4_keeps_70 ?_
        refine zx_zret (pc := 71) dX4_keeps_71 (by omega) ?_
        exact hQ
set_option maxRecDepth 100000 in
theorem C_X4_keeps {h : zH} (hr : XR h) (ht : XT h) {a1 a2 : Int} (r1 : -2147483648 ≤ a1 ∧ a1 < 2147483648) (r2 : -2147483648 ≤ a2 ∧ a2 < 2147483648) : kX4_keeps a1 a2 h (fun r h2 => r = b2i (xKeeps h a1 a2) ∧ h2 = h) := by
  obtain ⟨t1, t2⟩ := ht
  apply eX4_keeps
  refine zx_iload_n (pc := 0) dX4_keeps_0 rfl rfl ?_
  refine zx_if_lt (pc := 1) (tgt := 12) dX4_keeps_1 (by decide) (fun o => by first | exact o.1 _ (by decide) | exact o.2 _ _ | omega) (fun c1 => ?_) (fun c1 => ?_)
  · skip
    refine zx_iconst (pc := 12) dX4_keeps_12 ?_
    refine zx_zret (pc := 13) dX4_keeps_13 (by omega) ?_
    exact ⟨(b2i_f (by unfold xKeeps xHas; omega)).symm, rfl⟩
  · skip
    refine zx_iload_n (pc := 4) dX4_keeps_4 rfl rfl ?_
    refine zx_aload_n (pc := 5) dX4_keeps_5 rfl rfl ?_
    refine zg_X4_24 (pc := 6) dX4_keeps_6 ?_
    refine zx_icmp_lt (pc := 9) (tgt := 14) dX4_keeps_9 (by decide) (fun o => by first | exact o.1 _ (by decide) | exact o.2 _ _ | omega) (fun o => by first | exact o.1 _ (by decide) | exact o.2 _ _ | omega) (fun c9 => ?_) (fun c9 => ?_)
    · skip
      refine zx_aload_n (pc := 14) dX4_keeps_14 rfl rfl ?_
      refine zg_X4_9 (pc := 15) dX4_keeps_15 ?_
      refine zx_iload_n (pc := 18) dX4_keeps_18 rfl rfl ?_
      refine zx_iaload (pc := 19) aX4_committed dX4_keeps_19 (by omega) (by omega) (by omega) ?_
      refine zx_iload_n (pc := 20) dX4_keeps_20 rfl rfl ?_
      refine zx_icmp_eq (pc := 21) (tgt := 34) dX4_keeps_21 (by decide) (fun o => by first | exact o.1 _ (by decide) | exact o.2 _ _ | omega) (fun o => by first | exact o.1 _ (by decide) | exact o.2 _ _ | omega) (fun c21 => ?_) (fun c21 => ?_)
      · skip
        refine zx_iconst (pc := 34) dX4_keeps_34 ?_
        refine zx_zret (pc := 35) dX4_keeps_35 (by omega) ?_
        refine ⟨(b2i_t ⟨⟨by omega, by omega⟩, ?_⟩).symm, rfl⟩
        first | exact Or.inl c21 | exact Or.inr (Or.inl c31)
      · skip
        refine zx_aload_n (pc := 24) dX4_keeps_24 rfl rfl ?_
        refine zg_X4_15 (pc := 25) dX4_keeps_25 ?_
        refine zx_iload_n (pc := 28) dX4_keeps_28 rfl rfl ?_
        refine zx_iaload (pc := 29) aX4_shadows dX4_keeps_29 (by omega) (by omega) (by omega) ?_
        refine zx_iload_n (pc := 30) dX4_keeps_30 rfl rfl ?_
        refine zx_icmp_ne (pc := 31) (tgt := 36) dX4_keeps_31 (by decide) (fun o => by first | exact o.1 _ (by decide) | exact o.2 _ _ | omega) (fun o => by first | exact o.1 _ (by decide) | exact o.2 _ _ | omega) (fun c31 => ?_) (fun c31 => ?_)
        · skip
          refine zx_iconst (pc := 36) dX4_keeps_36 ?_
          refine zx_istore_n (pc := 37) dX4_keeps_37 rfl (by decide) rfl ?_
          refine L_X4_keeps hr (by omega) (by omega) r2 (fun r h2 => r = b2i (xKeeps h a1 a2) ∧ h2 = h) 4 0 (Int.le_refl _) (by omega) ⟨b2i_c ⟨fun z => ⟨⟨by omega, by omega⟩, Or.inr (Or.inr z)⟩, fun z => ?_⟩, rfl⟩
          rcases z.2 with z | z | z
          · exact absurd z c21
          · exact absurd z c31
          · exact z
        · skip
          refine zx_iconst (pc := 34) dX4_keeps_34 ?_
          refine zx_zret (pc := 35) dX4_keeps_35 (by omega) ?_
          refine ⟨(b2i_t ⟨⟨by omega, by omega⟩, ?_⟩).symm, rfl⟩
          first | exact Or.inl c21 | exact Or.inr (Or.inl c31)
    · skip
      refine zx_iconst (pc := 12) dX4_keeps_12 ?_
      refine zx_zret (pc := 13) dX4_keeps_13 (by omega) ?_
      exact ⟨(b2i_f (by unfold xKeeps xHas; omega)).symm, rfl⟩

