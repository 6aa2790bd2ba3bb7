/-! the class: the flash. What its methods make of the state, and contracts -/
section ZM
variable {cs : zH → List aC} {G : zGv} {own : String} {cc : ByteArray} {nL : Nat} {ret : Option FieldType} {rm : Room} {pc : Nat} {ls : List (Option Value)} {st : List Value} {h : zH} {E : zF}
theorem zx_mmax {a b : Int} {idx : Nat} (hd : decode cc pc = .ok (.invokestatic idx, 3)) (h1 : Cond.methodLink own idx Lib.Math.max.name ∈ zU) (h2 : Cond.static Lib.Math.max.name ∈ zU) (h3 : Cond.initialized "java/lang/Math" ∈ zU) (h4 : Cond.code Lib.Math.max.name Lib.Math.max.code 2 (some .int) ∈ zU) (hr : 1 ≤ rm.frames ∧ 21 ≤ rm.locals) (hcat : (st.map fun v => v.category).sum ≤ 8) (ra : zOk h → -2147483648 ≤ a ∧ a < 2147483648) (rb : zOk h → -2147483648 ≤ b ∧ b < 2147483648)
    (k : zX cs G own cc nL ret rm (pc + 3) ls (.int (iI (if a < b then b else a)) :: st) h E) : zX cs G own cc nL ret rm pc ls (.int (iI b) :: .int (iI a) :: st) h E := by
  intro p l e s m args below meth c D cA adr A H locs lsa C hA hG hO hK hP hD hS hl
  have hw := C.2.2.2.2.2.1
  refine va_mmax C.1 C.2.1 (by rw [C.2.2.2.1]; exact hl.1.symm) C.2.2.2.2.1 (hw _ h1) (hw _ h2) (hw _ h3) (hw _ h4) hr.1 (by rw [zCats]; omega) (Nat.zero_le _) (Nat.zero_le _) hd ?_
  have e9 := iI_lt (ra hO).1 (ra hO).2 (rb hO).1 (rb hO).2
  have e8 : (if iI a < iI b then iI b else iI a) = iI (if a < b then b else a) := by
    by_cases q : a < b
    · rw [if_pos (e9.mpr q), if_pos q]
    · rw [if_neg (fun z => q (e9.mp z)), if_neg q]
  rw [e8]
  exact k p l e s m args below meth c D cA adr A H locs lsa C hA hG hO hK hP hD hS hl
theorem zx_mmin {a b : Int} {idx : Nat} (hd : decode cc pc = .ok (.invokestatic idx, 3)) (h1 : Cond.methodLink own idx Lib.Math.min.name ∈ zU) (h2 : Cond.static Lib.Math.min.name ∈ zU) (h3 : Cond.initialized "java/lang/Math" ∈ zU) (h4 : Cond.code Lib.Math.min.name Lib.Math.min.code 2 (some .int) ∈ zU) (hr : 1 ≤ rm.frames ∧ 21 ≤ rm.locals) (hcat : (st.map fun v => v.category).sum ≤ 8) (ra : zOk h → -2147483648 ≤ a ∧ a < 2147483648) (rb : zOk h → -2147483648 ≤ b ∧ b < 2147483648)
    (k : zX cs G own cc nL ret rm (pc + 3) ls (.int (iI (if b < a then b else a)) :: st) h E) : zX cs G own cc nL ret rm pc ls (.int (iI b) :: .int (iI a) :: st) h E := by
  intro p l e s m args below meth c D cA adr A H locs lsa C hA hG hO hK hP hD hS hl
  have hw := C.2.2.2.2.2.1
  refine va_mmin C.1 C.2.1 (by rw [C.2.2.2.1]; exact hl.1.symm) C.2.2.2.2.1 (hw _ h1) (hw _ h2) (hw _ h3) (hw _ h4) hr.1 (by rw [zCats]; omega) (Nat.zero_le _) (Nat.zero_le _) hd ?_
  have e9 := iI_lt (rb hO).1 (rb hO).2 (ra hO).1 (ra hO).2
  have e8 : (if iI b < iI a then iI b else iI a) = iI (if b < a then b else a) := by
    by_cases q : b < a
    · rw [if_pos (e9.mpr q), if_pos q]
    · rw [if_neg (fun z => q (e9.mp z)), if_neg q]
  rw [e8]
  exact k p l e s m args below meth c D cA adr A H locs lsa C hA hG hO hK hP hD hS hl
end ZM
theorem zj_ini : Cond.initialized "java/lang/Math" ∈ zU := zm1 (i := 14) (by decide +kernel) rfl
theorem zj_smax : Cond.static Lib.Math.max.name ∈ zU := zm2 (i := 155) (by decide +kernel) rfl
theorem zj_smin : Cond.static Lib.Math.min.name ∈ zU := zm2 (i := 152) (by decide +kernel) rfl
theorem zj_cmax : Cond.code Lib.Math.max.name Lib.Math.max.code 2 (some .int) ∈ zU := zm2 (i := 156) (by decide +kernel) rfl
theorem zj_cmin : Cond.code Lib.Math.min.name Lib.Math.min.code 2 (some .int) ∈ zU := zm2 (i := 153) (by decide +kernel) rfl
def XB (h : zH) : Prop := (0 ≤ gs h 70 ∧ gs h 70 ≤ 32) ∧ (0 ≤ gs h 71 ∧ gs h 71 ≤ 32) ∧ gs h 72 = gs h 70 * gs h 71
def XU (h : zH) : Prop := ∀ b : Int, 0 ≤ b → b < gs h 70 → 0 ≤ ga h 18 b ∧ ga h 18 b ≤ gs h 71
theorem xb_blk {h : zH} (hb : XB h) {b : Int} (h1 : 0 ≤ b) (h2 : b < gs h 70) : 0 ≤ b * gs h 71 ∧ b * gs h 71 + gs h 71 ≤ gs h 72 ∧ gs h 72 ≤ 1024 := by
  obtain ⟨⟨a1, a2⟩, ⟨a3, a4⟩, a5⟩ := hb
  obtain ⟨q1, q2, q3, q4⟩ := mb_blk h1 h2 a2 a3 a4
  rw [a5, Int.mul_comm b, Int.mul_comm (gs h 70)]
  omega
theorem xb_size {h : zH} (hb : XB h) : 0 ≤ gs h 72 ∧ gs h 72 ≤ 1024 := by
  obtain ⟨⟨a1, a2⟩, ⟨a3, a4⟩, a5⟩ := hb
  have q := mb_size a1 a2 a3 a4
  omega
def xBlk (h : zH) (b : Int) : Prop := 0 ≤ b ∧ b < gs h 70
def xPl (h : zH) (i : Int) : Prop := 0 ≤ i ∧ i < gs h 72
def x_clear (h : zH) (p k : Int) : zH := pa (pa (pa (pa (pa (pa (pa h 10 p k) 11 p (-1)) 12 p (-1)) 13 p (-1)) 14 p (-1)) 15 p (-2)) 17 p 0
def x_clrR (h : zH) (a b k : Int) : zH := prr (prr (prr (prr (prr (prr (prr h 10 a b k) 11 a b (-1)) 12 a b (-1)) 13 a b (-1)) 14 a b (-1)) 15 a b (-2)) 17 a b 0
noncomputable def x_arm (h : zH) : zH := ifp (gs h 77 = 0) h (ps h 77 (gs h 77 - 1))
def xOK (h : zH) : Prop := gs h 77 = 0 ∨ gs h 77 - 1 ≠ 0
def x_progOk (h : zH) (p k ix g v : Int) : zH := pa (pa (pa (pa (pa (pa (ps (ps h 73 (wr (gs h 73 + 1))) 74 (wr (gs h 74 + 1))) 10 p k) 11 p ix) 12 p g) 13 p (wr (gs h 73 + 1))) 14 p (wr (gs h 73 + 1))) 15 p v
noncomputable def x_prog (h : zH) (b k ix g v : Int) : zH × Int := ifp (xBlk h b ∧ ga h 18 b < gs h 71) (ifp (xOK h) (x_progOk (x_arm (pa h 18 b (ga h 18 b + 1))) (b * gs h 71 + ga h 18 b) k ix g v, b * gs h 71 + ga h 18 b) (x_clear (x_arm (pa h 18 b (ga h 18 b + 1))) (b * gs h 71 + ga h 18 b) 5, -1)) (h, -1)
def x_mkc (h : zH) (p f : Int) : zH := ps (pa (cp8 (pa h 13 p (ga h 13 f)) 16 p f 16) 17 f 1) 76 (wr (gs h 76 + 1))
noncomputable def x_mkcopy (h : zH) (p f : Int) : zH := ifp (xPl h p ∧ xPl h f) (x_mkc h p f) h
noncomputable def x_erase0 (h : zH) (b : Int) : zH := ifp (xOK h) (ps (pa (pa (x_clrR (x_arm h) (b * gs h 71) (b * gs h 71 + gs h 71) 0) 18 b 0) 19 b (wr (ga h 19 b + 1))) 75 (wr (gs h 75 + 1))) (pa (x_clrR (x_arm h) (b * gs h 71) (b * gs h 71 + gs h 71) 5) 18 b (gs h 71))
noncomputable def x_erase (h : zH) (b : Int) : zH := ifp (xBlk h b) (x_erase0 h b) h
def xFree (h : zH) (act b : Int) : Prop := ga h 18 b = 0 ∧ b ≠ act
noncomputable def xFreeMany (h : zH) (act : Int) : Int := cnt (xFree h act) 0 (gs h 70).toNat
noncomputable def xFB (h : zH) (act : Int) : Nat → Int
  | 0 => -1
  | n + 1 => ifp (xFree h act n ∧ (xFB h act n < 0 ∨ ga h 19 n < ga h 19 (xFB h act n))) (n : Int) (xFB h act n)
noncomputable def xFblk (h : zH) (act : Int) : Int := xFB h act (gs h 70).toNat
noncomputable def xTorn (h : zH) (b : Int) : Int := ifp (xBlk h b) (cnt (fun i => ga h 10 i = 5) (b * gs h 71) (gs h 71).toNat) 0
set_option maxRecDepth 100000 in
theorem C_X1_hasBlock {h : zH} {a1 : Int} (r1 : -2147483648 ≤ a1 ∧ a1 < 2147483648) : kX1_hasBlock a1 h (fun r h2 => r = b2i (xBlk h a1) ∧ h2 = h) := by
  apply eX1_hasBlock
  refine zx_iload_n (pc := 0) dX1_hasBlock_0 rfl rfl ?_
  refine zx_if_lt (pc := 1) (tgt := 16) dX1_hasBlock_1 (by decide) (fun o => by first | exact o.1 _ (by decide) | exact o.2 _ _ | omega) (fun c1 => ?_) (fun c1 => ?_)
  · skip
    refine zx_iconst (pc := 16) dX1_hasBlock_16 ?_
    refine zx_zret (pc := 17) dX1_hasBlock_17 (by omega) ?_
    refine ⟨?_, rfl⟩
    first | exact (b2i_t (by unfold xBlk; omega)).symm | exact (b2i_f (by unfold xBlk; omega)).symm
  · skip
    refine zx_iload_n (pc := 4) dX1_hasBlock_4 rfl rfl ?_
    refine zx_aload_n (pc := 5) dX1_hasBlock_5 rfl rfl ?_
    refine zg_X1_43 (pc := 6) dX1_hasBlock_6 ?_
    refine zx_icmp_ge (pc := 9) (tgt := 16) dX1_hasBlock_9 (by decide) (fun o => by first | exact o.1 _ (by decide) | exact o.2 _ _ | omega) (fun o => by first | exact o.1 _ (by decide) | exact o.2 _ _ | omega) (fun c9 => ?_) (fun c9 => ?_)
    · skip
      refine zx_iconst (pc := 16) dX1_hasBlock_16 ?_
      refine zx_zret (pc := 17) dX1_hasBlock_17 (by omega) ?_
      refine ⟨?_, rfl⟩
      first | exact (b2i_t (by unfold xBlk; omega)).symm | exact (b2i_f (by unfold xBlk; omega)).symm
    · skip
      refine zx_iconst (pc := 12) dX1_hasBlock_12 ?_
      refine zx_goto (pc := 13) (tgt := 17) dX1_hasBlock_13 (by decide) ?_
      refine zx_zret (pc := 17) dX1_hasBlock_17 (by omega) ?_
      refine ⟨?_, rfl⟩
      first | exact (b2i_t (by unfold xBlk; omega)).symm | exact (b2i_f (by unfold xBlk; omega)).symm
set_option maxRecDepth 100000 in
theorem C_X1_hasPlace {h : zH} {a1 : Int} (r1 : -2147483648 ≤ a1 ∧ a1 < 2147483648) : kX1_hasPlace a1 h (fun r h2 => r = b2i (xPl h a1) ∧ h2 = h) := by
  apply eX1_hasPlace
  refine zx_iload_n (pc := 0) dX1_hasPlace_0 rfl rfl ?_
  refine zx_if_lt (pc := 1) (tgt := 16) dX1_hasPlace_1 (by decide) (fun o => by first | exact o.1 _ (by decide) | exact o.2 _ _ | omega) (fun c1 => ?_) (fun c1 => ?_)
  · skip
    refine zx_iconst (pc := 16) dX1_hasPlace_16 ?_
    refine zx_zret (pc := 17) dX1_hasPlace_17 (by omega) ?_
    refine ⟨?_, rfl⟩
    first | exact (b2i_t (by unfold xPl; omega)).symm | exact (b2i_f (by unfold xPl; omega)).symm
  · skip
    refine zx_iload_n (pc := 4) dX1_hasPlace_4 rfl rfl ?_
    refine zx_aload_n (pc := 5) dX1_hasPlace_5 rfl rfl ?_
    refine zg_X1_50 (pc := 6) dX1_hasPlace_6 ?_
    refine zx_icmp_ge (pc := 9) (tgt := 16) dX1_hasPlace_9 (by decide) (fun o => by first | exact o.1 _ (by decide) | exact o.2 _ _ | omega) (fun o => by first | exact o.1 _ (by decide) | exact o.2 _ _ | omega) (fun c9 => ?_) (fun c9 => ?_)
    · skip
      refine zx_iconst (pc := 16) dX1_hasPlace_16 ?_
      refine zx_zret (pc := 17) dX1_hasPlace_17 (by omega) ?_
      refine ⟨?_, rfl⟩
      first | exact (b2i_t (by unfold xPl; omega)).symm | exact (b2i_f (by unfold xPl; omega)).symm
    · skip
      refine zx_iconst (pc := 12) dX1_hasPlace_12 ?_
      refine zx_goto (pc := 13) (tgt := 17) dX1_hasPlace_13 (by decide) ?_
      refine zx_zret (pc := 17) dX1_hasPlace_17 (by omega) ?_
      refine ⟨?_, rfl⟩
      first | exact (b2i_t (by unfold xPl; omega)).symm | exact (b2i_f (by unfold xPl; omega)).symm
set_option maxRecDepth 100000 in
theorem C_X1_losesPower {h : zH} (h1 : 0 ≤ gs h 77) : kX1_losesPower h (fun r h2 => r = b2i (¬ xOK h) ∧ h2 = x_arm h) := by
  apply eX1_losesPower
  refine zx_ok (fun ok => ?_)
  have r9 := ok.1 77 (by decide)
  have e : gs h 77 ≠ 0 → gs (ps h 77 (gs h 77 - 1)) 77 = gs h 77 - 1 := fun _ => rfl
  refine zx_aload_n (pc := 0) dX1_losesPower_0 rfl rfl ?_
  refine zg_X1_69 (pc := 1) dX1_losesPower_1 ?_
  refine zx_if_ne (pc := 4) (tgt := 9) dX1_losesPower_4 (by decide) (fun o => by first | exact o.1 _ (by decide) | exact o.2 _ _ | omega) (fun c4 => ?_) (fun c4 => ?_)
  · skip
    refine zx_aload_n (pc := 9) dX1_losesPower_9 rfl rfl ?_
    refine zx_dup (pc := 10) dX1_losesPower_10 rfl ?_
    refine zg_X1_69 (pc := 11) dX1_losesPower_11 ?_
    refine zx_iconst (pc := 14) dX1_losesPower_14 ?_
    refine zx_isub (pc := 15) dX1_losesPower_15 ?_
    refine zp_X1_69 (pc := 16) dX1_losesPower_16 (fun _ => by omega) ?_
    refine zx_aload_n (pc := 19) dX1_losesPower_19 rfl rfl ?_
    refine zg_X1_69 (pc := 20) dX1_losesPower_20 ?_
    refine zx_if_ne (pc := 23) (tgt := 30) dX1_losesPower_23 (by decide) (fun _ => by rw [e c4]; omega) (fun c23 => ?_) (fun c23 => ?_)
    · skip
      refine zx_iconst (pc := 30) dX1_losesPower_30 ?_
      refine zx_zret (pc := 31) dX1_losesPower_31 (by omega) ?_
      rw [e c4] at c23
      refine ⟨?_, (ifp_f c4).symm⟩
      first | exact (b2i_t (by unfold xOK; omega)).symm | exact (b2i_f (by unfold xOK; omega)).symm
    · skip
      refine zx_iconst (pc := 26) dX1_losesPower_26 ?_
      refine zx_goto (pc := 27) (tgt := 31) dX1_losesPower_27 (by decide) ?_
      refine zx_zret (pc := 31) dX1_losesPower_31 (by omega) ?_
      rw [e c4] at c23
      refine ⟨?_, (ifp_f c4).symm⟩
      first | exact (b2i_t (by unfold xOK; omega)).symm | exact (b2i_f (by unfold xOK; omega)).symm
  · skip
    refine zx_iconst (pc := 7) dX1_losesPower_7 ?_
    refine zx_zret (pc := 8) dX1_losesPower_8 (by omega) ?_
    exact ⟨(b2i_f (fun z => z (Or.inl c4))).symm, (ifp_t c4).symm⟩
set_option maxRecDepth 100000 in
theorem C_X1_clearPage {h : zH} {a1 a2 : Int} (h1 : 0 ≤ a1) (h2 : a1 < 1024) (r2 : -2147483648 ≤ a2 ∧ a2 < 2147483648) : kX1_clearPage a1 a2 h (fun h2 => h2 = x_clear h a1 a2) := by
  apply eX1_clearPage
  refine zx_iload_n (pc := 0) dX1_clearPage_0 rfl rfl ?_
  refine zx_if_lt (pc := 1) (tgt := 11) dX1_clearPage_1 (by decide) (fun o => by first | exact o.1 _ (by decide) | exact o.2 _ _ | omega) (fun c1 => absurd c1 (by omega)) (fun c1 => ?_)
  refine zx_iload_n (pc := 4) dX1_clearPage_4 rfl rfl ?_
  refine zx_sipush (pc := 5) dX1_clearPage_5 (by decide +kernel) ?_
  refine zx_icmp_lt (pc := 8) (tgt := 12) dX1_clearPage_8 (by decide) (fun o => by first | exact o.1 _ (by decide) | exact o.2 _ _ | omega) (fun o => by first | exact o.1 _ (by decide) | exact o.2 _ _ | omega) (fun c8 => ?_) (fun c8 => absurd c8 (by omega))
  refine zx_aload_n (pc := 12) dX1_clearPage_12 rfl rfl ?_
  refine zg_X1_9 (pc := 13) dX1_clearPage_13 ?_
  refine zx_iload_n (pc := 16) dX1_clearPage_16 rfl rfl ?_
  refine zx_iload_n (pc := 17) dX1_clearPage_17 rfl rfl ?_
  refine zx_iastore (pc := 18) aX1_kind dX1_clearPage_18 (by omega) (by omega) (by omega) (fun _ => by omega) ?_
  refine zx_aload_n (pc := 19) dX1_clearPage_19 rfl rfl ?_
  refine zg_X1_15 (pc := 20) dX1_clearPage_20 ?_
  refine zx_iload_n (pc := 23) dX1_clearPage_23 rfl rfl ?_
  refine zx_iconst (pc := 24) dX1_clearPage_24 ?_
  refine zx_iastore (pc := 25) aX1_index dX1_clearPage_25 (by omega) (by omega) (by omega) (fun _ => by omega) ?_
  refine zx_aload_n (pc := 26) dX1_clearPage_26 rfl rfl ?_
  refine zg_X1_18 (pc := 27) dX1_clearPage_27 ?_
  refine zx_iload_n (pc := 30) dX1_clearPage_30 rfl rfl ?_
  refine zx_iconst (pc := 31) dX1_clearPage_31 ?_
  refine zx_iastore (pc := 32) aX1_group dX1_clearPage_32 (by omega) (by omega) (by omega) (fun _ => by omega) ?_
  refine zx_aload_n (pc := 33) dX1_clearPage_33 rfl rfl ?_
  refine zg_X1_21 (pc := 34) dX1_clearPage_34 ?_
  refine zx_iload_n (pc := 37) dX1_clearPage_37 rfl rfl ?_
  refine zx_iconst (pc := 38) dX1_clearPage_38 ?_
  refine zx_iastore (pc := 39) aX1_version dX1_clearPage_39 (by omega) (by omega) (by omega) (fun _ => by omega) ?_
  refine zx_aload_n (pc := 40) dX1_clearPage_40 rfl rfl ?_
  refine zg_X1_24 (pc := 41) dX1_clearPage_41 ?_
  refine zx_iload_n (pc := 44) dX1_clearPage_44 rfl rfl ?_
  refine zx_iconst (pc := 45) dX1_clearPage_45 ?_
  refine zx_iastore (pc := 46) aX1_sequence dX1_clearPage_46 (by omega) (by omega) (by omega) (fun _ => by omega) ?_
  refine zx_aload_n (pc := 47) dX1_clearPage_47 rfl rfl ?_
  refine zg_X1_27 (pc := 48) dX1_clearPage_48 ?_
  refine zx_iload_n (pc := 51) dX1_clearPage_51 rfl rfl ?_
  refine zx_bipush (pc := 52) dX1_clearPage_52 (by decide +kernel) ?_
  refine zx_iastore (pc := 54) aX1_value dX1_clearPage_54 (by omega) (by omega) (by omega) (fun _ => by omega) ?_
  refine zx_aload_n (pc := 55) dX1_clearPage_55 rfl rfl ?_
  refine zg_X1_33 (pc := 56) dX1_clearPage_56 ?_
  refine zx_iload_n (pc := 59) dX1_clearPage_59 rfl rfl ?_
  refine zx_iconst (pc := 60) dX1_clearPage_60 ?_
  refine zx_bastore (pc := 61) aX1_copied dX1_clearPage_61 (by omega) (by omega) (by omega) (by omega) (fun _ => by omega) ?_
  refine zx_vret (pc := 62) dX1_clearPage_62 ?_
  rfl
set_option maxRecDepth 100000 in
theorem C_X1_countFreePages {h : zH} (hb : XB h) {a1 : Int} (r1 : -2147483648 ≤ a1 ∧ a1 < 2147483648) (hu : xBlk h a1 → 0 ≤ ga h 18 a1 ∧ ga h 18 a1 ≤ gs h 71) : kX1_countFreePages a1 h (fun r h2 => r = ifp (xBlk h a1) (gs h 71 - ga h 18 a1) 0 ∧ h2 = h) := by
  obtain ⟨⟨b1, b2⟩, ⟨b3, b4⟩, b5⟩ := hb
  apply eX1_countFreePages
  refine zx_aload_n (pc := 0) dX1_countFreePages_0 rfl rfl ?_
  refine zx_iload_n (pc := 1) dX1_countFreePages_1 rfl rfl ?_
  refine zi_X1_72 (pc := 2) dX1_countFreePages_2 (C_X1_hasBlock r1) (by decide) (Nat.le_of_ble_eq_true rfl) (fun z2 h2 u2 v2 q2 => ?_)
  obtain ⟨rfl, e2⟩ := q2
  rw [e2]
  clear e2 h2
  refine zx_if_eq (pc := 5) (tgt := 22) dX1_countFreePages_5 (by decide) (fun o => by first | exact o.1 _ (by decide) | exact o.2 _ _ | omega) (fun c5 => ?_) (fun c5 => ?_)
  · skip
    try replace c5 := b2i_0.mp c5
    rw [ifp_f c5]
    refine zx_iconst (pc := 22) dX1_countFreePages_22 ?_
    refine zx_iret (pc := 23) dX1_countFreePages_23 (fun o => by first | exact o.1 _ (by decide) | exact o.2 _ _ | omega) ?_
    exact ⟨rfl, rfl⟩
  · skip
    try replace c5 := b2i_n0.mp c5
    rw [ifp_t c5]
    have u := hu c5
    obtain ⟨k1, k2⟩ := c5
    refine zx_aload_n (pc := 8) dX1_countFreePages_8 rfl rfl ?_
    refine zg_X1_47 (pc := 9) dX1_countFreePages_9 ?_
    refine zx_aload_n (pc := 12) dX1_countFreePages_12 rfl rfl ?_
    refine zg_X1_37 (pc := 13) dX1_countFreePages_13 ?_
    refine zx_iload_n (pc := 16) dX1_countFreePages_16 rfl rfl ?_
    refine zx_iaload (pc := 17) aX1_used dX1_countFreePages_17 (by omega) (by omega) (by omega) ?_
    refine zx_isub (pc := 18) dX1_countFreePages_18 ?_
    refine zx_goto (pc := 19) (tgt := 23) dX1_countFreePages_19 (by decide) ?_
    refine zx_iret (pc := 23) dX1_countFreePages_23 (fun o => by first | exact o.1 _ (by decide) | exact o.2 _ _ | omega) ?_
    exact ⟨rfl, rfl⟩
theorem gs_xarm (h : zH) (k : Nat) (hk : k ≠ 77) : gs (x_arm h) k = gs h k := by
  unfold x_arm
  rw [gs_if, gs_ps, if_neg hk, ifp_same]
theorem ga_xarm (h : zH) (k : Nat) (i : Int) : ga (x_arm h) k i = ga h k i := by
  unfold x_arm
  rw [ga_if, ga_ps, ifp_same]
set_option maxRecDepth 100000 in
theorem C_X1_program {h : zH} (hb : XB h) (ha : 0 ≤ gs h 77) {a1 a2 a3 a4 a5 : Int} (r1 : -2147483648 ≤ a1 ∧ a1 < 2147483648) (hu : xBlk h a1 → 0 ≤ ga h 18 a1 ∧ ga h 18 a1 ≤ gs h 71) (r2 : -2147483648 ≤ a2 ∧ a2 < 2147483648) (r3 : -2147483648 ≤ a3 ∧ a3 < 2147483648) (r4 : -2147483648 ≤ a4 ∧ a4 < 2147483648) (r5 : -2147483648 ≤ a5 ∧ a5 < 2147483648) : kX1_program a1 a2 a3 a4 a5 h (fun r h2 => r = (x_prog h a1 a2 a3 a4 a5).2 ∧ h2 = (x_prog h a1 a2 a3 a4 a5).1) := by
  have b4 := hb.2.1
  have b1 := hb.1
  apply eX1_program
  unfold x_prog
  refine zx_aload_n (pc := 0) dX1_program_0 rfl rfl ?_
  refine zx_iload_n (pc := 1) dX1_program_1 rfl rfl ?_
  refine zi_X1_72 (pc := 2) dX1_program_2 (C_X1_hasBlock r1) (by decide) (Nat.le_of_ble_eq_true rfl) (fun z2 h2 u2 v2 q2 => ?_)
  obtain ⟨rfl, e2⟩ := q2
  rw [e2]
  clear e2 h2
  refine zx_if_eq (pc := 5) (tgt := 21) dX1_program_5 (by decide) (fun o => by first | exact o.1 _ (by decide) | exact o.2 _ _ | omega) (fun c5 => ?_) (fun c5 => ?_)
  · skip
    try replace c5 := b2i_0.mp c5
    rw [ifp_f (fun z => c5 z.1)]
    refine zx_iconst (pc := 21) dX1_program_21 ?_
    refine zx_iret (pc := 22) dX1_program_22 (fun o => by first | exact o.1 _ (by decide) | exact o.2 _ _ | omega) ?_
    exact ⟨rfl, rfl⟩
  · skip
    try replace c5 := b2i_n0.mp c5
    have u := hu c5
    have q := xb_blk hb c5.1 c5.2
    obtain ⟨k1, k2⟩ := c5
    refine zx_aload_n (pc := 8) dX1_program_8 rfl rfl ?_
    refine zg_X1_37 (pc := 9) dX1_program_9 ?_
    refine zx_iload_n (pc := 12) dX1_program_12 rfl rfl ?_
    refine zx_iaload (pc := 13) aX1_used dX1_program_13 (by omega) (by omega) (by omega) ?_
    refine zx_aload_n (pc := 14) dX1_program_14 rfl rfl ?_
    refine zg_X1_47 (pc := 15) dX1_program_15 ?_
    refine zx_icmp_lt (pc := 18) (tgt := 23) dX1_program_18 (by decide) (fun o => by first | exact o.1 _ (by decide) | exact o.2 _ _ | omega) (fun o => by first | exact o.1 _ (by decide) | exact o.2 _ _ | omega) (fun c18 => ?_) (fun c18 => ?_)
    · skip
      rw [ifp_t ⟨⟨k1, k2⟩, c18⟩]
      refine zx_iload_n (pc := 23) dX1_program_23 rfl rfl ?_
      refine zx_aload_n (pc := 24) dX1_program_24 rfl rfl ?_
      refine zg_X1_47 (pc := 25) dX1_program_25 ?_
      refine zx_imul (pc := 28) dX1_program_28 ?_
      refine zx_aload_n (pc := 29) dX1_program_29 rfl rfl ?_
      refine zg_X1_37 (pc := 30) dX1_program_30 ?_
      refine zx_iload_n (pc := 33) dX1_program_33 rfl rfl ?_
      refine zx_iaload (pc := 34) aX1_used dX1_program_34 (by omega) (by omega) (by omega) ?_
      refine zx_iadd (pc := 35) dX1_program_35 ?_
      refine zx_istore (pc := 36) dX1_program_36 (by decide) rfl ?_
      refine zx_aload_n (pc := 38) dX1_program_38 rfl rfl ?_
      refine zg_X1_37 (pc := 39) dX1_program_39 ?_
      refine zx_iload_n (pc := 42) dX1_program_42 rfl rfl ?_
      refine zx_dup2 (pc := 43) dX1_program_43 rfl rfl ?_
      refine zx_iaload (pc := 44) aX1_used dX1_program_44 (by omega) (by omega) (by omega) ?_
      refine zx_iconst (pc := 45) dX1_program_45 ?_
      refine zx_iadd (pc := 46) dX1_program_46 ?_
      refine zx_iastore (pc := 47) aX1_used dX1_program_47 (by omega) (by omega) (by omega) (fun _ => by omega) ?_
      refine zx_aload_n (pc := 48) dX1_program_48 rfl rfl ?_
      refine zi_X1_76 (pc := 49) dX1_program_49 (C_X1_losesPower (by exact ha)) (by decide) (Nat.le_of_ble_eq_true rfl) (fun z49 h49 u49 v49 q49 => ?_)
      obtain ⟨rfl, e49⟩ := q49
      rw [e49]
      clear e49 h49
      refine zx_if_eq (pc := 52) (tgt := 64) dX1_program_52 (by decide) (fun o => by first | exact o.1 _ (by decide) | exact o.2 _ _ | omega) (fun c52 => ?_) (fun c52 => ?_)
      · skip
        try replace c52 := b2i_0.mp c52
        have c52b : xOK h := Classical.byContradiction c52
        rw [ifp_t c52b]
        refine zx_aload_n (pc := 64) dX1_program_64 rfl rfl ?_
        refine zx_dup (pc := 65) dX1_program_65 rfl ?_
        refine zg_X1_57 (pc := 66) dX1_program_66 ?_
        refine zx_iconst (pc := 69) dX1_program_69 ?_
        refine zx_iadd (pc := 70) dX1_program_70 ?_
        refine zx_wr ?_
        refine zp_X1_57 (pc := 71) dX1_program_71 (fun _ => wr_rng _) ?_
        refine zx_aload_n (pc := 74) dX1_program_74 rfl rfl ?_
        refine zx_dup (pc := 75) dX1_program_75 rfl ?_
        refine zg_X1_60 (pc := 76) dX1_program_76 ?_
        refine zx_iconst (pc := 79) dX1_program_79 ?_
        refine zx_iadd (pc := 80) dX1_program_80 ?_
        refine zx_wr ?_
        refine zp_X1_60 (pc := 81) dX1_program_81 (fun _ => wr_rng _) ?_
        refine zx_aload_n (pc := 84) dX1_program_84 rfl rfl ?_
        refine zg_X1_9 (pc := 85) dX1_program_85 ?_
        refine zx_iload (pc := 88) dX1_program_88 rfl ?_
        refine zx_iload_n (pc := 90) dX1_program_90 rfl rfl ?_
        refine zx_iastore (pc := 91) aX1_kind dX1_program_91 (by omega) (by omega) (by omega) (fun _ => by omega) ?_
        refine zx_aload_n (pc := 92) dX1_program_92 rfl rfl ?_
        refine zg_X1_15 (pc := 93) dX1_program_93 ?_
        refine zx_iload (pc := 96) dX1_program_96 rfl ?_
        refine zx_iload_n (pc := 98) dX1_program_98 rfl rfl ?_
        refine zx_iastore (pc := 99) aX1_index dX1_program_99 (by omega) (by omega) (by omega) (fun _ => by omega) ?_
        refine zx_aload_n (pc := 100) dX1_program_100 rfl rfl ?_
        refine zg_X1_18 (pc := 101) dX1_program_101 ?_
        refine zx_iload (pc := 104) dX1_program_104 rfl ?_
        refine zx_iload (pc := 106) dX1_program_106 rfl ?_
        refine zx_iastore (pc := 108) aX1_group dX1_program_108 (by omega) (by omega) (by omega) (fun _ => by omega) ?_
        refine zx_aload_n (pc := 109) dX1_program_109 rfl rfl ?_
        refine zg_X1_21 (pc := 110) dX1_program_110 ?_
        refine zx_iload (pc := 113) dX1_program_113 rfl ?_
        refine zx_aload_n (pc := 115) dX1_program_115 rfl rfl ?_
        refine zg_X1_57 (pc := 116) dX1_program_116 ?_
        refine zx_iastore (pc := 119) aX1_version dX1_program_119 (by omega) (by omega) (by omega) (fun o => o.1 73 (by decide)) ?_
        refine zx_aload_n (pc := 120) dX1_program_120 rfl rfl ?_
        refine zg_X1_24 (pc := 121) dX1_program_121 ?_
        refine zx_iload (pc := 124) dX1_program_124 rfl ?_
        refine zx_aload_n (pc := 126) dX1_program_126 rfl rfl ?_
        refine zg_X1_57 (pc := 127) dX1_program_127 ?_
        refine zx_iastore (pc := 130) aX1_sequence dX1_program_130 (by omega) (by omega) (by omega) (fun o => o.1 73 (by decide)) ?_
        refine zx_aload_n (pc := 131) dX1_program_131 rfl rfl ?_
        refine zg_X1_27 (pc := 132) dX1_program_132 ?_
        refine zx_iload (pc := 135) dX1_program_135 rfl ?_
        refine zx_iload (pc := 137) dX1_program_137 rfl ?_
        refine zx_iastore (pc := 139) aX1_value dX1_program_139 (by omega) (by omega) (by omega) (fun _ => by omega) ?_
        refine zx_iload (pc := 140) dX1_program_140 rfl ?_
        refine zx_iret (pc := 142) dX1_program_142 (fun o => by first | exact o.1 _ (by decide) | exact o.2 _ _ | omega) ?_
        refine ⟨rfl, ?_⟩
        simp only [x_progOk, gs_ps]
        rfl
      · skip
        try replace c52 := b2i_n0.mp c52
        have c52b : ¬ xOK h := c52
        rw [ifp_f c52b]
        refine zx_aload_n (pc := 55) dX1_program_55 rfl rfl ?_
        refine zx_iload (pc := 56) dX1_program_56 rfl ?_
        refine zx_iconst (pc := 58) dX1_program_58 ?_
        refine zi_X1_53 (pc := 59) dX1_program_59 (C_X1_clearPage (by omega) (by omega) (by omega)) (by decide) (Nat.le_of_ble_eq_true rfl) (fun h59 q59 => ?_)
        rw [q59]
        clear q59 h59
        refine zx_iconst (pc := 62) dX1_program_62 ?_
        refine zx_iret (pc := 63) dX1_program_63 (fun o => by first | exact o.1 _ (by decide) | exact o.2 _ _ | omega) ?_
        exact ⟨rfl, rfl⟩
    · skip
      rw [ifp_f (fun z => by have := z.2; omega)]
      refine zx_iconst (pc := 21) dX1_program_21 ?_
      refine zx_iret (pc := 22) dX1_program_22 (fun o => by first | exact o.1 _ (by decide) | exact o.2 _ _ | omega) ?_
      exact ⟨rfl, rfl⟩

