/-! the class: the device, questions and the choice of a victim: what they make, and contracts -/
def XS (h : zH) : Prop := XB h ∧ XU h ∧ XT h ∧ XL h ∧ XR h ∧ 0 ≤ gs h 77 ∧ (-1 ≤ gs h 46 ∧ gs h 46 < gs h 70) ∧ gs h 105 = (gs h 104 + 7) / 8
def xWant (h : zH) (i : Int) : Prop := ga h 10 i = 1 ∧ xKeeps h (ga h 11 i) (ga h 13 i) ∨ ga h 10 i = 2 ∧ gs h 51 < ga h 13 i ∨ ga h 10 i = 3 ∧ (ga h 12 i = gs h 50 ∨ ga h 12 i = gs h 52) ∨ ga h 10 i = 4 ∧ ga h 12 i = gs h 50
def xLive (h : zH) (i : Int) : Prop := (xPl h i ∧ ga h 17 i = 0) ∧ xWant h i
noncomputable def xLin (h : zH) (b : Int) : Int := cnt (xLive h) (b * gs h 71) (gs h 71).toNat
noncomputable def xLu (h : zH) (b : Int) : Int := cnt (xLive h) (b * gs h 71) (ga h 18 b).toNat
noncomputable def xTot (h : zH) : Int := zsum (xLu h) (gs h 70).toNat
noncomputable def x_cln (h : zH) (n : Int) : zH := (h.1, fun c j => ifp (c = 9 ∧ 0 ≤ j ∧ j < n) (xLu h j) (h.2 c j))
theorem gs_xcln (h : zH) (n : Int) (k : Nat) : gs (x_cln h n) k = gs h k := rfl
theorem ga_xcln (h : zH) (n : Int) (c : Nat) (j : Int) : ga (x_cln h n) c j = ifp (c = 9 ∧ 0 ≤ j ∧ j < n) (xLu h j) (ga h c j) := rfl
theorem ga_xcln_o (h : zH) (n : Int) (c : Nat) (j : Int) (hc : c ≠ 9) : ga (x_cln h n) c j = ga h c j := ifp_f (fun z => hc z.1)
noncomputable def x_cl (h : zH) : zH := x_cln h (gs h 70)
def xRoomFor (h : zH) (n : Int) : Prop := xTot h + n ≤ (gs h 70 - 2) * gs h 71
noncomputable def xPfc (h : zH) : Int := ifp (gs h 47 ≤ wr (gs h 48 + 1)) (gs h 105 + 2) 1
noncomputable def xVal (h : zH) (p v : Int) : Int := ifp (v = 0) (-1) (ifp (xPl h (xFind h p v)) (ga h 15 (xFind h p v)) (-1))
noncomputable def xFP (h : zH) (b : Int) : Int := ifp (xBlk h b) (gs h 71 - ga h 18 b) 0
def xBet (h : zH) (a b : Int) : Prop := ga h 9 a < ga h 9 b ∨ ga h 9 a = ga h 9 b ∧ ga h 19 a < ga h 19 b
noncomputable def xCV (h : zH) (act : Int) : Nat → Int
  | 0 => -1
  | n + 1 => ifp (0 < ga h 18 n ∧ (n : Int) ≠ act ∧ ga h 9 n < xFP h act ∧ (xCV h act n < 0 ∨ xBet h n (xCV h act n))) (n : Int) (xCV h act n)
noncomputable def xVict (h : zH) (act : Int) : Int := xCV h act (gs h 70).toNat
def x_lose (h : zH) : zH := ps (ps (ps (ps (ps (x_forget (ps (ps h 45 0) 54 (wr (gs h 54 + 1)))) 46 (-1)) 50 0) 51 0) 52 0) 48 0
def x_anewD (h : zH) (B P L e : Int) : zH := ps (ps (ps (ps (ps (ps (ps (ps (ps (ps (x_anewT (ps (x_anewF h B P) 81 0) L) 47 e) 46 (-1)) 48 0) 49 0) 50 0) 51 0) 52 0) 53 0) 54 0) 45 1
theorem XS_c {h h2 : zH} (s : XS h) (e70 : gs h2 70 = gs h 70) (e71 : gs h2 71 = gs h 71) (e72 : gs h2 72 = gs h 72) (e81 : gs h2 81 = gs h 81) (e104 : gs h2 104 = gs h 104) (e105 : gs h2 105 = gs h 105) (e106 : gs h2 106 = gs h 106) (e77 : 0 ≤ gs h2 77) (e46 : gs h2 46 = gs h 46) (hu : XU h2) : XS h2 := by
  obtain ⟨s1, s2, s3, s4, s5, s6, s7, s8⟩ := s
  refine ⟨?_, hu, ?_, ?_, ?_, e77, ?_, ?_⟩
  · unfold XB
    rw [e70, e71, e72]
    exact s1
  · unfold XT
    rw [e104]
    exact s3
  · unfold XL
    rw [e81]
    exact s4
  · unfold XR
    rw [e106]
    exact s5
  · rw [e46, e70]
    exact s7
  · rw [e104, e105]
    exact s8
theorem XU_c {h h2 : zH} (s : XU h) (e70 : gs h2 70 = gs h 70) (e71 : gs h2 71 = gs h 71) (e18 : ∀ b, ga h2 18 b = ga h 18 b) : XU h2 := fun b b1 b2 => by
  rw [e18, e71]
  exact s b b1 (by rw [← e70]; exact b2)
theorem xLive_c {h h2 : zH} (g : ∀ k, gs h2 k = gs h k) (a : ∀ c i, c ≠ 9 → ga h2 c i = ga h c i) (i : Int) : xLive h2 i = xLive h i := by
  simp only [xLive, xWant, xPl, xKeeps, xHas, g, a _ _ (show 10 ≠ 9 by decide), a _ _ (show 11 ≠ 9 by decide), a _ _ (show 12 ≠ 9 by decide), a _ _ (show 13 ≠ 9 by decide), a _ _ (show 17 ≠ 9 by decide), a _ _ (show 21 ≠ 9 by decide), a _ _ (show 22 ≠ 9 by decide), a _ _ (show 24 ≠ 9 by decide)]
set_option maxRecDepth 100000 in
theorem C_X0_isFormatted {h : zH} (hb : XB h) : kX0_isFormatted h (fun r h2 => r = b2i (0 < gs h 70) ∧ h2 = h) := by
  have b1 := hb.1
  apply eX0_isFormatted
  refine zx_aload_n (pc := 0) dX0_isFormatted_0 rfl rfl ?_
  refine zg_X0_12 (pc := 1) dX0_isFormatted_1 ?_
  refine zg_X0_47 (pc := 4) dX0_isFormatted_4 ?_
  refine zx_if_le (pc := 7) (tgt := 14) dX0_isFormatted_7 (by decide) (fun o => by first | exact o.1 _ (by decide) | exact o.2 _ _ | omega) (fun c7 => ?_) (fun c7 => ?_)
  · skip
    refine zx_iconst (pc := 14) dX0_isFormatted_14 ?_
    refine zx_zret (pc := 15) dX0_isFormatted_15 (by omega) ?_
    refine ⟨?_, rfl⟩
    first | exact (b2i_t (by omega)).symm | exact (b2i_f (by omega)).symm
  · skip
    refine zx_iconst (pc := 10) dX0_isFormatted_10 ?_
    refine zx_goto (pc := 11) (tgt := 15) dX0_isFormatted_11 (by decide) ?_
    refine zx_zret (pc := 15) dX0_isFormatted_15 (by omega) ?_
    refine ⟨?_, rfl⟩
    first | exact (b2i_t (by omega)).symm | exact (b2i_f (by omega)).symm
set_option maxRecDepth 100000 in
theorem C_X0_losePower {h : zH} : kX0_losePower h (fun h2 => h2 = x_lose h) := by
  apply eX0_losePower
  refine zx_aload_n (pc := 0) dX0_losePower_0 rfl rfl ?_
  refine zx_iconst (pc := 1) dX0_losePower_1 ?_
  refine zp_X0_84 (pc := 2) dX0_losePower_2 (by omega) (fun o => by first | exact o.1 _ (by decide) | exact o.2 _ _ | omega) ?_
  refine zx_aload_n (pc := 5) dX0_losePower_5 rfl rfl ?_
  refine zx_dup (pc := 6) dX0_losePower_6 rfl ?_
  refine zg_X0_81 (pc := 7) dX0_losePower_7 ?_
  refine zx_iconst (pc := 10) dX0_losePower_10 ?_
  refine zx_iadd (pc := 11) dX0_losePower_11 ?_
  refine zx_wr ?_
  refine zp_X0_81 (pc := 12) dX0_losePower_12 (fun _ => wr_rng _) ?_
  refine zx_aload_n (pc := 15) dX0_losePower_15 rfl rfl ?_
  refine zg_X0_28 (pc := 16) dX0_losePower_16 ?_
  refine zi_X0_88 (pc := 19) dX0_losePower_19 (C_X4_forget) (by decide) (Nat.le_of_ble_eq_true rfl) (fun h19 q19 => ?_)
  rw [q19]
  clear q19 h19
  refine zx_aload_n (pc := 22) dX0_losePower_22 rfl rfl ?_
  refine zx_iconst (pc := 23) dX0_losePower_23 ?_
  refine zp_X0_43 (pc := 24) dX0_losePower_24 (fun o => by first | exact o.1 _ (by decide) | exact o.2 _ _ | omega) ?_
  refine zx_aload_n (pc := 27) dX0_losePower_27 rfl rfl ?_
  refine zx_iconst (pc := 28) dX0_losePower_28 ?_
  refine zp_X0_69 (pc := 29) dX0_losePower_29 (fun o => by first | exact o.1 _ (by decide) | exact o.2 _ _ | omega) ?_
  refine zx_aload_n (pc := 32) dX0_losePower_32 rfl rfl ?_
  refine zx_iconst (pc := 33) dX0_losePower_33 ?_
  refine zp_X0_72 (pc := 34) dX0_losePower_34 (fun o => by first | exact o.1 _ (by decide) | exact o.2 _ _ | omega) ?_
  refine zx_aload_n (pc := 37) dX0_losePower_37 rfl rfl ?_
  refine zx_iconst (pc := 38) dX0_losePower_38 ?_
  refine zp_X0_75 (pc := 39) dX0_losePower_39 (fun o => by first | exact o.1 _ (by decide) | exact o.2 _ _ | omega) ?_
  refine zx_aload_n (pc := 42) dX0_losePower_42 rfl rfl ?_
  refine zx_iconst (pc := 43) dX0_losePower_43 ?_
  refine zp_X0_63 (pc := 44) dX0_losePower_44 (fun o => by first | exact o.1 _ (by decide) | exact o.2 _ _ | omega) ?_
  refine zx_vret (pc := 47) dX0_losePower_47 ?_
  rfl
set_option maxRecDepth 100000 in
theorem C_X0_beginAnew {h : zH} {a1 a2 a3 a4 : Int} (h1 : 0 ≤ a1 ∧ a1 ≤ 32) (h2 : 0 ≤ a2 ∧ a2 ≤ 32) (h3 : 0 ≤ a3 ∧ a3 ≤ 64) (r4 : -2147483648 ≤ a4 ∧ a4 < 2147483648) : kX0_beginAnew a1 a2 a3 a4 h (fun h2 => h2 = x_anewD h a1 a2 a3 a4) := by
  apply eX0_beginAnew
  refine zx_aload_n (pc := 0) dX0_beginAnew_0 rfl rfl ?_
  refine zg_X0_12 (pc := 1) dX0_beginAnew_1 ?_
  refine zx_iload_n (pc := 4) dX0_beginAnew_4 rfl rfl ?_
  refine zx_iload_n (pc := 5) dX0_beginAnew_5 rfl rfl ?_
  refine zi_X0_50 (pc := 6) dX0_beginAnew_6 (C_X1_clearAll h1 h2) (by decide) (Nat.le_of_ble_eq_true rfl) (fun h6 q6 => ?_)
  rw [q6]
  clear q6 h6
  refine zx_aload_n (pc := 9) dX0_beginAnew_9 rfl rfl ?_
  refine zg_X0_21 (pc := 10) dX0_beginAnew_10 ?_
  refine zx_iconst (pc := 13) dX0_beginAnew_13 ?_
  refine zp_X0_54 (pc := 14) dX0_beginAnew_14 (fun o => by first | exact o.1 _ (by decide) | exact o.2 _ _ | omega) ?_
  refine zx_aload_n (pc := 17) dX0_beginAnew_17 rfl rfl ?_
  refine zg_X0_28 (pc := 18) dX0_beginAnew_18 ?_
  refine zx_iload_n (pc := 21) dX0_beginAnew_21 rfl rfl ?_
  refine zi_X0_57 (pc := 22) dX0_beginAnew_22 (C_X4_clearAll h3) (by decide) (Nat.le_of_ble_eq_true rfl) (fun h22 q22 => ?_)
  rw [q22]
  clear q22 h22
  refine zx_aload_n (pc := 25) dX0_beginAnew_25 rfl rfl ?_
  refine zx_iload (pc := 26) dX0_beginAnew_26 rfl ?_
  refine zp_X0_60 (pc := 28) dX0_beginAnew_28 (fun o => by first | exact o.1 _ (by decide) | exact o.2 _ _ | omega) ?_
  refine zx_aload_n (pc := 31) dX0_beginAnew_31 rfl rfl ?_
  refine zx_iconst (pc := 32) dX0_beginAnew_32 ?_
  refine zp_X0_43 (pc := 33) dX0_beginAnew_33 (fun o => by first | exact o.1 _ (by decide) | exact o.2 _ _ | omega) ?_
  refine zx_aload_n (pc := 36) dX0_beginAnew_36 rfl rfl ?_
  refine zx_iconst (pc := 37) dX0_beginAnew_37 ?_
  refine zp_X0_63 (pc := 38) dX0_beginAnew_38 (fun o => by first | exact o.1 _ (by decide) | exact o.2 _ _ | omega) ?_
  refine zx_aload_n (pc := 41) dX0_beginAnew_41 rfl rfl ?_
  refine zx_iconst (pc := 42) dX0_beginAnew_42 ?_
  refine zp_X0_66 (pc := 43) dX0_beginAnew_43 (fun o => by first | exact o.1 _ (by decide) | exact o.2 _ _ | omega) ?_
  refine zx_aload_n (pc := 46) dX0_beginAnew_46 rfl rfl ?_
  refine zx_iconst (pc := 47) dX0_beginAnew_47 ?_
  refine zp_X0_69 (pc := 48) dX0_beginAnew_48 (fun o => by first | exact o.1 _ (by decide) | exact o.2 _ _ | omega) ?_
  refine zx_aload_n (pc := 51) dX0_beginAnew_51 rfl rfl ?_
  refine zx_iconst (pc := 52) dX0_beginAnew_52 ?_
  refine zp_X0_72 (pc := 53) dX0_beginAnew_53 (fun o => by first | exact o.1 _ (by decide) | exact o.2 _ _ | omega) ?_
  refine zx_aload_n (pc := 56) dX0_beginAnew_56 rfl rfl ?_
  refine zx_iconst (pc := 57) dX0_beginAnew_57 ?_
  refine zp_X0_75 (pc := 58) dX0_beginAnew_58 (fun o => by first | exact o.1 _ (by decide) | exact o.2 _ _ | omega) ?_
  refine zx_aload_n (pc := 61) dX0_beginAnew_61 rfl rfl ?_
  refine zx_iconst (pc := 62) dX0_beginAnew_62 ?_
  refine zp_X0_78 (pc := 63) dX0_beginAnew_63 (fun o => by first | exact o.1 _ (by decide) | exact o.2 _ _ | omega) ?_
  refine zx_aload_n (pc := 66) dX0_beginAnew_66 rfl rfl ?_
  refine zx_iconst (pc := 67) dX0_beginAnew_67 ?_
  refine zp_X0_81 (pc := 68) dX0_beginAnew_68 (fun o => by first | exact o.1 _ (by decide) | exact o.2 _ _ | omega) ?_
  refine zx_aload_n (pc := 71) dX0_beginAnew_71 rfl rfl ?_
  refine zx_iconst (pc := 72) dX0_beginAnew_72 ?_
  refine zp_X0_84 (pc := 73) dX0_beginAnew_73 (by omega) (fun o => by first | exact o.1 _ (by decide) | exact o.2 _ _ | omega) ?_
  refine zx_vret (pc := 76) dX0_beginAnew_76 ?_
  rfl
set_option maxRecDepth 100000 in
theorem C_X0_isLive {h : zH} (hb : XB h) (hr : XR h) (ht : XT h) {a1 : Int} (r1 : -2147483648 ≤ a1 ∧ a1 < 2147483648) : kX0_isLive a1 h (fun r h2 => r = b2i (xLive h a1) ∧ h2 = h) := by
  have m7 := xb_size hb
  apply eX0_isLive
  refine zx_ok (fun ok => ?_)
  refine zx_aload_n (pc := 0) dX0_isLive_0 rfl rfl ?_
  refine zg_X0_12 (pc := 1) dX0_isLive_1 ?_
  refine zx_iload_n (pc := 4) dX0_isLive_4 rfl rfl ?_
  refine zi_X0_91 (pc := 5) dX0_isLive_5 (C_X1_hasPlace r1) (by decide) (Nat.le_of_ble_eq_true rfl) (fun z5 h5 u5 v5 q5 => ?_)
  obtain ⟨rfl, e5⟩ := q5
  rw [e5]
  clear e5 h5
  refine zx_if_eq (pc := 8) (tgt := 23) dX0_isLive_8 (by decide) (fun o => by first | exact o.1 _ (by decide) | exact o.2 _ _ | omega) (fun c8 => ?_) (fun c8 => ?_)
  · skip
    try replace c8 := b2i_0.mp c8
    refine zx_iconst (pc := 23) dX0_isLive_23 ?_
    refine zx_zret (pc := 24) dX0_isLive_24 (by omega) ?_
    exact ⟨(b2i_f (fun z => c8 z.1.1)).symm, rfl⟩
  · skip
    try replace c8 := b2i_n0.mp c8
    have c8a := c8
    obtain ⟨k1, k2⟩ := c8a
    refine zx_aload_n (pc := 11) dX0_isLive_11 rfl rfl ?_
    refine zg_X0_12 (pc := 12) dX0_isLive_12 ?_
    refine zg_X0_95 (pc := 15) dX0_isLive_15 ?_
    refine zx_iload_n (pc := 18) dX0_isLive_18 rfl rfl ?_
    refine zx_baload (pc := 19) aX1_copied dX0_isLive_19 (by omega) (by omega) (by omega) ?_
    refine zx_if_eq (pc := 20) (tgt := 25) dX0_isLive_20 (by decide) (fun o => by first | exact o.1 _ (by decide) | exact o.2 _ _ | omega) (fun c20 => ?_) (fun c20 => ?_)
    · skip
      refine zx_aload_n (pc := 25) dX0_isLive_25 rfl rfl ?_
      refine zg_X0_12 (pc := 26) dX0_isLive_26 ?_
      refine zg_X0_99 (pc := 29) dX0_isLive_29 ?_
      refine zx_iload_n (pc := 32) dX0_isLive_32 rfl rfl ?_
      refine zx_iaload (pc := 33) aX1_kind dX0_isLive_33 (by omega) (by omega) (by omega) ?_
      rcases (show ga h 10 a1 = 1 ∨ ga h 10 a1 = 2 ∨ ga h 10 a1 = 3 ∨ ga h 10 a1 = 4 ∨ (ga h 10 a1 < 1 ∨ 4 < ga h 10 a1) by omega) with sw | sw | sw | sw | sw
      · skip
        refine zx_swIn (pc := 34) (tgt := 64) dX0_isLive_34 (fun o => by first | exact o.1 _ (by decide) | exact o.2 _ _ | omega) (by omega) (by omega) (by rw [sw]; rfl) (by decide) ?_
        refine zx_aload_n (pc := 64) dX0_isLive_64 rfl rfl ?_
        refine zg_X0_28 (pc := 65) dX0_isLive_65 ?_
        refine zx_aload_n (pc := 68) dX0_isLive_68 rfl rfl ?_
        refine zg_X0_12 (pc := 69) dX0_isLive_69 ?_
        refine zg_X0_102 (pc := 72) dX0_isLive_72 ?_
        refine zx_iload_n (pc := 75) dX0_isLive_75 rfl rfl ?_
        refine zx_iaload (pc := 76) aX1_index dX0_isLive_76 (by omega) (by omega) (by omega) ?_
        refine zx_aload_n (pc := 77) dX0_isLive_77 rfl rfl ?_
        refine zg_X0_12 (pc := 78) dX0_isLive_78 ?_
        refine zg_X0_105 (pc := 81) dX0_isLive_81 ?_
        refine zx_iload_n (pc := 84) dX0_isLive_84 rfl rfl ?_
        refine zx_iaload (pc := 85) aX1_version dX0_isLive_85 (by omega) (by omega) (by omega) ?_
        refine zi_X0_108 (pc := 86) dX0_isLive_86 (C_X4_keeps hr ht (ok.2 11 a1) (ok.2 13 a1)) (by decide) (Nat.le_of_ble_eq_true rfl) (fun z86 h86 u86 v86 q86 => ?_)
        obtain ⟨rfl, e86⟩ := q86
        rw [e86]
        clear e86 h86
        refine zx_zret (pc := 89) dX0_isLive_89 (b2i_01 _) ?_
        refine ⟨b2i_c ⟨fun z => ⟨⟨c8, c20⟩, Or.inl ⟨sw, z⟩⟩, fun z => ?_⟩, rfl⟩
        have z2 := z.2
        unfold xWant at z2
        rcases z2 with z | z | z | z
        · exact z.2
        · omega
        · omega
        · omega
      · skip
        refine zx_swIn (pc := 34) (tgt := 90) dX0_isLive_34 (fun o => by first | exact o.1 _ (by decide) | exact o.2 _ _ | omega) (by omega) (by omega) (by rw [sw]; rfl) (by decide) ?_
        refine zx_aload_n (pc := 90) dX0_isLive_90 rfl rfl ?_
        refine zg_X0_12 (pc := 91) dX0_isLive_91 ?_
        refine zg_X0_105 (pc := 94) dX0_isLive_94 ?_
        refine zx_iload_n (pc := 97) dX0_isLive_97 rfl rfl ?_
        refine zx_iaload (pc := 98) aX1_version dX0_isLive_98 (by omega) (by omega) (by omega) ?_
        refine zx_aload_n (pc := 99) dX0_isLive_99 rfl rfl ?_
        refine zg_X0_72 (pc := 100) dX0_isLive_100 ?_
        refine zx_icmp_le (pc := 103) (tgt := 110) dX0_isLive_103 (by decide) (fun o => by first | exact o.1 _ (by decide) | exact o.2 _ _ | omega) (fun o => by first | exact o.1 _ (by decide) | exact o.2 _ _ | omega) (fun c103 => ?_) (fun c103 => ?_)
        · skip
          refine zx_iconst (pc := 110) dX0_isLive_110 ?_
          refine zx_zret (pc := 111) dX0_isLive_111 (by omega) ?_
          refine ⟨?_, rfl⟩
          first
          | exact (b2i_t ⟨⟨c8, c20⟩, by unfold xWant; omega⟩).symm
          | (refine (b2i_f (fun z => ?_)).symm
             have z2 := z.2
             unfold xWant at z2
             omega)
        · skip
          refine zx_iconst (pc := 106) dX0_isLive_106 ?_
          refine zx_goto (pc := 107) (tgt := 111) dX0_isLive_107 (by decide) ?_
          refine zx_zret (pc := 111) dX0_isLive_111 (by omega) ?_
          refine ⟨?_, rfl⟩
          first
          | exact (b2i_t ⟨⟨c8, c20⟩, by unfold xWant; omega⟩).symm
          | (refine (b2i_f (fun z => ?_)).symm
             have z2 := z.2
             unfold xWant at z2
             omega)
      · skip
        refine zx_swIn (pc := 34) (tgt := 112) dX0_isLive_34 (fun o => by first | exact o.1 _ (by decide) | exact o.2 _ _ | omega) (by omega) (by omega) (by rw [sw]; rfl) (by decide) ?_
        refine zx_aload_n (pc := 112) dX0_isLive_112 rfl rfl ?_
        refine zg_X0_12 (pc := 113) dX0_isLive_113 ?_
        refine zg_X0_112 (pc := 116) dX0_isLive_116 ?_
        refine zx_iload_n (pc := 119) dX0_isLive_119 rfl rfl ?_
        refine zx_iaload (pc := 120) aX1_group dX0_isLive_120 (by omega) (by omega) (by omega) ?_
        refine zx_aload_n (pc := 121) dX0_isLive_121 rfl rfl ?_
        refine zg_X0_69 (pc := 122) dX0_isLive_122 ?_
        refine zx_icmp_eq (pc := 125) (tgt := 144) dX0_isLive_125 (by decide) (fun o => by first | exact o.1 _ (by decide) | exact o.2 _ _ | omega) (fun o => by first | exact o.1 _ (by decide) | exact o.2 _ _ | omega) (fun c125 => ?_) (fun c125 => ?_)
        · skip
          refine zx_iconst (pc := 144) dX0_isLive_144 ?_
          refine zx_goto (pc := 145) (tgt := 149) dX0_isLive_145 (by decide) ?_
          refine zx_zret (pc := 149) dX0_isLive_149 (by omega) ?_
          refine ⟨?_, rfl⟩
          first
          | exact (b2i_t ⟨⟨c8, c20⟩, by unfold xWant; omega⟩).symm
          | (refine (b2i_f (fun z => ?_)).symm
             have z2 := z.2
             unfold xWant at z2
             omega)
        · skip
          refine zx_aload_n (pc := 128) dX0_isLive_128 rfl rfl ?_
          refine zg_X0_12 (pc := 129) dX0_isLive_129 ?_
          refine zg_X0_112 (pc := 132) dX0_isLive_132 ?_
          refine zx_iload_n (pc := 135) dX0_isLive_135 rfl rfl ?_
          refine zx_iaload (pc := 136) aX1_group dX0_isLive_136 (by omega) (by omega) (by omega) ?_
          refine zx_aload_n (pc := 137) dX0_isLive_137 rfl rfl ?_
          refine zg_X0_75 (pc := 138) dX0_isLive_138 ?_
          refine zx_icmp_ne (pc := 141) (tgt := 148) dX0_isLive_141 (by decide) (fun o => by first | exact o.1 _ (by decide) | exact o.2 _ _ | omega) (fun o => by first | exact o.1 _ (by decide) | exact o.2 _ _ | omega) (fun c141 => ?_) (fun c141 => ?_)
          · skip
            refine zx_iconst (pc := 148) dX0_isLive_148 ?_
            refine zx_zret (pc := 149) dX0_isLive_149 (by omega) ?_
            refine ⟨?_, rfl⟩
            first
            | exact (b2i_t ⟨⟨c8, c20⟩, by unfold xWant; omega⟩).symm
            | (refine (b2i_f (fun z => ?_)).symm
               have z2 := z.2
               unfold xWant at z2
               omega)
          · skip
            refine zx_iconst (pc := 144) dX0_isLive_144 ?_
            refine zx_goto (pc := 145) (tgt := 149) dX0_isLive_145 (by decide) ?_
            refine zx_zret (pc := 149) dX0_isLive_149 (by omega) ?_
            refine ⟨?_, rfl⟩
            first
            | exact (b2i_t ⟨⟨c8, c20⟩, by unfold xWant; omega⟩).symm
            | (refine (b2i_f (fun z => ?_)).symm
               have z2 := z.2
               unfold xWant at z2
               omega)
      · skip
        refine zx_swIn (pc := 34) (tgt := 150) dX0_isLive_34 (fun o => by first | exact o.1 _ (by decide) | exact o.2 _ _ | omega) (by omega) (by omega) (by rw [sw]; rfl) (by decide) ?_
        refine zx_aload_n (pc := 150) dX0_isLive_150 rfl rfl ?_
        refine zg_X0_12 (pc := 151) dX0_isLive_151 ?_
        refine zg_X0_112 (pc := 154) dX0_isLive_154 ?_
        refine zx_iload_n (pc := 157) dX0_isLive_157 rfl rfl ?_
        refine zx_iaload (pc := 158) aX1_group dX0_isLive_158 (by omega) (by omega) (by omega) ?_
        refine zx_aload_n (pc := 159) dX0_isLive_159 rfl rfl ?_
        refine zg_X0_69 (pc := 160) dX0_isLive_160 ?_
        refine zx_icmp_ne (pc := 163) (tgt := 170) dX0_isLive_163 (by decide) (fun o => by first | exact o.1 _ (by decide) | exact o.2 _ _ | omega) (fun o => by first | exact o.1 _ (by decide) | exact o.2 _ _ | omega) (fun c163 => ?_) (fun c163 => ?_)
        · skip
          refine zx_iconst (pc := 170) dX0_isLive_170 ?_
          refine zx_zret (pc := 171) dX0_isLive_171 (by omega) ?_
          refine ⟨?_, rfl⟩
          first
          | exact (b2i_t ⟨⟨c8, c20⟩, by unfold xWant; omega⟩).symm
          | (refine (b2i_f (fun z => ?_)).symm
             have z2 := z.2
             unfold xWant at z2
             omega)
        · skip
          refine zx_iconst (pc := 166) dX0_isLive_166 ?_
          refine zx_goto (pc := 167) (tgt := 171) dX0_isLive_167 (by decide) ?_
          refine zx_zret (pc := 171) dX0_isLive_171 (by omega) ?_
          refine ⟨?_, rfl⟩
          first
          | exact (b2i_t ⟨⟨c8, c20⟩, by unfold xWant; omega⟩).symm
          | (refine (b2i_f (fun z => ?_)).symm
             have z2 := z.2
             unfold xWant at z2
             omega)
      · skip
        refine zx_swOut (pc := 34) (tgt := 172) dX0_isLive_34 (fun o => by first | exact o.1 _ (by decide) | exact o.2 _ _ | omega) sw (by decide) ?_
        refine zx_iconst (pc := 172) dX0_isLive_172 ?_
        refine zx_zret (pc := 173) dX0_isLive_173 (by omega) ?_
        refine ⟨?_, rfl⟩
        first
        | exact (b2i_t ⟨⟨c8, c20⟩, by unfold xWant; omega⟩).symm
        | (refine (b2i_f (fun z => ?_)).symm
           have z2 := z.2
           unfold xWant at z2
           omega)
    · skip
      refine zx_iconst (pc := 23) dX0_isLive_23 ?_
      refine zx_zret (pc := 24) dX0_isLive_24 (by omega) ?_
      exact ⟨(b2i_f (fun z => c20 z.1.2)).symm, rfl⟩
theorem XB_cl (h : zH) (n : Int) : XB (x_cln h n) ↔ XB h := Iff.rfl
theorem xLu_r {h : zH} (hu : XU h) {b : Int} (b1 : 0 ≤ b) (b2 : b < gs h 70) : 0 ≤ xLu h b ∧ xLu h b ≤ ga h 18 b := by
  have q := cnt_r (xLive h) (b * gs h 71) (ga h 18 b).toNat
  have e : xLu h b = cnt (xLive h) (b * gs h 71) (ga h 18 b).toNat := rfl
  have r := hu b b1 b2
  omega
theorem xTot_r {h : zH} (hb : XB h) (hu : XU h) : ∀ n : Nat, (n : Int) ≤ gs h 70 → 0 ≤ zsum (xLu h) n ∧ zsum (xLu h) n ≤ 1024 := by
  intro n hn
  have b1 := hb.1.2
  have b3 := hb.2.1.2
  have q := zsum_r (f := xLu h) (c := 32) (n := n) (fun i i1 i2 => by have q := xLu_r hu (b := (i : Int)) (by omega) (by omega); have r := hu (i : Int) (by omega) (by omega); omega)
  omega
theorem cln_0 (h : zH) : x_cln h 0 = h := by
  apply zH_ext
  · intro k; rfl
  · intro c j
    rw [ga_xcln, ifp_f (by omega)]
theorem cln_next (h : zH) {i : Int} (hi : 0 ≤ i) : pa (x_cln h i) 9 i (xLu h i) = x_cln h (i + 1) := by
  apply zH_ext
  · intro k; rfl
  · intro c j
    rw [ga_pa, ga_xcln, ga_xcln]
    by_cases q : c = 9 ∧ j = i
    · rw [if_pos q, ifp_t (by omega), q.2]
    · rw [if_neg q]
      by_cases w : c = 9 ∧ 0 ≤ j ∧ j < i
      · rw [ifp_t w, ifp_t (by omega)]
      · rw [ifp_f w, ifp_f (by omega)]
theorem pa_pa2 (h : zH) (k : Nat) (i a b : Int) : pa (pa h k i a) k i b = pa h k i b := by
  apply zH_ext
  · intro j; rfl
  · intro c j
    simp only [ga_pa]
    split <;> rfl
set_option maxRecDepth 100000 in
theorem L1_X0_countLive {h : zH} (s : XS h) {i t : Int} (i1 : 0 ≤ i) (i2 : i < gs h 70) (E : zF) (k : ∀ j, zX cX zNo RX0 cX0_countLive 4 (some .int) rX0_countLive 71 [some (.ref 2), some (.int (iI t)), some (.int (iI i)), some (.int (iI j))] [] (x_cln h (i + 1)) E) : ∀ (n : Nat) (j c : Int), 0 ≤ j → j ≤ ga h 18 i → ga h 18 i - j < n → c = cnt (xLive h) (i * gs h 71) (j - 0).toNat → zX cX zNo RX0 cX0_countLive 4 (some .int) rX0_countLive 24 [some (.ref 2), some (.int (iI t)), some (.int (iI i)), some (.int (iI j))] [] (pa (x_cln h i) 9 i c) E := by
  obtain ⟨s1, s2, s3, s4, s5, s6, s7, s8⟩ := s
  have p := xb_blk s1 i1 i2
  have b1 := s1.1.2
  have b3 := s1.2.1.2
  have uu := s2 i i1 i2
  intro n
  induction n with
  | zero => intro j c g1 g2 g3; omega
  | succ n ih =>
    intro j c g1 g2 g3 g4
    have g5 := cnt_r (xLive h) (i * gs h 71) (j - 0).toNat
    have g6 : cnt (xLive h) (i * gs h 71) (j + 1 - 0).toNat = cnt (xLive h) (i * gs h 71) (j - 0).toNat + b2i (xLive h (i * gs h 71 + j)) := by
      have e : (j + 1 - 0).toNat = (j - 0).toNat + 1 := by omega
      have e2 : ((j - 0).toNat : Int) = j := by omega
      rw [e, cnt, e2]
    have e18 : ga (pa (x_cln h i) 9 i c) 18 i = ga h 18 i := by rw [ga_pa, if_neg (by omega), ga_xcln_o _ _ _ _ (by decide)]
    have e9 : ga (pa (x_cln h i) 9 i c) 9 i = c := by rw [ga_pa, if_pos ⟨rfl, rfl⟩]
    have e71 : gs (pa (x_cln h i) 9 i c) 71 = gs h 71 := rfl
    have xl := xLive_c (h := h) (h2 := pa (x_cln h i) 9 i c) (fun _ => rfl) (fun c j hc => by rw [ga_pa, if_neg (fun z => hc z.1), ga_xcln_o _ _ _ _ hc])
    refine zx_iload_n (pc := 24) dX0_countLive_24 rfl rfl ?_
    refine zx_aload_n (pc := 25) dX0_countLive_25 rfl rfl ?_
    refine zg_X0_12 (pc := 26) dX0_countLive_26 ?_
    refine zg_X0_121 (pc := 29) dX0_countLive_29 ?_
    refine zx_iload_n (pc := 32) dX0_countLive_32 rfl rfl ?_
    refine zx_iaload (pc := 33) aX1_used dX0_countLive_33 (by omega) (by omega) (by omega) ?_
    refine zx_icmp_ge (pc := 34) (tgt := 71) dX0_countLive_34 (by decide) (fun _ => by omega) (fun _ => by rw [e18]; omega) (fun c34 => ?_) (fun c34 => ?_)
    · skip
      rw [e18] at c34
      have e : (j - 0).toNat = (ga h 18 i).toNat := by omega
      have e2 : c = xLu h i := by rw [g4, e]; rfl
      rw [e2, cln_next h i1]
      exact k j
    · skip
      rw [e18] at c34
      refine zx_aload_n (pc := 37) dX0_countLive_37 rfl rfl ?_
      refine zx_iload_n (pc := 38) dX0_countLive_38 rfl rfl ?_
      refine zx_aload_n (pc := 39) dX0_countLive_39 rfl rfl ?_
      refine zg_X0_12 (pc := 40) dX0_countLive_40 ?_
      refine zg_X0_115 (pc := 43) dX0_countLive_43 ?_
      refine zx_imul (pc := 46) dX0_countLive_46 ?_
      refine zx_iload_n (pc := 47) dX0_countLive_47 rfl rfl ?_
      refine zx_iadd (pc := 48) dX0_countLive_48 ?_
      refine zi_X0_118 (pc := 49) dX0_countLive_49 (C_X0_isLive (h := pa (x_cln h i) 9 i c) (a1 := i * gs h 71 + j) s1 s5 s3 (by omega)) (by decide) (Nat.le_of_ble_eq_true rfl) (fun z49 h49 u49 v49 q49 => ?_)
      obtain ⟨rfl, e49⟩ := q49
      rw [e49]
      clear e49 h49
      refine zx_if_eq (pc := 52) (tgt := 65) dX0_countLive_52 (by decide) (fun o => by first | exact o.1 _ (by decide) | exact o.2 _ _ | omega) (fun c52 => ?_) (fun c52 => ?_)
      · skip
        try replace c52 := b2i_0.mp c52
        rw [xl] at c52
        refine zx_iinc (pc := 65) dX0_countLive_65 (by decide) rfl rfl ?_
        refine zx_goto (pc := 68) (tgt := 24) dX0_countLive_68 (by decide) ?_
        first
        | (rw [e9, pa_pa2]
           exact ih (j + 1) _ (by omega) (by omega) (by omega) (by rw [g6, g4, b2i_t c52]))
        | exact ih (j + 1) _ (by omega) (by omega) (by omega) (by rw [g6, g4, b2i_f c52, Int.add_zero])
      · skip
        try replace c52 := b2i_n0.mp c52
        rw [xl] at c52
        refine zx_aload_n (pc := 55) dX0_countLive_55 rfl rfl ?_
        refine zg_X0_39 (pc := 56) dX0_countLive_56 ?_
        refine zx_iload_n (pc := 59) dX0_countLive_59 rfl rfl ?_
        refine zx_dup2 (pc := 60) dX0_countLive_60 rfl rfl ?_
        refine zx_iaload (pc := 61) aX0_liveIn dX0_countLive_61 (by omega) (by omega) (by omega) ?_
        refine zx_iconst (pc := 62) dX0_countLive_62 ?_
        refine zx_iadd (pc := 63) dX0_countLive_63 ?_
        refine zx_iastore (pc := 64) aX0_liveIn dX0_countLive_64 (by omega) (by omega) (by omega) (fun _ => by rw [e9]; omega) ?_
        refine zx_iinc (pc := 65) dX0_countLive_65 (by decide) rfl rfl ?_
        refine zx_goto (pc := 68) (tgt := 24) dX0_countLive_68 (by decide) ?_
        first
        | (rw [e9, pa_pa2]
           exact ih (j + 1) _ (by omega) (by omega) (by omega) (by rw [g6, g4, b2i_t c52]))
        | exact ih (j + 1) _ (by omega) (by omega) (by omega) (by rw [g6, g4, b2i_f c52, Int.add_zero])
set_option maxRecDepth 100000 in
theorem L2_X0_countLive {h : zH} (s : XS h) (Q : Int → zH → Prop) (hQ : Q (xTot h) (x_cl h)) : ∀ (n : Nat) (i t : Int), 0 ≤ i → i ≤ gs h 70 → gs h 70 - i < n → t = zsum (xLu h) i.toNat → zX cX zNo RX0 cX0_countLive 4 (some .int) rX0_countLive 4 [some (.ref 2), some (.int (iI t)), some (.int (iI i)), none] [] (x_cln h i) (zEi cX Q) := by
  obtain ⟨s1, s2, s3, s4, s5, s6, s7, s8⟩ := s
  have b1 := s1.1.2
  intro n
  induction n with
  | zero => intro i t g1 g2 g3; omega
  | succ n ih =>
    intro i t g1 g2 g3 g4
    have tr := xTot_r s1 s2 i.toNat (by omega)
    have e70 : gs (x_cln h i) 70 = gs h 70 := rfl
    have e9 : ga (x_cln h (i + 1)) 9 i = xLu h i := ifp_t ⟨rfl, g1, by omega⟩
    refine zx_iload_n (pc := 4) dX0_countLive_4 rfl rfl ?_
    refine zx_aload_n (pc := 5) dX0_countLive_5 rfl rfl ?_
    refine zg_X0_12 (pc := 6) dX0_countLive_6 ?_
    refine zg_X0_47 (pc := 9) dX0_countLive_9 ?_
    refine zx_icmp_ge (pc := 12) (tgt := 86) dX0_countLive_12 (by decide) (fun o => by first | exact o.1 _ (by decide) | exact o.2 _ _ | omega) (fun o => by first | exact o.1 _ (by decide) | exact o.2 _ _ | omega) (fun c12 => ?_) (fun c12 => ?_)
    · skip
      rw [e70] at c12
      refine zx_iload_n (pc := 86) dX0_countLive_86 rfl rfl ?_
      refine zx_iret (pc := 87) dX0_countLive_87 (fun o => by first | exact o.1 _ (by decide) | exact o.2 _ _ | omega) ?_
      have e : i = gs h 70 := by omega
      rw [g4, e]
      exact hQ
    · skip
      rw [e70] at c12
      refine zx_aload_n (pc := 15) dX0_countLive_15 rfl rfl ?_
      refine zg_X0_39 (pc := 16) dX0_countLive_16 ?_
      refine zx_iload_n (pc := 19) dX0_countLive_19 rfl rfl ?_
      refine zx_iconst (pc := 20) dX0_countLive_20 ?_
      refine zx_iastore (pc := 21) aX0_liveIn dX0_countLive_21 (by omega) (by omega) (by omega) (fun o => by first | exact o.1 _ (by decide) | exact o.2 _ _ | omega) ?_
      refine zx_iconst (pc := 22) dX0_countLive_22 ?_
      refine zx_istore_n (pc := 23) dX0_countLive_23 rfl (by decide) rfl ?_
      refine L1_X0_countLive ⟨s1, s2, s3, s4, s5, s6, s7, s8⟩ g1 (by omega) (zEi cX Q) (fun j => ?_) 33 0 0 (Int.le_refl _) (s2 i g1 (by omega)).1 (by have := s2 i g1 (by omega); have := s1.2.1.2; omega) rfl
      refine zx_iload_n (pc := 71) dX0_countLive_71 rfl rfl ?_
      refine zx_aload_n (pc := 72) dX0_countLive_72 rfl rfl ?_
      refine zg_X0_39 (pc := 73) dX0_countLive_73 ?_
      refine zx_iload_n (pc := 76) dX0_countLive_76 rfl rfl ?_
      refine zx_iaload (pc := 77) aX0_liveIn dX0_countLive_77 (by omega) (by omega) (by omega) ?_
      refine zx_iadd (pc := 78) dX0_countLive_78 ?_
      refine zx_istore_n (pc := 79) dX0_countLive_79 rfl (by decide) rfl ?_
      refine zx_iinc (pc := 80) dX0_countLive_80 (by decide) rfl rfl ?_
      refine zx_goto (pc := 83) (tgt := 4) dX0_countLive_83 (by decide) ?_
      rw [e9]
      refine zx_sub [true, true, true, false] ?_
      dsimp only [zMask, List.set]
      exact ih (i + 1) _ (by omega) (by omega) (by omega) (by rw [zsum_next g1, g4])
set_option maxRecDepth 100000 in
theorem C_X0_countLive {h : zH} (s : XS h) : kX0_countLive h (fun r h2 => r = xTot h ∧ h2 = x_cl h) := by
  apply eX0_countLive
  refine zx_iconst (pc := 0) dX0_countLive_0 ?_
  refine zx_istore_n (pc := 1) dX0_countLive_1 rfl (by decide) rfl ?_
  refine zx_iconst (pc := 2) dX0_countLive_2 ?_
  refine zx_istore_n (pc := 3) dX0_countLive_3 rfl (by decide) rfl ?_
  have r := L2_X0_countLive s (fun r h2 => r = xTot h ∧ h2 = x_cl h) ⟨rfl, rfl⟩ 33 0 0 (Int.le_refl _) s.1.1.1 (by have := s.1.1.2; omega) rfl
  rw [cln_0] at r
  exact r
set_option maxRecDepth 100000 in
theorem L_X0_countLiveIn {h : zH} (s : XS h) {a1 : Int} (i1 : 0 ≤ a1) (i2 : a1 < gs h 70) (Q : Int → zH → Prop) (hQ : Q (xLin h a1) h) : ∀ (n : Nat) (j c : Int), 0 ≤ j → j ≤ gs h 71 → gs h 71 - j < n → c = cnt (xLive h) (a1 * gs h 71) (j - 0).toNat → zX cX zNo RX0 cX0_countLiveIn 4 (some .int) rX0_countLiveIn 4 [some (.ref 2), some (.int (iI a1)), some (.int (iI c)), some (.int (iI j))] [] h (zEi cX Q) := by
  obtain ⟨s1, s2, s3, s4, s5, s6, s7, s8⟩ := s
  have p := xb_blk s1 i1 i2
  have b1 := s1.1.2
  have b3 := s1.2.1.2
  intro n
  induction n with
  | zero => intro j c g1 g2 g3; omega
  | succ n ih =>
    intro j c g1 g2 g3 g4
    have g5 := cnt_r (xLive h) (a1 * gs h 71) (j - 0).toNat
    have g6 : cnt (xLive h) (a1 * gs h 71) (j + 1 - 0).toNat = cnt (xLive h) (a1 * gs h 71) (j - 0).toNat + b2i (xLive h (a1 * gs h 71 + j)) := by
      have e : (j + 1 - 0).toNat = (j - 0).toNat + 1 := by omega
      have e2 : ((j - 0).toNat : Int) = j := by omega
      rw [e, cnt, e2]
    refine zx_iload_n (pc := 4) dX0_countLiveIn_4 rfl rfl ?_
    refine zx_aload_n (pc := 5) dX0_countLiveIn_5 rfl rfl ?_
    refine zg_X0_12 (pc := 6) dX0_countLiveIn_6 ?_
    refine zg_X0_115 (pc := 9) dX0_countLiveIn_9 ?_
    refine zx_icmp_ge (pc := 12) (tgt := 42) dX0_countLiveIn_12 (by decide) (fun o => by first | exact o.1 _ (by decide) | exact o.2 _ _ | omega) (fun o => by first | exact o.1 _ (by decide) | exact o.2 _ _ | omega) (fun c12 => ?_) (fun c12 => ?_)
    · skip
      refine zx_iload_n (pc := 42) dX0_countLiveIn_42 rfl rfl ?_
      refine zx_iret (pc := 43) dX0_countLiveIn_43 (fun o => by first | exact o.1 _ (by decide) | exact o.2 _ _ | omega) ?_
      have e : j - 0 = gs h 71 := by omega
      rw [g4, e]
      exact hQ
    · skip
      refine zx_aload_n (pc := 15) dX0_countLiveIn_15 rfl rfl ?_
      refine zx_iload_n (pc := 16) dX0_countLiveIn_16 rfl rfl ?_
      refine zx_aload_n (pc := 17) dX0_countLiveIn_17 rfl rfl ?_
      refine zg_X0_12 (pc := 18) dX0_countLiveIn_18 ?_
      refine zg_X0_115 (pc := 21) dX0_countLiveIn_21 ?_
      refine zx_imul (pc := 24) dX0_countLiveIn_24 ?_
      refine zx_iload_n (pc := 25) dX0_countLiveIn_25 rfl rfl ?_
      refine zx_iadd (pc := 26) dX0_countLiveIn_26 ?_
      refine zi_X0_118 (pc := 27) dX0_countLiveIn_27 (C_X0_isLive s1 s5 s3 (by omega)) (by decide) (Nat.le_of_ble_eq_true rfl) (fun z27 h27 u27 v27 q27 => ?_)
      obtain ⟨rfl, e27⟩ := q27
      rw [e27]
      clear e27 h27
      refine zx_if_eq (pc := 30) (tgt := 36) dX0_countLiveIn_30 (by decide) (fun o => by first | exact o.1 _ (by decide) | exact o.2 _ _ | omega) (fun c30 => ?_) (fun c30 => ?_)
      · skip
        try replace c30 := b2i_0.mp c30
        refine zx_iinc (pc := 36) dX0_countLiveIn_36 (by decide) rfl rfl ?_
        refine zx_goto (pc := 39) (tgt := 4) dX0_countLiveIn_39 (by decide) ?_
        first
        | exact ih (j + 1) _ (by omega) (by omega) (by omega) (by rw [g6, g4, b2i_t c30])
        | exact ih (j + 1) _ (by omega) (by omega) (by omega) (by rw [g6, g4, b2i_f c30, Int.add_zero])
      · skip
        try replace c30 := b2i_n0.mp c30
        refine zx_iinc (pc := 33) dX0_countLiveIn_33 (by decide) rfl rfl ?_
        refine zx_iinc (pc := 36) dX0_countLiveIn_36 (by decide) rfl rfl ?_
        refine zx_goto (pc := 39) (tgt := 4) dX0_countLiveIn_39 (by decide) ?_
        first
        | exact ih (j + 1) _ (by omega) (by omega) (by omega) (by rw [g6, g4, b2i_t c30])
        | exact ih (j + 1) _ (by omega) (by omega) (by omega) (by rw [g6, g4, b2i_f c30, Int.add_zero])
set_option maxRecDepth 100000 in
theorem C_X0_countLiveIn {h : zH} (s : XS h) {a1 : Int} (i1 : 0 ≤ a1) (i2 : a1 < gs h 70) : kX0_countLiveIn a1 h (fun r h2 => r = xLin h a1 ∧ h2 = h) := by
  apply eX0_countLiveIn
  refine zx_iconst (pc := 0) dX0_countLiveIn_0 ?_
  refine zx_istore_n (pc := 1) dX0_countLiveIn_1 rfl (by decide) rfl ?_
  refine zx_iconst (pc := 2) dX0_countLiveIn_2 ?_
  refine zx_istore_n (pc := 3) dX0_countLiveIn_3 rfl (by decide) rfl ?_
  exact L_X0_countLiveIn s i1 i2 (fun r h2 => r = xLin h a1 ∧ h2 = h) ⟨rfl, rfl⟩ 33 0 0 (Int.le_refl _) s.1.2.1.1 (by have := s.1.2.1.2; omega) rfl
set_option maxRecDepth 100000 in
theorem C_X0_hasRoomFor {h : zH} (s : XS h) {a1 : Int} (r1 : 0 ≤ a1 ∧ a1 ≤ 1000) : kX0_hasRoomFor a1 h (fun r h2 => r = b2i (xRoomFor h a1) ∧ h2 = x_cl h) := by
  have b1 := s.1.1
  have b3 := s.1.2.1
  have tr := xTot_r s.1 s.2.1 (gs h 70).toNat (by omega)
  have te : xTot h = zsum (xLu h) (gs h 70).toNat := rfl
  have e70 : gs (x_cl h) 70 = gs h 70 := rfl
  have e71 : gs (x_cl h) 71 = gs h 71 := rfl
  have m7 := mb_size b1.1 b1.2 b3.1 b3.2
  have mm : (gs h 70 - 2) * gs h 71 = gs h 70 * gs h 71 - 2 * gs h 71 := Int.sub_mul _ _ _
  apply eX0_hasRoomFor
  refine zx_aload_n (pc := 0) dX0_hasRoomFor_0 rfl rfl ?_
  refine zi_X0_124 (pc := 1) dX0_hasRoomFor_1 (C_X0_countLive s) (by decide) (Nat.le_of_ble_eq_true rfl) (fun z1 h1 u1 v1 q1 => ?_)
  obtain ⟨rfl, e1⟩ := q1
  rw [e1]
  clear e1 h1
  refine zx_iload_n (pc := 4) dX0_hasRoomFor_4 rfl rfl ?_
  refine zx_iadd (pc := 5) dX0_hasRoomFor_5 ?_
  refine zx_aload_n (pc := 6) dX0_hasRoomFor_6 rfl rfl ?_
  refine zg_X0_12 (pc := 7) dX0_hasRoomFor_7 ?_
  refine zg_X0_47 (pc := 10) dX0_hasRoomFor_10 ?_
  refine zx_iconst (pc := 13) dX0_hasRoomFor_13 ?_
  refine zx_isub (pc := 14) dX0_hasRoomFor_14 ?_
  refine zx_aload_n (pc := 15) dX0_hasRoomFor_15 rfl rfl ?_
  refine zg_X0_12 (pc := 16) dX0_hasRoomFor_16 ?_
  refine zg_X0_115 (pc := 19) dX0_hasRoomFor_19 ?_
  refine zx_imul (pc := 22) dX0_hasRoomFor_22 ?_
  refine zx_icmp_gt (pc := 23) (tgt := 30) dX0_hasRoomFor_23 (by decide) (fun _ => by omega) (fun _ => by rw [e70, e71]; omega) (fun c23 => ?_) (fun c23 => ?_)
  · skip
    rw [e70, e71] at c23
    refine zx_iconst (pc := 30) dX0_hasRoomFor_30 ?_
    refine zx_zret (pc := 31) dX0_hasRoomFor_31 (by omega) ?_
    refine ⟨?_, rfl⟩
    first | exact (b2i_t (by unfold xRoomFor; omega)).symm | exact (b2i_f (by unfold xRoomFor; omega)).symm
  · skip
    rw [e70, e71] at c23
    refine zx_iconst (pc := 26) dX0_hasRoomFor_26 ?_
    refine zx_goto (pc := 27) (tgt := 31) dX0_hasRoomFor_27 (by decide) ?_
    refine zx_zret (pc := 31) dX0_hasRoomFor_31 (by omega) ?_
    refine ⟨?_, rfl⟩
    first | exact (b2i_t (by unfold xRoomFor; omega)).symm | exact (b2i_f (by unfold xRoomFor; omega)).symm
set_option maxRecDepth 100000 in
theorem C_X0_pagesOfNextCommit {h : zH} (s : XS h) : kX0_pagesOfNextCommit h (fun r h2 => r = xPfc h ∧ h2 = h) := by
  obtain ⟨s1, s2, s3, s4, s5, s6, s7, s8⟩ := s
  obtain ⟨t1, t2⟩ := s3
  apply eX0_pagesOfNextCommit
  unfold xPfc
  refine zx_aload_n (pc := 0) dX0_pagesOfNextCommit_0 rfl rfl ?_
  refine zg_X0_63 (pc := 1) dX0_pagesOfNextCommit_1 ?_
  refine zx_iconst (pc := 4) dX0_pagesOfNextCommit_4 ?_
  refine zx_iadd (pc := 5) dX0_pagesOfNextCommit_5 ?_
  refine zx_wr ?_
  refine zx_aload_n (pc := 6) dX0_pagesOfNextCommit_6 rfl rfl ?_
  refine zg_X0_60 (pc := 7) dX0_pagesOfNextCommit_7 ?_
  refine zx_icmp_lt (pc := 10) (tgt := 25) dX0_pagesOfNextCommit_10 (by decide) (fun _ => wr_rng _) (fun o => by first | exact o.1 _ (by decide) | exact o.2 _ _ | omega) (fun c10 => ?_) (fun c10 => ?_)
  · skip
    rw [ifp_f (by omega)]
    refine zx_iconst (pc := 25) dX0_pagesOfNextCommit_25 ?_
    refine zx_iret (pc := 26) dX0_pagesOfNextCommit_26 (fun _ => by omega) ?_
    exact ⟨rfl, rfl⟩
  · skip
    rw [ifp_t (by omega)]
    refine zx_aload_n (pc := 13) dX0_pagesOfNextCommit_13 rfl rfl ?_
    refine zg_X0_28 (pc := 14) dX0_pagesOfNextCommit_14 ?_
    refine zg_X0_128 (pc := 17) dX0_pagesOfNextCommit_17 ?_
    refine zx_iconst (pc := 20) dX0_pagesOfNextCommit_20 ?_
    refine zx_iadd (pc := 21) dX0_pagesOfNextCommit_21 ?_
    refine zx_goto (pc := 22) (tgt := 26) dX0_pagesOfNextCommit_22 (by decide) ?_
    refine zx_iret (pc := 26) dX0_pagesOfNextCommit_26 (fun _ => by omega) ?_
    exact ⟨rfl, rfl⟩
set_option maxRecDepth 100000 in
theorem C_X0_valueOf {h : zH} (hb : XB h) {a1 a2 : Int} (r1 : -2147483648 ≤ a1 ∧ a1 < 2147483648) (r2 : -2147483648 ≤ a2 ∧ a2 < 2147483648) : kX0_valueOf a1 a2 h (fun r h2 => r = xVal h a1 a2 ∧ h2 = h) := by
  have m7 := xb_size hb
  have fr := ff_r (xDataAt h a1 a2) (gs h 72).toNat 0 (Int.le_refl _)
  have fe : xFind h a1 a2 = ff (xDataAt h a1 a2) 0 (gs h 72).toNat := rfl
  rw [← fe] at fr
  apply eX0_valueOf
  unfold xVal
  refine zx_iload_n (pc := 0) dX0_valueOf_0 rfl rfl ?_
  refine zx_if_ne (pc := 1) (tgt := 8) dX0_valueOf_1 (by decide) (fun o => by first | exact o.1 _ (by decide) | exact o.2 _ _ | omega) (fun c1 => ?_) (fun c1 => ?_)
  · skip
    rw [ifp_f c1]
    refine zx_aload_n (pc := 8) dX0_valueOf_8 rfl rfl ?_
    refine zg_X0_12 (pc := 9) dX0_valueOf_9 ?_
    refine zx_iload_n (pc := 12) dX0_valueOf_12 rfl rfl ?_
    refine zx_iload_n (pc := 13) dX0_valueOf_13 rfl rfl ?_
    refine zi_X0_131 (pc := 14) dX0_valueOf_14 (C_X1_findData hb r1 r2) (by decide) (Nat.le_of_ble_eq_true rfl) (fun z14 h14 u14 v14 q14 => ?_)
    obtain ⟨rfl, e14⟩ := q14
    rw [e14]
    clear e14 h14
    refine zx_istore_n (pc := 17) dX0_valueOf_17 rfl (by decide) rfl ?_
    refine zx_aload_n (pc := 18) dX0_valueOf_18 rfl rfl ?_
    refine zg_X0_12 (pc := 19) dX0_valueOf_19 ?_
    refine zx_iload_n (pc := 22) dX0_valueOf_22 rfl rfl ?_
    refine zi_X0_91 (pc := 23) dX0_valueOf_23 (C_X1_hasPlace (by omega)) (by decide) (Nat.le_of_ble_eq_true rfl) (fun z23 h23 u23 v23 q23 => ?_)
    obtain ⟨rfl, e23⟩ := q23
    rw [e23]
    clear e23 h23
    refine zx_if_eq (pc := 26) (tgt := 41) dX0_valueOf_26 (by decide) (fun o => by first | exact o.1 _ (by decide) | exact o.2 _ _ | omega) (fun c26 => ?_) (fun c26 => ?_)
    · skip
      try replace c26 := b2i_0.mp c26
      rw [ifp_f c26]
      refine zx_iconst (pc := 41) dX0_valueOf_41 ?_
      refine zx_iret (pc := 42) dX0_valueOf_42 (fun o => by first | exact o.1 _ (by decide) | exact o.2 _ _ | omega) ?_
      exact ⟨rfl, rfl⟩
    · skip
      try replace c26 := b2i_n0.mp c26
      rw [ifp_t c26]
      obtain ⟨k1, k2⟩ := c26
      refine zx_aload_n (pc := 29) dX0_valueOf_29 rfl rfl ?_
      refine zg_X0_12 (pc := 30) dX0_valueOf_30 ?_
      refine zg_X0_135 (pc := 33) dX0_valueOf_33 ?_
      refine zx_iload_n (pc := 36) dX0_valueOf_36 rfl rfl ?_
      refine zx_iaload (pc := 37) aX1_value dX0_valueOf_37 (by omega) (by omega) (by omega) ?_
      refine zx_goto (pc := 38) (tgt := 42) dX0_valueOf_38 (by decide) ?_
      refine zx_iret (pc := 42) dX0_valueOf_42 (fun o => by first | exact o.1 _ (by decide) | exact o.2 _ _ | omega) ?_
      exact ⟨rfl, rfl⟩
  · skip
    rw [ifp_t c1]
    refine zx_iconst (pc := 4) dX0_valueOf_4 ?_
    refine zx_goto (pc := 5) (tgt := 17) dX0_valueOf_5 (by decide) ?_
    refine zx_istore_n (pc := 17) dX0_valueOf_17 rfl (by decide) rfl ?_
    refine zx_aload_n (pc := 18) dX0_valueOf_18 rfl rfl ?_
    refine zg_X0_12 (pc := 19) dX0_valueOf_19 ?_
    refine zx_iload_n (pc := 22) dX0_valueOf_22 rfl rfl ?_
    refine zi_X0_91 (pc := 23) dX0_valueOf_23 (C_X1_hasPlace (by omega)) (by decide) (Nat.le_of_ble_eq_true rfl) (fun z23 h23 u23 v23 q23 => ?_)
    obtain ⟨rfl, e23⟩ := q23
    rw [e23]
    clear e23 h23
    refine zx_if_eq (pc := 26) (tgt := 41) dX0_valueOf_26 (by decide) (fun o => by first | exact o.1 _ (by decide) | exact o.2 _ _ | omega) (fun c26 => ?_) (fun c26 => ?_)
    · skip
      try replace c26 := b2i_0.mp c26
      skip
      refine zx_iconst (pc := 41) dX0_valueOf_41 ?_
      refine zx_iret (pc := 42) dX0_valueOf_42 (fun o => by first | exact o.1 _ (by decide) | exact o.2 _ _ | omega) ?_
      exact ⟨rfl, rfl⟩
    · skip
      try replace c26 := b2i_n0.mp c26
      exact absurd c26.1 (by omega)
set_option maxRecDepth 100000 in
theorem C_X0_isBetterVictim {h : zH} {a1 a2 : Int} (h1 : 0 ≤ a1 ∧ a1 < 32) (h2 : 0 ≤ a2 ∧ a2 < 32) : kX0_isBetterVictim a1 a2 h (fun r h2 => r = b2i (xBet h a1 a2) ∧ h2 = h) := by
  apply eX0_isBetterVictim
  refine zx_aload_n (pc := 0) dX0_isBetterVictim_0 rfl rfl ?_
  refine zg_X0_39 (pc := 1) dX0_isBetterVictim_1 ?_
  refine zx_iload_n (pc := 4) dX0_isBetterVictim_4 rfl rfl ?_
  refine zx_iaload (pc := 5) aX0_liveIn dX0_isBetterVictim_5 (by omega) (by omega) (by omega) ?_
  refine zx_aload_n (pc := 6) dX0_isBetterVictim_6 rfl rfl ?_
  refine zg_X0_39 (pc := 7) dX0_isBetterVictim_7 ?_
  refine zx_iload_n (pc := 10) dX0_isBetterVictim_10 rfl rfl ?_
  refine zx_iaload (pc := 11) aX0_liveIn dX0_isBetterVictim_11 (by omega) (by omega) (by omega) ?_
  refine zx_icmp_eq (pc := 12) (tgt := 36) dX0_isBetterVictim_12 (by decide) (fun o => by first | exact o.1 _ (by decide) | exact o.2 _ _ | omega) (fun o => by first | exact o.1 _ (by decide) | exact o.2 _ _ | omega) (fun c12 => ?_) (fun c12 => ?_)
  · skip
    refine zx_aload_n (pc := 36) dX0_isBetterVictim_36 rfl rfl ?_
    refine zg_X0_12 (pc := 37) dX0_isBetterVictim_37 ?_
    refine zg_X0_168 (pc := 40) dX0_isBetterVictim_40 ?_
    refine zx_iload_n (pc := 43) dX0_isBetterVictim_43 rfl rfl ?_
    refine zx_iaload (pc := 44) aX1_wear dX0_isBetterVictim_44 (by omega) (by omega) (by omega) ?_
    refine zx_aload_n (pc := 45) dX0_isBetterVictim_45 rfl rfl ?_
    refine zg_X0_12 (pc := 46) dX0_isBetterVictim_46 ?_
    refine zg_X0_168 (pc := 49) dX0_isBetterVictim_49 ?_
    refine zx_iload_n (pc := 52) dX0_isBetterVictim_52 rfl rfl ?_
    refine zx_iaload (pc := 53) aX1_wear dX0_isBetterVictim_53 (by omega) (by omega) (by omega) ?_
    refine zx_icmp_ge (pc := 54) (tgt := 61) dX0_isBetterVictim_54 (by decide) (fun o => by first | exact o.1 _ (by decide) | exact o.2 _ _ | omega) (fun o => by first | exact o.1 _ (by decide) | exact o.2 _ _ | omega) (fun c54 => ?_) (fun c54 => ?_)
    · skip
      refine zx_iconst (pc := 61) dX0_isBetterVictim_61 ?_
      refine zx_zret (pc := 62) dX0_isBetterVictim_62 (by omega) ?_
      refine ⟨?_, rfl⟩
      first | exact (b2i_t (by unfold xBet; omega)).symm | exact (b2i_f (by unfold xBet; omega)).symm
    · skip
      refine zx_iconst (pc := 57) dX0_isBetterVictim_57 ?_
      refine zx_goto (pc := 58) (tgt := 62) dX0_isBetterVictim_58 (by decide) ?_
      refine zx_zret (pc := 62) dX0_isBetterVictim_62 (by omega) ?_
      refine ⟨?_, rfl⟩
      first | exact (b2i_t (by unfold xBet; omega)).symm | exact (b2i_f (by unfold xBet; omega)).symm
  · skip
    refine zx_aload_n (pc := 15) dX0_isBetterVictim_15 rfl rfl ?_
    refine zg_X0_39 (pc := 16) dX0_isBetterVictim_16 ?_
    refine zx_iload_n (pc := 19) dX0_isBetterVictim_19 rfl rfl ?_
    refine zx_iaload (pc := 20) aX0_liveIn dX0_isBetterVictim_20 (by omega) (by omega) (by omega) ?_
    refine zx_aload_n (pc := 21) dX0_isBetterVictim_21 rfl rfl ?_
    refine zg_X0_39 (pc := 22) dX0_isBetterVictim_22 ?_
    refine zx_iload_n (pc := 25) dX0_isBetterVictim_25 rfl rfl ?_
    refine zx_iaload (pc := 26) aX0_liveIn dX0_isBetterVictim_26 (by omega) (by omega) (by omega) ?_
    refine zx_icmp_ge (pc := 27) (tgt := 34) dX0_isBetterVictim_27 (by decide) (fun o => by first | exact o.1 _ (by decide) | exact o.2 _ _ | omega) (fun o => by first | exact o.1 _ (by decide) | exact o.2 _ _ | omega) (fun c27 => ?_) (fun c27 => ?_)
    · skip
      refine zx_iconst (pc := 34) dX0_isBetterVictim_34 ?_
      refine zx_zret (pc := 35) dX0_isBetterVictim_35 (by omega) ?_
      refine ⟨?_, rfl⟩
      first | exact (b2i_t (by unfold xBet; omega)).symm | exact (b2i_f (by unfold xBet; omega)).symm
    · skip
      refine zx_iconst (pc := 30) dX0_isBetterVictim_30 ?_
      refine zx_goto (pc := 31) (tgt := 35) dX0_isBetterVictim_31 (by decide) ?_
      refine zx_zret (pc := 35) dX0_isBetterVictim_35 (by omega) ?_
      refine ⟨?_, rfl⟩
      first | exact (b2i_t (by unfold xBet; omega)).symm | exact (b2i_f (by unfold xBet; omega)).symm
theorem xFP_r {h : zH} (hb : XB h) (hu : XU h) (b : Int) : 0 ≤ xFP h b ∧ xFP h b ≤ 32 := by
  unfold xFP
  rcases Classical.em (xBlk h b) with c | c
  · rw [ifp_t c]
    have := hu b c.1 c.2
    have := hb.2.1
    omega
  · rw [ifp_f c]; omega
theorem xCV_r (h : zH) (act : Int) : ∀ n : Nat, -1 ≤ xCV h act n ∧ xCV h act n < n
  | 0 => by simp [xCV]
  | n + 1 => by
    have q := xCV_r h act n
    rw [xCV]
    rcases Classical.em (0 < ga h 18 n ∧ (n : Int) ≠ act ∧ ga h 9 n < xFP h act ∧ (xCV h act n < 0 ∨ xBet h n (xCV h act n))) with c | c
    · rw [ifp_t c]; omega
    · rw [ifp_f c]; omega
set_option maxRecDepth 100000 in
theorem L_X0_chooseVictim {h : zH} (hb : XB h) (hu : XU h) {a1 : Int} (r1 : -2147483648 ≤ a1 ∧ a1 < 2147483648) (Q : Int → zH → Prop) (hQ : Q (xVict h a1) h) : ∀ (n : Nat) (i c : Int), 0 ≤ i → i ≤ gs h 70 → gs h 70 - i < n → c = xCV h a1 i.toNat → zX cX zNo RX0 cX0_chooseVictim 6 (some .int) rX0_chooseVictim 14 [some (.ref 2), some (.int (iI a1)), some (.int (iI (xFP h a1))), some (.int (iI c)), some (.int (iI i)), none] [] h (zEi cX Q) := by
  have fp := xFP_r hb hu a1
  obtain ⟨⟨b1, b2⟩, ⟨b3, b4⟩, b5⟩ := hb
  intro n
  induction n with
  | zero => intro i c g1 g2 g3; omega
  | succ n ih =>
    intro i c g1 g2 g3 g4
    have g5 := xCV_r h a1 i.toNat
    obtain ⟨g6, g7⟩ := toNat_next g1
    have y (z : 0 < ga h 18 i ∧ i ≠ a1 ∧ ga h 9 i < xFP h a1 ∧ (c < 0 ∨ xBet h i c)) : xCV h a1 (i + 1).toNat = i := by
      rw [g6, xCV, g7, ← g4]
      exact ifp_t z
    have nn (z : ¬ (0 < ga h 18 i ∧ i ≠ a1 ∧ ga h 9 i < xFP h a1 ∧ (c < 0 ∨ xBet h i c))) : xCV h a1 (i + 1).toNat = c := by
      rw [g6, xCV, g7, ← g4]
      exact ifp_f z
    refine zx_iload (pc := 14) dX0_chooseVictim_14 rfl ?_
    refine zx_aload_n (pc := 16) dX0_chooseVictim_16 rfl rfl ?_
    refine zg_X0_12 (pc := 17) dX0_chooseVictim_17 ?_
    refine zg_X0_47 (pc := 20) dX0_chooseVictim_20 ?_
    refine zx_icmp_ge (pc := 23) (tgt := 91) dX0_chooseVictim_23 (by decide) (fun o => by first | exact o.1 _ (by decide) | exact o.2 _ _ | omega) (fun o => by first | exact o.1 _ (by decide) | exact o.2 _ _ | omega) (fun c23 => ?_) (fun c23 => ?_)
    · skip
      refine zx_iload_n (pc := 91) dX0_chooseVictim_91 rfl rfl ?_
      refine zx_iret (pc := 92) dX0_chooseVictim_92 (fun o => by first | exact o.1 _ (by decide) | exact o.2 _ _ | omega) ?_
      have e : i = gs h 70 := by omega
      rw [g4, e]
      exact hQ
    · skip
      refine zx_aload_n (pc := 26) dX0_chooseVictim_26 rfl rfl ?_
      refine zg_X0_12 (pc := 27) dX0_chooseVictim_27 ?_
      refine zg_X0_121 (pc := 30) dX0_chooseVictim_30 ?_
      refine zx_iload (pc := 33) dX0_chooseVictim_33 rfl ?_
      refine zx_iaload (pc := 35) aX1_used dX0_chooseVictim_35 (by omega) (by omega) (by omega) ?_
      refine zx_if_le (pc := 36) (tgt := 60) dX0_chooseVictim_36 (by decide) (fun o => by first | exact o.1 _ (by decide) | exact o.2 _ _ | omega) (fun c36 => ?_) (fun c36 => ?_)
      · skip
        have w := nn (fun z => by have := z.1; omega)
        refine zx_iconst (pc := 60) dX0_chooseVictim_60 ?_
        refine zx_istore (pc := 61) dX0_chooseVictim_61 (by decide) rfl ?_
        refine zx_iload (pc := 63) dX0_chooseVictim_63 rfl ?_
        refine zx_if_eq (pc := 65) (tgt := 85) dX0_chooseVictim_65 (by decide) (fun _ => by decide) (fun _ => ?_) (fun c9 => absurd c9 (by decide))
        refine zx_iinc (pc := 85) dX0_chooseVictim_85 (by decide) rfl rfl ?_
        refine zx_goto (pc := 88) (tgt := 14) dX0_chooseVictim_88 (by decide) ?_
        refine zx_sub [true, true, true, true, true, false] ?_
        dsimp only [zMask, List.set]
        exact ih (i + 1) _ (by omega) (by omega) (by omega) w.symm
      · skip
        refine zx_iload (pc := 39) dX0_chooseVictim_39 rfl ?_
        refine zx_iload_n (pc := 41) dX0_chooseVictim_41 rfl rfl ?_
        refine zx_icmp_eq (pc := 42) (tgt := 60) dX0_chooseVictim_42 (by decide) (fun o => by first | exact o.1 _ (by decide) | exact o.2 _ _ | omega) (fun o => by first | exact o.1 _ (by decide) | exact o.2 _ _ | omega) (fun c42 => ?_) (fun c42 => ?_)
        · skip
          have w := nn (fun z => z.2.1 c42)
          refine zx_iconst (pc := 60) dX0_chooseVictim_60 ?_
          refine zx_istore (pc := 61) dX0_chooseVictim_61 (by decide) rfl ?_
          refine zx_iload (pc := 63) dX0_chooseVictim_63 rfl ?_
          refine zx_if_eq (pc := 65) (tgt := 85) dX0_chooseVictim_65 (by decide) (fun _ => by decide) (fun _ => ?_) (fun c9 => absurd c9 (by decide))
          refine zx_iinc (pc := 85) dX0_chooseVictim_85 (by decide) rfl rfl ?_
          refine zx_goto (pc := 88) (tgt := 14) dX0_chooseVictim_88 (by decide) ?_
          refine zx_sub [true, true, true, true, true, false] ?_
          dsimp only [zMask, List.set]
          exact ih (i + 1) _ (by omega) (by omega) (by omega) w.symm
        · skip
          refine zx_aload_n (pc := 45) dX0_chooseVictim_45 rfl rfl ?_
          refine zg_X0_39 (pc := 46) dX0_chooseVictim_46 ?_
          refine zx_iload (pc := 49) dX0_chooseVictim_49 rfl ?_
          refine zx_iaload (pc := 51) aX0_liveIn dX0_chooseVictim_51 (by omega) (by omega) (by omega) ?_
          refine zx_iload_n (pc := 52) dX0_chooseVictim_52 rfl rfl ?_
          refine zx_icmp_ge (pc := 53) (tgt := 60) dX0_chooseVictim_53 (by decide) (fun o => by first | exact o.1 _ (by decide) | exact o.2 _ _ | omega) (fun o => by first | exact o.1 _ (by decide) | exact o.2 _ _ | omega) (fun c53 => ?_) (fun c53 => ?_)
          · skip
            have w := nn (fun z => by have := z.2.2.1; omega)
            refine zx_iconst (pc := 60) dX0_chooseVictim_60 ?_
            refine zx_istore (pc := 61) dX0_chooseVictim_61 (by decide) rfl ?_
            refine zx_iload (pc := 63) dX0_chooseVictim_63 rfl ?_
            refine zx_if_eq (pc := 65) (tgt := 85) dX0_chooseVictim_65 (by decide) (fun _ => by decide) (fun _ => ?_) (fun c9 => absurd c9 (by decide))
            refine zx_iinc (pc := 85) dX0_chooseVictim_85 (by decide) rfl rfl ?_
            refine zx_goto (pc := 88) (tgt := 14) dX0_chooseVictim_88 (by decide) ?_
            refine zx_sub [true, true, true, true, true, false] ?_
            dsimp only [zMask, List.set]
            exact ih (i + 1) _ (by omega) (by omega) (by omega) w.symm
          · skip
            refine zx_iconst (pc := 56) dX0_chooseVictim_56 ?_
            refine zx_goto (pc := 57) (tgt := 61) dX0_chooseVictim_57 (by decide) ?_
            refine zx_istore (pc := 61) dX0_chooseVictim_61 (by decide) rfl ?_
            refine zx_iload (pc := 63) dX0_chooseVictim_63 rfl ?_
            refine zx_if_eq (pc := 65) (tgt := 85) dX0_chooseVictim_65 (by decide) (fun _ => by decide) (fun c9 => absurd c9 (by decide)) (fun _ => ?_)
            refine zx_iload_n (pc := 68) dX0_chooseVictim_68 rfl rfl ?_
            refine zx_if_lt (pc := 69) (tgt := 82) dX0_chooseVictim_69 (by decide) (fun o => by first | exact o.1 _ (by decide) | exact o.2 _ _ | omega) (fun c69 => ?_) (fun c69 => ?_)
            · skip
              have w := y ⟨by omega, by omega, by omega, Or.inl (by omega)⟩
              refine zx_iload (pc := 82) dX0_chooseVictim_82 rfl ?_
              refine zx_istore_n (pc := 84) dX0_chooseVictim_84 rfl (by decide) rfl ?_
              refine zx_iinc (pc := 85) dX0_chooseVictim_85 (by decide) rfl rfl ?_
              refine zx_goto (pc := 88) (tgt := 14) dX0_chooseVictim_88 (by decide) ?_
              refine zx_sub [true, true, true, true, true, false] ?_
              dsimp only [zMask, List.set]
              exact ih (i + 1) _ (by omega) (by omega) (by omega) w.symm
            · skip
              refine zx_aload_n (pc := 72) dX0_chooseVictim_72 rfl rfl ?_
              refine zx_iload (pc := 73) dX0_chooseVictim_73 rfl ?_
              refine zx_iload_n (pc := 75) dX0_chooseVictim_75 rfl rfl ?_
              refine zi_X0_165 (pc := 76) dX0_chooseVictim_76 (C_X0_isBetterVictim ⟨g1, by omega⟩ ⟨by omega, by omega⟩) (by decide) (Nat.le_of_ble_eq_true rfl) (fun z76 h76 u76 v76 q76 => ?_)
              obtain ⟨rfl, e76⟩ := q76
              rw [e76]
              clear e76 h76
              refine zx_if_eq (pc := 79) (tgt := 85) dX0_chooseVictim_79 (by decide) (fun o => by first | exact o.1 _ (by decide) | exact o.2 _ _ | omega) (fun c79 => ?_) (fun c79 => ?_)
              · skip
                try replace c79 := b2i_0.mp c79
                have w := nn (fun z => by rcases z.2.2.2 with z | z; omega; exact c79 z)
                refine zx_iinc (pc := 85) dX0_chooseVictim_85 (by decide) rfl rfl ?_
                refine zx_goto (pc := 88) (tgt := 14) dX0_chooseVictim_88 (by decide) ?_
                refine zx_sub [true, true, true, true, true, false] ?_
                dsimp only [zMask, List.set]
                exact ih (i + 1) _ (by omega) (by omega) (by omega) w.symm
              · skip
                try replace c79 := b2i_n0.mp c79
                have w := y ⟨by omega, by omega, by omega, Or.inr c79⟩
                refine zx_iload (pc := 82) dX0_chooseVictim_82 rfl ?_
                refine zx_istore_n (pc := 84) dX0_chooseVictim_84 rfl (by decide) rfl ?_
                refine zx_iinc (pc := 85) dX0_chooseVictim_85 (by decide) rfl rfl ?_
                refine zx_goto (pc := 88) (tgt := 14) dX0_chooseVictim_88 (by decide) ?_
                refine zx_sub [true, true, true, true, true, false] ?_
                dsimp only [zMask, List.set]
                exact ih (i + 1) _ (by omega) (by omega) (by omega) w.symm
set_option maxRecDepth 100000 in
theorem C_X0_chooseVictim {h : zH} (hb : XB h) (hu : XU h) {a1 : Int} (r1 : -2147483648 ≤ a1 ∧ a1 < 2147483648) : kX0_chooseVictim a1 h (fun r h2 => r = xVict h a1 ∧ h2 = h) := by
  apply eX0_chooseVictim
  refine zx_aload_n (pc := 0) dX0_chooseVictim_0 rfl rfl ?_
  refine zg_X0_12 (pc := 1) dX0_chooseVictim_1 ?_
  refine zx_iload_n (pc := 4) dX0_chooseVictim_4 rfl rfl ?_
  refine zi_X0_138 (pc := 5) dX0_chooseVictim_5 (C_X1_countFreePages hb r1 (fun z => hu a1 z.1 z.2)) (by decide) (Nat.le_of_ble_eq_true rfl) (fun z5 h5 u5 v5 q5 => ?_)
  obtain ⟨rfl, e5⟩ := q5
  rw [e5]
  clear e5 h5
  refine zx_istore_n (pc := 8) dX0_chooseVictim_8 rfl (by decide) rfl ?_
  refine zx_iconst (pc := 9) dX0_chooseVictim_9 ?_
  refine zx_istore_n (pc := 10) dX0_chooseVictim_10 rfl (by decide) rfl ?_
  refine zx_iconst (pc := 11) dX0_chooseVictim_11 ?_
  refine zx_istore (pc := 12) dX0_chooseVictim_12 (by decide) rfl ?_
  exact L_X0_chooseVictim hb hu r1 (fun r h2 => r = xVict h a1 ∧ h2 = h) ⟨rfl, rfl⟩ 33 0 _ (Int.le_refl _) hb.1.1 (by have := hb.1.2; omega) rfl

