/-! the class: words, numbers, the whole text -/
section ZA
variable {cs : zH → List aC} {G : zGv} {own : String} {cc : ByteArray} {nL : Nat} {ret : Option FieldType} {rm : Room} {pc : Nat} {ls : List (Option Value)} {st : List Value} {h : zH} {E : zF}
theorem zx_astore_n {j : Fin 4} {i : Nat} {x : Nat} (hd : decode cc pc = .ok (.astore_n j, 1)) (hi : (j : Nat) = i) (hn : i < nL) (hc : zNL ls i = true)
    (k : zX cs G own cc nL ret rm (pc + 1) (ls.set i (some (.ref x))) st h E) : zX cs G own cc nL ret rm pc ls (.ref x :: st) h E := by
  intro p l e s m args below meth c D cA adr A H locs lsa C hA hG hO hK hP hD hS hl
  exact lv_astore_n C.1 C.2.1 hd hi hl hn rfl (fun ls2 hl2 => k p l e s m args below meth c D cA adr A H locs ls2 C hA hG hO hK hP hD hS (zL_put (x := .ref x) hc hl2))
end ZA
theorem tn_1 {h : zH} (v : Int) (c : gs h 30 = 1) : x_tn2 h v = x_son (ps h 25 v) (b2i (4 ≤ v ∧ v ≤ 32)) := ifp_t c
theorem tn_3 {h : zH} (v : Int) (c : gs h 30 = 3) : x_tn2 h v = x_son (ps h 26 v) (b2i (2 ≤ v ∧ v ≤ 32)) := by
  unfold x_tn2
  rw [ifp_f (by omega), ifp_t c]
theorem tn_5 {h : zH} (v : Int) (c : gs h 30 = 5) : x_tn2 h v = x_son (ps h 27 v) (b2i ((1 ≤ v ∧ v ≤ 64) ∧ xFits (ps h 27 v) v)) := by
  unfold x_tn2
  rw [ifp_f (by omega), ifp_f (by omega), ifp_t c]
theorem tn_7 {h : zH} (v : Int) (c : gs h 30 = 7) : x_tn2 h v = x_son (ps h 28 v) (b2i (1 ≤ v ∧ v ≤ 50)) := by
  unfold x_tn2
  rw [ifp_f (by omega), ifp_f (by omega), ifp_f (by omega), ifp_t c]
theorem tn_10 {h : zH} (v : Int) (c : gs h 30 = 10 ∨ gs h 30 = 11) : x_tn2 h v = x_tval h v := by
  unfold x_tn2
  rw [ifp_f (by omega), ifp_f (by omega), ifp_f (by omega), ifp_f (by omega), ifp_t c]
theorem tn_o {h : zH} (v : Int) (c : ¬ (gs h 30 = 1 ∨ gs h 30 = 3 ∨ gs h 30 = 5 ∨ gs h 30 = 7 ∨ gs h 30 = 10 ∨ gs h 30 = 11)) : x_tn2 h v = (h, 1) := by
  unfold x_tn2
  rw [ifp_f (by omega), ifp_f (by omega), ifp_f (by omega), ifp_f (by omega), ifp_f (by omega)]
set_option maxRecDepth 100000 in
theorem L2_X2_takeNumber {h : zH} (xp : XP h) {a1 a2 v i : Int} (v0 : 0 ≤ v) (v1 : v < 1000000) : zX cX zNo RX2 cX2_takeNumber 5 (some .int) rX2_takeNumber 43 [some (.ref 1), some (.int (iI a1)), some (.int (iI a2)), some (.int (iI v)), some (.int (iI i))] [] h (zEi cX (fun r h2 => r = (x_tn2 h v).2 ∧ h2 = (x_tn2 h v).1)) := by
  obtain ⟨x1, x2, x3, x4⟩ := xp
  refine zx_aload_n (pc := 43) dX2_takeNumber_43 rfl rfl ?_
  refine zg_X2_31 (pc := 44) dX2_takeNumber_44 ?_
  rcases (show gs h 30 = 1 ∨ gs h 30 = 2 ∨ gs h 30 = 3 ∨ gs h 30 = 4 ∨ gs h 30 = 5 ∨ gs h 30 = 6 ∨ gs h 30 = 7 ∨ gs h 30 = 8 ∨ gs h 30 = 9 ∨ gs h 30 = 10 ∨ gs h 30 = 11 ∨ (gs h 30 < 1 ∨ 11 < gs h 30) by omega) with sw | sw | sw | sw | sw | sw | sw | sw | sw | sw | sw | sw
  · skip
    refine zx_swIn (pc := 47) (tgt := 104) dX2_takeNumber_47 (fun o => by first | exact o.1 _ (by decide) | exact o.2 _ _ | omega) (by omega) (by omega) (by rw [sw]; rfl) (by decide) ?_
    refine zx_aload_n (pc := 104) dX2_takeNumber_104 rfl rfl ?_
    refine zx_iload_n (pc := 105) dX2_takeNumber_105 rfl rfl ?_
    refine zp_X2_92 (pc := 106) dX2_takeNumber_106 (fun o => by first | exact o.1 _ (by decide) | exact o.2 _ _ | omega) ?_
    refine zx_aload_n (pc := 109) dX2_takeNumber_109 rfl rfl ?_
    refine zx_iload_n (pc := 110) dX2_takeNumber_110 rfl rfl ?_
    refine zx_iconst (pc := 111) dX2_takeNumber_111 ?_
    refine zx_icmp_lt (pc := 112) (tgt := 125) dX2_takeNumber_112 (by decide) (fun o => by first | exact o.1 _ (by decide) | exact o.2 _ _ | omega) (fun o => by first | exact o.1 _ (by decide) | exact o.2 _ _ | omega) (fun c112 => ?_) (fun c112 => ?_)
    · skip
      refine zx_iconst (pc := 125) dX2_takeNumber_125 ?_
      refine zi_X2_95 (pc := 126) dX2_takeNumber_126 (C_X2_stepOnIf (h := ps h 25 v) (by decide) (show 0 ≤ gs h 30 ∧ gs h 30 ≤ 100 by omega)) (by decide) (Nat.le_of_ble_eq_true rfl) (fun z126 h126 u126 v126 q126 => ?_)
      obtain ⟨rfl, e126⟩ := q126
      rw [e126]
      clear e126 h126
      refine zx_iret (pc := 129) dX2_takeNumber_129 (fun o => by first | exact o.1 _ (by decide) | exact o.2 _ _ | omega) ?_
      rw [tn_1 v sw]
      first | rw [b2i_t (by omega)] | rw [b2i_f (by omega)]
      exact ⟨rfl, rfl⟩
    · skip
      refine zx_iload_n (pc := 115) dX2_takeNumber_115 rfl rfl ?_
      refine zx_bipush (pc := 116) dX2_takeNumber_116 (by decide +kernel) ?_
      refine zx_icmp_gt (pc := 118) (tgt := 125) dX2_takeNumber_118 (by decide) (fun o => by first | exact o.1 _ (by decide) | exact o.2 _ _ | omega) (fun o => by first | exact o.1 _ (by decide) | exact o.2 _ _ | omega) (fun c118 => ?_) (fun c118 => ?_)
      · skip
        refine zx_iconst (pc := 125) dX2_takeNumber_125 ?_
        refine zi_X2_95 (pc := 126) dX2_takeNumber_126 (C_X2_stepOnIf (h := ps h 25 v) (by decide) (show 0 ≤ gs h 30 ∧ gs h 30 ≤ 100 by omega)) (by decide) (Nat.le_of_ble_eq_true rfl) (fun z126 h126 u126 v126 q126 => ?_)
        obtain ⟨rfl, e126⟩ := q126
        rw [e126]
        clear e126 h126
        refine zx_iret (pc := 129) dX2_takeNumber_129 (fun o => by first | exact o.1 _ (by decide) | exact o.2 _ _ | omega) ?_
        rw [tn_1 v sw]
        first | rw [b2i_t (by omega)] | rw [b2i_f (by omega)]
        exact ⟨rfl, rfl⟩
      · skip
        refine zx_iconst (pc := 121) dX2_takeNumber_121 ?_
        refine zx_goto (pc := 122) (tgt := 126) dX2_takeNumber_122 (by decide) ?_
        refine zi_X2_95 (pc := 126) dX2_takeNumber_126 (C_X2_stepOnIf (h := ps h 25 v) (by decide) (show 0 ≤ gs h 30 ∧ gs h 30 ≤ 100 by omega)) (by decide) (Nat.le_of_ble_eq_true rfl) (fun z126 h126 u126 v126 q126 => ?_)
        obtain ⟨rfl, e126⟩ := q126
        rw [e126]
        clear e126 h126
        refine zx_iret (pc := 129) dX2_takeNumber_129 (fun o => by first | exact o.1 _ (by decide) | exact o.2 _ _ | omega) ?_
        rw [tn_1 v sw]
        first | rw [b2i_t (by omega)] | rw [b2i_f (by omega)]
        exact ⟨rfl, rfl⟩
  · skip
    refine zx_swIn (pc := 47) (tgt := 222) dX2_takeNumber_47 (fun o => by first | exact o.1 _ (by decide) | exact o.2 _ _ | omega) (by omega) (by omega) (by rw [sw]; rfl) (by decide) ?_
    refine zx_iconst (pc := 222) dX2_takeNumber_222 ?_
    refine zx_iret (pc := 223) dX2_takeNumber_223 (fun o => by first | exact o.1 _ (by decide) | exact o.2 _ _ | omega) ?_
    rw [tn_o v (by omega)]
    exact ⟨rfl, rfl⟩
  · skip
    refine zx_swIn (pc := 47) (tgt := 130) dX2_takeNumber_47 (fun o => by first | exact o.1 _ (by decide) | exact o.2 _ _ | omega) (by omega) (by omega) (by rw [sw]; rfl) (by decide) ?_
    refine zx_aload_n (pc := 130) dX2_takeNumber_130 rfl rfl ?_
    refine zx_iload_n (pc := 131) dX2_takeNumber_131 rfl rfl ?_
    refine zp_X2_99 (pc := 132) dX2_takeNumber_132 (fun o => by first | exact o.1 _ (by decide) | exact o.2 _ _ | omega) ?_
    refine zx_aload_n (pc := 135) dX2_takeNumber_135 rfl rfl ?_
    refine zx_iload_n (pc := 136) dX2_takeNumber_136 rfl rfl ?_
    refine zx_iconst (pc := 137) dX2_takeNumber_137 ?_
    refine zx_icmp_lt (pc := 138) (tgt := 151) dX2_takeNumber_138 (by decide) (fun o => by first | exact o.1 _ (by decide) | exact o.2 _ _ | omega) (fun o => by first | exact o.1 _ (by decide) | exact o.2 _ _ | omega) (fun c138 => ?_) (fun c138 => ?_)
    · skip
      refine zx_iconst (pc := 151) dX2_takeNumber_151 ?_
      refine zi_X2_95 (pc := 152) dX2_takeNumber_152 (C_X2_stepOnIf (h := ps h 26 v) (by decide) (show 0 ≤ gs h 30 ∧ gs h 30 ≤ 100 by omega)) (by decide) (Nat.le_of_ble_eq_true rfl) (fun z152 h152 u152 v152 q152 => ?_)
      obtain ⟨rfl, e152⟩ := q152
      rw [e152]
      clear e152 h152
      refine zx_iret (pc := 155) dX2_takeNumber_155 (fun o => by first | exact o.1 _ (by decide) | exact o.2 _ _ | omega) ?_
      rw [tn_3 v sw]
      first | rw [b2i_t (by omega)] | rw [b2i_f (by omega)]
      exact ⟨rfl, rfl⟩
    · skip
      refine zx_iload_n (pc := 141) dX2_takeNumber_141 rfl rfl ?_
      refine zx_bipush (pc := 142) dX2_takeNumber_142 (by decide +kernel) ?_
      refine zx_icmp_gt (pc := 144) (tgt := 151) dX2_takeNumber_144 (by decide) (fun o => by first | exact o.1 _ (by decide) | exact o.2 _ _ | omega) (fun o => by first | exact o.1 _ (by decide) | exact o.2 _ _ | omega) (fun c144 => ?_) (fun c144 => ?_)
      · skip
        refine zx_iconst (pc := 151) dX2_takeNumber_151 ?_
        refine zi_X2_95 (pc := 152) dX2_takeNumber_152 (C_X2_stepOnIf (h := ps h 26 v) (by decide) (show 0 ≤ gs h 30 ∧ gs h 30 ≤ 100 by omega)) (by decide) (Nat.le_of_ble_eq_true rfl) (fun z152 h152 u152 v152 q152 => ?_)
        obtain ⟨rfl, e152⟩ := q152
        rw [e152]
        clear e152 h152
        refine zx_iret (pc := 155) dX2_takeNumber_155 (fun o => by first | exact o.1 _ (by decide) | exact o.2 _ _ | omega) ?_
        rw [tn_3 v sw]
        first | rw [b2i_t (by omega)] | rw [b2i_f (by omega)]
        exact ⟨rfl, rfl⟩
      · skip
        refine zx_iconst (pc := 147) dX2_takeNumber_147 ?_
        refine zx_goto (pc := 148) (tgt := 152) dX2_takeNumber_148 (by decide) ?_
        refine zi_X2_95 (pc := 152) dX2_takeNumber_152 (C_X2_stepOnIf (h := ps h 26 v) (by decide) (show 0 ≤ gs h 30 ∧ gs h 30 ≤ 100 by omega)) (by decide) (Nat.le_of_ble_eq_true rfl) (fun z152 h152 u152 v152 q152 => ?_)
        obtain ⟨rfl, e152⟩ := q152
        rw [e152]
        clear e152 h152
        refine zx_iret (pc := 155) dX2_takeNumber_155 (fun o => by first | exact o.1 _ (by decide) | exact o.2 _ _ | omega) ?_
        rw [tn_3 v sw]
        first | rw [b2i_t (by omega)] | rw [b2i_f (by omega)]
        exact ⟨rfl, rfl⟩
  · skip
    refine zx_swIn (pc := 47) (tgt := 222) dX2_takeNumber_47 (fun o => by first | exact o.1 _ (by decide) | exact o.2 _ _ | omega) (by omega) (by omega) (by rw [sw]; rfl) (by decide) ?_
    refine zx_iconst (pc := 222) dX2_takeNumber_222 ?_
    refine zx_iret (pc := 223) dX2_takeNumber_223 (fun o => by first | exact o.1 _ (by decide) | exact o.2 _ _ | omega) ?_
    rw [tn_o v (by omega)]
    exact ⟨rfl, rfl⟩
  · skip
    refine zx_swIn (pc := 47) (tgt := 156) dX2_takeNumber_47 (fun o => by first | exact o.1 _ (by decide) | exact o.2 _ _ | omega) (by omega) (by omega) (by rw [sw]; rfl) (by decide) ?_
    refine zx_aload_n (pc := 156) dX2_takeNumber_156 rfl rfl ?_
    refine zx_iload_n (pc := 157) dX2_takeNumber_157 rfl rfl ?_
    refine zp_X2_102 (pc := 158) dX2_takeNumber_158 (fun o => by first | exact o.1 _ (by decide) | exact o.2 _ _ | omega) ?_
    refine zx_aload_n (pc := 161) dX2_takeNumber_161 rfl rfl ?_
    refine zx_iload_n (pc := 162) dX2_takeNumber_162 rfl rfl ?_
    refine zx_iconst (pc := 163) dX2_takeNumber_163 ?_
    refine zx_icmp_lt (pc := 164) (tgt := 185) dX2_takeNumber_164 (by decide) (fun o => by first | exact o.1 _ (by decide) | exact o.2 _ _ | omega) (fun o => by first | exact o.1 _ (by decide) | exact o.2 _ _ | omega) (fun c164 => ?_) (fun c164 => ?_)
    · skip
      have tb : b2i ((1 ≤ v ∧ v ≤ 64) ∧ xFits (ps h 27 v) v) = 0 := b2i_f (fun z => by have := z.1; omega)
      refine zx_iconst (pc := 185) dX2_takeNumber_185 ?_
      refine zi_X2_95 (pc := 186) dX2_takeNumber_186 (C_X2_stepOnIf (h := ps h 27 v) (by decide) (show 0 ≤ gs h 30 ∧ gs h 30 ≤ 100 by omega)) (by decide) (Nat.le_of_ble_eq_true rfl) (fun z186 h186 u186 v186 q186 => ?_)
      obtain ⟨rfl, e186⟩ := q186
      rw [e186]
      clear e186 h186
      refine zx_iret (pc := 189) dX2_takeNumber_189 (fun o => by first | exact o.1 _ (by decide) | exact o.2 _ _ | omega) ?_
      rw [tn_5 v sw, tb]
      exact ⟨rfl, rfl⟩
    · skip
      refine zx_iload_n (pc := 167) dX2_takeNumber_167 rfl rfl ?_
      refine zx_bipush (pc := 168) dX2_takeNumber_168 (by decide +kernel) ?_
      refine zx_icmp_gt (pc := 170) (tgt := 185) dX2_takeNumber_170 (by decide) (fun o => by first | exact o.1 _ (by decide) | exact o.2 _ _ | omega) (fun o => by first | exact o.1 _ (by decide) | exact o.2 _ _ | omega) (fun c170 => ?_) (fun c170 => ?_)
      · skip
        have tb : b2i ((1 ≤ v ∧ v ≤ 64) ∧ xFits (ps h 27 v) v) = 0 := b2i_f (fun z => by have := z.1; omega)
        refine zx_iconst (pc := 185) dX2_takeNumber_185 ?_
        refine zi_X2_95 (pc := 186) dX2_takeNumber_186 (C_X2_stepOnIf (h := ps h 27 v) (by decide) (show 0 ≤ gs h 30 ∧ gs h 30 ≤ 100 by omega)) (by decide) (Nat.le_of_ble_eq_true rfl) (fun z186 h186 u186 v186 q186 => ?_)
        obtain ⟨rfl, e186⟩ := q186
        rw [e186]
        clear e186 h186
        refine zx_iret (pc := 189) dX2_takeNumber_189 (fun o => by first | exact o.1 _ (by decide) | exact o.2 _ _ | omega) ?_
        rw [tn_5 v sw, tb]
        exact ⟨rfl, rfl⟩
      · skip
        refine zx_aload_n (pc := 173) dX2_takeNumber_173 rfl rfl ?_
        refine zx_iload_n (pc := 174) dX2_takeNumber_174 rfl rfl ?_
        refine zi_X2_105 (pc := 175) dX2_takeNumber_175 (C_X2_hasSpaceFor (h := ps h 27 v) (show 0 ≤ gs h 25 ∧ gs h 25 ≤ 32 by omega) (show 0 ≤ gs h 26 ∧ gs h 26 ≤ 32 by omega) (by omega) (by omega)) (by decide) (Nat.le_of_ble_eq_true rfl) (fun z175 h175 u175 v175 q175 => ?_)
        obtain ⟨rfl, e175⟩ := q175
        rw [e175]
        clear e175 h175
        refine zx_if_eq (pc := 178) (tgt := 185) dX2_takeNumber_178 (by decide) (fun o => by first | exact o.1 _ (by decide) | exact o.2 _ _ | omega) (fun c178 => ?_) (fun c178 => ?_)
        · skip
          try replace c178 := b2i_0.mp c178
          have tb : b2i ((1 ≤ v ∧ v ≤ 64) ∧ xFits (ps h 27 v) v) = 0 := b2i_f (fun z => c178 z.2)
          refine zx_iconst (pc := 185) dX2_takeNumber_185 ?_
          refine zi_X2_95 (pc := 186) dX2_takeNumber_186 (C_X2_stepOnIf (h := ps h 27 v) (by decide) (show 0 ≤ gs h 30 ∧ gs h 30 ≤ 100 by omega)) (by decide) (Nat.le_of_ble_eq_true rfl) (fun z186 h186 u186 v186 q186 => ?_)
          obtain ⟨rfl, e186⟩ := q186
          rw [e186]
          clear e186 h186
          refine zx_iret (pc := 189) dX2_takeNumber_189 (fun o => by first | exact o.1 _ (by decide) | exact o.2 _ _ | omega) ?_
          rw [tn_5 v sw, tb]
          exact ⟨rfl, rfl⟩
        · skip
          try replace c178 := b2i_n0.mp c178
          have tb : b2i ((1 ≤ v ∧ v ≤ 64) ∧ xFits (ps h 27 v) v) = 1 := b2i_t ⟨⟨by omega, by omega⟩, c178⟩
          refine zx_iconst (pc := 181) dX2_takeNumber_181 ?_
          refine zx_goto (pc := 182) (tgt := 186) dX2_takeNumber_182 (by decide) ?_
          refine zi_X2_95 (pc := 186) dX2_takeNumber_186 (C_X2_stepOnIf (h := ps h 27 v) (by decide) (show 0 ≤ gs h 30 ∧ gs h 30 ≤ 100 by omega)) (by decide) (Nat.le_of_ble_eq_true rfl) (fun z186 h186 u186 v186 q186 => ?_)
          obtain ⟨rfl, e186⟩ := q186
          rw [e186]
          clear e186 h186
          refine zx_iret (pc := 189) dX2_takeNumber_189 (fun o => by first | exact o.1 _ (by decide) | exact o.2 _ _ | omega) ?_
          rw [tn_5 v sw, tb]
          exact ⟨rfl, rfl⟩
  · skip
    refine zx_swIn (pc := 47) (tgt := 222) dX2_takeNumber_47 (fun o => by first | exact o.1 _ (by decide) | exact o.2 _ _ | omega) (by omega) (by omega) (by rw [sw]; rfl) (by decide) ?_
    refine zx_iconst (pc := 222) dX2_takeNumber_222 ?_
    refine zx_iret (pc := 223) dX2_takeNumber_223 (fun o => by first | exact o.1 _ (by decide) | exact o.2 _ _ | omega) ?_
    rw [tn_o v (by omega)]
    exact ⟨rfl, rfl⟩
  · skip
    refine zx_swIn (pc := 47) (tgt := 190) dX2_takeNumber_47 (fun o => by first | exact o.1 _ (by decide) | exact o.2 _ _ | omega) (by omega) (by omega) (by rw [sw]; rfl) (by decide) ?_
    refine zx_aload_n (pc := 190) dX2_takeNumber_190 rfl rfl ?_
    refine zx_iload_n (pc := 191) dX2_takeNumber_191 rfl rfl ?_
    refine zp_X2_108 (pc := 192) dX2_takeNumber_192 (fun o => by first | exact o.1 _ (by decide) | exact o.2 _ _ | omega) ?_
    refine zx_aload_n (pc := 195) dX2_takeNumber_195 rfl rfl ?_
    refine zx_iload_n (pc := 196) dX2_takeNumber_196 rfl rfl ?_
    refine zx_iconst (pc := 197) dX2_takeNumber_197 ?_
    refine zx_icmp_lt (pc := 198) (tgt := 211) dX2_takeNumber_198 (by decide) (fun o => by first | exact o.1 _ (by decide) | exact o.2 _ _ | omega) (fun o => by first | exact o.1 _ (by decide) | exact o.2 _ _ | omega) (fun c198 => ?_) (fun c198 => ?_)
    · skip
      refine zx_iconst (pc := 211) dX2_takeNumber_211 ?_
      refine zi_X2_95 (pc := 212) dX2_takeNumber_212 (C_X2_stepOnIf (h := ps h 28 v) (by decide) (show 0 ≤ gs h 30 ∧ gs h 30 ≤ 100 by omega)) (by decide) (Nat.le_of_ble_eq_true rfl) (fun z212 h212 u212 v212 q212 => ?_)
      obtain ⟨rfl, e212⟩ := q212
      rw [e212]
      clear e212 h212
      refine zx_iret (pc := 215) dX2_takeNumber_215 (fun o => by first | exact o.1 _ (by decide) | exact o.2 _ _ | omega) ?_
      rw [tn_7 v sw]
      first | rw [b2i_t (by omega)] | rw [b2i_f (by omega)]
      exact ⟨rfl, rfl⟩
    · skip
      refine zx_iload_n (pc := 201) dX2_takeNumber_201 rfl rfl ?_
      refine zx_bipush (pc := 202) dX2_takeNumber_202 (by decide +kernel) ?_
      refine zx_icmp_gt (pc := 204) (tgt := 211) dX2_takeNumber_204 (by decide) (fun o => by first | exact o.1 _ (by decide) | exact o.2 _ _ | omega) (fun o => by first | exact o.1 _ (by decide) | exact o.2 _ _ | omega) (fun c204 => ?_) (fun c204 => ?_)
      · skip
        refine zx_iconst (pc := 211) dX2_takeNumber_211 ?_
        refine zi_X2_95 (pc := 212) dX2_takeNumber_212 (C_X2_stepOnIf (h := ps h 28 v) (by decide) (show 0 ≤ gs h 30 ∧ gs h 30 ≤ 100 by omega)) (by decide) (Nat.le_of_ble_eq_true rfl) (fun z212 h212 u212 v212 q212 => ?_)
        obtain ⟨rfl, e212⟩ := q212
        rw [e212]
        clear e212 h212
        refine zx_iret (pc := 215) dX2_takeNumber_215 (fun o => by first | exact o.1 _ (by decide) | exact o.2 _ _ | omega) ?_
        rw [tn_7 v sw]
        first | rw [b2i_t (by omega)] | rw [b2i_f (by omega)]
        exact ⟨rfl, rfl⟩
      · skip
        refine zx_iconst (pc := 207) dX2_takeNumber_207 ?_
        refine zx_goto (pc := 208) (tgt := 212) dX2_takeNumber_208 (by decide) ?_
        refine zi_X2_95 (pc := 212) dX2_takeNumber_212 (C_X2_stepOnIf (h := ps h 28 v) (by decide) (show 0 ≤ gs h 30 ∧ gs h 30 ≤ 100 by omega)) (by decide) (Nat.le_of_ble_eq_true rfl) (fun z212 h212 u212 v212 q212 => ?_)
        obtain ⟨rfl, e212⟩ := q212
        rw [e212]
        clear e212 h212
        refine zx_iret (pc := 215) dX2_takeNumber_215 (fun o => by first | exact o.1 _ (by decide) | exact o.2 _ _ | omega) ?_
        rw [tn_7 v sw]
        first | rw [b2i_t (by omega)] | rw [b2i_f (by omega)]
        exact ⟨rfl, rfl⟩
  · skip
    refine zx_swIn (pc := 47) (tgt := 222) dX2_takeNumber_47 (fun o => by first | exact o.1 _ (by decide) | exact o.2 _ _ | omega) (by omega) (by omega) (by rw [sw]; rfl) (by decide) ?_
    refine zx_iconst (pc := 222) dX2_takeNumber_222 ?_
    refine zx_iret (pc := 223) dX2_takeNumber_223 (fun o => by first | exact o.1 _ (by decide) | exact o.2 _ _ | omega) ?_
    rw [tn_o v (by omega)]
    exact ⟨rfl, rfl⟩
  · skip
    refine zx_swIn (pc := 47) (tgt := 222) dX2_takeNumber_47 (fun o => by first | exact o.1 _ (by decide) | exact o.2 _ _ | omega) (by omega) (by omega) (by rw [sw]; rfl) (by decide) ?_
    refine zx_iconst (pc := 222) dX2_takeNumber_222 ?_
    refine zx_iret (pc := 223) dX2_takeNumber_223 (fun o => by first | exact o.1 _ (by decide) | exact o.2 _ _ | omega) ?_
    rw [tn_o v (by omega)]
    exact ⟨rfl, rfl⟩
  · skip
    refine zx_swIn (pc := 47) (tgt := 216) dX2_takeNumber_47 (fun o => by first | exact o.1 _ (by decide) | exact o.2 _ _ | omega) (by omega) (by omega) (by rw [sw]; rfl) (by decide) ?_
    refine zx_aload_n (pc := 216) dX2_takeNumber_216 rfl rfl ?_
    refine zx_iload_n (pc := 217) dX2_takeNumber_217 rfl rfl ?_
    refine zi_X2_110 (pc := 218) dX2_takeNumber_218 (C_X2_takeValue x2.1 (by omega)) (by decide) (Nat.le_of_ble_eq_true rfl) (fun z218 h218 u218 v218 q218 => ?_)
    obtain ⟨rfl, e218⟩ := q218
    rw [e218]
    clear e218 h218
    refine zx_iret (pc := 221) dX2_takeNumber_221 (fun o => by first | exact o.1 _ (by decide) | exact o.2 _ _ | omega) ?_
    rw [tn_10 v (by omega)]
    exact ⟨rfl, rfl⟩
  · skip
    refine zx_swIn (pc := 47) (tgt := 216) dX2_takeNumber_47 (fun o => by first | exact o.1 _ (by decide) | exact o.2 _ _ | omega) (by omega) (by omega) (by rw [sw]; rfl) (by decide) ?_
    refine zx_aload_n (pc := 216) dX2_takeNumber_216 rfl rfl ?_
    refine zx_iload_n (pc := 217) dX2_takeNumber_217 rfl rfl ?_
    refine zi_X2_110 (pc := 218) dX2_takeNumber_218 (C_X2_takeValue x2.1 (by omega)) (by decide) (Nat.le_of_ble_eq_true rfl) (fun z218 h218 u218 v218 q218 => ?_)
    obtain ⟨rfl, e218⟩ := q218
    rw [e218]
    clear e218 h218
    refine zx_iret (pc := 221) dX2_takeNumber_221 (fun o => by first | exact o.1 _ (by decide) | exact o.2 _ _ | omega) ?_
    rw [tn_10 v (by omega)]
    exact ⟨rfl, rfl⟩
  · skip
    refine zx_swOut (pc := 47) (tgt := 222) dX2_takeNumber_47 (fun o => by first | exact o.1 _ (by decide) | exact o.2 _ _ | omega) sw (by decide) ?_
    refine zx_iconst (pc := 222) dX2_takeNumber_222 ?_
    refine zx_iret (pc := 223) dX2_takeNumber_223 (fun o => by first | exact o.1 _ (by decide) | exact o.2 _ _ | omega) ?_
    rw [tn_o v (by omega)]
    exact ⟨rfl, rfl⟩
set_option maxRecDepth 100000 in
theorem C_X2_takeNumber {h : zH} (xp : XP h) {a1 a2 : Int} (h1 : 0 ≤ a1) (h12 : a1 ≤ a2) (h2 : a2 ≤ 600) (dg : ∀ j, a1 ≤ j → j < a2 → isD (ga h 7 j)) : kX2_takeNumber a1 a2 h (fun r h2 => r = (x_tnum h a1 a2).2 ∧ h2 = (x_tnum h a1 a2).1) := by
  apply eX2_takeNumber
  unfold x_tnum
  refine zx_iload_n (pc := 0) dX2_takeNumber_0 rfl rfl ?_
  refine zx_iload_n (pc := 1) dX2_takeNumber_1 rfl rfl ?_
  refine zx_isub (pc := 2) dX2_takeNumber_2 ?_
  refine zx_bipush (pc := 3) dX2_takeNumber_3 (by decide +kernel) ?_
  refine zx_icmp_le (pc := 5) (tgt := 10) dX2_takeNumber_5 (by decide) (fun o => by first | exact o.1 _ (by decide) | exact o.2 _ _ | omega) (fun o => by first | exact o.1 _ (by decide) | exact o.2 _ _ | omega) (fun c5 => ?_) (fun c5 => ?_)
  · skip
    rw [ifp_f (by omega)]
    refine zx_iconst (pc := 10) dX2_takeNumber_10 ?_
    refine zx_istore_n (pc := 11) dX2_takeNumber_11 rfl (by decide) rfl ?_
    refine zx_iload_n (pc := 12) dX2_takeNumber_12 rfl rfl ?_
    refine zx_istore (pc := 13) dX2_takeNumber_13 (by decide) rfl ?_
    have b := xNum_b h a1 (a2 - a1).toNat (by omega) (fun j j1 j2 => dg j j1 (by omega))
    refine zx_sub [true, true, true, true, true] ?_
    dsimp only [zMask, List.set]
    have r := L_X2_takeNumber (h := h) h1 h2 (by omega) dg (zEi cX (fun r h2 => r = (x_tn2 h (xNum h a1 (a2 - a1).toNat)).2 ∧ h2 = (x_tn2 h (xNum h a1 (a2 - a1).toNat)).1)) (fun i => L2_X2_takeNumber xp b.1 b.2) 601 a1 (Int.le_refl _) h12 (by omega)
    rw [show (a1 - a1).toNat = 0 by omega] at r
    exact r
  · skip
    rw [ifp_t (by omega)]
    refine zx_iconst (pc := 8) dX2_takeNumber_8 ?_
    refine zx_iret (pc := 9) dX2_takeNumber_9 (fun o => by first | exact o.1 _ (by decide) | exact o.2 _ _ | omega) ?_
    exact ⟨rfl, rfl⟩
def xDue (h : zH) (s e : Int) : Prop := e - s = sL (sIx (gs h 30)) ∧ ∀ j, 0 ≤ j → j < sL (sIx (gs h 30)) → ga h 7 (s + j) = sC (sIx (gs h 30)) j.toNat
noncomputable def x_tword (h : zH) (s e : Int) : zH × Int := ifp (xDue h s e) (ps h 30 (gs h 30 + 1), 0) (h, 1)
abbrev kS_takeWord (a1 a2 : Int) (h : zH) (Q : Int → zH → Prop) : Prop := zMsi cX yX2_takeWord cX2_takeWord 5 .int rX2_takeWord [.ref 1, .int (iI a1), .int (iI a2)] h Q
set_option maxRecDepth 100000 in
theorem L_X2_takeWord {h : zH} (xp : XP h) {a1 a2 : Int} (h1 : 0 ≤ a1) (h2 : a2 ≤ 600) (e0 : a2 - a1 = sL (sIx (gs h 30))) : ∀ (n : Nat) (i : Int), 0 ≤ i → i ≤ sL (sIx (gs h 30)) → sL (sIx (gs h 30)) - i < n → (∀ j, 0 ≤ j → j < i → ga h 7 (a1 + j) = sC (sIx (gs h 30)) j.toNat) → zX cX zGs RX2 cX2_takeWord 5 (some .int) rX2_takeWord 20 [some (.ref 1), some (.int (iI a1)), some (.int (iI a2)), some (.ref (100 + sIx (gs h 30))), some (.int (iI i))] [] h (zEi cX (fun r h2 => r = (x_tword h a1 a2).2 ∧ h2 = (x_tword h a1 a2).1)) := by
  have hi := sIx_r (gs h 30)
  have lr := sL_r _ hi
  have x1 := xp.1
  intro n
  induction n with
  | zero => intro i g1 g2 g3; omega
  | succ n ih =>
    intro i g1 g2 g3 g4
    refine zx_ok (fun ok => ?_)
    refine zx_iload (pc := 20) dX2_takeWord_20 rfl ?_
    refine zx_aload_n (pc := 22) dX2_takeWord_22 rfl rfl ?_
    refine zx_invStr (pc := 23) (as := []) (n := 0) hGs hi dX2_takeWord_23 zl_X2_72 zc_J0_length_8abf5 ⟨rfl, by decide +kernel⟩ ⟨rfl, rfl⟩ ⟨Nat.le_of_ble_eq_true rfl, Nat.le_of_ble_eq_true rfl⟩ (K_length hi) rfl (Nat.le_of_ble_eq_true rfl) (fun z23 h23 u23 v23 q23 => ?_)
    obtain ⟨rfl, e23⟩ := q23
    rw [e23]
    clear e23 h23
    refine zx_icmp_ge (pc := 26) (tgt := 55) dX2_takeWord_26 (by decide) (fun _ => by omega) (fun _ => by omega) (fun c26 => ?_) (fun c26 => ?_)
    · skip
      refine zx_aload_n (pc := 55) dX2_takeWord_55 rfl rfl ?_
      refine zx_dup (pc := 56) dX2_takeWord_56 rfl ?_
      refine zg_X2_31 (pc := 57) dX2_takeWord_57 ?_
      refine zx_iconst (pc := 60) dX2_takeWord_60 ?_
      refine zx_iadd (pc := 61) dX2_takeWord_61 ?_
      refine zp_X2_31 (pc := 62) dX2_takeWord_62 (fun _ => by omega) ?_
      refine zx_iconst (pc := 65) dX2_takeWord_65 ?_
      refine zx_iret (pc := 66) dX2_takeWord_66 (fun o => by first | exact o.1 _ (by decide) | exact o.2 _ _ | omega) ?_
      unfold x_tword
      rw [ifp_t ⟨e0, fun j j1 j2 => g4 j j1 (by omega)⟩]
      exact ⟨rfl, rfl⟩
    · skip
      refine zx_aload_n (pc := 29) dX2_takeWord_29 rfl rfl ?_
      refine zg_X2_9 (pc := 30) dX2_takeWord_30 ?_
      refine zx_iload_n (pc := 33) dX2_takeWord_33 rfl rfl ?_
      refine zx_iload (pc := 34) dX2_takeWord_34 rfl ?_
      refine zx_iadd (pc := 36) dX2_takeWord_36 ?_
      refine zx_iaload (pc := 37) aX2_bytes dX2_takeWord_37 (by omega) (by omega) (by omega) ?_
      refine zx_aload_n (pc := 38) dX2_takeWord_38 rfl rfl ?_
      refine zx_iload (pc := 39) dX2_takeWord_39 rfl ?_
      refine zx_invStr (pc := 41) (as := [.int (iI i)]) (n := 1) hGs hi dX2_takeWord_41 zl_X2_76 zc_J0_charAt_5068e ⟨rfl, by decide +kernel⟩ ⟨rfl, rfl⟩ ⟨Nat.le_of_ble_eq_true rfl, Nat.le_of_ble_eq_true rfl⟩ (K_charAt hi g1 c26) rfl (Nat.le_of_ble_eq_true rfl) (fun z41 h41 u41 v41 q41 => ?_)
      obtain ⟨rfl, e41⟩ := q41
      rw [e41]
      clear e41 h41
      refine zx_icmp_eq (pc := 44) (tgt := 49) dX2_takeWord_44 (by decide) (fun _ => ok.2 7 _) (fun _ => ⟨u41, v41⟩) (fun c44 => ?_) (fun c44 => ?_)
      · skip
        refine zx_iinc (pc := 49) dX2_takeWord_49 (by decide) rfl rfl ?_
        refine zx_goto (pc := 52) (tgt := 20) dX2_takeWord_52 (by decide) ?_
        refine ih (i + 1) (by omega) (by omega) (by omega) (fun j j1 j2 => ?_)
        by_cases q : j = i
        · rw [q]; exact c44
        · exact g4 j j1 (by omega)
      · skip
        refine zx_iconst (pc := 47) dX2_takeWord_47 ?_
        refine zx_iret (pc := 48) dX2_takeWord_48 (fun o => by first | exact o.1 _ (by decide) | exact o.2 _ _ | omega) ?_
        unfold x_tword
        rw [ifp_f (fun z => c44 (z.2 i g1 c26))]
        exact ⟨rfl, rfl⟩
set_option maxRecDepth 100000 in
theorem K_takeWord {h : zH} (xp : XP h) {a1 a2 : Int} (h1 : 0 ≤ a1) (h12 : a1 ≤ a2) (h2 : a2 ≤ 600) : kS_takeWord a1 a2 h (fun r h2 => r = (x_tword h a1 a2).2 ∧ h2 = (x_tword h a1 a2).1) := by
  have hi := sIx_r (gs h 30)
  have lr := sL_r _ hi
  refine zMsi_of [some (.ref 1), some (.int (iI a1)), some (.int (iI a2)), none, none] zc_X2_takeWord.2.2.2.2.2 (fun _ => Nat.le_of_ble_eq_true rfl) (fun _ => rfl) ?_
  refine zx_aload_n (pc := 0) dX2_takeWord_0 rfl rfl ?_
  refine zx_invVsr (pc := 1) (as := []) (n := 0) (st := []) hGs dX2_takeWord_1 zl_X2_68 zc_X2_wordDue rfl ⟨_, rfl⟩ ⟨rfl, by decide +kernel⟩ ⟨rfl, rfl⟩ ⟨Nat.le_of_ble_eq_true rfl, Nat.le_of_ble_eq_true rfl⟩ K_wordDue rfl (by decide) (fun h1 q1 => ?_)
  rw [q1]
  clear q1 h1
  refine zx_astore_n (pc := 4) dX2_takeWord_4 rfl (by decide) rfl ?_
  refine zx_iload_n (pc := 5) dX2_takeWord_5 rfl rfl ?_
  refine zx_iload_n (pc := 6) dX2_takeWord_6 rfl rfl ?_
  refine zx_isub (pc := 7) dX2_takeWord_7 ?_
  refine zx_aload_n (pc := 8) dX2_takeWord_8 rfl rfl ?_
  refine zx_invStr (pc := 9) (as := []) (n := 0) hGs hi dX2_takeWord_9 zl_X2_72 zc_J0_length_8abf5 ⟨rfl, by decide +kernel⟩ ⟨rfl, rfl⟩ ⟨Nat.le_of_ble_eq_true rfl, Nat.le_of_ble_eq_true rfl⟩ (K_length hi) rfl (Nat.le_of_ble_eq_true rfl) (fun z9 h9 u9 v9 q9 => ?_)
  obtain ⟨rfl, e9⟩ := q9
  rw [e9]
  clear e9 h9
  refine zx_icmp_eq (pc := 12) (tgt := 17) dX2_takeWord_12 (by decide) (fun _ => by omega) (fun _ => by omega) (fun c12 => ?_) (fun c12 => ?_)
  · skip
    refine zx_iconst (pc := 17) dX2_takeWord_17 ?_
    refine zx_istore (pc := 18) dX2_takeWord_18 (by decide) rfl ?_
    exact L_X2_takeWord xp h1 h2 c12 9 0 (Int.le_refl _) lr.1 (by omega) (fun j j1 j2 => by omega)
  · skip
    refine zx_iconst (pc := 15) dX2_takeWord_15 ?_
    refine zx_iret (pc := 16) dX2_takeWord_16 (fun o => by first | exact o.1 _ (by decide) | exact o.2 _ _ | omega) ?_
    unfold x_tword
    rw [ifp_f (fun z => c12 z.1)]
    exact ⟨rfl, rfl⟩
noncomputable def x_trun (h : zH) (s e b : Int) : zH × Int := ifp (b = 0) (x_tnum h s e) (x_tword h s e)
abbrev kS_takeRun (a1 a2 a3 : Int) (h : zH) (Q : Int → zH → Prop) : Prop := zMsi cX yX2_takeRun cX2_takeRun 4 .int rX2_takeRun [.ref 1, .int (iI a1), .int (iI a2), .int (iI a3)] h Q
set_option maxRecDepth 100000 in
theorem K_takeRun {h : zH} (xp : XP h) {a1 a2 a3 : Int} (h1 : 0 ≤ a1) (h12 : a1 ≤ a2) (h2 : a2 ≤ 600) (r3 : a3 = 0 ∨ a3 = 1) (dg : ∀ j, a1 ≤ j → j < a2 → xLD a3 (ga h 7 j)) : kS_takeRun a1 a2 a3 h (fun r h2 => r = (x_trun h a1 a2 a3).2 ∧ h2 = (x_trun h a1 a2 a3).1) := by
  refine zMsi_of [some (.ref 1), some (.int (iI a1)), some (.int (iI a2)), some (.int (iI a3))] zc_X2_takeRun.2.2.2.2.2 (fun _ => Nat.le_of_ble_eq_true rfl) (fun _ => rfl) ?_
  unfold x_trun
  refine zx_iload_n (pc := 0) dX2_takeRun_0 rfl rfl ?_
  refine zx_if_eq (pc := 1) (tgt := 13) dX2_takeRun_1 (by decide) (fun o => by first | exact o.1 _ (by decide) | exact o.2 _ _ | omega) (fun c1 => ?_) (fun c1 => ?_)
  · skip
    rw [ifp_t c1]
    refine zx_aload_n (pc := 13) dX2_takeRun_13 rfl rfl ?_
    refine zx_iload_n (pc := 14) dX2_takeRun_14 rfl rfl ?_
    refine zx_iload_n (pc := 15) dX2_takeRun_15 rfl rfl ?_
    refine zi_X2_65 (pc := 16) dX2_takeRun_16 (C_X2_takeNumber xp h1 h12 h2 (fun j j1 j2 => by have d := dg j j1 j2; unfold xLD at d; rcases d with d | d; exact absurd c1 d.1; exact d.2)) (by decide) (Nat.le_of_ble_eq_true rfl) (fun z16 h16 u16 v16 q16 => ?_)
    obtain ⟨rfl, e16⟩ := q16
    rw [e16]
    clear e16 h16
    refine zx_iret (pc := 19) dX2_takeRun_19 (fun _ => by omega) ?_
    exact ⟨rfl, rfl⟩
  · skip
    rw [ifp_f c1]
    refine zx_aload_n (pc := 4) dX2_takeRun_4 rfl rfl ?_
    refine zx_iload_n (pc := 5) dX2_takeRun_5 rfl rfl ?_
    refine zx_iload_n (pc := 6) dX2_takeRun_6 rfl rfl ?_
    refine zx_invVsi (pc := 7) (as := [.int (iI a1), .int (iI a2)]) (n := 2) (st := []) hGs dX2_takeRun_7 zl_X2_62 zc_X2_takeWord rfl ⟨_, rfl⟩ ⟨rfl, by decide +kernel⟩ ⟨rfl, rfl⟩ ⟨Nat.le_of_ble_eq_true rfl, Nat.le_of_ble_eq_true rfl⟩ (K_takeWord xp h1 h12 h2) rfl (by decide) (fun z7 h7 u7 v7 q7 => ?_)
    obtain ⟨rfl, e7⟩ := q7
    rw [e7]
    refine zx_goto (pc := 10) (tgt := 19) dX2_takeRun_10 (by decide) ?_
    refine zx_iret (pc := 19) dX2_takeRun_19 (fun _ => by omega) ?_
    exact ⟨rfl, rfl⟩
theorem XP_serr {h : zH} (xp : XP h) (a b : Int) : XP (x_serr h a b) := by
  unfold x_serr
  rcases Classical.em (a = 0) with c | c
  · rw [ifp_t c]; exact xp
  · rw [ifp_f c]; exact xp
theorem XP_semi {h : zH} (xp : XP h) : XP (x_semi h).1 := by
  unfold x_semi
  rcases Classical.em (gs h 30 = 8 ∨ gs h 30 = 11) with c | c
  · rw [ifp_t c]
    obtain ⟨x1, x2, x3, x4⟩ := xp
    refine ⟨⟨?_, ?_⟩, x2, fun _ => x3 (by omega), fun _ => x4 (by omega)⟩
    · show (0 : Int) ≤ 9
      decide
    · show (9 : Int) ≤ 11
      decide
  · rw [ifp_f c]; exact xp
theorem XP_tword {h : zH} (xp : XP h) {s e : Int} (se : s < e) : XP (x_tword h s e).1 := by
  unfold x_tword
  rcases Classical.em (xDue h s e) with c | c
  · rw [ifp_t c]
    obtain ⟨x1, x2, x3, x4⟩ := xp
    have q : gs h 30 = 0 ∨ gs h 30 = 2 ∨ gs h 30 = 4 ∨ gs h 30 = 6 ∨ gs h 30 = 9 := by
      have l := c.1
      unfold sIx at l
      by_cases c0 : gs h 30 = 0
      · exact Or.inl c0
      · by_cases c2 : gs h 30 = 2
        · exact Or.inr (Or.inl c2)
        · by_cases c4 : gs h 30 = 4
          · exact Or.inr (Or.inr (Or.inl c4))
          · by_cases c6 : gs h 30 = 6
            · exact Or.inr (Or.inr (Or.inr (Or.inl c6)))
            · by_cases c9 : gs h 30 = 9
              · exact Or.inr (Or.inr (Or.inr (Or.inr c9)))
              · rw [if_neg c0, if_neg c2, if_neg c4, if_neg c6, if_neg c9] at l
                have l5 : sL 5 = 0 := by decide
                omega
    refine ⟨⟨?_, ?_⟩, x2, fun z => x3 ?_, fun z => x4 ?_⟩
    · show 0 ≤ gs h 30 + 1
      omega
    · show gs h 30 + 1 ≤ 11
      omega
    · have z2 : 2 ≤ gs h 30 + 1 := z
      omega
    · have z2 : 4 ≤ gs h 30 + 1 := z
      omega
  · rw [ifp_f c]; exact xp
theorem XP_tnum {h : zH} (xp : XP h) (s e : Int) : XP (x_tnum h s e).1 := by
  unfold x_tnum
  rcases Classical.em (6 < e - s) with c | c
  · rw [ifp_t c]; exact xp
  · rw [ifp_f c]
    generalize xNum h s (e - s).toNat = v
    obtain ⟨x1, x2, x3, x4⟩ := xp
    have son (k : Nat) (hk : k = 25 ∨ k = 26 ∨ k = 27 ∨ k = 28) (p : Prop) (y1 : gs h 30 ≤ 9) (y3 : 2 ≤ gs h 30 + 1 → p → 4 ≤ gs (ps h k v) 25 ∧ gs (ps h k v) 25 ≤ 32) (y4 : 4 ≤ gs h 30 + 1 → p → 2 ≤ gs (ps h k v) 26 ∧ gs (ps h k v) 26 ≤ 32) (w3 : 2 ≤ gs h 30 → 4 ≤ gs (ps h k v) 25 ∧ gs (ps h k v) 25 ≤ 32) (w4 : 4 ≤ gs h 30 → 2 ≤ gs (ps h k v) 26 ∧ gs (ps h k v) 26 ≤ 32) : XP (x_son (ps h k v) (b2i p)).1 := by
      have e30 : gs (ps h k v) 30 = gs h 30 := by rw [gs_ps, if_neg (by omega)]
      have e29 : gs (ps h k v) 29 = gs h 29 := by rw [gs_ps, if_neg (by omega)]
      unfold x_son
      rcases Classical.em p with d | d
      · rw [b2i_t d, ifp_f (by decide)]
        unfold XP
        have f30 : gs (ps (ps h k v) 30 (gs (ps h k v) 30 + 1)) 30 = gs h 30 + 1 := by rw [gs_ps, if_pos rfl, e30]
        have f29 : gs (ps (ps h k v) 30 (gs (ps h k v) 30 + 1)) 29 = gs h 29 := by rw [gs_ps, if_neg (by decide), e29]
        have f25 : gs (ps (ps h k v) 30 (gs (ps h k v) 30 + 1)) 25 = gs (ps h k v) 25 := by rw [gs_ps, if_neg (by decide)]
        have f26 : gs (ps (ps h k v) 30 (gs (ps h k v) 30 + 1)) 26 = gs (ps h k v) 26 := by rw [gs_ps, if_neg (by decide)]
        show (0 ≤ gs (ps (ps h k v) 30 (gs (ps h k v) 30 + 1)) 30 ∧ gs (ps (ps h k v) 30 (gs (ps h k v) 30 + 1)) 30 ≤ 11) ∧ (0 ≤ gs (ps (ps h k v) 30 (gs (ps h k v) 30 + 1)) 29 ∧ gs (ps (ps h k v) 30 (gs (ps h k v) 30 + 1)) 29 ≤ 64) ∧ (2 ≤ gs (ps (ps h k v) 30 (gs (ps h k v) 30 + 1)) 30 → 4 ≤ gs (ps (ps h k v) 30 (gs (ps h k v) 30 + 1)) 25 ∧ gs (ps (ps h k v) 30 (gs (ps h k v) 30 + 1)) 25 ≤ 32) ∧ (4 ≤ gs (ps (ps h k v) 30 (gs (ps h k v) 30 + 1)) 30 → 2 ≤ gs (ps (ps h k v) 30 (gs (ps h k v) 30 + 1)) 26 ∧ gs (ps (ps h k v) 30 (gs (ps h k v) 30 + 1)) 26 ≤ 32)
        rw [f30, f29, f25, f26]
        exact ⟨by omega, x2, fun z => y3 z d, fun z => y4 z d⟩
      · rw [b2i_f d, ifp_t rfl]
        unfold XP
        show (0 ≤ gs (ps h k v) 30 ∧ gs (ps h k v) 30 ≤ 11) ∧ (0 ≤ gs (ps h k v) 29 ∧ gs (ps h k v) 29 ≤ 64) ∧ (2 ≤ gs (ps h k v) 30 → 4 ≤ gs (ps h k v) 25 ∧ gs (ps h k v) 25 ≤ 32) ∧ (4 ≤ gs (ps h k v) 30 → 2 ≤ gs (ps h k v) 26 ∧ gs (ps h k v) 26 ≤ 32)
        rw [e30, e29]
        exact ⟨x1, x2, w3, w4⟩
    by_cases c1 : gs h 30 = 1
    · rw [tn_1 v c1]
      exact son 25 (by decide) _ (by omega) (fun _ p => p) (fun z _ => by omega) (fun z => by omega) (fun z => by omega)
    · by_cases c3 : gs h 30 = 3
      · rw [tn_3 v c3]
        exact son 26 (by decide) _ (by omega) (fun _ _ => x3 (by omega)) (fun _ p => p) (fun z => x3 z) (fun z => by omega)
      · by_cases c5 : gs h 30 = 5
        · rw [tn_5 v c5]
          exact son 27 (by decide) _ (by omega) (fun _ _ => x3 (by omega)) (fun _ _ => x4 (by omega)) (fun z => x3 z) (fun z => x4 z)
        · by_cases c7 : gs h 30 = 7
          · rw [tn_7 v c7]
            exact son 28 (by decide) _ (by omega) (fun _ _ => x3 (by omega)) (fun _ _ => x4 (by omega)) (fun z => x3 z) (fun z => x4 z)
          · by_cases c10 : gs h 30 = 10 ∨ gs h 30 = 11
            · rw [tn_10 v c10]
              unfold x_tval
              rcases Classical.em (gs h 27 ≤ gs h 29 ∨ 64 ≤ gs h 29) with d | d
              · rw [ifp_t d]; exact ⟨x1, x2, x3, x4⟩
              · rw [ifp_f d]
                refine ⟨⟨?_, ?_⟩, ⟨?_, ?_⟩, fun _ => x3 (by omega), fun _ => x4 (by omega)⟩
                · show (0 : Int) ≤ 11
                  decide
                · show (11 : Int) ≤ 11
                  decide
                · show 0 ≤ gs h 29 + 1
                  omega
                · show gs h 29 + 1 ≤ 64
                  omega
            · rw [tn_o v (by omega)]
              exact ⟨x1, x2, x3, x4⟩
theorem XP_trun {h : zH} (xp : XP h) {s e : Int} (se : s < e) (b : Int) : XP (x_trun h s e b).1 := by
  unfold x_trun
  rcases Classical.em (b = 0) with c | c
  · rw [ifp_t c]; exact XP_tnum xp s e
  · rw [ifp_f c]; exact XP_tword xp se

