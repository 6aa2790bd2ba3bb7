/-! the law: its cases -/
def lLs (i : Int) : List (Option Value) := [some (.ref 301), some (.ref 0), some (.ref 200), some (.ref 300), some (.int (iI i)), none, none]
/-- what comes after a case -/
def lK (L : Nat) (xs : Nat → Int32) (i : Int) (c9 s9 : Nat) (T2 : Int) (E : zF) : Prop := ∀ (h2 m2 : zH) (o2 : Nat → Int64) (c2 s2 : Nat), REL m2 h2 T2 → c2 ≤ c9 + 1 → s2 ≤ s9 + 6 → lX (lGL L xs) [] RL cL_law 7 (some .boolean) room_1 c2 s2 1783 (lLs i) [] h2 m2 o2 E
def Qs (s : zH × Int × Int) : Int → zH → (Nat → Int64) → Prop := fun z h2 o2 => z = s.2.1 ∧ h2 = s.1 ∧ (s.2.1 = 0 → o2 0 = lL s.2.2)
theorem Qs_n {s : zH × Int × Int} {z : Int} {h2 : zH} {o2 : Nat → Int64} (q : zQn s z h2) (e : o2 0 = lL z) : Qs s 0 h2 o2 := ⟨q.1.symm, q.2.2, fun _ => by rw [e, q.2.1]⟩
theorem Qs_x {s : zH × Int × Int} {ns : List String} {E : String} {h2 : zH} {o2 : Nat → Int64} (q : zXn ns s E h2) : ∃ k : Nat, ns[k]? = some E ∧ Qs s ((k : Int) + 1) h2 o2 := by
  obtain ⟨k, k1, k2, k3⟩ := q
  exact ⟨k, k1, k2.symm, k3, fun z => by omega⟩
theorem REL_agm {T T2 : Int} {r : zH × Int} {s : zH × Int × Int} (a : AG T r s) (h : T ≤ T2) : AG T2 r s := ⟨a.1, a.2.1, REL_mono a.2.2 h⟩
theorem lc_self (a : Int) : lc a a = 0 := by
  unfold lc
  rw [if_neg (by omega), if_pos rfl]
set_option maxRecDepth 100000 in
theorem W_feed {L : Nat} {xs : Nat → Int32} {hx hm : zH} {o : Nat → Int64} {T T2 i : Int} {c9 s9 : Nat} {E : zF} (r : REL hm hx T) (hL : L ≤ 3072) (i0 : 0 ≤ i) (i1 : i + 6 ≤ (L : Int)) (hT : T + 60000 = T2) (hT2 : T2 ≤ 2147000000) (hc : c9 + 1 ≤ room_1.cells ∧ s9 + 6 ≤ room_1.slots) (k : lK L xs i c9 s9 T2 E) : lX (lGL L xs) [] RL cL_law 7 (some .boolean) room_1 c9 s9 224 (lLs i) [] hx hm o E := by
  unfold lLs
  unfold lK lLs at k
  refine lx_aload_n (pc := 224) dL_law_224 rfl rfl ?_
  refine lx_aload_n (pc := 225) dL_law_225 rfl rfl ?_
  refine lx_iload (pc := 226) dL_law_226 rfl ?_
  refine lx_iconst (pc := 228) dL_law_228 ?_
  refine lx_iadd (pc := 229) dL_law_229 ?_
  refine lx_sload (pc := 230) (by omega) (by omega) (by omega) dL_law_230 ?_
  refine lx_aload_n (pc := 231) dL_law_231 rfl rfl ?_
  refine lx_iload (pc := 232) dL_law_232 rfl ?_
  refine lx_iconst (pc := 234) dL_law_234 ?_
  refine lx_iadd (pc := 235) dL_law_235 ?_
  refine lx_sload (pc := 236) (by omega) (by omega) (by omega) dL_law_236 ?_
  refine lx_aload_n (pc := 237) dL_law_237 rfl rfl ?_
  refine lx_iload (pc := 238) dL_law_238 rfl ?_
  refine lx_iconst (pc := 240) dL_law_240 ?_
  refine lx_iadd (pc := 241) dL_law_241 ?_
  refine lx_sload (pc := 242) (by omega) (by omega) (by omega) dL_law_242 ?_
  refine lx_aload_n (pc := 243) dL_law_243 rfl rfl ?_
  refine lx_iload (pc := 244) dL_law_244 rfl ?_
  refine lx_iconst (pc := 246) dL_law_246 ?_
  refine lx_iadd (pc := 247) dL_law_247 ?_
  refine lx_sload (pc := 248) (by omega) (by omega) (by omega) dL_law_248 ?_
  refine lx_aload_n (pc := 249) dL_law_249 rfl rfl ?_
  refine lx_iload (pc := 250) dL_law_250 rfl ?_
  refine lx_iconst (pc := 252) dL_law_252 ?_
  refine lx_iadd (pc := 253) dL_law_253 ?_
  refine lx_sload (pc := 254) (by omega) (by omega) (by omega) dL_law_254 ?_
  refine lx_aload_n (pc := 255) dL_law_255 rfl rfl ?_
  refine lx_wrap (pc := 256) (as := [.ref 0, .int (iI (xs (i + 1).toNat).toInt), .int (iI (xs (i + 2).toNat).toInt), .int (iI (xs (i + 3).toNat).toInt), .int (iI (xs (i + 4).toNat).toInt), .int (iI (xs (i + 5).toNat).toInt), .ref 300]) (n := 7) (st := []) (Qw := Qs (X_feed hx (xs (i + 1).toNat).toInt (xs (i + 2).toNat).toInt (xs (i + 3).toNat).toInt (xs (i + 4).toNat).toInt (xs (i + 5).toNat).toInt)) (lGL_o L xs) dL_law_256 gL_feed ⟨by decide, by decide⟩ ⟨rfl, by decide +kernel⟩ ⟨rfl, rfl⟩ ⟨Nat.le_of_ble_eq_true rfl, Nat.le_of_ble_eq_true rfl⟩ ⟨hc.1, hc.2⟩ (K_L_feed (T_feed (by have := r.2.1.1; have := r.2.1.2.1; omega) (by have := r.2.1.1; have := r.2.1.2.1; omega)) (fun z h2 q o2 e2 => Qs_n q e2) (fun E9 h2 q => Qs_x q)) rfl (by decide) (fun z5 h5 o5 u5 v5 q5 => ?_)
  obtain ⟨rfl, rfl, q5⟩ := q5
  refine lx_istore (pc := 259) dL_law_259 (by decide) rfl ?_
  refine lx_aload_n (pc := 261) dL_law_261 rfl rfl ?_
  refine lx_aload_n (pc := 262) dL_law_262 rfl rfl ?_
  refine lx_iload (pc := 263) dL_law_263 rfl ?_
  refine lx_iconst (pc := 265) dL_law_265 ?_
  refine lx_iadd (pc := 266) dL_law_266 ?_
  refine lx_sload (pc := 267) (by omega) (by omega) (by omega) dL_law_267 ?_
  refine lx_aload_n (pc := 268) dL_law_268 rfl rfl ?_
  refine lx_iload (pc := 269) dL_law_269 rfl ?_
  refine lx_iconst (pc := 271) dL_law_271 ?_
  refine lx_iadd (pc := 272) dL_law_272 ?_
  refine lx_sload (pc := 273) (by omega) (by omega) (by omega) dL_law_273 ?_
  refine lx_aload_n (pc := 274) dL_law_274 rfl rfl ?_
  refine lx_iload (pc := 275) dL_law_275 rfl ?_
  refine lx_iconst (pc := 277) dL_law_277 ?_
  refine lx_iadd (pc := 278) dL_law_278 ?_
  refine lx_sload (pc := 279) (by omega) (by omega) (by omega) dL_law_279 ?_
  refine lx_aload_n (pc := 280) dL_law_280 rfl rfl ?_
  refine lx_iload (pc := 281) dL_law_281 rfl ?_
  refine lx_iconst (pc := 283) dL_law_283 ?_
  refine lx_iadd (pc := 284) dL_law_284 ?_
  refine lx_sload (pc := 285) (by omega) (by omega) (by omega) dL_law_285 ?_
  refine lx_aload_n (pc := 286) dL_law_286 rfl rfl ?_
  refine lx_iload (pc := 287) dL_law_287 rfl ?_
  refine lx_iconst (pc := 289) dL_law_289 ?_
  refine lx_iadd (pc := 290) dL_law_290 ?_
  refine lx_sload (pc := 291) (by omega) (by omega) (by omega) dL_law_291 ?_
  refine lx_mv (pc := 292) (as := [.int (iI (xs (i + 1).toNat).toInt), .int (iI (xs (i + 2).toNat).toInt), .int (iI (xs (i + 3).toNat).toInt), .int (iI (xs (i + 4).toNat).toInt), .int (iI (xs (i + 5).toNat).toInt)]) (n := 5) (st := []) dL_law_292 zl_L_96 zc_X7_feed ⟨rfl, by decide +kernel⟩ ⟨rfl, rfl⟩ ⟨Nat.le_of_ble_eq_true rfl, Nat.le_of_ble_eq_true rfl⟩ (C_X7_feed r.2.1.2.1.1 r.2.1.2.1.2) rfl (fun _ => rfl) (by decide) ⟨hc.1, hc.2⟩ (fun z6 h6 u6 v6 q6 => ?_)
  obtain ⟨rfl, rfl⟩ := q6
  refine lx_istore (pc := 295) dL_law_295 (by decide) rfl ?_
  refine lx_aload_n (pc := 297) dL_law_297 rfl rfl ?_
  refine lx_mv (pc := 298) (as := []) (n := 0) (st := []) dL_law_298 zl_L_97 zc_X7_thrown ⟨rfl, by decide +kernel⟩ ⟨rfl, rfl⟩ ⟨Nat.le_of_ble_eq_true rfl, Nat.le_of_ble_eq_true rfl⟩ C_X7_thrown rfl (fun _ => rfl) (by decide) ⟨hc.1, hc.2⟩ (fun z7 h7 u7 v7 q7 => ?_)
  obtain ⟨rfl, rfl⟩ := q7
  have ag : AG T2 (m_feed hm (xs (i + 1).toNat).toInt (xs (i + 2).toNat).toInt (xs (i + 3).toNat).toInt (xs (i + 4).toNat).toInt (xs (i + 5).toNat).toInt) (X_feed hx (xs (i + 1).toNat).toInt (xs (i + 2).toNat).toInt (xs (i + 3).toNat).toInt (xs (i + 4).toNat).toInt (xs (i + 5).toNat).toInt) := REL_agm (B_feed r _ _ _ _ _) (by omega)
  refine lx_iload (pc := 301) dL_law_301 rfl ?_
  refine lx_icmp_eq (pc := 303) (tgt := 308) dL_law_303 (by decide) (fun _ => ⟨u7, v7⟩) (fun _ => ⟨u5, v5⟩) (fun c1 => ?_) (fun c1 => absurd ag.1 c1)
  refine lx_iload (pc := 308) dL_law_308 rfl ?_
  have fin := k _ _ o5 (c9 + 1) (s9 + 6) ag.2.2 (Nat.le_refl _) (Nat.le_refl _)
  refine lx_if_ne (pc := 310) (tgt := 325) dL_law_310 (by decide) (fun _ => ⟨u5, v5⟩) (fun c2 => ?_) (fun c2 => ?_)
  · skip
    refine lx_goto (pc := 325) (tgt := 1783) dL_law_325 (by decide) ?_
    exact lx_sub [true, true, true, true, true, false, false] fin
  · have c3 := c2
    refine lx_aload_n (pc := 313) dL_law_313 rfl rfl ?_
    refine lx_iconst (pc := 314) dL_law_314 ?_
    refine lx_laload (pc := 315) dL_law_315 ?_
    rw [q5 c3, ← ag.2.1 c3]
    refine lx_iload (pc := 316) dL_law_316 rfl ?_
    refine lx_i2l (pc := 318) dL_law_318 ⟨u6, v6⟩ ?_
    refine lx_lcmp (pc := 319) dL_law_319 (by omega) (by omega) ?_
    refine lx_if_eq (pc := 320) (tgt := 325) dL_law_320 (by decide) (fun _ => by unfold lc; split <;> (try split) <;> omega) (fun c4 => ?_) (fun c4 => absurd (lc_self _) c4)
    refine lx_goto (pc := 325) (tgt := 1783) dL_law_325 (by decide) ?_
    exact lx_sub [true, true, true, true, true, false, false] fin

