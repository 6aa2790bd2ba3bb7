/-! the law: its cases -/
def lLs (i : Int) : List (Option Value) := [some (.ref 301), some (.ref 0), some (.ref 200), some (.ref 300), some (.int (iI i)), none, none]
/-- what comes after a case -/
def lK (tab : List ExceptionTableEntry) (L : Nat) (xs : Nat → Int32) (i : Int) (c9 s9 : Nat) (T2 : Int) (E : zF) : Prop := ∀ (h2 m2 : zH) (o2 : Nat → Int64) (c2 s2 : Nat), REL m2 h2 T2 → c2 ≤ c9 + 1 → s2 ≤ s9 + 6 → lX (lGL L xs) tab RL cL_law 7 (some .boolean) room_1 c2 s2 1783 (lLs i) [] h2 m2 o2 E
def Qs (s : zH × Int × Int) : Int → zH → (Nat → Int64) → Prop := fun z h2 o2 => z = s.2.1 ∧ h2 = s.1 ∧ (s.2.1 = 0 → o2 0 = lL s.2.2)
theorem Qs_n {s : zH × Int × Int} {z : Int} {h2 : zH} {o2 : Nat → Int64} (q : zQn s z h2) (e : o2 0 = lL z) : Qs s 0 h2 o2 := ⟨q.1.symm, q.2.2, fun _ => by rw [e, q.2.1]⟩
theorem Qs_x {s : zH × Int × Int} {ns : List String} {E : String} {h2 : zH} {o2 : Nat → Int64} (q : zXn ns s E h2) : ∃ k : Nat, ns[k]? = some E ∧ Qs s ((k : Int) + 1) h2 o2 := by
  obtain ⟨k, k1, k2, k3⟩ := q
  exact ⟨k, k1, k2.symm, k3, fun z => by omega⟩
theorem REL_agm {T T2 : Int} {r : zH × Int} {s : zH × Int × Int} (a : AG T r s) (h : T ≤ T2) : AG T2 r s := ⟨a.1, a.2.1, REL_mono a.2.2 h⟩
theorem lc_self (a : Int) : lc a a = 0 := by
  unfold lc
  rw [if_neg (by omega), if_pos rfl]
def Qr (hx : zH) : Int → zH → (Nat → Int64) → Prop := fun z h2 o2 => ∃ s, X_recR hx s ∧ Qs s z h2 o2
theorem Qr_n {hx : zH} {z : Int} {h2 : zH} {o2 : Nat → Int64} (q : ∃ r, X_recR hx r ∧ zQn r z h2) (e : o2 0 = lL z) : Qr hx 0 h2 o2 := by
  obtain ⟨s, hs, q⟩ := q
  exact ⟨s, hs, Qs_n q e⟩
theorem Qr_x {hx : zH} {ns : List String} {E : String} {h2 : zH} {o2 : Nat → Int64} (q : ∃ r, X_recR hx r ∧ zXn ns r E h2) : ∃ k : Nat, ns[k]? = some E ∧ Qr hx ((k : Int) + 1) h2 o2 := by
  obtain ⟨s, hs, q⟩ := q
  obtain ⟨k, k1, k2⟩ := Qs_x (o2 := o2) q
  exact ⟨k, k1, s, hs, k2⟩
theorem isV_01 {h : zH} {p z : Int} {h2 : zH} (q : zQn (X_isValid h p) z h2) : z = 0 ∨ z = 1 := by
  obtain ⟨q1, q2, _⟩ := q
  unfold X_isValid at q1 q2
  rcases Classical.em (¬ xPl h p) with c | c
  · rw [ifp_t c] at q1
    exact absurd q1 (show ¬ (1 : Int) = 0 by decide)
  · rw [ifp_f c] at q2
    rw [q2]
    exact b2i_01 _
theorem mV_01 (h : zH) (i : Int) : (m_isValid h i).2 = 0 ∨ (m_isValid h i).2 = 1 := by
  unfold m_isValid
  rcases Classical.em (0 ≤ i ∧ i < gs h 1 * gs h 2) with c | c
  · rw [ifp_t c]
    exact b2i_01 _
  · rw [ifp_f c]
    exact Or.inl rfl
theorem ti_r (x : Int32) : -2147483648 ≤ x.toInt ∧ x.toInt < 2147483648 := ⟨Int32.le_toInt x, Int32.toInt_lt x⟩
theorem PW_38 {m x : zH} {T : Int} (p : PW m x T) : 0 ≤ gs m 38 ∧ gs m 38 ≤ 1000 := (PW_dv p).2.2.2.2.2
theorem PW_p {m x : zH} {T : Int} (p : PW m x T) : gs m 26 ≠ 0 → 0 < gs m 2 := fun h => by
  have q := (PW_on p h).1.2.2.2.2.2
  omega
theorem PW_fb {m x : zH} {T : Int} (r : REL m x T) (a : Int) : 0 ≤ a → a ≤ gs x 22 → gs (x_parse x a) 23 = 0 → (4 ≤ gs (x_parse x a) 25 ∧ gs (x_parse x a) 25 ≤ 32) ∧ (2 ≤ gs (x_parse x a) 26 ∧ gs (x_parse x a) 26 ≤ 32) ∧ (1 ≤ gs (x_parse x a) 27 ∧ gs (x_parse x a) 27 ≤ 64) ∧ (1 ≤ gs (x_parse x a) 28 ∧ gs (x_parse x a) 28 ≤ 50) ∧ 0 ≤ gs (x_parse x a) 29 ∧ gs (x_parse x a) 29 ≤ 64 := fun a0 a1 z => by
  obtain ⟨p, ⟨t1, t2, t3, t4, t5⟩, o⟩ := r
  have te := text_eq (m := m) (x := x) a0 (by omega) (fun k k0 k1 => t3 k k0 (by omega))
  have mt : MT (m_fm0 m a) := ⟨⟨a0, by show a ≤ 600; omega⟩, Int.le_refl 0, a0⟩
  obtain ⟨_, _, q3⟩ := rfmt_r mt
  rcases te with ⟨b1, b2, b3, b4⟩ | ⟨b1, fv, _⟩
  · omega
  · obtain ⟨gn, mv⟩ : GN (m_rfmt (m_fm0 m a)).1 ∧ MV (m_rfmt (m_fm0 m a)).1 := by
      rcases q3 with z | z
      · omega
      · exact z.2
    obtain ⟨⟨f1, f2, f3, f4⟩, f5, _⟩ := fv
    obtain ⟨n1, n2, n3, n4, _⟩ := gn
    unfold MV at mv
    omega
set_option maxRecDepth 100000 in
theorem W_feed {tab : List ExceptionTableEntry} {L : Nat} {xs : Nat → Int32} {hx hm : zH} {o : Nat → Int64} {T T2 i : Int} {c9 s9 : Nat} {E : zF} (r : REL hm hx T) (hL : L ≤ 3072) (i0 : 0 ≤ i) (i1 : i + 6 ≤ (L : Int)) (hT : T + 60000 = T2) (hT2 : T2 ≤ 2147000000) (hc : c9 + 1 ≤ room_1.cells ∧ s9 + 6 ≤ room_1.slots) (k : lK tab L xs i c9 s9 T2 E) : lX (lGL L xs) tab RL cL_law 7 (some .boolean) room_1 c9 s9 224 (lLs i) [] hx hm o E := by
  unfold lLs
  unfold lK lLs at k
  refine lx_aload_n (pc := 224) dL_law_224 rfl rfl ?_
  refine lx_aload_n (pc := 225) dL_law_225 rfl rfl ?_
  refine lx_iload (pc := 226) dL_law_226 rfl ?_
  refine lx_iconst (pc := 228) dL_law_228 ?_
  refine lx_iadd (pc := 229) dL_law_229 ?_
  refine lx_sload (pc := 230) (by omega) (by omega) (by omega) dL_law_230 ?_
  refine lx_aload_n (pc := 231) dL_law_231 rfl rfl ?_
  refine lx_iload (pc := 232) dL_law_232 rfl ?_
  refine lx_iconst (pc := 234) dL_law_234 ?_
  refine lx_iadd (pc := 235) dL_law_235 ?_
  refine lx_sload (pc := 236) (by omega) (by omega) (by omega) dL_law_236 ?_
  refine lx_aload_n (pc := 237) dL_law_237 rfl rfl ?_
  refine lx_iload (pc := 238) dL_law_238 rfl ?_
  refine lx_iconst (pc := 240) dL_law_240 ?_
  refine lx_iadd (pc := 241) dL_law_241 ?_
  refine lx_sload (pc := 242) (by omega) (by omega) (by omega) dL_law_242 ?_
  refine lx_aload_n (pc := 243) dL_law_243 rfl rfl ?_
  refine lx_iload (pc := 244) dL_law_244 rfl ?_
  refine lx_iconst (pc := 246) dL_law_246 ?_
  refine lx_iadd (pc := 247) dL_law_247 ?_
  refine lx_sload (pc := 248) (by omega) (by omega) (by omega) dL_law_248 ?_
  refine lx_aload_n (pc := 249) dL_law_249 rfl rfl ?_
  refine lx_iload (pc := 250) dL_law_250 rfl ?_
  refine lx_iconst (pc := 252) dL_law_252 ?_
  refine lx_iadd (pc := 253) dL_law_253 ?_
  refine lx_sload (pc := 254) (by omega) (by omega) (by omega) dL_law_254 ?_
  refine lx_aload_n (pc := 255) dL_law_255 rfl rfl ?_
  refine lx_wrap (pc := 256) (as := [.ref 0, .int (iI (xs (i + 1).toNat).toInt), .int (iI (xs (i + 2).toNat).toInt), .int (iI (xs (i + 3).toNat).toInt), .int (iI (xs (i + 4).toNat).toInt), .int (iI (xs (i + 5).toNat).toInt), .ref 300]) (n := 7) (st := []) (Qw := Qs (X_feed hx (xs (i + 1).toNat).toInt (xs (i + 2).toNat).toInt (xs (i + 3).toNat).toInt (xs (i + 4).toNat).toInt (xs (i + 5).toNat).toInt)) (lGL_o L xs) dL_law_256 gL_feed ⟨by decide, by decide⟩ ⟨rfl, by decide +kernel⟩ ⟨rfl, rfl⟩ ⟨Nat.le_of_ble_eq_true rfl, Nat.le_of_ble_eq_true rfl⟩ ⟨hc.1, hc.2⟩ (K_L_feed (T_feed (by have := r.2.1.1; have := r.2.1.2.1; omega) (by have := r.2.1.1; have := r.2.1.2.1; omega)) (fun z h2 q o2 e2 => Qs_n q e2) (fun E9 h2 q => Qs_x q)) rfl (by decide) (fun z5 h5 o5 u5 v5 q5 => ?_)
  obtain ⟨rfl, rfl, q5⟩ := q5
  refine lx_istore (pc := 259) dL_law_259 (by decide) rfl ?_
  refine lx_aload_n (pc := 261) dL_law_261 rfl rfl ?_
  refine lx_aload_n (pc := 262) dL_law_262 rfl rfl ?_
  refine lx_iload (pc := 263) dL_law_263 rfl ?_
  refine lx_iconst (pc := 265) dL_law_265 ?_
  refine lx_iadd (pc := 266) dL_law_266 ?_
  refine lx_sload (pc := 267) (by omega) (by omega) (by omega) dL_law_267 ?_
  refine lx_aload_n (pc := 268) dL_law_268 rfl rfl ?_
  refine lx_iload (pc := 269) dL_law_269 rfl ?_
  refine lx_iconst (pc := 271) dL_law_271 ?_
  refine lx_iadd (pc := 272) dL_law_272 ?_
  refine lx_sload (pc := 273) (by omega) (by omega) (by omega) dL_law_273 ?_
  refine lx_aload_n (pc := 274) dL_law_274 rfl rfl ?_
  refine lx_iload (pc := 275) dL_law_275 rfl ?_
  refine lx_iconst (pc := 277) dL_law_277 ?_
  refine lx_iadd (pc := 278) dL_law_278 ?_
  refine lx_sload (pc := 279) (by omega) (by omega) (by omega) dL_law_279 ?_
  refine lx_aload_n (pc := 280) dL_law_280 rfl rfl ?_
  refine lx_iload (pc := 281) dL_law_281 rfl ?_
  refine lx_iconst (pc := 283) dL_law_283 ?_
  refine lx_iadd (pc := 284) dL_law_284 ?_
  refine lx_sload (pc := 285) (by omega) (by omega) (by omega) dL_law_285 ?_
  refine lx_aload_n (pc := 286) dL_law_286 rfl rfl ?_
  refine lx_iload (pc := 287) dL_law_287 rfl ?_
  refine lx_iconst (pc := 289) dL_law_289 ?_
  refine lx_iadd (pc := 290) dL_law_290 ?_
  refine lx_sload (pc := 291) (by omega) (by omega) (by omega) dL_law_291 ?_
  refine lx_mv (pc := 292) (as := [.int (iI (xs (i + 1).toNat).toInt), .int (iI (xs (i + 2).toNat).toInt), .int (iI (xs (i + 3).toNat).toInt), .int (iI (xs (i + 4).toNat).toInt), .int (iI (xs (i + 5).toNat).toInt)]) (n := 5) (st := []) dL_law_292 zl_L_96 zc_X7_feed ⟨rfl, by decide +kernel⟩ ⟨rfl, rfl⟩ ⟨Nat.le_of_ble_eq_true rfl, Nat.le_of_ble_eq_true rfl⟩ (C_X7_feed r.2.1.2.1.1 r.2.1.2.1.2) rfl (fun _ => rfl) (by decide) ⟨hc.1, hc.2⟩ (fun z6 h6 u6 v6 q6 => ?_)
  obtain ⟨rfl, rfl⟩ := q6
  refine lx_istore (pc := 295) dL_law_295 (by decide) rfl ?_
  refine lx_aload_n (pc := 297) dL_law_297 rfl rfl ?_
  refine lx_mv (pc := 298) (as := []) (n := 0) (st := []) dL_law_298 zl_L_97 zc_X7_thrown ⟨rfl, by decide +kernel⟩ ⟨rfl, rfl⟩ ⟨Nat.le_of_ble_eq_true rfl, Nat.le_of_ble_eq_true rfl⟩ C_X7_thrown rfl (fun _ => rfl) (by decide) ⟨hc.1, hc.2⟩ (fun z7 h7 u7 v7 q7 => ?_)
  obtain ⟨rfl, rfl⟩ := q7
  have ag : AG T2 (m_feed hm (xs (i + 1).toNat).toInt (xs (i + 2).toNat).toInt (xs (i + 3).toNat).toInt (xs (i + 4).toNat).toInt (xs (i + 5).toNat).toInt) (X_feed hx (xs (i + 1).toNat).toInt (xs (i + 2).toNat).toInt (xs (i + 3).toNat).toInt (xs (i + 4).toNat).toInt (xs (i + 5).toNat).toInt) := REL_agm (B_feed r _ _ _ _ _) (by omega)
  refine lx_iload (pc := 301) dL_law_301 rfl ?_
  refine lx_icmp_eq (pc := 303) (tgt := 308) dL_law_303 (by decide) (fun _ => ⟨u7, v7⟩) (fun _ => ⟨u5, v5⟩) (fun c1 => ?_) (fun c1 => absurd ag.1 c1)
  refine lx_iload (pc := 308) dL_law_308 rfl ?_
  have fin := k _ _ o5 (c9 + 1) (s9 + 6) ag.2.2 (Nat.le_refl _) (Nat.le_refl _)
  refine lx_if_ne (pc := 310) (tgt := 325) dL_law_310 (by decide) (fun _ => ⟨u5, v5⟩) (fun c2 => ?_) (fun c2 => ?_)
  · skip
    refine lx_goto (pc := 325) (tgt := 1783) dL_law_325 (by decide) ?_
    exact lx_sub [true, true, true, true, true, false, false] fin
  · have c3 := c2
    refine lx_aload_n (pc := 313) dL_law_313 rfl rfl ?_
    refine lx_iconst (pc := 314) dL_law_314 ?_
    refine lx_laload (pc := 315) dL_law_315 ?_
    rw [q5 c3, ← ag.2.1 c3]
    refine lx_iload (pc := 316) dL_law_316 rfl ?_
    refine lx_i2l (pc := 318) dL_law_318 ⟨u6, v6⟩ ?_
    refine lx_lcmp (pc := 319) dL_law_319 (by omega) (by omega) ?_
    refine lx_if_eq (pc := 320) (tgt := 325) dL_law_320 (by decide) (fun _ => by unfold lc; split <;> (try split) <;> omega) (fun c4 => ?_) (fun c4 => absurd (lc_self _) c4)
    refine lx_goto (pc := 325) (tgt := 1783) dL_law_325 (by decide) ?_
    exact lx_sub [true, true, true, true, true, false, false] fin
set_option maxRecDepth 100000 in
theorem W_format {tab : List ExceptionTableEntry} {L : Nat} {xs : Nat → Int32} {hx hm : zH} {o : Nat → Int64} {T T2 i : Int} {c9 s9 : Nat} {E : zF} (r : REL hm hx T) (hL : L ≤ 3072) (i0 : 0 ≤ i) (i1 : i + 6 ≤ (L : Int)) (hT : T + 60000 = T2) (hT2 : T2 ≤ 2147000000) (hc : c9 + 1 ≤ room_1.cells ∧ s9 + 6 ≤ room_1.slots) (k : lK tab L xs i c9 s9 T2 E) : lX (lGL L xs) tab RL cL_law 7 (some .boolean) room_1 c9 s9 328 (lLs i) [] hx hm o E := by
  unfold lLs
  unfold lK lLs at k
  refine lx_aload_n (pc := 328) dL_law_328 rfl rfl ?_
  refine lx_aload_n (pc := 329) dL_law_329 rfl rfl ?_
  refine lx_iload (pc := 330) dL_law_330 rfl ?_
  refine lx_iconst (pc := 332) dL_law_332 ?_
  refine lx_iadd (pc := 333) dL_law_333 ?_
  refine lx_sload (pc := 334) (by omega) (by omega) (by omega) dL_law_334 ?_
  refine lx_aload_n (pc := 335) dL_law_335 rfl rfl ?_
  refine lx_wrap (pc := 336) (as := [.ref 0, .int (iI (xs (i + 1).toNat).toInt), .ref 300]) (n := 3) (st := []) (Qw := Qs (X_format hx (xs (i + 1).toNat).toInt)) (lGL_o L xs) dL_law_336 gL_format ⟨by decide, by decide⟩ ⟨rfl, by decide +kernel⟩ ⟨rfl, rfl⟩ ⟨Nat.le_of_ble_eq_true rfl, Nat.le_of_ble_eq_true rfl⟩ ⟨hc.1, hc.2⟩ (K_L_format (T_format (by have := r.2.1.1; have := r.2.1.2.1; omega) (by have := r.2.1.1; have := r.2.1.2.1; omega) (ti_r _) (PW_fb r _)) (fun z h2 q o2 e2 => Qs_n q e2) (fun E9 h2 q => Qs_x q)) rfl (by decide) (fun z5 h5 o5 u5 v5 q5 => ?_)
  obtain ⟨rfl, rfl, q5⟩ := q5
  refine lx_istore (pc := 339) dL_law_339 (by decide) rfl ?_
  refine lx_aload_n (pc := 341) dL_law_341 rfl rfl ?_
  refine lx_aload_n (pc := 342) dL_law_342 rfl rfl ?_
  refine lx_iload (pc := 343) dL_law_343 rfl ?_
  refine lx_iconst (pc := 345) dL_law_345 ?_
  refine lx_iadd (pc := 346) dL_law_346 ?_
  refine lx_sload (pc := 347) (by omega) (by omega) (by omega) dL_law_347 ?_
  refine lx_mv (pc := 348) (as := [.int (iI (xs (i + 1).toNat).toInt)]) (n := 1) (st := []) dL_law_348 zl_L_103 zc_X7_format ⟨rfl, by decide +kernel⟩ ⟨rfl, rfl⟩ ⟨Nat.le_of_ble_eq_true rfl, Nat.le_of_ble_eq_true rfl⟩ (C_X7_format r.2.1.2.1.1 r.2.1.2.1.2 (ti_r _)) rfl (fun _ => rfl) (by decide) ⟨hc.1, hc.2⟩ (fun z6 h6 u6 v6 q6 => ?_)
  obtain ⟨rfl, rfl⟩ := q6
  refine lx_istore (pc := 351) dL_law_351 (by decide) rfl ?_
  refine lx_aload_n (pc := 353) dL_law_353 rfl rfl ?_
  refine lx_mv (pc := 354) (as := []) (n := 0) (st := []) dL_law_354 zl_L_97 zc_X7_thrown ⟨rfl, by decide +kernel⟩ ⟨rfl, rfl⟩ ⟨Nat.le_of_ble_eq_true rfl, Nat.le_of_ble_eq_true rfl⟩ C_X7_thrown rfl (fun _ => rfl) (by decide) ⟨hc.1, hc.2⟩ (fun z7 h7 u7 v7 q7 => ?_)
  obtain ⟨rfl, rfl⟩ := q7
  have ag : AG T2 (m_format hm (xs (i + 1).toNat).toInt) (X_format hx (xs (i + 1).toNat).toInt) := REL_agm (B_format r (by omega) _) (by omega)
  refine lx_iload (pc := 357) dL_law_357 rfl ?_
  refine lx_icmp_eq (pc := 359) (tgt := 364) dL_law_359 (by decide) (fun _ => ⟨u7, v7⟩) (fun _ => ⟨u5, v5⟩) (fun c1 => ?_) (fun c1 => absurd ag.1 c1)
  refine lx_iload (pc := 364) dL_law_364 rfl ?_
  have fin := k _ _ o5 (c9 + 1) (s9 + 6) ag.2.2 (Nat.le_refl _) (Nat.le_refl _)
  refine lx_if_ne (pc := 366) (tgt := 381) dL_law_366 (by decide) (fun _ => ⟨u5, v5⟩) (fun c2 => ?_) (fun c2 => ?_)
  · skip
    refine lx_goto (pc := 381) (tgt := 1783) dL_law_381 (by decide) ?_
    exact lx_sub [true, true, true, true, true, false, false] fin
  · have c3 := c2
    refine lx_aload_n (pc := 369) dL_law_369 rfl rfl ?_
    refine lx_iconst (pc := 370) dL_law_370 ?_
    refine lx_laload (pc := 371) dL_law_371 ?_
    rw [q5 c3, ← ag.2.1 c3]
    refine lx_iload (pc := 372) dL_law_372 rfl ?_
    refine lx_i2l (pc := 374) dL_law_374 ⟨u6, v6⟩ ?_
    refine lx_lcmp (pc := 375) dL_law_375 (by omega) (by omega) ?_
    refine lx_if_eq (pc := 376) (tgt := 381) dL_law_376 (by decide) (fun _ => by unfold lc; split <;> (try split) <;> omega) (fun c4 => ?_) (fun c4 => absurd (lc_self _) c4)
    refine lx_goto (pc := 381) (tgt := 1783) dL_law_381 (by decide) ?_
    exact lx_sub [true, true, true, true, true, false, false] fin
set_option maxRecDepth 100000 in
theorem W_begin {tab : List ExceptionTableEntry} {L : Nat} {xs : Nat → Int32} {hx hm : zH} {o : Nat → Int64} {T T2 i : Int} {c9 s9 : Nat} {E : zF} (r : REL hm hx T) (hL : L ≤ 3072) (i0 : 0 ≤ i) (i1 : i + 6 ≤ (L : Int)) (hT : T + 60000 = T2) (hT2 : T2 ≤ 2147000000) (hc : c9 + 1 ≤ room_1.cells ∧ s9 + 6 ≤ room_1.slots) (k : lK tab L xs i c9 s9 T2 E) : lX (lGL L xs) tab RL cL_law 7 (some .boolean) room_1 c9 s9 410 (lLs i) [] hx hm o E := by
  unfold lLs
  unfold lK lLs at k
  refine lx_aload_n (pc := 410) dL_law_410 rfl rfl ?_
  refine lx_aload_n (pc := 411) dL_law_411 rfl rfl ?_
  refine lx_wrap (pc := 412) (as := [.ref 0, .ref 300]) (n := 2) (st := []) (Qw := Qs (X_begin hx )) (lGL_o L xs) dL_law_412 gL_begin ⟨by decide, by decide⟩ ⟨rfl, by decide +kernel⟩ ⟨rfl, rfl⟩ ⟨Nat.le_of_ble_eq_true rfl, Nat.le_of_ble_eq_true rfl⟩ ⟨hc.1, hc.2⟩ (K_L_begin (T_begin (PW_sim r.1).2.1) (fun z h2 q o2 e2 => Qs_n q e2) (fun E9 h2 q => Qs_x q)) rfl (by decide) (fun z5 h5 o5 u5 v5 q5 => ?_)
  obtain ⟨rfl, rfl, q5⟩ := q5
  refine lx_istore (pc := 415) dL_law_415 (by decide) rfl ?_
  refine lx_aload_n (pc := 417) dL_law_417 rfl rfl ?_
  refine lx_mv (pc := 418) (as := []) (n := 0) (st := []) dL_law_418 zl_L_115 zc_X7_begin ⟨rfl, by decide +kernel⟩ ⟨rfl, rfl⟩ ⟨Nat.le_of_ble_eq_true rfl, Nat.le_of_ble_eq_true rfl⟩ (C_X7_begin (PW_38 r.1).1 (PW_38 r.1).2) rfl (fun _ => rfl) (by decide) ⟨hc.1, hc.2⟩ (fun z6 h6 u6 v6 q6 => ?_)
  obtain ⟨rfl, rfl⟩ := q6
  refine lx_istore (pc := 421) dL_law_421 (by decide) rfl ?_
  refine lx_aload_n (pc := 423) dL_law_423 rfl rfl ?_
  refine lx_mv (pc := 424) (as := []) (n := 0) (st := []) dL_law_424 zl_L_97 zc_X7_thrown ⟨rfl, by decide +kernel⟩ ⟨rfl, rfl⟩ ⟨Nat.le_of_ble_eq_true rfl, Nat.le_of_ble_eq_true rfl⟩ C_X7_thrown rfl (fun _ => rfl) (by decide) ⟨hc.1, hc.2⟩ (fun z7 h7 u7 v7 q7 => ?_)
  obtain ⟨rfl, rfl⟩ := q7
  have ag : AG T2 (m_begin hm ) (X_begin hx ) := REL_agm (B_begin r) (by omega)
  refine lx_iload (pc := 427) dL_law_427 rfl ?_
  refine lx_icmp_eq (pc := 429) (tgt := 434) dL_law_429 (by decide) (fun _ => ⟨u7, v7⟩) (fun _ => ⟨u5, v5⟩) (fun c1 => ?_) (fun c1 => absurd ag.1 c1)
  refine lx_iload (pc := 434) dL_law_434 rfl ?_
  have fin := k _ _ o5 (c9 + 1) (s9 + 6) ag.2.2 (Nat.le_refl _) (Nat.le_refl _)
  refine lx_if_ne (pc := 436) (tgt := 451) dL_law_436 (by decide) (fun _ => ⟨u5, v5⟩) (fun c2 => ?_) (fun c2 => ?_)
  · skip
    refine lx_goto (pc := 451) (tgt := 1783) dL_law_451 (by decide) ?_
    exact lx_sub [true, true, true, true, true, false, false] fin
  · have c3 := c2
    refine lx_aload_n (pc := 439) dL_law_439 rfl rfl ?_
    refine lx_iconst (pc := 440) dL_law_440 ?_
    refine lx_laload (pc := 441) dL_law_441 ?_
    rw [q5 c3, ← ag.2.1 c3]
    refine lx_iload (pc := 442) dL_law_442 rfl ?_
    refine lx_i2l (pc := 444) dL_law_444 ⟨u6, v6⟩ ?_
    refine lx_lcmp (pc := 445) dL_law_445 (by omega) (by omega) ?_
    refine lx_if_eq (pc := 446) (tgt := 451) dL_law_446 (by decide) (fun _ => by unfold lc; split <;> (try split) <;> omega) (fun c4 => ?_) (fun c4 => absurd (lc_self _) c4)
    refine lx_goto (pc := 451) (tgt := 1783) dL_law_451 (by decide) ?_
    exact lx_sub [true, true, true, true, true, false, false] fin
set_option maxRecDepth 100000 in
theorem W_write {tab : List ExceptionTableEntry} {L : Nat} {xs : Nat → Int32} {hx hm : zH} {o : Nat → Int64} {T T2 i : Int} {c9 s9 : Nat} {E : zF} (r : REL hm hx T) (hL : L ≤ 3072) (i0 : 0 ≤ i) (i1 : i + 6 ≤ (L : Int)) (hT : T + 60000 = T2) (hT2 : T2 ≤ 2147000000) (hc : c9 + 1 ≤ room_1.cells ∧ s9 + 6 ≤ room_1.slots) (k : lK tab L xs i c9 s9 T2 E) : lX (lGL L xs) tab RL cL_law 7 (some .boolean) room_1 c9 s9 454 (lLs i) [] hx hm o E := by
  unfold lLs
  unfold lK lLs at k
  refine lx_aload_n (pc := 454) dL_law_454 rfl rfl ?_
  refine lx_aload_n (pc := 455) dL_law_455 rfl rfl ?_
  refine lx_iload (pc := 456) dL_law_456 rfl ?_
  refine lx_iconst (pc := 458) dL_law_458 ?_
  refine lx_iadd (pc := 459) dL_law_459 ?_
  refine lx_sload (pc := 460) (by omega) (by omega) (by omega) dL_law_460 ?_
  refine lx_aload_n (pc := 461) dL_law_461 rfl rfl ?_
  refine lx_iload (pc := 462) dL_law_462 rfl ?_
  refine lx_iconst (pc := 464) dL_law_464 ?_
  refine lx_iadd (pc := 465) dL_law_465 ?_
  refine lx_sload (pc := 466) (by omega) (by omega) (by omega) dL_law_466 ?_
  refine lx_aload_n (pc := 467) dL_law_467 rfl rfl ?_
  refine lx_iload (pc := 468) dL_law_468 rfl ?_
  refine lx_iconst (pc := 470) dL_law_470 ?_
  refine lx_iadd (pc := 471) dL_law_471 ?_
  refine lx_sload (pc := 472) (by omega) (by omega) (by omega) dL_law_472 ?_
  refine lx_aload_n (pc := 473) dL_law_473 rfl rfl ?_
  refine lx_wrap (pc := 474) (as := [.ref 0, .int (iI (xs (i + 1).toNat).toInt), .int (iI (xs (i + 2).toNat).toInt), .int (iI (xs (i + 3).toNat).toInt), .ref 300]) (n := 5) (st := []) (Qw := Qs (X_write hx (xs (i + 1).toNat).toInt (xs (i + 2).toNat).toInt (xs (i + 3).toNat).toInt)) (lGL_o L xs) dL_law_474 gL_write ⟨by decide, by decide⟩ ⟨rfl, by decide +kernel⟩ ⟨rfl, rfl⟩ ⟨Nat.le_of_ble_eq_true rfl, Nat.le_of_ble_eq_true rfl⟩ ⟨hc.1, hc.2⟩ (K_L_write (T_write (PW_sim r.1).2.1 (ti_r _) (ti_r _) (ti_r _)) (fun z h2 q o2 e2 => Qs_n q e2) (fun E9 h2 q => Qs_x q)) rfl (by decide) (fun z5 h5 o5 u5 v5 q5 => ?_)
  obtain ⟨rfl, rfl, q5⟩ := q5
  refine lx_istore (pc := 477) dL_law_477 (by decide) rfl ?_
  refine lx_aload_n (pc := 479) dL_law_479 rfl rfl ?_
  refine lx_aload_n (pc := 480) dL_law_480 rfl rfl ?_
  refine lx_iload (pc := 481) dL_law_481 rfl ?_
  refine lx_iconst (pc := 483) dL_law_483 ?_
  refine lx_iadd (pc := 484) dL_law_484 ?_
  refine lx_sload (pc := 485) (by omega) (by omega) (by omega) dL_law_485 ?_
  refine lx_aload_n (pc := 486) dL_law_486 rfl rfl ?_
  refine lx_iload (pc := 487) dL_law_487 rfl ?_
  refine lx_iconst (pc := 489) dL_law_489 ?_
  refine lx_iadd (pc := 490) dL_law_490 ?_
  refine lx_sload (pc := 491) (by omega) (by omega) (by omega) dL_law_491 ?_
  refine lx_aload_n (pc := 492) dL_law_492 rfl rfl ?_
  refine lx_iload (pc := 493) dL_law_493 rfl ?_
  refine lx_iconst (pc := 495) dL_law_495 ?_
  refine lx_iadd (pc := 496) dL_law_496 ?_
  refine lx_sload (pc := 497) (by omega) (by omega) (by omega) dL_law_497 ?_
  refine lx_mv (pc := 498) (as := [.int (iI (xs (i + 1).toNat).toInt), .int (iI (xs (i + 2).toNat).toInt), .int (iI (xs (i + 3).toNat).toInt)]) (n := 3) (st := []) dL_law_498 zl_L_119 zc_X7_write ⟨rfl, by decide +kernel⟩ ⟨rfl, rfl⟩ ⟨Nat.le_of_ble_eq_true rfl, Nat.le_of_ble_eq_true rfl⟩ (C_X7_write (PW_sim r.1).2.2.1 (PW_p r.1) (PW_38 r.1).1 (PW_38 r.1).2 (ti_r _) (ti_r _) (ti_r _)) rfl (fun _ => rfl) (by decide) ⟨hc.1, hc.2⟩ (fun z6 h6 u6 v6 q6 => ?_)
  obtain ⟨rfl, rfl⟩ := q6
  refine lx_istore (pc := 501) dL_law_501 (by decide) rfl ?_
  refine lx_aload_n (pc := 503) dL_law_503 rfl rfl ?_
  refine lx_mv (pc := 504) (as := []) (n := 0) (st := []) dL_law_504 zl_L_97 zc_X7_thrown ⟨rfl, by decide +kernel⟩ ⟨rfl, rfl⟩ ⟨Nat.le_of_ble_eq_true rfl, Nat.le_of_ble_eq_true rfl⟩ C_X7_thrown rfl (fun _ => rfl) (by decide) ⟨hc.1, hc.2⟩ (fun z7 h7 u7 v7 q7 => ?_)
  obtain ⟨rfl, rfl⟩ := q7
  have ag : AG T2 (m_write hm (xs (i + 1).toNat).toInt (xs (i + 2).toNat).toInt (xs (i + 3).toNat).toInt) (X_write hx (xs (i + 1).toNat).toInt (xs (i + 2).toNat).toInt (xs (i + 3).toNat).toInt) := REL_agm (B_write r (by omega) _ _ _) (by omega)
  refine lx_iload (pc := 507) dL_law_507 rfl ?_
  refine lx_icmp_eq (pc := 509) (tgt := 514) dL_law_509 (by decide) (fun _ => ⟨u7, v7⟩) (fun _ => ⟨u5, v5⟩) (fun c1 => ?_) (fun c1 => absurd ag.1 c1)
  refine lx_iload (pc := 514) dL_law_514 rfl ?_
  have fin := k _ _ o5 (c9 + 1) (s9 + 6) ag.2.2 (Nat.le_refl _) (Nat.le_refl _)
  refine lx_if_ne (pc := 516) (tgt := 531) dL_law_516 (by decide) (fun _ => ⟨u5, v5⟩) (fun c2 => ?_) (fun c2 => ?_)
  · skip
    refine lx_goto (pc := 531) (tgt := 1783) dL_law_531 (by decide) ?_
    exact lx_sub [true, true, true, true, true, false, false] fin
  · have c3 := c2
    refine lx_aload_n (pc := 519) dL_law_519 rfl rfl ?_
    refine lx_iconst (pc := 520) dL_law_520 ?_
    refine lx_laload (pc := 521) dL_law_521 ?_
    rw [q5 c3, ← ag.2.1 c3]
    refine lx_iload (pc := 522) dL_law_522 rfl ?_
    refine lx_i2l (pc := 524) dL_law_524 ⟨u6, v6⟩ ?_
    refine lx_lcmp (pc := 525) dL_law_525 (by omega) (by omega) ?_
    refine lx_if_eq (pc := 526) (tgt := 531) dL_law_526 (by decide) (fun _ => by unfold lc; split <;> (try split) <;> omega) (fun c4 => ?_) (fun c4 => absurd (lc_self _) c4)
    refine lx_goto (pc := 531) (tgt := 1783) dL_law_531 (by decide) ?_
    exact lx_sub [true, true, true, true, true, false, false] fin
set_option maxRecDepth 100000 in
theorem W_read {tab : List ExceptionTableEntry} {L : Nat} {xs : Nat → Int32} {hx hm : zH} {o : Nat → Int64} {T T2 i : Int} {c9 s9 : Nat} {E : zF} (r : REL hm hx T) (hL : L ≤ 3072) (i0 : 0 ≤ i) (i1 : i + 6 ≤ (L : Int)) (hT : T + 60000 = T2) (hT2 : T2 ≤ 2147000000) (hc : c9 + 1 ≤ room_1.cells ∧ s9 + 6 ≤ room_1.slots) (k : lK tab L xs i c9 s9 T2 E) : lX (lGL L xs) tab RL cL_law 7 (some .boolean) room_1 c9 s9 534 (lLs i) [] hx hm o E := by
  unfold lLs
  unfold lK lLs at k
  refine lx_aload_n (pc := 534) dL_law_534 rfl rfl ?_
  refine lx_aload_n (pc := 535) dL_law_535 rfl rfl ?_
  refine lx_iload (pc := 536) dL_law_536 rfl ?_
  refine lx_iconst (pc := 538) dL_law_538 ?_
  refine lx_iadd (pc := 539) dL_law_539 ?_
  refine lx_sload (pc := 540) (by omega) (by omega) (by omega) dL_law_540 ?_
  refine lx_aload_n (pc := 541) dL_law_541 rfl rfl ?_
  refine lx_iload (pc := 542) dL_law_542 rfl ?_
  refine lx_iconst (pc := 544) dL_law_544 ?_
  refine lx_iadd (pc := 545) dL_law_545 ?_
  refine lx_sload (pc := 546) (by omega) (by omega) (by omega) dL_law_546 ?_
  refine lx_aload_n (pc := 547) dL_law_547 rfl rfl ?_
  refine lx_wrap (pc := 548) (as := [.ref 0, .int (iI (xs (i + 1).toNat).toInt), .int (iI (xs (i + 2).toNat).toInt), .ref 300]) (n := 4) (st := []) (Qw := Qs (X_read hx (xs (i + 1).toNat).toInt (xs (i + 2).toNat).toInt)) (lGL_o L xs) dL_law_548 gL_read ⟨by decide, by decide⟩ ⟨rfl, by decide +kernel⟩ ⟨rfl, rfl⟩ ⟨Nat.le_of_ble_eq_true rfl, Nat.le_of_ble_eq_true rfl⟩ ⟨hc.1, hc.2⟩ (K_L_read (T_read (PW_sim r.1).2.1 (ti_r _) (ti_r _)) (fun z h2 q o2 e2 => Qs_n q e2) (fun E9 h2 q => Qs_x q)) rfl (by decide) (fun z5 h5 o5 u5 v5 q5 => ?_)
  obtain ⟨rfl, rfl, q5⟩ := q5
  refine lx_istore (pc := 551) dL_law_551 (by decide) rfl ?_
  refine lx_aload_n (pc := 553) dL_law_553 rfl rfl ?_
  refine lx_aload_n (pc := 554) dL_law_554 rfl rfl ?_
  refine lx_iload (pc := 555) dL_law_555 rfl ?_
  refine lx_iconst (pc := 557) dL_law_557 ?_
  refine lx_iadd (pc := 558) dL_law_558 ?_
  refine lx_sload (pc := 559) (by omega) (by omega) (by omega) dL_law_559 ?_
  refine lx_aload_n (pc := 560) dL_law_560 rfl rfl ?_
  refine lx_iload (pc := 561) dL_law_561 rfl ?_
  refine lx_iconst (pc := 563) dL_law_563 ?_
  refine lx_iadd (pc := 564) dL_law_564 ?_
  refine lx_sload (pc := 565) (by omega) (by omega) (by omega) dL_law_565 ?_
  refine lx_mv (pc := 566) (as := [.int (iI (xs (i + 1).toNat).toInt), .int (iI (xs (i + 2).toNat).toInt)]) (n := 2) (st := []) dL_law_566 zl_L_123 zc_X7_read ⟨rfl, by decide +kernel⟩ ⟨rfl, rfl⟩ ⟨Nat.le_of_ble_eq_true rfl, Nat.le_of_ble_eq_true rfl⟩ (C_X7_read (PW_sim r.1).2.2.1 (PW_38 r.1).1 (PW_38 r.1).2 (ti_r _) (ti_r _)) rfl (fun _ => rfl) (by decide) ⟨hc.1, hc.2⟩ (fun z6 h6 u6 v6 q6 => ?_)
  obtain ⟨rfl, rfl⟩ := q6
  refine lx_istore (pc := 569) dL_law_569 (by decide) rfl ?_
  refine lx_aload_n (pc := 571) dL_law_571 rfl rfl ?_
  refine lx_mv (pc := 572) (as := []) (n := 0) (st := []) dL_law_572 zl_L_97 zc_X7_thrown ⟨rfl, by decide +kernel⟩ ⟨rfl, rfl⟩ ⟨Nat.le_of_ble_eq_true rfl, Nat.le_of_ble_eq_true rfl⟩ C_X7_thrown rfl (fun _ => rfl) (by decide) ⟨hc.1, hc.2⟩ (fun z7 h7 u7 v7 q7 => ?_)
  obtain ⟨rfl, rfl⟩ := q7
  have ag : AG T2 (m_read hm (xs (i + 1).toNat).toInt (xs (i + 2).toNat).toInt) (X_read hx (xs (i + 1).toNat).toInt (xs (i + 2).toNat).toInt) := REL_agm (B_read r _ _) (by omega)
  refine lx_iload (pc := 575) dL_law_575 rfl ?_
  refine lx_icmp_eq (pc := 577) (tgt := 582) dL_law_577 (by decide) (fun _ => ⟨u7, v7⟩) (fun _ => ⟨u5, v5⟩) (fun c1 => ?_) (fun c1 => absurd ag.1 c1)
  refine lx_iload (pc := 582) dL_law_582 rfl ?_
  have fin := k _ _ o5 (c9 + 1) (s9 + 6) ag.2.2 (Nat.le_refl _) (Nat.le_refl _)
  refine lx_if_ne (pc := 584) (tgt := 599) dL_law_584 (by decide) (fun _ => ⟨u5, v5⟩) (fun c2 => ?_) (fun c2 => ?_)
  · skip
    refine lx_goto (pc := 599) (tgt := 1783) dL_law_599 (by decide) ?_
    exact lx_sub [true, true, true, true, true, false, false] fin
  · have c3 := c2
    refine lx_aload_n (pc := 587) dL_law_587 rfl rfl ?_
    refine lx_iconst (pc := 588) dL_law_588 ?_
    refine lx_laload (pc := 589) dL_law_589 ?_
    rw [q5 c3, ← ag.2.1 c3]
    refine lx_iload (pc := 590) dL_law_590 rfl ?_
    refine lx_i2l (pc := 592) dL_law_592 ⟨u6, v6⟩ ?_
    refine lx_lcmp (pc := 593) dL_law_593 (by omega) (by omega) ?_
    refine lx_if_eq (pc := 594) (tgt := 599) dL_law_594 (by decide) (fun _ => by unfold lc; split <;> (try split) <;> omega) (fun c4 => ?_) (fun c4 => absurd (lc_self _) c4)
    refine lx_goto (pc := 599) (tgt := 1783) dL_law_599 (by decide) ?_
    exact lx_sub [true, true, true, true, true, false, false] fin
set_option maxRecDepth 100000 in
theorem W_commit {tab : List ExceptionTableEntry} {L : Nat} {xs : Nat → Int32} {hx hm : zH} {o : Nat → Int64} {T T2 i : Int} {c9 s9 : Nat} {E : zF} (r : REL hm hx T) (hL : L ≤ 3072) (i0 : 0 ≤ i) (i1 : i + 6 ≤ (L : Int)) (hT : T + 60000 = T2) (hT2 : T2 ≤ 2147000000) (hc : c9 + 1 ≤ room_1.cells ∧ s9 + 6 ≤ room_1.slots) (k : lK tab L xs i c9 s9 T2 E) : lX (lGL L xs) tab RL cL_law 7 (some .boolean) room_1 c9 s9 602 (lLs i) [] hx hm o E := by
  unfold lLs
  unfold lK lLs at k
  refine lx_aload_n (pc := 602) dL_law_602 rfl rfl ?_
  refine lx_aload_n (pc := 603) dL_law_603 rfl rfl ?_
  refine lx_iload (pc := 604) dL_law_604 rfl ?_
  refine lx_iconst (pc := 606) dL_law_606 ?_
  refine lx_iadd (pc := 607) dL_law_607 ?_
  refine lx_sload (pc := 608) (by omega) (by omega) (by omega) dL_law_608 ?_
  refine lx_aload_n (pc := 609) dL_law_609 rfl rfl ?_
  refine lx_wrap (pc := 610) (as := [.ref 0, .int (iI (xs (i + 1).toNat).toInt), .ref 300]) (n := 3) (st := []) (Qw := Qs (X_commit hx (xs (i + 1).toNat).toInt)) (lGL_o L xs) dL_law_610 gL_commit ⟨by decide, by decide⟩ ⟨rfl, by decide +kernel⟩ ⟨rfl, rfl⟩ ⟨Nat.le_of_ble_eq_true rfl, Nat.le_of_ble_eq_true rfl⟩ ⟨hc.1, hc.2⟩ (K_L_commit (T_commit (PW_sim r.1).2.1 (ti_r _)) (fun z h2 q o2 e2 => Qs_n q e2) (fun E9 h2 q => Qs_x q)) rfl (by decide) (fun z5 h5 o5 u5 v5 q5 => ?_)
  obtain ⟨rfl, rfl, q5⟩ := q5
  refine lx_istore (pc := 613) dL_law_613 (by decide) rfl ?_
  refine lx_aload_n (pc := 615) dL_law_615 rfl rfl ?_
  refine lx_aload_n (pc := 616) dL_law_616 rfl rfl ?_
  refine lx_iload (pc := 617) dL_law_617 rfl ?_
  refine lx_iconst (pc := 619) dL_law_619 ?_
  refine lx_iadd (pc := 620) dL_law_620 ?_
  refine lx_sload (pc := 621) (by omega) (by omega) (by omega) dL_law_621 ?_
  refine lx_mv (pc := 622) (as := [.int (iI (xs (i + 1).toNat).toInt)]) (n := 1) (st := []) dL_law_622 zl_L_126 zc_X7_commit ⟨rfl, by decide +kernel⟩ ⟨rfl, rfl⟩ ⟨Nat.le_of_ble_eq_true rfl, Nat.le_of_ble_eq_true rfl⟩ (C_X7_commit (PW_sim r.1).2.2.1 (PW_p r.1) (PW_38 r.1).1 (PW_38 r.1).2 (ti_r _)) rfl (fun _ => rfl) (by decide) ⟨hc.1, hc.2⟩ (fun z6 h6 u6 v6 q6 => ?_)
  obtain ⟨rfl, rfl⟩ := q6
  refine lx_istore (pc := 625) dL_law_625 (by decide) rfl ?_
  refine lx_aload_n (pc := 627) dL_law_627 rfl rfl ?_
  refine lx_mv (pc := 628) (as := []) (n := 0) (st := []) dL_law_628 zl_L_97 zc_X7_thrown ⟨rfl, by decide +kernel⟩ ⟨rfl, rfl⟩ ⟨Nat.le_of_ble_eq_true rfl, Nat.le_of_ble_eq_true rfl⟩ C_X7_thrown rfl (fun _ => rfl) (by decide) ⟨hc.1, hc.2⟩ (fun z7 h7 u7 v7 q7 => ?_)
  obtain ⟨rfl, rfl⟩ := q7
  have ag : AG T2 (m_commit hm (xs (i + 1).toNat).toInt) (X_commit hx (xs (i + 1).toNat).toInt) := REL_agm (B_commit r (by omega) _) (by omega)
  refine lx_iload (pc := 631) dL_law_631 rfl ?_
  refine lx_icmp_eq (pc := 633) (tgt := 638) dL_law_633 (by decide) (fun _ => ⟨u7, v7⟩) (fun _ => ⟨u5, v5⟩) (fun c1 => ?_) (fun c1 => absurd ag.1 c1)
  refine lx_iload (pc := 638) dL_law_638 rfl ?_
  have fin := k _ _ o5 (c9 + 1) (s9 + 6) ag.2.2 (Nat.le_refl _) (Nat.le_refl _)
  refine lx_if_ne (pc := 640) (tgt := 655) dL_law_640 (by decide) (fun _ => ⟨u5, v5⟩) (fun c2 => ?_) (fun c2 => ?_)
  · skip
    refine lx_goto (pc := 655) (tgt := 1783) dL_law_655 (by decide) ?_
    exact lx_sub [true, true, true, true, true, false, false] fin
  · have c3 := c2
    refine lx_aload_n (pc := 643) dL_law_643 rfl rfl ?_
    refine lx_iconst (pc := 644) dL_law_644 ?_
    refine lx_laload (pc := 645) dL_law_645 ?_
    rw [q5 c3, ← ag.2.1 c3]
    refine lx_iload (pc := 646) dL_law_646 rfl ?_
    refine lx_i2l (pc := 648) dL_law_648 ⟨u6, v6⟩ ?_
    refine lx_lcmp (pc := 649) dL_law_649 (by omega) (by omega) ?_
    refine lx_if_eq (pc := 650) (tgt := 655) dL_law_650 (by decide) (fun _ => by unfold lc; split <;> (try split) <;> omega) (fun c4 => ?_) (fun c4 => absurd (lc_self _) c4)
    refine lx_goto (pc := 655) (tgt := 1783) dL_law_655 (by decide) ?_
    exact lx_sub [true, true, true, true, true, false, false] fin
set_option maxRecDepth 100000 in
theorem W_abort {tab : List ExceptionTableEntry} {L : Nat} {xs : Nat → Int32} {hx hm : zH} {o : Nat → Int64} {T T2 i : Int} {c9 s9 : Nat} {E : zF} (r : REL hm hx T) (hL : L ≤ 3072) (i0 : 0 ≤ i) (i1 : i + 6 ≤ (L : Int)) (hT : T + 60000 = T2) (hT2 : T2 ≤ 2147000000) (hc : c9 + 1 ≤ room_1.cells ∧ s9 + 6 ≤ room_1.slots) (k : lK tab L xs i c9 s9 T2 E) : lX (lGL L xs) tab RL cL_law 7 (some .boolean) room_1 c9 s9 658 (lLs i) [] hx hm o E := by
  unfold lLs
  unfold lK lLs at k
  refine lx_aload_n (pc := 658) dL_law_658 rfl rfl ?_
  refine lx_aload_n (pc := 659) dL_law_659 rfl rfl ?_
  refine lx_iload (pc := 660) dL_law_660 rfl ?_
  refine lx_iconst (pc := 662) dL_law_662 ?_
  refine lx_iadd (pc := 663) dL_law_663 ?_
  refine lx_sload (pc := 664) (by omega) (by omega) (by omega) dL_law_664 ?_
  refine lx_aload_n (pc := 665) dL_law_665 rfl rfl ?_
  refine lx_wrap (pc := 666) (as := [.ref 0, .int (iI (xs (i + 1).toNat).toInt), .ref 300]) (n := 3) (st := []) (Qw := Qs (X_abort hx (xs (i + 1).toNat).toInt)) (lGL_o L xs) dL_law_666 gL_abort ⟨by decide, by decide⟩ ⟨rfl, by decide +kernel⟩ ⟨rfl, rfl⟩ ⟨Nat.le_of_ble_eq_true rfl, Nat.le_of_ble_eq_true rfl⟩ ⟨hc.1, hc.2⟩ (K_L_abort (T_abort (PW_sim r.1).2.1 (ti_r _)) (fun z h2 q o2 e2 => Qs_n q e2) (fun E9 h2 q => Qs_x q)) rfl (by decide) (fun z5 h5 o5 u5 v5 q5 => ?_)
  obtain ⟨rfl, rfl, q5⟩ := q5
  refine lx_istore (pc := 669) dL_law_669 (by decide) rfl ?_
  refine lx_aload_n (pc := 671) dL_law_671 rfl rfl ?_
  refine lx_aload_n (pc := 672) dL_law_672 rfl rfl ?_
  refine lx_iload (pc := 673) dL_law_673 rfl ?_
  refine lx_iconst (pc := 675) dL_law_675 ?_
  refine lx_iadd (pc := 676) dL_law_676 ?_
  refine lx_sload (pc := 677) (by omega) (by omega) (by omega) dL_law_677 ?_
  refine lx_mv (pc := 678) (as := [.int (iI (xs (i + 1).toNat).toInt)]) (n := 1) (st := []) dL_law_678 zl_L_129 zc_X7_abort ⟨rfl, by decide +kernel⟩ ⟨rfl, rfl⟩ ⟨Nat.le_of_ble_eq_true rfl, Nat.le_of_ble_eq_true rfl⟩ (C_X7_abort (PW_sim r.1).2.2.1 (PW_38 r.1).1 (PW_38 r.1).2 (ti_r _)) rfl (fun _ => rfl) (by decide) ⟨hc.1, hc.2⟩ (fun z6 h6 u6 v6 q6 => ?_)
  obtain ⟨rfl, rfl⟩ := q6
  refine lx_istore (pc := 681) dL_law_681 (by decide) rfl ?_
  refine lx_aload_n (pc := 683) dL_law_683 rfl rfl ?_
  refine lx_mv (pc := 684) (as := []) (n := 0) (st := []) dL_law_684 zl_L_97 zc_X7_thrown ⟨rfl, by decide +kernel⟩ ⟨rfl, rfl⟩ ⟨Nat.le_of_ble_eq_true rfl, Nat.le_of_ble_eq_true rfl⟩ C_X7_thrown rfl (fun _ => rfl) (by decide) ⟨hc.1, hc.2⟩ (fun z7 h7 u7 v7 q7 => ?_)
  obtain ⟨rfl, rfl⟩ := q7
  have ag : AG T2 (m_abort hm (xs (i + 1).toNat).toInt) (X_abort hx (xs (i + 1).toNat).toInt) := REL_agm (B_abort r _) (by omega)
  refine lx_iload (pc := 687) dL_law_687 rfl ?_
  refine lx_icmp_eq (pc := 689) (tgt := 694) dL_law_689 (by decide) (fun _ => ⟨u7, v7⟩) (fun _ => ⟨u5, v5⟩) (fun c1 => ?_) (fun c1 => absurd ag.1 c1)
  refine lx_iload (pc := 694) dL_law_694 rfl ?_
  have fin := k _ _ o5 (c9 + 1) (s9 + 6) ag.2.2 (Nat.le_refl _) (Nat.le_refl _)
  refine lx_if_ne (pc := 696) (tgt := 711) dL_law_696 (by decide) (fun _ => ⟨u5, v5⟩) (fun c2 => ?_) (fun c2 => ?_)
  · skip
    refine lx_goto (pc := 711) (tgt := 1783) dL_law_711 (by decide) ?_
    exact lx_sub [true, true, true, true, true, false, false] fin
  · have c3 := c2
    refine lx_aload_n (pc := 699) dL_law_699 rfl rfl ?_
    refine lx_iconst (pc := 700) dL_law_700 ?_
    refine lx_laload (pc := 701) dL_law_701 ?_
    rw [q5 c3, ← ag.2.1 c3]
    refine lx_iload (pc := 702) dL_law_702 rfl ?_
    refine lx_i2l (pc := 704) dL_law_704 ⟨u6, v6⟩ ?_
    refine lx_lcmp (pc := 705) dL_law_705 (by omega) (by omega) ?_
    refine lx_if_eq (pc := 706) (tgt := 711) dL_law_706 (by decide) (fun _ => by unfold lc; split <;> (try split) <;> omega) (fun c4 => ?_) (fun c4 => absurd (lc_self _) c4)
    refine lx_goto (pc := 711) (tgt := 1783) dL_law_711 (by decide) ?_
    exact lx_sub [true, true, true, true, true, false, false] fin
set_option maxRecDepth 100000 in
theorem W_openReader {tab : List ExceptionTableEntry} {L : Nat} {xs : Nat → Int32} {hx hm : zH} {o : Nat → Int64} {T T2 i : Int} {c9 s9 : Nat} {E : zF} (r : REL hm hx T) (hL : L ≤ 3072) (i0 : 0 ≤ i) (i1 : i + 6 ≤ (L : Int)) (hT : T + 60000 = T2) (hT2 : T2 ≤ 2147000000) (hc : c9 + 1 ≤ room_1.cells ∧ s9 + 6 ≤ room_1.slots) (k : lK tab L xs i c9 s9 T2 E) : lX (lGL L xs) tab RL cL_law 7 (some .boolean) room_1 c9 s9 714 (lLs i) [] hx hm o E := by
  unfold lLs
  unfold lK lLs at k
  refine lx_aload_n (pc := 714) dL_law_714 rfl rfl ?_
  refine lx_aload_n (pc := 715) dL_law_715 rfl rfl ?_
  refine lx_wrap (pc := 716) (as := [.ref 0, .ref 300]) (n := 2) (st := []) (Qw := Qs (X_openReader hx )) (lGL_o L xs) dL_law_716 gL_openReader ⟨by decide, by decide⟩ ⟨rfl, by decide +kernel⟩ ⟨rfl, rfl⟩ ⟨Nat.le_of_ble_eq_true rfl, Nat.le_of_ble_eq_true rfl⟩ ⟨hc.1, hc.2⟩ (K_L_openReader (T_openReader (PW_sim r.1).2.1) (fun z h2 q o2 e2 => Qs_n q e2) (fun E9 h2 q => Qs_x q)) rfl (by decide) (fun z5 h5 o5 u5 v5 q5 => ?_)
  obtain ⟨rfl, rfl, q5⟩ := q5
  refine lx_istore (pc := 719) dL_law_719 (by decide) rfl ?_
  refine lx_aload_n (pc := 721) dL_law_721 rfl rfl ?_
  refine lx_mv (pc := 722) (as := []) (n := 0) (st := []) dL_law_722 zl_L_132 zc_X7_openReader ⟨rfl, by decide +kernel⟩ ⟨rfl, rfl⟩ ⟨Nat.le_of_ble_eq_true rfl, Nat.le_of_ble_eq_true rfl⟩ (C_X7_openReader) rfl (fun _ => rfl) (by decide) ⟨hc.1, hc.2⟩ (fun z6 h6 u6 v6 q6 => ?_)
  obtain ⟨rfl, rfl⟩ := q6
  refine lx_istore (pc := 725) dL_law_725 (by decide) rfl ?_
  refine lx_aload_n (pc := 727) dL_law_727 rfl rfl ?_
  refine lx_mv (pc := 728) (as := []) (n := 0) (st := []) dL_law_728 zl_L_97 zc_X7_thrown ⟨rfl, by decide +kernel⟩ ⟨rfl, rfl⟩ ⟨Nat.le_of_ble_eq_true rfl, Nat.le_of_ble_eq_true rfl⟩ C_X7_thrown rfl (fun _ => rfl) (by decide) ⟨hc.1, hc.2⟩ (fun z7 h7 u7 v7 q7 => ?_)
  obtain ⟨rfl, rfl⟩ := q7
  have ag : AG T2 (m_openR hm) (X_openReader hx ) := REL_agm (B_openReader r) (by omega)
  refine lx_iload (pc := 731) dL_law_731 rfl ?_
  refine lx_icmp_eq (pc := 733) (tgt := 738) dL_law_733 (by decide) (fun _ => ⟨u7, v7⟩) (fun _ => ⟨u5, v5⟩) (fun c1 => ?_) (fun c1 => absurd ag.1 c1)
  refine lx_iload (pc := 738) dL_law_738 rfl ?_
  have fin := k _ _ o5 (c9 + 1) (s9 + 6) ag.2.2 (Nat.le_refl _) (Nat.le_refl _)
  refine lx_if_ne (pc := 740) (tgt := 755) dL_law_740 (by decide) (fun _ => ⟨u5, v5⟩) (fun c2 => ?_) (fun c2 => ?_)
  · skip
    refine lx_goto (pc := 755) (tgt := 1783) dL_law_755 (by decide) ?_
    exact lx_sub [true, true, true, true, true, false, false] fin
  · have c3 := c2
    refine lx_aload_n (pc := 743) dL_law_743 rfl rfl ?_
    refine lx_iconst (pc := 744) dL_law_744 ?_
    refine lx_laload (pc := 745) dL_law_745 ?_
    rw [q5 c3, ← ag.2.1 c3]
    refine lx_iload (pc := 746) dL_law_746 rfl ?_
    refine lx_i2l (pc := 748) dL_law_748 ⟨u6, v6⟩ ?_
    refine lx_lcmp (pc := 749) dL_law_749 (by omega) (by omega) ?_
    refine lx_if_eq (pc := 750) (tgt := 755) dL_law_750 (by decide) (fun _ => by unfold lc; split <;> (try split) <;> omega) (fun c4 => ?_) (fun c4 => absurd (lc_self _) c4)
    refine lx_goto (pc := 755) (tgt := 1783) dL_law_755 (by decide) ?_
    exact lx_sub [true, true, true, true, true, false, false] fin
set_option maxRecDepth 100000 in
theorem W_readBy {tab : List ExceptionTableEntry} {L : Nat} {xs : Nat → Int32} {hx hm : zH} {o : Nat → Int64} {T T2 i : Int} {c9 s9 : Nat} {E : zF} (r : REL hm hx T) (hL : L ≤ 3072) (i0 : 0 ≤ i) (i1 : i + 6 ≤ (L : Int)) (hT : T + 60000 = T2) (hT2 : T2 ≤ 2147000000) (hc : c9 + 1 ≤ room_1.cells ∧ s9 + 6 ≤ room_1.slots) (k : lK tab L xs i c9 s9 T2 E) : lX (lGL L xs) tab RL cL_law 7 (some .boolean) room_1 c9 s9 758 (lLs i) [] hx hm o E := by
  unfold lLs
  unfold lK lLs at k
  refine lx_aload_n (pc := 758) dL_law_758 rfl rfl ?_
  refine lx_aload_n (pc := 759) dL_law_759 rfl rfl ?_
  refine lx_iload (pc := 760) dL_law_760 rfl ?_
  refine lx_iconst (pc := 762) dL_law_762 ?_
  refine lx_iadd (pc := 763) dL_law_763 ?_
  refine lx_sload (pc := 764) (by omega) (by omega) (by omega) dL_law_764 ?_
  refine lx_aload_n (pc := 765) dL_law_765 rfl rfl ?_
  refine lx_iload (pc := 766) dL_law_766 rfl ?_
  refine lx_iconst (pc := 768) dL_law_768 ?_
  refine lx_iadd (pc := 769) dL_law_769 ?_
  refine lx_sload (pc := 770) (by omega) (by omega) (by omega) dL_law_770 ?_
  refine lx_aload_n (pc := 771) dL_law_771 rfl rfl ?_
  refine lx_wrap (pc := 772) (as := [.ref 0, .int (iI (xs (i + 1).toNat).toInt), .int (iI (xs (i + 2).toNat).toInt), .ref 300]) (n := 4) (st := []) (Qw := Qs (X_readBy hx (xs (i + 1).toNat).toInt (xs (i + 2).toNat).toInt)) (lGL_o L xs) dL_law_772 gL_readBy ⟨by decide, by decide⟩ ⟨rfl, by decide +kernel⟩ ⟨rfl, rfl⟩ ⟨Nat.le_of_ble_eq_true rfl, Nat.le_of_ble_eq_true rfl⟩ ⟨hc.1, hc.2⟩ (K_L_readBy (T_readBy (PW_sim r.1).2.1 (ti_r _) (ti_r _)) (fun z h2 q o2 e2 => Qs_n q e2) (fun E9 h2 q => Qs_x q)) rfl (by decide) (fun z5 h5 o5 u5 v5 q5 => ?_)
  obtain ⟨rfl, rfl, q5⟩ := q5
  refine lx_istore (pc := 775) dL_law_775 (by decide) rfl ?_
  refine lx_aload_n (pc := 777) dL_law_777 rfl rfl ?_
  refine lx_aload_n (pc := 778) dL_law_778 rfl rfl ?_
  refine lx_iload (pc := 779) dL_law_779 rfl ?_
  refine lx_iconst (pc := 781) dL_law_781 ?_
  refine lx_iadd (pc := 782) dL_law_782 ?_
  refine lx_sload (pc := 783) (by omega) (by omega) (by omega) dL_law_783 ?_
  refine lx_aload_n (pc := 784) dL_law_784 rfl rfl ?_
  refine lx_iload (pc := 785) dL_law_785 rfl ?_
  refine lx_iconst (pc := 787) dL_law_787 ?_
  refine lx_iadd (pc := 788) dL_law_788 ?_
  refine lx_sload (pc := 789) (by omega) (by omega) (by omega) dL_law_789 ?_
  refine lx_mv (pc := 790) (as := [.int (iI (xs (i + 1).toNat).toInt), .int (iI (xs (i + 2).toNat).toInt)]) (n := 2) (st := []) dL_law_790 zl_L_135 zc_X7_readBy ⟨rfl, by decide +kernel⟩ ⟨rfl, rfl⟩ ⟨Nat.le_of_ble_eq_true rfl, Nat.le_of_ble_eq_true rfl⟩ (C_X7_readBy (PW_sim r.1).2.2.1.1 (ti_r _) (ti_r _)) rfl (fun _ => rfl) (by decide) ⟨hc.1, hc.2⟩ (fun z6 h6 u6 v6 q6 => ?_)
  obtain ⟨rfl, rfl⟩ := q6
  refine lx_istore (pc := 793) dL_law_793 (by decide) rfl ?_
  refine lx_aload_n (pc := 795) dL_law_795 rfl rfl ?_
  refine lx_mv (pc := 796) (as := []) (n := 0) (st := []) dL_law_796 zl_L_97 zc_X7_thrown ⟨rfl, by decide +kernel⟩ ⟨rfl, rfl⟩ ⟨Nat.le_of_ble_eq_true rfl, Nat.le_of_ble_eq_true rfl⟩ C_X7_thrown rfl (fun _ => rfl) (by decide) ⟨hc.1, hc.2⟩ (fun z7 h7 u7 v7 q7 => ?_)
  obtain ⟨rfl, rfl⟩ := q7
  have ag : AG T2 (m_readBy hm (xs (i + 1).toNat).toInt (xs (i + 2).toNat).toInt) (X_readBy hx (xs (i + 1).toNat).toInt (xs (i + 2).toNat).toInt) := REL_agm (B_readBy r _ _) (by omega)
  refine lx_iload (pc := 799) dL_law_799 rfl ?_
  refine lx_icmp_eq (pc := 801) (tgt := 806) dL_law_801 (by decide) (fun _ => ⟨u7, v7⟩) (fun _ => ⟨u5, v5⟩) (fun c1 => ?_) (fun c1 => absurd ag.1 c1)
  refine lx_iload (pc := 806) dL_law_806 rfl ?_
  have fin := k _ _ o5 (c9 + 1) (s9 + 6) ag.2.2 (Nat.le_refl _) (Nat.le_refl _)
  refine lx_if_ne (pc := 808) (tgt := 823) dL_law_808 (by decide) (fun _ => ⟨u5, v5⟩) (fun c2 => ?_) (fun c2 => ?_)
  · skip
    refine lx_goto (pc := 823) (tgt := 1783) dL_law_823 (by decide) ?_
    exact lx_sub [true, true, true, true, true, false, false] fin
  · have c3 := c2
    refine lx_aload_n (pc := 811) dL_law_811 rfl rfl ?_
    refine lx_iconst (pc := 812) dL_law_812 ?_
    refine lx_laload (pc := 813) dL_law_813 ?_
    rw [q5 c3, ← ag.2.1 c3]
    refine lx_iload (pc := 814) dL_law_814 rfl ?_
    refine lx_i2l (pc := 816) dL_law_816 ⟨u6, v6⟩ ?_
    refine lx_lcmp (pc := 817) dL_law_817 (by omega) (by omega) ?_
    refine lx_if_eq (pc := 818) (tgt := 823) dL_law_818 (by decide) (fun _ => by unfold lc; split <;> (try split) <;> omega) (fun c4 => ?_) (fun c4 => absurd (lc_self _) c4)
    refine lx_goto (pc := 823) (tgt := 1783) dL_law_823 (by decide) ?_
    exact lx_sub [true, true, true, true, true, false, false] fin
set_option maxRecDepth 100000 in
theorem W_closeReader {tab : List ExceptionTableEntry} {L : Nat} {xs : Nat → Int32} {hx hm : zH} {o : Nat → Int64} {T T2 i : Int} {c9 s9 : Nat} {E : zF} (r : REL hm hx T) (hL : L ≤ 3072) (i0 : 0 ≤ i) (i1 : i + 6 ≤ (L : Int)) (hT : T + 60000 = T2) (hT2 : T2 ≤ 2147000000) (hc : c9 + 1 ≤ room_1.cells ∧ s9 + 6 ≤ room_1.slots) (k : lK tab L xs i c9 s9 T2 E) : lX (lGL L xs) tab RL cL_law 7 (some .boolean) room_1 c9 s9 826 (lLs i) [] hx hm o E := by
  unfold lLs
  unfold lK lLs at k
  refine lx_aload_n (pc := 826) dL_law_826 rfl rfl ?_
  refine lx_aload_n (pc := 827) dL_law_827 rfl rfl ?_
  refine lx_iload (pc := 828) dL_law_828 rfl ?_
  refine lx_iconst (pc := 830) dL_law_830 ?_
  refine lx_iadd (pc := 831) dL_law_831 ?_
  refine lx_sload (pc := 832) (by omega) (by omega) (by omega) dL_law_832 ?_
  refine lx_aload_n (pc := 833) dL_law_833 rfl rfl ?_
  refine lx_wrap (pc := 834) (as := [.ref 0, .int (iI (xs (i + 1).toNat).toInt), .ref 300]) (n := 3) (st := []) (Qw := Qs (X_closeReader hx (xs (i + 1).toNat).toInt)) (lGL_o L xs) dL_law_834 gL_closeReader ⟨by decide, by decide⟩ ⟨rfl, by decide +kernel⟩ ⟨rfl, rfl⟩ ⟨Nat.le_of_ble_eq_true rfl, Nat.le_of_ble_eq_true rfl⟩ ⟨hc.1, hc.2⟩ (K_L_closeReader (T_closeReader (PW_sim r.1).2.1 (ti_r _)) (fun z h2 q o2 e2 => Qs_n q e2) (fun E9 h2 q => Qs_x q)) rfl (by decide) (fun z5 h5 o5 u5 v5 q5 => ?_)
  obtain ⟨rfl, rfl, q5⟩ := q5
  refine lx_istore (pc := 837) dL_law_837 (by decide) rfl ?_
  refine lx_aload_n (pc := 839) dL_law_839 rfl rfl ?_
  refine lx_aload_n (pc := 840) dL_law_840 rfl rfl ?_
  refine lx_iload (pc := 841) dL_law_841 rfl ?_
  refine lx_iconst (pc := 843) dL_law_843 ?_
  refine lx_iadd (pc := 844) dL_law_844 ?_
  refine lx_sload (pc := 845) (by omega) (by omega) (by omega) dL_law_845 ?_
  refine lx_mv (pc := 846) (as := [.int (iI (xs (i + 1).toNat).toInt)]) (n := 1) (st := []) dL_law_846 zl_L_138 zc_X7_closeReader ⟨rfl, by decide +kernel⟩ ⟨rfl, rfl⟩ ⟨Nat.le_of_ble_eq_true rfl, Nat.le_of_ble_eq_true rfl⟩ (C_X7_closeReader (ti_r _)) rfl (fun _ => rfl) (by decide) ⟨hc.1, hc.2⟩ (fun z6 h6 u6 v6 q6 => ?_)
  obtain ⟨rfl, rfl⟩ := q6
  refine lx_istore (pc := 849) dL_law_849 (by decide) rfl ?_
  refine lx_aload_n (pc := 851) dL_law_851 rfl rfl ?_
  refine lx_mv (pc := 852) (as := []) (n := 0) (st := []) dL_law_852 zl_L_97 zc_X7_thrown ⟨rfl, by decide +kernel⟩ ⟨rfl, rfl⟩ ⟨Nat.le_of_ble_eq_true rfl, Nat.le_of_ble_eq_true rfl⟩ C_X7_thrown rfl (fun _ => rfl) (by decide) ⟨hc.1, hc.2⟩ (fun z7 h7 u7 v7 q7 => ?_)
  obtain ⟨rfl, rfl⟩ := q7
  have ag : AG T2 (m_closeR hm ((xs (i + 1).toNat).toInt)) (X_closeReader hx (xs (i + 1).toNat).toInt) := REL_agm (B_closeReader r _) (by omega)
  refine lx_iload (pc := 855) dL_law_855 rfl ?_
  refine lx_icmp_eq (pc := 857) (tgt := 862) dL_law_857 (by decide) (fun _ => ⟨u7, v7⟩) (fun _ => ⟨u5, v5⟩) (fun c1 => ?_) (fun c1 => absurd ag.1 c1)
  refine lx_iload (pc := 862) dL_law_862 rfl ?_
  have fin := k _ _ o5 (c9 + 1) (s9 + 6) ag.2.2 (Nat.le_refl _) (Nat.le_refl _)
  refine lx_if_ne (pc := 864) (tgt := 879) dL_law_864 (by decide) (fun _ => ⟨u5, v5⟩) (fun c2 => ?_) (fun c2 => ?_)
  · skip
    refine lx_goto (pc := 879) (tgt := 1783) dL_law_879 (by decide) ?_
    exact lx_sub [true, true, true, true, true, false, false] fin
  · have c3 := c2
    refine lx_aload_n (pc := 867) dL_law_867 rfl rfl ?_
    refine lx_iconst (pc := 868) dL_law_868 ?_
    refine lx_laload (pc := 869) dL_law_869 ?_
    rw [q5 c3, ← ag.2.1 c3]
    refine lx_iload (pc := 870) dL_law_870 rfl ?_
    refine lx_i2l (pc := 872) dL_law_872 ⟨u6, v6⟩ ?_
    refine lx_lcmp (pc := 873) dL_law_873 (by omega) (by omega) ?_
    refine lx_if_eq (pc := 874) (tgt := 879) dL_law_874 (by decide) (fun _ => by unfold lc; split <;> (try split) <;> omega) (fun c4 => ?_) (fun c4 => absurd (lc_self _) c4)
    refine lx_goto (pc := 879) (tgt := 1783) dL_law_879 (by decide) ?_
    exact lx_sub [true, true, true, true, true, false, false] fin
set_option maxRecDepth 100000 in
theorem W_checkpoint {tab : List ExceptionTableEntry} {L : Nat} {xs : Nat → Int32} {hx hm : zH} {o : Nat → Int64} {T T2 i : Int} {c9 s9 : Nat} {E : zF} (r : REL hm hx T) (hL : L ≤ 3072) (i0 : 0 ≤ i) (i1 : i + 6 ≤ (L : Int)) (hT : T + 60000 = T2) (hT2 : T2 ≤ 2147000000) (hc : c9 + 1 ≤ room_1.cells ∧ s9 + 6 ≤ room_1.slots) (k : lK tab L xs i c9 s9 T2 E) : lX (lGL L xs) tab RL cL_law 7 (some .boolean) room_1 c9 s9 882 (lLs i) [] hx hm o E := by
  unfold lLs
  unfold lK lLs at k
  refine lx_aload_n (pc := 882) dL_law_882 rfl rfl ?_
  refine lx_aload_n (pc := 883) dL_law_883 rfl rfl ?_
  refine lx_wrap (pc := 884) (as := [.ref 0, .ref 300]) (n := 2) (st := []) (Qw := Qs (X_checkpoint hx )) (lGL_o L xs) dL_law_884 gL_checkpoint ⟨by decide, by decide⟩ ⟨rfl, by decide +kernel⟩ ⟨rfl, rfl⟩ ⟨Nat.le_of_ble_eq_true rfl, Nat.le_of_ble_eq_true rfl⟩ ⟨hc.1, hc.2⟩ (K_L_checkpoint (T_checkpoint (PW_sim r.1).2.1) (fun z h2 q o2 e2 => Qs_n q e2) (fun E9 h2 q => Qs_x q)) rfl (by decide) (fun z5 h5 o5 u5 v5 q5 => ?_)
  obtain ⟨rfl, rfl, q5⟩ := q5
  refine lx_istore (pc := 887) dL_law_887 (by decide) rfl ?_
  refine lx_aload_n (pc := 889) dL_law_889 rfl rfl ?_
  refine lx_mv (pc := 890) (as := []) (n := 0) (st := []) dL_law_890 zl_L_141 zc_X7_checkpoint ⟨rfl, by decide +kernel⟩ ⟨rfl, rfl⟩ ⟨Nat.le_of_ble_eq_true rfl, Nat.le_of_ble_eq_true rfl⟩ (C_X7_checkpoint (PW_sim r.1).2.2.1 (PW_p r.1)) rfl (fun _ => rfl) (by decide) ⟨hc.1, hc.2⟩ (fun z6 h6 u6 v6 q6 => ?_)
  obtain ⟨rfl, rfl⟩ := q6
  refine lx_istore (pc := 893) dL_law_893 (by decide) rfl ?_
  refine lx_aload_n (pc := 895) dL_law_895 rfl rfl ?_
  refine lx_mv (pc := 896) (as := []) (n := 0) (st := []) dL_law_896 zl_L_97 zc_X7_thrown ⟨rfl, by decide +kernel⟩ ⟨rfl, rfl⟩ ⟨Nat.le_of_ble_eq_true rfl, Nat.le_of_ble_eq_true rfl⟩ C_X7_thrown rfl (fun _ => rfl) (by decide) ⟨hc.1, hc.2⟩ (fun z7 h7 u7 v7 q7 => ?_)
  obtain ⟨rfl, rfl⟩ := q7
  have ag : AG T2 (m_checkpoint hm ) (X_checkpoint hx ) := REL_agm (B_checkpoint r (by omega)) (by omega)
  refine lx_iload (pc := 899) dL_law_899 rfl ?_
  refine lx_icmp_eq (pc := 901) (tgt := 906) dL_law_901 (by decide) (fun _ => ⟨u7, v7⟩) (fun _ => ⟨u5, v5⟩) (fun c1 => ?_) (fun c1 => absurd ag.1 c1)
  refine lx_iload (pc := 906) dL_law_906 rfl ?_
  have fin := k _ _ o5 (c9 + 1) (s9 + 6) ag.2.2 (Nat.le_refl _) (Nat.le_refl _)
  refine lx_if_ne (pc := 908) (tgt := 923) dL_law_908 (by decide) (fun _ => ⟨u5, v5⟩) (fun c2 => ?_) (fun c2 => ?_)
  · skip
    refine lx_goto (pc := 923) (tgt := 1783) dL_law_923 (by decide) ?_
    exact lx_sub [true, true, true, true, true, false, false] fin
  · have c3 := c2
    refine lx_aload_n (pc := 911) dL_law_911 rfl rfl ?_
    refine lx_iconst (pc := 912) dL_law_912 ?_
    refine lx_laload (pc := 913) dL_law_913 ?_
    rw [q5 c3, ← ag.2.1 c3]
    refine lx_iload (pc := 914) dL_law_914 rfl ?_
    refine lx_i2l (pc := 916) dL_law_916 ⟨u6, v6⟩ ?_
    refine lx_lcmp (pc := 917) dL_law_917 (by omega) (by omega) ?_
    refine lx_if_eq (pc := 918) (tgt := 923) dL_law_918 (by decide) (fun _ => by unfold lc; split <;> (try split) <;> omega) (fun c4 => ?_) (fun c4 => absurd (lc_self _) c4)
    refine lx_goto (pc := 923) (tgt := 1783) dL_law_923 (by decide) ?_
    exact lx_sub [true, true, true, true, true, false, false] fin
set_option maxRecDepth 100000 in
theorem W_arm {tab : List ExceptionTableEntry} {L : Nat} {xs : Nat → Int32} {hx hm : zH} {o : Nat → Int64} {T T2 i : Int} {c9 s9 : Nat} {E : zF} (r : REL hm hx T) (hL : L ≤ 3072) (i0 : 0 ≤ i) (i1 : i + 6 ≤ (L : Int)) (hT : T + 60000 = T2) (hT2 : T2 ≤ 2147000000) (hc : c9 + 1 ≤ room_1.cells ∧ s9 + 6 ≤ room_1.slots) (k : lK tab L xs i c9 s9 T2 E) : lX (lGL L xs) tab RL cL_law 7 (some .boolean) room_1 c9 s9 939 (lLs i) [] hx hm o E := by
  unfold lLs
  unfold lK lLs at k
  refine lx_aload_n (pc := 939) dL_law_939 rfl rfl ?_
  refine lx_aload_n (pc := 940) dL_law_940 rfl rfl ?_
  refine lx_iload (pc := 941) dL_law_941 rfl ?_
  refine lx_iconst (pc := 943) dL_law_943 ?_
  refine lx_iadd (pc := 944) dL_law_944 ?_
  refine lx_sload (pc := 945) (by omega) (by omega) (by omega) dL_law_945 ?_
  refine lx_aload_n (pc := 946) dL_law_946 rfl rfl ?_
  refine lx_wrap (pc := 947) (as := [.ref 0, .int (iI (xs (i + 1).toNat).toInt), .ref 300]) (n := 3) (st := []) (Qw := Qs (X_arm hx (xs (i + 1).toNat).toInt)) (lGL_o L xs) dL_law_947 gL_arm ⟨by decide, by decide⟩ ⟨rfl, by decide +kernel⟩ ⟨rfl, rfl⟩ ⟨Nat.le_of_ble_eq_true rfl, Nat.le_of_ble_eq_true rfl⟩ ⟨hc.1, hc.2⟩ (K_L_arm (T_arm (PW_sim r.1).2.1 (ti_r _)) (fun z h2 q o2 e2 => Qs_n q e2) (fun E9 h2 q => Qs_x q)) rfl (by decide) (fun z5 h5 o5 u5 v5 q5 => ?_)
  obtain ⟨rfl, rfl, q5⟩ := q5
  refine lx_istore (pc := 950) dL_law_950 (by decide) rfl ?_
  refine lx_aload_n (pc := 952) dL_law_952 rfl rfl ?_
  refine lx_aload_n (pc := 953) dL_law_953 rfl rfl ?_
  refine lx_iload (pc := 954) dL_law_954 rfl ?_
  refine lx_iconst (pc := 956) dL_law_956 ?_
  refine lx_iadd (pc := 957) dL_law_957 ?_
  refine lx_sload (pc := 958) (by omega) (by omega) (by omega) dL_law_958 ?_
  refine lx_mv (pc := 959) (as := [.int (iI (xs (i + 1).toNat).toInt)]) (n := 1) (st := []) dL_law_959 zl_L_149 zc_X7_arm ⟨rfl, by decide +kernel⟩ ⟨rfl, rfl⟩ ⟨Nat.le_of_ble_eq_true rfl, Nat.le_of_ble_eq_true rfl⟩ (C_X7_arm (ti_r _)) rfl (fun _ => rfl) (by decide) ⟨hc.1, hc.2⟩ (fun z6 h6 u6 v6 q6 => ?_)
  obtain ⟨rfl, rfl⟩ := q6
  refine lx_istore (pc := 962) dL_law_962 (by decide) rfl ?_
  refine lx_aload_n (pc := 964) dL_law_964 rfl rfl ?_
  refine lx_mv (pc := 965) (as := []) (n := 0) (st := []) dL_law_965 zl_L_97 zc_X7_thrown ⟨rfl, by decide +kernel⟩ ⟨rfl, rfl⟩ ⟨Nat.le_of_ble_eq_true rfl, Nat.le_of_ble_eq_true rfl⟩ C_X7_thrown rfl (fun _ => rfl) (by decide) ⟨hc.1, hc.2⟩ (fun z7 h7 u7 v7 q7 => ?_)
  obtain ⟨rfl, rfl⟩ := q7
  have ag : AG T2 (m_arm hm (xs (i + 1).toNat).toInt) (X_arm hx (xs (i + 1).toNat).toInt) := REL_agm (B_arm r _) (by omega)
  refine lx_iload (pc := 968) dL_law_968 rfl ?_
  refine lx_icmp_eq (pc := 970) (tgt := 975) dL_law_970 (by decide) (fun _ => ⟨u7, v7⟩) (fun _ => ⟨u5, v5⟩) (fun c1 => ?_) (fun c1 => absurd ag.1 c1)
  refine lx_iload (pc := 975) dL_law_975 rfl ?_
  have fin := k _ _ o5 (c9 + 1) (s9 + 6) ag.2.2 (Nat.le_refl _) (Nat.le_refl _)
  refine lx_if_ne (pc := 977) (tgt := 992) dL_law_977 (by decide) (fun _ => ⟨u5, v5⟩) (fun c2 => ?_) (fun c2 => ?_)
  · skip
    refine lx_goto (pc := 992) (tgt := 1783) dL_law_992 (by decide) ?_
    exact lx_sub [true, true, true, true, true, false, false] fin
  · have c3 := c2
    refine lx_aload_n (pc := 980) dL_law_980 rfl rfl ?_
    refine lx_iconst (pc := 981) dL_law_981 ?_
    refine lx_laload (pc := 982) dL_law_982 ?_
    rw [q5 c3, ← ag.2.1 c3]
    refine lx_iload (pc := 983) dL_law_983 rfl ?_
    refine lx_i2l (pc := 985) dL_law_985 ⟨u6, v6⟩ ?_
    refine lx_lcmp (pc := 986) dL_law_986 (by omega) (by omega) ?_
    refine lx_if_eq (pc := 987) (tgt := 992) dL_law_987 (by decide) (fun _ => by unfold lc; split <;> (try split) <;> omega) (fun c4 => ?_) (fun c4 => absurd (lc_self _) c4)
    refine lx_goto (pc := 992) (tgt := 1783) dL_law_992 (by decide) ?_
    exact lx_sub [true, true, true, true, true, false, false] fin
set_option maxRecDepth 100000 in
theorem W_powerOff {tab : List ExceptionTableEntry} {L : Nat} {xs : Nat → Int32} {hx hm : zH} {o : Nat → Int64} {T T2 i : Int} {c9 s9 : Nat} {E : zF} (r : REL hm hx T) (hL : L ≤ 3072) (i0 : 0 ≤ i) (i1 : i + 6 ≤ (L : Int)) (hT : T + 60000 = T2) (hT2 : T2 ≤ 2147000000) (hc : c9 + 1 ≤ room_1.cells ∧ s9 + 6 ≤ room_1.slots) (k : lK tab L xs i c9 s9 T2 E) : lX (lGL L xs) tab RL cL_law 7 (some .boolean) room_1 c9 s9 995 (lLs i) [] hx hm o E := by
  unfold lLs
  unfold lK lLs at k
  refine lx_aload_n (pc := 995) dL_law_995 rfl rfl ?_
  refine lx_aload_n (pc := 996) dL_law_996 rfl rfl ?_
  refine lx_wrap (pc := 997) (as := [.ref 0, .ref 300]) (n := 2) (st := []) (Qw := Qs (X_powerOff hx )) (lGL_o L xs) dL_law_997 gL_powerOff ⟨by decide, by decide⟩ ⟨rfl, by decide +kernel⟩ ⟨rfl, rfl⟩ ⟨Nat.le_of_ble_eq_true rfl, Nat.le_of_ble_eq_true rfl⟩ ⟨hc.1, hc.2⟩ (K_L_powerOff (T_powerOff (PW_sim r.1).2.1) (fun z h2 q o2 e2 => Qs_n q e2) (fun E9 h2 q => Qs_x q)) rfl (by decide) (fun z5 h5 o5 u5 v5 q5 => ?_)
  obtain ⟨rfl, rfl, q5⟩ := q5
  refine lx_istore (pc := 1000) dL_law_1000 (by decide) rfl ?_
  refine lx_aload_n (pc := 1002) dL_law_1002 rfl rfl ?_
  refine lx_mv (pc := 1003) (as := []) (n := 0) (st := []) dL_law_1003 zl_L_152 zc_X7_powerOff ⟨rfl, by decide +kernel⟩ ⟨rfl, rfl⟩ ⟨Nat.le_of_ble_eq_true rfl, Nat.le_of_ble_eq_true rfl⟩ (C_X7_powerOff (PW_38 r.1).1 (PW_38 r.1).2) rfl (fun _ => rfl) (by decide) ⟨hc.1, hc.2⟩ (fun z6 h6 u6 v6 q6 => ?_)
  obtain ⟨rfl, rfl⟩ := q6
  refine lx_istore (pc := 1006) dL_law_1006 (by decide) rfl ?_
  refine lx_aload_n (pc := 1008) dL_law_1008 rfl rfl ?_
  refine lx_mv (pc := 1009) (as := []) (n := 0) (st := []) dL_law_1009 zl_L_97 zc_X7_thrown ⟨rfl, by decide +kernel⟩ ⟨rfl, rfl⟩ ⟨Nat.le_of_ble_eq_true rfl, Nat.le_of_ble_eq_true rfl⟩ C_X7_thrown rfl (fun _ => rfl) (by decide) ⟨hc.1, hc.2⟩ (fun z7 h7 u7 v7 q7 => ?_)
  obtain ⟨rfl, rfl⟩ := q7
  have ag : AG T2 (m_off hm) (X_powerOff hx ) := REL_agm (B_off r) (by omega)
  refine lx_iload (pc := 1012) dL_law_1012 rfl ?_
  refine lx_icmp_eq (pc := 1014) (tgt := 1019) dL_law_1014 (by decide) (fun _ => ⟨u7, v7⟩) (fun _ => ⟨u5, v5⟩) (fun c1 => ?_) (fun c1 => absurd ag.1 c1)
  refine lx_iload (pc := 1019) dL_law_1019 rfl ?_
  have fin := k _ _ o5 (c9 + 1) (s9 + 6) ag.2.2 (Nat.le_refl _) (Nat.le_refl _)
  refine lx_if_ne (pc := 1021) (tgt := 1036) dL_law_1021 (by decide) (fun _ => ⟨u5, v5⟩) (fun c2 => ?_) (fun c2 => ?_)
  · skip
    refine lx_goto (pc := 1036) (tgt := 1783) dL_law_1036 (by decide) ?_
    exact lx_sub [true, true, true, true, true, false, false] fin
  · have c3 := c2
    refine lx_aload_n (pc := 1024) dL_law_1024 rfl rfl ?_
    refine lx_iconst (pc := 1025) dL_law_1025 ?_
    refine lx_laload (pc := 1026) dL_law_1026 ?_
    rw [q5 c3, ← ag.2.1 c3]
    refine lx_iload (pc := 1027) dL_law_1027 rfl ?_
    refine lx_i2l (pc := 1029) dL_law_1029 ⟨u6, v6⟩ ?_
    refine lx_lcmp (pc := 1030) dL_law_1030 (by omega) (by omega) ?_
    refine lx_if_eq (pc := 1031) (tgt := 1036) dL_law_1031 (by decide) (fun _ => by unfold lc; split <;> (try split) <;> omega) (fun c4 => ?_) (fun c4 => absurd (lc_self _) c4)
    refine lx_goto (pc := 1036) (tgt := 1783) dL_law_1036 (by decide) ?_
    exact lx_sub [true, true, true, true, true, false, false] fin
set_option maxRecDepth 100000 in
theorem W_recover {tab : List ExceptionTableEntry} {L : Nat} {xs : Nat → Int32} {hx hm : zH} {o : Nat → Int64} {T T2 i : Int} {c9 s9 : Nat} {E : zF} (r : REL hm hx T) (hL : L ≤ 3072) (i0 : 0 ≤ i) (i1 : i + 6 ≤ (L : Int)) (hT : T + 60000 = T2) (hT2 : T2 ≤ 2147000000) (hc : c9 + 1 ≤ room_1.cells ∧ s9 + 6 ≤ room_1.slots) (k : lK tab L xs i c9 s9 T2 E) : lX (lGL L xs) tab RL cL_law 7 (some .boolean) room_1 c9 s9 1039 (lLs i) [] hx hm o E := by
  unfold lLs
  unfold lK lLs at k
  refine lx_aload_n (pc := 1039) dL_law_1039 rfl rfl ?_
  refine lx_aload_n (pc := 1040) dL_law_1040 rfl rfl ?_
  refine lx_wrap (pc := 1041) (as := [.ref 0, .ref 300]) (n := 2) (st := []) (Qw := Qr hx) (lGL_o L xs) dL_law_1041 gL_recover ⟨by decide, by decide⟩ ⟨rfl, by decide +kernel⟩ ⟨rfl, rfl⟩ ⟨Nat.le_of_ble_eq_true rfl, Nat.le_of_ble_eq_true rfl⟩ ⟨hc.1, hc.2⟩ (K_L_recover (T_recover (PW_sim r.1).2.1 (XM_of (PW_sim r.1))) (fun z h2 q o2 e2 => Qr_n q e2) (fun E9 h2 q => Qr_x q)) rfl (by decide) (fun z5 h5 o5 u5 v5 q5 => ?_)
  obtain ⟨sr, hs, rfl, rfl, q5⟩ := q5
  refine lx_istore (pc := 1044) dL_law_1044 (by decide) rfl ?_
  refine lx_aload_n (pc := 1046) dL_law_1046 rfl rfl ?_
  refine lx_mv (pc := 1047) (as := []) (n := 0) (st := []) dL_law_1047 zl_L_155 zc_X7_recover ⟨rfl, by decide +kernel⟩ ⟨rfl, rfl⟩ ⟨Nat.le_of_ble_eq_true rfl, Nat.le_of_ble_eq_true rfl⟩ (C_X7_recover (PW_sim r.1).2.2.1 (PW_38 r.1).1 (PW_38 r.1).2) rfl (fun _ => rfl) (by decide) ⟨hc.1, hc.2⟩ (fun z6 h6 u6 v6 q6 => ?_)
  obtain ⟨rfl, rfl⟩ := q6
  refine lx_istore (pc := 1050) dL_law_1050 (by decide) rfl ?_
  refine lx_aload_n (pc := 1052) dL_law_1052 rfl rfl ?_
  refine lx_mv (pc := 1053) (as := []) (n := 0) (st := []) dL_law_1053 zl_L_97 zc_X7_thrown ⟨rfl, by decide +kernel⟩ ⟨rfl, rfl⟩ ⟨Nat.le_of_ble_eq_true rfl, Nat.le_of_ble_eq_true rfl⟩ C_X7_thrown rfl (fun _ => rfl) (by decide) ⟨hc.1, hc.2⟩ (fun z7 h7 u7 v7 q7 => ?_)
  obtain ⟨rfl, rfl⟩ := q7
  have ag : AG T2 (m_rec hm) sr := REL_agm (B_recover r (by omega) hs) (by omega)
  refine lx_iload (pc := 1056) dL_law_1056 rfl ?_
  refine lx_icmp_eq (pc := 1058) (tgt := 1063) dL_law_1058 (by decide) (fun _ => ⟨u7, v7⟩) (fun _ => ⟨u5, v5⟩) (fun c1 => ?_) (fun c1 => absurd ag.1 c1)
  refine lx_iload (pc := 1063) dL_law_1063 rfl ?_
  have fin := k _ _ o5 (c9 + 1) (s9 + 6) ag.2.2 (Nat.le_refl _) (Nat.le_refl _)
  refine lx_if_ne (pc := 1065) (tgt := 1080) dL_law_1065 (by decide) (fun _ => ⟨u5, v5⟩) (fun c2 => ?_) (fun c2 => ?_)
  · skip
    refine lx_goto (pc := 1080) (tgt := 1783) dL_law_1080 (by decide) ?_
    exact lx_sub [true, true, true, true, true, false, false] fin
  · have c3 := c2
    refine lx_aload_n (pc := 1068) dL_law_1068 rfl rfl ?_
    refine lx_iconst (pc := 1069) dL_law_1069 ?_
    refine lx_laload (pc := 1070) dL_law_1070 ?_
    rw [q5 c3, ← ag.2.1 c3]
    refine lx_iload (pc := 1071) dL_law_1071 rfl ?_
    refine lx_i2l (pc := 1073) dL_law_1073 ⟨u6, v6⟩ ?_
    refine lx_lcmp (pc := 1074) dL_law_1074 (by omega) (by omega) ?_
    refine lx_if_eq (pc := 1075) (tgt := 1080) dL_law_1075 (by decide) (fun _ => by unfold lc; split <;> (try split) <;> omega) (fun c4 => ?_) (fun c4 => absurd (lc_self _) c4)
    refine lx_goto (pc := 1080) (tgt := 1783) dL_law_1080 (by decide) ?_
    exact lx_sub [true, true, true, true, true, false, false] fin
set_option maxRecDepth 100000 in
theorem W_version {tab : List ExceptionTableEntry} {L : Nat} {xs : Nat → Int32} {hx hm : zH} {o : Nat → Int64} {T T2 i : Int} {c9 s9 : Nat} {E : zF} (r : REL hm hx T) (hL : L ≤ 3072) (i0 : 0 ≤ i) (i1 : i + 6 ≤ (L : Int)) (hT : T + 60000 = T2) (hT2 : T2 ≤ 2147000000) (hc : c9 + 1 ≤ room_1.cells ∧ s9 + 6 ≤ room_1.slots) (k : lK tab L xs i c9 s9 T2 E) : lX (lGL L xs) tab RL cL_law 7 (some .boolean) room_1 c9 s9 1122 (lLs i) [] hx hm o E := by
  unfold lLs
  unfold lK lLs at k
  refine lx_aload_n (pc := 1122) dL_law_1122 rfl rfl ?_
  refine lx_aload_n (pc := 1123) dL_law_1123 rfl rfl ?_
  refine lx_iload (pc := 1124) dL_law_1124 rfl ?_
  refine lx_iconst (pc := 1126) dL_law_1126 ?_
  refine lx_iadd (pc := 1127) dL_law_1127 ?_
  refine lx_sload (pc := 1128) (by omega) (by omega) (by omega) dL_law_1128 ?_
  refine lx_aload_n (pc := 1129) dL_law_1129 rfl rfl ?_
  refine lx_wrap (pc := 1130) (as := [.ref 0, .int (iI (xs (i + 1).toNat).toInt), .ref 300]) (n := 3) (st := []) (Qw := Qs (X_version hx (xs (i + 1).toNat).toInt)) (lGL_o L xs) dL_law_1130 gL_version ⟨by decide, by decide⟩ ⟨rfl, by decide +kernel⟩ ⟨rfl, rfl⟩ ⟨Nat.le_of_ble_eq_true rfl, Nat.le_of_ble_eq_true rfl⟩ ⟨hc.1, hc.2⟩ (K_L_version (T_version (PW_sim r.1).2.1 (ti_r _)) (fun z h2 q o2 e2 => Qs_n q e2) (fun E9 h2 q => Qs_x q)) rfl (by decide) (fun z5 h5 o5 u5 v5 q5 => ?_)
  obtain ⟨rfl, rfl, q5⟩ := q5
  refine lx_istore (pc := 1133) dL_law_1133 (by decide) rfl ?_
  refine lx_aload_n (pc := 1135) dL_law_1135 rfl rfl ?_
  refine lx_aload_n (pc := 1136) dL_law_1136 rfl rfl ?_
  refine lx_iload (pc := 1137) dL_law_1137 rfl ?_
  refine lx_iconst (pc := 1139) dL_law_1139 ?_
  refine lx_iadd (pc := 1140) dL_law_1140 ?_
  refine lx_sload (pc := 1141) (by omega) (by omega) (by omega) dL_law_1141 ?_
  refine lx_mv (pc := 1142) (as := [.int (iI (xs (i + 1).toNat).toInt)]) (n := 1) (st := []) dL_law_1142 zl_L_170 zc_X7_version ⟨rfl, by decide +kernel⟩ ⟨rfl, rfl⟩ ⟨Nat.le_of_ble_eq_true rfl, Nat.le_of_ble_eq_true rfl⟩ (C_X7_version (PW_sim r.1).2.2.1.1 (ti_r _)) rfl (fun _ => rfl) (by decide) ⟨hc.1, hc.2⟩ (fun z6 h6 u6 v6 q6 => ?_)
  obtain ⟨rfl, rfl⟩ := q6
  refine lx_istore (pc := 1145) dL_law_1145 (by decide) rfl ?_
  refine lx_aload_n (pc := 1147) dL_law_1147 rfl rfl ?_
  refine lx_mv (pc := 1148) (as := []) (n := 0) (st := []) dL_law_1148 zl_L_97 zc_X7_thrown ⟨rfl, by decide +kernel⟩ ⟨rfl, rfl⟩ ⟨Nat.le_of_ble_eq_true rfl, Nat.le_of_ble_eq_true rfl⟩ C_X7_thrown rfl (fun _ => rfl) (by decide) ⟨hc.1, hc.2⟩ (fun z7 h7 u7 v7 q7 => ?_)
  obtain ⟨rfl, rfl⟩ := q7
  have ag : AG T2 (m_q hm (mLg hm ((xs (i + 1).toNat).toInt)) (ifp (gs hm 26 = 0) (-1) (ga hm 10 ((xs (i + 1).toNat).toInt)))) (X_version hx (xs (i + 1).toNat).toInt) := REL_agm (B_version r _) (by omega)
  refine lx_iload (pc := 1151) dL_law_1151 rfl ?_
  refine lx_icmp_eq (pc := 1153) (tgt := 1158) dL_law_1153 (by decide) (fun _ => ⟨u7, v7⟩) (fun _ => ⟨u5, v5⟩) (fun c1 => ?_) (fun c1 => absurd ag.1 c1)
  refine lx_iload (pc := 1158) dL_law_1158 rfl ?_
  have fin := k _ _ o5 (c9 + 1) (s9 + 6) ag.2.2 (Nat.le_refl _) (Nat.le_refl _)
  refine lx_if_ne (pc := 1160) (tgt := 1175) dL_law_1160 (by decide) (fun _ => ⟨u5, v5⟩) (fun c2 => ?_) (fun c2 => ?_)
  · skip
    refine lx_goto (pc := 1175) (tgt := 1783) dL_law_1175 (by decide) ?_
    exact lx_sub [true, true, true, true, true, false, false] fin
  · have c3 := c2
    refine lx_aload_n (pc := 1163) dL_law_1163 rfl rfl ?_
    refine lx_iconst (pc := 1164) dL_law_1164 ?_
    refine lx_laload (pc := 1165) dL_law_1165 ?_
    rw [q5 c3, ← ag.2.1 c3]
    refine lx_iload (pc := 1166) dL_law_1166 rfl ?_
    refine lx_i2l (pc := 1168) dL_law_1168 ⟨u6, v6⟩ ?_
    refine lx_lcmp (pc := 1169) dL_law_1169 (by omega) (by omega) ?_
    refine lx_if_eq (pc := 1170) (tgt := 1175) dL_law_1170 (by decide) (fun _ => by unfold lc; split <;> (try split) <;> omega) (fun c4 => ?_) (fun c4 => absurd (lc_self _) c4)
    refine lx_goto (pc := 1175) (tgt := 1783) dL_law_1175 (by decide) ?_
    exact lx_sub [true, true, true, true, true, false, false] fin
set_option maxRecDepth 100000 in
theorem W_place {tab : List ExceptionTableEntry} {L : Nat} {xs : Nat → Int32} {hx hm : zH} {o : Nat → Int64} {T T2 i : Int} {c9 s9 : Nat} {E : zF} (r : REL hm hx T) (hL : L ≤ 3072) (i0 : 0 ≤ i) (i1 : i + 6 ≤ (L : Int)) (hT : T + 60000 = T2) (hT2 : T2 ≤ 2147000000) (hc : c9 + 1 ≤ room_1.cells ∧ s9 + 6 ≤ room_1.slots) (k : lK tab L xs i c9 s9 T2 E) : lX (lGL L xs) tab RL cL_law 7 (some .boolean) room_1 c9 s9 1178 (lLs i) [] hx hm o E := by
  unfold lLs
  unfold lK lLs at k
  refine lx_aload_n (pc := 1178) dL_law_1178 rfl rfl ?_
  refine lx_aload_n (pc := 1179) dL_law_1179 rfl rfl ?_
  refine lx_iload (pc := 1180) dL_law_1180 rfl ?_
  refine lx_iconst (pc := 1182) dL_law_1182 ?_
  refine lx_iadd (pc := 1183) dL_law_1183 ?_
  refine lx_sload (pc := 1184) (by omega) (by omega) (by omega) dL_law_1184 ?_
  refine lx_aload_n (pc := 1185) dL_law_1185 rfl rfl ?_
  refine lx_wrap (pc := 1186) (as := [.ref 0, .int (iI (xs (i + 1).toNat).toInt), .ref 300]) (n := 3) (st := []) (Qw := Qs (X_place hx (xs (i + 1).toNat).toInt)) (lGL_o L xs) dL_law_1186 gL_place ⟨by decide, by decide⟩ ⟨rfl, by decide +kernel⟩ ⟨rfl, rfl⟩ ⟨Nat.le_of_ble_eq_true rfl, Nat.le_of_ble_eq_true rfl⟩ ⟨hc.1, hc.2⟩ (K_L_place (T_place (PW_sim r.1).2.1 (ti_r _)) (fun z h2 q o2 e2 => Qs_n q e2) (fun E9 h2 q => Qs_x q)) rfl (by decide) (fun z5 h5 o5 u5 v5 q5 => ?_)
  obtain ⟨rfl, rfl, q5⟩ := q5
  refine lx_istore (pc := 1189) dL_law_1189 (by decide) rfl ?_
  refine lx_aload_n (pc := 1191) dL_law_1191 rfl rfl ?_
  refine lx_aload_n (pc := 1192) dL_law_1192 rfl rfl ?_
  refine lx_iload (pc := 1193) dL_law_1193 rfl ?_
  refine lx_iconst (pc := 1195) dL_law_1195 ?_
  refine lx_iadd (pc := 1196) dL_law_1196 ?_
  refine lx_sload (pc := 1197) (by omega) (by omega) (by omega) dL_law_1197 ?_
  refine lx_mv (pc := 1198) (as := [.int (iI (xs (i + 1).toNat).toInt)]) (n := 1) (st := []) dL_law_1198 zl_L_173 zc_X7_place ⟨rfl, by decide +kernel⟩ ⟨rfl, rfl⟩ ⟨Nat.le_of_ble_eq_true rfl, Nat.le_of_ble_eq_true rfl⟩ (C_X7_place (PW_sim r.1).2.2.1.1 (ti_r _)) rfl (fun _ => rfl) (by decide) ⟨hc.1, hc.2⟩ (fun z6 h6 u6 v6 q6 => ?_)
  obtain ⟨rfl, rfl⟩ := q6
  refine lx_istore (pc := 1201) dL_law_1201 (by decide) rfl ?_
  refine lx_aload_n (pc := 1203) dL_law_1203 rfl rfl ?_
  refine lx_mv (pc := 1204) (as := []) (n := 0) (st := []) dL_law_1204 zl_L_97 zc_X7_thrown ⟨rfl, by decide +kernel⟩ ⟨rfl, rfl⟩ ⟨Nat.le_of_ble_eq_true rfl, Nat.le_of_ble_eq_true rfl⟩ C_X7_thrown rfl (fun _ => rfl) (by decide) ⟨hc.1, hc.2⟩ (fun z7 h7 u7 v7 q7 => ?_)
  obtain ⟨rfl, rfl⟩ := q7
  have ag : AG T2 (m_q hm (mLg hm ((xs (i + 1).toNat).toInt)) (m_place hm ((xs (i + 1).toNat).toInt))) (X_place hx (xs (i + 1).toNat).toInt) := REL_agm (B_place r _) (by omega)
  refine lx_iload (pc := 1207) dL_law_1207 rfl ?_
  refine lx_icmp_eq (pc := 1209) (tgt := 1214) dL_law_1209 (by decide) (fun _ => ⟨u7, v7⟩) (fun _ => ⟨u5, v5⟩) (fun c1 => ?_) (fun c1 => absurd ag.1 c1)
  refine lx_iload (pc := 1214) dL_law_1214 rfl ?_
  have fin := k _ _ o5 (c9 + 1) (s9 + 6) ag.2.2 (Nat.le_refl _) (Nat.le_refl _)
  refine lx_if_ne (pc := 1216) (tgt := 1231) dL_law_1216 (by decide) (fun _ => ⟨u5, v5⟩) (fun c2 => ?_) (fun c2 => ?_)
  · skip
    refine lx_goto (pc := 1231) (tgt := 1783) dL_law_1231 (by decide) ?_
    exact lx_sub [true, true, true, true, true, false, false] fin
  · have c3 := c2
    refine lx_aload_n (pc := 1219) dL_law_1219 rfl rfl ?_
    refine lx_iconst (pc := 1220) dL_law_1220 ?_
    refine lx_laload (pc := 1221) dL_law_1221 ?_
    rw [q5 c3, ← ag.2.1 c3]
    refine lx_iload (pc := 1222) dL_law_1222 rfl ?_
    refine lx_i2l (pc := 1224) dL_law_1224 ⟨u6, v6⟩ ?_
    refine lx_lcmp (pc := 1225) dL_law_1225 (by omega) (by omega) ?_
    refine lx_if_eq (pc := 1226) (tgt := 1231) dL_law_1226 (by decide) (fun _ => by unfold lc; split <;> (try split) <;> omega) (fun c4 => ?_) (fun c4 => absurd (lc_self _) c4)
    refine lx_goto (pc := 1231) (tgt := 1783) dL_law_1231 (by decide) ?_
    exact lx_sub [true, true, true, true, true, false, false] fin
set_option maxRecDepth 100000 in
theorem W_lockedBy {tab : List ExceptionTableEntry} {L : Nat} {xs : Nat → Int32} {hx hm : zH} {o : Nat → Int64} {T T2 i : Int} {c9 s9 : Nat} {E : zF} (r : REL hm hx T) (hL : L ≤ 3072) (i0 : 0 ≤ i) (i1 : i + 6 ≤ (L : Int)) (hT : T + 60000 = T2) (hT2 : T2 ≤ 2147000000) (hc : c9 + 1 ≤ room_1.cells ∧ s9 + 6 ≤ room_1.slots) (k : lK tab L xs i c9 s9 T2 E) : lX (lGL L xs) tab RL cL_law 7 (some .boolean) room_1 c9 s9 1234 (lLs i) [] hx hm o E := by
  unfold lLs
  unfold lK lLs at k
  refine lx_aload_n (pc := 1234) dL_law_1234 rfl rfl ?_
  refine lx_aload_n (pc := 1235) dL_law_1235 rfl rfl ?_
  refine lx_iload (pc := 1236) dL_law_1236 rfl ?_
  refine lx_iconst (pc := 1238) dL_law_1238 ?_
  refine lx_iadd (pc := 1239) dL_law_1239 ?_
  refine lx_sload (pc := 1240) (by omega) (by omega) (by omega) dL_law_1240 ?_
  refine lx_aload_n (pc := 1241) dL_law_1241 rfl rfl ?_
  refine lx_wrap (pc := 1242) (as := [.ref 0, .int (iI (xs (i + 1).toNat).toInt), .ref 300]) (n := 3) (st := []) (Qw := Qs (X_lockedBy hx (xs (i + 1).toNat).toInt)) (lGL_o L xs) dL_law_1242 gL_lockedBy ⟨by decide, by decide⟩ ⟨rfl, by decide +kernel⟩ ⟨rfl, rfl⟩ ⟨Nat.le_of_ble_eq_true rfl, Nat.le_of_ble_eq_true rfl⟩ ⟨hc.1, hc.2⟩ (K_L_lockedBy (T_lockedBy (PW_sim r.1).2.1 (ti_r _)) (fun z h2 q o2 e2 => Qs_n q e2) (fun E9 h2 q => Qs_x q)) rfl (by decide) (fun z5 h5 o5 u5 v5 q5 => ?_)
  obtain ⟨rfl, rfl, q5⟩ := q5
  refine lx_istore (pc := 1245) dL_law_1245 (by decide) rfl ?_
  refine lx_aload_n (pc := 1247) dL_law_1247 rfl rfl ?_
  refine lx_aload_n (pc := 1248) dL_law_1248 rfl rfl ?_
  refine lx_iload (pc := 1249) dL_law_1249 rfl ?_
  refine lx_iconst (pc := 1251) dL_law_1251 ?_
  refine lx_iadd (pc := 1252) dL_law_1252 ?_
  refine lx_sload (pc := 1253) (by omega) (by omega) (by omega) dL_law_1253 ?_
  refine lx_mv (pc := 1254) (as := [.int (iI (xs (i + 1).toNat).toInt)]) (n := 1) (st := []) dL_law_1254 zl_L_176 zc_X7_lockedBy ⟨rfl, by decide +kernel⟩ ⟨rfl, rfl⟩ ⟨Nat.le_of_ble_eq_true rfl, Nat.le_of_ble_eq_true rfl⟩ (C_X7_lockedBy (PW_sim r.1).2.2.1.1 (ti_r _)) rfl (fun _ => rfl) (by decide) ⟨hc.1, hc.2⟩ (fun z6 h6 u6 v6 q6 => ?_)
  obtain ⟨rfl, rfl⟩ := q6
  refine lx_istore (pc := 1257) dL_law_1257 (by decide) rfl ?_
  refine lx_aload_n (pc := 1259) dL_law_1259 rfl rfl ?_
  refine lx_mv (pc := 1260) (as := []) (n := 0) (st := []) dL_law_1260 zl_L_97 zc_X7_thrown ⟨rfl, by decide +kernel⟩ ⟨rfl, rfl⟩ ⟨Nat.le_of_ble_eq_true rfl, Nat.le_of_ble_eq_true rfl⟩ C_X7_thrown rfl (fun _ => rfl) (by decide) ⟨hc.1, hc.2⟩ (fun z7 h7 u7 v7 q7 => ?_)
  obtain ⟨rfl, rfl⟩ := q7
  have ag : AG T2 (m_q hm (mLg hm ((xs (i + 1).toNat).toInt)) (ga hm 11 ((xs (i + 1).toNat).toInt))) (X_lockedBy hx (xs (i + 1).toNat).toInt) := REL_agm (B_lockedBy r _) (by omega)
  refine lx_iload (pc := 1263) dL_law_1263 rfl ?_
  refine lx_icmp_eq (pc := 1265) (tgt := 1270) dL_law_1265 (by decide) (fun _ => ⟨u7, v7⟩) (fun _ => ⟨u5, v5⟩) (fun c1 => ?_) (fun c1 => absurd ag.1 c1)
  refine lx_iload (pc := 1270) dL_law_1270 rfl ?_
  have fin := k _ _ o5 (c9 + 1) (s9 + 6) ag.2.2 (Nat.le_refl _) (Nat.le_refl _)
  refine lx_if_ne (pc := 1272) (tgt := 1287) dL_law_1272 (by decide) (fun _ => ⟨u5, v5⟩) (fun c2 => ?_) (fun c2 => ?_)
  · skip
    refine lx_goto (pc := 1287) (tgt := 1783) dL_law_1287 (by decide) ?_
    exact lx_sub [true, true, true, true, true, false, false] fin
  · have c3 := c2
    refine lx_aload_n (pc := 1275) dL_law_1275 rfl rfl ?_
    refine lx_iconst (pc := 1276) dL_law_1276 ?_
    refine lx_laload (pc := 1277) dL_law_1277 ?_
    rw [q5 c3, ← ag.2.1 c3]
    refine lx_iload (pc := 1278) dL_law_1278 rfl ?_
    refine lx_i2l (pc := 1280) dL_law_1280 ⟨u6, v6⟩ ?_
    refine lx_lcmp (pc := 1281) dL_law_1281 (by omega) (by omega) ?_
    refine lx_if_eq (pc := 1282) (tgt := 1287) dL_law_1282 (by decide) (fun _ => by unfold lc; split <;> (try split) <;> omega) (fun c4 => ?_) (fun c4 => absurd (lc_self _) c4)
    refine lx_goto (pc := 1287) (tgt := 1783) dL_law_1287 (by decide) ?_
    exact lx_sub [true, true, true, true, true, false, false] fin
set_option maxRecDepth 100000 in
theorem W_state {tab : List ExceptionTableEntry} {L : Nat} {xs : Nat → Int32} {hx hm : zH} {o : Nat → Int64} {T T2 i : Int} {c9 s9 : Nat} {E : zF} (r : REL hm hx T) (hL : L ≤ 3072) (i0 : 0 ≤ i) (i1 : i + 6 ≤ (L : Int)) (hT : T + 60000 = T2) (hT2 : T2 ≤ 2147000000) (hc : c9 + 1 ≤ room_1.cells ∧ s9 + 6 ≤ room_1.slots) (k : lK tab L xs i c9 s9 T2 E) : lX (lGL L xs) tab RL cL_law 7 (some .boolean) room_1 c9 s9 1303 (lLs i) [] hx hm o E := by
  unfold lLs
  unfold lK lLs at k
  refine lx_aload_n (pc := 1303) dL_law_1303 rfl rfl ?_
  refine lx_aload_n (pc := 1304) dL_law_1304 rfl rfl ?_
  refine lx_iload (pc := 1305) dL_law_1305 rfl ?_
  refine lx_iconst (pc := 1307) dL_law_1307 ?_
  refine lx_iadd (pc := 1308) dL_law_1308 ?_
  refine lx_sload (pc := 1309) (by omega) (by omega) (by omega) dL_law_1309 ?_
  refine lx_aload_n (pc := 1310) dL_law_1310 rfl rfl ?_
  refine lx_wrap (pc := 1311) (as := [.ref 0, .int (iI (xs (i + 1).toNat).toInt), .ref 300]) (n := 3) (st := []) (Qw := Qs (X_state hx (xs (i + 1).toNat).toInt)) (lGL_o L xs) dL_law_1311 gL_state ⟨by decide, by decide⟩ ⟨rfl, by decide +kernel⟩ ⟨rfl, rfl⟩ ⟨Nat.le_of_ble_eq_true rfl, Nat.le_of_ble_eq_true rfl⟩ ⟨hc.1, hc.2⟩ (K_L_state (T_state (PW_sim r.1).2.1 (ti_r _)) (fun z h2 q o2 e2 => Qs_n q e2) (fun E9 h2 q => Qs_x q)) rfl (by decide) (fun z5 h5 o5 u5 v5 q5 => ?_)
  obtain ⟨rfl, rfl, q5⟩ := q5
  refine lx_istore (pc := 1314) dL_law_1314 (by decide) rfl ?_
  refine lx_aload_n (pc := 1316) dL_law_1316 rfl rfl ?_
  refine lx_aload_n (pc := 1317) dL_law_1317 rfl rfl ?_
  refine lx_iload (pc := 1318) dL_law_1318 rfl ?_
  refine lx_iconst (pc := 1320) dL_law_1320 ?_
  refine lx_iadd (pc := 1321) dL_law_1321 ?_
  refine lx_sload (pc := 1322) (by omega) (by omega) (by omega) dL_law_1322 ?_
  refine lx_mv (pc := 1323) (as := [.int (iI (xs (i + 1).toNat).toInt)]) (n := 1) (st := []) dL_law_1323 zl_L_183 zc_X7_state ⟨rfl, by decide +kernel⟩ ⟨rfl, rfl⟩ ⟨Nat.le_of_ble_eq_true rfl, Nat.le_of_ble_eq_true rfl⟩ (C_X7_state (PW_38 r.1).2 (ti_r _)) rfl (fun _ => rfl) (by decide) ⟨hc.1, hc.2⟩ (fun z6 h6 u6 v6 q6 => ?_)
  obtain ⟨rfl, rfl⟩ := q6
  refine lx_istore (pc := 1326) dL_law_1326 (by decide) rfl ?_
  refine lx_aload_n (pc := 1328) dL_law_1328 rfl rfl ?_
  refine lx_mv (pc := 1329) (as := []) (n := 0) (st := []) dL_law_1329 zl_L_97 zc_X7_thrown ⟨rfl, by decide +kernel⟩ ⟨rfl, rfl⟩ ⟨Nat.le_of_ble_eq_true rfl, Nat.le_of_ble_eq_true rfl⟩ C_X7_thrown rfl (fun _ => rfl) (by decide) ⟨hc.1, hc.2⟩ (fun z7 h7 u7 v7 q7 => ?_)
  obtain ⟨rfl, rfl⟩ := q7
  have ag : AG T2 (m_q hm (mTx hm ((xs (i + 1).toNat).toInt)) (ga hm 15 ((xs (i + 1).toNat).toInt))) (X_state hx (xs (i + 1).toNat).toInt) := REL_agm (B_state r _) (by omega)
  refine lx_iload (pc := 1332) dL_law_1332 rfl ?_
  refine lx_icmp_eq (pc := 1334) (tgt := 1339) dL_law_1334 (by decide) (fun _ => ⟨u7, v7⟩) (fun _ => ⟨u5, v5⟩) (fun c1 => ?_) (fun c1 => absurd ag.1 c1)
  refine lx_iload (pc := 1339) dL_law_1339 rfl ?_
  have fin := k _ _ o5 (c9 + 1) (s9 + 6) ag.2.2 (Nat.le_refl _) (Nat.le_refl _)
  refine lx_if_ne (pc := 1341) (tgt := 1356) dL_law_1341 (by decide) (fun _ => ⟨u5, v5⟩) (fun c2 => ?_) (fun c2 => ?_)
  · skip
    refine lx_goto (pc := 1356) (tgt := 1783) dL_law_1356 (by decide) ?_
    exact lx_sub [true, true, true, true, true, false, false] fin
  · have c3 := c2
    refine lx_aload_n (pc := 1344) dL_law_1344 rfl rfl ?_
    refine lx_iconst (pc := 1345) dL_law_1345 ?_
    refine lx_laload (pc := 1346) dL_law_1346 ?_
    rw [q5 c3, ← ag.2.1 c3]
    refine lx_iload (pc := 1347) dL_law_1347 rfl ?_
    refine lx_i2l (pc := 1349) dL_law_1349 ⟨u6, v6⟩ ?_
    refine lx_lcmp (pc := 1350) dL_law_1350 (by omega) (by omega) ?_
    refine lx_if_eq (pc := 1351) (tgt := 1356) dL_law_1351 (by decide) (fun _ => by unfold lc; split <;> (try split) <;> omega) (fun c4 => ?_) (fun c4 => absurd (lc_self _) c4)
    refine lx_goto (pc := 1356) (tgt := 1783) dL_law_1356 (by decide) ?_
    exact lx_sub [true, true, true, true, true, false, false] fin
set_option maxRecDepth 100000 in
theorem W_locks {tab : List ExceptionTableEntry} {L : Nat} {xs : Nat → Int32} {hx hm : zH} {o : Nat → Int64} {T T2 i : Int} {c9 s9 : Nat} {E : zF} (r : REL hm hx T) (hL : L ≤ 3072) (i0 : 0 ≤ i) (i1 : i + 6 ≤ (L : Int)) (hT : T + 60000 = T2) (hT2 : T2 ≤ 2147000000) (hc : c9 + 1 ≤ room_1.cells ∧ s9 + 6 ≤ room_1.slots) (k : lK tab L xs i c9 s9 T2 E) : lX (lGL L xs) tab RL cL_law 7 (some .boolean) room_1 c9 s9 1359 (lLs i) [] hx hm o E := by
  unfold lLs
  unfold lK lLs at k
  refine lx_aload_n (pc := 1359) dL_law_1359 rfl rfl ?_
  refine lx_aload_n (pc := 1360) dL_law_1360 rfl rfl ?_
  refine lx_iload (pc := 1361) dL_law_1361 rfl ?_
  refine lx_iconst (pc := 1363) dL_law_1363 ?_
  refine lx_iadd (pc := 1364) dL_law_1364 ?_
  refine lx_sload (pc := 1365) (by omega) (by omega) (by omega) dL_law_1365 ?_
  refine lx_aload_n (pc := 1366) dL_law_1366 rfl rfl ?_
  refine lx_wrap (pc := 1367) (as := [.ref 0, .int (iI (xs (i + 1).toNat).toInt), .ref 300]) (n := 3) (st := []) (Qw := Qs (X_locks hx (xs (i + 1).toNat).toInt)) (lGL_o L xs) dL_law_1367 gL_locks ⟨by decide, by decide⟩ ⟨rfl, by decide +kernel⟩ ⟨rfl, rfl⟩ ⟨Nat.le_of_ble_eq_true rfl, Nat.le_of_ble_eq_true rfl⟩ ⟨hc.1, hc.2⟩ (K_L_locks (T_locks (PW_sim r.1).2.1 (ti_r _)) (fun z h2 q o2 e2 => Qs_n q e2) (fun E9 h2 q => Qs_x q)) rfl (by decide) (fun z5 h5 o5 u5 v5 q5 => ?_)
  obtain ⟨rfl, rfl, q5⟩ := q5
  refine lx_istore (pc := 1370) dL_law_1370 (by decide) rfl ?_
  refine lx_aload_n (pc := 1372) dL_law_1372 rfl rfl ?_
  refine lx_aload_n (pc := 1373) dL_law_1373 rfl rfl ?_
  refine lx_iload (pc := 1374) dL_law_1374 rfl ?_
  refine lx_iconst (pc := 1376) dL_law_1376 ?_
  refine lx_iadd (pc := 1377) dL_law_1377 ?_
  refine lx_sload (pc := 1378) (by omega) (by omega) (by omega) dL_law_1378 ?_
  refine lx_mv (pc := 1379) (as := [.int (iI (xs (i + 1).toNat).toInt)]) (n := 1) (st := []) dL_law_1379 zl_L_186 zc_X7_locks ⟨rfl, by decide +kernel⟩ ⟨rfl, rfl⟩ ⟨Nat.le_of_ble_eq_true rfl, Nat.le_of_ble_eq_true rfl⟩ (C_X7_locks (PW_sim r.1).2.2.1.1 (ti_r _)) rfl (fun _ => rfl) (by decide) ⟨hc.1, hc.2⟩ (fun z6 h6 u6 v6 q6 => ?_)
  obtain ⟨rfl, rfl⟩ := q6
  refine lx_istore (pc := 1382) dL_law_1382 (by decide) rfl ?_
  refine lx_aload_n (pc := 1384) dL_law_1384 rfl rfl ?_
  refine lx_mv (pc := 1385) (as := []) (n := 0) (st := []) dL_law_1385 zl_L_97 zc_X7_thrown ⟨rfl, by decide +kernel⟩ ⟨rfl, rfl⟩ ⟨Nat.le_of_ble_eq_true rfl, Nat.le_of_ble_eq_true rfl⟩ C_X7_thrown rfl (fun _ => rfl) (by decide) ⟨hc.1, hc.2⟩ (fun z7 h7 u7 v7 q7 => ?_)
  obtain ⟨rfl, rfl⟩ := q7
  have ag : AG T2 (m_q hm (mTx hm ((xs (i + 1).toNat).toInt)) (mLocks hm ((xs (i + 1).toNat).toInt))) (X_locks hx (xs (i + 1).toNat).toInt) := REL_agm (B_locks r _) (by omega)
  refine lx_iload (pc := 1388) dL_law_1388 rfl ?_
  refine lx_icmp_eq (pc := 1390) (tgt := 1395) dL_law_1390 (by decide) (fun _ => ⟨u7, v7⟩) (fun _ => ⟨u5, v5⟩) (fun c1 => ?_) (fun c1 => absurd ag.1 c1)
  refine lx_iload (pc := 1395) dL_law_1395 rfl ?_
  have fin := k _ _ o5 (c9 + 1) (s9 + 6) ag.2.2 (Nat.le_refl _) (Nat.le_refl _)
  refine lx_if_ne (pc := 1397) (tgt := 1412) dL_law_1397 (by decide) (fun _ => ⟨u5, v5⟩) (fun c2 => ?_) (fun c2 => ?_)
  · skip
    refine lx_goto (pc := 1412) (tgt := 1783) dL_law_1412 (by decide) ?_
    exact lx_sub [true, true, true, true, true, false, false] fin
  · have c3 := c2
    refine lx_aload_n (pc := 1400) dL_law_1400 rfl rfl ?_
    refine lx_iconst (pc := 1401) dL_law_1401 ?_
    refine lx_laload (pc := 1402) dL_law_1402 ?_
    rw [q5 c3, ← ag.2.1 c3]
    refine lx_iload (pc := 1403) dL_law_1403 rfl ?_
    refine lx_i2l (pc := 1405) dL_law_1405 ⟨u6, v6⟩ ?_
    refine lx_lcmp (pc := 1406) dL_law_1406 (by omega) (by omega) ?_
    refine lx_if_eq (pc := 1407) (tgt := 1412) dL_law_1407 (by decide) (fun _ => by unfold lc; split <;> (try split) <;> omega) (fun c4 => ?_) (fun c4 => absurd (lc_self _) c4)
    refine lx_goto (pc := 1412) (tgt := 1783) dL_law_1412 (by decide) ?_
    exact lx_sub [true, true, true, true, true, false, false] fin
set_option maxRecDepth 100000 in
theorem W_block {tab : List ExceptionTableEntry} {L : Nat} {xs : Nat → Int32} {hx hm : zH} {o : Nat → Int64} {T T2 i : Int} {c9 s9 : Nat} {E : zF} (r : REL hm hx T) (hL : L ≤ 3072) (i0 : 0 ≤ i) (i1 : i + 6 ≤ (L : Int)) (hT : T + 60000 = T2) (hT2 : T2 ≤ 2147000000) (hc : c9 + 1 ≤ room_1.cells ∧ s9 + 6 ≤ room_1.slots) (k : lK tab L xs i c9 s9 T2 E) : lX (lGL L xs) tab RL cL_law 7 (some .boolean) room_1 c9 s9 1467 (lLs i) [] hx hm o E := by
  unfold lLs
  unfold lK lLs at k
  refine lx_aload_n (pc := 1467) dL_law_1467 rfl rfl ?_
  refine lx_aload_n (pc := 1468) dL_law_1468 rfl rfl ?_
  refine lx_iload (pc := 1469) dL_law_1469 rfl ?_
  refine lx_iconst (pc := 1471) dL_law_1471 ?_
  refine lx_iadd (pc := 1472) dL_law_1472 ?_
  refine lx_sload (pc := 1473) (by omega) (by omega) (by omega) dL_law_1473 ?_
  refine lx_aload_n (pc := 1474) dL_law_1474 rfl rfl ?_
  refine lx_iload (pc := 1475) dL_law_1475 rfl ?_
  refine lx_iconst (pc := 1477) dL_law_1477 ?_
  refine lx_iadd (pc := 1478) dL_law_1478 ?_
  refine lx_sload (pc := 1479) (by omega) (by omega) (by omega) dL_law_1479 ?_
  refine lx_aload_n (pc := 1480) dL_law_1480 rfl rfl ?_
  refine lx_wrap (pc := 1481) (as := [.ref 0, .int (iI (xs (i + 1).toNat).toInt), .int (iI (xs (i + 2).toNat).toInt), .ref 300]) (n := 4) (st := []) (Qw := Qs (X_block hx (xs (i + 1).toNat).toInt (xs (i + 2).toNat).toInt)) (lGL_o L xs) dL_law_1481 gL_block ⟨by decide, by decide⟩ ⟨rfl, by decide +kernel⟩ ⟨rfl, rfl⟩ ⟨Nat.le_of_ble_eq_true rfl, Nat.le_of_ble_eq_true rfl⟩ ⟨hc.1, hc.2⟩ (K_L_block (T_block (PW_sim r.1).2.1 (ti_r _) (ti_r _)) (fun z h2 q o2 e2 => Qs_n q e2) (fun E9 h2 q => Qs_x q)) rfl (by decide) (fun z5 h5 o5 u5 v5 q5 => ?_)
  obtain ⟨rfl, rfl, q5⟩ := q5
  refine lx_istore (pc := 1484) dL_law_1484 (by decide) rfl ?_
  refine lx_aload_n (pc := 1486) dL_law_1486 rfl rfl ?_
  refine lx_aload_n (pc := 1487) dL_law_1487 rfl rfl ?_
  refine lx_iload (pc := 1488) dL_law_1488 rfl ?_
  refine lx_iconst (pc := 1490) dL_law_1490 ?_
  refine lx_iadd (pc := 1491) dL_law_1491 ?_
  refine lx_sload (pc := 1492) (by omega) (by omega) (by omega) dL_law_1492 ?_
  refine lx_aload_n (pc := 1493) dL_law_1493 rfl rfl ?_
  refine lx_iload (pc := 1494) dL_law_1494 rfl ?_
  refine lx_iconst (pc := 1496) dL_law_1496 ?_
  refine lx_iadd (pc := 1497) dL_law_1497 ?_
  refine lx_sload (pc := 1498) (by omega) (by omega) (by omega) dL_law_1498 ?_
  refine lx_mv (pc := 1499) (as := [.int (iI (xs (i + 1).toNat).toInt), .int (iI (xs (i + 2).toNat).toInt)]) (n := 2) (st := []) dL_law_1499 zl_L_205 zc_X7_block ⟨rfl, by decide +kernel⟩ ⟨rfl, rfl⟩ ⟨Nat.le_of_ble_eq_true rfl, Nat.le_of_ble_eq_true rfl⟩ (C_X7_block (PW_sim r.1).2.2.1.1 (PW_sim r.1).2.2.1.2.1 (ti_r _) (ti_r _)) rfl (fun _ => rfl) (by decide) ⟨hc.1, hc.2⟩ (fun z6 h6 u6 v6 q6 => ?_)
  obtain ⟨rfl, rfl⟩ := q6
  refine lx_istore (pc := 1502) dL_law_1502 (by decide) rfl ?_
  refine lx_aload_n (pc := 1504) dL_law_1504 rfl rfl ?_
  refine lx_mv (pc := 1505) (as := []) (n := 0) (st := []) dL_law_1505 zl_L_97 zc_X7_thrown ⟨rfl, by decide +kernel⟩ ⟨rfl, rfl⟩ ⟨Nat.le_of_ble_eq_true rfl, Nat.le_of_ble_eq_true rfl⟩ C_X7_thrown rfl (fun _ => rfl) (by decide) ⟨hc.1, hc.2⟩ (fun z7 h7 u7 v7 q7 => ?_)
  obtain ⟨rfl, rfl⟩ := q7
  have ag : AG T2 (m_block hm (xs (i + 1).toNat).toInt (xs (i + 2).toNat).toInt) (X_block hx (xs (i + 1).toNat).toInt (xs (i + 2).toNat).toInt) := REL_agm (B_block r _ _) (by omega)
  refine lx_iload (pc := 1508) dL_law_1508 rfl ?_
  refine lx_icmp_eq (pc := 1510) (tgt := 1515) dL_law_1510 (by decide) (fun _ => ⟨u7, v7⟩) (fun _ => ⟨u5, v5⟩) (fun c1 => ?_) (fun c1 => absurd ag.1 c1)
  refine lx_iload (pc := 1515) dL_law_1515 rfl ?_
  have fin := k _ _ o5 (c9 + 1) (s9 + 6) ag.2.2 (Nat.le_refl _) (Nat.le_refl _)
  refine lx_if_ne (pc := 1517) (tgt := 1532) dL_law_1517 (by decide) (fun _ => ⟨u5, v5⟩) (fun c2 => ?_) (fun c2 => ?_)
  · skip
    refine lx_goto (pc := 1532) (tgt := 1783) dL_law_1532 (by decide) ?_
    exact lx_sub [true, true, true, true, true, false, false] fin
  · have c3 := c2
    refine lx_aload_n (pc := 1520) dL_law_1520 rfl rfl ?_
    refine lx_iconst (pc := 1521) dL_law_1521 ?_
    refine lx_laload (pc := 1522) dL_law_1522 ?_
    rw [q5 c3, ← ag.2.1 c3]
    refine lx_iload (pc := 1523) dL_law_1523 rfl ?_
    refine lx_i2l (pc := 1525) dL_law_1525 ⟨u6, v6⟩ ?_
    refine lx_lcmp (pc := 1526) dL_law_1526 (by omega) (by omega) ?_
    refine lx_if_eq (pc := 1527) (tgt := 1532) dL_law_1527 (by decide) (fun _ => by unfold lc; split <;> (try split) <;> omega) (fun c4 => ?_) (fun c4 => absurd (lc_self _) c4)
    refine lx_goto (pc := 1532) (tgt := 1783) dL_law_1532 (by decide) ?_
    exact lx_sub [true, true, true, true, true, false, false] fin
set_option maxRecDepth 100000 in
theorem W_flashPage {tab : List ExceptionTableEntry} {L : Nat} {xs : Nat → Int32} {hx hm : zH} {o : Nat → Int64} {T T2 i : Int} {c9 s9 : Nat} {E : zF} (r : REL hm hx T) (hL : L ≤ 3072) (i0 : 0 ≤ i) (i1 : i + 6 ≤ (L : Int)) (hT : T + 60000 = T2) (hT2 : T2 ≤ 2147000000) (hc : c9 + 1 ≤ room_1.cells ∧ s9 + 6 ≤ room_1.slots) (k : lK tab L xs i c9 s9 T2 E) : lX (lGL L xs) tab RL cL_law 7 (some .boolean) room_1 c9 s9 1535 (lLs i) [] hx hm o E := by
  unfold lLs
  unfold lK lLs at k
  refine lx_aload_n (pc := 1535) dL_law_1535 rfl rfl ?_
  refine lx_aload_n (pc := 1536) dL_law_1536 rfl rfl ?_
  refine lx_iload (pc := 1537) dL_law_1537 rfl ?_
  refine lx_iconst (pc := 1539) dL_law_1539 ?_
  refine lx_iadd (pc := 1540) dL_law_1540 ?_
  refine lx_sload (pc := 1541) (by omega) (by omega) (by omega) dL_law_1541 ?_
  refine lx_aload_n (pc := 1542) dL_law_1542 rfl rfl ?_
  refine lx_iload (pc := 1543) dL_law_1543 rfl ?_
  refine lx_iconst (pc := 1545) dL_law_1545 ?_
  refine lx_iadd (pc := 1546) dL_law_1546 ?_
  refine lx_sload (pc := 1547) (by omega) (by omega) (by omega) dL_law_1547 ?_
  refine lx_aload_n (pc := 1548) dL_law_1548 rfl rfl ?_
  refine lx_wrap (pc := 1549) (as := [.ref 0, .int (iI (xs (i + 1).toNat).toInt), .int (iI (xs (i + 2).toNat).toInt), .ref 300]) (n := 4) (st := []) (Qw := Qs (X_flashPage hx (xs (i + 1).toNat).toInt (xs (i + 2).toNat).toInt)) (lGL_o L xs) dL_law_1549 gL_flashPage ⟨by decide, by decide⟩ ⟨rfl, by decide +kernel⟩ ⟨rfl, rfl⟩ ⟨Nat.le_of_ble_eq_true rfl, Nat.le_of_ble_eq_true rfl⟩ ⟨hc.1, hc.2⟩ (K_L_flashPage (T_flashPage (PW_sim r.1).2.1 (ti_r _) (ti_r _)) (fun z h2 q o2 e2 => Qs_n q e2) (fun E9 h2 q => Qs_x q)) rfl (by decide) (fun z5 h5 o5 u5 v5 q5 => ?_)
  obtain ⟨rfl, rfl, q5⟩ := q5
  refine lx_istore (pc := 1552) dL_law_1552 (by decide) rfl ?_
  refine lx_aload_n (pc := 1554) dL_law_1554 rfl rfl ?_
  refine lx_aload_n (pc := 1555) dL_law_1555 rfl rfl ?_
  refine lx_iload (pc := 1556) dL_law_1556 rfl ?_
  refine lx_iconst (pc := 1558) dL_law_1558 ?_
  refine lx_iadd (pc := 1559) dL_law_1559 ?_
  refine lx_sload (pc := 1560) (by omega) (by omega) (by omega) dL_law_1560 ?_
  refine lx_aload_n (pc := 1561) dL_law_1561 rfl rfl ?_
  refine lx_iload (pc := 1562) dL_law_1562 rfl ?_
  refine lx_iconst (pc := 1564) dL_law_1564 ?_
  refine lx_iadd (pc := 1565) dL_law_1565 ?_
  refine lx_sload (pc := 1566) (by omega) (by omega) (by omega) dL_law_1566 ?_
  refine lx_mv (pc := 1567) (as := [.int (iI (xs (i + 1).toNat).toInt), .int (iI (xs (i + 2).toNat).toInt)]) (n := 2) (st := []) dL_law_1567 zl_L_208 zc_X7_flashPage ⟨rfl, by decide +kernel⟩ ⟨rfl, rfl⟩ ⟨Nat.le_of_ble_eq_true rfl, Nat.le_of_ble_eq_true rfl⟩ (C_X7_flashPage (PW_sim r.1).2.2.1.1 (ti_r _) (ti_r _)) rfl (fun _ => rfl) (by decide) ⟨hc.1, hc.2⟩ (fun z6 h6 u6 v6 q6 => ?_)
  obtain ⟨rfl, rfl⟩ := q6
  refine lx_istore (pc := 1570) dL_law_1570 (by decide) rfl ?_
  refine lx_aload_n (pc := 1572) dL_law_1572 rfl rfl ?_
  refine lx_mv (pc := 1573) (as := []) (n := 0) (st := []) dL_law_1573 zl_L_97 zc_X7_thrown ⟨rfl, by decide +kernel⟩ ⟨rfl, rfl⟩ ⟨Nat.le_of_ble_eq_true rfl, Nat.le_of_ble_eq_true rfl⟩ C_X7_thrown rfl (fun _ => rfl) (by decide) ⟨hc.1, hc.2⟩ (fun z7 h7 u7 v7 q7 => ?_)
  obtain ⟨rfl, rfl⟩ := q7
  have ag : AG T2 (m_flashPage hm (xs (i + 1).toNat).toInt (xs (i + 2).toNat).toInt) (X_flashPage hx (xs (i + 1).toNat).toInt (xs (i + 2).toNat).toInt) := REL_agm (B_flashPage r _ _) (by omega)
  refine lx_iload (pc := 1576) dL_law_1576 rfl ?_
  refine lx_icmp_eq (pc := 1578) (tgt := 1583) dL_law_1578 (by decide) (fun _ => ⟨u7, v7⟩) (fun _ => ⟨u5, v5⟩) (fun c1 => ?_) (fun c1 => absurd ag.1 c1)
  refine lx_iload (pc := 1583) dL_law_1583 rfl ?_
  have fin := k _ _ o5 (c9 + 1) (s9 + 6) ag.2.2 (Nat.le_refl _) (Nat.le_refl _)
  refine lx_if_ne (pc := 1585) (tgt := 1600) dL_law_1585 (by decide) (fun _ => ⟨u5, v5⟩) (fun c2 => ?_) (fun c2 => ?_)
  · skip
    refine lx_goto (pc := 1600) (tgt := 1783) dL_law_1600 (by decide) ?_
    exact lx_sub [true, true, true, true, true, false, false] fin
  · have c3 := c2
    refine lx_aload_n (pc := 1588) dL_law_1588 rfl rfl ?_
    refine lx_iconst (pc := 1589) dL_law_1589 ?_
    refine lx_laload (pc := 1590) dL_law_1590 ?_
    rw [q5 c3, ← ag.2.1 c3]
    refine lx_iload (pc := 1591) dL_law_1591 rfl ?_
    refine lx_i2l (pc := 1593) dL_law_1593 ⟨u6, v6⟩ ?_
    refine lx_lcmp (pc := 1594) dL_law_1594 (by omega) (by omega) ?_
    refine lx_if_eq (pc := 1595) (tgt := 1600) dL_law_1595 (by decide) (fun _ => by unfold lc; split <;> (try split) <;> omega) (fun c4 => ?_) (fun c4 => absurd (lc_self _) c4)
    refine lx_goto (pc := 1600) (tgt := 1783) dL_law_1600 (by decide) ?_
    exact lx_sub [true, true, true, true, true, false, false] fin
set_option maxRecDepth 100000 in
theorem W_isValid {tab : List ExceptionTableEntry} {L : Nat} {xs : Nat → Int32} {hx hm : zH} {o : Nat → Int64} {T T2 i : Int} {c9 s9 : Nat} {E : zF} (r : REL hm hx T) (hL : L ≤ 3072) (i0 : 0 ≤ i) (i1 : i + 6 ≤ (L : Int)) (hT : T + 60000 = T2) (hT2 : T2 ≤ 2147000000) (hc : c9 + 1 ≤ room_1.cells ∧ s9 + 6 ≤ room_1.slots) (k : lK tab L xs i c9 s9 T2 E) : lX (lGL L xs) tab RL cL_law 7 (some .boolean) room_1 c9 s9 1603 (lLs i) [] hx hm o E := by
  unfold lLs
  unfold lK lLs at k
  refine lx_aload_n (pc := 1603) dL_law_1603 rfl rfl ?_
  refine lx_aload_n (pc := 1604) dL_law_1604 rfl rfl ?_
  refine lx_iload (pc := 1605) dL_law_1605 rfl ?_
  refine lx_iconst (pc := 1607) dL_law_1607 ?_
  refine lx_iadd (pc := 1608) dL_law_1608 ?_
  refine lx_sload (pc := 1609) (by omega) (by omega) (by omega) dL_law_1609 ?_
  refine lx_aload_n (pc := 1610) dL_law_1610 rfl rfl ?_
  refine lx_wrap (pc := 1611) (as := [.ref 0, .int (iI (xs (i + 1).toNat).toInt), .ref 300]) (n := 3) (st := []) (Qw := Qs (X_isValid hx (xs (i + 1).toNat).toInt)) (lGL_o L xs) dL_law_1611 gL_isValid ⟨by decide, by decide⟩ ⟨rfl, by decide +kernel⟩ ⟨rfl, rfl⟩ ⟨Nat.le_of_ble_eq_true rfl, Nat.le_of_ble_eq_true rfl⟩ ⟨hc.1, hc.2⟩ (K_L_isValid (T_isValid (PW_sim r.1).2.1 (ti_r _)) (fun z h2 q => isV_01 q) (fun z h2 q o2 e2 => Qs_n q e2) (fun E9 h2 q => Qs_x q)) rfl (by decide) (fun z5 h5 o5 u5 v5 q5 => ?_)
  obtain ⟨rfl, rfl, q5⟩ := q5
  refine lx_istore (pc := 1614) dL_law_1614 (by decide) rfl ?_
  refine lx_aload_n (pc := 1616) dL_law_1616 rfl rfl ?_
  refine lx_aload_n (pc := 1617) dL_law_1617 rfl rfl ?_
  refine lx_iload (pc := 1618) dL_law_1618 rfl ?_
  refine lx_iconst (pc := 1620) dL_law_1620 ?_
  refine lx_iadd (pc := 1621) dL_law_1621 ?_
  refine lx_sload (pc := 1622) (by omega) (by omega) (by omega) dL_law_1622 ?_
  refine lx_mv (pc := 1623) (as := [.int (iI (xs (i + 1).toNat).toInt)]) (n := 1) (st := []) dL_law_1623 zl_L_211 zc_X7_isValid ⟨rfl, by decide +kernel⟩ ⟨rfl, rfl⟩ ⟨Nat.le_of_ble_eq_true rfl, Nat.le_of_ble_eq_true rfl⟩ (C_X7_isValid (PW_sim r.1).2.2.1.1 (PW_sim r.1).2.2.1.2.1 (ti_r _)) rfl (fun _ => rfl) (by decide) ⟨hc.1, hc.2⟩ (fun z6 h6 u6 v6 q6 => ?_)
  obtain ⟨rfl, rfl⟩ := q6
  refine lx_istore (pc := 1626) dL_law_1626 (by decide) rfl ?_
  refine lx_aload_n (pc := 1628) dL_law_1628 rfl rfl ?_
  refine lx_mv (pc := 1629) (as := []) (n := 0) (st := []) dL_law_1629 zl_L_97 zc_X7_thrown ⟨rfl, by decide +kernel⟩ ⟨rfl, rfl⟩ ⟨Nat.le_of_ble_eq_true rfl, Nat.le_of_ble_eq_true rfl⟩ C_X7_thrown rfl (fun _ => rfl) (by decide) ⟨hc.1, hc.2⟩ (fun z7 h7 u7 v7 q7 => ?_)
  obtain ⟨rfl, rfl⟩ := q7
  have ag : AG T2 (m_isValid hm (xs (i + 1).toNat).toInt) (X_isValid hx (xs (i + 1).toNat).toInt) := REL_agm (B_isValid r _) (by omega)
  refine lx_iload (pc := 1632) dL_law_1632 rfl ?_
  refine lx_icmp_eq (pc := 1634) (tgt := 1639) dL_law_1634 (by decide) (fun _ => ⟨u7, v7⟩) (fun _ => ⟨u5, v5⟩) (fun c1 => ?_) (fun c1 => absurd ag.1 c1)
  refine lx_iload (pc := 1639) dL_law_1639 rfl ?_
  have fin := k _ _ o5 (c9 + 1) (s9 + 6) ag.2.2 (Nat.le_refl _) (Nat.le_refl _)
  refine lx_if_ne (pc := 1641) (tgt := 1663) dL_law_1641 (by decide) (fun _ => ⟨u5, v5⟩) (fun c2 => ?_) (fun c2 => ?_)
  · skip
    refine lx_goto (pc := 1663) (tgt := 1783) dL_law_1663 (by decide) ?_
    exact lx_sub [true, true, true, true, true, false, false] fin
  · have c3 := c2
    refine lx_aload_n (pc := 1644) dL_law_1644 rfl rfl ?_
    refine lx_iconst (pc := 1645) dL_law_1645 ?_
    refine lx_laload (pc := 1646) dL_law_1646 ?_
    rw [q5 c3, ← ag.2.1 c3]
    refine lx_iload (pc := 1647) dL_law_1647 rfl ?_
    refine lx_if_eq (pc := 1649) (tgt := 1656) dL_law_1649 (by decide) (fun _ => ⟨u6, v6⟩) (fun c5 => ?_) (fun c5 => ?_)
    · skip
      have c6 := c5
      refine lx_lconst (pc := 1656) (z := 0) dL_law_1656 (by decide +kernel) ?_
      rw [c6]
      refine lx_lcmp (pc := 1657) dL_law_1657 (by decide) (by decide) ?_
      refine lx_if_eq (pc := 1658) (tgt := 1663) dL_law_1658 (by decide) (fun _ => by decide) (fun c4 => ?_) (fun c4 => absurd (lc_self _) c4)
      refine lx_goto (pc := 1663) (tgt := 1783) dL_law_1663 (by decide) ?_
      exact lx_sub [true, true, true, true, true, false, false] fin
    · skip
      have c6 := (mV_01 hm _).resolve_left c5
      refine lx_lconst (pc := 1652) (z := 1) dL_law_1652 (by decide +kernel) ?_
      refine lx_goto (pc := 1653) (tgt := 1657) dL_law_1653 (by decide) ?_
      rw [c6]
      refine lx_lcmp (pc := 1657) dL_law_1657 (by decide) (by decide) ?_
      refine lx_if_eq (pc := 1658) (tgt := 1663) dL_law_1658 (by decide) (fun _ => by decide) (fun c4 => ?_) (fun c4 => absurd (lc_self _) c4)
      refine lx_goto (pc := 1663) (tgt := 1783) dL_law_1663 (by decide) ?_
      exact lx_sub [true, true, true, true, true, false, false] fin

