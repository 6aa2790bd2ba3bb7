/-! the class: methods that throw -/
def nSE : String := "java/util/NoSuchElementException"
def nAE : String := "java/lang/IllegalArgumentException"
def nIE : String := "java/lang/IllegalStateException"
def nRE : String := "java/lang/RuntimeException"
def nEX : String := "java/lang/Exception"
/-- the constructor's bytes of an exception that links its parent's at 13 -/
def zRx : ByteArray := .mk #[0x2a, 0x2b, 0xb7, 0x00, 0x0d, 0xb1]
/-- the words of 'new X(text)' for an exception right below RuntimeException, its constructor's own link at ix -/
def zAt (own : String) (ic : Nat) (X : String) (ix : Nat) (rx : ByteArray) : List Cond :=
  Bundle.throwableAtoms ++ (Bundle.throwableSAtoms ++ (Bundle.passSAtoms X nRE ix rx ++ (Bundle.chainSAtoms nRE [nEX] ++ [.methodLink own ic (Bundle.initS X), .instantiable X 6, .castable X X, .selects X Bundle.tFill0 Bundle.tFill0, .selects X Bundle.tFill Bundle.tFill, .lays X Bundle.tN "cause" "Ljava/lang/Throwable;", .lays X Bundle.tN "stackTrace" Bundle.steD, .lays X Bundle.tN "suppressedExceptions" Bundle.listD, .lays X Bundle.tN "detailMessage" "Ljava/lang/String;", .isRef (.static Bundle.tN "UNASSIGNED_STACK" Bundle.steD), .isRef (.static Bundle.tN "SUPPRESSED_SENTINEL" Bundle.listD), .fieldLink Bundle.tN 198 Bundle.tN "backtrace" "Ljava/lang/Object;", .lays Bundle.tN Bundle.tN "backtrace" "Ljava/lang/Object;", .lays X Bundle.tN "backtrace" "Ljava/lang/Object;"])))
/-- the words that a warmer machine keeps, though they are no good ones -/
def zFc : List Cond := [.castable nSE nSE, .castable nAE nAE, .castable nIE nIE, .declares (Bundle.initS nRE), .declares (Bundle.initS nEX), .declares (Bundle.initS Bundle.tN)]
def zCa (s : State) : Prop := ∀ w ∈ zFc, ∀ args : Array Value, w.before args s = true
theorem zFc_ok : ∀ w ∈ zFc, w.faceAtom = true ∧ w.onTables = true := by decide +kernel
theorem zCa_moved {s U : State} (h : s.vm.Alike U.vm) (z : zCa s) : zCa U := fun w hw args => by
  obtain ⟨f1, f2⟩ := zFc_ok w hw
  have q := Cond.faceAtom_setVm h w f1 (z w hw args)
  rw [Cond.onTables_vm (A := args) (A' := args) (U := s) (U' := U) U.vm w f2] at q
  exact q
/-- the links of a constructor chain whose first one links at ix -/
theorem zChain {args : Array Value} {s : State} {pl : Platform} (hpl : pl.magicAccessors = ({} : Platform).magicAccessors) {top : MethodId} (htop : s.methodNamed? (Bundle.initS Bundle.tN) = some top) {ix : Nat} {rx : ByteArray} (x0 : decode rx 0 = .ok (.aload_n 0, 1)) (x1 : decode rx 1 = .ok (.aload_n 1, 1)) (x2 : decode rx 2 = .ok (.invokespecial ix, 3)) (x5 : decode rx 5 = .ok (.return_, 1)) {X : String} (hX : Bundle.fit X = true)
    (h1 : ∀ c ∈ Bundle.passSAtoms X nRE ix rx, c.before args s = true) (h2 : ∀ c ∈ Bundle.chainSAtoms nRE [nEX], c.before args s = true) :
    ∃ (P1 : PassC) (Ps : List PassC), Ps.length = 2 ∧ P1.LinksS pl s ∧ (∀ P, P ∈ Ps → P.LinksS pl s) ∧ s.methodNamed? (Bundle.initS X) = some P1.m ∧ P1.sup = firstOf top (Ps.map (·.toPassT)) ∧ PassesOn top (Ps.map (·.toPassT)) := by
  obtain ⟨P, L, hm, hs⟩ := PassC.ofS_atoms (args := args) (s := s) hpl (X := X) (Y := nRE) (Bundle.fit_spec hX).1 ⟨by decide +kernel, by decide +kernel⟩ x0 x1 x2 x5 h1
  obtain ⟨P2, Ps, hlen, L2, hL, hm2, hsup, hpass⟩ := Bundle.chainS (args := args) hpl htop [nEX] nRE (by decide +kernel) (by decide +kernel) h2
  refine ⟨P, P2 :: Ps, by rw [List.length_cons, hlen]; rfl, L, fun Q hQ => ?_, hm, Option.some.inj (hs.symm.trans hm2), hsup, hpass⟩
  rcases List.mem_cons.mp hQ with rfl | hQ
  · exact L2
  · exact hL Q hQ
section ZCT
variable {p : Program} {l : Launch} {e : Env} {R : Room} {s : State} {m₀ : MethodId} {args : Array Value} {below : List Frame} {meth : Method} {c : Code} {W : State} {locs : List Loc} {cells slots : Nat}
set_option maxHeartbeats 1000000 in
/-- the constructor's call and the throw (follows the library's Stand.ctorThrowS, with the link's number free) -/
theorem zCtor (X : Stand p l e R s m₀ args below meth c W locs cells slots) (hexec : p.tables.exec = Jvm.exec) (htr : e.platform.stackTraces = false) {own cls : String} {ic : Nat}
    {ix : Nat} {rx : ByteArray} (x0 : decode rx 0 = .ok (.aload_n 0, 1)) (x1 : decode rx 1 = .ok (.aload_n 1, 1)) (x2 : decode rx 2 = .ok (.invokespecial ix, 3)) (x5 : decode rx 5 = .ok (.return_, 1))
    (hown : s.vm.findClass own = some m₀.cls) (hcls : Bundle.fit cls = true)
    (h : ∀ a ∈ zAt own ic cls ix rx, a.before args s = true)
    (hlocs : ∀ x ∈ locs, ∀ cell, s.heap[x.base]? = some cell → cell.vm.isStatics = false)
    {a : Addr} {cX : ClassId} {kX : Class} (hfoundX : s.vm.findClass cls = some cX) (hkX : s.vm.classes[cX]? = some kX) (hcell : W.heap[a]? = some (freshCell cX kX)) (hnew : s.heap.size ≤ a)
    {msg : Value} (hmsg : msg.isRef = true)
    {g : JFrame} (hg : g.method = m₀) (hsize : g.locals.size = c.maxLocals) (hlocked : g.locked = none) (hentered : g.entered = []) {rest : List Value} (hstack : g.stack = msg :: .ref a :: .ref a :: rest)
    (hd6 : decode c.code g.pc = .ok (.invokespecial ic, 3)) (hd9 : decode c.code (g.pc + 3) = .ok (.athrow, 1)) (hout : ∀ x ∈ c.exceptionTable.toList, covers x (g.pc + 3) = false)
    (hRframes : 5 < R.frames) (hRlocals : 2 * g.monitorRoom + ((Value.ref a :: rest).map fun v => v.category).sum + 81 ≤ R.locals) (hlocks : meth.locks = false) :
    ∃ U : State, Steps p.tables e below (W.setTop g) U ∧ U.status = .running ∧ Ended U below (.threw a) ∧ s.WarmedH U.vm ∧ s.sameButNew ({ U with vm := s.vm } : State) locs cells slots ∧
      ∃ ce, U.heap[a]? = some ce ∧ ce.cls = cX ∧ ce.vm = .none := by
  have howns : e.platform.frameOwnsMonitors = true := by rw [X.admits.platform]
  have hfin : e.platform.finalization = false := by rw [X.admits.platform]
  have hpl : e.platform.magicAccessors = ({} : Platform).magicAccessors := by rw [X.admits.platform]
  have hh : ∀ q, q ∈ zAt own ic cls ix rx → q.holds args s none s [] = true := fun q hq => h q hq
  have i1 : ∀ q, q ∈ Bundle.throwableAtoms → q ∈ zAt own ic cls ix rx := fun q hq => List.mem_append_left _ hq
  have i2 : ∀ q, q ∈ Bundle.throwableSAtoms → q ∈ zAt own ic cls ix rx := fun q hq => List.mem_append_right _ (List.mem_append_left _ hq)
  have i3 : ∀ q, q ∈ Bundle.passSAtoms cls nRE ix rx → q ∈ zAt own ic cls ix rx := fun q hq => List.mem_append_right _ (List.mem_append_right _ (List.mem_append_left _ hq))
  have i4 : ∀ q, q ∈ Bundle.chainSAtoms nRE [nEX] → q ∈ zAt own ic cls ix rx := fun q hq => List.mem_append_right _ (List.mem_append_right _ (List.mem_append_right _ (List.mem_append_left _ hq)))
  obtain ⟨T, Z0, L, -, Y⟩ := ThrowableC.of_atoms (args := args) howns hfin hpl (fun q hq => h q (i1 q hq))
  obtain ⟨Z, M, LZ, LM, hnZ⟩ := Init0T.ofS_atoms (args := args) hpl L Y (fun q hq => h q (i2 q hq))
  obtain ⟨P1, Ps, hlen, L1, hL, hP1m, hlink1, hlink⟩ := zChain (args := args) hpl hnZ x0 x1 x2 x5 hcls (fun q hq => h q (i3 q hq)) (fun q hq => h q (i4 q hq))
  have hfound : s.vm.findClass cls = some P1.m.cls := findClass_of_methodNamed hP1m
  cases Option.some.inj (hfoundX.symm.trans hfound)
  obtain ⟨c1, kX', hc1, hk, hord, -, -, hn6⟩ := Cond.instantiable_spec (hh (.instantiable cls 6) (by simp [zAt]))
  cases Option.some.inj (hc1.symm.trans hfound)
  cases Option.some.inj (hkX.symm.trans hk)
  have hsel0 : selectMethod e.platform s.vm P1.m.cls T.fill0 = .method T.fill0 := by
    obtain ⟨c2, r2, m2, q1, q2, q3, q4, -⟩ := Cond.selects_spec (hh (.selects cls Bundle.tFill0 Bundle.tFill0) (by simp [zAt]))
    cases Option.some.inj (q1.symm.trans hfound)
    cases Option.some.inj (q2.symm.trans (State.methodFound?_of_named Y.fill0 (by decide)))
    cases Option.some.inj (q3.symm.trans Y.fill0)
    rw [Launch.admits_selectMethod X.admits]; exact q4
  have hselF : selectMethod e.platform s.vm P1.m.cls T.fill = .method T.fill := by
    obtain ⟨c2, r2, m2, q1, q2, q3, q4, -⟩ := Cond.selects_spec (hh (.selects cls Bundle.tFill Bundle.tFill) (by simp [zAt]))
    cases Option.some.inj (q1.symm.trans hfound)
    cases Option.some.inj (q2.symm.trans (State.methodFound?_of_named Y.fill (by decide)))
    cases Option.some.inj (q3.symm.trans Y.fill)
    rw [Launch.admits_selectMethod X.admits]; exact q4
  obtain ⟨cellS0, hcS0, hiss⟩ := Y.statics
  obtain ⟨u0, hu0⟩ := Cond.staticRefV Y.unassigned L.unassignedStatic L.statics hcS0 hiss (hh (.isRef (.static Bundle.tN "UNASSIGNED_STACK" Bundle.steD)) (by simp [zAt]))
  obtain ⟨sen, hsen⟩ := Cond.staticRefV Y.sentinel L.sentinelStatic L.statics hcS0 hiss (hh (.isRef (.static Bundle.tN "SUPPRESSED_SENTINEL" Bundle.listD)) (by simp [zAt]))
  obtain ⟨ci198, i198, fB, hk198, hg198, ha198, hsB, -, hnB, htB, hffB⟩ := Cond.ownField (t := .object "java/lang/Object") Y.found L.cls (by decide +kernel) (hh (.fieldLink Bundle.tN 198 Bundle.tN "backtrace" "Ljava/lang/Object;") (by simp [zAt])) (hh (.lays Bundle.tN Bundle.tN "backtrace" "Ljava/lang/Object;") (by simp [zAt])) e.platform hpl
  obtain ⟨cellS, hcS', heS, -, hkeep⟩ := X.same.2.2.2.2.2 T.aS cellS0 hcS0
  have hcellS : W.heap[T.aS]? = some cellS := hcS'
  have hout' : ∀ i, (⟨T.aS, i⟩ : Loc) ∉ locs := fun i hmem => by
    have := hlocs _ hmem cellS0 hcS0
    rw [hiss] at this; cases this
  have hknownS : cellS.vm ≠ .unknown := by
    rw [heS]; intro hu
    rw [show cellS0.vm = .unknown from hu] at hiss
    cases hiss
  have hneS : T.aS ≠ a := Nat.ne_of_lt (Nat.lt_of_lt_of_le (Array.getElem?_eq_some_iff.mp hcS0).1 hnew)
  obtain ⟨iM, hffM⟩ := Y.msg
  obtain ⟨tyC, dC, hdC, hdnC⟩ := Cond.laysAt hfound hk Y.cause (hh (.lays cls Bundle.tN "cause" "Ljava/lang/Throwable;") (by simp [zAt]))
  obtain ⟨tyS, dS, hdS, hdnS⟩ := Cond.laysAt hfound hk Y.stack (hh (.lays cls Bundle.tN "stackTrace" Bundle.steD) (by simp [zAt]))
  obtain ⟨tyP, dP, hdP, hdnP⟩ := Cond.laysAt hfound hk Y.supp (hh (.lays cls Bundle.tN "suppressedExceptions" Bundle.listD) (by simp [zAt]))
  obtain ⟨tyM, dM, hdM, hdnM⟩ := Cond.laysAt hfound hk hffM (hh (.lays cls Bundle.tN "detailMessage" "Ljava/lang/String;") (by simp [zAt]))
  obtain ⟨tyB, dB, hdB, hdnB⟩ := Cond.laysAt hfound hk hffB (hh (.lays cls Bundle.tN "backtrace" "Ljava/lang/Object;") (by simp [zAt]))
  have bC := Cond.laysApart hdB hdC hdnB hdnC (by rw [hnB, Y.causeName]; decide)
  have bS := Cond.laysApart hdB hdS hdnB hdnS (by rw [hnB, Y.stackName]; decide)
  have bP := Cond.laysApart hdB hdP hdnB hdnP (by rw [hnB, Y.suppName]; decide)
  have hskip : SkipFacts T e.platform s (fun u => u) u0 ((preparedCellV T.toThrowableT (freshCell P1.m.cls kX) a u0 sen).withEntry W.cur) :=
    ⟨{ ci198 := ci198, i198 := i198, fBack := fB }, ⟨hk198, hg198, ha198, hsB⟩, by
      have := fresh_default (c := P1.m.cls) tyB
      rw [htB] at this
      simpa [preparedCellV, Cell.setSlot, Cell.withEntry, Array.getElem?_setIfInBounds, bC, bS, bP, bC.symm, bS.symm, bP.symm, defaultValue] using this, fun _ _ => rfl⟩
  obtain ⟨tm, methC, cdC, kC, vm₁, hnC, -, -, -, -, -, -, -, hW₁, st1⟩ := Steps.initColdS (tb := p.tables) (e := e) (below := below) (s := s) (U := W) X.here hexec X.warmed hpl hown (t := Bundle.initS cls) rfl rfl (Bundle.fit_spec hcls).2
    (hh (.methodLink own ic (Bundle.initS cls)) (by simp [zAt])) (h (.instanceMethod (Bundle.initS cls)) (i3 _ (by simp [Bundle.passSAtoms]))) (bytes := rx) (maxL := 2) (h (.code (Bundle.initS cls) rx 2 none) (i3 _ (by simp [Bundle.passSAtoms])))
    (f := g) hg (a := a) (msg := msg) (rest := .ref a :: rest) hstack hd6
  cases Option.some.inj (hnC.symm.trans hP1m)
  have X₁ := X.noted hW₁
  obtain ⟨vm₂, X₂, st2⟩ := X₁.ctorMessageOffV hexec (g := { g with stack := .ref a :: rest }) hg hsize T L Z LZ M LM (P1 :: Ps)
    (fun P hP => by rcases List.mem_cons.mp hP with rfl | hP; exact L1; exact hL P hP) ⟨hlink1, hlink⟩ (u0 := u0) (sen := sen) (self := a) hmsg (cell := freshCell P1.m.cls kX) (cellS := cellS)
    hcell (fun _ => by simp) (by simp) rfl rfl hsel0 hselF hcellS hneS hknownS (by rw [hkeep _ (hout' _)]; exact hu0) (by rw [hkeep _ (hout' _)]; exact hsen)
    (Takes.of_laid hk hord tyC (by rw [Y.causeType]; rfl)) (Takes.of_laid hk hord tyS (by rw [Y.stackType]; exact fits_refV_array _ u0)) (Takes.of_laid hk hord tyP (by rw [Y.suppType]; exact fits_refV_object _ sen))
    (Takes.of_laid hk hord tyM (by rw [Y.msgType]; exact fits_refV_object _ ⟨msg, hmsg⟩)) Y.objLocals hskip htr [] hd6
    (by simp only [List.length_cons, hlen]; omega) (by simp only [List.length_cons, hlen]; exact hRlocals)
  obtain ⟨hwalk, hrun, hended, hWU, hsame⟩ := X₂.athrowLeaves hexec (g := { g with stack := .ref a :: rest, pc := g.pc + 3 }) hg hlocked hentered hout (a := a) (rest := rest) rfl hd9
  have hlt : a < ((W.setVm vm₁).setVm vm₂).heap.size := (Array.getElem?_eq_some_iff.mp hcell).1
  have hU := heapAt_setCell_self (s := (W.setVm vm₁).setVm vm₂) (plainBareV T.toThrowableT (freshCell P1.m.cls kX) a u0 sen msg) hlt
  refine ⟨_, st1 _ (fun acts => ?_), hrun, hended, hWU, hsame.weaken (fun y hy hlt' => ?_) (Nat.le_refl _) (Nat.le_refl _), _, hU, rfl, rfl⟩
  · rw [doInvoke_state]
    exact st2 _ hwalk
  · rcases List.mem_append.mp hy with h1 | h1
    · exact h1
    · exfalso
      have hb : y.base = a := by
        simp only [List.mem_cons, List.not_mem_nil, or_false] at h1
        rcases h1 with rfl | rfl | rfl | rfl | rfl <;> rfl
      rw [hb] at hlt'
      exact Nat.not_lt.mpr hnew hlt'
end ZCT
/-- what is to be known of an exception that is thrown by its name E -/
def zTh (E : String) (ik ic ix : Nat) (rx : ByteArray) : Prop := Bundle.fit E = true ∧ Cond.classLink RX6 ik E ∈ zU ∧ Cond.initialized E ∈ zU ∧ (∀ w ∈ (zAt RX6 ic E ix rx).filter vx_no, goodWord w = true → w ∈ zU) ∧ (∀ w ∈ (zAt RX6 ic E ix rx).filter vx_no, goodWord w = false → w ∈ zFc) ∧ decode rx 0 = .ok (.aload_n 0, 1) ∧ decode rx 1 = .ok (.aload_n 1, 1) ∧ decode rx 2 = .ok (.invokespecial ix, 3) ∧ decode rx 5 = .ok (.return_, 1)
theorem zt_k27 : Cond.classLink RX6 27 "java/lang/IllegalStateException" ∈ zU := zm2 (i := 207) (by decide +kernel) rfl
theorem zt_i27 : Cond.initialized "java/lang/IllegalStateException" ∈ zU := zm1 (i := 12) (by decide +kernel) rfl
set_option maxRecDepth 20000 in
theorem zt_a31 : ∀ w ∈ ((zAt RX6 31 "java/lang/IllegalStateException" 7 Bundle.six).filter vx_no).filter goodWord, w ∈ lw_tbl := by decide +kernel
set_option maxRecDepth 20000 in
theorem zt_b31 : ∀ w ∈ ((zAt RX6 31 "java/lang/IllegalStateException" 7 Bundle.six).filter vx_no).filter (fun w => !goodWord w), w ∈ zFc := by decide +kernel
theorem zt_31 : zTh "java/lang/IllegalStateException" 27 31 7 Bundle.six := ⟨by decide +kernel, zt_k27, zt_i27, fun w h g => zU_in (zt_a31 w (List.mem_filter.mpr ⟨h, g⟩)) g, fun w h g => zt_b31 w (List.mem_filter.mpr ⟨h, by rw [g]; rfl⟩), by decide +kernel, by decide +kernel, by decide +kernel, by decide +kernel⟩
theorem zt_k38 : Cond.classLink RX6 38 "java/lang/IllegalArgumentException" ∈ zU := zm3 (i := 47) (by decide +kernel) rfl
theorem zt_i38 : Cond.initialized "java/lang/IllegalArgumentException" ∈ zU := zm1 (i := 13) (by decide +kernel) rfl
set_option maxRecDepth 20000 in
theorem zt_a42 : ∀ w ∈ ((zAt RX6 42 "java/lang/IllegalArgumentException" 7 Bundle.six).filter vx_no).filter goodWord, w ∈ lw_tbl := by decide +kernel
set_option maxRecDepth 20000 in
theorem zt_b42 : ∀ w ∈ ((zAt RX6 42 "java/lang/IllegalArgumentException" 7 Bundle.six).filter vx_no).filter (fun w => !goodWord w), w ∈ zFc := by decide +kernel
theorem zt_42 : zTh "java/lang/IllegalArgumentException" 38 42 7 Bundle.six := ⟨by decide +kernel, zt_k38, zt_i38, fun w h g => zU_in (zt_a42 w (List.mem_filter.mpr ⟨h, g⟩)) g, fun w h g => zt_b42 w (List.mem_filter.mpr ⟨h, by rw [g]; rfl⟩), by decide +kernel, by decide +kernel, by decide +kernel, by decide +kernel⟩
theorem zt_k116 : Cond.classLink RX6 116 "java/util/NoSuchElementException" ∈ zU := zm4 (i := 40) (by decide +kernel) rfl
theorem zt_i116 : Cond.initialized "java/util/NoSuchElementException" ∈ zU := zm1 (i := 19) (by decide +kernel) rfl
set_option maxRecDepth 20000 in
theorem zt_a120 : ∀ w ∈ ((zAt RX6 120 "java/util/NoSuchElementException" 13 zRx).filter vx_no).filter goodWord, w ∈ lw_tbl := by decide +kernel
set_option maxRecDepth 20000 in
theorem zt_b120 : ∀ w ∈ ((zAt RX6 120 "java/util/NoSuchElementException" 13 zRx).filter vx_no).filter (fun w => !goodWord w), w ∈ zFc := by decide +kernel
theorem zt_120 : zTh "java/util/NoSuchElementException" 116 120 13 zRx := ⟨by decide +kernel, zt_k116, zt_i116, fun w h g => zU_in (zt_a120 w (List.mem_filter.mpr ⟨h, g⟩)) g, fun w h g => zt_b120 w (List.mem_filter.mpr ⟨h, by rw [g]; rfl⟩), by decide +kernel, by decide +kernel, by decide +kernel, by decide +kernel⟩
section ZTW
variable {p : Program} {l : Launch} {e : Env} {R : Room} {s : State} {m : MethodId} {args : Array Value} {below : List Frame} {meth : Method} {c : Code} {H : Heap} {locs : List Loc} {cells slots : Nat}
set_option maxHeartbeats 1000000 in
/-- 'throw new E(text)' (follows vx_throwS, over zCtor; the text by a narrow or a wide index) -/
theorem zThrow {cc : ByteArray} {pc k : Nat} {free : Addr → Prop} {ls : Array Slot} {rest : List Value} {Qc : Array Value → State → Outcome → State → Prop} {XC : String → State → State → Prop} (hexec : p.tables.exec = Jvm.exec) (hb : c.code = cc) (hl : l.stackTraces = false) {E text : String} {ik is ic ix sa mc ms : Nat} {rx : ByteArray} {A : Nat → Prop}
    (hown : s.vm.findClass RX6 = some m.cls) (hw : ∀ w ∈ zU, w.before args s = true) (hca : zCa s) (hth : zTh E ik ic ix rx) (hstr : vk_R RX6 is text sa s)
    (hU : vx_Zq Bundle.tN "UNASSIGNED_STACK" Bundle.steD A s s.heap) (hN : vx_Zq Bundle.tN "SUPPRESSED_SENTINEL" Bundle.listD A s s.heap) (hS : va_S A s.heap H locs) (hsize : ls.size = c.maxLocals)
    (d0 : decode cc pc = .ok (.new ik, 3)) (d3 : decode cc (pc + 3) = .ok (.dup, 1)) (d4 : decode cc (pc + 4) = .ok (.ldc is, 2) ∧ k = 2 ∨ decode cc (pc + 4) = .ok (.ldc_w is, 3) ∧ k = 3) (d6 : decode cc (pc + 4 + k) = .ok (.invokespecial ic, 3)) (d9 : decode cc (pc + 4 + k + 3) = .ok (.athrow, 1))
    (hout : ∀ x ∈ c.exceptionTable.toList, covers x (pc + 4 + k + 3) = false)
    (hRframes : 5 < R.frames) (hRlocals : (rest.map fun v => v.category).sum + 82 ≤ R.locals) (hRcells : cells + 1 ≤ R.cells) (hRslots : slots + 6 ≤ R.slots) (hlocks : meth.locks = false)
    (hx : ∀ t : State, s.vm.Alike t.vm → H.size ≤ t.heap.size → (∀ q : Nat, q < H.size → t.heap[q]? = H[q]?) → XC E s t)
    (hf : ∀ z ∈ locs, free z.base) (hc : cells + 1 ≤ mc) (hs : slots + 6 ≤ ms) :
    W p l e R s m args below meth c H locs cells slots (vx_MQ below Qc XC args s mc ms free) (F0 m pc ls rest) := by
  intro T hT X
  obtain ⟨t1, t2, t3, t4, t5, t6, t7, t8, t9⟩ := hth
  have htr : e.platform.stackTraces = false := (show e.platform.stackTraces = l.stackTraces by rw [X.admits.platform]).trans hl
  have Y := vx_rebase X (R' := { frames := R.frames, locals := R.locals, cells := 1, slots := 6 }) (Nat.le_refl _) (Nat.le_refl _) hRcells hRslots
  obtain ⟨s', hA⟩ : ∃ z, z = (T.setVm s.vm).setFrames (.invoking m args :: below) := ⟨_, rfl⟩
  rw [← hA] at Y
  have hvm : s'.vm = s.vm := by rw [hA]; rfl
  have hhp : s'.heap = H := by rw [hA]; exact hT
  have hW0 : s.WarmedH s'.vm := by rw [hvm]; exact State.WarmedH.refl s
  have tab (w : Cond) (ht : w.onTables = true) (h9 : w.before args s = true) : w.before args s' = true := va_tabs ht hvm.symm h9
  have gd (w : Cond) (h9 : w ∈ zU) : w.before args s' = true := by
    rcases zU_gd h9 with g | ⟨ty, g⟩
    · exact tab w (by simp only [Bool.and_eq_true] at g; exact g.1) (hw w h9)
    · exact word_at hW0 (zU_gd h9) (hw w h9)
  have hat' : ∀ w ∈ (zAt RX6 ic E ix rx).filter vx_no, w.before args s' = true := fun w h9 => by
    cases hg : goodWord w
    · exact tab w (zFc_ok w (t5 w h9 hg)).2 (hca w (t5 w h9 hg) args)
    · exact gd w (t4 w h9 hg)
  have hU' : vx_Zq Bundle.tN "UNASSIGNED_STACK" Bundle.steD A s' s'.heap := by rw [hhp]; exact vx_Zq.moved hW0.alike (hU.kept hS.2.1)
  have hN' : vx_Zq Bundle.tN "SUPPRESSED_SENTINEL" Bundle.listD A s' s'.heap := by rw [hhp]; exact vx_Zq.moved hW0.alike (hN.kept hS.2.1)
  have h : ∀ w ∈ zAt RX6 ic E ix rx, w.before args s' = true := vx_own hat' (vx_isRefq hU'.1) (vx_isRefq hN'.1) hU'.2.word hN'.2.word
  have hown' : s'.vm.findClass RX6 = some m.cls := by rw [hvm]; exact hown
  have hins : (Cond.instantiable E 6).before args s' = true := h _ (by simp [zAt])
  obtain ⟨vm₁, cX, kX, hfX, hkX, -, -, X₁, st1⟩ := Y.newCold hexec (own := RX6) (C := E) (index := ik) (n := 6) hown' (gd _ t2) hins (gd _ t3)
    (g := F0 m pc ls rest) rfl (by rw [hb]; exact d0) (Nat.le_refl _) (Nat.le_refl _)
  generalize hT1 : (T.setVm vm₁).pushCell { cls := cX, slots := kX.instanceTypes.map defaultValue, vm := .none } = T1 at X₁ st1
  have hcat : (Value.ref T.heap.size).category = 1 := rfl
  have hcellA : T1.heap[T.heap.size]? = some (freshCell cX kX) := by rw [← hT1]; exact State.heap_pushCell_size _ _
  have d3' : decode c.code (pc + 3) = .ok (.dup, 1) := by rw [hb]; exact d3
  have hstr' : vk_R RX6 is text sa s' := vk_R.warm hW0 hstr
  obtain ⟨U, hsteps, hrun, hend, hW, hsame, ce, hce, hO1, hO2⟩ := zCtor X₁ hexec htr (own := RX6) (cls := E) (ic := ic) t6 t7 t8 t9 hown' t1 h (fun x hx => nomatch hx) hfX hkX hcellA (by rw [hhp, hT]; exact Nat.le_refl _) (msg := .ref sa) rfl
    (g := { method := m, pc := pc + 4 + k, locals := ls, stack := .ref sa :: .ref T.heap.size :: .ref T.heap.size :: rest, locked := none }) rfl hsize rfl rfl (rest := rest) rfl
    (by rw [hb]; exact d6) (by rw [hb]; exact d9) hout hRframes (by simp only [List.map_cons, List.sum_cons, hcat]; omega) hlocks
  obtain ⟨f1, f2⟩ := vx_frame hsame
  rw [hhp] at f1 f2
  have hWs : s.WarmedH U.vm := State.WarmedH.trans hW0 hW
  have hcl : s.vm.findClass E = some ce.cls := by
    rw [hO1, ← hvm]
    exact hfX
  have hall : s.sameButNew ({ U with vm := s.vm } : State) locs mc ms := by
    subst hA
    obtain ⟨e1, e2⟩ := hsame
    rw [State.setFrames_setFrames] at e1
    have h2 : (T.setVm s.vm).sameButNew ({ U with vm := s.vm } : State) [] (0 + 1) (0 + 6) := ⟨e1, e2⟩
    have h3 := X.same.trans h2
    rw [List.append_nil] at h3
    exact h3.mono hc hs
  refine ⟨U, ?_, .threw T.heap.size, hrun, hend, Or.inr ⟨T.heap.size, rfl, E, ce, locs, hx U hWs.alike f1 (fun q hq => f2 q hq (fun z hz => nomatch hz)), hce, hO2, hcl, hWs, hall, hf⟩⟩
  refine st1 _ ?_
  show Steps p.tables e below (T1.setTop { method := m, pc := pc + 3, locals := ls, stack := .ref T.heap.size :: rest, locked := none }) _
  jvm_step X₁.here [X₁.here.top, hexec, d3', Value.category]
  rcases d4 with ⟨d4, rfl⟩ | ⟨d4, rfl⟩
  · exact X₁.ldcString hexec (own := RX6) (text := text) (index := is) (a := sa) hown' hstr'.1 hstr'.2
      (g := { method := m, pc := pc + 4, locals := ls, stack := .ref T.heap.size :: .ref T.heap.size :: rest, locked := none }) rfl (by rw [hb]; exact d4) _ hsteps
  · exact X₁.ldcStringW hexec (own := RX6) (text := text) (index := is) (a := sa) hown' hstr'.1 hstr'.2
      (g := { method := m, pc := pc + 4, locals := ls, stack := .ref T.heap.size :: .ref T.heap.size :: rest, locked := none }) rfl (by rw [hb]; exact d4) _ hsteps
end ZTW
/-- a launch without traces, a body without handlers, the constants -/
def zGt : zGv := fun l s c A adr => zS s A adr ∧ l.stackTraces = false ∧ (∀ x ∈ c.exceptionTable.toList, False) ∧ zCa s
theorem hGt : ∀ l s c A adr, zGt l s c A adr → zS s A adr := fun _ _ _ _ _ h => h.1
def zQx (cs : zH → List aC) (X : String → zH → Prop) (D : va_G) (cA : Nat → ClassId) (adr : Nat → Nat) (A : Nat → Prop) : String → State → State → Prop := vx_X (fun u : String × zH => X u.1 u.2) (fun E (u : String × zH) t => E = u.1 ∧ zB cs D cA adr u.2 A t) A
def zMxi (cs : zH → List aC) (y : MethodName) (b : ByteArray) (nL : Nat) (ret : FieldType) (rm : Room) (as : List Value) (h : zH) (Q : Int → zH → Prop) (X : String → zH → Prop) : Prop :=
  ∀ (l : Launch), l.stackTraces = false → ∀ (D : va_G) (cA : Nat → ClassId) (adr : Nat → Nat) (sz : Nat), vx_Met l y (zTs y b nL (some ret)) rm (va_Pc (as.map (cvv adr)) (fun U => U.heap.size = sz ∧ zB cs D cA adr h (fun _ => True) U ∧ zS U (va_A (zW cA adr 0 (cs h)) sz) adr ∧ zCa U)) (zQi cs Q D cA adr (va_A (zW cA adr 0 (cs h)) sz)) (zQx cs X D cA adr (va_A (zW cA adr 0 (cs h)) sz)) 1 6 (va_A (zW cA adr 0 (cs h)) sz)
def zEx (cs : zH → List aC) (Q : Int → zH → Prop) (X : String → zH → Prop) : zF := fun below args s A D cA adr => vx_MQ below (zQi cs Q D cA adr A) (zQx cs X D cA adr A) args s 1 6 A
theorem zMxi_of {cs : zH → List aC} {y : MethodName} {b : ByteArray} {nL : Nat} {r : FieldType} {rm : Room} {as : List Value} {h : zH} {Q : Int → zH → Prop} {X : String → zH → Prop} (ls0 : List (Option Value)) (hy : plainName y.cls = true) (hln : ∀ adr : Nat → Nat, (lg_sl (as.map (cvv adr))).length ≤ nL) (hla : ∀ adr : Nat → Nat, lv_args 0 (as.map (cvv adr)) = zL adr 0 ls0)
    (k : zX cs zGt y.cls b nL (some r) rm 0 ls0 [] h (zEx cs Q X)) : zMxi cs y b nL r rm as h Q X := by
  intro l hl0 D cA adr sz
  refine vx_ofW (cc := b) (maxL := nL) (ret := some r) hy rfl ?_
  intro p e s m args below meth c s₁ B hml ht hv
  obtain ⟨rfl, hsz, ⟨hO, hP, hK, hD0⟩, hZ, hCa⟩ := hv
  have hts := atoms_spec (ws := zTs y b nL (some r)) B.pre
  subst hsz
  have hl := lv_entry (as.map (cvv adr)) (n := nL) (hln adr)
  rw [lg_entry_eq]
  rw [hla adr] at hl
  exact k p l e s m _ below meth c D cA adr _ s.heap [] _ ⟨B.exec, B.bytes, B.returns, hml, findClass_of_methodNamed B.named, fun w hw => hts w (List.mem_cons_of_mem _ hw), B.notSynchronized⟩ (fun q hq => Or.inr hq) ⟨hZ, hl0, ht, hCa⟩ hO hK hP hD0.self va_S.rf hl
section ZT
variable {cs : zH → List aC} {own : String} {cc : ByteArray} {nL : Nat} {ret : Option FieldType} {rm : Room} {pc k : Nat} {ls : List (Option Value)} {st : List Value} {h : zH} {Q : Int → zH → Prop} {X : String → zH → Prop}
theorem zx_xiret {z : Int} (hd : decode cc pc = .ok (.ireturn, 1)) (rz : zOk h → -2147483648 ≤ z ∧ z < 2147483648) (hq : Q z h) : zX cs zGt own cc nL (some .int) rm pc ls [.int (iI z)] h (zEx cs Q X) := by
  intro p l e s m args below meth c D cA adr A H locs lsa C hA hG hO hK hP hD hS hl
  have hlocks : meth.locks = false := C.2.2.2.2.2.2
  refine W.widen (k := 1) (n := 6) (by omega) (by omega) (vx_ret ?_)
  exact W.iret (v := iI z) C.1 C.2.1 C.2.2.1 (fun t ht hW => ⟨⟨iI z, h, rfl, ⟨z, rfl, rz hO, hq⟩, ⟨hO, by rw [ht]; exact hP, va_K.moved hW.alike hK, hD⟩⟩, hS.F ht⟩) hS.2.2 hd
theorem zx_xzret {z : Int} (hd : decode cc pc = .ok (.ireturn, 1)) (hz : z = 0 ∨ z = 1) (hq : Q z h) : zX cs zGt own cc nL (some .boolean) rm pc ls [.int (iI z)] h (zEx cs Q X) := by
  intro p l e s m args below meth c D cA adr A H locs lsa C hA hG hO hK hP hD hS hl
  have hlocks : meth.locks = false := C.2.2.2.2.2.2
  refine W.widen (k := 1) (n := 6) (by omega) (by omega) (vx_ret ?_)
  exact W.zret (v := iI z) C.1 C.2.1 C.2.2.1 (by rcases hz with rfl | rfl <;> decide +kernel) (fun t ht hW => ⟨⟨iI z, h, rfl, ⟨z, rfl, by omega, hq⟩, ⟨hO, by rw [ht]; exact hP, va_K.moved hW.alike hK, hD⟩⟩, hS.F ht⟩) hS.2.2 hd
theorem zx_throw {E text : String} {ik is ic ix : Nat} {rx : ByteArray} (hth : zTh E ik ic ix rx) (htx : (is, text) ∈ zT6)
    (d0 : decode cc pc = .ok (.new ik, 3)) (d3 : decode cc (pc + 3) = .ok (.dup, 1)) (d4 : decode cc (pc + 4) = .ok (.ldc is, 2) ∧ k = 2 ∨ decode cc (pc + 4) = .ok (.ldc_w is, 3) ∧ k = 3) (d6 : decode cc (pc + 4 + k) = .ok (.invokespecial ic, 3)) (d9 : decode cc (pc + 4 + k + 3) = .ok (.athrow, 1))
    (hR : 6 ≤ rm.frames ∧ 100 ≤ rm.locals ∧ rm.cells = 1 ∧ rm.slots = 6) (hcat : (st.map fun v => v.category).sum ≤ 8) (hx : X E h) : zX cX zGt RX6 cc nL ret rm pc ls st h (zEx cX Q X) := by
  intro p l e s m args below meth c D cA adr A H locs lsa C hA hG hO hK hP hD hS hl
  obtain ⟨g1, g2, g3, g4⟩ := hG
  obtain ⟨a, ha⟩ := g1.2.2.2.2.2 _ htx
  obtain ⟨hR1, hR2, hR3, hR4⟩ := hR
  refine zThrow (A := A) C.1 C.2.1 g2 C.2.2.2.2.1 C.2.2.2.2.2.1 g4 hth ha g1.2.2.2.1 g1.2.2.2.2.1 hS (hl.1.trans C.2.2.2.1.symm) d0 d3 d4 d6 d9 (fun x hx9 => absurd (g3 x hx9) id) ?_ ?_ ?_ ?_ C.2.2.2.2.2.2 ?_ hS.2.2 (Nat.le_refl _) (Nat.le_refl _)
  · omega
  · rw [zCats]; omega
  · omega
  · omega
  · intro t h1 h2 h3
    exact ⟨(E, h), hx, ⟨rfl, hO, hP.kept (fun k q hk9 => h3 q.1 (vx_lt hP hk9)), va_K.moved h1 hK, hD⟩, Nat.le_trans hS.1 h2, fun q h4 h5 => (h3 q (Nat.lt_of_lt_of_le h4 hS.1)).trans (hS.2.1 q h4 h5)⟩
end ZT
/-- how a result with a thrown code is told: the exceptions' names by their codes -/
def zQn (r : zH × Int × Int) : Int → zH → Prop := fun z h2 => r.2.1 = 0 ∧ z = r.2.2 ∧ h2 = r.1
def zXn (ns : List String) (r : zH × Int × Int) : String → zH → Prop := fun E h2 => ∃ k : Nat, ns[k]? = some E ∧ r.2.1 = (k : Int) + 1 ∧ h2 = r.1

