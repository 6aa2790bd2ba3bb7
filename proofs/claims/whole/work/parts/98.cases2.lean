/-! the law: its questions -/
theorem PW_45 {m x : zH} {T : Int} (p : PW m x T) : gs x 45 = 0 ∨ gs x 45 = 1 := by
  rw [sg (PW_sim p).1 (a := 26) (b := 45) (by decide)]
  exact PW_26 p
set_option maxRecDepth 100000 in
theorem W_errorCode {tab : List ExceptionTableEntry} {L : Nat} {xs : Nat → Int32} {hx hm : zH} {o : Nat → Int64} {T T2 i : Int} {c9 s9 : Nat} {E : zF} (r : REL hm hx T) (hT : T + 60000 = T2) (hc : c9 ≤ room_1.cells ∧ s9 ≤ room_1.slots) (k : lK tab L xs i c9 s9 T2 E) : lX (lGL L xs) tab RL cL_law 7 (some .boolean) room_1 c9 s9 384 (lLs i) [] hx hm o E := by
  unfold lLs
  unfold lK lLs at k
  refine lx_aload_n (pc := 384) dL_law_384 rfl rfl ?_
  refine lx_qx (pc := 385) (as := []) (n := 0) (st := []) dL_law_385 zl_L_104 zc_X6_errorCode ⟨rfl, by decide +kernel⟩ ⟨rfl, rfl⟩ ⟨Nat.le_of_ble_eq_true rfl, Nat.le_of_ble_eq_true rfl⟩ (C_X6_errorCode) rfl (by decide) hc (fun z5 h5 u5 v5 q5 => ?_)
  obtain ⟨e5, f5⟩ := q5
  refine lx_aload_n (pc := 388) dL_law_388 rfl rfl ?_
  refine lx_mv (pc := 389) (as := []) (n := 0) (st := [.int (iI z5)]) dL_law_389 zl_L_107 zc_X7_errorCode ⟨rfl, by decide +kernel⟩ ⟨rfl, rfl⟩ ⟨Nat.le_of_ble_eq_true rfl, Nat.le_of_ble_eq_true rfl⟩ (C_X7_errorCode) rfl (fun _ => rfl) (Nat.le_of_ble_eq_true rfl) hc (fun z6 h6 u6 v6 q6 => ?_)
  obtain ⟨rfl, rfl⟩ := q6
  subst e5 f5
  have aq := (B_err r).1
  have fin := k _ _ o c9 s9 (REL_mono aq.2 (by omega)) (by omega) (by omega)
  refine lx_icmp_eq (pc := 392) (tgt := 1783) dL_law_392 (by decide) (fun _ => ⟨u5, v5⟩) (fun _ => ⟨u6, v6⟩) (fun c1 => ?_) (fun c1 => absurd aq.1.symm c1)
  exact fin
set_option maxRecDepth 100000 in
theorem W_errorPosition {tab : List ExceptionTableEntry} {L : Nat} {xs : Nat → Int32} {hx hm : zH} {o : Nat → Int64} {T T2 i : Int} {c9 s9 : Nat} {E : zF} (r : REL hm hx T) (hT : T + 60000 = T2) (hc : c9 ≤ room_1.cells ∧ s9 ≤ room_1.slots) (k : lK tab L xs i c9 s9 T2 E) : lX (lGL L xs) tab RL cL_law 7 (some .boolean) room_1 c9 s9 397 (lLs i) [] hx hm o E := by
  unfold lLs
  unfold lK lLs at k
  refine lx_aload_n (pc := 397) dL_law_397 rfl rfl ?_
  refine lx_qx (pc := 398) (as := []) (n := 0) (st := []) dL_law_398 zl_L_108 zc_X6_errorPosition ⟨rfl, by decide +kernel⟩ ⟨rfl, rfl⟩ ⟨Nat.le_of_ble_eq_true rfl, Nat.le_of_ble_eq_true rfl⟩ (C_X6_errorPosition) rfl (by decide) hc (fun z5 h5 u5 v5 q5 => ?_)
  obtain ⟨e5, f5⟩ := q5
  refine lx_aload_n (pc := 401) dL_law_401 rfl rfl ?_
  refine lx_mv (pc := 402) (as := []) (n := 0) (st := [.int (iI z5)]) dL_law_402 zl_L_111 zc_X7_errorPosition ⟨rfl, by decide +kernel⟩ ⟨rfl, rfl⟩ ⟨Nat.le_of_ble_eq_true rfl, Nat.le_of_ble_eq_true rfl⟩ (C_X7_errorPosition) rfl (fun _ => rfl) (Nat.le_of_ble_eq_true rfl) hc (fun z6 h6 u6 v6 q6 => ?_)
  obtain ⟨rfl, rfl⟩ := q6
  subst e5 f5
  have aq := (B_err r).2
  have fin := k _ _ o c9 s9 (REL_mono aq.2 (by omega)) (by omega) (by omega)
  refine lx_icmp_eq (pc := 405) (tgt := 1783) dL_law_405 (by decide) (fun _ => ⟨u5, v5⟩) (fun _ => ⟨u6, v6⟩) (fun c1 => ?_) (fun c1 => absurd aq.1.symm c1)
  exact fin
set_option maxRecDepth 100000 in
theorem W_isOn {tab : List ExceptionTableEntry} {L : Nat} {xs : Nat → Int32} {hx hm : zH} {o : Nat → Int64} {T T2 i : Int} {c9 s9 : Nat} {E : zF} (r : REL hm hx T) (hT : T + 60000 = T2) (hc : c9 ≤ room_1.cells ∧ s9 ≤ room_1.slots) (k : lK tab L xs i c9 s9 T2 E) : lX (lGL L xs) tab RL cL_law 7 (some .boolean) room_1 c9 s9 926 (lLs i) [] hx hm o E := by
  unfold lLs
  unfold lK lLs at k
  refine lx_aload_n (pc := 926) dL_law_926 rfl rfl ?_
  refine lx_qx (pc := 927) (as := []) (n := 0) (st := []) dL_law_927 zl_L_142 zc_X6_isOn ⟨rfl, by decide +kernel⟩ ⟨rfl, rfl⟩ ⟨Nat.le_of_ble_eq_true rfl, Nat.le_of_ble_eq_true rfl⟩ (C_X6_isOn (PW_45 r.1)) rfl (by decide) hc (fun z5 h5 u5 v5 q5 => ?_)
  obtain ⟨e5, f5⟩ := q5
  refine lx_aload_n (pc := 930) dL_law_930 rfl rfl ?_
  refine lx_mv (pc := 931) (as := []) (n := 0) (st := [.int (iI z5)]) dL_law_931 zl_L_146 zc_X7_isOn ⟨rfl, by decide +kernel⟩ ⟨rfl, rfl⟩ ⟨Nat.le_of_ble_eq_true rfl, Nat.le_of_ble_eq_true rfl⟩ (C_X7_isOn (PW_26 r.1)) rfl (fun _ => rfl) (Nat.le_of_ble_eq_true rfl) hc (fun z6 h6 u6 v6 q6 => ?_)
  obtain ⟨rfl, rfl⟩ := q6
  subst e5 f5
  have aq := (B_num r (a := 26) (b := 45) (by decide))
  have fin := k _ _ o c9 s9 (REL_mono aq.2 (by omega)) (by omega) (by omega)
  refine lx_icmp_eq (pc := 934) (tgt := 1783) dL_law_934 (by decide) (fun _ => ⟨u5, v5⟩) (fun _ => ⟨u6, v6⟩) (fun c1 => ?_) (fun c1 => absurd aq.1.symm c1)
  exact fin
set_option maxRecDepth 100000 in
theorem W_logicalPages {tab : List ExceptionTableEntry} {L : Nat} {xs : Nat → Int32} {hx hm : zH} {o : Nat → Int64} {T T2 i : Int} {c9 s9 : Nat} {E : zF} (r : REL hm hx T) (hT : T + 60000 = T2) (hc : c9 ≤ room_1.cells ∧ s9 ≤ room_1.slots) (k : lK tab L xs i c9 s9 T2 E) : lX (lGL L xs) tab RL cL_law 7 (some .boolean) room_1 c9 s9 1083 (lLs i) [] hx hm o E := by
  unfold lLs
  unfold lK lLs at k
  refine lx_aload_n (pc := 1083) dL_law_1083 rfl rfl ?_
  refine lx_qx (pc := 1084) (as := []) (n := 0) (st := []) dL_law_1084 zl_L_156 zc_X6_logicalPages ⟨rfl, by decide +kernel⟩ ⟨rfl, rfl⟩ ⟨Nat.le_of_ble_eq_true rfl, Nat.le_of_ble_eq_true rfl⟩ (C_X6_logicalPages) rfl (by decide) hc (fun z5 h5 u5 v5 q5 => ?_)
  obtain ⟨e5, f5⟩ := q5
  refine lx_aload_n (pc := 1087) dL_law_1087 rfl rfl ?_
  refine lx_mv (pc := 1088) (as := []) (n := 0) (st := [.int (iI z5)]) dL_law_1088 zl_L_159 zc_X7_logicalPages ⟨rfl, by decide +kernel⟩ ⟨rfl, rfl⟩ ⟨Nat.le_of_ble_eq_true rfl, Nat.le_of_ble_eq_true rfl⟩ (C_X7_logicalPages) rfl (fun _ => rfl) (Nat.le_of_ble_eq_true rfl) hc (fun z6 h6 u6 v6 q6 => ?_)
  obtain ⟨rfl, rfl⟩ := q6
  subst e5 f5
  have aq := (B_num r (a := 3) (b := 104) (by decide))
  have fin := k _ _ o c9 s9 (REL_mono aq.2 (by omega)) (by omega) (by omega)
  refine lx_icmp_eq (pc := 1091) (tgt := 1783) dL_law_1091 (by decide) (fun _ => ⟨u5, v5⟩) (fun _ => ⟨u6, v6⟩) (fun c1 => ?_) (fun c1 => absurd aq.1.symm c1)
  exact fin
set_option maxRecDepth 100000 in
theorem W_blocks {tab : List ExceptionTableEntry} {L : Nat} {xs : Nat → Int32} {hx hm : zH} {o : Nat → Int64} {T T2 i : Int} {c9 s9 : Nat} {E : zF} (r : REL hm hx T) (hT : T + 60000 = T2) (hc : c9 ≤ room_1.cells ∧ s9 ≤ room_1.slots) (k : lK tab L xs i c9 s9 T2 E) : lX (lGL L xs) tab RL cL_law 7 (some .boolean) room_1 c9 s9 1096 (lLs i) [] hx hm o E := by
  unfold lLs
  unfold lK lLs at k
  refine lx_aload_n (pc := 1096) dL_law_1096 rfl rfl ?_
  refine lx_qx (pc := 1097) (as := []) (n := 0) (st := []) dL_law_1097 zl_L_160 zc_X6_blocks ⟨rfl, by decide +kernel⟩ ⟨rfl, rfl⟩ ⟨Nat.le_of_ble_eq_true rfl, Nat.le_of_ble_eq_true rfl⟩ (C_X6_blocks) rfl (by decide) hc (fun z5 h5 u5 v5 q5 => ?_)
  obtain ⟨e5, f5⟩ := q5
  refine lx_aload_n (pc := 1100) dL_law_1100 rfl rfl ?_
  refine lx_mv (pc := 1101) (as := []) (n := 0) (st := [.int (iI z5)]) dL_law_1101 zl_L_163 zc_X7_blocks ⟨rfl, by decide +kernel⟩ ⟨rfl, rfl⟩ ⟨Nat.le_of_ble_eq_true rfl, Nat.le_of_ble_eq_true rfl⟩ (C_X7_blocks) rfl (fun _ => rfl) (Nat.le_of_ble_eq_true rfl) hc (fun z6 h6 u6 v6 q6 => ?_)
  obtain ⟨rfl, rfl⟩ := q6
  subst e5 f5
  have aq := (B_num r (a := 1) (b := 70) (by decide))
  have fin := k _ _ o c9 s9 (REL_mono aq.2 (by omega)) (by omega) (by omega)
  refine lx_icmp_eq (pc := 1104) (tgt := 1783) dL_law_1104 (by decide) (fun _ => ⟨u5, v5⟩) (fun _ => ⟨u6, v6⟩) (fun c1 => ?_) (fun c1 => absurd aq.1.symm c1)
  exact fin
set_option maxRecDepth 100000 in
theorem W_pagesPerBlock {tab : List ExceptionTableEntry} {L : Nat} {xs : Nat → Int32} {hx hm : zH} {o : Nat → Int64} {T T2 i : Int} {c9 s9 : Nat} {E : zF} (r : REL hm hx T) (hT : T + 60000 = T2) (hc : c9 ≤ room_1.cells ∧ s9 ≤ room_1.slots) (k : lK tab L xs i c9 s9 T2 E) : lX (lGL L xs) tab RL cL_law 7 (some .boolean) room_1 c9 s9 1109 (lLs i) [] hx hm o E := by
  unfold lLs
  unfold lK lLs at k
  refine lx_aload_n (pc := 1109) dL_law_1109 rfl rfl ?_
  refine lx_qx (pc := 1110) (as := []) (n := 0) (st := []) dL_law_1110 zl_L_164 zc_X6_pagesPerBlock ⟨rfl, by decide +kernel⟩ ⟨rfl, rfl⟩ ⟨Nat.le_of_ble_eq_true rfl, Nat.le_of_ble_eq_true rfl⟩ (C_X6_pagesPerBlock) rfl (by decide) hc (fun z5 h5 u5 v5 q5 => ?_)
  obtain ⟨e5, f5⟩ := q5
  refine lx_aload_n (pc := 1113) dL_law_1113 rfl rfl ?_
  refine lx_mv (pc := 1114) (as := []) (n := 0) (st := [.int (iI z5)]) dL_law_1114 zl_L_167 zc_X7_pagesPerBlock ⟨rfl, by decide +kernel⟩ ⟨rfl, rfl⟩ ⟨Nat.le_of_ble_eq_true rfl, Nat.le_of_ble_eq_true rfl⟩ (C_X7_pagesPerBlock) rfl (fun _ => rfl) (Nat.le_of_ble_eq_true rfl) hc (fun z6 h6 u6 v6 q6 => ?_)
  obtain ⟨rfl, rfl⟩ := q6
  subst e5 f5
  have aq := (B_num r (a := 2) (b := 71) (by decide))
  have fin := k _ _ o c9 s9 (REL_mono aq.2 (by omega)) (by omega) (by omega)
  refine lx_icmp_eq (pc := 1117) (tgt := 1783) dL_law_1117 (by decide) (fun _ => ⟨u5, v5⟩) (fun _ => ⟨u6, v6⟩) (fun c1 => ?_) (fun c1 => absurd aq.1.symm c1)
  exact fin
set_option maxRecDepth 100000 in
theorem W_transactions {tab : List ExceptionTableEntry} {L : Nat} {xs : Nat → Int32} {hx hm : zH} {o : Nat → Int64} {T T2 i : Int} {c9 s9 : Nat} {E : zF} (r : REL hm hx T) (hT : T + 60000 = T2) (hc : c9 ≤ room_1.cells ∧ s9 ≤ room_1.slots) (k : lK tab L xs i c9 s9 T2 E) : lX (lGL L xs) tab RL cL_law 7 (some .boolean) room_1 c9 s9 1290 (lLs i) [] hx hm o E := by
  unfold lLs
  unfold lK lLs at k
  refine lx_aload_n (pc := 1290) dL_law_1290 rfl rfl ?_
  refine lx_qx (pc := 1291) (as := []) (n := 0) (st := []) dL_law_1291 zl_L_177 zc_X6_transactions ⟨rfl, by decide +kernel⟩ ⟨rfl, rfl⟩ ⟨Nat.le_of_ble_eq_true rfl, Nat.le_of_ble_eq_true rfl⟩ (C_X6_transactions) rfl (by decide) hc (fun z5 h5 u5 v5 q5 => ?_)
  obtain ⟨e5, f5⟩ := q5
  refine lx_aload_n (pc := 1294) dL_law_1294 rfl rfl ?_
  refine lx_mv (pc := 1295) (as := []) (n := 0) (st := [.int (iI z5)]) dL_law_1295 zl_L_180 zc_X7_transactions ⟨rfl, by decide +kernel⟩ ⟨rfl, rfl⟩ ⟨Nat.le_of_ble_eq_true rfl, Nat.le_of_ble_eq_true rfl⟩ (C_X7_transactions) rfl (fun _ => rfl) (Nat.le_of_ble_eq_true rfl) hc (fun z6 h6 u6 v6 q6 => ?_)
  obtain ⟨rfl, rfl⟩ := q6
  subst e5 f5
  have aq := (B_num r (a := 38) (b := 81) (by decide))
  have fin := k _ _ o c9 s9 (REL_mono aq.2 (by omega)) (by omega) (by omega)
  refine lx_icmp_eq (pc := 1298) (tgt := 1783) dL_law_1298 (by decide) (fun _ => ⟨u5, v5⟩) (fun _ => ⟨u6, v6⟩) (fun c1 => ?_) (fun c1 => absurd aq.1.symm c1)
  exact fin
set_option maxRecDepth 100000 in
theorem W_readers {tab : List ExceptionTableEntry} {L : Nat} {xs : Nat → Int32} {hx hm : zH} {o : Nat → Int64} {T T2 i : Int} {c9 s9 : Nat} {E : zF} (r : REL hm hx T) (hT : T + 60000 = T2) (hc : c9 ≤ room_1.cells ∧ s9 ≤ room_1.slots) (k : lK tab L xs i c9 s9 T2 E) : lX (lGL L xs) tab RL cL_law 7 (some .boolean) room_1 c9 s9 1415 (lLs i) [] hx hm o E := by
  unfold lLs
  unfold lK lLs at k
  refine lx_aload_n (pc := 1415) dL_law_1415 rfl rfl ?_
  refine lx_qx (pc := 1416) (as := []) (n := 0) (st := []) dL_law_1416 zl_L_187 zc_X6_readers ⟨rfl, by decide +kernel⟩ ⟨rfl, rfl⟩ ⟨Nat.le_of_ble_eq_true rfl, Nat.le_of_ble_eq_true rfl⟩ (C_X6_readers) rfl (by decide) hc (fun z5 h5 u5 v5 q5 => ?_)
  obtain ⟨e5, f5⟩ := q5
  refine lx_aload_n (pc := 1419) dL_law_1419 rfl rfl ?_
  refine lx_mv (pc := 1420) (as := []) (n := 0) (st := [.int (iI z5)]) dL_law_1420 zl_L_190 zc_X7_readers ⟨rfl, by decide +kernel⟩ ⟨rfl, rfl⟩ ⟨Nat.le_of_ble_eq_true rfl, Nat.le_of_ble_eq_true rfl⟩ (C_X7_readers) rfl (fun _ => rfl) (Nat.le_of_ble_eq_true rfl) hc (fun z6 h6 u6 v6 q6 => ?_)
  obtain ⟨rfl, rfl⟩ := q6
  subst e5 f5
  have aq := (B_readers r)
  have fin := k _ _ o c9 s9 (REL_mono aq.2 (by omega)) (by omega) (by omega)
  refine lx_icmp_eq (pc := 1423) (tgt := 1783) dL_law_1423 (by decide) (fun _ => ⟨u5, v5⟩) (fun _ => ⟨u6, v6⟩) (fun c1 => ?_) (fun c1 => absurd aq.1.symm c1)
  exact fin
set_option maxRecDepth 100000 in
theorem W_activeBlock {tab : List ExceptionTableEntry} {L : Nat} {xs : Nat → Int32} {hx hm : zH} {o : Nat → Int64} {T T2 i : Int} {c9 s9 : Nat} {E : zF} (r : REL hm hx T) (hT : T + 60000 = T2) (hc : c9 ≤ room_1.cells ∧ s9 ≤ room_1.slots) (k : lK tab L xs i c9 s9 T2 E) : lX (lGL L xs) tab RL cL_law 7 (some .boolean) room_1 c9 s9 1428 (lLs i) [] hx hm o E := by
  unfold lLs
  unfold lK lLs at k
  refine lx_aload_n (pc := 1428) dL_law_1428 rfl rfl ?_
  refine lx_qx (pc := 1429) (as := []) (n := 0) (st := []) dL_law_1429 zl_L_191 zc_X6_activeBlock ⟨rfl, by decide +kernel⟩ ⟨rfl, rfl⟩ ⟨Nat.le_of_ble_eq_true rfl, Nat.le_of_ble_eq_true rfl⟩ (C_X6_activeBlock) rfl (by decide) hc (fun z5 h5 u5 v5 q5 => ?_)
  obtain ⟨e5, f5⟩ := q5
  refine lx_aload_n (pc := 1432) dL_law_1432 rfl rfl ?_
  refine lx_mv (pc := 1433) (as := []) (n := 0) (st := [.int (iI z5)]) dL_law_1433 zl_L_194 zc_X7_activeBlock ⟨rfl, by decide +kernel⟩ ⟨rfl, rfl⟩ ⟨Nat.le_of_ble_eq_true rfl, Nat.le_of_ble_eq_true rfl⟩ (C_X7_activeBlock) rfl (fun _ => rfl) (Nat.le_of_ble_eq_true rfl) hc (fun z6 h6 u6 v6 q6 => ?_)
  obtain ⟨rfl, rfl⟩ := q6
  subst e5 f5
  have aq := (B_num r (a := 32) (b := 46) (by decide))
  have fin := k _ _ o c9 s9 (REL_mono aq.2 (by omega)) (by omega) (by omega)
  refine lx_icmp_eq (pc := 1436) (tgt := 1783) dL_law_1436 (by decide) (fun _ => ⟨u5, v5⟩) (fun _ => ⟨u6, v6⟩) (fun c1 => ?_) (fun c1 => absurd aq.1.symm c1)
  exact fin
set_option maxRecDepth 100000 in
theorem W_freeBlocks {tab : List ExceptionTableEntry} {L : Nat} {xs : Nat → Int32} {hx hm : zH} {o : Nat → Int64} {T T2 i : Int} {c9 s9 : Nat} {E : zF} (r : REL hm hx T) (hT : T + 60000 = T2) (hc : c9 ≤ room_1.cells ∧ s9 ≤ room_1.slots) (k : lK tab L xs i c9 s9 T2 E) : lX (lGL L xs) tab RL cL_law 7 (some .boolean) room_1 c9 s9 1441 (lLs i) [] hx hm o E := by
  unfold lLs
  unfold lK lLs at k
  refine lx_aload_n (pc := 1441) dL_law_1441 rfl rfl ?_
  refine lx_qx (pc := 1442) (as := []) (n := 0) (st := []) dL_law_1442 zl_L_195 zc_X6_freeBlocks ⟨rfl, by decide +kernel⟩ ⟨rfl, rfl⟩ ⟨Nat.le_of_ble_eq_true rfl, Nat.le_of_ble_eq_true rfl⟩ (C_X6_freeBlocks (PW_sim r.1).2.1) rfl (by decide) hc (fun z5 h5 u5 v5 q5 => ?_)
  obtain ⟨e5, f5⟩ := q5
  refine lx_aload_n (pc := 1445) dL_law_1445 rfl rfl ?_
  refine lx_mv (pc := 1446) (as := []) (n := 0) (st := [.int (iI z5)]) dL_law_1446 zl_L_198 zc_X7_freeBlocks ⟨rfl, by decide +kernel⟩ ⟨rfl, rfl⟩ ⟨Nat.le_of_ble_eq_true rfl, Nat.le_of_ble_eq_true rfl⟩ (C_X7_freeBlocks (PW_sim r.1).2.2.1.1) rfl (fun _ => rfl) (Nat.le_of_ble_eq_true rfl) hc (fun z6 h6 u6 v6 q6 => ?_)
  obtain ⟨rfl, rfl⟩ := q6
  subst e5 f5
  have aq := (B_freeBlocks r)
  have fin := k _ _ o c9 s9 (REL_mono aq.2 (by omega)) (by omega) (by omega)
  refine lx_icmp_eq (pc := 1449) (tgt := 1783) dL_law_1449 (by decide) (fun _ => ⟨u5, v5⟩) (fun _ => ⟨u6, v6⟩) (fun c1 => ?_) (fun c1 => absurd aq.1.symm c1)
  exact fin
set_option maxRecDepth 100000 in
theorem W_validPages {tab : List ExceptionTableEntry} {L : Nat} {xs : Nat → Int32} {hx hm : zH} {o : Nat → Int64} {T T2 i : Int} {c9 s9 : Nat} {E : zF} (r : REL hm hx T) (hT : T + 60000 = T2) (hc : c9 ≤ room_1.cells ∧ s9 ≤ room_1.slots) (k : lK tab L xs i c9 s9 T2 E) : lX (lGL L xs) tab RL cL_law 7 (some .boolean) room_1 c9 s9 1454 (lLs i) [] hx hm o E := by
  unfold lLs
  unfold lK lLs at k
  refine lx_aload_n (pc := 1454) dL_law_1454 rfl rfl ?_
  refine lx_qx (pc := 1455) (as := []) (n := 0) (st := []) dL_law_1455 zl_L_199 zc_X6_validPages ⟨rfl, by decide +kernel⟩ ⟨rfl, rfl⟩ ⟨Nat.le_of_ble_eq_true rfl, Nat.le_of_ble_eq_true rfl⟩ (C_X6_validPages (PW_sim r.1).2.1) rfl (by decide) hc (fun z5 h5 u5 v5 q5 => ?_)
  obtain ⟨e5, f5⟩ := q5
  refine lx_aload_n (pc := 1458) dL_law_1458 rfl rfl ?_
  refine lx_mv (pc := 1459) (as := []) (n := 0) (st := [.int (iI z5)]) dL_law_1459 zl_L_202 zc_X7_validPages ⟨rfl, by decide +kernel⟩ ⟨rfl, rfl⟩ ⟨Nat.le_of_ble_eq_true rfl, Nat.le_of_ble_eq_true rfl⟩ (C_X7_validPages (PW_sim r.1).2.2.1.1 (PW_sim r.1).2.2.1.2.1) rfl (fun _ => rfl) (Nat.le_of_ble_eq_true rfl) hc (fun z6 h6 u6 v6 q6 => ?_)
  obtain ⟨rfl, rfl⟩ := q6
  subst e5 f5
  have aq := (B_validPages r)
  have fin := k _ _ o c9 s9 (REL_mono aq.2 (by omega)) (by omega) (by omega)
  refine lx_icmp_eq (pc := 1462) (tgt := 1783) dL_law_1462 (by decide) (fun _ => ⟨u5, v5⟩) (fun _ => ⟨u6, v6⟩) (fun c1 => ?_) (fun c1 => absurd aq.1.symm c1)
  exact fin
set_option maxRecDepth 100000 in
theorem W_programs {tab : List ExceptionTableEntry} {L : Nat} {xs : Nat → Int32} {hx hm : zH} {o : Nat → Int64} {T T2 i : Int} {c9 s9 : Nat} {E : zF} (r : REL hm hx T) (hT : T + 60000 = T2) (hc : c9 ≤ room_1.cells ∧ s9 ≤ room_1.slots) (k : lK tab L xs i c9 s9 T2 E) : lX (lGL L xs) tab RL cL_law 7 (some .boolean) room_1 c9 s9 1666 (lLs i) [] hx hm o E := by
  unfold lLs
  unfold lK lLs at k
  refine lx_aload_n (pc := 1666) dL_law_1666 rfl rfl ?_
  refine lx_qx (pc := 1667) (as := []) (n := 0) (st := []) dL_law_1667 zl_L_212 zc_X6_programs ⟨rfl, by decide +kernel⟩ ⟨rfl, rfl⟩ ⟨Nat.le_of_ble_eq_true rfl, Nat.le_of_ble_eq_true rfl⟩ (C_X6_programs) rfl (by decide) hc (fun z5 h5 u5 v5 q5 => ?_)
  obtain ⟨e5, f5⟩ := q5
  refine lx_aload_n (pc := 1670) dL_law_1670 rfl rfl ?_
  refine lx_mv (pc := 1671) (as := []) (n := 0) (st := [.int (iI z5)]) dL_law_1671 zl_L_215 zc_X7_programs ⟨rfl, by decide +kernel⟩ ⟨rfl, rfl⟩ ⟨Nat.le_of_ble_eq_true rfl, Nat.le_of_ble_eq_true rfl⟩ (C_X7_programs) rfl (fun _ => rfl) (Nat.le_of_ble_eq_true rfl) hc (fun z6 h6 u6 v6 q6 => ?_)
  obtain ⟨rfl, rfl⟩ := q6
  subst e5 f5
  have aq := (B_num r (a := 20) (b := 74) (by decide))
  have fin := k _ _ o c9 s9 (REL_mono aq.2 (by omega)) (by omega) (by omega)
  refine lx_icmp_eq (pc := 1674) (tgt := 1783) dL_law_1674 (by decide) (fun _ => ⟨u5, v5⟩) (fun _ => ⟨u6, v6⟩) (fun c1 => ?_) (fun c1 => absurd aq.1.symm c1)
  exact fin
set_option maxRecDepth 100000 in
theorem W_erases {tab : List ExceptionTableEntry} {L : Nat} {xs : Nat → Int32} {hx hm : zH} {o : Nat → Int64} {T T2 i : Int} {c9 s9 : Nat} {E : zF} (r : REL hm hx T) (hT : T + 60000 = T2) (hc : c9 ≤ room_1.cells ∧ s9 ≤ room_1.slots) (k : lK tab L xs i c9 s9 T2 E) : lX (lGL L xs) tab RL cL_law 7 (some .boolean) room_1 c9 s9 1679 (lLs i) [] hx hm o E := by
  unfold lLs
  unfold lK lLs at k
  refine lx_aload_n (pc := 1679) dL_law_1679 rfl rfl ?_
  refine lx_qx (pc := 1680) (as := []) (n := 0) (st := []) dL_law_1680 zl_L_216 zc_X6_erases ⟨rfl, by decide +kernel⟩ ⟨rfl, rfl⟩ ⟨Nat.le_of_ble_eq_true rfl, Nat.le_of_ble_eq_true rfl⟩ (C_X6_erases) rfl (by decide) hc (fun z5 h5 u5 v5 q5 => ?_)
  obtain ⟨e5, f5⟩ := q5
  refine lx_aload_n (pc := 1683) dL_law_1683 rfl rfl ?_
  refine lx_mv (pc := 1684) (as := []) (n := 0) (st := [.int (iI z5)]) dL_law_1684 zl_L_219 zc_X7_erases ⟨rfl, by decide +kernel⟩ ⟨rfl, rfl⟩ ⟨Nat.le_of_ble_eq_true rfl, Nat.le_of_ble_eq_true rfl⟩ (C_X7_erases) rfl (fun _ => rfl) (Nat.le_of_ble_eq_true rfl) hc (fun z6 h6 u6 v6 q6 => ?_)
  obtain ⟨rfl, rfl⟩ := q6
  subst e5 f5
  have aq := (B_num r (a := 21) (b := 75) (by decide))
  have fin := k _ _ o c9 s9 (REL_mono aq.2 (by omega)) (by omega) (by omega)
  refine lx_icmp_eq (pc := 1687) (tgt := 1783) dL_law_1687 (by decide) (fun _ => ⟨u5, v5⟩) (fun _ => ⟨u6, v6⟩) (fun c1 => ?_) (fun c1 => absurd aq.1.symm c1)
  exact fin
set_option maxRecDepth 100000 in
theorem W_copies {tab : List ExceptionTableEntry} {L : Nat} {xs : Nat → Int32} {hx hm : zH} {o : Nat → Int64} {T T2 i : Int} {c9 s9 : Nat} {E : zF} (r : REL hm hx T) (hT : T + 60000 = T2) (hc : c9 ≤ room_1.cells ∧ s9 ≤ room_1.slots) (k : lK tab L xs i c9 s9 T2 E) : lX (lGL L xs) tab RL cL_law 7 (some .boolean) room_1 c9 s9 1692 (lLs i) [] hx hm o E := by
  unfold lLs
  unfold lK lLs at k
  refine lx_aload_n (pc := 1692) dL_law_1692 rfl rfl ?_
  refine lx_qx (pc := 1693) (as := []) (n := 0) (st := []) dL_law_1693 zl_L_220 zc_X6_copies ⟨rfl, by decide +kernel⟩ ⟨rfl, rfl⟩ ⟨Nat.le_of_ble_eq_true rfl, Nat.le_of_ble_eq_true rfl⟩ (C_X6_copies) rfl (by decide) hc (fun z5 h5 u5 v5 q5 => ?_)
  obtain ⟨e5, f5⟩ := q5
  refine lx_aload_n (pc := 1696) dL_law_1696 rfl rfl ?_
  refine lx_mv (pc := 1697) (as := []) (n := 0) (st := [.int (iI z5)]) dL_law_1697 zl_L_223 zc_X7_copies ⟨rfl, by decide +kernel⟩ ⟨rfl, rfl⟩ ⟨Nat.le_of_ble_eq_true rfl, Nat.le_of_ble_eq_true rfl⟩ (C_X7_copies) rfl (fun _ => rfl) (Nat.le_of_ble_eq_true rfl) hc (fun z6 h6 u6 v6 q6 => ?_)
  obtain ⟨rfl, rfl⟩ := q6
  subst e5 f5
  have aq := (B_num r (a := 22) (b := 76) (by decide))
  have fin := k _ _ o c9 s9 (REL_mono aq.2 (by omega)) (by omega) (by omega)
  refine lx_icmp_eq (pc := 1700) (tgt := 1783) dL_law_1700 (by decide) (fun _ => ⟨u5, v5⟩) (fun _ => ⟨u6, v6⟩) (fun c1 => ?_) (fun c1 => absurd aq.1.symm c1)
  exact fin
set_option maxRecDepth 100000 in
theorem W_writes {tab : List ExceptionTableEntry} {L : Nat} {xs : Nat → Int32} {hx hm : zH} {o : Nat → Int64} {T T2 i : Int} {c9 s9 : Nat} {E : zF} (r : REL hm hx T) (hT : T + 60000 = T2) (hc : c9 ≤ room_1.cells ∧ s9 ≤ room_1.slots) (k : lK tab L xs i c9 s9 T2 E) : lX (lGL L xs) tab RL cL_law 7 (some .boolean) room_1 c9 s9 1705 (lLs i) [] hx hm o E := by
  unfold lLs
  unfold lK lLs at k
  refine lx_aload_n (pc := 1705) dL_law_1705 rfl rfl ?_
  refine lx_qx (pc := 1706) (as := []) (n := 0) (st := []) dL_law_1706 zl_L_224 zc_X6_writes ⟨rfl, by decide +kernel⟩ ⟨rfl, rfl⟩ ⟨Nat.le_of_ble_eq_true rfl, Nat.le_of_ble_eq_true rfl⟩ (C_X6_writes) rfl (by decide) hc (fun z5 h5 u5 v5 q5 => ?_)
  obtain ⟨e5, f5⟩ := q5
  refine lx_aload_n (pc := 1709) dL_law_1709 rfl rfl ?_
  refine lx_mv (pc := 1710) (as := []) (n := 0) (st := [.int (iI z5)]) dL_law_1710 zl_L_227 zc_X7_writes ⟨rfl, by decide +kernel⟩ ⟨rfl, rfl⟩ ⟨Nat.le_of_ble_eq_true rfl, Nat.le_of_ble_eq_true rfl⟩ (C_X7_writes) rfl (fun _ => rfl) (Nat.le_of_ble_eq_true rfl) hc (fun z6 h6 u6 v6 q6 => ?_)
  obtain ⟨rfl, rfl⟩ := q6
  subst e5 f5
  have aq := (B_num r (a := 23) (b := 53) (by decide))
  have fin := k _ _ o c9 s9 (REL_mono aq.2 (by omega)) (by omega) (by omega)
  refine lx_icmp_eq (pc := 1713) (tgt := 1783) dL_law_1713 (by decide) (fun _ => ⟨u5, v5⟩) (fun _ => ⟨u6, v6⟩) (fun c1 => ?_) (fun c1 => absurd aq.1.symm c1)
  exact fin
set_option maxRecDepth 100000 in
theorem W_wearGap {tab : List ExceptionTableEntry} {L : Nat} {xs : Nat → Int32} {hx hm : zH} {o : Nat → Int64} {T T2 i : Int} {c9 s9 : Nat} {E : zF} (r : REL hm hx T) (hT : T + 60000 = T2) (hc : c9 ≤ room_1.cells ∧ s9 ≤ room_1.slots) (k : lK tab L xs i c9 s9 T2 E) : lX (lGL L xs) tab RL cL_law 7 (some .boolean) room_1 c9 s9 1718 (lLs i) [] hx hm o E := by
  unfold lLs
  unfold lK lLs at k
  refine lx_aload_n (pc := 1718) dL_law_1718 rfl rfl ?_
  refine lx_qx (pc := 1719) (as := []) (n := 0) (st := []) dL_law_1719 zl_L_228 zc_X6_wearGap ⟨rfl, by decide +kernel⟩ ⟨rfl, rfl⟩ ⟨Nat.le_of_ble_eq_true rfl, Nat.le_of_ble_eq_true rfl⟩ (C_X6_wearGap (PW_sim r.1).2.1) rfl (by decide) hc (fun z5 h5 u5 v5 q5 => ?_)
  obtain ⟨e5, f5⟩ := q5
  refine lx_aload_n (pc := 1722) dL_law_1722 rfl rfl ?_
  refine lx_mv (pc := 1723) (as := []) (n := 0) (st := [.int (iI z5)]) dL_law_1723 zl_L_231 zc_X7_wearGap ⟨rfl, by decide +kernel⟩ ⟨rfl, rfl⟩ ⟨Nat.le_of_ble_eq_true rfl, Nat.le_of_ble_eq_true rfl⟩ (C_X7_wearGap (PW_sim r.1).2.2.1.1) rfl (fun _ => rfl) (Nat.le_of_ble_eq_true rfl) hc (fun z6 h6 u6 v6 q6 => ?_)
  obtain ⟨rfl, rfl⟩ := q6
  subst e5 f5
  have aq := (B_wearGap r)
  have fin := k _ _ o c9 s9 (REL_mono aq.2 (by omega)) (by omega) (by omega)
  refine lx_icmp_eq (pc := 1726) (tgt := 1783) dL_law_1726 (by decide) (fun _ => ⟨u5, v5⟩) (fun _ => ⟨u6, v6⟩) (fun c1 => ?_) (fun c1 => absurd aq.1.symm c1)
  exact fin
set_option maxRecDepth 100000 in
theorem W_lastCheckpoint {tab : List ExceptionTableEntry} {L : Nat} {xs : Nat → Int32} {hx hm : zH} {o : Nat → Int64} {T T2 i : Int} {c9 s9 : Nat} {E : zF} (r : REL hm hx T) (hT : T + 60000 = T2) (hc : c9 ≤ room_1.cells ∧ s9 ≤ room_1.slots) (k : lK tab L xs i c9 s9 T2 E) : lX (lGL L xs) tab RL cL_law 7 (some .boolean) room_1 c9 s9 1731 (lLs i) [] hx hm o E := by
  unfold lLs
  unfold lK lLs at k
  refine lx_aload_n (pc := 1731) dL_law_1731 rfl rfl ?_
  refine lx_qx (pc := 1732) (as := []) (n := 0) (st := []) dL_law_1732 zl_L_232 zc_X6_lastCheckpoint ⟨rfl, by decide +kernel⟩ ⟨rfl, rfl⟩ ⟨Nat.le_of_ble_eq_true rfl, Nat.le_of_ble_eq_true rfl⟩ (C_X6_lastCheckpoint) rfl (by decide) hc (fun z5 h5 u5 v5 q5 => ?_)
  obtain ⟨e5, f5⟩ := q5
  refine lx_aload_n (pc := 1735) dL_law_1735 rfl rfl ?_
  refine lx_mv (pc := 1736) (as := []) (n := 0) (st := [.int (iI z5)]) dL_law_1736 zl_L_235 zc_X7_lastCheckpoint ⟨rfl, by decide +kernel⟩ ⟨rfl, rfl⟩ ⟨Nat.le_of_ble_eq_true rfl, Nat.le_of_ble_eq_true rfl⟩ (C_X7_lastCheckpoint) rfl (fun _ => rfl) (Nat.le_of_ble_eq_true rfl) hc (fun z6 h6 u6 v6 q6 => ?_)
  obtain ⟨rfl, rfl⟩ := q6
  subst e5 f5
  have aq := (B_num r (a := 33) (b := 50) (by decide))
  have fin := k _ _ o c9 s9 (REL_mono aq.2 (by omega)) (by omega) (by omega)
  refine lx_icmp_eq (pc := 1739) (tgt := 1783) dL_law_1739 (by decide) (fun _ => ⟨u5, v5⟩) (fun _ => ⟨u6, v6⟩) (fun c1 => ?_) (fun c1 => absurd aq.1.symm c1)
  exact fin
set_option maxRecDepth 100000 in
theorem W_commits {tab : List ExceptionTableEntry} {L : Nat} {xs : Nat → Int32} {hx hm : zH} {o : Nat → Int64} {T T2 i : Int} {c9 s9 : Nat} {E : zF} (r : REL hm hx T) (hT : T + 60000 = T2) (hc : c9 ≤ room_1.cells ∧ s9 ≤ room_1.slots) (k : lK tab L xs i c9 s9 T2 E) : lX (lGL L xs) tab RL cL_law 7 (some .boolean) room_1 c9 s9 1744 (lLs i) [] hx hm o E := by
  unfold lLs
  unfold lK lLs at k
  refine lx_aload_n (pc := 1744) dL_law_1744 rfl rfl ?_
  refine lx_qx (pc := 1745) (as := []) (n := 0) (st := []) dL_law_1745 zl_L_236 zc_X6_commits ⟨rfl, by decide +kernel⟩ ⟨rfl, rfl⟩ ⟨Nat.le_of_ble_eq_true rfl, Nat.le_of_ble_eq_true rfl⟩ (C_X6_commits) rfl (by decide) hc (fun z5 h5 u5 v5 q5 => ?_)
  obtain ⟨e5, f5⟩ := q5
  refine lx_aload_n (pc := 1748) dL_law_1748 rfl rfl ?_
  refine lx_mv (pc := 1749) (as := []) (n := 0) (st := [.int (iI z5)]) dL_law_1749 zl_L_239 zc_X7_commits ⟨rfl, by decide +kernel⟩ ⟨rfl, rfl⟩ ⟨Nat.le_of_ble_eq_true rfl, Nat.le_of_ble_eq_true rfl⟩ (C_X7_commits) rfl (fun _ => rfl) (Nat.le_of_ble_eq_true rfl) hc (fun z6 h6 u6 v6 q6 => ?_)
  obtain ⟨rfl, rfl⟩ := q6
  subst e5 f5
  have aq := (B_num r (a := 36) (b := 48) (by decide))
  have fin := k _ _ o c9 s9 (REL_mono aq.2 (by omega)) (by omega) (by omega)
  refine lx_icmp_eq (pc := 1752) (tgt := 1783) dL_law_1752 (by decide) (fun _ => ⟨u5, v5⟩) (fun _ => ⟨u6, v6⟩) (fun c1 => ?_) (fun c1 => absurd aq.1.symm c1)
  exact fin
set_option maxRecDepth 100000 in
theorem W_losses {tab : List ExceptionTableEntry} {L : Nat} {xs : Nat → Int32} {hx hm : zH} {o : Nat → Int64} {T T2 i : Int} {c9 s9 : Nat} {E : zF} (r : REL hm hx T) (hT : T + 60000 = T2) (hc : c9 ≤ room_1.cells ∧ s9 ≤ room_1.slots) (k : lK tab L xs i c9 s9 T2 E) : lX (lGL L xs) tab RL cL_law 7 (some .boolean) room_1 c9 s9 1757 (lLs i) [] hx hm o E := by
  unfold lLs
  unfold lK lLs at k
  refine lx_aload_n (pc := 1757) dL_law_1757 rfl rfl ?_
  refine lx_qx (pc := 1758) (as := []) (n := 0) (st := []) dL_law_1758 zl_L_240 zc_X6_losses ⟨rfl, by decide +kernel⟩ ⟨rfl, rfl⟩ ⟨Nat.le_of_ble_eq_true rfl, Nat.le_of_ble_eq_true rfl⟩ (C_X6_losses) rfl (by decide) hc (fun z5 h5 u5 v5 q5 => ?_)
  obtain ⟨e5, f5⟩ := q5
  refine lx_aload_n (pc := 1761) dL_law_1761 rfl rfl ?_
  refine lx_mv (pc := 1762) (as := []) (n := 0) (st := [.int (iI z5)]) dL_law_1762 zl_L_243 zc_X7_losses ⟨rfl, by decide +kernel⟩ ⟨rfl, rfl⟩ ⟨Nat.le_of_ble_eq_true rfl, Nat.le_of_ble_eq_true rfl⟩ (C_X7_losses) rfl (fun _ => rfl) (Nat.le_of_ble_eq_true rfl) hc (fun z6 h6 u6 v6 q6 => ?_)
  obtain ⟨rfl, rfl⟩ := q6
  subst e5 f5
  have aq := (B_num r (a := 24) (b := 54) (by decide))
  have fin := k _ _ o c9 s9 (REL_mono aq.2 (by omega)) (by omega) (by omega)
  refine lx_icmp_eq (pc := 1765) (tgt := 1783) dL_law_1765 (by decide) (fun _ => ⟨u5, v5⟩) (fun _ => ⟨u6, v6⟩) (fun c1 => ?_) (fun c1 => absurd aq.1.symm c1)
  exact fin
set_option maxRecDepth 100000 in
theorem W_victim {tab : List ExceptionTableEntry} {L : Nat} {xs : Nat → Int32} {hx hm : zH} {o : Nat → Int64} {T T2 i : Int} {c9 s9 : Nat} {E : zF} (r : REL hm hx T) (hT : T + 60000 = T2) (hc : c9 ≤ room_1.cells ∧ s9 ≤ room_1.slots) (k : lK tab L xs i c9 s9 T2 E) : lX (lGL L xs) tab RL cL_law 7 (some .boolean) room_1 c9 s9 1770 (lLs i) [] hx hm o E := by
  unfold lLs
  unfold lK lLs at k
  refine lx_aload_n (pc := 1770) dL_law_1770 rfl rfl ?_
  refine lx_qx (pc := 1771) (as := []) (n := 0) (st := []) dL_law_1771 zl_L_244 zc_X6_victim ⟨rfl, by decide +kernel⟩ ⟨rfl, rfl⟩ ⟨Nat.le_of_ble_eq_true rfl, Nat.le_of_ble_eq_true rfl⟩ (C_X6_victim (PW_sim r.1).2.1) rfl (by decide) hc (fun z5 h5 u5 v5 q5 => ?_)
  obtain ⟨e5, f5⟩ := q5
  refine lx_aload_n (pc := 1774) dL_law_1774 rfl rfl ?_
  refine lx_mv (pc := 1775) (as := []) (n := 0) (st := [.int (iI z5)]) dL_law_1775 zl_L_247 zc_X7_victim ⟨rfl, by decide +kernel⟩ ⟨rfl, rfl⟩ ⟨Nat.le_of_ble_eq_true rfl, Nat.le_of_ble_eq_true rfl⟩ (C_X7_victim (PW_sim r.1).2.2.1) rfl (fun _ => rfl) (Nat.le_of_ble_eq_true rfl) hc (fun z6 h6 u6 v6 q6 => ?_)
  obtain ⟨rfl, rfl⟩ := q6
  subst e5 f5
  have aq := (B_victim r)
  have fin := k _ _ o c9 s9 (REL_mono aq.2 (by omega)) (by omega) (by omega)
  refine lx_icmp_eq (pc := 1778) (tgt := 1783) dL_law_1778 (by decide) (fun _ => ⟨u5, v5⟩) (fun _ => ⟨u6, v6⟩) (fun c1 => ?_) (fun c1 => absurd aq.1.symm c1)
  exact fin

