/-! the class: its methods that throw (all but format and recover): what they make, and contracts -/
theorem zt_x29 : (29, "the buffer is full") ∈ zT6 := List.mem_of_getElem? (i := 0) rfl
theorem zt_x40 : (40, "length is out of range") ∈ zT6 := List.mem_of_getElem? (i := 1) rfl
theorem zt_x49 : (49, "the text has an error") ∈ zT6 := List.mem_of_getElem? (i := 2) rfl
theorem zt_x98 : (98, "no transaction can begin") ∈ zT6 := List.mem_of_getElem? (i := 3) rfl
theorem zt_x118 : (118, "no such transaction or logical page") ∈ zT6 := List.mem_of_getElem? (i := 4) rfl
theorem zt_x122 : (122, "value is out of range") ∈ zT6 := List.mem_of_getElem? (i := 5) rfl
theorem zt_x131 : (131, "the logical page can't be written") ∈ zT6 := List.mem_of_getElem? (i := 6) rfl
theorem zt_x139 : (139, "there is not enough room") ∈ zT6 := List.mem_of_getElem? (i := 7) rfl
theorem zt_x145 : (145, "power is lost") ∈ zT6 := List.mem_of_getElem? (i := 8) rfl
theorem zt_x147 : (147, "the logical page can't be read") ∈ zT6 := List.mem_of_getElem? (i := 9) rfl
theorem zt_x158 : (158, "no such transaction") ∈ zT6 := List.mem_of_getElem? (i := 10) rfl
theorem zt_x163 : (163, "the transaction can't be committed") ∈ zT6 := List.mem_of_getElem? (i := 11) rfl
theorem zt_x172 : (172, "the transaction can't be aborted") ∈ zT6 := List.mem_of_getElem? (i := 12) rfl
theorem zt_x184 : (184, "no reader can be opened") ∈ zT6 := List.mem_of_getElem? (i := 13) rfl
theorem zt_x189 : (189, "no such open reader or logical page") ∈ zT6 := List.mem_of_getElem? (i := 14) rfl
theorem zt_x194 : (194, "no such open reader") ∈ zT6 := List.mem_of_getElem? (i := 15) rfl
theorem zt_x199 : (199, "the device is off") ∈ zT6 := List.mem_of_getElem? (i := 16) rfl
theorem zt_x211 : (211, "n is out of range") ∈ zT6 := List.mem_of_getElem? (i := 17) rfl
theorem zt_x228 : (228, "there is nothing to recover") ∈ zT6 := List.mem_of_getElem? (i := 18) rfl
theorem zt_x241 : (241, "no such logical page") ∈ zT6 := List.mem_of_getElem? (i := 19) rfl
theorem zt_x267 : (267, "no such block") ∈ zT6 := List.mem_of_getElem? (i := 20) rfl
theorem zt_x281 : (281, "what is out of range") ∈ zT6 := List.mem_of_getElem? (i := 21) rfl
theorem zt_x286 : (286, "no such page") ∈ zT6 := List.mem_of_getElem? (i := 22) rfl
abbrev tX6_feed : Room := { frames := 6, cells := 1, slots := 6, locals := 100 }
abbrev kT_feed (a1 a2 a3 a4 a5 : Int) (h : zH) (Q : Int → zH → Prop) (X : String → zH → Prop) : Prop := zMxi cX yX6_feed cX6_feed 6 .int tX6_feed [.ref 0, .int (iI a1), .int (iI a2), .int (iI a3), .int (iI a4), .int (iI a5)] h Q X
theorem eT_feed {a1 a2 a3 a4 a5 : Int} {h : zH} {Q : Int → zH → Prop} {X : String → zH → Prop} (k : zX cX zGt RX6 cX6_feed 6 (some .int) tX6_feed 0 [some (.ref 0), some (.int (iI a1)), some (.int (iI a2)), some (.int (iI a3)), some (.int (iI a4)), some (.int (iI a5))] [] h (zEx cX Q X)) : kT_feed a1 a2 a3 a4 a5 h Q X := zMxi_of [some (.ref 0), some (.int (iI a1)), some (.int (iI a2)), some (.int (iI a3)), some (.int (iI a4)), some (.int (iI a5))] zc_X6_feed.2.2.2.2.2 (fun _ => Nat.le_of_ble_eq_true rfl) (fun _ => rfl) k
abbrev tX6_format : Room := { frames := 9, cells := 1, slots := 6, locals := 233 }
abbrev kT_format (a1 : Int) (h : zH) (Q : Int → zH → Prop) (X : String → zH → Prop) : Prop := zMxi cX yX6_format cX6_format 3 .int tX6_format [.ref 0, .int (iI a1)] h Q X
theorem eT_format {a1 : Int} {h : zH} {Q : Int → zH → Prop} {X : String → zH → Prop} (k : zX cX zGt RX6 cX6_format 3 (some .int) tX6_format 0 [some (.ref 0), some (.int (iI a1)), none] [] h (zEx cX Q X)) : kT_format a1 h Q X := zMxi_of [some (.ref 0), some (.int (iI a1)), none] zc_X6_format.2.2.2.2.2 (fun _ => Nat.le_of_ble_eq_true rfl) (fun _ => rfl) k
abbrev tX6_begin : Room := { frames := 6, cells := 1, slots := 6, locals := 100 }
abbrev kT_begin (h : zH) (Q : Int → zH → Prop) (X : String → zH → Prop) : Prop := zMxi cX yX6_begin cX6_begin 2 .int tX6_begin [.ref 0] h Q X
theorem eT_begin {h : zH} {Q : Int → zH → Prop} {X : String → zH → Prop} (k : zX cX zGt RX6 cX6_begin 2 (some .int) tX6_begin 0 [some (.ref 0), none] [] h (zEx cX Q X)) : kT_begin  h Q X := zMxi_of [some (.ref 0), none] zc_X6_begin.2.2.2.2.2 (fun _ => Nat.le_of_ble_eq_true rfl) (fun _ => rfl) k
abbrev tX6_write : Room := { frames := 7, cells := 1, slots := 6, locals := 165 }
abbrev kT_write (a1 a2 a3 : Int) (h : zH) (Q : Int → zH → Prop) (X : String → zH → Prop) : Prop := zMxi cX yX6_write cX6_write 5 .int tX6_write [.ref 0, .int (iI a1), .int (iI a2), .int (iI a3)] h Q X
theorem eT_write {a1 a2 a3 : Int} {h : zH} {Q : Int → zH → Prop} {X : String → zH → Prop} (k : zX cX zGt RX6 cX6_write 5 (some .int) tX6_write 0 [some (.ref 0), some (.int (iI a1)), some (.int (iI a2)), some (.int (iI a3)), none] [] h (zEx cX Q X)) : kT_write a1 a2 a3 h Q X := zMxi_of [some (.ref 0), some (.int (iI a1)), some (.int (iI a2)), some (.int (iI a3)), none] zc_X6_write.2.2.2.2.2 (fun _ => Nat.le_of_ble_eq_true rfl) (fun _ => rfl) k
abbrev tX6_read : Room := { frames := 6, cells := 1, slots := 6, locals := 100 }
abbrev kT_read (a1 a2 : Int) (h : zH) (Q : Int → zH → Prop) (X : String → zH → Prop) : Prop := zMxi cX yX6_read cX6_read 3 .int tX6_read [.ref 0, .int (iI a1), .int (iI a2)] h Q X
theorem eT_read {a1 a2 : Int} {h : zH} {Q : Int → zH → Prop} {X : String → zH → Prop} (k : zX cX zGt RX6 cX6_read 3 (some .int) tX6_read 0 [some (.ref 0), some (.int (iI a1)), some (.int (iI a2))] [] h (zEx cX Q X)) : kT_read a1 a2 h Q X := zMxi_of [some (.ref 0), some (.int (iI a1)), some (.int (iI a2))] zc_X6_read.2.2.2.2.2 (fun _ => Nat.le_of_ble_eq_true rfl) (fun _ => rfl) k
abbrev tX6_commit : Room := { frames := 7, cells := 1, slots := 6, locals := 163 }
abbrev kT_commit (a1 : Int) (h : zH) (Q : Int → zH → Prop) (X : String → zH → Prop) : Prop := zMxi cX yX6_commit cX6_commit 3 .int tX6_commit [.ref 0, .int (iI a1)] h Q X
theorem eT_commit {a1 : Int} {h : zH} {Q : Int → zH → Prop} {X : String → zH → Prop} (k : zX cX zGt RX6 cX6_commit 3 (some .int) tX6_commit 0 [some (.ref 0), some (.int (iI a1)), none] [] h (zEx cX Q X)) : kT_commit a1 h Q X := zMxi_of [some (.ref 0), some (.int (iI a1)), none] zc_X6_commit.2.2.2.2.2 (fun _ => Nat.le_of_ble_eq_true rfl) (fun _ => rfl) k
abbrev tX6_abort : Room := { frames := 6, cells := 1, slots := 6, locals := 100 }
abbrev kT_abort (a1 : Int) (h : zH) (Q : Int → zH → Prop) (X : String → zH → Prop) : Prop := zMxi cX yX6_abort cX6_abort 3 .int tX6_abort [.ref 0, .int (iI a1)] h Q X
theorem eT_abort {a1 : Int} {h : zH} {Q : Int → zH → Prop} {X : String → zH → Prop} (k : zX cX zGt RX6 cX6_abort 3 (some .int) tX6_abort 0 [some (.ref 0), some (.int (iI a1)), none] [] h (zEx cX Q X)) : kT_abort a1 h Q X := zMxi_of [some (.ref 0), some (.int (iI a1)), none] zc_X6_abort.2.2.2.2.2 (fun _ => Nat.le_of_ble_eq_true rfl) (fun _ => rfl) k
abbrev tX6_openReader : Room := { frames := 6, cells := 1, slots := 6, locals := 100 }
abbrev kT_openReader (h : zH) (Q : Int → zH → Prop) (X : String → zH → Prop) : Prop := zMxi cX yX6_openReader cX6_openReader 2 .int tX6_openReader [.ref 0] h Q X
theorem eT_openReader {h : zH} {Q : Int → zH → Prop} {X : String → zH → Prop} (k : zX cX zGt RX6 cX6_openReader 2 (some .int) tX6_openReader 0 [some (.ref 0), none] [] h (zEx cX Q X)) : kT_openReader  h Q X := zMxi_of [some (.ref 0), none] zc_X6_openReader.2.2.2.2.2 (fun _ => Nat.le_of_ble_eq_true rfl) (fun _ => rfl) k
abbrev tX6_readBy : Room := { frames := 6, cells := 1, slots := 6, locals := 100 }
abbrev kT_readBy (a1 a2 : Int) (h : zH) (Q : Int → zH → Prop) (X : String → zH → Prop) : Prop := zMxi cX yX6_readBy cX6_readBy 3 .int tX6_readBy [.ref 0, .int (iI a1), .int (iI a2)] h Q X
theorem eT_readBy {a1 a2 : Int} {h : zH} {Q : Int → zH → Prop} {X : String → zH → Prop} (k : zX cX zGt RX6 cX6_readBy 3 (some .int) tX6_readBy 0 [some (.ref 0), some (.int (iI a1)), some (.int (iI a2))] [] h (zEx cX Q X)) : kT_readBy a1 a2 h Q X := zMxi_of [some (.ref 0), some (.int (iI a1)), some (.int (iI a2))] zc_X6_readBy.2.2.2.2.2 (fun _ => Nat.le_of_ble_eq_true rfl) (fun _ => rfl) k
abbrev tX6_closeReader : Room := { frames := 6, cells := 1, slots := 6, locals := 100 }
abbrev kT_closeReader (a1 : Int) (h : zH) (Q : Int → zH → Prop) (X : String → zH → Prop) : Prop := zMxi cX yX6_closeReader cX6_closeReader 2 .int tX6_closeReader [.ref 0, .int (iI a1)] h Q X
theorem eT_closeReader {a1 : Int} {h : zH} {Q : Int → zH → Prop} {X : String → zH → Prop} (k : zX cX zGt RX6 cX6_closeReader 2 (some .int) tX6_closeReader 0 [some (.ref 0), some (.int (iI a1))] [] h (zEx cX Q X)) : kT_closeReader a1 h Q X := zMxi_of [some (.ref 0), some (.int (iI a1))] zc_X6_closeReader.2.2.2.2.2 (fun _ => Nat.le_of_ble_eq_true rfl) (fun _ => rfl) k
abbrev tX6_checkpoint : Room := { frames := 6, cells := 1, slots := 6, locals := 141 }
abbrev kT_checkpoint (h : zH) (Q : Int → zH → Prop) (X : String → zH → Prop) : Prop := zMxi cX yX6_checkpoint cX6_checkpoint 1 .int tX6_checkpoint [.ref 0] h Q X
theorem eT_checkpoint {h : zH} {Q : Int → zH → Prop} {X : String → zH → Prop} (k : zX cX zGt RX6 cX6_checkpoint 1 (some .int) tX6_checkpoint 0 [some (.ref 0)] [] h (zEx cX Q X)) : kT_checkpoint  h Q X := zMxi_of [some (.ref 0)] zc_X6_checkpoint.2.2.2.2.2 (fun _ => Nat.le_of_ble_eq_true rfl) (fun _ => rfl) k
abbrev tX6_arm : Room := { frames := 6, cells := 1, slots := 6, locals := 100 }
abbrev kT_arm (a1 : Int) (h : zH) (Q : Int → zH → Prop) (X : String → zH → Prop) : Prop := zMxi cX yX6_arm cX6_arm 3 .int tX6_arm [.ref 0, .int (iI a1)] h Q X
theorem eT_arm {a1 : Int} {h : zH} {Q : Int → zH → Prop} {X : String → zH → Prop} (k : zX cX zGt RX6 cX6_arm 3 (some .int) tX6_arm 0 [some (.ref 0), some (.int (iI a1)), none] [] h (zEx cX Q X)) : kT_arm a1 h Q X := zMxi_of [some (.ref 0), some (.int (iI a1)), none] zc_X6_arm.2.2.2.2.2 (fun _ => Nat.le_of_ble_eq_true rfl) (fun _ => rfl) k
abbrev tX6_powerOff : Room := { frames := 6, cells := 1, slots := 6, locals := 100 }
abbrev kT_powerOff (h : zH) (Q : Int → zH → Prop) (X : String → zH → Prop) : Prop := zMxi cX yX6_powerOff cX6_powerOff 1 .int tX6_powerOff [.ref 0] h Q X
theorem eT_powerOff {h : zH} {Q : Int → zH → Prop} {X : String → zH → Prop} (k : zX cX zGt RX6 cX6_powerOff 1 (some .int) tX6_powerOff 0 [some (.ref 0)] [] h (zEx cX Q X)) : kT_powerOff  h Q X := zMxi_of [some (.ref 0)] zc_X6_powerOff.2.2.2.2.2 (fun _ => Nat.le_of_ble_eq_true rfl) (fun _ => rfl) k
abbrev tX6_recover : Room := { frames := 6, cells := 1, slots := 6, locals := 118 }
abbrev kT_recover (h : zH) (Q : Int → zH → Prop) (X : String → zH → Prop) : Prop := zMxi cX yX6_recover cX6_recover 1 .int tX6_recover [.ref 0] h Q X
theorem eT_recover {h : zH} {Q : Int → zH → Prop} {X : String → zH → Prop} (k : zX cX zGt RX6 cX6_recover 1 (some .int) tX6_recover 0 [some (.ref 0)] [] h (zEx cX Q X)) : kT_recover  h Q X := zMxi_of [some (.ref 0)] zc_X6_recover.2.2.2.2.2 (fun _ => Nat.le_of_ble_eq_true rfl) (fun _ => rfl) k
abbrev tX6_version : Room := { frames := 6, cells := 1, slots := 6, locals := 100 }
abbrev kT_version (a1 : Int) (h : zH) (Q : Int → zH → Prop) (X : String → zH → Prop) : Prop := zMxi cX yX6_version cX6_version 2 .int tX6_version [.ref 0, .int (iI a1)] h Q X
theorem eT_version {a1 : Int} {h : zH} {Q : Int → zH → Prop} {X : String → zH → Prop} (k : zX cX zGt RX6 cX6_version 2 (some .int) tX6_version 0 [some (.ref 0), some (.int (iI a1))] [] h (zEx cX Q X)) : kT_version a1 h Q X := zMxi_of [some (.ref 0), some (.int (iI a1))] zc_X6_version.2.2.2.2.2 (fun _ => Nat.le_of_ble_eq_true rfl) (fun _ => rfl) k
abbrev tX6_place : Room := { frames := 6, cells := 1, slots := 6, locals := 100 }
abbrev kT_place (a1 : Int) (h : zH) (Q : Int → zH → Prop) (X : String → zH → Prop) : Prop := zMxi cX yX6_place cX6_place 2 .int tX6_place [.ref 0, .int (iI a1)] h Q X
theorem eT_place {a1 : Int} {h : zH} {Q : Int → zH → Prop} {X : String → zH → Prop} (k : zX cX zGt RX6 cX6_place 2 (some .int) tX6_place 0 [some (.ref 0), some (.int (iI a1))] [] h (zEx cX Q X)) : kT_place a1 h Q X := zMxi_of [some (.ref 0), some (.int (iI a1))] zc_X6_place.2.2.2.2.2 (fun _ => Nat.le_of_ble_eq_true rfl) (fun _ => rfl) k
abbrev tX6_lockedBy : Room := { frames := 6, cells := 1, slots := 6, locals := 100 }
abbrev kT_lockedBy (a1 : Int) (h : zH) (Q : Int → zH → Prop) (X : String → zH → Prop) : Prop := zMxi cX yX6_lockedBy cX6_lockedBy 2 .int tX6_lockedBy [.ref 0, .int (iI a1)] h Q X
theorem eT_lockedBy {a1 : Int} {h : zH} {Q : Int → zH → Prop} {X : String → zH → Prop} (k : zX cX zGt RX6 cX6_lockedBy 2 (some .int) tX6_lockedBy 0 [some (.ref 0), some (.int (iI a1))] [] h (zEx cX Q X)) : kT_lockedBy a1 h Q X := zMxi_of [some (.ref 0), some (.int (iI a1))] zc_X6_lockedBy.2.2.2.2.2 (fun _ => Nat.le_of_ble_eq_true rfl) (fun _ => rfl) k
abbrev tX6_state : Room := { frames := 6, cells := 1, slots := 6, locals := 100 }
abbrev kT_state (a1 : Int) (h : zH) (Q : Int → zH → Prop) (X : String → zH → Prop) : Prop := zMxi cX yX6_state cX6_state 2 .int tX6_state [.ref 0, .int (iI a1)] h Q X
theorem eT_state {a1 : Int} {h : zH} {Q : Int → zH → Prop} {X : String → zH → Prop} (k : zX cX zGt RX6 cX6_state 2 (some .int) tX6_state 0 [some (.ref 0), some (.int (iI a1))] [] h (zEx cX Q X)) : kT_state a1 h Q X := zMxi_of [some (.ref 0), some (.int (iI a1))] zc_X6_state.2.2.2.2.2 (fun _ => Nat.le_of_ble_eq_true rfl) (fun _ => rfl) k
abbrev tX6_locks : Room := { frames := 6, cells := 1, slots := 6, locals := 100 }
abbrev kT_locks (a1 : Int) (h : zH) (Q : Int → zH → Prop) (X : String → zH → Prop) : Prop := zMxi cX yX6_locks cX6_locks 2 .int tX6_locks [.ref 0, .int (iI a1)] h Q X
theorem eT_locks {a1 : Int} {h : zH} {Q : Int → zH → Prop} {X : String → zH → Prop} (k : zX cX zGt RX6 cX6_locks 2 (some .int) tX6_locks 0 [some (.ref 0), some (.int (iI a1))] [] h (zEx cX Q X)) : kT_locks a1 h Q X := zMxi_of [some (.ref 0), some (.int (iI a1))] zc_X6_locks.2.2.2.2.2 (fun _ => Nat.le_of_ble_eq_true rfl) (fun _ => rfl) k
abbrev tX6_block : Room := { frames := 6, cells := 1, slots := 6, locals := 100 }
abbrev kT_block (a1 a2 : Int) (h : zH) (Q : Int → zH → Prop) (X : String → zH → Prop) : Prop := zMxi cX yX6_block cX6_block 4 .int tX6_block [.ref 0, .int (iI a1), .int (iI a2)] h Q X
theorem eT_block {a1 a2 : Int} {h : zH} {Q : Int → zH → Prop} {X : String → zH → Prop} (k : zX cX zGt RX6 cX6_block 4 (some .int) tX6_block 0 [some (.ref 0), some (.int (iI a1)), some (.int (iI a2)), none] [] h (zEx cX Q X)) : kT_block a1 a2 h Q X := zMxi_of [some (.ref 0), some (.int (iI a1)), some (.int (iI a2)), none] zc_X6_block.2.2.2.2.2 (fun _ => Nat.le_of_ble_eq_true rfl) (fun _ => rfl) k
abbrev tX6_flashPage : Room := { frames := 6, cells := 1, slots := 6, locals := 100 }
abbrev kT_flashPage (a1 a2 : Int) (h : zH) (Q : Int → zH → Prop) (X : String → zH → Prop) : Prop := zMxi cX yX6_flashPage cX6_flashPage 4 .int tX6_flashPage [.ref 0, .int (iI a1), .int (iI a2)] h Q X
theorem eT_flashPage {a1 a2 : Int} {h : zH} {Q : Int → zH → Prop} {X : String → zH → Prop} (k : zX cX zGt RX6 cX6_flashPage 4 (some .int) tX6_flashPage 0 [some (.ref 0), some (.int (iI a1)), some (.int (iI a2)), none] [] h (zEx cX Q X)) : kT_flashPage a1 a2 h Q X := zMxi_of [some (.ref 0), some (.int (iI a1)), some (.int (iI a2)), none] zc_X6_flashPage.2.2.2.2.2 (fun _ => Nat.le_of_ble_eq_true rfl) (fun _ => rfl) k
abbrev tX6_isValid : Room := { frames := 6, cells := 1, slots := 6, locals := 100 }
abbrev kT_isValid (a1 : Int) (h : zH) (Q : Int → zH → Prop) (X : String → zH → Prop) : Prop := zMxi cX yX6_isValid cX6_isValid 2 .boolean tX6_isValid [.ref 0, .int (iI a1)] h Q X
theorem eT_isValid {a1 : Int} {h : zH} {Q : Int → zH → Prop} {X : String → zH → Prop} (k : zX cX zGt RX6 cX6_isValid 2 (some .boolean) tX6_isValid 0 [some (.ref 0), some (.int (iI a1))] [] h (zEx cX Q X)) : kT_isValid a1 h Q X := zMxi_of [some (.ref 0), some (.int (iI a1))] zc_X6_isValid.2.2.2.2.2 (fun _ => Nat.le_of_ble_eq_true rfl) (fun _ => rfl) k
theorem xPfc_r {h : zH} (s : XS h) : 0 ≤ xPfc h ∧ xPfc h ≤ 1000 := by
  have s8 := s.2.2.2.2.2.2.2
  have st := s.2.2.1
  unfold XT at st
  unfold xPfc
  rcases Classical.em (gs h 47 ≤ wr (gs h 48 + 1)) with c | c
  · rw [ifp_t c]; omega
  · rw [ifp_f c]; omega
noncomputable def X_feed (h : zH) (a b c d e : Int) : zH × Int × Int := ifp (580 < gs h 22) (h, 1, 0) (x_append (x_append (x_append (x_append (x_append h a) b) c) d) e, 0, gs (x_append (x_append (x_append (x_append (x_append h a) b) c) d) e) 22)
set_option maxRecDepth 100000 in
theorem T_feed {h : zH} (b1 : 0 ≤ gs h 22) (b2 : gs h 22 ≤ 600) {a1 a2 a3 a4 a5 : Int} : kT_feed a1 a2 a3 a4 a5 h (zQn (X_feed h a1 a2 a3 a4 a5)) (zXn [nIE] (X_feed h a1 a2 a3 a4 a5)) := by
  have w1 := x_append_22 h a1
  have w2 := x_append_22 (x_append h a1) a2
  have w3 := x_append_22 (x_append (x_append h a1) a2) a3
  have w4 := x_append_22 (x_append (x_append (x_append h a1) a2) a3) a4
  apply eT_feed
  unfold X_feed
  refine zx_aload_n (pc := 0) dX6_feed_0 rfl rfl ?_
  refine zg_X6_10 (pc := 1) dX6_feed_1 ?_
  refine zg_X6_23 (pc := 4) dX6_feed_4 ?_
  refine zx_sipush (pc := 7) dX6_feed_7 (by decide +kernel) ?_
  refine zx_icmp_le (pc := 10) (tgt := 23) dX6_feed_10 (by decide) (fun o => by first | exact o.1 _ (by decide) | exact o.2 _ _ | omega) (fun o => by first | exact o.1 _ (by decide) | exact o.2 _ _ | omega) (fun c10 => ?_) (fun c10 => ?_)
  · skip
    rw [ifp_f (by omega)]
    refine zx_aload_n (pc := 23) dX6_feed_23 rfl rfl ?_
    refine zg_X6_10 (pc := 24) dX6_feed_24 ?_
    refine zx_iload_n (pc := 27) dX6_feed_27 rfl rfl ?_
    refine zi_X6_34 (pc := 28) dX6_feed_28 (C_X2_append (by omega) (by omega)) (by decide) (Nat.le_of_ble_eq_true rfl) (fun h28 q28 => ?_)
    rw [q28]
    clear q28 h28
    refine zx_aload_n (pc := 31) dX6_feed_31 rfl rfl ?_
    refine zg_X6_10 (pc := 32) dX6_feed_32 ?_
    refine zx_iload_n (pc := 35) dX6_feed_35 rfl rfl ?_
    refine zi_X6_34 (pc := 36) dX6_feed_36 (C_X2_append (by omega) (by omega)) (by decide) (Nat.le_of_ble_eq_true rfl) (fun h36 q36 => ?_)
    rw [q36]
    clear q36 h36
    refine zx_aload_n (pc := 39) dX6_feed_39 rfl rfl ?_
    refine zg_X6_10 (pc := 40) dX6_feed_40 ?_
    refine zx_iload_n (pc := 43) dX6_feed_43 rfl rfl ?_
    refine zi_X6_34 (pc := 44) dX6_feed_44 (C_X2_append (by omega) (by omega)) (by decide) (Nat.le_of_ble_eq_true rfl) (fun h44 q44 => ?_)
    rw [q44]
    clear q44 h44
    refine zx_aload_n (pc := 47) dX6_feed_47 rfl rfl ?_
    refine zg_X6_10 (pc := 48) dX6_feed_48 ?_
    refine zx_iload (pc := 51) dX6_feed_51 rfl ?_
    refine zi_X6_34 (pc := 53) dX6_feed_53 (C_X2_append (by omega) (by omega)) (by decide) (Nat.le_of_ble_eq_true rfl) (fun h53 q53 => ?_)
    rw [q53]
    clear q53 h53
    refine zx_aload_n (pc := 56) dX6_feed_56 rfl rfl ?_
    refine zg_X6_10 (pc := 57) dX6_feed_57 ?_
    refine zx_iload (pc := 60) dX6_feed_60 rfl ?_
    refine zi_X6_34 (pc := 62) dX6_feed_62 (C_X2_append (by omega) (by omega)) (by decide) (Nat.le_of_ble_eq_true rfl) (fun h62 q62 => ?_)
    rw [q62]
    clear q62 h62
    refine zx_aload_n (pc := 65) dX6_feed_65 rfl rfl ?_
    refine zg_X6_10 (pc := 66) dX6_feed_66 ?_
    refine zg_X6_23 (pc := 69) dX6_feed_69 ?_
    refine zx_xiret (pc := 72) dX6_feed_72 (fun o => by first | exact o.1 _ (by decide) | exact o.2 _ _ | omega) ?_
    exact ⟨rfl, rfl, rfl⟩
  · skip
    rw [ifp_t c10]
    refine zx_throw (k := 2) (ik := 27) (is := 29) (ic := 31) (pc := 13) zt_31 zt_x29 dX6_feed_13 dX6_feed_16 (Or.inl ⟨dX6_feed_17, rfl⟩) dX6_feed_19 dX6_feed_22 ⟨by decide, by decide, rfl, rfl⟩ (by decide) ?_
    exact ⟨0, rfl, rfl, rfl⟩
noncomputable def X_begin (h : zH) : zH × Int × Int := ifp (gs h 45 = 0 ∨ 6 ≤ xOpen h ∨ 1000 ≤ gs h 81) (h, 1, 0) (x_open h, 0, gs (x_open h) 81)
set_option maxRecDepth 100000 in
theorem T_begin {h : zH} (s : XS h) : kT_begin h (zQn (X_begin h)) (zXn [nIE] (X_begin h)) := by
  have sl := s.2.2.2.1
  have sm := sl
  unfold XL at sm
  have op := cnt_r (fun t => ga h 20 t = 1) 1 (gs h 81).toNat
  have oe : xOpen h = cnt (fun t => ga h 20 t = 1) 1 (gs h 81).toNat := rfl
  rw [← oe] at op
  apply eT_begin
  unfold X_begin
  refine zx_aload_n (pc := 0) dX6_begin_0 rfl rfl ?_
  refine zg_X6_19 (pc := 1) dX6_begin_1 ?_
  refine zg_X6_81 (pc := 4) dX6_begin_4 ?_
  refine zx_astore_n (pc := 7) dX6_begin_7 rfl (by decide) rfl ?_
  refine zx_aload_n (pc := 8) dX6_begin_8 rfl rfl ?_
  refine zg_X6_19 (pc := 9) dX6_begin_9 ?_
  refine zg_X6_85 (pc := 12) dX6_begin_12 ?_
  refine zx_if_eq (pc := 15) (tgt := 37) dX6_begin_15 (by decide) (fun o => by first | exact o.1 _ (by decide) | exact o.2 _ _ | omega) (fun c15 => ?_) (fun c15 => ?_)
  · skip
    rw [ifp_t (Or.inl c15)]
    refine zx_throw (k := 2) (ik := 27) (is := 98) (ic := 31) (pc := 37) zt_31 zt_x98 dX6_begin_37 dX6_begin_40 (Or.inl ⟨dX6_begin_41, rfl⟩) dX6_begin_43 dX6_begin_46 ⟨by decide, by decide, rfl, rfl⟩ (by decide) ?_
    exact ⟨0, rfl, rfl, rfl⟩
  · skip
    refine zx_aload_n (pc := 18) dX6_begin_18 rfl rfl ?_
    refine zi_X6_89 (pc := 19) dX6_begin_19 (C_X3_countOpen sl) (by decide) (Nat.le_of_ble_eq_true rfl) (fun z19 h19 u19 v19 q19 => ?_)
    obtain ⟨rfl, e19⟩ := q19
    rw [e19]
    clear e19 h19
    refine zx_bipush (pc := 22) dX6_begin_22 (by decide +kernel) ?_
    refine zx_icmp_ge (pc := 24) (tgt := 37) dX6_begin_24 (by decide) (fun o => by first | exact o.1 _ (by decide) | exact o.2 _ _ | omega) (fun o => by first | exact o.1 _ (by decide) | exact o.2 _ _ | omega) (fun c24 => ?_) (fun c24 => ?_)
    · skip
      rw [ifp_t (Or.inr (Or.inl c24))]
      refine zx_throw (k := 2) (ik := 27) (is := 98) (ic := 31) (pc := 37) zt_31 zt_x98 dX6_begin_37 dX6_begin_40 (Or.inl ⟨dX6_begin_41, rfl⟩) dX6_begin_43 dX6_begin_46 ⟨by decide, by decide, rfl, rfl⟩ (by decide) ?_
      exact ⟨0, rfl, rfl, rfl⟩
    · skip
      refine zx_aload_n (pc := 27) dX6_begin_27 rfl rfl ?_
      refine zg_X6_95 (pc := 28) dX6_begin_28 ?_
      refine zx_sipush (pc := 31) dX6_begin_31 (by decide +kernel) ?_
      refine zx_icmp_lt (pc := 34) (tgt := 47) dX6_begin_34 (by decide) (fun o => by first | exact o.1 _ (by decide) | exact o.2 _ _ | omega) (fun o => by first | exact o.1 _ (by decide) | exact o.2 _ _ | omega) (fun c34 => ?_) (fun c34 => ?_)
      · skip
        rw [ifp_f (by omega)]
        refine zx_aload_n (pc := 47) dX6_begin_47 rfl rfl ?_
        refine zi_X6_100 (pc := 48) dX6_begin_48 (C_X3_open sl) (by decide) (Nat.le_of_ble_eq_true rfl) (fun z48 h48 u48 v48 q48 => ?_)
        obtain ⟨rfl, e48⟩ := q48
        rw [e48]
        clear e48 h48
        refine zx_xiret (pc := 51) dX6_begin_51 (fun o => by first | exact o.1 _ (by decide) | exact o.2 _ _ | omega) ?_
        exact ⟨rfl, rfl, rfl⟩
      · skip
        rw [ifp_t (Or.inr (Or.inr c34))]
        refine zx_throw (k := 2) (ik := 27) (is := 98) (ic := 31) (pc := 37) zt_31 zt_x98 dX6_begin_37 dX6_begin_40 (Or.inl ⟨dX6_begin_41, rfl⟩) dX6_begin_43 dX6_begin_46 ⟨by decide, by decide, rfl, rfl⟩ (by decide) ?_
        exact ⟨0, rfl, rfl, rfl⟩
def xKn (h : zH) (t : Int) : Prop := t = 0 ∨ xTx h t
def xNo (h : zH) (t : Int) : Prop := t = 0 ∨ xState h t = 1
set_option maxRecDepth 100000 in
theorem C_X6_isNoneOrKnown {h : zH} {a1 : Int} (r1 : -2147483648 ≤ a1 ∧ a1 < 2147483648) : kX6_isNoneOrKnown a1 h (fun r h2 => r = b2i (xKn h a1) ∧ h2 = h) := by
  apply eX6_isNoneOrKnown
  refine zx_iload_n (pc := 0) dX6_isNoneOrKnown_0 rfl rfl ?_
  refine zx_if_eq (pc := 1) (tgt := 18) dX6_isNoneOrKnown_1 (by decide) (fun o => by first | exact o.1 _ (by decide) | exact o.2 _ _ | omega) (fun c1 => ?_) (fun c1 => ?_)
  · skip
    refine zx_iconst (pc := 18) dX6_isNoneOrKnown_18 ?_
    refine zx_goto (pc := 19) (tgt := 23) dX6_isNoneOrKnown_19 (by decide) ?_
    refine zx_zret (pc := 23) dX6_isNoneOrKnown_23 (by omega) ?_
    refine ⟨?_, rfl⟩
    first
    | exact (b2i_t (Or.inl c1)).symm
    | exact (b2i_t (Or.inr c15)).symm
    | exact (b2i_f (fun z => by rcases z with z | z; exact c1 z; exact c15 z)).symm
  · skip
    refine zx_aload_n (pc := 4) dX6_isNoneOrKnown_4 rfl rfl ?_
    refine zg_X6_19 (pc := 5) dX6_isNoneOrKnown_5 ?_
    refine zg_X6_81 (pc := 8) dX6_isNoneOrKnown_8 ?_
    refine zx_iload_n (pc := 11) dX6_isNoneOrKnown_11 rfl rfl ?_
    refine zi_X6_155 (pc := 12) dX6_isNoneOrKnown_12 (C_X3_knows r1) (by decide) (Nat.le_of_ble_eq_true rfl) (fun z12 h12 u12 v12 q12 => ?_)
    obtain ⟨rfl, e12⟩ := q12
    rw [e12]
    clear e12 h12
    refine zx_if_eq (pc := 15) (tgt := 22) dX6_isNoneOrKnown_15 (by decide) (fun o => by first | exact o.1 _ (by decide) | exact o.2 _ _ | omega) (fun c15 => ?_) (fun c15 => ?_)
    · skip
      try replace c15 := b2i_0.mp c15
      refine zx_iconst (pc := 22) dX6_isNoneOrKnown_22 ?_
      refine zx_zret (pc := 23) dX6_isNoneOrKnown_23 (by omega) ?_
      refine ⟨?_, rfl⟩
      first
      | exact (b2i_t (Or.inl c1)).symm
      | exact (b2i_t (Or.inr c15)).symm
      | exact (b2i_f (fun z => by rcases z with z | z; exact c1 z; exact c15 z)).symm
    · skip
      try replace c15 := b2i_n0.mp c15
      refine zx_iconst (pc := 18) dX6_isNoneOrKnown_18 ?_
      refine zx_goto (pc := 19) (tgt := 23) dX6_isNoneOrKnown_19 (by decide) ?_
      refine zx_zret (pc := 23) dX6_isNoneOrKnown_23 (by omega) ?_
      refine ⟨?_, rfl⟩
      first
      | exact (b2i_t (Or.inl c1)).symm
      | exact (b2i_t (Or.inr c15)).symm
      | exact (b2i_f (fun z => by rcases z with z | z; exact c1 z; exact c15 z)).symm
set_option maxRecDepth 100000 in
theorem C_X6_isNoneOrOpen {h : zH} (hl : XL h) {a1 : Int} (r1 : -2147483648 ≤ a1 ∧ a1 < 2147483648) : kX6_isNoneOrOpen a1 h (fun r h2 => r = b2i (xNo h a1) ∧ h2 = h) := by
  apply eX6_isNoneOrOpen
  refine zx_iload_n (pc := 0) dX6_isNoneOrOpen_0 rfl rfl ?_
  refine zx_if_eq (pc := 1) (tgt := 18) dX6_isNoneOrOpen_1 (by decide) (fun o => by first | exact o.1 _ (by decide) | exact o.2 _ _ | omega) (fun c1 => ?_) (fun c1 => ?_)
  · skip
    refine zx_iconst (pc := 18) dX6_isNoneOrOpen_18 ?_
    refine zx_goto (pc := 19) (tgt := 23) dX6_isNoneOrOpen_19 (by decide) ?_
    refine zx_zret (pc := 23) dX6_isNoneOrOpen_23 (by omega) ?_
    refine ⟨?_, rfl⟩
    first
    | exact (b2i_t (Or.inl c1)).symm
    | exact (b2i_t (Or.inr c15)).symm
    | exact (b2i_f (fun z => by rcases z with z | z; exact c1 z; exact c15 z)).symm
  · skip
    refine zx_aload_n (pc := 4) dX6_isNoneOrOpen_4 rfl rfl ?_
    refine zg_X6_19 (pc := 5) dX6_isNoneOrOpen_5 ?_
    refine zg_X6_81 (pc := 8) dX6_isNoneOrOpen_8 ?_
    refine zx_iload_n (pc := 11) dX6_isNoneOrOpen_11 rfl rfl ?_
    refine zi_X6_160 (pc := 12) dX6_isNoneOrOpen_12 (C_X3_isOpen hl r1) (by decide) (Nat.le_of_ble_eq_true rfl) (fun z12 h12 u12 v12 q12 => ?_)
    obtain ⟨rfl, e12⟩ := q12
    rw [e12]
    clear e12 h12
    refine zx_if_eq (pc := 15) (tgt := 22) dX6_isNoneOrOpen_15 (by decide) (fun o => by first | exact o.1 _ (by decide) | exact o.2 _ _ | omega) (fun c15 => ?_) (fun c15 => ?_)
    · skip
      try replace c15 := b2i_0.mp c15
      refine zx_iconst (pc := 22) dX6_isNoneOrOpen_22 ?_
      refine zx_zret (pc := 23) dX6_isNoneOrOpen_23 (by omega) ?_
      refine ⟨?_, rfl⟩
      first
      | exact (b2i_t (Or.inl c1)).symm
      | exact (b2i_t (Or.inr c15)).symm
      | exact (b2i_f (fun z => by rcases z with z | z; exact c1 z; exact c15 z)).symm
    · skip
      try replace c15 := b2i_n0.mp c15
      refine zx_iconst (pc := 18) dX6_isNoneOrOpen_18 ?_
      refine zx_goto (pc := 19) (tgt := 23) dX6_isNoneOrOpen_19 (by decide) ?_
      refine zx_zret (pc := 23) dX6_isNoneOrOpen_23 (by omega) ?_
      refine ⟨?_, rfl⟩
      first
      | exact (b2i_t (Or.inl c1)).symm
      | exact (b2i_t (Or.inr c15)).symm
      | exact (b2i_f (fun z => by rcases z with z | z; exact c1 z; exact c15 z)).symm
noncomputable def X_wr0 (h : zH) (p v : Int) : zH × Int × Int := ifp (xRoomFor h (xPfc h)) (ifp ((x_wout (x_cl h) p v).2 < 0) ((x_wout (x_cl h) p v).1, 3, 0) ((x_wout (x_cl h) p v).1, 0, (x_wout (x_cl h) p v).2)) (x_cl h, 3, 0)
noncomputable def X_wrT (h : zH) (t p v : Int) : zH × Int × Int := ifp (xRoomFor h 1) (ifp ((x_win (x_cl h) t p v).2 < 0) ((x_win (x_cl h) t p v).1, 3, 0) ((x_win (x_cl h) t p v).1, 0, (x_win (x_cl h) t p v).2)) (x_cl h, 3, 0)
noncomputable def X_write (h : zH) (t p v : Int) : zH × Int × Int := ifp (¬ xKn h t ∨ ¬ xHas h p) (h, 1, 0) (ifp (v < -1 ∨ 999999 < v) (h, 2, 0) (ifp (gs h 45 = 0 ∨ ¬ xNo h t ∨ (xOwner h p ≠ 0 ∧ xOwner h p ≠ t)) (h, 3, 0) (ifp (t = 0) (X_wr0 h p v) (X_wrT h t p v))))
set_option maxRecDepth 100000 in
theorem T_write {h : zH} (s : XS h) {a1 a2 a3 : Int} (r1 : -2147483648 ≤ a1 ∧ a1 < 2147483648) (r2 : -2147483648 ≤ a2 ∧ a2 < 2147483648) (r3 : -2147483648 ≤ a3 ∧ a3 < 2147483648) : kT_write a1 a2 a3 h (zQn (X_write h a1 a2 a3)) (zXn [nSE, nAE, nIE] (X_write h a1 a2 a3)) := by
  have sc := XS_xcl s
  have pf := xPfc_r s
  apply eT_write
  unfold X_write
  refine zx_aload_n (pc := 0) dX6_write_0 rfl rfl ?_
  refine zx_iload_n (pc := 1) dX6_write_1 rfl rfl ?_
  refine zi_X6_103 (pc := 2) dX6_write_2 (C_X6_isNoneOrKnown r1) (by decide) (Nat.le_of_ble_eq_true rfl) (fun z2 h2 u2 v2 q2 => ?_)
  obtain ⟨rfl, e2⟩ := q2
  rw [e2]
  clear e2 h2
  refine zx_if_eq (pc := 5) (tgt := 22) dX6_write_5 (by decide) (fun o => by first | exact o.1 _ (by decide) | exact o.2 _ _ | omega) (fun c5 => ?_) (fun c5 => ?_)
  · skip
    try replace c5 := b2i_0.mp c5
    rw [ifp_t (Or.inl c5)]
    refine zx_throw (k := 2) (ik := 116) (is := 118) (ic := 120) (pc := 22) zt_120 zt_x118 dX6_write_22 dX6_write_25 (Or.inl ⟨dX6_write_26, rfl⟩) dX6_write_28 dX6_write_31 ⟨by decide, by decide, rfl, rfl⟩ (by decide) ?_
    exact ⟨0, rfl, rfl, rfl⟩
  · skip
    try replace c5 := b2i_n0.mp c5
    refine zx_aload_n (pc := 8) dX6_write_8 rfl rfl ?_
    refine zg_X6_19 (pc := 9) dX6_write_9 ?_
    refine zg_X6_107 (pc := 12) dX6_write_12 ?_
    refine zx_iload_n (pc := 15) dX6_write_15 rfl rfl ?_
    refine zi_X6_111 (pc := 16) dX6_write_16 (C_X4_has r2) (by decide) (Nat.le_of_ble_eq_true rfl) (fun z16 h16 u16 v16 q16 => ?_)
    obtain ⟨rfl, e16⟩ := q16
    rw [e16]
    clear e16 h16
    refine zx_if_ne (pc := 19) (tgt := 32) dX6_write_19 (by decide) (fun o => by first | exact o.1 _ (by decide) | exact o.2 _ _ | omega) (fun c19 => ?_) (fun c19 => ?_)
    · skip
      try replace c19 := b2i_n0.mp c19
      rw [ifp_f (fun z => by rcases z with z | z; exact z c5; exact z c19)]
      refine zx_iload_n (pc := 32) dX6_write_32 rfl rfl ?_
      refine zx_iconst (pc := 33) dX6_write_33 ?_
      refine zx_icmp_lt (pc := 34) (tgt := 43) dX6_write_34 (by decide) (fun o => by first | exact o.1 _ (by decide) | exact o.2 _ _ | omega) (fun o => by first | exact o.1 _ (by decide) | exact o.2 _ _ | omega) (fun c34 => ?_) (fun c34 => ?_)
      · skip
        rw [ifp_t (Or.inl c34)]
        refine zx_throw (k := 2) (ik := 38) (is := 122) (ic := 42) (pc := 43) zt_42 zt_x122 dX6_write_43 dX6_write_46 (Or.inl ⟨dX6_write_47, rfl⟩) dX6_write_49 dX6_write_52 ⟨by decide, by decide, rfl, rfl⟩ (by decide) ?_
        exact ⟨1, rfl, rfl, rfl⟩
      · skip
        refine zx_iload_n (pc := 37) dX6_write_37 rfl rfl ?_
        refine zx_ldc (pc := 38) (n := 999999) dX6_write_38 (by rw [show iI 999999 = (999999 : Int32) by decide +kernel]; exact zo_X6_121) ?_
        refine zx_icmp_le (pc := 40) (tgt := 53) dX6_write_40 (by decide) (fun o => by first | exact o.1 _ (by decide) | exact o.2 _ _ | omega) (fun o => by first | exact o.1 _ (by decide) | exact o.2 _ _ | omega) (fun c40 => ?_) (fun c40 => ?_)
        · skip
          rw [ifp_f (by omega)]
          refine zx_aload_n (pc := 53) dX6_write_53 rfl rfl ?_
          refine zg_X6_19 (pc := 54) dX6_write_54 ?_
          refine zg_X6_85 (pc := 57) dX6_write_57 ?_
          refine zx_if_eq (pc := 60) (tgt := 86) dX6_write_60 (by decide) (fun o => by first | exact o.1 _ (by decide) | exact o.2 _ _ | omega) (fun c60 => ?_) (fun c60 => ?_)
          · skip
            rw [ifp_t (Or.inl c60)]
            refine zx_throw (k := 2) (ik := 27) (is := 131) (ic := 31) (pc := 86) zt_31 zt_x131 dX6_write_86 dX6_write_89 (Or.inl ⟨dX6_write_90, rfl⟩) dX6_write_92 dX6_write_95 ⟨by decide, by decide, rfl, rfl⟩ (by decide) ?_
            exact ⟨2, rfl, rfl, rfl⟩
          · skip
            refine zx_aload_n (pc := 63) dX6_write_63 rfl rfl ?_
            refine zx_iload_n (pc := 64) dX6_write_64 rfl rfl ?_
            refine zi_X6_124 (pc := 65) dX6_write_65 (C_X6_isNoneOrOpen s.2.2.2.1 r1) (by decide) (Nat.le_of_ble_eq_true rfl) (fun z65 h65 u65 v65 q65 => ?_)
            obtain ⟨rfl, e65⟩ := q65
            rw [e65]
            clear e65 h65
            refine zx_if_eq (pc := 68) (tgt := 86) dX6_write_68 (by decide) (fun o => by first | exact o.1 _ (by decide) | exact o.2 _ _ | omega) (fun c68 => ?_) (fun c68 => ?_)
            · skip
              try replace c68 := b2i_0.mp c68
              rw [ifp_t (Or.inr (Or.inl c68))]
              refine zx_throw (k := 2) (ik := 27) (is := 131) (ic := 31) (pc := 86) zt_31 zt_x131 dX6_write_86 dX6_write_89 (Or.inl ⟨dX6_write_90, rfl⟩) dX6_write_92 dX6_write_95 ⟨by decide, by decide, rfl, rfl⟩ (by decide) ?_
              exact ⟨2, rfl, rfl, rfl⟩
            · skip
              try replace c68 := b2i_n0.mp c68
              refine zx_aload_n (pc := 71) dX6_write_71 rfl rfl ?_
              refine zg_X6_19 (pc := 72) dX6_write_72 ?_
              refine zg_X6_107 (pc := 75) dX6_write_75 ?_
              refine zx_iload_n (pc := 78) dX6_write_78 rfl rfl ?_
              refine zx_iload_n (pc := 79) dX6_write_79 rfl rfl ?_
              refine zi_X6_127 (pc := 80) dX6_write_80 (C_X4_isLockedAgainst s.2.2.1 r2 r1) (by decide) (Nat.le_of_ble_eq_true rfl) (fun z80 h80 u80 v80 q80 => ?_)
              obtain ⟨rfl, e80⟩ := q80
              rw [e80]
              clear e80 h80
              refine zx_if_eq (pc := 83) (tgt := 96) dX6_write_83 (by decide) (fun o => by first | exact o.1 _ (by decide) | exact o.2 _ _ | omega) (fun c83 => ?_) (fun c83 => ?_)
              · skip
                try replace c83 := b2i_0.mp c83
                rw [ifp_f (fun z => by rcases z with z | z | z; exact c60 z; exact z c68; exact c83 z)]
                refine zx_aload_n (pc := 96) dX6_write_96 rfl rfl ?_
                refine zg_X6_19 (pc := 97) dX6_write_97 ?_
                refine zx_iload_n (pc := 100) dX6_write_100 rfl rfl ?_
                refine zx_if_ne (pc := 101) (tgt := 114) dX6_write_101 (by decide) (fun o => by first | exact o.1 _ (by decide) | exact o.2 _ _ | omega) (fun c101 => ?_) (fun c101 => ?_)
                · skip
                  rw [ifp_f c101]
                  unfold X_wrT
                  refine zx_iconst (pc := 114) dX6_write_114 ?_
                  refine zi_X6_136 (pc := 115) dX6_write_115 (C_X0_hasRoomFor s (by first | exact pf | decide)) (by decide) (Nat.le_of_ble_eq_true rfl) (fun z115 h115 u115 v115 q115 => ?_)
                  obtain ⟨rfl, e115⟩ := q115
                  rw [e115]
                  clear e115 h115
                  refine zx_if_ne (pc := 118) (tgt := 131) dX6_write_118 (by decide) (fun o => by first | exact o.1 _ (by decide) | exact o.2 _ _ | omega) (fun c118 => ?_) (fun c118 => ?_)
                  · skip
                    try replace c118 := b2i_n0.mp c118
                    rw [ifp_t c118]
                    refine zx_iload_n (pc := 131) dX6_write_131 rfl rfl ?_
                    refine zx_if_ne (pc := 132) (tgt := 147) dX6_write_132 (by decide) (fun o => by first | exact o.1 _ (by decide) | exact o.2 _ _ | omega) (fun c132 => ?_) (fun c132 => ?_)
                    · skip
                      refine zx_aload_n (pc := 147) dX6_write_147 rfl rfl ?_
                      refine zg_X6_19 (pc := 148) dX6_write_148 ?_
                      refine zx_iload_n (pc := 151) dX6_write_151 rfl rfl ?_
                      refine zx_iload_n (pc := 152) dX6_write_152 rfl rfl ?_
                      refine zx_iload_n (pc := 153) dX6_write_153 rfl rfl ?_
                      refine zi_X6_141 (pc := 154) dX6_write_154 (C_X0_writeInside sc r1 r2 r3) (by decide) (Nat.le_of_ble_eq_true rfl) (fun z154 h154 u154 v154 q154 => ?_)
                      obtain ⟨rfl, e154⟩ := q154
                      rw [e154]
                      clear e154 h154
                      refine zx_istore (pc := 157) dX6_write_157 (by decide) rfl ?_
                      refine zx_iload (pc := 159) dX6_write_159 rfl ?_
                      refine zx_if_ge (pc := 161) (tgt := 174) dX6_write_161 (by decide) (fun o => by first | exact o.1 _ (by decide) | exact o.2 _ _ | omega) (fun c161 => ?_) (fun c161 => ?_)
                      · skip
                        rw [ifp_f (by omega)]
                        refine zx_iload (pc := 174) dX6_write_174 rfl ?_
                        refine zx_xiret (pc := 176) dX6_write_176 (fun o => by first | exact o.1 _ (by decide) | exact o.2 _ _ | omega) ?_
                        exact ⟨rfl, rfl, rfl⟩
                      · skip
                        rw [ifp_t c161]
                        refine zx_throw (k := 2) (ik := 27) (is := 145) (ic := 31) (pc := 164) zt_31 zt_x145 dX6_write_164 dX6_write_167 (Or.inl ⟨dX6_write_168, rfl⟩) dX6_write_170 dX6_write_173 ⟨by decide, by decide, rfl, rfl⟩ (by decide) ?_
                        exact ⟨2, rfl, rfl, rfl⟩
                    · skip
                      exact absurd c132 c101
                  · skip
                    try replace c118 := b2i_0.mp c118
                    rw [ifp_f c118]
                    refine zx_throw (k := 2) (ik := 27) (is := 139) (ic := 31) (pc := 121) zt_31 zt_x139 dX6_write_121 dX6_write_124 (Or.inl ⟨dX6_write_125, rfl⟩) dX6_write_127 dX6_write_130 ⟨by decide, by decide, rfl, rfl⟩ (by decide) ?_
                    exact ⟨2, rfl, rfl, rfl⟩
                · skip
                  rw [ifp_t c101]
                  unfold X_wr0
                  refine zx_aload_n (pc := 104) dX6_write_104 rfl rfl ?_
                  refine zg_X6_19 (pc := 105) dX6_write_105 ?_
                  refine zi_X6_133 (pc := 108) dX6_write_108 (C_X0_pagesOfNextCommit s) (by decide) (Nat.le_of_ble_eq_true rfl) (fun z108 h108 u108 v108 q108 => ?_)
                  obtain ⟨rfl, e108⟩ := q108
                  rw [e108]
                  clear e108 h108
                  refine zx_goto (pc := 111) (tgt := 115) dX6_write_111 (by decide) ?_
                  refine zi_X6_136 (pc := 115) dX6_write_115 (C_X0_hasRoomFor s (by first | exact pf | decide)) (by decide) (Nat.le_of_ble_eq_true rfl) (fun z115 h115 u115 v115 q115 => ?_)
                  obtain ⟨rfl, e115⟩ := q115
                  rw [e115]
                  clear e115 h115
                  refine zx_if_ne (pc := 118) (tgt := 131) dX6_write_118 (by decide) (fun o => by first | exact o.1 _ (by decide) | exact o.2 _ _ | omega) (fun c118 => ?_) (fun c118 => ?_)
                  · skip
                    try replace c118 := b2i_n0.mp c118
                    rw [ifp_t c118]
                    refine zx_iload_n (pc := 131) dX6_write_131 rfl rfl ?_
                    refine zx_if_ne (pc := 132) (tgt := 147) dX6_write_132 (by decide) (fun o => by first | exact o.1 _ (by decide) | exact o.2 _ _ | omega) (fun c132 => ?_) (fun c132 => ?_)
                    · skip
                      exact absurd c101 c132
                    · skip
                      refine zx_aload_n (pc := 135) dX6_write_135 rfl rfl ?_
                      refine zg_X6_19 (pc := 136) dX6_write_136 ?_
                      refine zx_iload_n (pc := 139) dX6_write_139 rfl rfl ?_
                      refine zx_iload_n (pc := 140) dX6_write_140 rfl rfl ?_
                      refine zi_X6_74 (pc := 141) dX6_write_141 (C_X0_writeOutside sc r2 r3) (by decide) (Nat.le_of_ble_eq_true rfl) (fun z141 h141 u141 v141 q141 => ?_)
                      obtain ⟨rfl, e141⟩ := q141
                      rw [e141]
                      clear e141 h141
                      refine zx_goto (pc := 144) (tgt := 157) dX6_write_144 (by decide) ?_
                      refine zx_istore (pc := 157) dX6_write_157 (by decide) rfl ?_
                      refine zx_iload (pc := 159) dX6_write_159 rfl ?_
                      refine zx_if_ge (pc := 161) (tgt := 174) dX6_write_161 (by decide) (fun o => by first | exact o.1 _ (by decide) | exact o.2 _ _ | omega) (fun c161 => ?_) (fun c161 => ?_)
                      · skip
                        rw [ifp_f (by omega)]
                        refine zx_iload (pc := 174) dX6_write_174 rfl ?_
                        refine zx_xiret (pc := 176) dX6_write_176 (fun o => by first | exact o.1 _ (by decide) | exact o.2 _ _ | omega) ?_
                        exact ⟨rfl, rfl, rfl⟩
                      · skip
                        rw [ifp_t c161]
                        refine zx_throw (k := 2) (ik := 27) (is := 145) (ic := 31) (pc := 164) zt_31 zt_x145 dX6_write_164 dX6_write_167 (Or.inl ⟨dX6_write_168, rfl⟩) dX6_write_170 dX6_write_173 ⟨by decide, by decide, rfl, rfl⟩ (by decide) ?_
                        exact ⟨2, rfl, rfl, rfl⟩
                  · skip
                    try replace c118 := b2i_0.mp c118
                    rw [ifp_f c118]
                    refine zx_throw (k := 2) (ik := 27) (is := 139) (ic := 31) (pc := 121) zt_31 zt_x139 dX6_write_121 dX6_write_124 (Or.inl ⟨dX6_write_125, rfl⟩) dX6_write_127 dX6_write_130 ⟨by decide, by decide, rfl, rfl⟩ (by decide) ?_
                    exact ⟨2, rfl, rfl, rfl⟩
              · skip
                try replace c83 := b2i_n0.mp c83
                rw [ifp_t (Or.inr (Or.inr c83))]
                refine zx_throw (k := 2) (ik := 27) (is := 131) (ic := 31) (pc := 86) zt_31 zt_x131 dX6_write_86 dX6_write_89 (Or.inl ⟨dX6_write_90, rfl⟩) dX6_write_92 dX6_write_95 ⟨by decide, by decide, rfl, rfl⟩ (by decide) ?_
                exact ⟨2, rfl, rfl, rfl⟩
        · skip
          rw [ifp_t (Or.inr c40)]
          refine zx_throw (k := 2) (ik := 38) (is := 122) (ic := 42) (pc := 43) zt_42 zt_x122 dX6_write_43 dX6_write_46 (Or.inl ⟨dX6_write_47, rfl⟩) dX6_write_49 dX6_write_52 ⟨by decide, by decide, rfl, rfl⟩ (by decide) ?_
          exact ⟨1, rfl, rfl, rfl⟩
    · skip
      try replace c19 := b2i_0.mp c19
      rw [ifp_t (Or.inr c19)]
      refine zx_throw (k := 2) (ik := 116) (is := 118) (ic := 120) (pc := 22) zt_120 zt_x118 dX6_write_22 dX6_write_25 (Or.inl ⟨dX6_write_26, rfl⟩) dX6_write_28 dX6_write_31 ⟨by decide, by decide, rfl, rfl⟩ (by decide) ?_
      exact ⟨0, rfl, rfl, rfl⟩
noncomputable def X_read (h : zH) (t p : Int) : zH × Int × Int := ifp (¬ xKn h t ∨ ¬ xHas h p) (h, 1, 0) (ifp (gs h 45 = 0 ∨ ¬ xNo h t) (h, 2, 0) (h, 0, xVal h p (xSeen h t p)))
set_option maxRecDepth 100000 in
theorem T_read {h : zH} (s : XS h) {a1 a2 : Int} (r1 : -2147483648 ≤ a1 ∧ a1 < 2147483648) (r2 : -2147483648 ≤ a2 ∧ a2 < 2147483648) : kT_read a1 a2 h (zQn (X_read h a1 a2)) (zXn [nSE, nIE] (X_read h a1 a2)) := by
  apply eT_read
  unfold X_read
  refine zx_aload_n (pc := 0) dX6_read_0 rfl rfl ?_
  refine zx_iload_n (pc := 1) dX6_read_1 rfl rfl ?_
  refine zi_X6_103 (pc := 2) dX6_read_2 (C_X6_isNoneOrKnown r1) (by decide) (Nat.le_of_ble_eq_true rfl) (fun z2 h2 u2 v2 q2 => ?_)
  obtain ⟨rfl, e2⟩ := q2
  rw [e2]
  clear e2 h2
  refine zx_if_eq (pc := 5) (tgt := 22) dX6_read_5 (by decide) (fun o => by first | exact o.1 _ (by decide) | exact o.2 _ _ | omega) (fun c5 => ?_) (fun c5 => ?_)
  · skip
    try replace c5 := b2i_0.mp c5
    rw [ifp_t (Or.inl c5)]
    refine zx_throw (k := 2) (ik := 116) (is := 118) (ic := 120) (pc := 22) zt_120 zt_x118 dX6_read_22 dX6_read_25 (Or.inl ⟨dX6_read_26, rfl⟩) dX6_read_28 dX6_read_31 ⟨by decide, by decide, rfl, rfl⟩ (by decide) ?_
    exact ⟨0, rfl, rfl, rfl⟩
  · skip
    try replace c5 := b2i_n0.mp c5
    refine zx_aload_n (pc := 8) dX6_read_8 rfl rfl ?_
    refine zg_X6_19 (pc := 9) dX6_read_9 ?_
    refine zg_X6_107 (pc := 12) dX6_read_12 ?_
    refine zx_iload_n (pc := 15) dX6_read_15 rfl rfl ?_
    refine zi_X6_111 (pc := 16) dX6_read_16 (C_X4_has r2) (by decide) (Nat.le_of_ble_eq_true rfl) (fun z16 h16 u16 v16 q16 => ?_)
    obtain ⟨rfl, e16⟩ := q16
    rw [e16]
    clear e16 h16
    refine zx_if_ne (pc := 19) (tgt := 32) dX6_read_19 (by decide) (fun o => by first | exact o.1 _ (by decide) | exact o.2 _ _ | omega) (fun c19 => ?_) (fun c19 => ?_)
    · skip
      try replace c19 := b2i_n0.mp c19
      rw [ifp_f (fun z => by rcases z with z | z; exact z c5; exact z c19)]
      refine zx_aload_n (pc := 32) dX6_read_32 rfl rfl ?_
      refine zg_X6_19 (pc := 33) dX6_read_33 ?_
      refine zg_X6_85 (pc := 36) dX6_read_36 ?_
      refine zx_if_eq (pc := 39) (tgt := 50) dX6_read_39 (by decide) (fun o => by first | exact o.1 _ (by decide) | exact o.2 _ _ | omega) (fun c39 => ?_) (fun c39 => ?_)
      · skip
        rw [ifp_t (Or.inl c39)]
        refine zx_throw (k := 2) (ik := 27) (is := 147) (ic := 31) (pc := 50) zt_31 zt_x147 dX6_read_50 dX6_read_53 (Or.inl ⟨dX6_read_54, rfl⟩) dX6_read_56 dX6_read_59 ⟨by decide, by decide, rfl, rfl⟩ (by decide) ?_
        exact ⟨1, rfl, rfl, rfl⟩
      · skip
        refine zx_aload_n (pc := 42) dX6_read_42 rfl rfl ?_
        refine zx_iload_n (pc := 43) dX6_read_43 rfl rfl ?_
        refine zi_X6_124 (pc := 44) dX6_read_44 (C_X6_isNoneOrOpen s.2.2.2.1 r1) (by decide) (Nat.le_of_ble_eq_true rfl) (fun z44 h44 u44 v44 q44 => ?_)
        obtain ⟨rfl, e44⟩ := q44
        rw [e44]
        clear e44 h44
        refine zx_if_ne (pc := 47) (tgt := 60) dX6_read_47 (by decide) (fun o => by first | exact o.1 _ (by decide) | exact o.2 _ _ | omega) (fun c47 => ?_) (fun c47 => ?_)
        · skip
          try replace c47 := b2i_n0.mp c47
          rw [ifp_f (fun z => by rcases z with z | z; exact c39 z; exact z c47)]
          refine zx_aload_n (pc := 60) dX6_read_60 rfl rfl ?_
          refine zg_X6_19 (pc := 61) dX6_read_61 ?_
          refine zx_iload_n (pc := 64) dX6_read_64 rfl rfl ?_
          refine zx_aload_n (pc := 65) dX6_read_65 rfl rfl ?_
          refine zg_X6_19 (pc := 66) dX6_read_66 ?_
          refine zg_X6_107 (pc := 69) dX6_read_69 ?_
          refine zx_iload_n (pc := 72) dX6_read_72 rfl rfl ?_
          refine zx_iload_n (pc := 73) dX6_read_73 rfl rfl ?_
          refine zi_X6_149 (pc := 74) dX6_read_74 (C_X4_versionSeenBy s.2.2.1 r1 r2) (by decide) (Nat.le_of_ble_eq_true rfl) (fun z74 h74 u74 v74 q74 => ?_)
          obtain ⟨rfl, e74⟩ := q74
          rw [e74]
          clear e74 h74
          refine zi_X6_152 (pc := 77) dX6_read_77 (C_X0_valueOf s.1 r2 ⟨by assumption, by assumption⟩) (by decide) (Nat.le_of_ble_eq_true rfl) (fun z77 h77 u77 v77 q77 => ?_)
          obtain ⟨rfl, e77⟩ := q77
          rw [e77]
          clear e77 h77
          refine zx_xiret (pc := 80) dX6_read_80 (fun o => by first | exact o.1 _ (by decide) | exact o.2 _ _ | omega) ?_
          exact ⟨rfl, rfl, rfl⟩
        · skip
          try replace c47 := b2i_0.mp c47
          rw [ifp_t (Or.inr c47)]
          refine zx_throw (k := 2) (ik := 27) (is := 147) (ic := 31) (pc := 50) zt_31 zt_x147 dX6_read_50 dX6_read_53 (Or.inl ⟨dX6_read_54, rfl⟩) dX6_read_56 dX6_read_59 ⟨by decide, by decide, rfl, rfl⟩ (by decide) ?_
          exact ⟨1, rfl, rfl, rfl⟩
    · skip
      try replace c19 := b2i_0.mp c19
      rw [ifp_t (Or.inr c19)]
      refine zx_throw (k := 2) (ik := 116) (is := 118) (ic := 120) (pc := 22) zt_120 zt_x118 dX6_read_22 dX6_read_25 (Or.inl ⟨dX6_read_26, rfl⟩) dX6_read_28 dX6_read_31 ⟨by decide, by decide, rfl, rfl⟩ (by decide) ?_
      exact ⟨0, rfl, rfl, rfl⟩
noncomputable def X_cm1 (h : zH) (t n : Int) : zH × Int × Int := ifp ((x_com h t n).2 = 0) ((x_com h t n).1, 2, 0) ((x_com h t n).1, 0, n)
noncomputable def X_commit (h : zH) (t : Int) : zH × Int × Int := ifp (¬ xTx h t) (h, 1, 0) (ifp (gs h 45 = 0 ∨ ¬ xState h t = 1) (h, 2, 0) (ifp (0 < xLocks h t) (ifp (xRoomFor h (xPfc h)) (X_cm1 (x_cl h) t (xLocks h t)) (x_cl h, 2, 0)) (X_cm1 h t (xLocks h t))))
theorem xLocks_r {h : zH} (s : XS h) (t : Int) : 0 ≤ xLocks h t ∧ xLocks h t ≤ 64 := by
  have op := cnt_r (fun p => ga h 23 p = t) 0 (gs h 104).toNat
  have st := s.2.2.1
  unfold XT at st
  unfold xLocks
  omega
set_option maxRecDepth 100000 in
theorem T_commit {h : zH} (s : XS h) {a1 : Int} (r1 : -2147483648 ≤ a1 ∧ a1 < 2147483648) : kT_commit a1 h (zQn (X_commit h a1)) (zXn [nSE, nIE] (X_commit h a1)) := by
  have sc := XS_xcl s
  have pf := xPfc_r s
  have lk := xLocks_r s a1
  apply eT_commit
  unfold X_commit X_cm1
  refine zx_aload_n (pc := 0) dX6_commit_0 rfl rfl ?_
  refine zg_X6_19 (pc := 1) dX6_commit_1 ?_
  refine zg_X6_81 (pc := 4) dX6_commit_4 ?_
  refine zx_iload_n (pc := 7) dX6_commit_7 rfl rfl ?_
  refine zi_X6_155 (pc := 8) dX6_commit_8 (C_X3_knows r1) (by decide) (Nat.le_of_ble_eq_true rfl) (fun z8 h8 u8 v8 q8 => ?_)
  obtain ⟨rfl, e8⟩ := q8
  rw [e8]
  clear e8 h8
  refine zx_if_ne (pc := 11) (tgt := 24) dX6_commit_11 (by decide) (fun o => by first | exact o.1 _ (by decide) | exact o.2 _ _ | omega) (fun c11 => ?_) (fun c11 => ?_)
  · skip
    try replace c11 := b2i_n0.mp c11
    rw [ifp_f (fun z => z c11)]
    refine zx_aload_n (pc := 24) dX6_commit_24 rfl rfl ?_
    refine zg_X6_19 (pc := 25) dX6_commit_25 ?_
    refine zg_X6_85 (pc := 28) dX6_commit_28 ?_
    refine zx_if_eq (pc := 31) (tgt := 48) dX6_commit_31 (by decide) (fun o => by first | exact o.1 _ (by decide) | exact o.2 _ _ | omega) (fun c31 => ?_) (fun c31 => ?_)
    · skip
      rw [ifp_t (Or.inl c31)]
      refine zx_throw (k := 2) (ik := 27) (is := 163) (ic := 31) (pc := 48) zt_31 zt_x163 dX6_commit_48 dX6_commit_51 (Or.inl ⟨dX6_commit_52, rfl⟩) dX6_commit_54 dX6_commit_57 ⟨by decide, by decide, rfl, rfl⟩ (by decide) ?_
      exact ⟨1, rfl, rfl, rfl⟩
    · skip
      refine zx_aload_n (pc := 34) dX6_commit_34 rfl rfl ?_
      refine zg_X6_19 (pc := 35) dX6_commit_35 ?_
      refine zg_X6_81 (pc := 38) dX6_commit_38 ?_
      refine zx_iload_n (pc := 41) dX6_commit_41 rfl rfl ?_
      refine zi_X6_160 (pc := 42) dX6_commit_42 (C_X3_isOpen s.2.2.2.1 r1) (by decide) (Nat.le_of_ble_eq_true rfl) (fun z42 h42 u42 v42 q42 => ?_)
      obtain ⟨rfl, e42⟩ := q42
      rw [e42]
      clear e42 h42
      refine zx_if_ne (pc := 45) (tgt := 58) dX6_commit_45 (by decide) (fun o => by first | exact o.1 _ (by decide) | exact o.2 _ _ | omega) (fun c45 => ?_) (fun c45 => ?_)
      · skip
        try replace c45 := b2i_n0.mp c45
        rw [ifp_f (fun z => by rcases z with z | z; exact c31 z; exact z c45)]
        refine zx_aload_n (pc := 58) dX6_commit_58 rfl rfl ?_
        refine zg_X6_19 (pc := 59) dX6_commit_59 ?_
        refine zg_X6_107 (pc := 62) dX6_commit_62 ?_
        refine zx_iload_n (pc := 65) dX6_commit_65 rfl rfl ?_
        refine zi_X6_165 (pc := 66) dX6_commit_66 (C_X4_countLocked s.2.2.1 r1) (by decide) (Nat.le_of_ble_eq_true rfl) (fun z66 h66 u66 v66 q66 => ?_)
        obtain ⟨rfl, e66⟩ := q66
        rw [e66]
        clear e66 h66
        refine zx_istore_n (pc := 69) dX6_commit_69 rfl (by decide) rfl ?_
        refine zx_iload_n (pc := 70) dX6_commit_70 rfl rfl ?_
        refine zx_if_le (pc := 71) (tgt := 101) dX6_commit_71 (by decide) (fun o => by first | exact o.1 _ (by decide) | exact o.2 _ _ | omega) (fun c71 => ?_) (fun c71 => ?_)
        · skip
          rw [ifp_f (by omega)]
          refine zx_aload_n (pc := 101) dX6_commit_101 rfl rfl ?_
          refine zg_X6_19 (pc := 102) dX6_commit_102 ?_
          refine zx_iload_n (pc := 105) dX6_commit_105 rfl rfl ?_
          refine zx_iload_n (pc := 106) dX6_commit_106 rfl rfl ?_
          refine zi_X6_169 (pc := 107) dX6_commit_107 (C_X0_commitTransaction (by first | exact sc | exact s) r1 (by omega)) (by decide) (Nat.le_of_ble_eq_true rfl) (fun z107 h107 u107 v107 q107 => ?_)
          obtain ⟨rfl, e107⟩ := q107
          rw [e107]
          clear e107 h107
          refine zx_if_ne (pc := 110) (tgt := 123) dX6_commit_110 (by decide) (fun o => by first | exact o.1 _ (by decide) | exact o.2 _ _ | omega) (fun c110 => ?_) (fun c110 => ?_)
          · skip
            try replace c110 := b2i_n0.mp c110
            rw [ifp_f c110]
            refine zx_iload_n (pc := 123) dX6_commit_123 rfl rfl ?_
            refine zx_xiret (pc := 124) dX6_commit_124 (fun o => by first | exact o.1 _ (by decide) | exact o.2 _ _ | omega) ?_
            exact ⟨rfl, rfl, rfl⟩
          · skip
            try replace c110 := b2i_0.mp c110
            rw [ifp_t c110]
            refine zx_throw (k := 2) (ik := 27) (is := 145) (ic := 31) (pc := 113) zt_31 zt_x145 dX6_commit_113 dX6_commit_116 (Or.inl ⟨dX6_commit_117, rfl⟩) dX6_commit_119 dX6_commit_122 ⟨by decide, by decide, rfl, rfl⟩ (by decide) ?_
            exact ⟨1, rfl, rfl, rfl⟩
        · skip
          rw [ifp_t c71]
          refine zx_aload_n (pc := 74) dX6_commit_74 rfl rfl ?_
          refine zg_X6_19 (pc := 75) dX6_commit_75 ?_
          refine zx_aload_n (pc := 78) dX6_commit_78 rfl rfl ?_
          refine zg_X6_19 (pc := 79) dX6_commit_79 ?_
          refine zi_X6_133 (pc := 82) dX6_commit_82 (C_X0_pagesOfNextCommit s) (by decide) (Nat.le_of_ble_eq_true rfl) (fun z82 h82 u82 v82 q82 => ?_)
          obtain ⟨rfl, e82⟩ := q82
          rw [e82]
          clear e82 h82
          refine zi_X6_136 (pc := 85) dX6_commit_85 (C_X0_hasRoomFor s pf) (by decide) (Nat.le_of_ble_eq_true rfl) (fun z85 h85 u85 v85 q85 => ?_)
          obtain ⟨rfl, e85⟩ := q85
          rw [e85]
          clear e85 h85
          refine zx_if_ne (pc := 88) (tgt := 101) dX6_commit_88 (by decide) (fun o => by first | exact o.1 _ (by decide) | exact o.2 _ _ | omega) (fun c88 => ?_) (fun c88 => ?_)
          · skip
            try replace c88 := b2i_n0.mp c88
            rw [ifp_t c88]
            refine zx_aload_n (pc := 101) dX6_commit_101 rfl rfl ?_
            refine zg_X6_19 (pc := 102) dX6_commit_102 ?_
            refine zx_iload_n (pc := 105) dX6_commit_105 rfl rfl ?_
            refine zx_iload_n (pc := 106) dX6_commit_106 rfl rfl ?_
            refine zi_X6_169 (pc := 107) dX6_commit_107 (C_X0_commitTransaction (by first | exact sc | exact s) r1 (by omega)) (by decide) (Nat.le_of_ble_eq_true rfl) (fun z107 h107 u107 v107 q107 => ?_)
            obtain ⟨rfl, e107⟩ := q107
            rw [e107]
            clear e107 h107
            refine zx_if_ne (pc := 110) (tgt := 123) dX6_commit_110 (by decide) (fun o => by first | exact o.1 _ (by decide) | exact o.2 _ _ | omega) (fun c110 => ?_) (fun c110 => ?_)
            · skip
              try replace c110 := b2i_n0.mp c110
              rw [ifp_f c110]
              refine zx_iload_n (pc := 123) dX6_commit_123 rfl rfl ?_
              refine zx_xiret (pc := 124) dX6_commit_124 (fun o => by first | exact o.1 _ (by decide) | exact o.2 _ _ | omega) ?_
              exact ⟨rfl, rfl, rfl⟩
            · skip
              try replace c110 := b2i_0.mp c110
              rw [ifp_t c110]
              refine zx_throw (k := 2) (ik := 27) (is := 145) (ic := 31) (pc := 113) zt_31 zt_x145 dX6_commit_113 dX6_commit_116 (Or.inl ⟨dX6_commit_117, rfl⟩) dX6_commit_119 dX6_commit_122 ⟨by decide, by decide, rfl, rfl⟩ (by decide) ?_
              exact ⟨1, rfl, rfl, rfl⟩
          · skip
            try replace c88 := b2i_0.mp c88
            rw [ifp_f c88]
            refine zx_throw (k := 2) (ik := 27) (is := 139) (ic := 31) (pc := 91) zt_31 zt_x139 dX6_commit_91 dX6_commit_94 (Or.inl ⟨dX6_commit_95, rfl⟩) dX6_commit_97 dX6_commit_100 ⟨by decide, by decide, rfl, rfl⟩ (by decide) ?_
            exact ⟨1, rfl, rfl, rfl⟩
      · skip
        try replace c45 := b2i_0.mp c45
        rw [ifp_t (Or.inr c45)]
        refine zx_throw (k := 2) (ik := 27) (is := 163) (ic := 31) (pc := 48) zt_31 zt_x163 dX6_commit_48 dX6_commit_51 (Or.inl ⟨dX6_commit_52, rfl⟩) dX6_commit_54 dX6_commit_57 ⟨by decide, by decide, rfl, rfl⟩ (by decide) ?_
        exact ⟨1, rfl, rfl, rfl⟩
  · skip
    try replace c11 := b2i_0.mp c11
    rw [ifp_t c11]
    refine zx_throw (k := 2) (ik := 116) (is := 158) (ic := 120) (pc := 14) zt_120 zt_x158 dX6_commit_14 dX6_commit_17 (Or.inl ⟨dX6_commit_18, rfl⟩) dX6_commit_20 dX6_commit_23 ⟨by decide, by decide, rfl, rfl⟩ (by decide) ?_
    exact ⟨0, rfl, rfl, rfl⟩
noncomputable def X_abort (h : zH) (t : Int) : zH × Int × Int := ifp (¬ xTx h t) (h, 1, 0) (ifp (gs h 45 = 0 ∨ ¬ xState h t = 1) (h, 2, 0) (x_close (x_rel h t (gs h 104)) t 3, 0, xLocks h t))
set_option maxRecDepth 100000 in
theorem T_abort {h : zH} (s : XS h) {a1 : Int} (r1 : -2147483648 ≤ a1 ∧ a1 < 2147483648) : kT_abort a1 h (zQn (X_abort h a1)) (zXn [nSE, nIE] (X_abort h a1)) := by
  have lk := xLocks_r s a1
  apply eT_abort
  unfold X_abort
  refine zx_aload_n (pc := 0) dX6_abort_0 rfl rfl ?_
  refine zg_X6_19 (pc := 1) dX6_abort_1 ?_
  refine zg_X6_81 (pc := 4) dX6_abort_4 ?_
  refine zx_iload_n (pc := 7) dX6_abort_7 rfl rfl ?_
  refine zi_X6_155 (pc := 8) dX6_abort_8 (C_X3_knows r1) (by decide) (Nat.le_of_ble_eq_true rfl) (fun z8 h8 u8 v8 q8 => ?_)
  obtain ⟨rfl, e8⟩ := q8
  rw [e8]
  clear e8 h8
  refine zx_if_ne (pc := 11) (tgt := 24) dX6_abort_11 (by decide) (fun o => by first | exact o.1 _ (by decide) | exact o.2 _ _ | omega) (fun c11 => ?_) (fun c11 => ?_)
  · skip
    try replace c11 := b2i_n0.mp c11
    rw [ifp_f (fun z => z c11)]
    refine zx_aload_n (pc := 24) dX6_abort_24 rfl rfl ?_
    refine zg_X6_19 (pc := 25) dX6_abort_25 ?_
    refine zg_X6_85 (pc := 28) dX6_abort_28 ?_
    refine zx_if_eq (pc := 31) (tgt := 48) dX6_abort_31 (by decide) (fun o => by first | exact o.1 _ (by decide) | exact o.2 _ _ | omega) (fun c31 => ?_) (fun c31 => ?_)
    · skip
      rw [ifp_t (Or.inl c31)]
      refine zx_throw (k := 2) (ik := 27) (is := 172) (ic := 31) (pc := 48) zt_31 zt_x172 dX6_abort_48 dX6_abort_51 (Or.inl ⟨dX6_abort_52, rfl⟩) dX6_abort_54 dX6_abort_57 ⟨by decide, by decide, rfl, rfl⟩ (by decide) ?_
      exact ⟨1, rfl, rfl, rfl⟩
    · skip
      refine zx_aload_n (pc := 34) dX6_abort_34 rfl rfl ?_
      refine zg_X6_19 (pc := 35) dX6_abort_35 ?_
      refine zg_X6_81 (pc := 38) dX6_abort_38 ?_
      refine zx_iload_n (pc := 41) dX6_abort_41 rfl rfl ?_
      refine zi_X6_160 (pc := 42) dX6_abort_42 (C_X3_isOpen s.2.2.2.1 r1) (by decide) (Nat.le_of_ble_eq_true rfl) (fun z42 h42 u42 v42 q42 => ?_)
      obtain ⟨rfl, e42⟩ := q42
      rw [e42]
      clear e42 h42
      refine zx_if_ne (pc := 45) (tgt := 58) dX6_abort_45 (by decide) (fun o => by first | exact o.1 _ (by decide) | exact o.2 _ _ | omega) (fun c45 => ?_) (fun c45 => ?_)
      · skip
        try replace c45 := b2i_n0.mp c45
        rw [ifp_f (fun z => by rcases z with z | z; exact c31 z; exact z c45)]
        refine zx_aload_n (pc := 58) dX6_abort_58 rfl rfl ?_
        refine zg_X6_19 (pc := 59) dX6_abort_59 ?_
        refine zg_X6_107 (pc := 62) dX6_abort_62 ?_
        refine zx_iload_n (pc := 65) dX6_abort_65 rfl rfl ?_
        refine zi_X6_165 (pc := 66) dX6_abort_66 (C_X4_countLocked s.2.2.1 r1) (by decide) (Nat.le_of_ble_eq_true rfl) (fun z66 h66 u66 v66 q66 => ?_)
        obtain ⟨rfl, e66⟩ := q66
        rw [e66]
        clear e66 h66
        refine zx_istore_n (pc := 69) dX6_abort_69 rfl (by decide) rfl ?_
        refine zx_aload_n (pc := 70) dX6_abort_70 rfl rfl ?_
        refine zg_X6_19 (pc := 71) dX6_abort_71 ?_
        refine zg_X6_107 (pc := 74) dX6_abort_74 ?_
        refine zx_iload_n (pc := 77) dX6_abort_77 rfl rfl ?_
        refine zi_X6_174 (pc := 78) dX6_abort_78 (C_X4_release s.2.2.1 r1) (by decide) (Nat.le_of_ble_eq_true rfl) (fun h78 q78 => ?_)
        rw [q78]
        clear q78 h78
        refine zx_aload_n (pc := 81) dX6_abort_81 rfl rfl ?_
        refine zg_X6_19 (pc := 82) dX6_abort_82 ?_
        refine zg_X6_81 (pc := 85) dX6_abort_85 ?_
        refine zx_iload_n (pc := 88) dX6_abort_88 rfl rfl ?_
        refine zx_iconst (pc := 89) dX6_abort_89 ?_
        refine zi_X6_177 (pc := 90) dX6_abort_90 (C_X3_close (h := x_rel h a1 (gs h 104)) s.2.2.2.1 r1 (by decide)) (by decide) (Nat.le_of_ble_eq_true rfl) (fun h90 q90 => ?_)
        rw [q90]
        clear q90 h90
        refine zx_iload_n (pc := 93) dX6_abort_93 rfl rfl ?_
        refine zx_xiret (pc := 94) dX6_abort_94 (fun o => by first | exact o.1 _ (by decide) | exact o.2 _ _ | omega) ?_
        exact ⟨rfl, rfl, rfl⟩
      · skip
        try replace c45 := b2i_0.mp c45
        rw [ifp_t (Or.inr c45)]
        refine zx_throw (k := 2) (ik := 27) (is := 172) (ic := 31) (pc := 48) zt_31 zt_x172 dX6_abort_48 dX6_abort_51 (Or.inl ⟨dX6_abort_52, rfl⟩) dX6_abort_54 dX6_abort_57 ⟨by decide, by decide, rfl, rfl⟩ (by decide) ?_
        exact ⟨1, rfl, rfl, rfl⟩
  · skip
    try replace c11 := b2i_0.mp c11
    rw [ifp_t c11]
    refine zx_throw (k := 2) (ik := 116) (is := 158) (ic := 120) (pc := 14) zt_120 zt_x158 dX6_abort_14 dX6_abort_17 (Or.inl ⟨dX6_abort_18, rfl⟩) dX6_abort_20 dX6_abort_23 ⟨by decide, by decide, rfl, rfl⟩ (by decide) ?_
    exact ⟨0, rfl, rfl, rfl⟩
noncomputable def X_openReader (h : zH) : zH × Int × Int := ifp (gs h 45 = 0) (h, 1, 0) (ifp (xNewRd h < 0) (x_addR h, 1, 0) (x_addR h, 0, xNewRd h))
set_option maxRecDepth 100000 in
theorem T_openReader {h : zH} (s : XS h) : kT_openReader h (zQn (X_openReader h)) (zXn [nIE] (X_openReader h)) := by
  apply eT_openReader
  unfold X_openReader
  refine zx_aload_n (pc := 0) dX6_openReader_0 rfl rfl ?_
  refine zg_X6_19 (pc := 1) dX6_openReader_1 ?_
  refine zg_X6_85 (pc := 4) dX6_openReader_4 ?_
  refine zx_if_eq (pc := 7) (tgt := 23) dX6_openReader_7 (by decide) (fun o => by first | exact o.1 _ (by decide) | exact o.2 _ _ | omega) (fun c7 => ?_) (fun c7 => ?_)
  · skip
    rw [ifp_t c7]
    refine zx_iconst (pc := 23) dX6_openReader_23 ?_
    refine zx_istore_n (pc := 24) dX6_openReader_24 rfl (by decide) rfl ?_
    refine zx_iload_n (pc := 25) dX6_openReader_25 rfl rfl ?_
    refine zx_if_ge (pc := 26) (tgt := 39) dX6_openReader_26 (by decide) (fun _ => by decide) (fun c9 => absurd c9 (by decide)) (fun _ => ?_)
    refine zx_throw (k := 2) (ik := 27) (is := 184) (ic := 31) (pc := 29) zt_31 zt_x184 dX6_openReader_29 dX6_openReader_32 (Or.inl ⟨dX6_openReader_33, rfl⟩) dX6_openReader_35 dX6_openReader_38 ⟨by decide, by decide, rfl, rfl⟩ (by decide) ?_
    exact ⟨0, rfl, rfl, rfl⟩
  · skip
    rw [ifp_f c7]
    refine zx_aload_n (pc := 10) dX6_openReader_10 rfl rfl ?_
    refine zg_X6_19 (pc := 11) dX6_openReader_11 ?_
    refine zg_X6_107 (pc := 14) dX6_openReader_14 ?_
    refine zi_X6_181 (pc := 17) dX6_openReader_17 (C_X4_addReader s.2.2.2.2.1) (by decide) (Nat.le_of_ble_eq_true rfl) (fun z17 h17 u17 v17 q17 => ?_)
    obtain ⟨rfl, e17⟩ := q17
    rw [e17]
    clear e17 h17
    refine zx_goto (pc := 20) (tgt := 24) dX6_openReader_20 (by decide) ?_
    refine zx_istore_n (pc := 24) dX6_openReader_24 rfl (by decide) rfl ?_
    refine zx_iload_n (pc := 25) dX6_openReader_25 rfl rfl ?_
    refine zx_if_ge (pc := 26) (tgt := 39) dX6_openReader_26 (by decide) (fun o => by first | exact o.1 _ (by decide) | exact o.2 _ _ | omega) (fun c26 => ?_) (fun c26 => ?_)
    · skip
      rw [ifp_f (by omega)]
      refine zx_iload_n (pc := 39) dX6_openReader_39 rfl rfl ?_
      refine zx_xiret (pc := 40) dX6_openReader_40 (fun _ => by omega) ?_
      exact ⟨rfl, rfl, rfl⟩
    · skip
      rw [ifp_t c26]
      refine zx_throw (k := 2) (ik := 27) (is := 184) (ic := 31) (pc := 29) zt_31 zt_x184 dX6_openReader_29 dX6_openReader_32 (Or.inl ⟨dX6_openReader_33, rfl⟩) dX6_openReader_35 dX6_openReader_38 ⟨by decide, by decide, rfl, rfl⟩ (by decide) ?_
      exact ⟨0, rfl, rfl, rfl⟩
noncomputable def X_readBy (h : zH) (r p : Int) : zH × Int × Int := ifp (¬ xRd h r ∨ ¬ xHas h p) (h, 1, 0) (h, 0, xVal h p (xKept h r p))
set_option maxRecDepth 100000 in
theorem T_readBy {h : zH} (s : XS h) {a1 a2 : Int} (r1 : -2147483648 ≤ a1 ∧ a1 < 2147483648) (r2 : -2147483648 ≤ a2 ∧ a2 < 2147483648) : kT_readBy a1 a2 h (zQn (X_readBy h a1 a2)) (zXn [nSE] (X_readBy h a1 a2)) := by
  apply eT_readBy
  unfold X_readBy
  refine zx_aload_n (pc := 0) dX6_readBy_0 rfl rfl ?_
  refine zg_X6_19 (pc := 1) dX6_readBy_1 ?_
  refine zg_X6_107 (pc := 4) dX6_readBy_4 ?_
  refine zx_iload_n (pc := 7) dX6_readBy_7 rfl rfl ?_
  refine zi_X6_186 (pc := 8) dX6_readBy_8 (C_X4_hasReader s.2.2.2.2.1 r1) (by decide) (Nat.le_of_ble_eq_true rfl) (fun z8 h8 u8 v8 q8 => ?_)
  obtain ⟨rfl, e8⟩ := q8
  rw [e8]
  clear e8 h8
  refine zx_if_eq (pc := 11) (tgt := 28) dX6_readBy_11 (by decide) (fun o => by first | exact o.1 _ (by decide) | exact o.2 _ _ | omega) (fun c11 => ?_) (fun c11 => ?_)
  · skip
    try replace c11 := b2i_0.mp c11
    rw [ifp_t (Or.inl c11)]
    refine zx_throw (k := 2) (ik := 116) (is := 189) (ic := 120) (pc := 28) zt_120 zt_x189 dX6_readBy_28 dX6_readBy_31 (Or.inl ⟨dX6_readBy_32, rfl⟩) dX6_readBy_34 dX6_readBy_37 ⟨by decide, by decide, rfl, rfl⟩ (by decide) ?_
    exact ⟨0, rfl, rfl, rfl⟩
  · skip
    try replace c11 := b2i_n0.mp c11
    refine zx_aload_n (pc := 14) dX6_readBy_14 rfl rfl ?_
    refine zg_X6_19 (pc := 15) dX6_readBy_15 ?_
    refine zg_X6_107 (pc := 18) dX6_readBy_18 ?_
    refine zx_iload_n (pc := 21) dX6_readBy_21 rfl rfl ?_
    refine zi_X6_111 (pc := 22) dX6_readBy_22 (C_X4_has r2) (by decide) (Nat.le_of_ble_eq_true rfl) (fun z22 h22 u22 v22 q22 => ?_)
    obtain ⟨rfl, e22⟩ := q22
    rw [e22]
    clear e22 h22
    refine zx_if_ne (pc := 25) (tgt := 38) dX6_readBy_25 (by decide) (fun o => by first | exact o.1 _ (by decide) | exact o.2 _ _ | omega) (fun c25 => ?_) (fun c25 => ?_)
    · skip
      try replace c25 := b2i_n0.mp c25
      rw [ifp_f (fun z => by rcases z with z | z; exact z c11; exact z c25)]
      refine zx_aload_n (pc := 38) dX6_readBy_38 rfl rfl ?_
      refine zg_X6_19 (pc := 39) dX6_readBy_39 ?_
      refine zx_iload_n (pc := 42) dX6_readBy_42 rfl rfl ?_
      refine zx_aload_n (pc := 43) dX6_readBy_43 rfl rfl ?_
      refine zg_X6_19 (pc := 44) dX6_readBy_44 ?_
      refine zg_X6_107 (pc := 47) dX6_readBy_47 ?_
      refine zx_iload_n (pc := 50) dX6_readBy_50 rfl rfl ?_
      refine zx_iload_n (pc := 51) dX6_readBy_51 rfl rfl ?_
      refine zi_X6_191 (pc := 52) dX6_readBy_52 (C_X4_versionKeptBy s.2.2.2.2.1 s.2.2.1 r1 r2) (by decide) (Nat.le_of_ble_eq_true rfl) (fun z52 h52 u52 v52 q52 => ?_)
      obtain ⟨rfl, e52⟩ := q52
      rw [e52]
      clear e52 h52
      refine zi_X6_152 (pc := 55) dX6_readBy_55 (C_X0_valueOf s.1 r2 ⟨by assumption, by assumption⟩) (by decide) (Nat.le_of_ble_eq_true rfl) (fun z55 h55 u55 v55 q55 => ?_)
      obtain ⟨rfl, e55⟩ := q55
      rw [e55]
      clear e55 h55
      refine zx_xiret (pc := 58) dX6_readBy_58 (fun o => by first | exact o.1 _ (by decide) | exact o.2 _ _ | omega) ?_
      exact ⟨rfl, rfl, rfl⟩
    · skip
      try replace c25 := b2i_0.mp c25
      rw [ifp_t (Or.inr c25)]
      refine zx_throw (k := 2) (ik := 116) (is := 189) (ic := 120) (pc := 28) zt_120 zt_x189 dX6_readBy_28 dX6_readBy_31 (Or.inl ⟨dX6_readBy_32, rfl⟩) dX6_readBy_34 dX6_readBy_37 ⟨by decide, by decide, rfl, rfl⟩ (by decide) ?_
      exact ⟨0, rfl, rfl, rfl⟩
noncomputable def X_closeReader (h : zH) (r : Int) : zH × Int × Int := ifp (¬ xRd h r) (h, 1, 0) (x_remR h r, 0, xPop (gs (x_remR h r) 106))
set_option maxRecDepth 100000 in
theorem T_closeReader {h : zH} (s : XS h) {a1 : Int} (r1 : -2147483648 ≤ a1 ∧ a1 < 2147483648) : kT_closeReader a1 h (zQn (X_closeReader h a1)) (zXn [nSE] (X_closeReader h a1)) := by
  apply eT_closeReader
  unfold X_closeReader
  refine zx_aload_n (pc := 0) dX6_closeReader_0 rfl rfl ?_
  refine zg_X6_19 (pc := 1) dX6_closeReader_1 ?_
  refine zg_X6_107 (pc := 4) dX6_closeReader_4 ?_
  refine zx_iload_n (pc := 7) dX6_closeReader_7 rfl rfl ?_
  refine zi_X6_186 (pc := 8) dX6_closeReader_8 (C_X4_hasReader s.2.2.2.2.1 r1) (by decide) (Nat.le_of_ble_eq_true rfl) (fun z8 h8 u8 v8 q8 => ?_)
  obtain ⟨rfl, e8⟩ := q8
  rw [e8]
  clear e8 h8
  refine zx_if_ne (pc := 11) (tgt := 24) dX6_closeReader_11 (by decide) (fun o => by first | exact o.1 _ (by decide) | exact o.2 _ _ | omega) (fun c11 => ?_) (fun c11 => ?_)
  · skip
    try replace c11 := b2i_n0.mp c11
    rw [ifp_f (fun z => z c11)]
    refine zx_aload_n (pc := 24) dX6_closeReader_24 rfl rfl ?_
    refine zg_X6_19 (pc := 25) dX6_closeReader_25 ?_
    refine zg_X6_107 (pc := 28) dX6_closeReader_28 ?_
    refine zx_iload_n (pc := 31) dX6_closeReader_31 rfl rfl ?_
    refine zi_X6_196 (pc := 32) dX6_closeReader_32 (C_X4_removeReader s.2.2.2.2.1 r1) (by decide) (Nat.le_of_ble_eq_true rfl) (fun z32 h32 u32 v32 q32 => ?_)
    obtain ⟨rfl, e32⟩ := q32
    rw [e32]
    clear e32 h32
    refine zx_xiret (pc := 35) dX6_closeReader_35 (fun _ => ⟨by assumption, by assumption⟩) ?_
    exact ⟨rfl, rfl, rfl⟩
  · skip
    try replace c11 := b2i_0.mp c11
    rw [ifp_t c11]
    refine zx_throw (k := 2) (ik := 116) (is := 194) (ic := 120) (pc := 14) zt_120 zt_x194 dX6_closeReader_14 dX6_closeReader_17 (Or.inl ⟨dX6_closeReader_18, rfl⟩) dX6_closeReader_20 dX6_closeReader_23 ⟨by decide, by decide, rfl, rfl⟩ (by decide) ?_
    exact ⟨0, rfl, rfl, rfl⟩
noncomputable def X_checkpoint (h : zH) : zH × Int × Int := ifp (gs h 45 = 0) (h, 1, 0) (ifp (xRoomFor h (gs h 105 + 1)) (ifp ((x_ck (x_cl h)).2 = 0) ((x_ck (x_cl h)).1, 1, 0) ((x_ck (x_cl h)).1, 0, gs (x_ck (x_cl h)).1 50)) (x_cl h, 1, 0))
set_option maxRecDepth 100000 in
theorem T_checkpoint {h : zH} (s : XS h) : kT_checkpoint h (zQn (X_checkpoint h)) (zXn [nIE] (X_checkpoint h)) := by
  have sc := XS_xcl s
  have s8 := s.2.2.2.2.2.2.2
  have st := s.2.2.1
  unfold XT at st
  apply eT_checkpoint
  unfold X_checkpoint
  refine zx_aload_n (pc := 0) dX6_checkpoint_0 rfl rfl ?_
  refine zg_X6_19 (pc := 1) dX6_checkpoint_1 ?_
  refine zg_X6_85 (pc := 4) dX6_checkpoint_4 ?_
  refine zx_if_ne (pc := 7) (tgt := 20) dX6_checkpoint_7 (by decide) (fun o => by first | exact o.1 _ (by decide) | exact o.2 _ _ | omega) (fun c7 => ?_) (fun c7 => ?_)
  · skip
    rw [ifp_f c7]
    refine zx_aload_n (pc := 20) dX6_checkpoint_20 rfl rfl ?_
    refine zg_X6_19 (pc := 21) dX6_checkpoint_21 ?_
    refine zx_aload_n (pc := 24) dX6_checkpoint_24 rfl rfl ?_
    refine zg_X6_19 (pc := 25) dX6_checkpoint_25 ?_
    refine zg_X6_107 (pc := 28) dX6_checkpoint_28 ?_
    refine zg_X6_201 (pc := 31) dX6_checkpoint_31 ?_
    refine zx_iconst (pc := 34) dX6_checkpoint_34 ?_
    refine zx_iadd (pc := 35) dX6_checkpoint_35 ?_
    refine zi_X6_136 (pc := 36) dX6_checkpoint_36 (C_X0_hasRoomFor s (by omega)) (by decide) (Nat.le_of_ble_eq_true rfl) (fun z36 h36 u36 v36 q36 => ?_)
    obtain ⟨rfl, e36⟩ := q36
    rw [e36]
    clear e36 h36
    refine zx_if_ne (pc := 39) (tgt := 52) dX6_checkpoint_39 (by decide) (fun o => by first | exact o.1 _ (by decide) | exact o.2 _ _ | omega) (fun c39 => ?_) (fun c39 => ?_)
    · skip
      try replace c39 := b2i_n0.mp c39
      rw [ifp_t c39]
      refine zx_aload_n (pc := 52) dX6_checkpoint_52 rfl rfl ?_
      refine zg_X6_19 (pc := 53) dX6_checkpoint_53 ?_
      refine zi_X6_204 (pc := 56) dX6_checkpoint_56 (C_X0_makeCheckpoint sc) (by decide) (Nat.le_of_ble_eq_true rfl) (fun z56 h56 u56 v56 q56 => ?_)
      obtain ⟨rfl, e56⟩ := q56
      rw [e56]
      clear e56 h56
      refine zx_if_ne (pc := 59) (tgt := 72) dX6_checkpoint_59 (by decide) (fun o => by first | exact o.1 _ (by decide) | exact o.2 _ _ | omega) (fun c59 => ?_) (fun c59 => ?_)
      · skip
        try replace c59 := b2i_n0.mp c59
        rw [ifp_f c59]
        refine zx_aload_n (pc := 72) dX6_checkpoint_72 rfl rfl ?_
        refine zg_X6_19 (pc := 73) dX6_checkpoint_73 ?_
        refine zg_X6_208 (pc := 76) dX6_checkpoint_76 ?_
        refine zx_xiret (pc := 79) dX6_checkpoint_79 (fun o => by first | exact o.1 _ (by decide) | exact o.2 _ _ | omega) ?_
        exact ⟨rfl, rfl, rfl⟩
      · skip
        try replace c59 := b2i_0.mp c59
        rw [ifp_t c59]
        refine zx_throw (k := 2) (ik := 27) (is := 145) (ic := 31) (pc := 62) zt_31 zt_x145 dX6_checkpoint_62 dX6_checkpoint_65 (Or.inl ⟨dX6_checkpoint_66, rfl⟩) dX6_checkpoint_68 dX6_checkpoint_71 ⟨by decide, by decide, rfl, rfl⟩ (by decide) ?_
        exact ⟨0, rfl, rfl, rfl⟩
    · skip
      try replace c39 := b2i_0.mp c39
      rw [ifp_f c39]
      refine zx_throw (k := 2) (ik := 27) (is := 139) (ic := 31) (pc := 42) zt_31 zt_x139 dX6_checkpoint_42 dX6_checkpoint_45 (Or.inl ⟨dX6_checkpoint_46, rfl⟩) dX6_checkpoint_48 dX6_checkpoint_51 ⟨by decide, by decide, rfl, rfl⟩ (by decide) ?_
      exact ⟨0, rfl, rfl, rfl⟩
  · skip
    rw [ifp_t c7]
    refine zx_throw (k := 2) (ik := 27) (is := 199) (ic := 31) (pc := 10) zt_31 zt_x199 dX6_checkpoint_10 dX6_checkpoint_13 (Or.inl ⟨dX6_checkpoint_14, rfl⟩) dX6_checkpoint_16 dX6_checkpoint_19 ⟨by decide, by decide, rfl, rfl⟩ (by decide) ?_
    exact ⟨0, rfl, rfl, rfl⟩
noncomputable def X_arm (h : zH) (n : Int) : zH × Int × Int := ifp (n < 0 ∨ 1000 < n) (h, 1, 0) (ifp (0 < gs h 70) (ps h 77 n, 0, gs h 77) (h, 0, gs h 77))
set_option maxRecDepth 100000 in
theorem T_arm {h : zH} (s : XS h) {a1 : Int} (r1 : -2147483648 ≤ a1 ∧ a1 < 2147483648) : kT_arm a1 h (zQn (X_arm h a1)) (zXn [nAE] (X_arm h a1)) := by
  apply eT_arm
  unfold X_arm
  refine zx_ok (fun ok => ?_)
  refine zx_iload_n (pc := 0) dX6_arm_0 rfl rfl ?_
  refine zx_if_lt (pc := 1) (tgt := 11) dX6_arm_1 (by decide) (fun o => by first | exact o.1 _ (by decide) | exact o.2 _ _ | omega) (fun c1 => ?_) (fun c1 => ?_)
  · skip
    rw [ifp_t (Or.inl c1)]
    refine zx_throw (k := 2) (ik := 38) (is := 211) (ic := 42) (pc := 11) zt_42 zt_x211 dX6_arm_11 dX6_arm_14 (Or.inl ⟨dX6_arm_15, rfl⟩) dX6_arm_17 dX6_arm_20 ⟨by decide, by decide, rfl, rfl⟩ (by decide) ?_
    exact ⟨0, rfl, rfl, rfl⟩
  · skip
    refine zx_iload_n (pc := 4) dX6_arm_4 rfl rfl ?_
    refine zx_sipush (pc := 5) dX6_arm_5 (by decide +kernel) ?_
    refine zx_icmp_le (pc := 8) (tgt := 21) dX6_arm_8 (by decide) (fun o => by first | exact o.1 _ (by decide) | exact o.2 _ _ | omega) (fun o => by first | exact o.1 _ (by decide) | exact o.2 _ _ | omega) (fun c8 => ?_) (fun c8 => ?_)
    · skip
      rw [ifp_f (by omega)]
      refine zx_aload_n (pc := 21) dX6_arm_21 rfl rfl ?_
      refine zg_X6_19 (pc := 22) dX6_arm_22 ?_
      refine zg_X6_213 (pc := 25) dX6_arm_25 ?_
      refine zg_X6_217 (pc := 28) dX6_arm_28 ?_
      refine zx_istore_n (pc := 31) dX6_arm_31 rfl (by decide) rfl ?_
      refine zx_aload_n (pc := 32) dX6_arm_32 rfl rfl ?_
      refine zg_X6_19 (pc := 33) dX6_arm_33 ?_
      refine zi_X6_222 (pc := 36) dX6_arm_36 (C_X0_isFormatted s.1) (by decide) (Nat.le_of_ble_eq_true rfl) (fun z36 h36 u36 v36 q36 => ?_)
      obtain ⟨rfl, e36⟩ := q36
      rw [e36]
      clear e36 h36
      refine zx_if_eq (pc := 39) (tgt := 53) dX6_arm_39 (by decide) (fun o => by first | exact o.1 _ (by decide) | exact o.2 _ _ | omega) (fun c39 => ?_) (fun c39 => ?_)
      · skip
        try replace c39 := b2i_0.mp c39
        rw [ifp_f c39]
        refine zx_iload_n (pc := 53) dX6_arm_53 rfl rfl ?_
        refine zx_xiret (pc := 54) dX6_arm_54 (fun _ => ok.1 77 (by decide)) ?_
        exact ⟨rfl, rfl, rfl⟩
      · skip
        try replace c39 := b2i_n0.mp c39
        rw [ifp_t c39]
        refine zx_aload_n (pc := 42) dX6_arm_42 rfl rfl ?_
        refine zg_X6_19 (pc := 43) dX6_arm_43 ?_
        refine zg_X6_213 (pc := 46) dX6_arm_46 ?_
        refine zx_iload_n (pc := 49) dX6_arm_49 rfl rfl ?_
        refine zp_X6_217 (pc := 50) dX6_arm_50 (fun _ => r1) ?_
        refine zx_iload_n (pc := 53) dX6_arm_53 rfl rfl ?_
        refine zx_xiret (pc := 54) dX6_arm_54 (fun _ => ok.1 77 (by decide)) ?_
        exact ⟨rfl, rfl, rfl⟩
    · skip
      rw [ifp_t (Or.inr c8)]
      refine zx_throw (k := 2) (ik := 38) (is := 211) (ic := 42) (pc := 11) zt_42 zt_x211 dX6_arm_11 dX6_arm_14 (Or.inl ⟨dX6_arm_15, rfl⟩) dX6_arm_17 dX6_arm_20 ⟨by decide, by decide, rfl, rfl⟩ (by decide) ?_
      exact ⟨0, rfl, rfl, rfl⟩
noncomputable def X_powerOff (h : zH) : zH × Int × Int := ifp (gs h 45 = 0) (h, 1, 0) (x_lose h, 0, xOpen (x_lose h))
set_option maxRecDepth 100000 in
theorem T_powerOff {h : zH} (s : XS h) : kT_powerOff h (zQn (X_powerOff h)) (zXn [nIE] (X_powerOff h)) := by
  have sl : XL (x_lose h) := s.2.2.2.1
  apply eT_powerOff
  unfold X_powerOff
  refine zx_aload_n (pc := 0) dX6_powerOff_0 rfl rfl ?_
  refine zg_X6_19 (pc := 1) dX6_powerOff_1 ?_
  refine zg_X6_85 (pc := 4) dX6_powerOff_4 ?_
  refine zx_if_ne (pc := 7) (tgt := 20) dX6_powerOff_7 (by decide) (fun o => by first | exact o.1 _ (by decide) | exact o.2 _ _ | omega) (fun c7 => ?_) (fun c7 => ?_)
  · skip
    rw [ifp_f c7]
    refine zx_aload_n (pc := 20) dX6_powerOff_20 rfl rfl ?_
    refine zg_X6_19 (pc := 21) dX6_powerOff_21 ?_
    refine zi_X6_225 (pc := 24) dX6_powerOff_24 (C_X0_losePower) (by decide) (Nat.le_of_ble_eq_true rfl) (fun h24 q24 => ?_)
    rw [q24]
    clear q24 h24
    refine zx_aload_n (pc := 27) dX6_powerOff_27 rfl rfl ?_
    refine zg_X6_19 (pc := 28) dX6_powerOff_28 ?_
    refine zg_X6_81 (pc := 31) dX6_powerOff_31 ?_
    refine zi_X6_89 (pc := 34) dX6_powerOff_34 (C_X3_countOpen sl) (by decide) (Nat.le_of_ble_eq_true rfl) (fun z34 h34 u34 v34 q34 => ?_)
    obtain ⟨rfl, e34⟩ := q34
    rw [e34]
    clear e34 h34
    refine zx_xiret (pc := 37) dX6_powerOff_37 (fun _ => ⟨by assumption, by assumption⟩) ?_
    exact ⟨rfl, rfl, rfl⟩
  · skip
    rw [ifp_t c7]
    refine zx_throw (k := 2) (ik := 27) (is := 199) (ic := 31) (pc := 10) zt_31 zt_x199 dX6_powerOff_10 dX6_powerOff_13 (Or.inl ⟨dX6_powerOff_14, rfl⟩) dX6_powerOff_16 dX6_powerOff_19 ⟨by decide, by decide, rfl, rfl⟩ (by decide) ?_
    exact ⟨0, rfl, rfl, rfl⟩
noncomputable def X_version (h : zH) (p : Int) : zH × Int × Int := ifp (¬ xHas h p) (h, 1, 0) (ifp (gs h 45 = 0) (h, 0, -1) (h, 0, xSeen h 0 p))
set_option maxRecDepth 100000 in
theorem T_version {h : zH} (s : XS h) {a1 : Int} (r1 : -2147483648 ≤ a1 ∧ a1 < 2147483648) : kT_version a1 h (zQn (X_version h a1)) (zXn [nSE] (X_version h a1)) := by
  apply eT_version
  unfold X_version
  refine zx_aload_n (pc := 0) dX6_version_0 rfl rfl ?_
  refine zg_X6_19 (pc := 1) dX6_version_1 ?_
  refine zg_X6_107 (pc := 4) dX6_version_4 ?_
  refine zx_iload_n (pc := 7) dX6_version_7 rfl rfl ?_
  refine zi_X6_111 (pc := 8) dX6_version_8 (C_X4_has r1) (by decide) (Nat.le_of_ble_eq_true rfl) (fun z8 h8 u8 v8 q8 => ?_)
  obtain ⟨rfl, e8⟩ := q8
  rw [e8]
  clear e8 h8
  refine zx_if_ne (pc := 11) (tgt := 24) dX6_version_11 (by decide) (fun o => by first | exact o.1 _ (by decide) | exact o.2 _ _ | omega) (fun c11 => ?_) (fun c11 => ?_)
  · skip
    try replace c11 := b2i_n0.mp c11
    rw [ifp_f (fun z => z c11)]
    refine zx_aload_n (pc := 24) dX6_version_24 rfl rfl ?_
    refine zg_X6_19 (pc := 25) dX6_version_25 ?_
    refine zg_X6_85 (pc := 28) dX6_version_28 ?_
    refine zx_if_eq (pc := 31) (tgt := 49) dX6_version_31 (by decide) (fun o => by first | exact o.1 _ (by decide) | exact o.2 _ _ | omega) (fun c31 => ?_) (fun c31 => ?_)
    · skip
      rw [ifp_t c31]
      refine zx_iconst (pc := 49) dX6_version_49 ?_
      refine zx_xiret (pc := 50) dX6_version_50 (fun _ => by first | exact ⟨by assumption, by assumption⟩ | decide) ?_
      exact ⟨rfl, rfl, rfl⟩
    · skip
      rw [ifp_f c31]
      refine zx_aload_n (pc := 34) dX6_version_34 rfl rfl ?_
      refine zg_X6_19 (pc := 35) dX6_version_35 ?_
      refine zg_X6_107 (pc := 38) dX6_version_38 ?_
      refine zx_iconst (pc := 41) dX6_version_41 ?_
      refine zx_iload_n (pc := 42) dX6_version_42 rfl rfl ?_
      refine zi_X6_149 (pc := 43) dX6_version_43 (C_X4_versionSeenBy s.2.2.1 (by decide) r1) (by decide) (Nat.le_of_ble_eq_true rfl) (fun z43 h43 u43 v43 q43 => ?_)
      obtain ⟨rfl, e43⟩ := q43
      rw [e43]
      clear e43 h43
      refine zx_goto (pc := 46) (tgt := 50) dX6_version_46 (by decide) ?_
      refine zx_xiret (pc := 50) dX6_version_50 (fun _ => by first | exact ⟨by assumption, by assumption⟩ | decide) ?_
      exact ⟨rfl, rfl, rfl⟩
  · skip
    try replace c11 := b2i_0.mp c11
    rw [ifp_t c11]
    refine zx_throw (k := 2) (ik := 116) (is := 241) (ic := 120) (pc := 14) zt_120 zt_x241 dX6_version_14 dX6_version_17 (Or.inl ⟨dX6_version_18, rfl⟩) dX6_version_20 dX6_version_23 ⟨by decide, by decide, rfl, rfl⟩ (by decide) ?_
    exact ⟨0, rfl, rfl, rfl⟩
noncomputable def X_place (h : zH) (p : Int) : zH × Int × Int := ifp (¬ xHas h p) (h, 1, 0) (ifp (gs h 45 = 0) (h, 0, -1) (h, 0, xFind h p (xSeen h 0 p)))
set_option maxRecDepth 100000 in
theorem T_place {h : zH} (s : XS h) {a1 : Int} (r1 : -2147483648 ≤ a1 ∧ a1 < 2147483648) : kT_place a1 h (zQn (X_place h a1)) (zXn [nSE] (X_place h a1)) := by
  apply eT_place
  unfold X_place
  refine zx_aload_n (pc := 0) dX6_place_0 rfl rfl ?_
  refine zg_X6_19 (pc := 1) dX6_place_1 ?_
  refine zg_X6_107 (pc := 4) dX6_place_4 ?_
  refine zx_iload_n (pc := 7) dX6_place_7 rfl rfl ?_
  refine zi_X6_111 (pc := 8) dX6_place_8 (C_X4_has r1) (by decide) (Nat.le_of_ble_eq_true rfl) (fun z8 h8 u8 v8 q8 => ?_)
  obtain ⟨rfl, e8⟩ := q8
  rw [e8]
  clear e8 h8
  refine zx_if_ne (pc := 11) (tgt := 24) dX6_place_11 (by decide) (fun o => by first | exact o.1 _ (by decide) | exact o.2 _ _ | omega) (fun c11 => ?_) (fun c11 => ?_)
  · skip
    try replace c11 := b2i_n0.mp c11
    rw [ifp_f (fun z => z c11)]
    refine zx_aload_n (pc := 24) dX6_place_24 rfl rfl ?_
    refine zg_X6_19 (pc := 25) dX6_place_25 ?_
    refine zg_X6_85 (pc := 28) dX6_place_28 ?_
    refine zx_if_eq (pc := 31) (tgt := 60) dX6_place_31 (by decide) (fun o => by first | exact o.1 _ (by decide) | exact o.2 _ _ | omega) (fun c31 => ?_) (fun c31 => ?_)
    · skip
      rw [ifp_t c31]
      refine zx_iconst (pc := 60) dX6_place_60 ?_
      refine zx_xiret (pc := 61) dX6_place_61 (fun _ => by first | exact ⟨by assumption, by assumption⟩ | decide) ?_
      exact ⟨rfl, rfl, rfl⟩
    · skip
      rw [ifp_f c31]
      refine zx_aload_n (pc := 34) dX6_place_34 rfl rfl ?_
      refine zg_X6_19 (pc := 35) dX6_place_35 ?_
      refine zg_X6_213 (pc := 38) dX6_place_38 ?_
      refine zx_iload_n (pc := 41) dX6_place_41 rfl rfl ?_
      refine zx_aload_n (pc := 42) dX6_place_42 rfl rfl ?_
      refine zg_X6_19 (pc := 43) dX6_place_43 ?_
      refine zg_X6_107 (pc := 46) dX6_place_46 ?_
      refine zx_iconst (pc := 49) dX6_place_49 ?_
      refine zx_iload_n (pc := 50) dX6_place_50 rfl rfl ?_
      refine zi_X6_149 (pc := 51) dX6_place_51 (C_X4_versionSeenBy s.2.2.1 (by decide) r1) (by decide) (Nat.le_of_ble_eq_true rfl) (fun z51 h51 u51 v51 q51 => ?_)
      obtain ⟨rfl, e51⟩ := q51
      rw [e51]
      clear e51 h51
      refine zi_X6_243 (pc := 54) dX6_place_54 (C_X1_findData s.1 r1 ⟨by assumption, by assumption⟩) (by decide) (Nat.le_of_ble_eq_true rfl) (fun z54 h54 u54 v54 q54 => ?_)
      obtain ⟨rfl, e54⟩ := q54
      rw [e54]
      clear e54 h54
      refine zx_goto (pc := 57) (tgt := 61) dX6_place_57 (by decide) ?_
      refine zx_xiret (pc := 61) dX6_place_61 (fun _ => by first | exact ⟨by assumption, by assumption⟩ | decide) ?_
      exact ⟨rfl, rfl, rfl⟩
  · skip
    try replace c11 := b2i_0.mp c11
    rw [ifp_t c11]
    refine zx_throw (k := 2) (ik := 116) (is := 241) (ic := 120) (pc := 14) zt_120 zt_x241 dX6_place_14 dX6_place_17 (Or.inl ⟨dX6_place_18, rfl⟩) dX6_place_20 dX6_place_23 ⟨by decide, by decide, rfl, rfl⟩ (by decide) ?_
    exact ⟨0, rfl, rfl, rfl⟩
noncomputable def X_lockedBy (h : zH) (p : Int) : zH × Int × Int := ifp (¬ xHas h p) (h, 1, 0) (h, 0, xOwner h p)
set_option maxRecDepth 100000 in
theorem T_lockedBy {h : zH} (s : XS h) {a1 : Int} (r1 : -2147483648 ≤ a1 ∧ a1 < 2147483648) : kT_lockedBy a1 h (zQn (X_lockedBy h a1)) (zXn [nSE] (X_lockedBy h a1)) := by
  apply eT_lockedBy
  unfold X_lockedBy
  refine zx_aload_n (pc := 0) dX6_lockedBy_0 rfl rfl ?_
  refine zg_X6_19 (pc := 1) dX6_lockedBy_1 ?_
  refine zg_X6_107 (pc := 4) dX6_lockedBy_4 ?_
  refine zx_iload_n (pc := 7) dX6_lockedBy_7 rfl rfl ?_
  refine zi_X6_111 (pc := 8) dX6_lockedBy_8 (C_X4_has r1) (by decide) (Nat.le_of_ble_eq_true rfl) (fun z8 h8 u8 v8 q8 => ?_)
  obtain ⟨rfl, e8⟩ := q8
  rw [e8]
  clear e8 h8
  refine zx_if_ne (pc := 11) (tgt := 24) dX6_lockedBy_11 (by decide) (fun o => by first | exact o.1 _ (by decide) | exact o.2 _ _ | omega) (fun c11 => ?_) (fun c11 => ?_)
  · skip
    try replace c11 := b2i_n0.mp c11
    rw [ifp_f (fun z => z c11)]
    refine zx_aload_n (pc := 24) dX6_lockedBy_24 rfl rfl ?_
    refine zg_X6_19 (pc := 25) dX6_lockedBy_25 ?_
    refine zg_X6_107 (pc := 28) dX6_lockedBy_28 ?_
    refine zx_iload_n (pc := 31) dX6_lockedBy_31 rfl rfl ?_
    refine zi_X6_246 (pc := 32) dX6_lockedBy_32 (C_X4_ownerOf s.2.2.1 r1) (by decide) (Nat.le_of_ble_eq_true rfl) (fun z32 h32 u32 v32 q32 => ?_)
    obtain ⟨rfl, e32⟩ := q32
    rw [e32]
    clear e32 h32
    refine zx_xiret (pc := 35) dX6_lockedBy_35 (fun _ => ⟨by assumption, by assumption⟩) ?_
    exact ⟨rfl, rfl, rfl⟩
  · skip
    try replace c11 := b2i_0.mp c11
    rw [ifp_t c11]
    refine zx_throw (k := 2) (ik := 116) (is := 241) (ic := 120) (pc := 14) zt_120 zt_x241 dX6_lockedBy_14 dX6_lockedBy_17 (Or.inl ⟨dX6_lockedBy_18, rfl⟩) dX6_lockedBy_20 dX6_lockedBy_23 ⟨by decide, by decide, rfl, rfl⟩ (by decide) ?_
    exact ⟨0, rfl, rfl, rfl⟩
noncomputable def X_state (h : zH) (t : Int) : zH × Int × Int := ifp (¬ xTx h t) (h, 1, 0) (h, 0, xState h t)
set_option maxRecDepth 100000 in
theorem T_state {h : zH} (s : XS h) {a1 : Int} (r1 : -2147483648 ≤ a1 ∧ a1 < 2147483648) : kT_state a1 h (zQn (X_state h a1)) (zXn [nSE] (X_state h a1)) := by
  apply eT_state
  unfold X_state
  refine zx_aload_n (pc := 0) dX6_state_0 rfl rfl ?_
  refine zg_X6_19 (pc := 1) dX6_state_1 ?_
  refine zg_X6_81 (pc := 4) dX6_state_4 ?_
  refine zx_iload_n (pc := 7) dX6_state_7 rfl rfl ?_
  refine zi_X6_155 (pc := 8) dX6_state_8 (C_X3_knows r1) (by decide) (Nat.le_of_ble_eq_true rfl) (fun z8 h8 u8 v8 q8 => ?_)
  obtain ⟨rfl, e8⟩ := q8
  rw [e8]
  clear e8 h8
  refine zx_if_ne (pc := 11) (tgt := 24) dX6_state_11 (by decide) (fun o => by first | exact o.1 _ (by decide) | exact o.2 _ _ | omega) (fun c11 => ?_) (fun c11 => ?_)
  · skip
    try replace c11 := b2i_n0.mp c11
    rw [ifp_f (fun z => z c11)]
    refine zx_aload_n (pc := 24) dX6_state_24 rfl rfl ?_
    refine zg_X6_19 (pc := 25) dX6_state_25 ?_
    refine zg_X6_81 (pc := 28) dX6_state_28 ?_
    refine zx_iload_n (pc := 31) dX6_state_31 rfl rfl ?_
    refine zi_X6_249 (pc := 32) dX6_state_32 (C_X3_stateOf s.2.2.2.1 r1) (by decide) (Nat.le_of_ble_eq_true rfl) (fun z32 h32 u32 v32 q32 => ?_)
    obtain ⟨rfl, e32⟩ := q32
    rw [e32]
    clear e32 h32
    refine zx_xiret (pc := 35) dX6_state_35 (fun _ => ⟨by assumption, by assumption⟩) ?_
    exact ⟨rfl, rfl, rfl⟩
  · skip
    try replace c11 := b2i_0.mp c11
    rw [ifp_t c11]
    refine zx_throw (k := 2) (ik := 116) (is := 158) (ic := 120) (pc := 14) zt_120 zt_x158 dX6_state_14 dX6_state_17 (Or.inl ⟨dX6_state_18, rfl⟩) dX6_state_20 dX6_state_23 ⟨by decide, by decide, rfl, rfl⟩ (by decide) ?_
    exact ⟨0, rfl, rfl, rfl⟩
noncomputable def X_locks (h : zH) (t : Int) : zH × Int × Int := ifp (¬ xTx h t) (h, 1, 0) (h, 0, xLocks h t)
set_option maxRecDepth 100000 in
theorem T_locks {h : zH} (s : XS h) {a1 : Int} (r1 : -2147483648 ≤ a1 ∧ a1 < 2147483648) : kT_locks a1 h (zQn (X_locks h a1)) (zXn [nSE] (X_locks h a1)) := by
  apply eT_locks
  unfold X_locks
  refine zx_aload_n (pc := 0) dX6_locks_0 rfl rfl ?_
  refine zg_X6_19 (pc := 1) dX6_locks_1 ?_
  refine zg_X6_81 (pc := 4) dX6_locks_4 ?_
  refine zx_iload_n (pc := 7) dX6_locks_7 rfl rfl ?_
  refine zi_X6_155 (pc := 8) dX6_locks_8 (C_X3_knows r1) (by decide) (Nat.le_of_ble_eq_true rfl) (fun z8 h8 u8 v8 q8 => ?_)
  obtain ⟨rfl, e8⟩ := q8
  rw [e8]
  clear e8 h8
  refine zx_if_ne (pc := 11) (tgt := 24) dX6_locks_11 (by decide) (fun o => by first | exact o.1 _ (by decide) | exact o.2 _ _ | omega) (fun c11 => ?_) (fun c11 => ?_)
  · skip
    try replace c11 := b2i_n0.mp c11
    rw [ifp_f (fun z => z c11)]
    refine zx_aload_n (pc := 24) dX6_locks_24 rfl rfl ?_
    refine zg_X6_19 (pc := 25) dX6_locks_25 ?_
    refine zg_X6_107 (pc := 28) dX6_locks_28 ?_
    refine zx_iload_n (pc := 31) dX6_locks_31 rfl rfl ?_
    refine zi_X6_165 (pc := 32) dX6_locks_32 (C_X4_countLocked s.2.2.1 r1) (by decide) (Nat.le_of_ble_eq_true rfl) (fun z32 h32 u32 v32 q32 => ?_)
    obtain ⟨rfl, e32⟩ := q32
    rw [e32]
    clear e32 h32
    refine zx_xiret (pc := 35) dX6_locks_35 (fun _ => ⟨by assumption, by assumption⟩) ?_
    exact ⟨rfl, rfl, rfl⟩
  · skip
    try replace c11 := b2i_0.mp c11
    rw [ifp_t c11]
    refine zx_throw (k := 2) (ik := 116) (is := 158) (ic := 120) (pc := 14) zt_120 zt_x158 dX6_locks_14 dX6_locks_17 (Or.inl ⟨dX6_locks_18, rfl⟩) dX6_locks_20 dX6_locks_23 ⟨by decide, by decide, rfl, rfl⟩ (by decide) ?_
    exact ⟨0, rfl, rfl, rfl⟩
noncomputable def X_bl2 (h : zH) (b : Int) : Int := ifp (gs h 45 = 0) 0 (xLin h b)
noncomputable def X_block (h : zH) (b w : Int) : zH × Int × Int := ifp (¬ xBlk h b) (h, 1, 0) (ifp (w = 0) (h, 0, ga h 19 b) (ifp (w = 1) (h, 0, ga h 18 b) (ifp (w = 2) (h, 0, X_bl2 h b) (ifp (w = 3) (h, 0, xTorn h b) (h, 2, 0)))))
set_option maxRecDepth 100000 in
theorem T_block {h : zH} (s : XS h) {a1 a2 : Int} (r1 : -2147483648 ≤ a1 ∧ a1 < 2147483648) (r2 : -2147483648 ≤ a2 ∧ a2 < 2147483648) : kT_block a1 a2 h (zQn (X_block h a1 a2)) (zXn [nSE, nAE] (X_block h a1 a2)) := by
  have b1 := s.1.1
  apply eT_block
  unfold X_block X_bl2
  refine zx_ok (fun ok => ?_)
  refine zx_aload_n (pc := 0) dX6_block_0 rfl rfl ?_
  refine zg_X6_19 (pc := 1) dX6_block_1 ?_
  refine zg_X6_213 (pc := 4) dX6_block_4 ?_
  refine zx_astore_n (pc := 7) dX6_block_7 rfl (by decide) rfl ?_
  refine zx_aload_n (pc := 8) dX6_block_8 rfl rfl ?_
  refine zx_iload_n (pc := 9) dX6_block_9 rfl rfl ?_
  refine zi_X6_264 (pc := 10) dX6_block_10 (C_X1_hasBlock r1) (by decide) (Nat.le_of_ble_eq_true rfl) (fun z10 h10 u10 v10 q10 => ?_)
  obtain ⟨rfl, e10⟩ := q10
  rw [e10]
  clear e10 h10
  refine zx_if_ne (pc := 13) (tgt := 27) dX6_block_13 (by decide) (fun o => by first | exact o.1 _ (by decide) | exact o.2 _ _ | omega) (fun c13 => ?_) (fun c13 => ?_)
  · skip
    try replace c13 := b2i_n0.mp c13
    rw [ifp_f (fun z => z c13)]
    have c13a := c13
    obtain ⟨k1, k2⟩ := c13a
    refine zx_iload_n (pc := 27) dX6_block_27 rfl rfl ?_
    rcases (show a2 = 0 ∨ a2 = 1 ∨ a2 = 2 ∨ a2 = 3 ∨ (a2 < 0 ∨ 3 < a2) by omega) with sw | sw | sw | sw | sw
    · skip
      refine zx_swIn (pc := 28) (tgt := 60) dX6_block_28 (fun o => by first | exact o.1 _ (by decide) | exact o.2 _ _ | omega) (by omega) (by omega) (by rw [sw]; rfl) (by decide) ?_
      rw [ifp_t sw]
      refine zx_aload_n (pc := 60) dX6_block_60 rfl rfl ?_
      refine zg_X6_269 (pc := 61) dX6_block_61 ?_
      refine zx_iload_n (pc := 64) dX6_block_64 rfl rfl ?_
      refine zx_iaload (pc := 65) aX1_wear dX6_block_65 (by omega) (by omega) (by omega) ?_
      refine zx_xiret (pc := 66) dX6_block_66 (fun _ => ok.2 19 _) ?_
      exact ⟨rfl, rfl, rfl⟩
    · skip
      refine zx_swIn (pc := 28) (tgt := 67) dX6_block_28 (fun o => by first | exact o.1 _ (by decide) | exact o.2 _ _ | omega) (by omega) (by omega) (by rw [sw]; rfl) (by decide) ?_
      rw [ifp_f (by omega), ifp_t sw]
      refine zx_aload_n (pc := 67) dX6_block_67 rfl rfl ?_
      refine zg_X6_272 (pc := 68) dX6_block_68 ?_
      refine zx_iload_n (pc := 71) dX6_block_71 rfl rfl ?_
      refine zx_iaload (pc := 72) aX1_used dX6_block_72 (by omega) (by omega) (by omega) ?_
      refine zx_xiret (pc := 73) dX6_block_73 (fun _ => ok.2 18 _) ?_
      exact ⟨rfl, rfl, rfl⟩
    · skip
      refine zx_swIn (pc := 28) (tgt := 74) dX6_block_28 (fun o => by first | exact o.1 _ (by decide) | exact o.2 _ _ | omega) (by omega) (by omega) (by rw [sw]; rfl) (by decide) ?_
      rw [ifp_f (by omega), ifp_f (by omega), ifp_t sw]
      refine zx_aload_n (pc := 74) dX6_block_74 rfl rfl ?_
      refine zg_X6_19 (pc := 75) dX6_block_75 ?_
      refine zg_X6_85 (pc := 78) dX6_block_78 ?_
      refine zx_if_eq (pc := 81) (tgt := 95) dX6_block_81 (by decide) (fun o => by first | exact o.1 _ (by decide) | exact o.2 _ _ | omega) (fun c81 => ?_) (fun c81 => ?_)
      · skip
        rw [ifp_t c81]
        refine zx_iconst (pc := 95) dX6_block_95 ?_
        refine zx_xiret (pc := 96) dX6_block_96 (fun _ => by first | exact ⟨by assumption, by assumption⟩ | decide) ?_
        exact ⟨rfl, rfl, rfl⟩
      · skip
        rw [ifp_f c81]
        refine zx_aload_n (pc := 84) dX6_block_84 rfl rfl ?_
        refine zg_X6_19 (pc := 85) dX6_block_85 ?_
        refine zx_iload_n (pc := 88) dX6_block_88 rfl rfl ?_
        refine zi_X6_275 (pc := 89) dX6_block_89 (C_X0_countLiveIn s k1 k2) (by decide) (Nat.le_of_ble_eq_true rfl) (fun z89 h89 u89 v89 q89 => ?_)
        obtain ⟨rfl, e89⟩ := q89
        rw [e89]
        clear e89 h89
        refine zx_goto (pc := 92) (tgt := 96) dX6_block_92 (by decide) ?_
        refine zx_xiret (pc := 96) dX6_block_96 (fun _ => by first | exact ⟨by assumption, by assumption⟩ | decide) ?_
        exact ⟨rfl, rfl, rfl⟩
    · skip
      refine zx_swIn (pc := 28) (tgt := 97) dX6_block_28 (fun o => by first | exact o.1 _ (by decide) | exact o.2 _ _ | omega) (by omega) (by omega) (by rw [sw]; rfl) (by decide) ?_
      rw [ifp_f (by omega), ifp_f (by omega), ifp_f (by omega), ifp_t sw]
      refine zx_aload_n (pc := 97) dX6_block_97 rfl rfl ?_
      refine zx_iload_n (pc := 98) dX6_block_98 rfl rfl ?_
      refine zi_X6_278 (pc := 99) dX6_block_99 (C_X1_countTornIn s.1 r1) (by decide) (Nat.le_of_ble_eq_true rfl) (fun z99 h99 u99 v99 q99 => ?_)
      obtain ⟨rfl, e99⟩ := q99
      rw [e99]
      clear e99 h99
      refine zx_xiret (pc := 102) dX6_block_102 (fun _ => ⟨by assumption, by assumption⟩) ?_
      exact ⟨rfl, rfl, rfl⟩
    · skip
      refine zx_swOut (pc := 28) (tgt := 103) dX6_block_28 (fun o => by first | exact o.1 _ (by decide) | exact o.2 _ _ | omega) sw (by decide) ?_
      rw [ifp_f (by omega), ifp_f (by omega), ifp_f (by omega), ifp_f (by omega)]
      refine zx_throw (k := 3) (ik := 38) (is := 281) (ic := 42) (pc := 103) zt_42 zt_x281 dX6_block_103 dX6_block_106 (Or.inr ⟨dX6_block_107, rfl⟩) dX6_block_110 dX6_block_113 ⟨by decide, by decide, rfl, rfl⟩ (by decide) ?_
      exact ⟨1, rfl, rfl, rfl⟩
  · skip
    try replace c13 := b2i_0.mp c13
    rw [ifp_t c13]
    refine zx_throw (k := 3) (ik := 116) (is := 267) (ic := 120) (pc := 16) zt_120 zt_x267 dX6_block_16 dX6_block_19 (Or.inr ⟨dX6_block_20, rfl⟩) dX6_block_23 dX6_block_26 ⟨by decide, by decide, rfl, rfl⟩ (by decide) ?_
    exact ⟨0, rfl, rfl, rfl⟩
noncomputable def X_flashPage (h : zH) (p w : Int) : zH × Int × Int := ifp (¬ xPl h p) (h, 1, 0) (ifp (w = 0) (h, 0, ga h 10 p) (ifp (w = 1) (h, 0, ga h 11 p) (ifp (w = 2) (h, 0, ga h 12 p) (ifp (w = 3) (h, 0, ga h 13 p) (ifp (w = 4) (h, 0, ga h 14 p) (ifp (w = 5) (h, 0, ga h 15 p) (h, 2, 0)))))))
set_option maxRecDepth 100000 in
theorem T_flashPage {h : zH} (s : XS h) {a1 a2 : Int} (r1 : -2147483648 ≤ a1 ∧ a1 < 2147483648) (r2 : -2147483648 ≤ a2 ∧ a2 < 2147483648) : kT_flashPage a1 a2 h (zQn (X_flashPage h a1 a2)) (zXn [nSE, nAE] (X_flashPage h a1 a2)) := by
  have m7 := xb_size s.1
  apply eT_flashPage
  unfold X_flashPage
  refine zx_ok (fun ok => ?_)
  refine zx_aload_n (pc := 0) dX6_flashPage_0 rfl rfl ?_
  refine zg_X6_19 (pc := 1) dX6_flashPage_1 ?_
  refine zg_X6_213 (pc := 4) dX6_flashPage_4 ?_
  refine zx_astore_n (pc := 7) dX6_flashPage_7 rfl (by decide) rfl ?_
  refine zx_aload_n (pc := 8) dX6_flashPage_8 rfl rfl ?_
  refine zx_iload_n (pc := 9) dX6_flashPage_9 rfl rfl ?_
  refine zi_X6_283 (pc := 10) dX6_flashPage_10 (C_X1_hasPlace r1) (by decide) (Nat.le_of_ble_eq_true rfl) (fun z10 h10 u10 v10 q10 => ?_)
  obtain ⟨rfl, e10⟩ := q10
  rw [e10]
  clear e10 h10
  refine zx_if_ne (pc := 13) (tgt := 27) dX6_flashPage_13 (by decide) (fun o => by first | exact o.1 _ (by decide) | exact o.2 _ _ | omega) (fun c13 => ?_) (fun c13 => ?_)
  · skip
    try replace c13 := b2i_n0.mp c13
    rw [ifp_f (fun z => z c13)]
    have c13a := c13
    obtain ⟨k1, k2⟩ := c13a
    refine zx_iload_n (pc := 27) dX6_flashPage_27 rfl rfl ?_
    rcases (show a2 = 0 ∨ a2 = 1 ∨ a2 = 2 ∨ a2 = 3 ∨ a2 = 4 ∨ a2 = 5 ∨ (a2 < 0 ∨ 5 < a2) by omega) with sw | sw | sw | sw | sw | sw | sw
    · skip
      refine zx_swIn (pc := 28) (tgt := 68) dX6_flashPage_28 (fun o => by first | exact o.1 _ (by decide) | exact o.2 _ _ | omega) (by omega) (by omega) (by rw [sw]; rfl) (by decide) ?_
      rw [ifp_t sw]
      refine zx_aload_n (pc := 68) dX6_flashPage_68 rfl rfl ?_
      refine zg_X6_288 (pc := 69) dX6_flashPage_69 ?_
      refine zx_iload_n (pc := 72) dX6_flashPage_72 rfl rfl ?_
      refine zx_iaload (pc := 73) aX1_kind dX6_flashPage_73 (by omega) (by omega) (by omega) ?_
      refine zx_xiret (pc := 74) dX6_flashPage_74 (fun _ => ok.2 _ _) ?_
      exact ⟨rfl, rfl, rfl⟩
    · skip
      refine zx_swIn (pc := 28) (tgt := 75) dX6_flashPage_28 (fun o => by first | exact o.1 _ (by decide) | exact o.2 _ _ | omega) (by omega) (by omega) (by rw [sw]; rfl) (by decide) ?_
      rw [ifp_f (by omega), ifp_t sw]
      refine zx_aload_n (pc := 75) dX6_flashPage_75 rfl rfl ?_
      refine zg_X6_291 (pc := 76) dX6_flashPage_76 ?_
      refine zx_iload_n (pc := 79) dX6_flashPage_79 rfl rfl ?_
      refine zx_iaload (pc := 80) aX1_index dX6_flashPage_80 (by omega) (by omega) (by omega) ?_
      refine zx_xiret (pc := 81) dX6_flashPage_81 (fun _ => ok.2 _ _) ?_
      exact ⟨rfl, rfl, rfl⟩
    · skip
      refine zx_swIn (pc := 28) (tgt := 82) dX6_flashPage_28 (fun o => by first | exact o.1 _ (by decide) | exact o.2 _ _ | omega) (by omega) (by omega) (by rw [sw]; rfl) (by decide) ?_
      rw [ifp_f (by omega), ifp_f (by omega), ifp_t sw]
      refine zx_aload_n (pc := 82) dX6_flashPage_82 rfl rfl ?_
      refine zg_X6_294 (pc := 83) dX6_flashPage_83 ?_
      refine zx_iload_n (pc := 86) dX6_flashPage_86 rfl rfl ?_
      refine zx_iaload (pc := 87) aX1_group dX6_flashPage_87 (by omega) (by omega) (by omega) ?_
      refine zx_xiret (pc := 88) dX6_flashPage_88 (fun _ => ok.2 _ _) ?_
      exact ⟨rfl, rfl, rfl⟩
    · skip
      refine zx_swIn (pc := 28) (tgt := 89) dX6_flashPage_28 (fun o => by first | exact o.1 _ (by decide) | exact o.2 _ _ | omega) (by omega) (by omega) (by rw [sw]; rfl) (by decide) ?_
      rw [ifp_f (by omega), ifp_f (by omega), ifp_f (by omega), ifp_t sw]
      refine zx_aload_n (pc := 89) dX6_flashPage_89 rfl rfl ?_
      refine zg_X6_297 (pc := 90) dX6_flashPage_90 ?_
      refine zx_iload_n (pc := 93) dX6_flashPage_93 rfl rfl ?_
      refine zx_iaload (pc := 94) aX1_version dX6_flashPage_94 (by omega) (by omega) (by omega) ?_
      refine zx_xiret (pc := 95) dX6_flashPage_95 (fun _ => ok.2 _ _) ?_
      exact ⟨rfl, rfl, rfl⟩
    · skip
      refine zx_swIn (pc := 28) (tgt := 96) dX6_flashPage_28 (fun o => by first | exact o.1 _ (by decide) | exact o.2 _ _ | omega) (by omega) (by omega) (by rw [sw]; rfl) (by decide) ?_
      rw [ifp_f (by omega), ifp_f (by omega), ifp_f (by omega), ifp_f (by omega), ifp_t sw]
      refine zx_aload_n (pc := 96) dX6_flashPage_96 rfl rfl ?_
      refine zg_X6_300 (pc := 97) dX6_flashPage_97 ?_
      refine zx_iload_n (pc := 100) dX6_flashPage_100 rfl rfl ?_
      refine zx_iaload (pc := 101) aX1_sequence dX6_flashPage_101 (by omega) (by omega) (by omega) ?_
      refine zx_xiret (pc := 102) dX6_flashPage_102 (fun _ => ok.2 _ _) ?_
      exact ⟨rfl, rfl, rfl⟩
    · skip
      refine zx_swIn (pc := 28) (tgt := 103) dX6_flashPage_28 (fun o => by first | exact o.1 _ (by decide) | exact o.2 _ _ | omega) (by omega) (by omega) (by rw [sw]; rfl) (by decide) ?_
      rw [ifp_f (by omega), ifp_f (by omega), ifp_f (by omega), ifp_f (by omega), ifp_f (by omega), ifp_t sw]
      refine zx_aload_n (pc := 103) dX6_flashPage_103 rfl rfl ?_
      refine zg_X6_303 (pc := 104) dX6_flashPage_104 ?_
      refine zx_iload_n (pc := 107) dX6_flashPage_107 rfl rfl ?_
      refine zx_iaload (pc := 108) aX1_value dX6_flashPage_108 (by omega) (by omega) (by omega) ?_
      refine zx_xiret (pc := 109) dX6_flashPage_109 (fun _ => ok.2 _ _) ?_
      exact ⟨rfl, rfl, rfl⟩
    · skip
      refine zx_swOut (pc := 28) (tgt := 110) dX6_flashPage_28 (fun o => by first | exact o.1 _ (by decide) | exact o.2 _ _ | omega) sw (by decide) ?_
      rw [ifp_f (by omega), ifp_f (by omega), ifp_f (by omega), ifp_f (by omega), ifp_f (by omega), ifp_f (by omega)]
      refine zx_throw (k := 3) (ik := 38) (is := 281) (ic := 42) (pc := 110) zt_42 zt_x281 dX6_flashPage_110 dX6_flashPage_113 (Or.inr ⟨dX6_flashPage_114, rfl⟩) dX6_flashPage_117 dX6_flashPage_120 ⟨by decide, by decide, rfl, rfl⟩ (by decide) ?_
      exact ⟨1, rfl, rfl, rfl⟩
  · skip
    try replace c13 := b2i_0.mp c13
    rw [ifp_t c13]
    refine zx_throw (k := 3) (ik := 116) (is := 286) (ic := 120) (pc := 16) zt_120 zt_x286 dX6_flashPage_16 dX6_flashPage_19 (Or.inr ⟨dX6_flashPage_20, rfl⟩) dX6_flashPage_23 dX6_flashPage_26 ⟨by decide, by decide, rfl, rfl⟩ (by decide) ?_
    exact ⟨0, rfl, rfl, rfl⟩
noncomputable def X_isValid (h : zH) (p : Int) : zH × Int × Int := ifp (¬ xPl h p) (h, 1, 0) (h, 0, b2i (gs h 45 ≠ 0 ∧ xLive h p))
set_option maxRecDepth 100000 in
theorem T_isValid {h : zH} (s : XS h) {a1 : Int} (r1 : -2147483648 ≤ a1 ∧ a1 < 2147483648) : kT_isValid a1 h (zQn (X_isValid h a1)) (zXn [nSE] (X_isValid h a1)) := by
  apply eT_isValid
  unfold X_isValid
  refine zx_aload_n (pc := 0) dX6_isValid_0 rfl rfl ?_
  refine zg_X6_19 (pc := 1) dX6_isValid_1 ?_
  refine zg_X6_213 (pc := 4) dX6_isValid_4 ?_
  refine zx_iload_n (pc := 7) dX6_isValid_7 rfl rfl ?_
  refine zi_X6_283 (pc := 8) dX6_isValid_8 (C_X1_hasPlace r1) (by decide) (Nat.le_of_ble_eq_true rfl) (fun z8 h8 u8 v8 q8 => ?_)
  obtain ⟨rfl, e8⟩ := q8
  rw [e8]
  clear e8 h8
  refine zx_if_ne (pc := 11) (tgt := 25) dX6_isValid_11 (by decide) (fun o => by first | exact o.1 _ (by decide) | exact o.2 _ _ | omega) (fun c11 => ?_) (fun c11 => ?_)
  · skip
    try replace c11 := b2i_n0.mp c11
    rw [ifp_f (fun z => z c11)]
    refine zx_aload_n (pc := 25) dX6_isValid_25 rfl rfl ?_
    refine zg_X6_19 (pc := 26) dX6_isValid_26 ?_
    refine zg_X6_85 (pc := 29) dX6_isValid_29 ?_
    refine zx_if_eq (pc := 32) (tgt := 50) dX6_isValid_32 (by decide) (fun o => by first | exact o.1 _ (by decide) | exact o.2 _ _ | omega) (fun c32 => ?_) (fun c32 => ?_)
    · skip
      refine zx_iconst (pc := 50) dX6_isValid_50 ?_
      refine zx_xzret (pc := 51) dX6_isValid_51 (by omega) ?_
      refine ⟨rfl, ?_, rfl⟩
      first
      | exact (b2i_t ⟨c32, c43⟩).symm
      | (have w := c43; exact (b2i_f (fun z => absurd z.2 w)).symm)
      | exact (b2i_f (fun z => z.1 c32)).symm
    · skip
      refine zx_aload_n (pc := 35) dX6_isValid_35 rfl rfl ?_
      refine zg_X6_19 (pc := 36) dX6_isValid_36 ?_
      refine zx_iload_n (pc := 39) dX6_isValid_39 rfl rfl ?_
      refine zi_X6_306 (pc := 40) dX6_isValid_40 (C_X0_isLive s.1 s.2.2.2.2.1 s.2.2.1 r1) (by decide) (Nat.le_of_ble_eq_true rfl) (fun z40 h40 u40 v40 q40 => ?_)
      obtain ⟨rfl, e40⟩ := q40
      rw [e40]
      clear e40 h40
      refine zx_if_eq (pc := 43) (tgt := 50) dX6_isValid_43 (by decide) (fun o => by first | exact o.1 _ (by decide) | exact o.2 _ _ | omega) (fun c43 => ?_) (fun c43 => ?_)
      · skip
        try replace c43 := b2i_0.mp c43
        refine zx_iconst (pc := 50) dX6_isValid_50 ?_
        refine zx_xzret (pc := 51) dX6_isValid_51 (by omega) ?_
        refine ⟨rfl, ?_, rfl⟩
        first
        | exact (b2i_t ⟨c32, c43⟩).symm
        | (have w := c43; exact (b2i_f (fun z => absurd z.2 w)).symm)
        | exact (b2i_f (fun z => z.1 c32)).symm
      · skip
        try replace c43 := b2i_n0.mp c43
        refine zx_iconst (pc := 46) dX6_isValid_46 ?_
        refine zx_goto (pc := 47) (tgt := 51) dX6_isValid_47 (by decide) ?_
        refine zx_xzret (pc := 51) dX6_isValid_51 (by omega) ?_
        refine ⟨rfl, ?_, rfl⟩
        first
        | exact (b2i_t ⟨c32, c43⟩).symm
        | (have w := c43; exact (b2i_f (fun z => absurd z.2 w)).symm)
        | exact (b2i_f (fun z => z.1 c32)).symm
  · skip
    try replace c11 := b2i_0.mp c11
    rw [ifp_t c11]
    refine zx_throw (k := 3) (ik := 116) (is := 286) (ic := 120) (pc := 14) zt_120 zt_x286 dX6_isValid_14 dX6_isValid_17 (Or.inr ⟨dX6_isValid_18, rfl⟩) dX6_isValid_21 dX6_isValid_24 ⟨by decide, by decide, rfl, rfl⟩ (by decide) ?_
    exact ⟨0, rfl, rfl, rfl⟩
noncomputable def X_validPages (h : zH) : zH × Int := ifp (gs h 45 = 0) (h, 0) (x_cl h, xTot h)
set_option maxRecDepth 100000 in
theorem C_X6_validPages {h : zH} (s : XS h) : kX6_validPages h (fun r h2 => r = (X_validPages h).2 ∧ h2 = (X_validPages h).1) := by
  apply eX6_validPages
  unfold X_validPages
  refine zx_aload_n (pc := 0) dX6_validPages_0 rfl rfl ?_
  refine zg_X6_19 (pc := 1) dX6_validPages_1 ?_
  refine zg_X6_85 (pc := 4) dX6_validPages_4 ?_
  refine zx_if_eq (pc := 7) (tgt := 20) dX6_validPages_7 (by decide) (fun o => by first | exact o.1 _ (by decide) | exact o.2 _ _ | omega) (fun c7 => ?_) (fun c7 => ?_)
  · skip
    rw [ifp_t c7]
    refine zx_iconst (pc := 20) dX6_validPages_20 ?_
    refine zx_iret (pc := 21) dX6_validPages_21 (fun _ => by first | exact ⟨by assumption, by assumption⟩ | decide) ?_
    exact ⟨rfl, rfl⟩
  · skip
    rw [ifp_f c7]
    refine zx_aload_n (pc := 10) dX6_validPages_10 rfl rfl ?_
    refine zg_X6_19 (pc := 11) dX6_validPages_11 ?_
    refine zi_X6_261 (pc := 14) dX6_validPages_14 (C_X0_countLive s) (by decide) (Nat.le_of_ble_eq_true rfl) (fun z14 h14 u14 v14 q14 => ?_)
    obtain ⟨rfl, e14⟩ := q14
    rw [e14]
    clear e14 h14
    refine zx_goto (pc := 17) (tgt := 21) dX6_validPages_17 (by decide) ?_
    refine zx_iret (pc := 21) dX6_validPages_21 (fun _ => by first | exact ⟨by assumption, by assumption⟩ | decide) ?_
    exact ⟨rfl, rfl⟩
noncomputable def X_victim (h : zH) : zH × Int := ifp (gs h 45 = 0) (h, -1) (x_nv h)
set_option maxRecDepth 100000 in
theorem C_X6_victim {h : zH} (s : XS h) : kX6_victim h (fun r h2 => r = (X_victim h).2 ∧ h2 = (X_victim h).1) := by
  apply eX6_victim
  unfold X_victim
  refine zx_aload_n (pc := 0) dX6_victim_0 rfl rfl ?_
  refine zg_X6_19 (pc := 1) dX6_victim_1 ?_
  refine zg_X6_85 (pc := 4) dX6_victim_4 ?_
  refine zx_if_eq (pc := 7) (tgt := 20) dX6_victim_7 (by decide) (fun o => by first | exact o.1 _ (by decide) | exact o.2 _ _ | omega) (fun c7 => ?_) (fun c7 => ?_)
  · skip
    rw [ifp_t c7]
    refine zx_iconst (pc := 20) dX6_victim_20 ?_
    refine zx_iret (pc := 21) dX6_victim_21 (fun _ => by first | exact ⟨by assumption, by assumption⟩ | decide) ?_
    exact ⟨rfl, rfl⟩
  · skip
    rw [ifp_f c7]
    refine zx_aload_n (pc := 10) dX6_victim_10 rfl rfl ?_
    refine zg_X6_19 (pc := 11) dX6_victim_11 ?_
    refine zi_X6_330 (pc := 14) dX6_victim_14 (C_X0_nextVictim s) (by decide) (Nat.le_of_ble_eq_true rfl) (fun z14 h14 u14 v14 q14 => ?_)
    obtain ⟨rfl, e14⟩ := q14
    rw [e14]
    clear e14 h14
    refine zx_goto (pc := 17) (tgt := 21) dX6_victim_17 (by decide) ?_
    refine zx_iret (pc := 21) dX6_victim_21 (fun _ => by first | exact ⟨by assumption, by assumption⟩ | decide) ?_
    exact ⟨rfl, rfl⟩
set_option maxRecDepth 100000 in
theorem C_X6_freeBlocks {h : zH} (s : XS h) : kX6_freeBlocks h (fun r h2 => r = xFreeMany h (gs h 46) ∧ h2 = h) := by
  apply eX6_freeBlocks
  refine zx_ok (fun ok => ?_)
  refine zx_aload_n (pc := 0) dX6_freeBlocks_0 rfl rfl ?_
  refine zg_X6_19 (pc := 1) dX6_freeBlocks_1 ?_
  refine zg_X6_213 (pc := 4) dX6_freeBlocks_4 ?_
  refine zx_aload_n (pc := 7) dX6_freeBlocks_7 rfl rfl ?_
  refine zg_X6_19 (pc := 8) dX6_freeBlocks_8 ?_
  refine zg_X6_255 (pc := 11) dX6_freeBlocks_11 ?_
  refine zi_X6_258 (pc := 14) dX6_freeBlocks_14 (C_X1_countFreeBlocks s.1 (ok.1 46 (by decide))) (by decide) (Nat.le_of_ble_eq_true rfl) (fun z14 h14 u14 v14 q14 => ?_)
  obtain ⟨rfl, e14⟩ := q14
  rw [e14]
  clear e14 h14
  refine zx_iret (pc := 17) dX6_freeBlocks_17 (fun _ => ⟨by assumption, by assumption⟩) ?_
  exact ⟨rfl, rfl⟩
set_option maxRecDepth 100000 in
theorem C_X6_wearGap {h : zH} (s : XS h) : kX6_wearGap h (fun r h2 => r = xGap h ∧ h2 = h) := by
  apply eX6_wearGap
  refine zx_aload_n (pc := 0) dX6_wearGap_0 rfl rfl ?_
  refine zg_X6_19 (pc := 1) dX6_wearGap_1 ?_
  refine zg_X6_213 (pc := 4) dX6_wearGap_4 ?_
  refine zi_X6_321 (pc := 7) dX6_wearGap_7 (C_X1_wearDifference s.1) (by decide) (Nat.le_of_ble_eq_true rfl) (fun z7 h7 u7 v7 q7 => ?_)
  obtain ⟨rfl, e7⟩ := q7
  rw [e7]
  clear e7 h7
  refine zx_iret (pc := 10) dX6_wearGap_10 (fun _ => ⟨by assumption, by assumption⟩) ?_
  exact ⟨rfl, rfl⟩
set_option maxRecDepth 100000 in
theorem C_X6_errorCode {h : zH} : kX6_errorCode h (fun r h2 => r = gs h 23 ∧ h2 = h) := by
  apply eX6_errorCode
  refine zx_aload_n (pc := 0) dX6_errorCode_0 rfl rfl ?_
  refine zg_X6_10 (pc := 1) dX6_errorCode_1 ?_
  refine zg_X6_46 (pc := 4) dX6_errorCode_4 ?_
  refine zx_iret (pc := 7) dX6_errorCode_7 (fun o => by first | exact o.1 _ (by decide) | exact o.2 _ _ | omega) ?_
  exact ⟨rfl, rfl⟩
set_option maxRecDepth 100000 in
theorem C_X6_errorPosition {h : zH} : kX6_errorPosition h (fun r h2 => r = gs h 24 ∧ h2 = h) := by
  apply eX6_errorPosition
  refine zx_aload_n (pc := 0) dX6_errorPosition_0 rfl rfl ?_
  refine zg_X6_10 (pc := 1) dX6_errorPosition_1 ?_
  refine zg_X6_78 (pc := 4) dX6_errorPosition_4 ?_
  refine zx_iret (pc := 7) dX6_errorPosition_7 (fun o => by first | exact o.1 _ (by decide) | exact o.2 _ _ | omega) ?_
  exact ⟨rfl, rfl⟩
set_option maxRecDepth 100000 in
theorem C_X6_isOn {h : zH} (on : gs h 45 = 0 ∨ gs h 45 = 1) : kX6_isOn h (fun r h2 => r = gs h 45 ∧ h2 = h) := by
  apply eX6_isOn
  refine zx_aload_n (pc := 0) dX6_isOn_0 rfl rfl ?_
  refine zg_X6_19 (pc := 1) dX6_isOn_1 ?_
  refine zg_X6_85 (pc := 4) dX6_isOn_4 ?_
  refine zx_zret (pc := 7) dX6_isOn_7 on ?_
  exact ⟨rfl, rfl⟩
set_option maxRecDepth 100000 in
theorem C_X6_logicalPages {h : zH} : kX6_logicalPages h (fun r h2 => r = gs h 104 ∧ h2 = h) := by
  apply eX6_logicalPages
  refine zx_aload_n (pc := 0) dX6_logicalPages_0 rfl rfl ?_
  refine zg_X6_19 (pc := 1) dX6_logicalPages_1 ?_
  refine zg_X6_107 (pc := 4) dX6_logicalPages_4 ?_
  refine zg_X6_236 (pc := 7) dX6_logicalPages_7 ?_
  refine zx_iret (pc := 10) dX6_logicalPages_10 (fun o => by first | exact o.1 _ (by decide) | exact o.2 _ _ | omega) ?_
  exact ⟨rfl, rfl⟩
set_option maxRecDepth 100000 in
theorem C_X6_blocks {h : zH} : kX6_blocks h (fun r h2 => r = gs h 70 ∧ h2 = h) := by
  apply eX6_blocks
  refine zx_aload_n (pc := 0) dX6_blocks_0 rfl rfl ?_
  refine zg_X6_19 (pc := 1) dX6_blocks_1 ?_
  refine zg_X6_213 (pc := 4) dX6_blocks_4 ?_
  refine zg_X6_239 (pc := 7) dX6_blocks_7 ?_
  refine zx_iret (pc := 10) dX6_blocks_10 (fun o => by first | exact o.1 _ (by decide) | exact o.2 _ _ | omega) ?_
  exact ⟨rfl, rfl⟩
set_option maxRecDepth 100000 in
theorem C_X6_pagesPerBlock {h : zH} : kX6_pagesPerBlock h (fun r h2 => r = gs h 71 ∧ h2 = h) := by
  apply eX6_pagesPerBlock
  refine zx_aload_n (pc := 0) dX6_pagesPerBlock_0 rfl rfl ?_
  refine zg_X6_19 (pc := 1) dX6_pagesPerBlock_1 ?_
  refine zg_X6_213 (pc := 4) dX6_pagesPerBlock_4 ?_
  refine zg_X6_240 (pc := 7) dX6_pagesPerBlock_7 ?_
  refine zx_iret (pc := 10) dX6_pagesPerBlock_10 (fun o => by first | exact o.1 _ (by decide) | exact o.2 _ _ | omega) ?_
  exact ⟨rfl, rfl⟩
set_option maxRecDepth 100000 in
theorem C_X6_transactions {h : zH} : kX6_transactions h (fun r h2 => r = gs h 81 ∧ h2 = h) := by
  apply eX6_transactions
  refine zx_aload_n (pc := 0) dX6_transactions_0 rfl rfl ?_
  refine zg_X6_19 (pc := 1) dX6_transactions_1 ?_
  refine zg_X6_81 (pc := 4) dX6_transactions_4 ?_
  refine zg_X6_95 (pc := 7) dX6_transactions_7 ?_
  refine zx_iret (pc := 10) dX6_transactions_10 (fun o => by first | exact o.1 _ (by decide) | exact o.2 _ _ | omega) ?_
  exact ⟨rfl, rfl⟩
set_option maxRecDepth 100000 in
theorem C_X6_readers {h : zH} : kX6_readers h (fun r h2 => r = gs h 106 ∧ h2 = h) := by
  apply eX6_readers
  refine zx_aload_n (pc := 0) dX6_readers_0 rfl rfl ?_
  refine zg_X6_19 (pc := 1) dX6_readers_1 ?_
  refine zg_X6_107 (pc := 4) dX6_readers_4 ?_
  refine zg_X6_252 (pc := 7) dX6_readers_7 ?_
  refine zx_iret (pc := 10) dX6_readers_10 (fun o => by first | exact o.1 _ (by decide) | exact o.2 _ _ | omega) ?_
  exact ⟨rfl, rfl⟩
set_option maxRecDepth 100000 in
theorem C_X6_activeBlock {h : zH} : kX6_activeBlock h (fun r h2 => r = gs h 46 ∧ h2 = h) := by
  apply eX6_activeBlock
  refine zx_aload_n (pc := 0) dX6_activeBlock_0 rfl rfl ?_
  refine zg_X6_19 (pc := 1) dX6_activeBlock_1 ?_
  refine zg_X6_255 (pc := 4) dX6_activeBlock_4 ?_
  refine zx_iret (pc := 7) dX6_activeBlock_7 (fun o => by first | exact o.1 _ (by decide) | exact o.2 _ _ | omega) ?_
  exact ⟨rfl, rfl⟩
set_option maxRecDepth 100000 in
theorem C_X6_programs {h : zH} : kX6_programs h (fun r h2 => r = gs h 74 ∧ h2 = h) := by
  apply eX6_programs
  refine zx_aload_n (pc := 0) dX6_programs_0 rfl rfl ?_
  refine zg_X6_19 (pc := 1) dX6_programs_1 ?_
  refine zg_X6_213 (pc := 4) dX6_programs_4 ?_
  refine zg_X6_309 (pc := 7) dX6_programs_7 ?_
  refine zx_iret (pc := 10) dX6_programs_10 (fun o => by first | exact o.1 _ (by decide) | exact o.2 _ _ | omega) ?_
  exact ⟨rfl, rfl⟩
set_option maxRecDepth 100000 in
theorem C_X6_erases {h : zH} : kX6_erases h (fun r h2 => r = gs h 75 ∧ h2 = h) := by
  apply eX6_erases
  refine zx_aload_n (pc := 0) dX6_erases_0 rfl rfl ?_
  refine zg_X6_19 (pc := 1) dX6_erases_1 ?_
  refine zg_X6_213 (pc := 4) dX6_erases_4 ?_
  refine zg_X6_312 (pc := 7) dX6_erases_7 ?_
  refine zx_iret (pc := 10) dX6_erases_10 (fun o => by first | exact o.1 _ (by decide) | exact o.2 _ _ | omega) ?_
  exact ⟨rfl, rfl⟩
set_option maxRecDepth 100000 in
theorem C_X6_copies {h : zH} : kX6_copies h (fun r h2 => r = gs h 76 ∧ h2 = h) := by
  apply eX6_copies
  refine zx_aload_n (pc := 0) dX6_copies_0 rfl rfl ?_
  refine zg_X6_19 (pc := 1) dX6_copies_1 ?_
  refine zg_X6_213 (pc := 4) dX6_copies_4 ?_
  refine zg_X6_315 (pc := 7) dX6_copies_7 ?_
  refine zx_iret (pc := 10) dX6_copies_10 (fun o => by first | exact o.1 _ (by decide) | exact o.2 _ _ | omega) ?_
  exact ⟨rfl, rfl⟩
set_option maxRecDepth 100000 in
theorem C_X6_writes {h : zH} : kX6_writes h (fun r h2 => r = gs h 53 ∧ h2 = h) := by
  apply eX6_writes
  refine zx_aload_n (pc := 0) dX6_writes_0 rfl rfl ?_
  refine zg_X6_19 (pc := 1) dX6_writes_1 ?_
  refine zg_X6_318 (pc := 4) dX6_writes_4 ?_
  refine zx_iret (pc := 7) dX6_writes_7 (fun o => by first | exact o.1 _ (by decide) | exact o.2 _ _ | omega) ?_
  exact ⟨rfl, rfl⟩
set_option maxRecDepth 100000 in
theorem C_X6_lastCheckpoint {h : zH} : kX6_lastCheckpoint h (fun r h2 => r = gs h 50 ∧ h2 = h) := by
  apply eX6_lastCheckpoint
  refine zx_aload_n (pc := 0) dX6_lastCheckpoint_0 rfl rfl ?_
  refine zg_X6_19 (pc := 1) dX6_lastCheckpoint_1 ?_
  refine zg_X6_208 (pc := 4) dX6_lastCheckpoint_4 ?_
  refine zx_iret (pc := 7) dX6_lastCheckpoint_7 (fun o => by first | exact o.1 _ (by decide) | exact o.2 _ _ | omega) ?_
  exact ⟨rfl, rfl⟩
set_option maxRecDepth 100000 in
theorem C_X6_commits {h : zH} : kX6_commits h (fun r h2 => r = gs h 48 ∧ h2 = h) := by
  apply eX6_commits
  refine zx_aload_n (pc := 0) dX6_commits_0 rfl rfl ?_
  refine zg_X6_19 (pc := 1) dX6_commits_1 ?_
  refine zg_X6_324 (pc := 4) dX6_commits_4 ?_
  refine zx_iret (pc := 7) dX6_commits_7 (fun o => by first | exact o.1 _ (by decide) | exact o.2 _ _ | omega) ?_
  exact ⟨rfl, rfl⟩
set_option maxRecDepth 100000 in
theorem C_X6_losses {h : zH} : kX6_losses h (fun r h2 => r = gs h 54 ∧ h2 = h) := by
  apply eX6_losses
  refine zx_aload_n (pc := 0) dX6_losses_0 rfl rfl ?_
  refine zg_X6_19 (pc := 1) dX6_losses_1 ?_
  refine zg_X6_327 (pc := 4) dX6_losses_4 ?_
  refine zx_iret (pc := 7) dX6_losses_7 (fun o => by first | exact o.1 _ (by decide) | exact o.2 _ _ | omega) ?_
  exact ⟨rfl, rfl⟩

