/-! the law: its loop -/
set_option maxRecDepth 100000 in
theorem lStep {tab : List ExceptionTableEntry} {L : Nat} {xs : Nat → Int32} {hx hm : zH} {o : Nat → Int64} {T i z : Int} {c9 s9 : Nat} {E : zF} (r : REL hm hx T) (hL : L ≤ 3072) (i0 : 0 ≤ i) (i1 : i + 6 ≤ (L : Int)) (hT : T + 60000 ≤ 2147000000) (hc1 : c9 + 1 ≤ room_1.cells ∧ s9 + 6 ≤ room_1.slots) (rz : -2147483648 ≤ z ∧ z < 2147483648) (kk : lK tab L xs i c9 s9 (T + 60000) E) : lX (lGL L xs) tab RL cL_law 7 (some .boolean) room_1 c9 s9 40 (lLs i) [.int (iI z)] hx hm o E := by
  have hc0 : c9 ≤ room_1.cells ∧ s9 ≤ room_1.slots := ⟨by omega, by omega⟩
  rcases (show z = 0 ∨ z = 1 ∨ z = 2 ∨ z = 3 ∨ z = 4 ∨ z = 5 ∨ z = 6 ∨ z = 7 ∨ z = 8 ∨ z = 9 ∨ z = 10 ∨ z = 11 ∨ z = 12 ∨ z = 13 ∨ z = 14 ∨ z = 15 ∨ z = 16 ∨ z = 17 ∨ z = 18 ∨ z = 19 ∨ z = 20 ∨ z = 21 ∨ z = 22 ∨ z = 23 ∨ z = 24 ∨ z = 25 ∨ z = 26 ∨ z = 27 ∨ z = 28 ∨ z = 29 ∨ z = 30 ∨ z = 31 ∨ z = 32 ∨ z = 33 ∨ z = 34 ∨ z = 35 ∨ z = 36 ∨ z = 37 ∨ z = 38 ∨ z = 39 ∨ z = 40 ∨ z = 41 ∨ (z < 0 ∨ 41 < z) by omega) with sw | sw | sw | sw | sw | sw | sw | sw | sw | sw | sw | sw | sw | sw | sw | sw | sw | sw | sw | sw | sw | sw | sw | sw | sw | sw | sw | sw | sw | sw | sw | sw | sw | sw | sw | sw | sw | sw | sw | sw | sw | sw | sw
  · refine lx_swIn (pc := 40) (tgt := 224) dL_law_40 (fun _ => rz) (by omega) (by omega) (by rw [sw]; rfl) (by decide) ?_
    exact W_feed r hL i0 i1 rfl (by omega) hc1 kk
  · refine lx_swIn (pc := 40) (tgt := 328) dL_law_40 (fun _ => rz) (by omega) (by omega) (by rw [sw]; rfl) (by decide) ?_
    exact W_format r hL i0 i1 rfl (by omega) hc1 kk
  · refine lx_swIn (pc := 40) (tgt := 384) dL_law_40 (fun _ => rz) (by omega) (by omega) (by rw [sw]; rfl) (by decide) ?_
    exact W_errorCode r rfl hc0 kk
  · refine lx_swIn (pc := 40) (tgt := 397) dL_law_40 (fun _ => rz) (by omega) (by omega) (by rw [sw]; rfl) (by decide) ?_
    exact W_errorPosition r rfl hc0 kk
  · refine lx_swIn (pc := 40) (tgt := 410) dL_law_40 (fun _ => rz) (by omega) (by omega) (by rw [sw]; rfl) (by decide) ?_
    exact W_begin r hL i0 i1 rfl (by omega) hc1 kk
  · refine lx_swIn (pc := 40) (tgt := 454) dL_law_40 (fun _ => rz) (by omega) (by omega) (by rw [sw]; rfl) (by decide) ?_
    exact W_write r hL i0 i1 rfl (by omega) hc1 kk
  · refine lx_swIn (pc := 40) (tgt := 534) dL_law_40 (fun _ => rz) (by omega) (by omega) (by rw [sw]; rfl) (by decide) ?_
    exact W_read r hL i0 i1 rfl (by omega) hc1 kk
  · refine lx_swIn (pc := 40) (tgt := 602) dL_law_40 (fun _ => rz) (by omega) (by omega) (by rw [sw]; rfl) (by decide) ?_
    exact W_commit r hL i0 i1 rfl (by omega) hc1 kk
  · refine lx_swIn (pc := 40) (tgt := 658) dL_law_40 (fun _ => rz) (by omega) (by omega) (by rw [sw]; rfl) (by decide) ?_
    exact W_abort r hL i0 i1 rfl (by omega) hc1 kk
  · refine lx_swIn (pc := 40) (tgt := 714) dL_law_40 (fun _ => rz) (by omega) (by omega) (by rw [sw]; rfl) (by decide) ?_
    exact W_openReader r hL i0 i1 rfl (by omega) hc1 kk
  · refine lx_swIn (pc := 40) (tgt := 758) dL_law_40 (fun _ => rz) (by omega) (by omega) (by rw [sw]; rfl) (by decide) ?_
    exact W_readBy r hL i0 i1 rfl (by omega) hc1 kk
  · refine lx_swIn (pc := 40) (tgt := 826) dL_law_40 (fun _ => rz) (by omega) (by omega) (by rw [sw]; rfl) (by decide) ?_
    exact W_closeReader r hL i0 i1 rfl (by omega) hc1 kk
  · refine lx_swIn (pc := 40) (tgt := 882) dL_law_40 (fun _ => rz) (by omega) (by omega) (by rw [sw]; rfl) (by decide) ?_
    exact W_checkpoint r hL i0 i1 rfl (by omega) hc1 kk
  · refine lx_swIn (pc := 40) (tgt := 926) dL_law_40 (fun _ => rz) (by omega) (by omega) (by rw [sw]; rfl) (by decide) ?_
    exact W_isOn r rfl hc0 kk
  · refine lx_swIn (pc := 40) (tgt := 939) dL_law_40 (fun _ => rz) (by omega) (by omega) (by rw [sw]; rfl) (by decide) ?_
    exact W_arm r hL i0 i1 rfl (by omega) hc1 kk
  · refine lx_swIn (pc := 40) (tgt := 995) dL_law_40 (fun _ => rz) (by omega) (by omega) (by rw [sw]; rfl) (by decide) ?_
    exact W_powerOff r hL i0 i1 rfl (by omega) hc1 kk
  · refine lx_swIn (pc := 40) (tgt := 1039) dL_law_40 (fun _ => rz) (by omega) (by omega) (by rw [sw]; rfl) (by decide) ?_
    exact W_recover r hL i0 i1 rfl (by omega) hc1 kk
  · refine lx_swIn (pc := 40) (tgt := 1083) dL_law_40 (fun _ => rz) (by omega) (by omega) (by rw [sw]; rfl) (by decide) ?_
    exact W_logicalPages r rfl hc0 kk
  · refine lx_swIn (pc := 40) (tgt := 1096) dL_law_40 (fun _ => rz) (by omega) (by omega) (by rw [sw]; rfl) (by decide) ?_
    exact W_blocks r rfl hc0 kk
  · refine lx_swIn (pc := 40) (tgt := 1109) dL_law_40 (fun _ => rz) (by omega) (by omega) (by rw [sw]; rfl) (by decide) ?_
    exact W_pagesPerBlock r rfl hc0 kk
  · refine lx_swIn (pc := 40) (tgt := 1122) dL_law_40 (fun _ => rz) (by omega) (by omega) (by rw [sw]; rfl) (by decide) ?_
    exact W_version r hL i0 i1 rfl (by omega) hc1 kk
  · refine lx_swIn (pc := 40) (tgt := 1178) dL_law_40 (fun _ => rz) (by omega) (by omega) (by rw [sw]; rfl) (by decide) ?_
    exact W_place r hL i0 i1 rfl (by omega) hc1 kk
  · refine lx_swIn (pc := 40) (tgt := 1234) dL_law_40 (fun _ => rz) (by omega) (by omega) (by rw [sw]; rfl) (by decide) ?_
    exact W_lockedBy r hL i0 i1 rfl (by omega) hc1 kk
  · refine lx_swIn (pc := 40) (tgt := 1290) dL_law_40 (fun _ => rz) (by omega) (by omega) (by rw [sw]; rfl) (by decide) ?_
    exact W_transactions r rfl hc0 kk
  · refine lx_swIn (pc := 40) (tgt := 1303) dL_law_40 (fun _ => rz) (by omega) (by omega) (by rw [sw]; rfl) (by decide) ?_
    exact W_state r hL i0 i1 rfl (by omega) hc1 kk
  · refine lx_swIn (pc := 40) (tgt := 1359) dL_law_40 (fun _ => rz) (by omega) (by omega) (by rw [sw]; rfl) (by decide) ?_
    exact W_locks r hL i0 i1 rfl (by omega) hc1 kk
  · refine lx_swIn (pc := 40) (tgt := 1415) dL_law_40 (fun _ => rz) (by omega) (by omega) (by rw [sw]; rfl) (by decide) ?_
    exact W_readers r rfl hc0 kk
  · refine lx_swIn (pc := 40) (tgt := 1428) dL_law_40 (fun _ => rz) (by omega) (by omega) (by rw [sw]; rfl) (by decide) ?_
    exact W_activeBlock r rfl hc0 kk
  · refine lx_swIn (pc := 40) (tgt := 1441) dL_law_40 (fun _ => rz) (by omega) (by omega) (by rw [sw]; rfl) (by decide) ?_
    exact W_freeBlocks r rfl hc0 kk
  · refine lx_swIn (pc := 40) (tgt := 1454) dL_law_40 (fun _ => rz) (by omega) (by omega) (by rw [sw]; rfl) (by decide) ?_
    exact W_validPages r rfl hc0 kk
  · refine lx_swIn (pc := 40) (tgt := 1467) dL_law_40 (fun _ => rz) (by omega) (by omega) (by rw [sw]; rfl) (by decide) ?_
    exact W_block r hL i0 i1 rfl (by omega) hc1 kk
  · refine lx_swIn (pc := 40) (tgt := 1535) dL_law_40 (fun _ => rz) (by omega) (by omega) (by rw [sw]; rfl) (by decide) ?_
    exact W_flashPage r hL i0 i1 rfl (by omega) hc1 kk
  · refine lx_swIn (pc := 40) (tgt := 1603) dL_law_40 (fun _ => rz) (by omega) (by omega) (by rw [sw]; rfl) (by decide) ?_
    exact W_isValid r hL i0 i1 rfl (by omega) hc1 kk
  · refine lx_swIn (pc := 40) (tgt := 1666) dL_law_40 (fun _ => rz) (by omega) (by omega) (by rw [sw]; rfl) (by decide) ?_
    exact W_programs r rfl hc0 kk
  · refine lx_swIn (pc := 40) (tgt := 1679) dL_law_40 (fun _ => rz) (by omega) (by omega) (by rw [sw]; rfl) (by decide) ?_
    exact W_erases r rfl hc0 kk
  · refine lx_swIn (pc := 40) (tgt := 1692) dL_law_40 (fun _ => rz) (by omega) (by omega) (by rw [sw]; rfl) (by decide) ?_
    exact W_copies r rfl hc0 kk
  · refine lx_swIn (pc := 40) (tgt := 1705) dL_law_40 (fun _ => rz) (by omega) (by omega) (by rw [sw]; rfl) (by decide) ?_
    exact W_writes r rfl hc0 kk
  · refine lx_swIn (pc := 40) (tgt := 1718) dL_law_40 (fun _ => rz) (by omega) (by omega) (by rw [sw]; rfl) (by decide) ?_
    exact W_wearGap r rfl hc0 kk
  · refine lx_swIn (pc := 40) (tgt := 1731) dL_law_40 (fun _ => rz) (by omega) (by omega) (by rw [sw]; rfl) (by decide) ?_
    exact W_lastCheckpoint r rfl hc0 kk
  · refine lx_swIn (pc := 40) (tgt := 1744) dL_law_40 (fun _ => rz) (by omega) (by omega) (by rw [sw]; rfl) (by decide) ?_
    exact W_commits r rfl hc0 kk
  · refine lx_swIn (pc := 40) (tgt := 1757) dL_law_40 (fun _ => rz) (by omega) (by omega) (by rw [sw]; rfl) (by decide) ?_
    exact W_losses r rfl hc0 kk
  · refine lx_swIn (pc := 40) (tgt := 1770) dL_law_40 (fun _ => rz) (by omega) (by omega) (by rw [sw]; rfl) (by decide) ?_
    exact W_victim r rfl hc0 kk
  · refine lx_swOut (pc := 40) (tgt := 1783) dL_law_40 (fun _ => rz) sw (by decide) ?_
    exact kk _ _ o c9 s9 (REL_mono r (by omega)) (by omega) (by omega)
set_option maxRecDepth 100000 in
theorem LOOP {tab : List ExceptionTableEntry} {L : Nat} {xs : Nat → Int32} {E : zF} {c0 s0 : Nat} (hL : L ≤ 3072) (hc : c0 ≤ 500 ∧ s0 ≤ 40600) (hE : ∀ (i : Int) (hx hm : zH) (o : Nat → Int64) (c9 s9 : Nat), c9 ≤ room_1.cells → s9 ≤ room_1.slots → lX (lGL L xs) tab RL cL_law 7 (some .boolean) room_1 c9 s9 1789 (lLs i) [] hx hm o E) : ∀ (n : Nat) (i : Int) (hx hm : zH) (o : Nat → Int64) (c9 s9 : Nat), REL hm hx (10000 * i) → 0 ≤ i → i ≤ (L : Int) → (L : Int) - i < n → 6 * (c9 : Int) ≤ 6 * c0 + i → (s9 : Int) ≤ s0 + i → lX (lGL L xs) tab RL cL_law 7 (some .boolean) room_1 c9 s9 23 (lLs i) [] hx hm o E := by
  intro n
  induction n with
  | zero => intro i hx hm o c9 s9 r i0 i1 hn; omega
  | succ n ih =>
    intro i hx hm o c9 s9 r i0 i1 hn hc2 hs2
    have rc : room_1.cells = 1107 := rfl
    have rs : room_1.slots = 43730 := rfl
    refine lx_iload (pc := 23) dL_law_23 rfl ?_
    refine lx_aload_n (pc := 25) dL_law_25 rfl rfl ?_
    refine lx_slen (pc := 26) (by omega) dL_law_26 ?_
    refine lx_bipush (pc := 27) dL_law_27 (by decide +kernel) ?_
    refine lx_isub (pc := 29) dL_law_29 ?_
    refine lx_icmp_gt (pc := 30) (tgt := 1789) dL_law_30 (by decide) (fun _ => ⟨by omega, by omega⟩) (fun _ => ⟨by omega, by omega⟩) (fun c1 => ?_) (fun c1 => ?_)
    · exact hE i hx hm o c9 s9 (by omega) (by omega)
    · refine lx_aload_n (pc := 33) dL_law_33 rfl rfl ?_
      refine lx_iload (pc := 34) dL_law_34 rfl ?_
      refine lx_sload (pc := 36) (by omega) (by omega) (by omega) dL_law_36 ?_
      refine lx_bipush (pc := 37) dL_law_37 (by decide +kernel) ?_
      obtain ⟨z, ez, rz⟩ := iI_of (iI (xs i.toNat).toInt &&& iI 63)
      refine lx_iand (pc := 39) dL_law_39 ez ?_
      refine lStep r hL i0 (by omega) (by omega) ⟨by omega, by omega⟩ rz (fun h2 m2 o2 c2 s2 r2 hc3 hs3 => ?_)
      refine lx_iinc (pc := 1783) dL_law_1783 (by decide) rfl rfl ?_
      refine lx_goto (pc := 1786) (tgt := 23) dL_law_1786 (by decide) ?_
      exact ih (i + 6) h2 m2 o2 c2 s2 (REL_mono r2 (by omega)) (by omega) (by omega) (by omega) (by omega) (by omega)

