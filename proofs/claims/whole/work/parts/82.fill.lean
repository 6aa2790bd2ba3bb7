/-! format's fills never fail: what stays without a loss of power, how many pages are good -/
theorem oper_0 {m : zH} (h : gs m 25 = 0) : m_oper m = m := ifp_t h
theorem ok_0 {m : zH} (h : gs m 25 = 0) : mOK m := Or.inl h
theorem copy_25 {m : zH} (h : gs m 25 = 0) (f : Int) : gs (m_copy m f) 25 = 0 := by
  unfold m_copy m_prog
  rw [ifp_t (ok_0 h), ifp_t (ok_0 h), gs_copyOk _ _ _ _ (by decide), gs_progOk _ _ _ _ _ _ (by decide), oper_0 h]
  exact h
theorem erase_25 {m : zH} (h : gs m 25 = 0) (b : Int) : gs (m_erase m b) 25 = 0 := by
  unfold m_erase
  rw [ifp_t (ok_0 h), oper_0 h]
  exact h
/-- each page is one of before, but for its place and its sequence -/
def PSub (m m2 : zH) : Prop := mN m2 = mN m ∧ ∀ i, pg m2 i → ∃ j, pg m j ∧ ∀ c, 2 ≤ c → c ≤ 5 → ga m2 c i = ga m c j
theorem PSub.rf (m : zH) : PSub m m := ⟨rfl, fun i h => ⟨i, h, fun _ _ _ => rfl⟩⟩
theorem PSub.tr {a b c : zH} (h : PSub a b) (k : PSub b c) : PSub a c := ⟨k.1.trans h.1, fun i hi => by
  obtain ⟨j, j1, j2⟩ := k.2 i hi
  obtain ⟨o, o1, o2⟩ := h.2 j j1
  exact ⟨o, o1, fun c c1 c2 => (j2 c c1 c2).trans (o2 c c1 c2)⟩⟩
theorem PSub_copy {m : zH} (ok : mOK m) {f : Int} (f0 : 0 ≤ f) (f1 : f < mN m) (g : mGood m f) (y : f ≠ m_low m) : PSub m (m_copy m f) := by
  have fp := good_pg f0 f1 g
  have gm (k : Nat) (hk : k ≠ 19 ∧ k ≠ 20 ∧ k ≠ 22 ∧ k ≠ 25) := gs_copyT ok f k hk
  have eN : mN (m_copy m f) = mN m := by unfold mN; rw [gm 1 (by decide), gm 2 (by decide)]
  refine ⟨eN, fun i hi => ?_⟩
  by_cases z : i = m_low m
  · refine ⟨f, fp, fun c c1 c2 => ?_⟩
    unfold m_copy m_prog
    rw [ifp_t ok, ifp_t ok, z, ga_copyOk, if_neg (by omega), if_neg (by omega)]
    rcases (show c = 2 ∨ c = 3 ∨ c = 4 ∨ c = 5 by omega) with e | e | e | e
    · rw [e, if_neg (by omega), ga_mprogOk, if_neg (by omega), if_neg (by omega), if_neg (by omega), if_neg (by omega), if_pos ⟨rfl, rfl⟩]
    · rw [e, if_neg (by omega), ga_mprogOk, if_neg (by omega), if_neg (by omega), if_neg (by omega), if_pos ⟨rfl, rfl⟩]
    · rw [e, if_neg (by omega), ga_mprogOk, if_neg (by omega), if_neg (by omega), if_pos ⟨rfl, rfl⟩]
    · rw [e, if_pos ⟨rfl, rfl⟩, ga_mprogOk, if_neg (by omega), if_neg (by omega), if_neg (by omega), if_neg (by omega), if_neg (by omega), ga_oper]
  · have e (c : Nat) (h : c ≠ 8) : ga (m_copy m f) c i = ga m c i := ga_copyT ok f c i h z
    refine ⟨i, ⟨hi.1, by rw [← eN]; exact hi.2.1, ?_⟩, fun c _ _ => e c (by omega)⟩
    have q := hi.2.2
    unfold mProgd at q ⊢
    rw [e 2 (by decide)] at q
    exact q

