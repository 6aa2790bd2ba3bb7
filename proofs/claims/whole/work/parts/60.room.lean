/-! room for a page is made, on both sides -/
/-- what the making of room leaves, when power stays -/
def TK (m m2 : zH) : Prop := (∀ k, k ≠ 19 → k ≠ 20 → k ≠ 21 → k ≠ 22 → k ≠ 25 → k ≠ 32 → gs m2 k = gs m k) ∧ ∀ c i, 10 ≤ c → ga m2 c i = ga m c i
theorem TK.rf (m : zH) : TK m m := ⟨fun _ _ _ _ _ _ _ => rfl, fun _ _ _ => rfl⟩
theorem TK.tr {a b c : zH} (h : TK a b) (k : TK b c) : TK a c := ⟨fun n h1 h2 h3 h4 h5 h6 => (k.1 n h1 h2 h3 h4 h5 h6).trans (h.1 n h1 h2 h3 h4 h5 h6), fun n i h1 => (k.2 n i h1).trans (h.2 n i h1)⟩
theorem TK_copy {m : zH} (ok : mOK m) (f : Int) : TK m (m_copy m f) := ⟨fun k _ _ _ _ _ _ => gs_copyT ok f k (by omega), fun c i h => ga_copyT_o ok f c i (by omega)⟩
theorem TK_er1 (m : zH) (b : Int) : TK m (m_er1 m b) := ⟨fun k _ _ _ _ _ _ => er1_gs k (by omega), fun c i h => by rw [er1_ga, if_neg (by omega), if_neg (by omega)]⟩
theorem TK_erase {m : zH} (ok : mOK m) (b : Int) : TK m (m_erase m b) := by
  have q := TK_er1 m b
  unfold m_er1 at q
  rw [ifp_t ok] at q
  exact q
theorem TK_collL : ∀ (n : Nat) (m : zH) (i : Int), (m_collL n m i).2 = 1 → TK m (m_collL n m i).1
  | 0, m, _ => fun _ => TK.rf m
  | n + 1, m, i => by
    rw [m_collL]
    rcases Classical.em (mGood m i) with g | g
    · rw [ifp_t g]
      rcases Classical.em (mOK m) with c | c
      · rw [ifp_t c]
        exact fun h => (TK_copy c i).tr (TK_collL n _ _ h)
      · rw [ifp_f c]
        exact fun h => absurd h (by show (0 : Int) ≠ 1; decide)
    · rw [ifp_f g]
      exact TK_collL n m _
theorem TK_collect (m : zH) (b : Int) : (m_collect m b).2 = 1 → TK m (m_collect m b).1 := by
  have q := TK_collL (gs m 2).toNat m (gs m 2 * b)
  unfold m_collect
  rcases Classical.em ((m_collL (gs m 2).toNat m (gs m 2 * b)).2 = 1) with c | c
  · rw [ifp_t c]
    exact fun h => (q c).tr (TK_erase (b2i_1.mp h) b)
  · rw [ifp_f c]
    exact fun h => absurd h c
theorem TK_roomL : ∀ (n : Nat) (m : zH), (m_roomL n m).2 = 1 → TK m (m_roomL n m).1
  | 0, m => fun _ => TK.rf m
  | n + 1, m => by
    rw [m_roomL]
    rcases Classical.em (mFreeMany m < 2 ∧ m_vict m ≠ -1) with c | c
    · rw [ifp_t c]
      rcases Classical.em ((m_collect m (m_vict m)).2 = 1) with d | d
      · rw [ifp_t d]
        exact fun h => (TK_collect m _ d).tr (TK_roomL n _ h)
      · rw [ifp_f d]
        exact fun h => absurd h d
    · rw [ifp_f c]
      exact fun _ => TK.rf m
theorem TK_act (m : zH) (b : Int) : TK m (ps m 32 b) := ⟨fun k _ _ _ _ _ h => by rw [gs_ps, if_neg h], fun _ _ _ => rfl⟩
theorem TK_room (m : zH) : (m_room m).2 = 1 → TK m (m_room m).1 := by
  unfold m_room
  rcases Classical.em (m_fblk m = -1) with d | d
  · rw [ifp_t d]
    exact fun h => absurd h (by show (0 : Int) ≠ 1; decide)
  · rw [ifp_f d]
    exact fun h => (TK_act m _).tr (TK_roomL 3 _ h)
theorem TK_page1 (m : zH) : (m_page1 m).2 = 1 → TK m (m_page1 m).1 := by
  unfold m_page1
  rcases Classical.em (mFull m) with c | c
  · rw [ifp_t c]
    exact TK_room m
  · rw [ifp_f c]
    exact fun _ => TK.rf m
/-- a block without good pages is erased, or torn -/
theorem FO_erase {m x : zH} {T n : Int} (f : FO m x T n) (hT : T ≤ 2147483000) {b : Int} (b0 : 0 ≤ b) (b1 : b < gs m 1) (hg : ∀ j, gs m 2 * b ≤ j → j < gs m 2 * b + gs m 2 → ¬ mGood m j) : FO (m_er1 m b) (x_erase x b) (T + 1) n ∧ (∀ c, ga (x_erase x b) 18 c = if c = b then ifp (mOK m) 0 (gs m 2) else ga x 18 c) := by
  have s9 := SIM_erase f.1 b0 b1
  obtain ⟨s, dv, nf, on, o, p1⟩ := f
  have e71 : gs x 71 = gs m 2 := sg s.1 (by decide)
  have e70 : gs x 70 = gs m 1 := sg s.1 (by decide)
  have hx : xBlk x b := ⟨b0, by rw [e70]; exact b1⟩
  have okk := ok_eq s.1 s.2.2.1.2.2.2.1.1
  have hmul : b * gs m 2 = gs m 2 * b := Int.mul_comm _ _
  have gk (k : Nat) (hk : k ≠ 21 ∧ k ≠ 25) : gs (m_er1 m b) k = gs m k := er1_gs k hk
  have eN : mN (m_er1 m b) = mN m := by unfold mN; rw [gk 1 (by decide), gk 2 (by decide)]
  have out {i : Int} (h : pg (m_er1 m b) i) : ¬ (gs m 2 * b ≤ i ∧ i < gs m 2 * b + gs m 2) := fun z => by
    have q := h.2.2
    unfold mProgd at q
    rw [er1_ga, if_pos ⟨rfl, z⟩] at q
    rcases Classical.em (mOK m) with y | y
    · rw [ifp_t y] at q; omega
    · rw [ifp_f y] at q; omega
  have same {c : Nat} {i : Int} (h : ¬ (gs m 2 * b ≤ i ∧ i < gs m 2 * b + gs m 2)) (hc : c ≠ 9) : ga (m_er1 m b) c i = ga m c i := by
    rw [er1_ga, if_neg (fun y => h y.2), if_neg (fun y => hc y.1)]
  have d : Del m (m_er1 m b) (ga x 17) (ga (x_erase x b) 17) := by
    refine ⟨fun k h => gk k (by omega), fun c i h => by rw [er1_ga, if_neg (by omega), if_neg (by omega)], fun i h => ?_, fun i h z => ?_⟩
    · have ho := out h
      refine ⟨⟨h.1, by rw [← eN]; exact h.2.1, ?_⟩, fun c _ _ => same ho (by omega), fun k _ _ => by rw [er1_ga, if_neg (by omega), if_neg (by omega)], ?_⟩
      · have q := h.2.2
        unfold mProgd at q ⊢
        rw [same ho (by decide)] at q
        exact q
      · rw [xer_ga hx, if_neg (by omega), if_neg (by omega), ga_xclrR, e71, hmul, if_neg (fun y => ho y.2), if_neg (by omega), if_neg (by omega), if_neg (by omega), if_neg (by omega), if_neg (by omega), if_neg (by omega)]
    · have ho : gs m 2 * b ≤ i ∧ i < gs m 2 * b + gs m 2 := Classical.byContradiction fun y => z ⟨h.1, by rw [eN]; exact h.2.1, by
        have q := h.2.2
        unfold mProgd at q ⊢
        rw [same y (by decide)]
        exact q⟩
      exact hg i ho.1 ho.2
  have w9 : ∀ c, 0 ≤ c → c < gs m 1 → 0 ≤ ga (m_er1 m b) 9 c ∧ ga (m_er1 m b) 9 c ≤ T + 1 := fun c c0 c1 => by
    have q := dv.2.2.2.1.2.2 c c0 c1
    rw [er1_ga, if_neg (by omega)]
    by_cases z : c = b
    · rw [if_pos ⟨rfl, z⟩]
      rw [z] at q
      rcases Classical.em (mOK m) with y | y
      · rw [ifp_t y, wr_id (by omega) (by omega)]; omega
      · rw [ifp_f y]; omega
    · rw [if_neg (fun y => z y.2)]; omega
  obtain ⟨q1, q2, q3⟩ := DEL d (by omega) dv nf on (show T ≤ T + 1 by omega) w9
  refine ⟨⟨s9, q1, q2, q3, by rw [gk 26 (by decide)]; exact o, by rw [gk 2 (by decide)]; exact p1⟩, fun c => ?_⟩
  rw [xer_ga hx, e71, propext okk]
  by_cases z : c = b
  · rw [if_pos ⟨rfl, z⟩, if_pos z]
  · rw [if_neg (fun y => z y.2), if_neg z, if_neg (by omega), ga_xclrR, if_neg (by omega), if_neg (by omega), if_neg (by omega), if_neg (by omega), if_neg (by omega), if_neg (by omega), if_neg (by omega)]
theorem FO_act {m x : zH} {T n : Int} (f : FO m x T n) {b : Int} (b0 : -1 ≤ b) (b1 : b < gs m 1) : FO (ps m 32 b) (ps x 46 b) T n := by
  obtain ⟨⟨s1, s2, s3, s4, s5, s6, s7, s8⟩, dv, nf, on, o, p1⟩ := f
  exact ⟨⟨Sn_ps s1 (by decide) b, XS_act s2 b0 (by rw [sg s1 (a := 1) (b := 70) (by decide)]; exact b1), MS_act s3 b0 b1, s4, s5, s6, s7, s8⟩, dv, nf, on, o, p1⟩
/-- room is there on both sides, or power goes on both: on the class's side only when that is told -/
def RoomR (T k : Int) (r s : zH × Int) : Prop :=
  (r.2 = 1 ∧ s.2 = 1 ∧ FO r.1 s.1 T k ∧ 0 ≤ gs r.1 32 ∧ ga s.1 18 (gs r.1 32) < gs r.1 2) ∨
  (r.2 = 0 ∧ s.2 = 0 ∧ ∃ M, r.1 = m_loses M ∧ FO M s.1 T k)
theorem RoomR_mono {T T2 k : Int} {r s : zH × Int} (h : RoomR T k r s) (hT : T ≤ T2) : RoomR T2 k r s := by
  rcases h with ⟨h1, h2, h3, h4⟩ | ⟨h1, h2, M, h3, h4⟩
  · exact Or.inl ⟨h1, h2, FO_mono h3 hT, h4⟩
  · exact Or.inr ⟨h1, h2, M, h3, FO_mono h4 hT⟩
theorem COLLECT {m x : zH} {T k : Int} (f : FO m x T k) (hT : T + 40 ≤ 2147483000) (a0 : 0 ≤ gs m 32) {b : Int} (b0 : 0 ≤ b) (b1 : b < gs m 1) (bn : b ≠ gs m 32) (hv : mValidIn m b < mFreeIn m (gs m 32)) : RoomR (T + 40) k (m_collect m b) (x_collect x b) ∧ ((m_collect m b).2 = 1 → gs (m_collect m b).1 32 = gs m 32) := by
  have mb := f.1.2.2.1.1
  have e71 : gs x 71 = gs m 2 := sg f.1.1 (by decide)
  have fr := fp_v f.1 a0
  have p32 := mb.2.2.2.1
  have p32a := mb.2.2.1
  have hc : mValidIn m b = cnt (mGood m) (gs m 2 * b) (gs m 2).toNat := rfl
  have q := COLL (gs m 2).toNat m x T k (gs m 2 * b) b f (by omega) b0 b1 bn a0 (Int.le_refl _) (by omega) (by rw [← hc]; omega) (fun j j0 j1 => by omega)
  unfold m_collect x_collect
  rw [e71, Int.mul_comm b]
  generalize m_collL (gs m 2).toNat m (gs m 2 * b) = r at q ⊢
  generalize x_collL (gs m 2).toNat x (gs m 2 * b) = s at q ⊢
  rcases q with ⟨q1, q2, q3, ⟨q4, q5, q6⟩, q7, q8, q9⟩ | ⟨q1, q2, M, q3, q4⟩
  · rw [ifp_t q1, ifp_t q2]
    rw [← hc] at q9
    obtain ⟨w1, w2⟩ := FO_erase q3 (by omega) b0 (by rw [q5]; exact b1) (by rw [q6]; exact q7)
    have okk := ok_eq q3.1.1 q3.1.2.2.1.2.2.2.1.1
    have ee : ga (x_erase s.1 b) 18 (gs m 32) = ga s.1 18 (gs m 32) := by rw [w2, if_neg (fun z => bn z.symm)]
    rcases Classical.em (mOK r.1) with ok | ok
    · have e1 : m_er1 r.1 b = m_erase r.1 b := ifp_t ok
      rw [e1] at w1
      have e32 : gs (m_erase r.1 b) 32 = gs m 32 := (gs_eraseT ok b 32 (by decide)).trans q4
      refine ⟨Or.inl ⟨b2i_t ok, b2i_t (okk.mp ok), FO_mono w1 (by omega), ?_, ?_⟩, fun _ => e32⟩
      · show 0 ≤ gs (m_erase r.1 b) 32
        rw [e32]
        exact a0
      · show ga (x_erase s.1 b) 18 (gs (m_erase r.1 b) 32) < gs (m_erase r.1 b) 2
        rw [e32, ee, gs_eraseT ok b 2 (by decide), q6]
        omega
    · refine ⟨Or.inr ⟨b2i_f ok, b2i_f (fun z => ok (okk.mpr z)), m_er1 r.1 b, ?_, FO_mono w1 (by omega)⟩, fun z => absurd (b2i_1.mp z) ok⟩
      show m_erase r.1 b = _
      unfold m_er1
      rw [ifp_f ok]
      exact ifp_f ok
  · rw [ifp_f (by omega), ifp_f (by omega)]
    exact ⟨Or.inr ⟨q1, q2, M, q3, FO_mono q4 (by omega)⟩, fun z => by omega⟩
theorem ROOML : ∀ (n : Nat) (m x : zH) (T k : Int), FO m x T k → T + 40 * n ≤ 2147483000 → 0 ≤ gs m 32 → ga x 18 (gs m 32) < gs m 2 → 2 ≤ mFreeMany m + n → RoomR (T + 40 * n) k (m_roomL (n + 1) m) (x_roomL n x) := by
  intro n
  induction n with
  | zero =>
    intro m x T k f hT a0 fr hf
    rw [m_roomL, ifp_f (by omega)]
    exact Or.inl ⟨rfl, rfl, FO_mono f (by omega), a0, fr⟩
  | succ n ih =>
    intro m x T k f hT a0 fr hf
    have e46 : gs x 46 = gs m 32 := sg f.1.1 (by decide)
    have vv := vict_v f a0
    have vr := vict_r f
    have fm := freeMany_v f.1 f.2.2.2.2.2
    rw [m_roomL, x_roomL, e46, fm, vv]
    by_cases c : mFreeMany m < 2
    · rw [ifp_t c]
      rcases vr with v | ⟨⟨v0, v1⟩, v2, v3, v4⟩
      · rw [ifp_f (fun z => z.2 v), ifp_t (by omega)]
        exact Or.inl ⟨rfl, rfl, FO_mono (FO_cl f) (by omega), a0, by show ga (x_cl x) 18 _ < _; unfold x_cl; rw [ga_xcln_o _ _ _ _ (by decide)]; exact fr⟩
      · rw [ifp_t ⟨c, by omega⟩, ifp_f (show ¬ m_vict m < 0 by omega)]
        obtain ⟨q, qa⟩ := COLLECT (FO_cl f) (by omega) a0 v0 v1 v2 v3
        have cf := collect_free f.1.2.2.1 a0 v0 v1 v2 (fun z => by
          have y := (free_v f.1 f.2.2.2.2.2 v0 v1).mpr z
          have := y.1
          omega) v3
        rcases q with ⟨q1, q2, q3, q4, q5⟩ | ⟨q1, q2, q3⟩
        · rw [ifp_t q1, ifp_t q2]
          have t := ih _ _ _ _ q3 (by omega) q4 q5 (by have := cf q1; omega)
          rw [show T + 40 * ((n + 1 : Nat) : Int) = T + 40 + 40 * n by omega]
          exact t
        · rw [ifp_f (by omega), ifp_f (by omega)]
          obtain ⟨M, m1, m2⟩ := q3
          exact Or.inr ⟨q1, q2, M, m1, FO_mono m2 (by omega)⟩
    · rw [ifp_f (fun z => c z.1), ifp_f c]
      exact Or.inl ⟨rfl, rfl, FO_mono f (by omega), a0, fr⟩
theorem mloses_act (m : zH) (b : Int) : m_loses (ps m 32 b) = m_loses m := by
  apply zH_ext
  · intro k
    simp only [m_loses, m_forgets, gs_ps, gs_prr]
    by_cases h : k = 32
    · simp [h]
    · simp [h]
  · intro c i
    rw [ga_mloses, ga_mloses]
    rfl
theorem PAGE1 {m x : zH} {T k : Int} (f : FO m x T k) (hT : T + 80 ≤ 2147483000) : RoomR (T + 80) k (m_page1 m) (x_page1 x) := by
  have e46 : gs x 46 = gs m 32 := sg f.1.1 (by decide)
  have act := f.1.2.2.1.2.2.1
  have p1 := f.2.2.2.2.2
  have hfull : 0 < xFP x (gs x 46) ↔ ¬ mFull m := by
    rw [e46]
    unfold mFull
    by_cases a : gs m 32 = -1
    · unfold xFP xBlk
      rw [ifp_f (by omega)]
      omega
    · have q := fp_v f.1 (by omega)
      have u := f.1.2.2.1.2.2.2.2 (gs m 32) (by omega) act.2
      omega
  unfold m_page1 x_page1
  by_cases c : mFull m
  · rw [ifp_t c, ifp_f (fun z => hfull.mp z c)]
    have fb := fblk_v f.1 p1
    have fr := mFB_lt m (gs m 1).toNat
    have ff := mFB_free m (gs m 1).toNat
    unfold m_room x_room
    rw [e46, fb]
    by_cases d : m_fblk m = -1
    · rw [ifp_t d, ifp_t (by omega)]
      refine Or.inr ⟨rfl, rfl, ps m 32 (m_fblk m), (mloses_act m _).symm, FO_mono (FO_act f (by omega) (by have := act.2; omega)) (by omega)⟩
    · have r0 : 0 ≤ m_fblk m ∧ m_fblk m < gs m 1 := by
        unfold m_fblk at d ⊢
        have := f.1.2.2.1.1.1
        omega
      rw [ifp_f d, ifp_f (by omega)]
      have fa := FO_act f (b := m_fblk m) (by omega) r0.2
      have fv := (free_v f.1 p1 r0.1 r0.2).mpr (ff d)
      have e1 : gs (ps m 32 (m_fblk m)) 32 = m_fblk m := rfl
      have n0 := (cnt_r (mIsFree (ps m 32 (m_fblk m))) 0 (gs (ps m 32 (m_fblk m)) 1).toNat).1
      have q := ROOML 2 _ _ T k fa (by omega) (by rw [e1]; exact r0.1) (by rw [e1]; show ga x 18 _ < gs m 2; rw [fv.1]; omega) (by unfold mFreeMany; omega)
      exact q
  · rw [ifp_f c, ifp_t (hfull.mpr c)]
    have a : gs m 32 ≠ -1 := fun z => c (Or.inl z)
    have q := fp_v f.1 (by omega)
    have q2 : mFreeIn m (gs m 32) ≠ 0 := fun z => c (Or.inr z)
    have u := f.1.2.2.1.2.2.2.2 (gs m 32) (by omega) act.2
    exact Or.inl ⟨rfl, rfl, FO_mono f (by omega), show 0 ≤ gs m 32 by omega, show ga x 18 (gs m 32) < gs m 2 by omega⟩

