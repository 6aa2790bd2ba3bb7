/-! what stays, whatever the flash does; and what the reference's greater methods make of its state -/
def kSc (k : Nat) : Prop := k ≠ 19 ∧ k ≠ 20 ∧ k ≠ 21 ∧ k ≠ 22 ∧ k ≠ 24 ∧ k ≠ 25 ∧ k ≠ 26 ∧ k ≠ 32 ∧ k ≠ 33 ∧ k ≠ 34 ∧ k ≠ 35 ∧ k ≠ 36
def kAr (c : Nat) : Prop := c ≠ 2 ∧ c ≠ 3 ∧ c ≠ 4 ∧ c ≠ 5 ∧ c ≠ 6 ∧ c ≠ 7 ∧ c ≠ 8 ∧ c ≠ 9 ∧ c ≠ 10 ∧ c ≠ 11 ∧ c ≠ 12 ∧ c ≠ 14
/-- kept: what no flash operation touches -/
def Kp (h h2 : zH) : Prop := (∀ k, kSc k → gs h2 k = gs h k) ∧ ∀ c i, kAr c → ga h2 c i = ga h c i
theorem Kp.rf (h : zH) : Kp h h := ⟨fun _ _ => rfl, fun _ _ _ => rfl⟩
theorem Kp.tr {a b c : zH} (x : Kp a b) (y : Kp b c) : Kp a c := ⟨fun k hk => (y.1 k hk).trans (x.1 k hk), fun d i hd => (y.2 d i hd).trans (x.2 d i hd)⟩
theorem Kp_oper (h : zH) : Kp h (m_oper h) := ⟨fun k hk => gs_oper h k hk.2.2.2.2.2.1, fun c i _ => ga_oper h c i⟩
theorem Kp_loses (h : zH) : Kp h (m_loses h) := ⟨fun k hk => gs_loses h k (by unfold kSc at hk; omega), fun c i hc => ga_loses h c i (by unfold kAr at hc; omega)⟩
theorem Kp_prog (h : zH) (place w ix g : Int) : Kp h (m_prog h place w ix g) := by
  refine ⟨fun k hk => gs_prog h place w ix g k (by unfold kSc at hk; omega), fun c i hc => ?_⟩
  unfold kAr at hc
  unfold m_prog
  rw [ga_if, ga_progOk_o _ _ _ _ _ _ _ (by omega), ga_loses _ _ _ (by omega), ga_pa, if_neg (by omega), ifp_same, ga_oper]
theorem Kp_copy (h : zH) (fr : Int) : Kp h (m_copy h fr) := by
  have q := Kp_prog h (m_low h) (ga h 2 fr) (ga h 3 fr) (ga h 4 fr)
  unfold m_copy
  rcases Classical.em (mOK h) with c | c
  · rw [ifp_t c]
    refine q.tr ⟨fun k hk => ?_, fun c i hc => ?_⟩
    · unfold kSc at hk
      simp only [m_copyOk, gs_ps, gs_cp8, gs_pa]
      rw [if_neg (by omega)]
    · unfold kAr at hc
      simp only [m_copyOk, ga_ps, ga_cp8, ga_pa]
      rw [if_neg (by omega), if_neg (by omega), if_neg (by omega)]
  · rw [ifp_f c]
    exact q
theorem Kp_collL : ∀ (n : Nat) (h : zH) (i : Int), Kp h (m_collL n h i).1
  | 0, h, _ => Kp.rf h
  | n + 1, h, i => by
    rw [m_collL]
    rcases Classical.em (mGood h i) with g | g
    · rw [ifp_t g]
      rcases Classical.em (mOK h) with c | c
      · rw [ifp_t c]
        exact (Kp_copy h i).tr (Kp_collL n _ _)
      · rw [ifp_f c]
        exact Kp_copy h i
    · rw [ifp_f g]
      exact Kp_collL n h _
theorem Kp_erase (h : zH) (b : Int) : Kp h (m_erase h b) := by
  unfold m_erase
  rcases Classical.em (mOK h) with c | c
  · rw [ifp_t c]
    refine (Kp_oper h).tr ⟨fun k hk => ?_, fun c i hc => ?_⟩
    · unfold kSc at hk
      rw [gs_ps, if_neg (by omega)]
      rfl
    · unfold kAr at hc
      rw [ga_ps, ga_pa, ga_prr, if_neg (by omega), if_neg (by omega)]
  · rw [ifp_f c]
    have k1 : Kp (m_oper h) (prr (m_oper h) 2 (gs h 2 * b) (gs h 2 * b + gs h 2) 5) := by
      refine ⟨fun k hk => rfl, fun c i hc => ?_⟩
      unfold kAr at hc
      rw [ga_prr, if_neg (by omega)]
    exact ((Kp_oper h).tr k1).tr (Kp_loses _)
theorem Kp_collect (h : zH) (b : Int) : Kp h (m_collect h b).1 := by
  have q := Kp_collL (gs h 2).toNat h (gs h 2 * b)
  unfold m_collect
  rcases Classical.em ((m_collL (gs h 2).toNat h (gs h 2 * b)).2 = 1) with c | c
  · rw [ifp_t c]
    exact q.tr (Kp_erase _ _)
  · rw [ifp_f c]
    exact q
theorem Kp_act (h : zH) (b : Int) : Kp h (ps h 32 b) := ⟨fun k hk => by unfold kSc at hk; rw [gs_ps, if_neg (by omega)], fun _ _ _ => rfl⟩
theorem Kp_roomL : ∀ (n : Nat) (h : zH), Kp h (m_roomL n h).1
  | 0, h => Kp.rf h
  | n + 1, h => by
    rw [m_roomL]
    rcases Classical.em (mFreeMany h < 2 ∧ m_vict h ≠ -1) with c | c
    · rw [ifp_t c]
      rcases Classical.em ((m_collect h (m_vict h)).2 = 1) with d | d
      · rw [ifp_t d]
        exact (Kp_collect h _).tr (Kp_roomL n _)
      · rw [ifp_f d]
        exact Kp_collect h _
    · rw [ifp_f c]
      exact Kp.rf h
theorem Kp_page1 (h : zH) : Kp h (m_page1 h).1 := by
  unfold m_page1 m_room
  rcases Classical.em (mFull h) with c | c
  · rw [ifp_t c]
    rcases Classical.em (m_fblk h = -1) with d | d
    · rw [ifp_t d]
      exact Kp_loses h
    · rw [ifp_f d]
      exact (Kp_act h _).tr (Kp_roomL 3 _)
  · rw [ifp_f c]
    exact Kp.rf h
theorem Kp_page (h : zH) (w ix g : Int) : Kp h (m_page h w ix g).1 := by
  unfold m_page
  rcases Classical.em ((m_page1 h).2 = 1) with c | c
  · rw [ifp_t c]
    exact (Kp_page1 h).tr (Kp_prog _ _ _ _ _)
  · rw [ifp_f c]
    exact Kp_page1 h
/-- a programmed page -/
theorem page_MS {h : zH} {u : Int → Int} (s : MS h u) (hp : 0 < gs h 2) {w ix g : Int} (hw : w ≠ 0) (hd : w = 1 → 0 ≤ ix ∧ ix < gs h 3) (hm : w = 3 → 0 ≤ ix ∧ 8 * ix < gs h 3) : ∃ u2, MS (m_page h w ix g).1 u2 ∧ ((m_page h w ix g).2 = -1 ∨ 0 ≤ (m_page h w ix g).2 ∧ (m_page h w ix g).2 < gs h 1 * gs h 2 ∧ (m_page h w ix g).2 < 1024 ∧ gs (m_page h w ix g).1 26 = gs h 26) := by
  obtain ⟨u2, t1, t2, t3, t4⟩ := page1_MS s hp
  have kp := Kp_page1 h
  have e3 := kp.1 3 (by unfold kSc; decide)
  unfold m_page
  rcases t4 with t4 | ⟨t4, t5, t6, t7⟩
  · rw [ifp_f (by omega)]
    exact ⟨u2, t1, Or.inl rfl⟩
  · rw [ifp_t t4]
    obtain ⟨l1, l2, l3, l4⟩ := low_in t1 t5 t7
    refine ⟨_, MS_prog t1 t5 t7 hw (by rw [e3]; exact hd) (by rw [e3]; exact hm), ?_⟩
    show ifp _ _ _ = _ ∨ 0 ≤ ifp _ _ _ ∧ ifp _ _ _ < _ ∧ ifp _ _ _ < _ ∧ _
    rcases Classical.em (mOK (m_page1 h).1) with c | c
    · rw [ifp_t c]
      refine Or.inr ⟨l1, by rw [← t2, ← t3]; exact l2, l3, ?_⟩
      show gs (m_prog _ _ _ _ _) 26 = _
      rw [gs_progT c _ _ _ _ _ (by decide), t6]
    · rw [ifp_f c]
      exact Or.inl rfl
def mRoomFor (h : zH) (n : Int) : Prop := mValidAll h + n ≤ (gs h 1 - 2) * gs h 2
noncomputable def m_map (h : zH) (part : Int) : zH × Int := ifp ((m_page h 3 part (gs h 35)).2 = -1) ((m_page h 3 part (gs h 35)).1, 0) (cp8 (m_page h 3 part (gs h 35)).1 8 (m_page h 3 part (gs h 35)).2 part 10, 1)
noncomputable def m_ckL : Nat → zH → Int → zH × Int
  | 0, h, _ => (h, 1)
  | n + 1, h, part => ifp ((m_map h part).2 = 1) (m_ckL n (m_map h part).1 (part + 1)) (m_map h part)
def m_ck0 (h : zH) : zH := ps (ps h 39 (wr (gs h 39 + 1))) 35 (wr (gs h 39 + 1))
def m_ckEnd (h : zH) (place : Int) : zH := ps (ps (ps (ps h 33 (gs h 35)) 35 0) 34 (ga h 5 place)) 36 0
def mParts (h : zH) : Int := (gs h 3 + 7) / 8
noncomputable def m_ck1 (h : zH) : zH × Int := m_ckL (mParts h).toNat (m_ck0 h) 0
noncomputable def m_ck2 (h : zH) : zH × Int := ifp ((m_page h 4 0 (gs h 35)).2 = -1) ((m_page h 4 0 (gs h 35)).1, 0) (m_ckEnd (m_page h 4 0 (gs h 35)).1 (m_page h 4 0 (gs h 35)).2, 1)
noncomputable def m_ck (h : zH) : zH × Int := ifp ((m_ck1 h).2 = 1) (m_ck2 (m_ck1 h).1) (m_ck1 h)
noncomputable def m_pfc (h : zH) : Int := ifp (gs h 4 ≤ wr (gs h 36 + 1)) (mParts h + 2) 1
noncomputable def m_cc (h : zH) : zH × Int := ifp (wr (gs h 36 + 1) < gs h 4) (ps h 36 (wr (gs h 36 + 1)), 1) (m_ck (ps h 36 (wr (gs h 36 + 1))))
noncomputable def m_data (h : zH) (t page v : Int) : zH × Int := (ifp ((m_page h 1 page t).2 = -1) (m_page h 1 page t).1 (pa (m_page h 1 page t).1 7 (m_page h 1 page t).2 v), (m_page h 1 page t).2)
noncomputable def m_wo2 (h : zH) (page place : Int) : zH × Int := ifp ((m_cc (pa h 10 page (ga h 5 place))).2 = 1) (ps (m_cc (pa h 10 page (ga h 5 place))).1 23 (wr (gs (m_cc (pa h 10 page (ga h 5 place))).1 23 + 1)), ga h 5 place) ((m_cc (pa h 10 page (ga h 5 place))).1, 0)
noncomputable def m_wo1 (h : zH) (page v : Int) : zH × Int := ifp ((m_data h 0 page v).2 = -1) ((m_data h 0 page v).1, 0) (m_wo2 (m_data h 0 page v).1 page (m_data h 0 page v).2)
noncomputable def m_wout (h : zH) (page v : Int) : zH × Int := ifp (mRoomFor h (m_pfc h)) (m_wo1 h page v) (h, 0)
def m_wi2 (h : zH) (t page place : Int) : zH × Int := (ps (pa (pa h 11 page t) 12 page (ga h 5 place)) 23 (wr (gs h 23 + 1)), ga h 5 place)
noncomputable def m_wi1 (h : zH) (t page v : Int) : zH × Int := ifp ((m_data h t page v).2 = -1) ((m_data h t page v).1, 0) (m_wi2 (m_data h t page v).1 t page (m_data h t page v).2)
noncomputable def m_win (h : zH) (t page v : Int) : zH × Int := ifp (mRoomFor h 1) (m_wi1 h t page v) (h, 0)
def mAct (h : zH) (t : Int) : Prop := gs h 26 ≠ 0 ∧ (t = 0 ∨ ga h 15 t = 1)
def mTx (h : zH) (t : Int) : Prop := 1 ≤ t ∧ t ≤ gs h 38
def mLg (h : zH) (p : Int) : Prop := 0 ≤ p ∧ p < gs h 3
noncomputable def mOpen (h : zH) : Int := cnt (fun t => ga h 15 t = 1) 1 (gs h 38).toNat
noncomputable def mLocks (h : zH) (t : Int) : Int := cnt (fun p => ga h 11 p = t) 0 (gs h 3).toNat
/-- every page's lock of t goes -/
def m_unl (h : zH) (t n : Int) : zH := (h.1, fun c j => if (c = 11 ∨ c = 12) ∧ 0 ≤ j ∧ j < n ∧ h.2 11 j = t then 0 else h.2 c j)
theorem ga_unl (h : zH) (t n : Int) (c : Nat) (j : Int) : ga (m_unl h t n) c j = if (c = 11 ∨ c = 12) ∧ 0 ≤ j ∧ j < n ∧ ga h 11 j = t then 0 else ga h c j := rfl
theorem gs_unl (h : zH) (t n : Int) (k : Nat) : gs (m_unl h t n) k = gs h k := rfl
/-- the shadows of t become committed -/
def m_shd (h : zH) (t n : Int) : zH := (h.1, fun c j => if c = 10 ∧ 0 ≤ j ∧ j < n ∧ h.2 11 j = t then h.2 12 j else h.2 c j)
theorem ga_shd (h : zH) (t n : Int) (c : Nat) (j : Int) : ga (m_shd h t n) c j = if c = 10 ∧ 0 ≤ j ∧ j < n ∧ ga h 11 j = t then ga h 12 j else ga h c j := rfl
theorem gs_shd (h : zH) (t n : Int) (k : Nat) : gs (m_shd h t n) k = gs h k := rfl
def m_cm2 (h : zH) (t : Int) : zH := pa (m_unl (m_shd h t (gs h 3)) t (gs h 3)) 15 t 2
noncomputable def m_cm1 (h : zH) (t n : Int) : zH × Int := ifp ((m_page h 2 n t).2 = -1) ((m_page h 2 n t).1, 0) (m_cc (m_cm2 (m_page h 2 n t).1 t))
noncomputable def m_com0 (h : zH) (t n : Int) : zH × Int := ifp (mRoomFor h (m_pfc h)) (m_cm1 h t n) (h, 0)
/-- the first place from i on, of n, with p -/
noncomputable def ff (p : Int → Prop) : Int → Nat → Int
  | _, 0 => -1
  | i, n + 1 => ifp (p i) i (ff p (i + 1) n)
theorem ff_r (p : Int → Prop) : ∀ (n : Nat) (i : Int), 0 ≤ i → ff p i n = -1 ∨ i ≤ ff p i n ∧ ff p i n < i + n ∧ p (ff p i n) ∧ ∀ j, i ≤ j → j < ff p i n → ¬ p j
  | 0, i, _ => Or.inl rfl
  | n + 1, i, hi => by
    rw [ff]
    rcases Classical.em (p i) with c | c
    · rw [ifp_t c]
      exact Or.inr ⟨Int.le_refl _, by omega, c, fun j h1 h2 => by omega⟩
    · rw [ifp_f c]
      rcases ff_r p n (i + 1) (by omega) with q | ⟨q1, q2, q3, q4⟩
      · exact Or.inl q
      · refine Or.inr ⟨by omega, by omega, q3, fun j h1 h2 => ?_⟩
        by_cases e : j = i
        · rw [e]; exact c
        · exact q4 j (by omega) h2
def mDataAt (h : zH) (page its i : Int) : Prop := ga h 2 i = 1 ∧ ga h 3 i = page ∧ ga h 5 i = its
noncomputable def mValF (h : zH) (page its i : Int) (n : Nat) : Int := ifp (ff (mDataAt h page its) i n = -1) (-1) (ga h 7 (ff (mDataAt h page its) i n))
noncomputable def mVal (h : zH) (page its : Int) : Int := ifp (0 < its) (mValF h page its 0 (gs h 1 * gs h 2).toNat) (-1)
/-! the reference's calls -/
noncomputable def m_checkpoint (h : zH) : zH × Int := ifp (gs h 26 ≠ 0 ∧ mRoomFor (ps h 0 0) (mParts h + 1)) (ifp ((m_ck (ps h 0 0)).2 = 1) ((m_ck (ps h 0 0)).1, gs (m_ck (ps h 0 0)).1 33) (ps (m_ck (ps h 0 0)).1 0 1, 0)) (ps h 0 1, 0)
noncomputable def m_begin (h : zH) : zH × Int := ifp (gs h 26 = 0 ∨ mOpen h = 6 ∨ gs h 38 = 1000) (ps h 0 1, 0) (pa (ps (ps h 0 0) 38 (gs h 38 + 1)) 15 (gs h 38 + 1) 1, gs h 38 + 1)
noncomputable def m_wres (r : zH × Int) : zH × Int := ifp (r.2 = 0) (ps r.1 0 3, 0) r
noncomputable def m_write (h : zH) (t p v : Int) : zH × Int := ifp (t ≠ 0 ∧ ¬ mTx h t ∨ ¬ mLg h p) (ps h 0 1, 0) (ifp (¬ (-1 ≤ v ∧ v ≤ 999999)) (ps h 0 2, 0) (ifp (¬ mAct h t ∨ ga h 11 p ≠ 0 ∧ ga h 11 p ≠ t) (ps h 0 3, 0) (m_wres (ifp (t = 0) (m_wout (ps h 0 0) p v) (m_win (ps h 0 0) t p v)))))
noncomputable def m_read (h : zH) (t p : Int) : zH × Int := ifp (t ≠ 0 ∧ ¬ mTx h t ∨ ¬ mLg h p) (ps h 0 1, 0) (ifp (¬ mAct h t) (ps h 0 2, 0) (ps h 0 0, mVal h p (ifp (t ≠ 0 ∧ ga h 11 p = t) (ga h 12 p) (ga h 10 p))))
noncomputable def m_commit (h : zH) (t : Int) : zH × Int := ifp (¬ mTx h t) (ps h 0 1, 0) (ifp (¬ mAct h t) (ps h 0 2, 0) (ifp (mLocks h t = 0) (pa (ps h 0 0) 15 t 2, 0) (ifp ((m_com0 (ps h 0 0) t (mLocks h t)).2 = 1) ((m_com0 (ps h 0 0) t (mLocks h t)).1, mLocks h t) (ps (m_com0 (ps h 0 0) t (mLocks h t)).1 0 2, 0))))
noncomputable def m_abort (h : zH) (t : Int) : zH × Int := ifp (¬ mTx h t) (ps h 0 1, 0) (ifp (¬ mAct h t) (ps h 0 2, 0) (pa (m_unl (ps h 0 0) t (gs h 3)) 15 t 3, mLocks h t))
theorem ps_ps (h : zH) (k : Nat) (a b : Int) : ps (ps h k a) k b = ps h k b := by
  apply zH_ext
  · intro j
    simp only [gs_ps]
    split <;> rfl
  · intro c i; rfl
theorem C_X7_refuse2 {h : zH} {a1 : Int} (r1 : -2147483648 ≤ a1 ∧ a1 < 2147483648) : kX7_refuse a1 h (fun r h2 => r = 0 ∧ h2 = ps h 0 a1) := by
  have q := C_X7_refuse (h := h) (a1 := a1)
  rw [wr_id r1.1 r1.2] at q
  exact q
theorem MS_0 {h : zH} {u : Int → Int} (s : MS h u) (v : Int) : MS (ps h 0 v) u := MS_c s rfl rfl rfl rfl rfl (fun _ => rfl) (fun _ => rfl)

