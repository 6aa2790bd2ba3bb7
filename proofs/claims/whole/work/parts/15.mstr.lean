/-! the shape of the flash: in each block the pages that are not free come first -/
def SF (h : zH) (u : Int → Int) : Prop := ∀ b : Int, 0 ≤ b → b < gs h 1 → 0 ≤ u b ∧ u b ≤ gs h 2 ∧ ∀ i : Int, 0 ≤ i → i < gs h 2 → (ga h 2 (gs h 2 * b + i) = 0 ↔ u b ≤ i)
def uup (u : Int → Int) (b v : Int) : Int → Int := fun c => if c = b then v else u c
theorem uup_s (u : Int → Int) (b v : Int) : uup u b v b = v := if_pos rfl
theorem uup_n (u : Int → Int) {b c : Int} (v : Int) (h : c ≠ b) : uup u b v c = u c := if_neg h
theorem cnt_tail {p : Int → Prop} {a u : Int} (h0 : 0 ≤ u) : ∀ n : Nat, (∀ i : Int, 0 ≤ i → i < n → (p (a + i) ↔ u ≤ i)) → cnt p a n = if (n : Int) ≤ u then 0 else n - u
  | 0, _ => by
    rw [cnt, if_pos (by omega)]
  | n + 1, h => by
    have q := cnt_tail h0 n (fun i h1 h2 => h i h1 (by omega))
    have r := h n (by omega) (by omega)
    rw [cnt, q]
    by_cases e : u ≤ n
    · rw [b2i_t (r.mpr e)]
      split <;> split <;> omega
    · rw [b2i_f (fun z => e (r.mp z)), if_pos (by omega), if_pos (by omega)]
      rfl
theorem sf_free {h : zH} {u : Int → Int} (s : SF h u) {b : Int} (h1 : 0 ≤ b) (h2 : b < gs h 1) : mFreeIn h b = gs h 2 - u b := by
  obtain ⟨a1, a2, a3⟩ := s b h1 h2
  unfold mFreeIn mKind
  rw [cnt_tail a1 _ (fun i g1 g2 => a3 i g1 (by omega))]
  split <;> omega
theorem blk_lt {p b c : Int} (hp : 0 ≤ p) (h : b < c) : p * b + p ≤ p * c := by
  have e : p * (b + 1) = p * b + p := by rw [Int.mul_add, Int.mul_one]
  rw [← e]
  exact Int.mul_le_mul_of_nonneg_left (by omega) hp
theorem blk_ne {p b c i j : Int} (hi : 0 ≤ i) (hip : i < p) (hj : 0 ≤ j) (hjp : j < p) (h : b ≠ c) : p * b + i ≠ p * c + j := by
  rcases Int.lt_or_gt_of_ne h with q | q
  · have := blk_lt (p := p) (by omega) q
    omega
  · have := blk_lt (p := p) (by omega) q
    omega
/-- a place's block -/
theorem blk_of {p B x : Int} (h0 : 0 ≤ x) (h1 : x < B * p) (hp : 0 < p) : ∃ b i : Int, 0 ≤ b ∧ b < B ∧ 0 ≤ i ∧ i < p ∧ x = p * b + i := by
  refine ⟨x / p, x % p, Int.ediv_nonneg h0 (by omega), Int.ediv_lt_of_lt_mul hp h1, Int.emod_nonneg _ (by omega), Int.emod_lt_of_pos _ hp, ?_⟩
  have := Int.mul_ediv_add_emod x p
  omega
theorem blk_in {p B b i : Int} (hb : 0 ≤ b) (hB : b < B) (hi : 0 ≤ i) (hp : i < p) : 0 ≤ p * b + i ∧ p * b + i < B * p := by
  have q := blk_lt (p := p) (by omega) hB
  have r := Int.mul_nonneg (show 0 ≤ p by omega) hb
  rw [Int.mul_comm B p]
  omega
/-- structure: sizes, the places in pages, the active block, what is armed, the free pages -/
def MS (h : zH) (u : Int → Int) : Prop := MB h ∧ MI h ∧ (-1 ≤ gs h 32 ∧ gs h 32 < gs h 1) ∧ (0 ≤ gs h 25 ∧ gs h 25 ≤ 1000) ∧ SF h u
theorem gs_loses (h : zH) (k : Nat) (hk : k ≠ 24 ∧ k ≠ 26 ∧ k ≠ 32 ∧ k ≠ 33 ∧ k ≠ 34 ∧ k ≠ 35 ∧ k ≠ 36) : gs (m_loses h) k = gs h k := by
  simp only [m_loses, m_forgets, gs_ps, gs_prr]
  simp [hk]
theorem ga_loses (h : zH) (c : Nat) (i : Int) (hc : c ≠ 10 ∧ c ≠ 11 ∧ c ≠ 12 ∧ c ≠ 14) : ga (m_loses h) c i = ga h c i := by
  simp only [m_loses, m_forgets, ga_ps, ga_prr]
  simp [hc]
theorem SF_c {h h2 : zH} {u : Int → Int} (s : SF h u) (e1 : gs h2 1 = gs h 1) (e2 : gs h2 2 = gs h 2) (e3 : ∀ i, (ga h2 2 i = 0 ↔ ga h 2 i = 0)) : SF h2 u := by
  intro b h1 h2
  rw [e1] at h2
  rw [e2]
  obtain ⟨a1, a2, a3⟩ := s b h1 h2
  exact ⟨a1, a2, fun i g1 g2 => (e3 _).trans (a3 i g1 g2)⟩
theorem MI_c {h h2 : zH} (s : MI h) (e1 : gs h2 1 = gs h 1) (e2 : gs h2 2 = gs h 2) (e4 : gs h2 3 = gs h 3) (e3 : ∀ i, ga h2 2 i = 1 ∨ ga h2 2 i = 3 → ga h2 2 i = ga h 2 i ∧ ga h2 3 i = ga h 3 i) : MI h2 := by
  intro i h1 h2
  rw [e1, e2] at h2
  obtain ⟨a1, a2⟩ := s i h1 h2
  rw [e4]
  refine ⟨fun z => ?_, fun z => ?_⟩
  · obtain ⟨q1, q2⟩ := e3 i (Or.inl z)
    rw [q2]
    exact a1 (by rw [← q1]; exact z)
  · obtain ⟨q1, q2⟩ := e3 i (Or.inr z)
    rw [q2]
    exact a2 (by rw [← q1]; exact z)
theorem MS_loses {h : zH} {u : Int → Int} (s : MS h u) : MS (m_loses h) u := by
  obtain ⟨s1, s2, s3, s4, s5⟩ := s
  have e1 := gs_loses h 1 (by decide)
  have e2 := gs_loses h 2 (by decide)
  have e3 := gs_loses h 3 (by decide)
  have e25 := gs_loses h 25 (by decide)
  have ek : ∀ i, ga (m_loses h) 2 i = ga h 2 i := fun i => ga_loses h 2 i (by decide)
  have ei : ∀ i, ga (m_loses h) 3 i = ga h 3 i := fun i => ga_loses h 3 i (by decide)
  refine ⟨MB_c s1 e1 e2 e3, MI_c s2 e1 e2 e3 (fun i _ => ⟨ek i, ei i⟩), ?_, by rw [e25]; exact s4, SF_c s5 e1 e2 (fun i => by rw [ek])⟩
  rw [e1]
  have : gs (m_loses h) 32 = -1 := rfl
  have := s1.1
  omega
theorem MS_oper {h : zH} {u : Int → Int} (s : MS h u) : MS (m_oper h) u := by
  obtain ⟨s1, s2, s3, s4, s5⟩ := s
  have e1 := gs_oper h 1 (by decide)
  have e2 := gs_oper h 2 (by decide)
  have e3 := gs_oper h 3 (by decide)
  have e32 := gs_oper h 32 (by decide)
  refine ⟨MB_oper s1, MI_c s2 e1 e2 e3 (fun i _ => ⟨ga_oper h 2 i, ga_oper h 3 i⟩), by rw [e1, e32]; exact s3, ?_, SF_c s5 e1 e2 (fun i => by rw [ga_oper])⟩
  unfold m_oper
  rw [gs_if, gs_ps, if_pos rfl]
  rcases Classical.em (gs h 25 = 0) with c | c
  · rw [ifp_t c]; exact s4
  · rw [ifp_f c]; omega
/-- the lowest free page of the active block -/
theorem low_at {h : zH} {u : Int → Int} (s : MS h u) (h1 : 0 ≤ gs h 32) : m_low h = gs h 2 * gs h 32 + u (gs h 32) := by
  unfold m_low
  rw [sf_free s.2.2.2.2 h1 s.2.2.1.2]
  omega
theorem low_in {h : zH} {u : Int → Int} (s : MS h u) (h1 : 0 ≤ gs h 32) (h2 : u (gs h 32) < gs h 2) : 0 ≤ m_low h ∧ m_low h < gs h 1 * gs h 2 ∧ m_low h < 1024 ∧ ga h 2 (m_low h) = 0 := by
  obtain ⟨a1, a2, a3⟩ := s.2.2.2.2 _ h1 s.2.2.1.2
  have q := blk_in h1 s.2.2.1.2 a1 h2
  have r := mb_size s.1.1 s.1.2.1 s.1.2.2.1 s.1.2.2.2.1
  rw [low_at s h1]
  exact ⟨q.1, q.2, by omega, (a3 _ a1 h2).mpr (Int.le_refl _)⟩
/-- programming a page there, or tearing it -/
theorem SF_put {h h2 : zH} {u : Int → Int} (s : MS h u) (h1 : 0 ≤ gs h 32) (h3 : u (gs h 32) < gs h 2) (e1 : gs h2 1 = gs h 1) (e2 : gs h2 2 = gs h 2) (ek : ∀ i, i ≠ m_low h → ga h2 2 i = ga h 2 i) (ew : ga h2 2 (m_low h) ≠ 0) : SF h2 (uup u (gs h 32) (u (gs h 32) + 1)) := by
  intro b g1 g2
  rw [e1] at g2
  rw [e2]
  have s5 := s.2.2.2.2
  obtain ⟨a1, a2, a3⟩ := s5 b g1 g2
  have el := low_at s h1
  have hu := (s5 _ h1 s.2.2.1.2).1
  by_cases c : b = gs h 32
  · rw [c, uup_s]
    rw [c] at a1 a2 a3
    refine ⟨by omega, by omega, fun i q1 q2 => ?_⟩
    by_cases e : i = u (gs h 32)
    · rw [e, ← el]
      exact ⟨fun z => absurd z ew, fun z => by omega⟩
    · rw [ek _ (by omega)]
      have := a3 i q1 q2
      omega
  · rw [uup_n _ _ c]
    refine ⟨a1, a2, fun i q1 q2 => ?_⟩
    rw [ek _ (by rw [el]; exact blk_ne q1 q2 hu h3 c)]
    exact a3 i q1 q2
theorem gs_progOk (h : zH) (place w ix g : Int) (k : Nat) (hk : k ≠ 19 ∧ k ≠ 20) : gs (m_progOk h place w ix g) k = gs h k := by
  simp only [m_progOk, gs_pa, gs_ps]
  simp [hk]
theorem ga_progOk (h : zH) (place w ix g : Int) (c : Nat) (i : Int) (hi : i ≠ place) : ga (m_progOk h place w ix g) c i = ga h c i := by
  simp only [m_progOk, ga_pa, ga_ps]
  simp [hi]
theorem ga_progOk_at (h : zH) (place w ix g : Int) : ga (m_progOk h place w ix g) 2 place = w ∧ ga (m_progOk h place w ix g) 3 place = ix ∧ ga (m_progOk h place w ix g) 4 place = g ∧ ga (m_progOk h place w ix g) 5 place = wr (gs h 19 + 1) ∧ ga (m_progOk h place w ix g) 6 place = wr (gs h 19 + 1) := by
  simp [m_progOk, ga_pa, ga_ps]
theorem MS_prog {h : zH} {u : Int → Int} (s : MS h u) (h1 : 0 ≤ gs h 32) (h3 : u (gs h 32) < gs h 2) {w ix g : Int} (hw : w ≠ 0) (hd : w = 1 → 0 ≤ ix ∧ ix < gs h 3) (hm : w = 3 → 0 ≤ ix ∧ 8 * ix < gs h 3) : MS (m_prog h (m_low h) w ix g) (uup u (gs h 32) (u (gs h 32) + 1)) := by
  have so := MS_oper s
  obtain ⟨l1, l2, l3, l4⟩ := low_in s h1 h3
  have e1 := gs_oper h 1 (by decide)
  have e2 := gs_oper h 2 (by decide)
  have e3 := gs_oper h 3 (by decide)
  have e32 := gs_oper h 32 (by decide)
  have el : m_low (m_oper h) = m_low h := by
    rw [low_at so (by rw [e32]; exact h1), low_at s h1, e2, e32]
  unfold m_prog
  rcases Classical.em (mOK h) with c | c
  · rw [ifp_t c]
    obtain ⟨t1, t2, t3, t4, t5⟩ := so
    have p1 := gs_progOk (m_oper h) (m_low h) w ix g 1 (by decide)
    have p2 := gs_progOk (m_oper h) (m_low h) w ix g 2 (by decide)
    have p3 := gs_progOk (m_oper h) (m_low h) w ix g 3 (by decide)
    have p25 := gs_progOk (m_oper h) (m_low h) w ix g 25 (by decide)
    have p32 := gs_progOk (m_oper h) (m_low h) w ix g 32 (by decide)
    have pk : ∀ c' i, i ≠ m_low h → ga (m_progOk (m_oper h) (m_low h) w ix g) c' i = ga (m_oper h) c' i := fun c' i q => ga_progOk _ _ _ _ _ c' i q
    obtain ⟨a2, a3, -⟩ := ga_progOk_at (m_oper h) (m_low h) w ix g
    refine ⟨MB_c t1 p1 p2 p3, ?_, by rw [p1, p32]; exact t3, by rw [p25]; exact t4, ?_⟩
    · intro i q1 q2
      rw [p1, p2] at q2
      rw [p3]
      by_cases q : i = m_low h
      · rw [q, a2, a3, e3]
        exact ⟨hd, hm⟩
      · rw [pk 2 i q, pk 3 i q]
        exact t2 i q1 q2
    · rw [← e32]
      exact SF_put ⟨t1, t2, t3, t4, t5⟩ (by rw [e32]; exact h1) (by rw [e32, e2]; exact h3) p1 p2 (fun i q => pk 2 i (by rw [← el]; exact q)) (by rw [el, a2]; exact hw)
  · rw [ifp_f c]
    apply MS_loses
    obtain ⟨t1, t2, t3, t4, t5⟩ := so
    refine ⟨t1, ?_, t3, t4, ?_⟩
    · refine MI_c t2 rfl rfl rfl (fun i z => ?_)
      simp only [ga_pa] at z ⊢
      by_cases q : i = m_low h
      · simp [q] at z
      · simp [q]
    · rw [← e32]
      refine SF_put ⟨t1, t2, t3, t4, t5⟩ (by rw [e32]; exact h1) (by rw [e32, e2]; exact h3) rfl rfl (fun i q => ?_) ?_
      · rw [ga_pa, if_neg (fun z => q (by rw [el]; exact z.2))]
      · rw [el, ga_pa, if_pos ⟨rfl, rfl⟩]
        decide
theorem gs_prog (h : zH) (place w ix g : Int) (k : Nat) (hk : k ≠ 19 ∧ k ≠ 20 ∧ k ≠ 24 ∧ k ≠ 25 ∧ k ≠ 26 ∧ k ≠ 32 ∧ k ≠ 33 ∧ k ≠ 34 ∧ k ≠ 35 ∧ k ≠ 36) : gs (m_prog h place w ix g) k = gs h k := by
  unfold m_prog
  rw [gs_if, gs_progOk _ _ _ _ _ _ ⟨hk.1, hk.2.1⟩, gs_loses _ _ (by omega), gs_pa, ifp_same, gs_oper _ _ (by omega)]
theorem gs_progT {h : zH} (c : mOK h) (place w ix g : Int) (k : Nat) (hk : k ≠ 19 ∧ k ≠ 20 ∧ k ≠ 25) : gs (m_prog h place w ix g) k = gs h k := by
  unfold m_prog
  rw [ifp_t c, gs_progOk _ _ _ _ _ _ ⟨hk.1, hk.2.1⟩, gs_oper _ _ (by omega)]
theorem ga_progT {h : zH} (c : mOK h) (place w ix g : Int) (k : Nat) (i : Int) (hi : i ≠ place) : ga (m_prog h place w ix g) k i = ga h k i := by
  unfold m_prog
  rw [ifp_t c, ga_progOk _ _ _ _ _ _ _ hi, ga_oper]

