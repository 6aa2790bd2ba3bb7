/-! the two texts agree: the bytes, the blanks, the runs -/
def BE (m h : zH) (e : Int) : Prop := gs m 43 = e ∧ (0 ≤ e ∧ e ≤ 600) ∧ ∀ k, 0 ≤ k → k < e → ga h 7 k = ga m 16 k ∧ 0 ≤ ga m 16 k
theorem BE_by {m h : zH} {e k : Int} (be : BE m h e) (k0 : 0 ≤ k) (k1 : k < e) : mBy m k = ga h 7 k := by
  unfold mBy
  rw [if_pos (by rw [be.1]; exact k1)]
  exact (be.2.2 k k0 k1).1.symm
theorem BE_end {m h : zH} {e k : Int} (be : BE m h e) (k1 : e ≤ k) : mBy m k = -1 := by
  unfold mBy
  rw [if_neg (by rw [be.1]; omega)]
theorem stp_adv {h : zH} {e p : Int} (pe : p < e) (j : Int) : p + 1 ≤ (x_stp h e p j).2.1 ∧ (x_stp h e p j).2.1 ≤ e := by
  unfold x_stp
  rcases Classical.em (isL (ga h 7 p) ∨ isD (ga h 7 p)) with c | c
  · rw [ifp_t c]
    have z := xZe_r pe c
    exact ⟨z.1, z.2.1⟩
  · rw [ifp_f c]
    rcases Classical.em (ga h 7 p = 59) with d | d
    · rw [ifp_t d]; exact ⟨Int.le_refl _, pe⟩
    · rw [ifp_f d]
      rcases Classical.em (ga h 7 p = 32 ∨ ga h 7 p = 10) with f | f
      · rw [ifp_t f]; exact ⟨Int.le_refl _, pe⟩
      · rw [ifp_f f]; exact ⟨Int.le_refl _, pe⟩
theorem parL_fuel (e : Int) : ∀ (n1 n2 : Nat) (h : zH) (p j : Int), e - p < n1 → e - p < n2 → x_parL e n1 h p j = x_parL e n2 h p j
  | 0, 0, _, _, _, _, _ => rfl
  | 0, n2 + 1, h, p, j, h1, _ => by rw [x_parL, x_parL, ifp_f (fun z => by have := z.1; omega)]
  | n1 + 1, 0, h, p, j, _, h2 => by rw [x_parL, x_parL, ifp_f (fun z => by have := z.1; omega)]
  | n1 + 1, n2 + 1, h, p, j, h1, h2 => by
    rw [x_parL, x_parL]
    rcases Classical.em (p < e ∧ gs h 23 = 0) with c | c
    · rw [ifp_t c, ifp_t c]
      have a := stp_adv (h := h) c.1 j
      exact parL_fuel e n1 n2 _ _ _ (by omega) (by omega)
    · rw [ifp_f c, ifp_f c]
noncomputable def xF (e : Int) (h : zH) (p j : Int) : zH := x_par9 (x_parL e 601 h p j) e
theorem xF_step {e : Int} {h : zH} {p : Int} (j : Int) (p0 : 0 ≤ p) (pe : p < e) (e6 : e ≤ 600) (er : gs h 23 = 0) : xF e h p j = xF e (x_stp h e p j).1 (x_stp h e p j).2.1 (x_stp h e p j).2.2 := by
  have a := stp_adv (h := h) pe j
  unfold xF
  rw [show x_parL e 601 h p j = x_parL e (600 + 1) h p j from rfl, x_parL, ifp_t ⟨pe, er⟩, parL_fuel e 600 601 _ _ _ (by omega) (by omega)]
theorem xF_stop {e : Int} {h : zH} {p : Int} (j : Int) (c : ¬ (p < e ∧ gs h 23 = 0)) : xF e h p j = x_par9 h e := by
  unfold xF
  rw [show x_parL e 601 h p j = x_parL e (600 + 1) h p j from rfl, x_parL, ifp_f c]
theorem serr_23 {h : zH} {c q : Int} (hc : c ≠ 0) : gs (x_serr h c q) 23 = c ∧ gs (x_serr h c q) 24 = q := by
  unfold x_serr
  rw [ifp_f hc]
  exact ⟨rfl, rfl⟩
theorem serr_0 (h : zH) (q : Int) : x_serr h 0 q = h := ifp_t rfl
theorem xF_err {e : Int} {h : zH} {c q p j : Int} (hc : c ≠ 0) : gs (xF e (x_serr h c q) p j) 23 = c ∧ gs (xF e (x_serr h c q) p j) 24 = q := by
  have s := serr_23 (h := h) (q := q) hc
  rw [xF_stop j (fun z => by have := z.2; omega)]
  unfold x_par9
  rw [ifp_f (fun z => by have := z.1; omega)]
  exact s
theorem mSk_e (m : zH) : ∀ (n : Nat) (p : Int), p ≤ gs m 43 → gs m 43 - p < n → ¬ (mBy m (mSk m n p) = 32 ∨ mBy m (mSk m n p) = 10)
  | 0, p, h1, h2 => by omega
  | n + 1, p, h1, h2 => by
    rw [mSk]
    rcases Classical.em (mBy m p = 32 ∨ mBy m p = 10) with c | c
    · rw [ifp_t c]
      have i := mBy_in (h := m) (k := p) (by omega)
      exact mSk_e m n (p + 1) (by omega) (by omega)
    · rw [ifp_f c]; exact c
theorem xF_sk {m h : zH} {e : Int} (be : BE m h e) (er : gs h 23 = 0) (j : Int) : ∀ (n : Nat) (p : Int), 0 ≤ p → p ≤ e → xF e h p j = xF e h (mSk m n p) j
  | 0, p, _, _ => rfl
  | n + 1, p, p0, pe => by
    rw [mSk]
    rcases Classical.em (mBy m p = 32 ∨ mBy m p = 10) with c | c
    · rw [ifp_t c]
      have i := mBy_in (h := m) (k := p) (by omega)
      have pe2 : p < e := by rw [← be.1]; exact i
      have b := BE_by be p0 pe2
      rw [← xF_sk be er j n (p + 1) (by omega) (by omega), xF_step j p0 pe2 be.2.1.2 er]
      have es : x_stp h e p j = (h, p + 1, j) := by
        unfold x_stp
        rw [ifp_f (fun z => by unfold isL isD at z; omega), ifp_f (by omega), ifp_t (by omega)]
      rw [es]
    · rw [ifp_f c]
theorem tok_x {m h : zH} {e : Int} (be : BE m h e) (mt : MT m) (er : gs h 23 = 0) (j : Int) : xF e h (gs m 42) j = xF e h (mTok m) j := xF_sk be er j 601 _ mt.2.1 (by rw [← be.1]; exact mt.2.2)
theorem tok_b {m h : zH} {e : Int} (be : BE m h e) (mt : MT m) : ¬ (mBy m (mTok m) = 32 ∨ mBy m (mTok m) = 10) := mSk_e m 601 _ mt.2.2 (by have := mt.2.1; have := mt.1.2; omega)
theorem xRE_m {m h : zH} {e : Int} (be : BE m h e) {p1 p2 : Int → Prop} (hp : ∀ c, p1 c ↔ p2 c) (hn : ¬ p2 (-1)) : ∀ (n : Nat) (k : Int), 0 ≤ k → xRE p1 h e n k = mRE p2 m n k
  | 0, _, _ => rfl
  | n + 1, k, k0 => by
    rw [xRE, mRE]
    rcases Classical.em (p2 (mBy m k)) with c | c
    · have i : k < e := by
        rcases (show k < e ∨ e ≤ k by omega) with q | q
        · exact q
        · rw [BE_end be q] at c
          exact absurd c hn
      rw [ifp_t c, ifp_t ⟨i, (hp _).mpr (by rw [← BE_by be k0 i]; exact c)⟩]
      exact xRE_m be hp hn n (k + 1) (by omega)
    · rw [ifp_f c, ifp_f (fun z => c (by rw [BE_by be k0 z.1]; exact (hp _).mp z.2))]
theorem xSg_1 {h : zH} {p : Int} (c : isL (ga h 7 p)) : xSg h p = 1 := b2i_t c
theorem xSg_0 {h : zH} {p : Int} (c : ¬ isL (ga h 7 p)) : xSg h p = 0 := b2i_f c
theorem ze_L {m h : zH} {e : Int} (be : BE m h e) {p : Int} (p0 : 0 ≤ p) (c : isL (ga h 7 p)) : xZe h e p = mRE isL m 601 p := by
  unfold xZe
  rw [xSg_1 c]
  exact xRE_m be (fun d => ⟨fun z => by rcases z with z | z; exact z.2; exact absurd z.1 (by decide), fun z => Or.inl ⟨by decide, z⟩⟩) noL 601 p p0
theorem ze_D {m h : zH} {e : Int} (be : BE m h e) {p : Int} (p0 : 0 ≤ p) (c : ¬ isL (ga h 7 p)) : xZe h e p = mRE isD m 601 p := by
  unfold xZe
  rw [xSg_0 c]
  exact xRE_m be (fun d => ⟨fun z => by rcases z with z | z; exact absurd rfl z.1; exact z.2, fun z => Or.inr ⟨rfl, z⟩⟩) noD 601 p p0
/-! words: the hash of the reference is the word of the class -/
theorem hash_next {m : zH} {t : Int} {n : Nat} (hn : n < 7) : mHash m t (n + 1) = 32 * mHash m t n + mBy m (t + n) - 96 := by
  rw [mHash, ifp_t hn]
theorem hash_far (m : zH) (t : Int) : ∀ n : Nat, 7 < n → mHash m t n = 0
  | 0, h => by omega
  | n + 1, h => by rw [mHash, ifp_f (by omega)]
/-- the hash of a run of letters, any number of them -/
def gH (c : Nat → Int) : Nat → Int
  | 0 => 0
  | n + 1 => 32 * gH c n + c n - 96
theorem gH_pos (c : Nat → Int) : ∀ n : Nat, (∀ k, k < n → 97 ≤ c k ∧ c k ≤ 122) → 0 ≤ gH c n ∧ (0 < n → 0 < gH c n)
  | 0, _ => ⟨Int.le_refl _, fun z => absurd z (by decide)⟩
  | n + 1, h => by
    have q := gH_pos c n (fun k hk => h k (by omega))
    have b := h n (by omega)
    rw [gH]
    constructor
    · omega
    · intro _; omega
theorem gH_inj (c d : Nat → Int) : ∀ n k : Nat, (∀ j, j < n → 97 ≤ c j ∧ c j ≤ 122) → (∀ j, j < k → 97 ≤ d j ∧ d j ≤ 122) → gH c n = gH d k → n = k ∧ ∀ j, j < n → c j = d j
  | 0, 0, _, _, _ => ⟨rfl, fun j hj => absurd hj (by omega)⟩
  | 0, k + 1, _, h2, e => by
    have q := (gH_pos d (k + 1) h2).2 (by omega)
    rw [← e] at q
    exact absurd q (Int.lt_irrefl 0)
  | n + 1, 0, h1, _, e => by
    have q := (gH_pos c (n + 1) h1).2 (by omega)
    rw [e] at q
    exact absurd q (Int.lt_irrefl 0)
  | n + 1, k + 1, h1, h2, e => by
    have b1 := h1 n (by omega)
    have b2 := h2 k (by omega)
    rw [gH, gH] at e
    obtain ⟨q1, q2⟩ := gH_inj c d n k (fun j hj => h1 j (by omega)) (fun j hj => h2 j (by omega)) (by omega)
    refine ⟨by omega, fun j hj => ?_⟩
    by_cases z : j = n
    · rw [z, show d n = d k by rw [q1]]
      omega
    · exact q2 j (by omega)
theorem hash_gH (m : zH) (t : Int) : ∀ n : Nat, n ≤ 7 → mHash m t n = gH (fun k => mBy m (t + k)) n
  | 0, _ => rfl
  | n + 1, h => by rw [hash_next (by omega), gH, hash_gH m t n (by omega)]
def sW : Nat → Int
  | 0 => 80186739
  | 1 => 16817331
  | 2 => 13395856428
  | 3 => 5969497
  | _ => 206220
theorem sW_gH : ∀ i, i < 5 → gH (sC i) (sL i).toNat = sW i ∧ sW i ≠ 0 ∧ sL i ≤ 7 := by decide +kernel
theorem sC_let : ∀ i, i < 5 → ∀ k, k < (sL i).toNat → 97 ≤ sC i k ∧ sC i k ≤ 122 := by decide +kernel
theorem hash_inj {m : zH} {t : Int} (i : Nat) (hi : i < 5) (n : Nat) (hl : ∀ k : Nat, k < n → isL (mBy m (t + k))) : mHash m t n = sW i ↔ ((n : Int) = sL i ∧ ∀ k : Nat, k < n → mBy m (t + k) = sC i k) := by
  obtain ⟨w1, w2, w3⟩ := sW_gH i hi
  have l0 := (sL_r i (by omega)).1
  rcases Nat.lt_or_ge 7 n with far | near
  · rw [hash_far m t n far]
    exact ⟨fun z => absurd z.symm w2, fun z => by omega⟩
  · rw [hash_gH m t n near, ← w1]
    constructor
    · intro z
      obtain ⟨q1, q2⟩ := gH_inj _ _ n (sL i).toNat (fun j hj => hl j hj) (sC_let i hi) z
      exact ⟨by omega, q2⟩
    · rintro ⟨q1, q2⟩
      have q3 : n = (sL i).toNat := by omega
      rw [← q3]
      clear hl w1 q3 q1 near
      induction n with
      | zero => rfl
      | succ n ih => rw [gH, gH, ih (fun k hk => q2 k (by omega)), q2 n (by omega)]
/-- a run of letters is the word that is due if and only if its hash is the word's -/
theorem due_hash {m h : zH} {e t z : Int} (be : BE m h e) (t0 : 0 ≤ t) (tz : t ≤ z) (ze : z ≤ e) (hl : ∀ k, t ≤ k → k < z → isL (mBy m k)) {i : Nat} (hi : i < 5) (hs : sIx (gs h 30) = i) : mHash m t (z - t).toNat = sW i ↔ xDue h t z := by
  have l0 := sL_r i (by omega)
  rw [hash_inj i hi (z - t).toNat (fun k hk => hl _ (by omega) (by omega))]
  unfold xDue
  rw [hs]
  constructor
  · rintro ⟨q1, q2⟩
    refine ⟨by omega, fun j j0 j1 => ?_⟩
    have q := q2 j.toNat (by omega)
    have ej : t + (j.toNat : Int) = t + j := by omega
    rw [ej, BE_by be (by omega) (by omega)] at q
    exact q
  · rintro ⟨q1, q2⟩
    refine ⟨by omega, fun k hk => ?_⟩
    have q := q2 (k : Int) (by omega) (by omega)
    rw [BE_by be (by omega) (by omega), q]
    rfl
/-! the two texts agree: a word, a number -/
def Fin2 (x : zH) (c q : Int) : Prop := gs x 23 = c ∧ gs x 24 = q
/-- a result that is an error, the same on both sides -/
def Bad (r : zH × Int) (X : zH) : Prop := r.2 = 0 ∧ gs X 23 = gs r.1 47 ∧ gs X 24 = gs r.1 48 ∧ gs r.1 47 ≠ 0
/-- both read on at the same place, the class at step s -/
def Rp (m h : zH) (e j s : Int) : Prop := BE m h e ∧ MT m ∧ (gs h 23 = 0 ∧ gs h 24 = -1 ∧ gs m 47 = 0 ∧ gs m 48 = -1) ∧ gs h 30 = s ∧ j ≤ gs m 42 ∧ ∀ q, gs m 42 ≤ q → (q = gs m 44 ↔ q = j)
theorem BE_c {m m2 h h2 : zH} {e : Int} (be : BE m h e) (e43 : gs m2 43 = gs m 43) (a16 : ∀ i, ga m2 16 i = ga m 16 i) (a7 : ∀ i, ga h2 7 i = ga h 7 i) : BE m2 h2 e := ⟨e43.trans be.1, be.2.1, fun k k0 k1 => by rw [a7, a16]; exact be.2.2 k k0 k1⟩
theorem TF_43 {m m2 : zH} (f : TF m m2) : gs m2 43 = gs m 43 := f.1 43 (by decide) (by decide) (by decide) (by decide) (by decide) (by decide) (by decide)
/-- no word, no number, nothing that fits: a sign that is no blank at a step that wants a word or a number -/
theorem stp_L {h : zH} {e t j : Int} (c : isL (ga h 7 t)) : x_stp h e t j = (x_serr (x_run h e t j).1 (x_run h e t j).2 t, xZe h e t, xZe h e t) := ifp_t (Or.inl c)
theorem stp_D {h : zH} {e t j : Int} (c : isD (ga h 7 t)) : x_stp h e t j = (x_serr (x_run h e t j).1 (x_run h e t j).2 t, xZe h e t, xZe h e t) := ifp_t (Or.inr c)
theorem stp_S {h : zH} {e t j : Int} (c : ga h 7 t = 59) : x_stp h e t j = (x_serr (x_semi h).1 (x_semi h).2 t, t + 1, j) := by
  unfold x_stp
  rw [ifp_f (fun z => by unfold isL isD at z; omega), ifp_t c]
theorem stp_O {h : zH} {e t j : Int} (c1 : ¬ isL (ga h 7 t)) (c2 : ¬ isD (ga h 7 t)) (c3 : ga h 7 t ≠ 59) (c4 : ¬ (ga h 7 t = 32 ∨ ga h 7 t = 10)) : x_stp h e t j = (x_serr h 1 t, t + 1, j) := by
  unfold x_stp
  rw [ifp_f (fun z => by rcases z with z | z; exact c1 z; exact c2 z), ifp_f c3, ifp_f c4]
theorem run_j {h : zH} {e t j : Int} (c : t = j) : x_run h e t j = (h, 1) := ifp_t c
theorem run_L {h : zH} {e t j : Int} (c : t ≠ j) (l : isL (ga h 7 t)) : x_run h e t j = x_tword h t (xZe h e t) := by
  unfold x_run x_trun
  rw [ifp_f c, xSg_1 l, ifp_f (by decide)]
theorem run_D {h : zH} {e t j : Int} (c : t ≠ j) (l : ¬ isL (ga h 7 t)) : x_run h e t j = x_tnum h t (xZe h e t) := by
  unfold x_run x_trun
  rw [ifp_f c, xSg_0 l, ifp_t rfl]
theorem noLD {c : Int} (d : isD c) : ¬ isL c := fun z => by unfold isL isD at *; omega
/-- at the end of the text -/
theorem xF_end {h : zH} {e j : Int} (er : gs h 23 = 0) (s9 : gs h 30 ≠ 9) : Fin2 (xF e h e j) 1 e := by
  rw [xF_stop j (fun z => absurd z.1 (Int.lt_irrefl _))]
  unfold x_par9
  rw [ifp_t ⟨er, s9⟩]
  exact serr_23 (by decide)
/-- a sign that isn't a letter where a word is due, or not a digit where a number is due: an error there -/
theorem xF_bad {m h : zH} {e j s : Int} (r : Rp m h e j s) (k : mTok m = e ∧ s ≠ 9 ∨ mTok m < e ∧ ((isL (ga h 7 (mTok m)) ∧ (mTok m = j ∨ s ≠ 0 ∧ s ≠ 2 ∧ s ≠ 4 ∧ s ≠ 6 ∧ s ≠ 9)) ∨ isD (ga h 7 (mTok m)) ∧ (mTok m = j ∨ s ≠ 1 ∧ s ≠ 3 ∧ s ≠ 5 ∧ s ≠ 7 ∧ s ≠ 10 ∧ s ≠ 11) ∨ ¬ isL (ga h 7 (mTok m)) ∧ ¬ isD (ga h 7 (mTok m)) ∧ (ga h 7 (mTok m) ≠ 59 ∨ s ≠ 8 ∧ s ≠ 11))) : Fin2 (xF e h (gs m 42) j) 1 (mTok m) := by
  obtain ⟨be, mt, ⟨er, e24, m47, m48⟩, es, jle, jj⟩ := r
  have tr := mTok_r mt
  have m0 := mt.2.1
  have b := tok_b be mt
  rw [tok_x be mt er j]
  rcases k with ⟨k1, k2⟩ | ⟨k1, k⟩
  · rw [k1]
    exact xF_end er (by rw [es]; exact k2)
  · have by1 := BE_by be (k := mTok m) (by omega) k1
    rw [by1] at b
    rw [xF_step j (by omega) k1 be.2.1.2 er]
    rcases k with ⟨l, k⟩ | ⟨d, k⟩ | ⟨l, d, k⟩
    · rw [stp_L l]
      have e1 : x_run h e (mTok m) j = (h, 1) := by
        by_cases tj : mTok m = j
        · exact run_j tj
        · rw [run_L tj l]
          unfold x_tword
          refine ifp_f (fun z => ?_)
          have zz := xZe_r k1 (Or.inl l)
          have z1 := z.1
          have ix : sIx (gs h 30) = 5 := by
            unfold sIx
            rw [es, if_neg (by omega), if_neg (by omega), if_neg (by omega), if_neg (by omega), if_neg (by omega)]
          rw [ix, show sL 5 = 0 by decide] at z1
          omega
      rw [e1]
      exact xF_err (show (1 : Int) ≠ 0 by decide)
    · rw [stp_D d]
      have e1 : x_run h e (mTok m) j = (h, 1) := by
        by_cases tj : mTok m = j
        · exact run_j tj
        · rw [run_D tj (noLD d)]
          unfold x_tnum
          rcases Classical.em (6 < xZe h e (mTok m) - mTok m) with c | c
          · rw [ifp_t c]
          · rw [ifp_f c]
            exact tn_o _ (by rw [es]; omega)
      rw [e1]
      exact xF_err (show (1 : Int) ≠ 0 by decide)
    · by_cases c : ga h 7 (mTok m) = 59
      · rw [stp_S c]
        have e1 : x_semi h = (h, 1) := ifp_f (by rw [es]; omega)
        rw [e1]
        exact xF_err (show (1 : Int) ≠ 0 by decide)
      · rw [stp_O l d c b]
        exact xF_err (show (1 : Int) ≠ 0 by decide)
/-- a word -/
theorem XW {m h : zH} {e j s : Int} {i : Nat} (r : Rp m h e j s) (hi : i < 5) (hs : sIx s = i) (h5 : s = 0 ∨ s = 2 ∨ s = 4 ∨ s = 6 ∨ s = 9) (ne : s = 9 → mTok m < e) :
    Bad (m_word m (sW i)) (xF e h (gs m 42) j) ∨ ((m_word m (sW i)).2 = 1 ∧ Rp (m_word m (sW i)).1 (ps h 30 (s + 1)) e (gs (m_word m (sW i)).1 42) (s + 1) ∧ xF e h (gs m 42) j = xF e (ps h 30 (s + 1)) (gs (m_word m (sW i)).1 42) (gs (m_word m (sW i)).1 42)) := by
  have r0 := r
  obtain ⟨be, mt, ⟨er, e24, m47, m48⟩, es, jle, jj⟩ := r
  have tr := mTok_r mt
  have m0 := mt.2.1
  have b := tok_b be mt
  have te : mTok m ≤ e := by rw [← be.1]; exact tr.2
  have wr0 := word_r mt (sW i)
  have badF (z : Fin2 (xF e h (gs m 42) j) 1 (mTok m)) (w : m_word m (sW i) = (m_fails (m_peek m) 1 (mTok m), 0) ∨ m_word m (sW i) = (m_fails (ps (m_peek m) 1049 (m_wh m)) 1 (mTok m), 0)) : Bad (m_word m (sW i)) (xF e h (gs m 42) j) := by
    rcases w with w | w
    · rw [w]; exact ⟨rfl, z.1, z.2, by show (1 : Int) ≠ 0; decide⟩
    · rw [w]; exact ⟨rfl, z.1, z.2, by show (1 : Int) ≠ 0; decide⟩
  rcases Classical.em (¬ isL (mBy m (mTok m)) ∨ mTok m = gs m 44) with c | c
  · left
    refine badF (xF_bad r0 ?_) (Or.inl (ifp_t c))
    by_cases q : mTok m = e
    · exact Or.inl ⟨q, fun z => by have := ne z; omega⟩
    · right
      have k1 : mTok m < e := by omega
      have by1 := BE_by be (k := mTok m) (by omega) k1
      refine ⟨k1, ?_⟩
      rw [by1] at c
      by_cases l : isL (ga h 7 (mTok m))
      · rcases c with c | c
        · exact absurd l c
        · exact Or.inl ⟨l, Or.inl ((jj _ tr.1).mp c)⟩
      · by_cases d : isD (ga h 7 (mTok m))
        · exact Or.inr (Or.inl ⟨d, Or.inr (by omega)⟩)
        · exact Or.inr (Or.inr ⟨l, d, Or.inr (by omega)⟩)
  · have l : isL (mBy m (mTok m)) := Classical.byContradiction fun z => c (Or.inl z)
    have tj : mTok m ≠ j := fun z => c (Or.inr ((jj _ tr.1).mpr z))
    have k1 : mTok m < e := by
      rcases (show mTok m < e ∨ e ≤ mTok m by omega) with q | q
      · exact q
      · rw [BE_end be q] at l; exact absurd l noL
    have by1 := BE_by be (k := mTok m) (by omega) k1
    have lx : isL (ga h 7 (mTok m)) := by rw [← by1]; exact l
    have zz := xZe_r k1 (Or.inl lx)
    have ez : xZe h e (mTok m) = m_wend m := ze_L be (by omega) lx
    rw [ez] at zz
    have hl : ∀ k, mTok m ≤ k → k < m_wend m → isL (mBy m k) := (mRE_r noL m 601 (mTok m) tr.2).2.2
    have dh := due_hash be (by omega) (by omega) zz.2.1 hl hi (by rw [es]; exact hs)
    have ew : mHash m (mTok m) (m_wend m - mTok m).toNat = m_wh m := rfl
    rw [ew] at dh
    have st : xF e h (gs m 42) j = xF e (x_serr (x_tword h (mTok m) (m_wend m)).1 (x_tword h (mTok m) (m_wend m)).2 (mTok m)) (m_wend m) (m_wend m) := by
      rw [tok_x be mt er j, xF_step j (by omega) k1 be.2.1.2 er, stp_L lx, run_L tj lx, ez]
    rcases Classical.em (m_wh m = sW i) with d | d
    · right
      have wm : m_word m (sW i) = (ps (ps (ps (m_peek m) 1049 (m_wh m)) 42 (m_wend m)) 44 (m_wend m), 1) := by
        unfold m_word
        rw [ifp_f c, ifp_f (fun z => z d)]
      have e42 : gs (m_word m (sW i)).1 42 = m_wend m := by rw [wm]; rfl
      have xt : x_tword h (mTok m) (m_wend m) = (ps h 30 (s + 1), 0) := by
        unfold x_tword
        rw [ifp_t (dh.mp d), es]
      refine ⟨by rw [wm], ⟨BE_c be (TF_43 wr0.1) (fun k => wr0.1.2 16 k) (fun k => rfl), wr0.2.1, ⟨er, e24, by rw [wm]; exact m47, by rw [wm]; exact m48⟩, rfl, Int.le_refl _, fun q hq => ?_⟩, ?_⟩
      · rw [show gs (m_word m (sW i)).1 44 = gs (m_word m (sW i)).1 42 by rw [wm]; rfl]
      · rw [st, xt, e42, serr_0]
    · left
      refine badF ?_ (Or.inr (by unfold m_word; rw [ifp_f c, ifp_t d]))
      have xt : x_tword h (mTok m) (m_wend m) = (h, 1) := ifp_f (fun z => d (dh.mpr z))
      rw [st, xt]
      exact xF_err (show (1 : Int) ≠ 0 by decide)
theorem num_eq {m h : zH} {e t : Int} (be : BE m h e) (t0 : 0 ≤ t) : ∀ n : Nat, n ≤ 6 → t + n ≤ e → mNum m t n = xNum h t n
  | 0, _, _ => rfl
  | n + 1, h1, h2 => by
    rw [mNum, ifp_t (by omega), xNum, num_eq be t0 n (by omega) (by omega), BE_by be (by omega) (by omega)]
    omega
/-- a number: an error at its place, or both have read it -/
theorem XN {m h : zH} {e j s : Int} (r : Rp m h e j s) (hs : s = 1 ∨ s = 3 ∨ s = 5 ∨ s = 7 ∨ s = 10 ∨ s = 11 ∧ isD (mBy m (mTok m))) (lo hi : Int) :
    Bad (m_number m lo hi) (xF e h (gs m 42) j) ∨ (m_number m lo hi = ifp (¬ (lo ≤ m_nv m ∧ m_nv m ≤ hi)) (m_fails (ps (m_peek m) 46 (m_nv m)) 2 (mTok m), 0) (ps (ps (ps (m_peek m) 46 (m_nv m)) 42 (m_nend m)) 44 (m_nend m), 1) ∧ (0 ≤ m_nv m ∧ m_nv m < 1000000) ∧ xF e h (gs m 42) j = xF e (x_serr (x_tn2 h (m_nv m)).1 (x_tn2 h (m_nv m)).2 (mTok m)) (m_nend m) (m_nend m)) := by
  have r0 := r
  obtain ⟨be, mt, ⟨er, e24, m47, m48⟩, es, jle, jj⟩ := r
  have tr := mTok_r mt
  have m0 := mt.2.1
  have nv := nv_r mt
  have te : mTok m ≤ e := by rw [← be.1]; exact tr.2
  have badF (z : Fin2 (xF e h (gs m 42) j) 1 (mTok m)) (w : m_number m lo hi = (m_fails (m_peek m) 1 (mTok m), 0) ∨ m_number m lo hi = (m_fails (ps (m_peek m) 46 (m_nv m)) 1 (mTok m), 0)) : Bad (m_number m lo hi) (xF e h (gs m 42) j) := by
    rcases w with w | w
    · rw [w]; exact ⟨rfl, z.1, z.2, by show (1 : Int) ≠ 0; decide⟩
    · rw [w]; exact ⟨rfl, z.1, z.2, by show (1 : Int) ≠ 0; decide⟩
  rcases Classical.em (¬ isD (mBy m (mTok m)) ∨ mTok m = gs m 44) with c | c
  · left
    refine badF (xF_bad r0 ?_) (Or.inl (ifp_t c))
    by_cases q : mTok m = e
    · refine Or.inl ⟨q, fun z => ?_⟩
      omega
    · right
      have k1 : mTok m < e := by omega
      have by1 := BE_by be (k := mTok m) (by omega) k1
      refine ⟨k1, ?_⟩
      rw [by1] at c
      by_cases l : isL (ga h 7 (mTok m))
      · exact Or.inl ⟨l, Or.inr (by omega)⟩
      · by_cases d : isD (ga h 7 (mTok m))
        · rcases c with c | c
          · exact absurd d c
          · exact Or.inr (Or.inl ⟨d, Or.inl ((jj _ tr.1).mp c)⟩)
        · refine Or.inr (Or.inr ⟨l, d, Or.inr ?_⟩)
          rcases hs with z | z | z | z | z | z
          · omega
          · omega
          · omega
          · omega
          · omega
          · have z2 := z.2
            rw [by1] at z2
            exact absurd z2 d
  · have d : isD (mBy m (mTok m)) := Classical.byContradiction fun z => c (Or.inl z)
    have tj : mTok m ≠ j := fun z => c (Or.inr ((jj _ tr.1).mpr z))
    have k1 : mTok m < e := by
      rcases (show mTok m < e ∨ e ≤ mTok m by omega) with q | q
      · exact q
      · rw [BE_end be q] at d; exact absurd d noD
    have by1 := BE_by be (k := mTok m) (by omega) k1
    have dx : isD (ga h 7 (mTok m)) := by rw [← by1]; exact d
    have ez : xZe h e (mTok m) = m_nend m := ze_D be (by omega) (noLD dx)
    have zz := xZe_r k1 (Or.inr dx)
    rw [ez] at zz
    have st : xF e h (gs m 42) j = xF e (x_serr (x_tnum h (mTok m) (m_nend m)).1 (x_tnum h (mTok m) (m_nend m)).2 (mTok m)) (m_nend m) (m_nend m) := by
      rw [tok_x be mt er j, xF_step j (by omega) k1 be.2.1.2 er, stp_D dx, run_D tj (noLD dx), ez]
    rcases Classical.em (6 < m_nend m - mTok m) with f | f
    · left
      refine badF ?_ (Or.inr (by unfold m_number; rw [ifp_f c, ifp_t f]))
      have xt : x_tnum h (mTok m) (m_nend m) = (h, 1) := ifp_t f
      rw [st, xt]
      exact xF_err (show (1 : Int) ≠ 0 by decide)
    · right
      refine ⟨by unfold m_number; rw [ifp_f c, ifp_f f], ⟨nv.2.2.1, nv.2.2.2.1⟩, ?_⟩
      have ne : xNum h (mTok m) (m_nend m - mTok m).toNat = m_nv m := (num_eq be (by omega) _ (by omega) (by omega)).symm
      have xt : x_tnum h (mTok m) (m_nend m) = x_tn2 h (m_nv m) := by
        unfold x_tnum
        rw [ifp_f f, ne]
      rw [st, xt]
/-! the two texts agree: settings, the head, the fills, the whole -/
theorem Bad_1 {r r2 : zH × Int} {X : zH} (b : Bad r X) (e1 : r2.1 = r.1) (e2 : r2.2 = 0) : Bad r2 X := by
  obtain ⟨b1, b2, b3, b4⟩ := b
  unfold Bad
  rw [e1]
  exact ⟨e2, b2, b3, b4⟩
theorem son_t {H : zH} {p : Prop} (c : p) : x_son H (b2i p) = (ps H 30 (gs H 30 + 1), 0) := by
  unfold x_son
  rw [b2i_t c, ifp_f (by decide)]
theorem son_f {H : zH} {p : Prop} (c : ¬ p) : x_son H (b2i p) = (H, 2) := by
  unfold x_son
  rw [b2i_f c, ifp_t rfl]
theorem XSet {m h : zH} {e j s : Int} {i : Nat} {lo hi : Int} (r : Rp m h e j s) (hi5 : i < 5) (hs : sIx s = i) (h5 : s = 0 ∨ s = 2 ∨ s = 4 ∨ s = 6) (rng : ∀ v, 0 ≤ v → ¬ (lo ≤ v ∧ v ≤ hi) → (x_tn2 (ps h 30 (s + 1)) v).2 = 2) :
    Bad (m_setting m (sW i) lo hi) (xF e h (gs m 42) j) ∨ ((m_setting m (sW i) lo hi).2 = 1 ∧ BE (m_setting m (sW i) lo hi).1 h e ∧ MT (m_setting m (sW i) lo hi).1 ∧ (gs (m_setting m (sW i) lo hi).1 47 = 0 ∧ gs (m_setting m (sW i) lo hi).1 48 = -1) ∧ gs (m_setting m (sW i) lo hi).1 44 = gs (m_setting m (sW i) lo hi).1 42 ∧ (lo ≤ gs (m_setting m (sW i) lo hi).1 46 ∧ gs (m_setting m (sW i) lo hi).1 46 ≤ hi) ∧ xF e h (gs m 42) j = xF e (x_serr (x_tn2 (ps h 30 (s + 1)) (gs (m_setting m (sW i) lo hi).1 46)).1 (x_tn2 (ps h 30 (s + 1)) (gs (m_setting m (sW i) lo hi).1 46)).2 (gs (m_setting m (sW i) lo hi).1 45)) (gs (m_setting m (sW i) lo hi).1 42) (gs (m_setting m (sW i) lo hi).1 42)) := by
  have st := setting_r r.2.1 (sW i) lo hi
  rcases XW r hi5 hs (by omega) (fun z => by omega) with b | ⟨w1, w2, w3⟩
  · left
    refine Bad_1 b ?_ ?_
    · unfold m_setting
      rw [ifp_f (by rw [b.1]; decide)]
    · unfold m_setting
      rw [ifp_f (by rw [b.1]; decide)]
  · have es : m_setting m (sW i) lo hi = m_number (m_word m (sW i)).1 lo hi := by
      unfold m_setting
      rw [ifp_t w1]
    rw [es] at st ⊢
    rw [w3]
    generalize (m_word m (sW i)).1 = m1 at st w2 ⊢
    rcases XN w2 (by omega) lo hi with b | ⟨n1, n2, n3⟩
    · exact Or.inl b
    · rcases Classical.em (lo ≤ m_nv m1 ∧ m_nv m1 ≤ hi) with c | c
      · right
        rw [ifp_f (fun z => z c)] at n1
        have e46 : gs (m_number m1 lo hi).1 46 = m_nv m1 := by rw [n1]; rfl
        have e45 : gs (m_number m1 lo hi).1 45 = mTok m1 := by rw [n1]; rfl
        have e42 : gs (m_number m1 lo hi).1 42 = m_nend m1 := by rw [n1]; rfl
        refine ⟨by rw [n1], ?_, st.2.1, ⟨?_, ?_⟩, by rw [n1]; rfl, by rw [e46]; exact c, ?_⟩
        · exact BE_c w2.1 (by rw [n1]; rfl) (fun k => by rw [n1]; rfl) (fun k => rfl)
        · rw [n1]; exact w2.2.2.1.2.2.1
        · rw [n1]; exact w2.2.2.1.2.2.2
        · rw [e46, e45, e42]; exact n3
      · left
        rw [ifp_t c] at n1
        rw [n3, rng _ n2.1 c]
        have f := xF_err (e := e) (h := (x_tn2 (ps h 30 (s + 1)) (m_nv m1)).1) (c := 2) (q := mTok m1) (p := m_nend m1) (j := m_nend m1) (by decide)
        rw [n1]
        exact ⟨rfl, f.1, f.2, by show (2 : Int) ≠ 0; decide⟩
/-- an error, or both read on, and P holds -/
def Go (r : zH × Int) (X : zH) (e s : Int) (P : zH → zH → Prop) : Prop := Bad r X ∨ (r.2 = 1 ∧ ∃ (h2 : zH) (j2 : Int), Rp r.1 h2 e j2 s ∧ P r.1 h2 ∧ X = xF e h2 (gs r.1 42) j2)
theorem XSemi {m h : zH} {e j s : Int} (r : Rp m h e j s) (hs : s = 8 ∨ s = 11 ∧ ¬ isD (mBy m (mTok m))) : Go (m_semi m) (xF e h (gs m 42) j) e 9 (fun m2 h2 => TF m m2 ∧ h2 = ps h 30 9) := by
  have r0 := r
  obtain ⟨be, mt, ⟨er, e24, m47, m48⟩, es, jle, jj⟩ := r
  have tr := mTok_r mt
  have m0 := mt.2.1
  have sr := semi_r mt
  have te : mTok m ≤ e := by rw [← be.1]; exact tr.2
  rcases Classical.em (mBy m (mTok m) = 59) with c | c
  · right
    have em : m_semi m = (ps (ps (m_peek m) 42 (mTok m + 1)) 44 (-1), 1) := ifp_t c
    have k1 : mTok m < e := by
      rcases (show mTok m < e ∨ e ≤ mTok m by omega) with q | q
      · exact q
      · rw [BE_end be q] at c; exact absurd c (by decide)
    have by1 := BE_by be (k := mTok m) (by omega) k1
    have e42 : gs (m_semi m).1 42 = mTok m + 1 := by rw [em]; rfl
    have e44 : gs (m_semi m).1 44 = -1 := by rw [em]; rfl
    refine ⟨by rw [em], ps h 30 9, j, ⟨BE_c be (TF_43 sr.1) (fun k => sr.1.2 16 k) (fun _ => rfl), sr.2.1, ⟨er, e24, by rw [em]; exact m47, by rw [em]; exact m48⟩, rfl, by omega, fun q hq => ?_⟩, ⟨sr.1, rfl⟩, ?_⟩
    · rw [e44]
      rw [e42] at hq
      constructor
      · intro z; omega
      · intro z; omega
    · have xs : x_semi h = (ps h 30 9, 0) := ifp_t (by rw [es]; omega)
      rw [e42, tok_x be mt er j, xF_step j (by omega) k1 be.2.1.2 er, stp_S (by rw [← by1]; exact c), xs, serr_0]
  · left
    have em : m_semi m = (m_fails (m_peek m) 1 (mTok m), 0) := ifp_f c
    have f := xF_bad r0 (by
      by_cases q : mTok m = e
      · exact Or.inl ⟨q, by omega⟩
      · right
        have k1 : mTok m < e := by omega
        have by1 := BE_by be (k := mTok m) (by omega) k1
        rw [by1] at c hs
        refine ⟨k1, ?_⟩
        by_cases l : isL (ga h 7 (mTok m))
        · exact Or.inl ⟨l, Or.inr (by omega)⟩
        · by_cases d : isD (ga h 7 (mTok m))
          · refine Or.inr (Or.inl ⟨d, Or.inr ?_⟩)
            rcases hs with z | z
            · omega
            · exact absurd d z.2
          · exact Or.inr (Or.inr ⟨l, d, Or.inl c⟩))
    rw [em]
    exact ⟨rfl, f.1, f.2, by show (1 : Int) ≠ 0; decide⟩
/-- of a good setting: both read on, the number taken -/
theorem Rp_set {m2 h : zH} {e s : Int} {k : Nat} {kx : Nat} {v : Int} (be : BE m2 h e) (mt : MT m2) (f : gs m2 47 = 0 ∧ gs m2 48 = -1) (g : gs h 23 = 0 ∧ gs h 24 = -1) (e44 : gs m2 44 = gs m2 42) (hk : k = 5 ∨ k = 6 ∨ k = 7 ∨ k = 8) (hx : kx = 25 ∨ kx = 26 ∨ kx = 27 ∨ kx = 28) : Rp (ps m2 k v) (ps (ps (ps h 30 s) kx v) 30 (gs (ps (ps h 30 s) kx v) 30 + 1)) e (gs (ps m2 k v) 42) (s + 1) := by
  have n (q : Nat) (hq : q ≠ 5 ∧ q ≠ 6 ∧ q ≠ 7 ∧ q ≠ 8) : gs (ps m2 k v) q = gs m2 q := by rw [gs_ps, if_neg (by omega)]
  refine ⟨BE_c be (n 43 (by decide)) (fun _ => rfl) (fun _ => rfl), MT_ps mt k v (by omega), ⟨?_, ?_, by rw [n 47 (by decide)]; exact f.1, by rw [n 48 (by decide)]; exact f.2⟩, ?_, Int.le_refl _, fun q hq => ?_⟩
  · rw [gs_ps, if_neg (by decide), gs_ps, if_neg (by omega), gs_ps, if_neg (by decide)]; exact g.1
  · rw [gs_ps, if_neg (by decide), gs_ps, if_neg (by omega), gs_ps, if_neg (by decide)]; exact g.2
  · rw [gs_ps, if_pos rfl, gs_ps, if_neg (by omega), gs_ps, if_pos rfl]
  · rw [n 44 (by decide), n 42 (by decide), e44]
/-- what a head leaves in the class's text, beside its step: the numbers, and all else as it was -/
def HX (h h2 : zH) : Prop := gs h2 29 = gs h 29 ∧ ∀ c i, ga h2 c i = ga h c i
theorem XH4 {m h : zH} {e j : Int} (r : Rp m h e j 6) : Go (m_hd4 m) (xF e h (gs m 42) j) e 9 (fun m2 h2 => HX h h2 ∧ gs h2 25 = gs h 25 ∧ gs h2 26 = gs h 26 ∧ gs h2 27 = gs h 27 ∧ gs h2 28 = gs m2 8) := by
  have g := r.2.2.1
  rcases XSet (i := 3) (lo := 1) (hi := 50) r (by decide) (by decide) (by decide) (fun v v0 vr => by rw [tn_7 (h := ps h 30 (6 + 1)) v rfl, son_f vr]) with b | ⟨s1, s2, s3, s4, s5, s6, s7⟩
  · left
    refine Bad_1 b ?_ ?_
    · unfold m_hd4; rw [ifp_f (by rw [show (5969497 : Int) = sW 3 from rfl, b.1]; decide)]; rfl
    · unfold m_hd4; rw [ifp_f (by rw [show (5969497 : Int) = sW 3 from rfl, b.1]; decide)]
  · have em : m_hd4 m = m_semi (ps (m_setting m (sW 3) 1 50).1 8 (gs (m_setting m (sW 3) 1 50).1 46)) := ifp_t s1
    rw [em]
    generalize (m_setting m (sW 3) 1 50).1 = m2 at s2 s3 s4 s5 s6 s7 ⊢
    rw [tn_7 (h := ps h 30 (6 + 1)) (gs m2 46) rfl, son_t s6, serr_0] at s7
    have rp := Rp_set (k := 8) (kx := 28) (s := 6 + 1) (v := gs m2 46) s2 s3 s4 ⟨g.1, g.2.1⟩ s5 (by decide) (by decide)
    rw [s7]
    have q := XSemi rp (Or.inl (by decide))
    rcases q with q | ⟨q1, h2, j2, q2, ⟨q3, q4⟩, q5⟩
    · exact Or.inl q
    · refine Or.inr ⟨q1, h2, j2, q2, ?_, q5⟩
      have e8 := tf_k q3 8 (by decide)
      rw [q4]
      exact ⟨⟨rfl, fun _ _ => rfl⟩, rfl, rfl, rfl, e8.symm⟩
theorem XH3 {m h : zH} {e j : Int} (r : Rp m h e j 4) (f5 : gs h 25 = gs m 5) (f6 : gs h 26 = gs m 6) : Go (m_hd3 m) (xF e h (gs m 42) j) e 9 (fun m2 h2 => HX h h2 ∧ gs h2 25 = gs h 25 ∧ gs h2 26 = gs h 26 ∧ gs h2 27 = gs m2 7 ∧ gs h2 28 = gs m2 8) := by
  have g := r.2.2.1
  rcases XSet (i := 2) (lo := 1) (hi := 64) r (by decide) (by decide) (by decide) (fun v v0 vr => by rw [tn_5 (h := ps h 30 (4 + 1)) v rfl, son_f (fun z => vr z.1)]) with b | ⟨s1, s2, s3, s4, s5, s6, s7⟩
  · left
    have e1 : m_logical m = ((m_setting m (sW 2) 1 64).1, 0) := ifp_f (by rw [show (13395856428 : Int) = sW 2 from rfl, b.1]; decide)
    refine Bad_1 b ?_ ?_
    · unfold m_hd3; rw [e1, ifp_f (show ¬ (0 : Int) = 1 by decide)]
    · unfold m_hd3; rw [e1, ifp_f (show ¬ (0 : Int) = 1 by decide)]
  · have k5 := tf_k (setting_r r.2.1 (sW 2) 1 64).1 5 (by decide)
    have k6 := tf_k (setting_r r.2.1 (sW 2) 1 64).1 6 (by decide)
    have el : m_logical m = ifp (mFits (ps (m_setting m (sW 2) 1 64).1 7 (gs (m_setting m (sW 2) 1 64).1 46))) (ps (m_setting m (sW 2) 1 64).1 7 (gs (m_setting m (sW 2) 1 64).1 46), 1) (m_fails (ps (m_setting m (sW 2) 1 64).1 7 (gs (m_setting m (sW 2) 1 64).1 46)) 2 (gs (m_setting m (sW 2) 1 64).1 45), 0) := ifp_t s1
    generalize (m_setting m (sW 2) 1 64).1 = m2 at s2 s3 s4 s5 s6 s7 k5 k6 el
    have fit : mFits (ps m2 7 (gs m2 46)) ↔ xFits (ps (ps h 30 (4 + 1)) 27 (gs m2 46)) (gs m2 46) := by
      unfold mFits xFits
      have a7 : gs (ps m2 7 (gs m2 46)) 7 = gs m2 46 := rfl
      have a5 : gs (ps m2 7 (gs m2 46)) 5 = gs h 25 := k5.trans f5.symm
      have a6 : gs (ps m2 7 (gs m2 46)) 6 = gs h 26 := k6.trans f6.symm
      have b5 : gs (ps (ps h 30 (4 + 1)) 27 (gs m2 46)) 25 = gs h 25 := rfl
      have b6 : gs (ps (ps h 30 (4 + 1)) 27 (gs m2 46)) 26 = gs h 26 := rfl
      rw [a7, a5, a6, b5, b6]
    rw [tn_5 (h := ps h 30 (4 + 1)) (gs m2 46) rfl] at s7
    rcases Classical.em (mFits (ps m2 7 (gs m2 46))) with c | c
    · rw [ifp_t c] at el
      have em : m_hd3 m = m_hd4 (ps m2 7 (gs m2 46)) := by
        unfold m_hd3
        rw [el, ifp_t rfl]
      rw [son_t ⟨s6, fit.mp c⟩, serr_0] at s7
      have rp := Rp_set (k := 7) (kx := 27) (s := 4 + 1) (v := gs m2 46) s2 s3 s4 ⟨g.1, g.2.1⟩ s5 (by decide) (by decide)
      rw [em, s7]
      have e7 := (hd4_r rp.2.1).2.2.2.2.1
      rcases XH4 rp with q | ⟨q1, h2, j2, q2, ⟨q3, q4, q5, q6, q7⟩, q8⟩
      · exact Or.inl q
      · exact Or.inr ⟨q1, h2, j2, q2, ⟨⟨q3.1, q3.2⟩, q4, q5, q6.trans e7.symm, q7⟩, q8⟩
    · left
      rw [ifp_f c] at el
      rw [son_f (fun z => c (fit.mpr z.2))] at s7
      rw [s7]
      have f := xF_err (e := e) (h := ps (ps h 30 (4 + 1)) 27 (gs m2 46)) (c := 2) (q := gs m2 45) (p := gs m2 42) (j := gs m2 42) (by decide)
      have em : m_hd3 m = (m_fails (ps m2 7 (gs m2 46)) 2 (gs m2 45), 0) := by
        unfold m_hd3
        rw [el, ifp_f (show ¬ (0 : Int) = 1 by decide)]
      rw [em]
      exact ⟨rfl, f.1, f.2, by show (2 : Int) ≠ 0; decide⟩
theorem XH2 {m h : zH} {e j : Int} (r : Rp m h e j 2) (f5 : gs h 25 = gs m 5) : Go (m_hd2 m) (xF e h (gs m 42) j) e 9 (fun m2 h2 => HX h h2 ∧ gs h2 25 = gs h 25 ∧ gs h2 26 = gs m2 6 ∧ gs h2 27 = gs m2 7 ∧ gs h2 28 = gs m2 8) := by
  have g := r.2.2.1
  rcases XSet (i := 1) (lo := 2) (hi := 32) r (by decide) (by decide) (by decide) (fun v v0 vr => by rw [tn_3 (h := ps h 30 (2 + 1)) v rfl, son_f vr]) with b | ⟨s1, s2, s3, s4, s5, s6, s7⟩
  · left
    refine Bad_1 b ?_ ?_
    · unfold m_hd2; rw [ifp_f (by rw [show (16817331 : Int) = sW 1 from rfl, b.1]; decide)]; rfl
    · unfold m_hd2; rw [ifp_f (by rw [show (16817331 : Int) = sW 1 from rfl, b.1]; decide)]
  · have k5 := tf_k (setting_r r.2.1 (sW 1) 2 32).1 5 (by decide)
    have em : m_hd2 m = m_hd3 (ps (m_setting m (sW 1) 2 32).1 6 (gs (m_setting m (sW 1) 2 32).1 46)) := ifp_t s1
    rw [em]
    generalize (m_setting m (sW 1) 2 32).1 = m2 at s2 s3 s4 s5 s6 s7 k5 ⊢
    rw [tn_3 (h := ps h 30 (2 + 1)) (gs m2 46) rfl, son_t s6, serr_0] at s7
    have rp := Rp_set (k := 6) (kx := 26) (s := 2 + 1) (v := gs m2 46) s2 s3 s4 ⟨g.1, g.2.1⟩ s5 (by decide) (by decide)
    rw [s7]
    have e6 := (hd3_r rp.2.1).2.2.2.1
    rcases XH3 rp (f5.trans k5.symm) rfl with q | ⟨q1, h2, j2, q2, ⟨q3, q4, q5, q6, q7⟩, q8⟩
    · exact Or.inl q
    · exact Or.inr ⟨q1, h2, j2, q2, ⟨⟨q3.1, q3.2⟩, q4, q5.trans e6.symm, q6, q7⟩, q8⟩
theorem XHead {m h : zH} {e j : Int} (r : Rp m h e j 0) : Go (m_head m) (xF e h (gs m 42) j) e 9 (fun m2 h2 => HX h h2 ∧ gs h2 25 = gs m2 5 ∧ gs h2 26 = gs m2 6 ∧ gs h2 27 = gs m2 7 ∧ gs h2 28 = gs m2 8) := by
  have g := r.2.2.1
  rcases XSet (i := 0) (lo := 4) (hi := 32) r (by decide) (by decide) (by decide) (fun v v0 vr => by rw [tn_1 (h := ps h 30 (0 + 1)) v rfl, son_f vr]) with b | ⟨s1, s2, s3, s4, s5, s6, s7⟩
  · left
    refine Bad_1 b ?_ ?_
    · unfold m_head; rw [ifp_f (by rw [show (80186739 : Int) = sW 0 from rfl, b.1]; decide)]; rfl
    · unfold m_head; rw [ifp_f (by rw [show (80186739 : Int) = sW 0 from rfl, b.1]; decide)]
  · have em : m_head m = m_hd2 (ps (m_setting m (sW 0) 4 32).1 5 (gs (m_setting m (sW 0) 4 32).1 46)) := ifp_t s1
    rw [em]
    generalize (m_setting m (sW 0) 4 32).1 = m2 at s2 s3 s4 s5 s6 s7 ⊢
    rw [tn_1 (h := ps h 30 (0 + 1)) (gs m2 46) rfl, son_t s6, serr_0] at s7
    have rp := Rp_set (k := 5) (kx := 25) (s := 0 + 1) (v := gs m2 46) s2 s3 s4 ⟨g.1, g.2.1⟩ s5 (by decide) (by decide)
    rw [s7]
    have e5 := (hd2_r rp.2.1).2.2.1
    rcases XH2 rp rfl with q | ⟨q1, h2, j2, q2, ⟨q3, q4, q5, q6, q7⟩, q8⟩
    · exact Or.inl q
    · exact Or.inr ⟨q1, h2, j2, q2, ⟨⟨q3.1, q3.2⟩, q4.trans e5.symm, q5, q6, q7⟩, q8⟩

