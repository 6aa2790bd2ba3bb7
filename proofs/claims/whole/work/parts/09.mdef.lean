/-! plain mathematics: truth as a number, counting, and what the reference computes -/
noncomputable def ifp {α : Type} (p : Prop) (a b : α) : α := @ite α p (Classical.propDecidable p) a b
theorem ifp_t {α : Type} {p : Prop} {a b : α} (h : p) : ifp p a b = a := by unfold ifp; exact if_pos h
theorem ifp_f {α : Type} {p : Prop} {a b : α} (h : ¬ p) : ifp p a b = b := by unfold ifp; exact if_neg h
noncomputable def b2i (p : Prop) : Int := ifp p 1 0
theorem b2i_t {p : Prop} (h : p) : b2i p = 1 := ifp_t h
theorem b2i_f {p : Prop} (h : ¬ p) : b2i p = 0 := ifp_f h
theorem b2i_01 (p : Prop) : b2i p = 0 ∨ b2i p = 1 := (Classical.em p).elim (fun h => Or.inr (b2i_t h)) (fun h => Or.inl (b2i_f h))
theorem b2i_0 {p : Prop} : b2i p = 0 ↔ ¬ p := ⟨fun e h => by rw [b2i_t h] at e; omega, b2i_f⟩
theorem b2i_n0 {p : Prop} : b2i p ≠ 0 ↔ p := ⟨fun e => Classical.byContradiction fun h => e (b2i_f h), fun h e => by rw [b2i_t h] at e; omega⟩
theorem b2i_1 {p : Prop} : b2i p = 1 ↔ p := ⟨fun e => Classical.byContradiction fun h => by rw [b2i_f h] at e; omega, b2i_t⟩
theorem b2i_c {p q : Prop} (h : p ↔ q) : b2i p = b2i q := by rw [propext h]
theorem b2i_r (p : Prop) : 0 ≤ b2i p ∧ b2i p ≤ 1 := by rcases b2i_01 p with h | h <;> omega
noncomputable def cnt (p : Int → Prop) (a : Int) : Nat → Int
  | 0 => 0
  | n + 1 => cnt p a n + b2i (p (a + n))
theorem cnt_r (p : Int → Prop) (a : Int) : ∀ n : Nat, 0 ≤ cnt p a n ∧ cnt p a n ≤ n
  | 0 => by simp [cnt]
  | n + 1 => by
    have h := cnt_r p a n
    have q := b2i_r (p (a + n))
    rw [cnt]
    omega
theorem cnt_next {p : Int → Prop} {a i : Int} (h : a ≤ i) : cnt p a (i + 1 - a).toNat = cnt p a (i - a).toNat + b2i (p i) := by
  have e : (i + 1 - a).toNat = (i - a).toNat + 1 := by omega
  have e2 : a + ((i - a).toNat : Int) = i := by omega
  rw [e, cnt, e2]
theorem cnt_c {p q : Int → Prop} {a : Int} : ∀ {n : Nat}, (∀ i, a ≤ i → i < a + n → (p i ↔ q i)) → cnt p a n = cnt q a n
  | 0, _ => rfl
  | n + 1, h => by
    rw [cnt, cnt, cnt_c (fun i h1 h2 => h i h1 (by omega)), b2i_c (h (a + n) (by omega) (by omega))]
/-- the same, of sums -/
noncomputable def zsum (f : Int → Int) : Nat → Int
  | 0 => 0
  | n + 1 => zsum f n + f n
theorem zsum_next {f : Int → Int} {i : Int} (h : 0 ≤ i) : zsum f (i + 1).toNat = zsum f i.toNat + f i := by
  have e : (i + 1).toNat = i.toNat + 1 := by omega
  have e2 : (i.toNat : Int) = i := by omega
  rw [e, zsum, e2]
theorem zsum_c {f g : Int → Int} : ∀ {n : Nat}, (∀ i, 0 ≤ i → i < n → f i = g i) → zsum f n = zsum g n
  | 0, _ => rfl
  | n + 1, h => by rw [zsum, zsum, zsum_c (fun i h1 h2 => h i h1 (by omega)), h n (by omega) (by omega)]
theorem zsum_r {f : Int → Int} {c : Int} : ∀ {n : Nat}, (∀ i, 0 ≤ i → i < n → 0 ≤ f i ∧ f i ≤ c) → 0 ≤ zsum f n ∧ zsum f n ≤ n * c
  | 0, _ => by simp [zsum]
  | n + 1, h => by
    have q := zsum_r (n := n) (fun i h1 h2 => h i h1 (by omega))
    have r := h n (by omega) (by omega)
    have e : ((n + 1 : Nat) : Int) * c = n * c + c := by
      rw [Int.natCast_add, Int.add_mul]
      simp
    rw [zsum, e]
    omega
/-- the sizes are as the format allows -/
def MB (h : zH) : Prop := 0 ≤ gs h 1 ∧ gs h 1 ≤ 32 ∧ 0 ≤ gs h 2 ∧ gs h 2 ≤ 32 ∧ 0 ≤ gs h 3 ∧ gs h 3 ≤ 64
theorem mb_blk {p B b : Int} (h1 : 0 ≤ b) (h2 : b < B) (h3 : B ≤ 32) (h4 : 0 ≤ p) (h5 : p ≤ 32) : 0 ≤ p * b ∧ p * b + p ≤ p * B ∧ p * B ≤ 1024 ∧ p * (b + 1) = p * b + p := by
  have e : p * (b + 1) = p * b + p := by rw [Int.mul_add, Int.mul_one]
  refine ⟨Int.mul_nonneg h4 h1, ?_, ?_, e⟩
  · rw [← e]
    exact Int.mul_le_mul_of_nonneg_left (by omega) h4
  · have q := Int.mul_le_mul h5 h3 (by omega) (by omega : (0 : Int) ≤ 32)
    omega
theorem mb_size {p B : Int} (h1 : 0 ≤ B) (h3 : B ≤ 32) (h4 : 0 ≤ p) (h5 : p ≤ 32) : 0 ≤ B * p ∧ B * p ≤ 1024 := by
  refine ⟨Int.mul_nonneg h1 h4, ?_⟩
  have q := Int.mul_le_mul h3 h5 h4 (by omega : (0 : Int) ≤ 32)
  omega
/-! the reference's questions -/
noncomputable def mKind (h : zH) (b w : Int) : Int := cnt (fun i => ga h 2 i = w) (gs h 2 * b) (gs h 2).toNat
noncomputable def mFreeIn (h : zH) (b : Int) : Int := mKind h b 0
def mIsFree (h : zH) (b : Int) : Prop := b ≠ gs h 32 ∧ mFreeIn h b = gs h 2
noncomputable def mFreeMany (h : zH) : Int := cnt (mIsFree h) 0 (gs h 1).toNat
def mReadBy (h : zH) (page its : Int) : Prop := ∃ r : Int, 0 ≤ r ∧ r < 4 ∧ ga h 14 r ≠ 0 ∧ ga h 13 (64 * r + page) = its
def mWantedData (h : zH) (i : Int) : Prop := ga h 5 i = ga h 10 (ga h 3 i) ∨ 0 < ga h 11 (ga h 3 i) ∧ ga h 5 i = ga h 12 (ga h 3 i) ∨ mReadBy h (ga h 3 i) (ga h 5 i)
def mWanted (h : zH) (i : Int) : Prop := ga h 2 i = 1 ∧ mWantedData h i ∨ ga h 2 i = 2 ∧ gs h 34 < ga h 5 i ∨ ga h 2 i = 3 ∧ (ga h 4 i = gs h 33 ∨ ga h 4 i = gs h 35) ∨ ga h 2 i = 4 ∧ ga h 4 i = gs h 33
def mCopyOf (h : zH) (a b : Int) : Prop := ga h 2 a = ga h 2 b ∧ ga h 4 a = ga h 4 b ∧ ga h 3 a = ga h 3 b ∧ ga h 5 a = ga h 5 b
def mNewest (h : zH) (i : Int) : Prop := ∀ o : Int, 0 ≤ o → o < gs h 1 * gs h 2 → mCopyOf h o i → ga h 6 o ≤ ga h 6 i
def mGood (h : zH) (i : Int) : Prop := gs h 26 ≠ 0 ∧ mWanted h i ∧ mNewest h i
noncomputable def mValidIn (h : zH) (b : Int) : Int := cnt (mGood h) (gs h 2 * b) (gs h 2).toNat
noncomputable def mValidAll (h : zH) : Int := zsum (mValidIn h) (gs h 1).toNat
/-- the places of the data pages and of the map pages are such that the reference may use them -/
def MI (h : zH) : Prop := ∀ i : Int, 0 ≤ i → i < gs h 1 * gs h 2 → (ga h 2 i = 1 → 0 ≤ ga h 3 i ∧ ga h 3 i < gs h 3) ∧ (ga h 2 i = 3 → 0 ≤ ga h 3 i ∧ 8 * ga h 3 i < gs h 3)
theorem zx_ok {cs : zH → List aC} {G : zGv} {own : String} {cc : ByteArray} {nL : Nat} {ret : Option FieldType} {rm : Room} {pc : Nat} {ls : List (Option Value)} {st : List Value} {h : zH} {E : zF} (k : zOk h → zX cs G own cc nL ret rm pc ls st h E) : zX cs G own cc nL ret rm pc ls st h E := by
  intro p l e s m args below meth c D cA adr A H locs lsa C hA hG hO hK hP hD hS hl
  exact k hO p l e s m args below meth c D cA adr A H locs lsa C hA hG hO hK hP hD hS hl

