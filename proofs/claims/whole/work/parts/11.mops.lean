/-! what the reference's methods make of its state -/
theorem zH_ext {a b : zH} (h1 : ∀ k, gs a k = gs b k) (h2 : ∀ c i, ga a c i = ga b c i) : a = b := Prod.ext (funext h1) (funext fun c => funext fun i => h2 c i)
/-- a stretch of an array gets one value -/
def prr (h : zH) (c : Nat) (a b v : Int) : zH := (h.1, fun d j => if d = c ∧ a ≤ j ∧ j < b then v else h.2 d j)
theorem gs_prr (h : zH) (c k : Nat) (a b v : Int) : gs (prr h c a b v) k = gs h k := rfl
theorem ga_prr (h : zH) (c d : Nat) (a b v j : Int) : ga (prr h c a b v) d j = if d = c ∧ a ≤ j ∧ j < b then v else ga h d j := rfl
/-- what a map page holds, copied -/
def cp8 (h : zH) (c : Nat) (to fr : Int) (d : Nat) : zH := (h.1, fun e j => if e = c ∧ 8 * to ≤ j ∧ j < 8 * to + 8 then h.2 d (8 * fr + (j - 8 * to)) else h.2 e j)
theorem gs_cp8 (h : zH) (c d k : Nat) (to fr : Int) : gs (cp8 h c to fr d) k = gs h k := rfl
theorem ga_cp8 (h : zH) (c d e : Nat) (to fr j : Int) : ga (cp8 h c to fr d) e j = if e = c ∧ 8 * to ≤ j ∧ j < 8 * to + 8 then ga h d (8 * fr + (j - 8 * to)) else ga h e j := rfl
theorem gs_if {p : Prop} {a b : zH} {k : Nat} : gs (ifp p a b) k = ifp p (gs a k) (gs b k) := by
  rcases Classical.em p with h | h
  · rw [ifp_t h, ifp_t h]
  · rw [ifp_f h, ifp_f h]
theorem ga_if {p : Prop} {a b : zH} {k : Nat} {i : Int} : ga (ifp p a b) k i = ifp p (ga a k i) (ga b k i) := by
  rcases Classical.em p with h | h
  · rw [ifp_t h, ifp_t h]
  · rw [ifp_f h, ifp_f h]
theorem ifp_same {α : Type} {p : Prop} {a : α} : ifp p a a = a := by
  rcases Classical.em p with h | h
  · rw [ifp_t h]
  · rw [ifp_f h]
theorem zx_wr {cs : zH → List aC} {G : zGv} {own : String} {cc : ByteArray} {nL : Nat} {ret : Option FieldType} {rm : Room} {pc : Nat} {ls : List (Option Value)} {st : List Value} {h : zH} {E : zF} {v : Int} (k : zX cs G own cc nL ret rm pc ls (.int (iI (wr v)) :: st) h E) : zX cs G own cc nL ret rm pc ls (.int (iI v) :: st) h E := by
  rw [iI_wr] at k
  exact k
def m_forgets (h : zH) : zH := ps (ps (ps (ps (ps (prr (prr (prr (prr h 10 0 64 0) 11 0 64 0) 12 0 64 0) 14 0 4 0) 32 (-1)) 33 0) 34 0) 35 0) 36 0
def m_loses (h : zH) : zH := ps (ps (m_forgets h) 26 0) 24 (wr (gs h 24 + 1))
def m_anew (h : zH) : zH := ps (ps (ps (ps (ps (ps (ps (ps (ps (ps (prr (prr (m_forgets h) 2 0 1024 0) 9 0 32 0) 19 0) 20 0) 21 0) 22 0) 23 0) 24 0) 25 0) 38 0) 39 0) 26 1
def mOK (h : zH) : Prop := gs h 25 = 0 ∨ 1 < gs h 25
noncomputable def m_oper (h : zH) : zH := ifp (gs h 25 = 0) h (ps h 25 (gs h 25 - 1))
noncomputable def m_erase (h : zH) (b : Int) : zH := ifp (mOK h) (ps (pa (prr (m_oper h) 2 (gs h 2 * b) (gs h 2 * b + gs h 2) 0) 9 b (wr (ga h 9 b + 1))) 21 (wr (gs h 21 + 1))) (m_loses (prr (m_oper h) 2 (gs h 2 * b) (gs h 2 * b + gs h 2) 5))
def m_progOk (h : zH) (place w ix g : Int) : zH := pa (pa (pa (pa (pa (ps (ps h 19 (wr (gs h 19 + 1))) 20 (wr (gs h 20 + 1))) 2 place w) 3 place ix) 4 place g) 5 place (wr (gs h 19 + 1))) 6 place (wr (gs h 19 + 1))
noncomputable def m_prog (h : zH) (place w ix g : Int) : zH := ifp (mOK h) (m_progOk (m_oper h) place w ix g) (m_loses (pa (m_oper h) 2 place 5))
noncomputable def m_low (h : zH) : Int := gs h 2 * gs h 32 + gs h 2 - mFreeIn h (gs h 32)
def m_copyOk (h : zH) (place fr : Int) : zH := ps (cp8 (pa (pa h 5 place (ga h 5 fr)) 7 place (ga h 7 fr)) 8 place fr 8) 22 (wr (gs h 22 + 1))
noncomputable def m_copy (h : zH) (fr : Int) : zH := ifp (mOK h) (m_copyOk (m_prog h (m_low h) (ga h 2 fr) (ga h 3 fr) (ga h 4 fr)) (m_low h) fr) (m_prog h (m_low h) (ga h 2 fr) (ga h 3 fr) (ga h 4 fr))
noncomputable def m_collL : Nat → zH → Int → zH × Int
  | 0, h, _ => (h, 1)
  | n + 1, h, i => ifp (mGood h i) (ifp (mOK h) (m_collL n (m_copy h i) (i + 1)) (m_copy h i, 0)) (m_collL n h (i + 1))
noncomputable def m_collect (h : zH) (b : Int) : zH × Int := ifp ((m_collL (gs h 2).toNat h (gs h 2 * b)).2 = 1) (m_erase (m_collL (gs h 2).toNat h (gs h 2 * b)).1 b, b2i (mOK (m_collL (gs h 2).toNat h (gs h 2 * b)).1)) (m_collL (gs h 2).toNat h (gs h 2 * b))
noncomputable def mFB (h : zH) : Nat → Int
  | 0 => -1
  | n + 1 => ifp (mIsFree h n ∧ (mFB h n = -1 ∨ ga h 9 n < ga h 9 (mFB h n))) (n : Int) (mFB h n)
noncomputable def mNV (h : zH) : Nat → Int × Int
  | 0 => (-1, mFreeIn h (gs h 32))
  | n + 1 => ifp (¬ ((n : Int) = gs h 32 ∨ mIsFree h n) ∧ (mValidIn h n < (mNV h n).2 ∨ (mNV h n).1 ≠ -1 ∧ mValidIn h n = (mNV h n).2 ∧ ga h 9 n < ga h 9 (mNV h n).1)) ((n : Int), mValidIn h n) (mNV h n)
noncomputable def m_vict (h : zH) : Int := (mNV h (gs h 1).toNat).1
noncomputable def m_fblk (h : zH) : Int := mFB h (gs h 1).toNat
noncomputable def m_roomL : Nat → zH → zH × Int
  | 0, h => (h, 1)
  | n + 1, h => ifp (mFreeMany h < 2 ∧ m_vict h ≠ -1) (ifp ((m_collect h (m_vict h)).2 = 1) (m_roomL n (m_collect h (m_vict h)).1) (m_collect h (m_vict h))) (h, 1)
noncomputable def m_room (h : zH) : zH × Int := ifp (m_fblk h = -1) (m_loses h, 0) (m_roomL 3 (ps h 32 (m_fblk h)))
def mFull (h : zH) : Prop := gs h 32 = -1 ∨ mFreeIn h (gs h 32) = 0
noncomputable def m_page1 (h : zH) : zH × Int := ifp (mFull h) (m_room h) (h, 1)
noncomputable def m_page (h : zH) (w ix g : Int) : zH × Int := ifp ((m_page1 h).2 = 1) (m_prog (m_page1 h).1 (m_low (m_page1 h).1) w ix g, ifp (mOK (m_page1 h).1) (m_low (m_page1 h).1) (-1)) ((m_page1 h).1, -1)
theorem prr_0 (h : zH) (c : Nat) (a v : Int) : prr h c a a v = h := by
  apply zH_ext
  · intro k; rfl
  · intro d j
    simp only [ga_prr]
    grind
theorem prr_next (h : zH) (c : Nat) {a i : Int} (v : Int) (hi : a ≤ i) : pa (prr h c a i v) c i v = prr h c a (i + 1) v := by
  apply zH_ext
  · intro k; rfl
  · intro d j
    simp only [ga_pa, ga_prr]
    grind
theorem pa_prr (h : zH) {c d : Nat} (a b i v w : Int) (hc : c ≠ d) : pa (prr h d a b w) c i v = prr (pa h c i v) d a b w := by
  apply zH_ext
  · intro k; rfl
  · intro e j
    simp only [ga_pa, ga_prr]
    grind
/-- fewer places are known -/
def zMask : List Bool → List (Option Value) → List (Option Value)
  | true :: m, v :: r => v :: zMask m r
  | false :: m, _ :: r => none :: zMask m r
  | _, _ => []
theorem zMask_at : ∀ (m : List Bool) (l : List (Option Value)) (i : Nat) (v : Value), (zMask m l)[i]? = some (some v) → l[i]? = some (some v)
  | [], _, i, v, h => by simp [zMask] at h
  | true :: m, [], i, v, h => by simp [zMask] at h
  | false :: m, [], i, v, h => by simp [zMask] at h
  | true :: m, w :: r, 0, v, h => h
  | false :: m, w :: r, 0, v, h => by simp [zMask] at h
  | true :: m, w :: r, i + 1, v, h => by
    simp only [zMask, List.getElem?_cons_succ] at h ⊢
    exact zMask_at m r i v h
  | false :: m, w :: r, i + 1, v, h => by
    simp only [zMask, List.getElem?_cons_succ] at h ⊢
    exact zMask_at m r i v h
theorem zx_sub {cs : zH → List aC} {G : zGv} {own : String} {cc : ByteArray} {nL : Nat} {ret : Option FieldType} {rm : Room} {pc : Nat} {ls : List (Option Value)} {st : List Value} {h : zH} {E : zF} (ms : List Bool) (k : zX cs G own cc nL ret rm pc (zMask ms ls) st h E) : zX cs G own cc nL ret rm pc ls st h E := by
  intro p l e s m args below meth c D cA adr A H locs lsa C hA hG hO hK hP hD hS hl
  refine k p l e s m args below meth c D cA adr A H locs lsa C hA hG hO hK hP hD hS ⟨hl.1, hl.2.1, fun q hq => ?_⟩
  obtain ⟨i, v, h1, h2⟩ := (zL_in adr _ 0 q).mp hq
  exact hl.2.2 q ((zL_in adr ls 0 q).mpr ⟨i, v, zMask_at ms ls i v h1, h2⟩)

