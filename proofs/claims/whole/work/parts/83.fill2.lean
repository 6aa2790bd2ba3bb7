/-! format's fills never fail: free blocks -/
theorem mNV_none (m : zH) : ∀ k : Nat, (mNV m k).1 = -1 → (mNV m k).2 = mFreeIn m (gs m 32) ∧ ∀ c : Int, 0 ≤ c → c < k → c ≠ gs m 32 → ¬ mIsFree m c → mFreeIn m (gs m 32) ≤ mValidIn m c
  | 0 => fun _ => ⟨rfl, fun c _ _ => by omega⟩
  | k + 1 => by
    rw [mNV]
    by_cases c : ¬ ((k : Int) = gs m 32 ∨ mIsFree m k) ∧ (mValidIn m k < (mNV m k).2 ∨ (mNV m k).1 ≠ -1 ∧ mValidIn m k = (mNV m k).2 ∧ ga m 9 k < ga m 9 (mNV m k).1)
    · rw [ifp_t c]
      intro h
      have h : (k : Int) = -1 := h
      omega
    · rw [ifp_f c]
      intro h
      obtain ⟨q1, q2⟩ := mNV_none m k h
      refine ⟨q1, fun d d0 d1 d2 d3 => ?_⟩
      by_cases z : d = k
      · rw [z] at d2 d3 ⊢
        refine Classical.byContradiction fun y => c ⟨fun w => w.elim d2 d3, Or.inl (by omega)⟩
      · exact q2 d d0 (by omega) d2 d3
theorem zsum_ge {f : Int → Int} {P a : Int} (hP : 0 ≤ P) : ∀ n : Nat, (∀ c : Int, 0 ≤ c → c < n → 0 ≤ f c) → (∀ c : Int, 0 ≤ c → c < n → c ≠ a → P ≤ f c) → P * n - (if 0 ≤ a ∧ a < n then P else 0) ≤ zsum f n
  | 0, _, _ => by simp [zsum]; omega
  | n + 1, h0, h => by
    have ih := zsum_ge (f := f) (a := a) hP n (fun c c0 c1 => h0 c c0 (by omega)) (fun c c0 c1 => h c c0 (by omega))
    have e : P * ((n + 1 : Nat) : Int) = P * n + P := by rw [show ((n + 1 : Nat) : Int) = (n : Int) + 1 by omega, Int.mul_add, Int.mul_one]
    rw [zsum, e]
    by_cases z : (n : Int) = a
    · have := h0 n (by omega) (by omega)
      rw [if_neg (by omega)] at ih
      rw [if_pos (by omega)]
      omega
    · have := h n (by omega) (by omega) z
      by_cases y : 0 ≤ a ∧ a < n
      · rw [if_pos y] at ih
        rw [if_pos (by omega)]
        omega
      · rw [if_neg y] at ih
        rw [if_neg (by omega)]
        omega
/-- with no free block and an empty active block there is one to collect -/
theorem VICT {m x : zH} {T n : Int} (f : FO m x T n) (a0 : 0 ≤ gs m 32) (u0 : ga x 18 (gs m 32) = 0) (ff : mFreeMany m = 0) (hv : mValidAll m < gs m 2 * gs m 1 - gs m 2) : m_vict m ≠ -1 := fun h => by
  have mb := f.1.2.2.1.1
  have fr := fp_v f.1 a0
  have q := (mNV_none m (gs m 1).toNat h).2
  have act := f.1.2.2.1.2.2.1.2
  have z := zsum_ge (f := mValidIn m) (P := gs m 2) (a := gs m 32) mb.2.2.1 (gs m 1).toNat (fun c _ _ => (cnt_r _ _ _).1) (fun c c0 c1 c2 => by
    have nf : ¬ mIsFree m c := cnt_none (p := mIsFree m) (a := 0) (n := (gs m 1).toNat) ff c0 (by omega)
    have := q c c0 c1 c2 nf
    omega)
  rw [if_pos (by omega), show (((gs m 1).toNat : Nat) : Int) = gs m 1 by have := mb.1; omega] at z
  have e : mValidAll m = zsum (mValidIn m) (gs m 1).toNat := rfl
  omega
theorem FB_some {m : zH} (h : 1 ≤ mFreeMany m) : m_fblk m ≠ -1 := fun z => by
  have no : ∀ k : Nat, mFB m k = -1 → ∀ c : Int, 0 ≤ c → c < k → ¬ mIsFree m c := by
    intro k
    induction k with
    | zero => intro _ c _ _; omega
    | succ k ih =>
      rw [mFB]
      by_cases y : mIsFree m k ∧ (mFB m k = -1 ∨ ga m 9 k < ga m 9 (mFB m k))
      · rw [ifp_t y]
        intro w; omega
      · rw [ifp_f y]
        intro w c c0 c1 hc
        by_cases e : c = k
        · rw [e] at hc
          exact y ⟨hc, Or.inl w⟩
        · exact ih w c c0 (by omega) hc
  have e : mFreeMany m = 0 := cnt_zero (fun c c0 c1 => no _ z c c0 (by omega))
  omega
theorem PAGE1_P {m x : zH} {T k : Int} (f : FO m x T k) (hT : T + 200 ≤ 2147483000) (z : gs m 25 = 0) (fr1 : 1 ≤ mFreeMany m) (hv : mValidAll m < gs m 2 * gs m 1 - gs m 2) : (m_page1 m).2 = 1 ∧ gs (m_page1 m).1 25 = 0 ∧ PSub m (m_page1 m).1 ∧ 1 ≤ mFreeMany (m_page1 m).1 := by
  have act := f.1.2.2.1.2.2.1
  have P1 := f.2.2.2.2.2
  have mb := f.1.2.2.1.1
  unfold m_page1
  by_cases c : mFull m
  · rw [ifp_t c]
    have d := FB_some fr1
    have fr := mFB_lt m (gs m 1).toNat
    have ff := mFB_free m (gs m 1).toNat
    unfold m_room
    rw [ifp_f d]
    have r0 : 0 ≤ m_fblk m ∧ m_fblk m < gs m 1 := by
      unfold m_fblk at d ⊢
      have := mb.1
      omega
    have fa := FO_act f (b := m_fblk m) (by omega) r0.2
    have fv := (free_v f.1 P1 r0.1 r0.2).mpr (ff d)
    have e1 : gs (ps m 32 (m_fblk m)) 32 = m_fblk m := rfl
    have n0 := (cnt_r (mIsFree (ps m 32 (m_fblk m))) 0 (gs (ps m 32 (m_fblk m)) 1).toNat).1
    have n0 : 0 ≤ mFreeMany (ps m 32 (m_fblk m)) := n0
    obtain ⟨q1, q2, q3, q4, q5⟩ := ROOML_P 3 _ _ T k fa (by omega) z (by rw [e1]; exact r0.1) (by rw [e1]; show ga x 18 _ < gs m 2; rw [fv.1]; omega)
    refine ⟨q1, q2, ⟨q3.1, fun i hi => q3.2 i hi⟩, ?_⟩
    by_cases y : 1 ≤ mFreeMany (ps m 32 (m_fblk m))
    · omega
    · have v := VICT fa (by rw [e1]; exact r0.1) (by rw [e1]; exact fv.1) (by omega) hv
      have := q5 (by decide) (by omega) v
      omega
  · rw [ifp_f c]
    exact ⟨rfl, z, PSub.rf m, fr1⟩
/-- what holds while format fills -/
def FI (m x : zH) (T n : Int) : Prop := FO m x T n ∧ gs m 25 = 0 ∧ gs m 38 = 0 ∧ (∀ r, 0 ≤ r → r < 4 → ga m 14 r = 0) ∧ 1 ≤ mFreeMany m ∧ UQ m n ∧ (0 ≤ n ∧ n ≤ mParts m) ∧ gs m 3 + 2 * mParts m + 3 ≤ (gs m 1 - 2) * gs m 2
theorem FI_V {m x : zH} {T n : Int} (f : FI m x T n) : mValidAll m < gs m 2 * gs m 1 - gs m 2 := by
  obtain ⟨fo, z, z38, rd, fr, u, n0, g⟩ := f
  have v := VB fo z38 rd u n0.1
  have e : (gs m 1 - 2) * gs m 2 = gs m 2 * gs m 1 - 2 * gs m 2 := by rw [Int.sub_mul, Int.mul_comm (gs m 1)]
  have P1 := fo.2.2.2.2.2
  have : (if gs m 35 = 0 then 0 else n) ≤ n := by split <;> omega
  omega
theorem fm_c {m m2 : zH} (g : gs m2 1 = gs m 1 ∧ gs m2 2 = gs m 2 ∧ gs m2 32 = gs m 32) (a : ∀ b i, 0 ≤ b → b < gs m 1 → b ≠ gs m 32 → gs m 2 * b ≤ i → i < gs m 2 * b + gs m 2 → ga m2 2 i = ga m 2 i) (p : 0 ≤ gs m 2) : mFreeMany m2 = mFreeMany m := by
  unfold mFreeMany
  rw [g.1]
  refine cnt_c (fun b b0 b1 => ?_)
  unfold mIsFree
  rw [g.2.1, g.2.2]
  by_cases c : b = gs m 32
  · exact ⟨fun z => absurd c z.1, fun z => absurd c z.1⟩
  · have e : mFreeIn m2 b = mFreeIn m b := by
      unfold mFreeIn mKind
      rw [g.2.1]
      exact cnt_c (fun i i0 i1 => by rw [a b i (by omega) (by omega) c i0 (by omega)])
    rw [e]
theorem PAGE_I {m x : zH} {T n : Int} (f : FI m x T n) (hT : T + 200 ≤ 2147483000) {w ix g : Int} (v : Int) (hw : w ≠ 0) (hd : w = 1 → 0 ≤ ix ∧ ix < gs m 3) (hm : w = 3 → 0 ≤ ix ∧ 8 * ix < gs m 3) :
    ∃ M X0 r M2 X, m_page m w ix g = (M2, r) ∧ x_page x w ix g v = (X, r) ∧ FI M X0 (T + 80) n ∧ TK m M ∧ PR M X0 M2 X r w ix g v ∧ mFreeMany M2 = mFreeMany M ∧ gs M2 25 = 0 := by
  have hv := FI_V f
  obtain ⟨fo, z, z38, rd, fr, u, n0, gb⟩ := f
  obtain ⟨p1, p2, p3, p4⟩ := PAGE1_P fo hT z fr hv
  have q := PAGE1 fo (by omega)
  have tk := TK_page1 m p1
  have e3 := tk.1 3 (by decide) (by decide) (by decide) (by decide) (by decide) (by decide)
  have e35 := tk.1 35 (by decide) (by decide) (by decide) (by decide) (by decide) (by decide)
  have e38 := tk.1 38 (by decide) (by decide) (by decide) (by decide) (by decide) (by decide)
  have e1 := tk.1 1 (by decide) (by decide) (by decide) (by decide) (by decide) (by decide)
  have e2 := tk.1 2 (by decide) (by decide) (by decide) (by decide) (by decide) (by decide)
  unfold m_page x_page
  generalize m_page1 m = a at q p1 p2 p3 p4 tk e3 e35 e38 e1 e2 ⊢
  generalize x_page1 x = b at q ⊢
  rcases q with ⟨q1, q2, q3, q4, q5⟩ | ⟨q1, _⟩
  · rw [ifp_t q1, ifp_t q2]
    have ok := ok_0 p2
    obtain ⟨r1, r2, r3, r4, r5⟩ := prog_ok q3.1 q4 q5 ok (w := w) (ix := ix) (g := g) v hw (by rw [e3]; exact hd) (by rw [e3]; exact hm)
    have fi : FI a.1 b.1 (T + 80) n := ⟨q3, p2, by rw [e38]; exact z38, fun r r0 r1 => by rw [tk.2 14 r (by decide)]; exact rd r r0 r1, p4, UQ_sub u p3 e35, by unfold mParts; rw [e3]; exact n0, by unfold mParts; rw [e3, e1, e2]; exact gb⟩
    have mb := q3.1.2.2.1.1
    have low := low_u q3.1.2.2.1 q4
    have uu := q3.1.2.2.1.2.2.2.2 (gs a.1 32) q4 q3.1.2.2.1.2.2.1.2
    refine ⟨a.1, b.1, m_low a.1, m_progOk (m_oper a.1) (m_low a.1) w ix g, x_progOk (x_arm (pa b.1 18 (gs a.1 32) (ga b.1 18 (gs a.1 32) + 1))) (m_low a.1) w ix g v, ?_, ?_, fi, tk, ⟨rfl, rfl, ⟨r3, r4⟩, ?_⟩, ?_, ?_⟩
    · rw [ifp_t ok, r1]
    · unfold x_pg2
      rw [r2, ifp_f (by show ¬ m_low a.1 < 0; omega)]
    · rw [r1, r2] at r5
      exact r5
    · rw [oper_0 p2]
      refine fm_c ⟨gs_progOk _ _ _ _ _ 1 (by decide), gs_progOk _ _ _ _ _ 2 (by decide), gs_progOk _ _ _ _ _ 32 (by decide)⟩ (fun c i c0 c1 cn i0 i1 => ga_progOk _ _ _ _ _ 2 i (fun y => cn ?_)) mb.2.2.1
      exact blk_one (i := i) mb.2.2.1 i0 i1 (by omega) (by omega)
    · rw [gs_progOk _ _ _ _ _ 25 (by decide), oper_0 p2]
      exact p2
  · omega
/-- the new page joins what stands once -/
theorem UQ_add {m m2 : zH} {cp cp2 : Int → Int} {r w ix g n n2 : Int} (d : Adp m m2 cp cp2 r w ix g) (u : UQ m n) (hn : n ≤ n2) (e35 : gs m2 35 = gs m 35 ∨ gs m2 35 = 0) (h3 : w = 3 → g = gs m 35 ∧ gs m 35 ≠ 0 ∧ ix = n ∧ n < n2) (h4 : w = 4 → ∀ i, pg m i → ga m 2 i = 4 → ga m 4 i ≠ g) : UQ m2 n2 := by
  obtain ⟨eN, ne, hp⟩ := adp_pg d
  obtain ⟨_, a, ⟨⟨b2, b3, b4, b5, b6⟩, _⟩, _⟩ := d
  obtain ⟨u1, u2, u3⟩ := u
  refine ⟨fun i j hi hj k1 k2 k3 k4 => ?_, fun i j hi hj k1 k2 k3 => ?_, fun z i hi k1 k2 => ?_⟩
  · rcases (hp i).mp hi with y | y <;> rcases (hp j).mp hj with q | q
    · rw [y, q]
    · have f := (a j (ne j q)).1
      rw [y, b2] at k1
      rw [y, b4, f 4 (by decide) (by decide)] at k3
      rw [y, b3, f 3 (by decide) (by decide)] at k4
      rw [f 2 (by decide) (by decide)] at k2
      have t := h3 k1
      have := u3 t.2.1 j q k2 (by omega)
      omega
    · have f := (a i (ne i y)).1
      rw [q, b2] at k2
      rw [q, b4, f 4 (by decide) (by decide)] at k3
      rw [q, b3, f 3 (by decide) (by decide)] at k4
      rw [f 2 (by decide) (by decide)] at k1
      have t := h3 k2
      have := u3 t.2.1 i y k1 (by omega)
      omega
    · have f := (a i (ne i y)).1
      have g := (a j (ne j q)).1
      rw [f 2 (by decide) (by decide)] at k1
      rw [g 2 (by decide) (by decide)] at k2
      rw [f 4 (by decide) (by decide), g 4 (by decide) (by decide)] at k3
      rw [f 3 (by decide) (by decide), g 3 (by decide) (by decide)] at k4
      rw [f 5 (by decide) (by decide), g 5 (by decide) (by decide)]
      exact u1 i j y q k1 k2 k3 k4
  · rcases (hp i).mp hi with y | y <;> rcases (hp j).mp hj with q | q
    · rw [y, q]
    · have f := (a j (ne j q)).1
      rw [y, b2] at k1
      rw [y, b4, f 4 (by decide) (by decide)] at k3
      rw [f 2 (by decide) (by decide)] at k2
      exact absurd k3.symm (h4 k1 j q k2)
    · have f := (a i (ne i y)).1
      rw [q, b2] at k2
      rw [q, b4, f 4 (by decide) (by decide)] at k3
      rw [f 2 (by decide) (by decide)] at k1
      exact absurd k3 (h4 k2 i y k1)
    · have f := (a i (ne i y)).1
      have g := (a j (ne j q)).1
      rw [f 2 (by decide) (by decide)] at k1
      rw [g 2 (by decide) (by decide)] at k2
      rw [f 4 (by decide) (by decide), g 4 (by decide) (by decide)] at k3
      rw [f 5 (by decide) (by decide), g 5 (by decide) (by decide)]
      exact u2 i j y q k1 k2 k3
  · have z2 : gs m2 35 = gs m 35 := e35.resolve_right z
    rcases (hp i).mp hi with y | y
    · rw [y, b2] at k1
      rw [y, b3]
      have := h3 k1
      omega
    · have f := (a i (ne i y)).1
      rw [f 2 (by decide) (by decide)] at k1
      rw [f 4 (by decide) (by decide), z2] at k2
      rw [f 3 (by decide) (by decide)]
      have := u3 (by rw [← z2]; exact z) i y k1 k2
      omega

