/-! the class: the replay of recovery: what it makes, and contracts -/
def xLog (h : zH) (after i : Int) : Prop := (ga h 10 i = 2 ∨ ga h 10 i = 1 ∧ ga h 12 i = 0) ∧ after < ga h 13 i
/-- only the log's array and its size differ -/
def FL (h h2 : zH) : Prop := (∀ k, k ≠ 122 → gs h2 k = gs h k) ∧ ∀ c i, c ≠ 25 → ga h2 c i = ga h c i
theorem FL.rf (h : zH) : FL h h := ⟨fun _ _ => rfl, fun _ _ _ => rfl⟩
theorem FL.pa {h h2 : zH} (f : FL h h2) (i v : Int) : FL h (pa h2 25 i v) := ⟨f.1, fun c j hc => by rw [ga_pa, if_neg (fun z => hc z.1)]; exact f.2 c j hc⟩
/-- f lists, up to n, just the places below d with p -/
def Lq (p : Int → Prop) (n d : Int) (f : Int → Int) : Prop := (∀ j, 0 ≤ j → j < n → (0 ≤ f j ∧ f j < d) ∧ p (f j)) ∧ ∀ q, 0 ≤ q → q < d → p q → ∃ j, 0 ≤ j ∧ j < n ∧ f j = q
theorem Lq_c {p : Int → Prop} {n d : Int} {f g : Int → Int} (l : Lq p n d f) (e : ∀ j, 0 ≤ j → j < n → g j = f j) : Lq p n d g :=
  ⟨fun j j1 j2 => by rw [e j j1 j2]; exact l.1 j j1 j2, fun q q1 q2 q3 => by
    obtain ⟨j, j1, j2, j3⟩ := l.2 q q1 q2 q3
    exact ⟨j, j1, j2, by rw [e j j1 j2]; exact j3⟩⟩
theorem Lq_swap {p : Int → Prop} {n d : Int} {f g : Int → Int} {a b : Int} (l : Lq p n d f) (a1 : 0 ≤ a) (a2 : a < n) (b1 : 0 ≤ b) (b2 : b < n) (ea : g a = f b) (eb : g b = f a) (e : ∀ j, j ≠ a → j ≠ b → g j = f j) : Lq p n d g := by
  refine ⟨fun j j1 j2 => ?_, fun q q1 q2 q3 => ?_⟩
  · by_cases ja : j = a
    · rw [ja, ea]; exact l.1 b b1 b2
    · by_cases jb : j = b
      · rw [jb, eb]; exact l.1 a a1 a2
      · rw [e j ja jb]; exact l.1 j j1 j2
  · obtain ⟨j, j1, j2, j3⟩ := l.2 q q1 q2 q3
    by_cases ja : j = a
    · exact ⟨b, b1, b2, by rw [eb, ← ja]; exact j3⟩
    · by_cases jb : j = b
      · exact ⟨a, a1, a2, by rw [ea, ← jb]; exact j3⟩
      · exact ⟨j, j1, j2, by rw [e j ja jb]; exact j3⟩
theorem Lq_push {p : Int → Prop} {n d : Int} {f g : Int → Int} (l : Lq p n d f) (n0 : 0 ≤ n) (d0 : 0 ≤ d) (pd : p d) (e : ∀ j, j ≠ n → g j = f j) (en : g n = d) : Lq p (n + 1) (d + 1) g := by
  refine ⟨fun j j1 j2 => ?_, fun q q1 q2 q3 => ?_⟩
  · by_cases jn : j = n
    · rw [jn, en]; exact ⟨by omega, pd⟩
    · rw [e j jn]
      have r := l.1 j j1 (by omega)
      exact ⟨by omega, r.2⟩
  · by_cases qd : q = d
    · exact ⟨n, n0, by omega, by rw [en, qd]⟩
    · obtain ⟨j, j1, j2, j3⟩ := l.2 q q1 (by omega) q3
      exact ⟨j, j1, by omega, by rw [e j (by omega)]; exact j3⟩
theorem Lq_skip {p : Int → Prop} {n d : Int} {f : Int → Int} (l : Lq p n d f) (pd : ¬ p d) : Lq p n (d + 1) f := by
  refine ⟨fun j j1 j2 => ?_, fun q q1 q2 q3 => ?_⟩
  · have r := l.1 j j1 j2
    exact ⟨by omega, r.2⟩
  · by_cases qd : q = d
    · rw [qd] at q3; exact absurd q3 pd
    · exact l.2 q q1 (by omega) q3
set_option maxRecDepth 100000 in
theorem L_X5_gather {h0 : zH} (hb : XB h0) {a1 : Int} (r1 : -2147483648 ≤ a1 ∧ a1 < 2147483648) (Q : zH → Prop) (hQ : ∀ h, FL h0 h → 0 ≤ gs h 122 → gs h 122 ≤ gs h0 72 → Lq (xLog h0 a1) (gs h 122) (gs h0 72) (ga h 25) → Q h) : ∀ (n : Nat) (h : zH) (i : Int), FL h0 h → 0 ≤ i → i + n = gs h0 72 → 0 ≤ gs h 122 → gs h 122 ≤ i → Lq (xLog h0 a1) (gs h 122) i (ga h 25) → zX cX zNo RX5 cX5_gather 6 none rX5_gather 7 [some (.ref 6), some (.ref 3), some (.int (iI a1)), some (.int (iI i)), none, none] [] h (zEv cX Q) := by
  have m7 := xb_size hb
  intro n
  induction n with
  | zero =>
    intro h i f i1 i2 s1 s2 l
    have e72 := f.1 72 (by decide)
    have ei : i = gs h0 72 := by omega
    refine zx_iload_n (pc := 7) dX5_gather_7 rfl rfl ?_
    refine zx_aload_n (pc := 8) dX5_gather_8 rfl rfl ?_
    refine zg_X5_54 (pc := 9) dX5_gather_9 ?_
    refine zx_icmp_ge (pc := 12) (tgt := 92) dX5_gather_12 (by decide) (fun o => by first | exact o.1 _ (by decide) | exact o.2 _ _ | omega) (fun _ => by omega) (fun c12 => ?_) (fun c12 => absurd c12 (by omega))
    refine zx_vret (pc := 92) dX5_gather_92 ?_
    rw [ei] at l
    exact hQ h f s1 (by omega) l
  | succ n ih =>
    intro h i f i1 i2 s1 s2 l
    have e72 := f.1 72 (by decide)
    have e10 := f.2 10 i (by decide)
    have e12 := f.2 12 i (by decide)
    have e13 := f.2 13 i (by decide)
    have no (z : ¬ xLog h0 a1 i) : zX cX zNo RX5 cX5_gather 6 none rX5_gather 7 [some (.ref 6), some (.ref 3), some (.int (iI a1)), some (.int (iI (i + 1))), none, none] [] h (zEv cX Q) := ih h (i + 1) f (by omega) (by omega) s1 (by omega) (Lq_skip l z)
    have ye (z : xLog h0 a1 i) : zX cX zNo RX5 cX5_gather 6 none rX5_gather 7 [some (.ref 6), some (.ref 3), some (.int (iI a1)), some (.int (iI (i + 1))), none, none] [] (ps (pa h 25 (gs h 122) i) 122 (gs h 122 + 1)) (zEv cX Q) := by
      refine ih _ (i + 1) ⟨fun k hk => ?_, fun c j hc => ?_⟩ (by omega) (by omega) ?_ ?_ ?_
      · rw [gs_ps, if_neg hk]; exact f.1 k hk
      · rw [ga_ps, ga_pa, if_neg (fun z => hc z.1)]; exact f.2 c j hc
      · show 0 ≤ gs h 122 + 1
        omega
      · show gs h 122 + 1 ≤ i + 1
        omega
      · exact Lq_push l s1 i1 z (fun j hj => by rw [ga_ps, ga_pa, if_neg (fun z => hj z.2)]) (by rw [ga_ps, ga_pa, if_pos ⟨rfl, rfl⟩])
    refine zx_iload_n (pc := 7) dX5_gather_7 rfl rfl ?_
    refine zx_aload_n (pc := 8) dX5_gather_8 rfl rfl ?_
    refine zg_X5_54 (pc := 9) dX5_gather_9 ?_
    refine zx_icmp_ge (pc := 12) (tgt := 92) dX5_gather_12 (by decide) (fun o => by first | exact o.1 _ (by decide) | exact o.2 _ _ | omega) (fun _ => by omega) (fun c12 => absurd c12 (by omega)) (fun c12 => ?_)
    refine zx_aload_n (pc := 15) dX5_gather_15 rfl rfl ?_
    refine zg_X5_35 (pc := 16) dX5_gather_16 ?_
    refine zx_iload_n (pc := 19) dX5_gather_19 rfl rfl ?_
    refine zx_iaload (pc := 20) aX1_kind dX5_gather_20 (by omega) (by omega) (by omega) ?_
    refine zx_istore (pc := 21) dX5_gather_21 (by decide) rfl ?_
    refine zx_iload (pc := 23) dX5_gather_23 rfl ?_
    refine zx_iconst (pc := 25) dX5_gather_25 ?_
    refine zx_icmp_eq (pc := 26) (tgt := 44) dX5_gather_26 (by decide) (fun o => by first | exact o.1 _ (by decide) | exact o.2 _ _ | omega) (fun o => by first | exact o.1 _ (by decide) | exact o.2 _ _ | omega) (fun c26 => ?_) (fun c26 => ?_)
    · skip
      refine zx_iconst (pc := 44) dX5_gather_44 ?_
      refine zx_goto (pc := 45) (tgt := 49) dX5_gather_45 (by decide) ?_
      refine zx_istore (pc := 49) dX5_gather_49 (by decide) rfl ?_
      refine zx_iload (pc := 51) dX5_gather_51 rfl ?_
      refine zx_if_eq (pc := 53) (tgt := 86) dX5_gather_53 (by decide) (fun _ => by decide) (fun c9 => absurd c9 (by decide)) (fun _ => ?_)
      refine zx_aload_n (pc := 56) dX5_gather_56 rfl rfl ?_
      refine zg_X5_30 (pc := 57) dX5_gather_57 ?_
      refine zx_iload_n (pc := 60) dX5_gather_60 rfl rfl ?_
      refine zx_iaload (pc := 61) aX1_version dX5_gather_61 (by omega) (by omega) (by omega) ?_
      refine zx_iload_n (pc := 62) dX5_gather_62 rfl rfl ?_
      refine zx_icmp_le (pc := 63) (tgt := 86) dX5_gather_63 (by decide) (fun o => by first | exact o.1 _ (by decide) | exact o.2 _ _ | omega) (fun o => by first | exact o.1 _ (by decide) | exact o.2 _ _ | omega) (fun c63 => ?_) (fun c63 => ?_)
      · skip
        refine zx_iinc (pc := 86) dX5_gather_86 (by decide) rfl rfl ?_
        refine zx_goto (pc := 89) (tgt := 7) dX5_gather_89 (by decide) ?_
        refine zx_sub [true, true, true, true, false, false] ?_
        dsimp only [zMask, List.set]
        first
        | exact ye (by unfold xLog; omega)
        | exact no (by unfold xLog; omega)
      · skip
        refine zx_aload_n (pc := 66) dX5_gather_66 rfl rfl ?_
        refine zg_X5_9 (pc := 67) dX5_gather_67 ?_
        refine zx_aload_n (pc := 70) dX5_gather_70 rfl rfl ?_
        refine zg_X5_26 (pc := 71) dX5_gather_71 ?_
        refine zx_iload_n (pc := 74) dX5_gather_74 rfl rfl ?_
        refine zx_iastore (pc := 75) aX5_log dX5_gather_75 (by omega) (by omega) (by omega) (fun o => by first | exact o.1 _ (by decide) | exact o.2 _ _ | omega) ?_
        refine zx_aload_n (pc := 76) dX5_gather_76 rfl rfl ?_
        refine zx_dup (pc := 77) dX5_gather_77 rfl ?_
        refine zg_X5_26 (pc := 78) dX5_gather_78 ?_
        refine zx_iconst (pc := 81) dX5_gather_81 ?_
        refine zx_iadd (pc := 82) dX5_gather_82 ?_
        refine zp_X5_26 (pc := 83) dX5_gather_83 (fun _ => by show -2147483648 ≤ gs h 122 + 1 ∧ gs h 122 + 1 < 2147483648; omega) ?_
        refine zx_iinc (pc := 86) dX5_gather_86 (by decide) rfl rfl ?_
        refine zx_goto (pc := 89) (tgt := 7) dX5_gather_89 (by decide) ?_
        refine zx_sub [true, true, true, true, false, false] ?_
        dsimp only [zMask, List.set]
        first
        | exact ye (by unfold xLog; omega)
        | exact no (by unfold xLog; omega)
    · skip
      refine zx_iload (pc := 29) dX5_gather_29 rfl ?_
      refine zx_iconst (pc := 31) dX5_gather_31 ?_
      refine zx_icmp_ne (pc := 32) (tgt := 48) dX5_gather_32 (by decide) (fun o => by first | exact o.1 _ (by decide) | exact o.2 _ _ | omega) (fun o => by first | exact o.1 _ (by decide) | exact o.2 _ _ | omega) (fun c32 => ?_) (fun c32 => ?_)
      · skip
        refine zx_iconst (pc := 48) dX5_gather_48 ?_
        refine zx_istore (pc := 49) dX5_gather_49 (by decide) rfl ?_
        refine zx_iload (pc := 51) dX5_gather_51 rfl ?_
        refine zx_if_eq (pc := 53) (tgt := 86) dX5_gather_53 (by decide) (fun _ => by decide) (fun _ => ?_) (fun c9 => absurd c9 (by decide))
        refine zx_iinc (pc := 86) dX5_gather_86 (by decide) rfl rfl ?_
        refine zx_goto (pc := 89) (tgt := 7) dX5_gather_89 (by decide) ?_
        refine zx_sub [true, true, true, true, false, false] ?_
        dsimp only [zMask, List.set]
        first
        | exact ye (by unfold xLog; omega)
        | exact no (by unfold xLog; omega)
      · skip
        refine zx_aload_n (pc := 35) dX5_gather_35 rfl rfl ?_
        refine zg_X5_47 (pc := 36) dX5_gather_36 ?_
        refine zx_iload_n (pc := 39) dX5_gather_39 rfl rfl ?_
        refine zx_iaload (pc := 40) aX1_group dX5_gather_40 (by omega) (by omega) (by omega) ?_
        refine zx_if_ne (pc := 41) (tgt := 48) dX5_gather_41 (by decide) (fun o => by first | exact o.1 _ (by decide) | exact o.2 _ _ | omega) (fun c41 => ?_) (fun c41 => ?_)
        · skip
          refine zx_iconst (pc := 48) dX5_gather_48 ?_
          refine zx_istore (pc := 49) dX5_gather_49 (by decide) rfl ?_
          refine zx_iload (pc := 51) dX5_gather_51 rfl ?_
          refine zx_if_eq (pc := 53) (tgt := 86) dX5_gather_53 (by decide) (fun _ => by decide) (fun _ => ?_) (fun c9 => absurd c9 (by decide))
          refine zx_iinc (pc := 86) dX5_gather_86 (by decide) rfl rfl ?_
          refine zx_goto (pc := 89) (tgt := 7) dX5_gather_89 (by decide) ?_
          refine zx_sub [true, true, true, true, false, false] ?_
          dsimp only [zMask, List.set]
          first
          | exact ye (by unfold xLog; omega)
          | exact no (by unfold xLog; omega)
        · skip
          refine zx_iconst (pc := 44) dX5_gather_44 ?_
          refine zx_goto (pc := 45) (tgt := 49) dX5_gather_45 (by decide) ?_
          refine zx_istore (pc := 49) dX5_gather_49 (by decide) rfl ?_
          refine zx_iload (pc := 51) dX5_gather_51 rfl ?_
          refine zx_if_eq (pc := 53) (tgt := 86) dX5_gather_53 (by decide) (fun _ => by decide) (fun c9 => absurd c9 (by decide)) (fun _ => ?_)
          refine zx_aload_n (pc := 56) dX5_gather_56 rfl rfl ?_
          refine zg_X5_30 (pc := 57) dX5_gather_57 ?_
          refine zx_iload_n (pc := 60) dX5_gather_60 rfl rfl ?_
          refine zx_iaload (pc := 61) aX1_version dX5_gather_61 (by omega) (by omega) (by omega) ?_
          refine zx_iload_n (pc := 62) dX5_gather_62 rfl rfl ?_
          refine zx_icmp_le (pc := 63) (tgt := 86) dX5_gather_63 (by decide) (fun o => by first | exact o.1 _ (by decide) | exact o.2 _ _ | omega) (fun o => by first | exact o.1 _ (by decide) | exact o.2 _ _ | omega) (fun c63 => ?_) (fun c63 => ?_)
          · skip
            refine zx_iinc (pc := 86) dX5_gather_86 (by decide) rfl rfl ?_
            refine zx_goto (pc := 89) (tgt := 7) dX5_gather_89 (by decide) ?_
            refine zx_sub [true, true, true, true, false, false] ?_
            dsimp only [zMask, List.set]
            first
            | exact ye (by unfold xLog; omega)
            | exact no (by unfold xLog; omega)
          · skip
            refine zx_aload_n (pc := 66) dX5_gather_66 rfl rfl ?_
            refine zg_X5_9 (pc := 67) dX5_gather_67 ?_
            refine zx_aload_n (pc := 70) dX5_gather_70 rfl rfl ?_
            refine zg_X5_26 (pc := 71) dX5_gather_71 ?_
            refine zx_iload_n (pc := 74) dX5_gather_74 rfl rfl ?_
            refine zx_iastore (pc := 75) aX5_log dX5_gather_75 (by omega) (by omega) (by omega) (fun o => by first | exact o.1 _ (by decide) | exact o.2 _ _ | omega) ?_
            refine zx_aload_n (pc := 76) dX5_gather_76 rfl rfl ?_
            refine zx_dup (pc := 77) dX5_gather_77 rfl ?_
            refine zg_X5_26 (pc := 78) dX5_gather_78 ?_
            refine zx_iconst (pc := 81) dX5_gather_81 ?_
            refine zx_iadd (pc := 82) dX5_gather_82 ?_
            refine zp_X5_26 (pc := 83) dX5_gather_83 (fun _ => by show -2147483648 ≤ gs h 122 + 1 ∧ gs h 122 + 1 < 2147483648; omega) ?_
            refine zx_iinc (pc := 86) dX5_gather_86 (by decide) rfl rfl ?_
            refine zx_goto (pc := 89) (tgt := 7) dX5_gather_89 (by decide) ?_
            refine zx_sub [true, true, true, true, false, false] ?_
            dsimp only [zMask, List.set]
            first
            | exact ye (by unfold xLog; omega)
            | exact no (by unfold xLog; omega)
set_option maxRecDepth 100000 in
theorem C_X5_gather {h : zH} (hb : XB h) {a1 : Int} (r1 : -2147483648 ≤ a1 ∧ a1 < 2147483648) : kX5_gather a1 h (fun h2 => FL h h2 ∧ 0 ≤ gs h2 122 ∧ gs h2 122 ≤ gs h 72 ∧ Lq (xLog h a1) (gs h2 122) (gs h 72) (ga h2 25)) := by
  have m7 := xb_size hb
  apply eX5_gather
  refine zx_aload_n (pc := 0) dX5_gather_0 rfl rfl ?_
  refine zx_iconst (pc := 1) dX5_gather_1 ?_
  refine zp_X5_26 (pc := 2) dX5_gather_2 (fun o => by first | exact o.1 _ (by decide) | exact o.2 _ _ | omega) ?_
  refine zx_iconst (pc := 5) dX5_gather_5 ?_
  refine zx_istore_n (pc := 6) dX5_gather_6 rfl (by decide) rfl ?_
  refine L_X5_gather hb r1 _ (fun h2 a b c d => ⟨a, b, c, d⟩) (gs h 72).toNat (ps h 122 0) 0 ⟨fun k hk => by rw [gs_ps, if_neg hk], fun _ _ _ => rfl⟩ (Int.le_refl _) (by omega) (Int.le_refl _) (Int.le_refl _) ⟨fun j j1 j2 => ?_, fun q q1 q2 => by omega⟩
  have j3 : j < 0 := j2
  omega
/-- sorted up to n by v -/
def Sd (v : Int → Int) (n : Int) (f : Int → Int) : Prop := ∀ a b, 0 ≤ a → a < b → b < n → v (f a) ≤ v (f b)
/-- sorted up to i, but for the hole at o, which x is to fill -/
def So (v : Int → Int) (i o x : Int) (f : Int → Int) : Prop := (∀ a b, 0 ≤ a → a < b → b ≤ i → a ≠ o → b ≠ o → v (f a) ≤ v (f b)) ∧ ∀ b, o < b → b ≤ i → v x ≤ v (f b)
set_option maxRecDepth 100000 in
theorem L1_X5_sort {h0 : zH} (hb : XB h0) {P : Int → Prop} {N g i pl : Int} (g1 : 1 ≤ g) (g2 : g ≤ 1024) (i1 : 0 ≤ i) (i2 : i < N) (hN : N ≤ gs h0 72) (p1 : 0 ≤ pl) (p2 : pl < gs h0 72) (E : zF) (k : ∀ h, FL h0 h → gs h 122 = N → Lq P N (gs h0 72) (ga h 25) → (g = 1 → Sd (ga h0 13) (i + 1) (ga h 25)) → zX cX zNo RX5 cX5_sortByVersion 6 none rX5_sortByVersion 13 [some (.ref 6), some (.ref 3), some (.int (iI g)), some (.int (iI (i + 1))), none, none] [] h E) : ∀ (n : Nat) (h : zH) (o : Int), 0 ≤ o → o ≤ i → o < n → FL h0 h → gs h 122 = N → Lq P N (gs h0 72) (ga (pa h 25 o pl) 25) → (g = 1 → So (ga h0 13) i o pl (ga h 25)) → zX cX zNo RX5 cX5_sortByVersion 6 none rX5_sortByVersion 32 [some (.ref 6), some (.ref 3), some (.int (iI g)), some (.int (iI i)), some (.int (iI pl)), some (.int (iI o))] [] h E := by
  have m7 := xb_size hb
  intro n
  induction n with
  | zero => intro h o o1 o2 o3; omega
  | succ n ih =>
    intro h o o1 o2 o3 f e l sd
    have ev (j : Int) := f.2 13 j (by decide)
    have fin (z : o < g ∨ ga h0 13 (ga h 25 (o - g)) ≤ ga h0 13 pl) : zX cX zNo RX5 cX5_sortByVersion 6 none rX5_sortByVersion 13 [some (.ref 6), some (.ref 3), some (.int (iI g)), some (.int (iI (i + 1))), none, none] [] (pa h 25 o pl) E := by
      refine k _ (f.pa o pl) e l (fun ge => ?_)
      obtain ⟨q1, q2⟩ := sd ge
      have key : ∀ a, 0 ≤ a → a < o → ga h0 13 (ga h 25 a) ≤ ga h0 13 pl := by
        intro a a1 a2
        rcases z with z | z
        · omega
        · rw [ge] at z
          by_cases q : a = o - 1
          · rw [q]; exact z
          · have r := q1 a (o - 1) a1 (by omega) (by omega) (by omega) (by omega)
            omega
      intro a b a1 a2 a3
      rw [ga_pa, ga_pa]
      by_cases qa : a = o
      · rw [if_pos ⟨rfl, qa⟩, if_neg (by omega)]
        exact q2 b (by omega) (by omega)
      · rw [if_neg (fun z => qa z.2)]
        by_cases qb : b = o
        · rw [if_pos ⟨rfl, qb⟩]
          exact key a a1 (by omega)
        · rw [if_neg (fun z => qb z.2)]
          exact q1 a b a1 a2 (by omega) qa qb
    refine zx_iload (pc := 32) dX5_sortByVersion_32 rfl ?_
    refine zx_iload_n (pc := 34) dX5_sortByVersion_34 rfl rfl ?_
    refine zx_icmp_lt (pc := 35) (tgt := 87) dX5_sortByVersion_35 (by decide) (fun o => by first | exact o.1 _ (by decide) | exact o.2 _ _ | omega) (fun o => by first | exact o.1 _ (by decide) | exact o.2 _ _ | omega) (fun c35 => ?_) (fun c35 => ?_)
    · skip
      refine zx_aload_n (pc := 87) dX5_sortByVersion_87 rfl rfl ?_
      refine zg_X5_9 (pc := 88) dX5_sortByVersion_88 ?_
      refine zx_iload (pc := 91) dX5_sortByVersion_91 rfl ?_
      refine zx_iload (pc := 93) dX5_sortByVersion_93 rfl ?_
      refine zx_iastore (pc := 95) aX5_log dX5_sortByVersion_95 (by omega) (by omega) (by omega) (fun _ => by omega) ?_
      refine zx_iinc (pc := 96) dX5_sortByVersion_96 (by decide) rfl rfl ?_
      refine zx_goto (pc := 99) (tgt := 13) dX5_sortByVersion_99 (by decide) ?_
      refine zx_sub [true, true, true, true, false, false] ?_
      dsimp only [zMask, List.set]
      exact fin (by omega)
    · skip
      have lr := (l.1 (o - g) (by omega) (by omega)).1
      rw [ga_pa, if_neg (by omega)] at lr
      refine zx_aload_n (pc := 38) dX5_sortByVersion_38 rfl rfl ?_
      refine zg_X5_30 (pc := 39) dX5_sortByVersion_39 ?_
      refine zx_aload_n (pc := 42) dX5_sortByVersion_42 rfl rfl ?_
      refine zg_X5_9 (pc := 43) dX5_sortByVersion_43 ?_
      refine zx_iload (pc := 46) dX5_sortByVersion_46 rfl ?_
      refine zx_iload_n (pc := 48) dX5_sortByVersion_48 rfl rfl ?_
      refine zx_isub (pc := 49) dX5_sortByVersion_49 ?_
      refine zx_iaload (pc := 50) aX5_log dX5_sortByVersion_50 (by omega) (by omega) (by omega) ?_
      refine zx_iaload (pc := 51) aX1_version dX5_sortByVersion_51 (by omega) (by omega) (by omega) ?_
      refine zx_aload_n (pc := 52) dX5_sortByVersion_52 rfl rfl ?_
      refine zg_X5_30 (pc := 53) dX5_sortByVersion_53 ?_
      refine zx_iload (pc := 56) dX5_sortByVersion_56 rfl ?_
      refine zx_iaload (pc := 58) aX1_version dX5_sortByVersion_58 (by omega) (by omega) (by omega) ?_
      refine zx_icmp_le (pc := 59) (tgt := 87) dX5_sortByVersion_59 (by decide) (fun o => by first | exact o.1 _ (by decide) | exact o.2 _ _ | omega) (fun o => by first | exact o.1 _ (by decide) | exact o.2 _ _ | omega) (fun c59 => ?_) (fun c59 => ?_)
      · skip
        rw [ev, ev] at c59
        refine zx_aload_n (pc := 87) dX5_sortByVersion_87 rfl rfl ?_
        refine zg_X5_9 (pc := 88) dX5_sortByVersion_88 ?_
        refine zx_iload (pc := 91) dX5_sortByVersion_91 rfl ?_
        refine zx_iload (pc := 93) dX5_sortByVersion_93 rfl ?_
        refine zx_iastore (pc := 95) aX5_log dX5_sortByVersion_95 (by omega) (by omega) (by omega) (fun _ => by omega) ?_
        refine zx_iinc (pc := 96) dX5_sortByVersion_96 (by decide) rfl rfl ?_
        refine zx_goto (pc := 99) (tgt := 13) dX5_sortByVersion_99 (by decide) ?_
        refine zx_sub [true, true, true, true, false, false] ?_
        dsimp only [zMask, List.set]
        exact fin (by omega)
      · skip
        rw [ev, ev] at c59
        refine zx_aload_n (pc := 62) dX5_sortByVersion_62 rfl rfl ?_
        refine zg_X5_9 (pc := 63) dX5_sortByVersion_63 ?_
        refine zx_iload (pc := 66) dX5_sortByVersion_66 rfl ?_
        refine zx_aload_n (pc := 68) dX5_sortByVersion_68 rfl rfl ?_
        refine zg_X5_9 (pc := 69) dX5_sortByVersion_69 ?_
        refine zx_iload (pc := 72) dX5_sortByVersion_72 rfl ?_
        refine zx_iload_n (pc := 74) dX5_sortByVersion_74 rfl rfl ?_
        refine zx_isub (pc := 75) dX5_sortByVersion_75 ?_
        refine zx_iaload (pc := 76) aX5_log dX5_sortByVersion_76 (by omega) (by omega) (by omega) ?_
        refine zx_iastore (pc := 77) aX5_log dX5_sortByVersion_77 (by omega) (by omega) (by omega) (fun o => o.2 _ _) ?_
        refine zx_iload (pc := 78) dX5_sortByVersion_78 rfl ?_
        refine zx_iload_n (pc := 80) dX5_sortByVersion_80 rfl rfl ?_
        refine zx_isub (pc := 81) dX5_sortByVersion_81 ?_
        refine zx_istore (pc := 82) dX5_sortByVersion_82 (by decide) rfl ?_
        refine zx_goto (pc := 84) (tgt := 32) dX5_sortByVersion_84 (by decide) ?_
        refine ih (pa h 25 o (ga h 25 (o - g))) (o - g) (by omega) (by omega) (by omega) (f.pa _ _) e ?_ (fun ge => ?_)
        · refine Lq_swap l (a := o) (b := o - g) o1 (by omega) (by omega) (by omega) ?_ ?_ ?_
          · rw [ga_pa, if_neg (by omega), ga_pa, if_pos ⟨rfl, rfl⟩, ga_pa, if_neg (by omega)]
          · rw [ga_pa, if_pos ⟨rfl, rfl⟩, ga_pa, if_pos ⟨rfl, rfl⟩]
          · intro j j1 j2
            rw [ga_pa, if_neg (by omega), ga_pa, if_neg (by omega), ga_pa, if_neg (by omega)]
        · obtain ⟨q1, q2⟩ := sd ge
          rw [ge] at c59 ⊢
          refine ⟨fun a b a1 a2 a3 a4 a5 => ?_, fun b b1 b2 => ?_⟩
          · rw [ga_pa, ga_pa]
            by_cases qa : a = o
            · rw [if_pos ⟨rfl, qa⟩, if_neg (by omega)]
              exact q1 (o - 1) b (by omega) (by omega) a3 (by omega) (by omega)
            · rw [if_neg (fun z => qa z.2)]
              by_cases qb : b = o
              · rw [if_pos ⟨rfl, qb⟩]
                exact q1 a (o - 1) a1 (by omega) (by omega) qa (by omega)
              · rw [if_neg (fun z => qb z.2)]
                exact q1 a b a1 a2 a3 qa qb
          · rw [ga_pa]
            by_cases qb : b = o
            · rw [if_pos ⟨rfl, qb⟩]
              omega
            · rw [if_neg (fun z => qb z.2)]
              exact q2 b (by omega) b2
set_option maxRecDepth 100000 in
theorem L2_X5_sort {h0 : zH} (hb : XB h0) {P : Int → Prop} {N g : Int} (g1 : 1 ≤ g) (g2 : g ≤ 1024) (hN : N ≤ gs h0 72) (E : zF) (k : ∀ h i, FL h0 h → gs h 122 = N → Lq P N (gs h0 72) (ga h 25) → (g = 1 → Sd (ga h0 13) N (ga h 25)) → zX cX zNo RX5 cX5_sortByVersion 6 none rX5_sortByVersion 102 [some (.ref 6), some (.ref 3), some (.int (iI g)), some (.int (iI i)), none, none] [] h E) : ∀ (n : Nat) (h : zH) (i : Int), 0 ≤ i → i ≤ 1024 → i + n = 1025 → FL h0 h → gs h 122 = N → Lq P N (gs h0 72) (ga h 25) → (g = 1 → Sd (ga h0 13) i (ga h 25)) → zX cX zNo RX5 cX5_sortByVersion 6 none rX5_sortByVersion 13 [some (.ref 6), some (.ref 3), some (.int (iI g)), some (.int (iI i)), none, none] [] h E := by
  have m7 := xb_size hb
  intro n
  induction n with
  | zero => intro h i i1 i2 i3; omega
  | succ n ih =>
    intro h i i1 i2 i3 f e l sd
    have fin (z : N ≤ i) (ge : g = 1) : Sd (ga h0 13) N (ga h 25) := fun a b a1 a2 a3 => sd ge a b a1 a2 (by omega)
    refine zx_iload_n (pc := 13) dX5_sortByVersion_13 rfl rfl ?_
    refine zx_aload_n (pc := 14) dX5_sortByVersion_14 rfl rfl ?_
    refine zg_X5_26 (pc := 15) dX5_sortByVersion_15 ?_
    refine zx_icmp_ge (pc := 18) (tgt := 102) dX5_sortByVersion_18 (by decide) (fun o => by first | exact o.1 _ (by decide) | exact o.2 _ _ | omega) (fun o => by first | exact o.1 _ (by decide) | exact o.2 _ _ | omega) (fun c18 => ?_) (fun c18 => ?_)
    · skip
      refine zx_sub [true, true, true, true, false, false] ?_
      dsimp only [zMask, List.set]
      exact k h i f e l (fin (by omega))
    · skip
      have lr := (l.1 i (by omega) (by omega)).1
      refine zx_aload_n (pc := 21) dX5_sortByVersion_21 rfl rfl ?_
      refine zg_X5_9 (pc := 22) dX5_sortByVersion_22 ?_
      refine zx_iload_n (pc := 25) dX5_sortByVersion_25 rfl rfl ?_
      refine zx_iaload (pc := 26) aX5_log dX5_sortByVersion_26 (by omega) (by omega) (by omega) ?_
      refine zx_istore (pc := 27) dX5_sortByVersion_27 (by decide) rfl ?_
      refine zx_iload_n (pc := 29) dX5_sortByVersion_29 rfl rfl ?_
      refine zx_istore (pc := 30) dX5_sortByVersion_30 (by decide) rfl ?_
      refine L1_X5_sort hb (P := P) g1 g2 i1 (by omega) hN lr.1 lr.2 E (fun h2 f2 e2 l2 s2 => ?_) 1025 h i i1 (Int.le_refl _) (by omega) f e ?_ (fun ge => ⟨fun a b a1 a2 a3 a4 a5 => sd ge a b a1 a2 (by omega), fun b b1 b2 => by omega⟩)
      · exact ih h2 (i + 1) (by omega) (by omega) (by omega) f2 e2 l2 s2
      · refine Lq_c l (fun j j1 j2 => ?_)
        rw [ga_pa]
        by_cases q : j = i
        · rw [if_pos ⟨rfl, q⟩, q]
        · rw [if_neg (fun z => q z.2)]
set_option maxRecDepth 100000 in
theorem L3_X5_sort {h0 : zH} (hb : XB h0) {P : Int → Prop} {N : Int} (hN : N ≤ gs h0 72) (Q : zH → Prop) (hQ : ∀ h, FL h0 h → gs h 122 = N → Lq P N (gs h0 72) (ga h 25) → Sd (ga h0 13) N (ga h 25) → Q h) : ∀ (n : Nat) (h : zH) (g : Int), 0 ≤ g → g ≤ 1024 → g < n → FL h0 h → gs h 122 = N → Lq P N (gs h0 72) (ga h 25) → (g = 0 → Sd (ga h0 13) N (ga h 25)) → zX cX zNo RX5 cX5_sortByVersion 6 none rX5_sortByVersion 7 [some (.ref 6), some (.ref 3), some (.int (iI g)), none, none, none] [] h (zEv cX Q) := by
  intro n
  induction n with
  | zero => intro h g g1 g2 g3; omega
  | succ n ih =>
    intro h g g1 g2 g3 f e l sd
    refine zx_iload_n (pc := 7) dX5_sortByVersion_7 rfl rfl ?_
    refine zx_if_le (pc := 8) (tgt := 109) dX5_sortByVersion_8 (by decide) (fun o => by first | exact o.1 _ (by decide) | exact o.2 _ _ | omega) (fun c8 => ?_) (fun c8 => ?_)
    · skip
      refine zx_vret (pc := 109) dX5_sortByVersion_109 ?_
      exact hQ h f e l (sd (by omega))
    · skip
      refine zx_iload_n (pc := 11) dX5_sortByVersion_11 rfl rfl ?_
      refine zx_istore_n (pc := 12) dX5_sortByVersion_12 rfl (by decide) rfl ?_
      refine zx_sub [true, true, true, true, false, false] ?_
      dsimp only [zMask, List.set]
      refine L2_X5_sort hb (P := P) (by omega) g2 hN (zEv cX Q) (fun h2 i2 f2 e2 l2 s2 => ?_) (1025 - g.toNat) h g g1 g2 (by omega) f e l (fun ge a b a1 a2 a3 => by omega)
      refine zx_iload_n (pc := 102) dX5_sortByVersion_102 rfl rfl ?_
      refine zx_iconst (pc := 103) dX5_sortByVersion_103 ?_
      refine zx_idiv (pc := 104) dX5_sortByVersion_104 (by omega) (by omega) (by omega) (by omega) ?_
      refine zx_istore_n (pc := 105) dX5_sortByVersion_105 rfl (by decide) rfl ?_
      refine zx_goto (pc := 106) (tgt := 7) dX5_sortByVersion_106 (by decide) ?_
      refine zx_sub [true, true, true, false, false, false] ?_
      dsimp only [zMask, List.set]
      exact ih h2 (g / 2) (by omega) (by omega) (by omega) f2 e2 l2 (fun z => s2 (by omega))
set_option maxRecDepth 100000 in
theorem C_X5_sortByVersion {h0 h : zH} (hb : XB h0) {P : Int → Prop} (f : FL h0 h) (s1 : 0 ≤ gs h 122) (s2 : gs h 122 ≤ gs h0 72) (l : Lq P (gs h 122) (gs h0 72) (ga h 25)) : kX5_sortByVersion h (fun h2 => FL h0 h2 ∧ gs h2 122 = gs h 122 ∧ Lq P (gs h 122) (gs h0 72) (ga h2 25) ∧ Sd (ga h0 13) (gs h 122) (ga h2 25)) := by
  have m7 := xb_size hb
  apply eX5_sortByVersion
  refine zx_aload_n (pc := 0) dX5_sortByVersion_0 rfl rfl ?_
  refine zg_X5_26 (pc := 1) dX5_sortByVersion_1 ?_
  refine zx_iconst (pc := 4) dX5_sortByVersion_4 ?_
  refine zx_idiv (pc := 5) dX5_sortByVersion_5 (by omega) (by omega) (by omega) (by omega) ?_
  refine zx_istore_n (pc := 6) dX5_sortByVersion_6 rfl (by decide) rfl ?_
  exact L3_X5_sort hb (P := P) s2 (fun h2 => FL h0 h2 ∧ gs h2 122 = gs h 122 ∧ Lq P (gs h 122) (gs h0 72) (ga h2 25) ∧ Sd (ga h0 13) (gs h 122) (ga h2 25)) (fun h2 a b c d => ⟨a, b, c, d⟩) 1025 h (gs h 122 / 2) (by omega) (by omega) (by omega) f rfl l (fun z a b a1 a2 a3 => by omega)
noncomputable def x_acL : Nat → zH → Int → Int → zH
  | 0, h, _, _ => h
  | n + 1, h, t, i => x_acL n (ifp (ga h 10 i = 1 ∧ ga h 12 i = t ∧ 0 ≤ ga h 11 i ∧ ga h 11 i < 64) (pa h 26 (ga h 11 i) (if ga h 26 (ga h 11 i) < ga h 13 i then ga h 13 i else ga h 26 (ga h 11 i))) h) t (i + 1)
def x_ac3 (h : zH) (n : Int) : zH := (h.1, fun c j => if c = 21 ∧ 0 ≤ j ∧ j < n ∧ j < gs h 104 ∧ 0 < h.2 26 j then h.2 26 j else h.2 c j)
theorem ga_xac3 (h : zH) (n : Int) (c : Nat) (j : Int) : ga (x_ac3 h n) c j = if c = 21 ∧ 0 ≤ j ∧ j < n ∧ j < gs h 104 ∧ 0 < ga h 26 j then ga h 26 j else ga h c j := rfl
noncomputable def x_ac (h : zH) (t : Int) : zH := x_ac3 (x_acL (gs h 72).toNat (prr h 26 0 64 0) t 0) 64
/-- only the table's versions and the replay's arrays differ -/
def FA (h h2 : zH) : Prop := (∀ k, gs h2 k = gs h k) ∧ ∀ c i, c ≠ 21 → c ≠ 26 → ga h2 c i = ga h c i
theorem FA.rf (h : zH) : FA h h := ⟨fun _ => rfl, fun _ _ _ _ => rfl⟩
theorem FA.tr {a b c : zH} (f : FA a b) (g : FA b c) : FA a c := ⟨fun k => (g.1 k).trans (f.1 k), fun c i h1 h2 => (g.2 c i h1 h2).trans (f.2 c i h1 h2)⟩
theorem FA_acL : ∀ (n : Nat) (h : zH) (t i : Int), FA h (x_acL n h t i)
  | 0, h, _, _ => FA.rf h
  | n + 1, h, t, i => by
    rw [x_acL]
    refine FA.tr ?_ (FA_acL n _ t (i + 1))
    rcases Classical.em (ga h 10 i = 1 ∧ ga h 12 i = t ∧ 0 ≤ ga h 11 i ∧ ga h 11 i < 64) with c | c
    · rw [ifp_t c]
      exact ⟨fun _ => rfl, fun c j h1 h2 => by rw [ga_pa, if_neg (fun z => h2 z.1)]⟩
    · rw [ifp_f c]
      exact FA.rf h
theorem FA_ac (h : zH) (t : Int) : FA h (x_ac h t) := by
  have f := FA_acL (gs h 72).toNat (prr h 26 0 64 0) t 0
  refine ⟨fun k => (f.1 k).trans rfl, fun c j h1 h2 => ?_⟩
  unfold x_ac
  rw [ga_xac3, if_neg (fun z => h1 z.1), f.2 c j h1 h2, ga_prr, if_neg (fun z => h2 z.1)]
set_option maxRecDepth 100000 in
theorem L1_X5_applyCommit {h0 : zH} {a1 : Int} (Q : zH → Prop) (k : ∀ i, zX cX zNo RX5 cX5_applyCommit 6 none rX5_applyCommit 24 [some (.ref 6), some (.ref 3), some (.ref 5), some (.int (iI a1)), some (.int (iI i)), none] [] (prr h0 26 0 64 0) (zEv cX Q)) : ∀ (n : Nat) (i : Int), 0 ≤ i → i ≤ 64 → 64 - i < n → zX cX zNo RX5 cX5_applyCommit 6 none rX5_applyCommit 3 [some (.ref 6), some (.ref 3), some (.ref 5), some (.int (iI a1)), some (.int (iI i)), none] [] (prr h0 26 0 i 0) (zEv cX Q) := by
  intro n
  induction n with
  | zero => intro i g1 g2 g3; omega
  | succ n ih =>
    intro i g1 g2 g3
    have e := prr_next h0 26 0 g1
    refine zx_iload (pc := 3) dX5_applyCommit_3 rfl ?_
    refine zx_bipush (pc := 5) dX5_applyCommit_5 (by decide +kernel) ?_
    refine zx_icmp_ge (pc := 7) (tgt := 24) dX5_applyCommit_7 (by decide) (fun o => by first | exact o.1 _ (by decide) | exact o.2 _ _ | omega) (fun o => by first | exact o.1 _ (by decide) | exact o.2 _ _ | omega) (fun c7 => ?_) (fun c7 => ?_)
    · skip
      have e2 : i = 64 := by omega
      rw [e2]
      exact k _
    · skip
      refine zx_aload_n (pc := 10) dX5_applyCommit_10 rfl rfl ?_
      refine zg_X5_15 (pc := 11) dX5_applyCommit_11 ?_
      refine zx_iload (pc := 14) dX5_applyCommit_14 rfl ?_
      refine zx_iconst (pc := 16) dX5_applyCommit_16 ?_
      refine zx_iastore (pc := 17) aX5_newest dX5_applyCommit_17 (by omega) (by omega) (by omega) (fun o => by first | exact o.1 _ (by decide) | exact o.2 _ _ | omega) ?_
      refine zx_iinc (pc := 18) dX5_applyCommit_18 (by decide) rfl rfl ?_
      refine zx_goto (pc := 21) (tgt := 3) dX5_applyCommit_21 (by decide) ?_
      rw [e]
      exact ih (i + 1) (by omega) (by omega) (by omega)
set_option maxRecDepth 100000 in
theorem L2_X5_applyCommit {a1 D : Int} (r1 : -2147483648 ≤ a1 ∧ a1 < 2147483648) (hD : D ≤ 1024) (Q : zH → Prop) : ∀ (n : Nat) (h : zH) (i : Int), gs h 72 = D → 0 ≤ i → i + n = D → (∀ j, zX cX zNo RX5 cX5_applyCommit 6 none rX5_applyCommit 109 [some (.ref 6), some (.ref 3), some (.ref 5), some (.int (iI a1)), some (.int (iI j)), none] [] (x_acL n h a1 i) (zEv cX Q)) → zX cX zNo RX5 cX5_applyCommit 6 none rX5_applyCommit 27 [some (.ref 6), some (.ref 3), some (.ref 5), some (.int (iI a1)), some (.int (iI i)), none] [] h (zEv cX Q) := by
  intro n
  induction n with
  | zero =>
    intro h i e g1 g2 k
    refine zx_iload (pc := 27) dX5_applyCommit_27 rfl ?_
    refine zx_aload_n (pc := 29) dX5_applyCommit_29 rfl rfl ?_
    refine zg_X5_54 (pc := 30) dX5_applyCommit_30 ?_
    refine zx_icmp_ge (pc := 33) (tgt := 109) dX5_applyCommit_33 (by decide) (fun o => by first | exact o.1 _ (by decide) | exact o.2 _ _ | omega) (fun o => by first | exact o.1 _ (by decide) | exact o.2 _ _ | omega) (fun c33 => ?_) (fun c33 => absurd c33 (by omega))
    exact k i
  | succ n ih =>
    intro h i e g1 g2 k
    rw [x_acL] at k
    have no (z : ¬ (ga h 10 i = 1 ∧ ga h 12 i = a1 ∧ 0 ≤ ga h 11 i ∧ ga h 11 i < 64)) : zX cX zNo RX5 cX5_applyCommit 6 none rX5_applyCommit 27 [some (.ref 6), some (.ref 3), some (.ref 5), some (.int (iI a1)), some (.int (iI (i + 1))), none] [] h (zEv cX Q) := by
      rw [ifp_f z] at k
      exact ih h (i + 1) e (by omega) (by omega) k
    have ye (z : ga h 10 i = 1 ∧ ga h 12 i = a1 ∧ 0 ≤ ga h 11 i ∧ ga h 11 i < 64) : zX cX zNo RX5 cX5_applyCommit 6 none rX5_applyCommit 27 [some (.ref 6), some (.ref 3), some (.ref 5), some (.int (iI a1)), some (.int (iI (i + 1))), none] [] (pa h 26 (ga h 11 i) (if ga h 26 (ga h 11 i) < ga h 13 i then ga h 13 i else ga h 26 (ga h 11 i))) (zEv cX Q) := by
      rw [ifp_t z] at k
      exact ih _ (i + 1) e (by omega) (by omega) k
    refine zx_ok (fun ok => ?_)
    have o1 := ok.2 13 i
    have o2 := ok.2 26 (ga h 11 i)
    refine zx_iload (pc := 27) dX5_applyCommit_27 rfl ?_
    refine zx_aload_n (pc := 29) dX5_applyCommit_29 rfl rfl ?_
    refine zg_X5_54 (pc := 30) dX5_applyCommit_30 ?_
    refine zx_icmp_ge (pc := 33) (tgt := 109) dX5_applyCommit_33 (by decide) (fun o => by first | exact o.1 _ (by decide) | exact o.2 _ _ | omega) (fun o => by first | exact o.1 _ (by decide) | exact o.2 _ _ | omega) (fun c33 => absurd c33 (by omega)) (fun c33 => ?_)
    refine zx_aload_n (pc := 36) dX5_applyCommit_36 rfl rfl ?_
    refine zg_X5_38 (pc := 37) dX5_applyCommit_37 ?_
    refine zx_iload (pc := 40) dX5_applyCommit_40 rfl ?_
    refine zx_iaload (pc := 42) aX1_index dX5_applyCommit_42 (by omega) (by omega) (by omega) ?_
    refine zx_istore (pc := 43) dX5_applyCommit_43 (by decide) rfl ?_
    refine zx_aload_n (pc := 45) dX5_applyCommit_45 rfl rfl ?_
    refine zg_X5_35 (pc := 46) dX5_applyCommit_46 ?_
    refine zx_iload (pc := 49) dX5_applyCommit_49 rfl ?_
    refine zx_iaload (pc := 51) aX1_kind dX5_applyCommit_51 (by omega) (by omega) (by omega) ?_
    refine zx_iconst (pc := 52) dX5_applyCommit_52 ?_
    refine zx_icmp_ne (pc := 53) (tgt := 103) dX5_applyCommit_53 (by decide) (fun o => by first | exact o.1 _ (by decide) | exact o.2 _ _ | omega) (fun o => by first | exact o.1 _ (by decide) | exact o.2 _ _ | omega) (fun c53 => ?_) (fun c53 => ?_)
    · skip
      refine zx_iinc (pc := 103) dX5_applyCommit_103 (by decide) rfl rfl ?_
      refine zx_goto (pc := 106) (tgt := 27) dX5_applyCommit_106 (by decide) ?_
      refine zx_sub [true, true, true, true, true, false] ?_
      dsimp only [zMask, List.set]
      first
      | exact ye ⟨by omega, by omega, by omega, by omega⟩
      | exact no (by omega)
    · skip
      refine zx_aload_n (pc := 56) dX5_applyCommit_56 rfl rfl ?_
      refine zg_X5_47 (pc := 57) dX5_applyCommit_57 ?_
      refine zx_iload (pc := 60) dX5_applyCommit_60 rfl ?_
      refine zx_iaload (pc := 62) aX1_group dX5_applyCommit_62 (by omega) (by omega) (by omega) ?_
      refine zx_iload_n (pc := 63) dX5_applyCommit_63 rfl rfl ?_
      refine zx_icmp_ne (pc := 64) (tgt := 103) dX5_applyCommit_64 (by decide) (fun o => by first | exact o.1 _ (by decide) | exact o.2 _ _ | omega) (fun o => by first | exact o.1 _ (by decide) | exact o.2 _ _ | omega) (fun c64 => ?_) (fun c64 => ?_)
      · skip
        refine zx_iinc (pc := 103) dX5_applyCommit_103 (by decide) rfl rfl ?_
        refine zx_goto (pc := 106) (tgt := 27) dX5_applyCommit_106 (by decide) ?_
        refine zx_sub [true, true, true, true, true, false] ?_
        dsimp only [zMask, List.set]
        first
        | exact ye ⟨by omega, by omega, by omega, by omega⟩
        | exact no (by omega)
      · skip
        refine zx_iload (pc := 67) dX5_applyCommit_67 rfl ?_
        refine zx_if_lt (pc := 69) (tgt := 103) dX5_applyCommit_69 (by decide) (fun o => by first | exact o.1 _ (by decide) | exact o.2 _ _ | omega) (fun c69 => ?_) (fun c69 => ?_)
        · skip
          refine zx_iinc (pc := 103) dX5_applyCommit_103 (by decide) rfl rfl ?_
          refine zx_goto (pc := 106) (tgt := 27) dX5_applyCommit_106 (by decide) ?_
          refine zx_sub [true, true, true, true, true, false] ?_
          dsimp only [zMask, List.set]
          first
          | exact ye ⟨by omega, by omega, by omega, by omega⟩
          | exact no (by omega)
        · skip
          refine zx_iload (pc := 72) dX5_applyCommit_72 rfl ?_
          refine zx_bipush (pc := 74) dX5_applyCommit_74 (by decide +kernel) ?_
          refine zx_icmp_ge (pc := 76) (tgt := 103) dX5_applyCommit_76 (by decide) (fun o => by first | exact o.1 _ (by decide) | exact o.2 _ _ | omega) (fun o => by first | exact o.1 _ (by decide) | exact o.2 _ _ | omega) (fun c76 => ?_) (fun c76 => ?_)
          · skip
            refine zx_iinc (pc := 103) dX5_applyCommit_103 (by decide) rfl rfl ?_
            refine zx_goto (pc := 106) (tgt := 27) dX5_applyCommit_106 (by decide) ?_
            refine zx_sub [true, true, true, true, true, false] ?_
            dsimp only [zMask, List.set]
            first
            | exact ye ⟨by omega, by omega, by omega, by omega⟩
            | exact no (by omega)
          · skip
            refine zx_aload_n (pc := 79) dX5_applyCommit_79 rfl rfl ?_
            refine zg_X5_15 (pc := 80) dX5_applyCommit_80 ?_
            refine zx_iload (pc := 83) dX5_applyCommit_83 rfl ?_
            refine zx_aload_n (pc := 85) dX5_applyCommit_85 rfl rfl ?_
            refine zg_X5_15 (pc := 86) dX5_applyCommit_86 ?_
            refine zx_iload (pc := 89) dX5_applyCommit_89 rfl ?_
            refine zx_iaload (pc := 91) aX5_newest dX5_applyCommit_91 (by omega) (by omega) (by omega) ?_
            refine zx_aload_n (pc := 92) dX5_applyCommit_92 rfl rfl ?_
            refine zg_X5_30 (pc := 93) dX5_applyCommit_93 ?_
            refine zx_iload (pc := 96) dX5_applyCommit_96 rfl ?_
            refine zx_iaload (pc := 98) aX1_version dX5_applyCommit_98 (by omega) (by omega) (by omega) ?_
            refine zx_mmax (pc := 99) dX5_applyCommit_99 zl_X5_57 zj_smax zj_ini zj_cmax (by decide) (Nat.le_of_ble_eq_true rfl) (fun o => by first | exact o.1 _ (by decide) | exact o.2 _ _ | omega) (fun o => by first | exact o.1 _ (by decide) | exact o.2 _ _ | omega) ?_
            refine zx_iastore (pc := 102) aX5_newest dX5_applyCommit_102 (by omega) (by omega) (by omega) (fun _ => by split; exact o1; exact o2) ?_
            refine zx_iinc (pc := 103) dX5_applyCommit_103 (by decide) rfl rfl ?_
            refine zx_goto (pc := 106) (tgt := 27) dX5_applyCommit_106 (by decide) ?_
            refine zx_sub [true, true, true, true, true, false] ?_
            dsimp only [zMask, List.set]
            first
            | exact ye ⟨by omega, by omega, by omega, by omega⟩
            | exact no (by omega)
theorem xac3_0 (h : zH) : x_ac3 h 0 = h := by
  apply zH_ext
  · intro k; rfl
  · intro c j
    rw [ga_xac3, if_neg (by omega)]
theorem xac3_n (h : zH) {i : Int} (z : ¬ 0 < ga h 26 i) : x_ac3 h i = x_ac3 h (i + 1) := by
  apply zH_ext
  · intro k; rfl
  · intro c j
    rw [ga_xac3, ga_xac3]
    by_cases q : j = i
    · subst q
      rw [if_neg (by omega), if_neg (by omega)]
    · by_cases w : c = 21 ∧ 0 ≤ j ∧ j < i ∧ j < gs h 104 ∧ 0 < ga h 26 j
      · rw [if_pos w, if_pos (by omega)]
      · rw [if_neg w, if_neg (by omega)]
theorem xac3_y (h : zH) {i : Int} (i0 : 0 ≤ i) (z : 0 < ga h 26 i) : x_setC (x_ac3 h i) i (ga h 26 i) = x_ac3 h (i + 1) := by
  unfold x_setC
  rcases Classical.em (xHas (x_ac3 h i) i) with c | c
  · rw [ifp_t c]
    have c2 : i < gs h 104 := c.2
    apply zH_ext
    · intro k; rfl
    · intro d j
      rw [ga_pa, ga_xac3, ga_xac3]
      by_cases q : d = 21 ∧ j = i
      · obtain ⟨q1, q2⟩ := q
        subst q2
        rw [if_pos ⟨q1, rfl⟩, if_pos (by omega)]
      · rw [if_neg q]
        by_cases w : d = 21 ∧ 0 ≤ j ∧ j < i ∧ j < gs h 104 ∧ 0 < ga h 26 j
        · rw [if_pos w, if_pos (by omega)]
        · rw [if_neg w, if_neg (by omega)]
  · rw [ifp_f c]
    have c2 : ¬ i < gs h 104 := fun y => c ⟨i0, y⟩
    apply zH_ext
    · intro k; rfl
    · intro d j
      rw [ga_xac3, ga_xac3]
      by_cases w : d = 21 ∧ 0 ≤ j ∧ j < i ∧ j < gs h 104 ∧ 0 < ga h 26 j
      · rw [if_pos w, if_pos (by omega)]
      · rw [if_neg w, if_neg (by omega)]
set_option maxRecDepth 100000 in
theorem L3_X5_applyCommit {h0 : zH} (ht : XT h0) {a1 : Int} : ∀ (n : Nat) (i : Int), 0 ≤ i → i ≤ 64 → 64 - i < n → zX cX zNo RX5 cX5_applyCommit 6 none rX5_applyCommit 112 [some (.ref 6), some (.ref 3), some (.ref 5), some (.int (iI a1)), some (.int (iI i)), none] [] (x_ac3 h0 i) (zEv cX (fun h2 => h2 = x_ac3 h0 64)) := by
  intro n
  induction n with
  | zero => intro i g1 g2 g3; omega
  | succ n ih =>
    intro i g1 g2 g3
    have e26 : ga (x_ac3 h0 i) 26 i = ga h0 26 i := by rw [ga_xac3, if_neg (by omega)]
    refine zx_ok (fun ok => ?_)
    refine zx_iload (pc := 112) dX5_applyCommit_112 rfl ?_
    refine zx_bipush (pc := 114) dX5_applyCommit_114 (by decide +kernel) ?_
    refine zx_icmp_ge (pc := 116) (tgt := 148) dX5_applyCommit_116 (by decide) (fun o => by first | exact o.1 _ (by decide) | exact o.2 _ _ | omega) (fun o => by first | exact o.1 _ (by decide) | exact o.2 _ _ | omega) (fun c116 => ?_) (fun c116 => ?_)
    · skip
      refine zx_vret (pc := 148) dX5_applyCommit_148 ?_
      have e2 : i = 64 := by omega
      rw [e2]
    · skip
      refine zx_aload_n (pc := 119) dX5_applyCommit_119 rfl rfl ?_
      refine zg_X5_15 (pc := 120) dX5_applyCommit_120 ?_
      refine zx_iload (pc := 123) dX5_applyCommit_123 rfl ?_
      refine zx_iaload (pc := 125) aX5_newest dX5_applyCommit_125 (by omega) (by omega) (by omega) ?_
      refine zx_if_le (pc := 126) (tgt := 142) dX5_applyCommit_126 (by decide) (fun o => by first | exact o.1 _ (by decide) | exact o.2 _ _ | omega) (fun c126 => ?_) (fun c126 => ?_)
      · skip
        rw [e26] at c126
        rw [xac3_n h0 (by omega)]
        refine zx_iinc (pc := 142) dX5_applyCommit_142 (by decide) rfl rfl ?_
        refine zx_goto (pc := 145) (tgt := 112) dX5_applyCommit_145 (by decide) ?_
        first
        | exact ih (i + 1) (by omega) (by omega) (by omega)
        | (rw [e26, xac3_y h0 g1 (by omega)]
           exact ih (i + 1) (by omega) (by omega) (by omega))
      · skip
        rw [e26] at c126
        refine zx_aload_n (pc := 129) dX5_applyCommit_129 rfl rfl ?_
        refine zx_iload (pc := 130) dX5_applyCommit_130 rfl ?_
        refine zx_aload_n (pc := 132) dX5_applyCommit_132 rfl rfl ?_
        refine zg_X5_15 (pc := 133) dX5_applyCommit_133 ?_
        refine zx_iload (pc := 136) dX5_applyCommit_136 rfl ?_
        refine zx_iaload (pc := 138) aX5_newest dX5_applyCommit_138 (by omega) (by omega) (by omega) ?_
        refine zi_X5_41 (pc := 139) dX5_applyCommit_139 (C_X4_setCommitted (h := x_ac3 h0 i) ht (by omega) (ok.2 26 i)) (by decide) (Nat.le_of_ble_eq_true rfl) (fun h139 q139 => ?_)
        rw [q139]
        clear q139 h139
        refine zx_iinc (pc := 142) dX5_applyCommit_142 (by decide) rfl rfl ?_
        refine zx_goto (pc := 145) (tgt := 112) dX5_applyCommit_145 (by decide) ?_
        first
        | exact ih (i + 1) (by omega) (by omega) (by omega)
        | (rw [e26, xac3_y h0 g1 (by omega)]
           exact ih (i + 1) (by omega) (by omega) (by omega))
set_option maxRecDepth 100000 in
theorem C_X5_applyCommit {h : zH} (hb : XB h) (ht : XT h) {a1 : Int} (r1 : -2147483648 ≤ a1 ∧ a1 < 2147483648) : kX5_applyCommit a1 h (fun h2 => h2 = x_ac h a1) := by
  have m7 := xb_size hb
  have f2 := FA_acL (gs h 72).toNat (prr h 26 0 64 0) a1 0
  have e104 : gs (x_acL (gs h 72).toNat (prr h 26 0 64 0) a1 0) 104 = gs h 104 := f2.1 104
  apply eX5_applyCommit
  refine zx_iconst (pc := 0) dX5_applyCommit_0 ?_
  refine zx_istore (pc := 1) dX5_applyCommit_1 (by decide) rfl ?_
  have r := L1_X5_applyCommit (h0 := h) (a1 := a1) (fun h2 => h2 = x_ac h a1) (fun i => ?_) 65 0 (Int.le_refl _) (by omega) (by omega)
  · rw [prr_0] at r
    exact r
  refine zx_iconst (pc := 24) dX5_applyCommit_24 ?_
  refine zx_istore (pc := 25) dX5_applyCommit_25 (by decide) rfl ?_
  refine L2_X5_applyCommit r1 (D := gs h 72) (by omega) _ (gs h 72).toNat (prr h 26 0 64 0) 0 rfl (Int.le_refl _) (by omega) (fun j => ?_)
  refine zx_iconst (pc := 109) dX5_applyCommit_109 ?_
  refine zx_istore (pc := 110) dX5_applyCommit_110 (by decide) rfl ?_
  have r := L3_X5_applyCommit (h0 := x_acL (gs h 72).toNat (prr h 26 0 64 0) a1 0) (by unfold XT; rw [e104]; exact ht) (a1 := a1) 65 0 (Int.le_refl _) (by omega) (by omega)
  rw [xac3_0] at r
  exact r
noncomputable def x_ap1 (h : zH) (pl : Int) : zH := ifp (ga h 10 pl = 1) (x_setC h (ga h 11 pl) (ga h 13 pl)) (x_ac h (ga h 12 pl))
noncomputable def x_apL : Nat → zH → Int → Int → Int → zH × Int
  | 0, h, _, _, c => (h, c)
  | n + 1, h, i, last, c => ifp (ga h 13 (ga h 25 i) ≠ last) (x_apL n (x_ap1 h (ga h 25 i)) (i + 1) (ga h 13 (ga h 25 i)) (c + 1)) (x_apL n h (i + 1) (ga h 13 (ga h 25 i)) c)
theorem FA_ap1 (h : zH) (pl : Int) : FA h (x_ap1 h pl) := by
  unfold x_ap1
  rcases Classical.em (ga h 10 pl = 1) with c | c
  · rw [ifp_t c]
    unfold x_setC
    rcases Classical.em (xHas h (ga h 11 pl)) with d | d
    · rw [ifp_t d]
      exact ⟨fun _ => rfl, fun c j h1 h2 => by rw [ga_pa, if_neg (fun z => h1 z.1)]⟩
    · rw [ifp_f d]; exact FA.rf h
  · rw [ifp_f c]
    exact FA_ac h _
set_option maxRecDepth 100000 in
theorem L_X5_apply {h0 : zH} (hb : XB h0) (ht : XT h0) {a1 N : Int} (n1 : N = gs h0 122) (n2 : N ≤ 1024) (lr : ∀ j, 0 ≤ j → j < N → 0 ≤ ga h0 25 j ∧ ga h0 25 j < gs h0 72) (Q : Int → zH → Prop) : ∀ (n : Nat) (h : zH) (i last c : Int), FA h0 h → 0 ≤ i → i + n = N → 0 ≤ c → c ≤ i → (-2147483648 ≤ last ∧ last < 2147483648) → Q (x_apL n h i last c).2 (x_apL n h i last c).1 → zX cX zNo RX5 cX5_apply 9 (some .int) rX5_apply 20 [some (.ref 6), some (.ref 3), some (.ref 5), some (.int (iI a1)), some (.int (iI c)), some (.int (iI last)), some (.int (iI i)), none, none] [] h (zEi cX Q) := by
  have m7 := xb_size hb
  intro n
  induction n with
  | zero =>
    intro h i last c f i1 i2 c1 c2 r hQ
    have e := f.1 122
    refine zx_iload (pc := 20) dX5_apply_20 rfl ?_
    refine zx_aload_n (pc := 22) dX5_apply_22 rfl rfl ?_
    refine zg_X5_26 (pc := 23) dX5_apply_23 ?_
    refine zx_icmp_ge (pc := 26) (tgt := 107) dX5_apply_26 (by decide) (fun o => by first | exact o.1 _ (by decide) | exact o.2 _ _ | omega) (fun o => by first | exact o.1 _ (by decide) | exact o.2 _ _ | omega) (fun c26 => ?_) (fun c26 => absurd c26 (by omega))
    refine zx_iload (pc := 107) dX5_apply_107 rfl ?_
    refine zx_iret (pc := 109) dX5_apply_109 (fun o => by first | exact o.1 _ (by decide) | exact o.2 _ _ | omega) ?_
    exact hQ
  | succ n ih =>
    intro h i last c f i1 i2 c1 c2 r hQ
    have e := f.1 122
    have e104 := f.1 104
    have e25 := f.2 25 i (by decide) (by decide)
    have q := lr i i1 (by omega)
    rw [← e25] at q
    have e70 := f.1 70
    have e71 := f.1 71
    have e72 := f.1 72
    have hb1 : XB h := by unfold XB; rw [e70, e71, e72]; exact hb
    have ht1 : XT h := by unfold XT; rw [e104]; exact ht
    rw [x_apL] at hQ
    refine zx_ok (fun ok => ?_)
    have o13 := ok.2 13 (ga h 25 i)
    refine zx_iload (pc := 20) dX5_apply_20 rfl ?_
    refine zx_aload_n (pc := 22) dX5_apply_22 rfl rfl ?_
    refine zg_X5_26 (pc := 23) dX5_apply_23 ?_
    refine zx_icmp_ge (pc := 26) (tgt := 107) dX5_apply_26 (by decide) (fun o => by first | exact o.1 _ (by decide) | exact o.2 _ _ | omega) (fun o => by first | exact o.1 _ (by decide) | exact o.2 _ _ | omega) (fun c26 => absurd c26 (by omega)) (fun c26 => ?_)
    refine zx_aload_n (pc := 29) dX5_apply_29 rfl rfl ?_
    refine zg_X5_9 (pc := 30) dX5_apply_30 ?_
    refine zx_iload (pc := 33) dX5_apply_33 rfl ?_
    refine zx_iaload (pc := 35) aX5_log dX5_apply_35 (by omega) (by omega) (by omega) ?_
    refine zx_istore (pc := 36) dX5_apply_36 (by decide) rfl ?_
    refine zx_aload_n (pc := 38) dX5_apply_38 rfl rfl ?_
    refine zg_X5_30 (pc := 39) dX5_apply_39 ?_
    refine zx_iload (pc := 42) dX5_apply_42 rfl ?_
    refine zx_iaload (pc := 44) aX1_version dX5_apply_44 (by omega) (by omega) (by omega) ?_
    refine zx_istore (pc := 45) dX5_apply_45 (by decide) rfl ?_
    refine zx_iload (pc := 47) dX5_apply_47 rfl ?_
    refine zx_iload (pc := 49) dX5_apply_49 rfl ?_
    refine zx_icmp_eq (pc := 51) (tgt := 97) dX5_apply_51 (by decide) (fun _ => o13) (fun o => by first | exact o.1 _ (by decide) | exact o.2 _ _ | omega) (fun c51 => ?_) (fun c51 => ?_)
    · skip
      rw [ifp_f (fun z => z c51)] at hQ
      refine zx_iload (pc := 97) dX5_apply_97 rfl ?_
      refine zx_istore (pc := 99) dX5_apply_99 (by decide) rfl ?_
      refine zx_iinc (pc := 101) dX5_apply_101 (by decide) rfl rfl ?_
      refine zx_goto (pc := 104) (tgt := 20) dX5_apply_104 (by decide) ?_
      refine zx_sub [true, true, true, true, true, true, true, false, false] ?_
      dsimp only [zMask, List.set]
      first
      | (rw [ea] at hQ
         have fa := FA_ap1 h (ga h 25 i)
         rw [ea] at fa
         exact ih _ (i + 1) _ (c + 1) (f.tr fa) (by omega) (by omega) (by omega) (by omega) o13 hQ)
      | exact ih h (i + 1) _ c f (by omega) (by omega) (by omega) (by omega) o13 hQ
    · skip
      rw [ifp_t c51] at hQ
      refine zx_iinc (pc := 54) dX5_apply_54 (by decide) rfl rfl ?_
      refine zx_aload_n (pc := 57) dX5_apply_57 rfl rfl ?_
      refine zg_X5_35 (pc := 58) dX5_apply_58 ?_
      refine zx_iload (pc := 61) dX5_apply_61 rfl ?_
      refine zx_iaload (pc := 63) aX1_kind dX5_apply_63 (by omega) (by omega) (by omega) ?_
      refine zx_iconst (pc := 64) dX5_apply_64 ?_
      refine zx_icmp_ne (pc := 65) (tgt := 84) dX5_apply_65 (by decide) (fun o => by first | exact o.1 _ (by decide) | exact o.2 _ _ | omega) (fun o => by first | exact o.1 _ (by decide) | exact o.2 _ _ | omega) (fun c65 => ?_) (fun c65 => ?_)
      · skip
        have ea : x_ap1 h (ga h 25 i) = x_ac h (ga h 12 (ga h 25 i)) := ifp_f c65
        refine zx_aload_n (pc := 84) dX5_apply_84 rfl rfl ?_
        refine zx_aload_n (pc := 85) dX5_apply_85 rfl rfl ?_
        refine zx_aload_n (pc := 86) dX5_apply_86 rfl rfl ?_
        refine zx_aload_n (pc := 87) dX5_apply_87 rfl rfl ?_
        refine zg_X5_47 (pc := 88) dX5_apply_88 ?_
        refine zx_iload (pc := 91) dX5_apply_91 rfl ?_
        refine zx_iaload (pc := 93) aX1_group dX5_apply_93 (by omega) (by omega) (by omega) ?_
        refine zi_X5_50 (pc := 94) dX5_apply_94 (C_X5_applyCommit hb1 ht1 (ok.2 12 _)) (by decide) (Nat.le_of_ble_eq_true rfl) (fun h94 q94 => ?_)
        rw [q94]
        clear q94 h94
        refine zx_iload (pc := 97) dX5_apply_97 rfl ?_
        refine zx_istore (pc := 99) dX5_apply_99 (by decide) rfl ?_
        refine zx_iinc (pc := 101) dX5_apply_101 (by decide) rfl rfl ?_
        refine zx_goto (pc := 104) (tgt := 20) dX5_apply_104 (by decide) ?_
        refine zx_sub [true, true, true, true, true, true, true, false, false] ?_
        dsimp only [zMask, List.set]
        first
        | (rw [ea] at hQ
           have fa := FA_ap1 h (ga h 25 i)
           rw [ea] at fa
           exact ih _ (i + 1) _ (c + 1) (f.tr fa) (by omega) (by omega) (by omega) (by omega) o13 hQ)
        | exact ih h (i + 1) _ c f (by omega) (by omega) (by omega) (by omega) o13 hQ
      · skip
        have ea : x_ap1 h (ga h 25 i) = x_setC h (ga h 11 (ga h 25 i)) (ga h 13 (ga h 25 i)) := ifp_t c65
        refine zx_aload_n (pc := 68) dX5_apply_68 rfl rfl ?_
        refine zx_aload_n (pc := 69) dX5_apply_69 rfl rfl ?_
        refine zg_X5_38 (pc := 70) dX5_apply_70 ?_
        refine zx_iload (pc := 73) dX5_apply_73 rfl ?_
        refine zx_iaload (pc := 75) aX1_index dX5_apply_75 (by omega) (by omega) (by omega) ?_
        refine zx_iload (pc := 76) dX5_apply_76 rfl ?_
        refine zi_X5_41 (pc := 78) dX5_apply_78 (C_X4_setCommitted ht1 (ok.2 11 _) (ok.2 13 _)) (by decide) (Nat.le_of_ble_eq_true rfl) (fun h78 q78 => ?_)
        rw [q78]
        clear q78 h78
        refine zx_goto (pc := 81) (tgt := 97) dX5_apply_81 (by decide) ?_
        refine zx_iload (pc := 97) dX5_apply_97 rfl ?_
        refine zx_istore (pc := 99) dX5_apply_99 (by decide) rfl ?_
        refine zx_iinc (pc := 101) dX5_apply_101 (by decide) rfl rfl ?_
        refine zx_goto (pc := 104) (tgt := 20) dX5_apply_104 (by decide) ?_
        refine zx_sub [true, true, true, true, true, true, true, false, false] ?_
        dsimp only [zMask, List.set]
        first
        | (rw [ea] at hQ
           have fa := FA_ap1 h (ga h 25 i)
           rw [ea] at fa
           exact ih _ (i + 1) _ (c + 1) (f.tr fa) (by omega) (by omega) (by omega) (by omega) o13 hQ)
        | exact ih h (i + 1) _ c f (by omega) (by omega) (by omega) (by omega) o13 hQ
/-- the log that apply works by: the places of the pages that are to be applied, by their versions -/
def xLogOf (h : zH) (after : Int) (h1 : zH) : Prop := FL h h1 ∧ 0 ≤ gs h1 122 ∧ gs h1 122 ≤ gs h 72 ∧ Lq (xLog h after) (gs h1 122) (gs h 72) (ga h1 25) ∧ Sd (ga h 13) (gs h1 122) (ga h1 25)
set_option maxRecDepth 100000 in
theorem C_X5_apply {h : zH} (hb : XB h) (ht : XT h) {a1 : Int} (r1 : -2147483648 ≤ a1 ∧ a1 < 2147483648) : kX5_apply a1 h (fun r h2 => ∃ h1, xLogOf h a1 h1 ∧ r = (x_apL (gs h1 122).toNat h1 0 0 0).2 ∧ h2 = (x_apL (gs h1 122).toNat h1 0 0 0).1) := by
  have m7 := xb_size hb
  apply eX5_apply
  refine zx_aload_n (pc := 0) dX5_apply_0 rfl rfl ?_
  refine zx_aload_n (pc := 1) dX5_apply_1 rfl rfl ?_
  refine zx_iload_n (pc := 2) dX5_apply_2 rfl rfl ?_
  refine zi_X5_18 (pc := 3) dX5_apply_3 (C_X5_gather hb r1) (by decide) (Nat.le_of_ble_eq_true rfl) (fun h3 q3 => ?_)
  obtain ⟨g1, g2, g3, g4⟩ := q3
  refine zx_aload_n (pc := 6) dX5_apply_6 rfl rfl ?_
  refine zx_aload_n (pc := 7) dX5_apply_7 rfl rfl ?_
  refine zi_X5_22 (pc := 8) dX5_apply_8 (C_X5_sortByVersion hb g1 g2 g3 g4) (by decide) (Nat.le_of_ble_eq_true rfl) (fun h8 q8 => ?_)
  obtain ⟨w1, w2, w3, w4⟩ := q8
  rw [← w2] at w3 w4 g2 g3
  refine zx_iconst (pc := 11) dX5_apply_11 ?_
  refine zx_istore (pc := 12) dX5_apply_12 (by decide) rfl ?_
  refine zx_iconst (pc := 14) dX5_apply_14 ?_
  refine zx_istore (pc := 15) dX5_apply_15 (by decide) rfl ?_
  refine zx_iconst (pc := 17) dX5_apply_17 ?_
  refine zx_istore (pc := 18) dX5_apply_18 (by decide) rfl ?_
  have e70 := w1.1 70 (by decide)
  have e71 := w1.1 71 (by decide)
  have e72 := w1.1 72 (by decide)
  have e104 := w1.1 104 (by decide)
  refine L_X5_apply (h0 := h8) (by unfold XB; rw [e70, e71, e72]; exact hb) (by unfold XT; rw [e104]; exact ht) rfl (by omega) (fun j j1 j2 => by rw [e72]; exact (w3.1 j j1 j2).1) _ (gs h8 122).toNat h8 0 0 0 (FA.rf _) (Int.le_refl _) (by omega) (Int.le_refl _) (Int.le_refl _) (by decide) ?_
  exact ⟨h8, ⟨w1, g2, g3, w3, w4⟩, rfl, rfl⟩

