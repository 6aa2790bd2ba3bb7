/-! the reference: feed and format -/
def bv (v s : Int) : Int := ((iI v >>> (iI s &&& 31)) &&& iI 255).toInt
def m_bt1 (h : zH) (v s : Int) : zH := ps (pa h 16 (gs h 41) (bv v s)) 41 (gs h 41 + 1)
def m_append (h : zH) (v : Int) : zH := m_bt1 (m_bt1 (m_bt1 (m_bt1 h v 24) v 16) v 8) v 0
set_option maxRecDepth 100000 in
theorem L_X7_append {h : zH} {a1 s : Int} (s1 : 0 ≤ s) (s2 : s ≤ 24) (b1 : 0 ≤ gs h 41) (b2 : gs h 41 < 600) (E : zF) (k : zX cM zNo RX7 cX7_append 3 none rX7_append 3 [some (.ref 0), some (.int (iI a1)), some (.int (iI (s - 8)))] [] (m_bt1 h a1 s) E) : zX cM zNo RX7 cX7_append 3 none rX7_append 3 [some (.ref 0), some (.int (iI a1)), some (.int (iI s))] [] h E := by
  refine zx_iload_n (pc := 3) dX7_append_3 rfl rfl ?_
  refine zx_if_lt (pc := 4) (tgt := 41) dX7_append_4 (by decide) (fun o => by first | exact o.1 _ (by decide) | exact o.2 _ _ | omega) (fun c4 => absurd c4 (by omega)) (fun c4 => ?_)
  refine zx_aload_n (pc := 7) dX7_append_7 rfl rfl ?_
  refine zg_X7_60 (pc := 8) dX7_append_8 ?_
  refine zx_aload_n (pc := 11) dX7_append_11 rfl rfl ?_
  refine zg_X7_135 (pc := 12) dX7_append_12 ?_
  refine zx_iload_n (pc := 15) dX7_append_15 rfl rfl ?_
  refine zx_iload_n (pc := 16) dX7_append_16 rfl rfl ?_
  refine zx_ishr (pc := 17) dX7_append_17 rfl ?_
  refine zx_sipush (pc := 18) dX7_append_18 (by decide +kernel) ?_
  refine zx_iand (pc := 21) dX7_append_21 (iI_asI _).symm ?_
  refine zx_iastore (pc := 22) aX7_buffer dX7_append_22 (by omega) (by omega) (by omega) (fun _ => zrng _) ?_
  refine zx_aload_n (pc := 23) dX7_append_23 rfl rfl ?_
  refine zx_aload_n (pc := 24) dX7_append_24 rfl rfl ?_
  refine zg_X7_135 (pc := 25) dX7_append_25 ?_
  refine zx_iconst (pc := 28) dX7_append_28 ?_
  refine zx_iadd (pc := 29) dX7_append_29 ?_
  refine zp_X7_135 (pc := 30) dX7_append_30 (fun _ => by show -2147483648 ≤ gs h 41 + 1 ∧ gs h 41 + 1 < 2147483648; omega) ?_
  refine zx_iload_n (pc := 33) dX7_append_33 rfl rfl ?_
  refine zx_bipush (pc := 34) dX7_append_34 (by decide +kernel) ?_
  refine zx_isub (pc := 36) dX7_append_36 ?_
  refine zx_istore_n (pc := 37) dX7_append_37 rfl (by decide) rfl ?_
  refine zx_goto (pc := 38) (tgt := 3) dX7_append_38 (by decide) ?_
  exact k
theorem zx_app8 {h : zH} {a1 : Int} (k : zX cM zNo RX7 cX7_append 3 none rX7_append 3 [some (.ref 0), some (.int (iI a1)), some (.int (iI (-8)))] [] (m_append h a1) (zEv cM (fun h2 => h2 = m_append h a1))) : zX cM zNo RX7 cX7_append 3 none rX7_append 3 [some (.ref 0), some (.int (iI a1)), some (.int (iI (0 - 8)))] [] (m_bt1 (m_bt1 (m_bt1 (m_bt1 h a1 24) a1 16) a1 8) a1 0) (zEv cM (fun h2 => h2 = m_append h a1)) := k
set_option maxRecDepth 100000 in
theorem C_X7_append {h : zH} {a1 : Int} (b1 : 0 ≤ gs h 41) (b2 : gs h 41 + 4 ≤ 600) : kX7_append a1 h (fun h2 => h2 = m_append h a1) := by
  apply eX7_append
  refine zx_bipush (pc := 0) dX7_append_0 (by decide +kernel) ?_
  refine zx_istore_n (pc := 2) dX7_append_2 rfl (by decide) rfl ?_
  refine L_X7_append (by decide) (by decide) b1 (by omega) _ ?_
  refine L_X7_append (h := m_bt1 h a1 24) (s := 16) (by decide) (by decide) (by show 0 ≤ gs h 41 + 1; omega) (by show gs h 41 + 1 < 600; omega) _ ?_
  refine L_X7_append (h := m_bt1 (m_bt1 h a1 24) a1 16) (s := 8) (by decide) (by decide) (by show 0 ≤ gs h 41 + 1 + 1; omega) (by show gs h 41 + 1 + 1 < 600; omega) _ ?_
  refine L_X7_append (h := m_bt1 (m_bt1 (m_bt1 h a1 24) a1 16) a1 8) (s := 0) (by decide) (by decide) (by show 0 ≤ gs h 41 + 1 + 1 + 1; omega) (by show gs h 41 + 1 + 1 + 1 < 600; omega) _ ?_
  refine zx_app8 ?_
  refine zx_iload_n (pc := 3) dX7_append_3 rfl rfl ?_
  refine zx_if_lt (pc := 4) (tgt := 41) dX7_append_4 (by decide) (fun o => by first | exact o.1 _ (by decide) | exact o.2 _ _ | omega) (fun c4 => ?_) (fun c4 => absurd c4 (by decide))
  refine zx_vret (pc := 41) dX7_append_41 ?_
  rfl
theorem m_append_41 (h : zH) (v : Int) : gs (m_append h v) 41 = gs h 41 + 4 := by
  show gs h 41 + 1 + 1 + 1 + 1 = gs h 41 + 4
  omega
def m_feed5 (h : zH) (a b c d e : Int) : zH := m_append (m_append (m_append (m_append (m_append h a) b) c) d) e
noncomputable def m_feed (h : zH) (a b c d e : Int) : zH × Int := ifp (600 < gs h 41 + 20) (ps h 0 1, 0) (m_feed5 (ps h 0 0) a b c d e, gs (m_feed5 (ps h 0 0) a b c d e) 41)
set_option maxRecDepth 100000 in
theorem C_X7_feed {h : zH} (b1 : 0 ≤ gs h 41) (b2 : gs h 41 ≤ 600) {a1 a2 a3 a4 a5 : Int} : kX7_feed a1 a2 a3 a4 a5 h (fun r h2 => r = (m_feed h a1 a2 a3 a4 a5).2 ∧ h2 = (m_feed h a1 a2 a3 a4 a5).1) := by
  have e41 : gs (ps h 0 0) 41 = gs h 41 := rfl
  have w1 := m_append_41 (ps h 0 0) a1
  have w2 := m_append_41 (m_append (ps h 0 0) a1) a2
  have w3 := m_append_41 (m_append (m_append (ps h 0 0) a1) a2) a3
  have w4 := m_append_41 (m_append (m_append (m_append (ps h 0 0) a1) a2) a3) a4
  apply eX7_feed
  unfold m_feed
  refine zx_aload_n (pc := 0) dX7_feed_0 rfl rfl ?_
  refine zx_iconst (pc := 1) dX7_feed_1 ?_
  refine zp_X7_69 (pc := 2) dX7_feed_2 (fun o => by first | exact o.1 _ (by decide) | exact o.2 _ _ | omega) ?_
  refine zx_aload_n (pc := 5) dX7_feed_5 rfl rfl ?_
  refine zg_X7_135 (pc := 6) dX7_feed_6 ?_
  refine zx_bipush (pc := 9) dX7_feed_9 (by decide +kernel) ?_
  refine zx_iadd (pc := 11) dX7_feed_11 ?_
  refine zx_sipush (pc := 12) dX7_feed_12 (by decide +kernel) ?_
  refine zx_icmp_le (pc := 15) (tgt := 24) dX7_feed_15 (by decide) (fun _ => by omega) (fun o => by first | exact o.1 _ (by decide) | exact o.2 _ _ | omega) (fun c15 => ?_) (fun c15 => ?_)
  · skip
    rw [e41] at c15
    rw [ifp_f (by omega)]
    refine zx_aload_n (pc := 24) dX7_feed_24 rfl rfl ?_
    refine zx_iload_n (pc := 25) dX7_feed_25 rfl rfl ?_
    refine zi_X7_141 (pc := 26) dX7_feed_26 (C_X7_append (h := ps h 0 0) (by omega) (by omega)) (by decide) (Nat.le_of_ble_eq_true rfl) (fun h26 q26 => ?_)
    rw [q26]
    clear q26 h26
    refine zx_aload_n (pc := 29) dX7_feed_29 rfl rfl ?_
    refine zx_iload_n (pc := 30) dX7_feed_30 rfl rfl ?_
    refine zi_X7_141 (pc := 31) dX7_feed_31 (C_X7_append (by omega) (by omega)) (by decide) (Nat.le_of_ble_eq_true rfl) (fun h31 q31 => ?_)
    rw [q31]
    clear q31 h31
    refine zx_aload_n (pc := 34) dX7_feed_34 rfl rfl ?_
    refine zx_iload_n (pc := 35) dX7_feed_35 rfl rfl ?_
    refine zi_X7_141 (pc := 36) dX7_feed_36 (C_X7_append (by omega) (by omega)) (by decide) (Nat.le_of_ble_eq_true rfl) (fun h36 q36 => ?_)
    rw [q36]
    clear q36 h36
    refine zx_aload_n (pc := 39) dX7_feed_39 rfl rfl ?_
    refine zx_iload (pc := 40) dX7_feed_40 rfl ?_
    refine zi_X7_141 (pc := 42) dX7_feed_42 (C_X7_append (by omega) (by omega)) (by decide) (Nat.le_of_ble_eq_true rfl) (fun h42 q42 => ?_)
    rw [q42]
    clear q42 h42
    refine zx_aload_n (pc := 45) dX7_feed_45 rfl rfl ?_
    refine zx_iload (pc := 46) dX7_feed_46 rfl ?_
    refine zi_X7_141 (pc := 48) dX7_feed_48 (C_X7_append (by omega) (by omega)) (by decide) (Nat.le_of_ble_eq_true rfl) (fun h48 q48 => ?_)
    rw [q48]
    clear q48 h48
    refine zx_aload_n (pc := 51) dX7_feed_51 rfl rfl ?_
    refine zg_X7_135 (pc := 52) dX7_feed_52 ?_
    refine zx_iret (pc := 55) dX7_feed_55 (fun o => by first | exact o.1 _ (by decide) | exact o.2 _ _ | omega) ?_
    exact ⟨rfl, rfl⟩
  · skip
    rw [e41] at c15
    rw [ifp_t (by omega)]
    refine zx_aload_n (pc := 18) dX7_feed_18 rfl rfl ?_
    refine zx_iconst (pc := 19) dX7_feed_19 ?_
    refine zi_X7_138 (pc := 20) dX7_feed_20 (C_X7_refuse2 (by decide)) (by decide) (Nat.le_of_ble_eq_true rfl) (fun z20 h20 u20 v20 q20 => ?_)
    obtain ⟨rfl, e20⟩ := q20
    rw [e20]
    clear e20 h20
    refine zx_iret (pc := 23) dX7_feed_23 (fun o => by first | exact o.1 _ (by decide) | exact o.2 _ _ | omega) ?_
    exact ⟨rfl, ps_ps _ _ _ _⟩
theorem MS_anew {h : zH} (b : MB h) : MS (m_anew h) (fun _ => 0) := by
  have hk (i : Int) (i1 : 0 ≤ i) (i2 : i < 1024) : ga (m_anew h) 2 i = 0 := by
    rw [show ga (m_anew h) 2 i = ga (prr (prr (m_forgets h) 2 0 1024 0) 9 0 32 0) 2 i from rfl, ga_prr, if_neg (by omega), ga_prr, if_pos (by omega)]
  have m7 := mb_size b.1 b.2.1 b.2.2.1 b.2.2.2.1
  refine ⟨b, fun i i1 i2 => ?_, ⟨?_, ?_⟩, ⟨Int.le_refl _, ?_⟩, fun c c1 c2 => ⟨Int.le_refl _, b.2.2.1, fun i i1 i2 => ?_⟩⟩
  · have i3 : i < gs h 1 * gs h 2 := i2
    rw [hk i i1 (by omega)]
    exact ⟨fun z => absurd z (by decide), fun z => absurd z (by decide)⟩
  · show (-1 : Int) ≤ -1
    decide
  · show (-1 : Int) < gs h 1
    have := b.1
    omega
  · show (0 : Int) ≤ 1000
    decide
  · have c3 : c < gs h 1 := c2
    have i3 : i < gs h 2 := i2
    have q := mb_blk c1 c3 b.2.1 b.2.2.1 b.2.2.2.1
    have e : gs (m_anew h) 2 = gs h 2 := rfl
    rw [e, hk _ (by omega) (by omega)]
    exact ⟨fun _ => i1, fun _ => rfl⟩
theorem Kq_wout (h : zH) (p v : Int) : (∀ k, kS2 k → k ≠ 23 → gs (m_wout h p v).1 k = gs h k) ∧ ∀ c i, kAr c → c ≠ 10 → ga (m_wout h p v).1 c i = ga h c i := by
  have kd : Kq h (m_data h 0 p v).1 := by
    have q := (Kp_page h 1 p 0).q
    unfold m_data
    refine ⟨fun k hk => ?_, fun c i hc => ?_⟩
    · show gs (ifp _ _ _) k = _
      rw [gs_if, gs_pa, ifp_same]
      exact q.1 k hk
    · show ga (ifp _ _ _) c i = _
      have hc7 : c ≠ 7 := by unfold kAr at hc; omega
      rw [ga_if, ga_pa, if_neg (fun z => hc7 z.1), ifp_same]
      exact q.2 c i hc
  unfold m_wout
  rcases Classical.em (mRoomFor h (m_pfc h)) with c | c
  · rw [ifp_t c]
    unfold m_wo1
    rcases Classical.em ((m_data h 0 p v).2 = -1) with d | d
    · rw [ifp_t d]
      exact ⟨fun k hk _ => kd.1 k hk, fun c i hc _ => kd.2 c i hc⟩
    · rw [ifp_f d]
      have kc := Kq_cc (pa (m_data h 0 p v).1 10 p (ga (m_data h 0 p v).1 5 (m_data h 0 p v).2))
      have g1 (k : Nat) (hk : kS2 k) : gs (m_cc (pa (m_data h 0 p v).1 10 p (ga (m_data h 0 p v).1 5 (m_data h 0 p v).2))).1 k = gs h k := (kc.1 k hk).trans (kd.1 k hk)
      have g2 (c : Nat) (i : Int) (hc : kAr c) (h10 : c ≠ 10) : ga (m_cc (pa (m_data h 0 p v).1 10 p (ga (m_data h 0 p v).1 5 (m_data h 0 p v).2))).1 c i = ga h c i := by
        rw [kc.2 c i hc, ga_pa, if_neg (fun z => h10 z.1)]
        exact kd.2 c i hc
      unfold m_wo2
      rcases Classical.em ((m_cc (pa (m_data h 0 p v).1 10 p (ga (m_data h 0 p v).1 5 (m_data h 0 p v).2))).2 = 1) with e | e
      · rw [ifp_t e]
        exact ⟨fun k hk h23 => by rw [gs_ps, if_neg h23]; exact g1 k hk, g2⟩
      · rw [ifp_f e]
        exact ⟨fun k hk _ => g1 k hk, g2⟩
  · rw [ifp_f c]
    exact ⟨fun _ _ _ => rfl, fun _ _ _ _ => rfl⟩
theorem wout_MS {h : zH} {u : Int → Int} (s : MS h u) (hp : 0 < gs h 2) {p v : Int} (h1 : 0 ≤ p) (h2 : p < gs h 3) : ∃ u2, MS (m_wout h p v).1 u2 := by
  obtain ⟨⟨u2, t1⟩, t2, t3, t4⟩ := data_MS s hp (t := 0) (v := v) h1 h2
  have w1 := MS_pa t1 (c := 10) (by decide) p (ga (m_data h 0 p v).1 5 (m_data h 0 p v).2)
  have hp2 : 0 < gs (pa (m_data h 0 p v).1 10 p (ga (m_data h 0 p v).1 5 (m_data h 0 p v).2)) 2 := by rw [gs_pa, t2]; exact hp
  obtain ⟨⟨u3, q1⟩, q2, q3, q4⟩ := cc_MS w1 hp2
  unfold m_wout
  rcases Classical.em (mRoomFor h (m_pfc h)) with c | c
  · rw [ifp_t c]
    unfold m_wo1
    rcases Classical.em ((m_data h 0 p v).2 = -1) with d | d
    · rw [ifp_t d]; exact ⟨u2, t1⟩
    · rw [ifp_f d]
      unfold m_wo2
      rcases Classical.em ((m_cc (pa (m_data h 0 p v).1 10 p (ga (m_data h 0 p v).1 5 (m_data h 0 p v).2))).2 = 1) with e | e
      · rw [ifp_t e]
        exact ⟨u3, MS_c q1 rfl rfl rfl rfl rfl (fun _ => rfl) (fun _ => rfl)⟩
      · rw [ifp_f e]; exact ⟨u3, q1⟩
  · rw [ifp_f c]; exact ⟨u, s⟩
noncomputable def m_fiL : Nat → zH → Int → zH × Int
  | 0, h, _ => (h, gs h 10)
  | n + 1, h, k => ifp ((m_wout h k (ga h 1 k)).2 = 0) (ps (m_wout h k (ga h 1 k)).1 0 2, 0) (m_fiL n (m_wout h k (ga h 1 k)).1 (k + 1))
def m_fm0 (h : zH) (len : Int) : zH := ps (ps (ps (ps (ps (ps h 0 0) 43 len) 42 0) 44 (-1)) 47 0) 48 (-1)
def m_fm1 (h : zH) : zH := ps (ps (ps (ps h 1 (gs h 5)) 2 (gs h 6)) 3 (gs h 7)) 4 (gs h 8)
noncomputable def m_fm2 (h : zH) : zH × Int := m_fiL (gs (m_anew (m_fm1 h)) 10).toNat (m_anew (m_fm1 h)) 0
noncomputable def m_format (h : zH) (len : Int) : zH × Int := ifp (0 ≤ len ∧ len ≤ gs h 41) (ifp ((m_rfmt (m_fm0 h len)).2 = 1) (m_fm2 (ps (m_rfmt (m_fm0 h len)).1 41 0)) (ps (ps (m_rfmt (m_fm0 h len)).1 41 0) 0 2, 0)) (ps h 0 1, 0)
set_option maxRecDepth 100000 in
theorem L_X7_format {a1 x2 N L : Int} (hL : L ≤ 64) (hN : N ≤ L) (Q : Int → zH → Prop) : ∀ (n : Nat) (h : zH) (u : Int → Int) (i : Int), MS h u → 0 < gs h 2 → gs h 10 = N → gs h 3 = L → 0 ≤ i → i + n = N → Q (m_fiL n h i).2 (m_fiL n h i).1 → zX cM zNo RX7 cX7_format 4 (some .int) rX7_format 106 [some (.ref 0), some (.int (iI a1)), some (.int (iI x2)), some (.int (iI i))] [] h (zEi cM Q) := by
  intro n
  induction n with
  | zero =>
    intro h u i s hp e10 e3 i1 i2 hQ
    refine zx_iload_n (pc := 106) dX7_format_106 rfl rfl ?_
    refine zx_aload_n (pc := 107) dX7_format_107 rfl rfl ?_
    refine zg_X7_231 (pc := 108) dX7_format_108 ?_
    refine zx_icmp_ge (pc := 111) (tgt := 140) dX7_format_111 (by decide) (fun o => by first | exact o.1 _ (by decide) | exact o.2 _ _ | omega) (fun o => by first | exact o.1 _ (by decide) | exact o.2 _ _ | omega) (fun c111 => ?_) (fun c111 => absurd c111 (by omega))
    refine zx_aload_n (pc := 140) dX7_format_140 rfl rfl ?_
    refine zg_X7_231 (pc := 141) dX7_format_141 ?_
    refine zx_iret (pc := 144) dX7_format_144 (fun o => by first | exact o.1 _ (by decide) | exact o.2 _ _ | omega) ?_
    exact hQ
  | succ n ih =>
    intro h u i s hp e10 e3 i1 i2 hQ
    obtain ⟨u2, s2⟩ := wout_MS s hp (p := i) (v := ga h 1 i) i1 (by omega)
    have kw := Kq_wout h i (ga h 1 i)
    have k2 := kw.1 2 ⟨by unfold kSc; decide, by decide⟩ (by decide)
    have k3 := kw.1 3 ⟨by unfold kSc; decide, by decide⟩ (by decide)
    have k10 := kw.1 10 ⟨by unfold kSc; decide, by decide⟩ (by decide)
    rw [m_fiL] at hQ
    refine zx_ok (fun ok => ?_)
    refine zx_iload_n (pc := 106) dX7_format_106 rfl rfl ?_
    refine zx_aload_n (pc := 107) dX7_format_107 rfl rfl ?_
    refine zg_X7_231 (pc := 108) dX7_format_108 ?_
    refine zx_icmp_ge (pc := 111) (tgt := 140) dX7_format_111 (by decide) (fun o => by first | exact o.1 _ (by decide) | exact o.2 _ _ | omega) (fun o => by first | exact o.1 _ (by decide) | exact o.2 _ _ | omega) (fun c111 => absurd c111 (by omega)) (fun c111 => ?_)
    refine zx_aload_n (pc := 114) dX7_format_114 rfl rfl ?_
    refine zx_iload_n (pc := 115) dX7_format_115 rfl rfl ?_
    refine zx_aload_n (pc := 116) dX7_format_116 rfl rfl ?_
    refine zg_X7_7 (pc := 117) dX7_format_117 ?_
    refine zx_iload_n (pc := 120) dX7_format_120 rfl rfl ?_
    refine zx_iaload (pc := 121) aX7_fill dX7_format_121 (by omega) (by omega) (by omega) ?_
    refine zi_X7_254 (pc := 122) dX7_format_122 (C_X7_writesOutside s hp i1 (by omega) (ok.2 1 i)) (by decide) (Nat.le_of_ble_eq_true rfl) (fun z122 h122 u122 v122 q122 => ?_)
    obtain ⟨rfl, e122⟩ := q122
    rw [e122]
    clear e122 h122
    refine zx_if_ne (pc := 125) (tgt := 134) dX7_format_125 (by decide) (fun o => by first | exact o.1 _ (by decide) | exact o.2 _ _ | omega) (fun c125 => ?_) (fun c125 => ?_)
    · skip
      rw [ifp_f c125] at hQ
      refine zx_iinc (pc := 134) dX7_format_134 (by decide) rfl rfl ?_
      refine zx_goto (pc := 137) (tgt := 106) dX7_format_137 (by decide) ?_
      exact ih _ u2 (i + 1) s2 (by rw [k2]; exact hp) (by rw [k10]; exact e10) (by rw [k3]; exact e3) (by omega) (by omega) hQ
    · skip
      rw [ifp_t c125] at hQ
      refine zx_aload_n (pc := 128) dX7_format_128 rfl rfl ?_
      refine zx_iconst (pc := 129) dX7_format_129 ?_
      refine zi_X7_138 (pc := 130) dX7_format_130 (C_X7_refuse2 (by decide)) (by decide) (Nat.le_of_ble_eq_true rfl) (fun z130 h130 u130 v130 q130 => ?_)
      obtain ⟨rfl, e130⟩ := q130
      rw [e130]
      clear e130 h130
      refine zx_iret (pc := 133) dX7_format_133 (fun o => by first | exact o.1 _ (by decide) | exact o.2 _ _ | omega) ?_
      exact hQ
set_option maxRecDepth 100000 in
theorem C_X7_format {h : zH} (b1 : 0 ≤ gs h 41) (b2 : gs h 41 ≤ 600) {a1 : Int} (r1 : -2147483648 ≤ a1 ∧ a1 < 2147483648) : kX7_format a1 h (fun r h2 => r = (m_format h a1).2 ∧ h2 = (m_format h a1).1) := by
  have b3 : (0 ≤ a1 ∧ a1 ≤ gs h 41) → MT (m_fm0 h a1) := fun z => ⟨⟨z.1, Int.le_trans z.2 b2⟩, Int.le_refl _, z.1⟩
  apply eX7_format
  unfold m_format
  refine zx_aload_n (pc := 0) dX7_format_0 rfl rfl ?_
  refine zx_iconst (pc := 1) dX7_format_1 ?_
  refine zp_X7_69 (pc := 2) dX7_format_2 (fun _ => by decide) ?_
  refine zx_iload_n (pc := 5) dX7_format_5 rfl rfl ?_
  refine zx_iconst (pc := 6) dX7_format_6 ?_
  refine zx_aload_n (pc := 7) dX7_format_7 rfl rfl ?_
  refine zg_X7_135 (pc := 8) dX7_format_8 ?_
  refine zi_X7_85 (pc := 11) dX7_format_11 (C_X7_in (h := ps h 0 0) r1 (by decide) (show -2147483648 ≤ gs h 41 ∧ gs h 41 < 2147483648 by omega)) (by decide) (Nat.le_of_ble_eq_true rfl) (fun z11 h11 u11 v11 q11 => ?_)
  obtain ⟨rfl, e11⟩ := q11
  rw [e11]
  clear e11 h11
  refine zx_if_ne (pc := 14) (tgt := 23) dX7_format_14 (by decide) (fun o => by first | exact o.1 _ (by decide) | exact o.2 _ _ | omega) (fun c14 => ?_) (fun c14 => ?_)
  · skip
    try replace c14 := b2i_n0.mp c14
    have c14a : 0 ≤ a1 ∧ a1 ≤ gs h 41 := c14
    have t := b3 c14a
    obtain ⟨q1, q2, q3⟩ := rfmt_r t
    rw [ifp_t c14a]
    refine zx_aload_n (pc := 23) dX7_format_23 rfl rfl ?_
    refine zx_iload_n (pc := 24) dX7_format_24 rfl rfl ?_
    refine zp_X7_151 (pc := 25) dX7_format_25 (fun _ => r1) ?_
    refine zx_aload_n (pc := 28) dX7_format_28 rfl rfl ?_
    refine zx_iconst (pc := 29) dX7_format_29 ?_
    refine zp_X7_154 (pc := 30) dX7_format_30 (fun _ => by decide) ?_
    refine zx_aload_n (pc := 33) dX7_format_33 rfl rfl ?_
    refine zx_iconst (pc := 34) dX7_format_34 ?_
    refine zp_X7_171 (pc := 35) dX7_format_35 (fun _ => by decide) ?_
    refine zx_aload_n (pc := 38) dX7_format_38 rfl rfl ?_
    refine zx_iconst (pc := 39) dX7_format_39 ?_
    refine zp_X7_145 (pc := 40) dX7_format_40 (fun _ => by decide) ?_
    refine zx_aload_n (pc := 43) dX7_format_43 rfl rfl ?_
    refine zx_iconst (pc := 44) dX7_format_44 ?_
    refine zp_X7_63 (pc := 45) dX7_format_45 (fun _ => by decide) ?_
    refine zx_aload_n (pc := 48) dX7_format_48 rfl rfl ?_
    refine zi_X7_245 (pc := 49) dX7_format_49 (C_X7_readFormat t) (by decide) (Nat.le_of_ble_eq_true rfl) (fun z49 h49 u49 v49 q49 => ?_)
    obtain ⟨rfl, e49⟩ := q49
    rw [e49]
    clear e49 h49
    refine zx_istore_n (pc := 52) dX7_format_52 rfl (by decide) rfl ?_
    refine zx_aload_n (pc := 53) dX7_format_53 rfl rfl ?_
    refine zx_iconst (pc := 54) dX7_format_54 ?_
    refine zp_X7_135 (pc := 55) dX7_format_55 (fun _ => by decide) ?_
    refine zx_iload_n (pc := 58) dX7_format_58 rfl rfl ?_
    refine zx_if_ne (pc := 59) (tgt := 68) dX7_format_59 (by decide) (fun o => by first | exact o.1 _ (by decide) | exact o.2 _ _ | omega) (fun c59 => ?_) (fun c59 => ?_)
    · skip
      try replace c59 := b2i_n0.mp c59
      have c59a : (m_rfmt (m_fm0 h a1)).2 ≠ 0 := c59
      rw [ifp_t (by omega)]
      rcases q3 with q3 | ⟨q3, g, v⟩
      · omega
      refine zx_ok (fun ok => ?_)
      refine zx_aload_n (pc := 68) dX7_format_68 rfl rfl ?_
      refine zx_aload_n (pc := 69) dX7_format_69 rfl rfl ?_
      refine zg_X7_208 (pc := 70) dX7_format_70 ?_
      refine zp_X7_79 (pc := 73) dX7_format_73 (fun _ => ok.1 5 (by decide)) ?_
      refine zx_aload_n (pc := 76) dX7_format_76 rfl rfl ?_
      refine zx_aload_n (pc := 77) dX7_format_77 rfl rfl ?_
      refine zg_X7_211 (pc := 78) dX7_format_78 ?_
      refine zp_X7_82 (pc := 81) dX7_format_81 (fun _ => ok.1 6 (by decide)) ?_
      refine zx_aload_n (pc := 84) dX7_format_84 rfl rfl ?_
      refine zx_aload_n (pc := 85) dX7_format_85 rfl rfl ?_
      refine zg_X7_205 (pc := 86) dX7_format_86 ?_
      refine zp_X7_72 (pc := 89) dX7_format_89 (fun _ => ok.1 7 (by decide)) ?_
      refine zx_aload_n (pc := 92) dX7_format_92 rfl rfl ?_
      refine zx_aload_n (pc := 93) dX7_format_93 rfl rfl ?_
      refine zg_X7_224 (pc := 94) dX7_format_94 ?_
      refine zp_X7_248 (pc := 97) dX7_format_97 (fun _ => ok.1 8 (by decide)) ?_
      refine zx_aload_n (pc := 100) dX7_format_100 rfl rfl ?_
      refine zi_X7_251 (pc := 101) dX7_format_101 (C_X7_startAnew ) (by decide) (Nat.le_of_ble_eq_true rfl) (fun h101 q101 => ?_)
      rw [q101]
      clear q101 h101
      refine zx_iconst (pc := 104) dX7_format_104 ?_
      refine zx_istore_n (pc := 105) dX7_format_105 rfl (by decide) rfl ?_
      unfold GN at g
      unfold MV at v
      have mb : MB (m_fm1 (ps (m_rfmt (m_fm0 h a1)).1 41 0)) := by
        show 0 ≤ gs (m_rfmt (m_fm0 h a1)).1 5 ∧ gs (m_rfmt (m_fm0 h a1)).1 5 ≤ 32 ∧ 0 ≤ gs (m_rfmt (m_fm0 h a1)).1 6 ∧ gs (m_rfmt (m_fm0 h a1)).1 6 ≤ 32 ∧ 0 ≤ gs (m_rfmt (m_fm0 h a1)).1 7 ∧ gs (m_rfmt (m_fm0 h a1)).1 7 ≤ 64
        omega
      exact L_X7_format (N := gs (m_rfmt (m_fm0 h a1)).1 10) (L := gs (m_rfmt (m_fm0 h a1)).1 7) v.2.2 v.2.1 _ (gs (m_rfmt (m_fm0 h a1)).1 10).toNat _ _ 0 (MS_anew mb) (show 0 < gs (m_rfmt (m_fm0 h a1)).1 6 by omega) rfl rfl (Int.le_refl _) (by omega) ⟨rfl, rfl⟩
    · skip
      try replace c59 := b2i_0.mp c59
      have c59a : (m_rfmt (m_fm0 h a1)).2 = 0 := c59
      rw [ifp_f (by omega)]
      refine zx_aload_n (pc := 62) dX7_format_62 rfl rfl ?_
      refine zx_iconst (pc := 63) dX7_format_63 ?_
      refine zi_X7_138 (pc := 64) dX7_format_64 (C_X7_refuse2 (by decide)) (by decide) (Nat.le_of_ble_eq_true rfl) (fun z64 h64 u64 v64 q64 => ?_)
      obtain ⟨rfl, e64⟩ := q64
      rw [e64]
      clear e64 h64
      refine zx_iret (pc := 67) dX7_format_67 (fun o => by first | exact o.1 _ (by decide) | exact o.2 _ _ | omega) ?_
      exact ⟨rfl, rfl⟩
  · skip
    try replace c14 := b2i_0.mp c14
    have c14a : ¬ (0 ≤ a1 ∧ a1 ≤ gs h 41) := c14
    rw [ifp_f c14a]
    refine zx_aload_n (pc := 17) dX7_format_17 rfl rfl ?_
    refine zx_iconst (pc := 18) dX7_format_18 ?_
    refine zi_X7_138 (pc := 19) dX7_format_19 (C_X7_refuse2 (by decide)) (by decide) (Nat.le_of_ble_eq_true rfl) (fun z19 h19 u19 v19 q19 => ?_)
    obtain ⟨rfl, e19⟩ := q19
    rw [e19]
    clear e19 h19
    refine zx_iret (pc := 22) dX7_format_22 (fun o => by first | exact o.1 _ (by decide) | exact o.2 _ _ | omega) ?_
    exact ⟨rfl, ps_ps _ _ _ _⟩

