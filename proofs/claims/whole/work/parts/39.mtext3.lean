/-! the reference: the head, the fills, the whole text, feed and format -/
def GN (h : zH) : Prop := (4 ≤ gs h 5 ∧ gs h 5 ≤ 32) ∧ (2 ≤ gs h 6 ∧ gs h 6 ≤ 32) ∧ (1 ≤ gs h 7 ∧ gs h 7 ≤ 64) ∧ (1 ≤ gs h 8 ∧ gs h 8 ≤ 50) ∧ mFits h
noncomputable def m_hd4 (h : zH) : zH × Int := ifp ((m_setting h 5969497 1 50).2 = 1) (m_semi (ps (m_setting h 5969497 1 50).1 8 (gs (m_setting h 5969497 1 50).1 46))) ((m_setting h 5969497 1 50).1, 0)
noncomputable def m_hd3 (h : zH) : zH × Int := ifp ((m_logical h).2 = 1) (m_hd4 (m_logical h).1) ((m_logical h).1, 0)
noncomputable def m_hd2 (h : zH) : zH × Int := ifp ((m_setting h 16817331 2 32).2 = 1) (m_hd3 (ps (m_setting h 16817331 2 32).1 6 (gs (m_setting h 16817331 2 32).1 46))) ((m_setting h 16817331 2 32).1, 0)
noncomputable def m_head (h : zH) : zH × Int := ifp ((m_setting h 80186739 4 32).2 = 1) (m_hd2 (ps (m_setting h 80186739 4 32).1 5 (gs (m_setting h 80186739 4 32).1 46))) ((m_setting h 80186739 4 32).1, 0)
/-- what reading a text leaves -/
def TG (h h2 : zH) : Prop := (∀ k, k ≠ 5 → k ≠ 6 → k ≠ 7 → k ≠ 8 → k ≠ 10 → k ≠ 42 → k ≠ 44 → k ≠ 45 → k ≠ 46 → k ≠ 47 → k ≠ 48 → k ≠ 1049 → gs h2 k = gs h k) ∧ ∀ c i, c ≠ 1 → ga h2 c i = ga h c i
theorem TG.tr {a b c : zH} (f : TG a b) (g : TG b c) : TG a c := ⟨fun k h1 h2 h3 h4 h5 h6 h7 h8 h9 h10 h11 h12 => (g.1 k h1 h2 h3 h4 h5 h6 h7 h8 h9 h10 h11 h12).trans (f.1 k h1 h2 h3 h4 h5 h6 h7 h8 h9 h10 h11 h12), fun c i hc => (g.2 c i hc).trans (f.2 c i hc)⟩
theorem TF.g {a b : zH} (f : TF a b) : TG a b := ⟨fun k h1 h2 h3 h4 h5 h6 h7 h8 h9 h10 h11 h12 => f.1 k h6 h7 h8 h9 h10 h11 h12, fun c i _ => f.2 c i⟩
theorem TG.ps {h h2 : zH} (f : TG h h2) (k : Nat) (v : Int) (hk : k = 5 ∨ k = 6 ∨ k = 7 ∨ k = 8 ∨ k = 10) : TG h (ps h2 k v) := ⟨fun j h1 h2 h3 h4 h5 h6 h7 h8 h9 h10 h11 h12 => by rw [gs_ps, if_neg (by omega)]; exact f.1 j h1 h2 h3 h4 h5 h6 h7 h8 h9 h10 h11 h12, f.2⟩
theorem MT_ps {h : zH} (t : MT h) (k : Nat) (v : Int) (hk : k ≠ 42 ∧ k ≠ 43) : MT (ps h k v) := by
  unfold MT
  rw [gs_ps, gs_ps, if_neg (by omega), if_neg (by omega)]
  exact t
theorem tf_k {h h2 : zH} (f : TF h h2) (k : Nat) (hk : k = 5 ∨ k = 6 ∨ k = 7 ∨ k = 8 ∨ k = 10) : gs h2 k = gs h k := f.1 k (by omega) (by omega) (by omega) (by omega) (by omega) (by omega) (by omega)
theorem logical_r {h : zH} (t : MT h) : TG h (m_logical h).1 ∧ MT (m_logical h).1 ∧ gs (m_logical h).1 5 = gs h 5 ∧ gs (m_logical h).1 6 = gs h 6 ∧ gs (m_logical h).1 8 = gs h 8 ∧ gs (m_logical h).1 10 = gs h 10 ∧ ((m_logical h).2 = 0 ∨ (m_logical h).2 = 1 ∧ 1 ≤ gs (m_logical h).1 7 ∧ gs (m_logical h).1 7 ≤ 64 ∧ mFits (m_logical h).1) := by
  obtain ⟨q1, q2, q3⟩ := setting_r t 13395856428 1 64
  have e5 := tf_k q1 5 (by decide)
  have e6 := tf_k q1 6 (by decide)
  have e8 := tf_k q1 8 (by decide)
  have e10 := tf_k q1 10 (by decide)
  unfold m_logical
  rcases Classical.em ((m_setting h 13395856428 1 64).2 = 1) with c | c
  · rw [ifp_t c]
    rcases Classical.em (mFits (ps (m_setting h 13395856428 1 64).1 7 (gs (m_setting h 13395856428 1 64).1 46))) with d | d
    · rw [ifp_t d]
      refine ⟨q1.g.ps 7 _ (by decide), MT_ps q2 7 _ (by decide), e5, e6, e8, e10, Or.inr ⟨rfl, ?_, ?_, d⟩⟩
      · show 1 ≤ gs (m_setting h 13395856428 1 64).1 46
        omega
      · show gs (m_setting h 13395856428 1 64).1 46 ≤ 64
        omega
    · rw [ifp_f d]
      exact ⟨(q1.g.ps 7 (gs (m_setting h 13395856428 1 64).1 46) (by decide)).tr (TF_fails _ _ _).g, MT_ps q2 7 (gs (m_setting h 13395856428 1 64).1 46) (by decide), e5, e6, e8, e10, Or.inl rfl⟩
  · rw [ifp_f c]
    exact ⟨q1.g, q2, e5, e6, e8, e10, Or.inl rfl⟩
theorem hd4_r {h : zH} (t : MT h) : TG h (m_hd4 h).1 ∧ MT (m_hd4 h).1 ∧ gs (m_hd4 h).1 5 = gs h 5 ∧ gs (m_hd4 h).1 6 = gs h 6 ∧ gs (m_hd4 h).1 7 = gs h 7 ∧ gs (m_hd4 h).1 10 = gs h 10 ∧ ((m_hd4 h).2 = 0 ∨ (m_hd4 h).2 = 1 ∧ 1 ≤ gs (m_hd4 h).1 8 ∧ gs (m_hd4 h).1 8 ≤ 50) := by
  obtain ⟨q1, q2, q3⟩ := setting_r t 5969497 1 50
  have e5 := tf_k q1 5 (by decide)
  have e6 := tf_k q1 6 (by decide)
  have e7 := tf_k q1 7 (by decide)
  have e10 := tf_k q1 10 (by decide)
  unfold m_hd4
  rcases Classical.em ((m_setting h 5969497 1 50).2 = 1) with c | c
  · rw [ifp_t c]
    obtain ⟨s1, s2, s3⟩ := semi_r (MT_ps q2 8 (gs (m_setting h 5969497 1 50).1 46) (by decide))
    have f5 := tf_k s1 5 (by decide)
    have f6 := tf_k s1 6 (by decide)
    have f7 := tf_k s1 7 (by decide)
    have f8 := tf_k s1 8 (by decide)
    have f10 := tf_k s1 10 (by decide)
    refine ⟨(q1.g.ps 8 _ (by decide)).tr s1.g, s2, f5.trans e5, f6.trans e6, f7.trans e7, f10.trans e10, ?_⟩
    rcases s3 with s3 | s3
    · exact Or.inl s3.1
    · refine Or.inr ⟨s3.1, ?_, ?_⟩
      · rw [f8]
        show 1 ≤ gs (m_setting h 5969497 1 50).1 46
        omega
      · rw [f8]
        show gs (m_setting h 5969497 1 50).1 46 ≤ 50
        omega
  · rw [ifp_f c]
    exact ⟨q1.g, q2, e5, e6, e7, e10, Or.inl rfl⟩
theorem hd3_r {h : zH} (t : MT h) : TG h (m_hd3 h).1 ∧ MT (m_hd3 h).1 ∧ gs (m_hd3 h).1 5 = gs h 5 ∧ gs (m_hd3 h).1 6 = gs h 6 ∧ gs (m_hd3 h).1 10 = gs h 10 ∧ ((m_hd3 h).2 = 0 ∨ (m_hd3 h).2 = 1 ∧ (1 ≤ gs (m_hd3 h).1 7 ∧ gs (m_hd3 h).1 7 ≤ 64) ∧ (1 ≤ gs (m_hd3 h).1 8 ∧ gs (m_hd3 h).1 8 ≤ 50) ∧ mFits (m_hd3 h).1) := by
  obtain ⟨q1, q2, q3, q4, q5, q6, q7⟩ := logical_r t
  obtain ⟨w1, w2, w3, w4, w5, w6, w7⟩ := hd4_r q2
  unfold m_hd3
  rcases Classical.em ((m_logical h).2 = 1) with c | c
  · rw [ifp_t c]
    refine ⟨q1.tr w1, w2, w3.trans q3, w4.trans q4, w6.trans q6, ?_⟩
    rcases w7 with w7 | ⟨w7, w8, w9⟩
    · exact Or.inl w7
    · rcases q7 with q7 | ⟨q7, q8, q9, q10⟩
      · omega
      · refine Or.inr ⟨w7, ⟨by omega, by omega⟩, ⟨w8, w9⟩, ?_⟩
        unfold mFits
        rw [w3, w4, w5]
        exact q10
  · rw [ifp_f c]
    exact ⟨q1, q2, q3, q4, q6, Or.inl rfl⟩
theorem hd2_r {h : zH} (t : MT h) : TG h (m_hd2 h).1 ∧ MT (m_hd2 h).1 ∧ gs (m_hd2 h).1 5 = gs h 5 ∧ gs (m_hd2 h).1 10 = gs h 10 ∧ ((m_hd2 h).2 = 0 ∨ (m_hd2 h).2 = 1 ∧ (2 ≤ gs (m_hd2 h).1 6 ∧ gs (m_hd2 h).1 6 ≤ 32) ∧ (1 ≤ gs (m_hd2 h).1 7 ∧ gs (m_hd2 h).1 7 ≤ 64) ∧ (1 ≤ gs (m_hd2 h).1 8 ∧ gs (m_hd2 h).1 8 ≤ 50) ∧ mFits (m_hd2 h).1) := by
  obtain ⟨q1, q2, q3⟩ := setting_r t 16817331 2 32
  have e5 := tf_k q1 5 (by decide)
  have e10 := tf_k q1 10 (by decide)
  obtain ⟨w1, w2, w3, w4, w5, w6⟩ := hd3_r (MT_ps q2 6 (gs (m_setting h 16817331 2 32).1 46) (by decide))
  unfold m_hd2
  rcases Classical.em ((m_setting h 16817331 2 32).2 = 1) with c | c
  · rw [ifp_t c]
    refine ⟨(q1.g.ps 6 _ (by decide)).tr w1, w2, w3.trans e5, w5.trans e10, ?_⟩
    rcases w6 with w6 | ⟨w6, w7, w8, w9⟩
    · exact Or.inl w6
    · refine Or.inr ⟨w6, ?_, w7, w8, w9⟩
      rw [w4]
      show 2 ≤ gs (m_setting h 16817331 2 32).1 46 ∧ gs (m_setting h 16817331 2 32).1 46 ≤ 32
      omega
  · rw [ifp_f c]
    exact ⟨q1.g, q2, e5, e10, Or.inl rfl⟩
theorem head_r {h : zH} (t : MT h) : TG h (m_head h).1 ∧ MT (m_head h).1 ∧ gs (m_head h).1 10 = gs h 10 ∧ ((m_head h).2 = 0 ∨ (m_head h).2 = 1 ∧ GN (m_head h).1) := by
  obtain ⟨q1, q2, q3⟩ := setting_r t 80186739 4 32
  have e10 := tf_k q1 10 (by decide)
  obtain ⟨w1, w2, w3, w4, w5⟩ := hd2_r (MT_ps q2 5 (gs (m_setting h 80186739 4 32).1 46) (by decide))
  unfold m_head
  rcases Classical.em ((m_setting h 80186739 4 32).2 = 1) with c | c
  · rw [ifp_t c]
    refine ⟨(q1.g.ps 5 _ (by decide)).tr w1, w2, w4.trans e10, ?_⟩
    rcases w5 with w5 | ⟨w5, w6, w7, w8, w9⟩
    · exact Or.inl w5
    · refine Or.inr ⟨w5, ?_, w6, w7, w8, w9⟩
      rw [w3]
      show 4 ≤ gs (m_setting h 80186739 4 32).1 46 ∧ gs (m_setting h 80186739 4 32).1 46 ≤ 32
      omega
  · rw [ifp_f c]
    exact ⟨q1.g, q2, e10, Or.inl rfl⟩
set_option maxRecDepth 100000 in
theorem C_X7_readHead {h : zH} (t : MT h) : kX7_readHead h (fun r h2 => r = (m_head h).2 ∧ h2 = (m_head h).1) := by
  obtain ⟨q1, q2, q3⟩ := setting_r t 80186739 4 32
  have q2b := MT_ps q2 5 (gs (m_setting h 80186739 4 32).1 46) (by decide)
  apply eX7_readHead
  unfold m_head
  refine zx_aload_n (pc := 0) dX7_readHead_0 rfl rfl ?_
  refine zx_ldc2 (pc := 1) (n := 80186739) dX7_readHead_1 (by rw [show lL 80186739 = (80186739 : Int64) by decide +kernel]; exact zo_X7_214) ?_
  refine zx_iconst (pc := 4) dX7_readHead_4 ?_
  refine zx_bipush (pc := 5) dX7_readHead_5 (by decide +kernel) ?_
  refine zi_X7_201 (pc := 7) dX7_readHead_7 (C_X7_readSetting t (by decide) (by decide) (by decide) (by decide)) (by decide) (Nat.le_of_ble_eq_true rfl) (fun z7 h7 u7 v7 q7 => ?_)
  obtain ⟨rfl, e7⟩ := q7
  rw [e7]
  clear e7 h7
  refine zx_ok (fun ok => ?_)
  refine zx_if_ne (pc := 10) (tgt := 15) dX7_readHead_10 (by decide) (fun o => by first | exact o.1 _ (by decide) | exact o.2 _ _ | omega) (fun c10 => ?_) (fun c10 => ?_)
  · skip
    try replace c10 := b2i_n0.mp c10
    rw [ifp_t (by omega)]
    refine zx_aload_n (pc := 15) dX7_readHead_15 rfl rfl ?_
    refine zx_aload_n (pc := 16) dX7_readHead_16 rfl rfl ?_
    refine zg_X7_189 (pc := 17) dX7_readHead_17 ?_
    refine zp_X7_208 (pc := 20) dX7_readHead_20 (fun _ => ok.1 46 (by decide)) ?_
    clear u7 v7
    generalize hH : ps (m_setting h 80186739 4 32).1 5 (gs (m_setting h 80186739 4 32).1 46) = H at q2b ⊢
    have hH5 : gs H 5 = gs (m_setting h 80186739 4 32).1 46 := by rw [← hH]; rfl
    obtain ⟨g1, g2, g3⟩ := setting_r q2b 16817331 2 32
    have g2b := MT_ps g2 6 (gs (m_setting H 16817331 2 32).1 46) (by decide)
    unfold m_hd2
    refine zx_aload_n (pc := 23) dX7_readHead_23 rfl rfl ?_
    refine zx_ldc2 (pc := 24) (n := 16817331) dX7_readHead_24 (by rw [show lL 16817331 = (16817331 : Int64) by decide +kernel]; exact zo_X7_216) ?_
    refine zx_iconst (pc := 27) dX7_readHead_27 ?_
    refine zx_bipush (pc := 28) dX7_readHead_28 (by decide +kernel) ?_
    refine zi_X7_201 (pc := 30) dX7_readHead_30 (C_X7_readSetting q2b (by decide) (by decide) (by decide) (by decide)) (by decide) (Nat.le_of_ble_eq_true rfl) (fun z30 h30 u30 v30 q30 => ?_)
    obtain ⟨rfl, e30⟩ := q30
    rw [e30]
    clear e30 h30
    refine zx_ok (fun ok2 => ?_)
    refine zx_if_ne (pc := 33) (tgt := 38) dX7_readHead_33 (by decide) (fun o => by first | exact o.1 _ (by decide) | exact o.2 _ _ | omega) (fun c33 => ?_) (fun c33 => ?_)
    · skip
      try replace c33 := b2i_n0.mp c33
      rw [ifp_t (by omega)]
      refine zx_aload_n (pc := 38) dX7_readHead_38 rfl rfl ?_
      refine zx_aload_n (pc := 39) dX7_readHead_39 rfl rfl ?_
      refine zg_X7_189 (pc := 40) dX7_readHead_40 ?_
      refine zp_X7_211 (pc := 43) dX7_readHead_43 (fun _ => ok2.1 46 (by decide)) ?_
      have k5 := tf_k g1 5 (by decide)
      have b5 : 0 ≤ gs (ps (m_setting H 16817331 2 32).1 6 (gs (m_setting H 16817331 2 32).1 46)) 5 ∧ gs (ps (m_setting H 16817331 2 32).1 6 (gs (m_setting H 16817331 2 32).1 46)) 5 ≤ 32 := by
        show 0 ≤ gs (m_setting H 16817331 2 32).1 5 ∧ gs (m_setting H 16817331 2 32).1 5 ≤ 32
        omega
      have b6 : 0 ≤ gs (ps (m_setting H 16817331 2 32).1 6 (gs (m_setting H 16817331 2 32).1 46)) 6 ∧ gs (ps (m_setting H 16817331 2 32).1 6 (gs (m_setting H 16817331 2 32).1 46)) 6 ≤ 32 := by
        show 0 ≤ gs (m_setting H 16817331 2 32).1 46 ∧ gs (m_setting H 16817331 2 32).1 46 ≤ 32
        omega
      clear u30 v30
      generalize ps (m_setting H 16817331 2 32).1 6 (gs (m_setting H 16817331 2 32).1 46) = J at g2b b5 b6 ⊢
      obtain ⟨l1, l2, l3, l4, l5, l6, l7⟩ := logical_r g2b
      obtain ⟨s1, s2, s3⟩ := setting_r l2 5969497 1 50
      have s2b := MT_ps s2 8 (gs (m_setting (m_logical J).1 5969497 1 50).1 46) (by decide)
      unfold m_hd3
      refine zx_aload_n (pc := 46) dX7_readHead_46 rfl rfl ?_
      refine zi_X7_218 (pc := 47) dX7_readHead_47 (C_X7_readLogical g2b b5 b6) (by decide) (Nat.le_of_ble_eq_true rfl) (fun z47 h47 u47 v47 q47 => ?_)
      obtain ⟨rfl, e47⟩ := q47
      rw [e47]
      clear e47 h47
      refine zx_if_eq (pc := 50) (tgt := 66) dX7_readHead_50 (by decide) (fun o => by first | exact o.1 _ (by decide) | exact o.2 _ _ | omega) (fun c50 => ?_) (fun c50 => ?_)
      · skip
        try replace c50 := b2i_0.mp c50
        rw [ifp_f (by omega)]
        refine zx_iconst (pc := 66) dX7_readHead_66 ?_
        refine zx_zret (pc := 67) dX7_readHead_67 (by omega) ?_
        exact ⟨rfl, rfl⟩
      · skip
        try replace c50 := b2i_n0.mp c50
        rw [ifp_t (by omega)]
        unfold m_hd4
        refine zx_aload_n (pc := 53) dX7_readHead_53 rfl rfl ?_
        refine zx_ldc2 (pc := 54) (n := 5969497) dX7_readHead_54 (by rw [show lL 5969497 = (5969497 : Int64) by decide +kernel]; exact zo_X7_222) ?_
        refine zx_iconst (pc := 57) dX7_readHead_57 ?_
        refine zx_bipush (pc := 58) dX7_readHead_58 (by decide +kernel) ?_
        refine zi_X7_201 (pc := 60) dX7_readHead_60 (C_X7_readSetting l2 (by decide) (by decide) (by decide) (by decide)) (by decide) (Nat.le_of_ble_eq_true rfl) (fun z60 h60 u60 v60 q60 => ?_)
        obtain ⟨rfl, e60⟩ := q60
        rw [e60]
        clear e60 h60
        refine zx_ok (fun ok3 => ?_)
        refine zx_if_ne (pc := 63) (tgt := 68) dX7_readHead_63 (by decide) (fun o => by first | exact o.1 _ (by decide) | exact o.2 _ _ | omega) (fun c63 => ?_) (fun c63 => ?_)
        · skip
          try replace c63 := b2i_n0.mp c63
          rw [ifp_t (by omega)]
          refine zx_aload_n (pc := 68) dX7_readHead_68 rfl rfl ?_
          refine zx_aload_n (pc := 69) dX7_readHead_69 rfl rfl ?_
          refine zg_X7_189 (pc := 70) dX7_readHead_70 ?_
          refine zp_X7_224 (pc := 73) dX7_readHead_73 (fun _ => ok3.1 46 (by decide)) ?_
          refine zx_aload_n (pc := 76) dX7_readHead_76 rfl rfl ?_
          refine zi_X7_227 (pc := 77) dX7_readHead_77 (C_X7_readSemicolon s2b) (by decide) (Nat.le_of_ble_eq_true rfl) (fun z77 h77 u77 v77 q77 => ?_)
          obtain ⟨rfl, e77⟩ := q77
          rw [e77]
          clear e77 h77
          refine zx_zret (pc := 80) dX7_readHead_80 (by have := (semi_r s2b).2.2; omega) ?_
          exact ⟨rfl, rfl⟩
        · skip
          try replace c63 := b2i_0.mp c63
          rw [ifp_f (by omega)]
          refine zx_iconst (pc := 66) dX7_readHead_66 ?_
          refine zx_zret (pc := 67) dX7_readHead_67 (by omega) ?_
          exact ⟨rfl, rfl⟩
    · skip
      try replace c33 := b2i_0.mp c33
      rw [ifp_f (by omega)]
      refine zx_iconst (pc := 36) dX7_readHead_36 ?_
      refine zx_zret (pc := 37) dX7_readHead_37 (by omega) ?_
      exact ⟨rfl, rfl⟩
  · skip
    try replace c10 := b2i_0.mp c10
    rw [ifp_f (by omega)]
    refine zx_iconst (pc := 13) dX7_readHead_13 ?_
    refine zx_zret (pc := 14) dX7_readHead_14 (by omega) ?_
    exact ⟨rfl, rfl⟩
def MV (h : zH) : Prop := 0 ≤ gs h 10 ∧ gs h 10 ≤ gs h 7 ∧ gs h 7 ≤ 64
noncomputable def m_value (h : zH) : zH × Int := ifp ((m_number h 0 999999).2 = 1) (ifp (gs (m_number h 0 999999).1 10 = gs (m_number h 0 999999).1 7) (m_fails (m_number h 0 999999).1 3 (gs (m_number h 0 999999).1 45), 0) (ps (pa (m_number h 0 999999).1 1 (gs (m_number h 0 999999).1 10) (gs (m_number h 0 999999).1 46)) 10 (gs (m_number h 0 999999).1 10 + 1), 1)) ((m_number h 0 999999).1, 0)
set_option maxRecDepth 100000 in
theorem C_X7_readValue {h : zH} (t : MT h) (v : MV h) : kX7_readValue h (fun r h2 => r = (m_value h).2 ∧ h2 = (m_value h).1) := by
  obtain ⟨q1, q2, q3⟩ := number_r t 0 999999
  have e7 := tf_k q1 7 (by decide)
  have e10 := tf_k q1 10 (by decide)
  unfold MV at v
  apply eX7_readValue
  unfold m_value
  refine zx_aload_n (pc := 0) dX7_readValue_0 rfl rfl ?_
  refine zx_iconst (pc := 1) dX7_readValue_1 ?_
  refine zx_ldc (pc := 2) (n := 999999) dX7_readValue_2 (by rw [show iI 999999 = (999999 : Int32) by decide +kernel]; exact zo_X7_230) ?_
  refine zi_X7_196 (pc := 4) dX7_readValue_4 (C_X7_readNumber t (by decide) (by decide)) (by decide) (Nat.le_of_ble_eq_true rfl) (fun z4 h4 u4 v4 q4 => ?_)
  obtain ⟨rfl, e4⟩ := q4
  rw [e4]
  clear e4 h4
  refine zx_ok (fun ok => ?_)
  refine zx_if_ne (pc := 7) (tgt := 12) dX7_readValue_7 (by decide) (fun o => by first | exact o.1 _ (by decide) | exact o.2 _ _ | omega) (fun c7 => ?_) (fun c7 => ?_)
  · skip
    try replace c7 := b2i_n0.mp c7
    rw [ifp_t (by omega)]
    refine zx_aload_n (pc := 12) dX7_readValue_12 rfl rfl ?_
    refine zg_X7_231 (pc := 13) dX7_readValue_13 ?_
    refine zx_aload_n (pc := 16) dX7_readValue_16 rfl rfl ?_
    refine zg_X7_205 (pc := 17) dX7_readValue_17 ?_
    refine zx_icmp_ne (pc := 20) (tgt := 33) dX7_readValue_20 (by decide) (fun o => by first | exact o.1 _ (by decide) | exact o.2 _ _ | omega) (fun o => by first | exact o.1 _ (by decide) | exact o.2 _ _ | omega) (fun c20 => ?_) (fun c20 => ?_)
    · skip
      rw [ifp_f c20]
      refine zx_aload_n (pc := 33) dX7_readValue_33 rfl rfl ?_
      refine zg_X7_7 (pc := 34) dX7_readValue_34 ?_
      refine zx_aload_n (pc := 37) dX7_readValue_37 rfl rfl ?_
      refine zg_X7_231 (pc := 38) dX7_readValue_38 ?_
      refine zx_aload_n (pc := 41) dX7_readValue_41 rfl rfl ?_
      refine zg_X7_189 (pc := 42) dX7_readValue_42 ?_
      refine zx_iastore (pc := 45) aX7_fill dX7_readValue_45 (by omega) (by omega) (by omega) (fun _ => ok.1 46 (by decide)) ?_
      refine zx_aload_n (pc := 46) dX7_readValue_46 rfl rfl ?_
      refine zx_aload_n (pc := 47) dX7_readValue_47 rfl rfl ?_
      refine zg_X7_231 (pc := 48) dX7_readValue_48 ?_
      refine zx_iconst (pc := 51) dX7_readValue_51 ?_
      refine zx_iadd (pc := 52) dX7_readValue_52 ?_
      refine zp_X7_231 (pc := 53) dX7_readValue_53 (fun _ => by show -2147483648 ≤ gs (m_number h 0 999999).1 10 + 1 ∧ gs (m_number h 0 999999).1 10 + 1 < 2147483648; omega) ?_
      refine zx_iconst (pc := 56) dX7_readValue_56 ?_
      refine zx_zret (pc := 57) dX7_readValue_57 (by omega) ?_
      exact ⟨rfl, rfl⟩
    · skip
      rw [ifp_t c20]
      refine zx_aload_n (pc := 23) dX7_readValue_23 rfl rfl ?_
      refine zx_iconst (pc := 24) dX7_readValue_24 ?_
      refine zx_aload_n (pc := 25) dX7_readValue_25 rfl rfl ?_
      refine zg_X7_160 (pc := 26) dX7_readValue_26 ?_
      refine zi_X7_174 (pc := 29) dX7_readValue_29 (C_X7_fails (by decide) (ok.1 45 (by decide))) (by decide) (Nat.le_of_ble_eq_true rfl) (fun z29 h29 u29 v29 q29 => ?_)
      obtain ⟨rfl, e29⟩ := q29
      rw [e29]
      clear e29 h29
      refine zx_zret (pc := 32) dX7_readValue_32 (by omega) ?_
      exact ⟨rfl, rfl⟩
  · skip
    try replace c7 := b2i_0.mp c7
    rw [ifp_f (by omega)]
    refine zx_iconst (pc := 10) dX7_readValue_10 ?_
    refine zx_zret (pc := 11) dX7_readValue_11 (by omega) ?_
    exact ⟨rfl, rfl⟩
theorem value_r {h : zH} (t : MT h) (v : MV h) : TG h (m_value h).1 ∧ MT (m_value h).1 ∧ MV (m_value h).1 ∧ (gs (m_value h).1 5 = gs h 5 ∧ gs (m_value h).1 6 = gs h 6 ∧ gs (m_value h).1 7 = gs h 7 ∧ gs (m_value h).1 8 = gs h 8) ∧ ((m_value h).2 = 0 ∨ (m_value h).2 = 1 ∧ gs h 42 < gs (m_value h).1 42) := by
  obtain ⟨q1, q2, q3⟩ := number_r t 0 999999
  have e5 := tf_k q1 5 (by decide)
  have e6 := tf_k q1 6 (by decide)
  have e7 := tf_k q1 7 (by decide)
  have e8 := tf_k q1 8 (by decide)
  have e10 := tf_k q1 10 (by decide)
  have v1 : MV (m_number h 0 999999).1 := by unfold MV; rw [e7, e10]; exact v
  unfold m_value
  rcases Classical.em ((m_number h 0 999999).2 = 1) with c | c
  · rw [ifp_t c]
    rcases Classical.em (gs (m_number h 0 999999).1 10 = gs (m_number h 0 999999).1 7) with d | d
    · rw [ifp_t d]
      exact ⟨q1.g.tr (TF_fails _ _ _).g, q2, v1, ⟨e5, e6, e7, e8⟩, Or.inl rfl⟩
    · rw [ifp_f d]
      refine ⟨⟨fun k h1 h2 h3 h4 h5 h6 h7 h8 h9 h10 h11 h12 => ?_, fun c i hc => ?_⟩, MT_ps (h := pa (m_number h 0 999999).1 1 (gs (m_number h 0 999999).1 10) (gs (m_number h 0 999999).1 46)) q2 10 _ (by decide), ?_, ⟨e5, e6, e7, e8⟩, Or.inr ⟨rfl, ?_⟩⟩
      · rw [gs_ps, if_neg h5]
        exact q1.g.1 k h1 h2 h3 h4 h5 h6 h7 h8 h9 h10 h11 h12
      · rw [ga_ps, ga_pa, if_neg (fun z => hc z.1)]
        exact q1.2 c i
      · unfold MV at v1 ⊢
        show 0 ≤ gs (m_number h 0 999999).1 10 + 1 ∧ gs (m_number h 0 999999).1 10 + 1 ≤ gs (m_number h 0 999999).1 7 ∧ gs (m_number h 0 999999).1 7 ≤ 64
        omega
      · show gs h 42 < gs (m_number h 0 999999).1 42
        omega
  · rw [ifp_f c]
    exact ⟨q1.g, q2, v1, ⟨e5, e6, e7, e8⟩, Or.inl rfl⟩
noncomputable def m_fvL : Nat → zH → zH × Int
  | 0, h => (h, 0)
  | n + 1, h => ifp (isD (mBy h (mTok h))) (ifp ((m_value (m_peek h)).2 = 1) (m_fvL n (m_value (m_peek h)).1) ((m_value (m_peek h)).1, 0)) (m_semi (m_peek h))
noncomputable def m_fill (h : zH) : zH × Int := ifp ((m_word h 206220).2 = 1) (ifp ((m_value (m_word h 206220).1).2 = 1) (m_fvL 601 (m_value (m_word h 206220).1).1) ((m_value (m_word h 206220).1).1, 0)) ((m_word h 206220).1, 0)
theorem MV_c {h h2 : zH} (v : MV h) (f : TF h h2) : MV h2 := by
  unfold MV
  rw [tf_k f 7 (by decide), tf_k f 10 (by decide)]
  exact v
set_option maxRecDepth 100000 in
theorem L_X7_readFill (Q : Int → zH → Prop) : ∀ (n : Nat) (h : zH), MT h → MV h → gs h 43 - gs h 42 < n → Q (m_fvL n h).2 (m_fvL n h).1 → zX cM zNo RX7 cX7_readFill 1 (some .boolean) rX7_readFill 19 [some (.ref 0)] [] h (zEi cM Q) := by
  intro n
  induction n with
  | zero =>
    intro h t v g hQ
    have := t.2.2
    omega
  | succ n ih =>
    intro h t v g hQ
    have mp := MT_peek t
    have vp := MV_c v (TF_peek h)
    obtain ⟨w1, w2, w3, w4, w5⟩ := value_r mp vp
    have tr := mTok_r t
    have ep : gs (m_peek h) 42 = mTok h := rfl
    have e43 : gs (m_value (m_peek h)).1 43 = gs h 43 := w1.1 43 (by decide) (by decide) (by decide) (by decide) (by decide) (by decide) (by decide) (by decide) (by decide) (by decide) (by decide) (by decide)
    have sr := (semi_r mp).2.2
    rw [m_fvL] at hQ
    refine zx_ok (fun ok => ?_)
    refine zx_aload_n (pc := 19) dX7_readFill_19 rfl rfl ?_
    refine zi_X7_163 (pc := 20) dX7_readFill_20 (C_X7_peek t) (by decide) (Nat.le_of_ble_eq_true rfl) (fun z20 h20 u20 v20 q20 => ?_)
    obtain ⟨rfl, e20⟩ := q20
    rw [e20]
    clear e20 h20
    refine zi_X7_186 (pc := 23) dX7_readFill_23 (C_X7_isDigit (mBy_r ok _)) (by decide) (Nat.le_of_ble_eq_true rfl) (fun z23 h23 u23 v23 q23 => ?_)
    obtain ⟨rfl, e23⟩ := q23
    rw [e23]
    clear e23 h23
    refine zx_if_eq (pc := 26) (tgt := 38) dX7_readFill_26 (by decide) (fun o => by first | exact o.1 _ (by decide) | exact o.2 _ _ | omega) (fun c26 => ?_) (fun c26 => ?_)
    · skip
      try replace c26 := b2i_0.mp c26
      rw [ifp_f c26] at hQ
      refine zx_aload_n (pc := 38) dX7_readFill_38 rfl rfl ?_
      refine zi_X7_227 (pc := 39) dX7_readFill_39 (C_X7_readSemicolon mp) (by decide) (Nat.le_of_ble_eq_true rfl) (fun z39 h39 u39 v39 q39 => ?_)
      obtain ⟨rfl, e39⟩ := q39
      rw [e39]
      clear e39 h39
      refine zx_zret (pc := 42) dX7_readFill_42 (by omega) ?_
      exact hQ
    · skip
      try replace c26 := b2i_n0.mp c26
      rw [ifp_t c26] at hQ
      refine zx_aload_n (pc := 29) dX7_readFill_29 rfl rfl ?_
      refine zi_X7_236 (pc := 30) dX7_readFill_30 (C_X7_readValue mp vp) (by decide) (Nat.le_of_ble_eq_true rfl) (fun z30 h30 u30 v30 q30 => ?_)
      obtain ⟨rfl, e30⟩ := q30
      rw [e30]
      clear e30 h30
      refine zx_if_ne (pc := 33) (tgt := 19) dX7_readFill_33 (by decide) (fun o => by first | exact o.1 _ (by decide) | exact o.2 _ _ | omega) (fun c33 => ?_) (fun c33 => ?_)
      · skip
        try replace c33 := b2i_n0.mp c33
        rw [ifp_t (by omega)] at hQ
        exact ih _ w2 w3 (by omega) hQ
      · skip
        try replace c33 := b2i_0.mp c33
        rw [ifp_f (by omega)] at hQ
        refine zx_iconst (pc := 36) dX7_readFill_36 ?_
        refine zx_zret (pc := 37) dX7_readFill_37 (by omega) ?_
        exact hQ
theorem fvL_r : ∀ (n : Nat) (h : zH), MT h → MV h → TG h (m_fvL n h).1 ∧ MT (m_fvL n h).1 ∧ MV (m_fvL n h).1 ∧ (gs (m_fvL n h).1 5 = gs h 5 ∧ gs (m_fvL n h).1 6 = gs h 6 ∧ gs (m_fvL n h).1 7 = gs h 7 ∧ gs (m_fvL n h).1 8 = gs h 8) ∧ ((m_fvL n h).2 = 0 ∨ (m_fvL n h).2 = 1 ∧ gs h 42 < gs (m_fvL n h).1 42)
  | 0, h, t, v => ⟨(TF.rf h).g, t, v, ⟨rfl, rfl, rfl, rfl⟩, Or.inl rfl⟩
  | n + 1, h, t, v => by
    have mp := MT_peek t
    have fp := TF_peek h
    have vp := MV_c v fp
    have tr := mTok_r t
    have ep : gs (m_peek h) 42 = mTok h := rfl
    rw [m_fvL]
    rcases Classical.em (isD (mBy h (mTok h))) with c | c
    · rw [ifp_t c]
      obtain ⟨w1, w2, w3, w4, w5⟩ := value_r mp vp
      rcases Classical.em ((m_value (m_peek h)).2 = 1) with d | d
      · rw [ifp_t d]
        obtain ⟨x1, x2, x3, x4, x5⟩ := fvL_r n _ w2 w3
        refine ⟨(fp.g.tr w1).tr x1, x2, x3, ⟨x4.1.trans w4.1, x4.2.1.trans w4.2.1, x4.2.2.1.trans w4.2.2.1, x4.2.2.2.trans w4.2.2.2⟩, ?_⟩
        rcases x5 with x5 | x5
        · exact Or.inl x5
        · exact Or.inr ⟨x5.1, by omega⟩
      · rw [ifp_f d]
        exact ⟨fp.g.tr w1, w2, w3, w4, Or.inl rfl⟩
    · rw [ifp_f c]
      obtain ⟨s1, s2, s3⟩ := semi_r mp
      refine ⟨fp.g.tr s1.g, s2, MV_c vp s1, ⟨tf_k s1 5 (by decide), tf_k s1 6 (by decide), tf_k s1 7 (by decide), tf_k s1 8 (by decide)⟩, ?_⟩
      rcases s3 with s3 | s3
      · exact Or.inl s3.1
      · exact Or.inr ⟨s3.1, by omega⟩
theorem fill_r {h : zH} (t : MT h) (v : MV h) : TG h (m_fill h).1 ∧ MT (m_fill h).1 ∧ MV (m_fill h).1 ∧ (gs (m_fill h).1 5 = gs h 5 ∧ gs (m_fill h).1 6 = gs h 6 ∧ gs (m_fill h).1 7 = gs h 7 ∧ gs (m_fill h).1 8 = gs h 8) ∧ ((m_fill h).2 = 0 ∨ (m_fill h).2 = 1 ∧ gs h 42 < gs (m_fill h).1 42) := by
  obtain ⟨q1, q2, q3, q4⟩ := word_r t 206220
  have v2 := MV_c v q1
  have qk : gs (m_word h 206220).1 5 = gs h 5 ∧ gs (m_word h 206220).1 6 = gs h 6 ∧ gs (m_word h 206220).1 7 = gs h 7 ∧ gs (m_word h 206220).1 8 = gs h 8 := ⟨tf_k q1 5 (by decide), tf_k q1 6 (by decide), tf_k q1 7 (by decide), tf_k q1 8 (by decide)⟩
  obtain ⟨w1, w2, w3, w4, w5⟩ := value_r q2 v2
  unfold m_fill
  rcases Classical.em ((m_word h 206220).2 = 1) with c | c
  · rw [ifp_t c]
    rcases Classical.em ((m_value (m_word h 206220).1).2 = 1) with d | d
    · rw [ifp_t d]
      obtain ⟨x1, x2, x3, x4, x5⟩ := fvL_r 601 _ w2 w3
      refine ⟨(q1.g.tr w1).tr x1, x2, x3, ⟨by omega, by omega, by omega, by omega⟩, ?_⟩
      rcases x5 with x5 | x5
      · exact Or.inl x5
      · exact Or.inr ⟨x5.1, by omega⟩
    · rw [ifp_f d]
      exact ⟨q1.g.tr w1, w2, w3, ⟨w4.1.trans qk.1, w4.2.1.trans qk.2.1, w4.2.2.1.trans qk.2.2.1, w4.2.2.2.trans qk.2.2.2⟩, Or.inl rfl⟩
  · rw [ifp_f c]
    exact ⟨q1.g, q2, v2, qk, Or.inl rfl⟩
set_option maxRecDepth 100000 in
theorem C_X7_readFill {h : zH} (t : MT h) (v : MV h) : kX7_readFill h (fun r h2 => r = (m_fill h).2 ∧ h2 = (m_fill h).1) := by
  obtain ⟨q1, q2, q3, q4⟩ := word_r t 206220
  have v2 := MV_c v q1
  obtain ⟨w1, w2, w3, w4, w5⟩ := value_r q2 v2
  apply eX7_readFill
  unfold m_fill
  refine zx_aload_n (pc := 0) dX7_readFill_0 rfl rfl ?_
  refine zx_ldc2 (pc := 1) (n := 206220) dX7_readFill_1 (by rw [show lL 206220 = (206220 : Int64) by decide +kernel]; exact zo_X7_234) ?_
  refine zi_X7_192 (pc := 4) dX7_readFill_4 (C_X7_takesWord t (by decide) (by decide)) (by decide) (Nat.le_of_ble_eq_true rfl) (fun z4 h4 u4 v4 q4 => ?_)
  obtain ⟨rfl, e4⟩ := q4
  rw [e4]
  clear e4 h4
  refine zx_if_eq (pc := 7) (tgt := 17) dX7_readFill_7 (by decide) (fun o => by first | exact o.1 _ (by decide) | exact o.2 _ _ | omega) (fun c7 => ?_) (fun c7 => ?_)
  · skip
    try replace c7 := b2i_0.mp c7
    rw [ifp_f (by omega)]
    refine zx_iconst (pc := 17) dX7_readFill_17 ?_
    refine zx_zret (pc := 18) dX7_readFill_18 (by omega) ?_
    exact ⟨rfl, rfl⟩
  · skip
    try replace c7 := b2i_n0.mp c7
    rw [ifp_t (by omega)]
    refine zx_aload_n (pc := 10) dX7_readFill_10 rfl rfl ?_
    refine zi_X7_236 (pc := 11) dX7_readFill_11 (C_X7_readValue q2 v2) (by decide) (Nat.le_of_ble_eq_true rfl) (fun z11 h11 u11 v11 q11 => ?_)
    obtain ⟨rfl, e11⟩ := q11
    rw [e11]
    clear e11 h11
    refine zx_if_ne (pc := 14) (tgt := 19) dX7_readFill_14 (by decide) (fun o => by first | exact o.1 _ (by decide) | exact o.2 _ _ | omega) (fun c14 => ?_) (fun c14 => ?_)
    · skip
      try replace c14 := b2i_n0.mp c14
      rw [ifp_t (by omega)]
      exact L_X7_readFill _ 601 _ w2 w3 (by have := w2.1; have := w2.2; omega) ⟨rfl, rfl⟩
    · skip
      try replace c14 := b2i_0.mp c14
      rw [ifp_f (by omega)]
      refine zx_iconst (pc := 17) dX7_readFill_17 ?_
      refine zx_zret (pc := 18) dX7_readFill_18 (by omega) ?_
      exact ⟨rfl, rfl⟩
noncomputable def m_rfL : Nat → zH → zH × Int
  | 0, h => (h, 0)
  | n + 1, h => ifp (mBy h (mTok h) = -1) (m_peek h, 1) (ifp ((m_fill (m_peek h)).2 = 1) (m_rfL n (m_fill (m_peek h)).1) ((m_fill (m_peek h)).1, 0))
noncomputable def m_rfmt (h : zH) : zH × Int := ifp ((m_head (ps h 10 0)).2 = 1) (m_rfL 601 (m_head (ps h 10 0)).1) ((m_head (ps h 10 0)).1, 0)
theorem rfL_r : ∀ (n : Nat) (h : zH), MT h → MV h → TG h (m_rfL n h).1 ∧ MT (m_rfL n h).1 ∧ MV (m_rfL n h).1 ∧ (gs (m_rfL n h).1 5 = gs h 5 ∧ gs (m_rfL n h).1 6 = gs h 6 ∧ gs (m_rfL n h).1 7 = gs h 7 ∧ gs (m_rfL n h).1 8 = gs h 8) ∧ ((m_rfL n h).2 = 0 ∨ (m_rfL n h).2 = 1)
  | 0, h, t, v => ⟨(TF.rf h).g, t, v, ⟨rfl, rfl, rfl, rfl⟩, Or.inl rfl⟩
  | n + 1, h, t, v => by
    have mp := MT_peek t
    have fp := TF_peek h
    have vp := MV_c v fp
    rw [m_rfL]
    rcases Classical.em (mBy h (mTok h) = -1) with c | c
    · rw [ifp_t c]
      exact ⟨fp.g, mp, vp, ⟨rfl, rfl, rfl, rfl⟩, Or.inr rfl⟩
    · rw [ifp_f c]
      obtain ⟨w1, w2, w3, w4, w5⟩ := fill_r mp vp
      rcases Classical.em ((m_fill (m_peek h)).2 = 1) with d | d
      · rw [ifp_t d]
        obtain ⟨x1, x2, x3, x4, x5⟩ := rfL_r n _ w2 w3
        exact ⟨(fp.g.tr w1).tr x1, x2, x3, ⟨x4.1.trans w4.1, x4.2.1.trans w4.2.1, x4.2.2.1.trans w4.2.2.1, x4.2.2.2.trans w4.2.2.2⟩, x5⟩
      · rw [ifp_f d]
        exact ⟨fp.g.tr w1, w2, w3, w4, Or.inl rfl⟩
set_option maxRecDepth 100000 in
theorem L_X7_readFormat (Q : Int → zH → Prop) : ∀ (n : Nat) (h : zH), MT h → MV h → gs h 43 - gs h 42 < n → Q (m_rfL n h).2 (m_rfL n h).1 → zX cM zNo RX7 cX7_readFormat 1 (some .boolean) rX7_readFormat 14 [some (.ref 0)] [] h (zEi cM Q) := by
  intro n
  induction n with
  | zero =>
    intro h t v g hQ
    have := t.2.2
    omega
  | succ n ih =>
    intro h t v g hQ
    have mp := MT_peek t
    have vp := MV_c v (TF_peek h)
    obtain ⟨w1, w2, w3, w4, w5⟩ := fill_r mp vp
    have tr := mTok_r t
    have ep : gs (m_peek h) 42 = mTok h := rfl
    have e43 : gs (m_fill (m_peek h)).1 43 = gs h 43 := w1.1 43 (by decide) (by decide) (by decide) (by decide) (by decide) (by decide) (by decide) (by decide) (by decide) (by decide) (by decide) (by decide)
    rw [m_rfL] at hQ
    refine zx_ok (fun ok => ?_)
    refine zx_aload_n (pc := 14) dX7_readFormat_14 rfl rfl ?_
    refine zi_X7_163 (pc := 15) dX7_readFormat_15 (C_X7_peek t) (by decide) (Nat.le_of_ble_eq_true rfl) (fun z15 h15 u15 v15 q15 => ?_)
    obtain ⟨rfl, e15⟩ := q15
    rw [e15]
    clear e15 h15
    refine zx_iconst (pc := 18) dX7_readFormat_18 ?_
    refine zx_icmp_eq (pc := 19) (tgt := 31) dX7_readFormat_19 (by decide) (fun _ => mBy_r ok _) (fun o => by first | exact o.1 _ (by decide) | exact o.2 _ _ | omega) (fun c19 => ?_) (fun c19 => ?_)
    · skip
      rw [ifp_t c19] at hQ
      refine zx_iconst (pc := 31) dX7_readFormat_31 ?_
      refine zx_zret (pc := 32) dX7_readFormat_32 (by omega) ?_
      exact hQ
    · skip
      rw [ifp_f c19] at hQ
      refine zx_aload_n (pc := 22) dX7_readFormat_22 rfl rfl ?_
      refine zi_X7_242 (pc := 23) dX7_readFormat_23 (C_X7_readFill mp vp) (by decide) (Nat.le_of_ble_eq_true rfl) (fun z23 h23 u23 v23 q23 => ?_)
      obtain ⟨rfl, e23⟩ := q23
      rw [e23]
      clear e23 h23
      refine zx_if_ne (pc := 26) (tgt := 14) dX7_readFormat_26 (by decide) (fun o => by first | exact o.1 _ (by decide) | exact o.2 _ _ | omega) (fun c26 => ?_) (fun c26 => ?_)
      · skip
        try replace c26 := b2i_n0.mp c26
        rw [ifp_t (by omega)] at hQ
        exact ih _ w2 w3 (by omega) hQ
      · skip
        try replace c26 := b2i_0.mp c26
        rw [ifp_f (by omega)] at hQ
        refine zx_iconst (pc := 29) dX7_readFormat_29 ?_
        refine zx_zret (pc := 30) dX7_readFormat_30 (by omega) ?_
        exact hQ
theorem GN_c {h h2 : zH} (g : GN h) (e5 : gs h2 5 = gs h 5) (e6 : gs h2 6 = gs h 6) (e7 : gs h2 7 = gs h 7) (e8 : gs h2 8 = gs h 8) : GN h2 := by
  unfold GN mFits
  rw [e5, e6, e7, e8]
  exact g
theorem rfmt_r {h : zH} (t : MT h) : TG h (m_rfmt h).1 ∧ MT (m_rfmt h).1 ∧ ((m_rfmt h).2 = 0 ∨ (m_rfmt h).2 = 1 ∧ GN (m_rfmt h).1 ∧ MV (m_rfmt h).1) := by
  have t0 := MT_ps t 10 0 (by decide)
  obtain ⟨q1, q2, q3, q4⟩ := head_r t0
  have f0 : TG h (ps h 10 0) := (TF.rf h).g.ps 10 0 (by decide)
  unfold m_rfmt
  rcases Classical.em ((m_head (ps h 10 0)).2 = 1) with c | c
  · rw [ifp_t c]
    have g : GN (m_head (ps h 10 0)).1 := by
      rcases q4 with q4 | q4
      · omega
      · exact q4.2
    have v : MV (m_head (ps h 10 0)).1 := by
      have e : gs (ps h 10 0) 10 = 0 := rfl
      rw [e] at q3
      unfold MV
      have := g.2.2.1
      omega
    obtain ⟨x1, x2, x3, x4, x5⟩ := rfL_r 601 _ q2 v
    refine ⟨(f0.tr q1).tr x1, x2, ?_⟩
    rcases x5 with x5 | x5
    · exact Or.inl x5
    · exact Or.inr ⟨x5, GN_c g x4.1 x4.2.1 x4.2.2.1 x4.2.2.2, x3⟩
  · rw [ifp_f c]
    exact ⟨f0.tr q1, q2, Or.inl rfl⟩
set_option maxRecDepth 100000 in
theorem C_X7_readFormat {h : zH} (t : MT h) : kX7_readFormat h (fun r h2 => r = (m_rfmt h).2 ∧ h2 = (m_rfmt h).1) := by
  have t0 := MT_ps t 10 0 (by decide)
  obtain ⟨q1, q2, q3, q4⟩ := head_r t0
  have e : gs (ps h 10 0) 10 = 0 := rfl
  rw [e] at q3
  apply eX7_readFormat
  unfold m_rfmt
  refine zx_aload_n (pc := 0) dX7_readFormat_0 rfl rfl ?_
  refine zx_iconst (pc := 1) dX7_readFormat_1 ?_
  refine zp_X7_231 (pc := 2) dX7_readFormat_2 (fun o => by first | exact o.1 _ (by decide) | exact o.2 _ _ | omega) ?_
  refine zx_aload_n (pc := 5) dX7_readFormat_5 rfl rfl ?_
  refine zi_X7_239 (pc := 6) dX7_readFormat_6 (C_X7_readHead t0) (by decide) (Nat.le_of_ble_eq_true rfl) (fun z6 h6 u6 v6 q6 => ?_)
  obtain ⟨rfl, e6⟩ := q6
  rw [e6]
  clear e6 h6
  refine zx_if_ne (pc := 9) (tgt := 14) dX7_readFormat_9 (by decide) (fun o => by first | exact o.1 _ (by decide) | exact o.2 _ _ | omega) (fun c9 => ?_) (fun c9 => ?_)
  · skip
    try replace c9 := b2i_n0.mp c9
    rw [ifp_t (by omega)]
    have g : GN (m_head (ps h 10 0)).1 := by
      rcases q4 with q4 | q4
      · omega
      · exact q4.2
    have v : MV (m_head (ps h 10 0)).1 := by
      unfold MV
      have := g.2.2.1
      omega
    exact L_X7_readFormat _ 601 _ q2 v (by have := q2.1; have := q2.2; omega) ⟨rfl, rfl⟩
  · skip
    try replace c9 := b2i_0.mp c9
    rw [ifp_f (by omega)]
    refine zx_iconst (pc := 12) dX7_readFormat_12 ?_
    refine zx_zret (pc := 13) dX7_readFormat_13 (by omega) ?_
    exact ⟨rfl, rfl⟩

