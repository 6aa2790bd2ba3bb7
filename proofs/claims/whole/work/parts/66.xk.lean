/-! what the class's device leaves of the text -/
def XK (x x2 : zH) : Prop := (∀ k, k < 45 → gs x2 k = gs x k) ∧ ∀ c i, c ≤ 8 → ga x2 c i = ga x c i
theorem XK.rf (x : zH) : XK x x := ⟨fun _ _ => rfl, fun _ _ _ => rfl⟩
theorem XK.tr {a b c : zH} (h : XK a b) (k : XK b c) : XK a c := ⟨fun n z => (k.1 n z).trans (h.1 n z), fun n i z => (k.2 n i z).trans (h.2 n i z)⟩
theorem XK_prog (h : zH) (b k ix g v : Int) : XK h (x_prog h b k ix g v).1 := ⟨fun j hj => gs_xprog h b k ix g v j (by omega), fun c i hc => ga_xprog_o h b k ix g v c i (by omega)⟩
theorem XK_mkcopy (h : zH) (p f : Int) : XK h (x_mkcopy h p f) := ⟨fun j hj => gs_xmkcopy h p f j (by omega), fun c i hc => ga_xmkcopy_o h p f c i (by omega)⟩
theorem XK_erase (h : zH) (b : Int) : XK h (x_erase h b) := ⟨fun j hj => gs_xerase h b j (by omega), fun c i hc => ga_xerase_o h b c i (by omega)⟩
theorem XK_cl (h : zH) : XK h (x_cl h) := ⟨fun _ _ => rfl, fun c i hc => ga_xcln_o _ _ _ _ (by omega)⟩
theorem XK_ps (h : zH) (k : Nat) (v : Int) (hk : 45 ≤ k) : XK h (ps h k v) := ⟨fun j hj => by rw [gs_ps, if_neg (by omega)], fun _ _ _ => rfl⟩
theorem XK_pa (h : zH) (c : Nat) (i v : Int) (hc : 9 ≤ c) : XK h (pa h c i v) := ⟨fun _ _ => rfl, fun d j hd => by rw [ga_pa, if_neg (by omega)]⟩
theorem XK_if {p : Prop} {h a b : zH} (ka : XK h a) (kb : XK h b) : XK h (ifp p a b) := by
  rcases Classical.em p with c | c
  · rw [ifp_t c]; exact ka
  · rw [ifp_f c]; exact kb
theorem XK_if2 {α : Type} {p : Prop} {h : zH} {a b : zH × α} (ka : XK h a.1) (kb : XK h b.1) : XK h (ifp p a b).1 := by
  rcases Classical.em p with c | c
  · rw [ifp_t c]; exact ka
  · rw [ifp_f c]; exact kb
theorem XK_lose (h : zH) : XK h (x_lose h) := ⟨fun j hj => gs_xlose h j (by omega), fun c i hc => by rw [ga_xlose, if_neg (by omega)]⟩
theorem XK_collL : ∀ (n : Nat) (h : zH) (f : Int), XK h (x_collL n h f).1
  | 0, h, _ => XK.rf h
  | n + 1, h, f => by
    rw [x_collL]
    exact XK_if2 (XK_if2 (XK_prog h _ _ _ _ _) (((XK_prog h _ _ _ _ _).tr (XK_mkcopy _ _ _)).tr (XK_collL n _ _))) (XK_collL n h _)
theorem XK_collect (h : zH) (b : Int) : XK h (x_collect h b).1 := by
  unfold x_collect
  exact XK_if2 ((XK_collL _ h _).tr (XK_erase _ _)) (XK_collL _ h _)
theorem XK_roomL : ∀ (n : Nat) (h : zH), XK h (x_roomL n h).1
  | 0, h => XK.rf h
  | n + 1, h => by
    rw [x_roomL]
    exact XK_if2 (XK_if2 (XK_cl h) (XK_if2 (((XK_cl h).tr (XK_collect _ _)).tr (XK_roomL n _)) ((XK_cl h).tr (XK_collect _ _)))) (XK.rf h)
theorem XK_page1 (h : zH) : XK h (x_page1 h).1 := by
  unfold x_page1 x_room
  exact XK_if2 (XK.rf h) (XK_if2 (XK_ps h 46 _ (by decide)) ((XK_ps h 46 _ (by decide)).tr (XK_roomL 2 _)))
theorem XK_page (h : zH) (k ix g v : Int) : XK h (x_page h k ix g v).1 := by
  unfold x_page x_pg2
  exact XK_if2 ((XK_page1 h).tr (XK_if2 ((XK_prog _ _ _ _ _ _).tr (XK_lose _)) (XK_prog _ _ _ _ _ _))) ((XK_page1 h).tr (XK_lose _))
theorem XK_fmp (h : zH) (p q : Int) : XK h (x_fmp h p q) := ⟨fun k _ => gs_xfmp h p q k, fun c i hc => by unfold x_fmp; rw [ga_if, ga_xfill_o _ _ _ _ _ _ (by omega), ifp_same]⟩
theorem XK_ckL : ∀ (n : Nat) (h : zH) (q : Int), XK h (x_ckL n h q).1
  | 0, h, _ => XK.rf h
  | n + 1, h, q => by
    rw [x_ckL]
    exact XK_if2 (XK_page h _ _ _ _) (((XK_page h _ _ _ _).tr (XK_fmp _ _ _)).tr (XK_ckL n _ _))
theorem XK_ck0 (h : zH) : XK h (x_ck0 h) := (XK_ps h 49 _ (by decide)).tr (XK_ps _ 52 _ (by decide))
theorem XK_ck (h : zH) : XK h (x_ck h).1 := by
  unfold x_ck x_ck1 x_ck2
  have q := (XK_ck0 h).tr (XK_ckL (gs h 105).toNat (x_ck0 h) 0)
  have e (z : zH) (r : Int) : XK z (x_ckEnd z r) := (((XK_ps z 50 _ (by decide)).tr (XK_ps _ 51 _ (by decide))).tr (XK_ps _ 52 _ (by decide))).tr (XK_ps _ 48 _ (by decide))
  rcases Classical.em ((x_ckL (gs h 105).toNat (x_ck0 h) 0).2 = 1) with c | c
  · rw [ifp_t c]
    have w := XK_page (x_ckL (gs h 105).toNat (x_ck0 h) 0).1 4 0 (gs (x_ckL (gs h 105).toNat (x_ck0 h) 0).1 49) (-2)
    rcases Classical.em (xPl (x_page (x_ckL (gs h 105).toNat (x_ck0 h) 0).1 4 0 (gs (x_ckL (gs h 105).toNat (x_ck0 h) 0).1 49) (-2)).1 (x_page (x_ckL (gs h 105).toNat (x_ck0 h) 0).1 4 0 (gs (x_ckL (gs h 105).toNat (x_ck0 h) 0).1 49) (-2)).2) with d | d
    · rw [ifp_t d]
      exact (q.tr w).tr (e _ _)
    · rw [ifp_f d]
      exact q.tr w
  · rw [ifp_f c]
    exact q
theorem XK_cc (h : zH) : XK h (x_cc h).1 := by
  unfold x_cc
  exact XK_if2 (XK_ps h 48 _ (by decide)) ((XK_ps h 48 _ (by decide)).tr (XK_ck _))
theorem XK_setC (h : zH) (p v : Int) : XK h (x_setC h p v) := by
  unfold x_setC
  exact XK_if (XK_pa h 21 _ _ (by decide)) (XK.rf h)
theorem XK_pis (h : zH) (t p v : Int) : XK h (x_pis h t p v) := by
  unfold x_pis
  exact XK_if ((XK_pa h 23 _ _ (by decide)).tr (XK_pa _ 22 _ _ (by decide))) (XK.rf h)
theorem XK_close (h : zH) (t v : Int) : XK h (x_close h t v) := by
  unfold x_close
  exact XK_if (XK_pa h 20 _ _ (by decide)) (XK.rf h)
theorem XK_cms (h : zH) (t : Int) : XK h (x_cms h t) := ⟨fun _ _ => rfl, fun c i hc => by unfold x_cms; rw [ga_xrel, if_neg (by omega), ga_xshd, if_neg (by omega)]⟩
theorem XK_rel (h : zH) (t n : Int) : XK h (x_rel h t n) := ⟨fun _ _ => rfl, fun c i hc => by rw [ga_xrel, if_neg (by omega)]⟩
theorem XK_wout (h : zH) (p v : Int) : XK h (x_wout h p v).1 := by
  unfold x_wout x_wo2
  exact XK_if2 ((XK_page h _ _ _ _).tr ((XK_setC _ _ _).tr (XK_if2 ((XK_cc _).tr (XK_ps _ 53 _ (by decide))) (XK_cc _)))) (XK_page h _ _ _ _)
theorem XK_win (h : zH) (t p v : Int) : XK h (x_win h t p v).1 := by
  unfold x_win x_wi2
  exact XK_if2 ((XK_page h _ _ _ _).tr ((XK_pis _ _ _ _).tr (XK_ps _ 53 _ (by decide)))) (XK_page h _ _ _ _)
theorem XK_com (h : zH) (t n : Int) : XK h (x_com h t n).1 := by
  unfold x_com x_cm2
  exact XK_if2 (XK_close h _ _) (XK_if2 (XK_page h _ _ _ _) ((XK_page h _ _ _ _).tr (((XK_cms _ _).tr (XK_close _ _ _)).tr (XK_cc _))))

