set_option maxRecDepth 16384
/-- two loops, the second of which may need one step more at its end -/
theorem gloop_two2 {α β γ δ : Type} {f : α → Option (α ⊕ β)} {g : γ → Option (γ ⊕ δ)} (I : Nat → α → γ → Prop) (post : β → δ → Prop) (h : ∀ r a x, I r a x → (∃ a2 x2 r2, f a = some (.inl a2) ∧ g x = some (.inl x2) ∧ r2 < r ∧ I r2 a2 x2) ∨ ∃ b y, f a = some (.inr b) ∧ (g x = some (.inr y) ∨ ∃ x2, g x = some (.inl x2) ∧ g x2 = some (.inr y)) ∧ post b y) {n r : Nat} {a : α} {x : γ} (hi : I r a x) (hn : r + 1 < n) : ∃ b y, gloop f n a = some b ∧ gloop g n x = some y ∧ post b y := by
  induction n generalizing r a x with
  | zero => omega
  | succ n ih =>
    rcases h r a x hi with ⟨a2, x2, r2, e, e2, hr, h2⟩ | ⟨b, y, e, e2, hb⟩
    · obtain ⟨b, y, e3, e4, hb⟩ := ih h2 (by omega)
      exact ⟨b, y, by rw [gloop, e]; exact e3, by rw [gloop, e2]; exact e4, hb⟩
    · refine ⟨b, y, by rw [gloop, e], ?_, hb⟩
      rcases e2 with e2 | ⟨x2, e2, e3⟩
      · rw [gloop, e2]
      · obtain ⟨n, rfl⟩ : ∃ k, n = k + 1 := ⟨n - 1, by omega⟩
        rw [gloop, e2]
        show gloop g (n + 1) x2 = _
        rw [gloop, e3]
theorem open_c (c : gm) (k : Nat) : ∃ c2, m_X7_open 1 (nI k) c = some c2 ∧ (∀ i, i ≠ 1 → c2.1 i = c.1 i) ∧ c2.2 = c.2 ∧ c2.1 1 1 = nI 0 ∧ c2.1 1 2 = nI k ∧ c2.1 1 3 = nI 0 ∧ c2.1 1 6 = 0 ∧ c2.1 1 7 = -1 := by
  unfold m_X7_open
  rw [gc_1 (show gck 1 = 7 from rfl), gv_e, gv_e, gv_e, gv_e, gv_e, gv_e]
  refine ⟨_, rfl, fun i hi => ?_, rfl, ?_, ?_, ?_, ?_, ?_⟩
  · simp (disch := omega) only [gr_n]
  · simp (disch := omega) only [gr_s, up_n, up_s]; rfl
  · simp (disch := omega) only [gr_s, up_n, up_s]
  · simp (disch := omega) only [gr_s, up_n, up_s]; rfl
  · simp (disch := omega) only [gr_s, up_n, up_s]
  · simp (disch := omega) only [gr_s, up_s]
theorem starts_d {k N : Nat} {b : Nat → Nat} {d : gm} (hk : k ≤ 600) (hb : ∀ j, j < k → b j < 256 ∧ d.1 56 j = nI (b j)) (hN : 700 < N) : ∃ d2, m_X10_starts N 55 (nI k) d = some d2 ∧ (∀ i, i ≠ 55 → d2.1 i = d.1 i) ∧ d2.2 = d.2 ∧ d2.1 55 1 = nI 0 ∧ d2.1 55 2 = nI k ∧ d2.1 55 4 = nI (pScan (pBl b) k 0) ∧ d2.1 55 5 = 0 ∧ d2.1 55 7 = nI 0 ∧ d2.1 55 8 = nI 0 ∧ ∀ s, s = 0 ∨ s = 3 ∨ 9 ≤ s → d2.1 55 s = d.1 55 s := by
  obtain ⟨c9, e9, f1, f2, g1, g2, g4, g5, g7, g8, gs⟩ : ∃ c9, m_X10_starts N 55 (nI k) d = gb (m_X10_blanks N 55 c9) (fun (c12 : gm) => some c12) ∧ (∀ i, i ≠ 55 → c9.1 i = d.1 i) ∧ c9.2 = d.2 ∧ c9.1 55 1 = nI 0 ∧ c9.1 55 2 = nI k ∧ c9.1 55 4 = nI 0 ∧ c9.1 55 5 = 0 ∧ c9.1 55 7 = nI 0 ∧ c9.1 55 8 = nI 0 ∧ ∀ s, s = 0 ∨ s = 3 ∨ 9 ≤ s → c9.1 55 s = d.1 55 s := by
    unfold m_X10_starts
    rw [gc_1 (show gck 55 = 10 from rfl), gv_e, gv_e, gv_e, gv_e, gv_e, gv_e, gv_e]
    refine ⟨_, rfl, fun i hi => ?_, rfl, ?_, ?_, ?_, ?_, ?_, ?_, fun s hs => ?_⟩
    · simp (disch := omega) only [gr_n]
    · simp (disch := omega) only [gr_s, up_n, up_s]; rfl
    · simp (disch := omega) only [gr_s, up_n, up_s]
    · simp (disch := omega) only [gr_s, up_n, up_s]; rfl
    · simp (disch := omega) only [gr_s, up_n, up_s]
    · simp (disch := omega) only [gr_s, up_n, up_s]; rfl
    · simp (disch := omega) only [gr_s, up_s]; rfl
    · simp (disch := omega) only [gr_s, up_n]
  have eb := blanks_d (n := k) (a := 0) (N := N) (b := b) (d := c9) ⟨hk, g2, fun j hj => by rw [f1 56 (by omega)]; exact hb j hj⟩ g4 (by omega) hN
  have fa := dAt_f c9 (pScan (pBl b) k 0)
  refine ⟨_, by rw [e9, gb_x eb], fun i hi => by rw [fa.1 i hi, f1 i hi], by rw [fa.2.1, f2], by rw [fa.2.2 1 (by omega)]; exact g1, by rw [fa.2.2 2 (by omega)]; exact g2, dAt_4 _ _, by rw [fa.2.2 5 (by omega)]; exact g5, by rw [fa.2.2 7 (by omega)]; exact g7, by rw [fa.2.2 8 (by omega)]; exact g8, fun s hs => by rw [fa.2.2 s (by omega)]; exact gs s hs⟩
theorem fill_g {a1 L N : Nat} {c : gm} (k1 : gck a1 = 12) (k2 : gal a1 = L) (hL : L ≤ 100) (hn : 160 < N) : ∃ c2, m_J7_fill_53178 N a1 0 c = some c2 ∧ fr (fun i => i = a1) c c2 ∧ ∀ w, w < L → c2.1 a1 w = 0 := by
  obtain ⟨c2, e, h⟩ := gloop_inv (f := gu2 (fun (y5 : Int32) (c6 : gm) => m_J7_fill_53178_L5 a1 0 (nI L) y5 c6)) (fun q (a : Int32 × gm) => ∃ k c6, k ≤ L ∧ q + k = L ∧ a = (nI k, c6) ∧ fr (fun i => i = a1) c c6 ∧ ∀ w, w < k → c6.1 a1 w = 0) (fun c2 => fr (fun i => i = a1) c c2 ∧ ∀ w, w < L → c2.1 a1 w = 0) (n := N) (r := L) (a := (0, c)) (by
    rintro q a ⟨k, c6, hk, hq, rfl, fc, hw⟩
    by_cases hk2 : k = L
    · right
      subst hk2
      refine ⟨c6, ?_, fc, hw⟩
      show m_J7_fill_53178_L5 a1 0 (nI k) (nI k) c6 = _
      unfold m_J7_fill_53178_L5
      rw [if_pos (by rw [n_le (by omega) (by omega)]; omega)]
    · left
      refine ⟨(nI (k + 1), gm_r c6 a1 (upd (c6.1 a1) k 0)), q - 1, ?_, by omega, k + 1, _, by omega, by omega, rfl, fr_ut fc rfl, fun w hw2 => ?_⟩
      · show m_J7_fill_53178_L5 a1 0 (nI L) (nI k) c6 = _
        unfold m_J7_fill_53178_L5
        rw [if_neg (by rw [n_le (by omega) (by omega)]; omega), k2, gc_1 (n_rg (by omega) (by omega)), gv_e, gv_e, n_s, n_cl (by omega)]
      · rw [gr_s]
        by_cases e : w = k
        · rw [e, up_s]
        · rw [up_n _ _ e]; exact hw w (by omega)) ⟨0, c, by omega, by omega, rfl, fr_r _ _, fun w hw => by omega⟩ (by omega)
  refine ⟨c2, ?_, h⟩
  unfold m_J7_fill_53178
  rw [gc_1 k1, k2, gv_e, gb_x e]
/-- both sides before the first clause -/
theorem empty_two {N : Nat} {c d : gm} (hN : 160 < N) : ∃ c2 d2, m_X6_becomeEmpty N 9 c = some c2 ∧ m_X10_tellsNothing 55 d = some d2 ∧ gMk 0 0 9 0 c2 d2 ∧ fmC c c2 ∧ fmD d d2 ∧ c2.1 1 = c.1 1 ∧ d2.1 55 = d.1 55 := by
  obtain ⟨c8, e1, f1, g1⟩ := fill_g (a1 := 9 + 1) (L := 8) (N := N) (c := c) rfl rfl (by omega) hN
  obtain ⟨c14, e2, f2, g2⟩ := fill_g (a1 := 9 + 2) (L := 8) (N := N) (c := c8) rfl rfl (by omega) hN
  obtain ⟨c20, e3, f3, g3⟩ := fill_g (a1 := 9 + 3) (L := 8) (N := N) (c := c14) rfl rfl (by omega) hN
  have X : m_X6_becomeEmpty N 9 c = some (gm_r c20 9 (upd (upd (upd (upd (upd (upd (c20.1 9) 5 0) 6 0) 7 9) 8 0) 9 0) 10 0)) := by
    unfold m_X6_becomeEmpty
    rw [gc_1 (show gck 9 = 6 from rfl), gb_x e1, gb_x e2, gb_x e3, gv_e, gv_e, gv_e, gv_e, gv_e, gv_e]
    simp only [gr_s, gr_r]
  have Y : m_X10_tellsNothing 55 d = some (gm_r d 58 (upd (upd (upd (upd (d.1 58) 0 0) 1 0) 2 9) 3 0)) := by
    unfold m_X10_tellsNothing
    rw [gc_1 (show gck 55 = 10 from rfl), gv_e, gv_e, gv_e, gv_e, n_cl0, n_cl1, i_2, i_3]
    simp only [gr_s, gr_r]
  have hf : ∀ i, i ≠ 10 → i ≠ 11 → i ≠ 12 → c20.1 i = c.1 i := fun i i1 i2 i3 => by rw [f3.1 i (by omega), f2.1 i (by omega), f1.1 i (by omega)]
  refine ⟨_, _, X, Y, ⟨by omega, by omega, by omega, by omega, ⟨?_, ?_, ?_, ?_, ?_, ?_⟩, ⟨?_, ?_, ?_, ?_⟩, fun a ha => by omega, fun a ha => ?_, fun k hk => by omega⟩, ⟨fun i i1 i2 => ?_, ?_, fun k hk => ?_⟩, ⟨fun i i1 i2 i3 i4 => gr_n _ _ (by omega), rfl, fun k hk => by rw [gr_n _ _ (by omega)]⟩, ?_, gr_n _ _ (by omega)⟩
  · simp (disch := omega) only [gr_s, up_n, up_s]; rfl
  · simp (disch := omega) only [gr_s, up_n, up_s]; rfl
  · simp (disch := omega) only [gr_s, up_n, up_s]; rfl
  · simp (disch := omega) only [gr_s, up_n, up_s]; rfl
  · simp (disch := omega) only [gr_s, up_n, up_s]
  · simp (disch := omega) only [gr_s, up_s]
  · simp (disch := omega) only [gr_s, up_n, up_s]; rfl
  · simp (disch := omega) only [gr_s, up_n, up_s]; rfl
  · simp (disch := omega) only [gr_s, up_n, up_s]; rfl
  · simp (disch := omega) only [gr_s, up_s]; rfl
  · rw [gr_n _ _ (by omega)]; exact g3 a ha
  · rw [gr_n _ _ (by omega), hf i (by omega) (by omega) (by omega)]
  · show c20.2 = c.2
    rw [f3.2, f2.2, f1.2]
  · rw [gr_n _ _ (by omega), hf 1 (by omega) (by omega) (by omega)]
  · rw [gr_n _ _ (by omega), hf 1 (by omega) (by omega) (by omega)]
theorem gMk_f {th m l p : Nat} {c d c2 d2 : gm} (h : gMk th m l p c d) (f : ∀ i, 9 ≤ i → i ≤ 14 → c2.1 i = c.1 i) (g : ∀ i, 58 ≤ i → i ≤ 72 → d2.1 i = d.1 i) : gMk th m l p c2 d2 := by
  obtain ⟨t8, m10, l18, p9, h9, h58, hw, hz, hcr⟩ := h
  refine ⟨t8, m10, l18, p9, ?_, ?_, fun z hz2 => ?_, fun z hz2 => ?_, fun z hz2 => ?_⟩
  · rw [f 9 (by omega) (by omega)]; exact h9
  · rw [g 58 (by omega) (by omega)]; exact h58
  · rw [f 10 (by omega) (by omega), f 11 (by omega) (by omega), g 60 (by omega) (by omega)]; exact hw z hz2
  · rw [f 12 (by omega) (by omega)]; exact hz z hz2
  · rw [f 14 (by omega) (by omega), g _ (by omega) (by omega)]; exact hcr z hz2
theorem more_c {n a N : Nat} {b : Nat → Nat} {c : gm} (hT : gTc n b c) (h3 : c.1 1 3 = nI a) (han : a ≤ n) (hN : 700 < N) : m_X7_hasMore N 1 c = some (if pScan (pBl b) n a < n then 1 else 0, cPk c (pScan (pBl b) n a)) := by
  unfold m_X7_hasMore
  rw [gc_1 (show gck 1 = 7 from rfl), gb2_x (peek_c hT h3 han hN)]
  unfold pBt
  by_cases q : pScan (pBl b) n a < n
  · have := (hT.2.2 _ q).1
    rw [if_pos q, if_pos q, if_neg (by rw [n_ne (by omega)]; exact id)]
  · rw [if_neg q, if_neg q, if_pos rfl]
def gMp (n : Nat) (c d : gm) (B : (Int32 × gm) ⊕ gm) (y : gm) : Prop := (∃ c2 th m l p, B = .inr c2 ∧ y.1 55 5 = 0 ∧ gMk th m l p c2 y ∧ fmC c c2 ∧ fmD d y ∧ c2.1 1 7 = c.1 1 7) ∨ ∃ c2, B = .inl (0, c2) ∧ gFm n c d c2 y
theorem market_lp {n N : Nat} {b : Nat → Nat} {c d : gm} (hc : gTc n b c) (hd : gTd n b d) (h3 : c.1 1 3 = nI 0) (h4 : d.1 55 4 = nI (pScan (pBl b) n 0)) (h5 : d.1 55 5 = 0) (h7 : d.1 55 7 = nI 0) (hM : gMk 0 0 9 0 c d) (hN : 700 < N) : ∃ B y, gloop (gu2 (fun (y7 : Int32) (c8 : gm) => m_X6_readFrom_L6 N 9 1 y7 c8)) N (0, c) = some B ∧ gloop (fun (c19 : gm) => m_X10_market_L42 N 55 c19) N d = some y ∧ gMp n c d B y := by
  have hn := hc.1
  refine gloop_two2 (fun r (A : Int32 × gm) (x : gm) => ∃ k c8 a8 th m l p, k ≤ 60 ∧ r + a8 = n ∧ A = (nI k, c8) ∧ gTc n b c8 ∧ gTd n b x ∧ c8.1 1 3 = nI a8 ∧ x.1 55 4 = nI (pScan (pBl b) n a8) ∧ a8 ≤ n ∧ x.1 55 5 = 0 ∧ gMk th m l p c8 x ∧ x.1 55 7 = nI k ∧ fmC c c8 ∧ fmD d x ∧ c8.1 1 7 = c.1 1 7) (gMp n c d) ?_ ⟨0, c, 0, 0, 0, 9, 0, by omega, (by omega : n + 0 = n), rfl, hc, hd, h3, h4, by omega, h5, hM, h7, fmC_r c, fmD_r d, rfl⟩ (by omega)
  rintro r A x ⟨k, c8, a8, th, m, l, p, k60, hr, rfl, tc, td, g3, g4, ha, g5, gM, g7, fc, fd, g17⟩
  have hs := pScan_le (p := pBl b) ha
  have hx := pScan_x (p := pBl b) ha
  have em := more_c tc g3 ha hN
  generalize pScan (pBl b) n a8 = s at *
  have p1 : ¬ (60 : Int32) < nI k := by rw [n_l60, n_lt (by decide) (by omega)]; omega
  have hck := cPk_f c8 s
  have hM15 : gMk th m l p (cPk c8 s) x := gMk_f gM (fun i i1 i2 => hck.1 i (by omega)) (fun i _ _ => rfl)
  have h17 : (cPk c8 s).1 1 7 = c.1 1 7 := by rw [hck.2.2 7 (by omega) (by omega) (by omega)]; exact g17
  by_cases q : s < n
  rotate_left
  · right
    refine ⟨.inr (cPk c8 s), x, ?_, Or.inl ?_, Or.inl ⟨cPk c8 s, th, m, l, p, rfl, g5, hM15, fmC_t fc (fmC_f (frc_F hck)), fd, h17⟩⟩
    · show m_X6_readFrom_L6 N 9 1 (nI k) c8 = _
      unfold m_X6_readFrom_L6
      rw [if_neg p1, gc_1 (show gck 1 = 7 from rfl), gb2_x em, if_neg q, if_pos rfl]
    · unfold m_X10_market_L42
      rw [if_pos g5, td.2.1, g4, if_pos (by rw [n_le (by omega) (by omega)]; omega)]
  have hI : gIn n b (cPk c8 s) x s := ⟨gTc_f tc (frc_F hck), td, (cPk_s c8 s).1, g4, hs.2, g5⟩
  have eM : ∀ d2, m_X10_clause N 55 x = some d2 → m_X10_market_L42 N 55 x = gb (m_X10_blanks N 55 d2) (fun (c40 : gm) => some (.inl c40)) := by
    intro d2 e
    unfold m_X10_market_L42
    rw [if_pos g5, td.2.1, g4, if_neg (by rw [n_le (by omega) (by omega)]; omega), gb_x e]
  have eC : m_X6_readFrom_L6 N 9 1 (nI k) c8 = gb2 (m_X6_readClause N 9 1 (nI k) (cPk c8 s)) (fun (r18 : Int32) (c19 : gm) => (if r18 = 0 then some (.inr (.inl (0, c19))) else gb2 (m_X7_takeSign N 1 59 c19) (fun (r22 : Int32) (c23 : gm) => (if r22 = 0 then some (.inr (.inl (0, c23))) else gv (nI k + 1) (fun (x25 : Int32) => some (.inl (x25, c23))))))) := by
    unfold m_X6_readFrom_L6
    rw [if_neg p1, gc_1 (show gck 1 = 7 from rfl), gb2_x em, if_pos q, if_neg (by decide)]
  have bad : ∀ c2 d2, gFm n (cPk c8 s) x c2 d2 → m_X10_clause N 55 x = some d2 → ∃ y x2, m_X10_market_L42 N 55 x = some (.inl x2) ∧ m_X10_market_L42 N 55 x2 = some (.inr y) ∧ gFm n c d c2 y := by
    rintro c2 d2 ⟨f1, f2, f3⟩ e
    obtain ⟨a2, ha2, e4⟩ := gFl_t f3
    have td2 : gTd n b d2 := ⟨td.1, by rw [f2.2.2 2 (by omega)]; exact td.2.1, fun j hj => by rw [f2.1 56 (by omega) (by omega) (by omega) (by omega)]; exact td.2.2 j hj⟩
    have eb := blanks_d td2 e4 ha2 hN
    have fa := dAt_f d2 (pScan (pBl b) n a2)
    have h5' := gFl_5 f3
    refine ⟨dAt d2 (pScan (pBl b) n a2), dAt d2 (pScan (pBl b) n a2), by rw [eM d2 e, gb_x eb], ?_, gFm_d (fmC_t fc (fmC_t (fmC_f (frc_F hck)) f1)) (fmD_t fd f2) f3 (fmD_f (frm_F fa)) (fa.2.2 5 (by omega)) (fa.2.2 6 (by omega)) ⟨_, (pScan_le (p := pBl b) ha2).2, dAt_4 _ _⟩⟩
    unfold m_X10_market_L42
    rw [fa.2.2 5 (by omega), if_neg h5']
  rcases clause_two hI hM15 hx k60 g7 hN with ⟨k60', c1, c2, d2, a2, th', m', l', p', ha2, e1, e2, e3, hI2, hM2, f1, f2, f17, f7⟩ | ⟨c2, d2, e1, e2, hF⟩ | ⟨c1, c2, d2, e1, e2, e3, hF⟩
  · left
    have eb := blanks_d hI2.2.1 hI2.2.2.2.1 hI2.2.2.2.2.1 hN
    have fa := dAt_f d2 (pScan (pBl b) n a2)
    refine ⟨(nI (k + 1), c2), dAt d2 (pScan (pBl b) n a2), n - a2, ?_, by rw [eM d2 e3, gb_x eb], by omega, k + 1, c2, a2, th', m', l', p', by omega, by have := hI2.2.2.2.2.1; omega, rfl, hI2.1, gTd_f hI2.2.1 (frm_F fa), hI2.2.2.1, dAt_4 _ _, hI2.2.2.2.2.1, by rw [fa.2.2 5 (by omega)]; exact hI2.2.2.2.2.2, gMk_f hM2 (fun _ _ _ => rfl) (fun i i1 i2 => fa.1 i (by omega)), by rw [fa.2.2 7 (by omega)]; exact f7, fmC_t fc (fmC_t (fmC_f (frc_F hck)) f1), fmD_t fd (fmD_t f2 (fmD_f (frm_F fa))), by rw [f17]; exact h17⟩
    show m_X6_readFrom_L6 N 9 1 (nI k) c8 = _
    rw [eC, gb2_x e1, if_neg (by decide), gb2_x e2, if_neg (by decide), gv_e, n_s]
  · right
    obtain ⟨y, x2, t1, t2, t3⟩ := bad c2 d2 hF e2
    refine ⟨.inl (0, c2), y, ?_, Or.inr ⟨x2, t1, t2⟩, Or.inr ⟨c2, rfl, t3⟩⟩
    show m_X6_readFrom_L6 N 9 1 (nI k) c8 = _
    rw [eC, gb2_x e1, if_pos rfl]
  · right
    obtain ⟨y, x2, t1, t2, t3⟩ := bad c2 d2 hF e3
    refine ⟨.inl (0, c2), y, ?_, Or.inr ⟨x2, t1, t2⟩, Or.inr ⟨c2, rfl, t3⟩⟩
    show m_X6_readFrom_L6 N 9 1 (nI k) c8 = _
    rw [eC, gb2_x e1, if_neg (by decide), gb2_x e2, if_pos rfl]
