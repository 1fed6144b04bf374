set_option maxRecDepth 16384
/-! reading a law: units, products, sums -/
theorem lo_w {n t z h l a : Nat} {b : Nat → Nat} {c d : gm} {x : Option (Int32 × gm)} {y : Option gm} (H : gLo n b t z h l a c d x y) : gLo n b t z h l a c d (gb2 x (fun (r : Int32) (c : gm) => gc (r = 0 ∨ r = 1) (some (r, c)))) y := by
  rcases H with ⟨c2, d2, a2, z2, e1, e2, r⟩ | ⟨c2, d2, e1, e2, r⟩
  · exact Or.inl ⟨c2, d2, a2, z2, by rw [gb2_x e1, gc_1 (Or.inr rfl)], e2, r⟩
  · exact Or.inr ⟨c2, d2, by rw [gb2_x e1, gc_1 (Or.inl rfl)], e2, r⟩
theorem lo_b {n t z h l a s : Nat} {b : Nat → Nat} {c d c5 d6 : gm} {x : Option (Int32 × gm)} {y : Option gm} (H : gLo n b t z h l s c5 d6 x y) (has : a ≤ s) (f : frc c c5) (g : frm d d6) : gLo n b t z h l a c d x y := by
  have F := flC_f (t := t) (frc_F f)
  have D := flD_f (frm_F g)
  rcases H with ⟨c2, d2, a2, z2, e1, e2, I, r1, r2, r3, r4, r5, r6, r7⟩ | ⟨c2, d2, e1, e2, r5, r6, r7⟩
  · exact Or.inl ⟨c2, d2, a2, z2, e1, e2, I, by omega, by omega, r3, r4, flC_t F r5, flD_t D r6, by rw [r7, f.2.2 7 (by omega) (by omega) (by omega)]⟩
  · exact Or.inr ⟨c2, d2, e1, e2, flC_t F r5, flD_t D r6, r7⟩
theorem isW_no {s w : Nat} {b : Nat → Nat} (hw : w < 16) : ¬ isW b s s w := fun h => by
  have := (gs_ok w hw).2.1
  have := h.1
  omega
theorem unit_two {n N t z h l a : Nat} {b : Nat → Nat} {rc : Nat → Nat → Nat → Int32 → gm → Option (Int32 × gm)} {rd : Nat → Nat → gm → Option gm} {c d : gm} (H : l < 6 → gRc n b t (l + 1) N rc rd) (F : ∀ d, ¬ d.1 55 5 = 0 → rd N 55 d = some d) (hl : l ≤ 6) (hh : h ≤ 3 * l + 2) (ht : t = 33 ∨ t = 38) (hN : 700 < N) (hI : gLi n b t z h l a c d) : gLo n b t z h l a c d (m_X3_readUnit rc N t 1 (nI l) c) (m_X10_one rd N 55 d) := by
  obtain ⟨⟨hc, hd, h3, h4, han, h5⟩, hC, hz, h150, h8⟩ := hI
  have hn := hc.1
  have kt : gck t = 3 := hC.1
  have hs := pScan_le (p := pBl b) han
  have hx := pScan_x (p := pBl b) han
  have e1 := peek_c hc h3 han hN
  have e2 := blanks_d hd h4 han hN
  have hb := gNb_a (n := n) (a := a) (b := b) hd han h5
  obtain ⟨s, es⟩ : ∃ s, s = pScan (pBl b) n a := ⟨_, rfl⟩
  rw [← es] at hs hx e1 e2 hb
  have fc := cPk_f c s
  have fd := dAt_f d s
  obtain ⟨c53, c54⟩ := cPk_s c s
  have hc5 : gTc n b (cPk c s) := gTc_f hc (frc_F fc)
  have C5 : gCd t z h (cPk c s) (dAt d s) := gCd_o ht hC (frc_F fc) (frm_F fd)
  have L5 : (dAt d s).1 55 8 = nI l := by rw [fd.2.2 8 (by omega)]; exact h8
  generalize cPk c s = c5 at *
  generalize dAt d s = d6 at *
  refine lo_b (s := s) (c5 := c5) (d6 := d6) ?_ hs.1 fc fd
  obtain ⟨hd6, d64, -, d65, -⟩ := id hb
  have hpw := pScan_le (p := pLt b) hs.2
  obtain ⟨e, ee⟩ : ∃ e, e = pScan (pLt b) n s := ⟨_, rfl⟩
  rw [← ee] at hpw
  have Y0 : m_X10_one rd N 55 d = gb2 (m_X10_isWord N 55 12 5 1 19 20 0 d6) (fun (r8 : Int32) (c9 : gm) => if r8 = 0 then gb2 (m_X10_isWord N 55 13 15 19 20 0 0 c9) (fun (r70 : Int32) (c71 : gm) => if r70 = 0 then oneV rd N (-1) c71 else oneV rd N 8 c71) else oneV rd N 7 c9) := by
    rw [one_e, gc_1 (show gck 55 = 10 from rfl), if_pos h5, gb_x e2]
  have T7 := isw_n (w := 7) hb hN (gs_l (by omega)).1 (gs_l (by omega)).2 sx_least
  have T8 := isw_n (w := 8) hb hN (gs_l (by omega)).1 (gs_l (by omega)).2 sx_most
  rw [← ee] at T7 T8
  have Yn : ¬ isW b s e 7 → ¬ isW b s e 8 → m_X10_one rd N 55 d = oneV rd N (-1) d6 := by
    intro q7 q8
    rcases T7 with ⟨x, -⟩ | ⟨-, t7⟩
    · exact absurd x q7
    rcases T8 with ⟨x, -⟩ | ⟨-, t8⟩
    · exact absurd x q8
    rw [Y0, gb2_x t7, if_pos rfl, gb2_x t8, if_pos rfl]
  have Yk : ¬ pBt n b s = 40 → oneV rd N (-1) d6 = gb2 (m_X10_knownHere N 55 d6) (fun (r18 : Int32) (c19 : gm) => (if r18 = (-1) then gb2 (m_X10_number N 55 0 999 c19) (fun (r22 : Int32) (c23 : gm) => gb (m_X10_notes 55 0 r22 c23) (fun (c26 : gm) => some c26)) else gb (m_X10_notes 55 1 r18 c19) (fun (c29 : gm) => some c29))) := by
    intro q
    unfold oneV
    rw [if_pos rfl, d64, gb_x (bt_d (j := s) hd6 (by omega)), if_neg q]
  have X0 : m_X3_readUnit rc N t 1 (nI l) c = (if pBt n b s = 40 then gc (gck t = 3) (gb2 (m_X3_readBraced rc N t 1 (nI l) c5) (fun (r56 : Int32) (c57 : gm) => gc (r56 = 0 ∨ r56 = 1) (some (r56, c57)))) else (if pBt n b s < 48 then gb2 (m_X7_takeWord N 1 c5) (fun (r9 : Int32) (c10 : gm) => (if r9 = 0 then some (0, c10) else gb (m_X7_wordIs N 1 7 c10) (fun (r13 : Int32) => (if r13 = 0 then gb (m_X7_wordIs N 1 8 c10) (fun (r16 : Int32) => (if r16 = 0 then gb (m_X3_nameOf N 1 c10) (fun (r19 : Int32) => (if 0 ≤ r19 then gc (gck t = 3) (gb (m_X3_add t 1 r19 c10) (fun (c25 : gm) => some (1, c25))) else gb2 (m_X7_fail 1 1 (c10.1 1 4) c10) (fun (r27 : Int32) (c28 : gm) => gc (r27 = 0 ∨ r27 = 1) (some (r27, c28))))) else gc (gck t = 3) (gb2 (m_X3_readPair rc N t 1 (nI l) 8 c10) (fun (r33 : Int32) (c34 : gm) => gc (r33 = 0 ∨ r33 = 1) (some (r33, c34)))))) else gc (gck t = 3) (gb2 (m_X3_readPair rc N t 1 (nI l) 7 c10) (fun (r39 : Int32) (c40 : gm) => gc (r39 = 0 ∨ r39 = 1) (some (r39, c40)))))))) else (if 57 < pBt n b s then gb2 (m_X7_takeWord N 1 c5) (fun (r9 : Int32) (c10 : gm) => (if r9 = 0 then some (0, c10) else gb (m_X7_wordIs N 1 7 c10) (fun (r13 : Int32) => (if r13 = 0 then gb (m_X7_wordIs N 1 8 c10) (fun (r16 : Int32) => (if r16 = 0 then gb (m_X3_nameOf N 1 c10) (fun (r19 : Int32) => (if 0 ≤ r19 then gc (gck t = 3) (gb (m_X3_add t 1 r19 c10) (fun (c25 : gm) => some (1, c25))) else gb2 (m_X7_fail 1 1 (c10.1 1 4) c10) (fun (r27 : Int32) (c28 : gm) => gc (r27 = 0 ∨ r27 = 1) (some (r27, c28))))) else gc (gck t = 3) (gb2 (m_X3_readPair rc N t 1 (nI l) 8 c10) (fun (r33 : Int32) (c34 : gm) => gc (r33 = 0 ∨ r33 = 1) (some (r33, c34)))))) else gc (gck t = 3) (gb2 (m_X3_readPair rc N t 1 (nI l) 7 c10) (fun (r39 : Int32) (c40 : gm) => gc (r39 = 0 ∨ r39 = 1) (some (r39, c40)))))))) else gb2 (m_X7_takeNumber N 1 0 999 c5) (fun (r45 : Int32) (c46 : gm) => (if r45 = 0 then some (0, c46) else gc (gck t = 3) (gb (m_X3_add t 0 (c46.1 1 5) c46) (fun (c52 : gm) => some (1, c52)))))))) := by
    unfold m_X3_readUnit; simp only [gj_e]
    rw [gc_1 (show gck 1 = 7 from rfl), gb2_x e1]
  rw [X0]
  have hbs : s < n → b s < 256 := fun q => (hc.2.2 s q).1
  by_cases q40 : pBt n b s = 40
  · have hsn : s < n := by
      rcases Nat.lt_or_ge s n with q2 | q2
      · exact q2
      · exfalso
        unfold pBt at q40
        rw [if_neg (by omega)] at q40
        exact absurd q40 (by decide)
    have hb40 : b s = 40 := by
      have q := q40
      unfold pBt at q
      rw [if_pos hsn, n_l40, n_eq (by have := hbs hsn; omega) (by decide)] at q
      exact q
    have hes : e = s := by rw [ee]; exact pScan_e (fun u => by unfold pLt at u; rw [hb40] at u; exact absurd u.2 (by decide))
    rw [if_pos q40, gc_1 kt, Yn (by rw [hes]; exact isW_no (by omega)) (by rw [hes]; exact isW_no (by omega))]
    exact lo_w (brace_two H F hb hc5 c53 c54 q40 hsn C5 (by omega) h150 L5 hl hh ht hN)
  rw [if_neg q40]
  by_cases qd : s < n ∧ pDg b s = true
  · have hdg : 48 ≤ b s ∧ b s ≤ 57 := by have := qd.2; unfold pDg at this; exact of_decide_eq_true this
    have hbt : pBt n b s = nI (b s) := by unfold pBt; rw [if_pos qd.1]
    have hes : e = s := by rw [ee]; exact pScan_e (fun u => by have := u.2; unfold pLt at this; have := of_decide_eq_true this; omega)
    rw [if_neg (show ¬ pBt n b s < 48 by rw [hbt, n_l48, n_lt (by omega) (by decide)]; omega), if_neg (show ¬ 57 < pBt n b s by rw [hbt, n_l57, n_lt (by decide) (by omega)]; omega), Yn (by rw [hes]; exact isW_no (by omega)) (by rw [hes]; exact isW_no (by omega)), Yk q40]
    rcases known_two (e := e) hb hc5 (by rw [hes]; exact c53) c54 ee hN with ⟨k, hk, x, -, -⟩ | ⟨-, -, kn⟩
    · rw [hes] at x; exact absurd x (isW_no (by omega))
    rw [gb2_x kn, if_pos rfl]
    rcases num_two (a := s) (lo := 0) (H := 1000) (hi := 999) (c := c5) (d := d6) ⟨hc5, hd6, c53, d64, hs.2, d65⟩ hN (by omega) (by omega) (by decide) with ⟨c2, d2, a2, v, s', s1, s2, v0, vH, n1, n2, hO, g5, g4, es', hsn'⟩ | ⟨c2, d2, n1, n2, hO⟩
    rotate_left
    · right
      have h6 := gFl_5 hO.2.2
      exact ⟨c2, d2, by rw [show m_X7_takeNumber N 1 0 999 c5 = some (0, c2) from n1, gb2_e, if_pos rfl], by rw [show m_X10_number N 55 0 999 d6 = some (0, d2) from n2, gb2_e, gb_x (notes_f h6)], flC_f hO.1, flD_f hO.2.1, hO.2.2⟩
    left
    have C2 := gCd_o ht C5 (frc_F hO.1) (frm_F hO.2.1)
    have I2 := gIn_o (c := c5) (d := d6) (a := s) ⟨hc5, hd6, c53, d64, hs.2, d65⟩ hO
    have ha2n : a2 ≤ n := I2.2.2.2.2.1
    obtain ⟨c11, d11, m1, m2, C11, F11, D11, k1, k2, k56, k55⟩ := emit (h2 := h + 1) (x := 0) (y := nI v) C2 (by omega) ht I2.2.2.2.2.2 (Or.inl ⟨by omega, rfl, Or.inl rfl⟩)
    refine ⟨c11, d11, a2, z + 1, by rw [show m_X7_takeNumber N 1 0 999 c5 = some (1, c2) from n1, gb2_e, if_neg (by decide), gc_1 kt, g5, gb_x m1], by rw [show m_X10_number N 55 0 999 d6 = some (nI v, d2) from n2, gb2_e, gb_x m2], gIn_d (gIn_c I2 k1 k2) (fun k hk => k55 k (by omega)) k56, by omega, by omega, C11, by rw [k55 8 (by omega), hO.2.1.2.2 8 (by omega)]; exact L5, flC_t (flC_f (frc_F hO.1)) F11, flD_t (flD_f (frm_F hO.2.1)) D11, by rw [k1, hO.1.2.2 7 (by omega) (by omega) (by omega)]⟩
  have XX : ∀ R : Option (Int32 × gm), (∀ w, (if pBt n b s < 48 then w else (if 57 < pBt n b s then w else R)) = w) := by
    intro R w
    by_cases q1 : pBt n b s < 48
    · rw [if_pos q1]
    · rw [if_neg q1, if_pos]
      have hsn : s < n := by
        rcases Nat.lt_or_ge s n with q2 | q2
        · exact q2
        · exfalso
          unfold pBt at q1
          rw [if_neg (by omega)] at q1
          exact absurd (by decide) q1
      have hlt := hbs hsn
      have hbt : pBt n b s = nI (b s) := by unfold pBt; rw [if_pos hsn]
      rw [hbt, n_l48, n_lt (by omega) (by decide)] at q1
      rw [hbt, n_l57, n_lt (by decide) (by omega)]
      have : ¬ (48 ≤ b s ∧ b s ≤ 57) := fun u => qd ⟨hsn, by unfold pDg; exact decide_eq_true u⟩
      omega
  rw [XX]
  clear X0 XX
  have W := word_c hc5 c53 hs.2 hN
  rw [pScan_e hx, ← ee] at W
  rcases W with ⟨hse, w1⟩ | ⟨hse, w1⟩
  rotate_left
  · right
    have cf := cPk_f c5 s
    have g := gNo_w (n := n) (k := 1) (q := s) (c := cPk c5 s) (d := d6) (by omega) (by omega) (by omega) hs.2 d64
    have h6 := gFl_5 g.2.2
    rcases known_two (e := e) hb hc5 (by rw [hse]; exact c53) c54 ee hN with ⟨k, hk, x, -, -⟩ | ⟨-, -, kn⟩
    · rw [hse] at x; exact absurd x (isW_no (by omega))
    exact ⟨cFl (cPk c5 s) 1 s, dFl d6 1 s, by rw [gb2_x w1, if_pos rfl], by rw [Yn (by rw [hse]; exact isW_no (by omega)) (by rw [hse]; exact isW_no (by omega)), Yk q40, gb2_x kn, if_pos rfl, gb2_x (num_n hb hN qd), gb_x (notes_f h6)], flC_t (flC_f (frc_F cf)) (flC_f g.1), flD_f g.2.1, g.2.2⟩
  have cf := frc_t (cPk_f c5 s) (cAt_f (cPk c5 s) e)
  have w3 := cAt_3 (cPk c5 s) e
  have w4 : (cAt (cPk c5 s) e).1 1 4 = nI s := by unfold cAt; rw [gr_s, up_n _ _ (by omega)]; exact (cPk_s c5 s).2
  have hc10 := gTc_f hc5 (frc_F cf)
  have C10 : gCd t z h (cAt (cPk c5 s) e) d6 := gCd_o ht C5 (frc_F cf) (frm_F (frm_r d6))
  rw [gb2_x w1, if_neg (by decide)]
  generalize cAt (cPk c5 s) e = c10 at *
  refine lo_b (s := s) (c5 := c10) (d6 := d6) ?_ (Nat.le_refl s) cf (frm_r d6)
  rcases wi_c (w := 7) hc10 w3 w4 (by omega) hpw.2 (by omega) hN with ⟨i7, u7⟩ | ⟨i7, u7⟩
  · rcases T7 with ⟨-, t7⟩ | ⟨x, -⟩
    · rw [gb_x u7, if_neg (by decide), gc_1 kt, Y0, gb2_x t7, if_neg (by decide)]
      exact lo_w (pair_two (v := 7) H F hb hc10 w3 w4 ee hse C10 (by omega) h150 L5 hl hh ht (Or.inl rfl) hN)
    · exact absurd i7 x
  rw [gb_x u7, if_pos rfl]
  rcases wi_c (w := 8) hc10 w3 w4 (by omega) hpw.2 (by omega) hN with ⟨i8, u8⟩ | ⟨i8, u8⟩
  · rcases T7 with ⟨x, -⟩ | ⟨-, t7⟩
    · exact absurd x i7
    rcases T8 with ⟨-, t8⟩ | ⟨x, -⟩
    · rw [gb_x u8, if_neg (by decide), gc_1 kt, Y0, gb2_x t7, if_pos rfl, gb2_x t8, if_neg (by decide)]
      exact lo_w (pair_two (v := 8) H F hb hc10 w3 w4 ee hse C10 (by omega) h150 L5 hl hh ht (Or.inr rfl) hN)
    · exact absurd i8 x
  rw [gb_x u8, if_pos rfl, Yn i7 i8, Yk q40]
  rcases known_two (e := e) hb hc10 w3 w4 ee hN with ⟨k, hk, x, kc, kn⟩ | ⟨-, kc, kn⟩
  · left
    have fe := dAt_f d6 e
    have I2 : gIn n b c10 (dAt d6 e) e := ⟨hc10, gTd_f hd6 (frm_F fe), w3, dAt_4 _ _, hpw.2, by rw [fe.2.2 5 (by omega)]; exact d65⟩
    obtain ⟨c11, d11, m1, m2, C11, F11, D11, k1, k2, k56, k55⟩ := emit (h2 := h + 1) (x := 1) (y := nI k) (gCd_o ht C10 (frc_F (frc_r c10)) (frm_F fe)) (by omega) ht I2.2.2.2.2.2 (Or.inl ⟨by omega, rfl, Or.inr ⟨rfl, k, hk, rfl⟩⟩)
    refine ⟨c11, d11, e, z + 1, by rw [gb_x kc, if_pos (show 0 ≤ nI k by rw [n_l0, n_le (by decide) (by omega)]; omega), gc_1 kt, gb_x m1], by rw [gb2_x kn, if_neg (show ¬ nI k = -1 by rw [n_ne (by omega)]; exact id), gb_x m2], gIn_d (gIn_c I2 k1 k2) (fun k hk => k55 k (by omega)) k56, by omega, by omega, C11, by rw [k55 8 (by omega), fe.2.2 8 (by omega)]; exact L5, F11, flD_t (flD_f (frm_F fe)) D11, by rw [k1]⟩
  · right
    have g := gNo_w (n := n) (k := 1) (q := s) (c := c10) (d := d6) (by omega) (by omega) (by omega) hs.2 d64
    have h6 := gFl_5 g.2.2
    exact ⟨cFl c10 1 s, dFl d6 1 s, by rw [gb_x kc, if_neg (by decide)]; exact fail3 c10 1 s w4, by rw [gb2_x kn, if_pos rfl, gb2_x (num_n hb hN qd), gb_x (notes_f h6)], flC_f g.1, flD_f g.2.1, g.2.2⟩
