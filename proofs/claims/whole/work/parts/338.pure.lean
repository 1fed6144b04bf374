set_option maxRecDepth 16384
/-! reading a law: one part -/
def gLi (n : Nat) (b : Nat → Nat) (t z h l a : Nat) (c d : gm) : Prop := gIn n b c d a ∧ gCd t z h c d ∧ z ≤ a ∧ n ≤ 150 ∧ d.1 55 8 = nI l
def gLo (n : Nat) (b : Nat → Nat) (t z h l a : Nat) (c d : gm) (x : Option (Int32 × gm)) (y : Option gm) : Prop := (∃ c2 d2 a2 z2, x = some (1, c2) ∧ y = some d2 ∧ gIn n b c2 d2 a2 ∧ a < a2 ∧ z2 + a ≤ z + a2 ∧ gCd t z2 (h + 1) c2 d2 ∧ d2.1 55 8 = nI l ∧ flC t c c2 ∧ flD d d2 ∧ c2.1 1 7 = c.1 1 7) ∨ ∃ c2 d2, x = some (0, c2) ∧ y = some d2 ∧ flC t c c2 ∧ flD d d2 ∧ gFl n c2 d2
def gRc (n : Nat) (b : Nat → Nat) (t l N : Nat) (rc : Nat → Nat → Nat → Int32 → gm → Option (Int32 × gm)) (rd : Nat → Nat → gm → Option gm) : Prop := ∀ z h a c d, h ≤ 3 * l → gLi n b t z h l a c d → gLo n b t z h l a c d (rc N t 1 (nI l) c) (rd N 55 d)
def oneV (rd : Nat → Nat → gm → Option gm) (N : Nat) (v10 : Int32) (c11 : gm) : Option gm := (if v10 = (-1) then gb (m_X10_byteAt 55 (c11.1 55 4) c11) (fun (r15 : Int32) => (if r15 = 40 then gb2 (m_X10_opensOne 55 c11) (fun (r31 : Int32) (c32 : gm) => (if r31 = 0 then some c32 else gv (gm_r c32 55 (upd (c32.1 55) 4 ((c32.1 55 4) + 1))) (fun (c34 : gm) => gb (rd N 55 c34) (fun (c37 : gm) => gb (m_X10_sign N 55 41 c37) (fun (c40 : gm) => gv (gm_r c40 55 (upd (c40.1 55) 8 ((c40.1 55 8) - 1))) (fun (c41 : gm) => some c41)))))) else gb2 (m_X10_knownHere N 55 c11) (fun (r18 : Int32) (c19 : gm) => (if r18 = (-1) then gb2 (m_X10_number N 55 0 999 c19) (fun (r22 : Int32) (c23 : gm) => gb (m_X10_notes 55 0 r22 c23) (fun (c26 : gm) => some c26)) else gb (m_X10_notes 55 1 r18 c19) (fun (c29 : gm) => some c29))))) else gb2 (m_X10_opensOne 55 c11) (fun (r43 : Int32) (c44 : gm) => (if r43 = 0 then some c44 else gb (m_X10_skipWord N 55 c44) (fun (c48 : gm) => gb (m_X10_sign N 55 91 c48) (fun (c51 : gm) => gb (rd N 55 c51) (fun (c54 : gm) => gb (m_X10_sign N 55 44 c54) (fun (c57 : gm) => gb (rd N 55 c57) (fun (c60 : gm) => gb (m_X10_sign N 55 93 c60) (fun (c63 : gm) => gb (m_X10_notes 55 v10 0 c63) (fun (c66 : gm) => gv (gm_r c66 55 (upd (c66.1 55) 8 ((c66.1 55 8) - 1))) (fun (c67 : gm) => some c67)))))))))))
theorem one_e (rd : Nat → Nat → gm → Option gm) (N : Nat) (c : gm) : m_X10_one rd N 55 c = gc (gck 55 = 10) (if (c.1 55 5) = 0 then gb (m_X10_blanks N 55 c) (fun (c6 : gm) => gb2 (m_X10_isWord N 55 12 5 1 19 20 0 c6) (fun (r8 : Int32) (c9 : gm) => if r8 = 0 then gb2 (m_X10_isWord N 55 13 15 19 20 0 0 c9) (fun (r70 : Int32) (c71 : gm) => if r70 = 0 then oneV rd N (-1) c71 else oneV rd N 8 c71) else oneV rd N 7 c9)) else some c) := rfl
def prK (t : Nat) (a3 v7 : Int32) (c8 : gm) : Option (Int32 × gm) := if v7 = 0 then gc (v7 = 0 ∨ v7 = 1) (some (v7, c8)) else gc (gck t = 3) (gb (m_X3_add t a3 0 c8) (fun (c16 : gm) => gc (v7 = 0 ∨ v7 = 1) (some (v7, c16))))
theorem pair_e (rc : Nat → Nat → Nat → Int32 → gm → Option (Int32 × gm)) (N t : Nat) (a2 a3 : Int32) (c : gm) : m_X3_readPair rc N t 1 a2 a3 c = (if a2 < 6 then gc (gck 1 = 7) (gb2 (m_X7_takeSign N 1 91 c) (fun (r5 : Int32) (c6 : gm) => if r5 = 0 then prK t a3 0 c6 else gc (gck t = 3) (gb2 (rc N t 1 (a2 + 1) c6) (fun (r24 : Int32) (c25 : gm) => if r24 = 0 then prK t a3 0 c25 else gb2 (m_X7_takeSign N 1 44 c25) (fun (r28 : Int32) (c29 : gm) => if r28 = 0 then prK t a3 0 c29 else gb2 (rc N t 1 (a2 + 1) c29) (fun (r32 : Int32) (c33 : gm) => if r32 = 0 then prK t a3 0 c33 else gb2 (m_X7_takeSign N 1 93 c33) (fun (r36 : Int32) (c37 : gm) => if r36 = 0 then prK t a3 0 c37 else prK t a3 1 c37))))))) else gc (gck 1 = 7) (gb2 (m_X7_fail 1 3 (c.1 1 4) c) (fun (r42 : Int32) (c43 : gm) => gc (r42 = 0 ∨ r42 = 1) (some (r42, c43))))) := rfl
theorem prK_0 (t : Nat) (x : Int32) (c : gm) : prK t x 0 c = some (0, c) := by
  unfold prK
  rw [if_pos rfl, gc_1 (Or.inl rfl)]
theorem prK_1 {t : Nat} {x : Int32} {c c2 : gm} (kt : gck t = 3) (h : m_X3_add t x 0 c = some c2) : prK t x 1 c = some (1, c2) := by
  unfold prK
  rw [if_neg (by decide), gc_1 kt, gb_x h, gc_1 (Or.inr rfl)]
theorem gFl_8 {n : Nat} {c d : gm} (x : Int32) (h : gFl n c d) : gFl n c (gm_r d 55 (upd (d.1 55) 8 x)) := by
  obtain ⟨k, q, a2, k1, k3, hq, ha2, c6, c7, d5, d6, d4⟩ := h
  exact ⟨k, q, a2, k1, k3, hq, ha2, c6, c7, by rw [gr_s, up_n _ _ (by omega)]; exact d5, by rw [gr_s, up_n _ _ (by omega)]; exact d6, by rw [gr_s, up_n _ _ (by omega)]; exact d4⟩
theorem flD_8 (d : gm) (x : Int32) : flD d (gm_r d 55 (upd (d.1 55) 8 x)) := ⟨fun i h1 _ => gr_n _ _ h1, rfl, fun k hk => by rw [gr_s, up_n _ _ (by omega)]⟩
theorem n_p1 (l : Nat) : nI (l + 1) - 1 = nI l := by rw [n_l1, n_su (by omega)]; rfl
theorem pair_two {n N t z h l s e v : Nat} {b : Nat → Nat} {rc : Nat → Nat → Nat → Int32 → gm → Option (Int32 × gm)} {rd : Nat → Nat → gm → Option gm} {c d : gm} (H : l < 6 → gRc n b t (l + 1) N rc rd) (F : ∀ d, ¬ d.1 55 5 = 0 → rd N 55 d = some d) (hb : gNb n b d s) (hc : gTc n b c) (h3 : c.1 1 3 = nI e) (h4 : c.1 1 4 = nI s) (ee : e = pScan (pLt b) n s) (hse : s < e) (hC : gCd t z h c d) (hz : z ≤ s) (h150 : n ≤ 150) (h8 : d.1 55 8 = nI l) (hl : l ≤ 6) (hh : h ≤ 3 * l + 2) (ht : t = 33 ∨ t = 38) (hv : v = 7 ∨ v = 8) (hN : 700 < N) : gLo n b t z h l s c d (m_X3_readPair rc N t 1 (nI l) (nI v) c) (oneV rd N (nI v) d) := by
  obtain ⟨hd, d4, hsn, d5, hx⟩ := id hb
  have hn := hd.1
  have he : e ≤ n := by rw [ee]; exact (pScan_le (p := pLt b) hsn).2
  have kt : gck t = 3 := hC.1
  have nv : ¬ nI v = -1 := by rcases hv with rfl | rfl <;> decide
  rw [pair_e]
  unfold oneV
  rw [if_neg nv]
  by_cases hl6 : l = 6
  · subst hl6
    right
    have g := gNo_w (n := n) (k := 3) (q := s) (c := c) (d := d) (by omega) (by omega) (by omega) hsn d4
    exact ⟨cFl c 3 s, dFl d 3 s, by rw [if_neg (by decide), gc_1 (show gck 1 = 7 from rfl)]; exact fail3 c 3 s h4, by rw [gb2_x (opens_6 d5 h8 d4), if_pos rfl], flC_f g.1, flD_f g.2.1, g.2.2⟩
  have hl5 : l < 6 := by omega
  have HH := H hl5
  rw [if_pos (show nI l < 6 by rw [n_l6, n_lt (by omega) (by decide)]; exact hl5), gc_1 (show gck 1 = 7 from rfl), gb2_x (opens_d d5 h8 d4 hl5), if_neg (by decide), n_s]
  obtain ⟨d1, ed1⟩ : ∃ q, q = d8 d (l + 1) := ⟨_, rfl⟩
  have f1 := d8_f d (l + 1)
  have D1 := d8_D d (l + 1)
  have C1 := d8_c (l := l + 1) hC
  rw [← ed1] at f1 D1 C1 ⊢
  have hd1 : gTd n b d1 := ⟨hd.1, by rw [f1.2.2.1 2 (by omega)]; exact hd.2.1, fun j hj => by rw [f1.1 56 (by omega)]; exact hd.2.2 j hj⟩
  have esk := skip_d hd1 (by rw [f1.2.2.1 4 (by omega)]; exact d4) hsn hN
  rw [← ee] at esk
  rw [gb_x esk]
  have fa := dAt_f d1 e
  have I2 : gIn n b c (dAt d1 e) e := ⟨hc, gTd_f hd1 (frm_F fa), h3, dAt_4 _ _, he, by rw [fa.2.2 5 (by omega), f1.2.2.1 5 (by omega)]; exact d5⟩
  have C2 : gCd t z h c (dAt d1 e) := gCd_o ht C1 (frc_F (frc_r c)) (frm_F fa)
  have D2 : flD d (dAt d1 e) := flD_t D1 (flD_f (frm_F fa))
  have L2 : (dAt d1 e).1 55 8 = nI (l + 1) := by rw [fa.2.2 8 (by omega)]; exact f1.2.2.2
  generalize dAt d1 e = d2 at *
  clear fa esk hd1 C1 D1 f1
  have no : ∀ (c6 d6 : gm), ¬ d6.1 55 5 = 0 → gb (m_X10_notes 55 (nI v) 0 d6) (fun (c66 : gm) => gv (gm_r c66 55 (upd (c66.1 55) 8 ((c66.1 55 8) - 1))) (fun (c67 : gm) => some c67)) = some (gm_r d6 55 (upd (d6.1 55) 8 (d6.1 55 8 - 1))) := fun c6 d6 h6 => by rw [gb_x (notes_f h6), gv_e]
  rcases sign_two (x := 91) I2 hN (by decide) with ⟨c6, d6, a1, ha1, t1, t2, hO⟩ | ⟨c6, d6, t1, t2, hO⟩
  rotate_left
  · right
    have h6 := gFl_5 hO.2.2
    refine ⟨c6, _, by rw [show m_X7_takeSign N 1 91 c = some (0, c6) from t1, gb2_e, if_pos rfl, prK_0], by rw [show m_X10_sign N 55 91 d2 = some d6 from t2, gb_e, gb_x (F d6 h6), gb_x (sign_f h6), gb_x (F d6 h6), gb_x (sign_f h6), no c6 d6 h6], flC_f hO.1, flD_t D2 (flD_t (flD_f hO.2.1) (flD_8 d6 _)), gFl_8 _ hO.2.2⟩
  rw [show m_X7_takeSign N 1 91 c = some (1, c6) from t1, gb2_e, if_neg (by decide), gc_1 kt, show m_X10_sign N 55 91 d2 = some d6 from t2, gb_e]
  have C6 := gCd_o ht C2 (frc_F hO.1) (frm_F hO.2.1)
  have L6 : d6.1 55 8 = nI (l + 1) := by rw [hO.2.1.2.2 8 (by omega)]; exact L2
  have F6 : flC t c c6 := flC_f (frc_F hO.1)
  have D6 : flD d d6 := flD_t D2 (flD_f (frm_F hO.2.1))
  have K6 : c6.1 1 7 = c.1 1 7 := hO.1.2.2 7 (by omega) (by omega) (by omega)
  rcases HH z h a1 c6 d6 (by omega) ⟨gIn_o I2 hO, C6, by omega, h150, L6⟩ with ⟨c7, d7, a2, z2, e1, e2, I7, ha2, hz2, C7, L7, F7, D7, K7⟩ | ⟨c7, d7, e1, e2, F7, D7, g7⟩
  rotate_left
  · right
    have h6 := gFl_5 g7
    refine ⟨c7, _, by rw [gb2_x e1, if_pos rfl, prK_0], by rw [gb_x e2, gb_x (sign_f h6), gb_x (F d7 h6), gb_x (sign_f h6), no c7 d7 h6], flC_t F6 F7, flD_t D6 (flD_t D7 (flD_8 d7 _)), gFl_8 _ g7⟩
  rw [gb2_x e1, if_neg (by decide), gb_x e2]
  clear t1 t2 e1 e2
  rcases sign_two (x := 44) I7 hN (by decide) with ⟨c8, d8', a3, ha3, t1, t2, hO8⟩ | ⟨c8, d8', t1, t2, hO8⟩
  rotate_left
  · right
    have h6 := gFl_5 hO8.2.2
    refine ⟨c8, _, by rw [show m_X7_takeSign N 1 44 c7 = some (0, c8) from t1, gb2_e, if_pos rfl, prK_0], by rw [show m_X10_sign N 55 44 d7 = some d8' from t2, gb_e, gb_x (F d8' h6), gb_x (sign_f h6), no c8 d8' h6], flC_t F6 (flC_t F7 (flC_f hO8.1)), flD_t D6 (flD_t D7 (flD_t (flD_f hO8.2.1) (flD_8 d8' _))), gFl_8 _ hO8.2.2⟩
  rw [show m_X7_takeSign N 1 44 c7 = some (1, c8) from t1, gb2_e, if_neg (by decide), show m_X10_sign N 55 44 d7 = some d8' from t2, gb_e]
  have C8 := gCd_o ht C7 (frc_F hO8.1) (frm_F hO8.2.1)
  have L8 : d8'.1 55 8 = nI (l + 1) := by rw [hO8.2.1.2.2 8 (by omega)]; exact L7
  have F8 : flC t c c8 := flC_t F6 (flC_t F7 (flC_f (frc_F hO8.1)))
  have D8 : flD d d8' := flD_t D6 (flD_t D7 (flD_f (frm_F hO8.2.1)))
  have K8 : c8.1 1 7 = c.1 1 7 := by rw [hO8.1.2.2 7 (by omega) (by omega) (by omega), K7, K6]
  rcases HH z2 (h + 1) a3 c8 d8' (by omega) ⟨gIn_o I7 hO8, C8, by omega, h150, L8⟩ with ⟨c9, d9, a4, z4, e1, e2, I9, ha4, hz4, C9, L9, F9, D9, K9⟩ | ⟨c9, d9, e1, e2, F9, D9, g9⟩
  rotate_left
  · right
    have h6 := gFl_5 g9
    refine ⟨c9, _, by rw [gb2_x e1, if_pos rfl, prK_0], by rw [gb_x e2, gb_x (sign_f h6), no c9 d9 h6], flC_t F8 F9, flD_t D8 (flD_t D9 (flD_8 d9 _)), gFl_8 _ g9⟩
  rw [gb2_x e1, if_neg (by decide), gb_x e2]
  clear t1 t2 e1 e2
  rcases sign_two (x := 93) I9 hN (by decide) with ⟨c10, d10, a5, ha5, t1, t2, hO10⟩ | ⟨c10, d10, t1, t2, hO10⟩
  rotate_left
  · right
    have h6 := gFl_5 hO10.2.2
    refine ⟨c10, _, by rw [show m_X7_takeSign N 1 93 c9 = some (0, c10) from t1, gb2_e, if_pos rfl, prK_0], by rw [show m_X10_sign N 55 93 d9 = some d10 from t2, gb_e, no c10 d10 h6], flC_t F8 (flC_t F9 (flC_f hO10.1)), flD_t D8 (flD_t D9 (flD_t (flD_f hO10.2.1) (flD_8 d10 _))), gFl_8 _ hO10.2.2⟩
  rw [show m_X7_takeSign N 1 93 c9 = some (1, c10) from t1, gb2_e, if_neg (by decide), show m_X10_sign N 55 93 d9 = some d10 from t2, gb_e]
  have C10 := gCd_o ht C9 (frc_F hO10.1) (frm_F hO10.2.1)
  have I10 := gIn_o I9 hO10
  have ha5n : a5 ≤ n := I10.2.2.2.2.1
  obtain ⟨c11, d11, m1, m2, C11, F11, D11, k1, k2, k56, k55⟩ := emit (h2 := h + 1) (x := nI v) (y := 0) C10 (by omega) ht I10.2.2.2.2.2 (Or.inr ⟨by omega, by omega, v, by omega, by omega, rfl⟩)
  left
  have L11 : d11.1 55 8 = nI (l + 1) := by rw [k55 8 (by omega), hO10.2.1.2.2 8 (by omega)]; exact L9
  refine ⟨c11, d8 d11 l, a5, z4 + 1, prK_1 kt m1, by rw [gb_x m2, gv_e, L11, n_p1]; rfl, d8_n (gIn_d (gIn_c I10 k1 k2) (fun k hk => k55 k (by omega)) k56), by omega, by omega, d8_c C11, (d8_f d11 l).2.2.2, flC_t F8 (flC_t F9 (flC_t (flC_f (frc_F hO10.1)) F11)), flD_t D8 (flD_t D9 (flD_t (flD_f (frm_F hO10.2.1)) (flD_t D11 (d8_D d11 l)))), by rw [k1, hO10.1.2.2 7 (by omega) (by omega) (by omega), K9, K8]⟩
theorem brace_two {n N t z h l s : Nat} {b : Nat → Nat} {rc : Nat → Nat → Nat → Int32 → gm → Option (Int32 × gm)} {rd : Nat → Nat → gm → Option gm} {c d : gm} (H : l < 6 → gRc n b t (l + 1) N rc rd) (F : ∀ d, ¬ d.1 55 5 = 0 → rd N 55 d = some d) (hb : gNb n b d s) (hc : gTc n b c) (h3 : c.1 1 3 = nI s) (h4 : c.1 1 4 = nI s) (q : pBt n b s = 40) (hsn : s < n) (hC : gCd t z h c d) (hz : z ≤ s) (h150 : n ≤ 150) (h8 : d.1 55 8 = nI l) (hl : l ≤ 6) (hh : h ≤ 3 * l + 2) (ht : t = 33 ∨ t = 38) (hN : 700 < N) : gLo n b t z h l s c d (m_X3_readBraced rc N t 1 (nI l) c) (oneV rd N (-1) d) := by
  obtain ⟨hd, d4, -, d5, hx⟩ := id hb
  have hn := hd.1
  have kt : gck t = 3 := hC.1
  unfold oneV m_X3_readBraced
  rw [if_pos rfl, d4, gb_x (bt_d (j := s) hd (by omega)), if_pos q]
  by_cases hl6 : l = 6
  · subst hl6
    right
    have g := gNo_w (n := n) (k := 3) (q := s) (c := c) (d := d) (by omega) (by omega) (by omega) (show s ≤ n by omega) d4
    exact ⟨cFl c 3 s, dFl d 3 s, by rw [if_neg (by decide), gc_1 (show gck 1 = 7 from rfl)]; exact fail3 c 3 s h4, by rw [gb2_x (opens_6 d5 h8 d4), if_pos rfl], flC_f g.1, flD_f g.2.1, g.2.2⟩
  have hl5 : l < 6 := by omega
  have HH := H hl5
  have esg := sign_c (x := 40) hc h3 (by omega) hN (pScan_e hx).symm q
  rw [if_pos (show nI l < 6 by rw [n_l6, n_lt (by omega) (by decide)]; exact hl5), gc_1 (show gck 1 = 7 from rfl), show m_X7_takeSign N 1 40 c = some (1, cAt (cPk c s) (s + 1)) from esg, gb2_e, if_neg (by decide), gc_1 kt, gb2_x (opens_d d5 h8 d4 hl5), if_neg (by decide), n_s]
  obtain ⟨d1, ed1⟩ : ∃ q, q = d8 d (l + 1) := ⟨_, rfl⟩
  have f1 := d8_f d (l + 1)
  have D1 := d8_D d (l + 1)
  have C1 := d8_c (l := l + 1) hC
  rw [← ed1] at f1 D1 C1 ⊢
  have fa := dAt_f d1 (s + 1)
  have fc := frc_t (cPk_f c s) (cAt_f (cPk c s) (s + 1))
  rw [gv_e, f1.2.2.1 4 (by omega), d4, n_s, show gm_r d1 55 (upd (d1.1 55) 4 (nI (s + 1))) = dAt d1 (s + 1) from rfl]
  have hd1 : gTd n b d1 := ⟨hd.1, by rw [f1.2.2.1 2 (by omega)]; exact hd.2.1, fun j hj => by rw [f1.1 56 (by omega)]; exact hd.2.2 j hj⟩
  have I2 : gIn n b (cAt (cPk c s) (s + 1)) (dAt d1 (s + 1)) (s + 1) := ⟨gTc_f hc (frc_F fc), gTd_f hd1 (frm_F fa), cAt_3 _ _, dAt_4 _ _, by omega, by rw [fa.2.2 5 (by omega), f1.2.2.1 5 (by omega)]; exact d5⟩
  have C2 : gCd t z h (cAt (cPk c s) (s + 1)) (dAt d1 (s + 1)) := gCd_o ht C1 (frc_F fc) (frm_F fa)
  have D2 : flD d (dAt d1 (s + 1)) := flD_t D1 (flD_f (frm_F fa))
  have F2 : flC t c (cAt (cPk c s) (s + 1)) := flC_f (frc_F fc)
  have L2 : (dAt d1 (s + 1)).1 55 8 = nI (l + 1) := by rw [fa.2.2 8 (by omega)]; exact f1.2.2.2
  have K2 : (cAt (cPk c s) (s + 1)).1 1 7 = c.1 1 7 := fc.2.2 7 (by omega) (by omega) (by omega)
  generalize dAt d1 (s + 1) = d2 at *
  generalize cAt (cPk c s) (s + 1) = c2 at *
  rcases HH z h (s + 1) c2 d2 (by omega) ⟨I2, C2, by omega, h150, L2⟩ with ⟨c7, d7, a2, z2, e1, e2, I7, ha2, hz2, C7, L7, F7, D7, K7⟩ | ⟨c7, d7, e1, e2, F7, D7, g7⟩
  rotate_left
  · right
    have h6 := gFl_5 g7
    exact ⟨c7, _, by rw [gb2_x e1, if_pos rfl], by rw [gb_x e2, gb_x (sign_f h6), gv_e], flC_t F2 F7, flD_t D2 (flD_t D7 (flD_8 d7 _)), gFl_8 _ g7⟩
  rw [gb2_x e1, if_neg (by decide), gb_x e2]
  rcases sign_two (x := 41) I7 hN (by decide) with ⟨c8, d9, a3, ha3, t1, t2, hO8⟩ | ⟨c8, d9, t1, t2, hO8⟩
  rotate_left
  · right
    have h6 := gFl_5 hO8.2.2
    exact ⟨c8, _, by rw [show m_X7_takeSign N 1 41 c7 = some (0, c8) from t1, gb2_e, if_pos rfl], by rw [show m_X10_sign N 55 41 d7 = some d9 from t2, gb_e, gv_e], flC_t F2 (flC_t F7 (flC_f hO8.1)), flD_t D2 (flD_t D7 (flD_t (flD_f hO8.2.1) (flD_8 d9 _))), gFl_8 _ hO8.2.2⟩
  left
  have L9 : d9.1 55 8 = nI (l + 1) := by rw [hO8.2.1.2.2 8 (by omega)]; exact L7
  refine ⟨c8, d8 d9 l, a3, z2, by rw [show m_X7_takeSign N 1 41 c7 = some (1, c8) from t1, gb2_e, if_neg (by decide)], by rw [show m_X10_sign N 55 41 d7 = some d9 from t2, gb_e, gv_e, L9, n_p1]; rfl, d8_n (gIn_o I7 hO8), by omega, by omega, d8_c (gCd_o ht C7 (frc_F hO8.1) (frm_F hO8.2.1)), (d8_f d9 l).2.2.2, flC_t F2 (flC_t F7 (flC_f (frc_F hO8.1))), flD_t D2 (flD_t D7 (flD_t (flD_f (frm_F hO8.2.1)) (d8_D d9 l))), by rw [hO8.1.2.2 7 (by omega) (by omega) (by omega), K7, K2]⟩
