set_option maxRecDepth 16384
/-! a book -/
def bkK (N : Nat) (v : Int32) (c58 : gm) : Option ((Int32 × gm) ⊕ (Int32 × gm)) := gb (m_X10_blanks N 55 c58) (fun (c62 : gm) => some (.inl (v, c62)))
def bkS (N : Nat) (y16 r43 r49 r52 : Int32) (c56 : gm) : Option ((Int32 × gm) ⊕ (Int32 × gm)) := if (c56.1 55 5) = 0 then gc (0 ≤ y16.toInt ∧ y16.toInt < 6) (gc (gck (413 + 1 + y16.toNatClampNeg) = 22) (gc (0 ≤ (0 : Int32).toInt ∧ (0 : Int32).toInt < ((gal (413 + 1 + y16.toNatClampNeg)) : Nat)) (gv (gm_r c56 (413 + 1 + y16.toNatClampNeg) (upd (c56.1 (413 + 1 + y16.toNatClampNeg)) (0 : Int32).toNatClampNeg r43)) (fun (c71 : gm) => gc (0 ≤ y16.toInt ∧ y16.toInt < 6) (gc (0 ≤ (1 : Int32).toInt ∧ (1 : Int32).toInt < ((gal (413 + 1 + y16.toNatClampNeg)) : Nat)) (gv (gm_r c71 (413 + 1 + y16.toNatClampNeg) (upd (c71.1 (413 + 1 + y16.toNatClampNeg)) (1 : Int32).toNatClampNeg r49)) (fun (c74 : gm) => gc (0 ≤ y16.toInt ∧ y16.toInt < 6) (gc (0 ≤ (2 : Int32).toInt ∧ (2 : Int32).toInt < ((gal (413 + 1 + y16.toNatClampNeg)) : Nat)) (gv (gm_r c74 (413 + 1 + y16.toNatClampNeg) (upd (c74.1 (413 + 1 + y16.toNatClampNeg)) (2 : Int32).toNatClampNeg r52)) (fun (c77 : gm) => gv (y16 + 1) (fun (x78 : Int32) => bkK N x78 c77))))))))))) else bkK N y16 c56
def bkR (N : Nat) (y16 r43 : Int32) (c45 : gm) : Option ((Int32 × gm) ⊕ (Int32 × gm)) := gb2 (m_X10_otherThing N 55 r43 (c45.1 59 (0 : Int32).toNatClampNeg) c45) (fun (r49 : Int32) (c50 : gm) => gb2 (m_X10_number N 55 0 2 c50) (fun (r52 : Int32) (c53 : gm) => gb (m_X10_sign N 55 59 c53) (fun (c56 : gm) => bkS N y16 r43 r49 r52 c56)))
theorem bk_e (N : Nat) (y16 : Int32) (c17 : gm) : m_X10_book_L46 N 55 y16 c17 = (if (c17.1 55 5) = 0 then (if (c17.1 55 2) ≤ (c17.1 55 4) then some (.inr (y16, c17)) else gb2 (m_X10_number N 55 0 ((c17.1 59 (0 : Int32).toNatClampNeg) - 1) c17) (fun (r43 : Int32) (c44 : gm) => if (c44.1 55 5) = 0 then (if y16 = 6 then gb (m_X10_wrong 55 3 (c17.1 55 4) c44) (fun (c83 : gm) => bkR N y16 r43 c83) else bkR N y16 r43 c44) else bkR N y16 r43 c44)) else some (.inr (y16, c17))) := rfl
def gBr (sb th z : Nat) (c d : gm) : Prop := z ≤ 6 ∧ c.1 sb 5 = nI z ∧ ∀ k, k < z → ∃ a b r, a < th ∧ b < th ∧ r ≤ 2 ∧ c.1 (sb + 1) k = nI a ∧ c.1 (sb + 2) k = nI b ∧ c.1 (sb + 3) k = nI r ∧ d.1 (414 + k) 0 = nI a ∧ d.1 (414 + k) 1 = nI b ∧ d.1 (414 + k) 2 = nI r
def fbC (sb : Nat) (c c2 : gm) : Prop := (∀ i, i ≠ 1 → i ≠ sb → i ≠ sb + 1 → i ≠ sb + 2 → i ≠ sb + 3 → c2.1 i = c.1 i) ∧ c2.2 = c.2 ∧ ∀ k, k < 3 → c2.1 1 k = c.1 1 k
def fbD (d d2 : gm) : Prop := (∀ i, i ≠ 55 → (i < 414 ∨ 419 < i) → d2.1 i = d.1 i) ∧ d2.2 = d.2 ∧ ∀ k, k < 4 ∨ 7 ≤ k → d2.1 55 k = d.1 55 k
theorem fbC_r (sb : Nat) (c : gm) : fbC sb c c := ⟨fun _ _ _ _ _ _ => rfl, rfl, fun _ _ => rfl⟩
theorem fbD_r (c : gm) : fbD c c := ⟨fun _ _ _ => rfl, rfl, fun _ _ => rfl⟩
theorem fbC_t {sb : Nat} {a b c : gm} (h : fbC sb a b) (g : fbC sb b c) : fbC sb a c := ⟨fun i h1 h2 h3 h4 h5 => (g.1 i h1 h2 h3 h4 h5).trans (h.1 i h1 h2 h3 h4 h5), g.2.1.trans h.2.1, fun k hk => (g.2.2 k hk).trans (h.2.2 k hk)⟩
theorem fbD_t {a b c : gm} (h : fbD a b) (g : fbD b c) : fbD a c := ⟨fun i h1 h2 => (g.1 i h1 h2).trans (h.1 i h1 h2), g.2.1.trans h.2.1, fun k hk => (g.2.2 k hk).trans (h.2.2 k hk)⟩
theorem fbC_f {sb : Nat} {c c2 : gm} (h : frcF c c2) : fbC sb c c2 := ⟨fun i h1 _ _ _ _ => h.1 i h1, h.2.1, h.2.2⟩
theorem fbD_f {d d2 : gm} (h : frmF d d2) : fbD d d2 := ⟨fun i h1 _ => h.1 i h1, h.2.1, fun k hk => h.2.2 k (by omega) (by omega) (by omega)⟩
theorem fbC_u {sb : Nat} {c : gm} {i : Nat} (f : Nat → Int32) (hs : 43 ≤ sb) (h : i = sb ∨ i = sb + 1 ∨ i = sb + 2 ∨ i = sb + 3) : fbC sb c (gm_r c i f) := ⟨fun j _ h2 h3 h4 h5 => gr_n _ _ (by omega), rfl, fun k _ => by rw [gr_n _ _ (by omega)]⟩
theorem fbD_u {d : gm} {i : Nat} (f : Nat → Int32) (h : 414 ≤ i ∧ i ≤ 419) : fbD d (gm_r d i f) := ⟨fun j h1 h2 => gr_n _ _ (by omega), rfl, fun k _ => by rw [gr_n _ _ (by omega)]⟩
theorem bkK_e {n a N : Nat} {b : Nat → Nat} {v : Int32} {d : gm} (hT : gTd n b d) (h4 : d.1 55 4 = nI a) (han : a ≤ n) (hN : 700 < N) : bkK N v d = some (.inl (v, dAt d (pScan (pBl b) n a))) := by
  unfold bkK
  rw [gb_x (blanks_d hT h4 han hN)]
/-- behind a fault -/
theorem bkS_f {n a N : Nat} {b : Nat → Nat} {y r1 r2 r3 : Int32} {d : gm} (hT : gTd n b d) (h4 : d.1 55 4 = nI a) (han : a ≤ n) (h5 : ¬ d.1 55 5 = 0) (hN : 700 < N) : ∃ d3, bkS N y r1 r2 r3 d = some (.inl (y, d3)) ∧ frm d d3 ∧ ∃ a3, a3 ≤ n ∧ d3.1 55 4 = nI a3 := by
  refine ⟨_, ?_, dAt_f d _, _, (pScan_le (p := pBl b) han).2, dAt_4 d _⟩
  unfold bkS
  rw [if_neg h5, bkK_e hT h4 han hN]
theorem bkR_f {n a N : Nat} {b : Nat → Nat} {y r1 : Int32} {d : gm} (hT : gTd n b d) (h4 : d.1 55 4 = nI a) (han : a ≤ n) (h5 : ¬ d.1 55 5 = 0) (hN : 700 < N) : ∃ d3, bkR N y r1 d = some (.inl (y, d3)) ∧ frm d d3 ∧ ∃ a3, a3 ≤ n ∧ d3.1 55 4 = nI a3 := by
  obtain ⟨d2, e2, f2, a2, ha2, g4⟩ := oth_f (x := r1) (y := d.1 59 0) hT h4 han h5 hN
  have g5 : ¬ d2.1 55 5 = 0 := by rw [f2.2.2 5 (by omega)]; exact h5
  obtain ⟨d3, e3, f3, h3⟩ := bkS_f (y := y) (r1 := r1) (r2 := 0) (r3 := 0) (gTd_f hT (frm_F f2)) g4 ha2 g5 hN
  refine ⟨d3, ?_, frm_t f2 f3, h3⟩
  unfold bkR
  rw [n_cl0, gb2_x e2, gb2_x (num_f g5), gb_x (sign_f g5)]
  exact e3
theorem gk_rl : ∀ k, k < 6 → gck (413 + 1 + k) = 22 ∧ gal (413 + 1 + k) = 3 := by decide +kernel
theorem r_3 {x : Int32} (h : x = 0 ∨ x = 1 ∨ x = 2) : 0 ≤ x.toInt ∧ x.toInt < ((3 : Nat) : Int) := by rcases h with rfl | rfl | rfl <;> decide
/-- a fault told on both sides while a book is read -/
def gFb (n sb : Nat) (c d c2 d2 : gm) : Prop := fbC sb c c2 ∧ fbD d d2 ∧ gFl n c2 d2
/-- how a line ends -/
def gLn (n : Nat) (b : Nat → Nat) (sb th z N : Nat) (c d : gm) (a : Nat) (x : Option (Int32 × gm)) (y : Option ((Int32 × gm) ⊕ (Int32 × gm))) : Prop := (∃ c1 c2 d2 a2, a < a2 ∧ z < 6 ∧ x = some (1, c1) ∧ m_X7_takeSign N 1 59 c1 = some (1, c2) ∧ y = some (.inl (nI (z + 1), d2)) ∧ gTc n b c2 ∧ gTd n b d2 ∧ c2.1 1 3 = nI a2 ∧ d2.1 55 4 = nI (pScan (pBl b) n a2) ∧ a2 ≤ n ∧ d2.1 55 5 = 0 ∧ gBr sb th (z + 1) c2 d2 ∧ fbC sb c c2 ∧ fbD d d2 ∧ c2.1 1 7 = c.1 1 7) ∨ (∃ c2 d2, x = some (0, c2) ∧ y = some (.inl (nI z, d2)) ∧ gFb n sb c d c2 d2) ∨ ∃ c1 c2 d2, x = some (1, c1) ∧ m_X7_takeSign N 1 59 c1 = some (0, c2) ∧ y = some (.inl (nI z, d2)) ∧ gFb n sb c d c2 d2
theorem gFb_m {n sb : Nat} {c d c2 d2 d3 : gm} (f1 : fbC sb c c2) (f2 : fbD d d2) (h : gFl n c2 d2) (g : frm d2 d3) (g4 : ∃ a3, a3 ≤ n ∧ d3.1 55 4 = nI a3) : gFb n sb c d c2 d3 := by
  obtain ⟨k, q, a2, k1, k3, hq, ha2, c6, c7, d5, d6, d4⟩ := h
  obtain ⟨a3, h3, e3⟩ := g4
  exact ⟨f1, fbD_t f2 (fbD_f (frm_F g)), k, q, a3, k1, k3, hq, h3, c6, c7, by rw [g.2.2 5 (by omega)]; exact d5, by rw [g.2.2 6 (by omega)]; exact d6, e3⟩
theorem line_two {n s sb th z N : Nat} {b : Nat → Nat} {c d : gm} (h : gIn n b c d s) (hx : ¬ (s < n ∧ pBl b s = true)) (hsn : s < n) (hB : gBr sb th z c d) (hsb : sb = 43 ∨ sb = 49) (h59 : d.1 59 0 = nI th) (h8 : th ≤ 8) (hN : 700 < N) : gLn n b sb th z N c d s (m_X0_readLine N sb 1 (nI th) c) (m_X10_book_L46 N 55 (nI z) d) := by
  obtain ⟨hc, hd, h3, h4, hs, h5⟩ := id h
  have hn := hc.1
  obtain ⟨z6, b5, hrow⟩ := id hB
  have kb : gck sb = 0 := by rcases hsb with rfl | rfl <;> rfl
  have Y0 : m_X10_book_L46 N 55 (nI z) d = gb2 (m_X10_number N 55 0 (nI th - 1) d) (fun (r43 : Int32) (c44 : gm) => if (c44.1 55 5) = 0 then (if nI z = 6 then gb (m_X10_wrong 55 3 (nI s) c44) (fun (c83 : gm) => bkR N (nI z) r43 c83) else bkR N (nI z) r43 c44) else bkR N (nI z) r43 c44) := by
    rw [bk_e, if_pos h5, hd.2.1, h4, if_neg (by rw [n_le (by omega) (by omega)]; omega), n_cl0, h59]
  rw [Y0]
  rcases num_two (lo := 0) (H := th) (hi := nI th - 1) h hN (by omega) (by omega) rfl with ⟨c1, e1, a1, v, s', s1, s2, v0, vH, n1, n2, hO, g5, g4, es, hsn'⟩ | ⟨c1, e1, n1, n2, hO⟩
  rotate_left
  · right; left
    obtain ⟨a2, ha2, h42⟩ := gFl_t hO.2.2
    obtain ⟨d3, e3, f3, g3⟩ := bkR_f (y := nI z) (r1 := 0) (gTd_f hd hO.2.1) h42 ha2 (gFl_5 hO.2.2) hN
    refine ⟨c1, d3, ?_, ?_, gFb_m (fbC_f hO.1) (fbD_f hO.2.1) hO.2.2 f3 g3⟩
    · unfold m_X0_readLine
      rw [gc_1 (show gck 1 = 7 from rfl), show m_X7_takeNumber N 1 0 (nI th - 1) c = some (0, c1) from n1, gb2_e, if_pos rfl]
    · rw [show m_X10_number N 55 0 (nI th - 1) d = some (0, e1) from n2, gb2_e, if_neg (gFl_5 hO.2.2)]
      exact e3
  rw [pScan_e hx] at es
  subst es
  have h15 : e1.1 55 5 = 0 := by rw [hO.2.1.2.2 5 (by omega)]; exact h5
  have c15 : c1.1 sb 5 = nI z := by rw [hO.1.1 sb (by omega)]; exact b5
  rw [show m_X10_number N 55 0 (nI th - 1) d = some (nI v, e1) from n2, gb2_e, if_pos h15]
  have X1 : m_X0_readLine N sb 1 (nI th) c = (if (c1.1 sb 5) < 6 then gc (0 ≤ (c1.1 sb 5).toInt ∧ (c1.1 sb 5).toInt < 6) (gv (gm_r c1 (sb + 1) (upd (c1.1 (sb + 1)) (c1.1 sb 5).toNatClampNeg (c1.1 1 5))) (fun (c14 : gm) => gc (0 ≤ (c14.1 sb 5).toInt ∧ (c14.1 sb 5).toInt < 6) (gb2 (m_X7_takeOther N 1 (nI th) (c14.1 (sb + 1) (c14.1 sb 5).toNatClampNeg) c14) (fun (r17 : Int32) (c18 : gm) => (if r17 = 0 then some (0, c18) else gc (0 ≤ (c18.1 sb 5).toInt ∧ (c18.1 sb 5).toInt < 6) (gv (gm_r c18 (sb + 2) (upd (c18.1 (sb + 2)) (c18.1 sb 5).toNatClampNeg (c18.1 1 5))) (fun (c24 : gm) => gb2 (m_X7_takeNumber N 1 0 2 c24) (fun (r26 : Int32) (c27 : gm) => (if r26 = 0 then some (0, c27) else gc (0 ≤ (c27.1 sb 5).toInt ∧ (c27.1 sb 5).toInt < 6) (gv (gm_r c27 (sb + 3) (upd (c27.1 (sb + 3)) (c27.1 sb 5).toNatClampNeg (c27.1 1 5))) (fun (c33 : gm) => gv (gm_r c33 sb (upd (c33.1 sb) 5 ((c33.1 sb 5) + 1))) (fun (c34 : gm) => some (1, c34))))))))))))) else gb2 (m_X7_fail 1 3 (c1.1 1 4) c1) (fun (r36 : Int32) (c37 : gm) => gc (r36 = 0 ∨ r36 = 1) (some (r36, c37)))) := by
    unfold m_X0_readLine
    rw [gc_1 (show gck 1 = 7 from rfl), show m_X7_takeNumber N 1 0 (nI th - 1) c = some (1, c1) from n1, gb2_e, if_neg (by decide), gc_1 kb]
  by_cases hz : z = 6
  · right; left
    subst hz
    obtain ⟨d3, e3, f3, g3⟩ := bkR_f (n := n) (a := a1) (b := b) (y := nI 6) (r1 := nI v) (d := dFl e1 3 s') ⟨hd.1, by unfold dFl; rw [gr_s, up_n _ _ (by omega), up_n _ _ (by omega), hO.2.1.2.2 2 (by omega)]; exact hd.2.1, fun j hj => by unfold dFl; rw [gr_n _ _ (by omega), hO.2.1.1 56 (by omega)]; exact hd.2.2 j hj⟩ (by unfold dFl; rw [gr_s, up_n _ _ (by omega), up_n _ _ (by omega)]; exact hO.2.2.2.1) hO.2.2.2.2 (dFl_5 (by omega) (by omega)) hN
    obtain ⟨q1, q2, q3⟩ := gNo_w (n := n) (k := 3) (q := s') (c := c1) (d := e1) (by omega) (by omega) (by omega) hO.2.2.2.2 hO.2.2.2.1
    refine ⟨cFl c1 3 s', d3, ?_, ?_, gFb_m (fbC_t (fbC_f (frc_F hO.1)) (fbC_f q1)) (fbD_t (fbD_f (frm_F hO.2.1)) (fbD_f q2)) q3 f3 g3⟩
    · rw [X1, c15, if_neg (by decide)]
      exact fail3 c1 3 s' g4
    · rw [if_pos (show nI 6 = 6 from rfl), show m_X10_wrong 55 3 (nI s') e1 = some (dFl e1 3 s') from wrong_d h15 3 s', gb_e]
      exact e3
  have hz5 : z < 6 := by omega
  obtain ⟨kl1, kl2⟩ := gk_rl z hz5
  have hrg : (0 ≤ (nI z).toInt ∧ (nI z).toInt < 6) := n_rg (by omega) (by omega)
  rw [if_neg (by rw [n_l6, n_eq (by omega) (by decide)]; exact hz)]
  obtain ⟨c2, ec2⟩ : ∃ q, q = gm_r c1 (sb + 1) (upd (c1.1 (sb + 1)) z (nI v)) := ⟨_, rfl⟩
  have c25 : c2.1 sb 5 = nI z := by rw [ec2, gr_n _ _ (by omega)]; exact c15
  have X2 : m_X0_readLine N sb 1 (nI th) c = gb2 (m_X7_takeOther N 1 (nI th) (nI v) c2) (fun (r17 : Int32) (c18 : gm) => (if r17 = 0 then some (0, c18) else gc (0 ≤ (c18.1 sb 5).toInt ∧ (c18.1 sb 5).toInt < 6) (gv (gm_r c18 (sb + 2) (upd (c18.1 (sb + 2)) (c18.1 sb 5).toNatClampNeg (c18.1 1 5))) (fun (c24 : gm) => gb2 (m_X7_takeNumber N 1 0 2 c24) (fun (r26 : Int32) (c27 : gm) => (if r26 = 0 then some (0, c27) else gc (0 ≤ (c27.1 sb 5).toInt ∧ (c27.1 sb 5).toInt < 6) (gv (gm_r c27 (sb + 3) (upd (c27.1 (sb + 3)) (c27.1 sb 5).toNatClampNeg (c27.1 1 5))) (fun (c33 : gm) => gv (gm_r c33 sb (upd (c33.1 sb) 5 ((c33.1 sb 5) + 1))) (fun (c34 : gm) => some (1, c34))))))))) ) := by
    rw [X1, c15, if_pos (by rw [n_l6, n_lt (by omega) (by decide)]; exact hz5), gc_1 hrg, gv_e, n_cl (by omega), g5, ← ec2, c25, gc_1 hrg, n_cl (by omega), show c2.1 (sb + 1) z = nI v by rw [ec2, gr_s, up_s]]
  have hI2 : gIn n b c2 e1 a1 := by rw [ec2]; exact gIn_c (gIn_o h hO) (gr_n _ _ (by omega)) (gr_n _ _ (by omega))
  have F2 : fbC sb c c2 := by rw [ec2]; exact fbC_t (fbC_f (frc_F hO.1)) (fbC_u _ (by omega) (by omega))
  have D1 : fbD d e1 := fbD_f (frm_F hO.2.1)
  have e159 : e1.1 59 0 = nI th := by rw [hO.2.1.1 59 (by omega)]; exact h59
  clear X1 n1 n2
  rcases oth_two (H := th) (v1 := v) hI2 hN (by omega) (by omega) with ⟨c3, e3, a3, w, ha3, wH, wv, n1, n2, hO3, g53⟩ | ⟨c3, e3, uu, n1, n2, hO3⟩
  rotate_left
  · right; left
    obtain ⟨a2, ha2, h42⟩ := gFl_t hO3.2.2
    have h5' := gFl_5 hO3.2.2
    obtain ⟨d3, t3, f3, g3⟩ := bkS_f (y := nI z) (r1 := nI v) (r2 := uu) (r3 := 0) (gTd_f hI2.2.1 hO3.2.1) h42 ha2 h5' hN
    refine ⟨c3, d3, ?_, ?_, gFb_m (fbC_t F2 (fbC_f hO3.1)) (fbD_t D1 (fbD_f hO3.2.1)) hO3.2.2 f3 g3⟩
    · rw [X2, gb2_x n1, if_pos rfl]
    · unfold bkR
      rw [n_cl0, e159, gb2_x n2, gb2_x (num_f h5'), gb_x (sign_f h5')]
      exact t3
  obtain ⟨c4, ec4⟩ : ∃ q, q = gm_r c3 (sb + 2) (upd (c3.1 (sb + 2)) z (nI w)) := ⟨_, rfl⟩
  have c35 : c3.1 sb 5 = nI z := by rw [hO3.1.1 sb (by omega)]; exact c25
  have X3 : m_X0_readLine N sb 1 (nI th) c = gb2 (m_X7_takeNumber N 1 0 2 c4) (fun (r26 : Int32) (c27 : gm) => (if r26 = 0 then some (0, c27) else gc (0 ≤ (c27.1 sb 5).toInt ∧ (c27.1 sb 5).toInt < 6) (gv (gm_r c27 (sb + 3) (upd (c27.1 (sb + 3)) (c27.1 sb 5).toNatClampNeg (c27.1 1 5))) (fun (c33 : gm) => gv (gm_r c33 sb (upd (c33.1 sb) 5 ((c33.1 sb 5) + 1))) (fun (c34 : gm) => some (1, c34)))))) := by
    rw [X2, gb2_x n1, if_neg (by decide), c35, gc_1 hrg, gv_e, n_cl (by omega), g53, ← ec4]
  have hI4 : gIn n b c4 e3 a3 := by rw [ec4]; exact gIn_c (gIn_o hI2 hO3) (gr_n _ _ (by omega)) (gr_n _ _ (by omega))
  have F4 : fbC sb c c4 := by rw [ec4]; exact fbC_t F2 (fbC_t (fbC_f (frc_F hO3.1)) (fbC_u _ (by omega) (by omega)))
  have D3 : fbD d e3 := fbD_t D1 (fbD_f (frm_F hO3.2.1))
  have Y3 : bkR N (nI z) (nI v) e1 = gb2 (m_X10_number N 55 0 2 e3) (fun (r52 : Int32) (c53 : gm) => gb (m_X10_sign N 55 59 c53) (fun (c56 : gm) => bkS N (nI z) (nI v) (nI w) r52 c56)) := by
    unfold bkR
    rw [n_cl0, e159, gb2_x n2]
  rw [Y3]
  clear X2 n1 n2 Y3
  rcases num_two (lo := 0) (H := 3) (hi := 2) hI4 hN (by omega) (by omega) (by decide) with ⟨c5, e5, a5, x, s'', s1', s2', x0, xH, n1, n2, hO5, g55, g45, es5, hsn5⟩ | ⟨c5, e5, n1, n2, hO5⟩
  rotate_left
  · right; left
    obtain ⟨a2, ha2, h42⟩ := gFl_t hO5.2.2
    have h5' := gFl_5 hO5.2.2
    obtain ⟨d3, t3, f3, g3⟩ := bkS_f (y := nI z) (r1 := nI v) (r2 := nI w) (r3 := 0) (gTd_f hI4.2.1 hO5.2.1) h42 ha2 h5' hN
    refine ⟨c5, d3, ?_, ?_, gFb_m (fbC_t F4 (fbC_f hO5.1)) (fbD_t D3 (fbD_f hO5.2.1)) hO5.2.2 f3 g3⟩
    · rw [X3, show m_X7_takeNumber N 1 0 2 c4 = some (0, c5) from n1, gb2_e, if_pos rfl]
    · rw [show m_X10_number N 55 0 2 e3 = some (0, e5) from n2, gb2_e, gb_x (sign_f h5')]
      exact t3
  have c55 : c5.1 sb 5 = nI z := by rw [hO5.1.1 sb (by omega), ec4, gr_n _ _ (by omega)]; exact c35
  obtain ⟨c6, ec6⟩ : ∃ q, q = gm_r (gm_r c5 (sb + 3) (upd (c5.1 (sb + 3)) z (nI x))) sb (upd (c5.1 sb) 5 (nI (z + 1))) := ⟨_, rfl⟩
  have X4 : m_X0_readLine N sb 1 (nI th) c = some (1, c6) := by
    rw [X3, show m_X7_takeNumber N 1 0 2 c4 = some (1, c5) from n1, gb2_e, if_neg (by decide), c55, gc_1 hrg, gv_e, n_cl (by omega), g55, gv_e, gr_n _ _ (show sb ≠ sb + 3 by omega), c55, n_s, ← ec6]
  have c61 : c6.1 1 = c5.1 1 := by rw [ec6, gr_n _ _ (by omega), gr_n _ _ (by omega)]
  have hI6 : gIn n b c6 e5 a5 := gIn_c (gIn_o hI4 hO5) c61 (by rw [ec6, gr_n _ _ (by omega), gr_n _ _ (by omega)])
  have F6 : fbC sb c c6 := by rw [ec6]; exact fbC_t F4 (fbC_t (fbC_f (frc_F hO5.1)) (fbC_t (fbC_u _ (by omega) (by omega)) (fbC_u _ (by omega) (by omega))))
  have D5 : fbD d e5 := fbD_t D3 (fbD_f (frm_F hO5.2.1))
  rw [show m_X10_number N 55 0 2 e3 = some (nI x, e5) from n2, gb2_e]
  rcases sign_two (x := 59) hI6 hN (by decide) with ⟨c7, e7, a7, ha7, t1, t2, hO7⟩ | ⟨c7, e7, t1, t2, hO7⟩
  · left
    have h75 : e7.1 55 5 = 0 := by rw [hO7.2.1.2.2 5 (by omega)]; exact hI6.2.2.2.2.2
    obtain ⟨f7, ef7⟩ : ∃ q, q = gm_r e7 (413 + 1 + z) (upd (upd (upd (e7.1 (413 + 1 + z)) 0 (nI v)) 1 (nI w)) 2 (nI x)) := ⟨_, rfl⟩
    have hz3 : ∀ x : Int32, x = 0 ∨ x = 1 ∨ x = 2 → 0 ≤ x.toInt ∧ x.toInt < ((gal (413 + 1 + z) : Nat) : Int) := fun x hx => by rw [kl2]; exact r_3 hx
    have T7 : gTd n b f7 := by rw [ef7]; exact gTd_u (gTd_f hI6.2.1 (frm_F hO7.2.1)) _ (by omega)
    have f755 : f7.1 55 = e7.1 55 := by rw [ef7, gr_n _ _ (by omega)]
    have eS : bkS N (nI z) (nI v) (nI w) (nI x) e7 = some (.inl (nI (z + 1), dAt f7 (pScan (pBl b) n a7))) := by
      unfold bkS
      rw [if_pos h75, gc_1 hrg, n_cl (by omega), gc_1 kl1, gc_1 (hz3 _ (Or.inl rfl)), gv_e, gc_1 hrg, gc_1 (hz3 _ (Or.inr (Or.inl rfl))), gv_e, gc_1 hrg, gc_1 (hz3 _ (Or.inr (Or.inr rfl))), gv_e, gv_e, n_s, n_cl0, n_cl1, i_2, gr_s, gr_r, gr_s, gr_r, ← ef7, bkK_e T7 (by rw [f755]; exact hO7.2.2.2.1) hO7.2.2.2.2 hN]
    have fa := dAt_f f7 (pScan (pBl b) n a7)
    refine ⟨c6, c7, dAt f7 (pScan (pBl b) n a7), a7, by omega, hz5, X4, t1, by rw [show m_X10_sign N 55 59 e5 = some e7 from t2, gb_e, eS], gTc_f hI6.1 (frc_F hO7.1), gTd_f T7 (frm_F fa), hO7.2.2.1, dAt_4 _ _, hO7.2.2.2.2, by rw [fa.2.2 5 (by omega), f755]; exact h75, ⟨by omega, ?_, fun k hk => ?_⟩, fbC_t F6 (fbC_f (frc_F hO7.1)), fbD_t D5 (fbD_t (fbD_f (frm_F hO7.2.1)) (fbD_t (by rw [ef7]; exact fbD_u _ (by omega)) (fbD_f (frm_F fa)))), ?_⟩
    · rw [hO7.1.1 sb (by omega), ec6, gr_s, up_s]
    · have r1 : c7.1 (sb + 1) = upd (c.1 (sb + 1)) z (nI v) := by rw [hO7.1.1 _ (by omega), ec6, gr_n _ _ (by omega), gr_n _ _ (by omega), hO5.1.1 _ (by omega), ec4, gr_n _ _ (by omega), hO3.1.1 _ (by omega), ec2, gr_s, hO.1.1 _ (by omega)]
      have r2 : c7.1 (sb + 2) = upd (c.1 (sb + 2)) z (nI w) := by rw [hO7.1.1 _ (by omega), ec6, gr_n _ _ (by omega), gr_n _ _ (by omega), hO5.1.1 _ (by omega), ec4, gr_s, hO3.1.1 _ (by omega), ec2, gr_n _ _ (by omega), hO.1.1 _ (by omega)]
      have r3 : c7.1 (sb + 3) = upd (c.1 (sb + 3)) z (nI x) := by rw [hO7.1.1 _ (by omega), ec6, gr_n _ _ (by omega), gr_s, hO5.1.1 _ (by omega), ec4, gr_n _ _ (by omega), hO3.1.1 _ (by omega), ec2, gr_n _ _ (by omega), hO.1.1 _ (by omega)]
      rw [r1, r2, r3, fa.1 _ (by omega)]
      by_cases e : k = z
      · subst e
        refine ⟨v, w, x, vH, wH, by omega, up_s _ _ _, up_s _ _ _, up_s _ _ _, ?_, ?_, ?_⟩
        · rw [show 414 + k = 413 + 1 + k by omega, ef7, gr_s, up_n _ _ (by omega), up_n _ _ (by omega), up_s]
        · rw [show 414 + k = 413 + 1 + k by omega, ef7, gr_s, up_n _ _ (by omega), up_s]
        · rw [show 414 + k = 413 + 1 + k by omega, ef7, gr_s, up_s]
      · rw [up_n _ _ e, up_n _ _ e, up_n _ _ e, ef7, gr_n _ _ (by omega), hO7.2.1.1 _ (by omega), hO5.2.1.1 _ (by omega), hO3.2.1.1 _ (by omega), hO.2.1.1 _ (by omega)]
        exact hrow k (by omega)
    · rw [hO7.1.2.2 7 (by omega) (by omega) (by omega), c61, hO5.1.2.2 7 (by omega) (by omega) (by omega), ec4, gr_n _ _ (by omega), hO3.1.2.2 7 (by omega) (by omega) (by omega), ec2, gr_n _ _ (by omega), hO.1.2.2 7 (by omega) (by omega) (by omega)]
  · right; right
    obtain ⟨a2, ha2, h42⟩ := gFl_t hO7.2.2
    have h5' := gFl_5 hO7.2.2
    obtain ⟨d3, t3, f3, g3⟩ := bkS_f (y := nI z) (r1 := nI v) (r2 := nI w) (r3 := nI x) (gTd_f hI6.2.1 hO7.2.1) h42 ha2 h5' hN
    exact ⟨c6, c7, d3, X4, t1, by rw [show m_X10_sign N 55 59 e5 = some e7 from t2, gb_e]; exact t3, gFb_m (fbC_t F6 (fbC_f hO7.1)) (fbD_t D5 (fbD_f hO7.2.1)) hO7.2.2 f3 g3⟩
