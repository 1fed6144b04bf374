set_option maxRecDepth 16384
/-! reading a law: the base -/
def flC (t : Nat) (c c2 : gm) : Prop := (∀ i, i ≠ 1 → i ≠ t → i ≠ t + 1 → i ≠ t + 2 → c2.1 i = c.1 i) ∧ c2.2 = c.2 ∧ ∀ k, k < 3 → c2.1 1 k = c.1 1 k
def flD (d d2 : gm) : Prop := (∀ i, i ≠ 55 → (i < 246 ∨ 405 < i) → d2.1 i = d.1 i) ∧ d2.2 = d.2 ∧ ∀ k, k < 4 ∨ k = 7 ∨ (9 ≤ k ∧ k ≠ 18) → d2.1 55 k = d.1 55 k
theorem flC_r (t : Nat) (c : gm) : flC t c c := ⟨fun _ _ _ _ _ => rfl, rfl, fun _ _ => rfl⟩
theorem flD_r (c : gm) : flD c c := ⟨fun _ _ _ => rfl, rfl, fun _ _ => rfl⟩
theorem flC_t {t : Nat} {a b c : gm} (h : flC t a b) (g : flC t b c) : flC t a c := ⟨fun i h1 h2 h3 h4 => (g.1 i h1 h2 h3 h4).trans (h.1 i h1 h2 h3 h4), g.2.1.trans h.2.1, fun k hk => (g.2.2 k hk).trans (h.2.2 k hk)⟩
theorem flD_t {a b c : gm} (h : flD a b) (g : flD b c) : flD a c := ⟨fun i h1 h2 => (g.1 i h1 h2).trans (h.1 i h1 h2), g.2.1.trans h.2.1, fun k hk => (g.2.2 k hk).trans (h.2.2 k hk)⟩
theorem flC_f {t : Nat} {c c2 : gm} (h : frcF c c2) : flC t c c2 := ⟨fun i h1 _ _ _ => h.1 i h1, h.2.1, h.2.2⟩
theorem flD_f {d d2 : gm} (h : frmF d d2) : flD d d2 := ⟨fun i h1 _ => h.1 i h1, h.2.1, fun k hk => h.2.2 k (by omega) (by omega) (by omega)⟩
/-- the code read so far, h its height -/
def gCd (t z h : Nat) (c d : gm) : Prop := gck t = 3 ∧ z ≤ 150 ∧ c.1 t 4 = nI z ∧ d.1 55 18 = nI z ∧ (∀ k, k < z → d.1 (246 + k) 0 = c.1 (t + 1) k ∧ d.1 (246 + k) 1 = c.1 (t + 2) k) ∧ ∃ D : Nat → Nat, D 0 = 0 ∧ D z = h ∧ ∀ k, k < z → (D (k + 1) = D k + 1 ∧ D k < 24 ∧ (c.1 (t + 1) k = 0 ∨ c.1 (t + 1) k = 1 ∧ ∃ o, o < 7 ∧ c.1 (t + 2) k = nI o)) ∨ (D (k + 1) + 1 = D k ∧ 2 ≤ D k ∧ ∃ j, 2 ≤ j ∧ j ≤ 8 ∧ c.1 (t + 1) k = nI j)
theorem gCd_f {t z h : Nat} {c d c2 d2 : gm} (H : gCd t z h c d) (f0 : c2.1 t = c.1 t) (f1 : c2.1 (t + 1) = c.1 (t + 1)) (f2 : c2.1 (t + 2) = c.1 (t + 2)) (g0 : d2.1 55 18 = d.1 55 18) (g : ∀ i, 246 ≤ i → i ≤ 405 → d2.1 i = d.1 i) : gCd t z h c2 d2 := by
  obtain ⟨h1, h2, h3, h4, h5, h6⟩ := H
  refine ⟨h1, h2, by rw [f0]; exact h3, by rw [g0]; exact h4, fun k hk => ?_, ?_⟩
  · rw [g (246 + k) (by omega) (by omega), f1, f2]; exact h5 k hk
  · rw [f1, f2]; exact h6
theorem gCd_o {t z h : Nat} {c d c2 d2 : gm} (ht : t = 33 ∨ t = 38) (H : gCd t z h c d) (f : frcF c c2) (g : frmF d d2) : gCd t z h c2 d2 := gCd_f H (f.1 _ (by omega)) (f.1 _ (by omega)) (f.1 _ (by omega)) (g.2.2 18 (by omega) (by omega) (by omega)) (fun i h1 _ => g.1 i (by omega))
theorem gk_rla : ∀ k, k < 160 → gck (245 + 1 + k) = 22 ∧ gal (245 + 1 + k) = 2 := by decide
theorem r_22 {x : Int32} (h : x = 0 ∨ x = 1) : 0 ≤ x.toInt ∧ x.toInt < ((2 : Nat) : Int) := by rcases h with rfl | rfl <;> decide
theorem notes_d {z : Nat} {x y : Int32} {d : gm} (h18 : d.1 55 18 = nI z) (hz : z < 160) (h5 : d.1 55 5 = 0) : m_X10_notes 55 x y d = some (gm_r (gm_r d (246 + z) (upd (upd (d.1 (246 + z)) 0 x) 1 y)) 55 (upd (d.1 55) 18 (nI (z + 1)))) := by
  obtain ⟨k1, k2⟩ := gk_rla z hz
  have hr : ∀ x : Int32, x = 0 ∨ x = 1 → 0 ≤ x.toInt ∧ x.toInt < ((gal (245 + 1 + z) : Nat) : Int) := fun x hx => by rw [k2]; exact r_22 hx
  have hg : 0 ≤ (nI z).toInt ∧ (nI z).toInt < 160 := n_rg (by omega) (by omega)
  unfold m_X10_notes
  rw [gc_1 (show gck 55 = 10 from rfl), if_pos h5, h18, gc_1 hg, n_cl (by omega), gc_1 k1, gc_1 (hr 0 (Or.inl rfl)), gv_e, gr_n _ _ (show 55 ≠ 245 + 1 + z by omega), h18, gc_1 hg, n_cl (by omega), gc_1 k1, gc_1 (hr 1 (Or.inr rfl)), gv_e, gv_e, n_cl0, n_cl1, gr_s, gr_r, gr_n _ _ (show 55 ≠ 245 + 1 + z by omega), h18, n_s, show 245 + 1 + z = 246 + z by omega]
theorem notes_f {x y : Int32} {d : gm} (h : ¬ d.1 55 5 = 0) : m_X10_notes 55 x y d = some d := by
  unfold m_X10_notes
  rw [gc_1 (show gck 55 = 10 from rfl), if_neg h]
/-- a mark is written -/
theorem emit {t z h h2 : Nat} {x y : Int32} {c d : gm} (hC : gCd t z h c d) (hz : z < 150) (ht : t = 33 ∨ t = 38) (h5 : d.1 55 5 = 0) (hx : (h < 24 ∧ h2 = h + 1 ∧ (x = 0 ∨ x = 1 ∧ ∃ o, o < 7 ∧ y = nI o)) ∨ (2 ≤ h ∧ h2 + 1 = h ∧ ∃ j, 2 ≤ j ∧ j ≤ 8 ∧ x = nI j)) : ∃ c2 d2, m_X3_add t x y c = some c2 ∧ m_X10_notes 55 x y d = some d2 ∧ gCd t (z + 1) h2 c2 d2 ∧ flC t c c2 ∧ flD d d2 ∧ c2.1 1 = c.1 1 ∧ c2.1 2 = c.1 2 ∧ d2.1 56 = d.1 56 ∧ ∀ k, k ≠ 18 → d2.1 55 k = d.1 55 k := by
  obtain ⟨h1, h2', h3, h4, h5', D, D0, Dz, DD⟩ := hC
  have e1 := add_l (x := x) (y := y) h1 h3 hz
  have e2 := notes_d (x := x) (y := y) h4 (by omega) h5
  obtain ⟨c2, ec2⟩ : ∃ q, q = gm_r (gm_r (gm_r c (t + 1) (upd (c.1 (t + 1)) z x)) (t + 2) (upd (c.1 (t + 2)) z y)) t (upd (c.1 t) 4 (nI (z + 1))) := ⟨_, rfl⟩
  obtain ⟨d2, ed2⟩ : ∃ q, q = gm_r (gm_r d (246 + z) (upd (upd (d.1 (246 + z)) 0 x) 1 y)) 55 (upd (d.1 55) 18 (nI (z + 1))) := ⟨_, rfl⟩
  rw [← ec2] at e1
  rw [← ed2] at e2
  have c1 : c2.1 (t + 1) = upd (c.1 (t + 1)) z x := by rw [ec2, gr_n _ _ (by omega), gr_n _ _ (by omega), gr_s]
  have c22 : c2.1 (t + 2) = upd (c.1 (t + 2)) z y := by rw [ec2, gr_n _ _ (by omega), gr_s]
  refine ⟨c2, d2, e1, e2, ⟨h1, by omega, by rw [ec2, gr_s, up_s], by rw [ed2, gr_s, up_s], fun k hk => ?_, fun k => if k = z + 1 then h2 else D k, ?_, ?_, fun k hk => ?_⟩, ⟨fun i i1 i2 i3 i4 => by rw [ec2, gr_n _ _ i2, gr_n _ _ i4, gr_n _ _ i3], by rw [ec2]; rfl, fun k hk => by rw [ec2, gr_n _ _ (by omega), gr_n _ _ (by omega), gr_n _ _ (by omega)]⟩, ⟨fun i i1 i2 => by rw [ed2, gr_n _ _ i1, gr_n _ _ (by omega)], by rw [ed2]; rfl, fun k hk => by rw [ed2, gr_s, up_n _ _ (by omega)]⟩, by rw [ec2, gr_n _ _ (by omega), gr_n _ _ (by omega), gr_n _ _ (by omega)], by rw [ec2, gr_n _ _ (by omega), gr_n _ _ (by omega), gr_n _ _ (by omega)], by rw [ed2, gr_n _ _ (by omega), gr_n _ _ (by omega)], fun k hk => by rw [ed2, gr_s, up_n _ _ hk]⟩
  · rw [c1, c22]
    by_cases e : k = z
    · subst e
      rw [ed2, gr_n _ _ (by omega), gr_s, up_n _ _ (by omega), up_s, up_s, up_s, up_s]
      exact ⟨rfl, rfl⟩
    · rw [ed2, gr_n _ _ (by omega), gr_n _ _ (by omega), up_n _ _ e, up_n _ _ e]
      exact h5' k (by omega)
  · show (if 0 = z + 1 then h2 else D 0) = 0
    rw [if_neg (by omega)]; exact D0
  · show (if z + 1 = z + 1 then h2 else D (z + 1)) = h2
    rw [if_pos rfl]
  · show ((if k + 1 = z + 1 then h2 else D (k + 1)) = (if k = z + 1 then h2 else D k) + 1 ∧ (if k = z + 1 then h2 else D k) < 24 ∧ _) ∨ ((if k + 1 = z + 1 then h2 else D (k + 1)) + 1 = (if k = z + 1 then h2 else D k) ∧ 2 ≤ (if k = z + 1 then h2 else D k) ∧ _)
    rw [if_neg (show ¬ k = z + 1 by omega), c1, c22]
    by_cases e : k = z
    · subst e
      rw [if_pos rfl, up_s, up_s, Dz]
      rcases hx with ⟨q1, q2, q3⟩ | ⟨q1, q2, q3⟩
      · exact Or.inl ⟨q2, q1, q3⟩
      · exact Or.inr ⟨q2, q1, q3⟩
    · rw [if_neg (by omega), up_n _ _ e, up_n _ _ e]
      exact DD k (by omega)
/-- one more level -/
def d8 (d : gm) (l : Nat) : gm := gm_r d 55 (upd (d.1 55) 8 (nI l))
theorem d8_f (d : gm) (l : Nat) : (∀ i, i ≠ 55 → (d8 d l).1 i = d.1 i) ∧ (d8 d l).2 = d.2 ∧ (∀ k, k ≠ 8 → (d8 d l).1 55 k = d.1 55 k) ∧ (d8 d l).1 55 8 = nI l := ⟨fun i hi => gr_n _ _ hi, rfl, fun k hk => by unfold d8; rw [gr_s, up_n _ _ hk], by unfold d8; rw [gr_s, up_s]⟩
theorem d8_D (d : gm) (l : Nat) : flD d (d8 d l) := ⟨fun i h1 _ => (d8_f d l).1 i h1, rfl, fun k hk => (d8_f d l).2.2.1 k (by omega)⟩
theorem d8_n {n a l : Nat} {b : Nat → Nat} {c d : gm} (h : gIn n b c d a) : gIn n b c (d8 d l) a := gIn_d h (fun k hk => (d8_f d l).2.2.1 k (by omega)) ((d8_f d l).1 56 (by omega))
theorem d8_c {t z h l : Nat} {c d : gm} (H : gCd t z h c d) : gCd t z h c (d8 d l) := gCd_f H rfl rfl rfl ((d8_f d l).2.2.1 18 (by omega)) (fun i i1 i2 => (d8_f d l).1 i (by omega))
theorem opens_d {l s : Nat} {d : gm} (h5 : d.1 55 5 = 0) (h8 : d.1 55 8 = nI l) (h4 : d.1 55 4 = nI s) (hl : l < 6) : m_X10_opensOne 55 d = some (1, d8 d (l + 1)) := by
  unfold m_X10_opensOne; simp only [gj_e]
  rw [gc_1 (show gck 55 = 10 from rfl), if_pos h5, h8, if_neg (show ¬ nI l = 6 by rw [n_l6, n_eq (by omega) (by decide)]; omega), gv_e, n_s, show gm_r d 55 (upd (d.1 55) 8 (nI (l + 1))) = d8 d (l + 1) from rfl, (d8_f d (l + 1)).2.2.1 5 (by omega)]
  rw [if_pos h5, if_pos h5]
theorem opens_6 {s : Nat} {d : gm} (h5 : d.1 55 5 = 0) (h8 : d.1 55 8 = nI 6) (h4 : d.1 55 4 = nI s) : m_X10_opensOne 55 d = some (0, dFl d 3 s) := by
  have hf : ¬ (dFl d 3 s).1 55 5 = 0 := dFl_5 (by omega) (by omega)
  unfold m_X10_opensOne; simp only [gj_e]
  rw [gc_1 (show gck 55 = 10 from rfl), if_pos h5, h8, if_pos (show nI 6 = 6 from rfl), h4, show m_X10_wrong 55 3 (nI s) d = some (dFl d 3 s) from wrong_d h5 3 s, gb_e, if_neg hf]
/-- a sign that is there -/
theorem sign_c {n a s x N : Nat} {b : Nat → Nat} {c : gm} (hT : gTc n b c) (h3 : c.1 1 3 = nI a) (han : a ≤ n) (hN : 700 < N) (es : s = pScan (pBl b) n a) (q : pBt n b s = nI x) : m_X7_takeSign N 1 (nI x) c = some (1, cAt (cPk c s) (s + 1)) := by
  subst es
  unfold m_X7_takeSign
  rw [gc_1 (show gck 1 = 7 from rfl), gb2_x (peek_c hT h3 han hN), if_pos q, (cPk_s c _).1, n_s, gv_e]
  rfl
/-- no number here -/
theorem num_n {n s N : Nat} {b : Nat → Nat} {d : gm} (h : gNb n b d s) (hN : 700 < N) (q : ¬ (s < n ∧ pDg b s = true)) : m_X10_number N 55 0 999 d = some (0, dFl d 1 s) := by
  obtain ⟨hd, h4, hs, h5, hx⟩ := h
  have hn := hd.1
  have e2 := blanks_d hd h4 hs hN
  rw [pScan_e hx, dAt_i h4] at e2
  have e3 := bt_d (j := s) hd (by omega)
  have hb := dg_e (n := n) (j := s) (b := b) (fun i hi => (hd.2.2 i hi).1)
  have l2 := num_lp_d (n := n) (s := s) (N := N) (b := b) (d := dFl d 1 s) ⟨hd.1, by unfold dFl; rw [gr_s, up_n _ _ (by omega), up_n _ _ (by omega)]; exact hd.2.1, fun j hj => by unfold dFl; rw [gr_n _ _ (by omega)]; exact hd.2.2 j hj⟩ (by unfold dFl; rw [gr_s, up_n _ _ (by omega), up_n _ _ (by omega)]; exact h4) hs hN
  rw [pScan_e q, dAt_i (d := dFl d 1 s) (k := s) (by unfold dFl; rw [gr_s, up_n _ _ (by omega), up_n _ _ (by omega)]; exact h4), Nat.sub_self] at l2
  have hf : ¬ (dFl d 1 s).1 55 5 = 0 := dFl_5 (by omega) (by omega)
  unfold m_X10_number; simp only [gj_e]
  rw [gc_1 (show gck 55 = 10 from rfl), if_pos h5, gb_x e2, gv_e, h4, gb_x e3, dg_d, gb_x hb, if_neg q, if_pos rfl, show m_X10_wrong 55 1 (nI s) d = some (dFl d 1 s) from wrong_d h5 1 s, gb_e, gb_x l2, gu2_e]
  by_cases qi : 0 ≤ nI (min (pNum b s 0) 100000) ∧ nI (min (pNum b s 0) 100000) ≤ 999
  · rw [gb_x (in_1 qi), if_neg (by decide), if_neg hf]
  · rw [gb_x (in_0 qi), if_pos rfl, gb_x (wrong_f hf _ _), if_neg hf]
/-- the seven names -/
theorem known_two {n s e N : Nat} {b : Nat → Nat} {c d : gm} (h : gNb n b d s) (hc : gTc n b c) (h3 : c.1 1 3 = nI e) (h4 : c.1 1 4 = nI s) (ee : e = pScan (pLt b) n s) (hN : 700 < N) : (∃ k, k < 7 ∧ isW b s e k ∧ m_X3_nameOf N 1 c = some (nI k) ∧ m_X10_knownHere N 55 d = some (nI k, dAt d e)) ∨ ((∀ k, k < 7 → ¬ isW b s e k) ∧ m_X3_nameOf N 1 c = some (-1) ∧ m_X10_knownHere N 55 d = some (-1, d)) := by
  subst ee
  have hs := h.2.2.1
  have he := pScan_le (p := pLt b) hs
  have W : ∀ w, w < 7 → (isW b s (pScan (pLt b) n s) w ∧ m_X7_wordIs N 1 w c = some 1) ∨ (¬ isW b s (pScan (pLt b) n s) w ∧ m_X7_wordIs N 1 w c = some 0) := fun w hw => wi_c hc h3 h4 he.1 he.2 (by omega) hN
  have T0 := tk_n (w := 0) h hN (gs_l (by omega)).1 (gs_l (by omega)).2 sx_weight
  have T1 := is7_n h hN
  have T2 := tk_n (w := 2) h hN (gs_l (by omega)).1 (gs_l (by omega)).2 sx_cried
  have T3 := tk_n (w := 3) h hN (gs_l (by omega)).1 (gs_l (by omega)).2 sx_thing
  have T4 := tk_n (w := 4) h hN (gs_l (by omega)).1 (gs_l (by omega)).2 sx_day
  have T5 := tk_n (w := 5) h hN (gs_l (by omega)).1 (gs_l (by omega)).2 sx_lean
  have T6 := tk_n (w := 6) h hN (gs_l (by omega)).1 (gs_l (by omega)).2 sx_play
  have W0 := W 0 (by omega)
  have W1 := W 1 (by omega)
  have W2 := W 2 (by omega)
  have W3 := W 3 (by omega)
  have W4 := W 4 (by omega)
  have W5 := W 5 (by omega)
  have W6 := W 6 (by omega)
  clear W
  unfold m_X3_nameOf m_X10_knownHere
  rw [gc_1 (show gck 1 = 7 from rfl), gc_1 (show gck 55 = 10 from rfl)]
  rcases W0 with ⟨w0, u0⟩ | ⟨w0, u0⟩
  · rcases T0 with ⟨-, v0⟩ | ⟨x, -⟩
    · left; exact ⟨0, by omega, w0, by rw [gb_x u0, if_neg (by decide)]; rfl, by rw [gb2_x v0, if_neg (by decide)]; rfl⟩
    · exact absurd w0 x
  rcases T0 with ⟨x, -⟩ | ⟨-, v0⟩
  · exact absurd x w0
  rw [gb_x u0, if_pos rfl, gb2_x v0, if_pos rfl, gb_x sx_weighe]
  rcases W1 with ⟨w1, u1⟩ | ⟨w1, u1⟩
  · rcases T1 with ⟨-, v1⟩ | ⟨x, -⟩
    · left; exact ⟨1, by omega, w1, by rw [gb_x u1, if_neg (by decide)]; rfl, by rw [gb2_x v1, if_neg (by decide)]; rfl⟩
    · exact absurd w1 x
  rcases T1 with ⟨x, -⟩ | ⟨-, v1⟩
  · exact absurd x w1
  rw [gb_x u1, if_pos rfl, gb2_x v1, if_pos rfl]
  rcases W2 with ⟨w2, u2⟩ | ⟨w2, u2⟩
  · rcases T2 with ⟨-, v2⟩ | ⟨x, -⟩
    · left; exact ⟨2, by omega, w2, by rw [gb_x u2, if_neg (by decide)]; rfl, by rw [gb2_x v2, if_neg (by decide)]; rfl⟩
    · exact absurd w2 x
  rcases T2 with ⟨x, -⟩ | ⟨-, v2⟩
  · exact absurd x w2
  rw [gb_x u2, if_pos rfl, gb2_x v2, if_pos rfl]
  rcases W3 with ⟨w3, u3⟩ | ⟨w3, u3⟩
  · rcases T3 with ⟨-, v3⟩ | ⟨x, -⟩
    · left; exact ⟨3, by omega, w3, by rw [gb_x u3, if_neg (by decide)]; rfl, by rw [gb2_x v3, if_neg (by decide)]; rfl⟩
    · exact absurd w3 x
  rcases T3 with ⟨x, -⟩ | ⟨-, v3⟩
  · exact absurd x w3
  rw [gb_x u3, if_pos rfl, gb2_x v3, if_pos rfl]
  rcases W4 with ⟨w4, u4⟩ | ⟨w4, u4⟩
  · rcases T4 with ⟨-, v4⟩ | ⟨x, -⟩
    · left; exact ⟨4, by omega, w4, by rw [gb_x u4, if_neg (by decide)]; rfl, by rw [gb2_x v4, if_neg (by decide)]; rfl⟩
    · exact absurd w4 x
  rcases T4 with ⟨x, -⟩ | ⟨-, v4⟩
  · exact absurd x w4
  rw [gb_x u4, if_pos rfl, gb2_x v4, if_pos rfl]
  rcases W5 with ⟨w5, u5⟩ | ⟨w5, u5⟩
  · rcases T5 with ⟨-, v5⟩ | ⟨x, -⟩
    · left; exact ⟨5, by omega, w5, by rw [gb_x u5, if_neg (by decide)]; rfl, by rw [gb2_x v5, if_neg (by decide)]; rfl⟩
    · exact absurd w5 x
  rcases T5 with ⟨x, -⟩ | ⟨-, v5⟩
  · exact absurd x w5
  rw [gb_x u5, if_pos rfl, gb2_x v5, if_pos rfl]
  rcases W6 with ⟨w6, u6⟩ | ⟨w6, u6⟩
  · rcases T6 with ⟨-, v6⟩ | ⟨x, -⟩
    · left; exact ⟨6, by omega, w6, by rw [gb_x u6, if_neg (by decide)]; rfl, by rw [gb2_x v6, if_neg (by decide)]; rfl⟩
    · exact absurd w6 x
  rcases T6 with ⟨x, -⟩ | ⟨-, v6⟩
  · exact absurd x w6
  rw [gb_x u6, if_pos rfl, gb2_x v6, if_pos rfl]
  right
  refine ⟨fun k hk => ?_, rfl, rfl⟩
  rcases (by omega : k = 0 ∨ k = 1 ∨ k = 2 ∨ k = 3 ∨ k = 4 ∨ k = 5 ∨ k = 6) with rfl | rfl | rfl | rfl | rfl | rfl | rfl <;> assumption
