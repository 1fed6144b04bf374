set_option maxRecDepth 16384
/-! reading a work: the base -/
abbrev rC := Nat → Nat → Nat → Int32 → Int32 → gm → Option (Int32 × gm)
abbrev rD := Nat → Nat → gm → Option gm
def rsE (N i : Nat) (c29 : gm) : Option gm := gc (0 ≤ (5 : Int32).toInt ∧ (5 : Int32).toInt < ((gal (422 + 1 + i)) : Nat)) (gv (gm_r c29 (422 + 1 + i) (upd (c29.1 (422 + 1 + i)) (5 : Int32).toNatClampNeg (c29.1 55 26))) (fun (c32 : gm) => gb (m_X10_sign N 55 59 c32) (fun (c35 : gm) => some c35)))
def rsD (rs : rD) (N i : Nat) (r4 : Int32) (c27 : gm) : Option gm := if r4 = 5 then gb2 (m_X10_number N 55 0 60 c27) (fun (r38 : Int32) (c39 : gm) => gc (0 ≤ (1 : Int32).toInt ∧ (1 : Int32).toInt < ((gal (422 + 1 + i)) : Nat)) (gv (gm_r c39 (422 + 1 + i) (upd (c39.1 (422 + 1 + i)) (1 : Int32).toNatClampNeg r38)) (fun (c41 : gm) => gb (m_X10_sign N 55 91 c41) (fun (c44 : gm) => gb (m_X10_blanks N 55 c44) (fun (c47 : gm) => gb (gloop (fun (c49 : gm) => m_X10_readsStep_L182 rs N 55 c49) N c47) (fun (c50 : gm) => gb (m_X10_sign N 55 93 c50) (fun (c53 : gm) => gv (gm_r c53 55 (upd (c53.1 55) 8 ((c53.1 55 8) - 1))) (fun (c54 : gm) => rsE N i c54)))))))) else rsE N i c27
def rsC (rs : rD) (N i : Nat) (r4 : Int32) (c25 : gm) : Option gm := if r4 = 1 then gb2 (m_X10_number N 55 0 9 c25) (fun (r67 : Int32) (c68 : gm) => gc (0 ≤ (1 : Int32).toInt ∧ (1 : Int32).toInt < ((gal (422 + 1 + i)) : Nat)) (gv (gm_r c68 (422 + 1 + i) (upd (c68.1 (422 + 1 + i)) (1 : Int32).toNatClampNeg r67)) (fun (c70 : gm) => rsD rs N i r4 c70))) else rsD rs N i r4 c25
def rsB (rs : rD) (N i : Nat) (r4 : Int32) (c23 : gm) : Option gm := if r4 = 0 then gc (0 ≤ (1 : Int32).toInt ∧ (1 : Int32).toInt < ((gal (422 + 1 + i)) : Nat)) (gb2 (m_X10_otherThing N 55 (c23.1 (422 + 1 + i) (1 : Int32).toNatClampNeg) (c23.1 59 (0 : Int32).toNatClampNeg) c23) (fun (r78 : Int32) (c79 : gm) => gc (0 ≤ (3 : Int32).toInt ∧ (3 : Int32).toInt < ((gal (422 + 1 + i)) : Nat)) (gv (gm_r c79 (422 + 1 + i) (upd (c79.1 (422 + 1 + i)) (3 : Int32).toNatClampNeg r78)) (fun (c81 : gm) => gb2 (m_X10_number N 55 1 9 c81) (fun (r83 : Int32) (c84 : gm) => gc (0 ≤ (4 : Int32).toInt ∧ (4 : Int32).toInt < ((gal (422 + 1 + i)) : Nat)) (gv (gm_r c84 (422 + 1 + i) (upd (c84.1 (422 + 1 + i)) (4 : Int32).toNatClampNeg r83)) (fun (c86 : gm) => rsC rs N i r4 c86))))))) else rsC rs N i r4 c23
def rsS (rs : rD) (N i : Nat) (r4 v97 : Int32) (c96 : gm) : Option gm := gb2 (m_X10_number N 55 1 v97 c96) (fun (r100 : Int32) (c101 : gm) => gc (0 ≤ (2 : Int32).toInt ∧ (2 : Int32).toInt < ((gal (422 + 1 + i)) : Nat)) (gv (gm_r c101 (422 + 1 + i) (upd (c101.1 (422 + 1 + i)) (2 : Int32).toNatClampNeg r100)) (fun (c103 : gm) => rsB rs N i r4 c103)))
def rsF (rs : rD) (N i : Nat) (r4 : Int32) (c22 : gm) : Option gm := gb2 (m_X10_number N 55 0 ((c22.1 59 (0 : Int32).toNatClampNeg) - 1) c22) (fun (r93 : Int32) (c94 : gm) => gc (0 ≤ (1 : Int32).toInt ∧ (1 : Int32).toInt < ((gal (422 + 1 + i)) : Nat)) (gv (gm_r c94 (422 + 1 + i) (upd (c94.1 (422 + 1 + i)) (1 : Int32).toNatClampNeg r93)) (fun (c96 : gm) => if r4 = 0 then rsS rs N i r4 9 c96 else rsS rs N i r4 30 c96)))
def rsA (rs : rD) (N i : Nat) (r4 : Int32) (c22 : gm) : Option gm := if r4 = 0 then rsF rs N i r4 c22 else (if r4 = 2 then rsF rs N i r4 c22 else rsB rs N i r4 c22)
def rsM (rs : rD) (N : Nat) (r4 : Int32) (c8 : gm) : Option gm := if (c8.1 55 5) = 0 then gb (m_X10_skipWord N 55 c8) (fun (c13 : gm) => gc (0 ≤ (c13.1 55 26).toInt ∧ (c13.1 55 26).toInt < 80) (gv (gm_r c13 55 (upd (c13.1 55) 26 ((c13.1 55 26) + 1))) (fun (c18 : gm) => gc (gck (422 + 1 + (c13.1 55 26).toNatClampNeg) = 22) (gc (0 ≤ (0 : Int32).toInt ∧ (0 : Int32).toInt < ((gal (422 + 1 + (c13.1 55 26).toNatClampNeg)) : Nat)) (gv (gm_r c18 (422 + 1 + (c13.1 55 26).toNatClampNeg) (upd (c18.1 (422 + 1 + (c13.1 55 26).toNatClampNeg)) (0 : Int32).toNatClampNeg r4)) (fun (c22 : gm) => rsA rs N (c13.1 55 26).toNatClampNeg r4 c22)))))) else some c8
def rsO (rs : rD) (N : Nat) (r4 : Int32) (c6 : gm) : Option gm := if r4 = 5 then gb2 (m_X10_opensOne 55 c6) (fun (r109 : Int32) (c110 : gm) => (if r109 = 0 then some c110 else rsM rs N r4 c110)) else rsM rs N r4 c6
theorem rs_e (rs : rD) (N : Nat) (c : gm) : m_X10_readsStep_b rs N 55 c = gc (gck 55 = 10) (gb2 (m_X10_stepHere N 55 c) (fun (r4 : Int32) (c5 : gm) => if r4 = (-1) then gb (m_X10_wrong 55 1 (c5.1 55 4) c5) (fun (c115 : gm) => rsO rs N r4 c115) else rsO rs N r4 c5)) := rfl
def wsel (N : Nat) (c5 : gm) (b : Nat → Option (Int32 × gm)) (bn : Option (Int32 × gm)) : Option (Int32 × gm) := gb (m_X7_wordIs N 1 11 c5) (fun (r11 : Int32) => (if r11 = 0 then gb (m_X7_wordIs N 1 12 c5) (fun (r14 : Int32) => (if r14 = 0 then gb (m_X7_wordIs N 1 13 c5) (fun (r17 : Int32) => (if r17 = 0 then gb (m_X7_wordIs N 1 14 c5) (fun (r20 : Int32) => (if r20 = 0 then gb (m_X7_wordIs N 1 4 c5) (fun (r23 : Int32) => (if r23 = 0 then gb (m_X7_wordIs N 1 15 c5) (fun (r26 : Int32) => (if r26 = 0 then bn else b 5)) else b 4)) else b 3)) else b 2)) else b 1)) else b 0))
/-- the word of a step -/
theorem kind_two {n s e N : Nat} {b : Nat → Nat} {c d : gm} (h : gNb n b d s) (hc : gTc n b c) (h3 : c.1 1 3 = nI e) (h4 : c.1 1 4 = nI s) (ee : e = pScan (pLt b) n s) (hN : 700 < N) : (∃ k, k < 6 ∧ s + 3 ≤ e ∧ (∀ B bn, wsel N c B bn = B k) ∧ m_X10_stepHere N 55 d = some (nI k, d)) ∨ ((∀ B bn, wsel N c B bn = bn) ∧ m_X10_stepHere N 55 d = some (-1, d)) := by
  subst ee
  have hs := h.2.2.1
  have he := pScan_le (p := pLt b) hs
  have W : ∀ w, w < 16 → (isW b s (pScan (pLt b) n s) w ∧ m_X7_wordIs N 1 w c = some 1) ∨ (¬ isW b s (pScan (pLt b) n s) w ∧ m_X7_wordIs N 1 w c = some 0) := fun w hw => wi_c hc h3 h4 he.1 he.2 hw hN
  have L : ∀ w, w < 16 → isW b s (pScan (pLt b) n s) w → s + 3 ≤ pScan (pLt b) n s := fun w hw q => by
    have := (gs_ok w hw).2.1
    have := q.1
    omega
  have T0 := isw_n (w := 11) h hN (gs_l (by omega)).1 (gs_l (by omega)).2 sx_weigh
  have T1 := isw_n (w := 12) h hN (gs_l (by omega)).1 (gs_l (by omega)).2 sx_tip
  have T2 := isw_n (w := 13) h hN (gs_l (by omega)).1 (gs_l (by omega)).2 sx_feed
  have T3 := isw_n (w := 14) h hN (gs_l (by omega)).1 (gs_l (by omega)).2 sx_turn
  have T4 := isw_n (w := 4) h hN (gs_l (by omega)).1 (gs_l (by omega)).2 sx_day
  have T5 := isw_n (w := 15) h hN (gs_l (by omega)).1 (gs_l (by omega)).2 sx_again
  have W0 := W 11 (by omega)
  have W1 := W 12 (by omega)
  have W2 := W 13 (by omega)
  have W3 := W 14 (by omega)
  have W4 := W 4 (by omega)
  have W5 := W 15 (by omega)
  unfold wsel m_X10_stepHere
  rw [gc_1 (show gck 55 = 10 from rfl)]
  rcases W0 with ⟨w0, u0⟩ | ⟨w0, u0⟩
  · rcases T0 with ⟨-, v0⟩ | ⟨x, -⟩
    · left; exact ⟨0, by omega, L _ (by omega) w0, fun B bn => by rw [gb_x u0, if_neg (by decide)], by rw [gb2_x v0, if_neg (by decide)]; rfl⟩
    · exact absurd w0 x
  rcases T0 with ⟨x, -⟩ | ⟨-, v0⟩
  · exact absurd x w0
  rw [gb2_x v0, if_pos rfl]
  rcases W1 with ⟨w1, u1⟩ | ⟨w1, u1⟩
  · rcases T1 with ⟨-, v1⟩ | ⟨x, -⟩
    · left; exact ⟨1, by omega, L _ (by omega) w1, fun B bn => by rw [gb_x u0, if_pos rfl, gb_x u1, if_neg (by decide)], by rw [gb2_x v1, if_neg (by decide)]; rfl⟩
    · exact absurd w1 x
  rcases T1 with ⟨x, -⟩ | ⟨-, v1⟩
  · exact absurd x w1
  rw [gb2_x v1, if_pos rfl]
  rcases W2 with ⟨w2, u2⟩ | ⟨w2, u2⟩
  · rcases T2 with ⟨-, v2⟩ | ⟨x, -⟩
    · left; exact ⟨2, by omega, L _ (by omega) w2, fun B bn => by rw [gb_x u0, if_pos rfl, gb_x u1, if_pos rfl, gb_x u2, if_neg (by decide)], by rw [gb2_x v2, if_neg (by decide)]; rfl⟩
    · exact absurd w2 x
  rcases T2 with ⟨x, -⟩ | ⟨-, v2⟩
  · exact absurd x w2
  rw [gb2_x v2, if_pos rfl]
  rcases W3 with ⟨w3, u3⟩ | ⟨w3, u3⟩
  · rcases T3 with ⟨-, v3⟩ | ⟨x, -⟩
    · left; exact ⟨3, by omega, L _ (by omega) w3, fun B bn => by rw [gb_x u0, if_pos rfl, gb_x u1, if_pos rfl, gb_x u2, if_pos rfl, gb_x u3, if_neg (by decide)], by rw [gb2_x v3, if_neg (by decide)]; rfl⟩
    · exact absurd w3 x
  rcases T3 with ⟨x, -⟩ | ⟨-, v3⟩
  · exact absurd x w3
  rw [gb2_x v3, if_pos rfl]
  rcases W4 with ⟨w4, u4⟩ | ⟨w4, u4⟩
  · rcases T4 with ⟨-, v4⟩ | ⟨x, -⟩
    · left; exact ⟨4, by omega, L _ (by omega) w4, fun B bn => by rw [gb_x u0, if_pos rfl, gb_x u1, if_pos rfl, gb_x u2, if_pos rfl, gb_x u3, if_pos rfl, gb_x u4, if_neg (by decide)], by rw [gb2_x v4, if_neg (by decide)]; rfl⟩
    · exact absurd w4 x
  rcases T4 with ⟨x, -⟩ | ⟨-, v4⟩
  · exact absurd x w4
  rw [gb2_x v4, if_pos rfl]
  rcases W5 with ⟨w5, u5⟩ | ⟨w5, u5⟩
  · rcases T5 with ⟨-, v5⟩ | ⟨x, -⟩
    · left; exact ⟨5, by omega, L _ (by omega) w5, fun B bn => by rw [gb_x u0, if_pos rfl, gb_x u1, if_pos rfl, gb_x u2, if_pos rfl, gb_x u3, if_pos rfl, gb_x u4, if_pos rfl, gb_x u5, if_neg (by decide)], by rw [gb2_x v5, if_neg (by decide)]; rfl⟩
    · exact absurd w5 x
  rcases T5 with ⟨x, -⟩ | ⟨-, v5⟩
  · exact absurd x w5
  rw [gb2_x v5, if_pos rfl]
  right
  exact ⟨fun B bn => by rw [gb_x u0, if_pos rfl, gb_x u1, if_pos rfl, gb_x u2, if_pos rfl, gb_x u3, if_pos rfl, gb_x u4, if_pos rfl, gb_x u5, if_pos rfl], rfl⟩
/-- a part is written -/
theorem pt_i {z k : Nat} (hz : z < 38) (hk : k < 5) : (5 * nI z) + nI k = nI (5 * z + k) := by rw [n_l5, n_mu, n_ad]
theorem put_c8 {z k : Nat} {x : Int32} {c : gm} (hz : z < 38) (hk : k < 5) : m_X8_put 15 (nI z) (nI k) x c = some (gm_r c 16 (upd (c.1 16) (5 * z + k) x)) := by
  unfold m_X8_put
  rw [if_neg (by rw [n_l0, n_lt (by omega) (by decide)]; omega), if_neg (by rw [n_l38, n_le (by decide) (by omega)]; omega), if_neg (by rw [n_l0, n_lt (by omega) (by decide)]; omega), if_neg (by rw [n_l5, n_le (by decide) (by omega)]; omega), gc_1 (show gck 15 = 8 from rfl), pt_i hz hk, gc_1 (n_rg (by omega) (by omega)), gv_e, n_cl (by omega)]
theorem part_c8 {z k : Nat} {c : gm} (hz : z < 38) (hk : k < 5) : m_X8_part 15 (nI z) (nI k) c = some (c.1 16 (5 * z + k)) := by
  unfold m_X8_part; simp only [gj_e]
  rw [if_neg (show ¬ nI z < 0 by rw [n_l0, n_lt (by omega) (by decide)]; omega), if_neg (show ¬ 38 ≤ nI z by rw [n_l38, n_le (by decide) (by omega)]; omega), if_neg (show ¬ nI k < 0 by rw [n_l0, n_lt (by omega) (by decide)]; omega), if_neg (show ¬ 5 ≤ nI k by rw [n_l5, n_le (by decide) (by omega)]; omega), if_neg (show ¬ (1 : Int32) = 0 by decide), gc_1 (show gck 15 = 8 from rfl), pt_i hz hk, gc_1 (n_rg (by omega) (by omega)), n_cl (by omega)]
theorem add_c8 {z : Nat} {x : Int32} {c : gm} (h1 : c.1 15 1 = nI z) (hz : z < 38) : m_X8_add 15 x c = some (1, gm_r (gm_r c 16 (upd (c.1 16) (5 * z) x)) 15 (upd (c.1 15) 1 (nI (z + 1)))) := by
  unfold m_X8_add
  rw [gc_1 (show gck 15 = 8 from rfl), h1, if_pos (by rw [n_l38, n_lt (by omega) (by decide)]; exact hz), show m_X8_put 15 (nI z) 0 x c = some (gm_r c 16 (upd (c.1 16) (5 * z + 0) x)) from put_c8 (k := 0) hz (by omega), gb_e, gv_e, gr_n _ _ (show 15 ≠ 16 by omega), h1, n_s]
  rfl
/-- the frames of a part -/
def fpC (c c2 : gm) : Prop := (∀ i, i ≠ 1 → i ≠ 16 → c2.1 i = c.1 i) ∧ c2.2 = c.2 ∧ ∀ k, k ≠ 3 → k ≠ 4 → k ≠ 5 → c2.1 1 k = c.1 1 k
def fpD (z : Nat) (d d2 : gm) : Prop := (∀ i, i ≠ 55 → i ≠ 423 + z → d2.1 i = d.1 i) ∧ d2.2 = d.2 ∧ ∀ k, k ≠ 4 → d2.1 55 k = d.1 55 k
theorem gk_st : ∀ k, k < 80 → gck (422 + 1 + k) = 22 ∧ gal (422 + 1 + k) = 6 := by decide +kernel
theorem part_two {n a lo H N z k : Nat} {b : Nat → Nat} {hi : Int32} {c d : gm} (h : gIn n b c d a) (hN : 700 < N) (hlo : lo ≤ 1) (hH : H ≤ 1000) (hhi : hi = nI H - 1) (hz : z < 38) (hk : k < 5) : (∃ c2 d1 d2 a2 v, a < a2 ∧ lo ≤ v ∧ v < H ∧ m_X8_readPart N 15 1 (nI lo) hi (nI z) (nI k) c = some (1, c2) ∧ m_X10_number N 55 (nI lo) hi d = some (nI v, d1) ∧ d2 = gm_r d1 (422 + 1 + z) (upd (d1.1 (422 + 1 + z)) k (nI v)) ∧ gIn n b c2 d2 a2 ∧ c2.1 16 = upd (c.1 16) (5 * z + k) (nI v) ∧ d2.1 (423 + z) = upd (d.1 (423 + z)) k (nI v) ∧ fpC c c2 ∧ fpD z d d2) ∨ (∃ c2 d1, m_X8_readPart N 15 1 (nI lo) hi (nI z) (nI k) c = some (0, c2) ∧ m_X10_number N 55 (nI lo) hi d = some (0, d1) ∧ gNo n c d c2 d1) := by
  rcases num_two h hN hlo hH hhi with ⟨c1, d1, a2, v, s, s1, s2, v0, vH, n1, n2, hO, g5, g4, es, hsn⟩ | ⟨c1, d1, n1, n2, hO⟩
  · left
    have I1 := gIn_o h hO
    obtain ⟨c2, ec2⟩ : ∃ q, q = gm_r c1 16 (upd (c1.1 16) (5 * z + k) (nI v)) := ⟨_, rfl⟩
    refine ⟨c2, d1, _, a2, v, by omega, v0, vH, ?_, n2, rfl, gIn_u (gIn_c I1 (by rw [ec2, gr_n _ _ (by omega)]) (by rw [ec2, gr_n _ _ (by omega)])) _ (by omega), ?_, ?_, ⟨fun i i1 i2 => by rw [ec2, gr_n _ _ i2, hO.1.1 i i1], by rw [ec2]; exact hO.1.2.1, fun k k3 k4 k5 => by rw [ec2, gr_n _ _ (by omega), hO.1.2.2 k k3 k4 k5]⟩, ⟨fun i i1 i2 => by rw [gr_n _ _ (by omega), hO.2.1.1 i i1], hO.2.1.2.1, fun k k4 => by rw [gr_n _ _ (by omega), hO.2.1.2.2 k k4]⟩⟩
    · unfold m_X8_readPart
      rw [gc_1 (show gck 1 = 7 from rfl), gb2_x n1, if_neg (by decide), gc_1 (show gck 15 = 8 from rfl), g5, gb_x (put_c8 hz hk), ← ec2]
    · rw [ec2, gr_s, hO.1.1 16 (by omega)]
    · rw [show 423 + z = 422 + 1 + z by omega, gr_s, hO.2.1.1 _ (by omega)]
  · right
    refine ⟨c1, d1, ?_, n2, hO⟩
    unfold m_X8_readPart
    rw [gc_1 (show gck 1 = 7 from rfl), gb2_x n1, if_pos rfl]
