set_option maxRecDepth 16384
/-! days ahead, fairs -/
def SC (c : gm) (i : Nat) : Prop := i = 7 ∨ (9 ≤ i ∧ i ≤ 16) ∨ (21 ≤ i ∧ i ≤ 32 ∧ i ≠ 24) ∨ i = c.2.2 0 + 3 ∨ i = c.2.2 0 + 4 ∨ i = c.2.2 2 + 4 ∨ i = c.2.2 2 + 5
def SD (i : Nat) : Prop := i = 55 ∨ i = 420 ∨ i = 421 ∨ i = 504 ∨ i = 505 ∨ 527 ≤ i
theorem gRl_sc {th m p : Nat} {c d c2 d2 : gm} (h : gRl th m p c d) (k1 : c2.2.2 = c.2.2) (fc : ∀ i, ¬ SC c i → c2.1 i = c.1 i) (fd : ∀ i, ¬ SD i → d2.1 i = d.1 i) (f5 : ∀ k, k = 1 ∨ k = 3 ∨ k = 17 ∨ (32 ≤ k ∧ k ≤ 35) → d2.1 55 k = d.1 55 k) : gRl th m p c2 d2 := by
  have hq := gPt_q h.1
  unfold SC at fc
  unfold SD at fd
  refine gRl_sm h ⟨k1, fun i hi => fc i (by omega), by rw [fc 1 (by omega)], by rw [fc _ (by omega)], fun k hk => f5 k (by omega), fun i hi => fd i (by omega)⟩ ?_
  have g := h.2.2.2.2.2.1
  unfold gCn at g ⊢
  rw [fc 0 (by omega), fc 1 (by omega), fd 57 (by omega), f5 3 (by omega), f5 34 (by omega)]
  exact g
theorem copy_c {t a1 : Nat} (ht : (t = 9 ∧ a1 = 3) ∨ (t = 27 ∧ a1 = 3) ∨ (t = 3 ∧ a1 = 9)) (c : gm) : ∃ c2, m_X6_copyFrom t a1 c = some c2 ∧ fr (fun i => i = t ∨ i = t + 1 ∨ i = t + 2 ∨ i = t + 3 ∨ i = t + 5) c c2 ∧ (∀ a, a < 8 → c2.1 (t + 1) a = c.1 (a1 + 1) a) ∧ (∀ a, a < 8 → c2.1 (t + 2) a = c.1 (a1 + 2) a) ∧ (∀ a, a < 8 → c2.1 (t + 3) a = c.1 (a1 + 3) a) ∧ (∀ k, k < 40 → c2.1 (t + 5) k = c.1 (a1 + 5) k) ∧ (∀ s, 5 ≤ s → s ≤ 10 → c2.1 t s = c.1 a1 s) := by
  have ka : gck a1 = 6 ∧ gck t = 6 := by rcases ht with ⟨rfl, rfl⟩ | ⟨rfl, rfl⟩ | ⟨rfl, rfl⟩ <;> decide
  have ne : t + 5 < a1 ∨ a1 + 5 < t := by omega
  have c8 : (8 : Int32).toNatClampNeg = 8 := rfl
  have c40 : (40 : Int32).toNatClampNeg = 40 := rfl
  unfold m_X6_copyFrom
  rw [gc_1 ka.1, gc_1 ka.2, gc_1 (by decide), gv_e, gc_1 (by decide), gv_e, gc_1 (by decide), gv_e, gc_1 (by decide), gv_e, gv_e, gv_e, gv_e, gv_e, gv_e, gv_e, n_cl0, c8, c40]
  refine ⟨_, rfl, ⟨fun i hi => ?_, rfl⟩, fun a ha => ?_, fun a ha => ?_, fun a ha => ?_, fun a ha => ?_, fun s h1 h2 => ?_⟩
  · simp (disch := omega) only [gr_n]
  · simp (disch := omega) only [gr_n, gr_s, pk_cpy_in, Nat.sub_zero, Nat.zero_add]
  · simp (disch := omega) only [gr_n, gr_s, pk_cpy_in, Nat.sub_zero, Nat.zero_add]
  · simp (disch := omega) only [gr_n, gr_s, pk_cpy_in, Nat.sub_zero, Nat.zero_add]
  · simp (disch := omega) only [gr_n, gr_s, pk_cpy_in, Nat.sub_zero, Nat.zero_add]
  · simp (disch := omega) only [gr_n, gr_s]
    rcases (by omega : s = 5 ∨ s = 6 ∨ s = 7 ∨ s = 8 ∨ s = 9 ∨ s = 10) with rfl | rfl | rfl | rfl | rfl | rfl <;> simp (disch := omega) only [up_n, up_s]
theorem copy_s {t a1 th m : Nat} {pl : Int32} {r : Nat → Int32} {c c2 : gm} (hS : gSt a1 c th m pl r) (hm : m ≤ 10) (kt : gck t = 6) (h2 : ∀ a, a < 8 → c2.1 (t + 2) a = c.1 (a1 + 2) a) (h3 : ∀ a, a < 8 → c2.1 (t + 3) a = c.1 (a1 + 3) a) (h5 : ∀ k, k < 40 → c2.1 (t + 5) k = c.1 (a1 + 5) k) (h0 : ∀ s, 5 ≤ s → s ≤ 10 → c2.1 t s = c.1 a1 s) : gSt t c2 th m pl r := by
  obtain ⟨k0, t8, s5, s6, s7, s9, s10, s11, sw, sf, sc⟩ := hS
  exact ⟨kt, t8, by rw [h0 _ (by omega) (by omega)]; exact s5, by rw [h0 _ (by omega) (by omega)]; exact s6, by rw [h0 _ (by omega) (by omega)]; exact s7, by rw [h0 _ (by omega) (by omega)]; exact s9, by rw [h0 _ (by omega) (by omega)]; exact s10, by rw [h0 _ (by omega) (by omega)]; exact s11, fun a ha => by rw [h2 a (by omega)]; exact sw a ha, fun a ha => by rw [h3 a (by omega)]; exact sf a ha, fun k hk => by rw [h5 k (by omega)]; exact sc k hk⟩
/-- a copy of the market on both sides: t the class's, 504 the reference's -/
theorem copy_two {t th m p n : Nat} {c d : gm} (ht : t = 9 ∨ t = 27) (h : gRl th m p c d) (hn : 160 < n) : ∃ c1 d1, m_X6_copyFrom t 3 c = some c1 ∧ m_X10_copies n 503 504 d = some d1 ∧ fr (fun i => i = t ∨ i = t + 1 ∨ i = t + 2 ∨ i = t + 3 ∨ i = t + 5) c c1 ∧ fr (fun i => i = 504) d d1 ∧ gR2 t 504 (c.2.2 0) th m (nI p) c1 d1 := by
  obtain ⟨hP, hp, ⟨hS, hRw, hM, hL⟩, -⟩ := h
  have hq := gPt_q hP
  obtain ⟨c1, e1, f1, g1, g2, g3, g5, g0⟩ := copy_c (t := t) (a1 := 3) (by omega) c
  have e2 := copies_d (a := 503) (b := 504) (n := n) (d := d) rfl rfl rfl rfl (by omega) hn
  obtain ⟨d1, ed1⟩ : ∃ z, z = gm_r d 504 (fun j => if j < 60 then d.1 503 j else d.1 504 j) := ⟨_, rfl⟩
  rw [← ed1] at e2
  have fd : fr (fun i => i = 504) d d1 := by rw [ed1]; exact fr_u _ rfl
  have g504 : ∀ j, j < 60 → d1.1 504 j = d.1 503 j := fun j hj => by rw [ed1, gr_s, if_pos hj]
  refine ⟨c1, d1, e1, e2, f1, fd, gSt_x (copy_s hS hRw.1 (by rcases ht with rfl | rfl <;> rfl) g2 g3 g5 g0) hRw.1 g504, gRow_x hRw hS.2.1 g504, by unfold gMd; rw [fd.1 59 (by omega)]; exact hM, ?_⟩
  exact gLw_fr hL (f1.1 _ (by omega)) (f1.1 _ (by omega)) (f1.1 _ (by omega)) (by rw [fd.1 55 (by omega)]) (fun k hk => fd.1 _ (by omega))
theorem days_two {th m z n : Nat} {pl : Int32} {rl : Nat} {c d : gm} (hi : gIx 9 504 rl) (hr : c.2.2 0 = rl) (h : gR2 9 504 rl th m pl c d) (hz : z ≤ 99) (hn : 160 < n) : ∃ c2 d2, gloop (gu2 (fun (y16 : Int32) (c17 : gm) => m_X9_ahead_L41 n (nI z) y16 c17)) n (0, c) = some c2 ∧ gloop (gu2 (fun (y22 : Int32) (c23 : gm) => m_X10_ahead_L53 n 55 (nI z) y22 c23)) n (0, d) = some d2 ∧ (fr (CF 9 rl) c c2 ∧ fr (DF 504) d d2 ∧ gR2 9 504 rl th m pl c2 d2) := by
  refine gloop_two (fun r (a : Int32 × gm) (x : Int32 × gm) => ∃ k c2 d2, k ≤ z ∧ r + k = z ∧ a = (nI k, c2) ∧ x = (nI k, d2) ∧ fr (CF 9 rl) c c2 ∧ fr (DF 504) d d2 ∧ gR2 9 504 rl th m pl c2 d2) (fun (c2 : gm) (d2 : gm) => fr (CF 9 rl) c c2 ∧ fr (DF 504) d d2 ∧ gR2 9 504 rl th m pl c2 d2) ?_ ⟨0, c, d, by omega, (by omega : z + 0 = z), rfl, rfl, fr_r _ _, fr_r _ _, h⟩ (by omega)
  rintro r a x ⟨k, c2, d2, hk, hr2, rfl, rfl, fc, fd, hR⟩
  by_cases hk2 : k = z
  · right
    subst hk2
    refine ⟨c2, d2, ?_, ?_, fc, fd, hR⟩
    · show m_X9_ahead_L41 n (nI k) (nI k) c2 = _
      unfold m_X9_ahead_L41
      rw [if_pos (by rw [n_le (by omega) (by omega)]; omega)]
    · show m_X10_ahead_L53 n 55 (nI k) (nI k) d2 = _
      unfold m_X10_ahead_L53
      rw [if_pos (by rw [n_le (by omega) (by omega)]; omega)]
  · left
    obtain ⟨c3, d3, e1, e2, f1, f2, hR3⟩ := day_two hi hR hn
    refine ⟨(nI (k + 1), c3), (nI (k + 1), d3), r - 1, ?_, ?_, by omega, k + 1, c3, d3, by omega, by omega, rfl, rfl, fr_t fc f1, fr_t fd f2, hR3⟩
    · show m_X9_ahead_L41 n (nI z) (nI k) c2 = _
      unfold m_X9_ahead_L41
      rw [if_neg (by rw [n_le (by omega) (by omega)]; omega), show c2.2.2 0 = rl by rw [fc.2, hr], gb2_x e1, gv_e, n_s]
    · show m_X10_ahead_L53 n 55 (nI z) (nI k) d2 = _
      unfold m_X10_ahead_L53
      rw [if_neg (by rw [n_le (by omega) (by omega)]; omega), gb_x e2, gv_e, n_s]
theorem ahead_two {th m p n : Nat} {c d : gm} (h : gRl th m p c d) (hn : 160 < n) (a b : Int32) : gAns 1 0 (m_X9_ahead n 0 a b c) (m_X10_ahead n 55 a b d) := by
  have hZ := gRl_dZ h
  have z0 := dZ_0 d
  obtain ⟨hP, hp, ⟨hS, hRw, hM, hL⟩, hTo, hTp, hCn, hBk, hPs, hIm⟩ := id hZ
  obtain ⟨hk, h8, h5, h6, h7, h9, h10, h11, hw, hf, hcp⟩ := id hS
  obtain ⟨m0, m3, -⟩ := id hM
  have hm : m ≤ 10 := hRw.1
  have h56 := hRw.2.1
  have hq := gPt_q hP
  by_cases q1 : 0 ≤ a ∧ a ≤ 99
  · by_cases q2 : 0 ≤ b ∧ b ≤ 2
    · obtain ⟨z, hz, rfl⟩ := i_ex (y := 99) (by decide) q1
      obtain ⟨k, hk2, rfl⟩ := i_ex (y := 2) (by decide) q2
      obtain ⟨c1, d1, e1, e2, f1, f2, hR1⟩ := copy_two (t := 9) (Or.inl rfl) hZ hn
      have hr1 : c1.2.2 0 = c.2.2 0 := by rw [f1.2]
      obtain ⟨c2, d2, e3, e4, f3, f4, hR2⟩ := days_two (rl := c.2.2 0) ⟨Or.inr (Or.inl rfl), Or.inr rfl, by omega⟩ hr1 hR1 hz hn
      unfold CF at f3
      unfold DF at f4
      have hF : gRl th m p c2 d2 := by
        refine gRl_sc hZ (by rw [f3.2, f1.2]) (fun i hi => ?_) (fun i hi => ?_) (fun j hj => ?_)
        · unfold SC at hi
          rw [f3.1 i (by omega), f1.1 i (by omega)]
        · unfold SD at hi
          rw [f4.1 i (by omega), f2.1 i (by omega)]
        · rw [f4.1 55 (by omega), f2.1 55 (by omega)]
      have hF0 : d2.1 55 0 = 0 := by rw [f4.1 55 (by omega), f2.1 55 (by omega)]; exact z0
      obtain ⟨hS2, hRw2, hM2, hL2⟩ := hR2
      have ec : m_X9_ahead n 0 (nI z) (nI k) c = gok (if nI k = 0 then gb (m_X6_weightOfAll n 9 c2) (fun (r21 : Int32) => some (r21, c2)) else (if nI k = 1 then gb (m_X6_heaviestThing n 9 c2) (fun (r24 : Int32) => some (r24, c2)) else gb (m_X6_criesNotSo n 9 c2) (fun (r28 : Int32) => some (r28, c2)))) := by
        unfold m_X9_ahead; simp only [gj_e]
        rw [if_neg (i_nlt q1.1), if_neg (i_nlt q1.2), if_neg (i_nlt q2.1), if_neg (i_nlt q2.2), gc_1 (show gck 0 = 9 from rfl), gbx_x1 (dm_1 c), gb_x e1, gb_x e3]
      have ed : m_X10_ahead n 55 (nI z) (nI k) d = (if nI k = 0 then gb (m_X10_weightIn n 55 504 d2) (fun (r32 : Int32) => some (r32, d2)) else (if nI k = 1 then gb (m_X10_heaviestIn n 55 504 d2) (fun (r30 : Int32) => some (r30, d2)) else gb (m_X10_notSo n 504 d2) (fun (r28 : Int32) => some (r28, d2)))) := by
        unfold m_X10_ahead; simp only [gj_e]
        rw [gc_1 (show gck 55 = 10 from rfl), gv_e, show gm_r d 55 (upd (d.1 55) 0 0) = dZ d from rfl, gb_x (in_1 q1), if_neg (by decide), gb_x (in_1 q2), if_neg (by decide), gb2_x (bd_0 z0), if_pos rfl, gb_x e2, gb_x e4]
      rcases (by omega : k = 0 ∨ k = 1 ∨ k = 2) with rfl | rfl | rfl
      · exact ans_o (r := pW th (d2.1 504)) hF hF0 (by rw [ec, if_pos (show nI 0 = 0 from rfl), gb_x (cs_all hS2 (by omega)), gok_e]) (by rw [ed, if_pos (show nI 0 = 0 from rfl), gb_x (md_all hM2 rfl rfl (by omega))])
      · exact ans_o (r := pHv th (d2.1 504)) hF hF0 (by rw [ec, if_neg (show ¬ nI 1 = 0 by decide), if_pos (show nI 1 = 1 from rfl), gb_x (cs_heavy hS2 (by omega)), gok_e]) (by rw [ed, if_neg (show ¬ nI 1 = 0 by decide), if_pos (show nI 1 = 1 from rfl), gb_x (md_heavy hM2 rfl rfl (by omega))])
      · exact ans_o (r := pNs m (d2.1 504)) hF hF0 (by rw [ec, if_neg (show ¬ nI 2 = 0 by decide), if_neg (show ¬ nI 2 = 1 by decide), gb_x (cs_notSo hS2 hRw2 (by omega)), gok_e]) (by rw [ed, if_neg (show ¬ nI 2 = 0 by decide), if_neg (show ¬ nI 2 = 1 by decide), gb_x (md_notSo rfl hRw2 h8 rfl rfl (by omega))])
    · refine ans_i (v := 0) (d := d) hZ (by decide) ?_ ?_
      · unfold m_X9_ahead; simp only [gj_e]
        rw [if_neg (i_nlt q1.1), if_neg (i_nlt q1.2)]
        rcases i_or q2 with u | ⟨u, v⟩
        · rw [if_pos u, gc_1 (show gck 0 = 9 from rfl), gbx_x2 (dm_0 c)]
        · rw [if_neg u, if_pos v, gc_1 (show gck 0 = 9 from rfl), gbx_x2 (dm_0 c)]
      · unfold m_X10_ahead; simp only [gj_e]
        rw [gc_1 (show gck 55 = 10 from rfl), gv_e, show gm_r d 55 (upd (d.1 55) 0 0) = dZ d from rfl, gb_x (in_1 q1), if_neg (by decide), gb_x (in_0 q2), if_pos rfl, gb2_x (bd_i z0 (by decide)), if_neg (by decide)]
  · refine ans_i (v := 0) (d := d) hZ (by decide) ?_ ?_
    · unfold m_X9_ahead; simp only [gj_e]
      skip
      rcases i_or q1 with u | ⟨u, v⟩
      · rw [if_pos u, gc_1 (show gck 0 = 9 from rfl), gbx_x2 (dm_0 c)]
      · rw [if_neg u, if_pos v, gc_1 (show gck 0 = 9 from rfl), gbx_x2 (dm_0 c)]
    · unfold m_X10_ahead; simp only [gj_e]
      rw [gc_1 (show gck 55 = 10 from rfl), gv_e, show gm_r d 55 (upd (d.1 55) 0 0) = dZ d from rfl, gb_x (in_0 q1), if_pos rfl, gb2_x (bd_i z0 (by decide)), if_neg (by decide)]
theorem i_tn (x : Int32) : x.toInt = (x.toBitVec.toNat : Int) ∨ x.toInt = (x.toBitVec.toNat : Int) - 4294967296 := by
  have h : x.toInt = x.toBitVec.toInt := rfl
  rw [h, BitVec.toInt_eq_toNat_cond]
  split
  · exact Or.inl rfl
  · exact Or.inr rfl
theorem dr_bits (x : Int32) : ∃ v, v < 32768 ∧ ((x.toUInt32 >>> (Int32.toUInt32 16 &&& Int32.toUInt32 31)).toInt32 &&& 32767) = nI v ∧ ((x >>> ((16 : Int32) &&& 31)) &&& 32767) = nI v := by
  refine ⟨x.toBitVec.toNat / 65536 % 32768, Nat.mod_lt _ (by decide), ?_, ?_⟩
  · rw [pk_and _ 15 (by decide), pk_ushr x 16 16 (by decide)]
  · rw [pk_and _ 15 (by decide)]
    have h := pk_shr x ((16 : Int32) &&& 31) 16 (by decide)
    rw [Int.shiftRight_eq_div_pow] at h
    have h1 := i_tn x
    have h2 := i_tn (x >>> ((16 : Int32) &&& 31))
    have h3 : x.toBitVec.toNat < 4294967296 := x.toBitVec.isLt
    have h4 : (x >>> ((16 : Int32) &&& 31)).toBitVec.toNat < 4294967296 := (x >>> ((16 : Int32) &&& 31)).toBitVec.isLt
    rw [show (((2 ^ 16 : Nat) : Int)) = 65536 from rfl] at h
    congr 1
    simp only [Nat.reducePow]
    omega
theorem draw_two {c d : gm} {many : Nat} (hs : c.1 26 1 = d.1 55 45) (h1 : 1 ≤ many) (h16 : many ≤ 16) : ∃ v s2, v < many ∧ m_X2_draw 26 (nI many) c = some (nI v, gm_r c 26 (upd (c.1 26) 1 s2)) ∧ m_X10_draw 55 (nI many) d = some (nI v, gm_r d 55 (upd (d.1 55) 45 s2)) := by
  obtain ⟨v, hv, e1, e2⟩ := dr_bits (d.1 55 45 * 1103515245 + 12345)
  have hr : nI v - nI v / nI many * nI many = nI (v % many) := pk_rem (by omega) (by omega) (by omega)
  refine ⟨v % many, d.1 55 45 * 1103515245 + 12345, Nat.mod_lt _ (by omega), ?_, ?_⟩
  · unfold m_X2_draw
    rw [gc_1 (show gck 26 = 2 from rfl), hs, gv_e, if_neg (by rw [n_l0, n_le (by omega) (by decide)]; omega), gc_1 (by rw [n_l0, n_eq (by omega) (by decide)]; omega), gr_s, up_s, e1, hr]
  · unfold m_X10_draw
    rw [gc_1 (show gck 55 = 10 from rfl), gv_e, gc_1 (by rw [n_l0, n_eq (by omega) (by decide)]; omega), gr_s, up_s, e2, hr]
/-- what a fair changes -/
def frF (rl : Nat) (c c2 d d2 : gm) : Prop := fr (fun i => i = 26 ∨ CF 27 rl i) c c2 ∧ (∀ i, i ≠ 55 → ¬ DF 504 i → d2.1 i = d.1 i) ∧ (∀ z, z ≠ 45 → d2.1 55 z = d.1 55 z) ∧ d2.2 = d.2
theorem frF_r (rl : Nat) (c d : gm) : frF rl c c d d := ⟨fr_r _ _, fun _ _ _ => rfl, fun _ _ => rfl, rfl⟩
theorem frF_t {rl : Nat} {c c2 c3 d d2 d3 : gm} (h : frF rl c c2 d d2) (g : frF rl c2 c3 d2 d3) : frF rl c c3 d d3 := ⟨fr_t h.1 g.1, fun i h1 h2 => (g.2.1 i h1 h2).trans (h.2.1 i h1 h2), fun z hz => (g.2.2.1 z hz).trans (h.2.2.1 z hz), g.2.2.2.trans h.2.2.2⟩
theorem frF_s {rl : Nat} {c c2 d d2 : gm} (h : fr (CF 27 rl) c c2) (g : fr (DF 504) d d2) : frF rl c c2 d d2 := ⟨fr_m h (fun i q => Or.inr q), fun i _ h2 => g.1 i h2, fun z _ => by rw [g.1 55 (by unfold DF; omega)], g.2⟩
theorem frF_d (rl : Nat) (c d : gm) (s : Int32) : frF rl c (gm_r c 26 (upd (c.1 26) 1 s)) d (gm_r d 55 (upd (d.1 55) 45 s)) := ⟨fr_u _ (Or.inl rfl), fun i h1 _ => gr_n _ _ h1, fun z hz => by rw [gr_s, up_n _ _ hz], rfl⟩
theorem gR2_d {rl th m : Nat} {pl : Int32} {c d : gm} (hi : gIx 27 504 rl) (h : gR2 27 504 rl th m pl c d) (f : Nat → Int32) (s : Int32) : gR2 27 504 rl th m pl (gm_r c 26 f) (gm_r d 55 (upd (d.1 55) 45 s)) := by
  obtain ⟨hS, hR, hM, hL⟩ := h
  obtain ⟨-, -, i3⟩ := hi
  refine ⟨?_, ?_, ?_, ?_⟩
  · rw [gr_n _ _ (show 504 ≠ 55 by omega)]
    exact gSt_fr hS (gr_n _ _ (by omega)) (gr_n _ _ (by omega)) (gr_n _ _ (by omega)) (gr_n _ _ (by omega))
  · rw [gr_n _ _ (show 504 ≠ 55 by omega)]; exact hR
  · unfold gMd; rw [gr_n _ _ (show 59 ≠ 55 by omega)]; exact hM
  · exact gLw_fr hL (gr_n _ _ (by omega)) (gr_n _ _ (by omega)) (gr_n _ _ (by omega)) (by rw [gr_s, up_n _ _ (by omega)]) (fun k hk => gr_n _ _ (by omega))
theorem seed_s {rl : Nat} {c c2 d d2 : gm} (h : fr (CF 27 rl) c c2) (g : fr (DF 504) d d2) (i3 : rl = 33 ∨ rl = 38) (hs : c.1 26 1 = d.1 55 45) : c2.1 26 1 = d2.1 55 45 := by
  rw [h.1 26 (by unfold CF; omega), g.1 55 (by unfold DF; omega)]
  exact hs
theorem seed_d (c d : gm) (s : Int32) : (gm_r c 26 (upd (c.1 26) 1 s)).1 26 1 = (gm_r d 55 (upd (d.1 55) 45 s)).1 55 45 := by rw [gr_s, gr_s, up_s, up_s]
theorem fair_step {rl th m k z n : Nat} {pl q : Int32} {c d : gm} (hi : gIx 27 504 rl) (h : gR2 27 504 rl th m pl c d) (hs : c.1 26 1 = d.1 55 45) (hk : k < z) (hz : z ≤ 96) (hn : 160 < n) : ∃ c2 d2 m2, m_X2_hold_L16 n 26 rl (nI z) q (nI k) c = some (.inl (nI (k + 1), c2)) ∧ m_X10_fairBy_L19 n 55 (nI z) q (nI k) d = some (.inl (nI (k + 1), d2)) ∧ gR2 27 504 rl th m2 pl c2 d2 ∧ c2.1 26 1 = d2.1 55 45 ∧ frF rl c c2 d d2 := by
  have i3 := hi.2.2
  have g5 : c.1 27 5 = nI th := h.1.2.2.1
  have h8 : th ≤ 8 := h.1.2.1
  have m0 : d.1 59 0 = nI th := h.2.2.1.1
  have p1 : ¬ nI z ≤ nI k := by rw [n_le (by omega) (by omega)]; omega
  rcases Nat.eq_zero_or_pos th with rfl | hp
  · obtain ⟨c3, d3, e1, e2, f1, f2, hR3⟩ := day_two hi h hn
    refine ⟨c3, d3, m, ?_, ?_, hR3, seed_s f1 f2 i3 hs, frF_s f1 f2⟩
    · unfold m_X2_hold_L16; simp only [gj_e]
      rw [if_neg p1, show (26 : Nat) + 1 = 27 from rfl, g5, if_pos (by decide), gb2_x e1, gv_e, n_s]
    · unfold m_X10_fairBy_L19; simp only [gj_e]
      rw [if_neg p1, n_cl0, m0, if_pos (by decide), gb_x e2, gv_e, n_s]
  · have p0 : ¬ nI th ≤ 0 := by rw [n_l0, n_le (by omega) (by decide)]; omega
    obtain ⟨v1, s1, hv1, a1, b1⟩ := draw_two hs hp (by omega)
    have r1 := gR2_d hi h (upd (c.1 26) 1 s1) s1
    have t1 := seed_d c d s1
    have fr1 := frF_d rl c d s1
    generalize gm_r c 26 (upd (c.1 26) 1 s1) = c1 at *
    generalize gm_r d 55 (upd (d.1 55) 45 s1) = d1 at *
    obtain ⟨v2, s2, hv2, a2, b2⟩ := draw_two t1 hp (by omega)
    have g51 : c1.1 27 5 = nI th := r1.1.2.2.1
    have m01 : d1.1 59 0 = nI th := r1.2.2.1.1
    have r2 := gR2_d hi r1 (upd (c1.1 26) 1 s2) s2
    have t2 := seed_d c1 d1 s2
    have fr2 := frF_t fr1 (frF_d rl c1 d1 s2)
    generalize gm_r c1 26 (upd (c1.1 26) 1 s2) = c2 at *
    generalize gm_r d1 55 (upd (d1.1 55) 45 s2) = d2 at *
    obtain ⟨v3, s3, hv3, a3, b3⟩ := draw_two (many := 3) t2 (by omega) (by omega)
    have r3 := gR2_d hi r2 (upd (c2.1 26) 1 s3) s3
    have t3 := seed_d c2 d2 s3
    have fr3 := frF_t fr2 (frF_d rl c2 d2 s3)
    generalize gm_r c2 26 (upd (c2.1 26) 1 s3) = c3 at *
    generalize gm_r d2 55 (upd (d2.1 55) 45 s3) = d3 at *
    obtain ⟨w, c4, d4, m4, hw, a4, b4, f4, g4, r4⟩ := weigh_two hi r3 (a := v1) (b := v2) (x := v3 + 1) (y := 1) hv1 hv2 (by omega) (by omega) (by omega) (by omega) hn
    have t4 := seed_s f4 g4 i3 t3
    have fr4 := frF_t fr3 (frF_s f4 g4)
    obtain ⟨v5, s5, hv5, a5, b5⟩ := draw_two (many := 16) t4 (by omega) (by omega)
    have r5 := gR2_d hi r4 (upd (c4.1 26) 1 s5) s5
    have t5 := seed_d c4 d4 s5
    have fr5 := frF_t fr4 (frF_d rl c4 d4 s5)
    generalize gm_r c4 26 (upd (c4.1 26) 1 s5) = c5 at *
    generalize gm_r d4 55 (upd (d4.1 55) 45 s5) = d5 at *
    have x1 : (1 : Int32) + nI v3 = nI (v3 + 1) := by rw [n_l1, n_ad, Nat.add_comm]
    by_cases qq : q ≤ nI v5
    · obtain ⟨c6, d6, e1, e2, f1, f2, hR6⟩ := day_two hi r5 hn
      refine ⟨c6, d6, m4, ?_, ?_, hR6, seed_s f1 f2 i3 t5, frF_t fr5 (frF_s f1 f2)⟩
      · have ed : m_X2_dealOnce n 26 q c = some c5 := by
          unfold m_X2_dealOnce
          rw [gc_1 (show gck 26 = 2 from rfl), show (26 : Nat) + 1 = 27 from rfl, g5, gb2_x a1, g51, gb2_x a2, n_l3, gb2_x a3, gv_e, n_s, n_l1, gb2_x a4, n_l16, gb2_x a5, if_pos qq]
        unfold m_X2_hold_L16; simp only [gj_e]
        rw [if_neg p1, show (26 : Nat) + 1 = 27 from rfl, g5, if_neg p0, gb_x ed, gb2_x e1, gv_e, n_s]
      · unfold m_X10_fairBy_L19; simp only [gj_e]
        rw [if_neg p1, n_cl0, m0, if_neg p0, gb2_x b1, m01, gb2_x b2, n_l3, gb2_x b3, x1, n_l1, gb2_x b4, n_l16, gb2_x b5, if_pos qq, gb_x e2, gv_e, n_ad]
    · obtain ⟨w6, c6, d6, m6, hw6, a6, b6, f6, g6, r6⟩ := tip_two hi r5 (j := 0) (by omega) hn
      have t6 := seed_s f6 g6 i3 t5
      have fr6 := frF_t fr5 (frF_s f6 g6)
      obtain ⟨c7, d7, e1, e2, f1, f2, hR7⟩ := day_two hi r6 hn
      refine ⟨c7, d7, m6, ?_, ?_, hR7, seed_s f1 f2 i3 t6, frF_t fr6 (frF_s f1 f2)⟩
      · have ed : m_X2_dealOnce n 26 q c = some c6 := by
          unfold m_X2_dealOnce
          rw [gc_1 (show gck 26 = 2 from rfl), show (26 : Nat) + 1 = 27 from rfl, g5, gb2_x a1, g51, gb2_x a2, n_l3, gb2_x a3, gv_e, n_s, n_l1, gb2_x a4, n_l16, gb2_x a5, if_neg qq, n_l0, gb2_x a6]
        unfold m_X2_hold_L16; simp only [gj_e]
        rw [if_neg p1, show (26 : Nat) + 1 = 27 from rfl, g5, if_neg p0, gb_x ed, gb2_x e1, gv_e, n_s]
      · unfold m_X10_fairBy_L19; simp only [gj_e]
        rw [if_neg p1, n_cl0, m0, if_neg p0, gb2_x b1, m01, gb2_x b2, n_l3, gb2_x b3, x1, n_l1, gb2_x b4, n_l16, gb2_x b5, if_neg qq, n_l0, gb2_x b6, gb_x e2, gv_e, n_ad]
