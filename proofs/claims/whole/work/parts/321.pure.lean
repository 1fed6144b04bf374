set_option maxRecDepth 16384
theorem hold_two {th m p z n : Nat} {c d : gm} (h : gRl th m p c d) (seed q : Int32) (hz : z ≤ 96) (hn : 160 < n) : ∃ c2 d2 m2, m_X2_hold n 26 3 (c.2.2 0) seed (nI z) q c = some c2 ∧ m_X10_fairBy n 55 seed (nI z) q d = some d2 ∧ gR2 27 504 (c.2.2 0) th m2 (nI p) c2 d2 ∧ gRl th m p c2 d2 ∧ d2.1 55 0 = d.1 55 0 ∧ c2.2.2 = c.2.2 := by
  have hP := h.1
  have hq := gPt_q hP
  obtain ⟨c1, d1, e1, e2, f1, f2, hR1⟩ := copy_two (t := 27) (Or.inr rfl) h hn
  have hi : gIx 27 504 (c.2.2 0) := ⟨Or.inr (Or.inr rfl), Or.inr rfl, by omega⟩
  have hR1' := gR2_d hi hR1 (upd (c1.1 26) 1 seed) seed
  have ht := seed_d c1 d1 seed
  have hf := frF_d (c.2.2 0) c1 d1 seed
  obtain ⟨c3, d3, l1, l2, m2, hR3, hfr⟩ := gloop_two (f := gu2 (fun (y10 : Int32) (c11 : gm) => m_X2_hold_L16 n 26 (c.2.2 0) (nI z) q y10 c11)) (g := gu2 (fun (y14 : Int32) (c15 : gm) => m_X10_fairBy_L19 n 55 (nI z) q y14 c15)) (fun r (a : Int32 × gm) (x : Int32 × gm) => ∃ k c2 d2 m2, k ≤ z ∧ r + k = z ∧ a = (nI k, c2) ∧ x = (nI k, d2) ∧ gR2 27 504 (c.2.2 0) th m2 (nI p) c2 d2 ∧ c2.1 26 1 = d2.1 55 45 ∧ frF (c.2.2 0) c1 c2 d1 d2) (fun (c2 : gm) (d2 : gm) => ∃ m2, gR2 27 504 (c.2.2 0) th m2 (nI p) c2 d2 ∧ frF (c.2.2 0) c1 c2 d1 d2) (n := n) (r := z) (a := (0, gm_r c1 26 (upd (c1.1 26) 1 seed))) (x := (0, gm_r d1 55 (upd (d1.1 55) 45 seed))) (by
    rintro r a x ⟨k, c2, d2, m2, hk, hr, rfl, rfl, hR, hs, hf2⟩
    by_cases hk2 : k = z
    · right
      subst hk2
      refine ⟨c2, d2, ?_, ?_, m2, hR, hf2⟩
      · show m_X2_hold_L16 n 26 (c.2.2 0) (nI k) q (nI k) c2 = _
        unfold m_X2_hold_L16
        rw [if_pos (by rw [n_le (by omega) (by omega)]; omega)]
      · show m_X10_fairBy_L19 n 55 (nI k) q (nI k) d2 = _
        unfold m_X10_fairBy_L19
        rw [if_pos (by rw [n_le (by omega) (by omega)]; omega)]
    · left
      obtain ⟨c4, d4, m4, s1, s2, hR4, hs4, hf4⟩ := fair_step (q := q) hi hR hs (show k < z by omega) hz hn
      exact ⟨(nI (k + 1), c4), (nI (k + 1), d4), r - 1, s1, s2, by omega, k + 1, c4, d4, m4, by omega, by omega, rfl, rfl, hR4, hs4, frF_t hf2 hf4⟩) ⟨0, _, _, m, by omega, by omega, rfl, rfl, hR1', ht, hf⟩ (by omega)
  obtain ⟨g1, g2, g3, g4⟩ := hfr
  unfold CF at g1
  unfold DF at g2
  refine ⟨c3, d3, m2, ?_, ?_, hR3, ?_, ?_, ?_⟩
  · unfold m_X2_hold
    rw [gc_1 (show gck 26 = 2 from rfl), show (26 : Nat) + 1 = 27 from rfl, gb_x e1, gv_e, gb_x l1]
  · unfold m_X10_fairBy
    rw [gc_1 (show gck 55 = 10 from rfl), gb_x e2, gv_e, gb_x l2]
  · refine gRl_sc h (by rw [g1.2, f1.2]) (fun i hi => ?_) (fun i hi => ?_) (fun j hj => ?_)
    · unfold SC at hi
      rw [g1.1 i (by omega), f1.1 i (by omega)]
    · unfold SD at hi
      rw [g2 i (by omega) (by omega), f2.1 i (by omega)]
    · rw [g3 j (by omega), f2.1 55 (by omega)]
  · rw [g3 0 (by omega), f2.1 55 (by omega)]
  · rw [g1.2, f1.2]
theorem if_c {a b : Int32} (h : (1 ≤ a ∧ a ≤ 96) ∧ 0 ≤ b ∧ b ≤ 16) : m_X9_isFair a b = some 1 := by
  unfold m_X9_isFair
  rw [if_neg (i_nlt h.1.1), if_neg (i_nlt h.1.2), if_neg (i_nlt h.2.1), if_neg (i_nlt h.2.2)]
theorem if_c0 {a b : Int32} (h : ¬ ((1 ≤ a ∧ a ≤ 96) ∧ 0 ≤ b ∧ b ≤ 16)) : m_X9_isFair a b = some 0 := by
  unfold m_X9_isFair
  by_cases q : 1 ≤ a ∧ a ≤ 96
  · rw [if_neg (i_nlt q.1), if_neg (i_nlt q.2)]
    rcases i_or (fun q2 => h ⟨q, q2⟩) with u | ⟨u, v⟩
    · rw [if_pos u]
    · rw [if_neg u, if_pos v]
  · rcases i_or q with u | ⟨u, v⟩
    · rw [if_pos u]
    · rw [if_neg u, if_pos v]
theorem if_d {a b : Int32} (h : (1 ≤ a ∧ a ≤ 96) ∧ 0 ≤ b ∧ b ≤ 16) : m_X10_isFair a b = some 1 := by
  unfold m_X10_isFair
  rw [gb_x (in_1 h.1), if_neg (by decide), gb_x (in_1 h.2), if_neg (by decide)]
theorem if_d0 {a b : Int32} (h : ¬ ((1 ≤ a ∧ a ≤ 96) ∧ 0 ≤ b ∧ b ≤ 16)) : m_X10_isFair a b = some 0 := by
  unfold m_X10_isFair
  by_cases q : 1 ≤ a ∧ a ≤ 96
  · rw [gb_x (in_1 q), if_neg (by decide), gb_x (in_0 (fun q2 => h ⟨q, q2⟩)), if_pos rfl]
  · rw [gb_x (in_0 q), if_pos rfl]
theorem fair_two {th m p n : Nat} {c d : gm} (h : gRl th m p c d) (hn : 160 < n) (s a b x : Int32) : gAns 1 0 (m_X9_fair n 0 s a b x c) (m_X10_fair n 55 s a b x d) := by
  have hZ := gRl_dZ h
  have z0 := dZ_0 d
  obtain ⟨hP, hp, ⟨hS, hRw, hM, hL⟩, hTo, hTp, hCn, hBk, hPs, hIm⟩ := id hZ
  obtain ⟨hk, h8, h5, h6, h7, h9, h10, h11, hw, hf, hcp⟩ := id hS
  obtain ⟨m0, m3, -⟩ := id hM
  have hm : m ≤ 10 := hRw.1
  have h56 := hRw.2.1
  by_cases q1 : (1 ≤ a ∧ a ≤ 96) ∧ 0 ≤ b ∧ b ≤ 16
  · by_cases q3 : 0 ≤ x ∧ x ≤ 3
    · obtain ⟨z, hz, rfl⟩ := i_ex (y := 96) (by decide) ⟨Int32.le_trans (by decide) q1.1.1, q1.1.2⟩
      obtain ⟨k, hk2, rfl⟩ := i_ex (y := 3) (by decide) q3
      obtain ⟨c2, d2, m2, e1, e2, ⟨hS2, hRw2, hM2, hL2⟩, hF, hF0, -⟩ := hold_two hZ s b hz hn
      rw [z0] at hF0
      have hS3 : gSt 3 c2 th m (nI p) (d2.1 503) := hF.2.2.1.1
      have k6 : c2.1 27 6 = nI m2 := hS2.2.2.2.1
      have k56 : d2.1 504 56 = nI m2 := hRw2.2.1
      have k10 : c2.1 27 10 = d2.1 504 58 := hS2.2.2.2.2.2.2.2.1
      have k3 : c2.1 3 10 = d2.1 503 58 := hS3.2.2.2.2.2.2.2.1
      have ec : m_X9_fair n 0 s (nI z) b (nI k) c = gok (if nI k = 0 then gb (m_X6_weightOfAll n 27 c2) (fun (r21 : Int32) => some (r21, c2)) else (if nI k = 1 then some ((c2.1 27 6), c2) else (if nI k = 2 then some (((c2.1 27 10) - (c2.1 3 10)), c2) else gb (m_X6_criesNotSo n 27 c2) (fun (r34 : Int32) => some (r34, c2))))) := by
        unfold m_X9_fair; simp only [gj_e]
        rw [gb_x (if_c q1), if_neg (by decide), if_neg (i_nlt q3.1), if_neg (i_nlt q3.2), gc_1 (show gck 0 = 9 from rfl), gbx_x1 (dm_1 c), gb_x e1]
      have ed : m_X10_fair n 55 s (nI z) b (nI k) d = (if nI k = 0 then gb (m_X10_weightIn n 55 504 d2) (fun (r39 : Int32) => some (r39, d2)) else (if nI k = 1 then some ((d2.1 504 56), d2) else (if nI k = 2 then some (((d2.1 504 58) - (d2.1 503 58)), d2) else gb (m_X10_notSo n 504 d2) (fun (r22 : Int32) => some (r22, d2))))) := by
        unfold m_X10_fair; simp only [gj_e]
        rw [gc_1 (show gck 55 = 10 from rfl), gv_e, show gm_r d 55 (upd (d.1 55) 0 0) = dZ d from rfl, gb_x (if_d q1), if_neg (by decide), gb_x (in_1 q3), if_neg (by decide), gb2_x (bd_0 z0), if_pos rfl, gb_x e2, cl_56, show (58 : Int32).toNatClampNeg = 58 from rfl]
      rcases (by omega : k = 0 ∨ k = 1 ∨ k = 2 ∨ k = 3) with rfl | rfl | rfl | rfl
      · exact ans_o (r := pW th (d2.1 504)) hF hF0 (by rw [ec, if_pos (show nI 0 = 0 from rfl), gb_x (cs_all hS2 (by omega)), gok_e]) (by rw [ed, if_pos (show nI 0 = 0 from rfl), gb_x (md_all hM2 rfl rfl (by omega))])
      · exact ans_o (r := nI m2) hF hF0 (by rw [ec, if_neg (show ¬ nI 1 = 0 by decide), if_pos (show nI 1 = 1 from rfl), k6, gok_e]) (by rw [ed, if_neg (show ¬ nI 1 = 0 by decide), if_pos (show nI 1 = 1 from rfl), k56])
      · exact ans_o (r := d2.1 504 58 - d2.1 503 58) hF hF0 (by rw [ec, if_neg (show ¬ nI 2 = 0 by decide), if_neg (show ¬ nI 2 = 1 by decide), if_pos (show nI 2 = 2 from rfl), k10, k3, gok_e]) (by rw [ed, if_neg (show ¬ nI 2 = 0 by decide), if_neg (show ¬ nI 2 = 1 by decide), if_pos (show nI 2 = 2 from rfl)])
      · exact ans_o (r := pNs m2 (d2.1 504)) hF hF0 (by rw [ec, if_neg (show ¬ nI 3 = 0 by decide), if_neg (show ¬ nI 3 = 1 by decide), if_neg (show ¬ nI 3 = 2 by decide), gb_x (cs_notSo hS2 hRw2 (by omega)), gok_e]) (by rw [ed, if_neg (show ¬ nI 3 = 0 by decide), if_neg (show ¬ nI 3 = 1 by decide), if_neg (show ¬ nI 3 = 2 by decide), gb_x (md_notSo rfl hRw2 h8 rfl rfl (by omega))])
    · refine ans_i (v := 0) (d := d) hZ (by decide) ?_ ?_
      · unfold m_X9_fair; simp only [gj_e]
        rw [gb_x (if_c q1), if_neg (by decide)]
        rcases i_or q3 with u | ⟨u, v⟩
        · rw [if_pos u, gc_1 (show gck 0 = 9 from rfl), gbx_x2 (dm_0 c)]
        · rw [if_neg u, if_pos v, gc_1 (show gck 0 = 9 from rfl), gbx_x2 (dm_0 c)]
      · unfold m_X10_fair; simp only [gj_e]
        rw [gc_1 (show gck 55 = 10 from rfl), gv_e, show gm_r d 55 (upd (d.1 55) 0 0) = dZ d from rfl, gb_x (if_d q1), if_neg (by decide), gb_x (in_0 q3), if_pos rfl, gb2_x (bd_i z0 (by decide)), if_neg (by decide)]
  · refine ans_i (v := 0) (d := d) hZ (by decide) ?_ ?_
    · unfold m_X9_fair; simp only [gj_e]
      rw [gb_x (if_c0 q1), if_pos rfl, gc_1 (show gck 0 = 9 from rfl), gbx_x2 (dm_0 c)]
    · unfold m_X10_fair; simp only [gj_e]
      rw [gc_1 (show gck 55 = 10 from rfl), gv_e, show gm_r d 55 (upd (d.1 55) 0 0) = dZ d from rfl, gb_x (if_d0 q1), if_pos rfl, gb2_x (bd_i z0 (by decide)), if_neg (by decide)]
theorem pW_n {th m : Nat} {r : Nat → Int32} (h : gRow th m r) (h8 : th ≤ 8) : ∃ w, w ≤ 480 ∧ pW th r = nI w := by
  have key : ∀ k, k ≤ th → ∃ w, w ≤ 60 * k ∧ pW k r = nI w := by
    intro k
    induction k with
    | zero => intro _; exact ⟨0, by omega, rfl⟩
    | succ k ih =>
      intro hk
      obtain ⟨w, hw, e⟩ := ih (by omega)
      obtain ⟨u, u1, u60, eu⟩ := h.2.2.1 k (by omega)
      exact ⟨w + u, by omega, by rw [pW_s, e, eu, n_ad]⟩
  obtain ⟨w, hw, e⟩ := key th (by omega)
  exact ⟨w, by omega, e⟩
/-- what span keeps: k fairs were held; x the class's least, y the most, u the reference's least -/
def spI (k y : Nat) (x u : Int32) : Prop := y ≤ 480 ∧ ((k = 0 ∧ y = 0 ∧ u = -1) ∨ (1 ≤ k ∧ u = x ∧ ∃ w, w ≤ 480 ∧ x = nI w))
theorem span_step {th m p z k n : Nat} {c d : gm} (h : gRl th m p c d) (s b : Int32) (hz : z ≤ 96) (hn : 160 < n) {a y many : Nat} {x u t : Int32} (hk : k < many) (hmany : many ≤ 20) (ha : a < th) (hI : spI k y x u) : ∃ x2 u2 t2 y2 c2 d2, m_X9_span_L73 n s (nI many) (nI z) b (nI a) x (nI y) t (nI k) c = some (.inl (x2, nI y2, t2, nI (k + 1), c2)) ∧ m_X10_span_L71 n 55 s (nI many) (nI z) b (nI a) u (nI y) t (nI k) d = some (.inl (u2, nI y2, t2, nI (k + 1), d2)) ∧ spI (k + 1) y2 x2 u2 ∧ gRl th m p c2 d2 ∧ d2.1 55 0 = d.1 55 0 := by
  have h8 : th ≤ 8 := h.2.2.1.1.2.1
  obtain ⟨c2, d2, m2, e1, e2, ⟨hS2, hRw2, hM2, hL2⟩, hF, hF0, -⟩ := hold_two h (s + nI k) b hz hn
  obtain ⟨w, hw, ew⟩ := pW_n hRw2 h8
  have a1 := cs_all hS2 (show 20 < n by omega)
  have b1 := md_all hM2 (a1 := 504) rfl rfl (show 20 < n by omega)
  rw [ew] at a1 b1
  have a2 := cs_with hS2 hRw2.1 (nI a) (show 20 < n by omega)
  have b2 := md_with (d := d2) (a1 := 504) rfl hRw2.2.1 hRw2.1 (nI a) rfl rfl (show 20 < n by omega)
  have p1 : ¬ nI many ≤ nI k := by rw [n_le (by omega) (by omega)]; omega
  generalize pCo m2 (d2.1 504) (nI a) = o at a2 b2
  obtain ⟨hy, hI⟩ := hI
  have fin : ∀ (x2 y2 : Int32), gb (m_X6_criesWith n 27 (nI a) c2) (fun (r44 : Int32) => (if r44 = 0 then gv (t + 0) (fun (x47 : Int32) => gv (nI k + 1) (fun (x48 : Int32) => (some (.inl (x2, y2, x47, x48, c2)) : Option ((Int32 × Int32 × Int32 × Int32 × gm) ⊕ (Int32 × Int32 × Int32 × gm))))) else gv (t + 1) (fun (x47 : Int32) => gv (nI k + 1) (fun (x48 : Int32) => (some (.inl (x2, y2, x47, x48, c2)) : Option ((Int32 × Int32 × Int32 × Int32 × gm) ⊕ (Int32 × Int32 × Int32 × gm))))))) = some (.inl (x2, y2, t + (if o = 0 then 0 else 1), nI (k + 1), c2)) := by
    intro x2 y2
    rw [gb_x a2]
    by_cases q : o = 0
    · rw [if_pos q, if_pos q, gv_e, gv_e, n_s]
    · rw [if_neg q, if_neg q, gv_e, gv_e, n_s]
  have find : ∀ (u2 : Int32), gb (m_X10_more (nI y) (nI w)) (fun (r36 : Int32) => gb (m_X10_criesOf n 504 (nI a) d2) (fun (r38 : Int32) => (if r38 = 0 then gv (t + 0) (fun (x41 : Int32) => gv (nI k + 1) (fun (x42 : Int32) => (some (.inl (u2, r36, x41, x42, d2)) : Option ((Int32 × Int32 × Int32 × Int32 × gm) ⊕ (Int32 × Int32 × Int32 × gm))))) else gv (t + 1) (fun (x41 : Int32) => gv (nI k + 1) (fun (x42 : Int32) => (some (.inl (u2, r36, x41, x42, d2)) : Option ((Int32 × Int32 × Int32 × Int32 × gm) ⊕ (Int32 × Int32 × Int32 × gm)))))))) = some (.inl (u2, nI (max y w), t + (if o = 0 then 0 else 1), nI (k + 1), d2)) := by
    intro u2
    rw [gb_x (more_n (by omega) (by omega)), gb_x b2]
    by_cases q : o = 0
    · rw [if_pos q, if_pos q, gv_e, gv_e, n_s]
    · rw [if_neg q, if_neg q, gv_e, gv_e, n_s]
  rcases hI with ⟨rfl, rfl, rfl⟩ | ⟨hk1, rfl, w0, hw0, rfl⟩
  · refine ⟨nI w, nI w, t + (if o = 0 then 0 else 1), max 0 w, c2, d2, ?_, ?_, ⟨by omega, Or.inr ⟨by omega, rfl, w, hw, rfl⟩⟩, hF, hF0⟩
    rotate_left
    · unfold m_X10_span_L71; simp only [gj_e]
      rw [if_neg p1, gb_x e2, gb_x b1, if_pos trivial, find]
    · unfold m_X9_span_L73; simp only [gj_e]
      rw [if_neg p1, gb_x e1, show (26 : Nat) + 1 = 27 from rfl, gb_x a1, if_pos (show nI 0 = 0 from rfl), if_pos (show nI 0 = 0 from rfl), fin, show max 0 w = w by omega]
  · have q0 : ¬ nI k = 0 := by rw [n_l0, n_eq (by omega) (by decide)]; omega
    have q1 : ¬ nI w0 = -1 := by rw [n_ne (by omega)]; exact id
    refine ⟨nI (min w0 w), nI (min w0 w), t + (if o = 0 then 0 else 1), max y w, c2, d2, ?_, ?_, ⟨by omega, Or.inr ⟨by omega, rfl, min w0 w, by omega, rfl⟩⟩, hF, hF0⟩
    rotate_left
    · unfold m_X10_span_L71; simp only [gj_e]
      rw [if_neg p1, gb_x e2, gb_x b1, if_neg q1, gb_x (less_n (by omega) (by omega)), find]
    · unfold m_X9_span_L73; simp only [gj_e]
      rw [if_neg p1, gb_x e1, show (26 : Nat) + 1 = 27 from rfl, gb_x a1, if_neg q0]
      by_cases qx : w0 ≤ w
      · rw [if_pos (by rw [n_le (by omega) (by omega)]; exact qx), if_neg q0, show min w0 w = w0 by omega]
        by_cases qy : w ≤ y
        · rw [if_pos (by rw [n_le (by omega) (by omega)]; exact qy), fin, show max y w = y by omega]
        · rw [if_neg (by rw [n_le (by omega) (by omega)]; exact qy), fin, show max y w = w by omega]
      · rw [if_neg (by rw [n_le (by omega) (by omega)]; exact qx), if_neg q0, show min w0 w = w by omega]
        by_cases qy : w ≤ y
        · rw [if_pos (by rw [n_le (by omega) (by omega)]; exact qy), fin, show max y w = y by omega]
        · rw [if_neg (by rw [n_le (by omega) (by omega)]; exact qy), fin, show max y w = w by omega]
theorem span_lp {th m p z n : Nat} {c d : gm} (h : gRl th m p c d) (s b : Int32) (hz : z ≤ 96) (hn : 160 < n) {a many : Nat} (h1 : 1 ≤ many) (hmany : many ≤ 20) (ha : a < th) : ∃ x y t c2 d2, gloop (gu2 (fun (y16 : Int32) => gu2 (fun (y17 : Int32) => gu2 (fun (y18 : Int32) => gu2 (fun (y19 : Int32) (c20 : gm) => m_X9_span_L73 n s (nI many) (nI z) b (nI a) y16 y17 y18 y19 c20))))) n (0, 0, 0, 0, c) = some (x, y, t, c2) ∧ gloop (gu2 (fun (y13 : Int32) => gu2 (fun (y14 : Int32) => gu2 (fun (y15 : Int32) => gu2 (fun (y16 : Int32) (c17 : gm) => m_X10_span_L71 n 55 s (nI many) (nI z) b (nI a) y13 y14 y15 y16 c17))))) n ((-1), 0, 0, 0, d) = some (x, y, t, d2) ∧ gRl th m p c2 d2 ∧ d2.1 55 0 = d.1 55 0 := by
  obtain ⟨u, v, l1, l2, x, y, t, c2, d2, rfl, rfl, hF, hF0⟩ := gloop_two (f := gu2 (fun (y16 : Int32) => gu2 (fun (y17 : Int32) => gu2 (fun (y18 : Int32) => gu2 (fun (y19 : Int32) (c20 : gm) => m_X9_span_L73 n s (nI many) (nI z) b (nI a) y16 y17 y18 y19 c20))))) (g := gu2 (fun (y13 : Int32) => gu2 (fun (y14 : Int32) => gu2 (fun (y15 : Int32) => gu2 (fun (y16 : Int32) (c17 : gm) => m_X10_span_L71 n 55 s (nI many) (nI z) b (nI a) y13 y14 y15 y16 c17))))) (fun r (A : Int32 × Int32 × Int32 × Int32 × gm) (B : Int32 × Int32 × Int32 × Int32 × gm) => ∃ k x y t u c2 d2, k ≤ many ∧ r + k = many ∧ A = (x, nI y, t, nI k, c2) ∧ B = (u, nI y, t, nI k, d2) ∧ spI k y x u ∧ gRl th m p c2 d2 ∧ d2.1 55 0 = d.1 55 0) (fun (A : Int32 × Int32 × Int32 × gm) (B : Int32 × Int32 × Int32 × gm) => ∃ x y t c2 d2, A = (x, y, t, c2) ∧ B = (x, y, t, d2) ∧ gRl th m p c2 d2 ∧ d2.1 55 0 = d.1 55 0) (n := n) (r := many) (a := (0, 0, 0, 0, c)) (x := ((-1), 0, 0, 0, d)) (by
    rintro r A B ⟨k, x, y, t, u, c2, d2, hk, hr, rfl, rfl, hI, hF, hF0⟩
    by_cases hk2 : k = many
    · right
      subst hk2
      obtain ⟨hy, hI⟩ := hI
      rcases hI with ⟨q, -⟩ | ⟨-, rfl, -⟩
      · omega
      · refine ⟨(u, nI y, t, c2), (u, nI y, t, d2), ?_, ?_, u, nI y, t, c2, d2, rfl, rfl, hF, hF0⟩
        · show m_X9_span_L73 n s (nI k) (nI z) b (nI a) u (nI y) t (nI k) c2 = _
          unfold m_X9_span_L73
          rw [if_pos (by rw [n_le (by omega) (by omega)]; omega)]
        · show m_X10_span_L71 n 55 s (nI k) (nI z) b (nI a) u (nI y) t (nI k) d2 = _
          unfold m_X10_span_L71
          rw [if_pos (by rw [n_le (by omega) (by omega)]; omega)]
    · left
      obtain ⟨x2, u2, t2, y2, c3, d3, s1, s2, hI2, hF2, hF20⟩ := span_step hF s b hz hn (show k < many by omega) hmany ha hI
      exact ⟨(x2, nI y2, t2, nI (k + 1), c3), (u2, nI y2, t2, nI (k + 1), d3), r - 1, s1, s2, by omega, k + 1, x2, y2, t2, u2, c3, d3, by omega, by omega, rfl, rfl, hI2, hF2, hF20.trans hF0⟩) ⟨0, 0, 0, 0, -1, c, d, by omega, by omega, rfl, rfl, ⟨by omega, Or.inl ⟨rfl, rfl, rfl⟩⟩, h, rfl⟩ (by omega)
  exact ⟨x, y, t, c2, d2, l1, l2, hF, hF0⟩
theorem span_two {th m p n : Nat} {c d : gm} (h : gRl th m p c d) (hn : 160 < n) (s e a b x f : Int32) : gAns 1 0 (m_X9_span n 0 s e a b x f c) (m_X10_span n 55 s e a b x f d) := by
  have hZ := gRl_dZ h
  have z0 := dZ_0 d
  obtain ⟨hP, hp, ⟨hS, hRw, hM, hL⟩, hTo, hTp, hCn, hBk, hPs, hIm⟩ := id hZ
  obtain ⟨hk, h8, h5, h6, h7, h9, h10, h11, hw, hf, hcp⟩ := id hS
  obtain ⟨m0, m3, -⟩ := id hM
  have hm : m ≤ 10 := hRw.1
  have h56 := hRw.2.1
  by_cases qm : 1 ≤ e ∧ e ≤ 20
  rotate_left
  · refine ans_i (v := 0) (d := d) hZ (by decide) ?_ ?_
    · unfold m_X9_span; simp only [gj_e]
      by_cases qf : (1 ≤ a ∧ a ≤ 96) ∧ 0 ≤ b ∧ b ≤ 16
      · rw [gb_x (if_c qf), if_neg (by decide)]
        rcases i_or qm with u | ⟨u, v⟩
        · rw [if_pos u, gc_1 (show gck 0 = 9 from rfl), gbx_x2 (dm_0 c)]
        · rw [if_neg u, if_pos v, gc_1 (show gck 0 = 9 from rfl), gbx_x2 (dm_0 c)]
      · rw [gb_x (if_c0 qf), if_pos rfl, gc_1 (show gck 0 = 9 from rfl), gbx_x2 (dm_0 c)]
    · unfold m_X10_span; simp only [gj_e]
      rw [gc_1 (show gck 55 = 10 from rfl), gv_e, show gm_r d 55 (upd (d.1 55) 0 0) = dZ d from rfl, gb_x (in_0 qm), if_pos rfl, gb2_x (bd_i z0 (by decide)), if_neg (by decide)]
  by_cases qf : (1 ≤ a ∧ a ≤ 96) ∧ 0 ≤ b ∧ b ≤ 16
  rotate_left
  · refine ans_i (v := 0) (d := d) hZ (by decide) ?_ ?_
    · unfold m_X9_span; simp only [gj_e]
      rw [gb_x (if_c0 qf), if_pos rfl, gc_1 (show gck 0 = 9 from rfl), gbx_x2 (dm_0 c)]
    · unfold m_X10_span; simp only [gj_e]
      rw [gc_1 (show gck 55 = 10 from rfl), gv_e, show gm_r d 55 (upd (d.1 55) 0 0) = dZ d from rfl, gb_x (in_1 qm), if_neg (by decide), gb_x (if_d0 qf), if_pos rfl, gb2_x (bd_i z0 (by decide)), if_neg (by decide)]
  by_cases q3 : 0 ≤ x ∧ x ≤ 2
  rotate_left
  · refine ans_i (v := 0) (d := d) hZ (by decide) ?_ ?_
    · unfold m_X9_span; simp only [gj_e]
      rw [gb_x (if_c qf), if_neg (by decide), if_neg (i_nlt qm.1), if_neg (i_nlt qm.2), gc_1 (show gck 0 = 9 from rfl), gbx_x1 (dm_1 c)]
      rcases i_or q3 with u | ⟨u, v⟩
      · rw [if_pos u, gbx_x2 (dm_0 c)]
      · rw [if_neg u, if_pos v, gbx_x2 (dm_0 c)]
    · unfold m_X10_span; simp only [gj_e]
      rw [gc_1 (show gck 55 = 10 from rfl), gv_e, show gm_r d 55 (upd (d.1 55) 0 0) = dZ d from rfl, gb_x (in_1 qm), if_neg (by decide), gb_x (if_d qf), if_neg (by decide), gb_x (in_0 q3), if_pos rfl, gb2_x (bd_i z0 (by decide)), if_neg (by decide)]
  by_cases q4 : 0 ≤ f ∧ f < nI th
  rotate_left
  · refine ans_i (v := 0) (d := d) hZ (by decide) ?_ ?_
    · unfold m_X9_span; simp only [gj_e]
      rw [gb_x (if_c qf), if_neg (by decide), if_neg (i_nlt qm.1), if_neg (i_nlt qm.2), gc_1 (show gck 0 = 9 from rfl), gbx_x1 (dm_1 c), if_neg (i_nlt q3.1), if_neg (i_nlt q3.2), cs_thing hS, gb_e, if_neg q4, if_pos rfl, gbx_x2 (dm_0 c)]
    · unfold m_X10_span; simp only [gj_e]
      rw [gc_1 (show gck 55 = 10 from rfl), gv_e, show gm_r d 55 (upd (d.1 55) 0 0) = dZ d from rfl, gb_x (in_1 qm), if_neg (by decide), gb_x (if_d qf), if_neg (by decide), gb_x (in_1 q3), if_neg (by decide), gb_x (mt_0 h8 m0 q4), if_pos rfl, gb2_x (bd_i z0 (by decide)), if_neg (by decide)]
  obtain ⟨z, hz, rfl⟩ := i_ex (y := 96) (by decide) ⟨Int32.le_trans (by decide) qf.1.1, qf.1.2⟩
  obtain ⟨many, hmy, rfl⟩ := i_ex (y := 20) (by decide) ⟨Int32.le_trans (by decide) qm.1, qm.2⟩
  have hm1 : 1 ≤ many := by
    have := qm.1
    rw [n_l1, n_le (by decide) (by omega)] at this
    exact this
  obtain ⟨k, hk2, rfl⟩ := i_ex (y := 2) (by decide) q3
  obtain ⟨j, hj, rfl⟩ := i_ex2 (by omega) q4
  obtain ⟨x1, y1, t1, c2, d2, l1, l2, hF, hF0⟩ := span_lp hZ s b hz hn hm1 hmy hj
  rw [z0] at hF0
  have ec : m_X9_span n 0 s (nI many) (nI z) b (nI k) (nI j) c = gok (if nI k = 0 then some (x1, c2) else if nI k = 1 then some (y1, c2) else some (t1, c2)) := by
    unfold m_X9_span; simp only [gj_e]
    rw [gb_x (if_c qf), if_neg (by decide), if_neg (i_nlt qm.1), if_neg (i_nlt qm.2), gc_1 (show gck 0 = 9 from rfl), gbx_x1 (dm_1 c), if_neg (i_nlt q3.1), if_neg (i_nlt q3.2), cs_thing hS, gb_e, if_pos q4, if_neg (by decide), gbx_x1 (dm_1 c), gb_x l1, gu2_e, gu2_e, gu2_e]
  have ed : m_X10_span n 55 s (nI many) (nI z) b (nI k) (nI j) d = (if nI k = 0 then some (x1, d2) else if nI k = 1 then some (y1, d2) else some (t1, d2)) := by
    unfold m_X10_span; simp only [gj_e]
    rw [gc_1 (show gck 55 = 10 from rfl), gv_e, show gm_r d 55 (upd (d.1 55) 0 0) = dZ d from rfl, gb_x (in_1 qm), if_neg (by decide), gb_x (if_d qf), if_neg (by decide), gb_x (in_1 q3), if_neg (by decide), gb_x (mt_1 h8 m0 q4), if_neg (by decide), gb2_x (bd_0 z0), if_pos rfl, gb_x l2, gu2_e, gu2_e, gu2_e]
  rcases (by omega : k = 0 ∨ k = 1 ∨ k = 2) with rfl | rfl | rfl
  · exact ans_o (r := x1) hF hF0 (by rw [ec, if_pos (show nI 0 = 0 from rfl), gok_e]) (by rw [ed, if_pos (show nI 0 = 0 from rfl)])
  · exact ans_o (r := y1) hF hF0 (by rw [ec, if_neg (show ¬ nI 1 = 0 by decide), if_pos (show nI 1 = 1 from rfl), gok_e]) (by rw [ed, if_neg (show ¬ nI 1 = 0 by decide), if_pos (show nI 1 = 1 from rfl)])
  · exact ans_o (r := t1) hF hF0 (by rw [ec, if_neg (show ¬ nI 2 = 0 by decide), if_neg (show ¬ nI 2 = 1 by decide), gok_e]) (by rw [ed, if_neg (show ¬ nI 2 = 0 by decide), if_neg (show ¬ nI 2 = 1 by decide)])
