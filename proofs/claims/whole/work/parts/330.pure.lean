set_option maxRecDepth 16384
theorem rBeam {n a th m l p N : Nat} {b : Nat → Nat} {c d : gm} (h : gIn n b c d a) (hM : gMk th m l p c d) (hN : 700 < N) : gCl n b N c d a (m_X6_readBeam N 9 1 c) (clT N 2 d 0) := by
  obtain ⟨t8, m10, l18, p9, ⟨k5, k6, k7, k8, k9, k10⟩, ⟨d0, d1, d2', d3'⟩, hw, hz, hcr⟩ := id hM
  have T : clT N 2 d 0 = gb2 (m_X10_number N 55 0 18 d) (fun (r79 : Int32) (c80 : gm) => gb2 (m_X10_number N 55 0 9 c80) (fun (r82 : Int32) (c83 : gm) => (if (c83.1 55 5) = 0 then gv (gm_r c83 58 (upd (c83.1 58) (2 : Int32).toNatClampNeg r79)) (fun (c89 : gm) => gv (gm_r c89 58 (upd (c89.1 58) (3 : Int32).toNatClampNeg r82)) (fun (c91 : gm) => clE N 2 c91)) else some c83))) := by
    unfold clT
    rw [if_neg (by decide), if_neg (by decide)]
  rw [T]
  rcases num_two (lo := 0) (H := 19) (hi := 18) h hN (by omega) (by omega) (by decide) with ⟨c1, e1, a1, v, s, s1, s2, v0, vH, n1, n2, hO, g5, g4, es, hsn⟩ | ⟨c1, e1, n1, n2, hO⟩
  rotate_left
  · right; left
    have h5 := gFl_5 hO.2.2
    refine ⟨c1, e1, ?_, ?_, gFm_s (fmC_f hO.1) (fmD_f hO.2.1) hO.2.2 ⟨fmD_r _, rfl, rfl, id⟩⟩
    · unfold m_X6_readBeam
      rw [gc_1 (show gck 1 = 7 from rfl), show m_X7_takeNumber N 1 0 18 c = some (0, c1) from n1, gb2_e, if_pos rfl]
    · rw [show m_X10_number N 55 0 18 d = some (0, e1) from n2, gb2_e, gb2_x (num_f h5), if_neg h5]
  obtain ⟨c2, ec2⟩ : ∃ z, z = gm_r c1 9 (upd (c1.1 9) 7 (nI v)) := ⟨_, rfl⟩
  have hI2 : gIn n b c2 e1 a1 := by rw [ec2]; exact gIn_c (gIn_o h hO) (gr_n _ _ (by omega)) (gr_n _ _ (by omega))
  have F2 : fmC c c2 := by rw [ec2]; exact fmC_t (fmC_f (frc_F hO.1)) (fmC_u _ (by omega))
  have X1 : m_X6_readBeam N 9 1 c = gb2 (m_X7_takeNumber N 1 0 9 c2) (fun (r11 : Int32) (c12 : gm) => (if r11 = 0 then some (0, c12) else gv (gm_r c12 9 (upd (c12.1 9) 8 (c12.1 1 5))) (fun (c14 : gm) => some (1, c14)))) := by
    unfold m_X6_readBeam
    rw [gc_1 (show gck 1 = 7 from rfl), show m_X7_takeNumber N 1 0 18 c = some (1, c1) from n1, gb2_e, if_neg (by decide), gc_1 (show gck 9 = 6 from rfl), gv_e, g5, ← ec2]
  rw [show m_X10_number N 55 0 18 d = some (nI v, e1) from n2, gb2_e]
  clear n1 n2 T
  rcases num_two (lo := 0) (H := 10) (hi := 9) hI2 hN (by omega) (by omega) (by decide) with ⟨c3, e3, a3, u, s', s1', s2', u0, uH, n1, n2, hO3, g53, g43, es3, hsn3⟩ | ⟨c3, e3, n1, n2, hO3⟩
  rotate_left
  · right; left
    have h5 := gFl_5 hO3.2.2
    refine ⟨c3, e3, ?_, ?_, gFm_s (fmC_t F2 (fmC_f hO3.1)) (fmD_t (fmD_f (frm_F hO.2.1)) (fmD_f hO3.2.1)) hO3.2.2 ⟨fmD_r _, rfl, rfl, id⟩⟩
    · rw [X1, show m_X7_takeNumber N 1 0 9 c2 = some (0, c3) from n1, gb2_e, if_pos rfl]
    · rw [show m_X10_number N 55 0 9 e1 = some (0, e3) from n2, gb2_e, if_neg h5]
  have h35 : e3.1 55 5 = 0 := by rw [hO3.2.1.2.2 5 (by omega)]; exact hI2.2.2.2.2.2
  obtain ⟨c4, ec4⟩ : ∃ z, z = gm_r c3 9 (upd (c3.1 9) 8 (nI u)) := ⟨_, rfl⟩
  obtain ⟨f4, ef4⟩ : ∃ z, z = gm_r (gm_r e3 58 (upd (e3.1 58) 2 (nI v))) 58 (upd (upd (e3.1 58) 2 (nI v)) 3 (nI u)) := ⟨_, rfl⟩
  have X2 : m_X6_readBeam N 9 1 c = some (1, c4) := by
    rw [X1, show m_X7_takeNumber N 1 0 9 c2 = some (1, c3) from n1, gb2_e, if_neg (by decide), g53, gv_e, ← ec4]
  have M2 : gb2 (m_X10_number N 55 0 9 e1) (fun (r82 : Int32) (c83 : gm) => (if (c83.1 55 5) = 0 then gv (gm_r c83 58 (upd (c83.1 58) (2 : Int32).toNatClampNeg (nI v))) (fun (c89 : gm) => gv (gm_r c89 58 (upd (c89.1 58) (3 : Int32).toNatClampNeg r82)) (fun (c91 : gm) => clE N 2 c91)) else some c83)) = clE N 2 f4 := by
    rw [show m_X10_number N 55 0 9 e1 = some (nI u, e3) from n2, gb2_e, if_pos h35, gv_e, gv_e, i_2, i_3, gr_s, ← ef4]
  rw [M2]
  have hI4 : gIn n b c4 f4 a3 := by
    rw [ec4, ef4]
    exact gIn_c (gIn_u (gIn_u (gIn_o hI2 hO3) _ (by omega)) _ (by omega)) (gr_n _ _ (by omega)) (gr_n _ _ (by omega))
  have F4 : fmC c c4 := by rw [ec4]; exact fmC_t F2 (fmC_t (fmC_f (frc_F hO3.1)) (fmC_u _ (by omega)))
  have F4d : fmD d f4 := by rw [ef4]; exact fmD_t (fmD_f (frm_F hO.2.1)) (fmD_t (fmD_f (frm_F hO3.2.1)) (fmD_t (fmD_u _ (Or.inl rfl)) (fmD_u _ (Or.inl rfl))))
  rcases sign_two (x := 59) hI4 hN (by decide) with ⟨c6, e6, a6, ha6, t1, t2, hO6⟩ | ⟨c6, e6, t1, t2, hO6⟩
  · left
    have h65 : e6.1 55 5 = 0 := by rw [hO6.2.1.2.2 5 (by omega)]; exact hI4.2.2.2.2.2
    have eE := clE_ok (N := N) (d := f4) (d2 := e6) 2 (by omega) t2 h65
    rw [if_neg (by decide)] at eE
    refine ⟨c4, c6, e6, a6, th, m, v, u, by omega, X2, t1, eE, gIn_o hI4 hO6, ?_, fmC_t F4 (fmC_f (frc_F hO6.1)), fmD_t F4d (fmD_f (frm_F hO6.2.1)), ?_, ?_⟩
    · have q6 : ∀ i, i ≠ 1 → c6.1 i = c4.1 i := hO6.1.1
      have q6d : ∀ i, i ≠ 55 → e6.1 i = f4.1 i := hO6.2.1.1
      have q3 : ∀ i, i ≠ 1 → c3.1 i = c2.1 i := hO3.1.1
      have q3d : ∀ i, i ≠ 55 → e3.1 i = e1.1 i := hO3.2.1.1
      have q1 : ∀ i, i ≠ 1 → c1.1 i = c.1 i := hO.1.1
      have q1d : ∀ i, i ≠ 55 → e1.1 i = d.1 i := hO.2.1.1
      have y9 : c6.1 9 = upd (upd (c.1 9) 7 (nI v)) 8 (nI u) := by rw [q6 9 (by omega), ec4, gr_s, q3 9 (by omega), ec2, gr_s, q1 9 (by omega)]
      have yo : ∀ i, 10 ≤ i → c6.1 i = c.1 i := fun i hi => by rw [q6 i (by omega), ec4, gr_n _ _ (by omega), q3 i (by omega), ec2, gr_n _ _ (by omega), q1 i (by omega)]
      have y58 : e6.1 58 = upd (upd (d.1 58) 2 (nI v)) 3 (nI u) := by rw [q6d 58 (by omega), ef4, gr_s, q3d 58 (by omega), q1d 58 (by omega)]
      have yd : ∀ i, i ≠ 55 → i ≠ 58 → e6.1 i = d.1 i := fun i i1 i2 => by rw [q6d i i1, ef4, gr_n _ _ i2, gr_n _ _ i2, q3d i i1, q1d i i1]
      refine ⟨t8, m10, by omega, by omega, ⟨?_, ?_, ?_, ?_, ?_, ?_⟩, ⟨?_, ?_, ?_, ?_⟩, fun z hz2 => ?_, fun z hz2 => by rw [yo 12 (by omega)]; exact hz z hz2, fun k hk => ?_⟩
      · rw [y9, up_n _ _ (by omega), up_n _ _ (by omega)]; exact k5
      · rw [y9, up_n _ _ (by omega), up_n _ _ (by omega)]; exact k6
      · rw [y9, up_n _ _ (by omega), up_s]
      · rw [y9, up_s]
      · rw [y9, up_n _ _ (by omega), up_n _ _ (by omega)]; exact k9
      · rw [y9, up_n _ _ (by omega), up_n _ _ (by omega)]; exact k10
      · rw [y58, up_n _ _ (by omega), up_n _ _ (by omega)]; exact d0
      · rw [y58, up_n _ _ (by omega), up_n _ _ (by omega)]; exact d1
      · rw [y58, up_n _ _ (by omega), up_s]
      · rw [y58, up_s]
      · rw [yo 10 (by omega), yo 11 (by omega), yd 60 (by omega) (by omega)]
        exact hw z hz2
      · rw [yo 14 (by omega), yd _ (by omega) (by omega)]
        exact hcr k hk
    · rw [hO6.1.2.2 7 (by omega) (by omega) (by omega), ec4, gr_n _ _ (by omega), hO3.1.2.2 7 (by omega) (by omega) (by omega), ec2, gr_n _ _ (by omega), hO.1.2.2 7 (by omega) (by omega) (by omega)]
    · rw [hO6.2.1.2.2 7 (by omega), ef4, gr_n _ _ (by omega), gr_n _ _ (by omega), hO3.2.1.2.2 7 (by omega), hO.2.1.2.2 7 (by omega)]
  · right; right
    obtain ⟨d5, eE, fE, gE⟩ := clE_no (N := N) (d := f4) (d2 := e6) 2 (by omega) t2 (gFl_5 hO6.2.2)
    exact ⟨c4, c6, d5, X2, t1, eE, gFm_d (fmC_t F4 (fmC_f hO6.1)) (fmD_t F4d (fmD_f hO6.2.1)) hO6.2.2 fE (by rw [gE]) (by rw [gE]) (by rw [gE]; exact gFl_t hO6.2.2)⟩
/-- a word no longer than nothing is none of the strings -/
theorem isW_0 {b : Nat → Nat} {s w : Nat} (hw : w < 16) : ¬ isW b s s w := by
  rintro ⟨h, -⟩
  have := (gs_ok w hw).2.1
  omega
theorem gs_l {w : Nat} (h : w = 0 ∨ (2 ≤ w ∧ w < 16)) : w < 16 ∧ gsn w ≤ 6 := by
  have hh : ∀ w, w < 16 → w ≠ 1 → gsn w ≤ 6 := by decide +kernel
  exact ⟨by omega, hh w (by omega) (by omega)⟩
theorem kind_d {n s N : Nat} {b : Nat → Nat} {d : gm} (h : gNb n b d s) (hN : 700 < N) : (isW b s (pScan (pLt b) n s) 3 ∧ m_X10_kindHere N 55 d = some (0, d)) ∨ (¬ isW b s (pScan (pLt b) n s) 3 ∧ isW b s (pScan (pLt b) n s) 9 ∧ m_X10_kindHere N 55 d = some (1, d)) ∨ (¬ isW b s (pScan (pLt b) n s) 3 ∧ ¬ isW b s (pScan (pLt b) n s) 9 ∧ isW b s (pScan (pLt b) n s) 10 ∧ m_X10_kindHere N 55 d = some (2, d)) ∨ (¬ isW b s (pScan (pLt b) n s) 3 ∧ ¬ isW b s (pScan (pLt b) n s) 9 ∧ ¬ isW b s (pScan (pLt b) n s) 10 ∧ m_X10_kindHere N 55 d = some (-1, d)) := by
  unfold m_X10_kindHere
  rcases isw_n h hN (by decide) (by decide) sx_thing with ⟨q1, e1⟩ | ⟨q1, e1⟩
  · left
    exact ⟨q1, by rw [gc_1 (show gck 55 = 10 from rfl), gb2_x e1, if_neg (by decide)]⟩
  · right
    rcases isw_n h hN (by decide) (by decide) sx_cry with ⟨q2, e2⟩ | ⟨q2, e2⟩
    · left
      exact ⟨q1, q2, by rw [gc_1 (show gck 55 = 10 from rfl), gb2_x e1, if_pos rfl, gb2_x e2, if_neg (by decide)]⟩
    · right
      rcases isw_n h hN (by decide) (by decide) sx_beam with ⟨q3, e3⟩ | ⟨q3, e3⟩
      · left
        exact ⟨q1, q2, q3, by rw [gc_1 (show gck 55 = 10 from rfl), gb2_x e1, if_pos rfl, gb2_x e2, if_pos rfl, gb2_x e3, if_neg (by decide)]⟩
      · right
        exact ⟨q1, q2, q3, by rw [gc_1 (show gck 55 = 10 from rfl), gb2_x e1, if_pos rfl, gb2_x e2, if_pos rfl, gb2_x e3, if_pos rfl]⟩
/-- how a clause ends -/
def gCq (n : Nat) (b : Nat → Nat) (N : Nat) (c d : gm) (a k : Nat) (x : Option (Int32 × gm)) (y : Option gm) : Prop := (k < 60 ∧ ∃ c1 c2 d2 a2 th m l p, a < a2 ∧ x = some (1, c1) ∧ m_X7_takeSign N 1 59 c1 = some (1, c2) ∧ y = some d2 ∧ gIn n b c2 d2 a2 ∧ gMk th m l p c2 d2 ∧ fmC c c2 ∧ fmD d d2 ∧ c2.1 1 7 = c.1 1 7 ∧ d2.1 55 7 = nI (k + 1)) ∨ (∃ c2 d2, x = some (0, c2) ∧ y = some d2 ∧ gFm n c d c2 d2) ∨ ∃ c1 c2 d2, x = some (1, c1) ∧ m_X7_takeSign N 1 59 c1 = some (0, c2) ∧ y = some d2 ∧ gFm n c d c2 d2
theorem gCq_l {n N a a0 k : Nat} {b : Nat → Nat} {c d c0 d0 : gm} {x x0 : Option (Int32 × gm)} {y y0 : Option gm} (h : gCl n b N c d a x y) (hk : k < 60) (ha : a0 ≤ a) (hx : x0 = x) (hy : y0 = y) (fc : fmC c0 c) (fd : fmD d0 d) (h17 : c.1 1 7 = c0.1 1 7) (h7 : d.1 55 7 = nI (k + 1)) : gCq n b N c0 d0 a0 k x0 y0 := by
  subst hx
  subst hy
  rcases h with ⟨c1, c2, d2, a2, th, m, l, p, r1, r2, r3, r4, r5, r6, r7, r8, r9, r10⟩ | ⟨c2, d2, r1, r2, r3, r4, k', q', r5⟩ | ⟨c1, c2, d2, r1, r2, r3, r4, r5, k', q', r6⟩
  · exact Or.inl ⟨hk, c1, c2, d2, a2, th, m, l, p, by omega, r2, r3, r4, r5, r6, fmC_t fc r7, fmD_t fd r8, r9.trans h17, r10.trans h7⟩
  · exact Or.inr (Or.inl ⟨c2, d2, r1, r2, fmC_t fc r3, fmD_t fd r4, k', q', r5⟩)
  · exact Or.inr (Or.inr ⟨c1, c2, d2, r1, r2, r3, fmC_t fc r4, fmD_t fd r5, k', q', r6⟩)
theorem clK_f {N : Nat} {r : Int32} {d : gm} (h : ¬ d.1 55 5 = 0) : clK N r d = some d := by
  unfold clK
  rw [if_neg h]
theorem dFl_5 {d : gm} {k q : Nat} (h1 : 1 ≤ k) (h3 : k ≤ 3) : ¬ (dFl d k q).1 55 5 = 0 := by
  unfold dFl
  rw [gr_s, up_n _ _ (by omega), up_s, n_l0, n_eq (by omega) (by decide)]
  omega
theorem gFm_w {n k q a : Nat} {c d c1 : gm} (f : frc c c1) (hk1 : 1 ≤ k) (hk3 : k ≤ 3) (hq : q ≤ 600) (ha : a ≤ n) (hd : d.1 55 4 = nI a) : gFm n c d (cFl c1 k q) (dFl d k q) := by
  obtain ⟨g1, g2, g3⟩ := gNo_w (n := n) (k := k) (q := q) (c := c1) (d := d) hk1 hk3 hq ha hd
  exact gFm_s (fmC_t (fmC_f (frc_F f)) (fmC_f g1)) (fmD_f g2) g3 ⟨fmD_r _, rfl, rfl, id⟩
theorem fail3 (c : gm) (k s : Nat) (h4 : c.1 1 4 = nI s) : gb2 (m_X7_fail 1 (nI k) (c.1 1 4) c) (fun (r19 : Int32) (c20 : gm) => gc (r19 = 0 ∨ r19 = 1) (some (r19, c20))) = some (0, cFl c k s) := by
  rw [h4, gb2_x (fail_c c k s), gc_1 (Or.inl rfl)]
theorem clause_two {n s k th m l p N : Nat} {b : Nat → Nat} {c d : gm} (h : gIn n b c d s) (hM : gMk th m l p c d) (hx : ¬ (s < n ∧ pBl b s = true)) (hk : k ≤ 60) (h7 : d.1 55 7 = nI k) (hN : 700 < N) : gCq n b N c d s k (m_X6_readClause N 9 1 (nI k) c) (m_X10_clause N 55 d) := by
  obtain ⟨hc, hd, h3, h4, hsn, h5⟩ := id h
  obtain ⟨t8, m10, l18, p9, ⟨k5, k6, k7, k8, k9, k10⟩, ⟨d0, d1, d2', d3'⟩, hw, hz, hcr⟩ := id hM
  have hn := hc.1
  have hNb : gNb n b d s := ⟨hd, h4, hsn, h5, hx⟩
  have hle := pScan_le (p := pLt b) hsn
  have hwd := word_c hc h3 hsn hN
  rw [pScan_e hx] at hwd
  have esk := skip_d hd h4 hsn hN
  rw [clause_e, gc_1 (show gck 55 = 10 from rfl)]
  have bad1 : m_X10_kindHere N 55 d = some (-1, d) → gb2 (m_X10_kindHere N 55 d) (fun (r4 : Int32) (c5 : gm) => if r4 = (-1) then gb (m_X10_wrong 55 1 (c5.1 55 4) c5) (fun (c113 : gm) => clK N r4 c113) else if (c5.1 55 7) = 60 then gb (m_X10_wrong 55 3 (c5.1 55 4) c5) (fun (c101 : gm) => clK N r4 c101) else if 2 ≤ r4 then clK N r4 c5 else gc (0 ≤ r4.toInt ∧ r4.toInt < 4) (gb (m_X10_mostOf r4) (fun (r109 : Int32) => if (c5.1 58 r4.toNatClampNeg) = r109 then gb (m_X10_wrong 55 3 (c5.1 55 4) c5) (fun (c101 : gm) => clK N r4 c101) else clK N r4 c5))) = some (dFl d 1 s) := by
    intro e
    rw [gb2_x e, if_pos rfl, h4, show m_X10_wrong 55 1 (nI s) d = some (dFl d 1 s) from wrong_d h5 1 s, gb_e, clK_f (dFl_5 (by omega) (by omega))]
  rcases hwd with ⟨q, ew⟩ | ⟨q, ew⟩
  rotate_left
  · right; left
    refine ⟨cFl (cPk c s) 1 s, dFl d 1 s, ?_, bad1 ?_, gFm_w (cPk_f c s) (by omega) (by omega) (by omega) hsn h4⟩
    · unfold m_X6_readClause; simp only [gj_e]
      rw [gc_1 (show gck 1 = 7 from rfl), gb2_x ew, if_pos rfl]
    · have z : ∀ w, w < 16 → ¬ isW b s (pScan (pLt b) n s) w := fun w hw => by rw [q]; exact isW_0 hw
      rcases kind_d hNb hN with ⟨q1, -⟩ | ⟨-, q1, -⟩ | ⟨-, -, q1, -⟩ | ⟨-, -, -, e⟩
      · exact absurd q1 (z 3 (by omega))
      · exact absurd q1 (z 9 (by omega))
      · exact absurd q1 (z 10 (by omega))
      · exact e
  generalize hee : pScan (pLt b) n s = e at *
  obtain ⟨c5, ec5⟩ : ∃ z, z = cAt (cPk c s) e := ⟨_, rfl⟩
  rw [← ec5] at ew
  have f5 : frc c c5 := by rw [ec5]; exact frc_t (cPk_f c s) (cAt_f _ _)
  have c53 : c5.1 1 3 = nI e := by rw [ec5]; exact cAt_3 _ _
  have c54 : c5.1 1 4 = nI s := by rw [ec5]; unfold cAt; rw [gr_s, up_n _ _ (by omega)]; exact (cPk_s c s).2
  have hc5 := gTc_f hc (frc_F f5)
  have y5 : c5.1 9 5 = nI th := by rw [f5.1 9 (by omega)]; exact k5
  have y6 : c5.1 9 6 = nI m := by rw [f5.1 9 (by omega)]; exact k6
  obtain ⟨d5, ed5⟩ : ∃ z, z = gm_r (dAt d e) 55 (upd ((dAt d e).1 55) 7 (nI (k + 1))) := ⟨_, rfl⟩
  have d57 : d5.1 55 7 = nI (k + 1) := by rw [ed5, gr_s, up_s]
  have hI5 : gIn n b c5 d5 e := by
    refine ⟨hc5, ⟨hd.1, ?_, fun j hj => ?_⟩, c53, ?_, hle.2, ?_⟩
    · rw [ed5, gr_s, up_n _ _ (by omega), (dAt_f d e).2.2 2 (by omega)]; exact hd.2.1
    · rw [ed5, gr_n _ _ (by omega), (dAt_f d e).1 56 (by omega)]; exact hd.2.2 j hj
    · rw [ed5, gr_s, up_n _ _ (by omega)]; exact dAt_4 d e
    · rw [ed5, gr_s, up_n _ _ (by omega), (dAt_f d e).2.2 5 (by omega)]; exact h5
  have F5 : fmD d d5 := by
    rw [ed5]
    exact fmD_t (fmD_f (frm_F (dAt_f d e))) ⟨fun i i1 _ _ _ => gr_n _ _ i1, rfl, fun z hz2 => by rw [gr_s, up_n _ _ (by omega)]⟩
  have d5o : ∀ i, i ≠ 55 → d5.1 i = d.1 i := fun i hi => by rw [ed5, gr_n _ _ hi, (dAt_f d e).1 i hi]
  have hM5 : gMk th m l p c5 d5 := by
    refine ⟨t8, m10, l18, p9, ?_, ?_, fun z hz2 => ?_, fun z hz2 => ?_, fun z hz2 => ?_⟩
    · rw [f5.1 9 (by omega)]; exact ⟨k5, k6, k7, k8, k9, k10⟩
    · rw [d5o 58 (by omega)]; exact ⟨d0, d1, d2', d3'⟩
    · rw [f5.1 10 (by omega), f5.1 11 (by omega), d5o 60 (by omega)]; exact hw z hz2
    · rw [f5.1 12 (by omega)]; exact hz z hz2
    · rw [f5.1 14 (by omega), d5o _ (by omega)]; exact hcr z hz2
  have d518 : ∀ z, d5.1 58 z = d.1 58 z := fun z => by rw [d5o 58 (by omega)]
  have eK : ∀ r : Int32, clK N r d = if 2 ≤ r then clT N r d5 0 else gc (0 ≤ r.toInt ∧ r.toInt < 4) (clT N r d5 (d.1 58 r.toNatClampNeg)) := by
    intro r
    unfold clK
    rw [if_pos h5, gb_x esk, (dAt_f d e).2.2 7 (by omega), h7, n_s, gv_e, ← ed5, d518]
  have hFc : fmC c c5 := fmC_f (frc_F f5)
  have h17 : c5.1 1 7 = c.1 1 7 := f5.2.2 7 (by omega) (by omega) (by omega)
  have wr3 : m_X10_wrong 55 3 (d.1 55 4) d = some (dFl d 3 s) := by rw [h4]; exact wrong_d h5 3 s
  have hq600 : s ≤ 600 := by omega
  have z3 : gFm n c d (cFl c5 3 s) (dFl d 3 s) := gFm_w f5 (by omega) (by omega) hq600 hsn h4
  have f3 : gb2 (m_X7_fail 1 3 (c5.1 1 4) c5) (fun (r19 : Int32) (c20 : gm) => gc (r19 = 0 ∨ r19 = 1) (some (r19, c20))) = some (0, cFl c5 3 s) := fail3 c5 3 s c54
  have f1 : gb2 (m_X7_fail 1 1 (c5.1 1 4) c5) (fun (r19 : Int32) (c20 : gm) => gc (r19 = 0 ∨ r19 = 1) (some (r19, c20))) = some (0, cFl c5 1 s) := fail3 c5 1 s c54
  have w3 := wi_c (w := 3) hc5 c53 c54 (by omega) hle.2 (by omega) hN
  have w9 := wi_c (w := 9) hc5 c53 c54 (by omega) hle.2 (by omega) hN
  have w10 := wi_c (w := 10) hc5 c53 c54 (by omega) hle.2 (by omega) hN
  have hkd := kind_d hNb hN
  rw [hee] at hkd
  have X0 : m_X6_readClause N 9 1 (nI k) c = gb (m_X7_wordIs N 1 3 c5) (fun (r10 : Int32) => (if r10 = 0 then gb (m_X7_wordIs N 1 9 c5) (fun (r13 : Int32) => (if r13 = 0 then gb (m_X7_wordIs N 1 10 c5) (fun (r16 : Int32) => (if r16 = 0 then some (0, cFl c5 1 s) else (if k < 60 then gc (gck 9 = 6) (gb2 (m_X6_readBeam N 9 1 c5) (fun (r26 : Int32) (c27 : gm) => gc (r26 = 0 ∨ r26 = 1) (some (r26, c27)))) else some (0, cFl c5 3 s)))) else (if k < 60 ∧ m < 10 then gb2 (m_X6_readCry N 9 1 c5) (fun (r43 : Int32) (c44 : gm) => gc (r43 = 0 ∨ r43 = 1) (some (r43, c44))) else some (0, cFl c5 3 s)))) else (if k < 60 ∧ th < 8 then gb2 (m_X6_readThing N 9 1 c5) (fun (r56 : Int32) (c57 : gm) => gc (r56 = 0 ∨ r56 = 1) (some (r56, c57))) else some (0, cFl c5 3 s)))) := by
    unfold m_X6_readClause; simp only [gj_e]
    rw [gc_1 (show gck 1 = 7 from rfl), gb2_x ew, if_neg (by decide), f1, f3, y5, y6]
    by_cases q6 : k < 60
    · rw [if_pos (by rw [n_l60, n_lt (by omega) (by decide)]; exact q6)]
      simp only [if_true, q6, true_and, gc_1 (show gck 9 = 6 from rfl)]
      by_cases qm : m < 10
      · by_cases qt : th < 8
        · rw [if_pos (show nI m < 10 by rw [n_l10, n_lt (by omega) (by decide)]; exact qm), if_pos (show nI th < 8 by rw [n_l8, n_lt (by omega) (by decide)]; exact qt), if_pos qm, if_pos qt]
        · rw [if_pos (show nI m < 10 by rw [n_l10, n_lt (by omega) (by decide)]; exact qm), if_neg (show ¬ nI th < 8 by rw [n_l8, n_lt (by omega) (by decide)]; exact qt), if_pos qm, if_neg qt]
      · by_cases qt : th < 8
        · rw [if_neg (show ¬ nI m < 10 by rw [n_l10, n_lt (by omega) (by decide)]; exact qm), if_pos (show nI th < 8 by rw [n_l8, n_lt (by omega) (by decide)]; exact qt), if_neg qm, if_pos qt]
        · rw [if_neg (show ¬ nI m < 10 by rw [n_l10, n_lt (by omega) (by decide)]; exact qm), if_neg (show ¬ nI th < 8 by rw [n_l8, n_lt (by omega) (by decide)]; exact qt), if_neg qm, if_neg qt]
    · rw [if_neg (by rw [n_l60, n_lt (by omega) (by decide)]; exact q6)]
      simp only [show ¬ ((1 : Int32) = 0) by decide, if_false, q6, false_and]
  have gcx : ∀ (x : Option (Int32 × gm)), (∃ v cc, x = some (v, cc) ∧ (v = 0 ∨ v = 1)) → gb2 x (fun (r43 : Int32) (c44 : gm) => gc (r43 = 0 ∨ r43 = 1) (some (r43, c44))) = x := by
    rintro x ⟨v, cc, rfl, hv⟩
    rw [gb2_e, gc_1 hv]
  have gcl : ∀ {x : Option (Int32 × gm)} {y : Option gm} {cc dd : gm} {aa : Nat}, gCl n b N cc dd aa x y → ∃ v c', x = some (v, c') ∧ (v = 0 ∨ v = 1) := by
    rintro x y cc dd aa (⟨c1, c2, d2, a2, th, m, l, p, r1, r2, -⟩ | ⟨c2, d2, r1, -⟩ | ⟨c1, c2, d2, r1, -⟩)
    · exact ⟨1, c1, r2, Or.inr rfl⟩
    · exact ⟨0, c2, r1, Or.inl rfl⟩
    · exact ⟨1, c1, r1, Or.inr rfl⟩
  have k60 : (d.1 55 7 = 60) = (k = 60) := by rw [h7, n_l60, n_eq (by omega) (by decide)]
  rcases w3 with ⟨W3, v3⟩ | ⟨W3, v3⟩
  · have ekd : m_X10_kindHere N 55 d = some (0, d) := by
      rcases hkd with ⟨-, e⟩ | ⟨q1, -⟩ | ⟨q1, -⟩ | ⟨q1, -⟩
      · exact e
      · exact absurd W3 q1
      · exact absurd W3 q1
      · exact absurd W3 q1
    rw [X0, gb_x v3, if_neg (show ¬ (1 : Int32) = 0 by decide), gb2_x ekd, if_neg (show ¬ (0 : Int32) = -1 by decide)]
    by_cases q6 : k < 60 ∧ th < 8
    · have hT := rThing hI5 hM5 q6.2 hN
      rw [if_pos q6, gcx _ (gcl hT), if_neg (show ¬ d.1 55 7 = 60 by rw [k60]; omega), if_neg (by decide), gc_1 (by decide), show m_X10_mostOf 0 = some 8 from rfl, gb_e, n_cl0, d0, if_neg (by rw [n_l8, n_eq (by omega) (by decide)]; omega), eK, if_neg (by decide), gc_1 (by decide), n_cl0, d0]
      exact gCq_l hT q6.1 (by omega) rfl rfl hFc F5 h17 d57
    · right; left
      refine ⟨cFl c5 3 s, dFl d 3 s, by rw [if_neg q6], ?_, z3⟩
      by_cases q7 : k = 60
      · rw [if_pos (show d.1 55 7 = 60 by rw [k60]; exact q7), gb_x wr3, clK_f (dFl_5 (by omega) (by omega))]
      · rw [if_neg (show ¬ d.1 55 7 = 60 by rw [k60]; exact q7), if_neg (by decide), gc_1 (by decide), show m_X10_mostOf 0 = some 8 from rfl, gb_e, n_cl0, d0, if_pos (by rw [show th = 8 by omega]; rfl), gb_x wr3, clK_f (dFl_5 (by omega) (by omega))]
  · rw [X0, gb_x v3, if_pos rfl]
    rcases w9 with ⟨W9, v9⟩ | ⟨W9, v9⟩
    · have ekd : m_X10_kindHere N 55 d = some (1, d) := by
        rcases hkd with ⟨q1, -⟩ | ⟨-, -, e⟩ | ⟨-, q1, -⟩ | ⟨-, q1, -⟩
        · exact absurd q1 W3
        · exact e
        · exact absurd W9 q1
        · exact absurd W9 q1
      rw [gb_x v9, if_neg (show ¬ (1 : Int32) = 0 by decide), gb2_x ekd, if_neg (show ¬ (1 : Int32) = -1 by decide)]
      by_cases q6 : k < 60 ∧ m < 10
      · have hT := rCry hI5 hM5 q6.2 hN
        rw [if_pos q6, gcx _ (gcl hT), if_neg (show ¬ d.1 55 7 = 60 by rw [k60]; omega), if_neg (by decide), gc_1 (by decide), show m_X10_mostOf 1 = some 10 from rfl, gb_e, n_cl1, d1, if_neg (by rw [n_l10, n_eq (by omega) (by decide)]; omega), eK, if_neg (by decide), gc_1 (by decide), n_cl1, d1]
        exact gCq_l hT q6.1 (by omega) rfl rfl hFc F5 h17 d57
      · right; left
        refine ⟨cFl c5 3 s, dFl d 3 s, by rw [if_neg q6], ?_, z3⟩
        by_cases q7 : k = 60
        · rw [if_pos (show d.1 55 7 = 60 by rw [k60]; exact q7), gb_x wr3, clK_f (dFl_5 (by omega) (by omega))]
        · rw [if_neg (show ¬ d.1 55 7 = 60 by rw [k60]; exact q7), if_neg (by decide), gc_1 (by decide), show m_X10_mostOf 1 = some 10 from rfl, gb_e, n_cl1, d1, if_pos (by rw [show m = 10 by omega]; rfl), gb_x wr3, clK_f (dFl_5 (by omega) (by omega))]
    · rw [gb_x v9, if_pos rfl]
      rcases w10 with ⟨W10, v10⟩ | ⟨W10, v10⟩
      · have ekd : m_X10_kindHere N 55 d = some (2, d) := by
          rcases hkd with ⟨q1, -⟩ | ⟨-, q1, -⟩ | ⟨-, -, -, e⟩ | ⟨-, -, q1, -⟩
          · exact absurd q1 W3
          · exact absurd q1 W9
          · exact e
          · exact absurd W10 q1
        rw [gb_x v10, if_neg (show ¬ (1 : Int32) = 0 by decide), gb2_x ekd, if_neg (show ¬ (2 : Int32) = -1 by decide)]
        by_cases q6 : k < 60
        · have hT := rBeam hI5 hM5 hN
          rw [if_pos q6, gc_1 (show gck 9 = 6 from rfl), gcx _ (gcl hT), if_neg (show ¬ d.1 55 7 = 60 by rw [k60]; omega), if_pos (by decide), eK, if_pos (by decide)]
          exact gCq_l hT q6 (by omega) rfl rfl hFc F5 h17 d57
        · right; left
          refine ⟨cFl c5 3 s, dFl d 3 s, by rw [if_neg q6], ?_, z3⟩
          rw [if_pos (show d.1 55 7 = 60 by rw [k60]; omega), gb_x wr3, clK_f (dFl_5 (by omega) (by omega))]
      · right; left
        refine ⟨cFl c5 1 s, dFl d 1 s, by rw [gb_x v10, if_pos rfl], bad1 ?_, gFm_w f5 (by omega) (by omega) hq600 hsn h4⟩
        rcases hkd with ⟨q1, -⟩ | ⟨-, q1, -⟩ | ⟨-, -, q1, -⟩ | ⟨-, -, -, e⟩
        · exact absurd q1 W3
        · exact absurd q1 W9
        · exact absurd q1 W10
        · exact e
