set_option maxRecDepth 16384
theorem gk_rc : ∀ k, k < 10 → gck (62 + 1 + k) = 22 ∧ gal (62 + 1 + k) = 4 := by decide +kernel
def clR3 (N : Nat) (v13 : Int32) (c69 : gm) : Option gm := gc (0 ≤ v13.toInt ∧ v13.toInt < 10) (gb2 (m_X10_number N 55 1 9 c69) (fun (r72 : Int32) (c73 : gm) => gc (0 ≤ (3 : Int32).toInt ∧ (3 : Int32).toInt < ((gal (62 + 1 + v13.toNatClampNeg)) : Nat)) (gv (gm_r c73 (62 + 1 + v13.toNatClampNeg) (upd (c73.1 (62 + 1 + v13.toNatClampNeg)) (3 : Int32).toNatClampNeg r72)) (fun (c75 : gm) => clE N 1 c75))))
def clR2 (N : Nat) (v13 : Int32) (c60 : gm) : Option gm := gc (0 ≤ v13.toInt ∧ v13.toInt < 10) (gc (0 ≤ v13.toInt ∧ v13.toInt < 10) (gc (0 ≤ (0 : Int32).toInt ∧ (0 : Int32).toInt < ((gal (62 + 1 + v13.toNatClampNeg)) : Nat)) (gb2 (m_X10_otherThing N 55 (c60.1 (62 + 1 + v13.toNatClampNeg) (0 : Int32).toNatClampNeg) (c60.1 58 (0 : Int32).toNatClampNeg) c60) (fun (r66 : Int32) (c67 : gm) => gc (0 ≤ (2 : Int32).toInt ∧ (2 : Int32).toInt < ((gal (62 + 1 + v13.toNatClampNeg)) : Nat)) (gv (gm_r c67 (62 + 1 + v13.toNatClampNeg) (upd (c67.1 (62 + 1 + v13.toNatClampNeg)) (2 : Int32).toNatClampNeg r66)) (fun (c69 : gm) => clR3 N v13 c69))))))
def clR1 (N : Nat) (v13 : Int32) (c54 : gm) : Option gm := gc (0 ≤ v13.toInt ∧ v13.toInt < 10) (gb2 (m_X10_number N 55 1 9 c54) (fun (r57 : Int32) (c58 : gm) => gc (0 ≤ (1 : Int32).toInt ∧ (1 : Int32).toInt < ((gal (62 + 1 + v13.toNatClampNeg)) : Nat)) (gv (gm_r c58 (62 + 1 + v13.toNatClampNeg) (upd (c58.1 (62 + 1 + v13.toNatClampNeg)) (1 : Int32).toNatClampNeg r57)) (fun (c60 : gm) => clR2 N v13 c60))))
theorem clT_1 (N : Nat) (d : gm) (v13 : Int32) : clT N 1 d v13 = gc (0 ≤ v13.toInt ∧ v13.toInt < 10) (gb2 (m_X10_number N 55 0 ((d.1 58 (0 : Int32).toNatClampNeg) - 1) d) (fun (r49 : Int32) (c50 : gm) => gc (gck (62 + 1 + v13.toNatClampNeg) = 22) (gc (0 ≤ (0 : Int32).toInt ∧ (0 : Int32).toInt < ((gal (62 + 1 + v13.toNatClampNeg)) : Nat)) (gv (gm_r c50 (62 + 1 + v13.toNatClampNeg) (upd (c50.1 (62 + 1 + v13.toNatClampNeg)) (0 : Int32).toNatClampNeg r49)) (fun (c54 : gm) => clR1 N v13 c54))))) := by
  unfold clT
  rw [if_neg (by decide), if_pos rfl]
  rfl
theorem i_3 : (3 : Int32).toNatClampNeg = 3 := rfl
theorem i_2 : (2 : Int32).toNatClampNeg = 2 := rfl
theorem r_4 {x : Int32} (h : x = 0 ∨ x = 1 ∨ x = 2 ∨ x = 3) : 0 ≤ x.toInt ∧ x.toInt < ((4 : Nat) : Int) := by rcases h with rfl | rfl | rfl | rfl <;> decide
/-- the fault stays -/
def gSf (n : Nat) (d d2 : gm) : Prop := fmD d d2 ∧ d2.1 55 5 = d.1 55 5 ∧ d2.1 55 6 = d.1 55 6 ∧ ((∃ a2, a2 ≤ n ∧ d.1 55 4 = nI a2) → ∃ a2, a2 ≤ n ∧ d2.1 55 4 = nI a2)
theorem gSf_t {n : Nat} {a b c : gm} (h : gSf n a b) (g : gSf n b c) : gSf n a c := ⟨fmD_t h.1 g.1, g.2.1.trans h.2.1, g.2.2.1.trans h.2.2.1, fun q => g.2.2.2 (h.2.2.2 q)⟩
theorem gSf_u {n : Nat} {d : gm} {i : Nat} (f : Nat → Int32) (h : i = 58 ∨ i = 60 ∨ (63 ≤ i ∧ i ≤ 72)) : gSf n d (gm_r d i f) := ⟨fmD_u f h, by rw [gr_n _ _ (by omega)], by rw [gr_n _ _ (by omega)], fun q => by rw [gr_n _ _ (by omega)]; exact q⟩
theorem clE_f {n N : Nat} {d : gm} (r : Nat) (hr : r < 3) (h5 : ¬ d.1 55 5 = 0) : ∃ d3, clE N (nI r) d = some d3 ∧ gSf n d d3 := by
  obtain ⟨d3, e, f, g⟩ := clE_no (N := N) (d := d) (d2 := d) r hr (sign_f h5) h5
  exact ⟨d3, e, f, by rw [g], by rw [g], fun q => by rw [g]; exact q⟩
theorem clR3_f {n N m : Nat} {d : gm} (hm : m < 10) (h5 : ¬ d.1 55 5 = 0) : ∃ d3, clR3 N (nI m) d = some d3 ∧ gSf n d d3 := by
  obtain ⟨k1, k2⟩ := gk_rc m hm
  have hu := gSf_u (n := n) (d := d) (i := 62 + 1 + m) (upd (d.1 (62 + 1 + m)) 3 0) (by omega)
  obtain ⟨d3, e, f⟩ := clE_f (n := n) (N := N) (d := gm_r d (62 + 1 + m) (upd (d.1 (62 + 1 + m)) 3 0)) 1 (by omega) (by rw [hu.2.1]; exact h5)
  refine ⟨d3, ?_, gSf_t hu f⟩
  unfold clR3
  rw [gc_1 (n_rg (by omega) (by omega)), gb2_x (num_f h5), n_cl (by omega), k2, gc_1 (r_4 (by simp)), gv_e, i_3]
  exact e
theorem clR2_f {n a N m : Nat} {b : Nat → Nat} {d : gm} (hm : m < 10) (hT : gTd n b d) (h4 : d.1 55 4 = nI a) (han : a ≤ n) (h5 : ¬ d.1 55 5 = 0) (hN : 700 < N) : ∃ d3, clR2 N (nI m) d = some d3 ∧ gSf n d d3 := by
  obtain ⟨k1, k2⟩ := gk_rc m hm
  obtain ⟨d2, e2, f2, f4⟩ := oth_f (x := d.1 (62 + 1 + m) 0) (y := d.1 58 0) hT h4 han h5 hN
  have f2' : gSf n d d2 := ⟨fmD_f (frm_F f2), f2.2.2 5 (by omega), f2.2.2 6 (by omega), fun _ => f4⟩
  have hu := gSf_u (n := n) (d := d2) (i := 62 + 1 + m) (upd (d2.1 (62 + 1 + m)) 2 0) (by omega)
  obtain ⟨d3, e, f⟩ := clR3_f (n := n) (N := N) (m := m) (d := gm_r d2 (62 + 1 + m) (upd (d2.1 (62 + 1 + m)) 2 0)) hm (by rw [hu.2.1, f2'.2.1]; exact h5)
  refine ⟨d3, ?_, gSf_t f2' (gSf_t hu f)⟩
  unfold clR2
  rw [gc_1 (n_rg (by omega) (by omega)), gc_1 (n_rg (by omega) (by omega)), n_cl (by omega), k2, gc_1 (r_4 (by simp)), n_cl0, gb2_x e2, gc_1 (r_4 (by simp)), gv_e, i_2]
  exact e
theorem clR1_f {n a N m : Nat} {b : Nat → Nat} {d : gm} (hm : m < 10) (hT : gTd n b d) (h4 : d.1 55 4 = nI a) (han : a ≤ n) (h5 : ¬ d.1 55 5 = 0) (hN : 700 < N) : ∃ d3, clR1 N (nI m) d = some d3 ∧ gSf n d d3 := by
  obtain ⟨k1, k2⟩ := gk_rc m hm
  have hu := gSf_u (n := n) (d := d) (i := 62 + 1 + m) (upd (d.1 (62 + 1 + m)) 1 0) (by omega)
  obtain ⟨d3, e, f⟩ := clR2_f (n := n) (a := a) (b := b) (N := N) (m := m) (d := gm_r d (62 + 1 + m) (upd (d.1 (62 + 1 + m)) 1 0)) hm ⟨hT.1, by rw [gr_n _ _ (by omega)]; exact hT.2.1, by rw [gr_n _ _ (by omega)]; exact hT.2.2⟩ (by rw [gr_n _ _ (by omega)]; exact h4) han (by rw [hu.2.1]; exact h5) hN
  refine ⟨d3, ?_, gSf_t hu f⟩
  unfold clR1
  rw [gc_1 (n_rg (by omega) (by omega)), gb2_x (num_f h5), n_cl (by omega), k2, gc_1 (r_4 (by simp)), gv_e, n_cl1]
  exact e
theorem gFm_s {n : Nat} {c d c2 d2 d3 : gm} (f1 : fmC c c2) (f2 : fmD d d2) (h : gFl n c2 d2) (g : gSf n d2 d3) : gFm n c d c2 d3 := gFm_d f1 f2 h g.1 g.2.1 g.2.2.1 (g.2.2.2 (gFl_t h))
theorem gTd_u {n i : Nat} {b : Nat → Nat} {d : gm} (h : gTd n b d) (f : Nat → Int32) (hi : i ≠ 55 ∧ i ≠ 56) : gTd n b (gm_r d i f) := ⟨h.1, by rw [gr_n _ _ (Ne.symm hi.1)]; exact h.2.1, by rw [gr_n _ _ (Ne.symm hi.2)]; exact h.2.2⟩
theorem gIn_u {n a i : Nat} {b : Nat → Nat} {c d : gm} (h : gIn n b c d a) (f : Nat → Int32) (hi : i ≠ 55 ∧ i ≠ 56) : gIn n b c (gm_r d i f) a := gIn_d h (fun k _ => by rw [gr_n _ _ (Ne.symm hi.1)]) (gr_n _ _ (Ne.symm hi.2))
/-- adding a cry to the class's draft -/
theorem addC_9 {m : Nat} {c : gm} {A N' B K : Int32} (h6 : c.1 9 6 = nI m) (hm : m < 10) : m_X6_addCry 9 A N' B K c = some (gm_r (gm_r c 14 (upd (upd (upd (upd (c.1 14) (4 * m) A) (4 * m + 1) N') (4 * m + 2) B) (4 * m + 3) K)) 9 (upd (c.1 9) 6 (nI (m + 1)))) := by
  have e0 : 4 * nI m + 0 = nI (4 * m) := by rw [n_l4, n_mu, n_l0, n_ad, Nat.add_zero]
  have e1 : 4 * nI m + 1 = nI (4 * m + 1) := by rw [n_l4, n_mu, n_s]
  have e2 : 4 * nI m + 2 = nI (4 * m + 2) := by rw [n_l4, n_mu, n_l2, n_ad]
  have e3 : 4 * nI m + 3 = nI (4 * m + 3) := by rw [n_l4, n_mu, n_l3, n_ad]
  have w9 : ∀ (f : Nat → Int32), (gm_r c (9 + 5) f).1 9 = c.1 9 := fun f => gr_n _ _ (by omega)
  unfold m_X6_addCry
  rw [gc_1 (show gck 9 = 6 from rfl), h6, if_neg (by rw [n_l0, n_lt (by omega) (by decide)]; omega), if_pos (by rw [n_l10, n_lt (by omega) (by decide)]; exact hm), e0, gc_1 (n_rg (by omega) (by omega)), gv_e, n_cl (by omega), w9, h6, e1, gc_1 (n_rg (by omega) (by omega)), gv_e, n_cl (by omega), gr_s, gr_r, w9, h6, e2, gc_1 (n_rg (by omega) (by omega)), gv_e, n_cl (by omega), gr_s, gr_r, w9, h6, e3, gc_1 (n_rg (by omega) (by omega)), gv_e, n_cl (by omega), gr_s, gr_r, gv_e, w9, h6, n_s]
theorem rCry {n a th m l p N : Nat} {b : Nat → Nat} {c d : gm} (h : gIn n b c d a) (hM : gMk th m l p c d) (hm : m < 10) (hN : 700 < N) : gCl n b N c d a (m_X6_readCry N 9 1 c) (clT N 1 d (nI m)) := by
  obtain ⟨t8, m10, l18, p9, ⟨k5, k6, k7, k8, k9, k10⟩, ⟨d0, d1, d2', d3'⟩, hw, hz, hcr⟩ := id hM
  obtain ⟨kc1, kc2⟩ := gk_rc m hm
  have hne : 62 + 1 + m ≠ 55 ∧ 62 + 1 + m ≠ 56 := by omega
  have hrg : (0 ≤ (nI m).toInt ∧ (nI m).toInt < 10) := n_rg (by omega) (by omega)
  have hz4 : ∀ x : Int32, x = 0 ∨ x = 1 ∨ x = 2 ∨ x = 3 → 0 ≤ x.toInt ∧ x.toInt < ((gal (62 + 1 + m) : Nat) : Int) := fun x hx => by rw [kc2]; exact r_4 hx
  rw [clT_1]
  rcases num_two (lo := 0) (H := th) (hi := nI th - 1) h hN (by omega) (by omega) rfl with ⟨c1, e1, a1, v, s, s1, s2, v0, vH, n1, n2, hO, g5, g4, es, hsn⟩ | ⟨c1, e1, n1, n2, hO⟩
  rotate_left
  · right; left
    obtain ⟨a2, ha2, h42⟩ := gFl_t hO.2.2
    have hu := gSf_u (n := n) (d := e1) (i := 62 + 1 + m) (upd (e1.1 (62 + 1 + m)) 0 0) (by omega)
    obtain ⟨d3, eE, fE⟩ := clR1_f (n := n) (a := a2) (b := b) (N := N) (m := m) (d := gm_r e1 (62 + 1 + m) (upd (e1.1 (62 + 1 + m)) 0 0)) hm (gTd_u (gTd_f h.2.1 hO.2.1) _ hne) (by rw [gr_n _ _ (Ne.symm hne.1)]; exact h42) ha2 (by rw [hu.2.1]; exact gFl_5 hO.2.2) hN
    refine ⟨c1, d3, ?_, ?_, gFm_s (fmC_f hO.1) (fmD_f hO.2.1) hO.2.2 (gSf_t hu fE)⟩
    · unfold m_X6_readCry
      rw [gc_1 (show gck 9 = 6 from rfl), gc_1 (show gck 1 = 7 from rfl), k5, n_l0, gb2_x n1, if_pos (show (0 : Int32) = nI 0 from rfl)]
    · rw [gc_1 hrg, n_cl (by omega), n_cl0, d0, show m_X10_number N 55 0 (nI th - 1) d = some (0, e1) from n2, gb2_e, gc_1 kc1, gc_1 (hz4 _ (Or.inl rfl)), gv_e]
      exact eE
  obtain ⟨f1, ef1⟩ : ∃ z, z = gm_r e1 (62 + 1 + m) (upd (e1.1 (62 + 1 + m)) 0 (nI v)) := ⟨_, rfl⟩
  have hI1 : gIn n b c1 f1 a1 := by rw [ef1]; exact gIn_u (gIn_o h hO) _ hne
  have F1 : fmD d f1 := by rw [ef1]; exact fmD_t (fmD_f (frm_F hO.2.1)) (fmD_u _ (by omega))
  have W1 : ∀ i, i ≠ 55 → i ≠ 62 + 1 + m → f1.1 i = d.1 i := fun i i1 i2 => by rw [ef1, gr_n _ _ i2, hO.2.1.1 i i1]
  have P1 : f1.1 55 7 = d.1 55 7 := by rw [ef1, gr_n _ _ (Ne.symm hne.1), hO.2.1.2.2 7 (by omega)]
  have V10 : f1.1 (62 + 1 + m) 0 = nI v := by rw [ef1, gr_s, up_s]
  have M0 : gc (0 ≤ (nI m).toInt ∧ (nI m).toInt < 10) (gb2 (m_X10_number N 55 0 ((d.1 58 (0 : Int32).toNatClampNeg) - 1) d) (fun (r49 : Int32) (c50 : gm) => gc (gck (62 + 1 + (nI m).toNatClampNeg) = 22) (gc (0 ≤ (0 : Int32).toInt ∧ (0 : Int32).toInt < ((gal (62 + 1 + (nI m).toNatClampNeg)) : Nat)) (gv (gm_r c50 (62 + 1 + (nI m).toNatClampNeg) (upd (c50.1 (62 + 1 + (nI m).toNatClampNeg)) (0 : Int32).toNatClampNeg r49)) (fun (c54 : gm) => clR1 N (nI m) c54))))) = clR1 N (nI m) f1 := by
    rw [gc_1 hrg, n_cl (by omega), n_cl0, d0, show m_X10_number N 55 0 (nI th - 1) d = some (nI v, e1) from n2, gb2_e, gc_1 kc1, gc_1 (hz4 _ (Or.inl rfl)), gv_e, ← ef1]
  rw [M0]
  have C1 := hO.1
  have X1 : m_X6_readCry N 9 1 c = gb2 (m_X7_takeNumber N 1 1 9 c1) (fun (r11 : Int32) (c12 : gm) => (if r11 = 0 then some (0, c12) else gv (c12.1 1 5) (fun (x14 : Int32) => gb2 (m_X7_takeOther N 1 (c12.1 9 5) (nI v) c12) (fun (r16 : Int32) (c17 : gm) => (if r16 = 0 then some (0, c17) else gv (c17.1 1 5) (fun (x19 : Int32) => gb2 (m_X7_takeNumber N 1 1 9 c17) (fun (r21 : Int32) (c22 : gm) => (if r21 = 0 then some (0, c22) else gb (m_X6_addCry 9 (nI v) x14 x19 (c22.1 1 5) c22) (fun (c26 : gm) => some (1, c26)))))))))) := by
    unfold m_X6_readCry
    rw [gc_1 (show gck 9 = 6 from rfl), gc_1 (show gck 1 = 7 from rfl), k5, show m_X7_takeNumber N 1 0 (nI th - 1) c = some (1, c1) from n1, gb2_e, if_neg (by decide), gv_e, g5]
  clear n1 n2 M0
  rcases num_two (lo := 1) (H := 10) (hi := 9) hI1 hN (by omega) (by omega) (by decide) with ⟨c2, e2, a2, u, s', s1', s2', u1, uH, n1, n2, hO2, g52, g42, es2, hsn2⟩ | ⟨c2, e2, n1, n2, hO2⟩
  rotate_left
  · right; left
    obtain ⟨a2, ha2, h42⟩ := gFl_t hO2.2.2
    have hu := gSf_u (n := n) (d := e2) (i := 62 + 1 + m) (upd (e2.1 (62 + 1 + m)) 1 0) (by omega)
    obtain ⟨d3, eE, fE⟩ := clR2_f (n := n) (a := a2) (b := b) (N := N) (m := m) (d := gm_r e2 (62 + 1 + m) (upd (e2.1 (62 + 1 + m)) 1 0)) hm (gTd_u (gTd_f hI1.2.1 hO2.2.1) _ hne) (by rw [gr_n _ _ (Ne.symm hne.1)]; exact h42) ha2 (by rw [hu.2.1]; exact gFl_5 hO2.2.2) hN
    refine ⟨c2, d3, ?_, ?_, gFm_s (fmC_t (fmC_f (frc_F C1)) (fmC_f hO2.1)) (fmD_t F1 (fmD_f hO2.2.1)) hO2.2.2 (gSf_t hu fE)⟩
    · rw [X1, show m_X7_takeNumber N 1 1 9 c1 = some (0, c2) from n1, gb2_e, if_pos rfl]
    · unfold clR1
      rw [gc_1 hrg, show m_X10_number N 55 1 9 f1 = some (0, e2) from n2, gb2_e, n_cl (by omega), gc_1 (hz4 _ (Or.inr (Or.inl rfl))), gv_e, n_cl1]
      exact eE
  obtain ⟨f2, ef2⟩ : ∃ z, z = gm_r e2 (62 + 1 + m) (upd (e2.1 (62 + 1 + m)) 1 (nI u)) := ⟨_, rfl⟩
  have hI2 : gIn n b c2 f2 a2 := by rw [ef2]; exact gIn_u (gIn_o hI1 hO2) _ hne
  have F2 : fmD d f2 := by rw [ef2]; exact fmD_t F1 (fmD_t (fmD_f (frm_F hO2.2.1)) (fmD_u _ (by omega)))
  have W2 : ∀ i, i ≠ 55 → i ≠ 62 + 1 + m → f2.1 i = d.1 i := fun i i1 i2 => by rw [ef2, gr_n _ _ i2, hO2.2.1.1 i i1, W1 i i1 i2]
  have P2 : f2.1 55 7 = d.1 55 7 := by rw [ef2, gr_n _ _ (Ne.symm hne.1), hO2.2.1.2.2 7 (by omega), P1]
  have V20 : f2.1 (62 + 1 + m) 0 = nI v := by rw [ef2, gr_s, up_n _ _ (by omega), hO2.2.1.1 _ hne.1, V10]
  have V21 : f2.1 (62 + 1 + m) 1 = nI u := by rw [ef2, gr_s, up_s]
  have M1 : clR1 N (nI m) f1 = clR2 N (nI m) f2 := by
    unfold clR1
    rw [gc_1 hrg, show m_X10_number N 55 1 9 f1 = some (nI u, e2) from n2, gb2_e, n_cl (by omega), gc_1 (hz4 _ (Or.inr (Or.inl rfl))), gv_e, n_cl1, ← ef2]
  rw [M1]
  have C2 := frc_t C1 hO2.1
  have c25 : c2.1 9 5 = nI th := by rw [C2.1 9 (by omega)]; exact k5
  have X2 : m_X6_readCry N 9 1 c = gb2 (m_X7_takeOther N 1 (nI th) (nI v) c2) (fun (r16 : Int32) (c17 : gm) => (if r16 = 0 then some (0, c17) else gv (c17.1 1 5) (fun (x19 : Int32) => gb2 (m_X7_takeNumber N 1 1 9 c17) (fun (r21 : Int32) (c22 : gm) => (if r21 = 0 then some (0, c22) else gb (m_X6_addCry 9 (nI v) (nI u) x19 (c22.1 1 5) c22) (fun (c26 : gm) => some (1, c26))))))) := by
    rw [X1, show m_X7_takeNumber N 1 1 9 c1 = some (1, c2) from n1, gb2_e, if_neg (by decide), gv_e, g52, c25]
  clear n1 n2 X1 M1
  rcases oth_two (H := th) (v1 := v) hI2 hN (by omega) (by omega) with ⟨c3, e3, a3, w, ha3, wH, wv, n1, n2, hO3, g53⟩ | ⟨c3, e3, uu, n1, n2, hO3⟩
  rotate_left
  · right; left
    have hu := gSf_u (n := n) (d := e3) (i := 62 + 1 + m) (upd (e3.1 (62 + 1 + m)) 2 uu) (by omega)
    obtain ⟨d3, eE, fE⟩ := clR3_f (n := n) (N := N) (m := m) (d := gm_r e3 (62 + 1 + m) (upd (e3.1 (62 + 1 + m)) 2 uu)) hm (by rw [hu.2.1]; exact gFl_5 hO3.2.2)
    refine ⟨c3, d3, ?_, ?_, gFm_s (fmC_t (fmC_f (frc_F C2)) (fmC_f hO3.1)) (fmD_t F2 (fmD_f hO3.2.1)) hO3.2.2 (gSf_t hu fE)⟩
    · rw [X2, n1, gb2_e, if_pos rfl]
    · unfold clR2
      rw [gc_1 hrg, gc_1 hrg, n_cl (by omega), gc_1 (hz4 _ (Or.inl rfl)), n_cl0, V20, W2 58 (by omega) (by omega), d0, gb2_x n2, gc_1 (hz4 _ (Or.inr (Or.inr (Or.inl rfl)))), gv_e, i_2]
      exact eE
  obtain ⟨f3, ef3⟩ : ∃ z, z = gm_r e3 (62 + 1 + m) (upd (e3.1 (62 + 1 + m)) 2 (nI w)) := ⟨_, rfl⟩
  have hI3 : gIn n b c3 f3 a3 := by rw [ef3]; exact gIn_u (gIn_o hI2 hO3) _ hne
  have F3 : fmD d f3 := by rw [ef3]; exact fmD_t F2 (fmD_t (fmD_f (frm_F hO3.2.1)) (fmD_u _ (by omega)))
  have W3 : ∀ i, i ≠ 55 → i ≠ 62 + 1 + m → f3.1 i = d.1 i := fun i i1 i2 => by rw [ef3, gr_n _ _ i2, hO3.2.1.1 i i1, W2 i i1 i2]
  have P3 : f3.1 55 7 = d.1 55 7 := by rw [ef3, gr_n _ _ (Ne.symm hne.1), hO3.2.1.2.2 7 (by omega), P2]
  have V30 : f3.1 (62 + 1 + m) 0 = nI v := by rw [ef3, gr_s, up_n _ _ (by omega), hO3.2.1.1 _ hne.1, V20]
  have V31 : f3.1 (62 + 1 + m) 1 = nI u := by rw [ef3, gr_s, up_n _ _ (by omega), hO3.2.1.1 _ hne.1, V21]
  have V32 : f3.1 (62 + 1 + m) 2 = nI w := by rw [ef3, gr_s, up_s]
  have M2 : clR2 N (nI m) f2 = clR3 N (nI m) f3 := by
    unfold clR2
    rw [gc_1 hrg, gc_1 hrg, n_cl (by omega), gc_1 (hz4 _ (Or.inl rfl)), n_cl0, V20, W2 58 (by omega) (by omega), d0, gb2_x n2, gc_1 (hz4 _ (Or.inr (Or.inr (Or.inl rfl)))), gv_e, i_2, ← ef3]
  rw [M2]
  have C3 := frc_t C2 hO3.1
  have X3 : m_X6_readCry N 9 1 c = gb2 (m_X7_takeNumber N 1 1 9 c3) (fun (r21 : Int32) (c22 : gm) => (if r21 = 0 then some (0, c22) else gb (m_X6_addCry 9 (nI v) (nI u) (nI w) (c22.1 1 5) c22) (fun (c26 : gm) => some (1, c26)))) := by
    rw [X2, n1, gb2_e, if_neg (by decide), gv_e, g53]
  clear n1 n2 X2 M2
  rcases num_two (lo := 1) (H := 10) (hi := 9) hI3 hN (by omega) (by omega) (by decide) with ⟨c4, e4, a4, x, s'', s1'', s2'', x1, xH, n1, n2, hO4, g54, g44, es4, hsn4⟩ | ⟨c4, e4, n1, n2, hO4⟩
  rotate_left
  · right; left
    have hu := gSf_u (n := n) (d := e4) (i := 62 + 1 + m) (upd (e4.1 (62 + 1 + m)) 3 0) (by omega)
    obtain ⟨d3, eE, fE⟩ := clE_f (n := n) (N := N) (d := gm_r e4 (62 + 1 + m) (upd (e4.1 (62 + 1 + m)) 3 0)) 1 (by omega) (by rw [hu.2.1]; exact gFl_5 hO4.2.2)
    refine ⟨c4, d3, ?_, ?_, gFm_s (fmC_t (fmC_f (frc_F C3)) (fmC_f hO4.1)) (fmD_t F3 (fmD_f hO4.2.1)) hO4.2.2 (gSf_t hu fE)⟩
    · rw [X3, show m_X7_takeNumber N 1 1 9 c3 = some (0, c4) from n1, gb2_e, if_pos rfl]
    · unfold clR3
      rw [gc_1 hrg, show m_X10_number N 55 1 9 f3 = some (0, e4) from n2, gb2_e, n_cl (by omega), gc_1 (hz4 _ (Or.inr (Or.inr (Or.inr rfl)))), gv_e, i_3]
      exact eE
  obtain ⟨f4, ef4⟩ : ∃ z, z = gm_r e4 (62 + 1 + m) (upd (e4.1 (62 + 1 + m)) 3 (nI x)) := ⟨_, rfl⟩
  have hI4 : gIn n b c4 f4 a4 := by rw [ef4]; exact gIn_u (gIn_o hI3 hO4) _ hne
  have F4 : fmD d f4 := by rw [ef4]; exact fmD_t F3 (fmD_t (fmD_f (frm_F hO4.2.1)) (fmD_u _ (by omega)))
  have W4 : ∀ i, i ≠ 55 → i ≠ 62 + 1 + m → f4.1 i = d.1 i := fun i i1 i2 => by rw [ef4, gr_n _ _ i2, hO4.2.1.1 i i1, W3 i i1 i2]
  have P4 : f4.1 55 7 = d.1 55 7 := by rw [ef4, gr_n _ _ (Ne.symm hne.1), hO4.2.1.2.2 7 (by omega), P3]
  have V40 : f4.1 (62 + 1 + m) 0 = nI v := by rw [ef4, gr_s, up_n _ _ (by omega), hO4.2.1.1 _ hne.1, V30]
  have V41 : f4.1 (62 + 1 + m) 1 = nI u := by rw [ef4, gr_s, up_n _ _ (by omega), hO4.2.1.1 _ hne.1, V31]
  have V42 : f4.1 (62 + 1 + m) 2 = nI w := by rw [ef4, gr_s, up_n _ _ (by omega), hO4.2.1.1 _ hne.1, V32]
  have V43 : f4.1 (62 + 1 + m) 3 = nI x := by rw [ef4, gr_s, up_s]
  have M3 : clR3 N (nI m) f3 = clE N 1 f4 := by
    unfold clR3
    rw [gc_1 hrg, show m_X10_number N 55 1 9 f3 = some (nI x, e4) from n2, gb2_e, n_cl (by omega), gc_1 (hz4 _ (Or.inr (Or.inr (Or.inr rfl)))), gv_e, i_3, ← ef4]
  rw [M3]
  have C4 := frc_t C3 hO4.1
  have c46 : c4.1 9 6 = nI m := by rw [C4.1 9 (by omega)]; exact k6
  obtain ⟨c5, ec5⟩ : ∃ z, z = gm_r (gm_r c4 14 (upd (upd (upd (upd (c4.1 14) (4 * m) (nI v)) (4 * m + 1) (nI u)) (4 * m + 2) (nI w)) (4 * m + 3) (nI x))) 9 (upd (c4.1 9) 6 (nI (m + 1))) := ⟨_, rfl⟩
  have X4 : m_X6_readCry N 9 1 c = some (1, c5) := by
    rw [X3, show m_X7_takeNumber N 1 1 9 c3 = some (1, c4) from n1, gb2_e, if_neg (by decide), g54, gb_x (addC_9 c46 hm), ec5]
  have F5 : fmC c c5 := by rw [ec5]; exact fmC_t (fmC_f (frc_F C4)) (fmC_t (fmC_u _ (by omega)) (fmC_u _ (by omega)))
  have c51 : c5.1 1 = c4.1 1 := by rw [ec5, gr_n _ _ (by omega), gr_n _ _ (by omega)]
  have hI5 : gIn n b c5 f4 a4 := gIn_c hI4 c51 (by rw [ec5, gr_n _ _ (by omega), gr_n _ _ (by omega)])
  rcases sign_two (x := 59) hI5 hN (by decide) with ⟨c6, e6, a6, ha6, t1, t2, hO6⟩ | ⟨c6, e6, t1, t2, hO6⟩
  · left
    have h65 : e6.1 55 5 = 0 := by rw [hO6.2.1.2.2 5 (by omega)]; exact hI5.2.2.2.2.2
    have eE := clE_ok (N := N) (d := f4) (d2 := e6) 1 (by omega) t2 h65
    rw [if_pos (by decide)] at eE
    refine ⟨c5, c6, gm_r e6 58 (upd (e6.1 58) 1 (e6.1 58 1 + 1)), a6, th, m + 1, l, p, by omega, X4, t1, eE, gIn_d (gIn_o hI5 hO6) (fun k _ => by rw [gr_n _ _ (by omega)]) (gr_n _ _ (by omega)), ?_, fmC_t F5 (fmC_f (frc_F hO6.1)), fmD_t F4 (fmD_t (fmD_f (frm_F hO6.2.1)) (fmD_u _ (Or.inl rfl))), ?_, ?_⟩
    · have q6 : ∀ i, i ≠ 1 → c6.1 i = c5.1 i := hO6.1.1
      have q6d : ∀ i, i ≠ 55 → e6.1 i = f4.1 i := hO6.2.1.1
      have y9 : c6.1 9 = upd (c.1 9) 6 (nI (m + 1)) := by rw [q6 9 (by omega), ec5, gr_s, C4.1 9 (by omega)]
      have y14 : c6.1 14 = upd (upd (upd (upd (c.1 14) (4 * m) (nI v)) (4 * m + 1) (nI u)) (4 * m + 2) (nI w)) (4 * m + 3) (nI x) := by rw [q6 14 (by omega), ec5, gr_n _ _ (by omega), gr_s, C4.1 14 (by omega)]
      have yo : ∀ i, i = 10 ∨ i = 11 ∨ i = 12 → c6.1 i = c.1 i := fun i hi => by rw [q6 i (by omega), ec5, gr_n _ _ (by omega), gr_n _ _ (by omega), C4.1 i (by omega)]
      have y58 : e6.1 58 = d.1 58 := by rw [q6d 58 (by omega), W4 58 (by omega) (by omega)]
      have y60 : e6.1 60 = d.1 60 := by rw [q6d 60 (by omega), W4 60 (by omega) (by omega)]
      refine ⟨t8, by omega, l18, p9, ⟨?_, ?_, ?_, ?_, ?_, ?_⟩, ⟨?_, ?_, ?_, ?_⟩, fun z hz2 => ?_, fun z hz2 => by rw [yo 12 (by omega)]; exact hz z hz2, fun k hk => ?_⟩
      · rw [y9, up_n _ _ (by omega)]; exact k5
      · rw [y9, up_s]
      · rw [y9, up_n _ _ (by omega)]; exact k7
      · rw [y9, up_n _ _ (by omega)]; exact k8
      · rw [y9, up_n _ _ (by omega)]; exact k9
      · rw [y9, up_n _ _ (by omega)]; exact k10
      · rw [gr_s, up_n _ _ (by omega), y58]; exact d0
      · rw [gr_s, up_s, y58, d1, n_s]
      · rw [gr_s, up_n _ _ (by omega), y58]; exact d2'
      · rw [gr_s, up_n _ _ (by omega), y58]; exact d3'
      · rw [gr_n _ _ (by omega), yo 10 (by omega), yo 11 (by omega), y60]
        exact hw z hz2
      · rw [gr_n _ _ (by omega), y14, q6d _ (by omega)]
        by_cases e : k = m
        · subst e
          refine ⟨v, u, w, x, vH, wH, fun q => wv q.symm, u1, by omega, x1, by omega, ⟨?_, ?_, ?_, ?_⟩, ?_⟩
          · rw [up_n _ _ (by omega), up_n _ _ (by omega), up_n _ _ (by omega), up_s]
          · rw [up_n _ _ (by omega), up_n _ _ (by omega), up_s]
          · rw [up_n _ _ (by omega), up_s]
          · rw [up_s]
          · rw [show 63 + k = 62 + 1 + k by omega]
            exact ⟨V40, V41, V42, V43⟩
        · obtain ⟨a', n', b', x', r0, r1, r2, r3, r4, r5, r6, r7, r8⟩ := hcr k (by omega)
          rw [up_n _ _ (by omega), up_n _ _ (by omega), up_n _ _ (by omega), up_n _ _ (by omega), up_n _ _ (by omega), up_n _ _ (by omega), up_n _ _ (by omega), up_n _ _ (by omega), up_n _ _ (by omega), up_n _ _ (by omega), up_n _ _ (by omega), up_n _ _ (by omega), up_n _ _ (by omega), up_n _ _ (by omega), up_n _ _ (by omega), up_n _ _ (by omega), W4 _ (by omega) (by omega)]
          exact ⟨a', n', b', x', r0, r1, r2, r3, r4, r5, r6, r7, r8⟩
    · rw [hO6.1.2.2 7 (by omega) (by omega) (by omega), c51, C4.2.2 7 (by omega) (by omega) (by omega)]
    · rw [gr_n _ _ (by omega), hO6.2.1.2.2 7 (by omega), P4]
  · right; right
    obtain ⟨d5, eE, fE, gE⟩ := clE_no (N := N) (d := f4) (d2 := e6) 1 (by omega) t2 (gFl_5 hO6.2.2)
    exact ⟨c5, c6, d5, X4, t1, eE, gFm_d (fmC_t F5 (fmC_f hO6.1)) (fmD_t F4 (fmD_f hO6.2.1)) hO6.2.2 fE (by rw [gE]) (by rw [gE]) (by rw [gE]; exact gFl_t hO6.2.2)⟩
