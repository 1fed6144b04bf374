set_option maxRecDepth 16384
/-! a market's clause, the reference's in pieces -/
def clE (N : Nat) (r4 : Int32) (c15 : gm) : Option gm := gb (m_X10_sign N 55 59 c15) (fun (c19 : gm) => (if 2 ≤ r4 then some c19 else gc (0 ≤ r4.toInt ∧ r4.toInt < 4) (if (c19.1 55 5) = 0 then gc (0 ≤ r4.toInt ∧ r4.toInt < 4) (gv (gm_r c19 58 (upd (c19.1 58) r4.toNatClampNeg ((c19.1 58 r4.toNatClampNeg) + 1))) (fun (c28 : gm) => some c28)) else gc (0 ≤ r4.toInt ∧ r4.toInt < 4) (gv (gm_r c19 58 (upd (c19.1 58) r4.toNatClampNeg ((c19.1 58 r4.toNatClampNeg) + 0))) (fun (c28 : gm) => some c28)))))
def clT (N : Nat) (r4 : Int32) (c12 : gm) (v13 : Int32) : Option gm := if r4 = 0 then gb2 (m_X10_number N 55 1 60 c12) (fun (r35 : Int32) (c36 : gm) => gc (0 ≤ v13.toInt ∧ v13.toInt < 8) (gv (gm_r c36 60 (upd (c36.1 60) v13.toNatClampNeg r35)) (fun (c38 : gm) => clE N r4 c38))) else (if r4 = 1 then gc (0 ≤ v13.toInt ∧ v13.toInt < 10) (gb2 (m_X10_number N 55 0 ((c12.1 58 (0 : Int32).toNatClampNeg) - 1) c12) (fun (r49 : Int32) (c50 : gm) => gc (gck (62 + 1 + v13.toNatClampNeg) = 22) (gc (0 ≤ (0 : Int32).toInt ∧ (0 : Int32).toInt < ((gal (62 + 1 + v13.toNatClampNeg)) : Nat)) (gv (gm_r c50 (62 + 1 + v13.toNatClampNeg) (upd (c50.1 (62 + 1 + v13.toNatClampNeg)) (0 : Int32).toNatClampNeg r49)) (fun (c54 : gm) => gc (0 ≤ v13.toInt ∧ v13.toInt < 10) (gb2 (m_X10_number N 55 1 9 c54) (fun (r57 : Int32) (c58 : gm) => gc (0 ≤ (1 : Int32).toInt ∧ (1 : Int32).toInt < ((gal (62 + 1 + v13.toNatClampNeg)) : Nat)) (gv (gm_r c58 (62 + 1 + v13.toNatClampNeg) (upd (c58.1 (62 + 1 + v13.toNatClampNeg)) (1 : Int32).toNatClampNeg r57)) (fun (c60 : gm) => gc (0 ≤ v13.toInt ∧ v13.toInt < 10) (gc (0 ≤ v13.toInt ∧ v13.toInt < 10) (gc (0 ≤ (0 : Int32).toInt ∧ (0 : Int32).toInt < ((gal (62 + 1 + v13.toNatClampNeg)) : Nat)) (gb2 (m_X10_otherThing N 55 (c60.1 (62 + 1 + v13.toNatClampNeg) (0 : Int32).toNatClampNeg) (c60.1 58 (0 : Int32).toNatClampNeg) c60) (fun (r66 : Int32) (c67 : gm) => gc (0 ≤ (2 : Int32).toInt ∧ (2 : Int32).toInt < ((gal (62 + 1 + v13.toNatClampNeg)) : Nat)) (gv (gm_r c67 (62 + 1 + v13.toNatClampNeg) (upd (c67.1 (62 + 1 + v13.toNatClampNeg)) (2 : Int32).toNatClampNeg r66)) (fun (c69 : gm) => gc (0 ≤ v13.toInt ∧ v13.toInt < 10) (gb2 (m_X10_number N 55 1 9 c69) (fun (r72 : Int32) (c73 : gm) => gc (0 ≤ (3 : Int32).toInt ∧ (3 : Int32).toInt < ((gal (62 + 1 + v13.toNatClampNeg)) : Nat)) (gv (gm_r c73 (62 + 1 + v13.toNatClampNeg) (upd (c73.1 (62 + 1 + v13.toNatClampNeg)) (3 : Int32).toNatClampNeg r72)) (fun (c75 : gm) => clE N r4 c75))))))))))))))))))) else gb2 (m_X10_number N 55 0 18 c12) (fun (r79 : Int32) (c80 : gm) => gb2 (m_X10_number N 55 0 9 c80) (fun (r82 : Int32) (c83 : gm) => (if (c83.1 55 5) = 0 then gv (gm_r c83 58 (upd (c83.1 58) (2 : Int32).toNatClampNeg r79)) (fun (c89 : gm) => gv (gm_r c89 58 (upd (c89.1 58) (3 : Int32).toNatClampNeg r82)) (fun (c91 : gm) => clE N r4 c91)) else some c83))))
def clK (N : Nat) (r4 : Int32) (c6 : gm) : Option gm := if (c6.1 55 5) = 0 then gb (m_X10_skipWord N 55 c6) (fun (c11 : gm) => gv (gm_r c11 55 (upd (c11.1 55) 7 ((c11.1 55 7) + 1))) (fun (c12 : gm) => if 2 ≤ r4 then clT N r4 c12 0 else gc (0 ≤ r4.toInt ∧ r4.toInt < 4) (clT N r4 c12 (c12.1 58 r4.toNatClampNeg)))) else some c6
theorem clause_e (N : Nat) (d : gm) : m_X10_clause N 55 d = gc (gck 55 = 10) (gb2 (m_X10_kindHere N 55 d) (fun (r4 : Int32) (c5 : gm) => if r4 = (-1) then gb (m_X10_wrong 55 1 (c5.1 55 4) c5) (fun (c113 : gm) => clK N r4 c113) else if (c5.1 55 7) = 60 then gb (m_X10_wrong 55 3 (c5.1 55 4) c5) (fun (c101 : gm) => clK N r4 c101) else if 2 ≤ r4 then clK N r4 c5 else gc (0 ≤ r4.toInt ∧ r4.toInt < 4) (gb (m_X10_mostOf r4) (fun (r109 : Int32) => if (c5.1 58 r4.toNatClampNeg) = r109 then gb (m_X10_wrong 55 3 (c5.1 55 4) c5) (fun (c101 : gm) => clK N r4 c101) else clK N r4 c5)))) := rfl
/-- the class's draft and what the reference has read -/
def gMk (th m l p : Nat) (c d : gm) : Prop := th ≤ 8 ∧ m ≤ 10 ∧ l ≤ 18 ∧ p ≤ 9 ∧ (c.1 9 5 = nI th ∧ c.1 9 6 = nI m ∧ c.1 9 7 = nI l ∧ c.1 9 8 = nI p ∧ c.1 9 9 = 0 ∧ c.1 9 10 = 0) ∧ (d.1 58 0 = nI th ∧ d.1 58 1 = nI m ∧ d.1 58 2 = nI l ∧ d.1 58 3 = nI p) ∧ (∀ a, a < th → ∃ w, 1 ≤ w ∧ w ≤ 60 ∧ c.1 10 a = nI w ∧ c.1 11 a = nI w ∧ d.1 60 a = nI w) ∧ (∀ a, a < 8 → c.1 12 a = 0) ∧ ∀ k, k < m → ∃ a n b x, a < th ∧ b < th ∧ a ≠ b ∧ 1 ≤ n ∧ n ≤ 9 ∧ 1 ≤ x ∧ x ≤ 9 ∧ (c.1 14 (4 * k) = nI a ∧ c.1 14 (4 * k + 1) = nI n ∧ c.1 14 (4 * k + 2) = nI b ∧ c.1 14 (4 * k + 3) = nI x) ∧ (d.1 (63 + k) 0 = nI a ∧ d.1 (63 + k) 1 = nI n ∧ d.1 (63 + k) 2 = nI b ∧ d.1 (63 + k) 3 = nI x)
/-- what reading a market touches -/
def fmC (c c2 : gm) : Prop := (∀ i, i ≠ 1 → (i < 9 ∨ 14 < i) → c2.1 i = c.1 i) ∧ c2.2 = c.2 ∧ ∀ k, k < 3 → c2.1 1 k = c.1 1 k
def fmD (d d2 : gm) : Prop := (∀ i, i ≠ 55 → i ≠ 58 → i ≠ 60 → (i < 63 ∨ 72 < i) → d2.1 i = d.1 i) ∧ d2.2 = d.2 ∧ ∀ k, k < 4 ∨ 8 ≤ k → d2.1 55 k = d.1 55 k
theorem fmC_r (c : gm) : fmC c c := ⟨fun _ _ _ => rfl, rfl, fun _ _ => rfl⟩
theorem fmD_r (c : gm) : fmD c c := ⟨fun _ _ _ _ _ => rfl, rfl, fun _ _ => rfl⟩
theorem fmC_t {a b c : gm} (h : fmC a b) (g : fmC b c) : fmC a c := ⟨fun i h1 h2 => (g.1 i h1 h2).trans (h.1 i h1 h2), g.2.1.trans h.2.1, fun k hk => (g.2.2 k hk).trans (h.2.2 k hk)⟩
theorem fmD_t {a b c : gm} (h : fmD a b) (g : fmD b c) : fmD a c := ⟨fun i h1 h2 h3 h4 => (g.1 i h1 h2 h3 h4).trans (h.1 i h1 h2 h3 h4), g.2.1.trans h.2.1, fun k hk => (g.2.2 k hk).trans (h.2.2 k hk)⟩
theorem fmC_f {c c2 : gm} (h : frcF c c2) : fmC c c2 := ⟨fun i h1 _ => h.1 i h1, h.2.1, h.2.2⟩
theorem fmD_f {d d2 : gm} (h : frmF d d2) : fmD d d2 := ⟨fun i h1 _ _ _ => h.1 i h1, h.2.1, fun k hk => h.2.2 k (by omega) (by omega) (by omega)⟩
theorem fmC_u {c : gm} {i : Nat} (f : Nat → Int32) (h : 9 ≤ i ∧ i ≤ 14) : fmC c (gm_r c i f) := ⟨fun j _ h2 => gr_n _ _ (by omega), rfl, fun k _ => by rw [gr_n _ _ (by omega)]⟩
theorem fmD_u {d : gm} {i : Nat} (f : Nat → Int32) (h : i = 58 ∨ i = 60 ∨ (63 ≤ i ∧ i ≤ 72)) : fmD d (gm_r d i f) := ⟨fun j h1 h2 h3 h4 => gr_n _ _ (by omega), rfl, fun k _ => by rw [gr_n _ _ (by omega)]⟩
/-- a fault told on both sides, whatever else was written -/
def gFm (n : Nat) (c d c2 d2 : gm) : Prop := fmC c c2 ∧ fmD d d2 ∧ gFl n c2 d2
theorem gFl_5 {n : Nat} {c2 d2 : gm} (h : gFl n c2 d2) : ¬ d2.1 55 5 = 0 := by
  obtain ⟨k, q, a2, k1, k3, hq, ha2, c6, c7, d5, d6, d4⟩ := h
  rw [d5, n_l0, n_eq (by omega) (by decide)]
  omega
theorem gFl_t {n : Nat} {c2 d2 : gm} (h : gFl n c2 d2) : ∃ a2, a2 ≤ n ∧ d2.1 55 4 = nI a2 := by
  obtain ⟨k, q, a2, k1, k3, hq, ha2, c6, c7, d5, d6, d4⟩ := h
  exact ⟨a2, ha2, d4⟩
theorem gFm_d {n : Nat} {c d c2 d2 d3 : gm} (f1 : fmC c c2) (f2 : fmD d d2) (h : gFl n c2 d2) (g : fmD d2 d3) (g5 : d3.1 55 5 = d2.1 55 5) (g6 : d3.1 55 6 = d2.1 55 6) (g4 : ∃ a2, a2 ≤ n ∧ d3.1 55 4 = nI a2) : gFm n c d c2 d3 := by
  obtain ⟨k, q, a2, k1, k3, hq, ha2, c6, c7, d5, d6, d4⟩ := h
  obtain ⟨a3, h3, e3⟩ := g4
  exact ⟨f1, fmD_t f2 g, k, q, a3, k1, k3, hq, h3, c6, c7, by rw [g5]; exact d5, by rw [g6]; exact d6, e3⟩
theorem gIn_c {n a : Nat} {b : Nat → Nat} {c d c2 : gm} (h : gIn n b c d a) (e1 : c2.1 1 = c.1 1) (e2 : c2.1 2 = c.1 2) : gIn n b c2 d a := by
  obtain ⟨⟨h1, h2, h3⟩, h4, h5, h6⟩ := h
  exact ⟨⟨h1, by rw [e1]; exact h2, by rw [e2]; exact h3⟩, h4, by rw [e1]; exact h5, h6⟩
theorem gIn_d {n a : Nat} {b : Nat → Nat} {c d d2 : gm} (h : gIn n b c d a) (e1 : ∀ k, k = 2 ∨ k = 4 ∨ k = 5 → d2.1 55 k = d.1 55 k) (e2 : d2.1 56 = d.1 56) : gIn n b c d2 a := by
  obtain ⟨h1, ⟨h2, h3, h4⟩, h5, h6, h7, h8⟩ := h
  exact ⟨h1, ⟨h2, by rw [e1 2 (by omega)]; exact h3, by rw [e2]; exact h4⟩, h5, by rw [e1 4 (by omega)]; exact h6, h7, by rw [e1 5 (by omega)]; exact h8⟩
/-- the sign behind a clause; r4 the kind -/
theorem clE_ok {N : Nat} {d d2 : gm} (r : Nat) (hr : r < 3) (e : m_X10_sign N 55 59 d = some d2) (h5 : d2.1 55 5 = 0) : clE N (nI r) d = some (if r < 2 then gm_r d2 58 (upd (d2.1 58) r (d2.1 58 r + 1)) else d2) := by
  unfold clE
  rw [gb_x e]
  by_cases q : r < 2
  · rw [if_neg (by rw [n_l2, n_le (by decide) (by omega)]; omega), gc_1 (n_rg (by omega) (by omega)), if_pos h5, gc_1 (n_rg (by omega) (by omega)), gv_e, n_cl (by omega), if_pos q]
  · rw [if_pos (by rw [n_l2, n_le (by decide) (by omega)]; omega), if_neg q]
theorem clE_no {N : Nat} {d d2 : gm} (r : Nat) (hr : r < 3) (e : m_X10_sign N 55 59 d = some d2) (h5 : ¬ d2.1 55 5 = 0) : ∃ d3, clE N (nI r) d = some d3 ∧ fmD d2 d3 ∧ d3.1 55 = d2.1 55 := by
  unfold clE
  rw [gb_x e]
  by_cases q : r < 2
  · rw [if_neg (by rw [n_l2, n_le (by decide) (by omega)]; omega), gc_1 (n_rg (by omega) (by omega)), if_neg h5, gc_1 (n_rg (by omega) (by omega)), gv_e]
    exact ⟨_, rfl, fmD_u _ (Or.inl rfl), gr_n _ _ (by omega)⟩
  · rw [if_pos (by rw [n_l2, n_le (by decide) (by omega)]; omega)]
    exact ⟨_, rfl, fmD_r _, rfl⟩
/-- how a kind of clause ends: well on both sides, or with a fault on both -/
def gCl (n : Nat) (b : Nat → Nat) (N : Nat) (c d : gm) (a : Nat) (x : Option (Int32 × gm)) (y : Option gm) : Prop := (∃ c1 c2 d2 a2 th m l p, a < a2 ∧ x = some (1, c1) ∧ m_X7_takeSign N 1 59 c1 = some (1, c2) ∧ y = some d2 ∧ gIn n b c2 d2 a2 ∧ gMk th m l p c2 d2 ∧ fmC c c2 ∧ fmD d d2 ∧ c2.1 1 7 = c.1 1 7 ∧ d2.1 55 7 = d.1 55 7) ∨ (∃ c2 d2, x = some (0, c2) ∧ y = some d2 ∧ gFm n c d c2 d2) ∨ ∃ c1 c2 d2, x = some (1, c1) ∧ m_X7_takeSign N 1 59 c1 = some (0, c2) ∧ y = some d2 ∧ gFm n c d c2 d2
theorem rThing {n a th m l p N : Nat} {b : Nat → Nat} {c d : gm} (h : gIn n b c d a) (hM : gMk th m l p c d) (hth : th < 8) (hN : 700 < N) : gCl n b N c d a (m_X6_readThing N 9 1 c) (clT N 0 d (nI th)) := by
  obtain ⟨t8, m10, l18, p9, ⟨k5, k6, k7, k8, k9, k10⟩, ⟨d0, d1, d2', d3'⟩, hw, hz, hcr⟩ := id hM
  rcases num_two (lo := 1) (H := 61) (hi := 60) h hN (by omega) (by omega) (by decide) with ⟨c2, d2, a2, v, s, s1, s2, v1, vH, n1, n2, hO, g5, g4, es, hsn⟩ | ⟨c2, d2, n1, n2, hO⟩
  · obtain ⟨fc, fd, o3, o4, oa⟩ := id hO
    have hI2 := gIn_o h hO
    have c5 : c2.1 9 5 = nI th := by rw [fc.1 9 (by omega)]; exact k5
    obtain ⟨c3, ec3⟩ : ∃ z, z = gm_r (gm_r (gm_r c2 10 (upd (c2.1 10) th (nI v))) 11 (upd (c2.1 11) th (nI v))) 9 (upd (c2.1 9) 5 (nI (th + 1))) := ⟨_, rfl⟩
    have et : m_X6_readThing N 9 1 c = some (1, c3) := by
      unfold m_X6_readThing
      rw [gc_1 (show gck 1 = 7 from rfl), n_l1, gb2_x n1, if_neg (by decide), gc_1 (show gck 9 = 6 from rfl), c5, if_pos (by rw [n_l8, n_lt (by omega) (by decide)]; exact hth), gc_1 (n_rg (by omega) (by omega)), gv_e, n_cl (by omega), g5, gr_n _ _ (show 9 ≠ 9 + 1 by omega), c5, gc_1 (n_rg (by omega) (by omega)), gv_e, n_cl (by omega), gr_n _ _ (show 1 ≠ 9 + 1 by omega), g5, gr_n _ _ (show 9 + 2 ≠ 9 + 1 by omega), gv_e, gr_n _ _ (show 9 ≠ 9 + 2 by omega), gr_n _ _ (show 9 ≠ 9 + 1 by omega), c5, n_ad, ec3]
    obtain ⟨d3, ed3⟩ : ∃ z, z = gm_r d2 60 (upd (d2.1 60) th (nI v)) := ⟨_, rfl⟩
    have f3 : fmC c c3 := by rw [ec3]; exact fmC_t (fmC_f (frc_F fc)) (fmC_t (fmC_u _ (by omega)) (fmC_t (fmC_u _ (by omega)) (fmC_u _ (by omega))))
    have f3d : fmD d d3 := by rw [ed3]; exact fmD_t (fmD_f (frm_F fd)) (fmD_u _ (Or.inr (Or.inl rfl)))
    have c31 : c3.1 1 = c2.1 1 := by rw [ec3, gr_n _ _ (by omega), gr_n _ _ (by omega), gr_n _ _ (by omega)]
    have d355 : d3.1 55 = d2.1 55 := by rw [ed3, gr_n _ _ (by omega)]
    have hI3 : gIn n b c3 d3 a2 := gIn_d (gIn_c hI2 c31 (by rw [ec3, gr_n _ _ (by omega), gr_n _ _ (by omega), gr_n _ _ (by omega)])) (fun k _ => by rw [d355]) (by rw [ed3, gr_n _ _ (by omega)])
    have ey : clT N 0 d (nI th) = clE N 0 d3 := by
      unfold clT
      rw [if_pos rfl, n_l1, gb2_x n2, gc_1 (n_rg (by omega) (by omega)), gv_e, n_cl (by omega), ← ed3]
    rcases sign_two (x := 59) hI3 hN (by decide) with ⟨c4, d4, a4, ha4, e1, e2, hO4⟩ | ⟨c4, d4, e1, e2, hO4⟩
    · left
      have h45 : d4.1 55 5 = 0 := by rw [hO4.2.1.2.2 5 (by omega)]; exact hI3.2.2.2.2.2
      have eE := clE_ok (N := N) (d := d3) (d2 := d4) 0 (by omega) e2 h45
      rw [if_pos (by decide)] at eE
      refine ⟨c3, c4, gm_r d4 58 (upd (d4.1 58) 0 (d4.1 58 0 + 1)), a4, th + 1, m, l, p, by omega, et, e1, ey.trans eE, gIn_d (gIn_o hI3 hO4) (fun k _ => by rw [gr_n _ _ (by omega)]) (gr_n _ _ (by omega)), ?_, fmC_t f3 (fmC_f (frc_F hO4.1)), fmD_t f3d (fmD_t (fmD_f (frm_F hO4.2.1)) (fmD_u _ (Or.inl rfl))), ?_, ?_⟩
      · have q4 : ∀ i, i ≠ 1 → c4.1 i = c3.1 i := hO4.1.1
        have q4d : ∀ i, i ≠ 55 → d4.1 i = d3.1 i := hO4.2.1.1
        have q2 : ∀ i, i ≠ 1 → c2.1 i = c.1 i := fc.1
        have q2d : ∀ i, i ≠ 55 → d2.1 i = d.1 i := fd.1
        have x9 : c4.1 9 = upd (c.1 9) 5 (nI (th + 1)) := by rw [q4 9 (by omega), ec3, gr_s, q2 9 (by omega)]
        have x10 : c4.1 10 = upd (c.1 10) th (nI v) := by rw [q4 10 (by omega), ec3, gr_n _ _ (by omega), gr_n _ _ (by omega), gr_s, q2 10 (by omega)]
        have x11 : c4.1 11 = upd (c.1 11) th (nI v) := by rw [q4 11 (by omega), ec3, gr_n _ _ (by omega), gr_s, q2 11 (by omega)]
        have x12 : c4.1 12 = c.1 12 := by rw [q4 12 (by omega), ec3, gr_n _ _ (by omega), gr_n _ _ (by omega), gr_n _ _ (by omega), q2 12 (by omega)]
        have x14 : c4.1 14 = c.1 14 := by rw [q4 14 (by omega), ec3, gr_n _ _ (by omega), gr_n _ _ (by omega), gr_n _ _ (by omega), q2 14 (by omega)]
        have y58 : d4.1 58 = d.1 58 := by rw [q4d 58 (by omega), ed3, gr_n _ _ (by omega), q2d 58 (by omega)]
        have y60 : d4.1 60 = upd (d.1 60) th (nI v) := by rw [q4d 60 (by omega), ed3, gr_s, q2d 60 (by omega)]
        have y63 : ∀ k, d4.1 (63 + k) = d.1 (63 + k) ∨ 63 + k = 55 ∨ 63 + k = 60 := fun k => Or.inl (by rw [q4d _ (by omega), ed3, gr_n _ _ (by omega), q2d _ (by omega)])
        refine ⟨by omega, m10, l18, p9, ⟨?_, ?_, ?_, ?_, ?_, ?_⟩, ⟨?_, ?_, ?_, ?_⟩, fun x hx => ?_, fun x hx => by rw [x12]; exact hz x hx, fun k hk => ?_⟩
        · rw [x9, up_s]
        · rw [x9, up_n _ _ (by omega)]; exact k6
        · rw [x9, up_n _ _ (by omega)]; exact k7
        · rw [x9, up_n _ _ (by omega)]; exact k8
        · rw [x9, up_n _ _ (by omega)]; exact k9
        · rw [x9, up_n _ _ (by omega)]; exact k10
        · rw [gr_s, up_s, y58, d0, n_s]
        · rw [gr_s, up_n _ _ (by omega), y58]; exact d1
        · rw [gr_s, up_n _ _ (by omega), y58]; exact d2'
        · rw [gr_s, up_n _ _ (by omega), y58]; exact d3'
        · rw [gr_n _ _ (by omega), x10, x11, y60]
          by_cases e : x = th
          · exact ⟨v, v1, by omega, by rw [e, up_s], by rw [e, up_s], by rw [e, up_s]⟩
          · rw [up_n _ _ e, up_n _ _ e, up_n _ _ e]
            exact hw x (by omega)
        · obtain ⟨a', n', b', x', ha', hb', r1, r2, r3, r4, r5, r6, r7⟩ := hcr k hk
          rw [gr_n _ _ (by omega), x14, (y63 k).resolve_right (by omega)]
          exact ⟨a', n', b', x', by omega, by omega, r1, r2, r3, r4, r5, r6, r7⟩
      · rw [hO4.1.2.2 7 (by omega) (by omega) (by omega), c31, fc.2.2 7 (by omega) (by omega) (by omega)]
      · rw [gr_n _ _ (by omega), hO4.2.1.2.2 7 (by omega), d355, fd.2.2 7 (by omega)]
    · right; right
      obtain ⟨d5, eE, fE, gE⟩ := clE_no (N := N) (d := d3) (d2 := d4) 0 (by omega) e2 (gFl_5 hO4.2.2)
      exact ⟨c3, c4, d5, et, e1, ey.trans eE, gFm_d (fmC_t f3 (fmC_f hO4.1)) (fmD_t f3d (fmD_f hO4.2.1)) hO4.2.2 fE (by rw [gE]) (by rw [gE]) (by rw [gE]; exact gFl_t hO4.2.2)⟩
  · right; left
    have h25 := gFl_5 hO.2.2
    obtain ⟨d3, ed3⟩ : ∃ z, z = gm_r d2 60 (upd (d2.1 60) th 0) := ⟨_, rfl⟩
    have d355 : d3.1 55 = d2.1 55 := by rw [ed3, gr_n _ _ (by omega)]
    obtain ⟨d5, eE, fE, gE⟩ := clE_no (N := N) (d := d3) (d2 := d3) 0 (by omega) (sign_f (by rw [d355]; exact h25)) (by rw [d355]; exact h25)
    have f3 : fmD d2 d3 := by rw [ed3]; exact fmD_u _ (Or.inr (Or.inl rfl))
    refine ⟨c2, d5, ?_, ?_, gFm_d (fmC_f hO.1) (fmD_f hO.2.1) hO.2.2 (fmD_t f3 fE) (by rw [gE, d355]) (by rw [gE, d355]) (by rw [gE, d355]; exact gFl_t hO.2.2)⟩
    · unfold m_X6_readThing
      rw [gc_1 (show gck 1 = 7 from rfl), n_l1, gb2_x n1, if_pos rfl]
    · unfold clT
      rw [if_pos rfl, n_l1, gb2_x n2, gc_1 (n_rg (by omega) (by omega)), gv_e, n_cl (by omega), ← ed3]
      exact eE
