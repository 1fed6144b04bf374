set_option maxRecDepth 16384
/-! reading a work: a step -/
def gS1 (th : Nat) (c d : gm) (s : Nat) : Prop := ∃ k, k < 5 ∧ c.1 16 (5 * s) = nI k ∧ d.1 (423 + s) 0 = nI k ∧ d.1 (423 + s) 5 = nI (s + 1) ∧ (k = 0 → ∃ a n b x, a < th ∧ 1 ≤ n ∧ n ≤ 9 ∧ b < th ∧ a ≠ b ∧ 1 ≤ x ∧ x ≤ 9 ∧ (c.1 16 (5 * s + 1) = nI a ∧ c.1 16 (5 * s + 2) = nI n ∧ c.1 16 (5 * s + 3) = nI b ∧ c.1 16 (5 * s + 4) = nI x) ∧ d.1 (423 + s) 1 = nI a ∧ d.1 (423 + s) 2 = nI n ∧ d.1 (423 + s) 3 = nI b ∧ d.1 (423 + s) 4 = nI x) ∧ (k = 1 → ∃ v, v ≤ 9 ∧ c.1 16 (5 * s + 1) = nI v ∧ d.1 (423 + s) 1 = nI v) ∧ (k = 2 → ∃ a v, a < th ∧ 1 ≤ v ∧ v ≤ 30 ∧ c.1 16 (5 * s + 1) = nI a ∧ c.1 16 (5 * s + 2) = nI v ∧ d.1 (423 + s) 1 = nI a ∧ d.1 (423 + s) 2 = nI v)
def gS5 (c d : gm) (s q : Nat) : Prop := c.1 16 (5 * s) = nI 5 ∧ d.1 (423 + s) 0 = nI 5 ∧ c.1 16 (5 * s + 2) = nI q ∧ d.1 (423 + s) 5 = nI q ∧ ∃ v, v ≤ 60 ∧ c.1 16 (5 * s + 1) = nI v ∧ d.1 (423 + s) 1 = nI v
def gSs (th : Nat) (W : gm → gm → Nat → Nat → Prop) (c d : gm) (z z2 : Nat) : Prop := (gS1 th c d z ∧ z2 = z + 1) ∨ (gS5 c d z z2 ∧ z < z2 ∧ W c d (z + 1) z2)
def fwC (z : Nat) (c c2 : gm) : Prop := (∀ i, i ≠ 1 → i ≠ 15 → i ≠ 16 → c2.1 i = c.1 i) ∧ c2.2 = c.2 ∧ (∀ k, k < 3 → c2.1 1 k = c.1 1 k) ∧ ∀ j, j < 5 * z → c2.1 16 j = c.1 16 j
def fwD (z : Nat) (d d2 : gm) : Prop := (∀ i, i ≠ 55 → (i < 423 + z ∨ 502 < i) → d2.1 i = d.1 i) ∧ d2.2 = d.2 ∧ ∀ k, k < 4 ∨ k = 7 ∨ (9 ≤ k ∧ k ≠ 26) → d2.1 55 k = d.1 55 k
theorem fwC_r (z : Nat) (c : gm) : fwC z c c := ⟨fun _ _ _ _ => rfl, rfl, fun _ _ => rfl, fun _ _ => rfl⟩
theorem fwD_r (z : Nat) (c : gm) : fwD z c c := ⟨fun _ _ _ => rfl, rfl, fun _ _ => rfl⟩
theorem fwC_t {z z2 : Nat} {a b c : gm} (h : fwC z a b) (g : fwC z2 b c) (hz : z ≤ z2) : fwC z a c := ⟨fun i h1 h2 h3 => (g.1 i h1 h2 h3).trans (h.1 i h1 h2 h3), g.2.1.trans h.2.1, fun k hk => (g.2.2.1 k hk).trans (h.2.2.1 k hk), fun j hj => (g.2.2.2 j (by omega)).trans (h.2.2.2 j hj)⟩
theorem fwD_t {z z2 : Nat} {a b c : gm} (h : fwD z a b) (g : fwD z2 b c) (hz : z ≤ z2) : fwD z a c := ⟨fun i h1 h2 => (g.1 i h1 (by omega)).trans (h.1 i h1 h2), g.2.1.trans h.2.1, fun k hk => (g.2.2 k hk).trans (h.2.2 k hk)⟩
theorem fwC_f {z : Nat} {c c2 : gm} (h : frcF c c2) : fwC z c c2 := ⟨fun i h1 _ _ => h.1 i h1, h.2.1, h.2.2, fun j _ => by rw [h.1 16 (by omega)]⟩
theorem fwD_f {z : Nat} {d d2 : gm} (h : frmF d d2) : fwD z d d2 := ⟨fun i h1 _ => h.1 i h1, h.2.1, fun k hk => h.2.2 k (by omega) (by omega) (by omega)⟩
theorem fwC_p {z k : Nat} {x : Int32} {c c2 : gm} (h : fpC c c2) (e : c2.1 16 = upd (c.1 16) (5 * z + k) x) : fwC z c c2 := ⟨fun i h1 _ h3 => h.1 i h1 h3, h.2.1, fun k hk => h.2.2 k (by omega) (by omega) (by omega), fun j hj => by rw [e, up_n _ _ (by omega)]⟩
theorem fwD_p {z : Nat} {d d2 : gm} (h : fpD z d d2) (hz : z < 80) : fwD z d d2 := ⟨fun i h1 h2 => h.1 i h1 (by omega), h.2.1, fun k hk => h.2.2 k (by omega)⟩
/-- behind a fault: the row and the place may change -/
def gTl (n z : Nat) (d d2 : gm) : Prop := (∀ i, i ≠ 55 → i ≠ 423 + z → d2.1 i = d.1 i) ∧ d2.2 = d.2 ∧ (∀ k, k ≠ 4 → k ≠ 8 → d2.1 55 k = d.1 55 k) ∧ ∃ a2, a2 ≤ n ∧ d2.1 55 4 = nI a2
def gFt (n : Nat) (b : Nat → Nat) (d : gm) : Prop := gTd n b d ∧ ¬ d.1 55 5 = 0 ∧ ∃ a2, a2 ≤ n ∧ d.1 55 4 = nI a2
theorem gTl_t {n z : Nat} {a b c : gm} (h : gTl n z a b) (g : gTl n z b c) : gTl n z a c := ⟨fun i h1 h2 => (g.1 i h1 h2).trans (h.1 i h1 h2), g.2.1.trans h.2.1, fun k k1 k2 => (g.2.2.1 k k1 k2).trans (h.2.2.1 k k1 k2), g.2.2.2⟩
theorem gFt_l {n z : Nat} {b : Nat → Nat} {d d2 : gm} (h : gFt n b d) (g : gTl n z d d2) : gFt n b d2 := ⟨⟨h.1.1, by rw [g.2.2.1 2 (by omega) (by omega)]; exact h.1.2.1, fun j hj => by rw [g.1 56 (by omega) (by omega)]; exact h.1.2.2 j hj⟩, by rw [g.2.2.1 5 (by omega) (by omega)]; exact h.2.1, g.2.2.2⟩
theorem gTl_w {n z : Nat} {b : Nat → Nat} {d : gm} (f : Nat → Int32) (h : gFt n b d) : gTl n z d (gm_r d (422 + 1 + z) f) := ⟨fun i _ h2 => gr_n _ _ (by omega), rfl, fun k _ _ => by rw [gr_n _ _ (by omega)], by rw [gr_n _ _ (by omega)]; exact h.2.2⟩
theorem gTl_m {n z : Nat} {d d2 : gm} (h : frm d d2) (g : ∃ a2, a2 ≤ n ∧ d2.1 55 4 = nI a2) : gTl n z d d2 := ⟨fun i h1 _ => h.1 i h1, h.2.1, fun k k1 _ => h.2.2 k k1, g⟩
theorem r_6 {x : Int32} {z : Nat} (hz : z < 80) (h : x = 0 ∨ x = 1 ∨ x = 2 ∨ x = 3 ∨ x = 4 ∨ x = 5) : 0 ≤ x.toInt ∧ x.toInt < ((gal (422 + 1 + z) : Nat) : Int) := by rw [(gk_st z hz).2]; rcases h with rfl | rfl | rfl | rfl | rfl | rfl <;> decide
theorem rsE_f {n N z : Nat} {b : Nat → Nat} {d : gm} (h : gFt n b d) (hz : z < 80) : ∃ d2, rsE N z d = some d2 ∧ gTl n z d d2 := by
  have g := gTl_w (z := z) (upd (d.1 (422 + 1 + z)) 5 (d.1 55 26)) h
  refine ⟨_, ?_, g⟩
  unfold rsE
  rw [gc_1 (r_6 hz (by simp)), gv_e, show (5 : Int32).toNatClampNeg = 5 from rfl, gb_x (sign_f (gFt_l h g).2.1)]
theorem rsD_f {n N z : Nat} {b : Nat → Nat} {rs : rD} {r4 : Int32} {d : gm} (h : gFt n b d) (hz : z < 80) (hN : 700 < N) : ∃ d2, rsD rs N z r4 d = some d2 ∧ gTl n z d d2 := by
  unfold rsD
  by_cases q : r4 = 5
  · rw [if_pos q, gb2_x (num_f h.2.1), gc_1 (r_6 hz (by simp)), gv_e]
    have g1 := gTl_w (z := z) (upd (d.1 (422 + 1 + z)) (1 : Int32).toNatClampNeg 0) h
    have h1 := gFt_l h g1
    generalize gm_r d (422 + 1 + z) (upd (d.1 (422 + 1 + z)) (1 : Int32).toNatClampNeg 0) = d1 at *
    obtain ⟨a2, ha2, e4⟩ := h1.2.2
    have f2 := dAt_f d1 (pScan (pBl b) n a2)
    have g2 : gTl n z d1 (dAt d1 (pScan (pBl b) n a2)) := gTl_m f2 ⟨_, (pScan_le (p := pBl b) ha2).2, dAt_4 _ _⟩
    rw [gb_x (sign_f h1.2.1), gb_x (blanks_d h1.1 e4 ha2 hN)]
    have h2 := gFt_l h1 g2
    generalize dAt d1 (pScan (pBl b) n a2) = d2 at *
    have el : m_X10_readsStep_L182 rs N 55 d2 = some (.inr d2) := by unfold m_X10_readsStep_L182; rw [if_neg h2.2.1]
    rw [gb_x (gloop_1 (f := fun (c49 : gm) => m_X10_readsStep_L182 rs N 55 c49) el (by omega)), gb_x (sign_f h2.2.1), gv_e]
    have g3 : gTl n z d2 (gm_r d2 55 (upd (d2.1 55) 8 (d2.1 55 8 - 1))) := ⟨fun i h1 _ => gr_n _ _ h1, rfl, fun k _ k8 => by rw [gr_s, up_n _ _ k8], by rw [gr_s, up_n _ _ (by omega)]; exact h2.2.2⟩
    obtain ⟨d4, e4, g4⟩ := rsE_f (N := N) (gFt_l h2 g3) hz
    exact ⟨d4, e4, gTl_t g1 (gTl_t g2 (gTl_t g3 g4))⟩
  · rw [if_neg q]; exact rsE_f h hz
theorem rsC_f {n N z : Nat} {b : Nat → Nat} {rs : rD} {r4 : Int32} {d : gm} (h : gFt n b d) (hz : z < 80) (hN : 700 < N) : ∃ d2, rsC rs N z r4 d = some d2 ∧ gTl n z d d2 := by
  unfold rsC
  by_cases q : r4 = 1
  · rw [if_pos q, gb2_x (num_f h.2.1), gc_1 (r_6 hz (by simp)), gv_e]
    have g1 := gTl_w (z := z) (upd (d.1 (422 + 1 + z)) (1 : Int32).toNatClampNeg 0) h
    obtain ⟨d4, e4, g4⟩ := rsD_f (rs := rs) (r4 := r4) (gFt_l h g1) hz hN
    exact ⟨d4, e4, gTl_t g1 g4⟩
  · rw [if_neg q]; exact rsD_f h hz hN
theorem rsB4_f {n N z : Nat} {b : Nat → Nat} {rs : rD} {r4 : Int32} {d : gm} (h : gFt n b d) (hz : z < 80) (hN : 700 < N) : ∃ d2, gb2 (m_X10_number N 55 1 9 d) (fun (r83 : Int32) (c84 : gm) => gc (0 ≤ (4 : Int32).toInt ∧ (4 : Int32).toInt < ((gal (422 + 1 + z)) : Nat)) (gv (gm_r c84 (422 + 1 + z) (upd (c84.1 (422 + 1 + z)) (4 : Int32).toNatClampNeg r83)) (fun (c86 : gm) => rsC rs N z r4 c86))) = some d2 ∧ gTl n z d d2 := by
  rw [gb2_x (num_f h.2.1), gc_1 (r_6 hz (by simp)), gv_e]
  have g1 := gTl_w (z := z) (upd (d.1 (422 + 1 + z)) (4 : Int32).toNatClampNeg 0) h
  obtain ⟨d4, e4, g4⟩ := rsC_f (rs := rs) (r4 := r4) (gFt_l h g1) hz hN
  exact ⟨d4, e4, gTl_t g1 g4⟩
theorem rsB_f {n N z : Nat} {b : Nat → Nat} {rs : rD} {r4 : Int32} {d : gm} (h : gFt n b d) (hz : z < 80) (hN : 700 < N) : ∃ d2, rsB rs N z r4 d = some d2 ∧ gTl n z d d2 := by
  unfold rsB
  by_cases q : r4 = 0
  · obtain ⟨a2, ha2, e4⟩ := h.2.2
    obtain ⟨d1, e1, f1, h1⟩ := oth_f (x := d.1 (422 + 1 + z) (1 : Int32).toNatClampNeg) (y := d.1 59 (0 : Int32).toNatClampNeg) h.1 e4 ha2 h.2.1 hN
    have g0 : gTl n z d d1 := gTl_m f1 h1
    have h0 := gFt_l h g0
    rw [if_pos q, gc_1 (r_6 hz (by simp)), gb2_x e1, gc_1 (r_6 hz (by simp)), gv_e]
    have g1 := gTl_w (z := z) (upd (d1.1 (422 + 1 + z)) (3 : Int32).toNatClampNeg 0) h0
    obtain ⟨d4, e4, g4⟩ := rsB4_f (rs := rs) (r4 := r4) (gFt_l h0 g1) hz hN
    exact ⟨d4, e4, gTl_t g0 (gTl_t g1 g4)⟩
  · rw [if_neg q]; exact rsC_f h hz hN
theorem rsS_f {n N z : Nat} {b : Nat → Nat} {rs : rD} {r4 v : Int32} {d : gm} (h : gFt n b d) (hz : z < 80) (hN : 700 < N) : ∃ d2, rsS rs N z r4 v d = some d2 ∧ gTl n z d d2 := by
  unfold rsS
  rw [gb2_x (num_f h.2.1), gc_1 (r_6 hz (by simp)), gv_e]
  have g1 := gTl_w (z := z) (upd (d.1 (422 + 1 + z)) (2 : Int32).toNatClampNeg 0) h
  obtain ⟨d4, e4, g4⟩ := rsB_f (rs := rs) (r4 := r4) (gFt_l h g1) hz hN
  exact ⟨d4, e4, gTl_t g1 g4⟩
/-- the class: a step and its sign -/
def stC (rc : rC) (N : Nat) (th l : Int32) (c : gm) : Option (Int32 × gm) := gb2 (m_X8_readStep rc N 15 1 th l c) (fun (r17 : Int32) (c18 : gm) => if r17 = 0 then some (0, c18) else m_X7_takeSign N 1 59 c18)
def gWo (n : Nat) (b : Nat → Nat) (th : Nat) (W : gm → gm → Nat → Nat → Prop) (l z a : Nat) (c d : gm) (x : Option (Int32 × gm)) (y : Option gm) : Prop := (∃ c2 d2 a2 z2, x = some (1, c2) ∧ y = some d2 ∧ gIn n b c2 d2 a2 ∧ z < z2 ∧ 4 * z2 + a ≤ 4 * z + a2 ∧ c2.1 15 1 = nI z2 ∧ d2.1 55 26 = nI z2 ∧ gSs th W c2 d2 z z2 ∧ d2.1 55 8 = nI l ∧ fwC z c c2 ∧ fwD z d d2 ∧ c2.1 1 7 = c.1 1 7) ∨ ∃ c2 d2, x = some (0, c2) ∧ y = some d2 ∧ fwC z c c2 ∧ fwD z d d2 ∧ gFl n c2 d2
theorem wo_no {n th l z a : Nat} {b : Nat → Nat} {W : gm → gm → Nat → Nat → Prop} {c d c2 d1 d2 : gm} {x : Option (Int32 × gm)} {y : Option gm} (hz : z < 80) (ex : x = some (0, c2)) (ey : y = some d2) (f : fwC z c c2) (g : fwD z d d1) (h : gFl n c2 d1) (t : gTl n z d1 d2) : gWo n b th W l z a c d x y := by
  refine Or.inr ⟨c2, d2, ex, ey, f, fwD_t g ⟨fun i h1 h2 => t.1 i h1 (by omega), t.2.1, fun k hk => t.2.2.1 k (by omega) (by omega)⟩ (Nat.le_refl z), ?_⟩
  obtain ⟨k, q, a9, k1, k3, hq, ha9, c6, c7, d5, d6, d4⟩ := h
  obtain ⟨a2, ha2, e4⟩ := t.2.2.2
  exact ⟨k, q, a2, k1, k3, hq, ha2, c6, c7, by rw [t.2.2.1 5 (by omega) (by omega)]; exact d5, by rw [t.2.2.1 6 (by omega) (by omega)]; exact d6, e4⟩
theorem gFt_o {n : Nat} {b : Nat → Nat} {c d c2 d2 : gm} (hd : gTd n b d) (h : gNo n c d c2 d2) : gFt n b d2 := ⟨gTd_f hd h.2.1, gFl_5 h.2.2, gFl_t h.2.2⟩
/-- the sign at the end of a step -/
theorem end_two {n a N z : Nat} {b : Nat → Nat} {c d : gm} (h : gIn n b c d a) (hz : z < 80) (hN : 700 < N) : (∃ c2 d2 a2, a < a2 ∧ m_X7_takeSign N 1 59 c = some (1, c2) ∧ rsE N z d = some d2 ∧ gIn n b c2 d2 a2 ∧ frc c c2 ∧ d2.1 (423 + z) = upd (d.1 (423 + z)) 5 (d.1 55 26) ∧ fpD z d d2) ∨ (∃ c2 d1 d2, m_X7_takeSign N 1 59 c = some (0, c2) ∧ rsE N z d = some d2 ∧ frcF c c2 ∧ fwD z d d1 ∧ gFl n c2 d1 ∧ gTl n z d1 d2) := by
  obtain ⟨d1, ed1⟩ : ∃ q, q = gm_r d (422 + 1 + z) (upd (d.1 (422 + 1 + z)) 5 (d.1 55 26)) := ⟨_, rfl⟩
  have I1 : gIn n b c d1 a := by rw [ed1]; exact gIn_u h _ (by omega)
  have E : rsE N z d = gb (m_X10_sign N 55 59 d1) (fun (c35 : gm) => some c35) := by
    unfold rsE
    rw [gc_1 (r_6 hz (by simp)), gv_e, show (5 : Int32).toNatClampNeg = 5 from rfl, ← ed1]
  rw [E]
  rcases sign_two (x := 59) I1 hN (by decide) with ⟨c2, d2, a2, ha2, t1, t2, hO⟩ | ⟨c2, d2, t1, t2, hO⟩
  · left
    refine ⟨c2, d2, a2, ha2, t1, by rw [show m_X10_sign N 55 59 d1 = some d2 from t2, gb_e], gIn_o I1 hO, hO.1, ?_, ⟨fun i i1 i2 => by rw [hO.2.1.1 i i1, ed1, gr_n _ _ (by omega)], by rw [hO.2.1.2.1, ed1]; rfl, fun k k4 => by rw [hO.2.1.2.2 k k4, ed1, gr_n _ _ (by omega)]⟩⟩
    rw [hO.2.1.1 _ (by omega), ed1, show 423 + z = 422 + 1 + z by omega, gr_s]
  · right
    refine ⟨c2, d2, d2, t1, by rw [show m_X10_sign N 55 59 d1 = some d2 from t2, gb_e], hO.1, ⟨fun i i1 i2 => by rw [hO.2.1.1 i i1, ed1, gr_n _ _ (by omega)], by rw [hO.2.1.2.1, ed1]; rfl, fun k hk => by rw [hO.2.1.2.2 k (by omega) (by omega) (by omega), ed1, gr_n _ _ (by omega)]⟩, hO.2.2, ⟨fun _ _ _ => rfl, rfl, fun _ _ _ => rfl, gFl_t hO.2.2⟩⟩
/-- the word behind, the step is begun -/
theorem start_two {n N z s e k : Nat} {b : Nat → Nat} {rs : rD} {c d : gm} (hb : gNb n b d s) (hc : gTc n b c) (h3 : c.1 1 3 = nI e) (ee : e = pScan (pLt b) n s) (h1 : c.1 15 1 = nI z) (h26 : d.1 55 26 = nI z) (hz : z < 38) (hN : 700 < N) : ∃ c6 d6, m_X8_add 15 (nI k) c = some (1, c6) ∧ rsM rs N (nI k) d = rsA rs N z (nI k) d6 ∧ gIn n b c6 d6 e ∧ c6.1 15 1 = nI (z + 1) ∧ d6.1 55 26 = nI (z + 1) ∧ c6.1 16 = upd (c.1 16) (5 * z) (nI k) ∧ d6.1 (423 + z) = upd (d.1 (423 + z)) 0 (nI k) ∧ fwC z c c6 ∧ fwD z d d6 ∧ c6.1 1 = c.1 1 ∧ d6.1 55 8 = d.1 55 8 := by
  obtain ⟨hd, d4, hsn, d5, hx⟩ := id hb
  have hn := hd.1
  have he : e ≤ n := by rw [ee]; exact (pScan_le (p := pLt b) hsn).2
  have esk := skip_d hd d4 hsn hN
  rw [← ee] at esk
  have fa := dAt_f d e
  obtain ⟨c6, ec6⟩ : ∃ q, q = gm_r (gm_r c 16 (upd (c.1 16) (5 * z) (nI k))) 15 (upd (c.1 15) 1 (nI (z + 1))) := ⟨_, rfl⟩
  obtain ⟨d6, ed6⟩ : ∃ q, q = gm_r (gm_r (dAt d e) 55 (upd ((dAt d e).1 55) 26 (nI (z + 1)))) (422 + 1 + z) (upd ((dAt d e).1 (422 + 1 + z)) 0 (nI k)) := ⟨_, rfl⟩
  have a26 : (dAt d e).1 55 26 = nI z := by rw [fa.2.2 26 (by omega)]; exact h26
  have d655 : d6.1 55 = upd ((dAt d e).1 55) 26 (nI (z + 1)) := by rw [ed6, gr_n _ _ (by omega), gr_s]
  refine ⟨c6, d6, by rw [add_c8 h1 hz, ← ec6], ?_, ⟨⟨hc.1, by rw [ec6, gr_n _ _ (by omega), gr_n _ _ (by omega)]; exact hc.2.1, fun j hj => by rw [ec6, gr_n _ _ (by omega), gr_n _ _ (by omega)]; exact hc.2.2 j hj⟩, ⟨hd.1, by rw [d655, up_n _ _ (by omega), fa.2.2 2 (by omega)]; exact hd.2.1, fun j hj => by rw [ed6, gr_n _ _ (by omega), gr_n _ _ (by omega), fa.1 56 (by omega)]; exact hd.2.2 j hj⟩, by rw [ec6, gr_n _ _ (by omega), gr_n _ _ (by omega)]; exact h3, by rw [d655, up_n _ _ (by omega)]; exact dAt_4 _ _, he, by rw [d655, up_n _ _ (by omega), fa.2.2 5 (by omega)]; exact d5⟩, by rw [ec6, gr_s, up_s], by rw [d655, up_s], by rw [ec6, gr_n _ _ (by omega), gr_s], ?_, ⟨fun i i1 i2 i3 => by rw [ec6, gr_n _ _ i2, gr_n _ _ i3], by rw [ec6]; rfl, fun q hq => by rw [ec6, gr_n _ _ (by omega), gr_n _ _ (by omega)], fun j hj => by rw [ec6, gr_n _ _ (by omega), gr_s, up_n _ _ (by omega)]⟩, ⟨fun i i1 i2 => by rw [ed6, gr_n _ _ (by omega), gr_n _ _ i1, fa.1 i i1], by rw [ed6]; exact fa.2.1, fun q hq => by rw [d655, up_n _ _ (by omega), fa.2.2 q (by omega)]⟩, by rw [ec6, gr_n _ _ (by omega), gr_n _ _ (by omega)], by rw [d655, up_n _ _ (by omega), fa.2.2 8 (by omega)]⟩
  · unfold rsM
    rw [if_pos d5, gb_x esk, a26, gc_1 (n_rg (by omega) (by omega)), gv_e, n_cl (by omega), gc_1 (gk_st z (by omega)).1, gc_1 (r_6 (by omega) (by simp)), gv_e, n_cl0, n_s, gr_n _ _ (show 422 + 1 + z ≠ 55 by omega), ← ed6]
  · rw [ed6, show 423 + z = 422 + 1 + z by omega, gr_s, fa.1 _ (by omega)]
