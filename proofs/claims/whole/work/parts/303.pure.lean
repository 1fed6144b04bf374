set_option maxRecDepth 16384
theorem n_cl1 : (1 : Int32).toNatClampNeg = 1 := rfl
/-! how a thing wears: the class's marks and the reference's -/
theorem jo_neg (a : Int32) : a / (-1) = -a := by
  rw [← Int32.toInt_inj]
  rw [Int32.toInt_div, show (-1 : Int32).toInt = -1 from by decide, Int32.toInt_neg, Int.tdiv_neg, Int.tdiv_one]
theorem jo_by (j : Nat) (h2 : 2 ≤ j) (h8 : j ≤ 8) (a b : Int32) : ∃ v, m_X3_joined (nI j) a b = some v ∧ m_X10_by (nI j) a b = some v := by
  unfold m_X3_joined m_X10_by m_X10_less m_X10_more
  have hj : j = 2 ∨ j = 3 ∨ j = 4 ∨ j = 5 ∨ j = 6 ∨ j = 7 ∨ j = 8 := by omega
  simp (disch := omega) only [n_l2, n_l3, n_l4, n_l5, n_l6, n_l7, n_eq, gb, gc]
  by_cases b0 : b = 0
  · by_cases q1 : b ≤ a <;> by_cases q2 : a ≤ b <;> rcases hj with rfl | rfl | rfl | rfl | rfl | rfl | rfl <;> simp [b0, q1, q2] <;> (rw [b0] at q1 q2; simp [q1, q2])
  · by_cases b1 : b = -1
    · have e1 : a / b = -a := by rw [b1]; exact jo_neg a
      have e2 : a - -a * b = 0 := by rw [b1, Int32.neg_mul_neg, Int32.mul_one, Int32.sub_self]
      by_cases q1 : b ≤ a <;> by_cases q2 : a ≤ b <;> rcases hj with rfl | rfl | rfl | rfl | rfl | rfl | rfl <;> simp only [b0, b1.symm, e1, e2, q1, q2, if_true, if_false, Nat.reduceEqDiff, not_false_eq_true] <;> exact ⟨_, rfl, rfl⟩
    · by_cases q1 : b ≤ a <;> by_cases q2 : a ≤ b <;> rcases hj with rfl | rfl | rfl | rfl | rfl | rfl | rfl <;> simp [b0, b1, q1, q2]
/-- what is the same but for some cells -/
def fr (S : Nat → Prop) (c c2 : gm) : Prop := (∀ i, ¬ S i → c2.1 i = c.1 i) ∧ c2.2 = c.2
theorem fr_r (S : Nat → Prop) (c : gm) : fr S c c := ⟨fun _ _ => rfl, rfl⟩
theorem fr_t {S : Nat → Prop} {a b c : gm} (h : fr S a b) (g : fr S b c) : fr S a c := ⟨fun i hi => (g.1 i hi).trans (h.1 i hi), g.2.trans h.2⟩
theorem fr_m {S T : Nat → Prop} {a b : gm} (h : fr S a b) (g : ∀ i, S i → T i) : fr T a b := ⟨fun i hi => h.1 i (fun q => hi (g i q)), h.2⟩
theorem fr_u {S : Nat → Prop} {c : gm} {i : Nat} (f : Nat → Int32) (h : S i) : fr S c (gm_r c i f) := ⟨fun j hj => gr_n c f (fun e => hj (e ▸ h)), rfl⟩
theorem fr_ut {S : Nat → Prop} {a c : gm} {i : Nat} {f : Nat → Int32} (g : fr S a c) (h : S i) : fr S a (gm_r c i f) := fr_t g (fr_u f h)
def gCode (z : Nat) (mk op : Nat → Int32) (D : Nat → Nat) : Prop := z ≤ 150 ∧ D 0 = 0 ∧ 1 ≤ D z ∧ ∀ k, k < z → (D (k + 1) = D k + 1 ∧ D k < 24 ∧ (mk k = 0 ∨ mk k = 1 ∧ ∃ o, o < 7 ∧ op k = nI o)) ∨ (D (k + 1) + 1 = D k ∧ 2 ≤ D k ∧ ∃ j, 2 ≤ j ∧ j ≤ 8 ∧ mk k = nI j)
theorem gCode_b {z : Nat} {mk op : Nat → Int32} {D : Nat → Nat} (h : gCode z mk op D) : ∀ k, k ≤ z → D k ≤ 24 := by
  obtain ⟨-, h0, -, hs⟩ := h
  intro k
  induction k with
  | zero => intro _; omega
  | succ k ih =>
    intro hk
    have := ih (by omega)
    rcases hs k (by omega) with ⟨a, b, -⟩ | ⟨a, b, -⟩ <;> omega
def gLw (t : Nat) (c d : gm) : Prop := gck t = 3 ∧ ∃ z mk op D, gCode z mk op D ∧ c.1 t 4 = nI z ∧ (∀ k, k < z → c.1 (t + 1) k = mk k ∧ c.1 (t + 2) k = op k) ∧ ((d.1 55 17 = nI 0 ∧ z = 3 ∧ mk 0 = 1 ∧ op 0 = 1 ∧ mk 1 = 0 ∧ op 1 = 4 ∧ mk 2 = 5) ∨ (1 ≤ z ∧ d.1 55 17 = nI z ∧ ∀ k, k < z → d.1 (85 + k) 0 = mk k ∧ d.1 (85 + k) 1 = op k))
theorem gk_law : ∀ k, k < 160 → gck (84 + 1 + k) = 22 ∧ gal (84 + 1 + k) = 2 := by decide
def pCl (x : Int32) : Int32 := if 0 ≤ x then (if x ≤ 20 then x else 20) else 0
theorem pCl_b (x : Int32) : ∃ w, w ≤ 20 ∧ pCl x = nI w := by
  unfold pCl
  by_cases h0 : x < 0
  · exact ⟨0, by omega, by rw [if_neg (fun h => Int32.lt_irrefl (Int32.lt_of_lt_of_le h0 h))]; rfl⟩
  · obtain ⟨k, hk, rfl⟩ := n_ex h0
    simp (disch := omega) only [n_l0, n_l20, n_le, Nat.zero_le, if_true]
    by_cases q : k ≤ 20
    · exact ⟨k, q, by rw [if_pos q]⟩
    · exact ⟨20, by omega, by rw [if_neg q]⟩

theorem wear_loop {t z : Nat} {mk op : Nat → Int32} {D : Nat → Nat} {c d : gm} (hk : gck t = 3) (hC : gCode z mk op D) (hz : c.1 t 4 = nI z) (hco : ∀ k, k < z → c.1 (t + 1) k = mk k ∧ c.1 (t + 2) k = op k) (hdz : d.1 55 17 = nI z) (hdo : ∀ k, k < z → d.1 (85 + k) 0 = mk k ∧ d.1 (85 + k) 1 = op k) (hv : ∀ j, j < 7 → c.1 (t + 3) j = d.1 421 j) {n : Nat} (hn : 160 < n) : ∃ q d2, gloop (gu2 (fun (y21 : Int32) => gu2 (fun (y22 : Int32) (c23 : gm) => m_X3_wear_L60 t y21 y22 c23))) n (0, 0, c) = some q ∧ gloop (gu2 (fun (y13 : Int32) => gu2 (fun (y14 : Int32) (c15 : gm) => m_X10_byLaw_L18 55 y13 y14 c15))) n (0, 0, d) = some d2 ∧ (¬ q.1 ≤ 0 ∧ fr (fun i => i = t + 4) c q.2 ∧ fr (fun i => i = 420) d d2 ∧ q.2.1 (t + 4) 0 = d2.1 420 0) := by
  have hb := gCode_b hC
  obtain ⟨hz150, h0, h1, hs⟩ := hC
  refine gloop_two (fun r (a : Int32 × Int32 × gm) (x : Int32 × Int32 × gm) => ∃ k c2 d2, k ≤ z ∧ r + k = z ∧ a = (nI (D k), nI k, c2) ∧ x = (nI (D k), nI k, d2) ∧ fr (fun i => i = t + 4) c c2 ∧ fr (fun i => i = 420) d d2 ∧ ∀ i, i < D k → c2.1 (t + 4) i = d2.1 420 i) (fun (q : Int32 × gm) (d2 : gm) => ¬ q.1 ≤ 0 ∧ fr (fun i => i = t + 4) c q.2 ∧ fr (fun i => i = 420) d d2 ∧ q.2.1 (t + 4) 0 = d2.1 420 0) ?_ ⟨0, c, d, by omega, (by omega : z + 0 = z), by rw [h0]; rfl, by rw [h0]; rfl, fr_r _ _, fr_r _ _, by omega⟩ (by omega)
  rintro r a x ⟨k, c2, d2, hkz, hr, rfl, rfl, fc, fd, hi⟩
  have e1 : c2.1 t = c.1 t := fc.1 _ (by omega)
  have e2 : c2.1 (t + 1) = c.1 (t + 1) := fc.1 _ (by omega)
  have e3 : c2.1 (t + 2) = c.1 (t + 2) := fc.1 _ (by omega)
  have e4 : c2.1 (t + 3) = c.1 (t + 3) := fc.1 _ (by omega)
  have g1 : d2.1 55 = d.1 55 := fd.1 _ (by decide)
  have g2 : d2.1 421 = d.1 421 := fd.1 _ (by decide)
  by_cases hkz2 : k = z
  · right
    subst hkz2
    refine ⟨(nI (D k), c2), d2, ?_, ?_, ?_, fc, fd, hi 0 (by omega)⟩
    · simp (disch := omega) only [m_X3_wear_L60, ↓reduceIte, gv, gb, gb2, ↓gc, gj, gu2, gsm, gok, gbx, gbw, e1, hz, n_le, Nat.le_refl]
    · simp (disch := omega) only [m_X10_byLaw_L18, ↓reduceIte, gv, gb, gb2, ↓gc, gj, gu2, gsm, gok, gbx, gbw, g1, hdz, n_le, Nat.le_refl]
    · have := hb k (by omega)
      simp (disch := omega) only [n_l0, n_le]
      omega
  · left
    have hlt : k < z := by omega
    have g3 : d2.1 (84 + 1 + k) = d.1 (85 + k) := by rw [fd.1 _ (by omega)]
    obtain ⟨m1, m2⟩ := hco k hlt
    obtain ⟨m3, m4⟩ := hdo k hlt
    obtain ⟨k1, k2⟩ := gk_law k (by omega)
    have hDk := hb k (by omega)
    rcases hs k hlt with ⟨hD, hD24, hm⟩ | ⟨hD, hD2, j, hj2, hj8, hm⟩
    · rcases hm with hm | ⟨hm, o, ho, hop⟩
      · refine ⟨(nI (D (k + 1)), nI (k + 1), gm_r c2 (t + 4) (upd (c2.1 (t + 4)) (D k) (op k))), (nI (D (k + 1)), nI (k + 1), gm_r d2 420 (upd (d2.1 420) (D k) (op k))), r - 1, ?_, ?_, by omega, k + 1, _, _, by omega, by omega, rfl, rfl, fr_ut fc rfl, fr_ut fd rfl, ?_⟩
        · simp (disch := omega) only [m_X3_wear_L60, ↓reduceIte, gv, gb, gb2, ↓gc, gj, gu2, gsm, gok, gbx, gbw, e1, e2, e3, hz, m1, m2, hm, n_le, n_l150, n_l24, n_ti, n_cl, show ¬ z ≤ k by omega, show ¬ 150 ≤ k by omega, show ¬ 24 ≤ D k by omega, n_s, hD]
          simp [show (k : Int) < 150 by omega, show (D k : Int) < 24 by omega]
        · simp (disch := omega) only [m_X10_byLaw_L18, ↓reduceIte, gv, gb, gb2, ↓gc, gj, gu2, gsm, gok, gbx, gbw, g1, hdz, n_le, n_l160, n_ti, n_cl, show ¬ z ≤ k by omega, k1, k2, g3, n_cl0, m3, m4, hm, show ¬ (2 : Int32) ≤ 0 by decide, n_s, hD, n_cl1]
          simp [show (k : Int) < 160 by omega, show (D k : Int) < 160 by omega]
        · intro i hi2
          rw [gr_s, gr_s]
          by_cases q : i = D k
          · rw [q, up_s, up_s]
          · rw [up_n _ _ q, up_n _ _ q]
            exact hi i (by omega)
      · refine ⟨(nI (D (k + 1)), nI (k + 1), gm_r c2 (t + 4) (upd (c2.1 (t + 4)) (D k) (c.1 (t + 3) o))), (nI (D (k + 1)), nI (k + 1), gm_r d2 420 (upd (d2.1 420) (D k) (d.1 421 o))), r - 1, ?_, ?_, by omega, k + 1, _, _, by omega, by omega, rfl, rfl, fr_ut fc rfl, fr_ut fd rfl, ?_⟩
        · simp (disch := omega) only [m_X3_wear_L60, ↓reduceIte, gv, gb, gb2, ↓gc, gj, gu2, gsm, gok, gbx, gbw, e1, e2, e3, e4, hz, m1, m2, hm, hop, n_le, n_l150, n_l24, n_l0, n_l7, n_lt, n_ti, n_cl, show ¬ z ≤ k by omega, show ¬ 150 ≤ k by omega, show ¬ 24 ≤ D k by omega, n_s, hD, show ¬ (1 : Int32) = nI 0 by decide, show ¬ 7 ≤ o by omega, Nat.not_lt_zero]
          simp [show (k : Int) < 150 by omega, show (D k : Int) < 24 by omega, show (o : Int) < 7 by omega]
        · simp (disch := omega) only [m_X10_byLaw_L18, ↓reduceIte, gv, gb, gb2, ↓gc, gj, gu2, gsm, gok, gbx, gbw, g1, g2, hdz, n_le, n_l160, n_ti, n_cl, show ¬ z ≤ k by omega, k1, k2, g3, n_cl0, m3, m4, hm, hop, show ¬ (2 : Int32) ≤ 1 by decide, show ¬ (1 : Int32) = 0 by decide, n_s, hD, n_cl1]
          simp [show (k : Int) < 160 by omega, show (D k : Int) < 160 by omega, show (o : Int) < 7 by omega]
        · intro i hi2
          rw [gr_s, gr_s]
          by_cases q : i = D k
          · rw [q, up_s, up_s]
            exact hv o ho
          · rw [up_n _ _ q, up_n _ _ q]
            exact hi i (by omega)
    · have q1 := hi (D k - 1) (by omega)
      have q2 := hi (D k - 2) (by omega)
      obtain ⟨v, v1, v2⟩ := jo_by j hj2 hj8 (d2.1 420 (D k - 2)) (d2.1 420 (D k - 1))
      have a1 : nI (D k) + (-1) = nI (D k - 1) := n_pr (by omega)
      have a2 : nI (D k - 1) - 1 = nI (D k - 2) := n_su (a := D k - 1) (b := 1) (by omega)
      have a3 : D (k + 1) = D k - 1 := by omega
      refine ⟨(nI (D (k + 1)), nI (k + 1), gm_r c2 (t + 4) (upd (c2.1 (t + 4)) (D k - 2) v)), (nI (D (k + 1)), nI (k + 1), gm_r d2 420 (upd (d2.1 420) (D k - 2) v)), r - 1, ?_, ?_, by omega, k + 1, _, _, by omega, by omega, rfl, rfl, fr_ut fc rfl, fr_ut fd rfl, ?_⟩
      · have b1 : ¬ nI j = 1 := by rw [n_l1, n_eq (by omega) (by omega)]; omega
        have b0 : ¬ nI j = 0 := by rw [n_l0, n_eq (by omega) (by omega)]; omega
        simp (disch := omega) only [m_X3_wear_L60, ↓reduceIte, gv, gb, gb2, ↓gc, gj, gu2, gsm, gok, gbx, gbw, e1, e2, e3, hz, m1, m2, hm, n_le, n_l150, n_l24, n_l2, n_lt, n_ti, n_cl, show ¬ z ≤ k by omega, show ¬ 150 ≤ k by omega, show ¬ D k < 2 by omega, n_s, a3, a1, a2, b0, b1, q1, q2, v1]
        simp [show (k : Int) < 150 by omega, show ((D k - 1 : Nat) : Int) < 24 by omega, show ((D k - 2 : Nat) : Int) < 24 by omega]
      · have b2 : (2 : Int32) ≤ nI j := by rw [n_l2, n_le (by omega) (by omega)]; omega
        simp (disch := omega) only [m_X10_byLaw_L18, ↓reduceIte, gv, gb, gb2, ↓gc, gj, gu2, gsm, gok, gbx, gbw, g1, g2, hdz, n_le, n_l160, n_ti, n_cl, show ¬ z ≤ k by omega, k1, k2, g3, n_cl0, m3, m4, hm, b2, n_s, a3, a1, a2, v2, n_cl1]
        simp [show (k : Int) < 160 by omega, show ((D k - 1 : Nat) : Int) < 160 by omega, show ((D k - 2 : Nat) : Int) < 160 by omega]
      · intro i hi2
        rw [gr_s, gr_s]
        by_cases q : i = D k - 2
        · rw [q, up_s, up_s]
        · rw [up_n _ _ q, up_n _ _ q]
          exact hi i (by omega)
