set_option maxRecDepth 16384
/-- cry k of the row is just this -/
def pHit (r : Nat → Int32) (A N B K : Int32) (k : Nat) : Prop := r (16 + 4 * k) = A ∧ r (16 + 4 * k + 1) = N ∧ r (16 + 4 * k + 2) = B ∧ r (16 + 4 * k + 3) = K
theorem hit_c {t th m : Nat} {pl : Int32} {r : Nat → Int32} {c : gm} (h : gSt t c th m pl r) (hm : m ≤ 10) (A N B K : Int32) {n : Nat} (hn : 20 < n) : ∃ b, gloop (fun (y2 : Int32) => m_X6_addNewCry_L3 t A N B K c y2) n 0 = some b ∧ ((b = .inl (0, c) ∧ ∃ k, k < m ∧ pHit r A N B K k) ∨ (b = .inr () ∧ ∀ k, k < m → ¬ pHit r A N B K k)) := by
  obtain ⟨hk, h8, h5, h6, -⟩ := id h
  refine gloop_inv (fun q (a : Int32) => ∃ k, k ≤ m ∧ q + k = m ∧ a = nI k ∧ ∀ j, j < k → ¬ pHit r A N B K j) _ ?_ ⟨0, by omega, (by omega : m + 0 = m), rfl, by omega⟩ (by omega)
  rintro q a ⟨k, hkm, hq, rfl, hno⟩
  by_cases e : k = m
  · right
    subst e
    refine ⟨.inr (), ?_, Or.inr ⟨rfl, hno⟩⟩
    simp (disch := omega) only [m_X6_addNewCry_L3, ↓reduceIte, gv, gb, gb2, ↓gc, gj, gu2, gsm, gok, gbx, gbw, hk, h6, n_le, Nat.le_refl]
  · have c0 : m_X6_cryPart t (nI k) 0 c = some (r (16 + 4 * k)) := cs_cry h hm (show k < m by omega) (j := 0) (by omega)
    have c1 : m_X6_cryPart t (nI k) 1 c = some (r (16 + 4 * k + 1)) := cs_cry h hm (show k < m by omega) (j := 1) (by omega)
    have c2 : m_X6_cryPart t (nI k) 2 c = some (r (16 + 4 * k + 2)) := cs_cry h hm (show k < m by omega) (j := 2) (by omega)
    have c3 : m_X6_cryPart t (nI k) 3 c = some (r (16 + 4 * k + 3)) := cs_cry h hm (show k < m by omega) (j := 3) (by omega)
    by_cases hh : pHit r A N B K k
    · right
      obtain ⟨p0, p1, p2, p3⟩ := id hh
      refine ⟨.inl (0, c), ?_, Or.inl ⟨rfl, k, by omega, hh⟩⟩
      simp (disch := omega) only [m_X6_addNewCry_L3, ↓reduceIte, gv, gb, gb2, ↓gc, gj, gu2, gsm, gok, gbx, gbw, hk, h6, n_le, show ¬ m ≤ k by omega, c0, c1, c2, c3, p0, p1, p2, p3]
    · left
      refine ⟨nI (k + 1), q - 1, ?_, by omega, k + 1, by omega, by omega, rfl, fun j hj => ?_⟩
      · simp (disch := omega) only [m_X6_addNewCry_L3, ↓reduceIte, gv, gb, gb2, ↓gc, gj, gu2, gsm, gok, gbx, gbw, hk, h6, n_le, show ¬ m ≤ k by omega, c0, c1, c2, c3, n_s]
        by_cases p0 : r (16 + 4 * k) = A
        · by_cases p1 : r (16 + 4 * k + 1) = N
          · by_cases p2 : r (16 + 4 * k + 2) = B
            · by_cases p3 : r (16 + 4 * k + 3) = K
              · exact absurd ⟨p0, p1, p2, p3⟩ hh
              · simp only [p0, p1, p2, p3, if_true, if_false]
            · simp only [p0, p1, p2, if_true, if_false]
          · simp only [p0, p1, if_true, if_false]
        · simp only [p0, if_false]
      · by_cases q : j = k
        · rw [q]; exact hh
        · exact hno j (by omega)
theorem hit_d {a1 m : Nat} {r : Nat → Int32} {d : gm} (er : d.1 a1 = r) (h56 : r 56 = nI m) (k1 : gck a1 = 22) (k2 : gal a1 = 60) (hm : m ≤ 10) (A N B K : Int32) {n : Nat} (hn : 20 < n) : ∃ b, gloop (fun (y2 : Int32) => m_X10_isCry_L3 a1 A N B K d y2) n 0 = some b ∧ ((b = .inl 1 ∧ ∃ k, k < m ∧ pHit r A N B K k) ∨ (b = .inr () ∧ ∀ k, k < m → ¬ pHit r A N B K k)) := by
  refine gloop_inv (fun q (a : Int32) => ∃ k, k ≤ m ∧ q + k = m ∧ a = nI k ∧ ∀ j, j < k → ¬ pHit r A N B K j) _ ?_ ⟨0, by omega, (by omega : m + 0 = m), rfl, by omega⟩ (by omega)
  rintro q a ⟨k, hkm, hq, rfl, hno⟩
  by_cases e : k = m
  · right
    subst e
    refine ⟨.inr (), ?_, Or.inr ⟨rfl, hno⟩⟩
    simp (disch := omega) only [m_X10_isCry_L3, ↓reduceIte, gv, gb, gb2, ↓gc, gj, gu2, gsm, gok, gbx, gbw, k1, k2, er, n_l56, n_cl, n_ti, h56, n_le, Nat.le_refl]
    rw [if_pos (by omega)]
  · by_cases hh : pHit r A N B K k
    · right
      obtain ⟨p0, p1, p2, p3⟩ := id hh
      refine ⟨.inl 1, ?_, Or.inl ⟨rfl, k, by omega, hh⟩⟩
      simp (disch := omega) only [m_X10_isCry_L3, ↓reduceIte, gv, gb, gb2, ↓gc, gj, gu2, gsm, gok, gbx, gbw, k1, k2, er, n_l56, n_l16, n_l4, n_l3, n_l2, n_ad, n_s, n_mu, n_cl, n_ti, h56, n_le, show ¬ m ≤ k by omega, p0, p1, p2, p3]
      rw [if_pos (by omega), if_pos (by omega), if_pos (by omega), if_pos (by omega), if_pos (by omega)]
    · left
      refine ⟨nI (k + 1), q - 1, ?_, by omega, k + 1, by omega, by omega, rfl, fun j hj => ?_⟩
      · simp (disch := omega) only [m_X10_isCry_L3, ↓reduceIte, gv, gb, gb2, ↓gc, gj, gu2, gsm, gok, gbx, gbw, k1, k2, er, n_l56, n_l16, n_l4, n_l3, n_l2, n_ad, n_s, n_mu, n_cl, n_ti, h56, n_le, show ¬ m ≤ k by omega]
        rw [if_pos (by omega), if_pos (by omega), if_pos (show (0 : Int) ≤ ((16 + 4 * k + 1 : Nat) : Int) ∧ ((16 + 4 * k + 1 : Nat) : Int) < ((60 : Nat) : Int) by omega), if_pos (show (0 : Int) ≤ ((16 + 4 * k + 2 : Nat) : Int) ∧ ((16 + 4 * k + 2 : Nat) : Int) < ((60 : Nat) : Int) by omega), if_pos (show (0 : Int) ≤ ((16 + 4 * k + 3 : Nat) : Int) ∧ ((16 + 4 * k + 3 : Nat) : Int) < ((60 : Nat) : Int) by omega)]
        by_cases p0 : r (16 + 4 * k) = A
        · by_cases p1 : r (16 + 4 * k + 1) = N
          · by_cases p2 : r (16 + 4 * k + 2) = B
            · by_cases p3 : r (16 + 4 * k + 3) = K
              · exact absurd ⟨p0, p1, p2, p3⟩ hh
              · simp only [p0, p1, p2, p3, if_true, if_false]
            · simp only [p0, p1, p2, if_true, if_false]
          · simp only [p0, p1, if_true, if_false]
        · simp only [p0, if_false]
      · by_cases q : j = k
        · rw [q]; exact hh
        · exact hno j (by omega)
/-- the row with one cry more -/
def pAdd (r : Nat → Int32) (m : Nat) (A N B K : Int32) : Nat → Int32 := upd (upd (upd (upd (upd r (16 + 4 * m) A) (16 + 4 * m + 1) N) (16 + 4 * m + 2) B) (16 + 4 * m + 3) K) 56 (nI (m + 1))
theorem pAdd_n {r : Nat → Int32} {m : Nat} {A N B K : Int32} {i : Nat} (h : i < 16 + 4 * m ∨ 16 + 4 * m + 4 ≤ i) (h56 : i ≠ 56) : pAdd r m A N B K i = r i := by
  unfold pAdd
  rw [up_n _ _ h56, up_n _ _ (by omega), up_n _ _ (by omega), up_n _ _ (by omega), up_n _ _ (by omega)]
theorem pAdd_v {r : Nat → Int32} {m : Nat} {A N B K : Int32} (hm : m < 10) : pAdd r m A N B K (16 + 4 * m) = A ∧ pAdd r m A N B K (16 + 4 * m + 1) = N ∧ pAdd r m A N B K (16 + 4 * m + 2) = B ∧ pAdd r m A N B K (16 + 4 * m + 3) = K ∧ pAdd r m A N B K 56 = nI (m + 1) := by
  unfold pAdd
  refine ⟨?_, ?_, ?_, ?_, ?_⟩
  · rw [up_n _ _ (by omega), up_n _ _ (by omega), up_n _ _ (by omega), up_n _ _ (by omega), up_s]
  · rw [up_n _ _ (by omega), up_n _ _ (by omega), up_n _ _ (by omega), up_s]
  · rw [up_n _ _ (by omega), up_n _ _ (by omega), up_s]
  · rw [up_n _ _ (by omega), up_s]
  · rw [up_s]
theorem gRow_add {th m a n b k : Nat} {r : Nat → Int32} (h : gRow th m r) (h8 : th ≤ 8) (hm : m < 10) (ha : a < th) (hb : b < th) (hab : a ≠ b) (n1 : 1 ≤ n) (n9 : n ≤ 9) (k1 : 1 ≤ k) (k9 : k ≤ 9) : gRow th (m + 1) (pAdd r m (nI a) (nI n) (nI b) (nI k)) := by
  obtain ⟨-, h56, hw, hc, l, hl, h57⟩ := h
  obtain ⟨p0, p1, p2, p3, p4⟩ := pAdd_v (r := r) (A := nI a) (N := nI n) (B := nI b) (K := nI k) hm
  refine ⟨by omega, p4, fun x hx => by rw [pAdd_n (by omega) (by omega)]; exact hw x hx, fun x hx => ?_, l, hl, by rw [pAdd_n (by omega) (by omega)]; exact h57⟩
  by_cases q : x = m
  · subst q
    exact ⟨a, n, b, k, ha, hb, hab, n1, n9, k1, k9, p0, p1, p2, p3⟩
  · rw [pAdd_n (by omega) (by omega), pAdd_n (by omega) (by omega), pAdd_n (by omega) (by omega), pAdd_n (by omega) (by omega)]
    exact hc x (by omega)
theorem add_c {t th m : Nat} {pl : Int32} {r : Nat → Int32} {c : gm} (h : gSt t c th m pl r) (hm : m < 10) (A N B K : Int32) : ∃ c2, m_X6_addCry t A N B K c = some c2 ∧ fr (fun i => i = t ∨ i = t + 5) c c2 ∧ gSt t c2 th (m + 1) pl (pAdd r m A N B K) := by
  obtain ⟨h0, h8, h5, h6, h7, h9, h10, h11, hw, hf, hc⟩ := id h
  refine ⟨gm_r (gm_r c (t + 5) (upd (upd (upd (upd (c.1 (t + 5)) (4 * m) A) (4 * m + 1) N) (4 * m + 2) B) (4 * m + 3) K)) t (upd (c.1 t) 6 (nI (m + 1))), ?_, fr_ut (fr_u _ (Or.inr rfl)) (Or.inl rfl), ?_⟩
  · have e1 := gr_n c (i := t + 5) (j := t) (f := upd (c.1 (t + 5)) (4 * m) A) (by omega)
    simp (disch := omega) only [m_X6_addCry, ↓reduceIte, gv, gb, gb2, ↓gc, gj, gu2, gsm, gok, gbx, gbw, h0, h6, n_l0, n_l10, n_l4, n_l3, n_l2, n_ad, n_s, n_mu, n_lt, n_ti, n_cl, Nat.not_lt_zero, hm, Nat.add_zero, gr_s, gr_r, gr_n]
    rw [if_pos (by omega), if_pos (by omega), if_pos (by omega), if_pos (by omega)]
  · unfold gSt
    obtain ⟨p0, p1, p2, p3, p4⟩ := pAdd_v (r := r) (A := A) (N := N) (B := B) (K := K) hm
    rw [gr_n _ _ (show t + 2 ≠ t by omega), gr_n _ _ (show t + 2 ≠ t + 5 by omega), gr_n _ _ (show t + 3 ≠ t by omega), gr_n _ _ (show t + 3 ≠ t + 5 by omega), gr_n _ _ (show t + 5 ≠ t by omega), gr_s, gr_s, pAdd_n (by omega) (by omega), pAdd_n (by omega) (by omega), pAdd_n (by omega) (by omega)]
    refine ⟨h0, h8, ?_, ?_, ?_, ?_, ?_, ?_, fun x hx => ?_, fun x hx => ?_, fun x hx => ?_⟩
    · rw [up_n _ _ (by decide)]; exact h5
    · rw [up_s]
    · rw [up_n _ _ (by decide)]; exact h7
    · rw [up_n _ _ (by decide)]; exact h9
    · rw [up_n _ _ (by decide)]; exact h10
    · rw [up_n _ _ (by decide)]; exact h11
    · rw [pAdd_n (by omega) (by omega)]; exact hw x hx
    · rw [pAdd_n (by omega) (by omega)]; exact hf x hx
    · by_cases q0 : x = 4 * m
      · rw [q0, p0, up_n _ _ (by omega), up_n _ _ (by omega), up_n _ _ (by omega), up_s]
      · by_cases q1 : x = 4 * m + 1
        · rw [q1, ← Nat.add_assoc, p1, up_n _ _ (by omega), up_n _ _ (by omega), up_s]
        · by_cases q2 : x = 4 * m + 2
          · rw [q2, ← Nat.add_assoc, p2, up_n _ _ (by omega), up_s]
          · by_cases q3 : x = 4 * m + 3
            · rw [q3, ← Nat.add_assoc, p3, up_s]
            · rw [up_n _ _ q3, up_n _ _ q2, up_n _ _ q1, up_n _ _ q0, pAdd_n (by omega) (by omega)]
              exact hc x (by omega)
theorem add_d {a1 m : Nat} {d : gm} (h56 : d.1 a1 56 = nI m) (k1 : gck a1 = 22) (k2 : gal a1 = 60) (hm : m < 10) (A N B K : Int32) : m_X10_cries a1 A N B K d = some (gm_r d a1 (pAdd (d.1 a1) m A N B K)) := by
  have e56 : ∀ v w x y : Int32, upd (upd (upd (upd (d.1 a1) (16 + 4 * m) v) (16 + 4 * m + 1) w) (16 + 4 * m + 2) x) (16 + 4 * m + 3) y 56 = nI m := by
    intro v w x y
    rw [up_n _ _ (by omega), up_n _ _ (by omega), up_n _ _ (by omega), up_n _ _ (by omega)]; exact h56
  simp (disch := omega) only [m_X10_cries, ↓reduceIte, gv, gb, gb2, ↓gc, gj, gu2, gsm, gok, gbx, gbw, k1, k2, h56, n_l56, n_l16, n_l4, n_l3, n_l2, n_ad, n_s, n_mu, n_ti, n_cl, gr_s, gr_r, e56]
  rw [if_pos (by omega), if_pos (by omega), if_pos (by omega), if_pos (by omega), if_pos (by omega)]
  rfl
