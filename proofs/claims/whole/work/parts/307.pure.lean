set_option maxRecDepth 16384
theorem mx_e (x y : Int32) : (if x - y < 1 then (1 : Int32) else x - y) = (if 1 ≤ x - y then x - y else 1) := by
  by_cases q : x - y < 1
  · rw [if_pos q, if_neg (fun h => Int32.lt_irrefl (Int32.lt_of_lt_of_le q h))]
  · rw [if_neg q, if_pos (Int32.not_lt.mp q)]
theorem mx_v {x y : Nat} (hx : x ≤ 60) (h1 : 1 ≤ x) (hy : y ≤ 20) : ∃ w, 1 ≤ w ∧ w ≤ 60 ∧ (if 1 ≤ nI x - nI y then nI x - nI y else (1 : Int32)) = nI w := by
  by_cases q : y < x
  · refine ⟨x - y, by omega, by omega, ?_⟩
    rw [n_su (by omega), if_pos]
    rw [n_l1, n_le (by omega) (by omega)]
    omega
  · refine ⟨1, by omega, by omega, ?_⟩
    rw [if_neg]
    · rfl
    · intro h
      have e : nI x - nI y = -nI (y - x) := by
        rw [← n_su (show x ≤ y by omega)]
        exact (Int32.neg_sub).symm
      rw [e] at h
      have : (0 : Int32) ≤ nI (y - x) := by rw [n_l0, n_le (by omega) (by omega)]; omega
      rw [Int32.le_iff_toInt_le, Int32.toInt_neg, n_ti (by omega)] at h
      have b : (-((y - x : Nat) : Int)).bmod (2 ^ 32) = -((y - x : Nat) : Int) := by
        apply Int.bmod_eq_of_le <;> omega
      rw [b] at h
      have : (1 : Int32).toInt = 1 := by decide
      omega
/-- a day's second loop -/
theorem day_2 {t a1 rl th m : Nat} {pl : Int32} {c d : gm} (hi : gIx t a1 rl) (h : gR2 t a1 rl th m pl c d) (hv : ∀ i, i < th → ∃ w, w ≤ 20 ∧ c.1 (t + 4) i = nI w ∧ d.1 505 i = nI w) {n : Nat} (hn : 160 < n) : ∃ c2 d2, gloop (gu2 (fun (y6 : Int32) (c7 : gm) => m_X6_passDay_L36 t y6 c7)) n (0, c) = some c2 ∧ gloop (gu2 (fun (y6 : Int32) (c7 : gm) => m_X10_dayEnds_L32 55 a1 y6 c7)) n (0, d) = some d2 ∧ (fr (fun i => i = t + 2) c c2 ∧ fr (fun i => i = a1) d d2 ∧ gR2 t a1 rl th m pl c2 d2) := by
  obtain ⟨k1, k2, k3⟩ := gIx_k hi
  have h8 : th ≤ 8 := h.1.2.1
  refine gloop_two (fun r (a : Int32 × gm) (x : Int32 × gm) => ∃ k c2 d2, k ≤ th ∧ r + k = th ∧ a = (nI k, c2) ∧ x = (nI k, d2) ∧ gR2 t a1 rl th m pl c2 d2 ∧ fr (fun i => i = t + 2) c c2 ∧ fr (fun i => i = a1) d d2) (fun (c2 : gm) (d2 : gm) => fr (fun i => i = t + 2) c c2 ∧ fr (fun i => i = a1) d d2 ∧ gR2 t a1 rl th m pl c2 d2) ?_ ⟨0, c, d, by omega, (by omega : th + 0 = th), rfl, rfl, h, fr_r _ _, fr_r _ _⟩ (by omega)
  rintro r a x ⟨k, c2, d2, hkt, hr, rfl, rfl, hR, fc, fd⟩
  have g5 : c2.1 t 5 = nI th := hR.1.2.2.1
  have m0 : d2.1 59 0 = nI th := hR.2.2.1.1
  by_cases hk2 : k = th
  · right
    subst hk2
    refine ⟨c2, d2, ?_, ?_, fc, fd, hR⟩
    · simp (disch := omega) only [m_X6_passDay_L36, ↓reduceIte, gv, gb, gb2, ↓gc, gj, gu2, gsm, gok, gbx, gbw, k1, g5, n_le, Nat.le_refl]
    · simp (disch := omega) only [m_X10_dayEnds_L32, ↓reduceIte, gv, gb, gb2, ↓gc, gj, gu2, gsm, gok, gbx, gbw, show gck 55 = 10 from rfl, m0, n_cl0, n_le, Nat.le_refl]
  · left
    obtain ⟨i1, i2, i3⟩ := id hi
    obtain ⟨y, hy, v1, v2⟩ := hv k (by omega)
    rw [← fr_e fc (show t + 4 ≠ t + 2 by omega)] at v1
    rw [← fr_e fd (show 505 ≠ a1 by omega)] at v2
    obtain ⟨r1, r2, r3, r4⟩ := id hR
    obtain ⟨x, hx1, hx60, ex⟩ := r2.2.2.1 k (by omega)
    have ew : c2.1 (t + 2) k = nI x := by rw [r1.2.2.2.2.2.2.2.2.1 k (by omega)]; exact ex
    obtain ⟨w, hw1, hw60, e⟩ := mx_v hx60 hx1 hy
    refine ⟨(nI (k + 1), gm_r c2 (t + 2) (upd (c2.1 (t + 2)) k (nI w))), (nI (k + 1), gm_r d2 a1 (upd (d2.1 a1) k (nI w))), r - 1, ?_, ?_, by omega, k + 1, _, _, by omega, by omega, rfl, rfl, ⟨?_, ?_, ?_, ?_⟩, fr_ut fc rfl, fr_ut fd rfl⟩
    · simp (disch := omega) only [m_X6_passDay_L36, ↓reduceIte, gv, gb, gb2, ↓gc, gj, gu2, gsm, gok, gbx, gbw, k1, g5, n_l8, n_le, n_ti, n_cl, n_s, ew, v1, show ¬ th ≤ k by omega, show ¬ 8 ≤ k by omega]
      rw [if_pos (by omega), if_pos (by omega), if_pos (by omega), mx_e, e]
    · have em : m_X10_more 1 (nI x - nI y) = some (nI w) := by
        unfold m_X10_more
        rw [← e]
        by_cases q : 1 ≤ nI x - nI y
        · rw [if_pos q, if_pos q]
        · rw [if_neg q, if_neg q]
      simp (disch := omega) only [m_X10_dayEnds_L32, ↓reduceIte, gv, gb, gb2, ↓gc, gj, gu2, gsm, gok, gbx, gbw, show gck 55 = 10 from rfl, k2, k3, m0, n_cl0, n_l0, n_ad, Nat.zero_add, n_le, n_ti, n_cl, n_s, ex, v2, show ¬ th ≤ k by omega, em]
      rw [if_pos (by omega), if_pos (by omega), if_pos (by omega)]
    · rw [gr_s]
      exact gSt_w r1 (by omega)
    · rw [gr_s]
      exact gRow_w r2 h8 (by omega) hw1 hw60
    · unfold gMd; rw [gr_n _ _ (by omega)]; exact r3
    · exact gLw_fr r4 (by rw [gr_n _ _ (by omega)]) (by rw [gr_n _ _ (by omega)]) (by rw [gr_n _ _ (by omega)]) (by rw [gr_n _ _ (by omega)]) (fun j hj => by rw [gr_n _ _ (by omega)])
theorem gR2_fr {t a1 rl th m : Nat} {pl : Int32} {c d c2 d2 : gm} (hi : gIx t a1 rl) (h : gR2 t a1 rl th m pl c d) {S T : Nat → Prop} (fc : fr S c c2) (fd : fr T d d2) (hS : ∀ i, S i → i ≠ t ∧ i ≠ t + 2 ∧ i ≠ t + 3 ∧ i ≠ t + 5 ∧ i ≠ rl ∧ i ≠ rl + 1 ∧ i ≠ rl + 2) (hT : ∀ i, T i → i ≠ a1 ∧ i ≠ 59 ∧ i ≠ 55 ∧ (i < 85 ∨ 245 ≤ i)) : gR2 t a1 rl th m pl c2 d2 := by
  obtain ⟨r1, r2, r3, r4⟩ := h
  have ea : d2.1 a1 = d.1 a1 := fr_e fd (fun q => (hT _ q).1 rfl)
  refine ⟨by rw [ea]; exact gSt_fr r1 (fr_e fc fun q => (hS _ q).1 rfl) (fr_e fc fun q => (hS _ q).2.1 rfl) (fr_e fc fun q => (hS _ q).2.2.1 rfl) (fr_e fc fun q => (hS _ q).2.2.2.1 rfl), by rw [ea]; exact r2, by unfold gMd; rw [fr_e fd (fun q => (hT _ q).2.1 rfl)]; exact r3, ?_⟩
  exact gLw_fr r4 (fr_e fc fun q => (hS _ q).2.2.2.2.1 rfl) (fr_e fc fun q => (hS _ q).2.2.2.2.2.1 rfl) (fr_e fc fun q => (hS _ q).2.2.2.2.2.2 rfl) (by rw [fr_e fd (fun q => (hT _ q).2.2.1 rfl)]) (fun j hj => fr_e fd (fun q => by have := (hT _ q).2.2.2; omega))
theorem day_two {t a1 rl th m : Nat} {pl : Int32} {c d : gm} (hi : gIx t a1 rl) (h : gR2 t a1 rl th m pl c d) {n : Nat} (hn : 160 < n) : ∃ c2 d2, m_X6_passDay n t rl c = some (1, c2) ∧ m_X10_dayEnds n 55 a1 d = some d2 ∧ fr (CF t rl) c c2 ∧ fr (DF a1) d d2 ∧ gR2 t a1 rl th m pl c2 d2 := by
  obtain ⟨k1, k2, k3⟩ := gIx_k hi
  obtain ⟨i1, i2, i3⟩ := id hi
  obtain ⟨c2, d2, e1, e2, fc, fd, hv⟩ := day_1 hi h hn
  have hR := gR2_fr hi h fc fd (fun i q => by omega) (fun i q => by omega)
  obtain ⟨c3, d3, e3, e4, fc3, fd3, hR3⟩ := day_2 hi hR hv hn
  have hday : c3.1 t 9 = d3.1 a1 59 := hR3.1.2.2.2.2.2.2.1
  refine ⟨gm_r c3 t (upd (c3.1 t) 9 (c3.1 t 9 + 1)), gm_r d3 a1 (upd (d3.1 a1) 59 (d3.1 a1 59 + 1)), ?_, ?_, ?_, ?_, ?_⟩
  · simp only [m_X6_passDay, e1, e3, gb, gc, gv, k1, if_true]
  · simp only [m_X10_dayEnds, e2, e4, gb, gc, gv, k2, k3, if_true]
    rfl
  · exact fr_ut (fr_t (fr_m fc (fun i q => by unfold CF; omega)) (fr_m fc3 (fun i q => by unfold CF; omega))) (Or.inl rfl)
  · exact fr_ut (fr_t (fr_m fd (fun i q => by unfold DF; omega)) (fr_m fd3 (fun i q => by unfold DF; omega))) (Or.inl rfl)
  · obtain ⟨r1, r2, r3, r4⟩ := hR3
    refine ⟨?_, ?_, ?_, ?_⟩
    · rw [gr_s, hday]
      exact gSt_day r1 r2.1
    · rw [gr_s]
      exact gRow_o r2 r1.2.1 (by omega)
    · unfold gMd; rw [gr_n _ _ (by omega)]; exact r3
    · exact gLw_fr r4 (by rw [gr_n _ _ (by omega)]) (by rw [gr_n _ _ (by omega)]) (by rw [gr_n _ _ (by omega)]) (by rw [gr_n _ _ (by omega)]) (fun j hj => by rw [gr_n _ _ (by omega)])
