set_option maxRecDepth 16384
theorem gSt_w {t th m k : Nat} {pl v : Int32} {r : Nat → Int32} {c : gm} (h : gSt t c th m pl r) (hk : k < th) : gSt t (gm_r c (t + 2) (upd (c.1 (t + 2)) k v)) th m pl (upd r k v) := by
  obtain ⟨h0, h8, h5, h6, h7, h9, h10, h11, hw, hf, hc⟩ := h
  unfold gSt
  rw [gr_n _ _ (show t ≠ t + 2 by omega), gr_n _ _ (show t + 3 ≠ t + 2 by omega), gr_n _ _ (show t + 5 ≠ t + 2 by omega), gr_s, up_n _ _ (show 57 ≠ k by omega), up_n _ _ (show 59 ≠ k by omega), up_n _ _ (show 58 ≠ k by omega)]
  refine ⟨h0, h8, h5, h6, h7, h9, h10, h11, fun a ha => ?_, fun a ha => ?_, fun j hj => ?_⟩
  · by_cases q : a = k
    · rw [q, up_s, up_s]
    · rw [up_n _ _ q, up_n _ _ q]; exact hw a ha
  · rw [up_n _ _ (by omega)]; exact hf a ha
  · rw [up_n _ _ (by omega)]; exact hc j hj
theorem gSt_f {t th m k : Nat} {pl v : Int32} {r : Nat → Int32} {c : gm} (h : gSt t c th m pl r) (hk : k < th) : gSt t (gm_r c (t + 3) (upd (c.1 (t + 3)) k v)) th m pl (upd r (8 + k) v) := by
  obtain ⟨h0, h8, h5, h6, h7, h9, h10, h11, hw, hf, hc⟩ := h
  unfold gSt
  rw [gr_n _ _ (show t ≠ t + 3 by omega), gr_n _ _ (show t + 2 ≠ t + 3 by omega), gr_n _ _ (show t + 5 ≠ t + 3 by omega), gr_s, up_n _ _ (show 57 ≠ 8 + k by omega), up_n _ _ (show 59 ≠ 8 + k by omega), up_n _ _ (show 58 ≠ 8 + k by omega)]
  refine ⟨h0, h8, h5, h6, h7, h9, h10, h11, fun a ha => ?_, fun a ha => ?_, fun j hj => ?_⟩
  · rw [up_n _ _ (by omega)]; exact hw a ha
  · by_cases q : a = k
    · rw [q, up_s, up_s]
    · rw [up_n _ _ q, up_n _ _ (by omega)]; exact hf a ha
  · by_cases q : 16 + j = 8 + k
    · omega
    · rw [up_n _ _ q]; exact hc j hj
theorem gSt_day {t th m : Nat} {pl v : Int32} {r : Nat → Int32} {c : gm} (h : gSt t c th m pl r) (hm : m ≤ 10) : gSt t (gm_r c t (upd (c.1 t) 9 v)) th m pl (upd r 59 v) := by
  obtain ⟨h0, h8, h5, h6, h7, h9, h10, h11, hw, hf, hc⟩ := h
  unfold gSt
  rw [gr_n _ _ (show t + 2 ≠ t by omega), gr_n _ _ (show t + 3 ≠ t by omega), gr_n _ _ (show t + 5 ≠ t by omega), gr_s, up_n _ _ (show (57 : Nat) ≠ 59 by decide), up_s, up_n _ _ (show (58 : Nat) ≠ 59 by decide), up_n _ _ (show (5 : Nat) ≠ 9 by decide), up_n _ _ (show (6 : Nat) ≠ 9 by decide), up_n _ _ (show (7 : Nat) ≠ 9 by decide), up_n _ _ (show (8 : Nat) ≠ 9 by decide), up_s, up_n _ _ (show (10 : Nat) ≠ 9 by decide)]
  exact ⟨h0, h8, h5, h6, h7, h9, rfl, h11, fun a ha => by rw [up_n _ _ (by omega)]; exact hw a ha, fun a ha => by rw [up_n _ _ (by omega)]; exact hf a ha, fun a ha => by rw [up_n _ _ (by omega)]; exact hc a ha⟩
theorem gSt_wgd {t th m : Nat} {pl v : Int32} {r : Nat → Int32} {c : gm} (h : gSt t c th m pl r) (hm : m ≤ 10) : gSt t (gm_r c t (upd (c.1 t) 10 v)) th m pl (upd r 58 v) := by
  obtain ⟨h0, h8, h5, h6, h7, h9, h10, h11, hw, hf, hc⟩ := h
  unfold gSt
  rw [gr_n _ _ (show t + 2 ≠ t by omega), gr_n _ _ (show t + 3 ≠ t by omega), gr_n _ _ (show t + 5 ≠ t by omega), gr_s, up_n _ _ (show (57 : Nat) ≠ 58 by decide), up_s, up_n _ _ (show (59 : Nat) ≠ 58 by decide), up_n _ _ (show (5 : Nat) ≠ 10 by decide), up_n _ _ (show (6 : Nat) ≠ 10 by decide), up_n _ _ (show (7 : Nat) ≠ 10 by decide), up_n _ _ (show (8 : Nat) ≠ 10 by decide), up_s, up_n _ _ (show (9 : Nat) ≠ 10 by decide)]
  exact ⟨h0, h8, h5, h6, h7, h9, h10, rfl, fun a ha => by rw [up_n _ _ (by omega)]; exact hw a ha, fun a ha => by rw [up_n _ _ (by omega)]; exact hf a ha, fun a ha => by rw [up_n _ _ (by omega)]; exact hc a ha⟩
theorem gSt_lean {t th m : Nat} {pl v : Int32} {r : Nat → Int32} {c : gm} (h : gSt t c th m pl r) (hm : m ≤ 10) : gSt t (gm_r c t (upd (c.1 t) 7 v)) th m pl (upd r 57 v) := by
  obtain ⟨h0, h8, h5, h6, h7, h9, h10, h11, hw, hf, hc⟩ := h
  unfold gSt
  rw [gr_n _ _ (show t + 2 ≠ t by omega), gr_n _ _ (show t + 3 ≠ t by omega), gr_n _ _ (show t + 5 ≠ t by omega), gr_s, up_n _ _ (show (58 : Nat) ≠ 57 by decide), up_s, up_n _ _ (show (59 : Nat) ≠ 57 by decide), up_n _ _ (show (5 : Nat) ≠ 7 by decide), up_n _ _ (show (6 : Nat) ≠ 7 by decide), up_n _ _ (show (10 : Nat) ≠ 7 by decide), up_n _ _ (show (8 : Nat) ≠ 7 by decide), up_s, up_n _ _ (show (9 : Nat) ≠ 7 by decide)]
  exact ⟨h0, h8, h5, h6, rfl, h9, h10, h11, fun a ha => by rw [up_n _ _ (by omega)]; exact hw a ha, fun a ha => by rw [up_n _ _ (by omega)]; exact hf a ha, fun a ha => by rw [up_n _ _ (by omega)]; exact hc a ha⟩
theorem gRow_w {th m k w : Nat} {r : Nat → Int32} (h : gRow th m r) (h8 : th ≤ 8) (hk : k < th) (h1 : 1 ≤ w) (h60 : w ≤ 60) : gRow th m (upd r k (nI w)) := by
  obtain ⟨hm, h56, hw, hc, l, hl, h57⟩ := h
  refine ⟨hm, by rw [up_n _ _ (by omega)]; exact h56, fun a ha => ?_, fun c hc2 => ?_, l, hl, by rw [up_n _ _ (by omega)]; exact h57⟩
  · by_cases q : a = k
    · exact ⟨w, h1, h60, by rw [q, up_s]⟩
    · rw [up_n _ _ q]; exact hw a ha
  · rw [up_n _ _ (by omega), up_n _ _ (by omega), up_n _ _ (by omega), up_n _ _ (by omega)]; exact hc c hc2
theorem gRow_o {th m k : Nat} {v : Int32} {r : Nat → Int32} (h : gRow th m r) (h8 : th ≤ 8) (hk : k = 58 ∨ k = 59 ∨ (8 ≤ k ∧ k < 16)) : gRow th m (upd r k v) := by
  obtain ⟨hm, h56, hw, hc, l, hl, h57⟩ := h
  refine ⟨hm, by rw [up_n _ _ (by omega)]; exact h56, fun a ha => ?_, fun c hc2 => ?_, l, hl, by rw [up_n _ _ (by omega)]; exact h57⟩
  · rw [up_n _ _ (by omega)]; exact hw a ha
  · rw [up_n _ _ (by omega), up_n _ _ (by omega), up_n _ _ (by omega), up_n _ _ (by omega)]; exact hc c hc2
theorem gRow_l {th m l : Nat} {r : Nat → Int32} (h : gRow th m r) (h8 : th ≤ 8) (hl : l ≤ 18) : gRow th m (upd r 57 (nI l)) := by
  obtain ⟨hm, h56, hw, hc, -⟩ := h
  refine ⟨hm, by rw [up_n _ _ (by omega)]; exact h56, fun a ha => ?_, fun c hc2 => ?_, l, hl, by rw [up_s]⟩
  · rw [up_n _ _ (by omega)]; exact hw a ha
  · rw [up_n _ _ (by omega), up_n _ _ (by omega), up_n _ _ (by omega), up_n _ _ (by omega)]; exact hc c hc2
/-- a day's first loop -/
theorem day_1 {t a1 rl th m : Nat} {pl : Int32} {c d : gm} (hi : gIx t a1 rl) (h : gR2 t a1 rl th m pl c d) {n : Nat} (hn : 160 < n) : ∃ c2 d2, gloop (gu2 (fun (y2 : Int32) (c3 : gm) => m_X6_passDay_L2 n t rl y2 c3)) n (0, c) = some c2 ∧ gloop (gu2 (fun (y2 : Int32) (c3 : gm) => m_X10_dayEnds_L2 n 55 a1 y2 c3)) n (0, d) = some d2 ∧ (fr (fun i => i = t + 4 ∨ i = rl + 3 ∨ i = rl + 4) c c2 ∧ fr (fun i => i = 505 ∨ i = 420 ∨ i = 421) d d2 ∧ ∀ i, i < th → ∃ w, w ≤ 20 ∧ c2.1 (t + 4) i = nI w ∧ d2.1 505 i = nI w) := by
  obtain ⟨k1, k2, k3⟩ := gIx_k hi
  have h8 : th ≤ 8 := h.1.2.1
  refine gloop_two (fun r (a : Int32 × gm) (x : Int32 × gm) => ∃ k c2 d2, k ≤ th ∧ r + k = th ∧ a = (nI k, c2) ∧ x = (nI k, d2) ∧ gR2 t a1 rl th m pl c2 d2 ∧ fr (fun i => i = t + 4 ∨ i = rl + 3 ∨ i = rl + 4) c c2 ∧ fr (fun i => i = 505 ∨ i = 420 ∨ i = 421) d d2 ∧ ∀ i, i < k → ∃ w, w ≤ 20 ∧ c2.1 (t + 4) i = nI w ∧ d2.1 505 i = nI w) (fun (c2 : gm) (d2 : gm) => fr (fun i => i = t + 4 ∨ i = rl + 3 ∨ i = rl + 4) c c2 ∧ fr (fun i => i = 505 ∨ i = 420 ∨ i = 421) d d2 ∧ ∀ i, i < th → ∃ w, w ≤ 20 ∧ c2.1 (t + 4) i = nI w ∧ d2.1 505 i = nI w) ?_ ⟨0, c, d, by omega, (by omega : th + 0 = th), rfl, rfl, h, fr_r _ _, fr_r _ _, by omega⟩ (by omega)
  rintro r a x ⟨k, c2, d2, hkt, hr, rfl, rfl, hR, fc, fd, hv⟩
  have g5 : c2.1 t 5 = nI th := hR.1.2.2.1
  have m0 : d2.1 59 0 = nI th := hR.2.2.1.1
  by_cases hk2 : k = th
  · right
    subst hk2
    refine ⟨c2, d2, ?_, ?_, fc, fd, hv⟩
    · simp (disch := omega) only [m_X6_passDay_L2, ↓reduceIte, gv, gb, gb2, ↓gc, gj, gu2, gsm, gok, gbx, gbw, k1, g5, n_le, Nat.le_refl]
    · simp (disch := omega) only [m_X10_dayEnds_L2, ↓reduceIte, gv, gb, gb2, ↓gc, gj, gu2, gsm, gok, gbx, gbw, show gck 55 = 10 from rfl, m0, n_cl0, n_le, Nat.le_refl]
  · left
    obtain ⟨w, c3, d3, hw, e1, e2, f1, f2⟩ := wearOf_two hi hR (show k < th by omega) hn
    obtain ⟨i1, i2, i3⟩ := id hi
    refine ⟨(nI (k + 1), gm_r c3 (t + 4) (upd (c3.1 (t + 4)) k (nI w))), (nI (k + 1), gm_r d3 505 (upd (d3.1 505) k (nI w))), r - 1, ?_, ?_, by omega, k + 1, _, _, by omega, by omega, rfl, rfl, ?_, ?_, ?_, ?_⟩
    · simp (disch := omega) only [m_X6_passDay_L2, ↓reduceIte, gv, gb, gb2, ↓gc, gj, gu2, gsm, gok, gbx, gbw, k1, g5, n_l8, n_le, n_ti, n_cl, n_s, e1, show ¬ th ≤ k by omega, show ¬ 8 ≤ k by omega]
      rw [if_pos (by omega)]
    · simp (disch := omega) only [m_X10_dayEnds_L2, ↓reduceIte, gv, gb, gb2, ↓gc, gj, gu2, gsm, gok, gbx, gbw, show gck 55 = 10 from rfl, m0, n_cl0, n_le, n_ti, n_cl, n_s, e2, show ¬ th ≤ k by omega]
      rw [if_pos (by omega)]
    · obtain ⟨r1, r2, r3, r4⟩ := hR
      have ea : (gm_r d3 505 (upd (d3.1 505) k (nI w))).1 a1 = d2.1 a1 := by rw [gr_n _ _ (by omega), fr_e f2 (by omega)]
      have eb : (gm_r d3 505 (upd (d3.1 505) k (nI w))).1 59 = d2.1 59 := by rw [gr_n _ _ (by omega), fr_e f2 (by omega)]
      refine ⟨?_, by rw [ea]; exact r2, by unfold gMd; rw [eb]; exact r3, ?_⟩
      · rw [ea]
        exact gSt_fr r1 (by rw [gr_n _ _ (by omega), fr_e f1 (by omega)]) (by rw [gr_n _ _ (by omega), fr_e f1 (by omega)]) (by rw [gr_n _ _ (by omega), fr_e f1 (by omega)]) (by rw [gr_n _ _ (by omega), fr_e f1 (by omega)])
      · exact gLw_fr r4 (by rw [gr_n _ _ (by omega), fr_e f1 (by omega)]) (by rw [gr_n _ _ (by omega), fr_e f1 (by omega)]) (by rw [gr_n _ _ (by omega), fr_e f1 (by omega)]) (by rw [gr_n _ _ (by omega), fr_e f2 (by omega)]) (fun j hj => by rw [gr_n _ _ (by omega), fr_e f2 (by omega)])
    · exact fr_ut (fr_t fc (fr_m f1 (fun i hi => Or.inr hi))) (Or.inl rfl)
    · exact fr_ut (fr_t fd (fr_m f2 (fun i hi => Or.inr hi))) (Or.inl rfl)
    · intro i hi2
      rw [gr_s, gr_s]
      by_cases q : i = k
      · exact ⟨w, hw, by rw [q, up_s], by rw [q, up_s]⟩
      · rw [up_n _ _ q, up_n _ _ q, fr_e f1 (by omega), fr_e f2 (by omega)]
        exact hv i (by omega)
