set_option maxRecDepth 16384
theorem pHs_c {f g : Nat → Nat} : ∀ k, (∀ i, i < k → f i = g i) → pHs f k = pHs g k := by
  intro k
  induction k with
  | zero => intro _; rfl
  | succ k ih => intro h; rw [pHs, pHs, ih (fun i hi => h i (by omega)), h k (by omega)]
/-- the reference's word test is the class's -/
theorem isW_h {n s w : Nat} {b : Nat → Nat} (hs : s ≤ n) (hb : ∀ i, i < n → b i < 256) (hw : w < 16) (h6 : gsn w ≤ 6) : isW b s (pScan (pLt b) n s) w ↔ (pScan (pLt b) n s - s ≤ 6 ∧ pHs (fun i => b (s + i) - 96) (pScan (pLt b) n s - s) = pHs (gsl w) (gsn w)) := by
  have he := pScan_le (p := pLt b) hs
  have hl := wl_b (b := b) hs
  constructor
  · rintro ⟨h1, h2⟩
    refine ⟨by omega, ?_⟩
    rw [show pScan (pLt b) n s - s = gsn w by omega]
    refine pHs_c _ (fun i hi => ?_)
    have e := h2 i hi
    obtain ⟨g1, g2, g3⟩ := gsl_e hw hi
    have := hb (s + i) (by omega)
    rw [g3, n_eq (by omega) (by omega)] at e
    omega
  · rintro ⟨h1, h2⟩
    obtain ⟨e1, e2⟩ := pHs_i _ _ (fun i hi => by have := hl i hi; omega) (fun i hi => ⟨(gsl_e hw hi).1, (gsl_e hw hi).2.1⟩) h2
    refine ⟨by omega, fun i hi => ?_⟩
    have e3 := e2 i (by omega)
    have e4 := hl i (by omega)
    rw [(gsl_e hw hi).2.2, ← e3]
    congr 1
    omega
theorem isw_d {n a w N : Nat} {b : Nat → Nat} {d : gm} {x1 x2 x3 x4 x5 x6 : Int32} (hT : gTd n b d) (h4 : d.1 55 4 = nI a) (han : a ≤ n) (h5 : d.1 55 5 = 0) (hN : 700 < N) (hw : w < 16) (h6 : gsn w ≤ 6) (hx : m_X10_six x1 x2 x3 x4 x5 x6 = some (nI (pHs (gsl w) (gsn w)))) : (isW b (pScan (pBl b) n a) (pScan (pLt b) n (pScan (pBl b) n a)) w ∧ m_X10_isWord N 55 x1 x2 x3 x4 x5 x6 d = some (1, dAt d (pScan (pBl b) n a))) ∨ (¬ isW b (pScan (pBl b) n a) (pScan (pLt b) n (pScan (pBl b) n a)) w ∧ m_X10_isWord N 55 x1 x2 x3 x4 x5 x6 d = some (0, dAt d (pScan (pBl b) n a))) := by
  have hs := pScan_le (p := pBl b) han
  have e1 := wh_d hT h4 han hN
  have hW := isW_h (w := w) hs.2 (fun i hi => (hT.2.2 i hi).1) hw h6
  have hl := wl_b (b := b) hs.2
  generalize pScan (pBl b) n a = s at *
  generalize pScan (pLt b) n s = e at *
  have hp1 : ∀ k, k ≤ 6 → (∀ i, i < k → b (s + i) - 96 ≤ 26) → pHs (fun i => b (s + i) - 96) k < 2147483648 := fun k hk h => Nat.lt_of_lt_of_le (pHs_b k h) (Nat.le_trans (Nat.pow_le_pow_right (by decide) hk) (by decide))
  have hp2 : pHs (gsl w) (gsn w) < 2147483648 := Nat.lt_of_lt_of_le (pHs_b _ (fun i hi => (gsl_e hw hi).2.1)) (Nat.le_trans (Nat.pow_le_pow_right (by decide) h6) (by decide))
  by_cases q : isW b s e w
  · left
    obtain ⟨q1, q2⟩ := hW.mp q
    refine ⟨q, ?_⟩
    unfold m_X10_isWord
    rw [gc_1 (show gck 55 = 10 from rfl), if_pos h5, gb2_x e1, gb_x hx, if_pos q1, q2, if_pos rfl]
  · right
    refine ⟨q, ?_⟩
    unfold m_X10_isWord
    rw [gc_1 (show gck 55 = 10 from rfl), if_pos h5, gb2_x e1, gb_x hx]
    by_cases q1 : e - s ≤ 6
    · rw [if_pos q1, if_neg]
      rw [n_eq (hp1 _ q1 (fun i hi => by have := hl i hi; omega)) hp2]
      exact fun q2 => q (hW.mpr ⟨q1, q2⟩)
    · rw [if_neg q1, if_neg (by rw [n_nn hp2]; exact id)]
theorem isw_f {N : Nat} {d : gm} {x1 x2 x3 x4 x5 x6 : Int32} (h5 : ¬ d.1 55 5 = 0) : m_X10_isWord N 55 x1 x2 x3 x4 x5 x6 d = some (0, d) := by
  unfold m_X10_isWord
  rw [gc_1 (show gck 55 = 10 from rfl), if_neg h5]
theorem sx_thing : m_X10_six 20 8 9 14 7 0 = some (nI (pHs (gsl 3) (gsn 3))) := by decide +kernel
theorem sx_cry : m_X10_six 3 18 25 0 0 0 = some (nI (pHs (gsl 9) (gsn 9))) := by decide +kernel
theorem sx_beam : m_X10_six 2 5 1 13 0 0 = some (nI (pHs (gsl 10) (gsn 10))) := by decide +kernel
theorem sx_weight : m_X10_six 23 5 9 7 8 20 = some (nI (pHs (gsl 0) (gsn 0))) := by decide +kernel
theorem sx_weighe : m_X10_six 23 5 9 7 8 5 = some (nI (pHs (gsl 1) 6)) := by decide +kernel
theorem sx_cried : m_X10_six 3 18 9 5 4 0 = some (nI (pHs (gsl 2) (gsn 2))) := by decide +kernel
theorem sx_day : m_X10_six 4 1 25 0 0 0 = some (nI (pHs (gsl 4) (gsn 4))) := by decide +kernel
theorem sx_lean : m_X10_six 12 5 1 14 0 0 = some (nI (pHs (gsl 5) (gsn 5))) := by decide +kernel
theorem sx_play : m_X10_six 16 12 1 25 0 0 = some (nI (pHs (gsl 6) (gsn 6))) := by decide +kernel
theorem sx_least : m_X10_six 12 5 1 19 20 0 = some (nI (pHs (gsl 7) (gsn 7))) := by decide +kernel
theorem sx_most : m_X10_six 13 15 19 20 0 0 = some (nI (pHs (gsl 8) (gsn 8))) := by decide +kernel
theorem sx_weigh : m_X10_six 23 5 9 7 8 0 = some (nI (pHs (gsl 11) (gsn 11))) := by decide +kernel
theorem sx_tip : m_X10_six 20 9 16 0 0 0 = some (nI (pHs (gsl 12) (gsn 12))) := by decide +kernel
theorem sx_feed : m_X10_six 6 5 5 4 0 0 = some (nI (pHs (gsl 13) (gsn 13))) := by decide +kernel
theorem sx_turn : m_X10_six 20 21 18 14 0 0 = some (nI (pHs (gsl 14) (gsn 14))) := by decide +kernel
theorem sx_again : m_X10_six 1 7 1 9 14 0 = some (nI (pHs (gsl 15) (gsn 15))) := by decide +kernel
/-- at a place with no blank: the word test moves nothing -/
def gNb (n : Nat) (b : Nat → Nat) (d : gm) (s : Nat) : Prop := gTd n b d ∧ d.1 55 4 = nI s ∧ s ≤ n ∧ d.1 55 5 = 0 ∧ ¬ (s < n ∧ pBl b s = true)
theorem gNb_a {n a : Nat} {b : Nat → Nat} {d : gm} (hT : gTd n b d) (han : a ≤ n) (h5 : d.1 55 5 = 0) : gNb n b (dAt d (pScan (pBl b) n a)) (pScan (pBl b) n a) := ⟨gTd_f hT (frm_F (dAt_f d _)), dAt_4 d _, (pScan_le (p := pBl b) han).2, by rw [(dAt_f d _).2.2 5 (by omega)]; exact h5, pScan_x han⟩
theorem isw_n {n s w N : Nat} {b : Nat → Nat} {d : gm} {x1 x2 x3 x4 x5 x6 : Int32} (h : gNb n b d s) (hN : 700 < N) (hw : w < 16) (h6 : gsn w ≤ 6) (hx : m_X10_six x1 x2 x3 x4 x5 x6 = some (nI (pHs (gsl w) (gsn w)))) : (isW b s (pScan (pLt b) n s) w ∧ m_X10_isWord N 55 x1 x2 x3 x4 x5 x6 d = some (1, d)) ∨ (¬ isW b s (pScan (pLt b) n s) w ∧ m_X10_isWord N 55 x1 x2 x3 x4 x5 x6 d = some (0, d)) := by
  obtain ⟨hT, h4, hs, h5, hx2⟩ := h
  have := isw_d hT h4 hs h5 hN hw h6 hx
  rw [pScan_e hx2, dAt_i h4] at this
  exact this
theorem isW_1 {n s : Nat} {b : Nat → Nat} (hs : s ≤ n) (hb : ∀ i, i < n → b i < 256) : isW b s (pScan (pLt b) n s) 1 ↔ (pScan (pLt b) n s - s = 7 ∧ pHs (fun i => b (s + i) - 96) 6 = pHs (gsl 1) 6 ∧ b (s + 6) = 100) := by
  have he := pScan_le (p := pLt b) hs
  have hl := wl_b (b := b) hs
  have g7 : gsn 1 = 7 := rfl
  constructor
  · rintro ⟨h1, h2⟩
    rw [g7] at h1 h2
    have hk : ∀ i, i < 7 → b (s + i) = 96 + gsl 1 i := fun i hi => by
      have e := h2 i hi
      obtain ⟨g1, g2, g3⟩ := gsl_e (w := 1) (by decide) (show i < gsn 1 by rw [g7]; exact hi)
      have := hb (s + i) (by omega)
      rw [g3, n_eq (by omega) (by omega)] at e
      exact e
    refine ⟨by omega, pHs_c _ (fun i hi => by have := hk i (by omega); omega), ?_⟩
    rw [hk 6 (by omega)]
    decide
  · rintro ⟨h1, h2, h3⟩
    obtain ⟨-, e2⟩ := pHs_i _ _ (fun i hi => by have := hl i (by omega); omega) (fun i hi => ⟨(gsl_e (w := 1) (by decide) (show i < gsn 1 by rw [g7]; omega)).1, (gsl_e (w := 1) (by decide) (show i < gsn 1 by rw [g7]; omega)).2.1⟩) h2
    refine ⟨by rw [g7]; omega, fun i hi => ?_⟩
    rw [g7] at hi
    by_cases q : i = 6
    · subst q
      rw [h3]
      decide
    · have e3 := e2 i (by omega)
      have e4 := hl i (by omega)
      rw [(gsl_e (w := 1) (by decide) (show i < gsn 1 by rw [g7]; exact hi)).2.2, ← e3]
      congr 1
      omega
theorem is7_n {n s N : Nat} {b : Nat → Nat} {d : gm} (h : gNb n b d s) (hN : 700 < N) : (isW b s (pScan (pLt b) n s) 1 ∧ m_X10_isSeven N 55 (nI (pHs (gsl 1) 6)) 100 d = some (1, dAt d (pScan (pLt b) n s))) ∨ (¬ isW b s (pScan (pLt b) n s) 1 ∧ m_X10_isSeven N 55 (nI (pHs (gsl 1) 6)) 100 d = some (0, d)) := by
  obtain ⟨hT, h4, hs, h5, hx2⟩ := h
  have hn := hT.1
  have he := pScan_le (p := pLt b) hs
  have e2 := blanks_d hT h4 hs hN
  rw [pScan_e hx2, dAt_i h4] at e2
  have e3 : gloop (gu2 (fun (y8 : Int32) (y9 : Int32) => m_X10_isSeven_L18 55 d y8 y9)) N (0, 0) = _ := wh_lp hT h4 hs hN
  have e4 := skip_d hT h4 hs hN
  have hW := isW_1 (n := n) (s := s) (b := b) hs (fun i hi => (hT.2.2 i hi).1)
  have hl := wl_b (b := b) hs
  have hp1 : ∀ k, k ≤ 6 → (∀ i, i < k → b (s + i) - 96 ≤ 26) → pHs (fun i => b (s + i) - 96) k < 2147483648 := fun k hk h => Nat.lt_of_lt_of_le (pHs_b k h) (Nat.le_trans (Nat.pow_le_pow_right (by decide) hk) (by decide))
  have hp2 : pHs (gsl 1) 6 < 2147483648 := by decide +kernel
  have c7 : (7 : Int32) = nI 7 := rfl
  by_cases q : isW b s (pScan (pLt b) n s) 1
  · left
    obtain ⟨q1, q2, q3⟩ := hW.mp q
    refine ⟨q, ?_⟩
    have hb6 : pBt n b (s + 6) = nI (b (s + 6)) := by unfold pBt; rw [if_pos (by omega)]
    unfold m_X10_isSeven; simp only [gj_e]
    rw [gc_1 (show gck 55 = 10 from rfl), if_pos h5, gb_x e2, gb_x e3, gu2_e, q1, if_pos (show nI 7 = 7 from rfl), show min 7 6 = 6 from rfl, q2, if_pos rfl, h4, n_l6, n_ad, gb_x (bt_d hT (by omega)), hb6, q3, if_pos (show nI 100 = 100 from rfl), if_neg (by decide), gb_x e4, gc_1 (Or.inr trivial)]
  · right
    refine ⟨q, ?_⟩
    unfold m_X10_isSeven; simp only [gj_e]
    rw [gc_1 (show gck 55 = 10 from rfl), if_pos h5, gb_x e2, gb_x e3, gu2_e]
    by_cases q1 : pScan (pLt b) n s - s = 7
    · rw [q1, if_pos (show nI 7 = 7 from rfl), show min 7 6 = 6 from rfl]
      by_cases q2 : pHs (fun i => b (s + i) - 96) 6 = pHs (gsl 1) 6
      · have hb6 : pBt n b (s + 6) = nI (b (s + 6)) := by unfold pBt; rw [if_pos (by omega)]
        have hb7 := (hT.2.2 (s + 6) (by omega)).1
        rw [q2, if_pos rfl, h4, n_l6, n_ad, gb_x (bt_d hT (by omega)), hb6, if_neg (by rw [n_l100, n_eq (by omega) (by decide)]; exact fun q3 => q (hW.mpr ⟨q1, q2, q3⟩)), if_pos trivial, gc_1 (Or.inl trivial)]
      · rw [if_neg (by rw [n_eq (hp1 6 (by omega) (fun i hi => by have := hl i (by omega); omega)) hp2]; exact q2), if_pos trivial, gc_1 (Or.inl trivial)]
    · rw [if_neg (by rw [c7, n_eq (by omega) (by decide)]; exact q1), if_pos trivial, gc_1 (Or.inl trivial)]
theorem tk_n {n s w N : Nat} {b : Nat → Nat} {d : gm} {x1 x2 x3 x4 x5 x6 : Int32} (h : gNb n b d s) (hN : 700 < N) (hw : w < 16) (h6 : gsn w ≤ 6) (hx : m_X10_six x1 x2 x3 x4 x5 x6 = some (nI (pHs (gsl w) (gsn w)))) : (isW b s (pScan (pLt b) n s) w ∧ m_X10_takes N 55 x1 x2 x3 x4 x5 x6 d = some (1, dAt d (pScan (pLt b) n s))) ∨ (¬ isW b s (pScan (pLt b) n s) w ∧ m_X10_takes N 55 x1 x2 x3 x4 x5 x6 d = some (0, d)) := by
  have e4 := skip_d h.1 h.2.1 h.2.2.1 hN
  rcases isw_n h hN hw h6 hx with ⟨q, e⟩ | ⟨q, e⟩
  · left
    refine ⟨q, ?_⟩
    unfold m_X10_takes
    rw [gc_1 (show gck 55 = 10 from rfl), gb2_x e, if_neg (by decide), gb_x e4, gc_1 (Or.inr rfl)]
  · right
    refine ⟨q, ?_⟩
    unfold m_X10_takes
    rw [gc_1 (show gck 55 = 10 from rfl), gb2_x e, if_pos rfl, gc_1 (Or.inl rfl)]
