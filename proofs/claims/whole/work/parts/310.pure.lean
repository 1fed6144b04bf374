set_option maxRecDepth 16384
/-- the row after cry j of m was tipped, k cells along -/
def pTp (r : Nat → Int32) (m j k : Nat) : Nat → Int32 := fun i => if 16 + 4 * j ≤ i ∧ i < 16 + 4 * j + k then r (i + 4) else if i = 56 then nI (m - 1) else r i
def pTz (f : Nat → Int32) (m k : Nat) : Nat → Int32 := fun i => if 16 + 4 * (m - 1) ≤ i ∧ i < 16 + 4 * (m - 1) + k then 0 else f i
def pTip (r : Nat → Int32) (m j : Nat) : Nat → Int32 := pTz (pTp r m j (4 * (m - 1 - j))) m 4
theorem tip_d {a1 m j : Nat} {d : gm} (h56 : d.1 a1 56 = nI m) (k2 : gck a1 = 22) (k3 : gal a1 = 60) (hm : m ≤ 10) (hj : j < m) {n : Nat} (hn : 160 < n) : m_X10_tips n a1 (nI j) d = some (1, gm_r d a1 (pTip (d.1 a1) m j)) := by
  have g56 : 0 ≤ (56 : Int32).toInt ∧ (56 : Int32).toInt < ((gal a1 : Nat) : Int) := by rw [k3]; decide
  have g56t := eq_true g56
  have c56 : (56 : Int32).toNatClampNeg = 56 := rfl
  have e1 : gloop (gu2 (fun (y10 : Int32) (c11 : gm) => m_X10_tips_L22 a1 y10 c11)) n (nI (4 * j), gm_r d a1 (upd (d.1 a1) 56 (nI (m - 1)))) = some (gm_r d a1 (pTp (d.1 a1) m j (4 * (m - 1 - j)))) := by
    have e0 : (nI (4 * j), gm_r d a1 (upd (d.1 a1) 56 (nI (m - 1)))) = (fun k => (nI (4 * j + k), gm_r d a1 (pTp (d.1 a1) m j k))) 0 := by
      show _ = (nI (4 * j), gm_r d a1 _)
      congr 2
      funext i
      unfold pTp upd
      simp
      intro h1 h2
      omega
    rw [e0]
    refine gloop_run (n := n) (fun k => (nI (4 * j + k), gm_r d a1 (pTp (d.1 a1) m j k))) (4 * (m - 1 - j)) _ ?_ ?_ (by omega)
    · intro k hk
      have v56 : pTp (d.1 a1) m j k 56 = nI (m - 1) := by
        unfold pTp
        rw [if_neg (by omega), if_pos rfl]
      have v4 : pTp (d.1 a1) m j k (16 + (4 * j + k) + 4) = d.1 a1 (16 + (4 * j + k) + 4) := by
        unfold pTp
        rw [if_neg (by omega), if_neg (by omega)]
      have eu : upd (pTp (d.1 a1) m j k) (16 + (4 * j + k)) (d.1 a1 (16 + (4 * j + k) + 4)) = pTp (d.1 a1) m j (k + 1) := by
        funext i
        unfold upd pTp
        by_cases q : i = 16 + (4 * j + k)
        · rw [if_pos q, if_pos (by omega), q]
        · rw [if_neg q]
          by_cases q2 : 16 + 4 * j ≤ i ∧ i < 16 + 4 * j + k
          · rw [if_pos q2, if_pos (by omega)]
          · rw [if_neg q2, if_neg (show ¬ (16 + 4 * j ≤ i ∧ i < 16 + 4 * j + (k + 1)) by omega)]
      rw [gu2_e]
      unfold m_X10_tips_L22
      simp (disch := omega) only [↓reduceIte, ↓gv_e, ↓gj_e, ↓gu2_e, ↓gb_e, ↓gb2_e, ↓gsm_e1, ↓gsm_e2, ↓gbx_e1, ↓gbx_e2, ↓gok_e, ↓gc, n_l56, gr_s, gr_r, v56, n_l4, n_l16, n_mu, n_ad, n_le, show ¬ 4 * (m - 1) ≤ 4 * j + k by omega, k3, n_in, n_cl, v4, eu, n_s, Nat.add_assoc (4 * j) k 1]
    · have v56 : pTp (d.1 a1) m j (4 * (m - 1 - j)) 56 = nI (m - 1) := by
        unfold pTp
        rw [if_neg (by omega), if_pos rfl]
      rw [gu2_e]
      unfold m_X10_tips_L22
      simp (disch := omega) only [↓reduceIte, ↓gv_e, ↓gj_e, ↓gu2_e, ↓gb_e, ↓gb2_e, ↓gsm_e1, ↓gsm_e2, ↓gbx_e1, ↓gbx_e2, ↓gok_e, ↓gc, n_l56, gr_s, v56, k3, n_in, n_cl, n_l4, n_mu, n_le, show 4 * (m - 1) ≤ 4 * j + 4 * (m - 1 - j) by omega]
  have e2 : gloop (gu2 (fun (y14 : Int32) (c15 : gm) => m_X10_tips_L54 a1 y14 c15)) n (0, gm_r d a1 (pTp (d.1 a1) m j (4 * (m - 1 - j)))) = some (gm_r d a1 (pTip (d.1 a1) m j)) := by
    have e0 : ((0 : Int32), gm_r d a1 (pTp (d.1 a1) m j (4 * (m - 1 - j)))) = (fun k => (nI k, gm_r d a1 (pTz (pTp (d.1 a1) m j (4 * (m - 1 - j))) m k))) 0 := by
      show _ = (nI 0, gm_r d a1 _)
      congr 2
      funext i
      unfold pTz
      rw [if_neg (by omega)]
    rw [e0]
    refine gloop_run (n := n) (fun k => (nI k, gm_r d a1 (pTz (pTp (d.1 a1) m j (4 * (m - 1 - j))) m k))) 4 _ ?_ ?_ (by omega)
    · intro k hk
      have v56 : pTz (pTp (d.1 a1) m j (4 * (m - 1 - j))) m k 56 = nI (m - 1) := by
        unfold pTz pTp
        rw [if_neg (by omega), if_neg (by omega), if_pos rfl]
      have eu : upd (pTz (pTp (d.1 a1) m j (4 * (m - 1 - j))) m k) (16 + 4 * (m - 1) + k) 0 = pTz (pTp (d.1 a1) m j (4 * (m - 1 - j))) m (k + 1) := by
        funext i
        unfold upd pTz
        by_cases q : i = 16 + 4 * (m - 1) + k
        · rw [if_pos q, if_pos (by omega)]
        · rw [if_neg q]
          by_cases q2 : 16 + 4 * (m - 1) ≤ i ∧ i < 16 + 4 * (m - 1) + k
          · rw [if_pos q2, if_pos (by omega)]
          · rw [if_neg q2, if_neg (by omega)]
      rw [gu2_e]
      unfold m_X10_tips_L54
      simp (disch := omega) only [↓reduceIte, ↓gv_e, ↓gj_e, ↓gu2_e, ↓gb_e, ↓gb2_e, ↓gsm_e1, ↓gsm_e2, ↓gbx_e1, ↓gbx_e2, ↓gok_e, ↓gc, n_l56, gr_s, gr_r, v56, n_l4, n_l16, n_mu, n_ad, n_le, show ¬ 4 ≤ k by omega, k3, n_in, n_cl, eu, n_s]
    · rw [gu2_e]
      unfold m_X10_tips_L54
      simp (disch := omega) only [↓reduceIte, ↓gv_e, ↓gj_e, ↓gu2_e, ↓gb_e, ↓gb2_e, ↓gsm_e1, ↓gsm_e2, ↓gbx_e1, ↓gbx_e2, ↓gok_e, ↓gc, n_l4, n_le, Nat.le_refl]
      rfl
  unfold m_X10_tips
  have a1' : nI m - 1 = nI (m - 1) := n_su (b := 1) (by omega)
  simp (disch := omega) only [↓reduceIte, ↓gv_e, ↓gj_e, ↓gu2_e, ↓gb_e, ↓gb2_e, ↓gsm_e1, ↓gsm_e2, ↓gbx_e1, ↓gbx_e2, ↓gok_e, ↓gc, k2, k3, n_l56, n_in, n_cl, h56, n_lt, hj, a1', n_l4, n_mu, ↓gb_x e1, ↓gb_x e2]
theorem gRow_tip {th m j : Nat} {r : Nat → Int32} (h : gRow th m r) (h8 : th ≤ 8) (hj : j < m) : gRow th (m - 1) (pTip r m j) := by
  obtain ⟨hm, h56, hw, hc, l, hl, h57⟩ := h
  have lo : ∀ i, i < 16 + 4 * j → pTip r m j i = r i := by
    intro i hi
    unfold pTip pTz pTp
    rw [if_neg (by omega), if_neg (by omega), if_neg (by omega)]
  have hi' : ∀ i, 57 ≤ i → pTip r m j i = r i := by
    intro i hi
    unfold pTip pTz pTp
    rw [if_neg (by omega), if_neg (by omega), if_neg (by omega)]
  have mi : ∀ i, 16 + 4 * j ≤ i → i < 16 + 4 * (m - 1) → pTip r m j i = r (i + 4) := by
    intro i h1 h2
    unfold pTip pTz pTp
    rw [if_neg (by omega), if_pos (by omega)]
  refine ⟨by omega, ?_, fun a ha => by rw [lo _ (by omega)]; exact hw a ha, fun c hc2 => ?_, l, hl, by rw [hi' _ (by omega)]; exact h57⟩
  · unfold pTip pTz pTp
    rw [if_neg (by omega), if_neg (by omega), if_pos rfl]
  · by_cases q : c < j
    · rw [lo _ (by omega), lo _ (by omega), lo _ (by omega), lo _ (by omega)]
      exact hc c (by omega)
    · rw [mi _ (by omega) (by omega), mi _ (by omega) (by omega), mi _ (by omega) (by omega), mi _ (by omega) (by omega)]
      have := hc (c + 1) (by omega)
      rw [show 16 + 4 * (c + 1) = 16 + 4 * c + 4 by omega] at this
      rw [show 16 + 4 * c + 1 + 4 = 16 + 4 * c + 4 + 1 by omega, show 16 + 4 * c + 2 + 4 = 16 + 4 * c + 4 + 2 by omega, show 16 + 4 * c + 3 + 4 = 16 + 4 * c + 4 + 3 by omega]
      exact this
theorem tip_c {t th m j : Nat} {pl : Int32} {r : Nat → Int32} {c : gm} (h : gSt t c th m pl r) (hm : m ≤ 10) (hj : j < m) : ∃ c2, m_X6_tip t (nI j) c = some (1, c2) ∧ fr (fun i => i = t ∨ i = t + 2 ∨ i = t + 3 ∨ i = t + 5) c c2 ∧ gSt t c2 th (m - 1) pl (pTip r m j) := by
  obtain ⟨h0, h8, h5, h6, h7, h9, h10, h11, hw, hf, hc⟩ := id h
  refine ⟨gm_r (gm_r c (t + 5) (va_cpy (c.1 (t + 5)) (c.1 (t + 5)) (4 * (j + 1)) (4 * j) (4 * (m - j - 1)))) t (upd (c.1 t) 6 (nI (m - 1))), ?_, fr_ut (fr_u _ (by omega)) (by omega), ?_⟩
  · have a1' : nI m - 1 = nI (m - 1) := n_su (b := 1) (by omega)
    have a2 : nI m - nI j = nI (m - j) := n_su (by omega)
    have a3 : nI (m - j) - 1 = nI (m - j - 1) := n_su (b := 1) (by omega)
    have q1 : ¬ nI j < 0 := by rw [n_l0, n_lt (by omega) (by decide)]; omega
    have q2 : ¬ c.1 t 6 ≤ nI j := by rw [h6, n_le (by omega) (by omega)]; omega
    have q3 : c.1 t 6 ≤ 10 := by rw [h6, n_l10, n_le (by omega) (by decide)]; omega
    have q4 : 0 ≤ (4 * (nI j + 1)).toInt ∧ 0 ≤ (4 * nI j).toInt ∧ 0 ≤ (4 * ((nI m - nI j) - 1)).toInt ∧ (4 * (nI j + 1)).toInt + (4 * ((nI m - nI j) - 1)).toInt ≤ 40 ∧ (4 * nI j).toInt + (4 * ((nI m - nI j) - 1)).toInt ≤ 40 := by
      rw [a2, a3, n_s, n_l4, n_mu, n_mu, n_mu, n_ti (by omega), n_ti (by omega), n_ti (by omega)]
      omega
    unfold m_X6_tip
    rw [if_neg q1, gc_1 h0, if_neg q2, if_pos q3, h6, gc_1 q4, gv_e, gv_e, gr_n _ _ (show t ≠ t + 5 by omega), h6, a2, a3, n_s, n_l4, n_mu, n_mu, n_mu, n_cl (by omega), n_cl (by omega), n_cl (by omega), a1']
  · unfold gSt
    have lo : ∀ i, i < 16 + 4 * j → pTip r m j i = r i := by
      intro i hi
      unfold pTip pTz pTp
      rw [if_neg (by omega), if_neg (by omega), if_neg (by omega)]
    have hi' : ∀ i, 57 ≤ i → pTip r m j i = r i := by
      intro i hi
      unfold pTip pTz pTp
      rw [if_neg (by omega), if_neg (by omega), if_neg (by omega)]
    have mi : ∀ i, 16 + 4 * j ≤ i → i < 16 + 4 * (m - 1) → pTip r m j i = r (i + 4) := by
      intro i h1 h2
      unfold pTip pTz pTp
      rw [if_neg (by omega), if_pos (by omega)]
    rw [gr_n _ _ (show t + 2 ≠ t by omega), gr_n _ _ (show t + 2 ≠ t + 5 by omega), gr_n _ _ (show t + 3 ≠ t by omega), gr_n _ _ (show t + 3 ≠ t + 5 by omega), gr_n _ _ (show t + 5 ≠ t by omega), gr_s, gr_s, hi' _ (by omega), hi' _ (by omega), hi' _ (by omega)]
    refine ⟨h0, h8, ?_, ?_, ?_, ?_, ?_, ?_, fun x hx => ?_, fun x hx => ?_, fun x hx => ?_⟩
    · rw [up_n _ _ (by decide)]; exact h5
    · rw [up_s]
    · rw [up_n _ _ (by decide)]; exact h7
    · rw [up_n _ _ (by decide)]; exact h9
    · rw [up_n _ _ (by decide)]; exact h10
    · rw [up_n _ _ (by decide)]; exact h11
    · rw [lo _ (by omega)]; exact hw x hx
    · rw [lo _ (by omega)]; exact hf x hx
    · unfold va_cpy
      by_cases q : 4 * j ≤ x ∧ x < 4 * j + 4 * (m - j - 1)
      · rw [if_pos q, mi _ (by omega) (by omega), hc _ (by omega)]
        congr 1
        omega
      · rw [if_neg q, lo _ (by omega)]
        exact hc x (by omega)
theorem tip_two {t a1 rl th m : Nat} {pl : Int32} {c d : gm} (hi : gIx t a1 rl) (h : gR2 t a1 rl th m pl c d) {j n : Nat} (hj : j < 100) (hn : 160 < n) : ∃ q c2 d2 m2, (q = 0 ∨ q = 1) ∧ m_X6_tip t (nI j) c = some (q, c2) ∧ m_X10_tips n a1 (nI j) d = some (q, d2) ∧ fr (CF t rl) c c2 ∧ fr (DF a1) d d2 ∧ gR2 t a1 rl th m2 pl c2 d2 := by
  obtain ⟨k1, k2, k3⟩ := gIx_k hi
  obtain ⟨hS, hR, hM, hL⟩ := id h
  obtain ⟨h0, h8, h5, h6, h7, h9, h10, h11, hw, hf, hc⟩ := id hS
  have hm : m ≤ 10 := hR.1
  have h56 := hR.2.1
  have g56 : 0 ≤ (56 : Int32).toInt ∧ (56 : Int32).toInt < ((gal a1 : Nat) : Int) := by rw [k3]; decide
  by_cases hjm : j < m
  · obtain ⟨c2, e1, f1, g1⟩ := tip_c hS hm hjm
    exact ⟨1, c2, _, m - 1, Or.inr rfl, e1, tip_d h56 k2 k3 hm hjm hn, fr_m f1 (fun i q => by unfold CF; omega), fr_u _ (Or.inl rfl), gR2_w hi h f1 g1 (gRow_tip hR h8 hjm)⟩
  · refine ⟨0, c, d, m, Or.inl rfl, ?_, ?_, fr_r _ _, fr_r _ _, h⟩
    · have q1 : ¬ nI j < 0 := by rw [n_l0, n_lt (by omega) (by decide)]; omega
      have q2 : c.1 t 6 ≤ nI j := by rw [h6, n_le (by omega) (by omega)]; omega
      unfold m_X6_tip
      rw [if_neg q1, gc_1 h0, if_pos q2]
    · have q : ¬ nI j < d.1 a1 (56 : Int32).toNatClampNeg := by rw [show (56 : Int32).toNatClampNeg = 56 from rfl, h56, n_lt (by omega) (by omega)]; omega
      unfold m_X10_tips
      rw [gc_1 k2, gc_1 g56, if_neg q]
theorem feed_two {t a1 rl th m : Nat} {pl : Int32} {c d : gm} (hi : gIx t a1 rl) (h : gR2 t a1 rl th m pl c d) {a x : Nat} (ha : a < th) (x1 : 1 ≤ x) (x30 : x ≤ 30) : ∃ q c2 d2, (q = 0 ∨ q = 1) ∧ m_X6_fatten t (nI a) (nI x) c = some (q, c2) ∧ m_X10_feeds a1 (nI a) (nI x) d = some (q, d2) ∧ fr (CF t rl) c c2 ∧ fr (DF a1) d d2 ∧ gR2 t a1 rl th m pl c2 d2 := by
  obtain ⟨k1, k2, k3⟩ := gIx_k hi
  obtain ⟨hS, hR, hM, hL⟩ := id h
  obtain ⟨h0, h8, h5, h6, h7, h9, h10, h11, hw, hf, hc⟩ := id hS
  have t1 : m_X6_isThing t (nI a) c = some 1 := by
    rw [cs_thing hS, if_pos]
    rw [n_l0, n_le (by omega) (by omega), n_lt (by omega) (by omega)]; omega
  obtain ⟨w, w1, w60, ew⟩ := hR.2.2.1 a ha
  have ec : c.1 (t + 2) a = nI w := by rw [hw a ha]; exact ew
  have z10 : ¬ (1 : Int32) = 0 := by decide
  have i8 : 0 ≤ (nI a).toInt ∧ (nI a).toInt < 8 := by rw [n_ti (by omega)]; omega
  have i60 : 0 ≤ (0 + nI a).toInt ∧ (0 + nI a).toInt < ((gal a1 : Nat) : Int) := by rw [k3, n_l0, n_ad, n_ti (by omega)]; omega
  have ca : (0 + nI a).toNatClampNeg = a := by rw [n_l0, n_ad, n_cl (by omega)]; omega
  by_cases q60 : w = 60
  · refine ⟨0, c, d, Or.inl rfl, ?_, ?_, fr_r _ _, fr_r _ _, h⟩
    · have q : ¬ c.1 (t + 2) (nI a).toNatClampNeg < 60 := by rw [n_cl (by omega), ec, n_l60, n_lt (by omega) (by decide)]; omega
      unfold m_X6_fatten
      rw [gc_1 k1, gb_x t1, if_neg z10, gc_1 i8, if_neg q]
    · have q : d.1 a1 (0 + nI a).toNatClampNeg = 60 := by rw [ca, ew, q60]; rfl
      unfold m_X10_feeds
      rw [gc_1 k2, gc_1 i60, if_pos q]
  · obtain ⟨v, v1, v60, ev⟩ : ∃ v, 1 ≤ v ∧ v ≤ 60 ∧ v = min 60 (w + x) := ⟨_, by omega, by omega, rfl⟩
    have cv : (if 60 < nI w + nI x then (60 : Int32) else nI w + nI x) = nI v := by
      rw [n_ad]
      by_cases q : 60 < w + x
      · rw [if_pos (by rw [n_l60, n_lt (by decide) (by omega)]; exact q), ev, show min 60 (w + x) = 60 by omega]; rfl
      · rw [if_neg (by rw [n_l60, n_lt (by decide) (by omega)]; exact q), ev, show min 60 (w + x) = w + x by omega]
    have dv : m_X10_less 60 (nI w + nI x) = some (nI v) := by
      unfold m_X10_less
      rw [n_ad]
      by_cases q : w + x ≤ 60
      · rw [if_pos (by rw [n_l60, n_le (by omega) (by decide)]; exact q), ev, show min 60 (w + x) = w + x by omega]
      · rw [if_neg (by rw [n_l60, n_le (by omega) (by decide)]; exact q), ev, show min 60 (w + x) = 60 by omega]; rfl
    refine ⟨1, gm_r c (t + 2) (upd (c.1 (t + 2)) a (nI v)), gm_r d a1 (upd (d.1 a1) a (nI v)), Or.inr rfl, ?_, ?_, fr_u _ (by unfold CF; omega), fr_u _ (Or.inl rfl), gR2_w hi h (fr_u _ (by omega)) (gSt_w hS ha) (gRow_w hR h8 ha v1 v60)⟩
    · have q : c.1 (t + 2) (nI a).toNatClampNeg < 60 := by rw [n_cl (by omega), ec, n_l60, n_lt (by omega) (by decide)]; omega
      unfold m_X6_fatten
      rw [gc_1 k1, gb_x t1, if_neg z10, gc_1 i8, if_pos q, gc_1 i8, gc_1 i8, gv_e, n_cl (by omega), ec, cv]
    · have q : ¬ d.1 a1 (0 + nI a).toNatClampNeg = 60 := by rw [ca, ew, n_l60, n_eq (by omega) (by decide)]; omega
      unfold m_X10_feeds
      rw [gc_1 k2, gc_1 i60, if_neg q, gc_1 i60, ca, ew, gb_x dv, gc_1 i60, gv_e]
theorem turn_c {t a1 rl th m : Nat} {pl : Int32} {c d : gm} (hi : gIx t a1 rl) (h : gR2 t a1 rl th m pl c d) : ∃ q c2 d2, (q = 0 ∨ q = 1) ∧ m_X6_turnBeam t c = some (q, c2) ∧ ((d.1 a1 57 = 9 ∧ q = 0 ∧ d2 = d) ∨ (¬ d.1 a1 57 = 9 ∧ q = 1 ∧ d2 = gm_r d a1 (upd (d.1 a1) 57 (18 - d.1 a1 57)))) ∧ fr (CF t rl) c c2 ∧ fr (DF a1) d d2 ∧ gR2 t a1 rl th m pl c2 d2 := by
  obtain ⟨k1, k2, k3⟩ := gIx_k hi
  obtain ⟨hS, hR, hM, hL⟩ := id h
  obtain ⟨h0, h8, h5, h6, h7, h9, h10, h11, hw, hf, hc⟩ := id hS
  unfold m_X6_turnBeam
  rw [gc_1 k1, h7]
  by_cases q : d.1 a1 57 = 9
  · exact ⟨0, c, d, Or.inl rfl, by rw [if_pos q], Or.inl ⟨q, rfl, rfl⟩, fr_r _ _, fr_r _ _, h⟩
  · obtain ⟨l, hl, el⟩ := hR.2.2.2.2
    have e : (18 : Int32) - d.1 a1 57 = nI (18 - l) := by rw [el, n_l18, n_su hl]
    refine ⟨1, gm_r c t (upd (c.1 t) 7 (18 - d.1 a1 57)), _, Or.inr rfl, by rw [if_neg q, gv_e], Or.inr ⟨q, rfl, rfl⟩, fr_u _ (by unfold CF; omega), fr_u _ (Or.inl rfl), gR2_w hi h (fr_u _ (by omega)) (gSt_lean hS hR.1) ?_⟩
    rw [e]
    exact gRow_l hR h8 (by omega)
