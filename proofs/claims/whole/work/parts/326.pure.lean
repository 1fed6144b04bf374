set_option maxRecDepth 16384
/-! words -/
theorem lt_e {n j : Nat} {b : Nat → Nat} (hb : ∀ i, i < n → b i < 256) : m_X7_isLetter (pBt n b j) = some (if j < n ∧ pLt b j = true then 1 else 0) := by
  unfold m_X7_isLetter pBt
  by_cases q : j < n
  · have := hb j q
    rw [if_pos q]
    by_cases q2 : 97 ≤ b j ∧ b j ≤ 122
    · rw [if_neg (by rw [n_l97, n_lt (by omega) (by decide)]; omega), if_neg (by rw [n_l122, n_lt (by decide) (by omega)]; omega), if_pos ⟨q, decide_eq_true q2⟩]
    · rw [if_neg (show ¬ (j < n ∧ pLt b j = true) from fun q3 => q2 (of_decide_eq_true q3.2))]
      by_cases q3 : b j < 97
      · rw [if_pos (by rw [n_l97, n_lt (by omega) (by decide)]; omega)]
      · rw [if_neg (by rw [n_l97, n_lt (by omega) (by decide)]; omega), if_pos (by rw [n_l122, n_lt (by decide) (by omega)]; omega)]
  · rw [if_neg q, if_pos (by decide), if_neg (fun q3 => q q3.1)]
theorem lt_d (x : Int32) : m_X10_isSmall x = m_X7_isLetter x := rfl
/-- a word is passed -/
theorem word_lp_c {n s N : Nat} {b : Nat → Nat} {c : gm} (hT : gTc n b c) (h3 : c.1 1 3 = nI s) (hs : s ≤ n) (hN : 700 < N) : gloop (fun (c7 : gm) => m_X7_takeWord_L5 1 c7) N c = some (cAt c (pScan (pLt b) n s)) := by
  have hn := hT.1
  obtain ⟨c2, e, rfl⟩ := gloop_inv (f := fun (c7 : gm) => m_X7_takeWord_L5 1 c7) (fun r c2 => ∃ k, s ≤ k ∧ k ≤ n ∧ r + k = n ∧ c2 = cAt c k ∧ pScan (pLt b) n k = pScan (pLt b) n s) (fun c2 => c2 = cAt c (pScan (pLt b) n s)) (n := N) (r := n - s) (a := c) (by
    rintro r c2 ⟨k, k1, k2, hr, rfl, hk⟩
    have hT2 := gTc_f hT (frc_F (cAt_f c k))
    have t2 := hT2.2.1
    have hb := lt_e (n := n) (j := k) (b := b) (fun i hi => (hT.2.2 i hi).1)
    by_cases q : k < n ∧ pLt b k = true
    · left
      refine ⟨cAt c (k + 1), r - 1, ?_, by omega, k + 1, by omega, by omega, by omega, rfl, by rw [← pScan_s q.1 q.2]; exact hk⟩
      unfold m_X7_takeWord_L5
      rw [t2, cAt_3, if_neg (by rw [n_le (by omega) (by omega)]; omega), gb_x (bt_c hT2 (by omega)), gb_x hb, if_pos q, if_neg (by decide), n_s, gv_e]
      show some (Sum.inl (cAt (cAt c k) (k + 1))) = _
      rw [cAt_a]
    · right
      refine ⟨cAt c k, ?_, by rw [← hk, pScan_e q]⟩
      unfold m_X7_takeWord_L5
      rw [t2, cAt_3]
      by_cases q2 : k < n
      · rw [if_neg (by rw [n_le (by omega) (by omega)]; omega), gb_x (bt_c hT2 (by omega)), gb_x hb, if_neg q, if_pos rfl]
      · rw [if_pos (by rw [n_le (by omega) (by omega)]; omega)]) ⟨s, by omega, hs, by omega, (cAt_i h3).symm, rfl⟩ (by omega)
  exact e
theorem skip_d {n s N : Nat} {b : Nat → Nat} {d : gm} (hT : gTd n b d) (h4 : d.1 55 4 = nI s) (hs : s ≤ n) (hN : 700 < N) : m_X10_skipWord N 55 d = some (dAt d (pScan (pLt b) n s)) := by
  have hn := hT.1
  obtain ⟨c2, e, rfl⟩ := gloop_inv (f := fun (c2 : gm) => m_X10_skipWord_L0 55 c2) (fun r c2 => ∃ k, s ≤ k ∧ k ≤ n ∧ r + k = n ∧ c2 = dAt d k ∧ pScan (pLt b) n k = pScan (pLt b) n s) (fun c2 => c2 = dAt d (pScan (pLt b) n s)) (n := N) (r := n - s) (a := d) (by
    rintro r c2 ⟨k, k1, k2, hr, rfl, hk⟩
    have hT2 := gTd_f hT (frm_F (dAt_f d k))
    have hb := lt_e (n := n) (j := k) (b := b) (fun i hi => (hT.2.2 i hi).1)
    by_cases q : k < n ∧ pLt b k = true
    · left
      refine ⟨dAt d (k + 1), r - 1, ?_, by omega, k + 1, by omega, by omega, by omega, rfl, by rw [← pScan_s q.1 q.2]; exact hk⟩
      unfold m_X10_skipWord_L0
      rw [gc_1 (show gck 55 = 10 from rfl), dAt_4, gb_x (bt_d hT2 (by omega)), lt_d, gb_x hb, if_pos q, if_neg (by decide), n_s, gv_e]
      show some (Sum.inl (dAt (dAt d k) (k + 1))) = _
      rw [dAt_a]
    · right
      refine ⟨dAt d k, ?_, by rw [← hk, pScan_e q]⟩
      unfold m_X10_skipWord_L0
      rw [gc_1 (show gck 55 = 10 from rfl), dAt_4, gb_x (bt_d hT2 (by omega)), lt_d, gb_x hb, if_neg q, if_pos rfl]) ⟨s, by omega, hs, by omega, (dAt_i h4).symm, rfl⟩ (by omega)
  unfold m_X10_skipWord
  rw [gb_x e]
/-- the class takes a word, or fault 1 -/
theorem word_c {n a N : Nat} {b : Nat → Nat} {c : gm} (hT : gTc n b c) (h3 : c.1 1 3 = nI a) (han : a ≤ n) (hN : 700 < N) : (pScan (pBl b) n a < pScan (pLt b) n (pScan (pBl b) n a) ∧ m_X7_takeWord N 1 c = some (1, cAt (cPk c (pScan (pBl b) n a)) (pScan (pLt b) n (pScan (pBl b) n a)))) ∨ (pScan (pLt b) n (pScan (pBl b) n a) = pScan (pBl b) n a ∧ m_X7_takeWord N 1 c = some (0, cFl (cPk c (pScan (pBl b) n a)) 1 (pScan (pBl b) n a))) := by
  have hn := hT.1
  have hs := pScan_le (p := pBl b) han
  have e1 := peek_c hT h3 han hN
  have hT2 := gTc_f hT (frc_F (cPk_f c (pScan (pBl b) n a)))
  generalize pScan (pBl b) n a = s at *
  have he := pScan_le (p := pLt b) hs.2
  have e2 := word_lp_c hT2 (cPk_s c s).1 hs.2 hN
  by_cases q : s < pScan (pLt b) n s
  · left
    refine ⟨q, ?_⟩
    unfold m_X7_takeWord
    rw [gc_1 (show gck 1 = 7 from rfl), gb2_x e1, gb_x e2, cAt_3, (show (cAt (cPk c s) (pScan (pLt b) n s)).1 1 4 = nI s by unfold cAt; rw [gr_s, up_n _ _ (by omega)]; exact (cPk_s c s).2), if_pos (by rw [n_lt (by omega) (by omega)]; exact q)]
  · right
    have q2 : pScan (pLt b) n s = s := by omega
    refine ⟨q2, ?_⟩
    rw [q2, cAt_i (cPk_s c s).1] at e2
    unfold m_X7_takeWord
    rw [gc_1 (show gck 1 = 7 from rfl), gb2_x e1, gb_x e2, (cPk_s c s).1, (cPk_s c s).2, if_neg (by rw [n_lt (by omega) (by omega)]; omega), n_l1, gb2_x (fail_c _ 1 s), if_pos rfl]
/-- the word from s to e is the string w -/
def isW (b : Nat → Nat) (s e w : Nat) : Prop := e = s + gsn w ∧ ∀ i, i < gsn w → nI (b (s + i)) = gsb w i
theorem gs_ok : ∀ w, w < 16 → gsn w < 8 ∧ 3 ≤ gsn w ∧ ∀ i, i < gsn w → ∃ x, 1 ≤ x ∧ x ≤ 26 ∧ gsb w i = nI (96 + x) := by
  have h : ∀ w, w < 16 → gsn w < 8 ∧ 3 ≤ gsn w ∧ ∀ i, i < gsn w → (gsb w i).toNatClampNeg - 96 ≥ 1 ∧ (gsb w i).toNatClampNeg - 96 ≤ 26 ∧ gsb w i = nI (96 + ((gsb w i).toNatClampNeg - 96)) := by decide +kernel
  intro w hw
  obtain ⟨h1, h2, h3⟩ := h w hw
  exact ⟨h1, h2, fun i hi => ⟨_, (h3 i hi).1, (h3 i hi).2.1, (h3 i hi).2.2⟩⟩
theorem ch_c {w i : Nat} (hw : w < 16) (hi : i < gsn w) (c : gm) : m_J0_charAt_5068e w (nI i) c = some (gsb w i) := by
  obtain ⟨g8, g3, gx⟩ := gs_ok w hw
  have hz : ∀ x, x < 256 → ((Int32.toUInt32 (nI x &&& 255) % 65536).toInt32 = nI x) := by decide +kernel
  have hz2 : ∀ x, x < 256 → ((Int32.toUInt32 (nI x) % 65536).toInt32 = nI x) := by decide +kernel
  obtain ⟨x, x1, x2, ex⟩ := gx i hi
  have e1 : m_J0_isLatin1_aae02 w c = some 1 := by
    unfold m_J0_isLatin1_aae02
    rw [if_neg (by decide), gc_1 (show w < 18 by omega), if_pos rfl]
  have e2 : m_J0_checkIndex_df160 (nI i) (nI (gsn w)) = some () := by
    unfold m_J0_checkIndex_df160 m_J3_checkIndex_8e157; simp only [gj_e]
    rw [if_neg (by rw [n_l0, n_lt (by omega) (by decide)]; omega), if_pos (by rw [n_lt (by omega) (by omega)]; exact hi), gb_e]
  have e3 : m_J1_charAt_3b067 w (nI i) c = some (gsb w i) := by
    unfold m_J1_charAt_3b067
    rw [gc_1 (show w < 18 by omega), gb_x e2, gc_1 (n_rg (by omega) (by omega)), n_cl (by omega), ex, hz _ (by omega), hz2 _ (by omega), gc_1 rfl]
  unfold m_J0_charAt_5068e
  rw [gc_1 (show w < 18 by omega), gb_x e1, if_neg (by decide), gb_x e3, ex, hz2 _ (by omega), gc_1 rfl]
theorem len_c {w : Nat} (hw : w < 16) (c : gm) : m_J0_length_8abf5 w c = some (nI (gsn w)) := by
  have e1 : m_J0_coder_7d493 w c = some 0 := by
    unfold m_J0_coder_7d493
    rw [if_neg (by decide), gc_1 (show w < 18 by omega)]
  have h : ∀ x, x < 8 → nI x >>> ((0 : Int32) &&& 31) = nI x := by decide +kernel
  unfold m_J0_length_8abf5
  rw [gc_1 (show w < 18 by omega), gb_x e1, h _ (gs_ok w hw).1]
theorem wi_c {n s e w N : Nat} {b : Nat → Nat} {c : gm} (hT : gTc n b c) (h3 : c.1 1 3 = nI e) (h4 : c.1 1 4 = nI s) (hse : s ≤ e) (hen : e ≤ n) (hw : w < 16) (hN : 700 < N) : (isW b s e w ∧ m_X7_wordIs N 1 w c = some 1) ∨ (¬ isW b s e w ∧ m_X7_wordIs N 1 w c = some 0) := by
  have hn := hT.1
  obtain ⟨g8, g3, gx⟩ := gs_ok w hw
  have es : nI e - nI s = nI (e - s) := n_su hse
  by_cases q : e = s + gsn w
  · obtain ⟨u, l, h⟩ := gloop_inv (f := fun (y8 : Int32) => m_X7_wordIs_L20 1 w c y8) (fun r (y : Int32) => ∃ k, k ≤ gsn w ∧ r + k = gsn w ∧ y = nI k ∧ ∀ i, i < k → nI (b (s + i)) = gsb w i) (fun (u : Int32 ⊕ Unit) => (u = .inl 0 ∧ ¬ isW b s e w) ∨ (u = .inr () ∧ isW b s e w)) (n := N) (r := gsn w) (a := 0) (by
      rintro r y ⟨k, k1, hr, rfl, hi⟩
      by_cases hk : k = gsn w
      · right
        refine ⟨.inr (), ?_, Or.inr ⟨rfl, q, by rw [← hk]; exact hi⟩⟩
        unfold m_X7_wordIs_L20
        rw [gb_x (len_c hw c), if_pos (by rw [n_le (by omega) (by omega)]; omega)]
      · have hb : pBt n b (s + k) = nI (b (s + k)) := by unfold pBt; rw [if_pos (by omega)]
        have est : m_X7_wordIs_L20 1 w c (nI k) = if nI (b (s + k)) = gsb w k then some (.inl (nI (k + 1))) else some (.inr (.inl 0)) := by
          unfold m_X7_wordIs_L20
          rw [gb_x (len_c hw c), if_neg (by rw [n_le (by omega) (by omega)]; omega), h4, n_ad, gb_x (bt_c hT (by omega)), gb_x (ch_c hw (by omega) c), hb, n_s, gv_e]
        by_cases q2 : nI (b (s + k)) = gsb w k
        · left
          refine ⟨nI (k + 1), r - 1, by rw [est, if_pos q2], by omega, k + 1, by omega, by omega, rfl, fun i hi2 => ?_⟩
          by_cases e2 : i = k
          · rw [e2]; exact q2
          · exact hi i (by omega)
        · right
          exact ⟨.inl 0, by rw [est, if_neg q2], Or.inl ⟨rfl, fun hW => q2 (hW.2 k (by omega))⟩⟩) ⟨0, by omega, by omega, rfl, fun i hi => by omega⟩ (by omega)
    rcases h with ⟨rfl, h⟩ | ⟨rfl, h⟩
    · right
      refine ⟨h, ?_⟩
      unfold m_X7_wordIs
      rw [gc_1 (show gck 1 = 7 from rfl), gc_1 (show w < 18 by omega), gb_x (len_c hw c), h3, h4, es, if_pos (by rw [n_eq (by omega) (by omega)]; omega), gb_x l, gsm_e1]
    · left
      refine ⟨h, ?_⟩
      unfold m_X7_wordIs
      rw [gc_1 (show gck 1 = 7 from rfl), gc_1 (show w < 18 by omega), gb_x (len_c hw c), h3, h4, es, if_pos (by rw [n_eq (by omega) (by omega)]; omega), gb_x l, gsm_e2]
  · right
    refine ⟨fun h => q h.1, ?_⟩
    unfold m_X7_wordIs
    rw [gc_1 (show gck 1 = 7 from rfl), gc_1 (show w < 18 by omega), gb_x (len_c hw c), h3, h4, es, if_neg (by rw [n_eq (by omega) (by omega)]; omega)]
/-- a word as a number, 27 a letter -/
def pHs (f : Nat → Nat) : Nat → Nat
  | 0 => 0
  | k + 1 => 27 * pHs f k + f k
theorem pHs_b {f : Nat → Nat} : ∀ k, (∀ i, i < k → f i ≤ 26) → pHs f k < 27 ^ k := by
  intro k
  induction k with
  | zero => intro _; exact Nat.zero_lt_one
  | succ k ih =>
    intro h
    have h1 := ih (fun i hi => h i (by omega))
    have h2 := h k (by omega)
    rw [pHs, Nat.pow_succ]
    omega
theorem pHs_i {f g : Nat → Nat} : ∀ k j, (∀ i, i < k → 1 ≤ f i ∧ f i ≤ 26) → (∀ i, i < j → 1 ≤ g i ∧ g i ≤ 26) → pHs f k = pHs g j → k = j ∧ ∀ i, i < k → f i = g i := by
  intro k
  induction k with
  | zero =>
    intro j _ hg e
    cases j with
    | zero => exact ⟨rfl, fun i hi => by omega⟩
    | succ j =>
      exfalso
      have := hg j (by omega)
      rw [pHs, pHs] at e
      omega
  | succ k ih =>
    intro j hf hg e
    cases j with
    | zero =>
      exfalso
      have := hf k (by omega)
      rw [pHs, pHs] at e
      omega
    | succ j =>
      have h1 := hf k (by omega)
      have h2 := hg j (by omega)
      rw [pHs, pHs] at e
      obtain ⟨e1, e2⟩ := ih j (fun i hi => hf i (by omega)) (fun i hi => hg i (by omega)) (by omega)
      refine ⟨by omega, fun i hi => ?_⟩
      by_cases q : i = k
      · subst q; subst e1; omega
      · exact e2 i (by omega)
/-- the letters of string w as numbers -/
def gsl (w i : Nat) : Nat := (gsb w i).toNatClampNeg - 96
theorem gsl_e {w i : Nat} (hw : w < 16) (hi : i < gsn w) : 1 ≤ gsl w i ∧ gsl w i ≤ 26 ∧ gsb w i = nI (96 + gsl w i) := by
  obtain ⟨x, x1, x2, ex⟩ := (gs_ok w hw).2.2 i hi
  unfold gsl
  rw [ex, n_cl (by omega), show 96 + x - 96 = x by omega]
  exact ⟨x1, x2, rfl⟩
/-- up to six letters are reckoned, all are counted -/
theorem wh_lp {n s N : Nat} {b : Nat → Nat} {d : gm} (hT : gTd n b d) (h4 : d.1 55 4 = nI s) (hs : s ≤ n) (hN : 700 < N) : gloop (gu2 (fun (y7 : Int32) (y8 : Int32) => m_X10_wordHere_L8 55 d y7 y8)) N (0, 0) = some (nI (pHs (fun i => b (s + i) - 96) (min (pScan (pLt b) n s - s) 6)), nI (pScan (pLt b) n s - s)) := by
  have hn := hT.1
  obtain ⟨u, e, rfl⟩ := gloop_inv (f := gu2 (fun (y7 : Int32) (y8 : Int32) => m_X10_wordHere_L8 55 d y7 y8)) (fun r (x : Int32 × Int32) => ∃ k, s + k ≤ n ∧ r + (s + k) = n ∧ pScan (pLt b) n (s + k) = pScan (pLt b) n s ∧ x = (nI (pHs (fun i => b (s + i) - 96) (min k 6)), nI k) ∧ ∀ i, i < k → 97 ≤ b (s + i) ∧ b (s + i) ≤ 122) (fun u => u = (nI (pHs (fun i => b (s + i) - 96) (min (pScan (pLt b) n s - s) 6)), nI (pScan (pLt b) n s - s))) (n := N) (r := n - s) (a := (0, 0)) (by
    rintro r x ⟨k, k1, hr, hk, rfl, hl⟩
    have hb := lt_e (n := n) (j := s + k) (b := b) (fun i hi => (hT.2.2 i hi).1)
    by_cases q : s + k < n ∧ pLt b (s + k) = true
    · left
      have hd := of_decide_eq_true q.2
      have e1 : pBt n b (s + k) = nI (b (s + k)) := by unfold pBt; rw [if_pos q.1]
      refine ⟨(nI (pHs (fun i => b (s + i) - 96) (min (k + 1) 6)), nI (k + 1)), r - 1, ?_, by omega, k + 1, by omega, by omega, by rw [← hk, pScan_s q.1 q.2, Nat.add_assoc], rfl, fun i hi => ?_⟩
      · show m_X10_wordHere_L8 55 d _ (nI k) = _
        unfold m_X10_wordHere_L8; simp only [gj_e]
        rw [h4, n_ad, gb_x (bt_d hT (by omega)), lt_d, gb_x hb, if_pos q, if_neg (by decide)]
        by_cases q6 : 6 ≤ k
        · rw [if_pos (by rw [n_l6, n_le (by decide) (by omega)]; exact q6), gv_e, n_s, show min k 6 = 6 by omega, show min (k + 1) 6 = 6 by omega]
        · rw [if_neg (by rw [n_l6, n_le (by decide) (by omega)]; exact q6), gb_x (bt_d hT (by omega)), e1, gv_e, n_s, show min k 6 = k by omega, show min (k + 1) 6 = k + 1 by omega, pHs, n_l27, n_mu, n_ad, n_l97, n_su (by omega), n_s]
          congr 4
          omega
      · by_cases e2 : i = k
        · rw [e2]; exact hd
        · exact hl i (by omega)
    · right
      refine ⟨(nI (pHs (fun i => b (s + i) - 96) (min k 6)), nI k), ?_, ?_⟩
      · show m_X10_wordHere_L8 55 d _ (nI k) = _
        unfold m_X10_wordHere_L8; simp only [gj_e]
        rw [h4, n_ad, gb_x (bt_d hT (by omega)), lt_d, gb_x hb, if_neg q, if_pos rfl]
      · rw [← hk, pScan_e q, show s + k - s = k by omega]) ⟨0, by omega, by omega, rfl, rfl, fun i hi => by omega⟩ (by omega)
  exact e
theorem is7_e (t : Nat) (d : gm) (x y : Int32) : m_X10_isSeven_L18 t d x y = m_X10_wordHere_L8 t d x y := rfl
/-- the letters of the word from s to e -/
theorem wl_b {n s : Nat} {b : Nat → Nat} (hs : s ≤ n) : ∀ i, i < pScan (pLt b) n s - s → 97 ≤ b (s + i) ∧ b (s + i) ≤ 122 := by
  intro i hi
  have := pScan_m (p := pLt b) hs (j := s + i) (by omega) (by omega)
  exact of_decide_eq_true this
theorem wh_d {n a N : Nat} {b : Nat → Nat} {d : gm} (hT : gTd n b d) (h4 : d.1 55 4 = nI a) (han : a ≤ n) (hN : 700 < N) : m_X10_wordHere N 55 d = some (if pScan (pLt b) n (pScan (pBl b) n a) - pScan (pBl b) n a ≤ 6 then nI (pHs (fun i => b (pScan (pBl b) n a + i) - 96) (pScan (pLt b) n (pScan (pBl b) n a) - pScan (pBl b) n a)) else -1, dAt d (pScan (pBl b) n a)) := by
  have hn := hT.1
  have hs := pScan_le (p := pBl b) han
  have e2 := blanks_d hT h4 han hN
  have hd2 := gTd_f hT (frm_F (dAt_f d (pScan (pBl b) n a)))
  generalize pScan (pBl b) n a = s at *
  have he := pScan_le (p := pLt b) hs.2
  have e3 := wh_lp hd2 (dAt_4 d s) hs.2 hN
  unfold m_X10_wordHere
  rw [gc_1 (show gck 55 = 10 from rfl), gb_x e2, gb_x e3, gu2_e]
  by_cases q : pScan (pLt b) n s - s ≤ 6
  · rw [if_pos (by rw [n_l6, n_le (by omega) (by decide)]; exact q), if_pos q, show min (pScan (pLt b) n s - s) 6 = pScan (pLt b) n s - s by omega]
  · rw [if_neg (by rw [n_l6, n_le (by omega) (by decide)]; exact q), if_neg q]
