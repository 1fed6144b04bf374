set_option maxRecDepth 16384
/-! what fits: lean and play by how it stood -/
def gBc (bk z : Nat) (A B R : Nat → Nat) (c : gm) : Prop := c.1 bk 5 = nI z ∧ ∀ j, j < z → c.1 (bk + 1) j = nI (A j) ∧ c.1 (bk + 2) j = nI (B j) ∧ c.1 (bk + 3) j = nI (R j)
def gBd (z : Nat) (A B R : Nat → Nat) (d : gm) : Prop := d.1 55 32 = nI z ∧ ∀ j, j < z → d.1 (407 + j) 0 = nI (A j) ∧ d.1 (407 + j) 1 = nI (B j) ∧ d.1 (407 + j) 2 = nI (R j)
theorem gBk_e {bk th : Nat} {c d : gm} (h : gBk bk th c d) (h8 : th ≤ 8) : ∃ z A B R, z ≤ 6 ∧ gBc bk z A B R c ∧ gBd z A B R d ∧ ∀ j, j < z → A j < th ∧ B j < th ∧ R j ≤ 2 := by
  obtain ⟨z, hz, b1, b2, b3⟩ := h
  refine ⟨z, fun j => (c.1 (bk + 1) j).toNatClampNeg, fun j => (c.1 (bk + 2) j).toNatClampNeg, fun j => (c.1 (bk + 3) j).toNatClampNeg, hz, ⟨b1, fun j hj => ?_⟩, ⟨b2, fun j hj => ?_⟩, fun j hj => ?_⟩
  · obtain ⟨a, b, r, ha, hb, hr, e1, e2, e3, e4, e5, e6⟩ := b3 j hj
    dsimp only
    rw [e1, e2, e3, n_cl (show a < 2147483648 by omega), n_cl (show b < 2147483648 by omega), n_cl (show r < 2147483648 by omega)]
    exact ⟨rfl, rfl, rfl⟩
  · obtain ⟨a, b, r, ha, hb, hr, e1, e2, e3, e4, e5, e6⟩ := b3 j hj
    dsimp only
    rw [e1, e2, e3, e4, e5, e6, n_cl (show a < 2147483648 by omega), n_cl (show b < 2147483648 by omega), n_cl (show r < 2147483648 by omega)]
    exact ⟨rfl, rfl, rfl⟩
  · obtain ⟨a, b, r, ha, hb, hr, e1, e2, e3, e4, e5, e6⟩ := b3 j hj
    dsimp only
    rw [e1, e2, e3, n_cl (show a < 2147483648 by omega), n_cl (show b < 2147483648 by omega), n_cl (show r < 2147483648 by omega)]
    exact ⟨ha, hb, hr⟩
def pStk (r : Nat → Int32) (a b k : Nat) : Int32 := pSt (r a) (r b) (nI (k / 10)) (nI (k % 10))
def pFb (z : Nat) (A B R : Nat → Nat) (r : Nat → Int32) (k : Nat) : Bool := decide (∀ j, j < z → pStk r (A j) (B j) k = nI (R j))
theorem pFb_1 {z : Nat} {A B R : Nat → Nat} {r : Nat → Int32} {k : Nat} (h : ∀ j, j < z → pStk r (A j) (B j) k = nI (R j)) : pFb z A B R r k = true := decide_eq_true h
theorem pFb_0 {z : Nat} {A B R : Nat → Nat} {r : Nat → Int32} {k j : Nat} (hj : j < z) (h : ¬ pStk r (A j) (B j) k = nI (R j)) : pFb z A B R r k = false := decide_eq_false (fun q => h (q j hj))
theorem k_10 {k : Nat} (hk : k < 190) : nI k / 10 = nI (k / 10) ∧ nI k - nI (k / 10) * 10 = nI (k % 10) := by
  have h1 : nI k / 10 = nI (k / 10) := pk_div (a := k) (d := 10) (by omega) (by decide) (by decide)
  refine ⟨h1, ?_⟩
  have h2 : nI k - nI k / nI 10 * nI 10 = nI (k % 10) := pk_rem (a := k) (d := 10) (by omega) (by decide) (by decide)
  rw [show nI 10 = (10 : Int32) from rfl, h1] at h2
  exact h2
theorem sb_by {th m a b k : Nat} {pl : Int32} {r : Nat → Int32} {c : gm} (hS : gSt 3 c th m pl r) (ha : a < th) (hb : b < th) (hk : k < 190) : m_X0_standingBy 3 (nI a) (nI b) (nI k) c = some (pStk r a b k) := by
  obtain ⟨e1, e2⟩ := k_10 hk
  unfold m_X0_standingBy
  rw [gc_1 (show gck 3 = 6 from rfl), gb_x (cs_weight hS ha), gb_x (cs_weight hS hb), e1, e2, cs_standing, gb_e]
  rfl
theorem fi_c {bk z th m n k : Nat} {A B R : Nat → Nat} {pl : Int32} {r : Nat → Int32} {c : gm} (kb : gck bk = 0) (hS : gSt 3 c th m pl r) (hB : gBc bk z A B R c) (hz : z ≤ 6) (hA : ∀ j, j < z → A j < th ∧ B j < th ∧ R j ≤ 2) (hk : k < 190) (hn : 160 < n) : m_X0_isFitting n bk 3 (nI k) c = some (if pFb z A B R r k = true then 1 else 0) := by
  obtain ⟨b1, b2⟩ := hB
  obtain ⟨u, e, h⟩ := gloop_inv (f := fun (y2 : Int32) => m_X0_isFitting_L2 bk 3 (nI k) c y2) (fun q (y : Int32) => ∃ j, j ≤ z ∧ q + j = z ∧ y = nI j ∧ ∀ i, i < j → pStk r (A i) (B i) k = nI (R i)) (fun (u : Int32 ⊕ Unit) => (u = .inl 0 ∧ pFb z A B R r k = false) ∨ (u = .inr () ∧ pFb z A B R r k = true)) (n := n) (r := z) (a := 0) (by
    rintro q y ⟨j, hj, hq, rfl, hi⟩
    by_cases hjz : j = z
    · right
      subst hjz
      refine ⟨.inr (), ?_, Or.inr ⟨rfl, pFb_1 hi⟩⟩
      unfold m_X0_isFitting_L2
      rw [gc_1 kb, b1, if_pos (by rw [n_le (by omega) (by omega)]; omega)]
    · obtain ⟨g1, g2, g3⟩ := b2 j (by omega)
      obtain ⟨a1, a2, a3⟩ := hA j (by omega)
      have es : m_X0_isFitting_L2 bk 3 (nI k) c (nI j) = if pStk r (A j) (B j) k = nI (R j) then some (.inl (nI (j + 1))) else some (.inr (.inl 0)) := by
        unfold m_X0_isFitting_L2
        rw [gc_1 kb, b1, if_neg (by rw [n_le (by omega) (by omega)]; omega), if_neg (by rw [n_l6, n_le (by decide) (by omega)]; omega), gc_1 (n_rg (by omega) (by omega)), gc_1 (n_rg (by omega) (by omega)), n_cl (by omega), g1, g2, g3, gb_x (sb_by hS a1 a2 hk), gc_1 (n_rg (by omega) (by omega)), gv_e, n_s]
      by_cases e : pStk r (A j) (B j) k = nI (R j)
      · left
        refine ⟨nI (j + 1), q - 1, by rw [es, if_pos e], by omega, j + 1, by omega, by omega, rfl, fun i hi2 => ?_⟩
        by_cases hij : i = j
        · rw [hij]; exact e
        · exact hi i (by omega)
      · right
        exact ⟨.inl 0, by rw [es, if_neg e], Or.inl ⟨rfl, pFb_0 (by omega) e⟩⟩) ⟨0, by omega, by omega, rfl, fun i hi => by omega⟩ (by omega)
  unfold m_X0_isFitting
  rw [gb_x e]
  rcases h with ⟨rfl, h⟩ | ⟨rfl, h⟩
  · rw [gsm_e1, h]; rfl
  · rw [gsm_e2, h]; rfl
theorem gk_lin : ∀ k, k < 6 → gck (406 + 1 + k) = 22 ∧ gal (406 + 1 + k) = 3 := by decide +kernel
theorem fi_d {z th n k : Nat} {A B R : Nat → Nat} {r : Nat → Int32} {d : gm} (er : d.1 503 = r) (h8 : th ≤ 8) (hB : gBd z A B R d) (hz : z ≤ 6) (hA : ∀ j, j < z → A j < th ∧ B j < th ∧ R j ≤ 2) (hk : k < 190) (hn : 160 < n) : m_X10_isBeam n 55 (nI (k / 10)) (nI (k % 10)) d = some (if pFb z A B R r k = true then 1 else 0) := by
  obtain ⟨b1, b2⟩ := hB
  obtain ⟨u, e, h⟩ := gloop_inv (f := fun (y2 : Int32) => m_X10_isBeam_L2 55 (nI (k / 10)) (nI (k % 10)) d y2) (fun q (y : Int32) => ∃ j, j ≤ z ∧ q + j = z ∧ y = nI j ∧ ∀ i, i < j → pStk r (A i) (B i) k = nI (R i)) (fun (u : Int32 ⊕ Unit) => (u = .inl 0 ∧ pFb z A B R r k = false) ∨ (u = .inr () ∧ pFb z A B R r k = true)) (n := n) (r := z) (a := 0) (by
    rintro q y ⟨j, hj, hq, rfl, hi⟩
    by_cases hjz : j = z
    · right
      subst hjz
      refine ⟨.inr (), ?_, Or.inr ⟨rfl, pFb_1 hi⟩⟩
      unfold m_X10_isBeam_L2
      rw [gc_1 (show gck 55 = 10 from rfl), b1, if_pos (by rw [n_le (by omega) (by omega)]; omega)]
    · obtain ⟨g1, g2, g3⟩ := b2 j (by omega)
      obtain ⟨a1, a2, a3⟩ := hA j (by omega)
      obtain ⟨k1, k2⟩ := gk_lin j (by omega)
      have es : m_X10_isBeam_L2 55 (nI (k / 10)) (nI (k % 10)) d (nI j) = if pStk r (A j) (B j) k = nI (R j) then some (.inl (nI (j + 1))) else some (.inr (.inl 0)) := by
        unfold m_X10_isBeam_L2
        rw [gc_1 (show gck 55 = 10 from rfl), b1, if_neg (by rw [n_le (by omega) (by omega)]; omega), gc_1 (n_rg (by omega) (by omega)), n_cl (by omega), gc_1 k1, k2, gc_1 (by decide), show 406 + 1 + j = 407 + j by omega, n_cl0, n_cl1, show (2 : Int32).toNatClampNeg = 2 from rfl, g1, g2, g3, n_z, n_z, gc_1 (n_rg (by omega) (by omega)), gc_1 (n_rg (by omega) (by omega)), gc_1 (by decide), gc_1 (n_rg (by omega) (by omega)), n_cl (by omega), n_cl (by omega), er, md_standing, cs_standing, gb_e, gc_1 (n_rg (by omega) (by omega)), gc_1 (by decide), gv_e, n_s]
        rfl
      by_cases e : pStk r (A j) (B j) k = nI (R j)
      · left
        refine ⟨nI (j + 1), q - 1, by rw [es, if_pos e], by omega, j + 1, by omega, by omega, rfl, fun i hi2 => ?_⟩
        by_cases hij : i = j
        · rw [hij]; exact e
        · exact hi i (by omega)
      · right
        exact ⟨.inl 0, by rw [es, if_neg e], Or.inl ⟨rfl, pFb_0 (by omega) e⟩⟩) ⟨0, by omega, by omega, rfl, fun i hi => by omega⟩ (by omega)
  unfold m_X10_isBeam
  rw [gb_x e]
  rcases h with ⟨rfl, h⟩ | ⟨rfl, h⟩
  · rw [gsm_e1, h]; rfl
  · rw [gsm_e2, h]; rfl
def pCnt (f : Nat → Bool) (k : Nat) : Nat := pF (fun j s => s + if f j = true then 1 else 0) 0 k
theorem pCnt_s (f : Nat → Bool) (k : Nat) : pCnt f (k + 1) = pCnt f k + if f k = true then 1 else 0 := rfl
theorem pCnt_b (f : Nat → Bool) : ∀ k, pCnt f k ≤ k := by
  intro k
  induction k with
  | zero => exact Nat.le_refl _
  | succ k ih => rw [pCnt_s]; split <;> omega
def pFst (f : Nat → Bool) (k : Nat) : Int32 := pF (fun j b => if pCnt f j = 0 then (if f j = true then nI j else b) else b) (-1) k
theorem pFst_s (f : Nat → Bool) (k : Nat) : pFst f (k + 1) = if pCnt f k = 0 then (if f k = true then nI k else pFst f k) else pFst f k := rfl
theorem pCnt_0 {f : Nat → Bool} {k : Nat} (h : ∀ i, i < k → f i = false) : pCnt f k = 0 := by
  induction k with
  | zero => rfl
  | succ k ih => rw [pCnt_s, ih (fun i hi => h i (by omega)), h k (by omega)]; rfl
theorem pFst_0 {f : Nat → Bool} {k : Nat} (h : ∀ i, i < k → f i = false) : pFst f k = -1 := by
  induction k with
  | zero => rfl
  | succ k ih => rw [pFst_s, pCnt_0 (fun i hi => h i (by omega)), if_pos rfl, h k (by omega), if_neg (by decide), ih (fun i hi => h i (by omega))]
theorem pFst_1 {f : Nat → Bool} {j : Nat} (h : ∀ i, i < j → f i = false) (hj : f j = true) : ∀ k, j < k → pFst f k = nI j ∧ 1 ≤ pCnt f k := by
  intro k
  induction k with
  | zero => intro q; omega
  | succ k ih =>
    intro q
    rw [pFst_s, pCnt_s]
    by_cases e : k = j
    · subst e
      rw [pCnt_0 h, if_pos rfl, if_pos hj, if_pos hj]
      exact ⟨rfl, by omega⟩
    · obtain ⟨i1, i2⟩ := ih (by omega)
      rw [if_neg (by omega)]
      exact ⟨i1, by omega⟩
theorem vp_b0 : vp_nar .boolean 0 = 0 := rfl
theorem vp_b1 : vp_nar .boolean 1 = 1 := rfl
/-- the class lays what fits -/
theorem sk_c {bk z th m n : Nat} {A B R : Nat → Nat} {pl : Int32} {r : Nat → Int32} {c : gm} (kb : gck bk = 0) (hbk : 43 ≤ bk) (hS : gSt 3 c th m pl r) (hB : gBc bk z A B R c) (hz : z ≤ 6) (hA : ∀ j, j < z → A j < th ∧ B j < th ∧ R j ≤ 2) (hn : 200 < n) : ∃ c2, m_X0_seekPairs n bk 3 c = some c2 ∧ (fr (fun i => i = bk ∨ i = bk + 4) c c2 ∧ (∀ s, s ≠ 6 → c2.1 bk s = c.1 bk s) ∧ c2.1 bk 6 = nI (pCnt (pFb z A B R r) 190) ∧ ∀ j, j < 190 → c2.1 (bk + 4) j = if pFb z A B R r j = true then 1 else 0) := by
  obtain ⟨c3, ec3⟩ : ∃ q, q = gm_r c bk (upd (c.1 bk) 6 0) := ⟨_, rfl⟩
  have f3 : fr (fun i => i = bk ∨ i = bk + 4) c c3 := by rw [ec3]; exact fr_u _ (Or.inl rfl)
  obtain ⟨c2, e, h⟩ := gloop_inv (f := gu2 (fun (y5 : Int32) (c6 : gm) => m_X0_seekPairs_L7 n bk 3 y5 c6)) (fun q (a : Int32 × gm) => ∃ k c6, k ≤ 190 ∧ q + k = 190 ∧ a = (nI k, c6) ∧ fr (fun i => i = bk ∨ i = bk + 4) c c6 ∧ (∀ s, s ≠ 6 → c6.1 bk s = c.1 bk s) ∧ c6.1 bk 6 = nI (pCnt (pFb z A B R r) k) ∧ ∀ j, j < k → c6.1 (bk + 4) j = if pFb z A B R r j = true then 1 else 0) (fun c2 => fr (fun i => i = bk ∨ i = bk + 4) c c2 ∧ (∀ s, s ≠ 6 → c2.1 bk s = c.1 bk s) ∧ c2.1 bk 6 = nI (pCnt (pFb z A B R r) 190) ∧ ∀ j, j < 190 → c2.1 (bk + 4) j = if pFb z A B R r j = true then 1 else 0) (n := n) (r := 190) (a := (0, c3)) (by
    rintro q a ⟨k, c6, hk, hq, rfl, fc, hs, h6, hj⟩
    by_cases hk2 : k = 190
    · right
      subst hk2
      refine ⟨c6, ?_, fc, hs, h6, hj⟩
      show m_X0_seekPairs_L7 n bk 3 (nI 190) c6 = _
      unfold m_X0_seekPairs_L7
      rw [if_pos (show (190 : Int32) ≤ nI 190 by decide)]
    · left
      have hS6 : gSt 3 c6 th m pl r := gSt_fr hS (fc.1 _ (by omega)) (fc.1 _ (by omega)) (fc.1 _ (by omega)) (fc.1 _ (by omega))
      have hB6 : gBc bk z A B R c6 := ⟨by rw [hs 5 (by omega)]; exact hB.1, fun j hj => by rw [fc.1 _ (by omega), fc.1 _ (by omega), fc.1 _ (by omega)]; exact hB.2 j hj⟩
      have hf := fi_c kb hS6 hB6 hz hA (show k < 190 by omega) (show 160 < n by omega)
      have hcb := pCnt_b (pFb z A B R r) k
      refine ⟨(nI (k + 1), gm_r (gm_r c6 (bk + 4) (upd (c6.1 (bk + 4)) k (if pFb z A B R r k = true then 1 else 0))) bk (upd (c6.1 bk) 6 (nI (pCnt (pFb z A B R r) (k + 1))))), q - 1, ?_, by omega, k + 1, _, by omega, by omega, rfl, fr_ut (fr_ut fc (Or.inr rfl)) (Or.inl rfl), fun s hs2 => ?_, ?_, fun j hj2 => ?_⟩
      · show m_X0_seekPairs_L7 n bk 3 (nI k) c6 = _
        unfold m_X0_seekPairs_L7; simp only [gj_e]
        rw [if_neg (by rw [n_l190, n_le (by decide) (by omega)]; omega), gb_x hf, gc_1 (n_rg (by omega) (by omega)), gv_e, gc_1 (n_rg (by omega) (by omega)), n_cl (by omega), gr_s, up_s, gr_n _ _ (show bk ≠ bk + 4 by omega), h6, pCnt_s]
        by_cases e : pFb z A B R r k = true
        · rw [if_pos e, if_pos e, vp_b1, if_neg (by decide), gv_e, gv_e, n_s, n_s]
        · rw [if_neg e, if_neg e, vp_b0, if_pos rfl, gv_e, gv_e, n_s, n_l0, n_ad]
      · rw [gr_s, up_n _ _ hs2]; exact hs s hs2
      · rw [gr_s, up_s]
      · rw [gr_n _ _ (by omega), gr_s]
        by_cases e : j = k
        · rw [e, up_s]
        · rw [up_n _ _ e]; exact hj j (by omega)) ⟨0, c3, by omega, by omega, rfl, f3, fun s hs => by rw [ec3, gr_s, up_n _ _ hs], by rw [ec3, gr_s, up_s]; rfl, fun j hj => by omega⟩ (by omega)
  refine ⟨c2, ?_, h⟩
  unfold m_X0_seekPairs
  rw [gc_1 kb, gv_e, ← ec3, gb_x e]
theorem fp_c {bk n : Nat} {f : Nat → Bool} {c : gm} (kb : gck bk = 0) (hj : ∀ j, j < 190 → c.1 (bk + 4) j = if f j = true then 1 else 0) (hn : 200 < n) : m_X0_firstPair n bk c = some (pFst f 190) := by
  obtain ⟨u, e, h⟩ := gloop_inv (f := fun (y2 : Int32) => m_X0_firstPair_L2 bk c y2) (fun q (y : Int32) => ∃ j, j ≤ 190 ∧ q + j = 190 ∧ y = nI j ∧ ∀ i, i < j → f i = false) (fun (u : Int32 ⊕ Unit) => (∃ j, j < 190 ∧ u = .inl (nI j) ∧ f j = true ∧ ∀ i, i < j → f i = false) ∨ (u = .inr () ∧ ∀ i, i < 190 → f i = false)) (n := n) (r := 190) (a := 0) (by
    rintro q y ⟨j, hj2, hq, rfl, hi⟩
    by_cases hjz : j = 190
    · right
      subst hjz
      refine ⟨.inr (), ?_, Or.inr ⟨rfl, hi⟩⟩
      unfold m_X0_firstPair_L2
      rw [if_pos (show (190 : Int32) ≤ nI 190 by decide)]
    · have es : m_X0_firstPair_L2 bk c (nI j) = if f j = true then some (.inr (.inl (nI j))) else some (.inl (nI (j + 1))) := by
        unfold m_X0_firstPair_L2
        rw [if_neg (by rw [n_l190, n_le (by decide) (by omega)]; omega), gc_1 kb, gc_1 (n_rg (by omega) (by omega)), n_cl (by omega), hj j (by omega), gv_e, n_s]
        by_cases e : f j = true
        · rw [if_pos e, if_pos e, if_neg (by decide)]
        · rw [if_neg e, if_neg e, if_pos rfl]
      by_cases e : f j = true
      · right
        exact ⟨.inl (nI j), by rw [es, if_pos e], Or.inl ⟨j, by omega, rfl, e, hi⟩⟩
      · left
        refine ⟨nI (j + 1), q - 1, by rw [es, if_neg e], by omega, j + 1, by omega, by omega, rfl, fun i hi2 => ?_⟩
        by_cases hij : i = j
        · rw [hij]; exact Bool.eq_false_iff.mpr e
        · exact hi i (by omega)) ⟨0, by omega, by omega, rfl, fun i hi => by omega⟩ (by omega)
  unfold m_X0_firstPair
  rw [gb_x e]
  rcases h with ⟨j, hj3, rfl, h1, h2⟩ | ⟨rfl, h⟩
  · rw [gsm_e1, (pFst_1 h2 h1 190 hj3).1]
  · rw [gsm_e2, pFst_0 h]
theorem pFst_c (f : Nat → Bool) (k : Nat) : (if pCnt f k = 0 then (if f k = true then nI k else pFst f k) else pFst f k) = pFst f (k + 1) := rfl
theorem fits_lp {z th n : Nat} {A B R : Nat → Nat} {r : Nat → Int32} {d : gm} (er : d.1 503 = r) (h8 : th ≤ 8) (hB : gBd z A B R d) (hz : z ≤ 6) (hA : ∀ j, j < z → A j < th ∧ B j < th ∧ R j ≤ 2) (hn : 200 < n) : gloop (gu2 (fun (y13 : Int32) => gu2 (fun (y14 : Int32) (y15 : Int32) => m_X10_fits_L37 n 55 d y13 y14 y15))) n (0, (-1), 0) = some (nI (pCnt (pFb z A B R r) 190), pFst (pFb z A B R r) 190) := by
  rw [show ((0 : Int32), (-1 : Int32), (0 : Int32)) = (fun k => (nI (pCnt (pFb z A B R r) k), pFst (pFb z A B R r) k, nI k)) 0 from rfl]
  refine gloop_run (fun k => (nI (pCnt (pFb z A B R r) k), pFst (pFb z A B R r) k, nI k)) 190 _ ?_ ?_ (by omega)
  · intro k hk
    obtain ⟨e1, e2⟩ := k_10 hk
    have hcb := pCnt_b (pFb z A B R r) k
    show m_X10_fits_L37 n 55 d (nI (pCnt (pFb z A B R r) k)) (pFst (pFb z A B R r) k) (nI k) = _
    unfold m_X10_fits_L37; simp only [gj_e]
    rw [if_neg (by rw [n_l190, n_le (by decide) (by omega)]; omega), e1, e2, gb_x (fi_d er h8 hB hz hA hk (by omega)), pCnt_s, pFst_s]
    by_cases e : pFb z A B R r k = true
    · rw [if_pos e, if_neg (by decide), if_pos e, if_pos e]
      by_cases e3 : pCnt (pFb z A B R r) k = 0
      · rw [if_pos (by rw [e3]; rfl), if_pos e3, gv_e, gu2_e, gv_e, n_s, n_s]
      · rw [if_neg (by rw [n_l0, n_eq (by omega) (by decide)]; exact e3), if_neg e3, gv_e, gu2_e, gv_e, n_s, n_s]
    · rw [if_neg e, if_pos rfl, gu2_e, gv_e, n_s, if_neg e, if_neg e]
      simp
  · show m_X10_fits_L37 n 55 d _ _ (nI 190) = _
    unfold m_X10_fits_L37
    rw [if_pos (show (190 : Int32) ≤ nI 190 by decide)]
