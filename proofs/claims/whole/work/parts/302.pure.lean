set_option maxRecDepth 16384
/-! the market at one time: rho is a row as the reference keeps it; th things, m cries, pl the play -/
def gRow (th m : Nat) (r : Nat → Int32) : Prop := m ≤ 10 ∧ r 56 = nI m ∧ (∀ a, a < th → ∃ w, 1 ≤ w ∧ w ≤ 60 ∧ r a = nI w) ∧ (∀ c, c < m → ∃ a n b k, a < th ∧ b < th ∧ a ≠ b ∧ 1 ≤ n ∧ n ≤ 9 ∧ 1 ≤ k ∧ k ≤ 9 ∧ r (16 + 4 * c) = nI a ∧ r (16 + 4 * c + 1) = nI n ∧ r (16 + 4 * c + 2) = nI b ∧ r (16 + 4 * c + 3) = nI k) ∧ ∃ l, l ≤ 18 ∧ r 57 = nI l
def gSt (t : Nat) (c : gm) (th m : Nat) (pl : Int32) (r : Nat → Int32) : Prop := gck t = 6 ∧ th ≤ 8 ∧ c.1 t 5 = nI th ∧ c.1 t 6 = nI m ∧ c.1 t 7 = r 57 ∧ c.1 t 8 = pl ∧ c.1 t 9 = r 59 ∧ c.1 t 10 = r 58 ∧ (∀ a, a < th → c.1 (t + 2) a = r a) ∧ (∀ a, a < th → c.1 (t + 3) a = r (8 + a)) ∧ ∀ k, k < 4 * m → c.1 (t + 5) k = r (16 + k)
def gMd (d : gm) (th : Nat) (pl : Int32) : Prop := d.1 59 0 = nI th ∧ d.1 59 3 = pl ∧ th ≤ 8
def pW (th : Nat) (r : Nat → Int32) : Int32 := pF (fun k a => a + r k) 0 th
def pHv (th : Nat) (r : Nat → Int32) : Int32 := pF (fun k b => if b = -1 then nI k else if r k ≤ r b.toNatClampNeg then b else nI k) (-1) th
def pNs (m : Nat) (r : Nat → Int32) : Int32 := pF (fun c b => b ||| (if r (r (16 + 4 * c + 2)).toNatClampNeg * r (16 + 4 * c + 3) ≤ r (r (16 + 4 * c)).toNatClampNeg * r (16 + 4 * c + 1) then 0 else (1 : Int32) <<< (nI c &&& 31))) 0 m
def pCo (m : Nat) (r : Nat → Int32) (a : Int32) : Int32 := pF (fun c b => if r (16 + 4 * c) = a ∨ r (16 + 4 * c + 2) = a then b ||| ((1 : Int32) <<< (nI c &&& 31)) else b) 0 m
def pCr (th m : Nat) (r : Nat → Int32) : Int32 := pF (fun a b => b ||| (if pCo m r (nI a) = 0 then 0 else (1 : Int32) <<< (nI a &&& 31))) 0 th
theorem n_cl0 : (0 : Int32).toNatClampNeg = 0 := rfl
theorem pHv_s (k : Nat) (r : Nat → Int32) : pHv (k + 1) r = if pHv k r = -1 then nI k else if r k ≤ r (pHv k r).toNatClampNeg then pHv k r else nI k := rfl
theorem pHv_b (r : Nat → Int32) {th : Nat} : ∀ k, k ≤ th → pHv k r = -1 ∨ ∃ b, b < th ∧ pHv k r = nI b := by
  intro k
  induction k with
  | zero => intro _; exact Or.inl rfl
  | succ k ih =>
    intro hk
    have ih := ih (by omega)
    rw [pHv_s]
    split
    · exact Or.inr ⟨k, by omega, rfl⟩
    · split
      · exact ih
      · exact Or.inr ⟨k, by omega, rfl⟩
theorem pNs_s (c : Nat) (r : Nat → Int32) : pNs (c + 1) r = pNs c r ||| (if r (r (16 + 4 * c + 2)).toNatClampNeg * r (16 + 4 * c + 3) ≤ r (r (16 + 4 * c)).toNatClampNeg * r (16 + 4 * c + 1) then 0 else (1 : Int32) <<< (nI c &&& 31)) := rfl
theorem pCo_s (c : Nat) (r : Nat → Int32) (a : Int32) : pCo (c + 1) r a = if r (16 + 4 * c) = a ∨ r (16 + 4 * c + 2) = a then pCo c r a ||| ((1 : Int32) <<< (nI c &&& 31)) else pCo c r a := rfl
theorem pCr_s (a m : Nat) (r : Nat → Int32) : pCr (a + 1) m r = pCr a m r ||| (if pCo m r (nI a) = 0 then 0 else (1 : Int32) <<< (nI a &&& 31)) := rfl
theorem pW_s (k : Nat) (r : Nat → Int32) : pW (k + 1) r = pW k r + r k := rfl
section S
variable {t th m : Nat} {c d : gm} {pl : Int32} {r : Nat → Int32}
theorem cs_thing (h : gSt t c th m pl r) (x : Int32) : m_X6_isThing t x c = some (if 0 ≤ x ∧ x < nI th then 1 else 0) := by
  obtain ⟨hk, h8, h5, -⟩ := h
  unfold m_X6_isThing
  by_cases h0 : x < 0
  · rw [if_pos h0, if_neg]
    rintro ⟨h1, -⟩
    exact absurd (Int32.lt_of_lt_of_le h0 h1) Int32.lt_irrefl
  · obtain ⟨k, hb, rfl⟩ := n_ex h0
    simp (disch := omega) only [↓reduceIte, gv, gb, gb2, ↓gc, gj, gu2, gsm, gok, gbx, gbw, h5, hk, n_l0, n_l1, n_l2, n_l3, n_l4, n_l5, n_l6, n_l7, n_l8, n_l9, n_l10, n_l11, n_l12, n_l13, n_l14, n_l15, n_l16, n_l18, n_l20, n_l22, n_l24, n_l26, n_l27, n_l30, n_l32, n_l38, n_l40, n_l42, n_l43, n_l45, n_l47, n_l48, n_l56, n_l57, n_l58, n_l59, n_l60, n_l61, n_l80, n_l91, n_l93, n_l96, n_l97, n_l99, n_l100, n_l122, n_l150, n_l160, n_l190, n_l200, n_l255, n_l256, n_l300, n_l480, n_l481, n_l580, n_l600, n_l960, n_l999, n_l1020, n_l1024, n_l3060, n_l9999, n_l100000, n_l1000000, n_ad, n_mu, n_lt, n_le, n_eq, n_ti, n_cl, n_su, n_ne, n_nn, n_ng, if_true, if_false]
    by_cases h1 : th ≤ k
    · simp [h1, show ¬ k < th by omega]
    · simp [h1, show k < th by omega, show ¬ 8 ≤ k by omega]
theorem cs_weight (h : gSt t c th m pl r) {a : Nat} (ha : a < th) : m_X6_weightOf t (nI a) c = some (r a) := by
  obtain ⟨hk, h8, h5, h6, h7, h9, h10, h11, hw, hf, hc⟩ := id h
  unfold m_X6_weightOf
  rw [cs_thing h]
  simp (disch := omega) [↓reduceIte, gv, gb, gb2, ↓gc, gj, gu2, gsm, gok, gbx, gbw, n_l0, n_l1, n_l2, n_l3, n_l4, n_l5, n_l6, n_l7, n_l8, n_l9, n_l10, n_l11, n_l12, n_l13, n_l14, n_l15, n_l16, n_l18, n_l20, n_l22, n_l24, n_l26, n_l27, n_l30, n_l32, n_l38, n_l40, n_l42, n_l43, n_l45, n_l47, n_l48, n_l56, n_l57, n_l58, n_l59, n_l60, n_l61, n_l80, n_l91, n_l93, n_l96, n_l97, n_l99, n_l100, n_l122, n_l150, n_l160, n_l190, n_l200, n_l255, n_l256, n_l300, n_l480, n_l481, n_l580, n_l600, n_l960, n_l999, n_l1020, n_l1024, n_l3060, n_l9999, n_l100000, n_l1000000, n_ad, n_mu, n_lt, n_le, n_eq, n_ti, n_cl, n_su, n_ne, n_nn, n_ng, hk, ha, hw]
  omega
theorem cs_weighed (h : gSt t c th m pl r) {a : Nat} (ha : a < th) : m_X6_weighedOf t (nI a) c = some (r (8 + a)) := by
  obtain ⟨hk, h8, h5, h6, h7, h9, h10, h11, hw, hf, hc⟩ := id h
  unfold m_X6_weighedOf
  rw [cs_thing h]
  simp (disch := omega) [↓reduceIte, gv, gb, gb2, ↓gc, gj, gu2, gsm, gok, gbx, gbw, n_l0, n_l1, n_l2, n_l3, n_l4, n_l5, n_l6, n_l7, n_l8, n_l9, n_l10, n_l11, n_l12, n_l13, n_l14, n_l15, n_l16, n_l18, n_l20, n_l22, n_l24, n_l26, n_l27, n_l30, n_l32, n_l38, n_l40, n_l42, n_l43, n_l45, n_l47, n_l48, n_l56, n_l57, n_l58, n_l59, n_l60, n_l61, n_l80, n_l91, n_l93, n_l96, n_l97, n_l99, n_l100, n_l122, n_l150, n_l160, n_l190, n_l200, n_l255, n_l256, n_l300, n_l480, n_l481, n_l580, n_l600, n_l960, n_l999, n_l1020, n_l1024, n_l3060, n_l9999, n_l100000, n_l1000000, n_ad, n_mu, n_lt, n_le, n_eq, n_ti, n_cl, n_su, n_ne, n_nn, n_ng, hk, ha, hf]
  omega
theorem cs_cry (h : gSt t c th m pl r) (hm : m ≤ 10) {a j : Nat} (ha : a < m) (hj : j < 4) : m_X6_cryPart t (nI a) (nI j) c = some (r (16 + 4 * a + j)) := by
  obtain ⟨hk, h8, h5, h6, h7, h9, h10, h11, hw, hf, hc⟩ := id h
  unfold m_X6_cryPart
  have e := hc (4 * a + j) (by omega)
  simp (disch := omega) only [↓reduceIte, gv, gb, gb2, ↓gc, gj, gu2, gsm, gok, gbx, gbw, n_l0, n_l1, n_l2, n_l3, n_l4, n_l5, n_l6, n_l7, n_l8, n_l9, n_l10, n_l11, n_l12, n_l13, n_l14, n_l15, n_l16, n_l18, n_l20, n_l22, n_l24, n_l26, n_l27, n_l30, n_l32, n_l38, n_l40, n_l42, n_l43, n_l45, n_l47, n_l48, n_l56, n_l57, n_l58, n_l59, n_l60, n_l61, n_l80, n_l91, n_l93, n_l96, n_l97, n_l99, n_l100, n_l122, n_l150, n_l160, n_l190, n_l200, n_l255, n_l256, n_l300, n_l480, n_l481, n_l580, n_l600, n_l960, n_l999, n_l1020, n_l1024, n_l3060, n_l9999, n_l100000, n_l1000000, n_ad, n_mu, n_lt, n_le, n_eq, n_ti, n_cl, n_su, n_ne, n_nn, n_ng, hk, h6, if_true, if_false]
  simp (disch := omega) [show ¬ m ≤ a by omega, show ¬ 10 ≤ a by omega, show ¬ 4 ≤ j by omega, n_l0, n_l1, n_l2, n_l3, n_l4, n_l5, n_l6, n_l7, n_l8, n_l9, n_l10, n_l11, n_l12, n_l13, n_l14, n_l15, n_l16, n_l18, n_l20, n_l22, n_l24, n_l26, n_l27, n_l30, n_l32, n_l38, n_l40, n_l42, n_l43, n_l45, n_l47, n_l48, n_l56, n_l57, n_l58, n_l59, n_l60, n_l61, n_l80, n_l91, n_l93, n_l96, n_l97, n_l99, n_l100, n_l122, n_l150, n_l160, n_l190, n_l200, n_l255, n_l256, n_l300, n_l480, n_l481, n_l580, n_l600, n_l960, n_l999, n_l1020, n_l1024, n_l3060, n_l9999, n_l100000, n_l1000000, n_ad, n_mu, n_lt, n_le, n_eq, n_ti, n_cl, n_su, n_ne, n_nn, n_ng, e, Nat.add_assoc]
  omega
theorem cs_all (h : gSt t c th m pl r) {n : Nat} (hn : 20 < n) : m_X6_weightOfAll n t c = some (pW th r) := by
  obtain ⟨hk, h8, h5, h6, h7, h9, h10, h11, hw, hf, hc⟩ := id h
  unfold m_X6_weightOfAll
  rw [show ((0 : Int32), (0 : Int32)) = (fun k => (pW k r, nI k)) 0 from rfl]
  rw [gloop_run (fun k => (pW k r, nI k)) th (pW th r) ?_ ?_ (by omega)]
  · rfl
  · intro k hk2
    simp (disch := omega) only [m_X6_weightOfAll_L4, ↓reduceIte, gv, gb, gb2, ↓gc, gj, gu2, gsm, gok, gbx, gbw, hk, h5, n_le, n_s, cs_weight h hk2, if_true, show ¬ th ≤ k by omega, if_false, pW_s]
  · simp (disch := omega) only [m_X6_weightOfAll_L4, ↓reduceIte, gv, gb, gb2, ↓gc, gj, gu2, gsm, gok, gbx, gbw, hk, h5, n_le, if_true, Nat.le_refl]
theorem cs_heavy (h : gSt t c th m pl r) {n : Nat} (hn : 20 < n) : m_X6_heaviestThing n t c = some (pHv th r) := by
  obtain ⟨hk, h8, h5, h6, h7, h9, h10, h11, hw, hf, hc⟩ := id h
  unfold m_X6_heaviestThing
  rw [show ((-1 : Int32), (0 : Int32)) = (fun k => (pHv k r, nI k)) 0 from rfl]
  rw [gloop_run (fun k => (pHv k r, nI k)) th (pHv th r) ?_ ?_ (by omega)]
  · rfl
  · intro k hk2
    rw [pHv_s]
    rcases pHv_b r (th := th) k (by omega) with e | ⟨b, hbt, e⟩
    · simp (disch := omega) only [m_X6_heaviestThing_L4, ↓reduceIte, gv, gb, gb2, ↓gc, gj, gu2, gsm, gok, gbx, gbw, hk, h5, n_s, n_le, if_true, show ¬ th ≤ k by omega, if_false, e]
    · simp (disch := omega) only [m_X6_heaviestThing_L4, ↓reduceIte, gv, gb, gb2, ↓gc, gj, gu2, gsm, gok, gbx, gbw, hk, h5, n_s, n_le, n_ne, cs_weight h hk2, if_true, show ¬ th ≤ k by omega, if_false, e, cs_weight h hbt, n_cl]
      by_cases q : r k ≤ r b
      · simp only [if_pos q]
      · simp only [if_neg q]
  · simp (disch := omega) only [m_X6_heaviestThing_L4, ↓reduceIte, gv, gb, gb2, ↓gc, gj, gu2, gsm, gok, gbx, gbw, hk, h5, n_le, if_true, Nat.le_refl]
theorem cs_notSo (h : gSt t c th m pl r) (hr : gRow th m r) {n : Nat} (hn : 20 < n) : m_X6_criesNotSo n t c = some (pNs m r) := by
  obtain ⟨hk, h8, h5, h6, h7, h9, h10, h11, hw, hf, hc⟩ := id h
  obtain ⟨hm, h56, -, hcr, -⟩ := hr
  unfold m_X6_criesNotSo
  rw [show ((0 : Int32), (0 : Int32)) = (fun k => (pNs k r, nI k)) 0 from rfl]
  rw [gloop_run (fun k => (pNs k r, nI k)) m (pNs m r) ?_ ?_ (by omega)]
  · rfl
  · intro k hk2
    obtain ⟨a, nn, b, kk, ha, hb, -, -, -, -, -, ea, en, eb, ek⟩ := hcr k hk2
    have c0 := cs_cry h hm hk2 (j := 0) (by omega)
    have c1' : m_X6_cryPart t (nI k) 1 c = some (r (16 + 4 * k + 1)) := cs_cry h hm hk2 (j := 1) (by omega)
    have c2 := cs_cry h hm hk2 (j := 2) (by omega)
    have c3 := cs_cry h hm hk2 (j := 3) (by omega)
    rw [Nat.add_zero] at c0
    rw [pNs_s]
    rw [ea] at c0
    rw [eb] at c2
    simp (disch := omega) only [m_X6_criesNotSo_L4, ↓reduceIte, gv, gb, gb2, ↓gc, gj, gu2, gsm, gok, gbx, gbw, hk, h6, n_l0, n_l2, n_l3, n_s, n_le, if_true, show ¬ m ≤ k by omega, if_false, c0, c1', c2, c3, ea, eb, n_cl, cs_weight h ha, cs_weight h hb]
    by_cases q : r b * r (16 + 4 * k + 3) ≤ r a * r (16 + 4 * k + 1)
    · simp only [if_pos q]
    · simp only [if_neg q]
  · simp (disch := omega) only [m_X6_criesNotSo_L4, ↓reduceIte, gv, gb, gb2, ↓gc, gj, gu2, gsm, gok, gbx, gbw, hk, h6, n_le, if_true, Nat.le_refl]
theorem cs_with (h : gSt t c th m pl r) (hm : m ≤ 10) (x : Int32) {n : Nat} (hn : 20 < n) : m_X6_criesWith n t x c = some (pCo m r x) := by
  obtain ⟨hk, h8, h5, h6, h7, h9, h10, h11, hw, hf, hc⟩ := id h
  unfold m_X6_criesWith
  rw [show ((0 : Int32), (0 : Int32)) = (fun k => (pCo k r x, nI k)) 0 from rfl]
  rw [gloop_run (fun k => (pCo k r x, nI k)) m (pCo m r x) ?_ ?_ (by omega)]
  · rfl
  · intro k hk2
    have c0 := hc (4 * k) (by omega)
    have c2 := hc (4 * k + 2) (by omega)
    rw [← Nat.add_assoc] at c2
    rw [pCo_s]
    generalize pCo k r x = z
    simp (disch := omega) only [m_X6_criesWith_L4, ↓reduceIte, gv, gb, gb2, ↓gc, gj, gu2, gsm, gok, gbx, gbw, hk, h6, n_l0, n_l2, n_l4, n_l10, n_s, n_ad, n_mu, n_le, if_true, show ¬ m ≤ k by omega, show ¬ 10 ≤ k by omega, if_false, c0, c2, n_cl, n_ti, Nat.add_zero]
    rw [if_pos (by omega)]
    by_cases e0 : r (16 + 4 * k) = x
    · simp only [e0, if_true, true_or]
    · by_cases e2 : r (16 + 4 * k + 2) = x
      · simp (disch := omega) only [e0, e2, if_true, if_false, or_true]
        rw [if_pos (by omega)]
      · simp (disch := omega) only [e0, e2, if_true, if_false, or_false]
        rw [if_pos (by omega)]
  · simp (disch := omega) only [m_X6_criesWith_L4, ↓reduceIte, gv, gb, gb2, ↓gc, gj, gu2, gsm, gok, gbx, gbw, hk, h6, n_le, if_true, Nat.le_refl]
theorem cs_standing (a b x y : Int32) : m_X6_standing a b x y = some (if ((a + x) - 9) - b ≤ y then (if (-(((a + x) - 9) - b)) ≤ y then 0 else 2) else 1) := by
  unfold m_X6_standing
  simp only [gv]
  by_cases q : a + x - 9 - b ≤ y
  · simp only [if_pos q]
    by_cases q2 : -(a + x - 9 - b) ≤ y
    · simp only [if_pos q2]
    · simp only [if_neg q2]
  · simp only [if_neg q]
theorem md_standing (a b x y : Int32) : m_X10_standsBy a b x y = m_X6_standing a b x y := rfl
def pSt (a b x y : Int32) : Int32 := if ((a + x) - 9) - b ≤ y then (if (-(((a + x) - 9) - b)) ≤ y then 0 else 2) else 1
theorem cs_standsOf (h : gSt t c th m pl r) {a b : Nat} (ha : a < th) (hb : b < th) (x y : Int32) : m_X6_standingOf t (nI a) x (nI b) y c = some (pSt (r a * x) (r b * y) (r 57) pl) := by
  obtain ⟨hk, h8, h5, h6, h7, h9, h10, h11, hw, hf, hc⟩ := id h
  unfold m_X6_standingOf
  simp only [gc, gb, hk, if_true, cs_weight h ha, cs_weight h hb, h7, h9, cs_standing, pSt]
end S
section M
variable {t th m a1 : Nat} {c d : gm} {pl : Int32}
theorem md_all (h : gMd d th pl) (hk : gck a1 = 22) (hl : gal a1 = 60) {n : Nat} (hn : 20 < n) : m_X10_weightIn n 55 a1 d = some (pW th (d.1 a1)) := by
  obtain ⟨h0, h3, h8⟩ := h
  unfold m_X10_weightIn
  rw [show ((0 : Int32), (0 : Int32)) = (fun k => (pW k (d.1 a1), nI k)) 0 from rfl]
  rw [gloop_run (fun k => (pW k (d.1 a1), nI k)) th (pW th (d.1 a1)) ?_ ?_ (by omega)]
  · rfl
  · intro k hk2
    rw [pW_s]
    simp (disch := omega) only [m_X10_weightIn_L4, ↓reduceIte, gv, gb, gb2, ↓gc, gj, gu2, gsm, gok, gbx, gbw, show gck 55 = 10 from rfl, hk, hl, n_l0, n_s, n_ad, n_le, n_ti, n_cl, h0, if_true, show ¬ th ≤ k by omega, if_false, Nat.zero_add]
    rw [if_pos (by omega)]
  · simp (disch := omega) only [m_X10_weightIn_L4, ↓reduceIte, gv, gb, gb2, ↓gc, gj, gu2, gsm, gok, gbx, gbw, show gck 55 = 10 from rfl, n_l0, h0, n_cl, n_le, if_true, Nat.le_refl]
theorem md_heavy (h : gMd d th pl) (hk : gck a1 = 22) (hl : gal a1 = 60) {n : Nat} (hn : 20 < n) : m_X10_heaviestIn n 55 a1 d = some (pHv th (d.1 a1)) := by
  obtain ⟨h0, h3, h8⟩ := h
  unfold m_X10_heaviestIn
  rw [show ((-1 : Int32), (0 : Int32)) = (fun k => (pHv k (d.1 a1), nI k)) 0 from rfl]
  rw [gloop_run (fun k => (pHv k (d.1 a1), nI k)) th (pHv th (d.1 a1)) ?_ ?_ (by omega)]
  · rfl
  · intro k hk2
    rw [pHv_s]
    rcases pHv_b (d.1 a1) (th := th) k (by omega) with e | ⟨b, hbt, e⟩
    · simp (disch := omega) only [m_X10_heaviestIn_L4, ↓reduceIte, gv, gb, gb2, ↓gc, gj, gu2, gsm, gok, gbx, gbw, show gck 55 = 10 from rfl, h0, n_l0, n_s, n_le, n_cl, if_true, show ¬ th ≤ k by omega, if_false, e]
    · simp (disch := omega) only [m_X10_heaviestIn_L4, ↓reduceIte, gv, gb, gb2, ↓gc, gj, gu2, gsm, gok, gbx, gbw, show gck 55 = 10 from rfl, hk, hl, h0, n_l0, n_s, n_ad, n_le, n_ne, n_ti, if_true, show ¬ th ≤ k by omega, if_false, e, n_cl, Nat.zero_add]
      rw [if_pos (by omega), if_pos (by omega)]
      by_cases q : d.1 a1 k ≤ d.1 a1 b
      · simp only [if_pos q]
      · simp only [if_neg q]
  · simp (disch := omega) only [m_X10_heaviestIn_L4, ↓reduceIte, gv, gb, gb2, ↓gc, gj, gu2, gsm, gok, gbx, gbw, show gck 55 = 10 from rfl, h0, n_l0, n_le, n_cl, if_true, Nat.le_refl]
theorem md_notSo {r : Nat → Int32} (er : d.1 a1 = r) (hr : gRow th m r) (h8 : th ≤ 8) (hk : gck a1 = 22) (hl : gal a1 = 60) {n : Nat} (hn : 20 < n) : m_X10_notSo n a1 d = some (pNs m r) := by
  obtain ⟨hm, h56, -, hcr, -⟩ := hr
  unfold m_X10_notSo
  rw [show ((0 : Int32), (0 : Int32)) = (fun k => (pNs k r, nI k)) 0 from rfl]
  rw [gloop_run (fun k => (pNs k r, nI k)) m (pNs m r) ?_ ?_ (by omega)]
  · rfl
  · intro k hk2
    obtain ⟨a, nn, b, kk, ha, hb, -, -, -, -, -, ea, en, eb, ek⟩ := hcr k hk2
    rw [pNs_s]
    generalize pNs k r = z
    simp (disch := omega) only [m_X10_notSo_L4, ↓reduceIte, gv, gb, gb2, ↓gc, gj, gu2, gsm, gok, gbx, gbw, hk, hl, er, h56, n_l0, n_l2, n_l3, n_l4, n_l16, n_l56, n_ad, n_s, n_mu, n_le, n_ti, n_cl, if_true, show ¬ m ≤ k by omega, if_false, ea, eb, Nat.zero_add]
    rw [if_pos (by omega), if_pos (by omega), if_pos (by omega), if_pos (by omega), if_pos (by omega), if_pos (by omega), if_pos (by omega)]
    by_cases q : r b * r (16 + 4 * k + 3) ≤ r a * r (16 + 4 * k + 1)
    · simp only [if_pos q]
    · simp only [if_neg q]
  · simp (disch := omega) only [m_X10_notSo_L4, ↓reduceIte, gv, gb, gb2, ↓gc, gj, gu2, gsm, gok, gbx, gbw, hk, hl, er, h56, n_l0, n_l56, n_cl, n_ti, n_le, if_true, Nat.le_refl]
    rw [if_pos (by omega)]
theorem md_with {r : Nat → Int32} (er : d.1 a1 = r) (h56 : r 56 = nI m) (hm : m ≤ 10) (x : Int32) (hk : gck a1 = 22) (hl : gal a1 = 60) {n : Nat} (hn : 20 < n) : m_X10_criesOf n a1 x d = some (pCo m r x) := by
  unfold m_X10_criesOf
  rw [show ((0 : Int32), (0 : Int32)) = (fun k => (pCo k r x, nI k)) 0 from rfl]
  rw [gloop_run (fun k => (pCo k r x, nI k)) m (pCo m r x) ?_ ?_ (by omega)]
  · rfl
  · intro k hk2
    rw [pCo_s]
    generalize pCo k r x = z
    simp (disch := omega) only [m_X10_criesOf_L4, ↓reduceIte, gv, gb, gb2, ↓gc, gj, gu2, gsm, gok, gbx, gbw, hk, hl, er, h56, n_l2, n_l4, n_l16, n_l56, n_ad, n_s, n_mu, n_le, n_ti, n_cl, if_true, show ¬ m ≤ k by omega, if_false]
    rw [if_pos (by omega), if_pos (by omega)]
    by_cases e0 : r (16 + 4 * k) = x
    · simp only [e0, if_true, true_or]
    · by_cases e2 : r (16 + 4 * k + 2) = x
      · simp (disch := omega) only [e0, e2, if_true, if_false, or_true]
        rw [if_pos (by omega)]
      · simp (disch := omega) only [e0, e2, if_true, if_false, or_false]
        rw [if_pos (by omega), Int32.or_zero]
  · simp (disch := omega) only [m_X10_criesOf_L4, ↓reduceIte, gv, gb, gb2, ↓gc, gj, gu2, gsm, gok, gbx, gbw, hk, hl, er, h56, n_l0, n_l56, n_cl, n_ti, n_le, if_true, Nat.le_refl]
    rw [if_pos (by omega)]
theorem md_cried {r : Nat → Int32} (h : gMd d th pl) (er : d.1 a1 = r) (h56 : r 56 = nI m) (hm : m ≤ 10) (hk : gck a1 = 22) (hl : gal a1 = 60) {n : Nat} (hn : 20 < n) : m_X10_criedIn n 55 a1 d = some (pCr th m r) := by
  obtain ⟨h0, h3, h8⟩ := h
  unfold m_X10_criedIn
  rw [show ((0 : Int32), (0 : Int32)) = (fun k => (pCr k m r, nI k)) 0 from rfl]
  rw [gloop_run (fun k => (pCr k m r, nI k)) th (pCr th m r) ?_ ?_ (by omega)]
  · rfl
  · intro k hk2
    rw [pCr_s]
    have ew := md_with er h56 hm (nI k) hk hl hn
    generalize pCr k m r = z
    generalize pCo m r (nI k) = y at ew
    simp (disch := omega) only [m_X10_criedIn_L4, ↓reduceIte, gv, gb, gb2, ↓gc, gj, gu2, gsm, gok, gbx, gbw, show gck 55 = 10 from rfl, h0, ew, n_s, n_le, n_cl0, if_true, show ¬ th ≤ k by omega, if_false]
    by_cases q : y = 0
    · simp only [if_pos q]
    · simp only [if_neg q]
  · simp (disch := omega) only [m_X10_criedIn_L4, ↓reduceIte, gv, gb, gb2, ↓gc, gj, gu2, gsm, gok, gbx, gbw, show gck 55 = 10 from rfl, h0, n_l0, n_l56, n_cl, n_ti, n_le, if_true, Nat.le_refl]
theorem md_standsIn (h : gMd d th pl) (hk : gck a1 = 22) (hl : gal a1 = 60) {a b : Nat} (ha : a < th) (hb : b < th) (x y : Int32) : m_X10_standsIn 55 a1 (nI a) x (nI b) y d = some (pSt (d.1 a1 a * x) (d.1 a1 b * y) (d.1 a1 57) pl) := by
  obtain ⟨h0, h3, h8⟩ := h
  unfold m_X10_standsIn
  simp (disch := omega) only [↓reduceIte, gv, gb, gb2, ↓gc, gj, gu2, gsm, gok, gbx, gbw, show gck 55 = 10 from rfl, hk, hl, n_l0, n_l3, n_l57, n_ad, n_ti, n_cl, Nat.zero_add, h3, md_standing, cs_standing, pSt, if_true]
  rw [if_pos (by omega), if_pos (by omega), if_pos (by omega)]
end M
