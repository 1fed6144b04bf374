set_option maxRecDepth 16384
/-! reading a text: both sides at one place -/
def pSc (p : Nat → Bool) (n : Nat) : Nat → Nat → Nat
  | 0, a => a
  | f + 1, a => if a < n ∧ p a = true then pSc p n f (a + 1) else a
def pScan (p : Nat → Bool) (n a : Nat) : Nat := pSc p n (n - a) a
theorem pScan_s {p : Nat → Bool} {n a : Nat} (h : a < n) (hp : p a = true) : pScan p n a = pScan p n (a + 1) := by
  unfold pScan
  rw [show n - a = (n - (a + 1)) + 1 by omega, pSc, if_pos ⟨h, hp⟩]
theorem pScan_e {p : Nat → Bool} {n a : Nat} (h : ¬ (a < n ∧ p a = true)) : pScan p n a = a := by
  unfold pScan
  cases e : n - a with
  | zero => rfl
  | succ k => rw [pSc, if_neg h]
theorem pScan_p {p : Nat → Bool} {n : Nat} : ∀ k a, n - a = k → a ≤ n → a ≤ pScan p n a ∧ pScan p n a ≤ n ∧ ¬ (pScan p n a < n ∧ p (pScan p n a) = true) ∧ ∀ j, a ≤ j → j < pScan p n a → p j = true := by
  intro k
  induction k with
  | zero =>
    intro a h1 h2
    rw [pScan_e (by omega)]
    exact ⟨by omega, h2, by omega, fun j _ _ => by omega⟩
  | succ k ih =>
    intro a h1 h2
    by_cases q : a < n ∧ p a = true
    · obtain ⟨i1, i2, i3, i4⟩ := ih (a + 1) (by omega) (by omega)
      rw [pScan_s q.1 q.2]
      refine ⟨by omega, i2, i3, fun j hj hj2 => ?_⟩
      by_cases e : j = a
      · rw [e]; exact q.2
      · exact i4 j (by omega) hj2
    · rw [pScan_e q]
      exact ⟨by omega, h2, q, fun j _ _ => by omega⟩
theorem pScan_le {p : Nat → Bool} {n a : Nat} (h : a ≤ n) : a ≤ pScan p n a ∧ pScan p n a ≤ n := ⟨(pScan_p _ a rfl h).1, (pScan_p _ a rfl h).2.1⟩
theorem pScan_x {p : Nat → Bool} {n a : Nat} (h : a ≤ n) : ¬ (pScan p n a < n ∧ p (pScan p n a) = true) := (pScan_p _ a rfl h).2.2.1
theorem pScan_m {p : Nat → Bool} {n a j : Nat} (h : a ≤ n) (h1 : a ≤ j) (h2 : j < pScan p n a) : p j = true := (pScan_p _ a rfl h).2.2.2 j h1 h2
def pBl (b : Nat → Nat) (j : Nat) : Bool := decide (b j = 32)
def pDg (b : Nat → Nat) (j : Nat) : Bool := decide (48 ≤ b j ∧ b j ≤ 57)
def pLt (b : Nat → Nat) (j : Nat) : Bool := decide (97 ≤ b j ∧ b j ≤ 122)
def pBt (n : Nat) (b : Nat → Nat) (j : Nat) : Int32 := if j < n then nI (b j) else -1
def gTc (n : Nat) (b : Nat → Nat) (c : gm) : Prop := n ≤ 600 ∧ c.1 1 2 = nI n ∧ ∀ j, j < n → b j < 256 ∧ c.1 2 j = pBy (b j)
def gTd (n : Nat) (b : Nat → Nat) (d : gm) : Prop := n ≤ 600 ∧ d.1 55 2 = nI n ∧ ∀ j, j < n → b j < 256 ∧ d.1 56 j = nI (b j)
theorem by_255 : ∀ x, x < 256 → pBy x &&& 255 = nI x := by decide +kernel
theorem by_32 : ∀ x, x < 256 → (pBy x = 32 ↔ x = 32) := by decide +kernel
theorem bt_c {n j : Nat} {b : Nat → Nat} {c : gm} (h : gTc n b c) (hj : j < 2147483648) : m_X7_byteAt 1 (nI j) c = some (pBt n b j) := by
  obtain ⟨hn, h2, hb⟩ := h
  unfold m_X7_byteAt pBt
  rw [if_neg (by rw [n_l0, n_lt (by omega) (by decide)]; omega), gc_1 (show gck 1 = 7 from rfl), h2]
  by_cases q : j < n
  · rw [if_neg (by rw [n_le (by omega) (by omega)]; omega), if_neg (by rw [n_le (by decide) (by omega)]; omega), gc_1 (n_rg (by omega) (by omega)), n_cl (by omega), if_pos q, (hb j q).2, by_255 _ (hb j q).1]
  · rw [if_pos (by rw [n_le (by omega) (by omega)]; omega), if_neg q]
theorem bt_d {n j : Nat} {b : Nat → Nat} {d : gm} (h : gTd n b d) (hj : j < 2147483648) : m_X10_byteAt 55 (nI j) d = some (pBt n b j) := by
  obtain ⟨hn, h2, hb⟩ := h
  unfold m_X10_byteAt pBt
  rw [gc_1 (show gck 55 = 10 from rfl), h2]
  by_cases q : j < n
  · rw [if_pos (by rw [n_lt (by omega) (by omega)]; omega), gc_1 (n_rg (by omega) (by omega)), n_cl (by omega), if_pos q, (hb j q).2]
  · rw [if_neg (by rw [n_lt (by omega) (by omega)]; omega), if_neg q]
/-- what reading keeps: the class's text but for at, mark, value; the reference but for at -/
def frc (c c2 : gm) : Prop := (∀ i, i ≠ 1 → c2.1 i = c.1 i) ∧ c2.2 = c.2 ∧ ∀ k, k ≠ 3 → k ≠ 4 → k ≠ 5 → c2.1 1 k = c.1 1 k
def frm (d d2 : gm) : Prop := (∀ i, i ≠ 55 → d2.1 i = d.1 i) ∧ d2.2 = d.2 ∧ ∀ k, k ≠ 4 → d2.1 55 k = d.1 55 k
def frcF (c c2 : gm) : Prop := (∀ i, i ≠ 1 → c2.1 i = c.1 i) ∧ c2.2 = c.2 ∧ ∀ k, k < 3 → c2.1 1 k = c.1 1 k
def frmF (d d2 : gm) : Prop := (∀ i, i ≠ 55 → d2.1 i = d.1 i) ∧ d2.2 = d.2 ∧ ∀ k, k ≠ 4 → k ≠ 5 → k ≠ 6 → d2.1 55 k = d.1 55 k
theorem frc_r (c : gm) : frc c c := ⟨fun _ _ => rfl, rfl, fun _ _ _ _ => rfl⟩
theorem frm_r (c : gm) : frm c c := ⟨fun _ _ => rfl, rfl, fun _ _ => rfl⟩
theorem frc_t {a b c : gm} (h : frc a b) (g : frc b c) : frc a c := ⟨fun i hi => (g.1 i hi).trans (h.1 i hi), g.2.1.trans h.2.1, fun k k1 k2 k3 => (g.2.2 k k1 k2 k3).trans (h.2.2 k k1 k2 k3)⟩
theorem frm_t {a b c : gm} (h : frm a b) (g : frm b c) : frm a c := ⟨fun i hi => (g.1 i hi).trans (h.1 i hi), g.2.1.trans h.2.1, fun k k1 => (g.2.2 k k1).trans (h.2.2 k k1)⟩
theorem frc_F {a b : gm} (h : frc a b) : frcF a b := ⟨h.1, h.2.1, fun k k3 => h.2.2 k (by omega) (by omega) (by omega)⟩
theorem frm_F {a b : gm} (h : frm a b) : frmF a b := ⟨h.1, h.2.1, fun k k1 _ _ => h.2.2 k k1⟩
theorem frcF_t {a b c : gm} (h : frcF a b) (g : frcF b c) : frcF a c := ⟨fun i hi => (g.1 i hi).trans (h.1 i hi), g.2.1.trans h.2.1, fun k k1 => (g.2.2 k k1).trans (h.2.2 k k1)⟩
theorem frmF_t {a b c : gm} (h : frmF a b) (g : frmF b c) : frmF a c := ⟨fun i hi => (g.1 i hi).trans (h.1 i hi), g.2.1.trans h.2.1, fun k k1 k2 k3 => (g.2.2 k k1 k2 k3).trans (h.2.2 k k1 k2 k3)⟩
theorem gTc_f {n : Nat} {b : Nat → Nat} {c c2 : gm} (h : gTc n b c) (f : frcF c c2) : gTc n b c2 := ⟨h.1, by rw [f.2.2 2 (by omega)]; exact h.2.1, fun j hj => by rw [f.1 2 (by omega)]; exact h.2.2 j hj⟩
theorem gTd_f {n : Nat} {b : Nat → Nat} {d d2 : gm} (h : gTd n b d) (f : frmF d d2) : gTd n b d2 := ⟨h.1, by rw [f.2.2 2 (by omega) (by omega) (by omega)]; exact h.2.1, fun j hj => by rw [f.1 56 (by omega)]; exact h.2.2 j hj⟩
/-- the class's text moved on -/
def cAt (c : gm) (k : Nat) : gm := gm_r c 1 (upd (c.1 1) 3 (nI k))
def dAt (d : gm) (k : Nat) : gm := gm_r d 55 (upd (d.1 55) 4 (nI k))
theorem cAt_3 (c : gm) (k : Nat) : (cAt c k).1 1 3 = nI k := by unfold cAt; rw [gr_s, up_s]
theorem dAt_4 (d : gm) (k : Nat) : (dAt d k).1 55 4 = nI k := by unfold dAt; rw [gr_s, up_s]
theorem cAt_f (c : gm) (k : Nat) : frc c (cAt c k) := ⟨fun i hi => gr_n _ _ hi, rfl, fun z h3 _ _ => by unfold cAt; rw [gr_s, up_n _ _ h3]⟩
theorem dAt_f (d : gm) (k : Nat) : frm d (dAt d k) := ⟨fun i hi => gr_n _ _ hi, rfl, fun z h4 => by unfold dAt; rw [gr_s, up_n _ _ h4]⟩
theorem cAt_i {c : gm} {k : Nat} (h : c.1 1 3 = nI k) : cAt c k = c := by unfold cAt; rw [← h, up_id, gr_id]
theorem dAt_i {d : gm} {k : Nat} (h : d.1 55 4 = nI k) : dAt d k = d := by unfold dAt; rw [← h, up_id, gr_id]
theorem up_up (f : Nat → Int32) (k : Nat) (x y : Int32) : upd (upd f k x) k y = upd f k y := by
  funext j
  unfold upd
  by_cases h : j = k <;> simp [h]
theorem cAt_a (c : gm) (j k : Nat) : cAt (cAt c j) k = cAt c k := by unfold cAt; rw [gr_s, up_up, gr_r]
theorem dAt_a (d : gm) (j k : Nat) : dAt (dAt d j) k = dAt d k := by unfold dAt; rw [gr_s, up_up, gr_r]
/-- blanks are passed -/
theorem peek_lp {n a N : Nat} {b : Nat → Nat} {c : gm} (hT : gTc n b c) (ha : c.1 1 3 = nI a) (han : a ≤ n) (hN : 700 < N) : gloop (fun (c2 : gm) => m_X7_peek_L0 1 c2) N c = some (cAt c (pScan (pBl b) n a)) := by
  obtain ⟨c2, e, rfl⟩ := gloop_inv (f := fun (c2 : gm) => m_X7_peek_L0 1 c2) (fun r c2 => ∃ k, a ≤ k ∧ k ≤ n ∧ r + k = n ∧ c2 = cAt c k ∧ pScan (pBl b) n k = pScan (pBl b) n a) (fun c2 => c2 = cAt c (pScan (pBl b) n a)) (n := N) (r := n - a) (a := c) (by
    rintro r c2 ⟨k, k1, k2, hr, rfl, hk⟩
    have hT2 := gTc_f hT (frc_F (cAt_f c k))
    obtain ⟨hn, t2, tb⟩ := hT2
    have es : m_X7_peek_L0 1 (cAt c k) = if k < n ∧ pBl b k = true then some (.inl (cAt c (k + 1))) else some (.inr (cAt c k)) := by
      unfold m_X7_peek_L0
      rw [gc_1 (show gck 1 = 7 from rfl), t2, cAt_3]
      by_cases q : k < n
      · rw [if_neg (by rw [n_le (by omega) (by omega)]; omega), if_neg (by rw [n_le (by decide) (by omega)]; omega), gc_1 (n_rg (by omega) (by omega)), n_cl (by omega), show (1 : Nat) + 1 = 2 from rfl, (tb k q).2, n_s, gv_e]
        by_cases q2 : b k = 32
        · rw [if_pos ((by_32 _ (tb k q).1).mpr q2), if_pos ⟨q, decide_eq_true q2⟩]
          show some (Sum.inl (cAt (cAt c k) (k + 1))) = _
          rw [cAt_a]
        · rw [if_neg (fun q3 => q2 ((by_32 _ (tb k q).1).mp q3)), if_neg (fun q3 => q2 (of_decide_eq_true q3.2))]
      · rw [if_pos (by rw [n_le (by omega) (by omega)]; omega), if_neg (fun q3 => q q3.1)]
    by_cases q : k < n ∧ pBl b k = true
    · left
      exact ⟨cAt c (k + 1), r - 1, by rw [es, if_pos q], by omega, k + 1, by omega, by omega, by omega, rfl, by rw [← pScan_s q.1 q.2]; exact hk⟩
    · right
      refine ⟨cAt c k, by rw [es, if_neg q], ?_⟩
      rw [← hk, pScan_e q]) ⟨a, by omega, han, by omega, (cAt_i ha).symm, rfl⟩ (by have := hT.1; omega)
  exact e
def cPk (c : gm) (s : Nat) : gm := gm_r c 1 (upd (upd (c.1 1) 3 (nI s)) 4 (nI s))
theorem cPk_s (c : gm) (s : Nat) : (cPk c s).1 1 3 = nI s ∧ (cPk c s).1 1 4 = nI s := by unfold cPk; rw [gr_s, up_n _ _ (by omega), up_s, up_s]; exact ⟨rfl, rfl⟩
theorem cPk_f (c : gm) (s : Nat) : frc c (cPk c s) := ⟨fun i hi => gr_n _ _ hi, rfl, fun z h3 h4 _ => by unfold cPk; rw [gr_s, up_n _ _ h4, up_n _ _ h3]⟩
theorem peek_c {n a N : Nat} {b : Nat → Nat} {c : gm} (hT : gTc n b c) (ha : c.1 1 3 = nI a) (han : a ≤ n) (hN : 700 < N) : m_X7_peek N 1 c = some (pBt n b (pScan (pBl b) n a), cPk c (pScan (pBl b) n a)) := by
  have hs := pScan_le (p := pBl b) han
  have e := peek_lp hT ha han hN
  generalize pScan (pBl b) n a = s at *
  have ec : gm_r (cAt c s) 1 (upd ((cAt c s).1 1) 4 ((cAt c s).1 1 3)) = cPk c s := by
    unfold cAt cPk
    rw [gr_s, up_s, gr_r]
  obtain ⟨hn, t2, tb⟩ := gTc_f hT (frc_F (cPk_f c s))
  unfold m_X7_peek
  rw [gb_x e, gc_1 (show gck 1 = 7 from rfl), gv_e, ec, t2, (cPk_s c s).1]
  unfold pBt
  by_cases q : s < n
  · rw [if_neg (by rw [n_le (by omega) (by omega)]; omega), if_neg (by rw [n_le (by decide) (by omega)]; omega), gc_1 (n_rg (by omega) (by omega)), n_cl (by omega), show (1 : Nat) + 1 = 2 from rfl, (tb s q).2, by_255 _ (tb s q).1, if_pos q]
  · rw [if_pos (by rw [n_le (by omega) (by omega)]; omega), if_neg q]
theorem blanks_d {n a N : Nat} {b : Nat → Nat} {d : gm} (hT : gTd n b d) (ha : d.1 55 4 = nI a) (han : a ≤ n) (hN : 700 < N) : m_X10_blanks N 55 d = some (dAt d (pScan (pBl b) n a)) := by
  obtain ⟨c2, e, rfl⟩ := gloop_inv (f := fun (c2 : gm) => m_X10_blanks_L0 55 c2) (fun r c2 => ∃ k, a ≤ k ∧ k ≤ n ∧ r + k = n ∧ c2 = dAt d k ∧ pScan (pBl b) n k = pScan (pBl b) n a) (fun c2 => c2 = dAt d (pScan (pBl b) n a)) (n := N) (r := n - a) (a := d) (by
    rintro r c2 ⟨k, k1, k2, hr, rfl, hk⟩
    have hT2 := gTd_f hT (frm_F (dAt_f d k))
    have hn := hT.1
    have es : m_X10_blanks_L0 55 (dAt d k) = if k < n ∧ pBl b k = true then some (.inl (dAt d (k + 1))) else some (.inr (dAt d k)) := by
      unfold m_X10_blanks_L0
      rw [gc_1 (show gck 55 = 10 from rfl), dAt_4, gb_x (bt_d hT2 (by omega)), n_s, gv_e]
      unfold pBt
      by_cases q : k < n
      · rw [if_pos q]
        by_cases q2 : b k = 32
        · rw [if_pos (by rw [q2]; rfl), if_pos ⟨q, decide_eq_true q2⟩]
          show some (Sum.inl (dAt (dAt d k) (k + 1))) = _
          rw [dAt_a]
        · rw [if_neg (by rw [n_l32, n_eq (by have := (hT.2.2 k q).1; omega) (by decide)]; exact q2), if_neg (fun q3 => q2 (of_decide_eq_true q3.2))]
      · rw [if_neg q, if_neg (by decide), if_neg (fun q3 => q q3.1)]
    by_cases q : k < n ∧ pBl b k = true
    · left
      exact ⟨dAt d (k + 1), r - 1, by rw [es, if_pos q], by omega, k + 1, by omega, by omega, by omega, rfl, by rw [← pScan_s q.1 q.2]; exact hk⟩
    · right
      refine ⟨dAt d k, by rw [es, if_neg q], ?_⟩
      rw [← hk, pScan_e q]) ⟨a, by omega, han, by omega, (dAt_i ha).symm, rfl⟩ (by have := hT.1; omega)
  unfold m_X10_blanks
  rw [gb_x e]
/-- both sides at place a, no fault so far -/
def gIn (n : Nat) (b : Nat → Nat) (c d : gm) (a : Nat) : Prop := gTc n b c ∧ gTd n b d ∧ c.1 1 3 = nI a ∧ d.1 55 4 = nI a ∧ a ≤ n ∧ d.1 55 5 = 0
def gOk (n : Nat) (c d c2 d2 : gm) (a2 : Nat) : Prop := frc c c2 ∧ frm d d2 ∧ c2.1 1 3 = nI a2 ∧ d2.1 55 4 = nI a2 ∧ a2 ≤ n
/-- a fault on both sides -/
def gFl (n : Nat) (c2 d2 : gm) : Prop := ∃ k q a2, 1 ≤ k ∧ k ≤ 3 ∧ q ≤ 600 ∧ a2 ≤ n ∧ c2.1 1 6 = nI k ∧ c2.1 1 7 = nI q ∧ d2.1 55 5 = nI k ∧ d2.1 55 6 = nI q ∧ d2.1 55 4 = nI a2
def gNo (n : Nat) (c d c2 d2 : gm) : Prop := frcF c c2 ∧ frmF d d2 ∧ gFl n c2 d2
theorem gIn_o {n a a2 : Nat} {b : Nat → Nat} {c d c2 d2 : gm} (h : gIn n b c d a) (g : gOk n c d c2 d2 a2) : gIn n b c2 d2 a2 := ⟨gTc_f h.1 (frc_F g.1), gTd_f h.2.1 (frm_F g.2.1), g.2.2.1, g.2.2.2.1, g.2.2.2.2, by rw [g.2.1.2.2 5 (by omega)]; exact h.2.2.2.2.2⟩
theorem gOk_t {n a2 a3 : Nat} {c d c2 d2 c3 d3 : gm} (h : gOk n c d c2 d2 a2) (g : gOk n c2 d2 c3 d3 a3) : gOk n c d c3 d3 a3 := ⟨frc_t h.1 g.1, frm_t h.2.1 g.2.1, g.2.2⟩
theorem gNo_t {n a2 : Nat} {c d c2 d2 c3 d3 : gm} (h : gOk n c d c2 d2 a2) (g : gNo n c2 d2 c3 d3) : gNo n c d c3 d3 := ⟨frcF_t (frc_F h.1) g.1, frmF_t (frm_F h.2.1) g.2.1, g.2.2⟩
/-- the fault is written -/
def cFl (c : gm) (k q : Nat) : gm := gm_r c 1 (upd (upd (c.1 1) 6 (nI k)) 7 (nI q))
def dFl (d : gm) (k q : Nat) : gm := gm_r d 55 (upd (upd (d.1 55) 5 (nI k)) 6 (nI q))
theorem fail_c (c : gm) (k q : Nat) : m_X7_fail 1 (nI k) (nI q) c = some (0, cFl c k q) := by
  unfold m_X7_fail cFl
  rw [gc_1 (show gck 1 = 7 from rfl), gv_e, gv_e, gr_s, gr_r]
theorem wrong_d {d : gm} (h : d.1 55 5 = 0) (k q : Nat) : m_X10_wrong 55 (nI k) (nI q) d = some (dFl d k q) := by
  unfold m_X10_wrong dFl
  rw [gc_1 (show gck 55 = 10 from rfl), if_pos h, gv_e, gv_e, gr_s, gr_r]
theorem wrong_f {d : gm} (h : ¬ d.1 55 5 = 0) (x y : Int32) : m_X10_wrong 55 x y d = some d := by
  unfold m_X10_wrong
  rw [gc_1 (show gck 55 = 10 from rfl), if_neg h]
theorem gNo_w {n k q a : Nat} {c d : gm} (hk1 : 1 ≤ k) (hk3 : k ≤ 3) (hq : q ≤ 600) (ha : a ≤ n) (hd : d.1 55 4 = nI a) : gNo n c d (cFl c k q) (dFl d k q) := by
  refine ⟨⟨fun i hi => gr_n _ _ hi, rfl, fun z hz => ?_⟩, ⟨fun i hi => gr_n _ _ hi, rfl, fun z _ h5 h6 => ?_⟩, k, q, a, hk1, hk3, hq, ha, ?_, ?_, ?_, ?_, ?_⟩
  · unfold cFl; rw [gr_s, up_n _ _ (by omega), up_n _ _ (by omega)]
  · unfold dFl; rw [gr_s, up_n _ _ h6, up_n _ _ h5]
  · unfold cFl; rw [gr_s, up_n _ _ (by omega), up_s]
  · unfold cFl; rw [gr_s, up_s]
  · unfold dFl; rw [gr_s, up_n _ _ (by omega), up_s]
  · unfold dFl; rw [gr_s, up_s]
  · unfold dFl; rw [gr_s, up_n _ _ (by omega), up_n _ _ (by omega)]; exact hd
theorem pBt_b {n j : Nat} {b : Nat → Nat} {c : gm} (h : gTc n b c) : pBt n b j = -1 ∨ ∃ x, x < 256 ∧ pBt n b j = nI x := by
  unfold pBt
  by_cases q : j < n
  · rw [if_pos q]; exact Or.inr ⟨b j, (h.2.2 j q).1, rfl⟩
  · rw [if_neg q]; exact Or.inl rfl
/-- a sign, or fault 1 -/
theorem sign_two {n a x N : Nat} {b : Nat → Nat} {c d : gm} (h : gIn n b c d a) (hN : 700 < N) (hx : x < 256) : (∃ c2 d2 a2, a < a2 ∧ m_X7_takeSign N 1 (nI x) c = some (1, c2) ∧ m_X10_sign N 55 (nI x) d = some d2 ∧ gOk n c d c2 d2 a2) ∨ (∃ c2 d2, m_X7_takeSign N 1 (nI x) c = some (0, c2) ∧ m_X10_sign N 55 (nI x) d = some d2 ∧ gNo n c d c2 d2) := by
  obtain ⟨hc, hd, h3, h4, han, h5⟩ := h
  have hn := hc.1
  have hs := pScan_le (p := pBl b) han
  have e1 := peek_c hc h3 han hN
  have e2 := blanks_d hd h4 han hN
  have hd2 := gTd_f hd (frm_F (dAt_f d (pScan (pBl b) n a)))
  have e3 := bt_d (j := pScan (pBl b) n a) hd2 (by omega)
  generalize pScan (pBl b) n a = s at *
  have h52 : (dAt d s).1 55 5 = 0 := by rw [(dAt_f d s).2.2 5 (by omega)]; exact h5
  by_cases q : pBt n b s = nI x
  · left
    have hsn : s < n := by
      rcases Nat.lt_or_ge s n with q2 | q2
      · exact q2
      · exfalso
        unfold pBt at q
        rw [if_neg (by omega), n_nn (by omega)] at q
        exact q
    refine ⟨cAt (cPk c s) (s + 1), dAt (dAt d s) (s + 1), s + 1, by omega, ?_, ?_, frc_t (cPk_f c s) (cAt_f _ _), frm_t (dAt_f d s) (dAt_f _ _), cAt_3 _ _, dAt_4 _ _, by omega⟩
    · unfold m_X7_takeSign
      rw [gc_1 (show gck 1 = 7 from rfl), gb2_x e1, if_pos q, (cPk_s c s).1, n_s, gv_e]
      rfl
    · unfold m_X10_sign
      rw [gc_1 (show gck 55 = 10 from rfl), if_pos h5, gb_x e2, dAt_4, gb_x e3, if_pos q, n_s, gv_e]
      rfl
  · right
    refine ⟨cFl (cPk c s) 1 s, dFl (dAt d s) 1 s, ?_, ?_, ?_⟩
    · unfold m_X7_takeSign
      rw [gc_1 (show gck 1 = 7 from rfl), gb2_x e1, if_neg q, (cPk_s c s).2, n_l1, gb2_x (fail_c _ 1 s), gc_1 (Or.inl rfl)]
    · unfold m_X10_sign
      rw [gc_1 (show gck 55 = 10 from rfl), if_pos h5, gb_x e2, dAt_4, gb_x e3, if_neg q, n_l1, gb_x (wrong_d h52 1 s)]
    · exact gNo_t (c2 := cPk c s) (d2 := dAt d s) (a2 := s) ⟨cPk_f c s, dAt_f d s, (cPk_s c s).1, dAt_4 d s, by omega⟩ (gNo_w (by omega) (by omega) (by omega) hs.2 (dAt_4 d s))
theorem sign_f {N : Nat} {x : Int32} {d : gm} (h : ¬ d.1 55 5 = 0) : m_X10_sign N 55 x d = some d := by
  unfold m_X10_sign
  rw [gc_1 (show gck 55 = 10 from rfl), if_neg h]
