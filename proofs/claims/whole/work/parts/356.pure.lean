set_option maxRecDepth 16384
/-! the greatest common measure -/
theorem lc_0 {a : Nat} (h : a < 9223372036854775808) : (lg_cmp (nL a) (0 : Int64)) = 0 ↔ a = 0 := by
  unfold lg_cmp
  simp only [gt_iff_lt, Int64.lt_iff_toInt_lt, ← Int64.toInt_inj, l_ti h, show (0 : Int64).toInt = 0 from rfl]
  split
  · constructor
    · intro e; exact absurd e (by decide)
    · omega
  · split
    · constructor
      · omega
      · intro _; rfl
    · constructor
      · intro e; exact absurd e (by decide)
      · omega
theorem lc_1 {a : Nat} (h : a < 9223372036854775808) : (lg_cmp (nL a) (1 : Int64)) ≤ 0 ↔ a ≤ 1 := by
  unfold lg_cmp
  simp only [gt_iff_lt, Int64.lt_iff_toInt_lt, ← Int64.toInt_inj, l_ti h, show (1 : Int64).toInt = 1 from rfl]
  split
  · constructor
    · intro e; exact absurd e (by decide)
    · omega
  · split
    · constructor
      · omega
      · intro _; decide
    · constructor
      · omega
      · intro _; decide
theorem l_n0 {a : Nat} (h : a < 9223372036854775808) (h1 : 1 ≤ a) : ¬ nL a = 0 := by
  intro e
  have := l_ti h
  rw [e, show (0 : Int64).toInt = 0 from rfl] at this
  omega
theorem l_mod {a b : Nat} (ha : a < 9223372036854775808) (hb : b < 9223372036854775808) : nL a - nL a / nL b * nL b = nL (a % b) := by
  have h1 : a / b * b ≤ a := Nat.div_mul_le_self a b
  have h2 : a / b ≤ a := Nat.div_le_self a b
  rw [l_div ha hb, l_mul (by omega) (by omega) hb, l_sub h1 ha]
  have h3 := Nat.div_add_mod a b
  rw [Nat.mul_comm] at h3
  rw [show a - a / b * b = a % b by omega]
theorem gloop_c {α β : Type} {f : α → Option (α ⊕ β)} {a a2 : α} {b : β} {n : Nat} (h : f a = some (.inl a2)) (h2 : gloop f n a2 = some b) : gloop f (n + 1) a = some b := by
  unfold gloop
  rw [h]
  exact h2
theorem hf_2 {b c k : Nat} (h : b < 2 ^ (k + 1)) (hc : c < b) (h0 : 0 < c) : b % c < 2 ^ k := by
  have h1 : b % c < c := Nat.mod_lt b h0
  have h2 := Nat.div_add_mod b c
  have h3 : 1 ≤ b / c := Nat.div_pos (by omega) h0
  have h4 : c * 1 ≤ c * (b / c) := Nat.mul_le_mul_left c h3
  rw [Nat.pow_succ] at h
  omega
theorem cm_c : ∀ k a b i n, b < 2 ^ k → a < 9223372036854775808 → b < 9223372036854775808 → i + 2 * k ≤ 199 → 2 * k < n → gloop (gu2 (fun (y2 : Int64) => gu2 (fun (y3 : Int64) (y4 : Int32) => m_X9_commonMeasure_L9 y2 y3 y4))) n (nL a, nL b, nI i) = some (nL (Nat.gcd a b)) := by
  have stop : ∀ a i, i ≤ 199 → m_X9_commonMeasure_L9 (nL a) (nL 0) (nI i) = some (.inr (nL a)) := by
    intro a i hi
    unfold m_X9_commonMeasure_L9
    rw [if_neg (by rw [n_l200, n_le (by omega) (by omega)]; omega), if_pos ((lc_0 (by omega)).2 rfl)]
  have step : ∀ a b i, a < 9223372036854775808 → b < 9223372036854775808 → 1 ≤ b → i ≤ 199 → m_X9_commonMeasure_L9 (nL a) (nL b) (nI i) = some (.inl (nL b, nL (a % b), nI (i + 1))) := by
    intro a b i ha hb h1 hi
    unfold m_X9_commonMeasure_L9
    rw [if_neg (by rw [n_l200, n_le (by omega) (by omega)]; omega), if_neg (by rw [lc_0 hb]; omega), gc_1 (l_n0 hb h1), gv_e, gv_e, l_mod ha hb, n_s]
  intro k
  induction k with
  | zero =>
    intro a b i n hb ha hb2 hi hn
    have : b = 0 := by rw [Nat.pow_zero] at hb; omega
    subst this
    rw [Nat.gcd_zero_right]
    exact gloop_1 (stop a i (by omega)) (by omega)
  | succ k ih =>
    intro a b i n hb ha hb2 hi hn
    by_cases q : b = 0
    · subst q
      rw [Nat.gcd_zero_right]
      exact gloop_1 (stop a i (by omega)) (by omega)
    obtain ⟨n1, rfl⟩ : ∃ n1, n = n1 + 2 := ⟨n - 2, by omega⟩
    have hm : a % b < b := Nat.mod_lt a (by omega)
    rw [Nat.gcd_comm a b, Nat.gcd_rec b a, Nat.gcd_comm (a % b) b]
    refine gloop_c (step a b i ha hb2 (by omega) (by omega)) ?_
    by_cases q2 : a % b = 0
    · rw [q2, Nat.gcd_zero_right]
      exact gloop_1 (stop b (i + 1) (by omega)) (by omega)
    rw [Nat.gcd_comm b (a % b), Nat.gcd_rec (a % b) b, Nat.gcd_comm (b % (a % b)) (a % b)]
    refine gloop_c (step b (a % b) (i + 1) hb2 (by omega) (by omega) (by omega)) ?_
    have h3 : b % (a % b) < a % b := Nat.mod_lt b (by omega)
    exact ih (a % b) (b % (a % b)) (i + 2) n1 (hf_2 hb hm (by omega)) (by omega) (by omega) (by omega) (by omega)
theorem cm_d : ∀ k a b n, b < 2 ^ k → a < 9223372036854775808 → b < 9223372036854775808 → 2 * k < n → gloop (gu2 (fun (y2 : Int64) (y3 : Int64) => m_X10_partOf_L6 y2 y3)) n (nL a, nL b) = some (nL (Nat.gcd a b)) := by
  have stop : ∀ a, m_X10_partOf_L6 (nL a) (nL 0) = some (.inr (nL a)) := by
    intro a
    unfold m_X10_partOf_L6
    rw [if_pos ((lc_0 (by omega)).2 rfl)]
  have step : ∀ a b, a < 9223372036854775808 → b < 9223372036854775808 → 1 ≤ b → m_X10_partOf_L6 (nL a) (nL b) = some (.inl (nL b, nL (a % b))) := by
    intro a b ha hb h1
    unfold m_X10_partOf_L6
    rw [if_neg (by rw [lc_0 hb]; omega), gc_1 (l_n0 hb h1), gv_e, l_mod ha hb]
  intro k
  induction k with
  | zero =>
    intro a b n hb ha hb2 hn
    have : b = 0 := by rw [Nat.pow_zero] at hb; omega
    subst this
    rw [Nat.gcd_zero_right]
    exact gloop_1 (stop a) (by omega)
  | succ k ih =>
    intro a b n hb ha hb2 hn
    by_cases q : b = 0
    · subst q
      rw [Nat.gcd_zero_right]
      exact gloop_1 (stop a) (by omega)
    obtain ⟨n1, rfl⟩ : ∃ n1, n = n1 + 2 := ⟨n - 2, by omega⟩
    have hm : a % b < b := Nat.mod_lt a (by omega)
    rw [Nat.gcd_comm a b, Nat.gcd_rec b a, Nat.gcd_comm (a % b) b]
    refine gloop_c (step a b ha hb2 (by omega)) ?_
    by_cases q2 : a % b = 0
    · rw [q2, Nat.gcd_zero_right]
      exact gloop_1 (stop b) (by omega)
    rw [Nat.gcd_comm b (a % b), Nat.gcd_rec (a % b) b, Nat.gcd_comm (b % (a % b)) (a % b)]
    refine gloop_c (step b (a % b) hb2 (by omega) (by omega)) ?_
    have h3 : b % (a % b) < a % b := Nat.mod_lt b (by omega)
    exact ih (a % b) (b % (a % b)) n1 (hf_2 hb hm (by omega)) (by omega) (by omega) (by omega)
/-- a part of the best worth, in least terms: on both sides the same -/
theorem prt_two {n : Nat} {c d : gm} (h4 : c.2.1 21 4 = d.2.1 55 39) (h5 : c.2.1 21 5 = d.2.1 55 40) (hB : gBu d) (hn : 60 < n) (a : Int32) : ∃ r, m_X1_bestPart n 21 a c = some r ∧ m_X10_partOf n (d.2.1 55 39) (d.2.1 55 40) a = some r := by
  obtain ⟨x, y, e1, e2, hx, hy1, hy⟩ := hB
  have hg : 1 ≤ Nat.gcd x y := Nat.gcd_pos_of_pos_right x hy1
  have hg2 : Nat.gcd x y ≤ y := Nat.gcd_le_right x hy1
  have E1 : m_X9_commonMeasure n (nL x) (nL y) = some (nL (Nat.gcd x y)) := by
    unfold m_X9_commonMeasure
    rw [show gloop (gu2 (fun (y2 : Int64) => gu2 (fun (y3 : Int64) (y4 : Int32) => m_X9_commonMeasure_L9 y2 y3 y4))) n (nL x, nL y, 0) = some (nL (Nat.gcd x y)) from cm_c 26 x y 0 n (by omega) (by omega) (by omega) (by omega) (by omega), gb_e]
    by_cases q : Nat.gcd x y ≤ 1
    · rw [if_pos ((lc_1 (by omega)).2 q), show Nat.gcd x y = 1 by omega]; rfl
    · rw [if_neg (fun e => q ((lc_1 (by omega)).1 e))]
  have E2 : gloop (gu2 (fun (y2 : Int64) (y3 : Int64) => m_X10_partOf_L6 y2 y3)) n (nL y, nL x) = some (nL (Nat.gcd x y)) := by
    rw [Nat.gcd_comm x y]
    exact cm_d 26 y x n (by omega) (by omega) (by omega) (by omega)
  have g0 : ¬ nL (Nat.gcd x y) = 0 := l_n0 (by omega) hg
  unfold m_X1_bestPart m_X10_partOf; simp only [gj_e]
  rw [h4, h5, e1, e2, gb_x E2]
  by_cases q : a = 0
  · refine ⟨nL x / nL (Nat.gcd x y), ?_, ?_⟩
    · rw [if_pos q, gc_1 (show gck 21 = 1 from rfl), gc_1 (show gck 21 = 1 from rfl), gb_x E1, gc_1 g0]
    · rw [if_pos q, gc_1 g0]
  · refine ⟨nL y / nL (Nat.gcd x y), ?_, ?_⟩
    · rw [if_neg q, gc_1 (show gck 21 = 1 from rfl), gc_1 (show gck 21 = 1 from rfl), gb_x E1, gc_1 g0]
    · rw [if_neg q, gc_1 g0]
