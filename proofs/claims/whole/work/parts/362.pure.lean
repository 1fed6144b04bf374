set_option maxRecDepth 16384
/-! sets: those within a set, from above and from below -/
theorem n_an (a b : Nat) : nI a &&& nI b = nI (a &&& b) := by
  unfold nI
  apply Int32.toBitVec_inj.1
  simp only [Int32.toBitVec_and, Int32.toBitVec_ofNat']
  exact (BitVec.ofNat_and (x := a) (y := b)).symm
theorem tb_e (x i : Nat) : Nat.testBit x i = decide (x / 2 ^ i % 2 = 1) := Nat.testBit_eq_decide_div_mod_eq
theorem sub_1 {l u : Nat} (h : l &&& u = l) (i : Nat) (hi : l / 2 ^ i % 2 = 1) : u / 2 ^ i % 2 = 1 := by
  have e : Nat.testBit (l &&& u) i = Nat.testBit l i := by rw [h]
  rw [Nat.testBit_and, tb_e, tb_e, hi] at e
  simpa using e
theorem sub_2 {l u : Nat} (h : ∀ i, l / 2 ^ i % 2 = 1 → u / 2 ^ i % 2 = 1) : l &&& u = l := by
  apply Nat.eq_of_testBit_eq
  intro i
  rw [Nat.testBit_and, tb_e, tb_e]
  by_cases q : l / 2 ^ i % 2 = 1
  · rw [h i q, q]; rfl
  · simp [q]
def ls (x : Nat) : Nat → Nat
  | 0 => 0
  | y + 1 => if (y + 1) &&& x = y + 1 then y + 1 else ls x y
theorem ls_e : ∀ x, x < 256 → ∀ y, y < 255 → (y + 1) &&& x = y + 1 → y &&& x = ls x y := by decide +kernel
theorem ls_b (x : Nat) : ∀ y z, z ≤ y → z &&& x = z → z ≤ ls x y := by
  intro y
  induction y with
  | zero => intro z hz _; show z ≤ 0; exact hz
  | succ y ih =>
    intro z hz h
    show z ≤ (if (y + 1) &&& x = y + 1 then y + 1 else ls x y)
    by_cases q : (y + 1) &&& x = y + 1
    · rw [if_pos q]; exact hz
    · rw [if_neg q]
      refine ih z ?_ h
      by_cases e : z = y + 1
      · rw [e] at h; exact absurd h q
      · omega
/-- the next set within x, from above -/
theorem sw {x y : Nat} (hx : x < 256) (hy : y ≤ x) (h1 : 1 ≤ y) (hs : y &&& x = y) : (y - 1) &&& x < y ∧ ((y - 1) &&& x) &&& x = (y - 1) &&& x ∧ (∀ z, z &&& x = z → z < y → z ≤ (y - 1) &&& x) ∧ (nI y - 1) &&& nI x = nI ((y - 1) &&& x) := by
  obtain ⟨k, rfl⟩ : ∃ k, y = k + 1 := ⟨y - 1, by omega⟩
  rw [show k + 1 - 1 = k by omega]
  refine ⟨?_, ?_, fun z hz hk => ?_, ?_⟩
  · have : k &&& x ≤ k := Nat.and_le_left
    omega
  · rw [Nat.and_assoc, Nat.and_self]
  · rw [ls_e x hx k (by omega) hs]
    exact ls_b x k z (by omega) hz
  · rw [show (1 : Int32) = nI 1 from rfl, n_su (by omega), n_an]
    rfl
theorem cm_1 : ∀ x, x < 256 → nI 255 &&& (nI x ^^^ (-1)) = nI (255 - x) := by decide +kernel
theorem cm_2 : ∀ x, x < 256 → x &&& 255 = x := by decide +kernel
theorem cm_3 {x y : Nat} (hx : x < 256) (hy : y < 256) : nI y &&& (nI x ^^^ (-1)) = nI (y &&& (255 - x)) := by
  rw [show nI y = nI y &&& nI 255 by rw [n_an, cm_2 y hy], Int32.and_assoc, cm_1 x hx, n_an]
theorem cm_4 : ∀ x, x < 256 → ∀ y, y < 256 → (y &&& (255 - x) = 0 ↔ y &&& x = y) := by decide +kernel
theorem cm_5 : ∀ x, x < 256 → ∀ y, y < 256 → y &&& x = y → x &&& (255 - y) = x - y ∧ y ≤ x := by decide +kernel
/-- b is the least of those that hold, by f, then by value -/
def gLv (D : Nat → Prop) (f : Nat → Nat) (b : Nat) : Prop := D b ∧ ∀ z, D z → f b < f z ∨ (f b = f z ∧ b ≤ z)
theorem gLv_u {D : Nat → Prop} {f : Nat → Nat} {b b' : Nat} (h : gLv D f b) (h' : gLv D f b') : b = b' := by
  have a1 := h.2 b' h'.1
  have a2 := h'.2 b h.1
  omega
theorem pSm_d {r : Nat → Int32} {x y : Nat} (hs : ∀ i, y / 2 ^ i % 2 = 1 → x / 2 ^ i % 2 = 1) (hb : ∀ i, (x - y) / 2 ^ i % 2 = (if y / 2 ^ i % 2 = 1 then 0 else x / 2 ^ i % 2)) : ∀ k, pSm r (x - y) k + pSm r y k = pSm r x k := by
  intro k
  induction k with
  | zero => rfl
  | succ k ih =>
    rw [pSm_s, pSm_s, pSm_s, hb k]
    by_cases q : y / 2 ^ k % 2 = 1
    · rw [if_pos q, if_pos q, if_pos (hs k q), if_neg (by omega)]; omega
    · rw [if_neg q, if_neg q]; omega
theorem cm_6 {x y : Nat} (hx : x < 256) (hy : y < 256) (h : y &&& x = y) (i : Nat) : (x - y) / 2 ^ i % 2 = (if y / 2 ^ i % 2 = 1 then 0 else x / 2 ^ i % 2) := by
  rw [← (cm_5 x hx y hy h).1]
  have e : Nat.testBit (x &&& (255 - y)) i = (Nat.testBit x i && Nat.testBit (255 - y) i) := Nat.testBit_and _ _ _
  have e2 : Nat.testBit (255 - y) i = (decide (i < 8) && !Nat.testBit y i) := by
    have := Nat.testBit_two_pow_sub_succ (n := 8) (x := y) (by omega) i
    rw [show 2 ^ 8 - (y + 1) = 255 - y by omega] at this
    exact this
  rw [e2, tb_e, tb_e, tb_e] at e
  have l2 : (x &&& (255 - y)) / 2 ^ i % 2 < 2 := Nat.mod_lt _ (by omega)
  by_cases qi : i < 8
  · by_cases q : y / 2 ^ i % 2 = 1
    · rw [if_pos q]
      rw [q] at e
      have : ¬ (x &&& (255 - y)) / 2 ^ i % 2 = 1 := by
        intro z; rw [z] at e; simp at e
      omega
    · rw [if_neg q]
      have l3 : x / 2 ^ i % 2 < 2 := Nat.mod_lt _ (by omega)
      by_cases q2 : x / 2 ^ i % 2 = 1
      · rw [q2]
        have : (x &&& (255 - y)) / 2 ^ i % 2 = 1 := by
          rw [q2] at e
          simpa [qi, q] using e
        exact this
      · have : ¬ (x &&& (255 - y)) / 2 ^ i % 2 = 1 := by
          intro z; rw [z] at e; simp [q2] at e
        omega
  · have hp : 256 ≤ 2 ^ i := Nat.le_trans (show 256 ≤ 2 ^ 8 by decide) (Nat.pow_le_pow_right (by omega) (by omega))
    have ha : x &&& (255 - y) ≤ x := Nat.and_le_left
    rw [Nat.div_eq_of_lt (show x &&& (255 - y) < 2 ^ i by omega), Nat.div_eq_of_lt (show x < 2 ^ i by omega), Nat.div_eq_of_lt (show y < 2 ^ i by omega)]
    rfl
theorem pSm_x {r : Nat → Int32} {x y : Nat} (hx : x < 256) (hy : y < 256) (h : y &&& x = y) (k : Nat) : pSm r (x - y) k + pSm r y k = pSm r x k := pSm_d (fun i hi => sub_1 h i hi) (cm_6 hx hy h) k
