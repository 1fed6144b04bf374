set_option maxRecDepth 16384
/-! rings: how many there can be -/
def dg (r : Nat → Int32) (v : Nat) : Nat → Nat
  | 0 => 0
  | i + 1 => dg r v i + (if r (16 + 4 * i) = nI v then 1 else 0)
def eU (r : Nat → Int32) (m S : Nat) : Nat → Nat
  | 0 => 0
  | k + 1 => eU r m S k + (if S / 2 ^ k % 2 = 0 then dg r k m else 0)
theorem dg_s (r : Nat → Int32) (v i : Nat) : dg r v (i + 1) = dg r v i + (if r (16 + 4 * i) = nI v then 1 else 0) := rfl
theorem dg_le (r : Nat → Int32) (v : Nat) : ∀ {i j : Nat}, i ≤ j → dg r v i ≤ dg r v j := by
  intro i j h
  induction j with
  | zero => rw [show i = 0 by omega]; exact Nat.le_refl _
  | succ j ih =>
    by_cases q : i = j + 1
    · rw [q]; exact Nat.le_refl _
    · exact Nat.le_trans (ih (by omega)) (by rw [dg_s]; omega)
theorem un_5 : ∀ S, S < 256 → ∀ a, a < 8 → S / 2 ^ a % 2 = 0 → (S + 2 ^ a) / 2 ^ a % 2 = 1 := by decide +kernel
theorem eU_c {r : Nat → Int32} {m S a : Nat} (hS : S < 256) (ha : a < 8) (h0 : S / 2 ^ a % 2 = 0) : ∀ k, k ≤ 8 → eU r m (S + 2 ^ a) k + (if a < k then dg r a m else 0) = eU r m S k := by
  intro k
  induction k with
  | zero => intro _; rfl
  | succ k ih =>
    intro hk
    have ih := ih (by omega)
    show eU r m (S + 2 ^ a) k + (if (S + 2 ^ a) / 2 ^ k % 2 = 0 then dg r k m else 0) + (if a < k + 1 then dg r a m else 0) = eU r m S k + (if S / 2 ^ k % 2 = 0 then dg r k m else 0)
    by_cases q : k = a
    · subst q
      rw [if_neg (show ¬ k < k by omega)] at ih
      rw [if_pos h0, if_pos (show k < k + 1 by omega), un_5 S hS k (by omega) h0, if_neg (by omega)]
      omega
    · rw [(un_3 S hS a ha h0 k (by omega)).resolve_left q]
      by_cases q2 : a < k
      · rw [if_pos q2] at ih
        rw [if_pos (show a < k + 1 by omega)]
        omega
      · rw [if_neg q2] at ih
        rw [if_neg (show ¬ a < k + 1 by omega)]
        omega
theorem eU_1 {r : Nat → Int32} {m S a th : Nat} (hS : S < 256) (h8 : th ≤ 8) (ha : a < th) (h0 : S / 2 ^ a % 2 = 0) : eU r m (S + 2 ^ a) th + dg r a m = eU r m S th := by
  have := eU_c (r := r) (m := m) hS (by omega) h0 th h8
  rw [if_pos ha] at this
  exact this
theorem dg_p (d : Nat) : d + 1 ≤ 2 ^ d := Nat.lt_two_pow_self
theorem eU_p {r : Nat → Int32} {m S a th : Nat} (hS : S < 256) (h8 : th ≤ 8) (ha : a < th) (h0 : S / 2 ^ a % 2 = 0) : (dg r a m + 1) * 2 ^ eU r m (S + 2 ^ a) th ≤ 2 ^ eU r m S th := by
  rw [← eU_1 hS h8 ha h0, Nat.add_comm (eU r m (S + 2 ^ a) th), Nat.pow_add]
  exact Nat.mul_le_mul_right _ (dg_p _)
/-- the sum over all things is at most the number of cries -/
def dS (r : Nat → Int32) (i : Nat) : Nat → Nat
  | 0 => 0
  | k + 1 => dS r i k + dg r k i
theorem eU_0 (r : Nat → Int32) (m : Nat) : ∀ k, eU r m 0 k = dS r m k := by
  intro k
  induction k with
  | zero => rfl
  | succ k ih =>
    show eU r m 0 k + (if 0 / 2 ^ k % 2 = 0 then dg r k m else 0) = dS r m k + dg r k m
    rw [ih, Nat.zero_div, if_pos rfl]
theorem dS_0 (r : Nat → Int32) : ∀ k, dS r 0 k = 0 := by
  intro k
  induction k with
  | zero => rfl
  | succ k ih => show dS r 0 k + 0 = 0; rw [ih]
theorem dS_s {r : Nat → Int32} {i a : Nat} (ha : a < 256) (h : r (16 + 4 * i) = nI a) : ∀ k, k ≤ 256 → dS r (i + 1) k = dS r i k + (if a < k then 1 else 0) := by
  intro k
  induction k with
  | zero => intro _; rfl
  | succ k ih =>
    intro hk
    have ih := ih (by omega)
    show dS r (i + 1) k + (dg r k i + (if r (16 + 4 * i) = nI k then 1 else 0)) = dS r i k + dg r k i + (if a < k + 1 then 1 else 0)
    rw [ih, h]
    by_cases q : a = k
    · subst q
      rw [if_pos rfl, if_neg (by omega), if_pos (by omega)]; omega
    · rw [if_neg (show ¬ nI a = nI k by rw [n_eq (by omega) (by omega)]; exact q)]
      by_cases q2 : a < k
      · rw [if_pos q2, if_pos (by omega)]; omega
      · rw [if_neg q2, if_neg (by omega)]; omega
theorem dS_le {r : Nat → Int32} {th m : Nat} (hR : gRow th m r) (h8 : th ≤ 8) : ∀ i, i ≤ m → dS r i th ≤ i := by
  intro i
  induction i with
  | zero => intro _; rw [dS_0]; exact Nat.le_refl _
  | succ i ih =>
    intro hi
    obtain ⟨a', n', b', x', ha, hb, hab, n1, n9, x1, x9, v0, -⟩ := hR.2.2.2.1 i (by omega)
    have := ih (by omega)
    rw [dS_s (a := a') (by omega) v0 th (by omega), if_pos ha]
    omega
/-! rings: noting one -/
theorem on_1 : ∀ y, y < 1024 → ∀ i, i < 10 → Nat.testBit y i = false → nI y ||| ((1 : Int32) <<< (nI i &&& 31)) = nI (y ||| 2 ^ i) ∧ pOn (y ||| 2 ^ i) = pOn y + 1 ∧ 1 ≤ (y ||| 2 ^ i) := by decide +kernel
theorem or_lt {y i m : Nat} (hy : y < 2 ^ m) (hi : i < m) : y ||| 2 ^ i < 2 ^ m := Nat.or_lt_two_pow hy (Nat.pow_lt_pow_right (by omega) hi)
theorem or_bit {y i j : Nat} (h : Nat.testBit (y ||| 2 ^ i) j = true) : j = i ∨ Nat.testBit y j = true := by
  rw [Nat.testBit_or, Nat.testBit_two_pow] at h
  by_cases q : i = j
  · exact Or.inl q.symm
  · right
    simpa [q] using h
theorem m_2 {m : Nat} (h : m ≤ 10) : 2 ^ m ≤ 1024 := Nat.le_trans (Nat.pow_le_pow_right (by omega) h) (by decide)
def gFs (F m : Nat) (c d : gm) : Prop := (∀ j, j < F → ∃ y, 1 ≤ y ∧ y < 2 ^ m ∧ c.1 22 j = nI y ∧ d.1 527 y = 1) ∧ ∀ y, y < 1024 → d.1 527 y = 0 ∨ (d.1 527 y = 1 ∧ ∃ j, j < F ∧ c.1 22 j = nI y)
def gRw (F m g : Nat) (c d : gm) : Prop := c.1 21 1 = nI F ∧ c.1 21 3 = nI g ∧ c.2.1 21 4 = d.2.1 55 39 ∧ c.2.1 21 5 = d.2.1 55 40 ∧ gBu d ∧ c.1 21 2 = d.1 55 42 ∧ gFs F m c d
def gRf (c d c2 d2 : gm) : Prop := (∀ i, i ≠ 21 → i ≠ 22 → c2.1 i = c.1 i) ∧ c2.2.2 = c.2.2 ∧ (∀ i, i ≠ 55 → i ≠ 527 → d2.1 i = d.1 i) ∧ (∀ k, k ≠ 42 → d2.1 55 k = d.1 55 k) ∧ d2.2.2 = d.2.2
theorem gRf_r (c d : gm) : gRf c d c d := ⟨fun _ _ _ => rfl, rfl, fun _ _ _ => rfl, fun _ _ => rfl, rfl⟩
theorem gRf_t {c d c2 d2 c3 d3 : gm} (h : gRf c d c2 d2) (g : gRf c2 d2 c3 d3) : gRf c d c3 d3 := ⟨fun i h1 h2 => (g.1 i h1 h2).trans (h.1 i h1 h2), g.2.1.trans h.2.1, fun i h1 h2 => (g.2.2.1 i h1 h2).trans (h.2.2.1 i h1 h2), fun k hk => (g.2.2.2.1 k hk).trans (h.2.2.2.1 k hk), g.2.2.2.2.trans h.2.2.2.2⟩
theorem min_le (x y : Int32) : (if x < y then x else y) = (if x ≤ y then x else y) := by
  by_cases q : x < y
  · rw [if_pos q, if_pos (Int32.le_of_lt q)]
  · rw [if_neg q]
    by_cases q2 : x ≤ y
    · rw [if_pos q2]; exact Int32.le_antisymm (Int32.not_lt.mp q) q2
    · rw [if_neg q2]
/-- a ring closed: on both sides noted alike -/
theorem ring_two {F m g a b mask i N : Nat} {u v : Int64} {c d : gm} (h : gRw F m g c d) (hu : u = nL a) (hv : v = nL b) (ha : a ≤ 43046721) (hb1 : 1 ≤ b) (hb : b ≤ 43046721) (hm : m ≤ 10) (hF : F < 1024) (hi : i < m) (hk : mask < 2 ^ m) (hk0 : Nat.testBit mask i = false) (hN : 20 < N) : ∃ c2 d2 F2, F2 ≤ F + 1 ∧ m_X1_arrive 21 (nI mask ||| ((1 : Int32) <<< (nI i &&& 31))) u v c = some c2 ∧ (∀ {β : Type} (K : gm → Option β), gb (m_X10_keeps 55 u v d) (fun (c29 : gm) => (if 0 < (lg_cmp u v) then gc (0 ≤ (nI mask ||| ((1 : Int32) <<< (nI i &&& 31))).toInt ∧ (nI mask ||| ((1 : Int32) <<< (nI i &&& 31))).toInt < 1024) (gv (gm_r c29 527 (upd (c29.1 527) (nI mask ||| ((1 : Int32) <<< (nI i &&& 31))).toNatClampNeg (vp_nar .boolean 1))) (fun (c35 : gm) => (if (c35.1 55 42) = (-1) then gb (m_X10_ones N (nI mask)) (fun (r45 : Int32) => gv (gm_r c35 55 (upd (c35.1 55) 42 (r45 + 1))) (fun (c38 : gm) => K c38)) else gb (m_X10_ones N (nI mask)) (fun (r41 : Int32) => gb (m_X10_less (c35.1 55 42) (r41 + 1)) (fun (r43 : Int32) => gv (gm_r c35 55 (upd (c35.1 55) 42 r43)) (fun (c38 : gm) => K c38)))))) else K c29)) = K d2) ∧ gRw F2 m g c2 d2 ∧ gRf c d c2 d2 := by
  have h2m := m_2 hm
  obtain ⟨o1, o2, o3⟩ := on_1 mask (by omega) i (by omega) hk0
  have o4 := or_lt hk hi
  rw [o1]
  generalize hy : (mask ||| 2 ^ i) = y at o1 o2 o3 o4 ⊢
  -- keeping the best
  have K1 : ∃ c1 d1, m_X1_arrive 21 (nI y) u v c = (if (lg_cmp u v) ≤ 0 then some c1 else (if (nI 1024) ≤ (c1.1 21 1) then some c1 else gc (0 ≤ (c1.1 21 1).toInt ∧ (c1.1 21 1).toInt < 1024) (gv (gm_r c1 (21 + 1) (upd (c1.1 (21 + 1)) (c1.1 21 1).toNatClampNeg (nI y))) (fun (c11 : gm) => gv (gm_r c11 21 (upd (c11.1 21) 1 ((c11.1 21 1) + 1))) (fun (c12 : gm) => gb (m_J6_bitCount_0f7a4 (nI y)) (fun (r14 : Int32) => if (c12.1 21 2) = (-1) then gv (gm_r c12 21 (upd (c12.1 21) 2 r14)) (fun (c17 : gm) => some c17) else gv (gm_r c12 21 (upd (c12.1 21) 2 (if r14 < (c12.1 21 2) then r14 else (c12.1 21 2)))) (fun (c17 : gm) => some c17))))))) ∧ m_X10_keeps 55 u v d = some d1 ∧ gRw F m g c1 d1 ∧ gRf c d c1 d1 := by
    obtain ⟨f1, f3, l4, l5, lB, f2, fs⟩ := id h
    unfold m_X1_arrive m_X10_keeps; simp only [gj_e]
    rw [gc_1 (show gck 21 = 1 from rfl), gc_1 (show gck 55 = 10 from rfl), l4, l5]
    by_cases q : (lg_cmp (u * d.2.1 55 40) (d.2.1 55 39 * v)) ≤ 0
    · refine ⟨c, d, ?_, ?_, h, gRf_r c d⟩
      · rw [if_pos q]
      · rw [if_neg (Int32.not_lt.mpr q)]
    · obtain ⟨c1, ec1⟩ : ∃ z, z = gm_l (gm_l c 21 (vp_updL (c.2.1 21) 4 u)) 21 (vp_updL ((gm_l c 21 (vp_updL (c.2.1 21) 4 u)).2.1 21) 5 v) := ⟨_, rfl⟩
      obtain ⟨d1, ed1⟩ : ∃ z, z = gm_l (gm_l d 55 (vp_updL (d.2.1 55) 39 u)) 55 (vp_updL ((gm_l d 55 (vp_updL (d.2.1 55) 39 u)).2.1 55) 40 v) := ⟨_, rfl⟩
      have c11 : c1.1 = c.1 := by rw [ec1]; rfl
      have d11 : d1.1 = d.1 := by rw [ed1]; rfl
      have a4 : c1.2.1 21 4 = u := by rw [ec1, gml_s, ul_n _ _ (show 4 ≠ 5 by omega), gml_s, ul_s]
      have a5 : c1.2.1 21 5 = v := by rw [ec1, gml_s, ul_s]
      have b4 : d1.2.1 55 39 = u := by rw [ed1, gml_s, ul_n _ _ (show 39 ≠ 40 by omega), gml_s, ul_s]
      have b5 : d1.2.1 55 40 = v := by rw [ed1, gml_s, ul_s]
      refine ⟨c1, d1, ?_, ?_, ⟨by rw [c11]; exact f1, by rw [c11]; exact f3, by rw [a4, b4], by rw [a5, b5], ⟨a, b, by rw [b4, hu], by rw [b5, hv], ha, hb1, hb⟩, by rw [c11, d11]; exact f2, by unfold gFs; rw [c11, d11]; exact fs⟩, fun i _ _ => by rw [c11], by rw [ec1]; rfl, fun i _ _ => by rw [d11], fun k _ => by rw [d11], by rw [ed1]; rfl⟩
      · rw [if_neg q, gv_e, gv_e, ← ec1]
      · rw [if_pos (Int32.not_le.mp q), gv_e, gv_e, ← ed1]
  obtain ⟨c1, d1, e1, e2, h1, f1⟩ := K1
  by_cases q : (lg_cmp u v) ≤ 0
  · refine ⟨c1, d1, F, by omega, ?_, fun K => ?_, h1, f1⟩
    · rw [e1, if_pos q]
    · rw [gb_x e2, if_neg (Int32.not_lt.mpr q)]
  obtain ⟨g1, g3, l4, l5, lB, g2, fs1, fs2⟩ := id h1
  obtain ⟨s, es⟩ : ∃ s : Int32, s = (if c1.1 21 2 = -1 then nI (pOn y) else if nI (pOn y) < c1.1 21 2 then nI (pOn y) else c1.1 21 2) := ⟨_, rfl⟩
  obtain ⟨c2, ec2⟩ : ∃ z, z = gm_r (gm_r c1 (21 + 1) (upd (c1.1 (21 + 1)) F (nI y))) 21 (upd (c1.1 21) 1 (nI (F + 1))) := ⟨_, rfl⟩
  obtain ⟨c3, ec3⟩ : ∃ z, z = gm_r c2 21 (upd (c2.1 21) 2 s) := ⟨_, rfl⟩
  obtain ⟨d2, ed2⟩ : ∃ z, z = gm_r d1 527 (upd (d1.1 527) y (vp_nar .boolean 1)) := ⟨_, rfl⟩
  obtain ⟨d3, ed3⟩ : ∃ z, z = gm_r d2 55 (upd (d2.1 55) 42 s) := ⟨_, rfl⟩
  have c22 : c2.1 21 2 = c1.1 21 2 := by rw [ec2, gr_s, up_n _ _ (show 2 ≠ 1 by omega)]
  have d24 : d2.1 55 42 = c1.1 21 2 := by rw [ed2, gr_n _ _ (show 55 ≠ 527 by omega), g2]
  have c3o : ∀ i, i ≠ 21 → i ≠ 22 → c3.1 i = c1.1 i := fun i i1 i2 => by rw [ec3, gr_n _ _ i1, ec2, gr_n _ _ i1, gr_n _ _ i2]
  have c322 : c3.1 22 = upd (c1.1 22) F (nI y) := by rw [ec3, gr_n _ _ (show 22 ≠ 21 by omega), ec2, gr_n _ _ (show 22 ≠ 21 by omega), gr_s]
  have d527 : d3.1 527 = upd (d1.1 527) y 1 := by rw [ed3, gr_n _ _ (show 527 ≠ 55 by omega), ed2, gr_s]; rfl
  have d3o : ∀ i, i ≠ 55 → i ≠ 527 → d3.1 i = d1.1 i := fun i i1 i2 => by rw [ed3, gr_n _ _ i1, ed2, gr_n _ _ i2]
  have d3k : ∀ k, k ≠ 42 → d3.1 55 k = d1.1 55 k := fun k hk => by rw [ed3, gr_s, up_n _ _ hk, ed2, gr_n _ _ (show 55 ≠ 527 by omega)]
  refine ⟨c3, d3, F + 1, Nat.le_refl _, ?_, fun K => ?_, ⟨?_, ?_, ?_, ?_, ?_, ?_, ?_, ?_⟩, gRf_t f1 ⟨c3o, by rw [ec3, ec2]; rfl, d3o, d3k, by rw [ed3, ed2]; rfl⟩⟩
  · rw [e1, if_neg q, g1, if_neg (by rw [n_le (by omega) (by omega)]; omega), gc_1 (n_rg (by omega) (by omega)), gv_e, gv_e, n_cl (by omega), gr_n _ _ (show 21 ≠ 21 + 1 by omega), g1, n_s, ← ec2, gb_x (bc_on y (by omega)), c22]
    by_cases q2 : c1.1 21 2 = -1
    · rw [if_pos q2, gv_e, ec3, es, if_pos q2]
    · rw [if_neg q2, gv_e, ec3, es, if_neg q2]
  · rw [gb_x e2, if_pos (Int32.not_le.mp q), gc_1 (n_rg (by omega) (by omega)), gv_e, n_cl (by omega), ← ed2, d24]
    by_cases q2 : c1.1 21 2 = -1
    · rw [if_pos q2, gb_x (on_on (by omega) hN), gv_e, n_s, ← o2, ed3, es, if_pos q2]
    · rw [if_neg q2, gb_x (on_on (by omega) hN), n_s, ← o2]
      unfold m_X10_less
      by_cases q3 : nI (pOn y) ≤ c1.1 21 2
      · rw [if_pos q3, gb_e, gv_e, ed3, es, if_neg q2, min_le, if_pos q3]
      · rw [if_neg q3, gb_e, gv_e, ed3, es, if_neg q2, min_le, if_neg q3]
  · rw [ec3, gr_s, up_n _ _ (show 1 ≠ 2 by omega), ec2, gr_s, up_s]
  · rw [ec3, gr_s, up_n _ _ (show 3 ≠ 2 by omega), ec2, gr_s, up_n _ _ (show 3 ≠ 1 by omega)]; exact g3
  · rw [show c3.2.1 = c1.2.1 by rw [ec3, ec2]; rfl, show d3.2.1 = d1.2.1 by rw [ed3, ed2]; rfl]; exact l4
  · rw [show c3.2.1 = c1.2.1 by rw [ec3, ec2]; rfl, show d3.2.1 = d1.2.1 by rw [ed3, ed2]; rfl]; exact l5
  · unfold gBu; rw [show d3.2.1 = d1.2.1 by rw [ed3, ed2]; rfl]; exact lB
  · rw [ec3, gr_s, up_s, ed3, gr_s, up_s]
  · intro j hj
    by_cases qj : j = F
    · exact ⟨y, o3, o4, by rw [c322, qj, up_s], by rw [d527, up_s]⟩
    · obtain ⟨z, z1, z2, z3, z4⟩ := fs1 j (by omega)
      refine ⟨z, z1, z2, by rw [c322, up_n _ _ qj]; exact z3, ?_⟩
      rw [d527]
      by_cases qz : z = y
      · rw [qz, up_s]
      · rw [up_n _ _ qz]; exact z4
  · intro z hz
    rw [d527, c322]
    by_cases qz : z = y
    · exact Or.inr ⟨by rw [qz, up_s], F, by omega, by rw [up_s, qz]⟩
    · rw [up_n _ _ qz]
      rcases fs2 z hz with e | ⟨e, j, hj, ej⟩
      · exact Or.inl e
      · exact Or.inr ⟨e, j, by omega, by rw [up_n _ _ (show j ≠ F by omega)]; exact ej⟩
