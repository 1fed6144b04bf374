set_option maxRecDepth 16384
/-! long numbers -/
def nL (n : Nat) : Int64 := Int64.ofNat n
theorem l_ti {k : Nat} (h : k < 9223372036854775808) : (nL k).toInt = k := by
  unfold nL
  rw [Int64.toInt_ofNat_of_lt (by omega)]
theorem l_eq {x : Int64} {k : Nat} (h : k < 9223372036854775808) (e : x.toInt = k) : x = nL k := Int64.toInt_inj.1 (by rw [l_ti h]; exact e)
theorem l_mul {a b : Nat} (h : a * b < 9223372036854775808) (ha : a < 9223372036854775808) (hb : b < 9223372036854775808) : nL a * nL b = nL (a * b) := by
  apply l_eq h
  rw [Int64.toInt_mul, l_ti ha, l_ti hb, ← Int.natCast_mul]
  exact Int.bmod_eq_of_le (by omega) (by omega)
theorem l_div {a b : Nat} (ha : a < 9223372036854775808) (hb : b < 9223372036854775808) : nL a / nL b = nL (a / b) := by
  have h : a / b < 9223372036854775808 := Nat.lt_of_le_of_lt (Nat.div_le_self a b) ha
  apply l_eq h
  rw [Int64.toInt_div, l_ti ha, l_ti hb, Int.tdiv_eq_ediv_of_nonneg (by omega), ← Int.natCast_ediv]
  generalize a / b = q at h ⊢
  exact Int.bmod_eq_of_le (by omega) (by omega)
theorem l_sub {a b : Nat} (h : b ≤ a) (ha : a < 9223372036854775808) : nL a - nL b = nL (a - b) := by
  apply l_eq (by omega)
  rw [Int64.toInt_sub, l_ti ha, l_ti (by omega)]
  rw [Int.bmod_eq_of_le (by omega) (by omega)]
  omega
theorem l_of {a : Nat} (h : a < 2147483648) : Int32.toInt64 (nI a) = nL a := by
  apply l_eq (by omega)
  rw [Int32.toInt_toInt64, n_ti h]
/-! chains: arriving and keeping -/
theorem gml_s (c : gm) (i : Nat) (f : Nat → Int64) : (gm_l c i f).2.1 i = f := va_up_self _ _ _
theorem gl_1 (c : gm) (i : Nat) (f : Nat → Int64) : (gm_l c i f).1 = c.1 := rfl
theorem gl_3 (c : gm) (i : Nat) (f : Nat → Int64) : (gm_l c i f).2.2 = c.2.2 := rfl
theorem ul_s (f : Nat → Int64) (k : Nat) (x : Int64) : vp_updL f k x k = x := by unfold vp_updL; rw [if_pos rfl]
theorem ul_n (f : Nat → Int64) {k j : Nat} (x : Int64) (h : j ≠ k) : vp_updL f k x j = f j := by unfold vp_updL; rw [if_neg h]
/-- while chains are sought: g the goal -/
def gBu (d : gm) : Prop := ∃ a b, d.2.1 55 39 = nL a ∧ d.2.1 55 40 = nL b ∧ a ≤ 43046721 ∧ 1 ≤ b ∧ b ≤ 43046721
def gCw (g : Nat) (c d : gm) : Prop := (∃ F, F ≤ 1024 ∧ c.1 21 1 = nI F) ∧ c.1 21 3 = nI g ∧ c.2.1 21 4 = d.2.1 55 39 ∧ c.2.1 21 5 = d.2.1 55 40 ∧ gBu d
def gCf (c d c2 d2 : gm) : Prop := (∀ i, i ≠ 21 → i ≠ 22 → c2.1 i = c.1 i) ∧ c2.2.2 = c.2.2 ∧ d2.1 = d.1 ∧ d2.2.2 = d.2.2
theorem gCf_r (c d : gm) : gCf c d c d := ⟨fun _ _ _ => rfl, rfl, rfl, rfl⟩
theorem gCf_t {c d c2 d2 c3 d3 : gm} (h : gCf c d c2 d2) (g : gCf c2 d2 c3 d3) : gCf c d c3 d3 := ⟨fun i h1 h2 => (g.1 i h1 h2).trans (h.1 i h1 h2), g.2.1.trans h.2.1, g.2.2.1.trans h.2.2.1, g.2.2.2.trans h.2.2.2⟩
theorem bc_some (x : Int32) : ∃ y, m_J6_bitCount_0f7a4 x = some y := ⟨_, rfl⟩
/-- the class notes a fat ring; nothing that the chain's worth needs -/
theorem arr_tail {g : Nat} {k : Int32} {u v : Int64} {c d : gm} (h : gCw g c d) : ∃ c2, (if (lg_cmp u v) ≤ 0 then some c else (if (nI 1024) ≤ (c.1 21 1) then some c else gc (0 ≤ (c.1 21 1).toInt ∧ (c.1 21 1).toInt < 1024) (gv (gm_r c (21 + 1) (upd (c.1 (21 + 1)) (c.1 21 1).toNatClampNeg k)) (fun (c11 : gm) => gv (gm_r c11 21 (upd (c11.1 21) 1 ((c11.1 21 1) + 1))) (fun (c12 : gm) => gb (m_J6_bitCount_0f7a4 k) (fun (r14 : Int32) => if (c12.1 21 2) = (-1) then gv (gm_r c12 21 (upd (c12.1 21) 2 r14)) (fun (c17 : gm) => some c17) else gv (gm_r c12 21 (upd (c12.1 21) 2 (if r14 < (c12.1 21 2) then r14 else (c12.1 21 2)))) (fun (c17 : gm) => some c17))))))) = some c2 ∧ gCw g c2 d ∧ gCf c d c2 d := by
  obtain ⟨⟨F, hF, f1⟩, f3, l4, l5, lB⟩ := id h
  by_cases q : (lg_cmp u v) ≤ 0
  · rw [if_pos q]; exact ⟨c, rfl, h, gCf_r c d⟩
  rw [if_neg q, f1]
  by_cases q2 : 1024 ≤ F
  · rw [if_pos (by rw [n_le (by omega) (by omega)]; exact q2)]; exact ⟨c, rfl, h, gCf_r c d⟩
  rw [if_neg (by rw [n_le (by omega) (by omega)]; exact q2), gc_1 (n_rg (by omega) (by omega)), gv_e, gv_e, n_cl (by omega), gr_n _ _ (show 21 ≠ 21 + 1 by omega), f1, n_s]
  obtain ⟨y, ey⟩ := bc_some k
  rw [gb_x ey]
  have fin : ∀ x : Int32, gCw g (gm_r (gm_r (gm_r c (21 + 1) (upd (c.1 (21 + 1)) F k)) 21 (upd (c.1 21) 1 (nI (F + 1)))) 21 (upd ((gm_r (gm_r c (21 + 1) (upd (c.1 (21 + 1)) F k)) 21 (upd (c.1 21) 1 (nI (F + 1)))).1 21) 2 x)) d ∧ gCf c d (gm_r (gm_r (gm_r c (21 + 1) (upd (c.1 (21 + 1)) F k)) 21 (upd (c.1 21) 1 (nI (F + 1)))) 21 (upd ((gm_r (gm_r c (21 + 1) (upd (c.1 (21 + 1)) F k)) 21 (upd (c.1 21) 1 (nI (F + 1)))).1 21) 2 x)) d := by
    intro x
    refine ⟨⟨⟨F + 1, by omega, ?_⟩, ?_, l4, l5, lB⟩, ⟨fun i i1 i2 => ?_, rfl, rfl, rfl⟩⟩
    · rw [gr_s, up_n _ _ (by omega), gr_s, up_s]
    · rw [gr_s, up_n _ _ (by omega), gr_s, up_n _ _ (by omega)]; exact f3
    · rw [gr_n _ _ i1, gr_n _ _ i1, gr_n _ _ i2]
  split
  · exact ⟨_, gv_e _ _, fin _⟩
  · exact ⟨_, gv_e _ _, fin _⟩
theorem arr_two {g a b : Nat} {k : Int32} {u v : Int64} {c d : gm} (h : gCw g c d) (hu : u = nL a) (hv : v = nL b) (ha : a ≤ 43046721) (hb1 : 1 ≤ b) (hb : b ≤ 43046721) : ∃ c2 d2, m_X1_arrive 21 k u v c = some c2 ∧ m_X10_keeps 55 u v d = some d2 ∧ gCw g c2 d2 ∧ gCf c d c2 d2 := by
  obtain ⟨⟨F, hF, f1⟩, f3, l4, l5, lB⟩ := id h
  unfold m_X1_arrive m_X10_keeps; simp only [gj_e]
  rw [gc_1 (show gck 21 = 1 from rfl), gc_1 (show gck 55 = 10 from rfl), l4, l5]
  by_cases q : (lg_cmp (u * d.2.1 55 40) (d.2.1 55 39 * v)) ≤ 0
  · obtain ⟨c2, e2, h2, f2⟩ := arr_tail (k := k) (u := u) (v := v) h
    refine ⟨c2, d, ?_, ?_, h2, f2⟩
    · rw [if_pos q]; exact e2
    · rw [if_neg (Int32.not_lt.mpr q)]
  · obtain ⟨c1, ec1⟩ : ∃ z, z = gm_l (gm_l c 21 (vp_updL (c.2.1 21) 4 u)) 21 (vp_updL ((gm_l c 21 (vp_updL (c.2.1 21) 4 u)).2.1 21) 5 v) := ⟨_, rfl⟩
    obtain ⟨d1, ed1⟩ : ∃ z, z = gm_l (gm_l d 55 (vp_updL (d.2.1 55) 39 u)) 55 (vp_updL ((gm_l d 55 (vp_updL (d.2.1 55) 39 u)).2.1 55) 40 v) := ⟨_, rfl⟩
    have c11 : c1.1 = c.1 := by rw [ec1]; rfl
    have d11 : d1.1 = d.1 := by rw [ed1]; rfl
    have a4 : c1.2.1 21 4 = u := by rw [ec1, gml_s, ul_n _ _ (show 4 ≠ 5 by omega), gml_s, ul_s]
    have a5 : c1.2.1 21 5 = v := by rw [ec1, gml_s, ul_s]
    have b4 : d1.2.1 55 39 = u := by rw [ed1, gml_s, ul_n _ _ (show 39 ≠ 40 by omega), gml_s, ul_s]
    have b5 : d1.2.1 55 40 = v := by rw [ed1, gml_s, ul_s]
    have h1 : gCw g c1 d1 := ⟨⟨F, hF, by rw [c11]; exact f1⟩, by rw [c11]; exact f3, by rw [a4, b4], by rw [a5, b5], a, b, by rw [b4, hu], by rw [b5, hv], ha, hb1, hb⟩
    have f1' : gCf c d c1 d1 := ⟨fun i _ _ => by rw [c11], by rw [ec1]; rfl, d11, by rw [ed1]; rfl⟩
    obtain ⟨c2, e2, h2, f2⟩ := arr_tail (k := k) (u := u) (v := v) h1
    refine ⟨c2, d1, ?_, ?_, h2, gCf_t f1' f2⟩
    · rw [if_neg q, gv_e, gv_e, ← ec1]; exact e2
    · rw [if_pos (Int32.not_le.mp q), gv_e, gv_e, ← ed1]
