set_option maxRecDepth 16384
theorem fr_e {S : Nat → Prop} {c c2 : gm} (h : fr S c c2) {i : Nat} (hi : ¬ S i) : c2.1 i = c.1 i := h.1 i hi
/-- the seven values are laid, one after the other -/
def pVs (f : Nat → Int32) (a1 a2 a3 a4 a5 a6 a7 : Int32) : Nat → Int32 := upd (upd (upd (upd (upd (upd (upd f 0 a1) 1 a2) 2 a3) 3 a4) 4 a5) 5 a6) 6 a7
theorem pVs_e (f g : Nat → Int32) (a1 a2 a3 a4 a5 a6 a7 : Int32) {j : Nat} (h : j < 7) : pVs f a1 a2 a3 a4 a5 a6 a7 j = pVs g a1 a2 a3 a4 a5 a6 a7 j := by
  have hj : j = 0 ∨ j = 1 ∨ j = 2 ∨ j = 3 ∨ j = 4 ∨ j = 5 ∨ j = 6 := by omega
  rcases hj with rfl | rfl | rfl | rfl | rfl | rfl | rfl <;> simp [pVs, upd]
theorem pVs_1 (f : Nat → Int32) (a1 a2 a3 a4 a5 a6 a7 : Int32) : pVs f a1 a2 a3 a4 a5 a6 a7 1 = a2 := by simp [pVs, upd]
theorem gr_r (c : gm) (i : Nat) (f g : Nat → Int32) : gm_r (gm_r c i f) i g = gm_r c i g := by
  unfold gm_r
  congr 1
  funext j
  unfold va_up
  by_cases h : j = i <;> simp [h]
theorem wear_c (n t : Nat) (a1 a2 a3 a4 a5 a6 a7 : Int32) (c : gm) (hk : gck t = 3) : m_X3_wear n t a1 a2 a3 a4 a5 a6 a7 c = gb (gloop (gu2 (fun (y21 : Int32) => gu2 (fun (y22 : Int32) (c23 : gm) => m_X3_wear_L60 t y21 y22 c23))) n (0, 0, gm_r c (t + 3) (pVs (c.1 (t + 3)) a1 a2 a3 a4 a5 a6 a7))) (fun q => if q.1 ≤ 0 then some (0, q.2) else some (pCl (q.2.1 (t + 4) 0), q.2)) := by
  unfold m_X3_wear pVs
  simp only [gc, gv, hk, if_true, gr_s, gr_r, show (0 : Int32).toNatClampNeg = 0 from rfl, show (1 : Int32).toNatClampNeg = 1 from rfl, show (2 : Int32).toNatClampNeg = 2 from rfl, show (3 : Int32).toNatClampNeg = 3 from rfl, show (4 : Int32).toNatClampNeg = 4 from rfl, show (5 : Int32).toNatClampNeg = 5 from rfl, show (6 : Int32).toNatClampNeg = 6 from rfl]
  congr 1
  funext q
  simp only [gu2, gj, pCl]
  by_cases q0 : q.1 ≤ 0
  · simp only [q0, if_true]
    simp
  · simp only [q0, if_false]
    by_cases q1 : 0 ≤ q.2.1 (t + 4) 0
    · by_cases q2 : q.2.1 (t + 4) 0 ≤ 20
      · simp only [q1, q2, if_true]
      · simp only [q1, q2, if_true, if_false]
    · simp only [q1, if_false]
theorem wear_d (n : Nat) (a1 a2 a3 a4 a5 a6 a7 : Int32) (d : gm) : m_X10_wearBy n 55 a1 a2 a3 a4 a5 a6 a7 d = gb (gloop (gu2 (fun (y13 : Int32) => gu2 (fun (y14 : Int32) (c15 : gm) => m_X10_byLaw_L18 55 y13 y14 c15))) n (0, 0, gm_r (gm_r d 421 (pVs (d.1 421) a1 a2 a3 a4 a5 a6 a7)) 420 (upd (d.1 420) 0 (a2 / 4)))) (fun d2 => some (pCl (d2.1 420 0), d2)) := by
  unfold m_X10_wearBy m_X10_byLaw
  have e : ∀ (f : Nat → Int32), (pVs f a1 a2 a3 a4 a5 a6 a7) 1 = a2 := fun f => pVs_1 f a1 a2 a3 a4 a5 a6 a7
  unfold pVs at e
  simp only [gc, gv, show gck 55 = 10 from rfl, if_true, gr_s, gr_r, show (0 : Int32).toNatClampNeg = 0 from rfl, show (1 : Int32).toNatClampNeg = 1 from rfl, show (2 : Int32).toNatClampNeg = 2 from rfl, show (3 : Int32).toNatClampNeg = 3 from rfl, show (4 : Int32).toNatClampNeg = 4 from rfl, show (5 : Int32).toNatClampNeg = 5 from rfl, show (6 : Int32).toNatClampNeg = 6 from rfl, e, gr_n _ _ (show (420 : Nat) ≠ 421 by decide), pVs]
  generalize gloop _ n _ = o
  cases o with
  | none => rfl
  | some d2 =>
    simp only [gb, gb2, m_X10_more, m_X10_less, pCl]
    by_cases q1 : 0 ≤ d2.1 420 0
    · by_cases q2 : d2.1 420 0 ≤ 20
      · simp only [q1, q2, if_true]
      · simp only [q1, q2, if_true, if_false]
    · simp only [q1, if_false, show (0 : Int32) ≤ 20 by decide, if_true]
theorem wear_two {t : Nat} {c d : gm} (h : gLw t c d) (a1 a2 a3 a4 a5 a6 a7 : Int32) {n : Nat} (hn : 160 < n) : ∃ w c2 d2, w ≤ 20 ∧ m_X3_wear n t a1 a2 a3 a4 a5 a6 a7 c = some (nI w, c2) ∧ m_X10_wearBy n 55 a1 a2 a3 a4 a5 a6 a7 d = some (nI w, d2) ∧ fr (fun i => i = t + 3 ∨ i = t + 4) c c2 ∧ fr (fun i => i = 420 ∨ i = 421) d d2 := by
  obtain ⟨hk, z, mk, op, D, hC, hz, hco, hd⟩ := h
  rw [wear_c n t a1 a2 a3 a4 a5 a6 a7 c hk, wear_d]
  obtain ⟨c1, ec1⟩ : ∃ q, q = gm_r c (t + 3) (pVs (c.1 (t + 3)) a1 a2 a3 a4 a5 a6 a7) := ⟨_, rfl⟩
  obtain ⟨d1, ed1⟩ : ∃ q, q = gm_r (gm_r d 421 (pVs (d.1 421) a1 a2 a3 a4 a5 a6 a7)) 420 (upd (d.1 420) 0 (a2 / 4)) := ⟨_, rfl⟩
  have fc1 : fr (fun i => i = t + 3 ∨ i = t + 4) c c1 := by rw [ec1]; exact fr_u _ (Or.inl rfl)
  have fd1 : fr (fun i => i = 420 ∨ i = 421) d d1 := by rw [ed1]; exact fr_ut (fr_u _ (Or.inr rfl)) (Or.inl rfl)
  have v1 : c1.1 (t + 3) = pVs (c.1 (t + 3)) a1 a2 a3 a4 a5 a6 a7 := by rw [ec1, gr_s]
  have v2 : d1.1 421 = pVs (d.1 421) a1 a2 a3 a4 a5 a6 a7 := by rw [ed1, gr_n _ _ (by decide), gr_s]
  have v3 : d1.1 420 0 = a2 / 4 := by rw [ed1, gr_s, up_s]
  rw [← ec1, ← ed1]
  have hz1 : c1.1 t 4 = nI z := by rw [fr_e fc1 (by omega)]; exact hz
  have hco1 : ∀ k, k < z → c1.1 (t + 1) k = mk k ∧ c1.1 (t + 2) k = op k := by
    intro k hk
    rw [fr_e fc1 (by omega), fr_e fc1 (by omega)]
    exact hco k hk
  rcases hd with ⟨hd0, rfl, m0, o0, mm1, o1, mm2⟩ | ⟨h1, hdz, hdo⟩
  · have g1 : d1.1 55 17 = nI 0 := by rw [fr_e fd1 (by decide)]; exact hd0
    have e2 : gloop (gu2 (fun (y13 : Int32) => gu2 (fun (y14 : Int32) (c15 : gm) => m_X10_byLaw_L18 55 y13 y14 c15))) n (0, 0, d1) = some d1 := by
      obtain ⟨n, rfl⟩ : ∃ q, n = q + 1 := ⟨n - 1, by omega⟩
      rw [gloop]
      simp only [gu2, m_X10_byLaw_L18, g1, n_l0]
      rw [if_pos (by decide)]
    obtain ⟨x0, x1⟩ := hco1 0 (by decide)
    obtain ⟨x2, x3⟩ := hco1 1 (by decide)
    obtain ⟨x4, x5⟩ := hco1 2 (by decide)
    have v4 : c1.1 (t + 3) 1 = a2 := by rw [v1, pVs_1]
    obtain ⟨c2, ec2⟩ : ∃ q, q = gm_r (gm_r (gm_r c1 (t + 4) (upd (c1.1 (t + 4)) 0 a2)) (t + 4) (upd (upd (c1.1 (t + 4)) 0 a2) 1 4)) (t + 4) (upd (upd (upd (c1.1 (t + 4)) 0 a2) 1 4) 0 (a2 / 4)) := ⟨_, rfl⟩
    have e1 : gloop (gu2 (fun (y21 : Int32) => gu2 (fun (y22 : Int32) (c23 : gm) => m_X3_wear_L60 t y21 y22 c23))) n (0, 0, c1) = some (1, c2) := by
      obtain ⟨n, rfl⟩ : ∃ q, n = q + 4 := ⟨n - 4, by omega⟩
      have s1 : m_X3_wear_L60 t 0 0 c1 = some (.inl (1, 1, gm_r c1 (t + 4) (upd (c1.1 (t + 4)) 0 a2))) := by
        simp only [m_X3_wear_L60, hz1, gc, gv, gj, gu2, show (0 : Int32).toNatClampNeg = 0 from rfl, x0, x1, m0, o0, show (1 : Int32).toNatClampNeg = 1 from rfl, v4]
        simp [nI]
      have s2 : m_X3_wear_L60 t 1 1 (gm_r c1 (t + 4) (upd (c1.1 (t + 4)) 0 a2)) = some (.inl (2, 2, gm_r (gm_r c1 (t + 4) (upd (c1.1 (t + 4)) 0 a2)) (t + 4) (upd (upd (c1.1 (t + 4)) 0 a2) 1 4))) := by
        simp only [m_X3_wear_L60, gr_n _ _ (show t ≠ t + 4 by omega), gr_n _ _ (show t + 1 ≠ t + 4 by omega), gr_n _ _ (show t + 2 ≠ t + 4 by omega), gr_s, hz1, gc, gv, gj, gu2, show (1 : Int32).toNatClampNeg = 1 from rfl, x2, x3, mm1, o1]
        simp [nI]
      have s3 : m_X3_wear_L60 t 2 2 (gm_r (gm_r c1 (t + 4) (upd (c1.1 (t + 4)) 0 a2)) (t + 4) (upd (upd (c1.1 (t + 4)) 0 a2) 1 4)) = some (.inl (1, 3, c2)) := by
        simp only [ec2, m_X3_wear_L60, gr_n _ _ (show t ≠ t + 4 by omega), gr_n _ _ (show t + 1 ≠ t + 4 by omega), gr_n _ _ (show t + 2 ≠ t + 4 by omega), gr_s, hz1, gc, gv, gj, gu2, show (2 : Int32).toNatClampNeg = 2 from rfl, x4, x5, mm2, show ((2 : Int32) + (-1)).toNatClampNeg = 1 from rfl, show ((2 : Int32) + (-1) - 1).toNatClampNeg = 0 from rfl, up_s, up_n _ _ (show (0 : Nat) ≠ 1 by decide), m_X3_joined, gb]
        simp [nI]
      have s4 : m_X3_wear_L60 t 1 3 c2 = some (.inr (1, c2)) := by
        rw [ec2]
        simp only [m_X3_wear_L60, gr_n _ _ (show t ≠ t + 4 by omega), hz1]
        simp [nI]
      rw [gloop]
      simp only [gu2, s1]
      rw [gloop]
      simp only [gu2, s2]
      rw [gloop]
      simp only [gu2, s3]
      rw [gloop]
      simp only [gu2, s4]
    obtain ⟨w, hw, ew⟩ := pCl_b (a2 / 4)
    refine ⟨w, c2, d1, hw, ?_, ?_, ?_, fd1⟩
    · rw [e1]
      simp only [gb]
      rw [if_neg (by decide), ec2, gr_s, up_s, ew]
    · rw [e2]
      simp only [gb, v3, ew]
    · rw [ec2]
      exact fr_ut (fr_ut (fr_ut fc1 (Or.inr rfl)) (Or.inr rfl)) (Or.inr rfl)
  · obtain ⟨q, d2, e1, e2, hq, fc, fd, he⟩ := wear_loop (c := c1) (d := d1) hk hC hz1 hco1 (by rw [fr_e fd1 (by decide)]; exact hdz) (fun k hk => by rw [fr_e fd1 (by obtain ⟨hz150, -⟩ := hC; omega)]; exact hdo k hk) (fun j hj => by rw [v1, v2]; exact pVs_e _ _ _ _ _ _ _ _ _ hj) hn
    obtain ⟨w, hw, ew⟩ := pCl_b (d2.1 420 0)
    refine ⟨w, q.2, d2, hw, ?_, ?_, fr_t fc1 (fr_m fc (fun i hi => Or.inr hi)), fr_t fd1 (fr_m fd (fun i hi => Or.inl hi))⟩
    · rw [e1]
      simp only [gb]
      rw [if_neg hq, he, ew]
    · rw [e2]
      simp only [gb, ew]
