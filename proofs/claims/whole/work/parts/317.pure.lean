set_option maxRecDepth 16384
/-! rows kept: undo, image, restore -/
theorem gr_id (d : gm) (b : Nat) : gm_r d b (d.1 b) = d := by
  unfold gm_r
  refine Prod.ext ?_ rfl
  funext j
  show va_up d.1 b (d.1 b) j = d.1 j
  unfold va_up
  by_cases h : j = b
  · rw [if_pos h, h]
  · rw [if_neg h]
theorem up_id (f : Nat → Int32) (k : Nat) : upd f k (f k) = f := by
  funext j
  unfold upd
  by_cases h : j = k
  · rw [if_pos h, h]
  · rw [if_neg h]
theorem gRow_x {th m : Nat} {r r2 : Nat → Int32} (h : gRow th m r) (h8 : th ≤ 8) (e : ∀ j, j < 60 → r2 j = r j) : gRow th m r2 := by
  obtain ⟨hm, h56, hw, hc, l, hl, h57⟩ := h
  refine ⟨hm, by rw [e _ (by omega)]; exact h56, fun a ha => by rw [e _ (by omega)]; exact hw a ha, fun c hc2 => ?_, l, hl, by rw [e _ (by omega)]; exact h57⟩
  rw [e _ (by omega), e _ (by omega), e _ (by omega), e _ (by omega)]
  exact hc c hc2
theorem gKp_x {th : Nat} {f g f2 g2 : Nat → Int32} (h : gKp th f g) (h8 : th ≤ 8) (e : ∀ j, j < 60 → f2 j = f j) (e2 : ∀ j, j < 60 → g2 j = g j) : gKp th f2 g2 := by
  obtain ⟨m, hr, h1, h2, h3, h4, h5, h6⟩ := h
  have hm := hr.1
  refine ⟨m, gRow_x hr h8 e2, by rw [e _ (by omega)]; exact h1, by rw [e _ (by omega), e2 _ (by omega)]; exact h2, by rw [e _ (by omega), e2 _ (by omega)]; exact h3, by rw [e _ (by omega), e2 _ (by omega)]; exact h4, fun a ha => ?_, fun k hk => ?_⟩
  · rw [e _ (by omega), e _ (by omega), e2 _ (by omega), e2 _ (by omega)]; exact h5 a ha
  · rw [e _ (by omega), e2 _ (by omega)]; exact h6 k hk
theorem cpy_ok {x : Int32} {A L n : Nat} {z : Int32} (hx : x = nI A) (hz : z = nI n) (hA : A + n ≤ L) (hL : L < 4000) : 0 ≤ x.toInt ∧ 0 ≤ z.toInt ∧ x.toInt + z.toInt ≤ (L : Nat) := by
  subst hx
  subst hz
  rw [n_ti (by omega), n_ti (by omega)]
  omega
theorem read_c {a1 A : Nat} {c : gm} (ha : 17 ≤ a1) (hk : gck a1 = 12) (hA : A + 60 ≤ gal a1) (hL : gal a1 < 4000) : ∃ c2, m_X6_read 3 a1 (nI A) c = some c2 ∧ fr (fun i => i = 3 ∨ i = 5 ∨ i = 6 ∨ i = 8) c c2 ∧ (∀ a, a < 8 → c2.1 5 a = c.1 a1 (A + a)) ∧ (∀ a, a < 8 → c2.1 6 a = c.1 a1 (A + (8 + a))) ∧ (∀ k, k < 40 → c2.1 8 k = c.1 a1 (A + (16 + k))) ∧ c2.1 3 = upd (upd (upd (upd (c.1 3) 6 (c.1 a1 (A + 56))) 7 (c.1 a1 (A + 57))) 9 (c.1 a1 (A + 58))) 10 (c.1 a1 (A + 59)) := by
  have e8 : nI A + 8 = nI (A + 8) := n_ad A 8
  have e16 : nI A + 16 = nI (A + 16) := n_ad A 16
  have e60 : nI A + 60 = nI (A + 60) := n_ad A 60
  have f4 : nI (A + 60) - 4 = nI (A + 56) := n_su (a := A + 60) (b := 4) (by omega)
  have f3 : nI (A + 60) - 3 = nI (A + 57) := n_su (a := A + 60) (b := 3) (by omega)
  have f2 : nI (A + 60) - 2 = nI (A + 58) := n_su (a := A + 60) (b := 2) (by omega)
  have f1 : nI (A + 60) - 1 = nI (A + 59) := n_su (a := A + 60) (b := 1) (by omega)
  have fl : nI (gal a1) - 60 = nI (gal a1 - 60) := n_su (a := gal a1) (b := 60) (by omega)
  have g8 : ∀ B, B + 8 ≤ gal a1 → (0 ≤ (nI B).toInt ∧ 0 ≤ (0 : Int32).toInt ∧ 0 ≤ (8 : Int32).toInt ∧ (nI B).toInt + (8 : Int32).toInt ≤ ((gal a1 : Nat) : Int) ∧ (0 : Int32).toInt + (8 : Int32).toInt ≤ 8) := fun B hB => by
    obtain ⟨q1, q2, q3⟩ := cpy_ok (x := nI B) (z := 8) (n := 8) rfl rfl hB hL
    exact ⟨q1, by decide, q2, q3, by decide⟩
  have g40 : ∀ B, B + 40 ≤ gal a1 → (0 ≤ (nI B).toInt ∧ 0 ≤ (0 : Int32).toInt ∧ 0 ≤ (40 : Int32).toInt ∧ (nI B).toInt + (40 : Int32).toInt ≤ ((gal a1 : Nat) : Int) ∧ (0 : Int32).toInt + (40 : Int32).toInt ≤ 40) := fun B hB => by
    obtain ⟨q1, q2, q3⟩ := cpy_ok (x := nI B) (z := 40) (n := 40) rfl rfl hB hL
    exact ⟨q1, by decide, q2, q3, by decide⟩
  have c8 : (8 : Int32).toNatClampNeg = 8 := rfl
  have c40 : (40 : Int32).toNatClampNeg = 40 := rfl
  unfold m_X6_read
  rw [if_neg (by rw [n_l0, n_lt (by omega) (by decide)]; omega), gc_1 hk, fl, if_pos (by rw [n_le (by omega) (by omega)]; omega), gc_1 (show gck 3 = 6 from rfl), e8, e16, e60, f4, f3, f2, f1, gc_1 (g8 A (by omega)), gv_e, gc_1 (g8 (A + 8) (by omega)), gv_e, gc_1 (g40 (A + 16) (by omega)), gv_e, gc_1 (n_rg (by omega) (by omega)), gv_e, gc_1 (n_rg (by omega) (by omega)), gv_e, gc_1 (n_rg (by omega) (by omega)), gv_e, gc_1 (n_rg (by omega) (by omega)), gv_e, n_cl (by omega), n_cl (by omega), n_cl (by omega), n_cl (by omega), n_cl (by omega), n_cl (by omega), n_cl (by omega), n_cl0, c8, c40]
  refine ⟨_, rfl, ⟨fun i hi => ?_, rfl⟩, fun a ha2 => ?_, fun a ha2 => ?_, fun k hk2 => ?_, ?_⟩
  · simp (disch := omega) only [gr_n]
  · simp (disch := omega) only [gr_n, gr_s, pk_cpy_in, Nat.sub_zero]
  · simp (disch := omega) only [gr_n, gr_s, pk_cpy_in, Nat.sub_zero, Nat.add_assoc]
  · simp (disch := omega) only [gr_n, gr_s, pk_cpy_in, Nat.sub_zero, Nat.add_assoc]
  · simp (disch := omega) only [gr_n, gr_s]
theorem write_c {a1 A : Nat} {c : gm} (ha : 17 ≤ a1) (hk : gck a1 = 12) (hA : A + 60 ≤ gal a1) (hL : gal a1 < 4000) : ∃ c2, m_X6_write 3 a1 (nI A) c = some c2 ∧ fr (fun i => i = a1) c c2 ∧ (∀ j, j < A ∨ A + 60 ≤ j → c2.1 a1 j = c.1 a1 j) ∧ (∀ a, a < 8 → c2.1 a1 (A + a) = c.1 5 a) ∧ (∀ a, a < 8 → c2.1 a1 (A + (8 + a)) = c.1 6 a) ∧ (∀ k, k < 40 → c2.1 a1 (A + (16 + k)) = c.1 8 k) ∧ c2.1 a1 (A + 56) = c.1 3 6 ∧ c2.1 a1 (A + 57) = c.1 3 7 ∧ c2.1 a1 (A + 58) = c.1 3 9 ∧ c2.1 a1 (A + 59) = c.1 3 10 := by
  have e8 : nI A + 8 = nI (A + 8) := n_ad A 8
  have e16 : nI A + 16 = nI (A + 16) := n_ad A 16
  have e60 : nI A + 60 = nI (A + 60) := n_ad A 60
  have f4 : nI (A + 60) - 4 = nI (A + 56) := n_su (a := A + 60) (b := 4) (by omega)
  have f3 : nI (A + 60) - 3 = nI (A + 57) := n_su (a := A + 60) (b := 3) (by omega)
  have f2 : nI (A + 60) - 2 = nI (A + 58) := n_su (a := A + 60) (b := 2) (by omega)
  have f1 : nI (A + 60) - 1 = nI (A + 59) := n_su (a := A + 60) (b := 1) (by omega)
  have fl : nI (gal a1) - 60 = nI (gal a1 - 60) := n_su (a := gal a1) (b := 60) (by omega)
  have g8 : ∀ B, B + 8 ≤ gal a1 → (0 ≤ (0 : Int32).toInt ∧ 0 ≤ (nI B).toInt ∧ 0 ≤ (8 : Int32).toInt ∧ (0 : Int32).toInt + (8 : Int32).toInt ≤ 8 ∧ (nI B).toInt + (8 : Int32).toInt ≤ ((gal a1 : Nat) : Int)) := fun B hB => by
    obtain ⟨q1, q2, q3⟩ := cpy_ok (x := nI B) (z := 8) (n := 8) rfl rfl hB hL
    exact ⟨by decide, q1, q2, by decide, q3⟩
  have g40 : ∀ B, B + 40 ≤ gal a1 → (0 ≤ (0 : Int32).toInt ∧ 0 ≤ (nI B).toInt ∧ 0 ≤ (40 : Int32).toInt ∧ (0 : Int32).toInt + (40 : Int32).toInt ≤ 40 ∧ (nI B).toInt + (40 : Int32).toInt ≤ ((gal a1 : Nat) : Int)) := fun B hB => by
    obtain ⟨q1, q2, q3⟩ := cpy_ok (x := nI B) (z := 40) (n := 40) rfl rfl hB hL
    exact ⟨by decide, q1, q2, by decide, q3⟩
  have c8 : (8 : Int32).toNatClampNeg = 8 := rfl
  have c40 : (40 : Int32).toNatClampNeg = 40 := rfl
  unfold m_X6_write
  rw [if_neg (by rw [n_l0, n_lt (by omega) (by decide)]; omega), gc_1 hk, fl, if_pos (by rw [n_le (by omega) (by omega)]; omega), gc_1 (show gck 3 = 6 from rfl), e8, e16, e60, f4, f3, f2, f1, gc_1 (g8 A (by omega)), gv_e, gc_1 (g8 (A + 8) (by omega)), gv_e, gc_1 (g40 (A + 16) (by omega)), gv_e, gc_1 (n_rg (by omega) (by omega)), gv_e, gc_1 (n_rg (by omega) (by omega)), gv_e, gc_1 (n_rg (by omega) (by omega)), gv_e, gc_1 (n_rg (by omega) (by omega)), gv_e, n_cl (by omega), n_cl (by omega), n_cl (by omega), n_cl (by omega), n_cl (by omega), n_cl (by omega), n_cl (by omega), n_cl0, c8, c40]
  refine ⟨_, rfl, ⟨fun i hi => ?_, rfl⟩, fun j hj => ?_, fun a ha2 => ?_, fun a ha2 => ?_, fun k hk2 => ?_, ?_, ?_, ?_, ?_⟩
  · simp (disch := omega) only [gr_n]
  · simp (disch := omega) only [gr_n, gr_s, up_n, pk_cpy_out]
  · simp (disch := omega) only [gr_n, gr_s, up_n, pk_cpy_out, pk_cpy_in, Nat.zero_add, Nat.add_sub_cancel_left]
  · rw [← Nat.add_assoc]
    simp (disch := omega) only [gr_n, gr_s, up_n, pk_cpy_out, pk_cpy_in, Nat.zero_add, Nat.add_sub_cancel_left]
  · rw [← Nat.add_assoc]
    simp (disch := omega) only [gr_n, gr_s, up_n, pk_cpy_out, pk_cpy_in, Nat.zero_add, Nat.add_sub_cancel_left]
  · simp (disch := omega) only [gr_n, gr_s, up_n, up_s]
  · simp (disch := omega) only [gr_n, gr_s, up_n, up_s]
  · simp (disch := omega) only [gr_n, gr_s, up_n, up_s]
  · simp (disch := omega) only [gr_n, gr_s, up_n, up_s]
/-- what read gives back is the market of a kept row -/
theorem read_s {th m a1 A : Nat} {pl : Int32} {r g : Nat → Int32} {c c2 : gm} (hS : gSt 3 c th m pl r) (hK : gKp th (fun j => c.1 a1 (A + j)) g) (h5 : ∀ a, a < 8 → c2.1 5 a = c.1 a1 (A + a)) (h6 : ∀ a, a < 8 → c2.1 6 a = c.1 a1 (A + (8 + a))) (h8 : ∀ k, k < 40 → c2.1 8 k = c.1 a1 (A + (16 + k))) (h3 : c2.1 3 = upd (upd (upd (upd (c.1 3) 6 (c.1 a1 (A + 56))) 7 (c.1 a1 (A + 57))) 9 (c.1 a1 (A + 58))) 10 (c.1 a1 (A + 59))) : ∃ m2, gSt 3 c2 th m2 pl g ∧ gRow th m2 g := by
  obtain ⟨k0, t8, s5, s6, s7, s9, s10, s11, sw, sf, sc⟩ := hS
  obtain ⟨m2, hr, k1, k2, k3, k4, k5, k6⟩ := hK
  have hm := hr.1
  refine ⟨m2, ⟨k0, t8, ?_, ?_, ?_, ?_, ?_, ?_, fun a ha => ?_, fun a ha => ?_, fun k hk => ?_⟩, hr⟩
  · rw [h3]; simp (disch := omega) only [up_n]; exact s5
  · rw [h3]; simp (disch := omega) only [up_n, up_s]; exact k1
  · rw [h3]; simp (disch := omega) only [up_n, up_s]; exact k2
  · rw [h3]; simp (disch := omega) only [up_n]; exact s9
  · rw [h3]; simp (disch := omega) only [up_n, up_s]; exact k3
  · rw [h3]; simp (disch := omega) only [up_s]; exact k4
  · rw [h5 a (by omega)]; exact (k5 a ha).1
  · rw [h6 a (by omega)]; exact (k5 a ha).2
  · rw [h8 k (by omega)]; exact k6 k hk
theorem write_s {th m a1 A : Nat} {pl : Int32} {r : Nat → Int32} {c c2 : gm} (hS : gSt 3 c th m pl r) (hR : gRow th m r) (h5 : ∀ a, a < 8 → c2.1 a1 (A + a) = c.1 5 a) (h6 : ∀ a, a < 8 → c2.1 a1 (A + (8 + a)) = c.1 6 a) (h8 : ∀ k, k < 40 → c2.1 a1 (A + (16 + k)) = c.1 8 k) (e6 : c2.1 a1 (A + 56) = c.1 3 6) (e7 : c2.1 a1 (A + 57) = c.1 3 7) (e9 : c2.1 a1 (A + 58) = c.1 3 9) (e10 : c2.1 a1 (A + 59) = c.1 3 10) : gKp th (fun j => c2.1 a1 (A + j)) r := by
  obtain ⟨k0, t8, s5, s6, s7, s9, s10, s11, sw, sf, sc⟩ := hS
  have hm := hR.1
  refine ⟨m, hR, e6.trans s6, e7.trans s7, e9.trans s10, e10.trans s11, fun a ha => ⟨?_, ?_⟩, fun k hk => ?_⟩
  · show c2.1 a1 (A + a) = _
    rw [h5 a (by omega)]; exact sw a ha
  · show c2.1 a1 (A + (8 + a)) = _
    rw [h6 a (by omega)]; exact sf a ha
  · show c2.1 a1 (A + (16 + k)) = _
    rw [h8 k (by omega)]; exact sc k hk
theorem copies_d {a b n : Nat} {d : gm} (ka : gck a = 22) (kb : gck b = 22) (la : gal a = 60) (lb : gal b = 60) (hab : a ≠ b) (hn : 160 < n) : m_X10_copies n a b d = some (gm_r d b (fun j => if j < 60 then d.1 a j else d.1 b j)) := by
  unfold m_X10_copies
  have e0 : gm_r d b (fun j => if j < 0 then d.1 a j else d.1 b j) = d := by
    rw [show (fun j => if j < 0 then d.1 a j else d.1 b j) = d.1 b from by funext j; rw [if_neg (by omega)]]
    exact gr_id d b
  have es : ((0 : Int32), d) = (fun k => (nI k, gm_r d b (fun j => if j < k then d.1 a j else d.1 b j))) 0 := by
    show _ = (nI 0, gm_r d b _)
    rw [e0]
    rfl
  rw [es, gloop_run (fun k => (nI k, gm_r d b (fun j => if j < k then d.1 a j else d.1 b j))) 60 (gm_r d b (fun j => if j < 60 then d.1 a j else d.1 b j)) ?_ ?_ (by omega)]
  · rfl
  · intro k hk
    show m_X10_copies_L2 a b (nI k) _ = _
    unfold m_X10_copies_L2
    rw [if_neg (by rw [n_l60, n_le (by decide) (by omega)]; omega), gc_1 ka, la, gc_1 (n_rg (by omega) (by omega)), gc_1 kb, lb, gc_1 (n_rg (by omega) (by omega)), gv_e, gv_e, n_s, n_cl (by omega), gr_s, gr_r, gr_n _ _ hab]
    congr 4
    funext j
    unfold upd
    by_cases h : j = k
    · rw [if_pos h, if_pos (by omega), h]
    · rw [if_neg h]
      show (if j < k then d.1 a j else d.1 b j) = _
      by_cases h2 : j < k
      · rw [if_pos h2, if_pos (by omega)]
      · rw [if_neg h2, if_neg (by omega)]
  · show m_X10_copies_L2 a b (nI 60) _ = _
    unfold m_X10_copies_L2
    rw [if_pos (show (60 : Int32) ≤ nI 60 by decide)]
