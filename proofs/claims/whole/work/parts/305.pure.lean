set_option maxRecDepth 16384
theorem gloop_mono {α β : Type} {f : α → Option (α ⊕ β)} {n k : Nat} {a : α} {b : β} (h : gloop f n a = some b) : gloop f (n + k) a = some b := by
  induction n generalizing a with
  | zero => cases h
  | succ n ih =>
    rw [show n + 1 + k = (n + k) + 1 by omega]
    rw [gloop] at h ⊢
    cases e : f a with
    | none => rw [e] at h; cases h
    | some o =>
      rw [e] at h
      cases o with
      | inl a2 => exact ih h
      | inr b2 => exact h
theorem gloop_le {α β : Type} {f : α → Option (α ⊕ β)} {n k : Nat} {a : α} {b : β} (h : gloop f n a = some b) (hk : n ≤ k) : gloop f k a = some b := by
  obtain ⟨j, rfl⟩ : ∃ j, k = n + j := ⟨k - n, by omega⟩
  exact gloop_mono h
def pOn (k : Nat) : Nat := (k % 2 + k / 2 % 2 + k / 4 % 2 + k / 8 % 2 + k / 16 % 2) + (k / 32 % 2 + k / 64 % 2 + k / 128 % 2 + k / 256 % 2 + k / 512 % 2)
set_option maxRecDepth 100000 in
theorem bc_on : ∀ k, k < 1024 → m_J6_bitCount_0f7a4 (nI k) = some (nI (pOn k)) := by decide +kernel
set_option maxRecDepth 100000 in
theorem on_on0 : ∀ k, k < 1024 → gloop (gu2 (fun (y2 : Int32) (y3 : Int32) => m_X10_ones_L4 (nI k) y2 y3)) 11 (0, 0) = some (nI (pOn k)) := by decide +kernel
theorem on_on {k n : Nat} (h : k < 1024) (hn : 20 < n) : m_X10_ones n (nI k) = some (nI (pOn k)) := by
  unfold m_X10_ones
  rw [gloop_le (on_on0 k h) (by omega)]
  rfl
theorem sh_ad : ∀ c, c < 11 → ∀ k, k < 2 ^ c → nI k ||| ((1 : Int32) <<< (nI c &&& 31)) = nI (k + 2 ^ c) := by decide +kernel
theorem pCo_b (r : Nat → Int32) (x : Int32) : ∀ m, m ≤ 10 → ∃ k, k < 2 ^ m ∧ pCo m r x = nI k := by
  intro m
  induction m with
  | zero => intro _; exact ⟨0, by decide, rfl⟩
  | succ m ih =>
    intro h
    obtain ⟨k, hk, e⟩ := ih (by omega)
    rw [pCo_s, e]
    split
    · exact ⟨k + 2 ^ m, by rw [Nat.pow_succ]; omega, sh_ad m (by omega) k hk⟩
    · exact ⟨k, by rw [Nat.pow_succ]; omega, rfl⟩
theorem pCo_b2 (r : Nat → Int32) (x : Int32) {m : Nat} (hm : m ≤ 10) : ∃ k, k < 1024 ∧ pCo m r x = nI k := by
  obtain ⟨k, hk, e⟩ := pCo_b r x m hm
  refine ⟨k, Nat.lt_of_lt_of_le hk ?_, e⟩
  exact Nat.pow_le_pow_right (by decide) hm
/-- class and reference at one market: t the class's State, a1 the reference's row, rl the rule -/
def gR2 (t a1 rl th m : Nat) (pl : Int32) (c d : gm) : Prop := gSt t c th m pl (d.1 a1) ∧ gRow th m (d.1 a1) ∧ gMd d th pl ∧ gLw rl c d
def gIx (t a1 rl : Nat) : Prop := (t = 3 ∨ t = 9 ∨ t = 27) ∧ (a1 = 503 ∨ a1 = 504) ∧ (rl = 33 ∨ rl = 38)
theorem gIx_k {t a1 rl : Nat} (h : gIx t a1 rl) : gck t = 6 ∧ gck a1 = 22 ∧ gal a1 = 60 := by
  obtain ⟨h1, h2, h3⟩ := h
  rcases h1 with rfl | rfl | rfl <;> rcases h2 with rfl | rfl <;> decide
theorem wearOf_two {t a1 rl th m : Nat} {pl : Int32} {c d : gm} (hi : gIx t a1 rl) (h : gR2 t a1 rl th m pl c d) {a n : Nat} (ha : a < th) (hn : 160 < n) : ∃ w c2 d2, w ≤ 20 ∧ m_X6_wearOf n t (nI a) rl c = some (nI w, c2) ∧ m_X10_wearOf n 55 a1 (nI a) d = some (nI w, d2) ∧ fr (fun i => i = rl + 3 ∨ i = rl + 4) c c2 ∧ fr (fun i => i = 420 ∨ i = 421) d d2 := by
  obtain ⟨hS, hR, hM, hL⟩ := h
  obtain ⟨k1, k2, k3⟩ := gIx_k hi
  have hm : m ≤ 10 := hR.1
  have h56 := hR.2.1
  obtain ⟨q, hq, eq⟩ := pCo_b2 (d.1 a1) (nI a) hm
  obtain ⟨hk, h8, h5, h6, h7, h9, h10, h11, hw, hf, hc⟩ := id hS
  obtain ⟨m0, m3, -⟩ := id hM
  obtain ⟨w, c2, d2, hw20, e1, e2, f1, f2⟩ := wear_two hL (d.1 a1 a) (d.1 a1 (8 + a)) (nI (pOn q)) (nI a) (d.1 a1 59) (d.1 a1 57) pl hn
  refine ⟨w, c2, d2, hw20, ?_, ?_, f1, f2⟩
  · unfold m_X6_wearOf
    simp only [gc, gb, gb2, hk, hL.1, if_true, cs_with hS hm (nI a) (show 20 < n by omega), eq, bc_on q hq, cs_weight hS ha, cs_weighed hS ha, h10, h7, h9, e1]
  · unfold m_X10_wearOf
    have w1 := md_with (n := n) (d := d) (a1 := a1) rfl h56 hm (nI a) k2 k3 (by omega)
    simp (disch := omega) only [gc, gb, gb2, k2, k3, show gck 55 = 10 from rfl, if_true, w1, eq, on_on hq (show 20 < n by omega), n_l0, n_l8, n_l59, n_l57, n_l3, n_ad, n_ti, n_cl, Nat.zero_add, m3, e2]
    rw [if_pos (by omega), if_pos (by omega), if_pos (by omega), if_pos (by omega)]
/-- what the market's changes touch -/
def CF (t rl i : Nat) : Prop := i = t ∨ i = t + 2 ∨ i = t + 3 ∨ i = t + 4 ∨ i = t + 5 ∨ i = rl + 3 ∨ i = rl + 4
def DF (a1 i : Nat) : Prop := i = a1 ∨ i = 505 ∨ i = 420 ∨ i = 421
theorem gSt_fr {t th m : Nat} {pl : Int32} {r : Nat → Int32} {c c2 : gm} (h : gSt t c th m pl r) (e0 : c2.1 t = c.1 t) (e2 : c2.1 (t + 2) = c.1 (t + 2)) (e3 : c2.1 (t + 3) = c.1 (t + 3)) (e5 : c2.1 (t + 5) = c.1 (t + 5)) : gSt t c2 th m pl r := by
  unfold gSt at h ⊢
  rw [e0, e2, e3, e5]
  exact h
theorem gLw_fr {rl : Nat} {c c2 d d2 : gm} (h : gLw rl c d) (e0 : c2.1 rl = c.1 rl) (e1 : c2.1 (rl + 1) = c.1 (rl + 1)) (e2 : c2.1 (rl + 2) = c.1 (rl + 2)) (e3 : d2.1 55 17 = d.1 55 17) (e4 : ∀ k, k < 160 → d2.1 (85 + k) = d.1 (85 + k)) : gLw rl c2 d2 := by
  obtain ⟨hk, z, mk, op, D, hC, hz, hco, hd⟩ := h
  refine ⟨hk, z, mk, op, D, hC, by rw [e0]; exact hz, by rw [e1, e2]; exact hco, ?_⟩
  rw [e3]
  rcases hd with hd | ⟨a, b, hd⟩
  · exact Or.inl hd
  · refine Or.inr ⟨a, b, fun k hk => ?_⟩
    rw [e4 k (by have := hC.1; omega)]
    exact hd k hk
