set_option maxRecDepth 16384
/-! the pans: the sums of all sets -/
def pSm (r : Nat → Int32) (x k : Nat) : Nat := pF (fun k s => s + if x / 2 ^ k % 2 = 1 then pWt r k else 0) 0 k
theorem pSm_s (r : Nat → Int32) (x k : Nat) : pSm r x (k + 1) = pSm r x k + if x / 2 ^ k % 2 = 1 then pWt r k else 0 := rfl
theorem pSm_b {th m : Nat} {r : Nat → Int32} (h : gRow th m r) (x : Nat) : ∀ k, k ≤ th → pSm r x k ≤ 60 * k := by
  intro k
  induction k with
  | zero => intro _; exact Nat.le_refl 0
  | succ k ih =>
    intro hk
    have := ih (by omega)
    obtain ⟨e, w1, w60⟩ := pWt_e h (show k < th by omega)
    rw [pSm_s]
    by_cases q : x / 2 ^ k % 2 = 1
    · rw [if_pos q]; omega
    · rw [if_neg q]; omega
theorem bt_lo : ∀ a, a < 8 → ∀ u, u < 2 ^ a → u / 2 ^ a % 2 = 0 ∧ (u + 2 ^ a) / 2 ^ a % 2 = 1 ∧ nI u ||| nI (2 ^ a) = nI (u + 2 ^ a) ∧ ∀ j, j < a → (u + 2 ^ a) / 2 ^ j % 2 = u / 2 ^ j % 2 := by decide +kernel
theorem pSm_c {r : Nat → Int32} {x y : Nat} : ∀ k, (∀ j, j < k → x / 2 ^ j % 2 = y / 2 ^ j % 2) → pSm r x k = pSm r y k := by
  intro k
  induction k with
  | zero => intro _; rfl
  | succ k ih => intro h; rw [pSm_s, pSm_s, ih (fun j hj => h j (by omega)), h k (by omega)]
theorem pSm_l {r : Nat → Int32} {a u : Nat} (ha : a < 8) (hu : u < 2 ^ a) : pSm r u (a + 1) = pSm r u a ∧ pSm r (u + 2 ^ a) (a + 1) = pSm r u a + pWt r a := by
  obtain ⟨b1, b2, -, b4⟩ := bt_lo a ha u hu
  refine ⟨?_, ?_⟩
  · rw [pSm_s, if_neg (by omega)]; omega
  · rw [pSm_s, if_pos b2, pSm_c a b4]
theorem p2_9 : ∀ a, a < 9 → 2 ^ a ≤ 256 ∧ 1 ≤ 2 ^ a := by decide
theorem add_in {th m a N : Nat} {pl : Int32} {r : Nat → Int32} {c : gm} (hS : gSt 3 c th m pl r) (hR : gRow th m r) (ha : a < th) (hN : 300 < N) (h : ∀ v, v < 2 ^ a → c.1 24 v = nI (pSm r v a)) : ∃ c2, gloop (gu2 (fun (y10 : Int32) (c11 : gm) => m_X4_addUp_L18 23 3 (nI a) y10 c11)) N (0, c) = some c2 ∧ fr (fun i => i = 24) c c2 ∧ ∀ v, v < 2 ^ (a + 1) → c2.1 24 v = nI (pSm r v (a + 1)) := by
  have h8 := hS.2.1
  have p2 := p2_9 (a + 1) (by omega)
  have pe : 2 ^ (a + 1) = 2 ^ a + 2 ^ a := by rw [Nat.pow_succ]; omega
  obtain ⟨ew, w1, w60⟩ := pWt_e hR ha
  obtain ⟨b, e1, hp⟩ := gloop_inv (f := gu2 (fun (y10 : Int32) (c11 : gm) => m_X4_addUp_L18 23 3 (nI a) y10 c11)) (fun q (A : Int32 × gm) => ∃ k c3, q + k = 2 ^ a ∧ A = (nI k, c3) ∧ fr (fun i => i = 24) c c3 ∧ (∀ v, v < 2 ^ a → c3.1 24 v = nI (pSm r v a)) ∧ ∀ u, u < k → c3.1 24 (u + 2 ^ a) = nI (pSm r u a + pWt r a)) (fun c2 => fr (fun i => i = 24) c c2 ∧ ∀ v, v < 2 ^ (a + 1) → c2.1 24 v = nI (pSm r v (a + 1))) (by
    rintro q A ⟨k, c3, hk, rfl, f3, g1, g2⟩
    by_cases qk : k < 2 ^ a
    · left
      obtain ⟨-, -, b3, -⟩ := bt_lo a (by omega) k qk
      have hw : m_X6_weightOf 3 (nI a) c3 = some (nI (pWt r a)) := by
        rw [cs_weight (gSt_fr hS (f3.1 _ (by omega)) (f3.1 _ (by omega)) (f3.1 _ (by omega)) (f3.1 _ (by omega))) ha, ew]
      have hb := pSm_b hR k a (by omega)
      refine ⟨(nI (k + 1), gm_r c3 24 (upd (c3.1 24) (k + 2 ^ a) (nI (pSm r k a + pWt r a)))), 2 ^ a - (k + 1), ?_, by omega, k + 1, _, by omega, rfl, ⟨fun i hi => by rw [gr_n _ _ hi, f3.1 i hi], f3.2⟩, fun v hv => by rw [gr_s, up_n _ _ (by omega)]; exact g1 v hv, fun u hu => ?_⟩
      · show m_X4_addUp_L18 23 3 (nI a) (nI k) c3 = _
        unfold m_X4_addUp_L18
        rw [sh_th a (by omega), if_neg (by rw [n_le (by omega) (by omega)]; omega), gc_1 (show gck 23 = 4 from rfl), gc_1 (n_rg (by omega) (by omega)), gb_x hw, b3, gc_1 (n_rg (by omega) (by omega)), gv_e, gv_e, n_cl (by omega), n_cl (by omega), n_s, show c3.1 (23 + 1) k = nI (pSm r k a) from g1 k qk, n_ad]
      · rw [gr_s]
        by_cases e : u = k
        · subst e; rw [up_s]
        · rw [up_n _ _ (by omega)]; exact g2 u (by omega)
    · right
      refine ⟨c3, ?_, f3, fun v hv => ?_⟩
      · show m_X4_addUp_L18 23 3 (nI a) (nI k) c3 = _
        unfold m_X4_addUp_L18
        rw [sh_th a (by omega), if_pos (by rw [n_le (by omega) (by omega)]; omega)]
      · by_cases e : v < 2 ^ a
        · rw [g1 v e, (pSm_l (r := r) (by omega) e).1]
        · have := g2 (v - 2 ^ a) (by omega)
          have l := (pSm_l (r := r) (a := a) (u := v - 2 ^ a) (by omega) (by omega)).2
          rw [show v - 2 ^ a + 2 ^ a = v by omega] at this l
          rw [this, l]) (n := N) (r := 2 ^ a) (a := (0, c)) ⟨0, c, by omega, rfl, ⟨fun _ _ => rfl, rfl⟩, h, fun u hu => by omega⟩ (by omega)
  exact ⟨b, e1, hp⟩
theorem add_up {th m N : Nat} {pl : Int32} {r : Nat → Int32} {c : gm} (hS : gSt 3 c th m pl r) (hR : gRow th m r) (hN : 300 < N) (h0 : c.1 24 0 = 0) : ∃ c2, m_X4_addUp N 23 3 c = some c2 ∧ fr (fun i => i = 24) c c2 ∧ c2.1 24 0 = 0 ∧ ∀ v, v < 2 ^ th → c2.1 24 v = nI (pSm r v th) := by
  have h8 := hS.2.1
  have h5 := hS.2.2.1
  obtain ⟨b, e1, hp⟩ := gloop_inv (f := gu2 (fun (y2 : Int32) (c3 : gm) => m_X4_addUp_L2 N 23 3 y2 c3)) (fun q (A : Int32 × gm) => ∃ k c3, q + k = th ∧ A = (nI k, c3) ∧ fr (fun i => i = 24) c c3 ∧ ∀ v, v < 2 ^ k → c3.1 24 v = nI (pSm r v k)) (fun c2 => fr (fun i => i = 24) c c2 ∧ ∀ v, v < 2 ^ th → c2.1 24 v = nI (pSm r v th)) (by
    rintro q A ⟨k, c3, hk, rfl, f3, g1⟩
    have hS3 : gSt 3 c3 th m pl r := gSt_fr hS (f3.1 _ (by omega)) (f3.1 _ (by omega)) (f3.1 _ (by omega)) (f3.1 _ (by omega))
    by_cases qk : k < th
    · left
      obtain ⟨c4, e4, f4, g4⟩ := add_in hS3 hR qk hN g1
      refine ⟨(nI (k + 1), c4), th - (k + 1), ?_, by omega, k + 1, c4, by omega, rfl, ⟨fun i hi => by rw [f4.1 i hi, f3.1 i hi], by rw [f4.2, f3.2]⟩, g4⟩
      show m_X4_addUp_L2 N 23 3 (nI k) c3 = _
      unfold m_X4_addUp_L2
      rw [gc_1 (show gck 3 = 6 from rfl), hS3.2.2.1, if_neg (by rw [n_le (by omega) (by omega)]; omega), if_neg (by rw [n_l8, n_le (by decide) (by omega)]; omega), gb_x e4, gv_e, n_s]
    · right
      have : k = th := by omega
      subst this
      refine ⟨c3, ?_, f3, g1⟩
      show m_X4_addUp_L2 N 23 3 (nI k) c3 = _
      unfold m_X4_addUp_L2
      rw [gc_1 (show gck 3 = 6 from rfl), hS3.2.2.1, if_pos (by rw [n_le (by omega) (by omega)]; omega)]) (n := N) (r := th) (a := (0, c)) ⟨0, c, by omega, rfl, ⟨fun _ _ => rfl, rfl⟩, fun v hv => by rw [show v = 0 by omega]; exact h0⟩ (by omega)
  refine ⟨b, ?_, hp.1, ?_, hp.2⟩
  · unfold m_X4_addUp
    rw [show ((0 : Int32), c) = (0, c) from rfl, gb_x e1]
  · have z : ∀ k, pSm r 0 k = 0 := by
      intro k
      induction k with
      | zero => rfl
      | succ k ih => rw [pSm_s, ih, if_neg (by rw [Nat.zero_div]; decide)]
    rw [hp.2 0 (by have := p2_9 th (by omega); omega), z th]; rfl
/-- the sum as the class looks it up -/
theorem sumof_c {th v : Nat} {r : Nat → Int32} {c : gm} (h : ∀ v, v < 2 ^ th → c.1 24 v = nI (pSm r v th)) (h8 : th ≤ 8) (hv : v < 2 ^ th) : m_X4_sumOf 23 (nI v) c = some (nI (pSm r v th)) := by
  have := p2_9 th (by omega)
  unfold m_X4_sumOf
  rw [if_neg (by rw [n_l0, n_lt (by omega) (by decide)]; omega), gc_1 (show gck 23 = 4 from rfl), if_neg (by rw [n_le (by omega) (by omega)]; omega), gc_1 (n_rg (by omega) (by omega)), n_cl (by omega), show c.1 (23 + 1) v = c.1 24 v from rfl, h v hv]
/-- the sum as the reference reckons it -/
theorem heavy_d {th m v N : Nat} {d : gm} (hR : gRow th m (d.1 503)) (h59 : d.1 59 0 = nI th) (h8 : th ≤ 8) (hv : v < 256) (hN : 20 < N) : m_X10_heavy N 55 (nI v) d = some (nI (pSm (d.1 503) v th)) := by
  have e := gloop_run (f := gu2 (fun (y2 : Int32) (y3 : Int32) => m_X10_heavy_L4 55 (nI v) d y2 y3)) (fun k => (nI (pSm (d.1 503) v k), nI k)) th (nI (pSm (d.1 503) v th)) (fun k hk => by
    obtain ⟨ew, w1, w60⟩ := pWt_e hR hk
    show m_X10_heavy_L4 55 (nI v) d (nI (pSm (d.1 503) v k)) (nI k) = _
    unfold m_X10_heavy_L4; simp only [gj_e]
    rw [gc_1 (show gck 55 = 10 from rfl), n_cl0, h59, if_neg (show ¬ nI th ≤ nI k by rw [n_le (by omega) (by omega)]; omega), gb_x (has_e hv (by omega)), pSm_s, show (0 : Int32) + nI k = nI k by rw [n_l0, n_ad, Nat.zero_add]]
    by_cases q : v / 2 ^ k % 2 = 1
    · rw [if_pos q, if_pos q, if_neg (show ¬ (1 : Int32) = 0 by decide), gc_1 (n_rg (by omega) (by omega)), gv_e, gv_e, n_cl (by omega), ew, n_ad, n_s]
    · rw [if_neg q, if_neg q, if_pos (show (0 : Int32) = 0 from rfl), gv_e, gv_e, n_s, show nI (pSm (d.1 503) v k) + 0 = nI (pSm (d.1 503) v k + 0) by rw [n_l0, n_ad]]) (by
    show m_X10_heavy_L4 55 (nI v) d (nI (pSm (d.1 503) v th)) (nI th) = _
    unfold m_X10_heavy_L4
    rw [gc_1 (show gck 55 = 10 from rfl), n_cl0, h59, if_pos (by rw [n_le (by omega) (by omega)]; omega)]) (n := N) (by omega)
  unfold m_X10_heavy
  rw [show ((0 : Int32), (0 : Int32)) = (nI (pSm (d.1 503) v 0), nI 0) from rfl, gb_x e]
