set_option maxRecDepth 16384
/-! match and fewest: the class's amounts -/
theorem pSm_0 (r : Nat → Int32) : ∀ k, pSm r 0 k = 0 := by
  intro k
  induction k with
  | zero => rfl
  | succ k ih => rw [pSm_s, ih, Nat.zero_div, if_neg (by omega)]
theorem am_e {s t n : Nat} (hs : s < 10000) (ht : t < 10000) (hn : n < 10000) : ((2 * nI s) - nI t = nI n) ↔ 2 * s = t + n := by
  rw [show (2 : Int32) = nI 2 from rfl, n_mu, ← Int32.toInt_inj, i_sub (by omega) (by omega), n_ti (by omega)]
  omega
theorem makes_c {th u n N : Nat} {r : Nat → Int32} {c : gm} (hb : ∀ v, pSm r v th < 1000) (g : ∀ v, v < 2 ^ th → c.1 24 v = nI (pSm r v th)) (h8 : th ≤ 8) (hu : u < 2 ^ th) (hn1 : 1 ≤ n) (hn : n ≤ 480) (hN : 600 < N) : ((∃ l, l &&& u = l ∧ 2 * pSm r l th = pSm r u th + n) ∧ m_X4_makes N 23 (nI u) (nI n) c = some 1) ∨ (¬ (∃ l, l &&& u = l ∧ 2 * pSm r l th = pSm r u th + n) ∧ m_X4_makes N 23 (nI u) (nI n) c = some 0) := by
  have p2 := p2_9 th (by omega)
  obtain ⟨b, e1, hp⟩ := gloop_inv (f := fun (y2 : Int32) => m_X4_makes_L2 23 (nI u) (nI n) c y2) (fun q (A : Int32) => ∃ y, q = y ∧ A = nI y ∧ y &&& u = y ∧ ∀ z, y < z → z &&& u = z → ¬ 2 * pSm r z th = pSm r u th + n) (fun (b : Int32 ⊕ Unit) => ((∃ l, l &&& u = l ∧ 2 * pSm r l th = pSm r u th + n) ∧ b = .inl 1) ∨ (¬ (∃ l, l &&& u = l ∧ 2 * pSm r l th = pSm r u th + n) ∧ b = .inr ())) (by
    rintro q A ⟨y, rfl, rfl, hs, hz⟩
    by_cases q0 : q = 0
    · right
      refine ⟨.inr (), ?_, Or.inr ⟨fun ⟨l, l1, l2⟩ => ?_, rfl⟩⟩
      · show m_X4_makes_L2 23 (nI u) (nI n) c (nI q) = _
        unfold m_X4_makes_L2
        rw [if_pos (by rw [q0]; decide)]
      · by_cases ql : l = 0
        · rw [ql, pSm_0] at l2; omega
        · exact hz l (by omega) l1 l2
    have hyx := sub_l hs
    have n0 : ¬ nI q ≤ 0 := by rw [show (0 : Int32) = nI 0 from rfl, n_le (by omega) (by omega)]; omega
    obtain ⟨s1, s2, s3, s4⟩ := sw (x := u) (y := q) (by omega) hyx (by omega) hs
    by_cases qe : 2 * pSm r q th = pSm r u th + n
    · right
      refine ⟨.inl 1, ?_, Or.inl ⟨⟨q, hs, qe⟩, rfl⟩⟩
      show m_X4_makes_L2 23 (nI u) (nI n) c (nI q) = _
      unfold m_X4_makes_L2
      rw [if_neg n0, gc_1 (show gck 23 = 4 from rfl), gb_x (sumof_c g h8 (by omega)), gb_x (sumof_c g h8 hu), if_pos ((am_e (by have := hb q; omega) (by have := hb u; omega) (by omega)).2 qe)]
    · left
      refine ⟨nI ((q - 1) &&& u), (q - 1) &&& u, ?_, s1, _, rfl, rfl, s2, fun z hz1 hz2 => ?_⟩
      · show m_X4_makes_L2 23 (nI u) (nI n) c (nI q) = _
        unfold m_X4_makes_L2
        rw [if_neg n0, gc_1 (show gck 23 = 4 from rfl), gb_x (sumof_c g h8 (by omega)), gb_x (sumof_c g h8 hu), if_neg (fun z => qe ((am_e (by have := hb q; omega) (by have := hb u; omega) (by omega)).1 z)), gv_e, s4]
      · by_cases e : z = q
        · rw [e]; exact qe
        · by_cases e2 : z < q
          · have := s3 z hz2 e2; omega
          · exact hz z (by omega) hz2) (n := N) (r := u) (a := nI u) ⟨u, rfl, rfl, Nat.and_self u, fun z h1 h2 => by have := sub_l h2; omega⟩ (by omega)
  unfold m_X4_makes
  rw [gb_x e1]
  rcases hp with ⟨h, rfl⟩ | ⟨h, rfl⟩
  · exact Or.inl ⟨h, rfl⟩
  · exact Or.inr ⟨h, rfl⟩
theorem fw_c {th m n N : Nat} {pl : Int32} {r : Nat → Int32} {c : gm} (hS : gSt 3 c th m pl r) (hR : gRow th m r) (hN : 600 < N) (h0 : c.1 24 0 = 0) (hn1 : 1 ≤ n) (hn : n ≤ 480) : ∃ w c2, m_X4_fewestFor N 23 3 (nI n) c = some (w, c2) ∧ fr (fun i => i = 24) c c2 ∧ c2.1 24 0 = 0 ∧ ((w = -1 ∧ ∀ z, ¬ gMak r th (2 ^ th - 1) n z) ∨ ∃ b, b < 256 ∧ w = nI b ∧ gLv (gMak r th (2 ^ th - 1) n) pOn b) := by
  have h8 := hS.2.1
  have p2 := p2_9 th (by omega)
  obtain ⟨c5, e5, f5, z5, g5⟩ := add_up (N := N) hS hR (by omega) h0
  have hb : ∀ v, pSm r v th < 1000 := fun v => by have := pSm_b hR v th (Nat.le_refl _); omega
  have c55 : c5.1 3 5 = nI th := by rw [f5.1 3 (by omega)]; exact hS.2.2.1
  have hM : ∀ z, z < 2 ^ th → (gMak r th (2 ^ th - 1) n z ↔ ∃ l, l &&& z = l ∧ 2 * pSm r l th = pSm r z th + n) := fun z hz => ⟨fun h => h.2.2, fun h => ⟨hz, by rw [Nat.and_two_pow_sub_one_eq_mod, Nat.mod_eq_of_lt hz], h⟩⟩
  have hM0 : ¬ gMak r th (2 ^ th - 1) n 0 := by
    rintro ⟨-, -, l, l1, l2⟩
    have : l = 0 := by have := sub_l l1; omega
    rw [this, pSm_0] at l2
    omega
  obtain ⟨w, e1, hp⟩ := gloop_inv (f := gu2 (fun (y7 : Int32) (y8 : Int32) => m_X4_fewestFor_L10 N 23 3 (nI n) c5 y7 y8)) (fun q (A : Int32 × Int32) => ∃ i w, q + i = 2 ^ th ∧ 1 ≤ i ∧ A = (w, nI i) ∧ ((w = -1 ∧ ∀ z, z < i → ¬ gMak r th (2 ^ th - 1) n z) ∨ ∃ b, b < i ∧ w = nI b ∧ gLv (fun z => z < i ∧ gMak r th (2 ^ th - 1) n z) pOn b)) (fun (w : Int32) => (w = -1 ∧ ∀ z, ¬ gMak r th (2 ^ th - 1) n z) ∨ ∃ b, b < 256 ∧ w = nI b ∧ gLv (gMak r th (2 ^ th - 1) n) pOn b) (by
    rintro q A ⟨i, w, hi, hi1, rfl, hp⟩
    by_cases qi : i < 2 ^ th
    rotate_left
    · right
      refine ⟨w, ?_, ?_⟩
      · show m_X4_fewestFor_L10 N 23 3 (nI n) c5 w (nI i) = _
        unfold m_X4_fewestFor_L10
        rw [gc_1 (show gck 3 = 6 from rfl), c55, sh_th th (by omega), if_pos (by rw [n_le (by omega) (by omega)]; omega)]
      · rcases hp with ⟨h1, h2⟩ | ⟨b, hb, h1, h2⟩
        · exact Or.inl ⟨h1, fun z hz => h2 z (by have := hz.1; omega) hz⟩
        · exact Or.inr ⟨b, by omega, h1, h2.1.2, fun z hz => h2.2 z ⟨by have := hz.1; omega, hz⟩⟩
    left
    have ni : ¬ nI (2 ^ th) ≤ nI i := by rw [n_le (by omega) (by omega)]; omega
    have oi := pOn_b (show i < 256 by omega)
    have X0 : m_X4_fewestFor_L10 N 23 3 (nI n) c5 w (nI i) = (if w = -1 then gb (m_X4_makes N 23 (nI i) (nI n) c5) (fun (r20 : Int32) => (if r20 = 0 then some (.inl (w, nI (i + 1))) else some (.inl (nI i, nI (i + 1))))) else gb (m_J6_bitCount_0f7a4 w) (fun (r27 : Int32) => (if r27 ≤ nI (pOn i) then some (.inl (w, nI (i + 1))) else gb (m_X4_makes N 23 (nI i) (nI n) c5) (fun (r20 : Int32) => (if r20 = 0 then some (.inl (w, nI (i + 1))) else some (.inl (nI i, nI (i + 1)))))))) := by
      unfold m_X4_fewestFor_L10; simp only [gj_e]
      rw [gc_1 (show gck 3 = 6 from rfl), c55, sh_th th (by omega), if_neg ni, gb_x (bc_on i (by omega)), n_s]
      rfl
    have skip : ¬ gMak r th (2 ^ th - 1) n i → ((w = -1 ∧ ∀ z, z < i + 1 → ¬ gMak r th (2 ^ th - 1) n z) ∨ ∃ b, b < i + 1 ∧ w = nI b ∧ gLv (fun z => z < i + 1 ∧ gMak r th (2 ^ th - 1) n z) pOn b) := by
      intro hno
      rcases hp with ⟨h1, h2⟩ | ⟨b, hb, h1, h2⟩
      · refine Or.inl ⟨h1, fun z hz hl => ?_⟩
        by_cases e : z = i
        · rw [e] at hl; exact hno hl
        · exact h2 z (by omega) hl
      · refine Or.inr ⟨b, by omega, h1, ⟨by omega, h2.1.2⟩, fun z ⟨z1, z2⟩ => ?_⟩
        by_cases e : z = i
        · rw [e] at z2; exact absurd z2 hno
        · exact h2.2 z ⟨by omega, z2⟩
    have mk := makes_c (N := N) (c := c5) hb g5 h8 qi hn1 hn hN
    rcases hp with ⟨h1, h2⟩ | ⟨b, hbi, h1, h2⟩
    · rw [if_pos h1] at X0
      rcases mk with ⟨k1, k2⟩ | ⟨k1, k2⟩
      · refine ⟨(nI i, nI (i + 1)), 2 ^ th - (i + 1), ?_, by omega, i + 1, nI i, by omega, by omega, rfl, Or.inr ⟨i, by omega, rfl, ⟨by omega, (hM i qi).2 k1⟩, fun z ⟨z1, z2⟩ => ?_⟩⟩
        · show m_X4_fewestFor_L10 N 23 3 (nI n) c5 w (nI i) = _
          rw [X0, gb_x k2, if_neg (by decide)]
        · by_cases e : z = i
          · rw [e]; exact Or.inr ⟨rfl, Nat.le_refl _⟩
          · exact absurd z2 (h2 z (by omega))
      · refine ⟨(w, nI (i + 1)), 2 ^ th - (i + 1), ?_, by omega, i + 1, w, by omega, by omega, rfl, skip (fun z => k1 ((hM i qi).1 z))⟩
        show m_X4_fewestFor_L10 N 23 3 (nI n) c5 w (nI i) = _
        rw [X0, gb_x k2, if_pos rfl]
    · have ob := pOn_b (show b < 256 by omega)
      have nw : ¬ w = -1 := by rw [h1, n_ne (by omega)]; exact fun z => z
      rw [if_neg nw, h1, gb_x (bc_on b (by omega))] at X0
      by_cases qo : pOn b ≤ pOn i
      · refine ⟨(w, nI (i + 1)), 2 ^ th - (i + 1), ?_, by omega, i + 1, w, by omega, by omega, rfl, Or.inr ⟨b, by omega, h1, ⟨by omega, h2.1.2⟩, fun z ⟨z1, z2⟩ => ?_⟩⟩
        · show m_X4_fewestFor_L10 N 23 3 (nI n) c5 w (nI i) = _
          rw [h1, X0, if_pos (by rw [n_le (by omega) (by omega)]; exact qo)]
        · by_cases e : z = i
          · rw [e]; omega
          · exact h2.2 z ⟨by omega, z2⟩
      · have no : ¬ nI (pOn b) ≤ nI (pOn i) := by rw [n_le (by omega) (by omega)]; exact qo
        rcases mk with ⟨k1, k2⟩ | ⟨k1, k2⟩
        · refine ⟨(nI i, nI (i + 1)), 2 ^ th - (i + 1), ?_, by omega, i + 1, nI i, by omega, by omega, rfl, Or.inr ⟨i, by omega, rfl, ⟨by omega, (hM i qi).2 k1⟩, fun z ⟨z1, z2⟩ => ?_⟩⟩
          · show m_X4_fewestFor_L10 N 23 3 (nI n) c5 w (nI i) = _
            rw [h1, X0, if_neg no, gb_x k2, if_neg (by decide)]
          · by_cases e : z = i
            · rw [e]; exact Or.inr ⟨rfl, Nat.le_refl _⟩
            · have := h2.2 z ⟨by omega, z2⟩
              omega
        · refine ⟨(w, nI (i + 1)), 2 ^ th - (i + 1), ?_, by omega, i + 1, w, by omega, by omega, rfl, ?_⟩
          · show m_X4_fewestFor_L10 N 23 3 (nI n) c5 w (nI i) = _
            rw [h1, X0, if_neg no, gb_x k2, if_pos rfl]
          · exact skip (fun z => k1 ((hM i qi).1 z))) (n := N) (r := 2 ^ th - 1) (a := ((-1), 1)) ⟨1, -1, by omega, by omega, rfl, Or.inl ⟨rfl, fun z hz => by rw [show z = 0 by omega]; exact hM0⟩⟩ (by omega)
  refine ⟨w, c5, ?_, f5, z5, hp⟩
  unfold m_X4_fewestFor
  rw [gc_1 (show gck 23 = 4 from rfl), gb_x e5, gb_x e1]
theorem fewest_two {th m p n : Nat} {c d : gm} (h : gRl th m p c d) (hn : 1100 < n) (a : Int32) : gAns 1 0 (m_X9_fewest n 0 a c) (m_X10_fewest n 55 a d) := by
  have hZ := gRl_dZ h
  have z0 := dZ_0 d
  obtain ⟨hP, hp, ⟨hS, hRw, hM, hL⟩, hTo, hTp, hCn, hBk, hPs, hIm⟩ := id hZ
  have h8 := hS.2.1
  have p2 := p2_9 th (by omega)
  obtain ⟨m0, m3, -⟩ := id hM
  by_cases qa : 1 ≤ a ∧ a ≤ 480
  rotate_left
  · have eI : m_X10_in a 1 480 = some 0 := in_0 qa
    refine ans_i (v := 0) (d := d) hZ (by decide) ?_ ?_
    · unfold m_X9_fewest; simp only [gj_e]
      rw [gc_1 (show gck 0 = 9 from rfl), gc_1 (show gck 0 = 9 from rfl)]
      by_cases q : a < 1
      · rw [if_pos q, gbx_x2 (dm_0 c)]
      · rw [if_neg q, if_pos (Int32.not_le.mp (fun z => qa ⟨Int32.not_lt.mp q, z⟩)), gbx_x2 (dm_0 c)]
    · unfold m_X10_fewest; simp only [gj_e]
      rw [gc_1 (show gck 55 = 10 from rfl), gv_e, show gm_r d 55 (upd (d.1 55) 0 0) = dZ d from rfl, gb_x eI, if_pos rfl, gb2_x (bd_i z0 (by decide)), if_neg (by decide)]
  have eI : m_X10_in a 1 480 = some 1 := in_1 qa
  obtain ⟨k, hk, rfl⟩ := i_ex (y := 480) (by omega) ⟨Int32.le_trans (by decide) qa.1, qa.2⟩
  have hk1 : 1 ≤ k := by have := qa.1; rw [show (1 : Int32) = nI 1 from rfl, n_le (by omega) (by omega)] at this; exact this
  obtain ⟨w, c2, e1, f1, z1, hc⟩ := fw_c (N := n) hS hRw (by omega) hTo.2 hk1 hk
  obtain ⟨d2, e2, hd, f2⟩ := amt_d (N := n) (x := 2 ^ th - 1) hRw m0 h8 (by omega) (by omega)
  have hG : gRl th m p c2 d2 := gRl_pn hZ ⟨fun i hi => f1.1 i (by omega), f1.2⟩ z1 (fun i hi => f2.1 i (fun q => hi (by unfold SD; omega))) (fun k _ => by rw [f2.1 55 (by omega)])
  have ew : d2.1 528 k = w := by
    rcases hc with ⟨k3, kn⟩ | ⟨y, hy, k3, kl⟩
    · rcases hd k hk1 hk with ⟨l3, ln⟩ | ⟨y', hy', l3, ll⟩
      · rw [k3, l3]
      · exact absurd ll.1 (kn y')
    · rcases hd k hk1 hk with ⟨l3, ln⟩ | ⟨y', hy', l3, ll⟩
      · exact absurd kl.1 (ln y)
      · rw [k3, l3, gLv_u kl ll]
  refine ans_o (r := w) hG (by rw [f2.1 55 (by omega)]; exact z0) ?_ ?_
  · unfold m_X9_fewest; simp only [gj_e]
    rw [gc_1 (show gck 0 = 9 from rfl), gc_1 (show gck 0 = 9 from rfl), if_neg (Int32.not_lt.mpr qa.1), if_neg (Int32.not_lt.mpr qa.2), gbx_x1 (dm_1 c), gb2_x e1, gok_e]
  · unfold m_X10_fewest; simp only [gj_e]
    rw [gc_1 (show gck 55 = 10 from rfl), gv_e, show gm_r d 55 (upd (d.1 55) 0 0) = dZ d from rfl, gb_x eI, if_neg (by decide), gb2_x (bd_0 z0), if_pos rfl, gb_x (ev_e h8 m0), gb_x e2, gc_1 (n_rg (by omega) (by omega)), n_cl (by omega), ew]
