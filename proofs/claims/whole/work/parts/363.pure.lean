set_option maxRecDepth 16384
/-! level -/
theorem i_sub {a b : Nat} (ha : a < 1000000) (hb : b < 1000000) : (nI a - nI b).toInt = (a : Int) - b := by
  rw [Int32.toInt_sub, n_ti (by omega), n_ti (by omega)]
  exact Int.bmod_eq_of_le (by omega) (by omega)
theorem i_0 : (0 : Int32).toInt = 0 := rfl
def dif (s t : Nat) : Nat := if t ≤ s then s - t else t - s
theorem ab_c {s t : Nat} (hs : s < 10000) (ht : t < 10000) : (if (0 : Int32) ≤ (2 * nI s) - nI t then (2 * nI s) - nI t else 0 - ((2 * nI s) - nI t)) = nI (dif (2 * s) t) := by
  rw [show (2 : Int32) = nI 2 from rfl, n_mu]
  unfold dif
  by_cases q : t ≤ 2 * s
  · rw [if_pos q, if_pos (by rw [Int32.le_iff_toInt_le, i_0, i_sub (by omega) (by omega)]; omega), n_su q]
  · rw [if_neg q, if_neg (by rw [Int32.le_iff_toInt_le, i_0, i_sub (by omega) (by omega)]; omega), Int32.zero_sub, Int32.neg_sub, n_su (by omega)]
theorem ab_d {s t : Nat} (hs : s < 10000) (ht : t < 10000) (h : s ≤ t) : m_X10_more (nI s - nI (t - s)) (nI (t - s) - nI s) = some (nI (dif (2 * s) t)) := by
  unfold m_X10_more dif
  by_cases q : t ≤ 2 * s
  · rw [if_pos q]
    by_cases q2 : nI s - nI (t - s) ≤ nI (t - s) - nI s
    · rw [if_pos q2]
      rw [Int32.le_iff_toInt_le, i_sub (by omega) (by omega), i_sub (by omega) (by omega)] at q2
      rw [n_su (by omega), show t - s - s = 2 * s - t by omega]
    · rw [if_neg q2, n_su (by omega), show s - (t - s) = 2 * s - t by omega]
  · rw [if_neg q, if_pos (by rw [Int32.le_iff_toInt_le, i_sub (by omega) (by omega), i_sub (by omega) (by omega)]; omega), n_su (by omega), show t - s - s = t - 2 * s by omega]
/-- the sets that may lie on the one pan -/
def gLy (x y : Nat) : Prop := 1 ≤ y ∧ y &&& x = y ∧ ¬ (nI y &&& (nI x &&& -nI x) = 0)
theorem sub_l {x y : Nat} (h : y &&& x = y) : y ≤ x := by
  have : y &&& x ≤ x := Nat.and_le_right
  omega
theorem lay_c {th m x N : Nat} {pl : Int32} {r : Nat → Int32} {c : gm} (hS : gSt 3 c th m pl r) (hR : gRow th m r) (hN : 600 < N) (h0 : c.1 24 0 = 0) (hx : x < 2 ^ th) : ∃ c2, m_X4_layLevel N 23 3 (nI x) c = some c2 ∧ fr (fun i => i = 23 ∨ i = 24) c c2 ∧ c2.1 24 0 = 0 ∧ ((c2.1 23 3 = 0 ∧ c2.1 23 2 = 0 ∧ ∀ y, ¬ gLy x y) ∨ ∃ b, c2.1 23 3 = nI b ∧ c2.1 23 2 = nI (dif (2 * pSm r b th) (pSm r x th)) ∧ gLv (gLy x) (fun y => dif (2 * pSm r y th) (pSm r x th)) b) := by
  have h8 := hS.2.1
  have p2 := p2_9 th (by omega)
  obtain ⟨c5, e5, f5, z5, g5⟩ := add_up (N := N) hS hR (by omega) h0
  obtain ⟨c6, ec6⟩ : ∃ z, z = gm_r c5 23 (upd (c5.1 23) 2 0) := ⟨_, rfl⟩
  obtain ⟨c7, ec7⟩ : ∃ z, z = gm_r c6 23 (upd (c6.1 23) 3 0) := ⟨_, rfl⟩
  have c72 : c7.1 23 2 = 0 := by rw [ec7, gr_s, up_n _ _ (show 2 ≠ 3 by omega), ec6, gr_s, up_s]
  have c73 : c7.1 23 3 = 0 := by rw [ec7, gr_s, up_s]
  have c7o : ∀ i, i ≠ 23 → c7.1 i = c5.1 i := fun i hi => by rw [ec7, gr_n _ _ hi, ec6, gr_n _ _ hi]
  have c7f : fr (fun i => i = 23) c5 c7 := ⟨fun i hi => c7o i hi, by rw [ec7, ec6]; rfl⟩
  obtain ⟨b, e1, hf, hp⟩ := gloop_inv (f := gu2 (fun (y10 : Int32) (c11 : gm) => m_X4_layLevel_L23 23 (nI x) (nI x &&& -nI x) y10 c11)) (fun q (A : Int32 × gm) => ∃ y c3, q = y ∧ A = (nI y, c3) ∧ y &&& x = y ∧ fr (fun i => i = 23) c5 c3 ∧ ((c3.1 23 3 = 0 ∧ c3.1 23 2 = 0 ∧ ∀ z, y < z → ¬ gLy x z) ∨ ∃ b, c3.1 23 3 = nI b ∧ c3.1 23 2 = nI (dif (2 * pSm r b th) (pSm r x th)) ∧ gLv (fun z => y < z ∧ gLy x z) (fun y => dif (2 * pSm r y th) (pSm r x th)) b)) (fun c2 => fr (fun i => i = 23) c5 c2 ∧ ((c2.1 23 3 = 0 ∧ c2.1 23 2 = 0 ∧ ∀ y, ¬ gLy x y) ∨ ∃ b, c2.1 23 3 = nI b ∧ c2.1 23 2 = nI (dif (2 * pSm r b th) (pSm r x th)) ∧ gLv (gLy x) (fun y => dif (2 * pSm r y th) (pSm r x th)) b)) (by
    rintro q A ⟨y, c3, rfl, rfl, hs, f3, hp⟩
    by_cases q0 : q = 0
    · right
      refine ⟨c3, ?_, f3, ?_⟩
      · show m_X4_layLevel_L23 23 (nI x) (nI x &&& -nI x) (nI q) c3 = _
        unfold m_X4_layLevel_L23
        rw [if_pos (by rw [q0]; decide)]
      · rcases hp with ⟨h3, h2, hn⟩ | ⟨b, h3, h2, hl⟩
        · exact Or.inl ⟨h3, h2, fun z hz => hn z (by have := hz.1; omega) hz⟩
        · exact Or.inr ⟨b, h3, h2, hl.1.2, fun z hz => hl.2 z ⟨by have := hz.1; omega, hz⟩⟩
    left
    have hyx := sub_l hs
    obtain ⟨s1, s2, s3, s4⟩ := sw (x := x) (y := q) (by omega) hyx (by omega) hs
    have g3 : ∀ v, v < 2 ^ th → c3.1 24 v = nI (pSm r v th) := fun v hv => by rw [f3.1 24 (by omega)]; exact g5 v hv
    have by1 := pSm_b hR q th (Nat.le_refl _)
    have by2 := pSm_b hR x th (Nat.le_refl _)
    obtain ⟨D, eD⟩ : ∃ z, z = dif (2 * pSm r q th) (pSm r x th) := ⟨_, rfl⟩
    have hD : D < 100000 := by rw [eD]; unfold dif; split <;> omega
    have X0 : m_X4_layLevel_L23 23 (nI x) (nI x &&& -nI x) (nI q) c3 = (if nI q &&& (nI x &&& -nI x) = 0 then some (.inl (nI ((q - 1) &&& x), c3)) else (if c3.1 23 3 = 0 then some (.inl (nI ((q - 1) &&& x), gm_r (gm_r c3 23 (upd (c3.1 23) 2 (nI D))) 23 (upd ((gm_r c3 23 (upd (c3.1 23) 2 (nI D))).1 23) 3 (nI q)))) else (if c3.1 23 2 < nI D then some (.inl (nI ((q - 1) &&& x), c3)) else some (.inl (nI ((q - 1) &&& x), gm_r (gm_r c3 23 (upd (c3.1 23) 2 (nI D))) 23 (upd ((gm_r c3 23 (upd (c3.1 23) 2 (nI D))).1 23) 3 (nI q))))))) := by
      unfold m_X4_layLevel_L23; simp only [gj_e]
      rw [if_neg (by rw [show (0 : Int32) = nI 0 from rfl, n_le (by omega) (by omega)]; omega), gb_x (sumof_c g3 h8 (by omega)), gb_x (sumof_c g3 h8 hx), ab_c (by omega) (by omega), ← eD, gv_e, s4]
      rfl
    by_cases qn : nI q &&& (nI x &&& -nI x) = 0
    · refine ⟨(nI ((q - 1) &&& x), c3), (q - 1) &&& x, ?_, s1, _, c3, rfl, rfl, s2, f3, ?_⟩
      · show m_X4_layLevel_L23 23 (nI x) (nI x &&& -nI x) (nI q) c3 = _
        rw [X0, if_pos qn]
      · have key : ∀ z, (q - 1) &&& x < z → gLy x z → q < z := by
          intro z hz hl
          by_cases e : z = q
          · rw [e] at hl; exact absurd qn hl.2.2
          · by_cases e2 : z < q
            · have := s3 z hl.2.1 e2; omega
            · omega
        rcases hp with ⟨h3, h2, hn⟩ | ⟨b, h3, h2, hl⟩
        · exact Or.inl ⟨h3, h2, fun z hz hl => hn z (key z hz hl) hl⟩
        · exact Or.inr ⟨b, h3, h2, ⟨by have := hl.1.1; omega, hl.1.2⟩, fun z hz => hl.2 z ⟨key z hz.1 hz.2, hz.2⟩⟩
    have hq : gLy x q := ⟨by omega, hs, qn⟩
    obtain ⟨c4, ec4⟩ : ∃ z, z = gm_r (gm_r c3 23 (upd (c3.1 23) 2 (nI D))) 23 (upd ((gm_r c3 23 (upd (c3.1 23) 2 (nI D))).1 23) 3 (nI q)) := ⟨_, rfl⟩
    rw [← ec4] at X0
    have f4 : fr (fun i => i = 23) c5 c4 := ⟨fun i hi => by rw [ec4, gr_n _ _ hi, gr_n _ _ hi]; exact f3.1 i hi, by rw [ec4]; exact f3.2⟩
    have c43 : c4.1 23 3 = nI q := by rw [ec4, gr_s, up_s]
    have c42 : c4.1 23 2 = nI D := by rw [ec4, gr_s, up_n _ _ (show 2 ≠ 3 by omega), gr_s, up_s]
    have take : (∀ z, q < z → gLy x z → D ≤ dif (2 * pSm r z th) (pSm r x th)) → gLv (fun z => (q - 1) &&& x < z ∧ gLy x z) (fun y => dif (2 * pSm r y th) (pSm r x th)) q := by
      intro hz
      refine ⟨⟨s1, hq⟩, fun z ⟨z1, z2⟩ => ?_⟩
      show dif (2 * pSm r q th) (pSm r x th) < dif (2 * pSm r z th) (pSm r x th) ∨ (dif (2 * pSm r q th) (pSm r x th) = dif (2 * pSm r z th) (pSm r x th) ∧ q ≤ z)
      rw [← eD]
      by_cases e : z = q
      · rw [e, ← eD]; exact Or.inr ⟨rfl, Nat.le_refl _⟩
      · have e2 : q < z := by
          by_cases e2 : z < q
          · have := s3 z z2.2.1 e2; omega
          · omega
        have := hz z e2 z2
        omega
    rcases hp with ⟨h3, h2, hn⟩ | ⟨b, h3, h2, hl⟩
    · refine ⟨(nI ((q - 1) &&& x), c4), (q - 1) &&& x, ?_, s1, _, c4, rfl, rfl, s2, f4, Or.inr ⟨q, c43, by rw [c42, eD], take (fun z hz hl => absurd hl (hn z hz))⟩⟩
      show m_X4_layLevel_L23 23 (nI x) (nI x &&& -nI x) (nI q) c3 = _
      rw [X0, if_neg qn, if_pos h3]
    · have hb1 := hl.1.2.1
      have hb2 := sub_l hl.1.2.2.1
      have nb : ¬ nI b = 0 := by rw [show (0 : Int32) = nI 0 from rfl, n_eq (by omega) (by omega)]; omega
      have bb := pSm_b hR b th (Nat.le_refl _)
      have hDb : dif (2 * pSm r b th) (pSm r x th) < 100000 := by unfold dif; split <;> omega
      by_cases qd : dif (2 * pSm r b th) (pSm r x th) < D
      · refine ⟨(nI ((q - 1) &&& x), c3), (q - 1) &&& x, ?_, s1, _, c3, rfl, rfl, s2, f3, Or.inr ⟨b, h3, h2, ⟨by have := hl.1.1; omega, hl.1.2⟩, fun z ⟨z1, z2⟩ => ?_⟩⟩
        · show m_X4_layLevel_L23 23 (nI x) (nI x &&& -nI x) (nI q) c3 = _
          rw [X0, if_neg qn, h3, if_neg nb, h2, if_pos (by rw [n_lt (by omega) (by omega)]; exact qd)]
        · by_cases e : z = q
          · rw [e]; left; show dif (2 * pSm r b th) (pSm r x th) < dif (2 * pSm r q th) (pSm r x th); rw [← eD]; exact qd
          · refine hl.2 z ⟨?_, z2⟩
            by_cases e2 : z < q
            · have := s3 z z2.2.1 e2; omega
            · omega
      · refine ⟨(nI ((q - 1) &&& x), c4), (q - 1) &&& x, ?_, s1, _, c4, rfl, rfl, s2, f4, Or.inr ⟨q, c43, by rw [c42, eD], take (fun z hz hl2 => ?_)⟩⟩
        · show m_X4_layLevel_L23 23 (nI x) (nI x &&& -nI x) (nI q) c3 = _
          rw [X0, if_neg qn, h3, if_neg nb, h2, if_neg (by rw [n_lt (by omega) (by omega)]; exact qd)]
        · have : dif (2 * pSm r b th) (pSm r x th) < dif (2 * pSm r z th) (pSm r x th) ∨ (dif (2 * pSm r b th) (pSm r x th) = dif (2 * pSm r z th) (pSm r x th) ∧ b ≤ z) := hl.2 z ⟨hz, hl2⟩
          omega) (n := N) (r := x) (a := (nI x, c7)) ⟨x, c7, rfl, rfl, Nat.and_self x, c7f, Or.inl ⟨c73, c72, fun z hz hl => by have := sub_l hl.2.1; omega⟩⟩ (by omega)
  refine ⟨b, ?_, ⟨fun i hi => by rw [hf.1 i (by omega), f5.1 i (by omega)], by rw [hf.2, f5.2]⟩, by rw [hf.1 24 (by omega)]; exact z5, hp⟩
  unfold m_X4_layLevel
  rw [gc_1 (show gck 23 = 4 from rfl), gb_x e5, gv_e, ← ec6, gv_e, ← ec7, gv_e, gb_x e1]
theorem lay_d {th m x N : Nat} {d : gm} (hR : gRow th m (d.1 503)) (h59 : d.1 59 0 = nI th) (h8 : th ≤ 8) (hx : x < 2 ^ th) (hN : 600 < N) : ∃ a e, gloop (gu2 (fun (y14 : Int32) => gu2 (fun (y15 : Int32) (y16 : Int32) => m_X10_level_L52 N 55 (nI x) d (nI x &&& -nI x) y14 y15 y16))) N (0, (-1), 1) = some (a, e) ∧ ((a = 0 ∧ e = -1 ∧ ∀ y, ¬ gLy x y) ∨ ∃ b, a = nI b ∧ e = nI (dif (2 * pSm (d.1 503) b th) (pSm (d.1 503) x th)) ∧ gLv (gLy x) (fun y => dif (2 * pSm (d.1 503) y th) (pSm (d.1 503) x th)) b) := by
  have p2 := p2_9 th (by omega)
  obtain ⟨r, er⟩ : ∃ z, z = d.1 503 := ⟨_, rfl⟩
  rw [← er] at hR ⊢
  obtain ⟨⟨a, e⟩, e1, hp⟩ := gloop_inv (f := gu2 (fun (y14 : Int32) => gu2 (fun (y15 : Int32) (y16 : Int32) => m_X10_level_L52 N 55 (nI x) d (nI x &&& -nI x) y14 y15 y16))) (fun q (A : Int32 × Int32 × Int32) => ∃ y a e, q + y = x + 1 ∧ 1 ≤ y ∧ A = (a, e, nI y) ∧ ((a = 0 ∧ e = -1 ∧ ∀ z, z < y → ¬ gLy x z) ∨ ∃ b, a = nI b ∧ e = nI (dif (2 * pSm r b th) (pSm r x th)) ∧ gLv (fun z => z < y ∧ gLy x z) (fun y => dif (2 * pSm r y th) (pSm r x th)) b)) (fun (w : Int32 × Int32) => (w.1 = 0 ∧ w.2 = -1 ∧ ∀ y, ¬ gLy x y) ∨ ∃ b, w.1 = nI b ∧ w.2 = nI (dif (2 * pSm r b th) (pSm r x th)) ∧ gLv (gLy x) (fun y => dif (2 * pSm r y th) (pSm r x th)) b) (by
    rintro q A ⟨y, a, e, hy, hy1, rfl, hp⟩
    by_cases qy : x < y
    · right
      refine ⟨(a, e), ?_, ?_⟩
      · show m_X10_level_L52 N 55 (nI x) d (nI x &&& -nI x) a e (nI y) = _
        unfold m_X10_level_L52
        rw [if_pos (by rw [n_lt (by omega) (by omega)]; exact qy)]
      · rcases hp with ⟨h3, h2, hn⟩ | ⟨b, h3, h2, hl⟩
        · exact Or.inl ⟨h3, h2, fun z hz => hn z (by have := sub_l hz.2.1; omega) hz⟩
        · exact Or.inr ⟨b, h3, h2, hl.1.2, fun z hz => hl.2 z ⟨by have := sub_l hz.2.1; omega, hz⟩⟩
    left
    have ny : ¬ nI x < nI y := by rw [n_lt (by omega) (by omega)]; exact qy
    have by1 := pSm_b hR y th (Nat.le_refl _)
    have by2 := pSm_b hR x th (Nat.le_refl _)
    obtain ⟨D, eD⟩ : ∃ z, z = dif (2 * pSm r y th) (pSm r x th) := ⟨_, rfl⟩
    have hD : D < 100000 := by rw [eD]; unfold dif; split <;> omega
    have pass : ¬ gLy x y → ((a = 0 ∧ e = -1 ∧ ∀ z, z < y + 1 → ¬ gLy x z) ∨ ∃ b, a = nI b ∧ e = nI (dif (2 * pSm r b th) (pSm r x th)) ∧ gLv (fun z => z < y + 1 ∧ gLy x z) (fun y => dif (2 * pSm r y th) (pSm r x th)) b) := by
      intro hno
      rcases hp with ⟨h3, h2, hn⟩ | ⟨b, h3, h2, hl⟩
      · refine Or.inl ⟨h3, h2, fun z hz hl => ?_⟩
        by_cases e : z = y
        · rw [e] at hl; exact hno hl
        · exact hn z (by omega) hl
      · refine Or.inr ⟨b, h3, h2, ⟨by have := hl.1.1; omega, hl.1.2⟩, fun z ⟨z1, z2⟩ => ?_⟩
        by_cases e : z = y
        · rw [e] at z2; exact absurd z2 hno
        · exact hl.2 z ⟨by omega, z2⟩
    by_cases qs : y &&& x = y
    rotate_left
    · have ns : ¬ nI (y &&& (255 - x)) = 0 := by
        rw [show (0 : Int32) = nI 0 from rfl, n_eq (by have : y &&& (255 - x) ≤ y := Nat.and_le_left; omega) (by omega)]
        exact fun z => qs ((cm_4 x (by omega) y (by omega)).1 z)
      refine ⟨(a, e, nI (y + 1)), x - y, ?_, by omega, y + 1, a, e, by omega, by omega, rfl, pass (fun z => qs z.2.1)⟩
      show m_X10_level_L52 N 55 (nI x) d (nI x &&& -nI x) a e (nI y) = _
      unfold m_X10_level_L52; simp only [gj_e]
      rw [if_neg ny, cm_3 (by omega) (by omega), if_neg ns, gu2_e, gv_e, n_s]
    have ys : nI (y &&& (255 - x)) = 0 := by rw [(cm_4 x (by omega) y (by omega)).2 qs]; rfl
    by_cases qn : nI y &&& (nI x &&& -nI x) = 0
    · refine ⟨(a, e, nI (y + 1)), x - y, ?_, by omega, y + 1, a, e, by omega, by omega, rfl, pass (fun z => z.2.2 qn)⟩
      show m_X10_level_L52 N 55 (nI x) d (nI x &&& -nI x) a e (nI y) = _
      unfold m_X10_level_L52; simp only [gj_e]
      rw [if_neg ny, cm_3 (by omega) (by omega), if_pos ys, if_pos qn, gu2_e, gv_e, n_s]
    have hq : gLy x y := ⟨by omega, qs, qn⟩
    have hw1 : m_X10_heavy N 55 (nI y) d = some (nI (pSm r y th)) := by rw [er]; exact heavy_d (by rw [← er]; exact hR) h59 h8 (by omega) (by omega)
    have hxy := pSm_x (r := r) (x := x) (y := y) (by omega) (by omega) qs th
    have hw2 : m_X10_heavy N 55 (nI x &&& (nI y ^^^ (-1))) d = some (nI (pSm r x th - pSm r y th)) := by
      rw [cm_3 (by omega) (by omega), (cm_5 x (by omega) y (by omega) qs).1, show pSm r x th - pSm r y th = pSm r (x - y) th by omega, er]
      exact heavy_d (by rw [← er]; exact hR) h59 h8 (by omega) (by omega)
    have X0 : m_X10_level_L52 N 55 (nI x) d (nI x &&& -nI x) a e (nI y) = (if e = -1 then some (.inl (nI y, nI D, nI (y + 1))) else (if nI D < e then some (.inl (nI y, nI D, nI (y + 1))) else some (.inl (a, e, nI (y + 1))))) := by
      unfold m_X10_level_L52; simp only [gj_e]
      rw [if_neg ny, cm_3 (by omega) (by omega), if_pos ys, if_neg qn, gb_x hw1, gb_x hw2, gb_x (ab_d (by omega) (by omega) (by omega)), ← eD]
      simp only [gu2_e, gv_e, n_s]
    have take : (∀ z, z < y → gLy x z → D < dif (2 * pSm r z th) (pSm r x th)) → gLv (fun z => z < y + 1 ∧ gLy x z) (fun y => dif (2 * pSm r y th) (pSm r x th)) y := by
      intro hz
      refine ⟨⟨by omega, hq⟩, fun z ⟨z1, z2⟩ => ?_⟩
      show dif (2 * pSm r y th) (pSm r x th) < dif (2 * pSm r z th) (pSm r x th) ∨ (dif (2 * pSm r y th) (pSm r x th) = dif (2 * pSm r z th) (pSm r x th) ∧ y ≤ z)
      rw [← eD]
      by_cases e : z = y
      · rw [e, ← eD]; exact Or.inr ⟨rfl, Nat.le_refl _⟩
      · exact Or.inl (hz z (by omega) z2)
    rcases hp with ⟨h3, h2, hn⟩ | ⟨b, h3, h2, hl⟩
    · refine ⟨(nI y, nI D, nI (y + 1)), x - y, ?_, by omega, y + 1, _, _, by omega, by omega, rfl, Or.inr ⟨y, rfl, by rw [eD], take (fun z hz hl => absurd hl (hn z hz))⟩⟩
      show m_X10_level_L52 N 55 (nI x) d (nI x &&& -nI x) a e (nI y) = _
      rw [X0, if_pos h2]
    · have bb := pSm_b hR b th (Nat.le_refl _)
      have hDb : dif (2 * pSm r b th) (pSm r x th) < 100000 := by unfold dif; split <;> omega
      have ne : ¬ e = -1 := by rw [h2, n_ne (by omega)]; exact fun z => z
      by_cases qd : D < dif (2 * pSm r b th) (pSm r x th)
      · refine ⟨(nI y, nI D, nI (y + 1)), x - y, ?_, by omega, y + 1, _, _, by omega, by omega, rfl, Or.inr ⟨y, rfl, by rw [eD], take (fun z hz hl2 => ?_)⟩⟩
        · show m_X10_level_L52 N 55 (nI x) d (nI x &&& -nI x) a e (nI y) = _
          rw [X0, if_neg ne, h2, if_pos (by rw [n_lt (by omega) (by omega)]; exact qd)]
        · have : dif (2 * pSm r b th) (pSm r x th) < dif (2 * pSm r z th) (pSm r x th) ∨ (dif (2 * pSm r b th) (pSm r x th) = dif (2 * pSm r z th) (pSm r x th) ∧ b ≤ z) := hl.2 z ⟨hz, hl2⟩
          omega
      · refine ⟨(a, e, nI (y + 1)), x - y, ?_, by omega, y + 1, _, _, by omega, by omega, rfl, Or.inr ⟨b, h3, h2, ⟨by have := hl.1.1; omega, hl.1.2⟩, fun z ⟨z1, z2⟩ => ?_⟩⟩
        · show m_X10_level_L52 N 55 (nI x) d (nI x &&& -nI x) a e (nI y) = _
          rw [X0, if_neg ne, if_neg (by rw [h2, n_lt (by omega) (by omega)]; exact qd)]
        · by_cases e : z = y
          · show dif (2 * pSm r b th) (pSm r x th) < dif (2 * pSm r z th) (pSm r x th) ∨ (dif (2 * pSm r b th) (pSm r x th) = dif (2 * pSm r z th) (pSm r x th) ∧ b ≤ z)
            rw [e, ← eD]
            have := hl.1.1
            omega
          · exact hl.2 z ⟨by omega, z2⟩) (n := N) (r := x) (a := (0, (-1), 1)) ⟨1, 0, -1, by omega, by omega, rfl, Or.inl ⟨rfl, rfl, fun z hz hl => by have := hl.1; omega⟩⟩ (by omega)
  exact ⟨a, e, e1, hp⟩
theorem gRl_24 {th m p : Nat} {c d : gm} {f : Nat → Int32} (h : gRl th m p c d) (h0 : f 0 = 0) : gRl th m p (gm_r c 24 f) d := by
  have hq := gPt_q h.1
  obtain ⟨h1, hp, ⟨r1, r2, r3, r4⟩, h3, h4, h5, h6, h7, h8⟩ := h
  have e : ∀ i, i ≠ 24 → (gm_r c 24 f).1 i = c.1 i := fun i hi => gr_n _ _ hi
  refine ⟨h1, hp, ⟨gSt_fr r1 (e _ (by omega)) (e _ (by omega)) (e _ (by omega)) (e _ (by omega)), r2, r3, ?_⟩, ?_, ?_, ?_, ?_, ?_, ?_⟩
  · exact gLw_fr r4 (e (c.2.2 0) (by omega)) (e (c.2.2 0 + 1) (by omega)) (e (c.2.2 0 + 2) (by omega)) rfl (fun _ _ => rfl)
  · unfold gTo; rw [e 4 (by omega), gr_s]; exact ⟨h3.1, h0⟩
  · unfold gTp; rw [e 1 (by omega), e 2 (by omega)]; exact h4
  · unfold gCn; rw [e 1 (by omega), e 0 (by omega)]; exact h5
  · obtain ⟨z, hz, b1, b2, b3⟩ := h6
    refine ⟨z, hz, by rw [show (gm_r c 24 f).2.2 2 = c.2.2 2 from rfl, e (c.2.2 2) (by omega)]; exact b1, b2, fun k hk => ?_⟩
    rw [show (gm_r c 24 f).2.2 2 = c.2.2 2 from rfl, e (c.2.2 2 + 1) (by omega), e (c.2.2 2 + 2) (by omega), e (c.2.2 2 + 3) (by omega)]
    exact b3 k hk
  · exact gPs_x h7 (by rw [e 17 (by omega)]) (e 18 (by omega)) rfl (fun k hk => rfl)
  · exact gIm_x h8 (by rw [e 17 (by omega)]) (e 19 (by omega)) (e 20 (by omega)) rfl (fun k hk => rfl)
