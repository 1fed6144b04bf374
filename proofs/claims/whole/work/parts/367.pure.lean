set_option maxRecDepth 16384
/-! match -/
def gMt (D : Nat → Prop) (c : gm) : Prop := ∀ k, 1 ≤ k → k ≤ 480 → (c.1 25 k = 0 ∧ ¬ D k) ∨ (c.1 25 k = 1 ∧ D k)
theorem gMt_c {D D' : Nat → Prop} {c : gm} (h : gMt D c) (e : ∀ k, 1 ≤ k → (D k ↔ D' k)) : gMt D' c := by
  intro k h1 h2
  rcases h k h1 h2 with ⟨a, b⟩ | ⟨a, b⟩
  · exact Or.inl ⟨a, fun q => b ((e k h1).2 q)⟩
  · exact Or.inr ⟨a, (e k h1).1 b⟩
theorem inn_c {th u N : Nat} {r : Nat → Int32} {D : Nat → Prop} {c : gm} (hb : ∀ v, pSm r v th < 1000) (g : ∀ v, v < 2 ^ th → c.1 24 v = nI (pSm r v th)) (h8 : th ≤ 8) (hu : u < 2 ^ th) (hN : 600 < N) (hD : gMt D c) : ∃ c2, gloop (gu2 (fun (y16 : Int32) (c17 : gm) => m_X4_seekAmounts_L38 23 (nI u) y16 c17)) N (nI u, c) = some c2 ∧ fr (fun i => i = 25) c c2 ∧ gMt (fun k => D k ∨ ∃ l, 1 ≤ l ∧ l &&& u = l ∧ 2 * pSm r l th = pSm r u th + k) c2 := by
  have p2 := p2_9 th (by omega)
  refine gloop_inv (f := gu2 (fun (y16 : Int32) (c17 : gm) => m_X4_seekAmounts_L38 23 (nI u) y16 c17)) (fun q (A : Int32 × gm) => ∃ y c3, q = y ∧ A = (nI y, c3) ∧ y &&& u = y ∧ fr (fun i => i = 25) c c3 ∧ gMt (fun k => D k ∨ ∃ l, y < l ∧ l &&& u = l ∧ 2 * pSm r l th = pSm r u th + k) c3) (fun c2 => fr (fun i => i = 25) c c2 ∧ gMt (fun k => D k ∨ ∃ l, 1 ≤ l ∧ l &&& u = l ∧ 2 * pSm r l th = pSm r u th + k) c2) ?_ (n := N) (r := u) (a := (nI u, c)) ⟨u, c, rfl, rfl, Nat.and_self u, ⟨fun _ _ => rfl, rfl⟩, gMt_c hD (fun k _ => ⟨Or.inl, fun q => q.resolve_right (fun ⟨l, l1, l2, _⟩ => by have := sub_l l2; omega)⟩)⟩ (by omega)
  rintro q A ⟨y, c3, rfl, rfl, hs, f3, h3⟩
  by_cases q0 : q = 0
  · right
    refine ⟨c3, ?_, f3, gMt_c h3 (fun k _ => ?_)⟩
    · show m_X4_seekAmounts_L38 23 (nI u) (nI q) c3 = _
      unfold m_X4_seekAmounts_L38
      rw [if_pos (by rw [q0]; decide)]
    · rw [q0]; exact Iff.rfl
  left
  have hyx := sub_l hs
  have n0 : ¬ nI q ≤ 0 := by rw [show (0 : Int32) = nI 0 from rfl, n_le (by omega) (by omega)]; omega
  obtain ⟨s1, s2, s3, s4⟩ := sw (x := u) (y := q) (by omega) hyx (by omega) hs
  have g3 : ∀ v, v < 2 ^ th → c3.1 24 v = nI (pSm r v th) := fun v hv => by rw [f3.1 24 (by omega)]; exact g v hv
  have step : ∀ k, ((∃ l, (q - 1) &&& u < l ∧ l &&& u = l ∧ 2 * pSm r l th = pSm r u th + k) ↔ (∃ l, q < l ∧ l &&& u = l ∧ 2 * pSm r l th = pSm r u th + k) ∨ 2 * pSm r q th = pSm r u th + k) := by
    intro k
    constructor
    · rintro ⟨l, l1, l2, l3⟩
      by_cases e : l = q
      · rw [e] at l3; exact Or.inr l3
      · refine Or.inl ⟨l, ?_, l2, l3⟩
        by_cases e2 : l < q
        · have := s3 l l2 e2; omega
        · omega
    · rintro (⟨l, l1, l2, l3⟩ | e)
      · exact ⟨l, by omega, l2, l3⟩
      · exact ⟨q, s1, hs, e⟩
  obtain ⟨Z, eZ⟩ : ∃ z, z = (2 * nI (pSm r q th)) - nI (pSm r u th) := ⟨_, rfl⟩
  have tZ : Z.toInt = 2 * (pSm r q th : Int) - pSm r u th := by
    have h1 := hb q
    have h2 := hb u
    rw [eZ, show (2 : Int32) = nI 2 from rfl, n_mu, i_sub (by omega) (by omega)]
    omega
  have X0 : m_X4_seekAmounts_L38 23 (nI u) (nI q) c3 = (if Z ≤ 0 then some (.inl (nI ((q - 1) &&& u), c3)) else (if (nI 481) ≤ Z then some (.inl (nI ((q - 1) &&& u), c3)) else gc (0 ≤ Z.toInt ∧ Z.toInt < 481) (some (.inl (nI ((q - 1) &&& u), gm_r c3 25 (upd (c3.1 25) Z.toNatClampNeg (vp_nar .boolean 1))))))) := by
    unfold m_X4_seekAmounts_L38; simp only [gj_e]
    rw [if_neg n0, gb_x (sumof_c g3 h8 (by omega)), gb_x (sumof_c g3 h8 hu), ← eZ, gv_e, s4]
    rfl
  by_cases q1 : Z ≤ 0
  · refine ⟨(nI ((q - 1) &&& u), c3), (q - 1) &&& u, ?_, s1, _, c3, rfl, rfl, s2, f3, gMt_c h3 (fun k hk => ?_)⟩
    · show m_X4_seekAmounts_L38 23 (nI u) (nI q) c3 = _
      rw [X0, if_pos q1]
    · rw [step k]
      rw [Int32.le_iff_toInt_le, i_0, tZ] at q1
      constructor
      · rintro (e | e)
        · exact Or.inl e
        · exact Or.inr (Or.inl e)
      · rintro (e | e | e)
        · exact Or.inl e
        · exact Or.inr e
        · omega
  have t1 : 1 ≤ Z.toInt := by rw [Int32.le_iff_toInt_le, i_0] at q1; omega
  by_cases q2 : nI 481 ≤ Z
  · refine ⟨(nI ((q - 1) &&& u), c3), (q - 1) &&& u, ?_, s1, _, c3, rfl, rfl, s2, f3, ?_⟩
    · show m_X4_seekAmounts_L38 23 (nI u) (nI q) c3 = _
      rw [X0, if_neg q1, if_pos q2]
    · rw [Int32.le_iff_toInt_le, n_ti (by omega), tZ] at q2
      have hno : ∀ k, k ≤ 480 → ¬ 2 * pSm r q th = pSm r u th + k := fun k hk e => by omega
      intro k h1 h2
      rcases h3 k h1 h2 with ⟨a, b⟩ | ⟨a, b⟩
      · refine Or.inl ⟨a, ?_⟩
        show ¬ (D k ∨ ∃ l, (q - 1) &&& u < l ∧ l &&& u = l ∧ 2 * pSm r l th = pSm r u th + k)
        rw [step k]
        rintro (e | e | e)
        · exact b (Or.inl e)
        · exact b (Or.inr e)
        · exact hno k h2 e
      · refine Or.inr ⟨a, ?_⟩
        show D k ∨ ∃ l, (q - 1) &&& u < l ∧ l &&& u = l ∧ 2 * pSm r l th = pSm r u th + k
        rw [step k]
        rcases b with e | e
        · exact Or.inl e
        · exact Or.inr (Or.inl e)
  have t2 : Z.toInt < 481 := by rw [Int32.le_iff_toInt_le, n_ti (by omega)] at q2; omega
  obtain ⟨n, hn⟩ : ∃ n : Nat, Z.toInt = n := ⟨Z.toInt.toNat, by omega⟩
  have eZn : Z = nI n := Int32.toInt_inj.1 (by rw [hn, n_ti (by omega)])
  rw [if_neg q1, if_neg q2, gc_1 ⟨by omega, t2⟩, eZn, n_cl (by omega)] at X0
  obtain ⟨c4, ec4⟩ : ∃ z, z = gm_r c3 25 (upd (c3.1 25) n (vp_nar .boolean 1)) := ⟨_, rfl⟩
  rw [← ec4] at X0
  have c4n : c4.1 25 n = 1 := by rw [ec4, gr_s, up_s]; rfl
  have c4k : ∀ k, k ≠ n → c4.1 25 k = c3.1 25 k := fun k hk => by rw [ec4, gr_s, up_n _ _ hk]
  refine ⟨(nI ((q - 1) &&& u), c4), (q - 1) &&& u, X0, s1, _, c4, rfl, rfl, s2, ⟨fun i hi => by rw [ec4, gr_n _ _ hi]; exact f3.1 i hi, by rw [ec4]; exact f3.2⟩, ?_⟩
  intro k h1 h2
  by_cases e : k = n
  · refine Or.inr ⟨by rw [e]; exact c4n, ?_⟩
    show D k ∨ ∃ l, (q - 1) &&& u < l ∧ l &&& u = l ∧ 2 * pSm r l th = pSm r u th + k
    rw [step k]
    exact Or.inr (Or.inr (by omega))
  · rw [c4k k e]
    rcases h3 k h1 h2 with ⟨a, b⟩ | ⟨a, b⟩
    · refine Or.inl ⟨a, ?_⟩
      show ¬ (D k ∨ ∃ l, (q - 1) &&& u < l ∧ l &&& u = l ∧ 2 * pSm r l th = pSm r u th + k)
      rw [step k]
      rintro (z | z | z)
      · exact b (Or.inl z)
      · exact b (Or.inr z)
      · exact e (by omega)
    · refine Or.inr ⟨a, ?_⟩
      show D k ∨ ∃ l, (q - 1) &&& u < l ∧ l &&& u = l ∧ 2 * pSm r l th = pSm r u th + k
      rw [step k]
      rcases b with z | z
      · exact Or.inl z
      · exact Or.inr (Or.inl z)
theorem seekA_c {th m x N : Nat} {pl : Int32} {r : Nat → Int32} {c : gm} (hS : gSt 3 c th m pl r) (hR : gRow th m r) (hN : 600 < N) (h0 : c.1 24 0 = 0) (hx : x < 2 ^ th) : ∃ c2, m_X4_seekAmounts N 23 3 (nI x) c = some c2 ∧ fr (fun i => i = 24 ∨ i = 25) c c2 ∧ c2.1 24 0 = 0 ∧ gMt (fun k => ∃ z, gMak r th x k z) c2 := by
  have h8 := hS.2.1
  have p2 := p2_9 th (by omega)
  obtain ⟨c5, e5, f5, z5, g5⟩ := add_up (N := N) hS hR (by omega) h0
  have hb : ∀ v, pSm r v th < 1000 := fun v => by have := pSm_b hR v th (Nat.le_refl _); omega
  obtain ⟨c6, e6, f6, g6⟩ := gloop_inv (f := gu2 (fun (y7 : Int32) (c8 : gm) => m_X4_seekAmounts_L7 23 y7 c8)) (fun q (A : Int32 × gm) => ∃ i d3, q + i = 481 ∧ A = (nI i, d3) ∧ fr (fun i => i = 25) c5 d3 ∧ ∀ y, y < i → d3.1 25 y = 0) (fun d2 => fr (fun i => i = 25) c5 d2 ∧ ∀ y, y < 481 → d2.1 25 y = 0) (by
    rintro q A ⟨i, d3, hi, rfl, f3, h2⟩
    by_cases qi : i < 481
    · left
      refine ⟨(nI (i + 1), gm_r d3 25 (upd (d3.1 25) i (vp_nar .boolean 0))), 481 - (i + 1), ?_, by omega, i + 1, _, by omega, rfl, ⟨fun j hj => by rw [gr_n _ _ hj]; exact f3.1 j hj, f3.2⟩, fun y hy => ?_⟩
      · show m_X4_seekAmounts_L7 23 (nI i) d3 = _
        unfold m_X4_seekAmounts_L7
        rw [if_neg (by rw [n_le (by omega) (by omega)]; omega), gc_1 (n_rg (by omega) (by omega)), gv_e, gv_e, n_cl (by omega), n_s]
      · rw [gr_s]
        by_cases qy : y = i
        · rw [qy, up_s]; rfl
        · rw [up_n _ _ qy]; exact h2 y (by omega)
    · right
      refine ⟨d3, ?_, f3, fun y hy => h2 y (by omega)⟩
      show m_X4_seekAmounts_L7 23 (nI i) d3 = _
      unfold m_X4_seekAmounts_L7
      rw [if_pos (by rw [n_le (by omega) (by omega)]; omega)]) (n := N) (r := 481) (a := (0, c5)) ⟨0, c5, by omega, rfl, ⟨fun _ _ => rfl, rfl⟩, fun y hy => by omega⟩ (by omega)
  have t6 : gMt (fun _ => False) c6 := fun k h1 h2 => Or.inl ⟨g6 k (by omega), fun h => h⟩
  obtain ⟨c7, e7, f7, g7⟩ := gloop_inv (f := gu2 (fun (y11 : Int32) (c12 : gm) => m_X4_seekAmounts_L31 N 23 (nI x) y11 c12)) (fun q (A : Int32 × gm) => ∃ y c3, q = y ∧ A = (nI y, c3) ∧ y &&& x = y ∧ fr (fun i => i = 25) c5 c3 ∧ gMt (fun k => ∃ u, y < u ∧ u &&& x = u ∧ ∃ l, 1 ≤ l ∧ l &&& u = l ∧ 2 * pSm r l th = pSm r u th + k) c3) (fun c2 => fr (fun i => i = 25) c5 c2 ∧ gMt (fun k => ∃ z, gMak r th x k z) c2) (by
    rintro q A ⟨y, c3, rfl, rfl, hs, f3, h3⟩
    by_cases q0 : q = 0
    · right
      refine ⟨c3, ?_, f3, gMt_c h3 (fun k hk => ?_)⟩
      · show m_X4_seekAmounts_L31 N 23 (nI x) (nI q) c3 = _
        unfold m_X4_seekAmounts_L31
        rw [if_pos (by rw [q0]; decide)]
      · constructor
        · rintro ⟨u, u1, u2, l, l1, l2, l3⟩
          exact ⟨u, by have := sub_l u2; omega, u2, l, l2, l3⟩
        · rintro ⟨u, u1, u2, l, l2, l3⟩
          have hl : 1 ≤ l := by
            by_cases e : l = 0
            · rw [e, pSm_0] at l3; omega
            · omega
          exact ⟨u, by have := sub_l l2; omega, u2, l, hl, l2, l3⟩
    left
    have hyx := sub_l hs
    have n0 : ¬ nI q ≤ 0 := by rw [show (0 : Int32) = nI 0 from rfl, n_le (by omega) (by omega)]; omega
    obtain ⟨s1, s2, s3, s4⟩ := sw (x := x) (y := q) (by omega) hyx (by omega) hs
    have g3 : ∀ v, v < 2 ^ th → c3.1 24 v = nI (pSm r v th) := fun v hv => by rw [f3.1 24 (by omega)]; exact g5 v hv
    obtain ⟨c4, e4, f4, g4⟩ := inn_c (N := N) (u := q) hb g3 h8 (by omega) hN h3
    refine ⟨(nI ((q - 1) &&& x), c4), (q - 1) &&& x, ?_, s1, _, c4, rfl, rfl, s2, ⟨fun i hi => by rw [f4.1 i hi, f3.1 i hi], by rw [f4.2, f3.2]⟩, gMt_c g4 (fun k hk => ?_)⟩
    · show m_X4_seekAmounts_L31 N 23 (nI x) (nI q) c3 = _
      unfold m_X4_seekAmounts_L31
      rw [if_neg n0, gb_x e4, gv_e, s4]
    · constructor
      · rintro (⟨u, u1, u2, u3⟩ | e)
        · exact ⟨u, by omega, u2, u3⟩
        · exact ⟨q, s1, hs, e⟩
      · rintro ⟨u, u1, u2, u3⟩
        by_cases e : u = q
        · rw [e] at u3; exact Or.inr u3
        · refine Or.inl ⟨u, ?_, u2, u3⟩
          by_cases e2 : u < q
          · have := s3 u u2 e2; omega
          · omega) (n := N) (r := x) (a := (nI x, c6)) ⟨x, c6, rfl, rfl, Nat.and_self x, f6, gMt_c t6 (fun k _ => ⟨fun h => h.elim, fun ⟨u, u1, u2, _⟩ => by have := sub_l u2; omega⟩)⟩ (by omega)
  refine ⟨c7, ?_, ⟨fun i hi => by rw [f7.1 i (by omega), f5.1 i (by omega)], by rw [f7.2, f5.2]⟩, by rw [f7.1 24 (by omega)]; exact z5, g7⟩
  unfold m_X4_seekAmounts
  rw [gc_1 (show gck 23 = 4 from rfl), gb_x e5, gb_x e6, gb_x e7]
theorem cntm_two {N : Nat} {c d : gm} (h : ∀ k, 1 ≤ k → k ≤ 480 → (c.1 25 k = 0 ↔ d.1 528 k = -1)) (hN : 600 < N) : ∃ w, m_X4_amounts N 23 c = some w ∧ gloop (gu2 (fun (y16 : Int32) (y17 : Int32) => m_X10_match_L51 d y16 y17)) N (0, 1) = some w := by
  obtain ⟨b, y, e1, e2, rfl⟩ := gloop_two (f := gu2 (fun (y2 : Int32) (y3 : Int32) => m_X4_amounts_L4 23 c y2 y3)) (g := gu2 (fun (y16 : Int32) (y17 : Int32) => m_X10_match_L51 d y16 y17)) (fun q (A : Int32 × Int32) (X : Int32 × Int32) => ∃ i w, q + i = 481 ∧ 1 ≤ i ∧ A = (w, nI i) ∧ X = (w, nI i)) (fun (b y : Int32) => b = y) (by
    rintro q A X ⟨i, w, hi, hi1, rfl, rfl⟩
    by_cases qi : i < 481
    · left
      have n1 : ¬ nI 481 ≤ nI i := by rw [n_le (by omega) (by omega)]; omega
      have n2 : ¬ (480 : Int32) < nI i := by rw [n_l480, n_lt (by omega) (by omega)]; omega
      by_cases qz : c.1 25 i = 0
      · refine ⟨(w + 0, nI (i + 1)), (w + 0, nI (i + 1)), 481 - (i + 1), ?_, ?_, by omega, i + 1, w + 0, by omega, by omega, rfl, rfl⟩
        · show m_X4_amounts_L4 23 c w (nI i) = _
          unfold m_X4_amounts_L4; simp only [gj_e]
          rw [gc_1 (show gck 23 = 4 from rfl), if_neg n1, gc_1 (n_rg (by omega) (by omega)), n_cl (by omega), if_pos qz, gv_e, gv_e, n_s]
        · show m_X10_match_L51 d w (nI i) = _
          unfold m_X10_match_L51; simp only [gj_e]
          rw [if_neg n2, gc_1 (n_rg (by omega) (by omega)), n_cl (by omega), if_pos ((h i hi1 (by omega)).1 qz), gv_e, gv_e, n_s]
      · refine ⟨(w + 1, nI (i + 1)), (w + 1, nI (i + 1)), 481 - (i + 1), ?_, ?_, by omega, i + 1, w + 1, by omega, by omega, rfl, rfl⟩
        · show m_X4_amounts_L4 23 c w (nI i) = _
          unfold m_X4_amounts_L4; simp only [gj_e]
          rw [gc_1 (show gck 23 = 4 from rfl), if_neg n1, gc_1 (n_rg (by omega) (by omega)), n_cl (by omega), if_neg qz, gv_e, gv_e, n_s]
        · show m_X10_match_L51 d w (nI i) = _
          unfold m_X10_match_L51; simp only [gj_e]
          rw [if_neg n2, gc_1 (n_rg (by omega) (by omega)), n_cl (by omega), if_neg (fun z => qz ((h i hi1 (by omega)).2 z)), gv_e, gv_e, n_s]
    · right
      refine ⟨w, w, ?_, ?_, rfl⟩
      · show m_X4_amounts_L4 23 c w (nI i) = _
        unfold m_X4_amounts_L4
        rw [gc_1 (show gck 23 = 4 from rfl), if_pos (by rw [n_le (by omega) (by omega)]; omega)]
      · show m_X10_match_L51 d w (nI i) = _
        unfold m_X10_match_L51
        rw [if_pos (by rw [n_l480, n_lt (by omega) (by omega)]; omega)]) (n := N) (r := 480) (a := (0, 1)) (x := (0, 1)) ⟨1, 0, by omega, by omega, rfl, rfl⟩ (by omega)
  refine ⟨b, ?_, e2⟩
  unfold m_X4_amounts
  rw [gb_x e1]
theorem gap_two {N : Nat} {c d : gm} (h : ∀ k, 1 ≤ k → k ≤ 480 → (c.1 25 k = 0 ↔ d.1 528 k = -1)) (hN : 600 < N) : ∃ w, m_X4_gap N 23 c = some w ∧ gloop (fun (y20 : Int32) => m_X10_match_L84 d y20) N 1 = some w := by
  obtain ⟨b, y, e1, e2, hp⟩ := gloop_two (f := fun (y2 : Int32) => m_X4_gap_L2 23 c y2) (g := fun (y20 : Int32) => m_X10_match_L84 d y20) (fun q (A : Int32) (X : Int32) => ∃ i, q + i = 481 ∧ 1 ≤ i ∧ A = nI i ∧ X = nI i) (fun (b : Int32 ⊕ Unit) (y : Int32) => b = .inl y ∨ (b = .inr () ∧ y = nI 481)) (by
    rintro q A X ⟨i, hi, hi1, rfl, rfl⟩
    by_cases qi : i < 481
    · have n1 : ¬ nI 481 ≤ nI i := by rw [n_le (by omega) (by omega)]; omega
      have n2 : ¬ (480 : Int32) < nI i := by rw [n_l480, n_lt (by omega) (by omega)]; omega
      by_cases qz : c.1 25 i = 0
      · right
        refine ⟨.inl (nI i), nI i, ?_, ?_, Or.inl rfl⟩
        · show m_X4_gap_L2 23 c (nI i) = _
          unfold m_X4_gap_L2
          rw [gc_1 (show gck 23 = 4 from rfl), if_neg n1, gc_1 (n_rg (by omega) (by omega)), n_cl (by omega), if_pos qz]
        · show m_X10_match_L84 d (nI i) = _
          unfold m_X10_match_L84
          rw [if_neg n2, gc_1 (n_rg (by omega) (by omega)), n_cl (by omega), if_pos ((h i hi1 (by omega)).1 qz)]
      · left
        refine ⟨nI (i + 1), nI (i + 1), 481 - (i + 1), ?_, ?_, by omega, i + 1, by omega, by omega, rfl, rfl⟩
        · show m_X4_gap_L2 23 c (nI i) = _
          unfold m_X4_gap_L2
          rw [gc_1 (show gck 23 = 4 from rfl), if_neg n1, gc_1 (n_rg (by omega) (by omega)), n_cl (by omega), if_neg qz, gv_e, n_s]
        · show m_X10_match_L84 d (nI i) = _
          unfold m_X10_match_L84
          rw [if_neg n2, gc_1 (n_rg (by omega) (by omega)), n_cl (by omega), if_neg (fun z => qz ((h i hi1 (by omega)).2 z)), gv_e, n_s]
    · right
      obtain rfl : i = 481 := by omega
      refine ⟨.inr (), nI 481, ?_, ?_, Or.inr ⟨rfl, rfl⟩⟩
      · show m_X4_gap_L2 23 c (nI 481) = _
        unfold m_X4_gap_L2
        rw [gc_1 (show gck 23 = 4 from rfl), if_pos (by rw [n_le (by omega) (by omega)]; omega)]
      · show m_X10_match_L84 d (nI 481) = _
        unfold m_X10_match_L84
        rw [if_pos (by rw [n_l480, n_lt (by omega) (by omega)]; omega)]) (n := N) (r := 480) (a := 1) (x := 1) ⟨1, by omega, by omega, rfl, rfl⟩ (by omega)
  refine ⟨y, ?_, e2⟩
  unfold m_X4_gap
  rw [gb_x e1]
  rcases hp with rfl | ⟨rfl, rfl⟩
  · rfl
  · rfl
theorem match_two {th m p n : Nat} {c d : gm} (h : gRl th m p c d) (hn : 1100 < n) (a b : Int32) : gAns 1 0 (m_X9_match n 0 a b c) (m_X10_match n 55 a b d) := by
  have hZ := gRl_dZ h
  have z0 := dZ_0 d
  obtain ⟨hP, hp, ⟨hS, hRw, hM, hL⟩, hTo, hTp, hCn, hBk, hPs, hIm⟩ := id hZ
  have h8 := hS.2.1
  have p2 := p2_9 th (by omega)
  obtain ⟨m0, m3, -⟩ := id hM
  by_cases qa : 0 ≤ a ∧ a < nI (2 ^ th)
  rotate_left
  · refine ans_i (v := 0) (d := d) hZ (by decide) ?_ ?_
    · unfold m_X9_match
      rw [gc_1 (show gck 0 = 9 from rfl), gbx_x2 (db_0 hS qa)]
    · unfold m_X10_match; simp only [gj_e]
      rw [gc_1 (show gck 55 = 10 from rfl), gv_e, show gm_r d 55 (upd (d.1 55) 0 0) = dZ d from rfl, gb_x (ms_0 h8 m0 qa), if_pos rfl, gb2_x (bd_i z0 (by decide)), if_neg (by decide)]
  by_cases qb : b = 0 ∨ b = 1
  rotate_left
  · have n0 : ¬ b = 0 := fun q => qb (Or.inl q)
    have n1 : ¬ b = 1 := fun q => qb (Or.inr q)
    refine ans_i (v := 0) (d := d) hZ (by decide) ?_ ?_
    · unfold m_X9_match; simp only [gj_e]
      rw [gc_1 (show gck 0 = 9 from rfl), gbx_x1 (db_1 hS qa), if_neg n0, if_neg n1, gbx_x2 (dm_0 c)]
    · unfold m_X10_match; simp only [gj_e]
      rw [gc_1 (show gck 55 = 10 from rfl), gv_e, show gm_r d 55 (upd (d.1 55) 0 0) = dZ d from rfl, gb_x (ms_1 h8 m0 qa), if_neg (by decide), in_01, if_neg n0, if_neg n1, gb_e, if_pos rfl, gb2_x (bd_i z0 (by decide)), if_neg (by decide)]
  obtain ⟨x, hx, rfl⟩ := i_ex2 (by omega) qa
  obtain ⟨c2, e1, f1, z1, hc⟩ := seekA_c (N := n) hS hRw (by omega) hTo.2 hx
  obtain ⟨d2, e2, hd, f2⟩ := amt_d (N := n) (x := x) hRw m0 h8 (by omega) (by omega)
  have hG : gRl th m p c2 d2 := gRl_pn hZ ⟨fun i hi => f1.1 i (by omega), f1.2⟩ z1 (fun i hi => f2.1 i (fun q => hi (by unfold SD; omega))) (fun k _ => by rw [f2.1 55 (by omega)])
  have hK : ∀ k, 1 ≤ k → k ≤ 480 → (c2.1 25 k = 0 ↔ d2.1 528 k = -1) := by
    intro k h1 h2
    rcases hc k h1 h2 with ⟨l1, l2⟩ | ⟨l1, z, l2⟩
    · rcases hd k h1 h2 with ⟨l3, ln⟩ | ⟨y', hy', l3, ll⟩
      · exact ⟨fun _ => l3, fun _ => l1⟩
      · exact absurd ⟨y', ll.1⟩ l2
    · rcases hd k h1 h2 with ⟨l3, ln⟩ | ⟨y', hy', l3, ll⟩
      · exact absurd l2 (ln z)
      · rw [l1, l3]
        constructor
        · intro e; exact absurd e (by decide)
        · intro e; rw [n_ne (by omega)] at e; exact e.elim
  obtain ⟨w, w1, w2⟩ := cntm_two (N := n) hK (by omega)
  obtain ⟨v, v1, v2⟩ := gap_two (N := n) hK (by omega)
  have d20 : d2.1 55 0 = 0 := by rw [f2.1 55 (by omega)]; exact z0
  rcases qb with rfl | rfl
  · refine ans_o (r := w) hG d20 ?_ ?_
    · unfold m_X9_match; simp only [gj_e]
      rw [gc_1 (show gck 0 = 9 from rfl), gbx_x1 (db_1 hS qa), if_pos trivial, gbx_x1 (dm_1 c), gb_x e1, if_pos trivial, gb_x w1, gok_e]
    · unfold m_X10_match; simp only [gj_e]
      rw [gc_1 (show gck 55 = 10 from rfl), gv_e, show gm_r d 55 (upd (d.1 55) 0 0) = dZ d from rfl, gb_x (ms_1 h8 m0 qa), if_neg (by decide), in_01, if_pos rfl, gb_e, if_neg (by decide), gb2_x (bd_0 z0), if_pos rfl, gb_x e2, gb_x w2, gb_x v2, if_pos trivial]
  · refine ans_o (r := v) hG d20 ?_ ?_
    · unfold m_X9_match; simp only [gj_e]
      rw [gc_1 (show gck 0 = 9 from rfl), gbx_x1 (db_1 hS qa), if_neg (show ¬ (1 : Int32) = 0 by decide), if_pos trivial, gbx_x1 (dm_1 c), gb_x e1, if_neg (show ¬ (1 : Int32) = 0 by decide), gb_x v1, gok_e]
    · unfold m_X10_match; simp only [gj_e]
      rw [gc_1 (show gck 55 = 10 from rfl), gv_e, show gm_r d 55 (upd (d.1 55) 0 0) = dZ d from rfl, gb_x (ms_1 h8 m0 qa), if_neg (by decide), in_01, if_neg (show ¬ (1 : Int32) = 0 by decide), if_pos rfl, gb_e, if_neg (by decide), gb2_x (bd_0 z0), if_pos rfl, gb_x e2, gb_x w2, gb_x v2, if_neg (show ¬ (1 : Int32) = 0 by decide)]
