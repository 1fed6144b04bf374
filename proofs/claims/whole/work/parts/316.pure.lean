set_option maxRecDepth 16384
/-! two sellers -/
theorem gn_00 (v w : Int32) : m_X9_gain v w 0 0 = some v := rfl
theorem gn_01 (v w : Int32) : m_X9_gain v w 0 1 = some 0 := rfl
theorem gn_10 (v w : Int32) : m_X9_gain v w 1 0 = some w := rfl
theorem gn_11 (v w : Int32) : m_X9_gain v w 1 1 = some (-1) := rfl
theorem se_10 : (1 : Int32) - 0 = 1 := by decide
theorem se_11 : (1 : Int32) - 1 = 0 := by decide
theorem se_1 (v w : Int32) : m_X9_isRest v w 0 0 = some (if v < w then 0 else 1) := by
  unfold m_X9_isRest
  rw [gb_x (gn_00 v w), se_10, gb_x (gn_10 v w)]
  by_cases q : v < w
  · rw [if_pos q, if_pos q]
  · rw [if_neg q, gb_x (gn_00 v w), gb_x (gn_10 v w), if_neg q, if_neg q]
theorem se_2 (v w : Int32) : m_X9_isRest v w 0 1 = some (if w < v then 0 else 1) := by
  unfold m_X9_isRest
  rw [gb_x (gn_01 v w), se_10, gb_x (gn_11 v w), if_neg (by decide), gb_x (gn_10 v w), se_11, gb_x (gn_00 v w)]
  by_cases q : w < v
  · rw [if_pos q, if_pos q]
  · rw [if_neg q, if_neg q]
theorem se_3 (v w : Int32) : m_X9_isRest v w 1 0 = some (if w < v then 0 else 1) := by
  unfold m_X9_isRest
  rw [gb_x (gn_10 v w), se_11, gb_x (gn_00 v w)]
  by_cases q : w < v
  · rw [if_pos q, if_pos q]
  · rw [if_neg q, if_neg q, gb_x (gn_01 v w), se_10, gb_x (gn_11 v w), if_neg (by decide)]
theorem se_4 (v w : Int32) : m_X9_isRest v w 1 1 = some 0 := by
  unfold m_X9_isRest
  rw [gb_x (gn_11 v w), se_11, gb_x (gn_01 v w), if_pos (by decide)]
/-- a way of the class's four -/
theorem se_s (v w x y z way one other next : Int32) (h1 : way >>> ((1 : Int32) &&& 31) = one) (h2 : way &&& 1 = other) (h3 : ¬ 4 ≤ way) (h4 : way + 1 = next) : m_X9_sellers_L59 v w x y z way = gb (m_X9_isRest v w one other) (fun r27 => if r27 = 0 then some (.inl (x, y, z, next)) else if y = (-1) then gb (m_X9_gain v w one other) (fun r38 => gb (m_X9_gain v w other one) (fun r40 => some (.inl (x + 1, 10 * one + other, r38 + r40, next)))) else some (.inl (x + 1, y, z, next))) := by
  unfold m_X9_sellers_L59
  rw [if_neg h3, gv_e, gv_e, h1, h2, ← h4]
  rfl
theorem se_t (v w x y z a b next : Int32) (h3 : ¬ 2 ≤ b) (h4 : b + 1 = next) : m_X10_sellers_L71 v w a x y z b = gb (m_X10_isBest a b v w) (fun r34 => if r34 = 0 then some (.inl (x, y, z, next)) else gb (m_X10_isBest b a v w) (fun r42 => if r42 = 0 then some (.inl (x, y, z, next)) else if x = 0 then gb (m_X10_hasBy a b v w) (fun r52 => gb (m_X10_hasBy b a v w) (fun r54 => some (.inl (x + 1, 10 * a + b, r52 + r54, next)))) else some (.inl (x + 1, y, z, next)))) := by
  unfold m_X10_sellers_L71; simp only [gj_e]
  rw [if_neg h3, ← h4]
  congr 1
  funext r34
  by_cases q1 : r34 = 0
  · rw [if_pos q1, if_pos q1]; rfl
  · rw [if_neg q1, if_neg q1]
    congr 1
    funext r42
    by_cases q2 : r42 = 0
    · rw [if_pos q2, if_pos q2]; rfl
    · rw [if_neg q2, if_neg q2]
      by_cases q3 : x = 0
      · simp only [if_pos q3, gv_e, gu2_e]
      · simp only [if_neg q3, gv_e, gu2_e]
theorem sb_00 (v w : Int32) : m_X10_isBest 0 0 v w = some (if v < w then 0 else 1) := by
  unfold m_X10_isBest m_X10_hasBy
  rw [if_pos rfl, if_pos rfl, gb_e, if_neg (by decide), if_pos rfl, gb_e]
  split <;> rfl
theorem sb_01 (v w : Int32) : m_X10_isBest 0 1 v w = some 1 := by
  unfold m_X10_isBest m_X10_hasBy
  rw [if_pos rfl, if_neg (by decide), gb_e, if_neg (by decide), if_neg (by decide), gb_e, if_neg (by decide)]
theorem sb_10 (v w : Int32) : m_X10_isBest 1 0 v w = some (if w < v then 0 else 1) := by
  unfold m_X10_isBest m_X10_hasBy
  rw [if_neg (by decide), if_pos rfl, gb_e, if_pos (by decide), if_pos rfl, gb_e]
  split <;> rfl
theorem sb_11 (v w : Int32) : m_X10_isBest 1 1 v w = some 0 := by
  unfold m_X10_isBest m_X10_hasBy
  rw [if_neg (by decide), if_neg (by decide), gb_e, if_pos (by decide), if_neg (by decide), gb_e, if_pos (by decide)]
theorem hb_00 (v w : Int32) : m_X10_hasBy 0 0 v w = some v ∧ m_X9_gain v w 0 0 = some v := ⟨rfl, rfl⟩
theorem hb_01 (v w : Int32) : m_X10_hasBy 0 1 v w = some 0 ∧ m_X9_gain v w 0 1 = some 0 := ⟨rfl, rfl⟩
theorem hb_10 (v w : Int32) : m_X10_hasBy 1 0 v w = some w ∧ m_X9_gain v w 1 0 = some w := ⟨rfl, rfl⟩
theorem gl_s {α β : Type} {f : α → Option (α ⊕ β)} {n : Nat} {a a2 : α} (h : f a = some (.inl a2)) : gloop f (n + 1) a = gloop f n a2 := by rw [gloop, h]
theorem gl_e {α β : Type} {f : α → Option (α ⊕ β)} {n : Nat} {a : α} {b : β} (h : f a = some (.inr b)) : gloop f (n + 1) a = some b := by rw [gloop, h]
theorem sellers_lp {n : Nat} (hn : 160 < n) (v w : Int32) : ∃ u : Int32 × Int32 × Int32, gloop (gu2 (fun (y14 : Int32) => gu2 (fun (y15 : Int32) => gu2 (fun (y16 : Int32) (y17 : Int32) => m_X9_sellers_L59 v w y14 y15 y16 y17)))) n (0, (-1), 0, 0) = some u ∧ gloop (gu2 (fun (y13 : Int32) => gu2 (fun (y14 : Int32) => gu2 (fun (y15 : Int32) (y16 : Int32) => m_X10_sellers_L62 n v w y13 y14 y15 y16)))) n (0, (-1), 0, 0) = some u := by
  have hC : ∀ (x0 y0 z0 x1 y1 z1 x2 y2 z2 x3 y3 z3 : Int32), m_X9_sellers_L59 v w 0 (-1) 0 0 = some (.inl (x0, y0, z0, 1)) → m_X9_sellers_L59 v w x0 y0 z0 1 = some (.inl (x1, y1, z1, 2)) → m_X9_sellers_L59 v w x1 y1 z1 2 = some (.inl (x2, y2, z2, 3)) → m_X9_sellers_L59 v w x2 y2 z2 3 = some (.inl (x3, y3, z3, 4)) → gloop (gu2 (fun (y14 : Int32) => gu2 (fun (y15 : Int32) => gu2 (fun (y16 : Int32) (y17 : Int32) => m_X9_sellers_L59 v w y14 y15 y16 y17)))) n (0, (-1), 0, 0) = some (x3, y3, z3) := by
    intro x0 y0 z0 x1 y1 z1 x2 y2 z2 x3 y3 z3 e0 e1 e2 e3
    have e4 : m_X9_sellers_L59 v w x3 y3 z3 4 = some (.inr (x3, y3, z3)) := by
      unfold m_X9_sellers_L59
      rw [if_pos (by decide)]
    obtain ⟨k, hk⟩ : ∃ k, n = k + 1 + 1 + 1 + 1 + 1 := ⟨n - 5, by omega⟩
    generalize hg : (gu2 (fun (y14 : Int32) => gu2 (fun (y15 : Int32) => gu2 (fun (y16 : Int32) (y17 : Int32) => m_X9_sellers_L59 v w y14 y15 y16 y17)))) = g
    have t0 : g (0, (-1), 0, 0) = some (.inl (x0, y0, z0, 1)) := by rw [← hg, gu2_e, gu2_e, gu2_e]; exact e0
    have t1 : g (x0, y0, z0, 1) = some (.inl (x1, y1, z1, 2)) := by rw [← hg, gu2_e, gu2_e, gu2_e]; exact e1
    have t2 : g (x1, y1, z1, 2) = some (.inl (x2, y2, z2, 3)) := by rw [← hg, gu2_e, gu2_e, gu2_e]; exact e2
    have t3 : g (x2, y2, z2, 3) = some (.inl (x3, y3, z3, 4)) := by rw [← hg, gu2_e, gu2_e, gu2_e]; exact e3
    have t4 : g (x3, y3, z3, 4) = some (.inr (x3, y3, z3)) := by rw [← hg, gu2_e, gu2_e, gu2_e]; exact e4
    rw [hk, gl_s t0, gl_s t1, gl_s t2, gl_s t3, gl_e t4]
  have hI : ∀ (a x y z x0 y0 z0 x1 y1 z1 : Int32), m_X10_sellers_L71 v w a x y z 0 = some (.inl (x0, y0, z0, 1)) → m_X10_sellers_L71 v w a x0 y0 z0 1 = some (.inl (x1, y1, z1, 2)) → gloop (gu2 (fun (y24 : Int32) => gu2 (fun (y25 : Int32) => gu2 (fun (y26 : Int32) (y27 : Int32) => m_X10_sellers_L71 v w a y24 y25 y26 y27)))) n (x, y, z, 0) = some (x1, y1, z1) := by
    intro a x y z x0 y0 z0 x1 y1 z1 e0 e1
    have e2 : m_X10_sellers_L71 v w a x1 y1 z1 2 = some (.inr (x1, y1, z1)) := by
      unfold m_X10_sellers_L71
      rw [if_pos (by decide)]
    obtain ⟨k, hk⟩ : ∃ k, n = k + 1 + 1 + 1 := ⟨n - 3, by omega⟩
    generalize hg : (gu2 (fun (y24 : Int32) => gu2 (fun (y25 : Int32) => gu2 (fun (y26 : Int32) (y27 : Int32) => m_X10_sellers_L71 v w a y24 y25 y26 y27)))) = g
    have t0 : g (x, y, z, 0) = some (.inl (x0, y0, z0, 1)) := by rw [← hg, gu2_e, gu2_e, gu2_e]; exact e0
    have t1 : g (x0, y0, z0, 1) = some (.inl (x1, y1, z1, 2)) := by rw [← hg, gu2_e, gu2_e, gu2_e]; exact e1
    have t2 : g (x1, y1, z1, 2) = some (.inr (x1, y1, z1)) := by rw [← hg, gu2_e, gu2_e, gu2_e]; exact e2
    rw [hk, gl_s t0, gl_s t1, gl_e t2]
  have hD : ∀ (x0 y0 z0 x1 y1 z1 x2 y2 z2 x3 y3 z3 : Int32), m_X10_sellers_L71 v w 0 0 (-1) 0 0 = some (.inl (x0, y0, z0, 1)) → m_X10_sellers_L71 v w 0 x0 y0 z0 1 = some (.inl (x1, y1, z1, 2)) → m_X10_sellers_L71 v w 1 x1 y1 z1 0 = some (.inl (x2, y2, z2, 1)) → m_X10_sellers_L71 v w 1 x2 y2 z2 1 = some (.inl (x3, y3, z3, 2)) → gloop (gu2 (fun (y13 : Int32) => gu2 (fun (y14 : Int32) => gu2 (fun (y15 : Int32) (y16 : Int32) => m_X10_sellers_L62 n v w y13 y14 y15 y16)))) n (0, (-1), 0, 0) = some (x3, y3, z3) := by
    intro x0 y0 z0 x1 y1 z1 x2 y2 z2 x3 y3 z3 e0 e1 e2 e3
    have i1 := hI 0 0 (-1) 0 x0 y0 z0 x1 y1 z1 e0 e1
    have i2 := hI 1 x1 y1 z1 x2 y2 z2 x3 y3 z3 e2 e3
    have s1 : m_X10_sellers_L62 n v w 0 (-1) 0 0 = some (.inl (x1, y1, z1, 1)) := by
      unfold m_X10_sellers_L62
      rw [if_neg (by decide), gb_x i1]
      rfl
    have s2 : m_X10_sellers_L62 n v w x1 y1 z1 1 = some (.inl (x3, y3, z3, 2)) := by
      unfold m_X10_sellers_L62
      rw [if_neg (by decide), gb_x i2]
      rfl
    have s3 : m_X10_sellers_L62 n v w x3 y3 z3 2 = some (.inr (x3, y3, z3)) := by
      unfold m_X10_sellers_L62
      rw [if_pos (by decide)]
    obtain ⟨k, hk⟩ : ∃ k, n = k + 1 + 1 + 1 := ⟨n - 3, by omega⟩
    generalize hg : (gu2 (fun (y13 : Int32) => gu2 (fun (y14 : Int32) => gu2 (fun (y15 : Int32) (y16 : Int32) => m_X10_sellers_L62 n v w y13 y14 y15 y16)))) = g
    have t1 : g (0, (-1), 0, 0) = some (.inl (x1, y1, z1, 1)) := by rw [← hg]; exact s1
    have t2 : g (x1, y1, z1, 1) = some (.inl (x3, y3, z3, 2)) := by rw [← hg]; exact s2
    have t3 : g (x3, y3, z3, 2) = some (.inr (x3, y3, z3)) := by rw [← hg]; exact s3
    rw [hk, gl_s t1, gl_s t2, gl_e t3]
  have w0 : ∀ x y z, _ := fun x y z => se_s v w x y z 0 0 0 1 (by decide) (by decide) (by decide) (by decide)
  have w1 : ∀ x y z, _ := fun x y z => se_s v w x y z 1 0 1 2 (by decide) (by decide) (by decide) (by decide)
  have w2 : ∀ x y z, _ := fun x y z => se_s v w x y z 2 1 0 3 (by decide) (by decide) (by decide) (by decide)
  have w3 : ∀ x y z, _ := fun x y z => se_s v w x y z 3 1 1 4 (by decide) (by decide) (by decide) (by decide)
  have r0 : ∀ a x y z, _ := fun a x y z => se_t v w x y z a 0 1 (by decide) (by decide)
  have r1 : ∀ a x y z, _ := fun a x y z => se_t v w x y z a 1 2 (by decide) (by decide)
  by_cases q : v < w
  · have q2 : ¬ w < v := fun h => Int32.lt_irrefl (Int32.lt_trans q h)
    refine ⟨_, hC 0 (-1) 0 1 (10 * 0 + 1) (0 + w) (1 + 1) (10 * 0 + 1) (0 + w) (1 + 1) (10 * 0 + 1) (0 + w) ?_ ?_ ?_ ?_, hD 0 (-1) 0 1 (10 * 0 + 1) (0 + w) (1 + 1) (10 * 0 + 1) (0 + w) (1 + 1) (10 * 0 + 1) (0 + w) ?_ ?_ ?_ ?_⟩
    · rw [w0, gb_x (se_1 v w), if_pos q, if_pos rfl]
    · rw [w1, gb_x (se_2 v w), if_neg q2, if_neg (by decide), if_pos rfl, gb_x (hb_01 v w).2, gb_x (hb_10 v w).2]
      rfl
    · rw [w2, gb_x (se_3 v w), if_neg q2, if_neg (by decide), if_neg (by decide)]
    · rw [w3, gb_x (se_4 v w), if_pos rfl]
    · rw [r0, gb_x (sb_00 v w), if_pos q, if_pos rfl]
    · rw [r1, gb_x (sb_01 v w), if_neg (by decide), gb_x (sb_10 v w), if_neg q2, if_neg (by decide), if_pos rfl, gb_x (hb_01 v w).1, gb_x (hb_10 v w).1]
      rfl
    · rw [r0, gb_x (sb_10 v w), if_neg q2, if_neg (by decide), gb_x (sb_01 v w), if_neg (by decide), if_neg (by decide)]
    · rw [r1, gb_x (sb_11 v w), if_pos rfl]
  · by_cases q2 : w < v
    · refine ⟨_, hC (0 + 1) (10 * 0 + 0) (v + v) (0 + 1) (10 * 0 + 0) (v + v) (0 + 1) (10 * 0 + 0) (v + v) (0 + 1) (10 * 0 + 0) (v + v) ?_ ?_ ?_ ?_, hD (0 + 1) (10 * 0 + 0) (v + v) (0 + 1) (10 * 0 + 0) (v + v) (0 + 1) (10 * 0 + 0) (v + v) (0 + 1) (10 * 0 + 0) (v + v) ?_ ?_ ?_ ?_⟩
      · rw [w0, gb_x (se_1 v w), if_neg q, if_neg (by decide), if_pos rfl, gb_x (hb_00 v w).2, gb_x (hb_00 v w).2]
      · rw [w1, gb_x (se_2 v w), if_pos q2, if_pos rfl]
      · rw [w2, gb_x (se_3 v w), if_pos q2, if_pos rfl]
      · rw [w3, gb_x (se_4 v w), if_pos rfl]
      · rw [r0, gb_x (sb_00 v w), if_neg q, if_neg (by decide), gb_x (sb_00 v w), if_neg q, if_neg (by decide), if_pos rfl, gb_x (hb_00 v w).1, gb_x (hb_00 v w).1]
      · rw [r1, gb_x (sb_01 v w), if_neg (by decide), gb_x (sb_10 v w), if_pos q2, if_pos rfl]
      · rw [r0, gb_x (sb_10 v w), if_pos q2, if_pos rfl]
      · rw [r1, gb_x (sb_11 v w), if_pos rfl]
    · refine ⟨_, hC (0 + 1) (10 * 0 + 0) (v + v) (0 + 1 + 1) (10 * 0 + 0) (v + v) (0 + 1 + 1 + 1) (10 * 0 + 0) (v + v) (0 + 1 + 1 + 1) (10 * 0 + 0) (v + v) ?_ ?_ ?_ ?_, hD (0 + 1) (10 * 0 + 0) (v + v) (0 + 1 + 1) (10 * 0 + 0) (v + v) (0 + 1 + 1 + 1) (10 * 0 + 0) (v + v) (0 + 1 + 1 + 1) (10 * 0 + 0) (v + v) ?_ ?_ ?_ ?_⟩
      · rw [w0, gb_x (se_1 v w), if_neg q, if_neg (by decide), if_pos rfl, gb_x (hb_00 v w).2, gb_x (hb_00 v w).2]
      · rw [w1, gb_x (se_2 v w), if_neg q2, if_neg (by decide), if_neg (by decide)]
      · rw [w2, gb_x (se_3 v w), if_neg q2, if_neg (by decide), if_neg (by decide)]
      · rw [w3, gb_x (se_4 v w), if_pos rfl]
      · rw [r0, gb_x (sb_00 v w), if_neg q, if_neg (by decide), gb_x (sb_00 v w), if_neg q, if_neg (by decide), if_pos rfl, gb_x (hb_00 v w).1, gb_x (hb_00 v w).1]
      · rw [r1, gb_x (sb_01 v w), if_neg (by decide), gb_x (sb_10 v w), if_neg q2, if_neg (by decide), if_neg (by decide)]
      · rw [r0, gb_x (sb_10 v w), if_neg q2, if_neg (by decide), gb_x (sb_01 v w), if_neg (by decide), if_neg (by decide)]
      · rw [r1, gb_x (sb_11 v w), if_pos rfl]
theorem sellers_two {th m p n : Nat} {c d : gm} (h : gRl th m p c d) (hn : 160 < n) (a b x : Int32) : gAns 1 0 (m_X9_sellers n 0 a b x c) (m_X10_sellers n 55 a b x d) := by
  have hZ := gRl_dZ h
  have z0 := dZ_0 d
  obtain ⟨hP, hp, ⟨hS, hRw, hM, hL⟩, hTo, hTp, hCn, hBk, hPs, hIm⟩ := id hZ
  obtain ⟨hk, h8, h5, h6, h7, h9, h10, h11, hw, hf, hcp⟩ := id hS
  obtain ⟨m0, m3, -⟩ := id hM
  have hm : m ≤ 10 := hRw.1
  have h56 := hRw.2.1
  by_cases q1 : 0 ≤ a ∧ a ≤ 99
  · by_cases q2 : 0 ≤ b ∧ b ≤ 99
    · by_cases q3 : 0 ≤ x ∧ x ≤ 2
      · obtain ⟨k, hk2, rfl⟩ := i_ex (y := 2) (by decide) q3
        obtain ⟨⟨u1, u2, u3⟩, i1, i2⟩ := sellers_lp hn a b
        have ec : m_X9_sellers n 0 a b (nI k) c = gok (if nI k = 0 then some (u1, c) else if nI k = 1 then some (u2, c) else some (u3, c)) := by
          unfold m_X9_sellers; simp only [gj_e]
          rw [if_neg (i_nlt q1.1), if_neg (i_nlt q1.2), if_neg (i_nlt q2.1), if_neg (i_nlt q2.2), gc_1 (show gck 0 = 9 from rfl), gbx_x1 (dm_1 c), if_neg (i_nlt q3.1), if_neg (i_nlt q3.2), gbx_x1 (dm_1 c), gb_x i1, gu2_e, gu2_e]
        have ed : m_X10_sellers n 55 a b (nI k) d = (if nI k = 0 then some (u1, dZ d) else if nI k = 1 then some (u2, dZ d) else some (u3, dZ d)) := by
          unfold m_X10_sellers; simp only [gj_e]
          rw [gc_1 (show gck 55 = 10 from rfl), gv_e, show gm_r d 55 (upd (d.1 55) 0 0) = dZ d from rfl, gb_x (in_1 q1), if_neg (by decide), gb_x (in_1 q2), if_neg (by decide), gb_x (in_1 q3), if_neg (by decide), gb2_x (bd_0 z0), if_pos rfl, gb_x i2, gu2_e, gu2_e]
        rcases (by omega : k = 0 ∨ k = 1 ∨ k = 2) with rfl | rfl | rfl
        · exact ans_o (r := u1) hZ z0 (by rw [ec, if_pos (show nI 0 = 0 from rfl), gok_e]) (by rw [ed, if_pos (show nI 0 = 0 from rfl)])
        · exact ans_o (r := u2) hZ z0 (by rw [ec, if_neg (show ¬ nI 1 = 0 by decide), if_pos (show nI 1 = 1 from rfl), gok_e]) (by rw [ed, if_neg (show ¬ nI 1 = 0 by decide), if_pos (show nI 1 = 1 from rfl)])
        · exact ans_o (r := u3) hZ z0 (by rw [ec, if_neg (show ¬ nI 2 = 0 by decide), if_neg (show ¬ nI 2 = 1 by decide), gok_e]) (by rw [ed, if_neg (show ¬ nI 2 = 0 by decide), if_neg (show ¬ nI 2 = 1 by decide)])
      · refine ans_i (v := 0) (d := d) hZ (by decide) ?_ ?_
        · unfold m_X9_sellers; simp only [gj_e]
          rw [if_neg (i_nlt q1.1), if_neg (i_nlt q1.2), if_neg (i_nlt q2.1), if_neg (i_nlt q2.2), gc_1 (show gck 0 = 9 from rfl), gbx_x1 (dm_1 c)]
          rcases i_or q3 with u | ⟨u, v⟩
          · rw [if_pos u, gbx_x2 (dm_0 c)]
          · rw [if_neg u, if_pos v, gbx_x2 (dm_0 c)]
        · unfold m_X10_sellers; simp only [gj_e]
          rw [gc_1 (show gck 55 = 10 from rfl), gv_e, show gm_r d 55 (upd (d.1 55) 0 0) = dZ d from rfl, gb_x (in_1 q1), if_neg (by decide), gb_x (in_1 q2), if_neg (by decide), gb_x (in_0 q3), if_pos rfl, gb2_x (bd_i z0 (by decide)), if_neg (by decide)]
    · refine ans_i (v := 0) (d := d) hZ (by decide) ?_ ?_
      · unfold m_X9_sellers; simp only [gj_e]
        rw [if_neg (i_nlt q1.1), if_neg (i_nlt q1.2)]
        rcases i_or q2 with u | ⟨u, v⟩
        · rw [if_pos u, gc_1 (show gck 0 = 9 from rfl), gbx_x2 (dm_0 c)]
        · rw [if_neg u, if_pos v, gc_1 (show gck 0 = 9 from rfl), gbx_x2 (dm_0 c)]
      · unfold m_X10_sellers; simp only [gj_e]
        rw [gc_1 (show gck 55 = 10 from rfl), gv_e, show gm_r d 55 (upd (d.1 55) 0 0) = dZ d from rfl, gb_x (in_1 q1), if_neg (by decide), gb_x (in_0 q2), if_pos rfl, gb2_x (bd_i z0 (by decide)), if_neg (by decide)]
  · refine ans_i (v := 0) (d := d) hZ (by decide) ?_ ?_
    · unfold m_X9_sellers; simp only [gj_e]
      skip
      rcases i_or q1 with u | ⟨u, v⟩
      · rw [if_pos u, gc_1 (show gck 0 = 9 from rfl), gbx_x2 (dm_0 c)]
      · rw [if_neg u, if_pos v, gc_1 (show gck 0 = 9 from rfl), gbx_x2 (dm_0 c)]
    · unfold m_X10_sellers; simp only [gj_e]
      rw [gc_1 (show gck 55 = 10 from rfl), gv_e, show gm_r d 55 (upd (d.1 55) 0 0) = dZ d from rfl, gb_x (in_0 q1), if_pos rfl, gb2_x (bd_i z0 (by decide)), if_neg (by decide)]
/-! how likely it is level: all cases are reckoned -/
def evC (a q : Int32) : Option (Int64 × Int64 × Int64) := gb (gloop (gu2 (fun (y17 : Int64) (y18 : Int32) => m_X9_even_L56 a q y17 y18)) 150 ((if (a - a / 2 * 2) = 0 then (1 : Int64) else (0 : Int64)), 1)) (fun z19 => gb (gloop (gu2 (fun (y21 : Int64) (y22 : Int32) => m_X9_even_L98 a y21 y22)) 150 ((1 : Int64), 0)) (fun z23 => gb (m_X9_commonMeasure 150 z19 z23) (fun r => some (z19, z23, r))))
def evD (a q : Int32) : Option (Int64 × Int64 × Int64) := gb (gloop (gu2 (fun (y16 : Int64) (y17 : Int32) => m_X10_even_L71 (a / 2) y16 y17)) 150 ((if (a - a / 2 * 2) = 0 then (1 : Int64) else (0 : Int64)), 1)) (fun z18 => gb (gloop (gu2 (fun (y20 : Int64) (y21 : Int32) => m_X10_even_L102 q (a / 2) y20 y21)) 150 (z18, 0)) (fun z22 => gb (gloop (gu2 (fun (y2 : Int64) (y3 : Int64) => m_X10_partOf_L6 y2 y3)) 150 (((1 : Int64) <<< (Int32.toInt64 (4 * a) &&& 63)), z22)) (fun z4 => some (z18, z22, z4))))
def evB (a q : Int32) : Bool := match evC a q, evD a q with
  | some (z19, z23, r), some (_, z22, z4) => decide (¬ r = 0 ∧ ¬ z4 = 0 ∧ z19 / r = z22 / z4 ∧ z23 / r = ((1 : Int64) <<< (Int32.toInt64 (4 * a) &&& 63)) / z4)
  | _, _ => false
set_option maxRecDepth 1000000 in
theorem ev_all : ∀ a, a < 13 → ∀ q, q < 17 → evB (nI a) (nI q) = true := by decide +kernel
theorem cm_le {n : Nat} {x y z : Int64} (h : m_X9_commonMeasure 150 x y = some z) (hn : 150 ≤ n) : m_X9_commonMeasure n x y = some z := by
  unfold m_X9_commonMeasure at h ⊢
  obtain ⟨u, e, h⟩ := gb_s h
  rw [gb_x (gloop_le e hn)]
  exact h
theorem even_lp {n a q : Nat} (hn : 160 < n) (ha : a < 13) (hq : q < 17) : ∃ (z19 z23 r z18 z22 z4 : Int64), gloop (gu2 (fun (y17 : Int64) (y18 : Int32) => m_X9_even_L56 (nI a) (nI q) y17 y18)) n ((if (nI a - nI a / 2 * 2) = 0 then (1 : Int64) else (0 : Int64)), 1) = some z19 ∧ gloop (gu2 (fun (y21 : Int64) (y22 : Int32) => m_X9_even_L98 (nI a) y21 y22)) n ((1 : Int64), 0) = some z23 ∧ m_X9_commonMeasure n z19 z23 = some r ∧ gloop (gu2 (fun (y16 : Int64) (y17 : Int32) => m_X10_even_L71 (nI a / 2) y16 y17)) n ((if (nI a - nI a / 2 * 2) = 0 then (1 : Int64) else (0 : Int64)), 1) = some z18 ∧ gloop (gu2 (fun (y20 : Int64) (y21 : Int32) => m_X10_even_L102 (nI q) (nI a / 2) y20 y21)) n (z18, 0) = some z22 ∧ gloop (gu2 (fun (y2 : Int64) (y3 : Int64) => m_X10_partOf_L6 y2 y3)) n (((1 : Int64) <<< (Int32.toInt64 (4 * nI a) &&& 63)), z22) = some z4 ∧ ¬ r = 0 ∧ ¬ z4 = 0 ∧ z19 / r = z22 / z4 ∧ z23 / r = ((1 : Int64) <<< (Int32.toInt64 (4 * nI a) &&& 63)) / z4 := by
  have h := ev_all a ha q hq
  unfold evB at h
  cases e1 : evC (nI a) (nI q) with
  | none => rw [e1] at h; simp at h
  | some u =>
    cases e2 : evD (nI a) (nI q) with
    | none => rw [e1, e2] at h; simp at h
    | some v =>
      obtain ⟨z19, z23, r⟩ := u
      obtain ⟨z18, z22, z4⟩ := v
      rw [e1, e2] at h
      have h := of_decide_eq_true h
      unfold evC at e1
      obtain ⟨a1, f1, e1⟩ := gb_s e1
      obtain ⟨a2, f2, e1⟩ := gb_s e1
      obtain ⟨a3, f3, e1⟩ := gb_s e1
      unfold evD at e2
      obtain ⟨b1, g1, e2⟩ := gb_s e2
      obtain ⟨b2, g2, e2⟩ := gb_s e2
      obtain ⟨b3, g3, e2⟩ := gb_s e2
      cases e1
      cases e2
      exact ⟨_, _, _, _, _, _, gloop_le f1 (by omega), gloop_le f2 (by omega), cm_le f3 (by omega), gloop_le g1 (by omega), gloop_le g2 (by omega), gloop_le g3 (by omega), h⟩
theorem even_two {th m p n : Nat} {c d : gm} (h : gRl th m p c d) (hn : 160 < n) (a b x : Int32) : gAns 1 0 (m_X9_even n 0 a b x c) (m_X10_even n 55 a b x d) := by
  have hZ := gRl_dZ h
  have z0 := dZ_0 d
  obtain ⟨hP, hp, ⟨hS, hRw, hM, hL⟩, hTo, hTp, hCn, hBk, hPs, hIm⟩ := id hZ
  obtain ⟨hk, h8, h5, h6, h7, h9, h10, h11, hw, hf, hcp⟩ := id hS
  obtain ⟨m0, m3, -⟩ := id hM
  have hm : m ≤ 10 := hRw.1
  have h56 := hRw.2.1
  by_cases q1 : 0 ≤ a ∧ a ≤ 12
  · by_cases q2 : 0 ≤ b ∧ b ≤ 16
    · by_cases q3 : 0 ≤ x ∧ x ≤ 1
      · obtain ⟨a, ha, rfl⟩ := i_ex (y := 12) (by decide) q1
        obtain ⟨b, hb, rfl⟩ := i_ex (y := 16) (by decide) q2
        obtain ⟨k, hk2, rfl⟩ := i_ex (y := 1) (by decide) q3
        obtain ⟨z19, z23, r, z18, z22, z4, l1, l2, l3, l4, l5, l6, n1, n2, v1, v2⟩ := even_lp (n := n) (a := a) (q := b) hn (by omega) (by omega)
        have hpt : m_X9_isPart (nI k) = some 1 := by
          unfold m_X9_isPart
          rcases (by omega : k = 0 ∨ k = 1) with rfl | rfl <;> rfl
        have ec : m_X9_even n 0 (nI a) (nI b) (nI k) c = gok (if nI k = 0 then some (z19 / r, c) else some (z23 / r, c)) := by
          unfold m_X9_even; simp only [gj_e]
          rw [if_neg (i_nlt q1.1), if_neg (i_nlt q1.2), if_neg (i_nlt q2.1), if_neg (i_nlt q2.2), gc_1 (show gck 0 = 9 from rfl), gbx_x1 (dm_1 c), gb_x hpt, gbx_x1 (dm_1 c)]
          have key : ∀ v13 : Int64, v13 = (if (nI a - nI a / 2 * 2) = 0 then (1 : Int64) else (0 : Int64)) → gv (1 : Int64) (fun (x15 : Int64) => gb (gloop (gu2 (fun (y17 : Int64) (y18 : Int32) => m_X9_even_L56 (nI a) (nI b) y17 y18)) n (v13, 1)) (fun (z19 : Int64) => gb (gloop (gu2 (fun (y21 : Int64) (y22 : Int32) => m_X9_even_L98 (nI a) y21 y22)) n (x15, 0)) (fun (z23 : Int64) => (if nI k = 0 then gb (m_X9_commonMeasure n z19 z23) (fun (r27 : Int64) => gc (¬ r27 = 0) (some ((z19 / r27), c))) else gb (m_X9_commonMeasure n z19 z23) (fun (r27 : Int64) => gc (¬ r27 = 0) (some ((z23 / r27), c))))))) = (if nI k = 0 then some (z19 / r, c) else some (z23 / r, c)) := by
            intro v13 ev
            rw [gv_e, ev, gb_x l1, gb_x l2]
            by_cases q : nI k = 0
            · rw [if_pos q, if_pos q, gb_x l3, gc_1 n1]
            · rw [if_neg q, if_neg q, gb_x l3, gc_1 n1]
          by_cases q : (nI a - nI a / 2 * 2) = 0
          · rw [if_pos q, key 1 (by rw [if_pos q])]
          · rw [if_neg q, key 0 (by rw [if_neg q])]
        have hpo : m_X10_partOf n z22 ((1 : Int64) <<< (Int32.toInt64 (4 * nI a) &&& 63)) (nI k) = if nI k = 0 then some (z22 / z4) else some (((1 : Int64) <<< (Int32.toInt64 (4 * nI a) &&& 63)) / z4) := by
          unfold m_X10_partOf
          rw [gb_x l6, gc_1 n2, gc_1 n2]
        have ed : m_X10_even n 55 (nI a) (nI b) (nI k) d = (if nI k = 0 then some (z19 / r, dZ d) else some (z23 / r, dZ d)) := by
          unfold m_X10_even; simp only [gj_e]
          rw [gc_1 (show gck 55 = 10 from rfl), gv_e, show gm_r d 55 (upd (d.1 55) 0 0) = dZ d from rfl, gb_x (in_1 q1), if_neg (by decide), gb_x (in_1 q2), if_neg (by decide), gb_x (in_1 q3), if_neg (by decide), gb2_x (bd_0 z0), if_pos rfl]
          have key : ∀ v12 : Int64, v12 = (if (nI a - nI a / 2 * 2) = 0 then (1 : Int64) else (0 : Int64)) → gv (nI a / 2) (fun (x14 : Int32) => gb (gloop (gu2 (fun (y16 : Int64) (y17 : Int32) => m_X10_even_L71 x14 y16 y17)) n (v12, 1)) (fun (z18 : Int64) => gb (gloop (gu2 (fun (y20 : Int64) (y21 : Int32) => m_X10_even_L102 (nI b) x14 y20 y21)) n (z18, 0)) (fun (z22 : Int64) => gb (m_X10_partOf n z22 ((1 : Int64) <<< (Int32.toInt64 (4 * nI a) &&& 63)) (nI k)) (fun (r24 : Int64) => some (r24, dZ d))))) = (if nI k = 0 then some (z19 / r, dZ d) else some (z23 / r, dZ d)) := by
            intro v12 ev
            rw [gv_e, ev, gb_x l4, gb_x l5, hpo]
            by_cases q : nI k = 0
            · rw [if_pos q, if_pos q, gb_e, v1]
            · rw [if_neg q, if_neg q, gb_e, v2]
          by_cases q : (nI a - nI a / 2 * 2) = 0
          · rw [if_pos q, key 1 (by rw [if_pos q])]
          · rw [if_neg q, key 0 (by rw [if_neg q])]
        rcases (by omega : k = 0 ∨ k = 1) with rfl | rfl
        · exact ans_o (r := z19 / r) hZ z0 (by rw [ec, if_pos (show nI 0 = 0 from rfl), gok_e]) (by rw [ed, if_pos (show nI 0 = 0 from rfl)])
        · exact ans_o (r := z23 / r) hZ z0 (by rw [ec, if_neg (show ¬ nI 1 = 0 by decide), gok_e]) (by rw [ed, if_neg (show ¬ nI 1 = 0 by decide)])
      · have hpt : m_X9_isPart x = some 0 := by
          unfold m_X9_isPart
          rw [if_neg (w01 q3).1, if_neg (w01 q3).2]
        refine ans_i (v := 0) (d := d) hZ (by decide) ?_ ?_
        · unfold m_X9_even; simp only [gj_e]
          rw [if_neg (i_nlt q1.1), if_neg (i_nlt q1.2), if_neg (i_nlt q2.1), if_neg (i_nlt q2.2), gc_1 (show gck 0 = 9 from rfl), gbx_x1 (dm_1 c), gb_x hpt, gbx_x2 (dm_0 c)]
        · unfold m_X10_even; simp only [gj_e]
          rw [gc_1 (show gck 55 = 10 from rfl), gv_e, show gm_r d 55 (upd (d.1 55) 0 0) = dZ d from rfl, gb_x (in_1 q1), if_neg (by decide), gb_x (in_1 q2), if_neg (by decide), gb_x (in_0 q3), if_pos rfl, gb2_x (bd_i z0 (by decide)), if_neg (by decide)]
    · refine ans_i (v := 0) (d := d) hZ (by decide) ?_ ?_
      · unfold m_X9_even; simp only [gj_e]
        rw [if_neg (i_nlt q1.1), if_neg (i_nlt q1.2)]
        rcases i_or q2 with u | ⟨u, v⟩
        · rw [if_pos u, gc_1 (show gck 0 = 9 from rfl), gbx_x2 (dm_0 c)]
        · rw [if_neg u, if_pos v, gc_1 (show gck 0 = 9 from rfl), gbx_x2 (dm_0 c)]
      · unfold m_X10_even; simp only [gj_e]
        rw [gc_1 (show gck 55 = 10 from rfl), gv_e, show gm_r d 55 (upd (d.1 55) 0 0) = dZ d from rfl, gb_x (in_1 q1), if_neg (by decide), gb_x (in_0 q2), if_pos rfl, gb2_x (bd_i z0 (by decide)), if_neg (by decide)]
  · refine ans_i (v := 0) (d := d) hZ (by decide) ?_ ?_
    · unfold m_X9_even; simp only [gj_e]
      skip
      rcases i_or q1 with u | ⟨u, v⟩
      · rw [if_pos u, gc_1 (show gck 0 = 9 from rfl), gbx_x2 (dm_0 c)]
      · rw [if_neg u, if_pos v, gc_1 (show gck 0 = 9 from rfl), gbx_x2 (dm_0 c)]
    · unfold m_X10_even; simp only [gj_e]
      rw [gc_1 (show gck 55 = 10 from rfl), gv_e, show gm_r d 55 (upd (d.1 55) 0 0) = dZ d from rfl, gb_x (in_0 q1), if_pos rfl, gb2_x (bd_i z0 (by decide)), if_neg (by decide)]
