set_option maxRecDepth 16384
/-! the law's cases: both sides answer alike and stay related -/
theorem lg_rf (x : Int64) : lg_cmp x x = 0 := by
  unfold lg_cmp
  rw [if_neg (Int64.lt_irrefl), if_pos rfl]
theorem thr_e (d : gm) : m_X10_thrown 55 d = some (d.1 55 0) := rfl
theorem gRel_o {c d : gm} (h : gRel c d) (i : Nat) (f : Nat → Int64) : gRel (gm_l c i f) d := by
  obtain ⟨th, m, p, h⟩ := h
  exact ⟨th, m, p, gRl_out h i f⟩
theorem tl_i {r3 r8 : Int32} {c4 c9 : gm} (hz : c9.1 55 0 = r3) (hv : r3 = 0 → lg_cmp (c4.2.1 530 (0 : Int32).toNatClampNeg) (Int32.toInt64 r8) = 0) : gb2 (some (r3, c4)) (fun (r3 : Int32) (c4 : gm) => gb2 (some (r8, c9)) (fun (r8 : Int32) (c9 : gm) => gb (m_X10_thrown 55 c9) (fun (r12 : Int32) => (if r12 = r3 then (if r3 = 0 then (if (lg_cmp (c4.2.1 530 (0 : Int32).toNatClampNeg) (Int32.toInt64 r8)) = 0 then some ((c4, c9) : gm × gm) else none) else some (c4, c9)) else none)))) = some (c4, c9) := by
  rw [gb2_e, gb2_e, thr_e, gb_e, if_pos hz]
  by_cases q : r3 = 0
  · rw [if_pos q, if_pos (hv q)]
  · rw [if_neg q]
theorem tl_l {r3 : Int32} {r8 : Int64} {c4 c9 : gm} (hz : c9.1 55 0 = r3) (hv : r3 = 0 → lg_cmp (c4.2.1 530 (0 : Int32).toNatClampNeg) r8 = 0) : gb2 (some (r3, c4)) (fun (r3 : Int32) (c4 : gm) => gb2 (some (r8, c9)) (fun (r8 : Int64) (c9 : gm) => gb (m_X10_thrown 55 c9) (fun (r12 : Int32) => (if r12 = r3 then (if r3 = 0 then (if (lg_cmp (c4.2.1 530 (0 : Int32).toNatClampNeg) r8) = 0 then some ((c4, c9) : gm × gm) else none) else some (c4, c9)) else none)))) = some (c4, c9) := by
  rw [gb2_e, gb2_e, thr_e, gb_e, if_pos hz]
  by_cases q : r3 = 0
  · rw [if_pos q, if_pos (hv q)]
  · rw [if_neg q]
theorem gbw_1 {α β : Type} {a : α} {k : α → Option β} {kx : Nat → gm → Option β} : gbw (some (.inl a)) k kx = k a := rfl
theorem gbw_2 {α β : Type} {q : Nat} {c : gm} {k : α → Option β} {kx : Nat → gm → Option β} : gbw (some (.inr (q, c))) k kx = kx q c := rfl
theorem fin_i {w1 w0 : Int32} {X : Option ((Int32 × gm) ⊕ (Nat × gm))} {Y : Option (Int32 × gm)} {W1 W0 : gm → Option (Int32 × gm)} (h : gAns w1 w0 X Y) (h1 : ¬ w1 = 0 → ∀ c, W1 c = some (w1, c)) (h0 : ¬ w0 = 0 → ∀ c, W0 c = some (w0, c)) : ∃ cd2 : gm × gm, gb2 (gbw X (fun (q : Int32 × gm) => some ((0 : Int32), gm_l q.2 530 (vp_updL (q.2.2.1 530) (0 : Int32).toNatClampNeg q.1.toInt64))) (fun (k : Nat) (c1 : gm) => if k = 1 then W1 c1 else if k = 0 then W0 c1 else none)) (fun (r3 : Int32) (c4 : gm) => gb2 Y (fun (r8 : Int32) (c9 : gm) => gb (m_X10_thrown 55 c9) (fun (r12 : Int32) => (if r12 = r3 then (if r3 = 0 then (if (lg_cmp (c4.2.1 530 (0 : Int32).toNatClampNeg) (Int32.toInt64 r8)) = 0 then some ((c4, c9) : gm × gm) else none) else some (c4, c9)) else none)))) = some cd2 ∧ gRel cd2.1 cd2.2 := by
  rcases h with ⟨r, c2, d2, e1, e2, z, hr⟩ | ⟨v, c2, d2, e1, e2, z, hw, hr⟩ | ⟨v, c2, d2, e1, e2, z, hw, hr⟩
  · refine ⟨(gm_l c2 530 (vp_updL (c2.2.1 530) (0 : Int32).toNatClampNeg r.toInt64), d2), ?_, gRel_o hr _ _⟩
    rw [e1, e2, gbw_1]
    exact tl_i z (fun _ => by rw [gml_s, ul_s, lg_rf])
  · refine ⟨(c2, d2), ?_, hr⟩
    rw [e1, e2, gbw_2, if_pos rfl, h1 hw]
    exact tl_i z (fun q => absurd q hw)
  · refine ⟨(c2, d2), ?_, hr⟩
    rw [e1, e2, gbw_2, if_neg (by decide), if_pos rfl, h0 hw]
    exact tl_i z (fun q => absurd q hw)
theorem fin_l {w1 w0 : Int32} {X : Option ((Int64 × gm) ⊕ (Nat × gm))} {Y : Option (Int64 × gm)} {W1 W0 : gm → Option (Int32 × gm)} (h : gAns w1 w0 X Y) (h1 : ¬ w1 = 0 → ∀ c, W1 c = some (w1, c)) (h0 : ¬ w0 = 0 → ∀ c, W0 c = some (w0, c)) : ∃ cd2 : gm × gm, gb2 (gbw X (fun (q : Int64 × gm) => some ((0 : Int32), gm_l q.2 530 (vp_updL (q.2.2.1 530) (0 : Int32).toNatClampNeg q.1))) (fun (k : Nat) (c1 : gm) => if k = 1 then W1 c1 else if k = 0 then W0 c1 else none)) (fun (r3 : Int32) (c4 : gm) => gb2 Y (fun (r8 : Int64) (c9 : gm) => gb (m_X10_thrown 55 c9) (fun (r12 : Int32) => (if r12 = r3 then (if r3 = 0 then (if (lg_cmp (c4.2.1 530 (0 : Int32).toNatClampNeg) r8) = 0 then some ((c4, c9) : gm × gm) else none) else some (c4, c9)) else none)))) = some cd2 ∧ gRel cd2.1 cd2.2 := by
  rcases h with ⟨r, c2, d2, e1, e2, z, hr⟩ | ⟨v, c2, d2, e1, e2, z, hw, hr⟩ | ⟨v, c2, d2, e1, e2, z, hw, hr⟩
  · refine ⟨(gm_l c2 530 (vp_updL (c2.2.1 530) (0 : Int32).toNatClampNeg r), d2), ?_, gRel_o hr _ _⟩
    rw [e1, e2, gbw_1]
    exact tl_l z (fun _ => by rw [gml_s, ul_s, lg_rf])
  · refine ⟨(c2, d2), ?_, hr⟩
    rw [e1, e2, gbw_2, if_pos rfl, h1 hw]
    exact tl_l z (fun q => absurd q hw)
  · refine ⟨(c2, d2), ?_, hr⟩
    rw [e1, e2, gbw_2, if_neg (by decide), if_pos rfl, h0 hw]
    exact tl_l z (fun q => absurd q hw)
theorem fin_0 {X Y : Option (Int32 × gm)} (h : gAn0 X Y) : ∃ cd2 : gm × gm, gb2 X (fun (r2 : Int32) (c3 : gm) => gb2 Y (fun (r6 : Int32) (c7 : gm) => (if r2 = r6 then some ((c3, c7) : gm × gm) else none))) = some cd2 ∧ gRel cd2.1 cd2.2 := by
  obtain ⟨r, c2, d2, e1, e2, hr⟩ := h
  refine ⟨(c2, d2), ?_, hr⟩
  rw [e1, e2]
  show (if r = r then some ((c2, d2) : gm × gm) else none) = _
  rw [if_pos rfl]
theorem fin_r {th m p : Nat} {c d : gm} {X : Option Int32} {Y : Option (Int32 × gm)} (h : ∃ r, X = some r ∧ Y = some (r, dZ d) ∧ gRl th m p c (dZ d)) : ∃ cd2 : gm × gm, gb X (fun (r2 : Int32) => gb2 Y (fun (r6 : Int32) (c7 : gm) => (if r2 = r6 then some ((c, c7) : gm × gm) else none))) = some cd2 ∧ gRel cd2.1 cd2.2 := by
  obtain ⟨r, e1, e2, hr⟩ := h
  refine ⟨(c, dZ d), ?_, th, m, p, hr⟩
  rw [e1, e2]
  show (if r = r then some ((c, dZ d) : gm × gm) else none) = _
  rw [if_pos rfl]
/-- the places of a call's eight numbers lie in the script -/
def gLx (L : Nat) (i : Int32) : Prop := (0 ≤ (i + 1).toInt ∧ (i + 1).toInt < (L : Nat)) ∧ (0 ≤ (i + 2).toInt ∧ (i + 2).toInt < (L : Nat)) ∧ (0 ≤ (i + 3).toInt ∧ (i + 3).toInt < (L : Nat)) ∧ (0 ≤ (i + 4).toInt ∧ (i + 4).toInt < (L : Nat)) ∧ (0 ≤ (i + 5).toInt ∧ (i + 5).toInt < (L : Nat)) ∧ (0 ≤ (i + 6).toInt ∧ (i + 6).toInt < (L : Nat)) ∧ (0 ≤ (i + 7).toInt ∧ (i + 7).toInt < (L : Nat))
theorem lwp_0 {n L : Nat} {xs : Nat → Int32} {i : Int32} {c d : gm} (h : gRel c d) (hn : 1100 < n) (hx : gLx L i) : ∃ cd2 : gm × gm, m_law_0 n xs L i (c, d) = some cd2 ∧ gRel cd2.1 cd2.2 := by
  obtain ⟨th, m, p, hR⟩ := h
  obtain ⟨h1, h2, h3, h4, h5, h6, h7⟩ := hx
  unfold m_law_0
  simp only [gc_1 h1, gc_1 h2, gc_1 h3, gc_1 h4, gc_1 h5, gv_e]
  exact fin_0 (feed_two2 hR (n := n) (by omega) (xs (i + 1).toNatClampNeg) (xs (i + 2).toNatClampNeg) (xs (i + 3).toNatClampNeg) (xs (i + 4).toNatClampNeg) (xs (i + 5).toNatClampNeg))
theorem lwp_1 {n L : Nat} {xs : Nat → Int32} {i : Int32} {c d : gm} (h : gRel c d) (hn : 1100 < n) (hx : gLx L i) : ∃ cd2 : gm × gm, m_law_1 n xs L i (c, d) = some cd2 ∧ gRel cd2.1 cd2.2 := by
  obtain ⟨th, m, p, hR⟩ := h
  obtain ⟨h1, h2, h3, h4, h5, h6, h7⟩ := hx
  unfold m_law_1 m_L_market
  simp only [gc_1 h1, gv_e, gc_1 (show gck 0 = 9 from rfl), gc_1 (show gck 530 = 26 from rfl)]
  exact fin_i (market_two hR (n := n) (by omega) (xs (i + 1).toNatClampNeg)) (fun _ _ => rfl) (fun q => absurd rfl q)
theorem lwp_2 {n L : Nat} {xs : Nat → Int32} {i : Int32} {c d : gm} (h : gRel c d) (hn : 1100 < n) (hx : gLx L i) : ∃ cd2 : gm × gm, m_law_2 n xs L i (c, d) = some cd2 ∧ gRel cd2.1 cd2.2 := by
  obtain ⟨th, m, p, hR⟩ := h
  obtain ⟨h1, h2, h3, h4, h5, h6, h7⟩ := hx
  unfold m_law_2 m_L_law
  simp only [gc_1 h1, gv_e, gc_1 (show gck 0 = 9 from rfl), gc_1 (show gck 530 = 26 from rfl)]
  exact fin_i (law_two hR (n := n) (by omega) (xs (i + 1).toNatClampNeg)) (fun _ _ => rfl) (fun q => absurd rfl q)
theorem lwp_3 {n L : Nat} {xs : Nat → Int32} {i : Int32} {c d : gm} (h : gRel c d) (hn : 1100 < n) (hx : gLx L i) : ∃ cd2 : gm × gm, m_law_3 n xs L i (c, d) = some cd2 ∧ gRel cd2.1 cd2.2 := by
  obtain ⟨th, m, p, hR⟩ := h
  obtain ⟨h1, h2, h3, h4, h5, h6, h7⟩ := hx
  unfold m_law_3 m_L_work
  simp only [gc_1 h1, gv_e, gc_1 (show gck 0 = 9 from rfl), gc_1 (show gck 530 = 26 from rfl)]
  exact fin_i (work_two hR (n := n) (by omega) (xs (i + 1).toNatClampNeg)) (fun _ _ => rfl) (fun q => absurd rfl q)
theorem lwp_4 {n L : Nat} {xs : Nat → Int32} {i : Int32} {c d : gm} (h : gRel c d) (hn : 1100 < n) (hx : gLx L i) : ∃ cd2 : gm × gm, m_law_4 n xs L i (c, d) = some cd2 ∧ gRel cd2.1 cd2.2 := by
  obtain ⟨th, m, p, hR⟩ := h
  obtain ⟨h1, h2, h3, h4, h5, h6, h7⟩ := hx
  unfold m_law_4 m_L_book
  simp only [gc_1 h1, gv_e, gc_1 (show gck 0 = 9 from rfl), gc_1 (show gck 530 = 26 from rfl)]
  exact fin_i (book_two hR (n := n) (by omega) (xs (i + 1).toNatClampNeg)) (fun _ _ => rfl) (fun q => absurd rfl q)
theorem lwp_5 {n L : Nat} {xs : Nat → Int32} {i : Int32} {c d : gm} (h : gRel c d) (hn : 1100 < n) (hx : gLx L i) : ∃ cd2 : gm × gm, m_law_5 n xs L i (c, d) = some cd2 ∧ gRel cd2.1 cd2.2 := by
  obtain ⟨th, m, p, hR⟩ := h
  obtain ⟨h1, h2, h3, h4, h5, h6, h7⟩ := hx
  unfold m_law_5
  simp only [gv_e]
  exact fin_r (fault_two hR)
theorem lwp_6 {n L : Nat} {xs : Nat → Int32} {i : Int32} {c d : gm} (h : gRel c d) (hn : 1100 < n) (hx : gLx L i) : ∃ cd2 : gm × gm, m_law_6 n xs L i (c, d) = some cd2 ∧ gRel cd2.1 cd2.2 := by
  obtain ⟨th, m, p, hR⟩ := h
  obtain ⟨h1, h2, h3, h4, h5, h6, h7⟩ := hx
  unfold m_law_6
  simp only [gv_e]
  exact fin_0 (undo_two hR (n := n) (by omega))
theorem lwp_7 {n L : Nat} {xs : Nat → Int32} {i : Int32} {c d : gm} (h : gRel c d) (hn : 1100 < n) (hx : gLx L i) : ∃ cd2 : gm × gm, m_law_7 n xs L i (c, d) = some cd2 ∧ gRel cd2.1 cd2.2 := by
  obtain ⟨th, m, p, hR⟩ := h
  obtain ⟨h1, h2, h3, h4, h5, h6, h7⟩ := hx
  unfold m_law_7 m_L_told
  simp only [gc_1 h1, gv_e, gc_1 (show gck 0 = 9 from rfl), gc_1 (show gck 530 = 26 from rfl)]
  exact fin_i (told_two hR (n := n) (by omega) (xs (i + 1).toNatClampNeg)) (fun _ _ => rfl) (fun q => absurd rfl q)
theorem lwp_8 {n L : Nat} {xs : Nat → Int32} {i : Int32} {c d : gm} (h : gRel c d) (hn : 1100 < n) (hx : gLx L i) : ∃ cd2 : gm × gm, m_law_8 n xs L i (c, d) = some cd2 ∧ gRel cd2.1 cd2.2 := by
  obtain ⟨th, m, p, hR⟩ := h
  obtain ⟨h1, h2, h3, h4, h5, h6, h7⟩ := hx
  unfold m_law_8 m_L_thing
  simp only [gc_1 h1, gc_1 h2, gv_e, gc_1 (show gck 0 = 9 from rfl), gc_1 (show gck 530 = 26 from rfl)]
  exact fin_i (thing_two hR (n := n) (by omega) (xs (i + 1).toNatClampNeg) (xs (i + 2).toNatClampNeg)) (fun _ _ => rfl) (fun _ _ => rfl)
theorem lwp_9 {n L : Nat} {xs : Nat → Int32} {i : Int32} {c d : gm} (h : gRel c d) (hn : 1100 < n) (hx : gLx L i) : ∃ cd2 : gm × gm, m_law_9 n xs L i (c, d) = some cd2 ∧ gRel cd2.1 cd2.2 := by
  obtain ⟨th, m, p, hR⟩ := h
  obtain ⟨h1, h2, h3, h4, h5, h6, h7⟩ := hx
  unfold m_law_9 m_L_cry
  simp only [gc_1 h1, gc_1 h2, gv_e, gc_1 (show gck 0 = 9 from rfl), gc_1 (show gck 530 = 26 from rfl)]
  exact fin_i (cry_two hR (n := n) (by omega) (xs (i + 1).toNatClampNeg) (xs (i + 2).toNatClampNeg)) (fun _ _ => rfl) (fun _ _ => rfl)
theorem lwp_10 {n L : Nat} {xs : Nat → Int32} {i : Int32} {c d : gm} (h : gRel c d) (hn : 1100 < n) (hx : gLx L i) : ∃ cd2 : gm × gm, m_law_10 n xs L i (c, d) = some cd2 ∧ gRel cd2.1 cd2.2 := by
  obtain ⟨th, m, p, hR⟩ := h
  obtain ⟨h1, h2, h3, h4, h5, h6, h7⟩ := hx
  unfold m_law_10 m_L_stands
  simp only [gc_1 h1, gc_1 h2, gc_1 h3, gc_1 h4, gv_e, gc_1 (show gck 0 = 9 from rfl), gc_1 (show gck 530 = 26 from rfl)]
  exact fin_i (stands_two hR (n := n) (by omega) (xs (i + 1).toNatClampNeg) (xs (i + 2).toNatClampNeg) (xs (i + 3).toNatClampNeg) (xs (i + 4).toNatClampNeg)) (fun _ _ => rfl) (fun _ _ => rfl)
theorem lwp_11 {n L : Nat} {xs : Nat → Int32} {i : Int32} {c d : gm} (h : gRel c d) (hn : 1100 < n) (hx : gLx L i) : ∃ cd2 : gm × gm, m_law_11 n xs L i (c, d) = some cd2 ∧ gRel cd2.1 cd2.2 := by
  obtain ⟨th, m, p, hR⟩ := h
  obtain ⟨h1, h2, h3, h4, h5, h6, h7⟩ := hx
  unfold m_law_11 m_L_would
  simp only [gc_1 h1, gc_1 h2, gc_1 h3, gc_1 h4, gc_1 h5, gc_1 h6, gc_1 h7, gv_e, gc_1 (show gck 0 = 9 from rfl), gc_1 (show gck 530 = 26 from rfl)]
  exact fin_i (would_two hR (n := n) (by omega) (xs (i + 1).toNatClampNeg) (xs (i + 2).toNatClampNeg) (xs (i + 3).toNatClampNeg) (xs (i + 4).toNatClampNeg) (xs (i + 5).toNatClampNeg) (xs (i + 6).toNatClampNeg) (xs (i + 7).toNatClampNeg)) (fun _ _ => rfl) (fun q => absurd rfl q)
theorem lwp_12 {n L : Nat} {xs : Nat → Int32} {i : Int32} {c d : gm} (h : gRel c d) (hn : 1100 < n) (hx : gLx L i) : ∃ cd2 : gm × gm, m_law_12 n xs L i (c, d) = some cd2 ∧ gRel cd2.1 cd2.2 := by
  obtain ⟨th, m, p, hR⟩ := h
  obtain ⟨h1, h2, h3, h4, h5, h6, h7⟩ := hx
  unfold m_law_12 m_L_ahead
  simp only [gc_1 h1, gc_1 h2, gv_e, gc_1 (show gck 0 = 9 from rfl), gc_1 (show gck 530 = 26 from rfl)]
  exact fin_i (ahead_two hR (n := n) (by omega) (xs (i + 1).toNatClampNeg) (xs (i + 2).toNatClampNeg)) (fun _ _ => rfl) (fun q => absurd rfl q)
theorem lwp_13 {n L : Nat} {xs : Nat → Int32} {i : Int32} {c d : gm} (h : gRel c d) (hn : 1100 < n) (hx : gLx L i) : ∃ cd2 : gm × gm, m_law_13 n xs L i (c, d) = some cd2 ∧ gRel cd2.1 cd2.2 := by
  obtain ⟨th, m, p, hR⟩ := h
  obtain ⟨h1, h2, h3, h4, h5, h6, h7⟩ := hx
  unfold m_law_13 m_L_worth
  simp only [gc_1 h1, gc_1 h2, gc_1 h3, gv_e, gc_1 (show gck 0 = 9 from rfl), gc_1 (show gck 530 = 26 from rfl)]
  exact fin_l (worth_two hR (n := n) (by omega) (xs (i + 1).toNatClampNeg) (xs (i + 2).toNatClampNeg) (xs (i + 3).toNatClampNeg)) (fun _ _ => rfl) (fun _ _ => rfl)
theorem lwp_14 {n L : Nat} {xs : Nat → Int32} {i : Int32} {c d : gm} (h : gRel c d) (hn : 1100 < n) (hx : gLx L i) : ∃ cd2 : gm × gm, m_law_14 n xs L i (c, d) = some cd2 ∧ gRel cd2.1 cd2.2 := by
  obtain ⟨th, m, p, hR⟩ := h
  obtain ⟨h1, h2, h3, h4, h5, h6, h7⟩ := hx
  unfold m_law_14 m_L_fattest
  simp only [gc_1 h1, gv_e, gc_1 (show gck 0 = 9 from rfl), gc_1 (show gck 530 = 26 from rfl)]
  exact fin_l (fattest_two hR (n := n) (by omega) (xs (i + 1).toNatClampNeg)) (fun _ _ => rfl) (fun q => absurd rfl q)
theorem lwp_15 {n L : Nat} {xs : Nat → Int32} {i : Int32} {c d : gm} (h : gRel c d) (hn : 1100 < n) (hx : gLx L i) : ∃ cd2 : gm × gm, m_law_15 n xs L i (c, d) = some cd2 ∧ gRel cd2.1 cd2.2 := by
  obtain ⟨th, m, p, hR⟩ := h
  obtain ⟨h1, h2, h3, h4, h5, h6, h7⟩ := hx
  unfold m_law_15
  simp only [gv_e]
  exact fin_0 (fat_two hR (n := n) (by omega))
theorem lwp_16 {n L : Nat} {xs : Nat → Int32} {i : Int32} {c d : gm} (h : gRel c d) (hn : 1100 < n) (hx : gLx L i) : ∃ cd2 : gm × gm, m_law_16 n xs L i (c, d) = some cd2 ∧ gRel cd2.1 cd2.2 := by
  obtain ⟨th, m, p, hR⟩ := h
  obtain ⟨h1, h2, h3, h4, h5, h6, h7⟩ := hx
  unfold m_law_16
  simp only [gv_e]
  exact fin_0 (mend_two hR (n := n) (by omega))
theorem lwp_17 {n L : Nat} {xs : Nat → Int32} {i : Int32} {c d : gm} (h : gRel c d) (hn : 1100 < n) (hx : gLx L i) : ∃ cd2 : gm × gm, m_law_17 n xs L i (c, d) = some cd2 ∧ gRel cd2.1 cd2.2 := by
  obtain ⟨th, m, p, hR⟩ := h
  obtain ⟨h1, h2, h3, h4, h5, h6, h7⟩ := hx
  unfold m_law_17 m_L_match
  simp only [gc_1 h1, gc_1 h2, gv_e, gc_1 (show gck 0 = 9 from rfl), gc_1 (show gck 530 = 26 from rfl)]
  exact fin_i (match_two hR (n := n) (by omega) (xs (i + 1).toNatClampNeg) (xs (i + 2).toNatClampNeg)) (fun _ _ => rfl) (fun q => absurd rfl q)
theorem lwp_18 {n L : Nat} {xs : Nat → Int32} {i : Int32} {c d : gm} (h : gRel c d) (hn : 1100 < n) (hx : gLx L i) : ∃ cd2 : gm × gm, m_law_18 n xs L i (c, d) = some cd2 ∧ gRel cd2.1 cd2.2 := by
  obtain ⟨th, m, p, hR⟩ := h
  obtain ⟨h1, h2, h3, h4, h5, h6, h7⟩ := hx
  unfold m_law_18 m_L_fewest
  simp only [gc_1 h1, gv_e, gc_1 (show gck 0 = 9 from rfl), gc_1 (show gck 530 = 26 from rfl)]
  exact fin_i (fewest_two hR (n := n) (by omega) (xs (i + 1).toNatClampNeg)) (fun _ _ => rfl) (fun q => absurd rfl q)
theorem lwp_19 {n L : Nat} {xs : Nat → Int32} {i : Int32} {c d : gm} (h : gRel c d) (hn : 1100 < n) (hx : gLx L i) : ∃ cd2 : gm × gm, m_law_19 n xs L i (c, d) = some cd2 ∧ gRel cd2.1 cd2.2 := by
  obtain ⟨th, m, p, hR⟩ := h
  obtain ⟨h1, h2, h3, h4, h5, h6, h7⟩ := hx
  unfold m_law_19 m_L_level
  simp only [gc_1 h1, gc_1 h2, gv_e, gc_1 (show gck 0 = 9 from rfl), gc_1 (show gck 530 = 26 from rfl)]
  exact fin_i (level_two hR (n := n) (by omega) (xs (i + 1).toNatClampNeg) (xs (i + 2).toNatClampNeg)) (fun _ _ => rfl) (fun q => absurd rfl q)
theorem lwp_20 {n L : Nat} {xs : Nat → Int32} {i : Int32} {c d : gm} (h : gRel c d) (hn : 1100 < n) (hx : gLx L i) : ∃ cd2 : gm × gm, m_law_20 n xs L i (c, d) = some cd2 ∧ gRel cd2.1 cd2.2 := by
  obtain ⟨th, m, p, hR⟩ := h
  obtain ⟨h1, h2, h3, h4, h5, h6, h7⟩ := hx
  unfold m_law_20 m_L_fits
  simp only [gc_1 h1, gv_e, gc_1 (show gck 0 = 9 from rfl), gc_1 (show gck 530 = 26 from rfl)]
  exact fin_i (fits_two hR (n := n) (by omega) (xs (i + 1).toNatClampNeg)) (fun _ _ => rfl) (fun q => absurd rfl q)
theorem lwp_21 {n L : Nat} {xs : Nat → Int32} {i : Int32} {c d : gm} (h : gRel c d) (hn : 1100 < n) (hx : gLx L i) : ∃ cd2 : gm × gm, m_law_21 n xs L i (c, d) = some cd2 ∧ gRel cd2.1 cd2.2 := by
  obtain ⟨th, m, p, hR⟩ := h
  obtain ⟨h1, h2, h3, h4, h5, h6, h7⟩ := hx
  unfold m_law_21 m_L_look
  simp only [gc_1 h1, gv_e, gc_1 (show gck 0 = 9 from rfl), gc_1 (show gck 530 = 26 from rfl)]
  exact fin_i (look_two hR (n := n) (by omega) (xs (i + 1).toNatClampNeg)) (fun _ _ => rfl) (fun q => absurd rfl q)
theorem lwp_22 {n L : Nat} {xs : Nat → Int32} {i : Int32} {c d : gm} (h : gRel c d) (hn : 1100 < n) (hx : gLx L i) : ∃ cd2 : gm × gm, m_law_22 n xs L i (c, d) = some cd2 ∧ gRel cd2.1 cd2.2 := by
  obtain ⟨th, m, p, hR⟩ := h
  obtain ⟨h1, h2, h3, h4, h5, h6, h7⟩ := hx
  unfold m_law_22 m_L_falsely
  simp only [gc_1 h1, gv_e, gc_1 (show gck 0 = 9 from rfl), gc_1 (show gck 530 = 26 from rfl)]
  exact fin_i (falsely_two hR (n := n) (by omega) (xs (i + 1).toNatClampNeg)) (fun _ _ => rfl) (fun q => absurd rfl q)
theorem lwp_23 {n L : Nat} {xs : Nat → Int32} {i : Int32} {c d : gm} (h : gRel c d) (hn : 1100 < n) (hx : gLx L i) : ∃ cd2 : gm × gm, m_law_23 n xs L i (c, d) = some cd2 ∧ gRel cd2.1 cd2.2 := by
  obtain ⟨th, m, p, hR⟩ := h
  obtain ⟨h1, h2, h3, h4, h5, h6, h7⟩ := hx
  unfold m_law_23 m_L_sellers
  simp only [gc_1 h1, gc_1 h2, gc_1 h3, gv_e, gc_1 (show gck 0 = 9 from rfl), gc_1 (show gck 530 = 26 from rfl)]
  exact fin_i (sellers_two hR (n := n) (by omega) (xs (i + 1).toNatClampNeg) (xs (i + 2).toNatClampNeg) (xs (i + 3).toNatClampNeg)) (fun _ _ => rfl) (fun q => absurd rfl q)
theorem lwp_24 {n L : Nat} {xs : Nat → Int32} {i : Int32} {c d : gm} (h : gRel c d) (hn : 1100 < n) (hx : gLx L i) : ∃ cd2 : gm × gm, m_law_24 n xs L i (c, d) = some cd2 ∧ gRel cd2.1 cd2.2 := by
  obtain ⟨th, m, p, hR⟩ := h
  obtain ⟨h1, h2, h3, h4, h5, h6, h7⟩ := hx
  unfold m_law_24 m_L_even
  simp only [gc_1 h1, gc_1 h2, gc_1 h3, gv_e, gc_1 (show gck 0 = 9 from rfl), gc_1 (show gck 530 = 26 from rfl)]
  exact fin_l (even_two hR (n := n) (by omega) (xs (i + 1).toNatClampNeg) (xs (i + 2).toNatClampNeg) (xs (i + 3).toNatClampNeg)) (fun _ _ => rfl) (fun q => absurd rfl q)
theorem lwp_25 {n L : Nat} {xs : Nat → Int32} {i : Int32} {c d : gm} (h : gRel c d) (hn : 1100 < n) (hx : gLx L i) : ∃ cd2 : gm × gm, m_law_25 n xs L i (c, d) = some cd2 ∧ gRel cd2.1 cd2.2 := by
  obtain ⟨th, m, p, hR⟩ := h
  obtain ⟨h1, h2, h3, h4, h5, h6, h7⟩ := hx
  unfold m_law_25 m_L_share
  simp only [gc_1 h1, gc_1 h2, gc_1 h3, gv_e, gc_1 (show gck 0 = 9 from rfl), gc_1 (show gck 530 = 26 from rfl)]
  exact fin_i (share_two hR (n := n) (by omega) (xs (i + 1).toNatClampNeg) (xs (i + 2).toNatClampNeg) (xs (i + 3).toNatClampNeg)) (fun _ _ => rfl) (fun _ _ => rfl)
theorem lwp_26 {n L : Nat} {xs : Nat → Int32} {i : Int32} {c d : gm} (h : gRel c d) (hn : 1100 < n) (hx : gLx L i) : ∃ cd2 : gm × gm, m_law_26 n xs L i (c, d) = some cd2 ∧ gRel cd2.1 cd2.2 := by
  obtain ⟨th, m, p, hR⟩ := h
  obtain ⟨h1, h2, h3, h4, h5, h6, h7⟩ := hx
  unfold m_law_26 m_L_heaviest
  simp only [gc_1 h1, gv_e, gc_1 (show gck 0 = 9 from rfl), gc_1 (show gck 530 = 26 from rfl)]
  exact fin_i (heaviest_two hR (n := n) (by omega) (xs (i + 1).toNatClampNeg)) (fun _ _ => rfl) (fun q => absurd rfl q)
theorem lwp_27 {n L : Nat} {xs : Nat → Int32} {i : Int32} {c d : gm} (h : gRel c d) (hn : 1100 < n) (hx : gLx L i) : ∃ cd2 : gm × gm, m_law_27 n xs L i (c, d) = some cd2 ∧ gRel cd2.1 cd2.2 := by
  obtain ⟨th, m, p, hR⟩ := h
  obtain ⟨h1, h2, h3, h4, h5, h6, h7⟩ := hx
  unfold m_law_27 m_L_above
  simp only [gc_1 h1, gv_e, gc_1 (show gck 0 = 9 from rfl), gc_1 (show gck 530 = 26 from rfl)]
  exact fin_i (above_two hR (n := n) (by omega) (xs (i + 1).toNatClampNeg)) (fun q => absurd rfl q) (fun _ _ => rfl)
theorem lwp_28 {n L : Nat} {xs : Nat → Int32} {i : Int32} {c d : gm} (h : gRel c d) (hn : 1100 < n) (hx : gLx L i) : ∃ cd2 : gm × gm, m_law_28 n xs L i (c, d) = some cd2 ∧ gRel cd2.1 cd2.2 := by
  obtain ⟨th, m, p, hR⟩ := h
  obtain ⟨h1, h2, h3, h4, h5, h6, h7⟩ := hx
  unfold m_law_28 m_L_alike
  simp only [gc_1 h1, gv_e, gc_1 (show gck 0 = 9 from rfl), gc_1 (show gck 530 = 26 from rfl)]
  exact fin_i (alike_two hR (n := n) (by omega) (xs (i + 1).toNatClampNeg)) (fun _ _ => rfl) (fun q => absurd rfl q)
theorem lwp_29 {n L : Nat} {xs : Nat → Int32} {i : Int32} {c d : gm} (h : gRel c d) (hn : 1100 < n) (hx : gLx L i) : ∃ cd2 : gm × gm, m_law_29 n xs L i (c, d) = some cd2 ∧ gRel cd2.1 cd2.2 := by
  obtain ⟨th, m, p, hR⟩ := h
  obtain ⟨h1, h2, h3, h4, h5, h6, h7⟩ := hx
  unfold m_law_29 m_L_against
  simp only [gc_1 h1, gc_1 h2, gv_e, gc_1 (show gck 0 = 9 from rfl), gc_1 (show gck 530 = 26 from rfl)]
  exact fin_i (against_two hR (n := n) (by omega) (xs (i + 1).toNatClampNeg) (xs (i + 2).toNatClampNeg)) (fun q => absurd rfl q) (fun _ _ => rfl)
theorem lwp_30 {n L : Nat} {xs : Nat → Int32} {i : Int32} {c d : gm} (h : gRel c d) (hn : 1100 < n) (hx : gLx L i) : ∃ cd2 : gm × gm, m_law_30 n xs L i (c, d) = some cd2 ∧ gRel cd2.1 cd2.2 := by
  obtain ⟨th, m, p, hR⟩ := h
  obtain ⟨h1, h2, h3, h4, h5, h6, h7⟩ := hx
  unfold m_law_30 m_L_fair
  simp only [gc_1 h1, gc_1 h2, gc_1 h3, gc_1 h4, gv_e, gc_1 (show gck 0 = 9 from rfl), gc_1 (show gck 530 = 26 from rfl)]
  exact fin_i (fair_two hR (n := n) (by omega) (xs (i + 1).toNatClampNeg) (xs (i + 2).toNatClampNeg) (xs (i + 3).toNatClampNeg) (xs (i + 4).toNatClampNeg)) (fun _ _ => rfl) (fun q => absurd rfl q)
theorem lwp_31 {n L : Nat} {xs : Nat → Int32} {i : Int32} {c d : gm} (h : gRel c d) (hn : 1100 < n) (hx : gLx L i) : ∃ cd2 : gm × gm, m_law_31 n xs L i (c, d) = some cd2 ∧ gRel cd2.1 cd2.2 := by
  obtain ⟨th, m, p, hR⟩ := h
  obtain ⟨h1, h2, h3, h4, h5, h6, h7⟩ := hx
  unfold m_law_31 m_L_span
  simp only [gc_1 h1, gc_1 h2, gc_1 h3, gc_1 h4, gc_1 h5, gc_1 h6, gv_e, gc_1 (show gck 0 = 9 from rfl), gc_1 (show gck 530 = 26 from rfl)]
  exact fin_i (span_two hR (n := n) (by omega) (xs (i + 1).toNatClampNeg) (xs (i + 2).toNatClampNeg) (xs (i + 3).toNatClampNeg) (xs (i + 4).toNatClampNeg) (xs (i + 5).toNatClampNeg) (xs (i + 6).toNatClampNeg)) (fun _ _ => rfl) (fun q => absurd rfl q)
theorem lwp_32 {n L : Nat} {xs : Nat → Int32} {i : Int32} {c d : gm} (h : gRel c d) (hn : 1100 < n) (hx : gLx L i) : ∃ cd2 : gm × gm, m_law_32 n xs L i (c, d) = some cd2 ∧ gRel cd2.1 cd2.2 := by
  obtain ⟨th, m, p, hR⟩ := h
  obtain ⟨h1, h2, h3, h4, h5, h6, h7⟩ := hx
  unfold m_law_32
  simp only [gv_e]
  exact fin_0 (image_two hR (n := n) (by omega))
theorem lwp_33 {n L : Nat} {xs : Nat → Int32} {i : Int32} {c d : gm} (h : gRel c d) (hn : 1100 < n) (hx : gLx L i) : ∃ cd2 : gm × gm, m_law_33 n xs L i (c, d) = some cd2 ∧ gRel cd2.1 cd2.2 := by
  obtain ⟨th, m, p, hR⟩ := h
  obtain ⟨h1, h2, h3, h4, h5, h6, h7⟩ := hx
  unfold m_law_33
  simp only [gv_e]
  exact fin_0 (restore_two hR (n := n) (by omega))
theorem lwp_34 {n L : Nat} {xs : Nat → Int32} {i : Int32} {c d : gm} (h : gRel c d) (hn : 1100 < n) (hx : gLx L i) : ∃ cd2 : gm × gm, m_law_34 n xs L i (c, d) = some cd2 ∧ gRel cd2.1 cd2.2 := by
  obtain ⟨th, m, p, hR⟩ := h
  obtain ⟨h1, h2, h3, h4, h5, h6, h7⟩ := hx
  unfold m_law_34
  simp only [gc_1 h1, gv_e]
  exact fin_r (status_two hR (xs (i + 1).toNatClampNeg))
theorem lwp_35 {n L : Nat} {xs : Nat → Int32} {i : Int32} {c d : gm} (h : gRel c d) (hn : 1100 < n) (hx : gLx L i) : ∃ cd2 : gm × gm, m_law_35 n xs L i (c, d) = some cd2 ∧ gRel cd2.1 cd2.2 := by
  obtain ⟨th, m, p, hR⟩ := h
  obtain ⟨h1, h2, h3, h4, h5, h6, h7⟩ := hx
  unfold m_law_35
  simp only [gc_1 h1, gv_e]
  exact fin_r (count_two hR (xs (i + 1).toNatClampNeg))
