set_option maxRecDepth 16384
/-! feed, fault, status, count -/
theorem gRl_tq {th m p : Nat} {c d c2 d2 : gm} (h : gRl th m p c d) (s1 : c2.2.2 = c.2.2) (s2 : ∀ i, i = 0 ∨ (3 ≤ i ∧ i ≤ 6) ∨ i = 8 ∨ i = 24 ∨ (17 ≤ i ∧ i ≤ 20) ∨ i = c.2.2 0 ∨ i = c.2.2 0 + 1 ∨ i = c.2.2 0 + 2 ∨ i = c.2.2 2 ∨ i = c.2.2 2 + 1 ∨ i = c.2.2 2 + 2 ∨ i = c.2.2 2 + 3 → c2.1 i = c.1 i) (ht : gTp c2 d2) (s5 : ∀ k, k = 17 ∨ (32 ≤ k ∧ k ≤ 35) → d2.1 55 k = d.1 55 k) (s6 : ∀ i, i = 57 ∨ i = 59 ∨ i = 61 ∨ (85 ≤ i ∧ i ≤ 244) ∨ (407 ≤ i ∧ i ≤ 412) ∨ i = 503 ∨ (507 ≤ i ∧ i ≤ 522) ∨ (524 ≤ i ∧ i ≤ 526) → d2.1 i = d.1 i) (h7 : c2.1 1 7 = d2.1 55 3) : gRl th m p c2 d2 := by
  obtain ⟨h1, hp, ⟨r1, r2, r3, r4⟩, h3, h4, ⟨n1, n2, n3, n4⟩, h6, h7', h8⟩ := h
  have f503 := s6 503 (by omega)
  refine ⟨by unfold gPt; rw [s1]; exact h1, hp, ⟨?_, ?_, ?_, ?_⟩, ?_, ht, ⟨h7, ?_, ?_, ?_⟩, ?_, ?_, ?_⟩
  · rw [f503]; exact gSt_fr r1 (s2 3 (by omega)) (s2 5 (by omega)) (s2 6 (by omega)) (s2 8 (by omega))
  · rw [f503]; exact r2
  · unfold gMd; rw [s6 59 (by omega)]; exact r3
  · rw [s1]; exact gLw_fr r4 (s2 _ (by omega)) (s2 _ (by omega)) (s2 _ (by omega)) (s5 17 (by omega)) (fun k hk => s6 _ (by omega))
  · unfold gTo; rw [s2 4 (by omega), s6 61 (by omega), s2 24 (by omega)]; exact h3
  · rw [s2 0 (by omega), s5 34 (by omega)]; exact n2
  · rw [s2 0 (by omega), s6 57 (by omega)]; exact n3
  · rw [s2 0 (by omega), s6 57 (by omega)]; exact n4
  · rw [s1]
    obtain ⟨z, hz, b1, b2, b3⟩ := h6
    refine ⟨z, hz, by rw [s2 _ (by omega)]; exact b1, by rw [s5 32 (by omega)]; exact b2, fun k hk => ?_⟩
    rw [s2 (c.2.2 2 + 1) (by omega), s2 (c.2.2 2 + 2) (by omega), s2 (c.2.2 2 + 3) (by omega), s6 (407 + k) (by omega)]
    exact b3 k hk
  · exact gPs_x h7' (by rw [s2 17 (by omega)]) (s2 18 (by omega)) (s5 33 (by omega)) (fun k hk => s6 _ (by omega))
  · exact gIm_x h8 (by rw [s2 17 (by omega)]) (s2 19 (by omega)) (s2 20 (by omega)) (s5 35 (by omega)) (fun k hk => s6 _ (by omega))
theorem by_e (x : Int32) : gBy (vp_nar .byte ((Int32.toInt8 x).toInt32)) (x &&& 255) := by
  have hb : x &&& 255 = nI (x.toBitVec.toNat % 256) := by
    apply Int32.toBitVec_inj.1
    apply BitVec.eq_of_toNat_eq
    rw [Int32.toBitVec_and, BitVec.toNat_and]
    show x.toBitVec.toNat &&& 255 = (BitVec.ofNat 32 _).toNat
    rw [BitVec.toNat_ofNat, show (255 : Nat) = 2 ^ 8 - 1 from rfl, Nat.and_two_pow_sub_one_eq_mod]
    omega
  refine ⟨_, Nat.mod_lt _ (by omega), hb, ?_⟩
  unfold pBy
  rw [← hb, Int32.toInt8_and]
  show (Int8.toInt32 (Int32.toInt8 ((Int32.toInt8 x).toInt32))) = _
  rw [show Int32.toInt8 255 = -1 from rfl, Int8.and_neg_one, Int8.toInt8_toInt32]
def fdV (a1 a2 a3 a4 a5 : Int32) (i : Nat) : Int32 := if 4 ≤ i then (if 8 ≤ i then (if 12 ≤ i then (if 16 ≤ i then a5 else a4) else a3) else a2) else a1
def fdW (a1 a2 a3 a4 a5 : Int32) (j : Nat) : Int32 := fdV a1 a2 a3 a4 a5 j >>> nI (24 - 8 * (j % 4))
def fdC (T : Nat) (w : Nat → Int32) (c : gm) : Nat → gm
  | 0 => c
  | j + 1 => gm_r (gm_r (fdC T w c j) 2 (upd ((fdC T w c j).1 2) (T + j) (vp_nar .byte ((Int32.toInt8 (w j)).toInt32)))) 1 (upd ((fdC T w c j).1 1) 1 (nI (T + j + 1)))
def fdD (T : Nat) (w : Nat → Int32) (d : gm) : Nat → gm
  | 0 => d
  | j + 1 => gm_r (gm_r (fdD T w d j) 56 (upd ((fdD T w d j).1 56) (T + j) (w j &&& 255))) 55 (upd ((fdD T w d j).1 55) 1 (nI (T + j + 1)))
theorem fdC_f (T : Nat) (w : Nat → Int32) (c : gm) (h1 : c.1 1 1 = nI T) : ∀ j, (∀ i, i ≠ 1 → i ≠ 2 → (fdC T w c j).1 i = c.1 i) ∧ (fdC T w c j).2 = c.2 ∧ (fdC T w c j).1 1 1 = nI (T + j) ∧ (∀ k, k ≠ 1 → (fdC T w c j).1 1 k = c.1 1 k) ∧ (∀ k, k < T → (fdC T w c j).1 2 k = c.1 2 k) ∧ ∀ k, k < j → (fdC T w c j).1 2 (T + k) = vp_nar .byte ((Int32.toInt8 (w k)).toInt32) := by
  intro j
  induction j with
  | zero => exact ⟨fun _ _ _ => rfl, rfl, h1, fun _ _ => rfl, fun _ _ => rfl, fun k hk => by omega⟩
  | succ j ih =>
    obtain ⟨g1, g2, g3, g4, g5, g6⟩ := ih
    refine ⟨fun i i1 i2 => ?_, ?_, ?_, fun k hk => ?_, fun k hk => ?_, fun k hk => ?_⟩
    · unfold fdC; rw [gr_n _ _ i1, gr_n _ _ i2, g1 i i1 i2]
    · unfold fdC; exact g2
    · unfold fdC; rw [gr_s, up_s]; rfl
    · unfold fdC; rw [gr_s, up_n _ _ hk, g4 k hk]
    · unfold fdC; rw [gr_n _ _ (by omega), gr_s, up_n _ _ (by omega), g5 k hk]
    · unfold fdC
      rw [gr_n _ _ (by omega), gr_s]
      by_cases e : k = j
      · subst e; rw [up_s]
      · rw [up_n _ _ (by omega), g6 k (by omega)]
theorem fdD_f (T : Nat) (w : Nat → Int32) (d : gm) (h1 : d.1 55 1 = nI T) : ∀ j, (∀ i, i ≠ 55 → i ≠ 56 → (fdD T w d j).1 i = d.1 i) ∧ (fdD T w d j).2 = d.2 ∧ (fdD T w d j).1 55 1 = nI (T + j) ∧ (∀ k, k ≠ 1 → (fdD T w d j).1 55 k = d.1 55 k) ∧ (∀ k, k < T → (fdD T w d j).1 56 k = d.1 56 k) ∧ ∀ k, k < j → (fdD T w d j).1 56 (T + k) = w k &&& 255 := by
  intro j
  induction j with
  | zero => exact ⟨fun _ _ _ => rfl, rfl, h1, fun _ _ => rfl, fun _ _ => rfl, fun k hk => by omega⟩
  | succ j ih =>
    obtain ⟨g1, g2, g3, g4, g5, g6⟩ := ih
    refine ⟨fun i i1 i2 => ?_, ?_, ?_, fun k hk => ?_, fun k hk => ?_, fun k hk => ?_⟩
    · unfold fdD; rw [gr_n _ _ i1, gr_n _ _ i2, g1 i i1 i2]
    · unfold fdD; exact g2
    · unfold fdD; rw [gr_s, up_s]; rfl
    · unfold fdD; rw [gr_s, up_n _ _ hk, g4 k hk]
    · unfold fdD; rw [gr_n _ _ (by omega), gr_s, up_n _ _ (by omega), g5 k hk]
    · unfold fdD
      rw [gr_n _ _ (by omega), gr_s]
      by_cases e : k = j
      · subst e; rw [up_s]
      · rw [up_n _ _ (by omega), g6 k (by omega)]
theorem fd_a : ∀ k, k < 4 → (nI (24 - 8 * k) &&& 31 = nI (24 - 8 * k)) ∧ ¬ nI (24 - 8 * k) < 0 ∧ (nI 24 = 24) := by decide +kernel
theorem fd_b : ∀ k, k < 3 → nI (24 - 8 * k) + (-8) = nI (24 - 8 * (k + 1)) := by decide +kernel
theorem fd_c : nI 0 + (-8) = -8 ∧ (-8 : Int32) < 0 := by decide
theorem fd_s : ∀ j, j < 20 → ((24 - (8 * (nI j - nI j / 4 * 4))) &&& 31) = nI (24 - 8 * (j % 4)) ∧ ¬ (20 : Int32) ≤ nI j ∧ ((4 : Int32) ≤ nI j ↔ 4 ≤ j) ∧ ((8 : Int32) ≤ nI j ↔ 8 ≤ j) ∧ ((12 : Int32) ≤ nI j ↔ 12 ≤ j) ∧ ((16 : Int32) ≤ nI j ↔ 16 ≤ j) := by decide +kernel
/-- four bytes -/
theorem put_c {T q n : Nat} {w : Nat → Int32} {c : gm} {a : Int32} (h1 : c.1 1 1 = nI T) (hT : T + q + 4 ≤ 600) (hw : ∀ k, k < 4 → w (q + k) = a >>> nI (24 - 8 * k)) (hn : 10 < n) : m_X7_put n 1 a (fdC T w c q) = some (fdC T w c (q + 4)) := by
  have hs : ∀ k, k < 4 → m_X7_put_L3 1 a (nI (24 - 8 * k)) (fdC T w c (q + k)) = some (.inl (nI (24 - 8 * k) + (-8), fdC T w c (q + (k + 1)))) := by
    intro k hk
    obtain ⟨e1, e2, -⟩ := fd_a k hk
    have h11 := (fdC_f T w c h1 (q + k)).2.2.1
    unfold m_X7_put_L3
    simp only [gj_e]
    rw [if_neg e2, gc_1 (show gck 1 = 7 from rfl), h11, if_neg (show ¬ nI (T + (q + k)) < 0 by rw [n_l0, n_lt (by omega) (by decide)]; omega), if_neg (show ¬ nI 600 ≤ nI (T + (q + k)) by rw [n_le (by omega) (by omega)]; omega), gc_1 (n_rg (by omega) (by omega)), gv_e, gv_e, gv_e, n_cl (by omega), gr_n _ _ (show 1 ≠ 1 + 1 by omega), h11, n_s, e1, ← hw k hk]
    rfl
  unfold m_X7_put
  have := gloop_run (f := gu2 (fun (y2 : Int32) (c3 : gm) => m_X7_put_L3 1 a y2 c3)) (fun k => (if k < 4 then nI (24 - 8 * k) else -8, fdC T w c (q + k))) 4 (fdC T w c (q + 4)) (fun k hk => by
    show m_X7_put_L3 1 a (if k < 4 then nI (24 - 8 * k) else -8) (fdC T w c (q + k)) = _
    rw [if_pos hk, hs k hk]
    by_cases e : k < 3
    · rw [fd_b k e, if_pos (by omega)]
    · rw [show k = 3 by omega, if_neg (by omega)]; rfl) (by
    show m_X7_put_L3 1 a (if 4 < 4 then nI (24 - 8 * 4) else -8) (fdC T w c (q + 4)) = _
    rw [if_neg (by omega)]
    unfold m_X7_put_L3
    rw [if_pos fd_c.2]) (n := n) (by omega)
  rw [show (24, fdC T w c q) = ((if 0 < 4 then nI (24 - 8 * 0) else -8, fdC T w c (q + 0)) : Int32 × gm) from rfl, this]
  rfl
theorem fdd_s {T j : Nat} {a1 a2 a3 a4 a5 : Int32} {d : gm} (h1 : d.1 55 1 = nI T) (hT : T + 20 ≤ 600) (hj : j < 20) : m_X10_feed_L23 55 a1 a2 a3 a4 a5 (nI j) (fdD T (fdW a1 a2 a3 a4 a5) d j) = some (.inl (nI (j + 1), fdD T (fdW a1 a2 a3 a4 a5) d (j + 1))) := by
  obtain ⟨e1, e2, e4, e8, e12, e16⟩ := fd_s j hj
  have h11 := (fdD_f T (fdW a1 a2 a3 a4 a5) d h1 j).2.2.1
  have K : ∀ v, fdV a1 a2 a3 a4 a5 j = v → gc (0 ≤ ((fdD T (fdW a1 a2 a3 a4 a5) d j).1 55 1).toInt ∧ ((fdD T (fdW a1 a2 a3 a4 a5) d j).1 55 1).toInt < 600) (gv (gm_r (fdD T (fdW a1 a2 a3 a4 a5) d j) 56 (upd ((fdD T (fdW a1 a2 a3 a4 a5) d j).1 56) ((fdD T (fdW a1 a2 a3 a4 a5) d j).1 55 1).toNatClampNeg ((v >>> ((24 - (8 * (nI j - nI j / 4 * 4))) &&& 31)) &&& 255))) (fun (c16 : gm) => gv (gm_r c16 55 (upd (c16.1 55) 1 ((c16.1 55 1) + 1))) (fun (c17 : gm) => gv (nI j + 1) (fun (x18 : Int32) => (some (.inl (x18, c17)) : Option ((Int32 × gm) ⊕ gm)))))) = some (.inl (nI (j + 1), fdD T (fdW a1 a2 a3 a4 a5) d (j + 1))) := by
    intro v hv
    rw [h11, gc_1 (n_rg (by omega) (by omega)), gv_e, gv_e, gv_e, n_cl (by omega), gr_n _ _ (show 55 ≠ 56 by omega), h11, n_s, n_s, e1, ← hv]
    rfl
  unfold m_X10_feed_L23
  simp only [gj_e]
  rw [if_neg e2]
  by_cases b4 : 4 ≤ j
  · rw [if_pos (e4.2 b4)]
    by_cases b8 : 8 ≤ j
    · rw [if_pos (e8.2 b8)]
      by_cases b12 : 12 ≤ j
      · rw [if_pos (e12.2 b12)]
        by_cases b16 : 16 ≤ j
        · rw [if_pos (e16.2 b16)]; exact K a5 (by unfold fdV; rw [if_pos b4, if_pos b8, if_pos b12, if_pos b16])
        · rw [if_neg (fun u => b16 (e16.1 u))]; exact K a4 (by unfold fdV; rw [if_pos b4, if_pos b8, if_pos b12, if_neg b16])
      · rw [if_neg (fun u => b12 (e12.1 u))]; exact K a3 (by unfold fdV; rw [if_pos b4, if_pos b8, if_neg b12])
    · rw [if_neg (fun u => b8 (e8.1 u))]; exact K a2 (by unfold fdV; rw [if_pos b4, if_neg b8])
  · rw [if_neg (fun u => b4 (e4.1 u))]; exact K a1 (by unfold fdV; rw [if_neg b4])
theorem feed_two2 {th m p n : Nat} {c d : gm} (h : gRl th m p c d) (hn : 30 < n) (a1 a2 a3 a4 a5 : Int32) : gAn0 (m_X9_feed n 0 a1 a2 a3 a4 a5 c) (m_X10_feed n 55 a1 a2 a3 a4 a5 d) := by
  have hZ := gRl_dZ h
  obtain ⟨hP, hp, hR2, hTo, ⟨T, hT6, eT1, eT2, hb⟩, hCn, hBk, hPs, hIm⟩ := id hZ
  have hq := gPt_q hP
  by_cases q : T ≤ 580
  · obtain ⟨C1, C2, C3, C4, C5, C6⟩ := fdC_f T (fdW a1 a2 a3 a4 a5) c eT1 20
    obtain ⟨D1, D2, D3, D4, D5, D6⟩ := fdD_f T (fdW a1 a2 a3 a4 a5) (dZ d) eT2 20
    refine ⟨nI (T + 20), fdC T (fdW a1 a2 a3 a4 a5) c 20, fdD T (fdW a1 a2 a3 a4 a5) (dZ d) 20, ?_, ?_, th, m, p, ?_⟩
    · unfold m_X9_feed
      rw [gc_1 (show gck 0 = 9 from rfl), eT1, if_pos (by rw [n_l580, n_le (by omega) (by decide)]; omega), show c = fdC T (fdW a1 a2 a3 a4 a5) c 0 from rfl,
        gb_x (put_c (a := a1) (q := 0) eT1 (by omega) (fun k hk => by unfold fdW fdV; rw [if_neg (by omega), show (0 + k) % 4 = k by omega]) (by omega)),
        gb_x (put_c (a := a2) (q := 0 + 4) eT1 (by omega) (fun k hk => by unfold fdW fdV; rw [if_pos (by omega), if_neg (by omega), show (0 + 4 + k) % 4 = k by omega]) (by omega)),
        gb_x (put_c (a := a3) (q := 0 + 4 + 4) eT1 (by omega) (fun k hk => by unfold fdW fdV; rw [if_pos (by omega), if_pos (by omega), if_neg (by omega), show (0 + 4 + 4 + k) % 4 = k by omega]) (by omega)),
        gb_x (put_c (a := a4) (q := 0 + 4 + 4 + 4) eT1 (by omega) (fun k hk => by unfold fdW fdV; rw [if_pos (by omega), if_pos (by omega), if_pos (by omega), if_neg (by omega), show (0 + 4 + 4 + 4 + k) % 4 = k by omega]) (by omega)),
        gb_x (put_c (a := a5) (q := 0 + 4 + 4 + 4 + 4) eT1 (by omega) (fun k hk => by unfold fdW fdV; rw [if_pos (by omega), if_pos (by omega), if_pos (by omega), if_pos (by omega), show (0 + 4 + 4 + 4 + 4 + k) % 4 = k by omega]) (by omega))]
      exact congrArg (fun z => some (z, fdC T (fdW a1 a2 a3 a4 a5) c 20)) C3
    · unfold m_X10_feed
      have := gloop_run (f := gu2 (fun (y6 : Int32) (c7 : gm) => m_X10_feed_L23 55 a1 a2 a3 a4 a5 y6 c7)) (fun k => (nI k, fdD T (fdW a1 a2 a3 a4 a5) (dZ d) k)) 20 (fdD T (fdW a1 a2 a3 a4 a5) (dZ d) 20) (fun k hk => fdd_s eT2 (by omega) hk) (by
        show m_X10_feed_L23 55 a1 a2 a3 a4 a5 (nI 20) _ = _
        unfold m_X10_feed_L23
        rw [if_pos (by decide)]) (n := n) (by omega)
      rw [gc_1 (show gck 55 = 10 from rfl), gv_e, show gm_r d 55 (upd (d.1 55) 0 0) = dZ d from rfl, eT2, show nI T + 20 = nI (T + 20) from n_ad T 20, if_pos (show nI (T + 20) ≤ 600 by rw [show (600 : Int32) = nI 600 from rfl, n_le (by omega) (by decide)]; omega), show ((0 : Int32), dZ d) = (nI 0, fdD T (fdW a1 a2 a3 a4 a5) (dZ d) 0) from rfl, gb_x this, D3]
    · refine gRl_tq hZ (by rw [C2]) (fun i hi => C1 i (by omega) (by omega)) ⟨T + 20, by omega, C3, D3, fun j hj => ?_⟩ (fun k hk => D4 k (by omega)) (fun i hi => D1 i (by omega) (by omega)) (by rw [C4 7 (by omega), D4 3 (by omega)]; exact hCn.1)
      by_cases e : j < T
      · rw [C5 j e, D5 j e]; exact hb j e
      · have c6 := C6 (j - T) (by omega)
        have d6 := D6 (j - T) (by omega)
        rw [show T + (j - T) = j by omega] at c6 d6
        rw [c6, d6]
        exact by_e _
  · refine ⟨-1, c, dZ d, ?_, ?_, th, m, p, hZ⟩
    · unfold m_X9_feed
      rw [gc_1 (show gck 0 = 9 from rfl), eT1, if_neg (by rw [n_l580, n_le (by omega) (by decide)]; omega)]
    · unfold m_X10_feed
      rw [gc_1 (show gck 55 = 10 from rfl), gv_e, show gm_r d 55 (upd (d.1 55) 0 0) = dZ d from rfl, eT2, show nI T + 20 = nI (T + 20) from n_ad T 20, if_neg (show ¬ nI (T + 20) ≤ 600 by rw [show (600 : Int32) = nI 600 from rfl, n_le (by omega) (by decide)]; omega)]
/-- fault, status and count -/
theorem fault_two {th m p : Nat} {c d : gm} (h : gRl th m p c d) : ∃ r, m_X9_fault 0 c = some r ∧ m_X10_fault 55 d = some (r, dZ d) ∧ gRl th m p c (dZ d) := by
  have hZ := gRl_dZ h
  refine ⟨c.1 1 7, ?_, ?_, hZ⟩
  · unfold m_X9_fault
    rw [gc_1 (show gck 0 = 9 from rfl)]
  · unfold m_X10_fault
    rw [gc_1 (show gck 55 = 10 from rfl), gv_e, show gm_r d 55 (upd (d.1 55) 0 0) = dZ d from rfl, hZ.2.2.2.2.2.1.1]
theorem status_two {th m p : Nat} {c d : gm} (h : gRl th m p c d) (a : Int32) : ∃ r, m_X9_status 0 a c = some r ∧ m_X10_status 55 a d = some (r, dZ d) ∧ gRl th m p c (dZ d) := by
  have hZ := gRl_dZ h
  have hCn := hZ.2.2.2.2.2.1
  have Y0 : m_X10_status 55 a d = gb (m_X10_in a 0 1) (fun (r5 : Int32) => (if r5 = 0 then some ((-1), dZ d) else gc (0 ≤ a.toInt ∧ a.toInt < 2) (some (((dZ d).1 57 a.toNatClampNeg), dZ d)))) := by
    unfold m_X10_status
    rw [gc_1 (show gck 55 = 10 from rfl), gv_e, show gm_r d 55 (upd (d.1 55) 0 0) = dZ d from rfl]
  rw [Y0]
  unfold m_X9_status
  by_cases q : 0 ≤ a ∧ a ≤ nI 1
  · obtain ⟨k, hk, rfl⟩ := i_ex (by omega) q
    rw [show m_X10_in (nI k) 0 1 = some 1 from in_1 q, gb_e, if_neg (show ¬ (1 : Int32) = 0 by decide), gc_1 (n_rg (by omega) (by omega)), n_cl (by omega)]
    rcases (by omega : k = 0 ∨ k = 1) with rfl | rfl
    · rw [if_pos (show nI 0 = 0 from rfl), gc_1 (show gck 0 = 9 from rfl)]
      exact ⟨_, rfl, by rw [hCn.2.2.1], hZ⟩
    · rw [if_neg (show ¬ nI 1 = 0 by decide), if_pos (show nI 1 = 1 from rfl), gc_1 (show gck 0 = 9 from rfl)]
      exact ⟨_, rfl, by rw [hCn.2.2.2], hZ⟩
  · rw [show m_X10_in a 0 1 = some 0 from in_0 q, gb_e, if_pos (show (0 : Int32) = 0 from rfl), if_neg (show ¬ a = 0 from fun e => q (by rw [e]; decide)), if_neg (show ¬ a = 1 from fun e => q (by rw [e]; decide))]
    exact ⟨_, rfl, rfl, hZ⟩
theorem count_two {th m p : Nat} {c d : gm} (h : gRl th m p c d) (a : Int32) : ∃ r, m_X9_count 0 a c = some r ∧ m_X10_count 55 a d = some (r, dZ d) ∧ gRl th m p c (dZ d) := by
  have hZ := gRl_dZ h
  obtain ⟨hP, hp, hR2, hTo, ⟨T, hT6, eT1, eT2, hb⟩, hCn, hBk, hPs, hIm⟩ := id hZ
  obtain ⟨z1, -, s1, s2, -⟩ := hPs
  obtain ⟨z2, -, i1, i2, -⟩ := hIm
  have Y0 : m_X10_count 55 a d = (if a = 0 then some (((dZ d).1 55 35), dZ d) else (if a = 1 then some (((dZ d).1 55 1), dZ d) else (if a = 2 then some (((dZ d).1 55 33), dZ d) else some ((-1), dZ d)))) := by
    unfold m_X10_count
    rw [gc_1 (show gck 55 = 10 from rfl), gv_e, show gm_r d 55 (upd (d.1 55) 0 0) = dZ d from rfl]
  rw [Y0]
  unfold m_X9_count
  rw [gc_1 (show gck 0 = 9 from rfl), gc_1 (show gck 0 = 9 from rfl), gc_1 (show gck 0 = 9 from rfl)]
  by_cases q0 : a = 0
  · rw [if_pos q0, if_pos q0]
    exact ⟨_, rfl, by rw [i1, i2], hZ⟩
  rw [if_neg q0, if_neg q0]
  by_cases q1 : a = 1
  · rw [if_pos q1, if_pos q1]
    exact ⟨_, rfl, by rw [eT1, eT2], hZ⟩
  rw [if_neg q1, if_neg q1]
  by_cases q2 : a = 2
  · rw [if_pos q2, if_pos q2]
    exact ⟨_, rfl, by rw [s1, s2], hZ⟩
  rw [if_neg q2, if_neg q2]
  exact ⟨_, rfl, rfl, hZ⟩
