set_option maxRecDepth 16384
/-! chains: the walk -/
def uns (th S : Nat) : Nat := pF (fun k s => s + (1 - S / 2 ^ k % 2)) 0 th
theorem un_1 : ∀ S, S < 256 → ∀ a, a < 8 → S / 2 ^ a % 2 = 0 → S + 2 ^ a < 256 ∧ nI S ||| ((1 : Int32) <<< (nI a &&& 31)) = nI (S + 2 ^ a) := by decide +kernel
theorem un_2 : ∀ th, th < 9 → ∀ a, a < th → ∀ S, S < 256 → S / 2 ^ a % 2 = 0 → uns th (S + 2 ^ a) + 1 = uns th S := by decide +kernel
theorem un_3 : ∀ S, S < 256 → ∀ a, a < 8 → S / 2 ^ a % 2 = 0 → ∀ g, g < 8 → g = a ∨ (S + 2 ^ a) / 2 ^ g % 2 = S / 2 ^ g % 2 := by decide +kernel
theorem n_164 (i : Nat) : (16 : Int32) + 4 * nI i = nI (16 + 4 * i) := by rw [n_l4, n_mu, n_l16, n_ad]
theorem walk_two {th m g N : Nat} {pl : Int32} {r : Nat → Int32} (hR : gRow th m r) (h8 : th ≤ 8) (hg : g < th) (hN : 60 < N) : ∀ k dd de v S mask ua ub c d, ua * 9 ^ k ≤ 43046721 → ub * 9 ^ k ≤ 43046721 → 1 ≤ ub → k + 1 ≤ dd → k + 2 ≤ de → uns th S = k → v < th → v ≠ g → S < 256 → S / 2 ^ g % 2 = 0 → gSt 3 c th m pl r → d.1 503 = r → gCw g c d → ∃ c2 d2, m_X1_walk dd N 21 3 (nI v) (nI S) mask (nL ua) (nL ub) c = some c2 ∧ m_X10_chains de N 55 (nI v) (nI g) (nI S) (nL ua) (nL ub) d = some d2 ∧ gCw g c2 d2 ∧ gCf c d c2 d2 := by
  have hm : m ≤ 10 := hR.1
  intro k
  induction k with
  | zero =>
    intro dd de v S mask ua ub c d hua hub hu1 hd hde hk hv hvg hS hSg
    have := un_2 th (by omega) g hg S hS hSg
    omega
  | succ k ih =>
    intro dd de v S mask ua ub c d hua hub hu1 hd hde hk hv hvg hS hSg hSt h503 hC
    obtain ⟨e, rfl⟩ : ∃ e, dd = e + 1 := ⟨dd - 1, by omega⟩
    obtain ⟨e', rfl⟩ : ∃ e', de = e' + 1 := ⟨de - 1, by omega⟩
    obtain ⟨up, eup⟩ : ∃ z, z = nL ua := ⟨_, rfl⟩
    obtain ⟨dn, edn⟩ : ∃ z, z = nL ub := ⟨_, rfl⟩
    rw [← eup, ← edn]
    have hp9 : 0 < 9 ^ k := Nat.pow_pos (by omega)
    rw [Nat.pow_succ] at hua hub
    have hua8 : ua * 9 ≤ 43046721 := Nat.le_trans (Nat.mul_le_mul_left ua (Nat.le_mul_of_pos_left 9 hp9)) hua
    have hub8 : ub * 9 ≤ 43046721 := Nat.le_trans (Nat.mul_le_mul_left ub (Nat.le_mul_of_pos_left 9 hp9)) hub
    obtain ⟨b, y, e1, e2, hp⟩ := gloop_two (f := gu2 (fun (y2 : Int32) (c3 : gm) => m_X1_walk_L3 (m_X1_walk e) N 21 3 (nI v) (nI S) mask up dn y2 c3)) (g := gu2 (fun (y3 : Int32) (c4 : gm) => m_X10_chains_L17 (m_X10_chains e') N 55 (nI v) (nI g) (nI S) up dn y3 c4)) (fun q (A : Int32 × gm) (X : Int32 × gm) => ∃ i c3 d3, q + i = m ∧ A = (nI i, c3) ∧ X = (nI i, d3) ∧ gCw g c3 d3 ∧ gCf c d c3 d3) (fun c2 d2 => gCw g c2 d2 ∧ gCf c d c2 d2) (by
      rintro q A X ⟨i, c3, d3, hi, rfl, rfl, h3, f3⟩
      have hS3 : gSt 3 c3 th m pl r := gSt_fr hSt (f3.1 _ (by omega) (by omega)) (f3.1 _ (by omega) (by omega)) (f3.1 _ (by omega) (by omega)) (f3.1 _ (by omega) (by omega))
      have r3 : d3.1 503 = r := by rw [f3.2.2.1]; exact h503
      have c36 := hS3.2.2.2.1
      by_cases qi : i < m
      rotate_left
      · right
        refine ⟨c3, d3, ?_, ?_, h3, f3⟩
        · show m_X1_walk_L3 (m_X1_walk e) N 21 3 (nI v) (nI S) mask up dn (nI i) c3 = _
          unfold m_X1_walk_L3
          rw [gc_1 (show gck 3 = 6 from rfl), c36, if_pos (by rw [n_le (by omega) (by omega)]; omega)]
        · show m_X10_chains_L17 (m_X10_chains e') N 55 (nI v) (nI g) (nI S) up dn (nI i) d3 = _
          unfold m_X10_chains_L17
          rw [gc_1 (show gck 55 = 10 from rfl), r3, show (56 : Int32).toNatClampNeg = 56 from rfl, hR.2.1, if_pos (by rw [n_le (by omega) (by omega)]; omega)]
      left
      obtain ⟨a', n', b', x', ha, hb, hab, n1, n9, x1, x9, v0, v1, v2, v3⟩ := hR.2.2.2.1 i qi
      have p0 : m_X6_cryPart 3 (nI i) 0 c3 = some (nI a') := by rw [← v0]; exact cs_cry hS3 hm qi (j := 0) (by omega)
      have p1 : m_X6_cryPart 3 (nI i) 1 c3 = some (nI n') := by rw [← v1]; exact cs_cry hS3 hm qi (j := 1) (by omega)
      have p2 : m_X6_cryPart 3 (nI i) 2 c3 = some (nI b') := by rw [← v2]; exact cs_cry hS3 hm qi (j := 2) (by omega)
      have p3 : m_X6_cryPart 3 (nI i) 3 c3 = some (nI x') := by rw [← v3]; exact cs_cry hS3 hm qi (j := 3) (by omega)
      have gu : up * Int32.toInt64 (nI x') = nL (ua * x') := by rw [eup, l_of (by omega), l_mul (by have := Nat.mul_le_mul_left ua x9; omega) (by omega) (by omega)]
      have gd : dn * Int32.toInt64 (nI n') = nL (ub * n') := by rw [edn, l_of (by omega), l_mul (by have := Nat.mul_le_mul_left ub n9; omega) (by omega) (by omega)]
      have gu9 : ua * x' ≤ ua * 9 := Nat.mul_le_mul_left ua x9
      have gd9 : ub * n' ≤ ub * 9 := Nat.mul_le_mul_left ub n9
      have gd1 : 1 ≤ ub * n' := Nat.mul_pos hu1 n1
      have nm : ¬ nI m ≤ nI i := by rw [n_le (by omega) (by omega)]; omega
      have sb := sh_bit S hS b' (by omega)
      have X0 : m_X1_walk_L3 (m_X1_walk e) N 21 3 (nI v) (nI S) mask up dn (nI i) c3 = (if nI a' = nI v then (if nI b' = nI g then gb (m_X1_arrive 21 (mask ||| ((1 : Int32) <<< (nI i &&& 31))) (up * Int32.toInt64 (nI x')) (dn * Int32.toInt64 (nI n')) c3) (fun (c32 : gm) => some (.inl (nI (i + 1), c32))) else (if nI (S / 2 ^ b' % 2) = 0 then gb (m_X1_walk e N 21 3 (nI b') (nI S ||| ((1 : Int32) <<< (nI b' &&& 31))) (mask ||| ((1 : Int32) <<< (nI i &&& 31))) (up * Int32.toInt64 (nI x')) (dn * Int32.toInt64 (nI n')) c3) (fun (c29 : gm) => some (.inl (nI (i + 1), c29))) else some (.inl (nI (i + 1), c3)))) else some (.inl (nI (i + 1), c3))) := by
        unfold m_X1_walk_L3; simp only [gj_e]
        rw [gc_1 (show gck 3 = 6 from rfl), c36, if_neg nm, gb_x p2, gb_x p0, gv_e, gb_x p3, gv_e, gb_x p1, gv_e, gc_1 (show gck 21 = 1 from rfl), h3.2.1, sb, gv_e, n_s]
        rfl
      have Y0 : m_X10_chains_L17 (m_X10_chains e') N 55 (nI v) (nI g) (nI S) up dn (nI i) d3 = (if nI a' = nI v then (if S / 2 ^ b' % 2 = 1 then some (.inl (nI (i + 1), d3)) else gb (m_X10_chains e' N 55 (nI b') (nI g) (nI S ||| ((1 : Int32) <<< (nI b' &&& 31))) (up * Int32.toInt64 (nI x')) (dn * Int32.toInt64 (nI n')) d3) (fun (c28 : gm) => some (.inl (nI (i + 1), c28)))) else some (.inl (nI (i + 1), d3))) := by
        unfold m_X10_chains_L17; simp only [gj_e]
        rw [gc_1 (show gck 55 = 10 from rfl), r3, show (56 : Int32).toNatClampNeg = 56 from rfl, hR.2.1, if_neg nm, gv_e, n_164, show nI (16 + 4 * i) + 2 = nI (16 + 4 * i + 2) from n_ad _ 2, show nI (16 + 4 * i) + 3 = nI (16 + 4 * i + 3) from n_ad _ 3, show nI (16 + 4 * i) + 1 = nI (16 + 4 * i + 1) from n_ad _ 1, n_s, gc_1 (n_rg (by omega) (by omega)), gv_e, n_cl (by omega), n_cl (by omega), n_cl (by omega), n_cl (by omega), v0, v1, v2, v3, gc_1 (n_rg (by omega) (by omega)), gb_x (has_e hS (by omega))]
        by_cases q1 : S / 2 ^ b' % 2 = 1
        · rw [if_pos q1, if_pos q1, if_neg (show ¬ (1 : Int32) = 0 by decide)]
          rfl
        · rw [if_neg q1, if_neg q1, if_pos (show (0 : Int32) = 0 from rfl), gc_1 (n_rg (by omega) (by omega)), gc_1 (n_rg (by omega) (by omega))]
          rfl
      by_cases qa : a' = v
      rotate_left
      · have qa' : ¬ nI a' = nI v := by rw [n_eq (by omega) (by omega)]; exact qa
        refine ⟨(nI (i + 1), c3), (nI (i + 1), d3), m - (i + 1), ?_, ?_, by omega, i + 1, c3, d3, by omega, rfl, rfl, h3, f3⟩
        · show m_X1_walk_L3 (m_X1_walk e) N 21 3 (nI v) (nI S) mask up dn (nI i) c3 = _
          rw [X0, if_neg qa']
        · show m_X10_chains_L17 (m_X10_chains e') N 55 (nI v) (nI g) (nI S) up dn (nI i) d3 = _
          rw [Y0, if_neg qa']
      have qa' : nI a' = nI v := by rw [qa]
      by_cases qg : b' = g
      · obtain ⟨c4, d4, t1, t2, h4, f4⟩ := arr_two (k := mask ||| ((1 : Int32) <<< (nI i &&& 31))) (u := up * Int32.toInt64 (nI x')) (v := dn * Int32.toInt64 (nI n')) h3 gu gd (by omega) gd1 (by omega)
        refine ⟨(nI (i + 1), c4), (nI (i + 1), d4), m - (i + 1), ?_, ?_, by omega, i + 1, c4, d4, by omega, rfl, rfl, h4, gCf_t f3 f4⟩
        · show m_X1_walk_L3 (m_X1_walk e) N 21 3 (nI v) (nI S) mask up dn (nI i) c3 = _
          rw [X0, if_pos qa', if_pos (by rw [qg]), gb_x t1]
        · show m_X10_chains_L17 (m_X10_chains e') N 55 (nI v) (nI g) (nI S) up dn (nI i) d3 = _
          have t3 : m_X10_chains e' N 55 (nI b') (nI g) (nI S ||| ((1 : Int32) <<< (nI b' &&& 31))) (up * Int32.toInt64 (nI x')) (dn * Int32.toInt64 (nI n')) d3 = some d4 := by
            obtain ⟨e2, he2⟩ : ∃ e2, e' = e2 + 1 := ⟨e' - 1, by omega⟩
            rw [he2]
            show m_X10_chains_b (m_X10_chains e2) N 55 (nI b') (nI g) _ _ _ d3 = _
            unfold m_X10_chains_b
            rw [if_pos (by rw [qg]), gc_1 (show gck 55 = 10 from rfl), gb_x t2]
          rw [Y0, if_pos qa', if_neg (by rw [qg]; omega), gb_x t3]
      have qg' : ¬ nI b' = nI g := by rw [n_eq (by omega) (by omega)]; exact qg
      by_cases qs : S / 2 ^ b' % 2 = 1
      · refine ⟨(nI (i + 1), c3), (nI (i + 1), d3), m - (i + 1), ?_, ?_, by omega, i + 1, c3, d3, by omega, rfl, rfl, h3, f3⟩
        · show m_X1_walk_L3 (m_X1_walk e) N 21 3 (nI v) (nI S) mask up dn (nI i) c3 = _
          rw [X0, if_pos qa', if_neg qg', qs, if_neg (by decide)]
        · show m_X10_chains_L17 (m_X10_chains e') N 55 (nI v) (nI g) (nI S) up dn (nI i) d3 = _
          rw [Y0, if_pos qa', if_pos qs]
      · have qs0 : S / 2 ^ b' % 2 = 0 := by omega
        obtain ⟨s1, s2⟩ := un_1 S hS b' (by omega) qs0
        have s3 := un_2 th (by omega) b' hb S hS qs0
        have s4 : (S + 2 ^ b') / 2 ^ g % 2 = S / 2 ^ g % 2 := (un_3 S hS b' (by omega) qs0 g (by omega)).resolve_left (fun q => qg q.symm)
        obtain ⟨c4, d4, t1, t2, h4, f4⟩ := ih e e' b' (S + 2 ^ b') (mask ||| ((1 : Int32) <<< (nI i &&& 31))) (ua * x') (ub * n') c3 d3 (by rw [Nat.mul_comm (9 ^ k) 9, ← Nat.mul_assoc] at hua; exact Nat.le_trans (Nat.mul_le_mul_right _ gu9) hua) (by rw [Nat.mul_comm (9 ^ k) 9, ← Nat.mul_assoc] at hub; exact Nat.le_trans (Nat.mul_le_mul_right _ gd9) hub) gd1 (by omega) (by omega) (by omega) hb qg s1 (by rw [s4]; exact hSg) hS3 r3 h3
        rw [← gu, ← gd] at t1 t2
        refine ⟨(nI (i + 1), c4), (nI (i + 1), d4), m - (i + 1), ?_, ?_, by omega, i + 1, c4, d4, by omega, rfl, rfl, h4, gCf_t f3 f4⟩
        · show m_X1_walk_L3 (m_X1_walk e) N 21 3 (nI v) (nI S) mask up dn (nI i) c3 = _
          rw [X0, if_pos qa', if_neg qg', qs0, if_pos (show nI 0 = 0 from rfl), s2, gb_x t1]
        · show m_X10_chains_L17 (m_X10_chains e') N 55 (nI v) (nI g) (nI S) up dn (nI i) d3 = _
          rw [Y0, if_pos qa', if_neg qs, s2, gb_x t2]) (n := N) (r := m) (a := (0, c)) (x := (0, d)) ⟨0, c, d, by omega, rfl, rfl, hC, gCf_r c d⟩ (by omega)
    refine ⟨b, y, ?_, ?_, hp.1, hp.2⟩
    · show m_X1_walk_b (m_X1_walk e) N 21 3 (nI v) (nI S) mask up dn c = _
      unfold m_X1_walk_b
      rw [gb_x e1]
    · show m_X10_chains_b (m_X10_chains e') N 55 (nI v) (nI g) (nI S) up dn d = _
      unfold m_X10_chains_b
      rw [if_neg (by rw [n_eq (by omega) (by omega)]; exact hvg), gb_x e2]
