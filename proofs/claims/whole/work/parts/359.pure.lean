set_option maxRecDepth 16384
/-! rings: the walk -/
theorem rb_1 : ∀ g, g < 8 → ∀ S, S < 256 → S % 2 ^ g = 0 → S + (2 ^ g - 1) < 256 := by decide +kernel
theorem rb_3 : ∀ g, g < 8 → ∀ S, S < 256 → S % 2 ^ g = 0 → ∀ b, b < 8 → (S + (2 ^ g - 1)) / 2 ^ b % 2 = (if b < g then 1 else S / 2 ^ b % 2) := by decide +kernel
theorem rb_2 : ∀ g, g < 8 → ∀ S, S < 256 → S % 2 ^ g = 0 → ∀ b, b < 8 → g ≤ b → (S + 2 ^ b) % 2 ^ g = 0 := by decide +kernel
theorem rwalk_two {th m g N : Nat} {pl : Int32} {r : Nat → Int32} (hR : gRow th m r) (h8 : th ≤ 8) (hg : g < th) (hN : 60 < N) : ∀ k dd de v SM mask ua ub F c d, ua * 9 ^ (k + 1) ≤ 43046721 → ub * 9 ^ (k + 1) ≤ 43046721 → 1 ≤ ub → k + 1 ≤ dd → k + 1 ≤ de → uns th (SM + (2 ^ g - 1)) = k → v < th → g ≤ v → SM < 256 → SM % 2 ^ g = 0 → SM / 2 ^ v % 2 = 1 → mask < 2 ^ m → (∀ j, Nat.testBit mask j = true → ∃ a, r (16 + 4 * j) = nI a ∧ a ≠ v ∧ a < 8 ∧ SM / 2 ^ a % 2 = 1) → F + dg r v m * 2 ^ eU r m (SM + (2 ^ g - 1)) th ≤ 1023 → gSt 3 c th m pl r → d.1 503 = r → gRw F m g c d → ∃ c2 d2 F2, m_X1_walk dd N 21 3 (nI v) (nI (SM + (2 ^ g - 1))) (nI mask) (nL ua) (nL ub) c = some c2 ∧ m_X10_rings de N 55 (nI g) (nI v) (nI SM) (nI mask) (nL ua) (nL ub) d = some d2 ∧ F2 ≤ F + dg r v m * 2 ^ eU r m (SM + (2 ^ g - 1)) th ∧ gRw F2 m g c2 d2 ∧ gRf c d c2 d2 := by
  have hm : m ≤ 10 := hR.1
  intro k
  induction k using Nat.strongRecOn with
  | _ k ih =>
    intro dd de v SM mask ua ub F c d hua hub hu1 hd hde hk hv hgv hSM hSg hSv hmk hmb hF hSt h503 hC
    obtain ⟨e, rfl⟩ : ∃ e, dd = e + 1 := ⟨dd - 1, by omega⟩
    obtain ⟨e', rfl⟩ : ∃ e', de = e' + 1 := ⟨de - 1, by omega⟩
    obtain ⟨up, eup⟩ : ∃ z, z = nL ua := ⟨_, rfl⟩
    obtain ⟨dn, edn⟩ : ∃ z, z = nL ub := ⟨_, rfl⟩
    rw [← eup, ← edn]
    have hSc := rb_1 g (by omega) SM hSM hSg
    have hSb := rb_3 g (by omega) SM hSM hSg
    obtain ⟨S, eS⟩ : ∃ z, z = SM + (2 ^ g - 1) := ⟨_, rfl⟩
    rw [← eS] at hk hF hSc hSb ⊢
    obtain ⟨E, eE⟩ : ∃ z, z = 2 ^ eU r m S th := ⟨_, rfl⟩
    rw [← eE] at hF ⊢
    have hE : 1 ≤ E := by rw [eE]; exact Nat.pow_pos (by omega)
    have hp9 : 0 < 9 ^ k := Nat.pow_pos (by omega)
    have hua8 : ua * 9 ≤ 43046721 := by
      rw [Nat.pow_succ] at hua
      exact Nat.le_trans (Nat.mul_le_mul_left ua (Nat.le_mul_of_pos_left 9 hp9)) hua
    have hub8 : ub * 9 ≤ 43046721 := by
      rw [Nat.pow_succ] at hub
      exact Nat.le_trans (Nat.mul_le_mul_left ub (Nat.le_mul_of_pos_left 9 hp9)) hub
    obtain ⟨b, y, e1, e2, F2, hp⟩ := gloop_two (f := gu2 (fun (y2 : Int32) (c3 : gm) => m_X1_walk_L3 (m_X1_walk e) N 21 3 (nI v) (nI S) (nI mask) up dn y2 c3)) (g := gu2 (fun (y3 : Int32) (c4 : gm) => m_X10_rings_L3 (m_X10_rings e') N 55 (nI g) (nI v) (nI SM) (nI mask) up dn y3 c4)) (fun q (A : Int32 × gm) (X : Int32 × gm) => ∃ i c3 d3 F3, q + i = m ∧ A = (nI i, c3) ∧ X = (nI i, d3) ∧ F3 ≤ F + dg r v i * E ∧ gRw F3 m g c3 d3 ∧ gRf c d c3 d3) (fun c2 d2 => ∃ F2, F2 ≤ F + dg r v m * E ∧ gRw F2 m g c2 d2 ∧ gRf c d c2 d2) (by
      rintro q A X ⟨i, c3, d3, F3, hi, rfl, rfl, hF3, h3, f3⟩
      have hS3 : gSt 3 c3 th m pl r := gSt_fr hSt (f3.1 _ (by omega) (by omega)) (f3.1 _ (by omega) (by omega)) (f3.1 _ (by omega) (by omega)) (f3.1 _ (by omega) (by omega))
      have r3 : d3.1 503 = r := by rw [f3.2.2.1 503 (by omega) (by omega)]; exact h503
      have c36 := hS3.2.2.2.1
      by_cases qi : i < m
      rotate_left
      · right
        refine ⟨c3, d3, ?_, ?_, F3, by rw [show m = i by omega]; exact hF3, h3, f3⟩
        · show m_X1_walk_L3 (m_X1_walk e) N 21 3 (nI v) (nI S) (nI mask) up dn (nI i) c3 = _
          unfold m_X1_walk_L3
          rw [gc_1 (show gck 3 = 6 from rfl), c36, if_pos (by rw [n_le (by omega) (by omega)]; omega)]
        · show m_X10_rings_L3 (m_X10_rings e') N 55 (nI g) (nI v) (nI SM) (nI mask) up dn (nI i) d3 = _
          unfold m_X10_rings_L3
          rw [gc_1 (show gck 55 = 10 from rfl), r3, show (56 : Int32).toNatClampNeg = 56 from rfl, hR.2.1, if_pos (by rw [n_le (by omega) (by omega)]; omega)]
      left
      obtain ⟨a', n', b', x', ha, hb, hab, n1, n9, x1, x9, v0, v1, v2, v3⟩ := hR.2.2.2.1 i qi
      have p0 : m_X6_cryPart 3 (nI i) 0 c3 = some (nI a') := by rw [← v0]; exact cs_cry hS3 hm qi (j := 0) (by omega)
      have p1 : m_X6_cryPart 3 (nI i) 1 c3 = some (nI n') := by rw [← v1]; exact cs_cry hS3 hm qi (j := 1) (by omega)
      have p2 : m_X6_cryPart 3 (nI i) 2 c3 = some (nI b') := by rw [← v2]; exact cs_cry hS3 hm qi (j := 2) (by omega)
      have p3 : m_X6_cryPart 3 (nI i) 3 c3 = some (nI x') := by rw [← v3]; exact cs_cry hS3 hm qi (j := 3) (by omega)
      have gu : up * Int32.toInt64 (nI x') = nL (ua * x') := by rw [eup, l_of (by omega), l_mul (by have := Nat.mul_le_mul_left ua x9; omega) (by omega) (by omega)]
      have gd : dn * Int32.toInt64 (nI n') = nL (ub * n') := by rw [edn, l_of (by omega), l_mul (by have := Nat.mul_le_mul_left ub n9; omega) (by omega) (by omega)]
      have gu9 : ua * x' ≤ ua * 9 := Nat.mul_le_mul_left ua x9
      have gd9 : ub * n' ≤ ub * 9 := Nat.mul_le_mul_left ub n9
      have gd1 : 1 ≤ ub * n' := Nat.mul_pos hu1 n1
      have nm : ¬ nI m ≤ nI i := by rw [n_le (by omega) (by omega)]; omega
      have sb := sh_bit S hSc b' (by omega)
      have sl : b' < g → S / 2 ^ b' % 2 = 1 := fun q => by rw [hSb b' (by omega), if_pos q]
      have sg : g ≤ b' → S / 2 ^ b' % 2 = SM / 2 ^ b' % 2 := fun q => by rw [hSb b' (by omega), if_neg (by omega)]
      have X0 : m_X1_walk_L3 (m_X1_walk e) N 21 3 (nI v) (nI S) (nI mask) up dn (nI i) c3 = (if nI a' = nI v then (if nI b' = nI g then gb (m_X1_arrive 21 (nI mask ||| ((1 : Int32) <<< (nI i &&& 31))) (up * Int32.toInt64 (nI x')) (dn * Int32.toInt64 (nI n')) c3) (fun (c32 : gm) => some (.inl (nI (i + 1), c32))) else (if nI (S / 2 ^ b' % 2) = 0 then gb (m_X1_walk e N 21 3 (nI b') (nI S ||| ((1 : Int32) <<< (nI b' &&& 31))) (nI mask ||| ((1 : Int32) <<< (nI i &&& 31))) (up * Int32.toInt64 (nI x')) (dn * Int32.toInt64 (nI n')) c3) (fun (c29 : gm) => some (.inl (nI (i + 1), c29))) else some (.inl (nI (i + 1), c3)))) else some (.inl (nI (i + 1), c3))) := by
        unfold m_X1_walk_L3; simp only [gj_e]
        rw [gc_1 (show gck 3 = 6 from rfl), c36, if_neg nm, gb_x p2, gb_x p0, gv_e, gb_x p3, gv_e, gb_x p1, gv_e, gc_1 (show gck 21 = 1 from rfl), h3.2.1, sb, gv_e, n_s]
        rfl
      have Y0 : m_X10_rings_L3 (m_X10_rings e') N 55 (nI g) (nI v) (nI SM) (nI mask) up dn (nI i) d3 = (if nI a' = nI v then (if b' < g then some (.inl (nI (i + 1), d3)) else (if b' = g then gb (m_X10_keeps 55 (up * Int32.toInt64 (nI x')) (dn * Int32.toInt64 (nI n')) d3) (fun (c29 : gm) => (if 0 < (lg_cmp (up * Int32.toInt64 (nI x')) (dn * Int32.toInt64 (nI n'))) then gc (0 ≤ (nI mask ||| ((1 : Int32) <<< (nI i &&& 31))).toInt ∧ (nI mask ||| ((1 : Int32) <<< (nI i &&& 31))).toInt < 1024) (gv (gm_r c29 527 (upd (c29.1 527) (nI mask ||| ((1 : Int32) <<< (nI i &&& 31))).toNatClampNeg (vp_nar .boolean 1))) (fun (c35 : gm) => (if (c35.1 55 42) = (-1) then gb (m_X10_ones N (nI mask)) (fun (r45 : Int32) => gv (gm_r c35 55 (upd (c35.1 55) 42 (r45 + 1))) (fun (c38 : gm) => some (.inl (nI (i + 1), c38)))) else gb (m_X10_ones N (nI mask)) (fun (r41 : Int32) => gb (m_X10_less (c35.1 55 42) (r41 + 1)) (fun (r43 : Int32) => gv (gm_r c35 55 (upd (c35.1 55) 42 r43)) (fun (c38 : gm) => some (.inl (nI (i + 1), c38)))))))) else some (.inl (nI (i + 1), c29)))) else (if SM / 2 ^ b' % 2 = 1 then some (.inl (nI (i + 1), d3)) else gb (m_X10_rings e' N 55 (nI g) (nI b') (nI SM ||| ((1 : Int32) <<< (nI b' &&& 31))) (nI mask ||| ((1 : Int32) <<< (nI i &&& 31))) (up * Int32.toInt64 (nI x')) (dn * Int32.toInt64 (nI n')) d3) (fun (c28 : gm) => some (.inl (nI (i + 1), c28)))))) else some (.inl (nI (i + 1), d3))) := by
        unfold m_X10_rings_L3; simp only [gj_e]
        rw [gc_1 (show gck 55 = 10 from rfl), r3, show (56 : Int32).toNatClampNeg = 56 from rfl, hR.2.1, if_neg nm, gv_e, n_164, show nI (16 + 4 * i) + 2 = nI (16 + 4 * i + 2) from n_ad _ 2, show nI (16 + 4 * i) + 3 = nI (16 + 4 * i + 3) from n_ad _ 3, show nI (16 + 4 * i) + 1 = nI (16 + 4 * i + 1) from n_ad _ 1, n_s, gc_1 (n_rg (by omega) (by omega)), gv_e, gc_1 (n_rg (by omega) (by omega)), n_cl (by omega), n_cl (by omega), n_cl (by omega), n_cl (by omega), v0, v1, v2, v3]
        by_cases q0 : nI a' = nI v
        rotate_left
        · rw [if_neg q0, if_neg q0]; rfl
        rw [if_pos q0, if_pos q0]
        by_cases q1 : b' < g
        · rw [if_pos (show nI b' < nI g by rw [n_lt (by omega) (by omega)]; exact q1), if_pos q1]; rfl
        rw [if_neg (show ¬ nI b' < nI g by rw [n_lt (by omega) (by omega)]; exact q1), if_neg q1]
        by_cases q2 : b' = g
        · rw [if_pos (show nI b' = nI g by rw [q2]), if_pos q2, gc_1 (n_rg (by omega) (by omega)), gv_e, gc_1 (n_rg (by omega) (by omega)), gv_e, if_pos (show nI b' = nI g by rw [q2])]
          rfl
        · have q2' : ¬ nI b' = nI g := by rw [n_eq (by omega) (by omega)]; exact q2
          rw [if_neg q2', if_neg q2, gb_x (has_e hSM (by omega))]
          by_cases q3 : SM / 2 ^ b' % 2 = 1
          · rw [if_pos q3, if_pos q3, if_neg (show ¬ (1 : Int32) = 0 by decide)]; rfl
          · rw [if_neg q3, if_neg q3, if_pos (show (0 : Int32) = 0 from rfl), gc_1 (n_rg (by omega) (by omega)), gv_e, gc_1 (n_rg (by omega) (by omega)), gv_e, if_neg q2']
            rfl
      by_cases qa : a' = v
      rotate_left
      · have qa' : ¬ nI a' = nI v := by rw [n_eq (by omega) (by omega)]; exact qa
        refine ⟨(nI (i + 1), c3), (nI (i + 1), d3), m - (i + 1), ?_, ?_, by omega, i + 1, c3, d3, F3, by omega, rfl, rfl, ?_, h3, f3⟩
        · show m_X1_walk_L3 (m_X1_walk e) N 21 3 (nI v) (nI S) (nI mask) up dn (nI i) c3 = _
          rw [X0, if_neg qa']
        · show m_X10_rings_L3 (m_X10_rings e') N 55 (nI g) (nI v) (nI SM) (nI mask) up dn (nI i) d3 = _
          rw [Y0, if_neg qa']
        · exact Nat.le_trans hF3 (Nat.add_le_add_left (Nat.mul_le_mul_right E (dg_le r v (by omega))) F)
      have qa' : nI a' = nI v := by rw [qa]
      have dgi : dg r v (i + 1) = dg r v i + 1 := by rw [dg_s, if_pos (by rw [v0, qa])]
      have dgm : (dg r v i + 1) * E ≤ dg r v m * E := Nat.mul_le_mul_right E (by rw [← dgi]; exact dg_le r v (by omega))
      have dge : (dg r v i + 1) * E = dg r v i * E + E := by rw [Nat.add_mul, Nat.one_mul]
      have mk0 : Nat.testBit mask i = false := by
        cases qm : Nat.testBit mask i with
        | false => rfl
        | true =>
          obtain ⟨z, z1, z2, z3, z4⟩ := hmb i qm
          rw [v0, n_eq (by omega) (by omega)] at z1
          omega
      have skip : F3 ≤ F + dg r v (i + 1) * E := by rw [dgi, dge]; omega
      by_cases q1 : b' < g
      · refine ⟨(nI (i + 1), c3), (nI (i + 1), d3), m - (i + 1), ?_, ?_, by omega, i + 1, c3, d3, F3, by omega, rfl, rfl, skip, h3, f3⟩
        · show m_X1_walk_L3 (m_X1_walk e) N 21 3 (nI v) (nI S) (nI mask) up dn (nI i) c3 = _
          rw [X0, if_pos qa', if_neg (by rw [n_eq (by omega) (by omega)]; omega), sl q1, if_neg (by decide)]
        · show m_X10_rings_L3 (m_X10_rings e') N 55 (nI g) (nI v) (nI SM) (nI mask) up dn (nI i) d3 = _
          rw [Y0, if_pos qa', if_pos q1]
      by_cases qg : b' = g
      · obtain ⟨c4, d4, F4, hF4, t1, t2, h4, f4⟩ := ring_two (N := N) (mask := mask) (i := i) (u := up * Int32.toInt64 (nI x')) (v := dn * Int32.toInt64 (nI n')) h3 gu gd (by omega) gd1 (by omega) hm (by omega) qi hmk mk0 (by omega)
        refine ⟨(nI (i + 1), c4), (nI (i + 1), d4), m - (i + 1), ?_, ?_, by omega, i + 1, c4, d4, F4, by omega, rfl, rfl, ?_, h4, gRf_t f3 f4⟩
        · show m_X1_walk_L3 (m_X1_walk e) N 21 3 (nI v) (nI S) (nI mask) up dn (nI i) c3 = _
          rw [X0, if_pos qa', if_pos (by rw [qg]), gb_x t1]
        · show m_X10_rings_L3 (m_X10_rings e') N 55 (nI g) (nI v) (nI SM) (nI mask) up dn (nI i) d3 = _
          rw [Y0, if_pos qa', if_neg q1, if_pos qg]
          exact t2 (fun (c38 : gm) => (some (Sum.inl (nI (i + 1), c38)) : Option ((Int32 × gm) ⊕ gm)))
        · rw [dgi, dge]; omega
      have qg' : ¬ nI b' = nI g := by rw [n_eq (by omega) (by omega)]; exact qg
      have sg := sg (by omega)
      by_cases qs : SM / 2 ^ b' % 2 = 1
      · refine ⟨(nI (i + 1), c3), (nI (i + 1), d3), m - (i + 1), ?_, ?_, by omega, i + 1, c3, d3, F3, by omega, rfl, rfl, skip, h3, f3⟩
        · show m_X1_walk_L3 (m_X1_walk e) N 21 3 (nI v) (nI S) (nI mask) up dn (nI i) c3 = _
          rw [X0, if_pos qa', if_neg qg', sg, qs, if_neg (by decide)]
        · show m_X10_rings_L3 (m_X10_rings e') N 55 (nI g) (nI v) (nI SM) (nI mask) up dn (nI i) d3 = _
          rw [Y0, if_pos qa', if_neg q1, if_neg qg, if_pos qs]
      · have qs0 : SM / 2 ^ b' % 2 = 0 := by omega
        have qS0 : S / 2 ^ b' % 2 = 0 := by rw [sg]; exact qs0
        obtain ⟨s1, s2⟩ := un_1 SM hSM b' (by omega) qs0
        obtain ⟨u1, u2⟩ := un_1 S hSc b' (by omega) qS0
        have s3 := un_2 th (by omega) b' hb S hSc qS0
        have eS2 : SM + 2 ^ b' + (2 ^ g - 1) = S + 2 ^ b' := by rw [eS, Nat.add_right_comm]
        have hE2 := eU_p (r := r) (m := m) hSc h8 hb qS0
        rw [← eE, Nat.add_mul, Nat.one_mul] at hE2
        have hW : dg r b' m * 2 ^ eU r m (S + 2 ^ b') th ≤ E := Nat.le_trans (Nat.le_add_right _ _) hE2
        have hFE : F3 + E ≤ 1023 := by clear hE2 hW; omega
        obtain ⟨o1, -, -⟩ := on_1 mask (by have := m_2 hm; omega) i (by omega) mk0
        have nbv : b' ≠ v := by intro q; rw [q] at qs0; omega
        have hpk : 9 ^ (k + 1) = 9 * 9 ^ k := by rw [Nat.pow_succ, Nat.mul_comm]
        obtain ⟨c4, d4, F4, t1, t2, hF4, h4, f4⟩ := ih (k - 1) (by omega) e e' b' (SM + 2 ^ b') (mask ||| 2 ^ i) (ua * x') (ub * n') F3 c3 d3 (by
            rw [hpk, ← Nat.mul_assoc] at hua; rw [show k - 1 + 1 = k by omega]; exact Nat.le_trans (Nat.mul_le_mul_right _ gu9) hua) (by
            rw [hpk, ← Nat.mul_assoc] at hub; rw [show k - 1 + 1 = k by omega]; exact Nat.le_trans (Nat.mul_le_mul_right _ gd9) hub) gd1 (by omega) (by omega) (by rw [eS2]; omega) hb (by omega) s1 (rb_2 g (by omega) SM hSM hSg b' (by omega) (by omega)) (un_5 SM hSM b' (by omega) qs0) (or_lt hmk qi) (by
            intro j hj
            rcases or_bit hj with rfl | hj
            · exact ⟨v, by rw [v0, qa], fun q => nbv q.symm, by omega, by rw [(un_3 SM hSM b' (by omega) qs0 v (by omega)).resolve_left (fun q => nbv q.symm)]; exact hSv⟩
            · obtain ⟨z, z1, z2, z3, z4⟩ := hmb j hj
              have zb : z ≠ b' := by intro q; rw [q] at z4; omega
              exact ⟨z, z1, zb, z3, by rw [(un_3 SM hSM b' (by omega) qs0 z z3).resolve_left zb]; exact z4⟩) (by rw [eS2]; exact Nat.le_trans (Nat.add_le_add_left hW F3) hFE) hS3 r3 h3
        rw [← gu, ← gd, ← o1, eS2] at t1
        rw [← gu, ← gd, ← o1] at t2
        rw [eS2] at hF4
        have hF5 : F4 ≤ F3 + E := Nat.le_trans hF4 (Nat.add_le_add_left hW F3)
        clear hF4 hW hE2
        refine ⟨(nI (i + 1), c4), (nI (i + 1), d4), m - (i + 1), ?_, ?_, by omega, i + 1, c4, d4, F4, by omega, rfl, rfl, ?_, h4, gRf_t f3 f4⟩
        · show m_X1_walk_L3 (m_X1_walk e) N 21 3 (nI v) (nI S) (nI mask) up dn (nI i) c3 = _
          rw [X0, if_pos qa', if_neg qg', qS0, if_pos (show nI 0 = 0 from rfl), u2, gb_x t1]
        · show m_X10_rings_L3 (m_X10_rings e') N 55 (nI g) (nI v) (nI SM) (nI mask) up dn (nI i) d3 = _
          rw [Y0, if_pos qa', if_neg q1, if_neg qg, if_neg qs, s2, gb_x t2]
        · rw [dgi, dge]; omega) (n := N) (r := m) (a := (0, c)) (x := (0, d)) ⟨0, c, d, F, by omega, rfl, rfl, by show F ≤ F + 0 * E; omega, hC, gRf_r c d⟩ (by omega)
    refine ⟨b, y, F2, ?_, ?_, hp.1, hp.2.1, hp.2.2⟩
    · show m_X1_walk_b (m_X1_walk e) N 21 3 (nI v) (nI S) (nI mask) up dn c = _
      unfold m_X1_walk_b
      rw [gb_x e1]
    · show m_X10_rings_b (m_X10_rings e') N 55 (nI g) (nI v) (nI SM) (nI mask) up dn d = _
      unfold m_X10_rings_b
      rw [gb_x e2]
