set_option maxRecDepth 16384
theorem sh_1 : ∀ c, c < 8 → nI (2 ^ c) = (1 : Int32) <<< (nI c &&& 31) := by decide +kernel
set_option maxRecDepth 100000 in
theorem or_bits0 : ∀ v, v < 256 → ∀ a, a < 8 → ∃ u, u < 256 ∧ nI v ||| ((1 : Int32) <<< (nI a &&& 31)) = nI u ∧ ∀ x, x < 8 → (u / 2 ^ x % 2 = 1 ↔ v / 2 ^ x % 2 = 1 ∨ x = a) := by
  intro v hv a ha
  have h : ∀ v, v < 256 → ∀ a, a < 8 → nI v ||| ((1 : Int32) <<< (nI a &&& 31)) = nI (if v / 2 ^ a % 2 = 1 then v else v + 2 ^ a) ∧ (if v / 2 ^ a % 2 = 1 then v else v + 2 ^ a) < 256 ∧ ∀ x, x < 8 → ((if v / 2 ^ a % 2 = 1 then v else v + 2 ^ a) / 2 ^ x % 2 = 1 ↔ v / 2 ^ x % 2 = 1 ∨ x = a) := by decide +kernel
  obtain ⟨h1, h2, h3⟩ := h v hv a ha
  exact ⟨_, h2, h1, h3⟩
theorem or_bits (v : Nat) (hv : v < 256) (a : Nat) (ha : a < 8) (b : Nat) (hb : b < 8) : ∃ u, u < 256 ∧ nI v ||| (((1 : Int32) <<< (nI a &&& 31)) ||| ((1 : Int32) <<< (nI b &&& 31))) = nI u ∧ ∀ x, x < 8 → (u / 2 ^ x % 2 = 1 ↔ v / 2 ^ x % 2 = 1 ∨ x = a ∨ x = b) := by
  obtain ⟨u, hu, e1, i1⟩ := or_bits0 v hv a ha
  obtain ⟨u2, hu2, e2, i2⟩ := or_bits0 u hu b hb
  refine ⟨u2, hu2, by rw [← Int32.or_assoc, e1, e2], fun x hx => ?_⟩
  rw [i2 x hx, i1 x hx, or_assoc]
set_option maxRecDepth 100000 in
theorem bits_s : ∀ v, v < 256 → v = v / 2 ^ 0 % 2 + 2 * (v / 2 ^ 1 % 2) + 4 * (v / 2 ^ 2 % 2) + 8 * (v / 2 ^ 3 % 2) + 16 * (v / 2 ^ 4 % 2) + 32 * (v / 2 ^ 5 % 2) + 64 * (v / 2 ^ 6 % 2) + 128 * (v / 2 ^ 7 % 2) := by decide +kernel
theorem bits_eq (v : Nat) (hv : v < 256) (u : Nat) (hu : u < 256) (h : ∀ a, a < 8 → (v / 2 ^ a % 2 = 1 ↔ u / 2 ^ a % 2 = 1)) : v = u := by
  have k : ∀ a, a < 8 → v / 2 ^ a % 2 = u / 2 ^ a % 2 := by
    intro a ha
    have := h a ha
    generalize v / 2 ^ a = x at *
    generalize u / 2 ^ a = y at *
    omega
  rw [bits_s v hv, bits_s u hu, k 0 (by omega), k 1 (by omega), k 2 (by omega), k 3 (by omega), k 4 (by omega), k 5 (by omega), k 6 (by omega), k 7 (by omega)]
theorem pCo_z (r : Nat → Int32) (x : Int32) {m : Nat} (hm : m ≤ 10) : pCo m r x = 0 ↔ ¬ ∃ c, c < m ∧ (r (16 + 4 * c) = x ∨ r (16 + 4 * c + 2) = x) := by
  have key : ∀ k, k ≤ 10 → ∃ v, v < 2 ^ k ∧ pCo k r x = nI v ∧ (v = 0 ↔ ¬ ∃ c, c < k ∧ (r (16 + 4 * c) = x ∨ r (16 + 4 * c + 2) = x)) := by
    intro k
    induction k with
    | zero => intro _; exact ⟨0, by decide, rfl, ⟨fun _ ⟨c, hc, _⟩ => by omega, fun _ => rfl⟩⟩
    | succ k ih =>
      intro hk
      obtain ⟨v, hv, ev, iv⟩ := ih (by omega)
      rw [pCo_s, ev]
      by_cases q : r (16 + 4 * k) = x ∨ r (16 + 4 * k + 2) = x
      · rw [if_pos q, sh_ad k (by omega) v hv]
        refine ⟨v + 2 ^ k, by rw [Nat.pow_succ]; omega, rfl, ⟨fun e => ?_, fun e => absurd ⟨k, by omega, q⟩ e⟩⟩
        have : 0 < 2 ^ k := Nat.pow_pos (by decide)
        omega
      · rw [if_neg q]
        refine ⟨v, by rw [Nat.pow_succ]; omega, rfl, ?_⟩
        rw [iv]
        constructor
        · rintro h ⟨c, hc, q2⟩
          by_cases e : c = k
          · rw [e] at q2; exact q q2
          · exact h ⟨c, by omega, q2⟩
        · rintro h ⟨c, hc, q2⟩
          exact h ⟨c, by omega, q2⟩
  obtain ⟨v, hv, ev, iv⟩ := key m hm
  rw [ev, ← iv, n_l0, n_eq _ (by decide)]
  exact Nat.lt_of_lt_of_le hv (Nat.le_trans (Nat.pow_le_pow_right (by decide) hm) (by decide))
theorem cs_cried {t th m : Nat} {pl : Int32} {r : Nat → Int32} {c : gm} (h : gSt t c th m pl r) (hr : gRow th m r) {n : Nat} (hn : 20 < n) : m_X6_thingsCried n t c = some (pCr th m r) := by
  obtain ⟨hk, h8, h5, h6, h7, h9, h10, h11, hw, hf, hc⟩ := id h
  obtain ⟨hm, h56, -, hcr, -⟩ := hr
  have hs : ∀ k, k ≤ m → ∃ v, v < 256 ∧ pF (fun c b => b ||| (((1 : Int32) <<< (r (16 + 4 * c) &&& 31)) ||| ((1 : Int32) <<< (r (16 + 4 * c + 2) &&& 31)))) 0 k = nI v ∧ ∀ a, a < 8 → (v / 2 ^ a % 2 = 1 ↔ ∃ c, c < k ∧ (r (16 + 4 * c) = nI a ∨ r (16 + 4 * c + 2) = nI a)) := by
    intro k
    induction k with
    | zero => intro _; exact ⟨0, by decide, rfl, fun a ha => ⟨fun q => by simp at q, fun ⟨c, hc, _⟩ => by omega⟩⟩
    | succ k ih =>
      intro hk2
      obtain ⟨v, hv, ev, iv⟩ := ih (by omega)
      obtain ⟨a, nn, b, kk, ha, hb, -, -, -, -, -, ea, en, eb, ek⟩ := hcr k (by omega)
      obtain ⟨v2, hv2, e2, i2⟩ := or_bits v hv a (by omega) b (by omega)
      refine ⟨v2, hv2, ?_, fun x hx => ?_⟩
      · show pF _ 0 k ||| _ = _
        rw [ev, ea, eb, e2]
      · rw [i2 x hx, iv x hx]
        constructor
        · rintro (⟨c, hc2, q⟩ | q | q)
          · exact ⟨c, by omega, q⟩
          · exact ⟨k, by omega, Or.inl (by rw [ea, q])⟩
          · exact ⟨k, by omega, Or.inr (by rw [eb, q])⟩
        · rintro ⟨c, hc2, q⟩
          by_cases hck : c = k
          · subst hck
            rw [ea, eb, n_eq (by omega) (by omega), n_eq (by omega) (by omega)] at q
            rcases q with q | q
            · exact Or.inr (Or.inl q.symm)
            · exact Or.inr (Or.inr q.symm)
          · exact Or.inl ⟨c, by omega, q⟩
  have hs2 : ∀ k, k ≤ th → ∃ v, v < 256 ∧ pCr k m r = nI v ∧ ∀ a, a < 8 → (v / 2 ^ a % 2 = 1 ↔ a < k ∧ ∃ c, c < m ∧ (r (16 + 4 * c) = nI a ∨ r (16 + 4 * c + 2) = nI a)) := by
    intro k
    induction k with
    | zero => intro _; exact ⟨0, by decide, rfl, fun a ha => ⟨fun q => by simp at q, fun ⟨q, _⟩ => by omega⟩⟩
    | succ k ih =>
      intro hk2
      obtain ⟨v, hv, ev, iv⟩ := ih (by omega)
      rw [pCr_s, ev]
      have hz := pCo_z r (nI k) hm
      by_cases q : pCo m r (nI k) = 0
      · rw [if_pos q, Int32.or_zero]
        refine ⟨v, hv, rfl, fun x hx => ?_⟩
        rw [iv x hx]
        constructor
        · rintro ⟨a, b⟩; exact ⟨by omega, b⟩
        · rintro ⟨a, b⟩
          refine ⟨?_, b⟩
          by_cases hxk : x = k
          · exfalso; rw [hxk] at b; exact (hz.mp q) b
          · omega
      · rw [if_neg q]
        obtain ⟨v2, hv2, e2, i2⟩ := or_bits v hv k (by omega) k (by omega)
        refine ⟨v2, hv2, ?_, fun x hx => ?_⟩
        · rw [← e2, Int32.or_self]
        · rw [i2 x hx, iv x hx]
          constructor
          · rintro (⟨a, b⟩ | a | a)
            · exact ⟨by omega, b⟩
            · exact ⟨by omega, by rw [a]; exact Classical.not_not.mp (fun q2 => q (hz.mpr q2))⟩
            · exact ⟨by omega, by rw [a]; exact Classical.not_not.mp (fun q2 => q (hz.mpr q2))⟩
          · rintro ⟨a, b⟩
            by_cases hxk : x = k
            · exact Or.inr (Or.inl hxk)
            · exact Or.inl ⟨by omega, b⟩
  unfold m_X6_thingsCried
  rw [show ((0 : Int32), (0 : Int32)) = (fun k => (pF (fun c b => b ||| (((1 : Int32) <<< (r (16 + 4 * c) &&& 31)) ||| ((1 : Int32) <<< (r (16 + 4 * c + 2) &&& 31)))) 0 k, nI k)) 0 from rfl]
  rw [gloop_run (fun k => (pF (fun c b => b ||| (((1 : Int32) <<< (r (16 + 4 * c) &&& 31)) ||| ((1 : Int32) <<< (r (16 + 4 * c + 2) &&& 31)))) 0 k, nI k)) m (pF (fun c b => b ||| (((1 : Int32) <<< (r (16 + 4 * c) &&& 31)) ||| ((1 : Int32) <<< (r (16 + 4 * c + 2) &&& 31)))) 0 m) ?_ ?_ (by omega)]
  · rw [gb_e]
    obtain ⟨v, hv, ev, iv⟩ := hs m (by omega)
    obtain ⟨v2, hv2, ev2, iv2⟩ := hs2 th (by omega)
    rw [ev, ev2]
    congr 2
    refine bits_eq v hv v2 hv2 (fun a ha => ?_)
    rw [iv a ha, iv2 a ha]
    constructor
    · rintro ⟨cc, hcc, q⟩
      refine ⟨?_, cc, hcc, q⟩
      obtain ⟨a', nn, b', kk, ha', hb', -, -, -, -, -, ea, en, eb, ek⟩ := hcr cc hcc
      rw [ea, eb, n_eq (by omega) (by omega), n_eq (by omega) (by omega)] at q
      omega
    · exact fun q => q.2
  · intro k hk2
    have c0 : m_X6_cryPart t (nI k) 0 c = some (r (16 + 4 * k)) := cs_cry h hm hk2 (j := 0) (by omega)
    have c2 : m_X6_cryPart t (nI k) 2 c = some (r (16 + 4 * k + 2)) := cs_cry h hm hk2 (j := 2) (by omega)
    have q1 : ¬ nI m ≤ nI k := by rw [n_le (by omega) (by omega)]; omega
    show m_X6_thingsCried_L4 t c (pF _ 0 k) (nI k) = _
    unfold m_X6_thingsCried_L4
    rw [gc_1 hk, h6, if_neg q1, gb_x c0, gb_x c2, gv_e, gv_e, n_s]
    rfl
  · show m_X6_thingsCried_L4 t c (pF _ 0 m) (nI m) = _
    unfold m_X6_thingsCried_L4
    rw [gc_1 hk, h6, if_pos (by rw [n_le (by omega) (by omega)]; omega)]

theorem told_two {th m p n : Nat} {c d : gm} (h : gRl th m p c d) (hn : 160 < n) (a : Int32) : gAns 1 0 (m_X9_told n 0 a c) (m_X10_told n 55 a d) := by
  have hZ := gRl_dZ h
  have z0 := dZ_0 d
  obtain ⟨hP, hp, ⟨hS, hRw, hM, hL⟩, hTo, hTp, hCn, hBk, hPs, hIm⟩ := id hZ
  obtain ⟨hk, h8, h5, h6, h7, h9, h10, h11, hw, hf, hcp⟩ := id hS
  obtain ⟨m0, m3, -⟩ := id hM
  have hm : m ≤ 10 := hRw.1
  have h56 := hRw.2.1
  by_cases q : 0 ≤ a ∧ a ≤ 10
  · obtain ⟨k, hk10, rfl⟩ := i_ex (y := 10) (by decide) q
    have i1 := in_1 q
    rcases (by omega : k = 0 ∨ k = 1 ∨ k = 2 ∨ k = 3 ∨ k = 4 ∨ k = 5 ∨ k = 6 ∨ k = 7 ∨ k = 8 ∨ k = 9 ∨ k = 10) with rfl | rfl | rfl | rfl | rfl | rfl | rfl | rfl | rfl | rfl | rfl
    · refine ans_o (r := nI th) hZ z0 ?_ ?_
      · unfold m_X9_told; simp only [gj_e]
        rw [if_neg (i_nlt q.1), if_neg (i_nlt q.2), gc_1 (show gck 0 = 9 from rfl), gbx_x1 (dm_1 c), if_pos (show nI 0 = 0 from rfl), h5, gok_e]
      · unfold m_X10_told; simp only [gj_e]
        rw [gc_1 (show gck 55 = 10 from rfl), gv_e, show gm_r d 55 (upd (d.1 55) 0 0) = dZ d from rfl, gb_x i1, if_neg (by decide), gb2_x (bd_0 z0), if_pos rfl, if_pos (show nI 0 = 0 from rfl), n_cl0, m0]
    · refine ans_o (r := nI m) hZ z0 ?_ ?_
      · unfold m_X9_told; simp only [gj_e]
        rw [if_neg (i_nlt q.1), if_neg (i_nlt q.2), gc_1 (show gck 0 = 9 from rfl), gbx_x1 (dm_1 c), if_neg (by decide), if_pos (show nI 1 = 1 from rfl), h6, gok_e]
      · unfold m_X10_told; simp only [gj_e]
        rw [gc_1 (show gck 55 = 10 from rfl), gv_e, show gm_r d 55 (upd (d.1 55) 0 0) = dZ d from rfl, gb_x i1, if_neg (by decide), gb2_x (bd_0 z0), if_pos rfl, if_neg (by decide), if_pos (show nI 1 = 1 from rfl), show (56 : Int32).toNatClampNeg = 56 from rfl, h56]
    · refine ans_o (r := (dZ d).1 503 59) hZ z0 ?_ ?_
      · unfold m_X9_told; simp only [gj_e]
        rw [if_neg (i_nlt q.1), if_neg (i_nlt q.2), gc_1 (show gck 0 = 9 from rfl), gbx_x1 (dm_1 c), if_neg (by decide), if_neg (by decide), if_pos (show nI 2 = 2 from rfl), h10, gok_e]
      · unfold m_X10_told; simp only [gj_e]
        rw [gc_1 (show gck 55 = 10 from rfl), gv_e, show gm_r d 55 (upd (d.1 55) 0 0) = dZ d from rfl, gb_x i1, if_neg (by decide), gb2_x (bd_0 z0), if_pos rfl, if_neg (by decide), if_neg (by decide), if_pos (show nI 2 = 2 from rfl), show (59 : Int32).toNatClampNeg = 59 from rfl]
    · refine ans_o (r := (dZ d).1 503 57) hZ z0 ?_ ?_
      · unfold m_X9_told; simp only [gj_e]
        rw [if_neg (i_nlt q.1), if_neg (i_nlt q.2), gc_1 (show gck 0 = 9 from rfl), gbx_x1 (dm_1 c), if_neg (by decide), if_neg (by decide), if_neg (by decide), if_pos (show nI 3 = 3 from rfl), h7, gok_e]
      · unfold m_X10_told; simp only [gj_e]
        rw [gc_1 (show gck 55 = 10 from rfl), gv_e, show gm_r d 55 (upd (d.1 55) 0 0) = dZ d from rfl, gb_x i1, if_neg (by decide), gb2_x (bd_0 z0), if_pos rfl, if_neg (by decide), if_neg (by decide), if_neg (by decide), if_pos (show nI 3 = 3 from rfl), show (57 : Int32).toNatClampNeg = 57 from rfl]
    · refine ans_o (r := nI p) hZ z0 ?_ ?_
      · unfold m_X9_told; simp only [gj_e]
        rw [if_neg (i_nlt q.1), if_neg (i_nlt q.2), gc_1 (show gck 0 = 9 from rfl), gbx_x1 (dm_1 c), if_neg (by decide), if_neg (by decide), if_neg (by decide), if_neg (by decide), if_pos (show nI 4 = 4 from rfl), h9, gok_e]
      · unfold m_X10_told; simp only [gj_e]
        rw [gc_1 (show gck 55 = 10 from rfl), gv_e, show gm_r d 55 (upd (d.1 55) 0 0) = dZ d from rfl, gb_x i1, if_neg (by decide), gb2_x (bd_0 z0), if_pos rfl, if_neg (by decide), if_neg (by decide), if_neg (by decide), if_neg (by decide), if_pos (show nI 4 = 4 from rfl), show (3 : Int32).toNatClampNeg = 3 from rfl, m3]
    · refine ans_o (r := pW th ((dZ d).1 503)) hZ z0 ?_ ?_
      · unfold m_X9_told; simp only [gj_e]
        rw [if_neg (i_nlt q.1), if_neg (i_nlt q.2), gc_1 (show gck 0 = 9 from rfl), gbx_x1 (dm_1 c), if_neg (by decide), if_neg (by decide), if_neg (by decide), if_neg (by decide), if_neg (by decide), if_pos (show nI 5 = 5 from rfl), gb_x (cs_all hS (by omega)), gok_e]
      · unfold m_X10_told; simp only [gj_e]
        rw [gc_1 (show gck 55 = 10 from rfl), gv_e, show gm_r d 55 (upd (d.1 55) 0 0) = dZ d from rfl, gb_x i1, if_neg (by decide), gb2_x (bd_0 z0), if_pos rfl, if_neg (by decide), if_neg (by decide), if_neg (by decide), if_neg (by decide), if_neg (by decide), if_pos (show nI 5 = 5 from rfl), gb_x (md_all hM rfl rfl (by omega))]
    · refine ans_o (r := pNs m ((dZ d).1 503)) hZ z0 ?_ ?_
      · unfold m_X9_told; simp only [gj_e]
        rw [if_neg (i_nlt q.1), if_neg (i_nlt q.2), gc_1 (show gck 0 = 9 from rfl), gbx_x1 (dm_1 c), if_neg (by decide), if_neg (by decide), if_neg (by decide), if_neg (by decide), if_neg (by decide), if_neg (by decide), if_pos (show nI 6 = 6 from rfl), gb_x (cs_notSo hS hRw (by omega)), gok_e]
      · unfold m_X10_told; simp only [gj_e]
        rw [gc_1 (show gck 55 = 10 from rfl), gv_e, show gm_r d 55 (upd (d.1 55) 0 0) = dZ d from rfl, gb_x i1, if_neg (by decide), gb2_x (bd_0 z0), if_pos rfl, if_neg (by decide), if_neg (by decide), if_neg (by decide), if_neg (by decide), if_neg (by decide), if_neg (by decide), if_pos (show nI 6 = 6 from rfl), gb_x (md_notSo rfl hRw h8 rfl rfl (by omega))]
    · refine ans_o (r := pCr th m ((dZ d).1 503)) hZ z0 ?_ ?_
      · unfold m_X9_told; simp only [gj_e]
        rw [if_neg (i_nlt q.1), if_neg (i_nlt q.2), gc_1 (show gck 0 = 9 from rfl), gbx_x1 (dm_1 c), if_neg (by decide), if_neg (by decide), if_neg (by decide), if_neg (by decide), if_neg (by decide), if_neg (by decide), if_neg (by decide), if_pos (show nI 7 = 7 from rfl), gb_x (cs_cried hS hRw (by omega)), gok_e]
      · unfold m_X10_told; simp only [gj_e]
        rw [gc_1 (show gck 55 = 10 from rfl), gv_e, show gm_r d 55 (upd (d.1 55) 0 0) = dZ d from rfl, gb_x i1, if_neg (by decide), gb2_x (bd_0 z0), if_pos rfl, if_neg (by decide), if_neg (by decide), if_neg (by decide), if_neg (by decide), if_neg (by decide), if_neg (by decide), if_neg (by decide), if_pos (show nI 7 = 7 from rfl), gb_x (md_cried hM rfl h56 hm rfl rfl (by omega))]
    · have hbk0 : gck (c.2.2 2) = 0 := by rcases hP.2 with q2 | q2 <;> rw [q2.1] <;> rfl
      have hbz : c.1 (c.2.2 2) 5 = (dZ d).1 55 32 := by obtain ⟨z, -, b1, b2, -⟩ := hBk; rw [b1, b2]
      refine ans_o (r := (dZ d).1 55 32) hZ z0 ?_ ?_
      · unfold m_X9_told; simp only [gj_e]
        rw [if_neg (i_nlt q.1), if_neg (i_nlt q.2), gc_1 (show gck 0 = 9 from rfl), gbx_x1 (dm_1 c), if_neg (by decide), if_neg (by decide), if_neg (by decide), if_neg (by decide), if_neg (by decide), if_neg (by decide), if_neg (by decide), if_neg (by decide), if_pos (show nI 8 = 8 from rfl), gc_1 hbk0, hbz, gok_e]
      · unfold m_X10_told; simp only [gj_e]
        rw [gc_1 (show gck 55 = 10 from rfl), gv_e, show gm_r d 55 (upd (d.1 55) 0 0) = dZ d from rfl, gb_x i1, if_neg (by decide), gb2_x (bd_0 z0), if_pos rfl, if_neg (by decide), if_neg (by decide), if_neg (by decide), if_neg (by decide), if_neg (by decide), if_neg (by decide), if_neg (by decide), if_neg (by decide), if_pos (show nI 8 = 8 from rfl)]
    · refine ans_o (r := (dZ d).1 55 34) hZ z0 ?_ ?_
      · unfold m_X9_told; simp only [gj_e]
        rw [if_neg (i_nlt q.1), if_neg (i_nlt q.2), gc_1 (show gck 0 = 9 from rfl), gbx_x1 (dm_1 c), if_neg (by decide), if_neg (by decide), if_neg (by decide), if_neg (by decide), if_neg (by decide), if_neg (by decide), if_neg (by decide), if_neg (by decide), if_neg (by decide), if_pos (show nI 9 = 9 from rfl), hCn.2.1, gok_e]
      · unfold m_X10_told; simp only [gj_e]
        rw [gc_1 (show gck 55 = 10 from rfl), gv_e, show gm_r d 55 (upd (d.1 55) 0 0) = dZ d from rfl, gb_x i1, if_neg (by decide), gb2_x (bd_0 z0), if_pos rfl, if_neg (by decide), if_neg (by decide), if_neg (by decide), if_neg (by decide), if_neg (by decide), if_neg (by decide), if_neg (by decide), if_neg (by decide), if_neg (by decide), if_pos (show nI 9 = 9 from rfl)]
    · refine ans_o (r := (dZ d).1 503 58) hZ z0 ?_ ?_
      · unfold m_X9_told; simp only [gj_e]
        rw [if_neg (i_nlt q.1), if_neg (i_nlt q.2), gc_1 (show gck 0 = 9 from rfl), gbx_x1 (dm_1 c), if_neg (by decide), if_neg (by decide), if_neg (by decide), if_neg (by decide), if_neg (by decide), if_neg (by decide), if_neg (by decide), if_neg (by decide), if_neg (by decide), if_neg (by decide), h11, gok_e]
      · unfold m_X10_told; simp only [gj_e]
        rw [gc_1 (show gck 55 = 10 from rfl), gv_e, show gm_r d 55 (upd (d.1 55) 0 0) = dZ d from rfl, gb_x i1, if_neg (by decide), gb2_x (bd_0 z0), if_pos rfl, if_neg (by decide), if_neg (by decide), if_neg (by decide), if_neg (by decide), if_neg (by decide), if_neg (by decide), if_neg (by decide), if_neg (by decide), if_neg (by decide), if_neg (by decide), show (58 : Int32).toNatClampNeg = 58 from rfl]
  · have i0 := in_0 q
    refine ans_i (v := 0) (d := d) hZ (by decide) ?_ ?_
    · unfold m_X9_told; simp only [gj_e]
      skip
      rcases i_or q with q1 | ⟨q1, q2⟩
      · rw [if_pos q1, gc_1 (show gck 0 = 9 from rfl), gbx_x2 (dm_0 c)]
      · rw [if_neg q1, if_pos q2, gc_1 (show gck 0 = 9 from rfl), gbx_x2 (dm_0 c)]
    · unfold m_X10_told; simp only [gj_e]
      rw [gc_1 (show gck 55 = 10 from rfl), gv_e, show gm_r d 55 (upd (d.1 55) 0 0) = dZ d from rfl, gb_x i0, if_pos rfl, gb2_x (bd_i z0 (by decide)), if_neg (by decide)]
