set_option maxRecDepth 16384
theorem less_n {a b : Nat} (ha : a < 2147483648) (hb : b < 2147483648) : m_X10_less (nI a) (nI b) = some (nI (min a b)) := by
  unfold m_X10_less
  by_cases q : b ≤ a
  · rw [if_pos (by rw [n_le hb ha]; exact q), show min a b = b by omega]
  · rw [if_neg (by rw [n_le hb ha]; exact q), show min a b = a by omega]
theorem more_n {a b : Nat} (ha : a < 2147483648) (hb : b < 2147483648) : m_X10_more (nI a) (nI b) = some (nI (max a b)) := by
  unfold m_X10_more
  by_cases q : a ≤ b
  · rw [if_pos (by rw [n_le ha hb]; exact q), show max a b = b by omega]
  · rw [if_neg (by rw [n_le ha hb]; exact q), show max a b = a by omega]
theorem sh_th : ∀ t, t < 9 → (1 : Int32) <<< (nI t &&& 31) = nI (2 ^ t) := by decide +kernel
theorem sh_th1 : ∀ t, t < 9 → nI (2 ^ t) - 1 = nI (2 ^ t - 1) := by decide +kernel
theorem p2_8 {t : Nat} (h : t ≤ 8) : 1 ≤ 2 ^ t ∧ 2 ^ t ≤ 256 := ⟨Nat.pow_pos (by decide), Nat.le_trans (Nat.pow_le_pow_right (by decide) h) (by decide)⟩
set_option maxRecDepth 100000 in
theorem sh_bit : ∀ v, v < 256 → ∀ a, a < 8 → (nI v >>> (nI a &&& 31)) &&& 1 = nI (v / 2 ^ a % 2) := by decide +kernel
theorem db_1 {th m : Nat} {pl x : Int32} {r : Nat → Int32} {c : gm} (h : gSt 3 c th m pl r) (hx : 0 ≤ x ∧ x < nI (2 ^ th)) : m_X9_demandBits 0 x c = some (.inl c) := by
  obtain ⟨hk, h8, h5, -⟩ := h
  unfold m_X9_demandBits; simp only [gj_e]
  rw [if_neg (i_nlt hx.1), gc_1 (show gck 0 = 9 from rfl), h5, sh_th th (by omega), if_neg (fun q => Int32.lt_irrefl (Int32.lt_of_lt_of_le hx.2 q)), gc_1 (show gck 0 = 9 from rfl), gbx_x1 (dm_1 c)]
  rfl
theorem db_0 {th m : Nat} {pl x : Int32} {r : Nat → Int32} {c : gm} (h : gSt 3 c th m pl r) (hx : ¬ (0 ≤ x ∧ x < nI (2 ^ th))) : m_X9_demandBits 0 x c = some (.inr (1, cIll c)) := by
  obtain ⟨hk, h8, h5, -⟩ := h
  unfold m_X9_demandBits; simp only [gj_e]
  skip
  by_cases q : x < 0
  · rw [if_pos q, gc_1 (show gck 0 = 9 from rfl), gbx_x2 (dm_0 c)]
  · rw [if_neg q, gc_1 (show gck 0 = 9 from rfl), h5, sh_th th (by omega), if_pos (Int32.not_lt.mp (fun q2 => hx ⟨Int32.not_lt.mp q, q2⟩)), gc_1 (show gck 0 = 9 from rfl), gbx_x2 (dm_0 c)]
theorem ms_e {th : Nat} (h8 : th ≤ 8) (x : Int32) : (0 ≤ x ∧ x ≤ nI (2 ^ th - 1)) ↔ (0 ≤ x ∧ x < nI (2 ^ th)) := by
  have := p2_8 h8
  rw [← mt_e (by omega) x, n_l1, n_su (by omega)]
theorem ev_e {th : Nat} {d : gm} (h8 : th ≤ 8) (h : d.1 59 0 = nI th) : m_X10_everyThing 55 d = some (nI (2 ^ th - 1)) := by
  unfold m_X10_everyThing
  rw [gc_1 (show gck 55 = 10 from rfl), n_cl0, h, sh_th th (by omega), sh_th1 th (by omega)]
theorem ms_1 {th : Nat} {x : Int32} {d : gm} (h8 : th ≤ 8) (h : d.1 59 0 = nI th) (hx : 0 ≤ x ∧ x < nI (2 ^ th)) : m_X10_isSet 55 x d = some 1 := by
  unfold m_X10_isSet
  rw [gc_1 (show gck 55 = 10 from rfl), gb_x (ev_e h8 h), gb_x (in_1 ((ms_e h8 x).mpr hx)), gc_1 (Or.inr rfl)]
theorem ms_0 {th : Nat} {x : Int32} {d : gm} (h8 : th ≤ 8) (h : d.1 59 0 = nI th) (hx : ¬ (0 ≤ x ∧ x < nI (2 ^ th))) : m_X10_isSet 55 x d = some 0 := by
  unfold m_X10_isSet
  rw [gc_1 (show gck 55 = 10 from rfl), gb_x (ev_e h8 h), gb_x (in_0 (fun q => hx ((ms_e h8 x).mp q))), gc_1 (Or.inl rfl)]
theorem has_e {v a : Nat} (hv : v < 256) (ha : a < 8) : m_X10_has (nI v) (nI a) = some (if v / 2 ^ a % 2 = 1 then 1 else 0) := by
  unfold m_X10_has
  rw [sh_bit v hv a ha]
  by_cases q : v / 2 ^ a % 2 = 1
  · rw [q]; rfl
  · rw [show v / 2 ^ a % 2 = 0 by omega]; rfl
/-- the weights as numbers -/
def pWt (r : Nat → Int32) (a : Nat) : Nat := (r a).toNatClampNeg
theorem pWt_e {th m a : Nat} {r : Nat → Int32} (h : gRow th m r) (ha : a < th) : r a = nI (pWt r a) ∧ 1 ≤ pWt r a ∧ pWt r a ≤ 60 := by
  obtain ⟨w, h1, h2, e⟩ := h.2.2.1 a ha
  unfold pWt
  rw [e, n_cl (by omega)]
  exact ⟨rfl, h1, h2⟩
/-- what is given by a bound -/
def pGv (r : Nat → Int32) (x i th : Nat) : Nat := pF (fun k s => s + if x / 2 ^ k % 2 = 1 then min (pWt r k) i else 0) 0 th
theorem pGv_s (r : Nat → Int32) (x i k : Nat) : pGv r x i (k + 1) = pGv r x i k + if x / 2 ^ k % 2 = 1 then min (pWt r k) i else 0 := rfl
theorem pGv_b {r : Nat → Int32} {x i : Nat} (hi : i ≤ 60) : ∀ k, pGv r x i k ≤ 60 * k := by
  intro k
  induction k with
  | zero => exact Nat.le_refl _
  | succ k ih => rw [pGv_s]; split <;> omega
theorem pGv_m {r : Nat → Int32} {x i j : Nat} (h : i ≤ j) : ∀ k, pGv r x i k ≤ pGv r x j k := by
  intro k
  induction k with
  | zero => exact Nat.le_refl _
  | succ k ih => rw [pGv_s, pGv_s]; split <;> omega
theorem gv_c {th m n x i : Nat} {pl : Int32} {r : Nat → Int32} {c : gm} (hS : gSt 3 c th m pl r) (hR : gRow th m r) (hx : x < 256) (hi : i ≤ 60) (hn : 160 < n) : m_X4_givenBy n 3 (nI x) (nI i) c = some (nI (pGv r x i th)) := by
  obtain ⟨hk, h8, h5, -⟩ := id hS
  unfold m_X4_givenBy
  rw [show ((0 : Int32), (0 : Int32)) = (fun k => (nI (pGv r x i k), nI k)) 0 from rfl]
  rw [gloop_run (fun k => (nI (pGv r x i k), nI k)) th (nI (pGv r x i th)) ?_ ?_ (by omega)]
  · rfl
  · intro k hk2
    obtain ⟨e, w1, w60⟩ := pWt_e hR hk2
    have q1 : ¬ nI th ≤ nI k := by rw [n_le (by omega) (by omega)]; omega
    show m_X4_givenBy_L5 3 (nI x) (nI i) c (nI (pGv r x i k)) (nI k) = _
    unfold m_X4_givenBy_L5; simp only [gj_e]
    rw [gc_1 hk, h5, if_neg q1, sh_bit x hx k (by omega), pGv_s]
    by_cases q : x / 2 ^ k % 2 = 1
    · rw [if_neg (by rw [q]; decide), gb_x (cs_weight hS hk2), gv_e, gv_e, n_s, if_pos q, e]
      by_cases q2 : i < pWt r k
      · rw [if_pos (by rw [n_lt (by omega) (by omega)]; exact q2), n_ad, show min (pWt r k) i = i by omega]
      · rw [if_neg (by rw [n_lt (by omega) (by omega)]; exact q2), n_ad, show min (pWt r k) i = pWt r k by omega]
    · rw [if_pos (by rw [show x / 2 ^ k % 2 = 0 by omega]; rfl), gv_e, gv_e, n_s, if_neg q, n_l0, n_ad]
  · show m_X4_givenBy_L5 3 (nI x) (nI i) c (nI (pGv r x i th)) (nI th) = _
    unfold m_X4_givenBy_L5
    rw [gc_1 hk, h5, if_pos (by rw [n_le (by omega) (by omega)]; omega)]
theorem gv_d {th m n x i : Nat} {r : Nat → Int32} {d : gm} (er : d.1 503 = r) (m0 : d.1 59 0 = nI th) (h8 : th ≤ 8) (hR : gRow th m r) (hx : x < 256) (hi : i ≤ 60) (hn : 160 < n) : m_X10_givenBy n 55 (nI x) (nI i) d = some (nI (pGv r x i th)) := by
  unfold m_X10_givenBy
  rw [show ((0 : Int32), (0 : Int32)) = (fun k => (nI (pGv r x i k), nI k)) 0 from rfl]
  rw [gloop_run (fun k => (nI (pGv r x i k), nI k)) th (nI (pGv r x i th)) ?_ ?_ (by omega)]
  · rfl
  · intro k hk2
    obtain ⟨e, w1, w60⟩ := pWt_e hR hk2
    have q1 : ¬ nI th ≤ nI k := by rw [n_le (by omega) (by omega)]; omega
    show m_X10_givenBy_L5 55 (nI x) (nI i) d (nI (pGv r x i k)) (nI k) = _
    unfold m_X10_givenBy_L5; simp only [gj_e]
    rw [gc_1 (show gck 55 = 10 from rfl), n_cl0, m0, if_neg q1, gb_x (has_e hx (by omega)), pGv_s]
    by_cases q : x / 2 ^ k % 2 = 1
    · rw [if_pos q, if_neg (by decide), n_z, gc_1 (n_rg (by omega) (by omega)), n_cl (by omega), er, e]
      rw [gb_x (less_n (by omega) (by omega)), gv_e, gv_e, n_s, n_ad, if_pos q, Nat.min_comm]
    · rw [if_neg q, if_pos rfl, gv_e, gv_e, n_s, if_neg q, n_l0, n_ad]
  · show m_X10_givenBy_L5 55 (nI x) (nI i) d (nI (pGv r x i th)) (nI th) = _
    unfold m_X10_givenBy_L5
    rw [gc_1 (show gck 55 = 10 from rfl), n_cl0, m0, if_pos (by rw [n_le (by omega) (by omega)]; omega)]
def pBd (g : Nat → Nat) (z : Nat) (k : Nat) : Nat := pF (fun j b => if g (j + 1) ≤ z then j + 1 else b) 0 k
theorem pBd_s (g : Nat → Nat) (z k : Nat) : pBd g z (k + 1) = if g (k + 1) ≤ z then k + 1 else pBd g z k := rfl
theorem pBd_p (g : Nat → Nat) (z : Nat) : ∀ k, pBd g z k ≤ k ∧ (1 ≤ pBd g z k → g (pBd g z k) ≤ z) ∧ ∀ j, pBd g z k < j → j ≤ k → z < g j := by
  intro k
  induction k with
  | zero => exact ⟨Nat.le_refl _, fun h => absurd h (show ¬ 1 ≤ 0 by omega), fun j h1 h2 => by omega⟩
  | succ k ih =>
    obtain ⟨i1, i2, i3⟩ := ih
    rw [pBd_s]
    by_cases q : g (k + 1) ≤ z
    · rw [if_pos q]
      exact ⟨Nat.le_refl _, fun _ => q, fun j h1 h2 => by omega⟩
    · rw [if_neg q]
      refine ⟨by omega, i2, fun j h1 h2 => ?_⟩
      by_cases e : j = k + 1
      · rw [e]; omega
      · exact i3 j h1 (by omega)
theorem sb_c {th m n x z : Nat} {pl : Int32} {r : Nat → Int32} {c : gm} (hS : gSt 3 c th m pl r) (hR : gRow th m r) (hx : x < 256) (hz : z ≤ 999) (hn : 160 < n) : m_X4_shareBound n 23 3 (nI x) (nI z) c = some (nI (pBd (fun i => pGv r x i th) z 60)) := by
  have h8 := hS.2.1
  unfold m_X4_shareBound
  rw [show ((0 : Int32), (1 : Int32)) = (fun k => (nI (pBd (fun i => pGv r x i th) z k), nI (k + 1))) 0 from rfl]
  rw [gloop_run (fun k => (nI (pBd (fun i => pGv r x i th) z k), nI (k + 1))) 60 (nI (pBd (fun i => pGv r x i th) z 60)) ?_ ?_ (by omega)]
  · rfl
  · intro k hk2
    have q1 : ¬ (60 : Int32) < nI (k + 1) := by rw [n_l60, n_lt (by decide) (by omega)]; omega
    have hb := pGv_b (r := r) (x := x) (i := k + 1) (by omega) th
    show m_X4_shareBound_L6 n 3 (nI x) (nI z) c (nI (pBd (fun i => pGv r x i th) z k)) (nI (k + 1)) = _
    unfold m_X4_shareBound_L6; simp only [gj_e]
    rw [if_neg q1, gb_x (gv_c hS hR hx (by omega) hn), pBd_s]
    by_cases q : pGv r x (k + 1) th ≤ z
    · rw [if_neg (by rw [n_lt (by omega) (by omega)]; omega), gv_e, n_s, if_pos q]
    · rw [if_pos (by rw [n_lt (by omega) (by omega)]; omega), gv_e, n_s, if_neg q]
  · show m_X4_shareBound_L6 n 3 (nI x) (nI z) c (nI (pBd (fun i => pGv r x i th) z 60)) (nI 61) = _
    unfold m_X4_shareBound_L6
    rw [if_pos (show (60 : Int32) < nI 61 by decide)]
theorem sb_d {th m n x z : Nat} {r : Nat → Int32} {d : gm} (er : d.1 503 = r) (m0 : d.1 59 0 = nI th) (h8 : th ≤ 8) (hR : gRow th m r) (hx : x < 256) (hz : z ≤ 999) (hn : 160 < n) : gloop (fun (y21 : Int32) => m_X10_share_L65 n 55 (nI x) (nI z) d y21) n 0 = some (nI (pBd (fun i => pGv r x i th) z 60)) := by
  obtain ⟨b1, b2, b3⟩ := pBd_p (fun i => pGv r x i th) z 60
  generalize pBd (fun i => pGv r x i th) z 60 = B at b1 b2 b3
  rw [show (0 : Int32) = (fun k => nI k) 0 from rfl]
  refine gloop_run (fun k => nI k) B (nI B) ?_ ?_ (by omega)
  · intro k hk2
    have q1 : ¬ (60 : Int32) ≤ nI k := by rw [n_l60, n_le (by decide) (by omega)]; omega
    have hb := pGv_b (r := r) (x := x) (i := k + 1) (by omega) th
    have hm := pGv_m (r := r) (x := x) (show k + 1 ≤ B by omega) th
    have h2 := b2 (by omega)
    show m_X10_share_L65 n 55 (nI x) (nI z) d (nI k) = _
    unfold m_X10_share_L65
    rw [if_neg q1, n_s, gb_x (gv_d er m0 h8 hR hx (by omega) hn), if_neg (by rw [n_lt (by omega) (by omega)]; omega), gv_e]
  · show m_X10_share_L65 n 55 (nI x) (nI z) d (nI B) = _
    unfold m_X10_share_L65
    by_cases e : B = 60
    · rw [if_pos (by rw [e]; decide)]
    · have hb := pGv_b (r := r) (x := x) (i := B + 1) (by omega) th
      have h3 := b3 (B + 1) (by omega) (by omega)
      have q1 : ¬ (60 : Int32) ≤ nI B := by rw [n_l60, n_le (by decide) (by omega)]; omega
      rw [if_neg q1, n_s, gb_x (gv_d er m0 h8 hR hx (by omega) hn), if_pos (by rw [n_lt (by omega) (by omega)]; exact h3)]
theorem share_two {th m p n : Nat} {c d : gm} (h : gRl th m p c d) (hn : 160 < n) (a x z : Int32) : gAns 2 1 (m_X9_share n 0 a x z c) (m_X10_share n 55 a x z d) := by
  have hZ := gRl_dZ h
  have z0 := dZ_0 d
  obtain ⟨hP, hp, ⟨hS, hRw, hM, hL⟩, hTo, hTp, hCn, hBk, hPs, hIm⟩ := id hZ
  obtain ⟨hk, h8, h5, h6, h7, h9, h10, h11, hw, hf, hcp⟩ := id hS
  obtain ⟨m0, m3, -⟩ := id hM
  have hm : m ≤ 10 := hRw.1
  have h56 := hRw.2.1
  have p8 := p2_8 h8
  by_cases q : 0 ≤ a ∧ a < nI th
  · by_cases q2 : 0 ≤ x ∧ x < nI (2 ^ th)
    · by_cases q3 : 0 ≤ z ∧ z ≤ 999
      · obtain ⟨k, hkt, rfl⟩ := i_ex2 (by omega) q
        obtain ⟨x, hx, rfl⟩ := i_ex2 (by omega) q2
        obtain ⟨z, hz, rfl⟩ := i_ex (y := 999) (by decide) q3
        obtain ⟨e, w1, w60⟩ := pWt_e hRw hkt
        obtain ⟨b1, -, -⟩ := pBd_p (fun i => pGv ((dZ d).1 503) x i th) z 60
        by_cases qb : x / 2 ^ k % 2 = 1
        · refine ans_o (r := nI (min (pWt ((dZ d).1 503) k) (pBd (fun i => pGv ((dZ d).1 503) x i th) z 60))) hZ z0 ?_ ?_
          · unfold m_X9_share; simp only [gj_e]
            rw [gc_1 (show gck 0 = 9 from rfl), gbx_x1 (dt_1 hS q), gbx_x1 (db_1 hS q2), if_neg (i_nlt q3.1), if_neg (i_nlt q3.2), gbx_x1 (dm_1 c), sh_bit x (by omega) k (by omega), if_neg (by rw [qb]; decide), gb_x (cs_weight hS hkt), gb_x (sb_c hS hRw (by omega) hz hn), e]
            generalize pBd (fun i => pGv ((dZ d).1 503) x i th) z 60 = B at b1 ⊢
            by_cases q5 : B < pWt ((dZ d).1 503) k
            · rw [if_pos (by rw [n_lt (by omega) (by omega)]; exact q5), gok_e, show min (pWt ((dZ d).1 503) k) B = B by omega]
            · rw [if_neg (by rw [n_lt (by omega) (by omega)]; exact q5), gok_e, show min (pWt ((dZ d).1 503) k) B = pWt ((dZ d).1 503) k by omega]
          · unfold m_X10_share; simp only [gj_e]
            rw [gc_1 (show gck 55 = 10 from rfl), gv_e, show gm_r d 55 (upd (d.1 55) 0 0) = dZ d from rfl, gb_x (mt_1 h8 m0 q), if_neg (by decide), gb2_x (bd_0 z0), if_pos rfl, gb_x (ms_1 h8 m0 q2), if_neg (by decide), gb_x (in_1 q3), if_neg (by decide), gb2_x (bd_0 z0), if_pos rfl, gb_x (sb_d rfl m0 h8 hRw (by omega) hz hn), gb_x (has_e (by omega) (by omega)), if_pos qb, if_neg (by decide), n_z, gc_1 (n_rg (by omega) (by omega)), n_cl (by omega), e]
            generalize pBd (fun i => pGv ((dZ d).1 503) x i th) z 60 = B at b1 ⊢
            rw [gb_x (less_n (by omega) (by omega)), Nat.min_comm]
        · refine ans_o (r := 0) hZ z0 ?_ ?_
          · unfold m_X9_share; simp only [gj_e]
            rw [gc_1 (show gck 0 = 9 from rfl), gbx_x1 (dt_1 hS q), gbx_x1 (db_1 hS q2), if_neg (i_nlt q3.1), if_neg (i_nlt q3.2), gbx_x1 (dm_1 c), sh_bit x (by omega) k (by omega), if_pos (by rw [show x / 2 ^ k % 2 = 0 by omega]; rfl), gok_e]
          · unfold m_X10_share; simp only [gj_e]
            rw [gc_1 (show gck 55 = 10 from rfl), gv_e, show gm_r d 55 (upd (d.1 55) 0 0) = dZ d from rfl, gb_x (mt_1 h8 m0 q), if_neg (by decide), gb2_x (bd_0 z0), if_pos rfl, gb_x (ms_1 h8 m0 q2), if_neg (by decide), gb_x (in_1 q3), if_neg (by decide), gb2_x (bd_0 z0), if_pos rfl, gb_x (sb_d rfl m0 h8 hRw (by omega) hz hn), gb_x (has_e (by omega) (by omega)), if_neg qb, if_pos rfl]
      · refine ans_i (v := 0) (d := d) hZ (by decide) ?_ ?_
        · unfold m_X9_share; simp only [gj_e]
          rw [gc_1 (show gck 0 = 9 from rfl), gbx_x1 (dt_1 hS q), gbx_x1 (db_1 hS q2)]
          rcases i_or q3 with q5 | ⟨q5, q6⟩
          · rw [if_pos q5, gbx_x2 (dm_0 c)]
          · rw [if_neg q5, if_pos q6, gbx_x2 (dm_0 c)]
        · unfold m_X10_share; simp only [gj_e]
          rw [gc_1 (show gck 55 = 10 from rfl), gv_e, show gm_r d 55 (upd (d.1 55) 0 0) = dZ d from rfl, gb_x (mt_1 h8 m0 q), if_neg (by decide), gb2_x (bd_0 z0), if_pos rfl, gb_x (ms_1 h8 m0 q2), if_neg (by decide), gb_x (in_0 q3), if_pos rfl, gb2_x (bd_i z0 (by decide)), if_neg (by decide)]
    · refine ans_i (v := 0) (d := d) hZ (by decide) ?_ ?_
      · unfold m_X9_share
        rw [gc_1 (show gck 0 = 9 from rfl), gbx_x1 (dt_1 hS q), gbx_x2 (db_0 hS q2)]
      · unfold m_X10_share; simp only [gj_e]
        rw [gc_1 (show gck 55 = 10 from rfl), gv_e, show gm_r d 55 (upd (d.1 55) 0 0) = dZ d from rfl, gb_x (mt_1 h8 m0 q), if_neg (by decide), gb2_x (bd_0 z0), if_pos rfl, gb_x (ms_0 h8 m0 q2), if_pos rfl, gb2_x (bd_i z0 (by decide)), if_neg (by decide)]
  · refine ans_n (v := 0) (d := d) hZ (by decide) ?_ ?_
    · unfold m_X9_share
      rw [gc_1 (show gck 0 = 9 from rfl), gbx_x2 (dt_0 hS q)]
    · unfold m_X10_share; simp only [gj_e]
      rw [gc_1 (show gck 55 = 10 from rfl), gv_e, show gm_r d 55 (upd (d.1 55) 0 0) = dZ d from rfl, gb_x (mt_0 h8 m0 q), if_pos rfl, gb2_x (bd_n z0 (by decide)), if_neg (by decide)]
