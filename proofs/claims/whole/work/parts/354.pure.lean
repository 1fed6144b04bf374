set_option maxRecDepth 16384
/-! chains: seeking one, and what stands above -/
theorem un_0 : ∀ th, th < 9 → ∀ a, a < th → uns th (2 ^ a) + 1 = th ∧ 2 ^ a < 256 := by decide +kernel
theorem un_g : ∀ a, a < 8 → ∀ g, g < 8 → g = a ∨ 2 ^ a / 2 ^ g % 2 = 0 := by decide
theorem seek_two {th m a g N : Nat} {pl : Int32} {c d : gm} (hSt : gSt 3 c th m pl (d.1 503)) (hR : gRow th m (d.1 503)) (ha : a < th) (hg : g < th) (hag : a ≠ g) (hN : 60 < N) : ∃ c2 d2, m_X1_seekChain N 21 3 (nI a) (nI g) c = some c2 ∧ m_X10_worths N 55 (nI a) (nI g) d = some d2 ∧ c2.2.1 21 4 = d2.2.1 55 39 ∧ c2.2.1 21 5 = d2.2.1 55 40 ∧ gBu d2 ∧ gCf c d c2 d2 := by
  have h8 := hSt.2.1
  obtain ⟨c6, ec6⟩ : ∃ z, z = gm_r (gm_l (gm_l (gm_r (gm_r c 21 (upd (c.1 21) 1 0)) 21 (upd ((gm_r c 21 (upd (c.1 21) 1 0)).1 21) 2 (-1))) 21 (vp_updL ((gm_r (gm_r c 21 (upd (c.1 21) 1 0)) 21 (upd ((gm_r c 21 (upd (c.1 21) 1 0)).1 21) 2 (-1))).2.1 21) 4 (0 : Int64))) 21 (vp_updL ((gm_l (gm_r (gm_r c 21 (upd (c.1 21) 1 0)) 21 (upd ((gm_r c 21 (upd (c.1 21) 1 0)).1 21) 2 (-1))) 21 (vp_updL ((gm_r (gm_r c 21 (upd (c.1 21) 1 0)) 21 (upd ((gm_r c 21 (upd (c.1 21) 1 0)).1 21) 2 (-1))).2.1 21) 4 (0 : Int64))).2.1 21) 5 (1 : Int64))) 21 (upd ((gm_l (gm_l (gm_r (gm_r c 21 (upd (c.1 21) 1 0)) 21 (upd ((gm_r c 21 (upd (c.1 21) 1 0)).1 21) 2 (-1))) 21 (vp_updL ((gm_r (gm_r c 21 (upd (c.1 21) 1 0)) 21 (upd ((gm_r c 21 (upd (c.1 21) 1 0)).1 21) 2 (-1))).2.1 21) 4 (0 : Int64))) 21 (vp_updL ((gm_l (gm_r (gm_r c 21 (upd (c.1 21) 1 0)) 21 (upd ((gm_r c 21 (upd (c.1 21) 1 0)).1 21) 2 (-1))) 21 (vp_updL ((gm_r (gm_r c 21 (upd (c.1 21) 1 0)) 21 (upd ((gm_r c 21 (upd (c.1 21) 1 0)).1 21) 2 (-1))).2.1 21) 4 (0 : Int64))).2.1 21) 5 (1 : Int64))).1 21) 3 (nI g)) := ⟨_, rfl⟩
  obtain ⟨d4, ed4⟩ : ∃ z, z = gm_l (gm_l d 55 (vp_updL (d.2.1 55) 39 (0 : Int64))) 55 (vp_updL ((gm_l d 55 (vp_updL (d.2.1 55) 39 (0 : Int64))).2.1 55) 40 (1 : Int64)) := ⟨_, rfl⟩
  have c61 : c6.1 21 1 = 0 := by
    rw [ec6, gr_s, up_n _ _ (show 1 ≠ 3 by omega), gl_1, gl_1, gr_s, up_n _ _ (show 1 ≠ 2 by omega), gr_s, up_s]
  have c63 : c6.1 21 3 = nI g := by rw [ec6, gr_s, up_s]
  have c64 : c6.2.1 21 4 = 0 := by
    rw [ec6]
    show (gm_l _ 21 _).2.1 21 4 = 0
    rw [gml_s, ul_n _ _ (show 4 ≠ 5 by omega), gml_s, ul_s]
  have c65 : c6.2.1 21 5 = 1 := by
    rw [ec6]
    show (gm_l _ 21 _).2.1 21 5 = 1
    rw [gml_s, ul_s]
  have d49 : d4.2.1 55 39 = 0 := by rw [ed4, gml_s, ul_n _ _ (show 39 ≠ 40 by omega), gml_s, ul_s]
  have d40 : d4.2.1 55 40 = 1 := by rw [ed4, gml_s, ul_s]
  have d41 : d4.1 = d.1 := by rw [ed4]; rfl
  have c6o : ∀ i, i ≠ 21 → c6.1 i = c.1 i := fun i hi => by rw [ec6, gr_n _ _ hi, gl_1, gl_1, gr_n _ _ hi, gr_n _ _ hi]
  have f6 : gCf c d c6 d4 := ⟨fun i i1 _ => c6o i i1, by rw [ec6]; rfl, d41, by rw [ed4]; rfl⟩
  have hC : gCw g c6 d4 := ⟨⟨0, by omega, c61⟩, c63, by rw [c64, d49], by rw [c65, d40], 0, 1, by rw [d49]; rfl, by rw [d40]; rfl, by omega, by omega, by omega⟩
  obtain ⟨u1, u2⟩ := un_0 th (by omega) a ha
  have ug : 2 ^ a / 2 ^ g % 2 = 0 := (un_g a (by omega) g (by omega)).resolve_left (fun q => hag q.symm)
  obtain ⟨c2, d2, t1, t2, h2, f2⟩ := walk_two (pl := pl) (r := d.1 503) hR h8 hg hN (th - 1) 12 12 a (2 ^ a) 0 1 1 c6 d4 (by rw [Nat.one_mul]; exact Nat.le_trans (Nat.pow_le_pow_right (by omega) (show th - 1 ≤ 8 by omega)) (by decide)) (by rw [Nat.one_mul]; exact Nat.le_trans (Nat.pow_le_pow_right (by omega) (show th - 1 ≤ 8 by omega)) (by decide)) (by omega) (by omega) (by omega) (by omega) ha hag u2 ug (gSt_fr hSt (c6o _ (by omega)) (c6o _ (by omega)) (c6o _ (by omega)) (c6o _ (by omega))) (by rw [d41]) hC
  rw [show nL 1 = 1 from rfl] at t1 t2
  refine ⟨c2, d2, ?_, ?_, h2.2.2.1, h2.2.2.2.1, h2.2.2.2.2, gCf_t f6 f2⟩
  · unfold m_X1_seekChain m_X1_begin
    rw [gc_1 (show gck 21 = 1 from rfl), gc_1 (show gck 21 = 1 from rfl), gv_e, gv_e, gv_e, gv_e, gb_e, gv_e, ← ec6, sh_th a (by omega), gb_x t1]
  · unfold m_X10_worths
    rw [gc_1 (show gck 55 = 10 from rfl), gv_e, gv_e, ← ed4, sh_th a (by omega), gb_x t2]
