set_option maxRecDepth 16384
/-! doing a work: the loops -/
def gD0 (th rl : Nat) (pl : Int32) (c d : gm) : Prop := (∃ m, gR2 3 503 rl th m pl c d) ∧ (∃ B, B ≤ 200 ∧ c.1 15 2 = nI B ∧ d.1 55 37 = nI B) ∧ c.1 15 3 = d.1 55 38 ∧ c.1 15 4 = d.1 55 34
def gDf (rl : Nat) (c d c2 d2 : gm) : Prop := (∀ i, ¬ CF 3 rl i → i ≠ 15 → c2.1 i = c.1 i) ∧ c2.2 = c.2 ∧ c2.1 15 1 = c.1 15 1 ∧ (∀ i, ¬ DF 503 i → i ≠ 55 → d2.1 i = d.1 i) ∧ d2.2 = d.2 ∧ ∀ k, k ≠ 34 → k ≠ 37 → k ≠ 38 → d2.1 55 k = d.1 55 k
theorem gDf_r (rl : Nat) (c d : gm) : gDf rl c d c d := ⟨fun _ _ _ => rfl, rfl, rfl, fun _ _ _ => rfl, rfl, fun _ _ _ _ => rfl⟩
theorem gDf_t {rl : Nat} {c d c2 d2 c3 d3 : gm} (h : gDf rl c d c2 d2) (g : gDf rl c2 d2 c3 d3) : gDf rl c d c3 d3 := ⟨fun i h1 h2 => (g.1 i h1 h2).trans (h.1 i h1 h2), g.2.1.trans h.2.1, g.2.2.1.trans h.2.2.1, fun i h1 h2 => (g.2.2.2.1 i h1 h2).trans (h.2.2.2.1 i h1 h2), g.2.2.2.2.1.trans h.2.2.2.2.1, fun k k1 k2 k3 => (g.2.2.2.2.2 k k1 k2 k3).trans (h.2.2.2.2.2 k k1 k2 k3)⟩
theorem gDf_s {rl : Nat} {c d c2 d2 : gm} (hr : rl = 33 ∨ rl = 38) (h : gDf rl c d c2 d2) (s e : Nat) (he : e ≤ 38) : gSeg c d c2 d2 s e := ⟨fun j _ _ => by rw [h.1 16 (by unfold CF; omega) (by omega)], fun j _ j2 => h.2.2.2.1 _ (by unfold DF; omega) (by omega)⟩
/-- the step is begun on both sides -/
theorem beg_two {th rl B : Nat} {pl : Int32} {c d : gm} (hi : gIx 3 503 rl) (h : gD0 th rl pl c d) (hB : B < 200) (b1 : c.1 15 2 = nI B) (b2 : d.1 55 37 = nI B) : gD0 th rl pl (gm_r c 15 (upd (c.1 15) 2 (nI (B + 1)))) (gm_r d 55 (upd (d.1 55) 37 (nI (B + 1)))) ∧ gDf rl c d (gm_r c 15 (upd (c.1 15) 2 (nI (B + 1)))) (gm_r d 55 (upd (d.1 55) 37 (nI (B + 1)))) := by
  obtain ⟨⟨m, hR⟩, -, h3, h4⟩ := h
  refine ⟨⟨⟨m, gR2_k hi hR (fun i hi => gr_n _ _ hi) (fun i hi => gr_n _ _ hi) (by rw [gr_s, up_n _ _ (by omega)])⟩, ⟨B + 1, by omega, by rw [gr_s, up_s], by rw [gr_s, up_s]⟩, by rw [gr_s, gr_s, up_n _ _ (by omega), up_n _ _ (by omega)]; exact h3, by rw [gr_s, gr_s, up_n _ _ (by omega), up_n _ _ (by omega)]; exact h4⟩, ⟨fun i _ h2 => gr_n _ _ h2, rfl, by rw [gr_s, up_n _ _ (by omega)], fun i _ h2 => gr_n _ _ h2, rfl, fun k _ k2 _ => by rw [gr_s, up_n _ _ k2]⟩⟩
/-- a simple step, counted -/
theorem cnt_two {th rl s N : Nat} {pl : Int32} {c d : gm} (hi : gIx 3 503 rl) (h : gD0 th rl pl c d) (hs : s < 38) (S : gS1 th c d s) (hN : 160 < N) : ∃ q c1 d1 c2 d2, (q = 0 ∨ q = 1) ∧ m_X8_doStep N 15 3 rl (nI s) c = some (q, c1) ∧ m_X10_does N 55 503 (422 + 1 + s) d = some (q, d1) ∧ c2 = gm_r c1 15 (upd (upd (c1.1 15) 3 (c1.1 15 3 + q)) 4 (c1.1 15 4 + (1 - q))) ∧ d2 = gm_r d1 55 (upd (upd (d1.1 55) 38 (d1.1 55 38 + q)) 34 (d1.1 55 34 + (1 - q))) ∧ gD0 th rl pl c2 d2 ∧ gDf rl c d c2 d2 := by
  obtain ⟨⟨m, hR⟩, ⟨B, hB, b1, b2⟩, h3, h4⟩ := h
  obtain ⟨q, c1, d1, m2, hq, e1, e2, f1, f2, hR2⟩ := does_two hi hR hs S hN
  have hr := hi.2.2
  have c15 : c1.1 15 = c.1 15 := f1.1 15 (by unfold CF; omega)
  have d55 : d1.1 55 = d.1 55 := f2.1 55 (by unfold DF; omega)
  refine ⟨q, c1, d1, _, _, hq, e1, e2, rfl, rfl, ⟨⟨m2, gR2_k hi hR2 (fun i hi => gr_n _ _ hi) (fun i hi => gr_n _ _ hi) (by rw [gr_s, up_n _ _ (by omega), up_n _ _ (by omega)])⟩, ⟨B, hB, by rw [gr_s, up_n _ _ (by omega), up_n _ _ (by omega), c15]; exact b1, by rw [gr_s, up_n _ _ (by omega), up_n _ _ (by omega), d55]; exact b2⟩, ?_, ?_⟩, ⟨fun i h1 h2 => by rw [gr_n _ _ h2, f1.1 i h1], f1.2, by rw [gr_s, up_n _ _ (by omega), up_n _ _ (by omega), c15], fun i h1 h2 => by rw [gr_n _ _ h2, f2.1 i h1], f2.2, fun k k1 k2 k3 => by rw [gr_s, up_n _ _ k1, up_n _ _ k3, d55]⟩⟩
  · rw [gr_s, gr_s, up_n _ _ (by omega), up_s, up_n _ _ (by omega), up_s, c15, d55, h3]
  · rw [gr_s, gr_s, up_s, up_s, c15, d55, h4]
abbrev gC := Nat → Nat → Nat → Nat → Int32 → Int32 → Int32 → gm → Option gm
abbrev gD := Nat → Nat → Int32 → Int32 → gm → Option gm
/-- what doing a stretch of steps comes to -/
def gGo (th rl : Nat) (pl : Int32) (c d : gm) (x y : Option gm) : Prop := ∃ c2 d2, x = some c2 ∧ y = some d2 ∧ gD0 th rl pl c2 d2 ∧ gDf rl c d c2 d2
def gGr (th rl : Nat) (pl : Int32) (W : gm → gm → Nat → Nat → Prop) (l N : Nat) (rc : gC) (rd : gD) : Prop := ∀ s e c d, e < 38 → gD0 th rl pl c d → W c d s e → gGo th rl pl c d (rc N 15 3 rl (nI s) (nI e) (nI l) c) (rd N 55 (nI s) (nI e) d)
theorem rep_two {th rl l s q v N : Nat} {pl : Int32} {W : gm → gm → Nat → Nat → Prop} {rc : gC} {rd : gD} {c d : gm} (hi : gIx 3 503 rl) (hW : gLc W) (H : gGr th rl pl W (l + 1) N rc rd) (hl : l < 6) (h : gD0 th rl pl c d) (hs : s < 38) (hq : q < 38) (hv : v ≤ 60) (h1 : c.1 16 (5 * s + 1) = nI v) (h2 : d.1 (423 + s) 1 = nI v) (h5 : d.1 (423 + s) 5 = nI q) (hw : W c d (s + 1) q) (hN : 160 < N) : gGo th rl pl c d (gloop (gu2 (fun (y34 : Int32) (c35 : gm) => m_X8_doSteps_L63 rc N 15 3 rl (nI l) (nI s) (nI q) y34 c35)) N (0, c)) (gloop (gu2 (fun (y39 : Int32) (c40 : gm) => m_X10_goes_L42 rd N 55 (nI s) y39 c40)) N (0, d)) := by
  have hr := hi.2.2
  have hs8 : s < 80 := by omega
  obtain ⟨b, y, e1, e2, hp⟩ := gloop_two (f := gu2 (fun (y34 : Int32) (c35 : gm) => m_X8_doSteps_L63 rc N 15 3 rl (nI l) (nI s) (nI q) y34 c35)) (g := gu2 (fun (y39 : Int32) (c40 : gm) => m_X10_goes_L42 rd N 55 (nI s) y39 c40)) (fun r (A : Int32 × gm) (X : Int32 × gm) => ∃ k c3 d3, r + k = v ∧ A = (nI k, c3) ∧ X = (nI k, d3) ∧ gD0 th rl pl c3 d3 ∧ gDf rl c d c3 d3) (fun c2 d2 => gD0 th rl pl c2 d2 ∧ gDf rl c d c2 d2) (by
    rintro r A X ⟨k, c3, d3, hk, rfl, rfl, h3, f3⟩
    have p1 : c3.1 16 (5 * s + 1) = nI v := by rw [f3.1 16 (by unfold CF; omega) (by omega)]; exact h1
    have rz : d3.1 (422 + 1 + s) = d.1 (423 + s) := by rw [show 422 + 1 + s = 423 + s by omega]; exact f3.2.2.2.1 _ (by unfold DF; omega) (by omega)
    obtain ⟨-, ⟨B, hB, b1, b2⟩, -, -⟩ := id h3
    have X0 : m_X8_doSteps_L63 rc N 15 3 rl (nI l) (nI s) (nI q) (nI k) c3 = (if nI v ≤ nI k then some (.inr c3) else (if 200 ≤ nI B then some (.inr c3) else gb (rc N 15 3 rl (nI (s + 1)) (nI q) (nI (l + 1)) c3) (fun (c44 : gm) => some (.inl (nI (k + 1), c44))))) := by
      unfold m_X8_doSteps_L63
      rw [show m_X8_part 15 (nI s) 1 c3 = some (nI v) by rw [← p1]; exact part_c8 (k := 1) hs (by omega), gb_e, b1, if_neg (show ¬ 6 ≤ nI l by rw [n_l6, n_le (by decide) (by omega)]; omega), n_s, n_s, n_s]
      rfl
    have Y0 : m_X10_goes_L42 rd N 55 (nI s) (nI k) d3 = (if nI v ≤ nI k then some (.inr d3) else (if 200 ≤ nI B then some (.inr d3) else gb (rd N 55 (nI (s + 1)) (nI q) d3) (fun (c44 : gm) => some (.inl (nI (k + 1), c44))))) := by
      unfold m_X10_goes_L42
      repeat rw [gc_1 (show 0 ≤ (nI s).toInt ∧ (nI s).toInt < 80 from n_rg (by omega) (by omega))]
      rw [n_cl (by omega)]
      repeat rw [gc_1 (r_6 hs8 (by simp))]
      rw [n_cl1, n_lit2.2.2.2.1, rz, h2, h5, b2, n_s, n_s]
      rfl
    by_cases q1 : v ≤ k
    · right
      refine ⟨c3, d3, ?_, ?_, h3, f3⟩
      · show m_X8_doSteps_L63 rc N 15 3 rl (nI l) (nI s) (nI q) (nI k) c3 = _
        rw [X0, if_pos (by rw [n_le (by omega) (by omega)]; exact q1)]
      · show m_X10_goes_L42 rd N 55 (nI s) (nI k) d3 = _
        rw [Y0, if_pos (by rw [n_le (by omega) (by omega)]; exact q1)]
    by_cases q2 : 200 ≤ B
    · right
      refine ⟨c3, d3, ?_, ?_, h3, f3⟩
      · show m_X8_doSteps_L63 rc N 15 3 rl (nI l) (nI s) (nI q) (nI k) c3 = _
        rw [X0, if_neg (by rw [n_le (by omega) (by omega)]; exact q1), if_pos (by rw [show (200 : Int32) = nI 200 from rfl, n_le (by decide) (by omega)]; exact q2)]
      · show m_X10_goes_L42 rd N 55 (nI s) (nI k) d3 = _
        rw [Y0, if_neg (by rw [n_le (by omega) (by omega)]; exact q1), if_pos (by rw [show (200 : Int32) = nI 200 from rfl, n_le (by decide) (by omega)]; exact q2)]
    · left
      obtain ⟨c4, d4, e1, e2, h4, f4⟩ := H (s + 1) q c3 d3 hq h3 (hW c d c3 d3 _ _ hw (gDf_s hr f3 _ _ (by omega)))
      refine ⟨(nI (k + 1), c4), (nI (k + 1), d4), v - (k + 1), ?_, ?_, by omega, k + 1, c4, d4, by omega, rfl, rfl, h4, gDf_t f3 f4⟩
      · show m_X8_doSteps_L63 rc N 15 3 rl (nI l) (nI s) (nI q) (nI k) c3 = _
        rw [X0, if_neg (by rw [n_le (by omega) (by omega)]; exact q1), if_neg (by rw [show (200 : Int32) = nI 200 from rfl, n_le (by decide) (by omega)]; exact q2), gb_x e1]
      · show m_X10_goes_L42 rd N 55 (nI s) (nI k) d3 = _
        rw [Y0, if_neg (by rw [n_le (by omega) (by omega)]; exact q1), if_neg (by rw [show (200 : Int32) = nI 200 from rfl, n_le (by decide) (by omega)]; exact q2), gb_x e2]) (n := N) (r := v) (a := (0, c)) (x := (0, d)) ⟨0, c, d, by omega, rfl, rfl, h, gDf_r rl c d⟩ (by omega)
  exact ⟨b, y, e1, e2, hp.1, hp.2⟩
theorem go_two {th rl l N : Nat} {pl : Int32} {W : gm → gm → Nat → Nat → Prop} {rc : gC} {rd : gD} (hi : gIx 3 503 rl) (hW : gLc W) (H : (∀ c d s e, ¬ W c d s e) ∨ (l < 6 ∧ gGr th rl pl W (l + 1) N rc rd)) (hN : 160 < N) : gGr th rl pl (gWs th W) l N (m_X8_doSteps_b rc) (m_X10_goes_b rd) := by
  intro s e c d he h hw
  have hr := hi.2.2
  obtain ⟨kk, f, f0, fk, hf⟩ := hw
  have mono := ch_mono (fun i hi => gSs_lt (hf i hi))
  have hgap : ∀ i, i ≤ kk → i ≤ f i := by
    intro i
    induction i with
    | zero => intro _; omega
    | succ i ih => intro hi; have := gSs_lt (hf i (by omega)); have := ih (by omega); omega
  have hfe : ∀ i, i ≤ kk → f i ≤ e := fun i hi => by rw [← fk]; exact mono kk (Nat.le_refl kk) i hi
  have hkk : kk < 38 := by have := hgap kk (Nat.le_refl kk); omega
  obtain ⟨b, y, e1, e2, hp⟩ := gloop_two (f := gu2 (fun (y2 : Int32) => gu2 (fun (y3 : Int32) (c4 : gm) => m_X8_doSteps_L6 rc N 15 3 rl (nI e) (nI l) y2 y3 c4))) (g := gu2 (fun (y2 : Int32) (c3 : gm) => m_X10_goes_L2 rd N 55 (nI e) y2 c3)) (fun r (A : Int32 × Int32 × gm) (X : Int32 × gm) => ∃ i c3 d3, i ≤ kk ∧ r + i = kk ∧ A = (nI (f i), nI i, c3) ∧ X = (nI (f i), d3) ∧ gD0 th rl pl c3 d3 ∧ gDf rl c d c3 d3) (fun c2 d2 => gD0 th rl pl c2 d2 ∧ gDf rl c d c2 d2) (by
    rintro r A X ⟨i, c3, d3, hik, hri, rfl, rfl, h3, f3⟩
    obtain ⟨-, ⟨B, hB, b1, b2⟩, -, -⟩ := id h3
    have hfi := hfe i hik
    have u1 : ¬ 38 ≤ nI i := by rw [n_l38, n_le (by decide) (by omega)]; omega
    by_cases qe : e ≤ f i
    · right
      refine ⟨c3, d3, ?_, ?_, h3, f3⟩
      · show m_X8_doSteps_L6 rc N 15 3 rl (nI e) (nI l) (nI (f i)) (nI i) c3 = _
        unfold m_X8_doSteps_L6
        rw [if_neg u1, if_pos (by rw [n_le (by omega) (by omega)]; exact qe)]
      · show m_X10_goes_L2 rd N 55 (nI e) (nI (f i)) d3 = _
        unfold m_X10_goes_L2
        rw [if_pos (by rw [n_le (by omega) (by omega)]; exact qe)]
    have u2 : ¬ nI e ≤ nI (f i) := by rw [n_le (by omega) (by omega)]; exact qe
    by_cases qB : 200 ≤ B
    · right
      have u3 : 200 ≤ nI B := by rw [show (200 : Int32) = nI 200 from rfl, n_le (by decide) (by omega)]; exact qB
      refine ⟨c3, d3, ?_, ?_, h3, f3⟩
      · show m_X8_doSteps_L6 rc N 15 3 rl (nI e) (nI l) (nI (f i)) (nI i) c3 = _
        unfold m_X8_doSteps_L6
        rw [if_neg u1, if_neg u2, gc_1 (show gck 15 = 8 from rfl), b1, if_pos u3]
      · show m_X10_goes_L2 rd N 55 (nI e) (nI (f i)) d3 = _
        unfold m_X10_goes_L2
        rw [if_neg u2, gc_1 (show gck 55 = 10 from rfl), b2, if_pos u3]
    have u3 : ¬ 200 ≤ nI B := by rw [show (200 : Int32) = nI 200 from rfl, n_le (by decide) (by omega)]; exact qB
    have hik2 : i < kk := by
      rcases Nat.lt_or_ge i kk with q | q
      · exact q
      · exfalso; rw [show i = kk by omega, fk] at qe; omega
    obtain ⟨hb0, hbf⟩ := beg_two (c := c3) (d := d3) hi h3 (by omega) b1 b2
    have F4 := gDf_t f3 hbf
    obtain ⟨c4, ec4⟩ : ∃ z, z = gm_r c3 15 (upd (c3.1 15) 2 (nI (B + 1))) := ⟨_, rfl⟩
    obtain ⟨d4, ed4⟩ : ∃ z, z = gm_r d3 55 (upd (d3.1 55) 37 (nI (B + 1))) := ⟨_, rfl⟩
    rw [← ec4, ← ed4] at hb0 F4
    clear hbf
    have hS := gSs_f hW (hf i hik2) (gDf_s hr F4 (f i) (f (i + 1)) (by have := hfe (i + 1) (by omega); omega))
    have hsi : f i < 38 := by omega
    have hs8 : f i < 80 := by omega
    have rz : d4.1 (422 + 1 + f i) = d4.1 (423 + f i) := congrArg d4.1 (by omega)
    left
    rcases hS with ⟨S1, hn1⟩ | ⟨S5, hlt, hWW⟩
    · obtain ⟨k, hk, ck, dk, d5, -⟩ := id S1
      obtain ⟨q, c5, d5', c6, d6, hq, t1, t2, ec6, ed6, h6, f6⟩ := cnt_two hi hb0 hsi S1 hN
      have nk : ¬ nI k = 5 := by rw [n_l5, n_eq (by omega) (by decide)]; omega
      have r6 : d6.1 (422 + 1 + f i) 5 = nI (f i + 1) := by rw [show 422 + 1 + f i = 423 + f i by omega, f6.2.2.2.1 _ (by unfold DF; omega) (by omega)]; exact d5
      refine ⟨(nI (f (i + 1)), nI (i + 1), c6), (nI (f (i + 1)), d6), kk - (i + 1), ?_, ?_, by omega, i + 1, c6, d6, by omega, by omega, rfl, rfl, h6, gDf_t F4 f6⟩
      · show m_X8_doSteps_L6 rc N 15 3 rl (nI e) (nI l) (nI (f i)) (nI i) c3 = _
        unfold m_X8_doSteps_L6; simp only [gj_e]
        rw [if_neg u1, if_neg u2, gc_1 (show gck 15 = 8 from rfl), b1, if_neg u3, gv_e, n_s, ← ec4, show m_X8_part 15 (nI (f i)) 0 c4 = some (nI k) by rw [← ck]; exact part_c8 (k := 0) hsi (by omega), gb_e, if_neg nk, gb2_x t1, hn1]
        rcases hq with rfl | rfl
        · rw [if_pos (show (0 : Int32) = 0 from rfl), gv_e, if_pos (show (0 : Int32) = 0 from rfl), gv_e, gv_e, gu2_e, gv_e, n_s, n_s, gr_s, gr_r, up_n _ _ (show 4 ≠ 3 by omega), ec6]
          rfl
        · rw [if_neg (show ¬ (1 : Int32) = 0 by decide), gv_e, if_neg (show ¬ (1 : Int32) = 0 by decide), gv_e, gv_e, gu2_e, gv_e, n_s, n_s, gr_s, gr_r, up_n _ _ (show 4 ≠ 3 by omega), ec6]
          rfl
      · show m_X10_goes_L2 rd N 55 (nI e) (nI (f i)) d3 = _
        unfold m_X10_goes_L2; simp only [gj_e]
        rw [if_neg u2, gc_1 (show gck 55 = 10 from rfl), b2, if_neg u3, gv_e, n_s, ← ed4]
        repeat rw [gc_1 (show 0 ≤ (nI (f i)).toInt ∧ (nI (f i)).toInt < 80 from n_rg (by omega) (by omega))]
        rw [n_cl (by omega), gc_1 (gk_st (f i) hs8).1, gc_1 (r_6 hs8 (by simp)), n_cl0, rz, dk, if_neg nk, gb2_x t2, hn1]
        rcases hq with rfl | rfl
        · rw [if_pos (show (0 : Int32) = 0 from rfl), gv_e, if_pos (show (0 : Int32) = 0 from rfl), gv_e, gr_s, gr_r, up_n _ _ (show 34 ≠ 38 by omega), show gm_r d5' 55 (upd (upd (d5'.1 55) 38 (d5'.1 55 38 + 0)) 34 (d5'.1 55 34 + 1)) = d6 by rw [ed6]; rfl]
          repeat rw [gc_1 (show 0 ≤ (nI (f i)).toInt ∧ (nI (f i)).toInt < 80 from n_rg (by omega) (by omega))]
          repeat rw [gc_1 (r_6 hs8 (by simp))]
          rw [gv_e, n_lit2.2.2.2.1, r6]
        · rw [if_neg (show ¬ (1 : Int32) = 0 by decide), gv_e, if_neg (show ¬ (1 : Int32) = 0 by decide), gv_e, gr_s, gr_r, up_n _ _ (show 34 ≠ 38 by omega), show gm_r d5' 55 (upd (upd (d5'.1 55) 38 (d5'.1 55 38 + 1)) 34 (d5'.1 55 34 + 0)) = d6 by rw [ed6]; rfl]
          repeat rw [gc_1 (show 0 ≤ (nI (f i)).toInt ∧ (nI (f i)).toInt < 80 from n_rg (by omega) (by omega))]
          repeat rw [gc_1 (r_6 hs8 (by simp))]
          rw [gv_e, n_lit2.2.2.2.1, r6]
    · rcases H with H | ⟨hl6, H⟩
      · exact absurd hWW (H _ _ _ _)
      obtain ⟨ck, dk, c2q, d5, v, hv, cv, dv⟩ := S5
      have hq38 : f (i + 1) < 38 := by have := hfe (i + 1) (by omega); omega
      obtain ⟨c6, d6, t1, t2, h6, f6⟩ := rep_two hi hW H hl6 hb0 hsi hq38 hv cv dv d5 hWW hN
      have r6 : d6.1 (422 + 1 + f i) 5 = nI (f (i + 1)) := by rw [show 422 + 1 + f i = 423 + f i by omega, f6.2.2.2.1 _ (by unfold DF; omega) (by omega)]; exact d5
      refine ⟨(nI (f (i + 1)), nI (i + 1), c6), (nI (f (i + 1)), d6), kk - (i + 1), ?_, ?_, by omega, i + 1, c6, d6, by omega, by omega, rfl, rfl, h6, gDf_t F4 f6⟩
      · show m_X8_doSteps_L6 rc N 15 3 rl (nI e) (nI l) (nI (f i)) (nI i) c3 = _
        unfold m_X8_doSteps_L6; simp only [gj_e]
        rw [if_neg u1, if_neg u2, gc_1 (show gck 15 = 8 from rfl), b1, if_neg u3, gv_e, n_s, ← ec4, show m_X8_part 15 (nI (f i)) 0 c4 = some (nI 5) by rw [← ck]; exact part_c8 (k := 0) hsi (by omega), gb_e, if_pos (show nI 5 = 5 from rfl), show m_X8_part 15 (nI (f i)) 2 c4 = some (nI (f (i + 1))) by rw [← c2q]; exact part_c8 (k := 2) hsi (by omega), gb_e, gb_x t1, gu2_e, gv_e, n_s]
      · show m_X10_goes_L2 rd N 55 (nI e) (nI (f i)) d3 = _
        unfold m_X10_goes_L2; simp only [gj_e]
        rw [if_neg u2, gc_1 (show gck 55 = 10 from rfl), b2, if_neg u3, gv_e, n_s, ← ed4]
        repeat rw [gc_1 (show 0 ≤ (nI (f i)).toInt ∧ (nI (f i)).toInt < 80 from n_rg (by omega) (by omega))]
        rw [n_cl (by omega), gc_1 (gk_st (f i) hs8).1, gc_1 (r_6 hs8 (by simp)), n_cl0, rz, dk, if_pos (show nI 5 = 5 from rfl), gb_x t2]
        repeat rw [gc_1 (show 0 ≤ (nI (f i)).toInt ∧ (nI (f i)).toInt < 80 from n_rg (by omega) (by omega))]
        repeat rw [gc_1 (r_6 hs8 (by simp))]
        rw [gv_e, n_lit2.2.2.2.1, r6]) (n := N) (r := kk) (a := (nI s, 0, c)) (x := (nI s, d)) ⟨0, c, d, by omega, by omega, by rw [f0]; rfl, by rw [f0], h, gDf_r rl c d⟩ (by omega)
  refine ⟨b, y, ?_, ?_, hp.1, hp.2⟩
  · unfold m_X8_doSteps_b
    rw [gb_x e1]
  · unfold m_X10_goes_b
    rw [gb_x e2]
theorem goes_two {th rl N : Nat} {pl : Int32} (hi : gIx 3 503 rl) (hN : 160 < N) : ∀ dp l, l + dp = 6 → ∀ dd, dp + 1 ≤ dd → gGr th rl pl (gWn th (dp + 1)) l N (m_X8_doSteps dd) (m_X10_goes dd) := by
  intro dp
  induction dp with
  | zero =>
    intro l h2 dd hd
    obtain ⟨e, rfl⟩ : ∃ e, dd = e + 1 := ⟨dd - 1, by omega⟩
    exact go_two hi (gWn_l 0) (Or.inl (fun _ _ _ _ h => h)) hN
  | succ dp ih =>
    intro l h2 dd hd
    obtain ⟨e, rfl⟩ : ∃ e, dd = e + 1 := ⟨dd - 1, by omega⟩
    exact go_two hi (gWn_l (dp + 1)) (Or.inr ⟨by omega, ih (l + 1) (by omega) e (by omega)⟩) hN
