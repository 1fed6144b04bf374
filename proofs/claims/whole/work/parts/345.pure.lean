set_option maxRecDepth 16384
/-! reading a work: steps within steps -/
def gWs (th : Nat) (W : gm → gm → Nat → Nat → Prop) (c d : gm) (s e : Nat) : Prop := ∃ (k : Nat) (f : Nat → Nat), f 0 = s ∧ f k = e ∧ ∀ i, i < k → gSs th W c d (f i) (f (i + 1))
def gWn (th : Nat) : Nat → gm → gm → Nat → Nat → Prop
  | 0 => fun _ _ _ _ => False
  | dp + 1 => gWs th (gWn th dp)
def gSeg (c d c2 d2 : gm) (s e : Nat) : Prop := (∀ j, 5 * s ≤ j → j < 5 * e → c2.1 16 j = c.1 16 j) ∧ ∀ j, s ≤ j → j < e → d2.1 (423 + j) = d.1 (423 + j)
def gLc (W : gm → gm → Nat → Nat → Prop) : Prop := ∀ c d c2 d2 s e, W c d s e → gSeg c d c2 d2 s e → W c2 d2 s e
theorem gSeg_s {c d c2 d2 : gm} {s e s' e' : Nat} (h : gSeg c d c2 d2 s e) (h1 : s ≤ s') (h2 : e' ≤ e) : gSeg c d c2 d2 s' e' := ⟨fun j j1 j2 => h.1 j (by omega) (by omega), fun j j1 j2 => h.2 j (by omega) (by omega)⟩
theorem gSs_lt {th : Nat} {W : gm → gm → Nat → Nat → Prop} {c d : gm} {z z2 : Nat} (h : gSs th W c d z z2) : z < z2 := by rcases h with ⟨-, h⟩ | ⟨-, h, -⟩ <;> omega
theorem gSs_f {th : Nat} {W : gm → gm → Nat → Nat → Prop} {c d c2 d2 : gm} {z z2 : Nat} (hW : gLc W) (h : gSs th W c d z z2) (g : gSeg c d c2 d2 z z2) : gSs th W c2 d2 z z2 := by
  have hlt := gSs_lt h
  have r := g.2 z (Nat.le_refl z) hlt
  have p : ∀ k, k < 5 → c2.1 16 (5 * z + k) = c.1 16 (5 * z + k) := fun k hk => g.1 _ (by omega) (by omega)
  have p0 : c2.1 16 (5 * z) = c.1 16 (5 * z) := p 0 (by omega)
  rcases h with ⟨h1, h2⟩ | ⟨h1, h2, h3⟩
  · left
    refine ⟨?_, h2⟩
    unfold gS1
    rw [r, p0, p 1 (by omega), p 2 (by omega), p 3 (by omega), p 4 (by omega)]
    exact h1
  · right
    refine ⟨?_, h2, hW c d c2 d2 _ _ h3 (gSeg_s g (by omega) (Nat.le_refl z2))⟩
    unfold gS5
    rw [r, p0, p 1 (by omega), p 2 (by omega)]
    exact h1
theorem ch_mono {f : Nat → Nat} {k : Nat} (h : ∀ i, i < k → f i < f (i + 1)) : ∀ j, j ≤ k → ∀ i, i ≤ j → f i ≤ f j := by
  intro j
  induction j with
  | zero => intro _ i hi; rw [show i = 0 by omega]; exact Nat.le_refl _
  | succ j ih =>
    intro hj i hi
    by_cases e : i = j + 1
    · rw [e]; exact Nat.le_refl _
    · have := ih (by omega) i (by omega)
      have := h j (by omega)
      omega
theorem gWs_l {th : Nat} {W : gm → gm → Nat → Nat → Prop} (hW : gLc W) : gLc (gWs th W) := by
  rintro c d c2 d2 s e ⟨k, f, f0, fk, h⟩ g
  have m := ch_mono (fun i hi => gSs_lt (h i hi))
  refine ⟨k, f, f0, fk, fun i hi => gSs_f hW (h i hi) (gSeg_s g ?_ ?_)⟩
  · rw [← f0]; exact m i (by omega) 0 (by omega)
  · rw [← fk]; exact m k (Nat.le_refl k) (i + 1) (by omega)
theorem gWn_l {th : Nat} : ∀ dp, gLc (gWn th dp) := by
  intro dp
  induction dp with
  | zero => intro c d c2 d2 s e h; exact h.elim
  | succ dp ih => exact gWs_l ih
theorem gWs_n (th : Nat) (W : gm → gm → Nat → Nat → Prop) (c d : gm) (s : Nat) : gWs th W c d s s := ⟨0, fun _ => s, rfl, rfl, fun i hi => by omega⟩
theorem gWs_c {th : Nat} {W : gm → gm → Nat → Nat → Prop} {c d : gm} {s e e2 : Nat} (h : gWs th W c d s e) (g : gSs th W c d e e2) : gWs th W c d s e2 := by
  obtain ⟨k, f, f0, fk, h⟩ := h
  refine ⟨k + 1, fun i => if i ≤ k then f i else e2, ?_, ?_, fun i hi => ?_⟩
  · show (if 0 ≤ k then f 0 else e2) = s
    rw [if_pos (by omega)]; exact f0
  · show (if k + 1 ≤ k then f (k + 1) else e2) = e2
    rw [if_neg (by omega)]
  · show gSs th W c d (if i ≤ k then f i else e2) (if i + 1 ≤ k then f (i + 1) else e2)
    rw [if_pos (by omega)]
    by_cases q : i < k
    · rw [if_pos (by omega)]; exact h i q
    · rw [if_neg (by omega), show i = k by omega, fk]; exact g
theorem gWs_le {th : Nat} {W : gm → gm → Nat → Nat → Prop} {c d : gm} {s e : Nat} (h : gWs th W c d s e) : s ≤ e := by
  obtain ⟨k, f, f0, fk, h⟩ := h
  have m := ch_mono (fun i hi => gSs_lt (h i hi)) k (Nat.le_refl k) 0 (by omega)
  omega
def gNe (n : Nat) (b : Nat → Nat) (W : gm → gm → Nat → Nat → Prop) (l z a : Nat) (c d : gm) (x : Option (Int32 × gm)) (y : Option gm) : Prop := (∃ c2 d2 a2 z2, x = some (1, c2) ∧ y = some d2 ∧ gIn n b c2 d2 a2 ∧ z ≤ z2 ∧ 4 * z2 + a ≤ 4 * z + a2 ∧ c2.1 15 1 = nI z2 ∧ d2.1 55 26 = nI z2 ∧ W c2 d2 z z2 ∧ d2.1 55 8 = nI l ∧ fwC z c c2 ∧ fwD z d d2 ∧ c2.1 1 7 = c.1 1 7) ∨ ∃ c2 d2, x = some (0, c2) ∧ y = some d2 ∧ fwC z c c2 ∧ fwD z d d2 ∧ gFl n c2 d2
def gWi (n : Nat) (b : Nat → Nat) (th l z a : Nat) (c d : gm) : Prop := gIn n b c d a ∧ c.1 15 1 = nI z ∧ d.1 55 26 = nI z ∧ 4 * z ≤ a ∧ n ≤ 150 ∧ d.1 55 8 = nI l ∧ d.1 59 0 = nI th ∧ th ≤ 8
def nsC (rc : rC) (N : Nat) (th l : Int32) (c : gm) : Option (Int32 × gm) := gb2 (rc N 15 1 th l c) (fun (r23 : Int32) (c24 : gm) => if r23 = 0 then some (0, c24) else m_X7_takeSign N 1 93 c24)
def nsD (rd : rD) (N : Nat) (d : gm) : Option gm := gb (m_X10_blanks N 55 d) (fun (c47 : gm) => gb (gloop (fun (c49 : gm) => m_X10_readsStep_L182 rd N 55 c49) N c47) (fun (c50 : gm) => m_X10_sign N 55 93 c50))
def gRn (n : Nat) (b : Nat → Nat) (th : Nat) (W : gm → gm → Nat → Nat → Prop) (l N : Nat) (rc : rC) (rd : rD) : Prop := ∀ z a c d, gWi n b th l z a c d → gNe n b W l z a c d (nsC rc N (nI th) (nI l) c) (nsD rd N d)
theorem comb_c {o : Option (Int32 × gm)} {A B : gm → Option (Int32 × gm)} {T : gm → Option (Int32 × gm)} : gb2 o (fun (r : Int32) (c : gm) => if r = 0 then A c else gb2 (T c) (fun (r2 : Int32) (c2 : gm) => if r2 = 0 then A c2 else B c2)) = gb2 (gb2 o (fun (r : Int32) (c : gm) => if r = 0 then some (0, c) else T c)) (fun (r2 : Int32) (c2 : gm) => if r2 = 0 then A c2 else B c2) := by
  rcases o with _ | ⟨r, c⟩
  · rfl
  · rw [gb2_e, gb2_e]
    by_cases q : r = 0
    · rw [if_pos q, if_pos q, gb2_e, if_pos rfl]
    · rw [if_neg q, if_neg q]
theorem gb_as {α β γ : Type} {o : Option α} {f : α → Option β} {g : β → Option γ} : gb o (fun x => gb (f x) g) = gb (gb o f) g := by cases o <;> rfl
def agK (z v6 : Int32) (c7 : gm) : Option (Int32 × gm) := gb (m_X8_put 15 z 2 (c7.1 15 1) c7) (fun (c11 : gm) => gc (v6 = 0 ∨ v6 = 1) (some (v6, c11)))
theorem again_e (rc : rC) (N : Nat) (th l z : Int32) (c : gm) : m_X8_readAgain rc N 15 1 th l z c = gc (gck 15 = 8) (gb2 (m_X8_readPart N 15 1 0 60 z 1 c) (fun (r4 : Int32) (c5 : gm) => if r4 = 0 then agK z 0 c5 else gc (gck 1 = 7) (gb2 (m_X7_takeSign N 1 91 c5) (fun (r19 : Int32) (c20 : gm) => if r19 = 0 then agK z 0 c20 else gb2 (rc N 15 1 th (l + 1) c20) (fun (r23 : Int32) (c24 : gm) => if r23 = 0 then agK z 0 c24 else gb2 (m_X7_takeSign N 1 93 c24) (fun (r27 : Int32) (c28 : gm) => if r27 = 0 then agK z 0 c28 else agK z 1 c28)))))) := rfl
theorem agK_e {z : Nat} {v : Int32} {c : gm} (hz : z < 38) (hv : v = 0 ∨ v = 1) : agK (nI z) v c = some (v, gm_r c 16 (upd (c.1 16) (5 * z + 2) (c.1 15 1))) := by
  unfold agK
  rw [show m_X8_put 15 (nI z) 2 (c.1 15 1) c = some (gm_r c 16 (upd (c.1 16) (5 * z + 2) (c.1 15 1))) from put_c8 (k := 2) hz (by omega), gb_e, gc_1 hv]
theorem fwC_a {z : Nat} {c : gm} (x : Int32) : fwC z c (gm_r c 16 (upd (c.1 16) (5 * z + 2) x)) := ⟨fun i _ _ i3 => gr_n _ _ i3, rfl, fun k _ => by rw [gr_n _ _ (by omega)], fun j hj => by rw [gr_s, up_n _ _ (by omega)]⟩
theorem gFl_a {n z : Nat} {c d : gm} (x : Int32) (h : gFl n c d) : gFl n (gm_r c 16 (upd (c.1 16) (5 * z + 2) x)) d := by
  obtain ⟨k, q, a9, k1, k3, hq, ha9, c6, c7, r⟩ := h
  exact ⟨k, q, a9, k1, k3, hq, ha9, by rw [gr_n _ _ (by omega)]; exact c6, by rw [gr_n _ _ (by omega)]; exact c7, r⟩
theorem again_two {n th l z s e N : Nat} {b : Nat → Nat} {W : gm → gm → Nat → Nat → Prop} {rc : rC} {rd : rD} {c d : gm} (hW : gLc W) (H : l < 6 → gRn n b th W (l + 1) N rc rd) (hl : l ≤ 6) (hb : gNb n b d s) (hc : gTc n b c) (h3 : c.1 1 3 = nI e) (h4 : c.1 1 4 = nI s) (ee : e = pScan (pLt b) n s) (hse : s + 3 ≤ e) (h1 : c.1 15 1 = nI z) (h26 : d.1 55 26 = nI z) (hzs : 4 * z ≤ s) (h150 : n ≤ 150) (h8 : d.1 55 8 = nI l) (h59 : d.1 59 0 = nI th) (hth : th ≤ 8) (hN : 700 < N) : gWo n b th W l z s c d (stX N (stBr rc N (nI th) (nI l) (nI z) c 5)) (rsO rd N (nI 5) d) := by
  obtain ⟨hd, d4, hsn, d5, hx⟩ := id hb
  have he : e ≤ n := by rw [ee]; exact (pScan_le (p := pLt b) hsn).2
  have hz : z < 38 := by omega
  have hz8 : z < 80 := by omega
  unfold rsO
  rw [if_pos (show nI 5 = 5 from rfl), stBr_5]
  by_cases hl6 : l = 6
  · subst hl6
    have g := gNo_w (n := n) (k := 3) (q := s) (c := c) (d := d) (by omega) (by omega) (by omega) hsn d4
    rw [if_neg (by decide), gb2_x (opens_6 d5 h8 d4), if_pos rfl]
    exact bad_two (a7 := 0) (d1 := dFl d 3 s) (fail3 c 3 s h4) rfl hz (fwC_r z c) (fwD_r z d) g ⟨fun _ _ _ => rfl, rfl, fun _ _ _ => rfl, gFl_t g.2.2⟩
  have hl5 : l < 6 := by omega
  rw [if_pos (show nI l < 6 by rw [n_l6, n_lt (by omega) (by decide)]; exact hl5), gb2_x (opens_d d5 h8 d4 hl5), if_neg (by decide)]
  have f1 := d8_f d (l + 1)
  have hb1 : gNb n b (d8 d (l + 1)) s := ⟨⟨hd.1, by rw [f1.2.2.1 2 (by omega)]; exact hd.2.1, fun j hj => by rw [f1.1 56 (by omega)]; exact hd.2.2 j hj⟩, by rw [f1.2.2.1 4 (by omega)]; exact d4, hsn, by rw [f1.2.2.1 5 (by omega)]; exact d5, hx⟩
  have G1 : fwD z d (d8 d (l + 1)) := ⟨fun i i1 _ => f1.1 i i1, f1.2.1, fun k hk => f1.2.2.1 k (by omega)⟩
  obtain ⟨c6, d6, e1, e2, I6, c615, d626, c616, d6r, f6, g6, k1, k8⟩ := start_two (k := 5) (rs := rd) hb1 hc h3 ee h1 (by rw [f1.2.2.1 26 (by omega)]; exact h26) hz hN
  have L6 : d6.1 55 8 = nI (l + 1) := by rw [k8]; exact f1.2.2.2
  have K6 : c6.1 1 7 = c.1 1 7 := by rw [k1]
  have h596 : d6.1 59 0 = nI th := by rw [g6.1 59 (by omega) (by omega), f1.1 59 (by omega)]; exact h59
  have G6 := fwD_t G1 g6 (Nat.le_refl z)
  have d6r' : d6.1 (423 + z) 0 = nI 5 := by rw [d6r, up_s]
  rw [e2, show m_X8_add 15 5 c = some (1, c6) from e1, gb2_e, if_neg (by decide), again_e, gc_1 (show gck 15 = 8 from rfl), n_s]
  have eA : rsA rd N z (nI 5) d6 = gb2 (m_X10_number N 55 0 60 d6) (fun (r38 : Int32) (c39 : gm) => gb (m_X10_sign N 55 91 (gm_r c39 (422 + 1 + z) (upd (c39.1 (422 + 1 + z)) 1 r38))) (fun (c44 : gm) => gb (nsD rd N c44) (fun (c53 : gm) => rsE N z (gm_r c53 55 (upd (c53.1 55) 8 ((c53.1 55 8) - 1)))))) := by
    unfold rsA rsB rsC rsD
    rw [if_neg (show ¬ nI 5 = 0 by decide), if_neg (show ¬ nI 5 = 2 by decide), if_neg (show ¬ nI 5 = 0 by decide), if_neg (show ¬ nI 5 = 1 by decide), if_pos (show nI 5 = 5 from rfl)]
    refine congrArg (gb2 (m_X10_number N 55 0 60 d6)) (funext fun r => funext fun cc => ?_)
    rw [gc_1 (r_6 hz8 (by simp)), gv_e, n_cl1]
    refine congrArg (gb _) (funext fun c44 => ?_)
    unfold nsD
    rw [← gb_as]
    refine congrArg (gb _) (funext fun c47 => ?_)
    rw [← gb_as]
    rfl
  rw [eA]
  clear e2 eA
  have sx : ∀ (o : Option (Int32 × gm)), gb2 o (fun (r34 : Int32) (c35 : gm) => (if r34 = 0 then some (0, c35) else some (1, c35))) = gb2 o (fun (r34 : Int32) (c35 : gm) => (if r34 = 0 then some ((0 : Int32), c35) else some (1, c35))) := fun _ => rfl
  have tail : ∀ d9, gFt n b d9 → ∃ d4, rsE N z (gm_r d9 55 (upd (d9.1 55) 8 ((d9.1 55 8) - 1))) = some d4 ∧ gTl n z d9 d4 := by
    intro d9 h9
    have g3 : gTl n z d9 (gm_r d9 55 (upd (d9.1 55) 8 (d9.1 55 8 - 1))) := ⟨fun i h1 _ => gr_n _ _ h1, rfl, fun k _ k8 => by rw [gr_s, up_n _ _ k8], by rw [gr_s, up_n _ _ (by omega)]; exact h9.2.2⟩
    obtain ⟨d4, e4, g4⟩ := rsE_f (N := N) (gFt_l h9 g3) hz8
    exact ⟨d4, e4, gTl_t g3 g4⟩
  have nsf : ∀ d9, gFt n b d9 → ∃ d4, nsD rd N d9 = some d4 ∧ gTl n z d9 d4 := by
    intro d9 h9
    obtain ⟨a2, ha2, e4⟩ := h9.2.2
    have f2 := dAt_f d9 (pScan (pBl b) n a2)
    have g2 : gTl n z d9 (dAt d9 (pScan (pBl b) n a2)) := gTl_m f2 ⟨_, (pScan_le (p := pBl b) ha2).2, dAt_4 _ _⟩
    have h2 := gFt_l h9 g2
    refine ⟨_, ?_, g2⟩
    unfold nsD
    rw [gb_x (blanks_d h9.1 e4 ha2 hN)]
    have el : m_X10_readsStep_L182 rd N 55 (dAt d9 (pScan (pBl b) n a2)) = some (.inr (dAt d9 (pScan (pBl b) n a2))) := by unfold m_X10_readsStep_L182; rw [if_neg h2.2.1]
    rw [gb_x (gloop_1 (f := fun (c49 : gm) => m_X10_readsStep_L182 rd N 55 c49) el (by omega)), sign_f h2.2.1]
  rcases part_two (lo := 0) (H := 61) (hi := 60) (k := 1) (z := z) I6 hN (by omega) (by omega) (by decide) hz (by omega) with ⟨c7, d1, d7, a7, v, ha7, v0, vH, n1, n2, ed7, I7, c716, d7r, f7, g7⟩ | ⟨c7, d1, n1, n2, hO⟩
  rotate_left
  · have hF := gFt_o I6.2.1 hO
    have g1 := gTl_w (z := z) (upd (d1.1 (422 + 1 + z)) 1 0) hF
    have h1' := gFt_l hF g1
    obtain ⟨d3, e3, g3⟩ := nsf _ h1'
    obtain ⟨d4', e4, g4⟩ := tail d3 (gFt_l h1' g3)
    rw [show m_X8_readPart N 15 1 0 60 (nI z) 1 c6 = some (0, c7) from n1, gb2_e, if_pos rfl, agK_e hz (Or.inl rfl), gb2_e, if_pos rfl, stX_0, show m_X10_number N 55 0 60 d6 = some (0, d1) from n2, gb2_e, gb_x (sign_f h1'.2.1), gb_x e3]
    exact wo_no hz8 rfl e4 (fwC_t f6 (fwC_t (fwC_f hO.1) (fwC_a _) (Nat.le_refl z)) (Nat.le_refl z)) (fwD_t G6 (fwD_f hO.2.1) (Nat.le_refl z)) (gFl_a _ hO.2.2) (gTl_t g1 (gTl_t g3 g4))
  rw [show m_X8_readPart N 15 1 0 60 (nI z) 1 c6 = some (1, c7) from n1, gb2_e, if_neg (by decide), gc_1 (show gck 1 = 7 from rfl), show m_X10_number N 55 0 60 d6 = some (nI v, d1) from n2, gb2_e, ← ed7]
  have F7 := fwC_t f6 (fwC_p f7 c716) (Nat.le_refl z)
  have G7 := fwD_t G6 (fwD_p g7 hz8) (Nat.le_refl z)
  clear n1 n2
  rcases sign_two (x := 91) I7 hN (by decide) with ⟨c8, d9, a8, ha8, t1, t2, hO⟩ | ⟨c8, d9, t1, t2, hO⟩
  rotate_left
  · have hF := gFt_o I7.2.1 hO
    obtain ⟨d3, e3, g3⟩ := nsf _ hF
    obtain ⟨d4', e4, g4⟩ := tail d3 (gFt_l hF g3)
    rw [show m_X7_takeSign N 1 91 c7 = some (0, c8) from t1, gb2_e, if_pos rfl, agK_e hz (Or.inl rfl), gb2_e, if_pos rfl, stX_0, show m_X10_sign N 55 91 d7 = some d9 from t2, gb_e, gb_x e3]
    exact wo_no hz8 rfl e4 (fwC_t F7 (fwC_t (fwC_f hO.1) (fwC_a _) (Nat.le_refl z)) (Nat.le_refl z)) (fwD_t G7 (fwD_f hO.2.1) (Nat.le_refl z)) (gFl_a _ hO.2.2) (gTl_t g3 g4)
  rw [show m_X7_takeSign N 1 91 c7 = some (1, c8) from t1, gb2_e, if_neg (by decide), comb_c, show m_X10_sign N 55 91 d7 = some d9 from t2, gb_e]
  have F8 := fwC_t F7 (fwC_f (frc_F hO.1)) (Nat.le_refl z)
  have G8 := fwD_t G7 (fwD_f (frm_F hO.2.1)) (Nat.le_refl z)
  have K8 : c8.1 1 7 = c.1 1 7 := by rw [hO.1.2.2 7 (by omega) (by omega) (by omega), f7.2.2 7 (by omega) (by omega) (by omega)]; exact K6
  have I8 := gIn_o I7 hO
  rcases H hl5 (z + 1) a8 c8 d9 ⟨I8, by rw [hO.1.1 15 (by omega), f7.1 15 (by omega) (by omega)]; exact c615, by rw [hO.2.1.2.2 26 (by omega), g7.2.2 26 (by omega)]; exact d626, by omega, h150, by rw [hO.2.1.2.2 8 (by omega), g7.2.2 8 (by omega)]; exact L6, by rw [hO.2.1.1 59 (by omega), g7.1 59 (by omega) (by omega)]; exact h596, hth⟩ with ⟨c10, d10, a10, z2, e3, e4, I10, hzz, hza, c1015, d1026, hWW, L10, F10, G10, K10⟩ | ⟨c10, d10, e3, e4, F10, G10, g10⟩
  rotate_left
  · have hd9 := I8.2.1
    have hF : gFt n b d10 := ⟨⟨hd9.1, by rw [G10.2.2 2 (by omega)]; exact hd9.2.1, fun j hj => by rw [G10.1 56 (by omega) (by omega)]; exact hd9.2.2 j hj⟩, gFl_5 g10, gFl_t g10⟩
    obtain ⟨d4', e5, g4⟩ := tail d10 hF
    rw [show gb2 (rc N 15 1 (nI th) (nI (l + 1)) c8) (fun (r23 : Int32) (c24 : gm) => if r23 = 0 then some (0, c24) else m_X7_takeSign N 1 93 c24) = some (0, c10) from e3, gb2_e, if_pos rfl, agK_e hz (Or.inl rfl), gb2_e, if_pos rfl, stX_0, gb_x e4]
    exact wo_no hz8 rfl e5 (fwC_t F8 (fwC_t ⟨F10.1, F10.2.1, F10.2.2.1, fun j hj => F10.2.2.2 j (by omega)⟩ (fwC_a (z := z) _) (Nat.le_refl z)) (Nat.le_refl z)) (fwD_t G8 G10 (by omega)) (gFl_a _ g10) g4
  rw [show gb2 (rc N 15 1 (nI th) (nI (l + 1)) c8) (fun (r23 : Int32) (c24 : gm) => if r23 = 0 then some (0, c24) else m_X7_takeSign N 1 93 c24) = some (1, c10) from e3, gb2_e, if_neg (by decide), agK_e hz (Or.inr rfl), gb2_e, if_neg (by decide), gb_x e4, c1015, L10, n_p1]
  obtain ⟨c11, ec11⟩ : ∃ q, q = gm_r c10 16 (upd (c10.1 16) (5 * z + 2) (nI z2)) := ⟨_, rfl⟩
  rw [← ec11, show gm_r d10 55 (upd (d10.1 55) 8 (nI l)) = d8 d10 l from rfl]
  have f11 := d8_f d10 l
  have F11 : fwC z c c11 := by rw [ec11]; exact fwC_t F8 (fwC_t ⟨F10.1, F10.2.1, F10.2.2.1, fun j hj => F10.2.2.2 j (by omega)⟩ (fwC_a (z := z) _) (Nat.le_refl z)) (Nat.le_refl z)
  have c11o : ∀ i, i ≠ 16 → c11.1 i = c10.1 i := fun i hi => by rw [ec11, gr_n _ _ hi]
  have rz : d10.1 (423 + z) = d7.1 (423 + z) := by rw [G10.1 _ (by omega) (by omega), hO.2.1.1 _ (by omega)]
  have cz : ∀ j, j < 5 * (z + 1) → c10.1 16 j = c7.1 16 j := fun j hj => by rw [F10.2.2.2 j hj, hO.1.1 16 (by omega)]
  refine fin_two (c7 := c11) (d7 := d8 d10 l) (z2 := z2) rfl rfl (d8_n (gIn_c I10 (c11o 1 (by omega)) (c11o 2 (by omega)))) hz (by omega) (by omega) (by rw [c11o 15 (by omega)]; exact c1015) (by rw [f11.2.2.1 26 (by omega)]; exact d1026) f11.2.2.2 F11 (fwD_t G8 (fwD_t ⟨fun i i1 i2 => G10.1 i i1 (by omega), G10.2.1, G10.2.2⟩ ⟨fun i i1 _ => f11.1 i i1, f11.2.1, fun k hk => f11.2.2.1 k (by omega)⟩ (Nat.le_refl z)) (Nat.le_refl z)) (by rw [c11o 1 (by omega), K10]; exact K8) hN (fun c2 d2 q1 q2 q3 => Or.inr ⟨⟨?_, ?_, ?_, ?_, v, by omega, ?_, ?_⟩, by omega, ?_⟩)
  · rw [q1 16 (by omega), ec11, gr_s, up_n _ _ (by omega), cz _ (by omega), c716, up_n _ _ (by omega), c616, up_s]
  · rw [q3, up_n _ _ (by omega), f11.1 _ (by omega), rz, d7r, up_n _ _ (by omega), d6r']
  · rw [q1 16 (by omega), ec11, gr_s, up_s]
  · rw [q3, up_s]
  · rw [q1 16 (by omega), ec11, gr_s, up_n _ _ (by omega), cz _ (by omega), c716, up_s]
  · rw [q3, up_n _ _ (by omega), f11.1 _ (by omega), rz, d7r, up_s]
  · refine hW c10 d10 c2 d2 _ _ hWW ⟨fun j j1 j2 => ?_, fun j j1 j2 => ?_⟩
    · rw [q1 16 (by omega), ec11, gr_s, up_n _ _ (by omega)]
    · rw [q2 _ (by omega) (by omega), f11.1 _ (by omega)]
