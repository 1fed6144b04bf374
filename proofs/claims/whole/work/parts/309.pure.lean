set_option maxRecDepth 16384
theorem gc_1 {β : Type} {q : Prop} {i : Decidable q} {k : Option β} (h : q) : gc q k = k := by unfold gc; rw [if_pos h]
theorem upd_c (f : Nat → Int32) {i j : Nat} (x y : Int32) (h : i ≠ j) : upd (upd f i x) j y = upd (upd f j y) i x := by
  funext k
  unfold upd
  by_cases h1 : k = i
  · by_cases h2 : k = j
    · omega
    · simp [h1, h]
  · by_cases h2 : k = j
    · have : ¬ j = i := by omega
      simp [h2, this]
    · simp [h1, h2]
theorem pAdd_c {r : Nat → Int32} {m i : Nat} {A N B K v : Int32} (h : i < 16 ∨ 57 ≤ i) (hm : m < 10) : pAdd (upd r i v) m A N B K = upd (pAdd r m A N B K) i v := by
  unfold pAdd
  rw [upd_c r _ _ (show i ≠ 16 + 4 * m by omega), upd_c _ _ _ (show i ≠ 16 + 4 * m + 1 by omega), upd_c _ _ _ (show i ≠ 16 + 4 * m + 2 by omega), upd_c _ _ _ (show i ≠ 16 + 4 * m + 3 by omega), upd_c _ _ _ (show i ≠ 56 by omega)]
theorem pSt_v (a b x y : Int32) : pSt a b x y = 0 ∨ pSt a b x y = 1 ∨ pSt a b x y = 2 := by
  unfold pSt
  by_cases q : a + x - 9 - b ≤ y
  · by_cases q2 : -(a + x - 9 - b) ≤ y
    · rw [if_pos q, if_pos q2]; exact Or.inl rfl
    · rw [if_pos q, if_neg q2]; exact Or.inr (Or.inr rfl)
  · rw [if_neg q]; exact Or.inr (Or.inl rfl)
/-- what a weighing counts -/
def pOft (r : Nat → Int32) (a b : Nat) : Nat → Int32 := upd (upd (upd r (8 + a) (r (8 + a) + 1)) (8 + b) (r (8 + b) + 1)) 58 (r 58 + 1)
theorem oft_c {t th m a b : Nat} {pl : Int32} {r : Nat → Int32} {c : gm} (h : gSt t c th m pl r) (hm : m ≤ 10) (ha : a < th) (hb : b < th) (hab : a ≠ b) : gSt t (gm_r (gm_r c (t + 3) (upd (upd (c.1 (t + 3)) a (c.1 (t + 3) a + 1)) b (c.1 (t + 3) b + 1))) t (upd (c.1 t) 10 (c.1 t 10 + 1))) th m pl (pOft r a b) := by
  have e1 : c.1 (t + 3) a = r (8 + a) := h.2.2.2.2.2.2.2.2.2.1 a ha
  have e2 : c.1 (t + 3) b = r (8 + b) := h.2.2.2.2.2.2.2.2.2.1 b hb
  have e3 : c.1 t 10 = r 58 := h.2.2.2.2.2.2.2.1
  have g1 := gSt_f (v := r (8 + a) + 1) h ha
  have g2 := gSt_f (v := r (8 + b) + 1) g1 hb
  rw [gr_s, gr_r] at g2
  have g3 := gSt_wgd (v := r 58 + 1) g2 hm
  rw [gr_n _ _ (show t ≠ t + 3 by omega)] at g3
  rw [e1, e2, e3]
  exact g3
theorem gR2_w {t a1 rl th m m2 : Nat} {pl : Int32} {c d c2 : gm} {r2 : Nat → Int32} (hi : gIx t a1 rl) (h : gR2 t a1 rl th m pl c d) (fc : fr (fun i => i = t ∨ i = t + 2 ∨ i = t + 3 ∨ i = t + 5) c c2) (h1 : gSt t c2 th m2 pl r2) (h2 : gRow th m2 r2) : gR2 t a1 rl th m2 pl c2 (gm_r d a1 r2) := by
  obtain ⟨-, -, r3, r4⟩ := h
  obtain ⟨i1, i2, i3⟩ := id hi
  refine ⟨by rw [gr_s]; exact h1, by rw [gr_s]; exact h2, by unfold gMd; rw [gr_n _ _ (by omega)]; exact r3, ?_⟩
  exact gLw_fr r4 (fr_e fc (by omega)) (fr_e fc (by omega)) (fr_e fc (by omega)) (by rw [gr_n _ _ (by omega)]) (fun j hj => by rw [gr_n _ _ (by omega)])
def pWc (c : gm) (t a b : Nat) : gm := gm_r (gm_r c (t + 3) (upd (upd (c.1 (t + 3)) a (c.1 (t + 3) a + 1)) b (c.1 (t + 3) b + 1))) t (upd (c.1 t) 10 (c.1 t 10 + 1))
theorem weigh_o {t th a b : Nat} {c0 : gm} (h8 : th ≤ 8) (ha : a < th) (hb : b < th) (hab : a ≠ b) : (gc (0 ≤ (nI a).toInt ∧ (nI a).toInt < 8) (gc (0 ≤ (nI a).toInt ∧ (nI a).toInt < 8) (gv (gm_r c0 (t + 3) (upd (c0.1 (t + 3)) (nI a).toNatClampNeg ((c0.1 (t + 3) (nI a).toNatClampNeg) + 1))) (fun (c22 : gm) => gc (0 ≤ (nI b).toInt ∧ (nI b).toInt < 8) (gc (0 ≤ (nI b).toInt ∧ (nI b).toInt < 8) (gv (gm_r c22 (t + 3) (upd (c22.1 (t + 3)) (nI b).toNatClampNeg ((c22.1 (t + 3) (nI b).toNatClampNeg) + 1))) (fun (c25 : gm) => gv (gm_r c25 t (upd (c25.1 t) 10 ((c25.1 t 10) + 1))) (fun (c26 : gm) => some ((1 : Int32), c26))))))))) = some (1, pWc c0 t a b) := by
  have ub : upd (c0.1 (t + 3)) a (c0.1 (t + 3) a + 1) b = c0.1 (t + 3) b := up_n _ _ (by omega)
  unfold pWc
  simp (disch := omega) only [↓reduceIte, gv, gb, gb2, ↓gc, gj, gu2, gsm, gok, gbx, gbw, n_in, n_cl, gr_s, gr_r, gr_n, ub]
theorem weigh_m {a1 th a b x y m : Nat} {d : gm} {s : Int32} (k2 : gck a1 = 22) (k3 : gal a1 = 60) (h8 : th ≤ 8) (ha : a < th) (hb : b < th) (hab : a ≠ b) (hm10 : m < 10) (h56 : d.1 a1 56 = nI m) (sv : s = 0 ∨ s = 1 ∨ s = 2) : ∀ z : Option (Int32 × gm), (gc (0 ≤ (8 + nI a).toInt ∧ (8 + nI a).toInt < ((60 : Nat) : Nat)) (gc (0 ≤ (8 + nI a).toInt ∧ (8 + nI a).toInt < ((60 : Nat) : Nat)) (gv (gm_r d a1 (upd (d.1 a1) (8 + nI a).toNatClampNeg ((d.1 a1 (8 + nI a).toNatClampNeg) + 1))) (fun (c14 : gm) => gc (0 ≤ (8 + nI b).toInt ∧ (8 + nI b).toInt < ((60 : Nat) : Nat)) (gc (0 ≤ (8 + nI b).toInt ∧ (8 + nI b).toInt < ((60 : Nat) : Nat)) (gv (gm_r c14 a1 (upd (c14.1 a1) (8 + nI b).toNatClampNeg ((c14.1 a1 (8 + nI b).toNatClampNeg) + 1))) (fun (c17 : gm) => gc (0 ≤ (58 : Int32).toInt ∧ (58 : Int32).toInt < ((60 : Nat) : Nat)) (gc (0 ≤ (58 : Int32).toInt ∧ (58 : Int32).toInt < ((60 : Nat) : Nat)) (gv (gm_r c17 a1 (upd (c17.1 a1) (58 : Int32).toNatClampNeg ((c17.1 a1 (58 : Int32).toNatClampNeg) + 1))) (fun (c20 : gm) => gj (fun (c21 : gm) => (if s = 2 then gb (m_X10_cries a1 (nI b) (nI y) (nI a) (nI x) c21) (fun (c26 : gm) => some ((1 : Int32), c26)) else some (1, c21))) (fun K22 => (if s = 1 then gb (m_X10_cries a1 (nI a) (nI x) (nI b) (nI y) c20) (fun (c30 : gm) => K22 c30) else K22 c20)))))))))))) = z → (if s = 1 then some (1, gm_r d a1 (pAdd (pOft (d.1 a1) a b) m (nI a) (nI x) (nI b) (nI y))) else if s = 2 then some (1, gm_r d a1 (pAdd (pOft (d.1 a1) a b) m (nI b) (nI y) (nI a) (nI x))) else some (1, gm_r d a1 (pOft (d.1 a1) a b))) = z := by
  intro z hz
  rw [← hz]
  have ub : upd (d.1 a1) (8 + a) (d.1 a1 (8 + a) + 1) (8 + b) = d.1 a1 (8 + b) := up_n _ _ (by omega)
  have u58 : upd (upd (d.1 a1) (8 + a) (d.1 a1 (8 + a) + 1)) (8 + b) (d.1 a1 (8 + b) + 1) 58 = d.1 a1 58 := by rw [up_n _ _ (by omega), up_n _ _ (by omega)]
  have u56 : pOft (d.1 a1) a b 56 = nI m := by
    unfold pOft
    rw [up_n _ _ (by decide), up_n _ _ (by omega), up_n _ _ (by omega)]; exact h56
  have ad1 := add_d (d := gm_r d a1 (pOft (d.1 a1) a b)) (a1 := a1) (m := m) (by rw [gr_s]; exact u56) k2 k3 hm10 (nI a) (nI x) (nI b) (nI y)
  have ad2 := add_d (d := gm_r d a1 (pOft (d.1 a1) a b)) (a1 := a1) (m := m) (by rw [gr_s]; exact u56) k2 k3 hm10 (nI b) (nI y) (nI a) (nI x)
  rw [gr_s, gr_r] at ad1 ad2
  unfold pOft at ad1 ad2 ⊢
  simp (disch := omega) only [↓reduceIte, ↓gv_e, ↓gj_e, ↓gu2_e, ↓gb_e, ↓gb2_e, ↓gsm_e1, ↓gsm_e2, ↓gbx_e1, ↓gbx_e2, ↓gok_e, ↓gc, n_l8, n_l58, n_ad, n_in, n_cl, gr_s, gr_r, ub, u58, ↓gb_x ad1, ↓gb_x ad2]
  rcases sv with e | e | e <;> simp only [e, show ¬ (0 : Int32) = 1 by decide, show ¬ (0 : Int32) = 2 by decide, show ¬ (1 : Int32) = 2 by decide, show ¬ (2 : Int32) = 1 by decide, if_true, if_false]
theorem weigh_two {t a1 rl th m : Nat} {pl : Int32} {c d : gm} (hi : gIx t a1 rl) (h : gR2 t a1 rl th m pl c d) {a b x y n : Nat} (ha : a < th) (hb : b < th) (x1 : 1 ≤ x) (x9 : x ≤ 9) (y1 : 1 ≤ y) (y9 : y ≤ 9) (hn : 160 < n) : ∃ q c2 d2 m2, (q = 0 ∨ q = 1) ∧ m_X6_weigh n t (nI a) (nI x) (nI b) (nI y) c = some (q, c2) ∧ m_X10_weighs n 55 a1 (nI a) (nI x) (nI b) (nI y) d = some (q, d2) ∧ fr (CF t rl) c c2 ∧ fr (DF a1) d d2 ∧ gR2 t a1 rl th m2 pl c2 d2 := by
  obtain ⟨k1, k2, k3⟩ := gIx_k hi
  obtain ⟨hS, hR, hM, hL⟩ := id h
  obtain ⟨h0, h8, h5, h6, h7, h9, h10, h11, hw, hf, hc⟩ := id hS
  have hm : m ≤ 10 := hR.1
  have h56 := hR.2.1
  have z10 : ¬ (1 : Int32) = 0 := by decide
  have z01 : ¬ (0 : Int32) = 1 := by decide
  have z02 : ¬ (0 : Int32) = 2 := by decide
  have z12 : ¬ (1 : Int32) = 2 := by decide
  have z21 : ¬ (2 : Int32) = 1 := by decide
  have kk5 : gck 55 = 10 := rfl
  have t1 : m_X6_isThing t (nI a) c = some 1 := by
    rw [cs_thing hS, if_pos]
    rw [n_l0, n_le (by omega) (by omega), n_lt (by omega) (by omega)]; omega
  have t2 : m_X6_isThing t (nI b) c = some 1 := by
    rw [cs_thing hS, if_pos]
    rw [n_l0, n_le (by omega) (by omega), n_lt (by omega) (by omega)]; omega
  have eM := md_standsIn hM k2 k3 ha hb (nI x) (nI y)
  by_cases hab : a = b
  · subst hab
    refine ⟨0, c, d, m, Or.inl rfl, ?_, ?_, fr_r _ _, fr_r _ _, h⟩
    · simp only [m_X6_weigh, ↓reduceIte, ↓gv_e, ↓gj_e, ↓gu2_e, ↓gb_e, ↓gb2_e, ↓gsm_e1, ↓gsm_e2, ↓gbx_e1, ↓gbx_e2, ↓gok_e, ↓gc, k1, ↓gb_x t1, z10]
    · simp only [m_X10_weighs, ↓reduceIte, ↓gv_e, ↓gj_e, ↓gu2_e, ↓gb_e, ↓gb2_e, ↓gsm_e1, ↓gsm_e2, ↓gbx_e1, ↓gbx_e2, ↓gok_e, ↓gc, kk5, ↓gb_x eM]
  · have hne : ¬ nI a = nI b := by rw [n_eq (by omega) (by omega)]; exact hab
    by_cases h10m : m = 10
    · refine ⟨0, c, d, m, Or.inl rfl, ?_, ?_, fr_r _ _, fr_r _ _, h⟩
      · simp (disch := omega) only [m_X6_weigh, ↓reduceIte, ↓gv_e, ↓gj_e, ↓gu2_e, ↓gb_e, ↓gb2_e, ↓gsm_e1, ↓gsm_e2, ↓gbx_e1, ↓gbx_e2, ↓gok_e, ↓gc, k1, ↓gb_x t1, ↓gb_x t2, hne, z10, h6, n_l10, n_lt, show ¬ m < 10 by omega]
      · simp (disch := omega) only [m_X10_weighs, ↓reduceIte, ↓gv_e, ↓gj_e, ↓gu2_e, ↓gb_e, ↓gb2_e, ↓gsm_e1, ↓gsm_e2, ↓gbx_e1, ↓gbx_e2, ↓gok_e, ↓gc, k2, k3, kk5, ↓gb_x eM, hne, n_l56, n_in, n_cl, h56, n_l10, n_eq, h10m]
    · have hm10 : m < 10 := by omega
      have eS := cs_standsOf hS ha hb (nI x) (nI y)
      obtain ⟨s, hs⟩ : ∃ s, s = pSt (d.1 a1 a * nI x) (d.1 a1 b * nI y) (d.1 a1 57) pl := ⟨_, rfl⟩
      have sv : s = 0 ∨ s = 1 ∨ s = 2 := by rw [hs]; exact pSt_v _ _ _ _
      rw [← hs] at eS eM
      clear hs
      have hq : c.1 t 6 < 10 := by rw [h6, n_l10, n_lt (by omega) (by decide)]; exact hm10
      have hq2 : ¬ d.1 a1 (56 : Int32).toNatClampNeg = 10 := by rw [show (56 : Int32).toNatClampNeg = 56 from rfl, h56, n_l10, n_eq (by omega) (by decide)]; exact h10m
      have eo := fun c0 : gm => weigh_o (t := t) (c0 := c0) h8 ha hb hab
      have fo : ∀ c0 : gm, fr (fun i => i = t ∨ i = t + 2 ∨ i = t + 3 ∨ i = t + 5) c c0 → fr (fun i => i = t ∨ i = t + 2 ∨ i = t + 3 ∨ i = t + 5) c (pWc c0 t a b) := fun c0 f0 => fr_ut (fr_ut f0 (by omega)) (by omega)
      have em := weigh_m (x := x) (y := y) (d := d) k2 k3 h8 ha hb hab hm10 h56 sv _ rfl
      rw [← k3] at em
      have r58 : gRow th m (pOft (d.1 a1) a b) := gRow_o (gRow_o (gRow_o hR h8 (by omega)) h8 (by omega)) h8 (by omega)
      have g56 : 0 ≤ (56 : Int32).toInt ∧ (56 : Int32).toInt < ((gal a1 : Nat) : Int) := by rw [k3]; decide
      rcases sv with e | e | e
      · -- level
        have fc := fo c (fr_r _ _)
        have gS : gSt t (pWc c t a b) th m pl (pOft (d.1 a1) a b) := oft_c hS hm ha hb hab
        refine ⟨1, pWc c t a b, gm_r d a1 (pOft (d.1 a1) a b), m, Or.inr rfl, ?_, ?_, fr_m fc (fun i q => by unfold CF; omega), fr_u _ (Or.inl rfl), gR2_w hi h fc gS r58⟩
        · rw [e] at eS
          unfold m_X6_weigh
          rw [gc_1 k1, gb_x t1, if_neg z10, gb_x t2, if_neg z10, if_neg hne, if_pos hq, gb_x eS, gj_e, if_neg z01]
          dsimp only
          rw [gj_e, if_neg z02]
          exact eo c
        · rw [e, if_neg z01, if_neg z02] at em
          rw [e] at eM
          unfold m_X10_weighs
          rw [gc_1 kk5, gb_x eM, if_neg hne, gc_1 k2, gc_1 g56, if_neg hq2, gj_e, gj_e, if_neg z01, if_neg z02]
          exact em.symm
      · -- left
        obtain ⟨bc, ebc, hbc⟩ := hit_c hS hm (nI a) (nI x) (nI b) (nI y) (n := n) (by omega)
        obtain ⟨bd, ebd, hbd⟩ := hit_d (d := d) (a1 := a1) rfl h56 k2 k3 hm (nI a) (nI x) (nI b) (nI y) (n := n) (by omega)
        rw [e] at eS eM
        rcases hbc with ⟨rfl, kk, hkk, hh⟩ | ⟨rfl, hno⟩
        · rcases hbd with ⟨rfl, -⟩ | ⟨-, hno⟩
          · refine ⟨0, c, d, m, Or.inl rfl, ?_, ?_, fr_r _ _, fr_r _ _, h⟩
            · unfold m_X6_weigh
              rw [gc_1 k1, gb_x t1, if_neg z10, gb_x t2, if_neg z10, if_neg hne, if_pos hq, gb_x eS, gj_e, if_pos rfl]
              unfold m_X6_addNewCry
              rw [gb_x ebc, gsm_e1, gb2_e, if_pos rfl]
            · unfold m_X10_weighs
              rw [gc_1 kk5, gb_x eM, if_neg hne, gc_1 k2, gc_1 g56, if_neg hq2, gj_e, if_pos rfl]
              unfold m_X10_isCry
              rw [gb_x ebd, gsm_e1, gb_e, if_neg z10]
          · exact absurd hh (hno kk hkk)
        · rcases hbd with ⟨-, kk, hkk, hh⟩ | ⟨rfl, -⟩
          · exact absurd hh (hno kk hkk)
          · obtain ⟨c1, e1, f1, g1⟩ := add_c hS hm10 (nI a) (nI x) (nI b) (nI y)
            have f1' : fr (fun i => i = t ∨ i = t + 2 ∨ i = t + 3 ∨ i = t + 5) c c1 := fr_m f1 (fun i q => by omega)
            have fc := fo c1 f1'
            have gS : gSt t (pWc c1 t a b) th (m + 1) pl _ := oft_c g1 (by omega) ha hb hab
            have er : pOft (pAdd (d.1 a1) m (nI a) (nI x) (nI b) (nI y)) a b = pAdd (pOft (d.1 a1) a b) m (nI a) (nI x) (nI b) (nI y) := by
              unfold pOft
              rw [pAdd_n (by omega) (by omega), pAdd_n (by omega) (by omega), pAdd_n (by omega) (by omega), pAdd_c (by omega) hm10, pAdd_c (by omega) hm10, pAdd_c (by omega) hm10]
            rw [er] at gS
            refine ⟨1, pWc c1 t a b, gm_r d a1 (pAdd (pOft (d.1 a1) a b) m (nI a) (nI x) (nI b) (nI y)), m + 1, Or.inr rfl, ?_, ?_, fr_m fc (fun i q => by unfold CF; omega), fr_u _ (Or.inl rfl), gR2_w hi h fc gS (gRow_add r58 h8 hm10 ha hb hab x1 x9 y1 y9)⟩
            · unfold m_X6_weigh
              rw [gc_1 k1, gb_x t1, if_neg z10, gb_x t2, if_neg z10, if_neg hne, if_pos hq, gb_x eS, gj_e, if_pos rfl]
              unfold m_X6_addNewCry
              rw [gb_x ebc, gsm_e2, gc_1 k1, gb_x e1, gb2_e, if_neg z10]
              dsimp only
              rw [gj_e, if_neg z12]
              exact eo c1
            · rw [e, if_pos rfl] at em
              unfold m_X10_weighs
              rw [gc_1 kk5, gb_x eM, if_neg hne, gc_1 k2, gc_1 g56, if_neg hq2, gj_e, if_pos rfl]
              unfold m_X10_isCry
              rw [gb_x ebd, gsm_e2, gb_e, if_pos rfl, gj_e, if_neg z12]
              exact em.symm
      · -- right
        obtain ⟨bc, ebc, hbc⟩ := hit_c hS hm (nI b) (nI y) (nI a) (nI x) (n := n) (by omega)
        obtain ⟨bd, ebd, hbd⟩ := hit_d (d := d) (a1 := a1) rfl h56 k2 k3 hm (nI b) (nI y) (nI a) (nI x) (n := n) (by omega)
        rw [e] at eS eM
        rcases hbc with ⟨rfl, kk, hkk, hh⟩ | ⟨rfl, hno⟩
        · rcases hbd with ⟨rfl, -⟩ | ⟨-, hno⟩
          · refine ⟨0, c, d, m, Or.inl rfl, ?_, ?_, fr_r _ _, fr_r _ _, h⟩
            · unfold m_X6_weigh
              rw [gc_1 k1, gb_x t1, if_neg z10, gb_x t2, if_neg z10, if_neg hne, if_pos hq, gb_x eS, gj_e, if_neg z21]
              dsimp only
              rw [gj_e, if_pos rfl]
              unfold m_X6_addNewCry
              rw [gb_x ebc, gsm_e1, gb2_e, if_pos rfl]
            · unfold m_X10_weighs
              rw [gc_1 kk5, gb_x eM, if_neg hne, gc_1 k2, gc_1 g56, if_neg hq2, gj_e, if_neg z21, gj_e, if_pos rfl]
              unfold m_X10_isCry
              rw [gb_x ebd, gsm_e1, gb_e, if_neg z10]
          · exact absurd hh (hno kk hkk)
        · rcases hbd with ⟨-, kk, hkk, hh⟩ | ⟨rfl, -⟩
          · exact absurd hh (hno kk hkk)
          · obtain ⟨c1, e1, f1, g1⟩ := add_c hS hm10 (nI b) (nI y) (nI a) (nI x)
            have f1' : fr (fun i => i = t ∨ i = t + 2 ∨ i = t + 3 ∨ i = t + 5) c c1 := fr_m f1 (fun i q => by omega)
            have fc := fo c1 f1'
            have gS : gSt t (pWc c1 t a b) th (m + 1) pl _ := oft_c g1 (by omega) ha hb hab
            have er : pOft (pAdd (d.1 a1) m (nI b) (nI y) (nI a) (nI x)) a b = pAdd (pOft (d.1 a1) a b) m (nI b) (nI y) (nI a) (nI x) := by
              unfold pOft
              rw [pAdd_n (by omega) (by omega), pAdd_n (by omega) (by omega), pAdd_n (by omega) (by omega), pAdd_c (by omega) hm10, pAdd_c (by omega) hm10, pAdd_c (by omega) hm10]
            rw [er] at gS
            refine ⟨1, pWc c1 t a b, gm_r d a1 (pAdd (pOft (d.1 a1) a b) m (nI b) (nI y) (nI a) (nI x)), m + 1, Or.inr rfl, ?_, ?_, fr_m fc (fun i q => by unfold CF; omega), fr_u _ (Or.inl rfl), gR2_w hi h fc gS (gRow_add r58 h8 hm10 hb ha (fun q => hab q.symm) y1 y9 x1 x9)⟩
            · unfold m_X6_weigh
              rw [gc_1 k1, gb_x t1, if_neg z10, gb_x t2, if_neg z10, if_neg hne, if_pos hq, gb_x eS, gj_e, if_neg z21]
              dsimp only
              rw [gj_e, if_pos rfl]
              unfold m_X6_addNewCry
              rw [gb_x ebc, gsm_e2, gc_1 k1, gb_x e1, gb2_e, if_neg z10]
              exact eo c1
            · rw [e, if_neg z21, if_pos rfl] at em
              unfold m_X10_weighs
              rw [gc_1 kk5, gb_x eM, if_neg hne, gc_1 k2, gc_1 g56, if_neg hq2, gj_e, if_neg z21, gj_e, if_pos rfl]
              unfold m_X10_isCry
              rw [gb_x ebd, gsm_e2, gb_e, if_pos rfl]
              exact em.symm
