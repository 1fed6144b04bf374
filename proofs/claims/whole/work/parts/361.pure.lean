set_option maxRecDepth 16384
/-! fat and mend -/
theorem fat_two {th m p n : Nat} {c d : gm} (h : gRl th m p c d) (hn : 1100 < n) : gAn0 (m_X9_fat n 0 c) (m_X10_fat n 55 d) := by
  have hZ := gRl_dZ h
  obtain ⟨hP, hp, ⟨hS, hRw, hM, hL⟩, hTo, hTp, hCn, hBk, hPs, hIm⟩ := id hZ
  obtain ⟨m0, m3, -⟩ := id hM
  obtain ⟨c4, d4, F, hF, t1, t2, ⟨x1, x4, x5, xB, x2, xf⟩, f4⟩ := all_two (N := n) hS hRw m0 hn
  refine ⟨d4.1 55 42, c4, d4, ?_, ?_, th, m, p, gRl_rg hZ f4⟩
  · unfold m_X9_fat
    rw [gc_1 (show gck 0 = 9 from rfl), gb_x t1, x2]
  · unfold m_X10_fat
    rw [gc_1 (show gck 55 = 10 from rfl), gv_e, show gm_r d 55 (upd (d.1 55) 0 0) = dZ d from rfl, gb_x t2]
/-- all fat rings broken by the set z -/
def gBra (F : Nat) (c : gm) (z : Nat) : Prop := ∀ j, j < F → ¬ (c.1 22 j &&& nI z = 0)
theorem bra_c {F N : Nat} {c : gm} (h1 : c.1 21 1 = nI F) (hF : F ≤ 1023) (hN : 1100 < N) (z : Nat) : (gBra F c z ∧ m_X1_breaksAll N 21 (nI z) c = some 1) ∨ (¬ gBra F c z ∧ m_X1_breaksAll N 21 (nI z) c = some 0) := by
  obtain ⟨b, e1, hb⟩ := gloop_inv (f := fun (y2 : Int32) => m_X1_breaksAll_L2 21 (nI z) c y2) (fun q (A : Int32) => ∃ i, q + i = F ∧ A = nI i ∧ ∀ j, j < i → ¬ (c.1 22 j &&& nI z = 0)) (fun (b : Int32 ⊕ Unit) => (gBra F c z ∧ b = .inr ()) ∨ (¬ gBra F c z ∧ b = .inl 0)) (by
    rintro q A ⟨i, hi, rfl, hj⟩
    by_cases qi : i < F
    · have nF : ¬ nI F ≤ nI i := by rw [n_le (by omega) (by omega)]; omega
      have nK : ¬ nI 1024 ≤ nI i := by rw [n_le (by omega) (by omega)]; omega
      by_cases qz : c.1 22 i &&& nI z = 0
      · right
        refine ⟨.inl 0, ?_, Or.inr ⟨fun g => g i qi qz, rfl⟩⟩
        show m_X1_breaksAll_L2 21 (nI z) c (nI i) = _
        unfold m_X1_breaksAll_L2
        rw [gc_1 (show gck 21 = 1 from rfl), h1, if_neg nF, if_neg nK, gc_1 (n_rg (by omega) (by omega)), n_cl (by omega), if_pos qz]
      · left
        refine ⟨nI (i + 1), F - (i + 1), ?_, by omega, i + 1, by omega, rfl, fun j hj2 => ?_⟩
        · show m_X1_breaksAll_L2 21 (nI z) c (nI i) = _
          unfold m_X1_breaksAll_L2
          rw [gc_1 (show gck 21 = 1 from rfl), h1, if_neg nF, if_neg nK, gc_1 (n_rg (by omega) (by omega)), n_cl (by omega), if_neg qz, gv_e, n_s]
        · by_cases q : j = i
          · rw [q]; exact qz
          · exact hj j (by omega)
    · right
      refine ⟨.inr (), ?_, Or.inl ⟨fun j hj2 => hj j (by omega), rfl⟩⟩
      show m_X1_breaksAll_L2 21 (nI z) c (nI i) = _
      unfold m_X1_breaksAll_L2
      rw [gc_1 (show gck 21 = 1 from rfl), h1, if_pos (by rw [n_le (by omega) (by omega)]; omega)]) (n := N) (r := F) (a := 0) ⟨0, by omega, rfl, fun j hj => by omega⟩ (by omega)
  unfold m_X1_breaksAll
  rw [gb_x e1]
  rcases hb with ⟨g, rfl⟩ | ⟨g, rfl⟩
  · exact Or.inl ⟨g, rfl⟩
  · exact Or.inr ⟨g, rfl⟩
theorem sh_m : ∀ m, m < 11 → (1 : Int32) <<< (nI m &&& 31) = nI (2 ^ m) ∧ ((1 : Int32) <<< (nI m &&& 31)) - 1 = nI (2 ^ m - 1) ∧ 1 ≤ 2 ^ m := by decide
theorem bra_d {F m N : Nat} {c d : gm} (hm : m ≤ 10) (h5 : d.1 503 56 = nI m) (hf : gFs F m c d) (hN : 1100 < N) (z : Nat) : (gBra F c z ∧ m_X10_isMended N 55 (nI z) d = some 1) ∨ (¬ gBra F c z ∧ m_X10_isMended N 55 (nI z) d = some 0) := by
  obtain ⟨k1, k2, k3⟩ := sh_m m (by omega)
  have k4 := m_2 hm
  obtain ⟨b, e1, hb⟩ := gloop_inv (f := fun (y2 : Int32) => m_X10_isMended_L2 55 (nI z) d y2) (fun q (A : Int32) => ∃ i, q + i = 2 ^ m ∧ 1 ≤ i ∧ A = nI i ∧ ∀ y, 1 ≤ y → y < i → d.1 527 y = 1 → ¬ (nI y &&& nI z = 0)) (fun (b : Int32 ⊕ Unit) => (gBra F c z ∧ b = .inr ()) ∨ (¬ gBra F c z ∧ b = .inl 0)) (by
    rintro q A ⟨i, hi, hi1, rfl, hj⟩
    by_cases qi : i < 2 ^ m
    · have nF : ¬ nI (2 ^ m) ≤ nI i := by rw [n_le (by omega) (by omega)]; omega
      rcases hf.2 i (by omega) with e0 | ⟨e0, j, hj2, ej⟩
      · left
        refine ⟨nI (i + 1), 2 ^ m - (i + 1), ?_, by omega, i + 1, by omega, by omega, rfl, fun y hy1 hy2 hy3 => ?_⟩
        · show m_X10_isMended_L2 55 (nI z) d (nI i) = _
          unfold m_X10_isMended_L2; simp only [gj_e]
          rw [gc_1 (show gck 55 = 10 from rfl), show (56 : Int32).toNatClampNeg = 56 from rfl, h5, k1, if_neg nF, gc_1 (n_rg (by omega) (by omega)), n_cl (by omega), if_pos e0, gv_e, n_s]
        · by_cases q : y = i
          · rw [q, e0] at hy3; exact absurd hy3 (by decide)
          · exact hj y hy1 (by omega) hy3
      · by_cases qz : nI i &&& nI z = 0
        · right
          refine ⟨.inl 0, ?_, Or.inr ⟨fun g => g j hj2 (by rw [ej]; exact qz), rfl⟩⟩
          show m_X10_isMended_L2 55 (nI z) d (nI i) = _
          unfold m_X10_isMended_L2; simp only [gj_e]
          rw [gc_1 (show gck 55 = 10 from rfl), show (56 : Int32).toNatClampNeg = 56 from rfl, h5, k1, if_neg nF, gc_1 (n_rg (by omega) (by omega)), n_cl (by omega), e0, if_neg (show ¬ (1 : Int32) = 0 by decide), if_pos qz]
        · left
          refine ⟨nI (i + 1), 2 ^ m - (i + 1), ?_, by omega, i + 1, by omega, by omega, rfl, fun y hy1 hy2 hy3 => ?_⟩
          · show m_X10_isMended_L2 55 (nI z) d (nI i) = _
            unfold m_X10_isMended_L2; simp only [gj_e]
            rw [gc_1 (show gck 55 = 10 from rfl), show (56 : Int32).toNatClampNeg = 56 from rfl, h5, k1, if_neg nF, gc_1 (n_rg (by omega) (by omega)), n_cl (by omega), e0, if_neg (show ¬ (1 : Int32) = 0 by decide), if_neg qz, gv_e, n_s]
          · by_cases q : y = i
            · rw [q]; exact qz
            · exact hj y hy1 (by omega) hy3
    · right
      refine ⟨.inr (), ?_, Or.inl ⟨fun j hj2 => ?_, rfl⟩⟩
      · show m_X10_isMended_L2 55 (nI z) d (nI i) = _
        unfold m_X10_isMended_L2
        rw [gc_1 (show gck 55 = 10 from rfl), show (56 : Int32).toNatClampNeg = 56 from rfl, h5, k1, if_pos (by rw [n_le (by omega) (by omega)]; omega)]
      · obtain ⟨y, y1, y2, y3, y4⟩ := hf.1 j hj2
        rw [y3]
        exact hj y y1 (by omega) y4) (n := N) (r := 2 ^ m - 1) (a := 1) ⟨1, by omega, by omega, rfl, fun y h1 h2 => by omega⟩ (by omega)
  unfold m_X10_isMended
  rw [gb_x e1]
  rcases hb with ⟨g, rfl⟩ | ⟨g, rfl⟩
  · exact Or.inl ⟨g, rfl⟩
  · exact Or.inr ⟨g, rfl⟩
/-- b is the least (by ones, then by value) of the top and those of the domain that hold -/
def gLm (P D : Nat → Prop) (T b : Nat) : Prop := b ≤ T ∧ (b = T ∨ P b) ∧ ∀ y, D y → P y → pOn b < pOn y ∨ (pOn b = pOn y ∧ b ≤ y)
theorem on_t : ∀ m, m < 11 → ∀ y, y < 2 ^ m → pOn y ≤ pOn (2 ^ m - 1) := by decide +kernel
theorem on_u : ∀ m, m < 11 → ∀ y, y < 2 ^ m → pOn (2 ^ m - 1) = pOn y → 2 ^ m - 1 ≤ y := by decide +kernel
theorem gLm_u {P : Nat → Prop} {m b b' : Nat} (hm : m ≤ 10) (h : gLm P (fun y => y < 2 ^ m) (2 ^ m - 1) b) (h' : gLm P (fun y => y < 2 ^ m) (2 ^ m - 1) b') : b = b' := by
  have hp : 1 ≤ 2 ^ m := Nat.pow_pos (by omega)
  have o1 := on_t m (by omega) b (by have := h.1; omega)
  have o2 := on_t m (by omega) b' (by have := h'.1; omega)
  have l1 := h.1
  have l2 := h'.1
  rcases h.2.1 with e | e
  · rcases h'.2.1 with e' | e'
    · rw [e, e']
    · have := h.2.2 b' (by omega) e'
      rw [← e] at o2
      omega
  · have a1 := h'.2.2 b (by omega) e
    rcases h'.2.1 with e' | e'
    · rw [← e'] at o1
      omega
    · have := h.2.2 b' (by omega) e'
      omega
theorem fg_c {F m N : Nat} {c : gm} (hm : m ≤ 10) (h1 : c.1 21 1 = nI F) (hF : F ≤ 1023) (hN : 1100 < N) : ∃ b, m_X1_fewestGone N 21 (nI m) c = some (nI b) ∧ gLm (gBra F c) (fun y => y < 2 ^ m) (2 ^ m - 1) b := by
  obtain ⟨k1, k2, k3⟩ := sh_m m (by omega)
  have k4 := m_2 hm
  obtain ⟨b, e1, z, rfl, hb⟩ := gloop_inv (f := gu2 (fun (y3 : Int32) (y4 : Int32) => m_X1_fewestGone_L8 N 21 (nI m) c y3 y4)) (fun q (A : Int32 × Int32) => ∃ i b, q + i = 2 ^ m ∧ A = (nI b, nI i) ∧ (b = 2 ^ m - 1 ∨ b ≤ i) ∧ gLm (gBra F c) (fun y => y < i) (2 ^ m - 1) b) (fun (z : Int32) => ∃ b, z = nI b ∧ gLm (gBra F c) (fun y => y < 2 ^ m) (2 ^ m - 1) b) (by
    rintro q A ⟨i, b, hi, rfl, l0, l1, l2, l3⟩
    by_cases qi : i < 2 ^ m
    rotate_left
    · right
      refine ⟨nI b, ?_, b, rfl, l1, l2, fun y hy => l3 y (by omega)⟩
      show m_X1_fewestGone_L8 N 21 (nI m) c (nI b) (nI i) = _
      unfold m_X1_fewestGone_L8
      rw [k1, if_pos (by rw [n_le (by omega) (by omega)]; omega)]
    left
    have nF : ¬ nI (2 ^ m) ≤ nI i := by rw [n_le (by omega) (by omega)]; omega
    have p1 : pOn i < 1000 := Nat.lt_of_le_of_lt (on_t 10 (by omega) i (by omega)) (by decide)
    have p2 : pOn b < 1000 := Nat.lt_of_le_of_lt (on_t 10 (by omega) b (by omega)) (by decide)
    have X0 : m_X1_fewestGone_L8 N 21 (nI m) c (nI b) (nI i) = (if nI (pOn b) ≤ nI (pOn i) then some (.inl (nI b, nI (i + 1))) else gb (m_X1_breaksAll N 21 (nI i) c) (fun (r18 : Int32) => (if r18 = 0 then some (.inl (nI b, nI (i + 1))) else some (.inl (nI i, nI (i + 1)))))) := by
      unfold m_X1_fewestGone_L8; simp only [gj_e]
      rw [k1, if_neg nF, gb_x (bc_on i (by omega)), gb_x (bc_on b (by omega)), n_s, gc_1 (show gck 21 = 1 from rfl)]
      rfl
    by_cases qo : pOn b ≤ pOn i
    · refine ⟨(nI b, nI (i + 1)), 2 ^ m - (i + 1), ?_, by omega, i + 1, b, by omega, rfl, by omega, l1, l2, fun y hy hP => ?_⟩
      · show m_X1_fewestGone_L8 N 21 (nI m) c (nI b) (nI i) = _
        rw [X0, if_pos (by rw [n_le (by omega) (by omega)]; exact qo)]
      · by_cases q : y = i
        · subst q
          by_cases q2 : pOn b = pOn y
          · rcases l0 with e | e
            · rw [e] at q2 ⊢
              exact Or.inr ⟨q2, on_u m (by omega) y qi q2⟩
            · exact Or.inr ⟨q2, e⟩
          · exact Or.inl (by omega)
        · exact l3 y (by omega) hP
    · have no : ¬ nI (pOn b) ≤ nI (pOn i) := by rw [n_le (by omega) (by omega)]; exact qo
      rcases bra_c h1 hF hN i with ⟨g, eg⟩ | ⟨g, eg⟩
      · refine ⟨(nI i, nI (i + 1)), 2 ^ m - (i + 1), ?_, by omega, i + 1, i, by omega, rfl, Or.inr (by omega), by omega, Or.inr g, fun y hy hP => ?_⟩
        · show m_X1_fewestGone_L8 N 21 (nI m) c (nI b) (nI i) = _
          rw [X0, if_neg no, gb_x eg, if_neg (by decide)]
        · by_cases q : y = i
          · rw [q]; exact Or.inr ⟨rfl, Nat.le_refl _⟩
          · have := l3 y (by omega) hP
            omega
      · refine ⟨(nI b, nI (i + 1)), 2 ^ m - (i + 1), ?_, by omega, i + 1, b, by omega, rfl, by omega, l1, l2, fun y hy hP => ?_⟩
        · show m_X1_fewestGone_L8 N 21 (nI m) c (nI b) (nI i) = _
          rw [X0, if_neg no, gb_x eg, if_pos rfl]
        · by_cases q : y = i
          · rw [q] at hP; exact absurd hP g
          · exact l3 y (by omega) hP) (n := N) (r := 2 ^ m) (a := (nI (2 ^ m - 1), 0)) ⟨0, 2 ^ m - 1, by omega, rfl, Or.inl rfl, Nat.le_refl _, Or.inl rfl, fun y hy => by omega⟩ (by omega)
  refine ⟨z, ?_, hb⟩
  unfold m_X1_fewestGone
  rw [k2, gv_e, gb_x e1]
theorem fg_d {F m N : Nat} {c d : gm} (hm : m ≤ 10) (h5 : d.1 503 56 = nI m) (hf : gFs F m c d) (hN : 1100 < N) : ∃ b, gloop (gu2 (fun (y13 : Int32) (y14 : Int32) => m_X10_mend_L23 N 55 d y13 y14)) N (nI (2 ^ m - 1), nI (2 ^ m - 1)) = some (nI b) ∧ gLm (gBra F c) (fun y => y < 2 ^ m) (2 ^ m - 1) b := by
  have k3 : 1 ≤ 2 ^ m := Nat.pow_pos (by omega)
  have k4 := m_2 hm
  obtain ⟨b, e1, z, rfl, hb⟩ := gloop_inv (f := gu2 (fun (y13 : Int32) (y14 : Int32) => m_X10_mend_L23 N 55 d y13 y14)) (fun q (A : Int32 × Int32) => ∃ i b, q = i ∧ i ≤ 2 ^ m ∧ A = (nI b, nI i - 1) ∧ (b = 2 ^ m - 1 ∨ i ≤ b) ∧ gLm (gBra F c) (fun y => i ≤ y ∧ y < 2 ^ m) (2 ^ m - 1) b) (fun (z : Int32) => ∃ b, z = nI b ∧ gLm (gBra F c) (fun y => y < 2 ^ m) (2 ^ m - 1) b) (by
    rintro q A ⟨i, b, rfl, hi, rfl, l0, l1, l2, l3⟩
    by_cases qi : q = 0
    · right
      refine ⟨nI b, ?_, b, rfl, l1, l2, fun y hy => l3 y ⟨by omega, hy⟩⟩
      show m_X10_mend_L23 N 55 d (nI b) (nI q - 1) = _
      unfold m_X10_mend_L23
      rw [if_pos (by rw [qi]; decide)]
    left
    obtain ⟨i, rfl⟩ : ∃ i, q = i + 1 := ⟨q - 1, by omega⟩
    have ei : nI (i + 1) - 1 = nI i := by rw [show (1 : Int32) = nI 1 from rfl, n_su (by omega)]; rfl
    rw [ei]
    have p1 : pOn i < 1000 := Nat.lt_of_le_of_lt (on_t 10 (by omega) i (by omega)) (by decide)
    have p2 : pOn b < 1000 := Nat.lt_of_le_of_lt (on_t 10 (by omega) b (by omega)) (by decide)
    have X0 : m_X10_mend_L23 N 55 d (nI b) (nI i) = (if nI (pOn b) < nI (pOn i) then some (.inl (nI b, nI i - 1)) else gb (m_X10_isMended N 55 (nI i) d) (fun (r18 : Int32) => (if r18 = 0 then some (.inl (nI b, nI i - 1)) else some (.inl (nI i, nI i - 1))))) := by
      unfold m_X10_mend_L23; simp only [gj_e]
      rw [if_neg (by rw [show (0 : Int32) = nI 0 from rfl, n_lt (by omega) (by omega)]; omega), gb_x (on_on (by omega) (by omega)), gb_x (on_on (by omega) (by omega)), show nI i + (-1) = nI i - 1 from by rw [Int32.sub_eq_add_neg]]
      rfl
    by_cases qo : pOn b < pOn i
    · refine ⟨(nI b, nI i - 1), i, ?_, by omega, i, b, rfl, by omega, rfl, by omega, l1, l2, fun y hy hP => ?_⟩
      · show m_X10_mend_L23 N 55 d (nI b) (nI i) = _
        rw [X0, if_pos (by rw [n_lt (by omega) (by omega)]; exact qo)]
      · by_cases q : y = i
        · rw [q]; exact Or.inl qo
        · exact l3 y (by omega) hP
    · have no : ¬ nI (pOn b) < nI (pOn i) := by rw [n_lt (by omega) (by omega)]; exact qo
      rcases bra_d hm h5 hf hN i with ⟨g, eg⟩ | ⟨g, eg⟩
      · refine ⟨(nI i, nI i - 1), i, ?_, by omega, i, i, rfl, by omega, rfl, Or.inr (Nat.le_refl _), by omega, Or.inr g, fun y hy hP => ?_⟩
        · show m_X10_mend_L23 N 55 d (nI b) (nI i) = _
          rw [X0, if_neg no, gb_x eg, if_neg (by decide)]
        · by_cases q : y = i
          · rw [q]; exact Or.inr ⟨rfl, Nat.le_refl _⟩
          · have := l3 y (by omega) hP
            omega
      · refine ⟨(nI b, nI i - 1), i, ?_, by omega, i, b, rfl, by omega, rfl, by omega, l1, l2, fun y hy hP => ?_⟩
        · show m_X10_mend_L23 N 55 d (nI b) (nI i) = _
          rw [X0, if_neg no, gb_x eg, if_pos rfl]
        · by_cases q : y = i
          · rw [q] at hP; exact absurd hP g
          · exact l3 y (by omega) hP) (n := N) (r := 2 ^ m) (a := (nI (2 ^ m - 1), nI (2 ^ m - 1))) ⟨2 ^ m, 2 ^ m - 1, rfl, Nat.le_refl _, by rw [show (1 : Int32) = nI 1 from rfl, n_su (by omega)], Or.inl rfl, Nat.le_refl _, Or.inl rfl, fun y hy => by omega⟩ (by omega)
  exact ⟨z, e1, hb⟩
theorem mend_two {th m p n : Nat} {c d : gm} (h : gRl th m p c d) (hn : 1100 < n) : gAn0 (m_X9_mend n 0 c) (m_X10_mend n 55 d) := by
  have hZ := gRl_dZ h
  obtain ⟨hP, hp, ⟨hS, hRw, hM, hL⟩, hTo, hTp, hCn, hBk, hPs, hIm⟩ := id hZ
  obtain ⟨m0, m3, -⟩ := id hM
  obtain ⟨c4, d4, F, hF, t1, t2, ⟨x1, x4, x5, xB, x2, xf⟩, f4⟩ := all_two (N := n) hS hRw m0 hn
  have hm := hRw.1
  obtain ⟨k1, k2, k3⟩ := sh_m m (by omega)
  have c6 : c4.1 3 6 = nI m := by rw [f4.1 3 (by omega) (by omega)]; exact hS.2.2.2.1
  have d5 : d4.1 503 56 = nI m := by rw [f4.2.2.1 503 (by omega) (by omega)]; exact hRw.2.1
  obtain ⟨b, e1, hb⟩ := fg_c hm x1 hF hn
  obtain ⟨b', e2, hb'⟩ := fg_d hm d5 xf hn
  have eb := gLm_u hm hb hb'
  subst eb
  refine ⟨nI b, c4, d4, ?_, ?_, th, m, p, gRl_rg hZ f4⟩
  · unfold m_X9_mend
    rw [gc_1 (show gck 0 = 9 from rfl), gb_x t1, c6, gb_x e1]
  · unfold m_X10_mend
    rw [gc_1 (show gck 55 = 10 from rfl), gv_e, show gm_r d 55 (upd (d.1 55) 0 0) = dZ d from rfl, gb_x t2, show (56 : Int32).toNatClampNeg = 56 from rfl, d5, k2, gv_e, gb_x e2]
