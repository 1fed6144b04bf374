set_option maxRecDepth 16384
/-! what the statement gives of the start -/
def gtl : List Term := [.string "LeaningMarket$Law" 104, .string "LeaningMarket$Law" 106, .string "LeaningMarket$Law" 108, .string "LeaningMarket$State" 78, .string "LeaningMarket$Law" 112, .string "LeaningMarket$Law" 114, .string "LeaningMarket$Law" 116, .string "LeaningMarket$Law" 88, .string "LeaningMarket$Law" 98, .string "LeaningMarket$State" 95, .string "LeaningMarket$State" 100, .string "LeaningMarket$Work" 43, .string "LeaningMarket$Work" 55, .string "LeaningMarket$Work" 61, .string "LeaningMarket$Work" 63, .string "LeaningMarket$Work" 67, .string "LeaningMarket" 338, .string "LeaningMarket" 345]
def gtm (i : Nat) : Term := gtl.getD i (.int 0)
abbrev gfl : List Cond := flatC (Jvm.Cond.and given_1 narrow_1)
set_option maxRecDepth 100000 in
theorem gv_ex : ∀ i, i < 18 → Cond.exactly (gtm i) "java/lang/String" ∈ gfl := by decide +kernel
set_option maxRecDepth 100000 in
theorem gv_co : ∀ i, i < 18 → Cond.eq (.field (gtm i) "java/lang/String" "coder" "B") (.int 0) ∈ gfl := by decide +kernel
set_option maxRecDepth 100000 in
theorem gv_ar : ∀ i, i < 18 → Cond.arrayOf (.field (gtm i) "java/lang/String" "value" "[B") .byte ∈ gfl := by decide +kernel
set_option maxRecDepth 100000 in
theorem gv_le : ∀ i, i < 18 → Cond.eq (.length (.field (gtm i) "java/lang/String" "value" "[B")) (.int (Int32.ofNat (gsL.getD i 0))) ∈ gfl := by decide +kernel
set_option maxRecDepth 100000 in
theorem gv_el : ∀ i, i < 18 → ∀ j, j < gsL.getD i 0 → Cond.eq (.elem (.field (gtm i) "java/lang/String" "value" "[B") (.int (Int32.ofNat j))) (.int ((gsB.getD i []).getD j 0)) ∈ gfl := by decide +kernel
def gpr : List (Nat × Nat) := [(16, 3), (16, 9), (3, 9), (16, 10), (3, 10), (9, 10), (16, 7), (3, 7), (9, 7), (10, 7), (16, 8), (3, 8), (9, 8), (10, 8), (7, 8), (16, 0), (3, 0), (9, 0), (10, 0), (7, 0), (8, 0), (16, 1), (3, 1), (9, 1), (10, 1), (7, 1), (8, 1), (0, 1), (16, 2), (3, 2), (9, 2), (10, 2), (7, 2), (8, 2), (0, 2), (1, 2), (16, 4), (3, 4), (9, 4), (10, 4), (7, 4), (8, 4), (0, 4), (1, 4), (2, 4), (16, 5), (3, 5), (9, 5), (10, 5), (7, 5), (8, 5), (0, 5), (1, 5), (2, 5), (4, 5), (16, 6), (3, 6), (9, 6), (10, 6), (7, 6), (8, 6), (0, 6), (1, 6), (2, 6), (4, 6), (5, 6), (16, 11), (3, 11), (9, 11), (10, 11), (7, 11), (8, 11), (0, 11), (1, 11), (2, 11), (4, 11), (5, 11), (6, 11), (16, 12), (3, 12), (9, 12), (10, 12), (7, 12), (8, 12), (0, 12), (1, 12), (2, 12), (4, 12), (5, 12), (6, 12), (11, 12), (16, 13), (3, 13), (9, 13), (10, 13), (7, 13), (8, 13), (0, 13), (1, 13), (2, 13), (4, 13), (5, 13), (6, 13), (11, 13), (12, 13), (16, 14), (3, 14), (9, 14), (10, 14), (7, 14), (8, 14), (0, 14), (1, 14), (2, 14), (4, 14), (5, 14), (6, 14), (11, 14), (12, 14), (13, 14), (16, 15), (3, 15), (9, 15), (10, 15), (7, 15), (8, 15), (0, 15), (1, 15), (2, 15), (4, 15), (5, 15), (6, 15), (11, 15), (12, 15), (13, 15), (14, 15), (16, 17), (3, 17), (9, 17), (10, 17), (7, 17), (8, 17), (0, 17), (1, 17), (2, 17), (4, 17), (5, 17), (6, 17), (11, 17), (12, 17), (13, 17), (14, 17), (15, 17)]
set_option maxRecDepth 100000 in
theorem gpr_in : ∀ w ∈ gpr.map (fun p => Cond.not (Cond.eq (gtm p.1) (gtm p.2))), w ∈ gfl := in_r _ [72, 80, 81, 90, 91, 92, 102, 103, 104, 105, 114, 115, 116, 117, 118, 129, 130, 131, 132, 133, 134, 146, 147, 148, 149, 150, 151, 152, 162, 163, 164, 165, 166, 167, 168, 169, 195, 196, 197, 198, 199, 200, 201, 202, 203, 213, 214, 215, 216, 217, 218, 219, 220, 221, 223, 232, 233, 234, 235, 236, 237, 238, 239, 240, 242, 243, 253, 254, 255, 256, 257, 258, 259, 260, 261, 263, 264, 265, 273, 274, 275, 276, 277, 278, 279, 280, 281, 283, 284, 285, 286, 295, 296, 297, 298, 299, 300, 301, 302, 303, 305, 306, 307, 308, 309, 318, 319, 320, 321, 322, 323, 324, 325, 326, 328, 329, 330, 331, 332, 333, 367, 368, 369, 370, 371, 372, 373, 374, 375, 377, 378, 379, 380, 381, 382, 383, 407, 408, 409, 410, 411, 412, 413, 414, 415, 417, 418, 419, 420, 421, 422, 423, 425] rfl
theorem gpr_all : ∀ i, i < 18 → ∀ j, j < 18 → i = j ∨ (i, j) ∈ gpr ∨ (j, i) ∈ gpr := by decide +kernel
theorem gv_ne {i j : Nat} (hi : i < 18) (hj : j < 18) : i = j ∨ Cond.not (Cond.eq (gtm i) (gtm j)) ∈ gfl ∨ Cond.not (Cond.eq (gtm j) (gtm i)) ∈ gfl := by
  rcases gpr_all i hi j hj with h | h | h
  · exact Or.inl h
  · exact Or.inr (Or.inl (gpr_in _ (List.mem_map.mpr ⟨(i, j), h, rfl⟩)))
  · exact Or.inr (Or.inr (gpr_in _ (List.mem_map.mpr ⟨(j, i), h, rfl⟩)))
theorem gv_ln : ∀ i, i < 18 → gsL.getD i 0 < 2 ^ 31 := by decide
set_option maxRecDepth 100000 in
theorem gv_st : ∀ q ∈ gsites, Cond.stringRef q.1 q.2.1 q.2.2.1 ∈ lw_tbl := by decide +kernel
theorem gv_si : ∀ q ∈ gsites, q.2.2.2 < 18 ∧ (gtm q.2.2.2 = .string q.1 q.2.1 ∨ (q.1 = "LeaningMarket$Law" ∧ q.2.1 = 110 ∧ q.2.2.2 = 3) ∨ (q.1 = "LeaningMarket$Work" ∧ q.2.1 = 65 ∧ q.2.2.2 = 4)) := by decide +kernel
set_option maxRecDepth 100000 in
theorem gvw_t : Cond.eq (.string "LeaningMarket$State" 78) (.string "LeaningMarket$Law" 110) ∈ gfl := by decide +kernel
set_option maxRecDepth 100000 in
theorem gvw_d : Cond.eq (.string "LeaningMarket$Law" 112) (.string "LeaningMarket$Work" 65) ∈ gfl := by decide +kernel
set_option maxRecDepth 100000 in
theorem given_Z {s : State} {args : Array Value} (hts : ∀ w ∈ lw_tbl, w.before args s = true) (hgv : (Jvm.Cond.and given_1 narrow_1).before args s = true) : ∃ sa : gSa, gZ sa (fun q => s.heap.size ≤ q) s := by
  have hs := flat_of_before _ hgv
  have hA : ∀ a : Nat, a < s.heap.size → ¬ (fun q => s.heap.size ≤ q) a := fun a h => Nat.not_le.mpr h
  obtain ⟨adK, adV, hS, hE⟩ := vk_Sof (N := 18) (tm := gtm) (len := gsL) (byt := gsB) (A := fun q => s.heap.size ≤ q) gv_ln (fun i hi => hs _ (gv_ex i hi)) (fun i hi => hs _ (gv_co i hi)) (fun i hi => hs _ (gv_ar i hi)) (fun i hi => hs _ (gv_le i hi)) (fun i hi j hj => hs _ (gv_el i hi j hj)) (fun i j hi hj hij => by
    rcases gv_ne hi hj with h | h | h
    · exact absurd h hij
    · exact Or.inl (hs _ h)
    · exact Or.inr (hs _ h)) hA
  have hcs : (Term.static "java/lang/String" "COMPACT_STRINGS" "Z").eval args s none [] s = some (.int 1) := by
    obtain ⟨y, h1, h2⟩ := Cond.eq_one (hs (Cond.eq (.static "java/lang/String" "COMPACT_STRINGS" "Z") (.int 1)) (by decide +kernel))
    rw [h1]
    exact h2.symm
  refine ⟨(adK, adV), hS, ⟨va_Zof (hts (.laysStatic "java/lang/String" "COMPACT_STRINGS" "Z") (by decide +kernel)) (hts (.initialized "java/lang/String") (by decide +kernel)) hcs hA, va_Zqof (hts (.laysStatic "jdk/internal/util/Preconditions" "SIOOBE_FORMATTER" "Ljava/util/function/BiFunction;") (by decide +kernel)) (hts (.initialized "jdk/internal/util/Preconditions") (by decide +kernel)) (hs (Cond.isRef (.static "jdk/internal/util/Preconditions" "SIOOBE_FORMATTER" "Ljava/util/function/BiFunction;")) (by decide +kernel)) hA⟩, ⟨vx_Zqof (hts (.laysStatic "java/lang/Throwable" "UNASSIGNED_STACK" "[Ljava/lang/StackTraceElement;") (by decide +kernel)) (hts (.initialized "java/lang/Throwable") (by decide +kernel)) (hs (Cond.isRef (.static "java/lang/Throwable" "UNASSIGNED_STACK" "[Ljava/lang/StackTraceElement;")) (by decide +kernel)) hA, vx_Zqof (hts (.laysStatic "java/lang/Throwable" "SUPPRESSED_SENTINEL" "Ljava/util/List;") (by decide +kernel)) (hts (.initialized "java/lang/Throwable") (by decide +kernel)) (hs (Cond.isRef (.static "java/lang/Throwable" "SUPPRESSED_SENTINEL" "Ljava/util/List;")) (by decide +kernel)) hA⟩, fun q hq => ?_, va_Nw.of rfl (hts (.methodLinkNest RX1 66 yX9_commonMeasure "LeaningMarket") (by decide +kernel)), ⟨va_Nw.of rfl (hts (.declares (Bundle.initS "java/lang/RuntimeException")) (by decide +kernel)), va_Nw.of rfl (hts (.declares (Bundle.initS "java/lang/Exception")) (by decide +kernel)), va_Nw.of rfl (hts (.declares (Bundle.initS "java/lang/Throwable")) (by decide +kernel))⟩, ⟨va_Nw.of rfl (hts (.castable "java/lang/IllegalArgumentException" "java/lang/IllegalArgumentException") (by decide +kernel)), va_Nw.of rfl (hts (.castable "java/util/NoSuchElementException" "java/util/NoSuchElementException") (by decide +kernel))⟩, va_Nc.of (hs (Cond.not (.castable "java/lang/IllegalArgumentException" "java/util/NoSuchElementException")) (by decide +kernel))⟩
  obtain ⟨h1, h2⟩ := gv_si q hq
  have he := hE q.2.2.2 h1
  refine vk_R.of (hts _ (gv_st q hq)) ?_
  show (Term.string q.1 q.2.1).eval args s none [] s = some (.ref (adK q.2.2.2))
  rcases h2 with h | ⟨h3, h4, h5⟩ | ⟨h3, h4, h5⟩
  · rw [← h]; exact he
  · obtain ⟨y, e1, e2⟩ := Cond.eq_one (hs _ gvw_t)
    rw [h3, h4, e2, ← e1]
    rw [h5] at he ⊢
    exact he
  · obtain ⟨y, e1, e2⟩ := Cond.eq_one (hs _ gvw_d)
    rw [h3, h4, e2, ← e1]
    rw [h5] at he ⊢
    exact he
set_option maxRecDepth 100000 in
theorem given_K {s : State} {args : Array Value} (hts : ∀ w ∈ lw_tbl, w.before args s = true) : ∃ (D : va_G) (cy : Nat → ClassId), va_K D vwCl (gty cy) s := by
  obtain ⟨c0, i0, k0⟩ := u_known (C := RX0) (T := TX0) (N := 9) (n := 9) hts in_wsX00 (hts (.instantiable RX0 9) (by decide +kernel))
  obtain ⟨c1, i1, k1⟩ := u_known (C := RX1) (T := TX1) (N := 6) (n := 6) hts in_wsX10 (hts (.instantiable RX1 6) (by decide +kernel))
  obtain ⟨c2, i2, k2⟩ := u_known (C := RX2) (T := TX2) (N := 2) (n := 2) hts in_wsX20 (hts (.instantiable RX2 2) (by decide +kernel))
  obtain ⟨c3, i3, k3⟩ := u_known (C := RX3) (T := TX3) (N := 5) (n := 5) hts in_wsX30 (hts (.instantiable RX3 5) (by decide +kernel))
  obtain ⟨c4, i4, k4⟩ := u_known (C := RX4) (T := TX4) (N := 4) (n := 4) hts in_wsX40 (hts (.instantiable RX4 4) (by decide +kernel))
  obtain ⟨c5, i5, k5⟩ := u_known (C := RX5) (T := TX5) (N := 5) (n := 5) hts in_wsX50 (hts (.instantiable RX5 5) (by decide +kernel))
  obtain ⟨c6, i6, k6⟩ := u_known (C := RX6) (T := TX6) (N := 11) (n := 11) hts in_wsX60 (hts (.instantiable RX6 11) (by decide +kernel))
  obtain ⟨c7, i7, k7⟩ := u_known (C := RX7) (T := TX7) (N := 8) (n := 8) hts in_wsX70 (hts (.instantiable RX7 8) (by decide +kernel))
  obtain ⟨c8, i8, k8⟩ := u_known (C := RX8) (T := TX8) (N := 5) (n := 5) hts in_wsX80 (hts (.instantiable RX8 5) (by decide +kernel))
  obtain ⟨c9, i9, k9⟩ := u_known (C := RX9) (T := TX9) (N := 15) (n := 15) hts in_wsX90 (hts (.instantiable RX9 15) (by decide +kernel))
  obtain ⟨c10, i10, k10⟩ := u_known (C := RX10) (T := TX10) (N := 46) (n := 46) hts in_wsX100 (hts (.instantiable RX10 46) (by decide +kernel))
  obtain ⟨a0, ka0, co0, n0, l0, kd0⟩ := Cond.arrayClass_spec (hts (.arrayClass .int) (by decide +kernel))
  obtain ⟨a1, ka1, co1, n1, l1, kd1⟩ := Cond.arrayClass_spec (hts (.arrayClass .byte) (by decide +kernel))
  obtain ⟨a2, ka2, co2, n2, l2, kd2⟩ := Cond.arrayClass_spec (hts (.arrayClass .boolean) (by decide +kernel))
  obtain ⟨a3, ka3, co3, n3, l3, kd3⟩ := Cond.arrayClass_spec (hts (.arrayClass .long) (by decide +kernel))
  obtain ⟨co4, a4, ka4, f4, -, l4, kd4, n4⟩ := arrayOverA_spec (hts (.arrayOver (.array .int)) (by decide +kernel))
  refine ⟨(fun k => if k = 0 then c0 else if k = 1 then c1 else if k = 2 then c2 else if k = 3 then c3 else if k = 4 then c4 else if k = 5 then c5 else if k = 6 then c6 else if k = 7 then c7 else if k = 8 then c8 else if k = 9 then c9 else c10, fun k => if k = 0 then i0 else if k = 1 then i1 else if k = 2 then i2 else if k = 3 then i3 else if k = 4 then i4 else if k = 5 then i5 else if k = 6 then i6 else if k = 7 then i7 else if k = 8 then i8 else if k = 9 then i9 else i10), fun k => if k = 0 then a0 else if k = 1 then a1 else if k = 2 then a2 else if k = 3 then a3 else a4, fun k q hq => ?_, fun k q hq => ?_⟩
  · match k, hq with
    | 0, hq => cases hq; exact k0
    | 1, hq => cases hq; exact k1
    | 2, hq => cases hq; exact k2
    | 3, hq => cases hq; exact k3
    | 4, hq => cases hq; exact k4
    | 5, hq => cases hq; exact k5
    | 6, hq => cases hq; exact k6
    | 7, hq => cases hq; exact k7
    | 8, hq => cases hq; exact k8
    | 9, hq => cases hq; exact k9
    | 10, hq => cases hq; exact k10
    | k + 11, hq => simp [vwCl] at hq
  · match k, hq with
    | 0, hq => cases hq; exact ⟨fun n z => ⟨fun k h => (by cases h), ka0, l0, co0, kd0⟩, n0⟩
    | 1, hq => cases hq; exact ⟨fun n z => ⟨fun k h => (by cases h), ka1, l1, co1, kd1⟩, n1⟩
    | 2, hq => cases hq; exact ⟨fun n z => ⟨fun k h => (by cases h), ka2, l2, co2, kd2⟩, n2⟩
    | 3, hq => cases hq; exact ⟨fun n z => ⟨fun k h => (by cases h), ka3, l3, co3, kd3⟩, n3⟩
    | 4, hq => cases hq; exact ⟨fun n z => ⟨fun k h => (by cases h), ka4, l4, co4, kd4⟩, n4⟩
    | k + 5, hq => simp [gty] at hq
