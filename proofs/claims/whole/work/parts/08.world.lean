/-! THE MEMORY: ids (small numbers) for the cells that the law makes; what each holds, as functions; the world over it -/
abbrev gm : Type := (Nat → Nat → Int32) × (Nat → Nat → Int64) × (Nat → Nat)
def gm_r (m : gm) (i : Nat) (f : Nat → Int32) : gm := (va_up m.1 i f, m.2)
def gm_l (m : gm) (i : Nat) (f : Nat → Int64) : gm := (m.1, va_up m.2.1 i f, m.2.2)
def gm_k (m : gm) (j r : Nat) : gm := (m.1, m.2.1, va_up m.2.2 j r)
/-- the kind of a cell, and an array's length -/
def gck (i : Nat) : Nat := (if i < 49 then (if i < 23 then (if i < 10 then (if i < 3 then (if i < 1 then 9 else (if i < 2 then 7 else 13)) else (if i < 4 then 6 else (if i < 9 then 12 else 6))) else (if i < 17 then (if i < 15 then 12 else (if i < 16 then 8 else 12)) else (if i < 21 then (if i < 18 then 5 else 12) else (if i < 22 then 1 else 12)))) else (if i < 34 then (if i < 26 then (if i < 24 then 4 else (if i < 25 then 12 else 14)) else (if i < 28 then (if i < 27 then 2 else 6) else (if i < 33 then 12 else 3))) else (if i < 43 then (if i < 38 then 12 else (if i < 39 then 3 else 12)) else (if i < 47 then (if i < 44 then 0 else 12) else (if i < 48 then 14 else 12))))) else (if i < 406 then (if i < 63 then (if i < 54 then (if i < 50 then 0 else (if i < 53 then 12 else 14)) else (if i < 56 then (if i < 55 then 12 else 10) else (if i < 62 then 22 else 25))) else (if i < 84 then (if i < 73 then 22 else (if i < 74 then 25 else 22)) else (if i < 245 then (if i < 85 then 25 else 22) else (if i < 246 then 25 else 22)))) else (if i < 507 then (if i < 414 then (if i < 407 then 25 else (if i < 413 then 22 else 25)) else (if i < 423 then (if i < 422 then 22 else 25) else (if i < 506 then 22 else 25))) else (if i < 527 then (if i < 523 then 22 else (if i < 524 then 25 else 22)) else (if i < 530 then (if i < 528 then 24 else 22) else (if i < 531 then 26 else 99))))))
def gal (i : Nat) : Nat := (if i < 50 then (if i < 24 then (if i < 15 then (if i < 8 then (if i < 3 then (if i < 2 then 0 else 600) else (if i < 4 then 0 else 8)) else (if i < 10 then (if i < 9 then 40 else 0) else (if i < 14 then 8 else 40))) else (if i < 19 then (if i < 17 then (if i < 16 then 0 else 190) else (if i < 18 then 0 else 960)) else (if i < 21 then (if i < 20 then 3060 else 3) else (if i < 22 then 0 else (if i < 23 then 1024 else 0))))) else (if i < 38 then (if i < 32 then (if i < 26 then (if i < 25 then 256 else 481) else (if i < 28 then 0 else 8)) else (if i < 34 then (if i < 33 then 40 else 0) else (if i < 36 then 150 else (if i < 37 then 7 else 24)))) else (if i < 43 then (if i < 41 then (if i < 39 then 0 else 150) else (if i < 42 then 7 else 24)) else (if i < 47 then (if i < 44 then 0 else 6) else (if i < 48 then 190 else (if i < 49 then 3 else 0)))))) else (if i < 407 then (if i < 62 then (if i < 56 then (if i < 54 then (if i < 53 then 6 else 190) else (if i < 55 then 3 else 0)) else (if i < 58 then (if i < 57 then 600 else 2) else (if i < 60 then 4 else 8))) else (if i < 84 then (if i < 73 then (if i < 63 then 10 else 4) else (if i < 74 then 10 else 4)) else (if i < 245 then (if i < 85 then 160 else 2) else (if i < 246 then 160 else (if i < 406 then 2 else 6))))) else (if i < 506 then (if i < 421 then (if i < 414 then (if i < 413 then 3 else 6) else (if i < 420 then 3 else 160)) else (if i < 423 then (if i < 422 then 7 else 80) else (if i < 503 then 6 else (if i < 505 then 60 else 8)))) else (if i < 527 then (if i < 523 then (if i < 507 then 16 else 60) else (if i < 524 then 3 else 1021)) else (if i < 529 then (if i < 528 then 1024 else 481) else (if i < 530 then 3 else (if i < 531 then 1 else 0)))))))
abbrev gty (cy : Nat → ClassId) : List (ClassId × FieldType) := [(cy 0, .int), (cy 1, .byte), (cy 2, .boolean), (cy 3, .long), (cy 4, .array .int)]
def gwe (ad : Nat → Nat) (cy : Nat → ClassId) (c d : gm) (i : Nat) : va_E := if gck i = 0 then .inr (0, [.ref (ad (i + 1)), .ref (ad (i + 2)), .ref (ad (i + 3)), .ref (ad (i + 4)), .ref (ad (i + 5)), .int (c.1 i 5), .int (c.1 i 6), .int (c.1 i 7), .int (c.1 i 8)]) else if gck i = 1 then .inr (1, [.ref (ad (i + 1)), .int (c.1 i 1), .int (c.1 i 2), .int (c.1 i 3), .long (c.2.1 i 4), .long (c.2.1 i 5)]) else if gck i = 2 then .inr (2, [.ref (ad (i + 1)), .int (c.1 i 1)]) else if gck i = 3 then .inr (3, [.ref (ad (i + 1)), .ref (ad (i + 2)), .ref (ad (i + 3)), .ref (ad (i + 4)), .int (c.1 i 4)]) else if gck i = 4 then .inr (4, [.ref (ad (i + 1)), .ref (ad (i + 2)), .int (c.1 i 2), .int (c.1 i 3)]) else if gck i = 5 then .inr (5, [.ref (ad (i + 1)), .ref (ad (i + 2)), .ref (ad (i + 3)), .int (c.1 i 3), .int (c.1 i 4)]) else if gck i = 6 then .inr (6, [.ref (ad (i + 1)), .ref (ad (i + 2)), .ref (ad (i + 3)), .ref (ad (i + 4)), .ref (ad (i + 5)), .int (c.1 i 5), .int (c.1 i 6), .int (c.1 i 7), .int (c.1 i 8), .int (c.1 i 9), .int (c.1 i 10)]) else if gck i = 7 then .inr (7, [.ref (ad (i + 1)), .int (c.1 i 1), .int (c.1 i 2), .int (c.1 i 3), .int (c.1 i 4), .int (c.1 i 5), .int (c.1 i 6), .int (c.1 i 7)]) else if gck i = 8 then .inr (8, [.ref (ad (i + 1)), .int (c.1 i 1), .int (c.1 i 2), .int (c.1 i 3), .int (c.1 i 4)]) else if gck i = 9 then .inr (9, [.ref (ad 1), .ref (ad 3), .ref (ad 9), .ref (ad 15), .ref (ad 17), .ref (ad 21), .ref (ad 23), .ref (ad 26), .ref (ad (c.2.2 0)), .ref (ad (c.2.2 1)), .ref (ad (c.2.2 2)), .ref (ad (c.2.2 3)), .int (c.1 i 12), .int (c.1 i 13), .int (c.1 i 14)]) else if gck i = 10 then .inr (10, [.int (d.1 i 0), .int (d.1 i 1), .int (d.1 i 2), .int (d.1 i 3), .int (d.1 i 4), .int (d.1 i 5), .int (d.1 i 6), .int (d.1 i 7), .int (d.1 i 8), .ref (ad 56), .ref (ad 57), .ref (ad 58), .ref (ad 59), .ref (ad 60), .ref (ad 61), .ref (ad 62), .ref (ad 73), .int (d.1 i 17), .int (d.1 i 18), .ref (ad 84), .ref (ad 245), .ref (ad 406), .ref (ad 413), .ref (ad 420), .ref (ad 421), .ref (ad 422), .int (d.1 i 26), .ref (ad 503), .ref (ad 504), .ref (ad 505), .ref (ad 506), .ref (ad 523), .int (d.1 i 32), .int (d.1 i 33), .int (d.1 i 34), .int (d.1 i 35), .int (d.1 i 36), .int (d.1 i 37), .int (d.1 i 38), .long (d.2.1 i 39), .long (d.2.1 i 40), .ref (ad 527), .int (d.1 i 42), .ref (ad 528), .ref (ad 529), .int (d.1 i 45)]) else if gck i = 12 then .inl (cy 0, gal i, .inl (c.1 i)) else if gck i = 13 then .inl (cy 1, gal i, .inl (c.1 i)) else if gck i = 14 then .inl (cy 2, gal i, .inl (c.1 i)) else if gck i = 22 then .inl (cy 0, gal i, .inl (d.1 i)) else if gck i = 24 then .inl (cy 2, gal i, .inl (d.1 i)) else if gck i = 25 then .inl (cy 4, gal i, .inr (.inr (.inr (.inr (fun k => some (ad (i + 1 + k))))))) else .inl (cy 3, gal i, .inr (.inl (c.2.1 i)))
theorem gwe_0 {ad : Nat → Nat} {cy : Nat → ClassId} {c d : gm} {i : Nat} (h : gck i = 0) : gwe ad cy c d i = .inr (0, [.ref (ad (i + 1)), .ref (ad (i + 2)), .ref (ad (i + 3)), .ref (ad (i + 4)), .ref (ad (i + 5)), .int (c.1 i 5), .int (c.1 i 6), .int (c.1 i 7), .int (c.1 i 8)]) := by simp [gwe, h]
theorem gwe_1 {ad : Nat → Nat} {cy : Nat → ClassId} {c d : gm} {i : Nat} (h : gck i = 1) : gwe ad cy c d i = .inr (1, [.ref (ad (i + 1)), .int (c.1 i 1), .int (c.1 i 2), .int (c.1 i 3), .long (c.2.1 i 4), .long (c.2.1 i 5)]) := by simp [gwe, h]
theorem gwe_2 {ad : Nat → Nat} {cy : Nat → ClassId} {c d : gm} {i : Nat} (h : gck i = 2) : gwe ad cy c d i = .inr (2, [.ref (ad (i + 1)), .int (c.1 i 1)]) := by simp [gwe, h]
theorem gwe_3 {ad : Nat → Nat} {cy : Nat → ClassId} {c d : gm} {i : Nat} (h : gck i = 3) : gwe ad cy c d i = .inr (3, [.ref (ad (i + 1)), .ref (ad (i + 2)), .ref (ad (i + 3)), .ref (ad (i + 4)), .int (c.1 i 4)]) := by simp [gwe, h]
theorem gwe_4 {ad : Nat → Nat} {cy : Nat → ClassId} {c d : gm} {i : Nat} (h : gck i = 4) : gwe ad cy c d i = .inr (4, [.ref (ad (i + 1)), .ref (ad (i + 2)), .int (c.1 i 2), .int (c.1 i 3)]) := by simp [gwe, h]
theorem gwe_5 {ad : Nat → Nat} {cy : Nat → ClassId} {c d : gm} {i : Nat} (h : gck i = 5) : gwe ad cy c d i = .inr (5, [.ref (ad (i + 1)), .ref (ad (i + 2)), .ref (ad (i + 3)), .int (c.1 i 3), .int (c.1 i 4)]) := by simp [gwe, h]
theorem gwe_6 {ad : Nat → Nat} {cy : Nat → ClassId} {c d : gm} {i : Nat} (h : gck i = 6) : gwe ad cy c d i = .inr (6, [.ref (ad (i + 1)), .ref (ad (i + 2)), .ref (ad (i + 3)), .ref (ad (i + 4)), .ref (ad (i + 5)), .int (c.1 i 5), .int (c.1 i 6), .int (c.1 i 7), .int (c.1 i 8), .int (c.1 i 9), .int (c.1 i 10)]) := by simp [gwe, h]
theorem gwe_7 {ad : Nat → Nat} {cy : Nat → ClassId} {c d : gm} {i : Nat} (h : gck i = 7) : gwe ad cy c d i = .inr (7, [.ref (ad (i + 1)), .int (c.1 i 1), .int (c.1 i 2), .int (c.1 i 3), .int (c.1 i 4), .int (c.1 i 5), .int (c.1 i 6), .int (c.1 i 7)]) := by simp [gwe, h]
theorem gwe_8 {ad : Nat → Nat} {cy : Nat → ClassId} {c d : gm} {i : Nat} (h : gck i = 8) : gwe ad cy c d i = .inr (8, [.ref (ad (i + 1)), .int (c.1 i 1), .int (c.1 i 2), .int (c.1 i 3), .int (c.1 i 4)]) := by simp [gwe, h]
theorem gwe_9 {ad : Nat → Nat} {cy : Nat → ClassId} {c d : gm} {i : Nat} (h : gck i = 9) : gwe ad cy c d i = .inr (9, [.ref (ad 1), .ref (ad 3), .ref (ad 9), .ref (ad 15), .ref (ad 17), .ref (ad 21), .ref (ad 23), .ref (ad 26), .ref (ad (c.2.2 0)), .ref (ad (c.2.2 1)), .ref (ad (c.2.2 2)), .ref (ad (c.2.2 3)), .int (c.1 i 12), .int (c.1 i 13), .int (c.1 i 14)]) := by simp [gwe, h]
theorem gwe_10 {ad : Nat → Nat} {cy : Nat → ClassId} {c d : gm} {i : Nat} (h : gck i = 10) : gwe ad cy c d i = .inr (10, [.int (d.1 i 0), .int (d.1 i 1), .int (d.1 i 2), .int (d.1 i 3), .int (d.1 i 4), .int (d.1 i 5), .int (d.1 i 6), .int (d.1 i 7), .int (d.1 i 8), .ref (ad 56), .ref (ad 57), .ref (ad 58), .ref (ad 59), .ref (ad 60), .ref (ad 61), .ref (ad 62), .ref (ad 73), .int (d.1 i 17), .int (d.1 i 18), .ref (ad 84), .ref (ad 245), .ref (ad 406), .ref (ad 413), .ref (ad 420), .ref (ad 421), .ref (ad 422), .int (d.1 i 26), .ref (ad 503), .ref (ad 504), .ref (ad 505), .ref (ad 506), .ref (ad 523), .int (d.1 i 32), .int (d.1 i 33), .int (d.1 i 34), .int (d.1 i 35), .int (d.1 i 36), .int (d.1 i 37), .int (d.1 i 38), .long (d.2.1 i 39), .long (d.2.1 i 40), .ref (ad 527), .int (d.1 i 42), .ref (ad 528), .ref (ad 529), .int (d.1 i 45)]) := by simp [gwe, h]
theorem gwe_12 {ad : Nat → Nat} {cy : Nat → ClassId} {c d : gm} {i : Nat} (h : gck i = 12) : gwe ad cy c d i = .inl (cy 0, gal i, .inl (c.1 i)) := by simp [gwe, h]
theorem gwe_13 {ad : Nat → Nat} {cy : Nat → ClassId} {c d : gm} {i : Nat} (h : gck i = 13) : gwe ad cy c d i = .inl (cy 1, gal i, .inl (c.1 i)) := by simp [gwe, h]
theorem gwe_14 {ad : Nat → Nat} {cy : Nat → ClassId} {c d : gm} {i : Nat} (h : gck i = 14) : gwe ad cy c d i = .inl (cy 2, gal i, .inl (c.1 i)) := by simp [gwe, h]
theorem gwe_22 {ad : Nat → Nat} {cy : Nat → ClassId} {c d : gm} {i : Nat} (h : gck i = 22) : gwe ad cy c d i = .inl (cy 0, gal i, .inl (d.1 i)) := by simp [gwe, h]
theorem gwe_24 {ad : Nat → Nat} {cy : Nat → ClassId} {c d : gm} {i : Nat} (h : gck i = 24) : gwe ad cy c d i = .inl (cy 2, gal i, .inl (d.1 i)) := by simp [gwe, h]
theorem gwe_25 {ad : Nat → Nat} {cy : Nat → ClassId} {c d : gm} {i : Nat} (h : gck i = 25) : gwe ad cy c d i = .inl (cy 4, gal i, .inr (.inr (.inr (.inr (fun k => some (ad (i + 1 + k))))))) := by simp [gwe, h]
theorem gwe_26 {ad : Nat → Nat} {cy : Nat → ClassId} {c d : gm} {i : Nat} (h : gck i = 26) : gwe ad cy c d i = .inl (cy 3, gal i, .inr (.inl (c.2.1 i))) := by simp [gwe, h]
/-! the string constants and the JDK's statics that are read -/
def gsL : List Nat := [6, 7, 5, 5, 3, 4, 4, 5, 4, 3, 4, 5, 3, 4, 4, 5, 24, 18]
def gsB : List (List Int32) := [[119, 101, 105, 103, 104, 116], [119, 101, 105, 103, 104, 101, 100], [99, 114, 105, 101, 100], [116, 104, 105, 110, 103], [100, 97, 121], [108, 101, 97, 110], [112, 108, 97, 121], [108, 101, 97, 115, 116], [109, 111, 115, 116], [99, 114, 121], [98, 101, 97, 109], [119, 101, 105, 103, 104], [116, 105, 112], [102, 101, 101, 100], [116, 117, 114, 110], [97, 103, 97, 105, 110], [97, 110, 32, 97, 114, 103, 117, 109, 101, 110, 116, 32, 105, 115, 32, 110, 111, 110, 101, 32, 115, 117, 99, 104], [116, 104, 101, 114, 101, 32, 105, 115, 32, 110, 111, 110, 101, 32, 115, 117, 99, 104]]
def gsn (w : Nat) : Nat := gsL.getD w 0
def gsb (w k : Nat) : Int32 := (gsB.getD w []).getD k 0
def gsites : List (String × Nat × String × Nat) := [("LeaningMarket", 338, "an argument is none such", 16), ("LeaningMarket", 345, "there is none such", 17), ("LeaningMarket$Law", 104, "weight", 0), ("LeaningMarket$Law", 106, "weighed", 1), ("LeaningMarket$Law", 108, "cried", 2), ("LeaningMarket$Law", 110, "thing", 3), ("LeaningMarket$Law", 112, "day", 4), ("LeaningMarket$Law", 114, "lean", 5), ("LeaningMarket$Law", 116, "play", 6), ("LeaningMarket$Law", 88, "least", 7), ("LeaningMarket$Law", 98, "most", 8), ("LeaningMarket$State", 100, "beam", 10), ("LeaningMarket$State", 78, "thing", 3), ("LeaningMarket$State", 95, "cry", 9), ("LeaningMarket$Work", 43, "weigh", 11), ("LeaningMarket$Work", 55, "tip", 12), ("LeaningMarket$Work", 61, "feed", 13), ("LeaningMarket$Work", 63, "turn", 14), ("LeaningMarket$Work", 65, "day", 4), ("LeaningMarket$Work", 67, "again", 15)]
abbrev gSa : Type := (Nat → Nat) × (Nat → Nat)
def gZ (sa : gSa) (A : Nat → Prop) (U : State) : Prop := vk_S 18 gsL gsB sa.1 sa.2 A U U.heap ∧ (va_Z "java/lang/String" "COMPACT_STRINGS" "Z" (.int 1) A U U.heap ∧ va_Zq "jdk/internal/util/Preconditions" "SIOOBE_FORMATTER" "Ljava/util/function/BiFunction;" A U U.heap) ∧ (vx_Zq "java/lang/Throwable" "UNASSIGNED_STACK" "[Ljava/lang/StackTraceElement;" A U U.heap ∧ vx_Zq "java/lang/Throwable" "SUPPRESSED_SENTINEL" "Ljava/util/List;" A U U.heap) ∧ (∀ q ∈ gsites, vk_R q.1 q.2.1 q.2.2.1 (sa.1 q.2.2.2) U) ∧ va_Nw (.methodLinkNest RX1 66 yX9_commonMeasure "LeaningMarket") U ∧ (va_Nw (.declares (Bundle.initS "java/lang/RuntimeException")) U ∧ va_Nw (.declares (Bundle.initS "java/lang/Exception")) U ∧ va_Nw (.declares (Bundle.initS "java/lang/Throwable")) U) ∧ (va_Nw (.castable "java/lang/IllegalArgumentException" "java/lang/IllegalArgumentException") U ∧ va_Nw (.castable "java/util/NoSuchElementException" "java/util/NoSuchElementException") U) ∧ va_Nc "java/lang/IllegalArgumentException" "java/util/NoSuchElementException" U
theorem gZ_call {sa : gSa} {A B : Nat → Prop} {s U : State} {H : Heap} {locs : List Loc} (hZ : gZ sa A s) (hS : va_S A s.heap H locs) (hAB : ∀ q, B q → A q) (hU : U.heap = H) (hW : s.WarmedH U.vm) : gZ sa B U := by
  obtain ⟨h1, ⟨h2, h3⟩, ⟨h4, h5⟩, h6, h7, ⟨h8, h9, h10⟩, ⟨h11, h12⟩, h13⟩ := hZ
  subst hU
  exact ⟨((h1.kept hS.2.1).moved hW.alike).narrow hAB, ⟨((h2.kept hS.2.1).moved hW.alike).narrow hAB, ((h3.kept hS.2.1).moved hW.alike).narrow hAB⟩, ⟨((h4.kept hS.2.1).moved hW.alike).narrow hAB, ((h5.kept hS.2.1).moved hW.alike).narrow hAB⟩, fun q hq => vk_R.warm hW (h6 q hq), va_Nw.warmM hW h7, ⟨va_Nw.warmD hW h8, va_Nw.warmD hW h9, va_Nw.warmD hW h10⟩, ⟨va_Nw.warmC hW h11, va_Nw.warmC hW h12⟩, h13.moved hW.alike⟩
theorem gZ_blind {sa : gSa} {A : Nat → Prop} {U : State} {g : JFrame} {mk : MethodId} {a : Array Value} (hZ : gZ sa A U) : gZ sa A (U.calling g mk a) := by
  obtain ⟨h1, ⟨h2, h3⟩, ⟨h4, h5⟩, h6, h7, ⟨h8, h9, h10⟩, ⟨h11, h12⟩, h13⟩ := hZ
  have hv : U.vm.Alike (U.calling g mk a).vm := Vm.Alike.refl U.vm
  exact ⟨h1.moved hv, ⟨h2.moved hv, h3.moved hv⟩, ⟨h4.moved hv, h5.moved hv⟩, fun q hq => vk_R.same (u := U) rfl (h6 q hq), va_Nw.same (u := U) rfl rfl h7, ⟨va_Nw.same (u := U) rfl rfl h8, va_Nw.same (u := U) rfl rfl h9, va_Nw.same (u := U) rfl rfl h10⟩, ⟨va_Nw.same (u := U) rfl rfl h11, va_Nw.same (u := U) rfl rfl h12⟩, h13.moved hv⟩
theorem gZ_site {sa : gSa} {A : Nat → Prop} {U : State} (hZ : gZ sa A U) (own : String) (k : Nat) (tx : String) (w : Nat) (h : (own, k, tx, w) ∈ gsites) : vk_R own k tx (sa.1 w) U := hZ.2.2.2.1 _ h

theorem gwe_rc {ad : Nat → Nat} {cy : Nat → ClassId} {c d : gm} {t : Nat} {f : Nat → Int32} {i : Nat} (h : i ≠ t) : gwe ad cy (gm_r c t f) d i = gwe ad cy c d i := by
  unfold gwe
  rw [show (gm_r c t f).1 i = c.1 i from va_up_ne _ _ h]
  rfl
theorem gwe_lc {ad : Nat → Nat} {cy : Nat → ClassId} {c d : gm} {t : Nat} {f : Nat → Int64} {i : Nat} (h : i ≠ t) : gwe ad cy (gm_l c t f) d i = gwe ad cy c d i := by
  unfold gwe
  rw [show (gm_l c t f).2.1 i = c.2.1 i from va_up_ne _ _ h]
  rfl
theorem gwe_kc {ad : Nat → Nat} {cy : Nat → ClassId} {c d : gm} {j r i : Nat} (h : gck i ≠ 9) : gwe ad cy (gm_k c j r) d i = gwe ad cy c d i := by
  unfold gwe gm_k
  rw [if_neg h, if_neg h]
theorem gwe_rd {ad : Nat → Nat} {cy : Nat → ClassId} {c d : gm} {t : Nat} {f : Nat → Int32} {i : Nat} (h : i ≠ t) : gwe ad cy c (gm_r d t f) i = gwe ad cy c d i := by
  unfold gwe
  rw [show (gm_r d t f).1 i = d.1 i from va_up_ne _ _ h]
  rfl
theorem gwe_ld {ad : Nat → Nat} {cy : Nat → ClassId} {c d : gm} {t : Nat} {f : Nat → Int64} {i : Nat} (h : i ≠ t) : gwe ad cy c (gm_l d t f) i = gwe ad cy c d i := by
  unfold gwe
  rw [show (gm_l d t f).2.1 i = d.2.1 i from va_up_ne _ _ h]
  rfl
def gwl (ad : Nat → Nat) (cy : Nat → ClassId) (N : Nat) (c d : gm) : va_W := (List.range N).map (fun i => (ad i, gwe ad cy c d i))
theorem gwl_at {ad : Nat → Nat} {cy : Nat → ClassId} {N : Nat} {c d : gm} {i : Nat} (h : i < N) : (gwl ad cy N c d)[i]? = some (ad i, gwe ad cy c d i) := by
  unfold gwl
  rw [List.getElem?_map, List.getElem?_range h]
  rfl
theorem gwl_no {ad : Nat → Nat} {cy : Nat → ClassId} {N : Nat} {c d : gm} {i : Nat} (h : ¬ i < N) : (gwl ad cy N c d)[i]? = none := by
  unfold gwl
  rw [List.getElem?_map, List.getElem?_eq_none (by rw [List.length_range]; omega)]
  rfl
theorem gwl_set {ad : Nat → Nat} {cy : Nat → ClassId} {N t : Nat} {c d c2 d2 : gm} {x : va_E} (h1 : gwe ad cy c2 d2 t = x) (h2 : ∀ i, i ≠ t → gwe ad cy c2 d2 i = gwe ad cy c d i) : (gwl ad cy N c d).set t (ad t, x) = gwl ad cy N c2 d2 := by
  apply List.ext_getElem?
  intro k
  by_cases hk : k < N
  · rw [gwl_at hk, List.getElem?_set]
    by_cases e : t = k
    · subst e
      have hl : t < (gwl ad cy N c d).length := by unfold gwl; simpa using hk
      simp [hl, h1]
    · rw [if_neg e, gwl_at hk, h2 k (fun q => e q.symm)]
  · rw [gwl_no hk]
    apply List.getElem?_eq_none
    unfold gwl
    simp
    omega
def gI (ad : Nat → Nat) (N : Nat) : Prop := ∀ i j : Nat, i < N → j < N → ad i = ad j → i = j
def gA (ad : Nat → Nat) (N sz : Nat) : Nat → Prop := fun q => (∃ i, i < N ∧ q = ad i) ∨ sz ≤ q
theorem gwl_D {ad : Nat → Nat} {cy : Nat → ClassId} {N : Nat} {c d : gm} {A : Nat → Prop} (hI : gI ad N) (hA : ∀ i, i < N → A (ad i)) : va_D A (gwl ad cy N c d) := by
  have at' : ∀ (k : Nat) (q : Nat × va_E), (gwl ad cy N c d)[k]? = some q → k < N ∧ q.1 = ad k := fun k q h => by
    by_cases hk : k < N
    · rw [gwl_at hk] at h
      cases h
      exact ⟨hk, rfl⟩
    · rw [gwl_no hk] at h
      cases h
  refine ⟨fun i j p q hi hj e => ?_, fun k q h => ?_⟩
  · obtain ⟨h1, h2⟩ := at' i p hi
    obtain ⟨h3, h4⟩ := at' j q hj
    exact hI i j h1 h3 (by rw [← h2, ← h4, e])
  · obtain ⟨h1, h2⟩ := at' k q h
    rw [h2]
    exact hA k h1
theorem gA_ad {ad : Nat → Nat} {N sz : Nat} : ∀ i, i < N → gA ad N sz (ad i) := fun i h => Or.inl ⟨i, h, rfl⟩
theorem gA_sz {ad : Nat → Nat} {N sz : Nat} : ∀ q, sz ≤ q → gA ad N sz q := fun q h => Or.inr h
theorem gA_mono {ad : Nat → Nat} {N sz : Nat} {A : Nat → Prop} (h1 : ∀ i, i < N → A (ad i)) (h2 : ∀ q, sz ≤ q → A q) : ∀ q, gA ad N sz q → A q := fun q h => by
  rcases h with ⟨i, hi, rfl⟩ | h
  · exact h1 i hi
  · exact h2 q h
/-- what holds all along a method's walk -/
def gF (sa : gSa) (D : va_G) (ad : Nat → Nat) (cy : Nat → ClassId) (N : Nat) (A : Nat → Prop) (p : Program) (s : State) (m : MethodId) (args : Array Value) (c : Code) (cc : ByteArray) (nL : Nat) (Ts : List Cond) (own : String) : Prop :=
  p.tables.exec = Jvm.exec ∧ c.code = cc ∧ c.maxLocals = nL ∧ s.vm.findClass own = some m.cls ∧ (∀ w ∈ Ts, w.before args s = true) ∧ va_K D vwCl (gty cy) s ∧ gI ad N ∧ (∀ i, i < N → A (ad i)) ∧ (∀ q, s.heap.size ≤ q → A q) ∧ gZ sa A s
/-- the world: the cells hold the memory; nothing outside A has changed -/
def gW (D : va_G) (ad : Nat → Nat) (cy : Nat → ClassId) (N : Nat) (A : Nat → Prop) (H0 : Heap) (c d : gm) (H : Heap) (locs : List Loc) : Prop := va_P D vwCl (gwl ad cy N c d) H ∧ va_S A H0 H locs
def gP (sa : gSa) (D : va_G) (ad : Nat → Nat) (cy : Nat → ClassId) (N sz : Nat) (c d : gm) (U : State) : Prop := U.heap.size = sz ∧ va_P D vwCl (gwl ad cy N c d) U.heap ∧ va_K D vwCl (gty cy) U ∧ gZ sa (gA ad N sz) U
def gE (D : va_G) (ad : Nat → Nat) (cy : Nat → ClassId) (N : Nat) (c d : gm) (U : State) : Prop := va_P D vwCl (gwl ad cy N c d) U.heap ∧ va_K D vwCl (gty cy) U
/-! the words of the functions that the methods are turned into -/
def gv {α β : Type} (x : α) (k : α → β) : β := k x
def gb {α β : Type} (x : Option α) (k : α → Option β) : Option β := match x with
  | none => none
  | some a => k a
def gb2 {α β γ : Type} (x : Option (α × β)) (k : α → β → Option γ) : Option γ := match x with
  | none => none
  | some a => k a.1 a.2
def gc {β : Type} (q : Prop) [Decidable q] (k : Option β) : Option β := if q then k else none
def gj {α β : Type} (k : α) (f : α → β) : β := f k
def gloop {α β : Type} (f : α → Option (α ⊕ β)) : Nat → α → Option β
  | 0, _ => none
  | n + 1, a => match f a with
    | none => none
    | some (.inl a2) => gloop f n a2
    | some (.inr b) => some b
def gnx {α β : Type} (f : α → Option (α ⊕ β)) (n : Nat) (b : β) : α ⊕ β → Prop
  | .inl a => gloop f n a = some b
  | .inr b2 => b2 = b
theorem gv_s {α β : Type} {x : α} {k : α → β} {r : β} (h : gv x k = r) (z : α) (e : z = x) : k z = r := by subst e; exact h
theorem gb_s {α β : Type} {x : Option α} {k : α → Option β} {r : β} (h : gb x k = some r) : ∃ a, x = some a ∧ k a = some r := by
  cases x with
  | none => cases h
  | some a => exact ⟨a, rfl, h⟩
theorem gb2_s {α β γ : Type} {x : Option (α × β)} {k : α → β → Option γ} {r : γ} (h : gb2 x k = some r) : ∃ a b, x = some (a, b) ∧ k a b = some r := by
  cases x with
  | none => cases h
  | some a => exact ⟨a.1, a.2, rfl, h⟩
theorem gc_s {β : Type} {q : Prop} {i : Decidable q} {k : Option β} {r : β} (h : gc q k = some r) : q ∧ k = some r := by
  unfold gc at h
  by_cases hq : q
  · rw [if_pos hq] at h
    exact ⟨hq, h⟩
  · rw [if_neg hq] at h
    cases h
theorem gt_s {β : Type} {q : Prop} {i : Decidable q} {a b r : β} (hq : q) (h : (if q then a else b) = r) : a = r := by rw [if_pos hq] at h; exact h
theorem gf_s {β : Type} {q : Prop} {i : Decidable q} {a b r : β} (hq : ¬ q) (h : (if q then a else b) = r) : b = r := by rw [if_neg hq] at h; exact h
theorem gloop_s {α β : Type} {f : α → Option (α ⊕ β)} {n : Nat} {a : α} {b : β} (h : gloop f (n + 1) a = some b) : ∃ o, f a = some o ∧ gnx f n b o := by
  unfold gloop at h
  cases e : f a with
  | none => rw [e] at h; cases h
  | some o =>
    rw [e] at h
    cases o with
    | inl a2 => exact ⟨_, rfl, h⟩
    | inr b2 => exact ⟨_, rfl, Option.some.inj h⟩
theorem gloop_0 {α β : Type} {f : α → Option (α ⊕ β)} {a : α} {b : β} (h : gloop f 0 a = some b) : False := by cases h
def gu2 {α β γ : Type} (f : α → β → γ) (a : α × β) : γ := f a.1 a.2
theorem gu2_s {α β γ : Type} {f : α → β → γ} {a : α} {b : β} {r : γ} (h : gu2 f (a, b) = r) : f a b = r := h
theorem gj_s {α β γ : Type} {K : α → β} {R : (α → β) → γ} {x : γ} (h : gj K R = x) : ∃ K2 : α → β, (∀ a, K2 a = K a) ∧ R K2 = x := ⟨K, fun _ => rfl, h⟩
def gsm {α β : Type} (f : β → Option α) : α ⊕ β → Option α
  | .inl a => some a
  | .inr b => f b
theorem gsm_l {α β : Type} {f : β → Option α} {a r : α} (h : gsm f (.inl a) = some r) : a = r := Option.some.inj h
theorem gsm_r {α β : Type} {f : β → Option α} {b : β} {r : Option α} (h : gsm f (.inr b) = r) : f b = r := h
theorem gnx_r {α β : Type} {f : α → Option (α ⊕ β)} {n : Nat} {b b2 : β} (h : gnx f n b (.inr b2)) : b2 = b := h
theorem gnb {r : Int32} (h : r = 0 ∨ r = 1) : narrow .boolean (.int r) = .int r := by
  rcases h with rfl | rfl <;> rfl
theorem gnc {r : Int32} (h : (r.toUInt32 % 65536).toInt32 = r) : narrow .char (.int r) = .int r := by
  have := pk_nc r
  rw [h] at this
  exact this
def gbx {α β : Type} (x : Option (α ⊕ (Nat × gm))) (k : α → Option (β ⊕ (Nat × gm))) : Option (β ⊕ (Nat × gm)) := match x with
  | none => none
  | some (.inl a) => k a
  | some (.inr e) => some (.inr e)
def gok {α : Type} (x : Option α) : Option (α ⊕ (Nat × gm)) := match x with
  | none => none
  | some a => some (.inl a)
theorem gbx_l {α β : Type} {x : Option (α ⊕ (Nat × gm))} {k : α → Option (β ⊕ (Nat × gm))} {r : β} (h : gbx x k = some (.inl r)) : ∃ a, x = some (.inl a) ∧ k a = some (.inl r) := by
  match x, h with
  | some (.inl a), h => exact ⟨a, rfl, h⟩
  | some (.inr e), h => cases h
theorem gbx_x {α β : Type} {x : Option (α ⊕ (Nat × gm))} {k : α → Option (β ⊕ (Nat × gm))} {e : Nat × gm} (h : gbx x k = some (.inr e)) : x = some (.inr e) ∨ ∃ a, x = some (.inl a) ∧ k a = some (.inr e) := by
  match x, h with
  | some (.inl a), h => exact Or.inr ⟨a, rfl, h⟩
  | some (.inr e2), h => cases h; exact Or.inl rfl
theorem gok_s {α : Type} {x : Option α} {r : α} (h : gok x = some (.inl r)) : x = some r := by
  match x, h with
  | some a, h => cases h; rfl
theorem gok_no {α : Type} {x : Option α} {e : Nat × gm} (h : gok x = some (.inr e)) : False := by
  match x, h with
  | some a, h => cases h
/-- the two exceptions -/
def gxn (k : Nat) : String := if k = 1 then "java/lang/IllegalArgumentException" else "java/util/NoSuchElementException"
theorem gin {x : Int32} {n : Nat} (h : 0 ≤ x.toInt ∧ x.toInt < n) : vp_in x n := vp_in_iff.mpr h
section GR
variable {p : Program} {l : Launch} {e : Env} {R : Room} {s : State} {m : MethodId} {args : Array Value} {below : List Frame} {meth : Method} {c : Code} {H : Heap} {locs : List Loc} {cells slots : Nat} {Q : State → Prop}
variable {cc : ByteArray} {pc nL : Nat} {ls : Array Slot} {rest : List Value} {sa : gSa} {D : va_G} {A : Nat → Prop} {H0 : Heap} {ad : Nat → Nat} {cy : Nat → ClassId} {N : Nat} {cm dm : gm} {Ts : List Cond} {own : String}
theorem gx_get (F : gF sa D ad cy N A p s m args c cc nL Ts own) (G : gW D ad cy N A H0 cm dm H locs) {ci n index t : Nat} {C : String} {T : u_T} {fs : List Value} (ht : t < N) (he : gwe ad cy cm dm t = .inr (ci, fs)) (hc : vwCl[ci]? = some (C, T, n)) (hin : ∀ w ∈ u_ws C T n, w ∈ Ts) (k : Nat) (hk : k < n) (hl : Cond.fieldLink own index (T k).1 (T k).2.1 (T k).2.2.1 ∈ Ts) {v : Value} (hv : fs[k]? = some v) (hdg : decode cc pc = .ok (.getfield index, 3)) (kk : W p l e R s m args below meth c H locs cells slots Q (F0 m (pc + 3) ls (v :: rest))) : W p l e R s m args below meth c H locs cells slots Q (F0 m pc ls (.ref (ad t) :: rest)) := by
  obtain ⟨hx, hb, -, hown, hts, hK, -, -, -, -⟩ := F
  exact va_get hx hb hts hin hown hK G.1 t (by rw [gwl_at ht, he]) hc k hk (hts _ hl) (fun _ h => h) hv hdg kk
theorem gx_put (F : gF sa D ad cy N A p s m args c cc nL Ts own) (G : gW D ad cy N A H0 cm dm H locs) {cm2 dm2 : gm} {ci n index t : Nat} {C : String} {T : u_T} {fs : List Value} (ht : t < N) (he : gwe ad cy cm dm t = .inr (ci, fs)) (hc : vwCl[ci]? = some (C, T, n)) (hin : ∀ w ∈ u_ws C T n, w ∈ Ts) (ty0 : Nat → FieldType) (hty : ∀ k, k < n → parseFieldDescriptor (T k).2.2.1 = some (ty0 k)) (hnm : ∀ a, a < n → ∀ b, b < n → a ≠ b → (T a).2.1 ≠ (T b).2.1) (k : Nat) (hk : k < n) (hl : Cond.fieldLink own index (T k).1 (T k).2.1 (T k).2.2.1 ∈ Ts) (hfin : (T k).2.2.2 = false) {ty : FieldType} {v : Value} (hd : parseFieldDescriptor (T k).2.2.1 = some ty) (hn : narrow ty v = v) (hfit : fits ty v = true) (hlen : k < fs.length) (he2 : gwe ad cy cm2 dm2 t = .inr (ci, fs.set k v)) (ho : ∀ i, i ≠ t → gwe ad cy cm2 dm2 i = gwe ad cy cm dm i) (hdg : decode cc pc = .ok (.putfield index, 3)) (kk : ∀ (H1 : Heap) (locs1 : List Loc), gW D ad cy N A H0 cm2 dm2 H1 locs1 → W p l e R s m args below meth c H1 locs1 cells slots Q (F0 m (pc + 3) ls rest)) : W p l e R s m args below meth c H locs cells slots Q (F0 m pc ls (v :: .ref (ad t) :: rest)) := by
  obtain ⟨hx, hb, -, hown, hts, hK, hI, hA, -, -⟩ := F
  refine va_put hx hb hts hin ty0 hty hnm hown hK G.1 (gwl_D hI hA) G.2 t (by rw [gwl_at ht, he]) hc k hk (hts _ hl) (fun _ h => h) hfin hd hn hfit hlen hdg (fun H1 locs1 hP hD hS => ?_)
  rw [gwl_set he2 ho] at hP
  exact kk H1 locs1 ⟨hP, hS⟩

theorem gx_ia (F : gF sa D ad cy N A p s m args c cc nL Ts own) (G : gW D ad cy N A H0 cm dm H locs) {t n : Nat} {x : Int32} (hk : gck t = 12) (ht : t < N) (hn : gal t = n) (hi : 0 ≤ x.toInt ∧ x.toInt < n) (hdg : decode cc pc = .ok (.iaload, 1)) (kk : W p l e R s m args below meth c H locs cells slots Q (F0 m (pc + 1) ls (.int (cm.1 t x.toNatClampNeg) :: rest))) : W p l e R s m args below meth c H locs cells slots Q (F0 m pc ls (.int x :: .ref (ad t) :: rest)) := by
  obtain ⟨hx, hb, -, hown, hts, hK, -, -, -, -⟩ := F
  exact va_iald hx hb hK G.1 t 0 (by rw [gwl_at ht, gwe_12 hk]) rfl (gin (hn ▸ hi)) hdg kk
theorem gx_ba (F : gF sa D ad cy N A p s m args c cc nL Ts own) (G : gW D ad cy N A H0 cm dm H locs) {t n : Nat} {x : Int32} (hk : gck t = 13) (ht : t < N) (hn : gal t = n) (hi : 0 ≤ x.toInt ∧ x.toInt < n) (hdg : decode cc pc = .ok (.baload, 1)) (kk : W p l e R s m args below meth c H locs cells slots Q (F0 m (pc + 1) ls (.int (cm.1 t x.toNatClampNeg) :: rest))) : W p l e R s m args below meth c H locs cells slots Q (F0 m pc ls (.int x :: .ref (ad t) :: rest)) := by
  obtain ⟨hx, hb, -, hown, hts, hK, -, -, -, -⟩ := F
  exact va_bald hx hb hK G.1 t 1 (by rw [gwl_at ht, gwe_13 hk]) rfl (gin (hn ▸ hi)) hdg kk
theorem gx_za (F : gF sa D ad cy N A p s m args c cc nL Ts own) (G : gW D ad cy N A H0 cm dm H locs) {t n : Nat} {x : Int32} (hk : gck t = 14) (ht : t < N) (hn : gal t = n) (hi : 0 ≤ x.toInt ∧ x.toInt < n) (hdg : decode cc pc = .ok (.baload, 1)) (kk : W p l e R s m args below meth c H locs cells slots Q (F0 m (pc + 1) ls (.int (cm.1 t x.toNatClampNeg) :: rest))) : W p l e R s m args below meth c H locs cells slots Q (F0 m pc ls (.int x :: .ref (ad t) :: rest)) := by
  obtain ⟨hx, hb, -, hown, hts, hK, -, -, -, -⟩ := F
  exact va_zald hx hb hK G.1 t 2 (by rw [gwl_at ht, gwe_14 hk]) rfl (gin (hn ▸ hi)) hdg kk
theorem gx_mia (F : gF sa D ad cy N A p s m args c cc nL Ts own) (G : gW D ad cy N A H0 cm dm H locs) {t n : Nat} {x : Int32} (hk : gck t = 22) (ht : t < N) (hn : gal t = n) (hi : 0 ≤ x.toInt ∧ x.toInt < n) (hdg : decode cc pc = .ok (.iaload, 1)) (kk : W p l e R s m args below meth c H locs cells slots Q (F0 m (pc + 1) ls (.int (dm.1 t x.toNatClampNeg) :: rest))) : W p l e R s m args below meth c H locs cells slots Q (F0 m pc ls (.int x :: .ref (ad t) :: rest)) := by
  obtain ⟨hx, hb, -, hown, hts, hK, -, -, -, -⟩ := F
  exact va_iald hx hb hK G.1 t 0 (by rw [gwl_at ht, gwe_22 hk]) rfl (gin (hn ▸ hi)) hdg kk
theorem gx_mza (F : gF sa D ad cy N A p s m args c cc nL Ts own) (G : gW D ad cy N A H0 cm dm H locs) {t n : Nat} {x : Int32} (hk : gck t = 24) (ht : t < N) (hn : gal t = n) (hi : 0 ≤ x.toInt ∧ x.toInt < n) (hdg : decode cc pc = .ok (.baload, 1)) (kk : W p l e R s m args below meth c H locs cells slots Q (F0 m (pc + 1) ls (.int (dm.1 t x.toNatClampNeg) :: rest))) : W p l e R s m args below meth c H locs cells slots Q (F0 m pc ls (.int x :: .ref (ad t) :: rest)) := by
  obtain ⟨hx, hb, -, hown, hts, hK, -, -, -, -⟩ := F
  exact va_zald hx hb hK G.1 t 2 (by rw [gwl_at ht, gwe_24 hk]) rfl (gin (hn ▸ hi)) hdg kk
theorem gx_is (F : gF sa D ad cy N A p s m args c cc nL Ts own) (G : gW D ad cy N A H0 cm dm H locs) {t n : Nat} {x y : Int32} (hk : gck t = 12) (ht : t < N) (hn : gal t = n) (hi : 0 ≤ y.toInt ∧ y.toInt < n) (hdg : decode cc pc = .ok (.iastore, 1)) (kk : ∀ (H1 : Heap) (locs1 : List Loc), gW D ad cy N A H0 (gm_r cm t (upd (cm.1 t) y.toNatClampNeg x)) dm H1 locs1 → W p l e R s m args below meth c H1 locs1 cells slots Q (F0 m (pc + 1) ls rest)) : W p l e R s m args below meth c H locs cells slots Q (F0 m pc ls (.int x :: .int y :: .ref (ad t) :: rest)) := by
  obtain ⟨hx, hb, -, hown, hts, hK, hI, hA, -, -⟩ := F
  refine va_iast hx hb hK G.1 (gwl_D hI hA) G.2 t 0 (by rw [gwl_at ht, gwe_12 hk]) rfl (gin (hn ▸ hi)) hdg (fun H1 locs1 hP hD hS => ?_)
  rw [gwl_set (c2 := gm_r cm t (upd (cm.1 t) y.toNatClampNeg x)) (d2 := dm) (by rw [gwe_12 hk]; simp [gm_r, va_up_self]) (fun i h => gwe_rc h)] at hP
  exact kk H1 locs1 ⟨hP, hS⟩
theorem gx_bs (F : gF sa D ad cy N A p s m args c cc nL Ts own) (G : gW D ad cy N A H0 cm dm H locs) {t n : Nat} {x y : Int32} (hk : gck t = 13) (ht : t < N) (hn : gal t = n) (hi : 0 ≤ y.toInt ∧ y.toInt < n) (hdg : decode cc pc = .ok (.bastore, 1)) (kk : ∀ (H1 : Heap) (locs1 : List Loc), gW D ad cy N A H0 (gm_r cm t (upd (cm.1 t) y.toNatClampNeg (vp_nar .byte x))) dm H1 locs1 → W p l e R s m args below meth c H1 locs1 cells slots Q (F0 m (pc + 1) ls rest)) : W p l e R s m args below meth c H locs cells slots Q (F0 m pc ls (.int x :: .int y :: .ref (ad t) :: rest)) := by
  obtain ⟨hx, hb, -, hown, hts, hK, hI, hA, -, -⟩ := F
  refine va_bast hx hb hK G.1 (gwl_D hI hA) G.2 t 1 (by rw [gwl_at ht, gwe_13 hk]) rfl (gin (hn ▸ hi)) hdg (fun H1 locs1 hP hD hS => ?_)
  rw [gwl_set (c2 := gm_r cm t (upd (cm.1 t) y.toNatClampNeg (vp_nar .byte x))) (d2 := dm) (by rw [gwe_13 hk]; simp [gm_r, va_up_self]) (fun i h => gwe_rc h)] at hP
  exact kk H1 locs1 ⟨hP, hS⟩
theorem gx_zs (F : gF sa D ad cy N A p s m args c cc nL Ts own) (G : gW D ad cy N A H0 cm dm H locs) {t n : Nat} {x y : Int32} (hk : gck t = 14) (ht : t < N) (hn : gal t = n) (hi : 0 ≤ y.toInt ∧ y.toInt < n) (hdg : decode cc pc = .ok (.bastore, 1)) (kk : ∀ (H1 : Heap) (locs1 : List Loc), gW D ad cy N A H0 (gm_r cm t (upd (cm.1 t) y.toNatClampNeg (vp_nar .boolean x))) dm H1 locs1 → W p l e R s m args below meth c H1 locs1 cells slots Q (F0 m (pc + 1) ls rest)) : W p l e R s m args below meth c H locs cells slots Q (F0 m pc ls (.int x :: .int y :: .ref (ad t) :: rest)) := by
  obtain ⟨hx, hb, -, hown, hts, hK, hI, hA, -, -⟩ := F
  refine va_zast hx hb hK G.1 (gwl_D hI hA) G.2 t 2 (by rw [gwl_at ht, gwe_14 hk]) rfl (gin (hn ▸ hi)) hdg (fun H1 locs1 hP hD hS => ?_)
  rw [gwl_set (c2 := gm_r cm t (upd (cm.1 t) y.toNatClampNeg (vp_nar .boolean x))) (d2 := dm) (by rw [gwe_14 hk]; simp [gm_r, va_up_self]) (fun i h => gwe_rc h)] at hP
  exact kk H1 locs1 ⟨hP, hS⟩
theorem gx_mis (F : gF sa D ad cy N A p s m args c cc nL Ts own) (G : gW D ad cy N A H0 cm dm H locs) {t n : Nat} {x y : Int32} (hk : gck t = 22) (ht : t < N) (hn : gal t = n) (hi : 0 ≤ y.toInt ∧ y.toInt < n) (hdg : decode cc pc = .ok (.iastore, 1)) (kk : ∀ (H1 : Heap) (locs1 : List Loc), gW D ad cy N A H0 cm (gm_r dm t (upd (dm.1 t) y.toNatClampNeg x)) H1 locs1 → W p l e R s m args below meth c H1 locs1 cells slots Q (F0 m (pc + 1) ls rest)) : W p l e R s m args below meth c H locs cells slots Q (F0 m pc ls (.int x :: .int y :: .ref (ad t) :: rest)) := by
  obtain ⟨hx, hb, -, hown, hts, hK, hI, hA, -, -⟩ := F
  refine va_iast hx hb hK G.1 (gwl_D hI hA) G.2 t 0 (by rw [gwl_at ht, gwe_22 hk]) rfl (gin (hn ▸ hi)) hdg (fun H1 locs1 hP hD hS => ?_)
  rw [gwl_set (c2 := cm) (d2 := gm_r dm t (upd (dm.1 t) y.toNatClampNeg x)) (by rw [gwe_22 hk]; simp [gm_r, va_up_self]) (fun i h => gwe_rd h)] at hP
  exact kk H1 locs1 ⟨hP, hS⟩
theorem gx_mzs (F : gF sa D ad cy N A p s m args c cc nL Ts own) (G : gW D ad cy N A H0 cm dm H locs) {t n : Nat} {x y : Int32} (hk : gck t = 24) (ht : t < N) (hn : gal t = n) (hi : 0 ≤ y.toInt ∧ y.toInt < n) (hdg : decode cc pc = .ok (.bastore, 1)) (kk : ∀ (H1 : Heap) (locs1 : List Loc), gW D ad cy N A H0 cm (gm_r dm t (upd (dm.1 t) y.toNatClampNeg (vp_nar .boolean x))) H1 locs1 → W p l e R s m args below meth c H1 locs1 cells slots Q (F0 m (pc + 1) ls rest)) : W p l e R s m args below meth c H locs cells slots Q (F0 m pc ls (.int x :: .int y :: .ref (ad t) :: rest)) := by
  obtain ⟨hx, hb, -, hown, hts, hK, hI, hA, -, -⟩ := F
  refine va_zast hx hb hK G.1 (gwl_D hI hA) G.2 t 2 (by rw [gwl_at ht, gwe_24 hk]) rfl (gin (hn ▸ hi)) hdg (fun H1 locs1 hP hD hS => ?_)
  rw [gwl_set (c2 := cm) (d2 := gm_r dm t (upd (dm.1 t) y.toNatClampNeg (vp_nar .boolean x))) (by rw [gwe_24 hk]; simp [gm_r, va_up_self]) (fun i h => gwe_rd h)] at hP
  exact kk H1 locs1 ⟨hP, hS⟩
theorem gx_ial (F : gF sa D ad cy N A p s m args c cc nL Ts own) (G : gW D ad cy N A H0 cm dm H locs) {t n : Nat} (hk : gck t = 12) (ht : t < N) (hn : gal t = n) (hdg : decode cc pc = .ok (.arraylength, 1)) (kk : W p l e R s m args below meth c H locs cells slots Q (F0 m (pc + 1) ls (.int (nI n) :: rest))) : W p l e R s m args below meth c H locs cells slots Q (F0 m pc ls (.ref (ad t) :: rest)) := by
  obtain ⟨hx, hb, -, hown, hts, hK, -, -, -, -⟩ := F
  exact va_alen hx hb hK G.1 t 0 (by rw [gwl_at ht, gwe_12 hk]) rfl (by rw [hn]; rfl) hdg kk
theorem gx_bal (F : gF sa D ad cy N A p s m args c cc nL Ts own) (G : gW D ad cy N A H0 cm dm H locs) {t n : Nat} (hk : gck t = 13) (ht : t < N) (hn : gal t = n) (hdg : decode cc pc = .ok (.arraylength, 1)) (kk : W p l e R s m args below meth c H locs cells slots Q (F0 m (pc + 1) ls (.int (nI n) :: rest))) : W p l e R s m args below meth c H locs cells slots Q (F0 m pc ls (.ref (ad t) :: rest)) := by
  obtain ⟨hx, hb, -, hown, hts, hK, -, -, -, -⟩ := F
  exact va_alen hx hb hK G.1 t 1 (by rw [gwl_at ht, gwe_13 hk]) rfl (by rw [hn]; rfl) hdg kk
theorem gx_zal (F : gF sa D ad cy N A p s m args c cc nL Ts own) (G : gW D ad cy N A H0 cm dm H locs) {t n : Nat} (hk : gck t = 14) (ht : t < N) (hn : gal t = n) (hdg : decode cc pc = .ok (.arraylength, 1)) (kk : W p l e R s m args below meth c H locs cells slots Q (F0 m (pc + 1) ls (.int (nI n) :: rest))) : W p l e R s m args below meth c H locs cells slots Q (F0 m pc ls (.ref (ad t) :: rest)) := by
  obtain ⟨hx, hb, -, hown, hts, hK, -, -, -, -⟩ := F
  exact va_alen hx hb hK G.1 t 2 (by rw [gwl_at ht, gwe_14 hk]) rfl (by rw [hn]; rfl) hdg kk
theorem gx_mial (F : gF sa D ad cy N A p s m args c cc nL Ts own) (G : gW D ad cy N A H0 cm dm H locs) {t n : Nat} (hk : gck t = 22) (ht : t < N) (hn : gal t = n) (hdg : decode cc pc = .ok (.arraylength, 1)) (kk : W p l e R s m args below meth c H locs cells slots Q (F0 m (pc + 1) ls (.int (nI n) :: rest))) : W p l e R s m args below meth c H locs cells slots Q (F0 m pc ls (.ref (ad t) :: rest)) := by
  obtain ⟨hx, hb, -, hown, hts, hK, -, -, -, -⟩ := F
  exact va_alen hx hb hK G.1 t 0 (by rw [gwl_at ht, gwe_22 hk]) rfl (by rw [hn]; rfl) hdg kk
theorem gx_mzal (F : gF sa D ad cy N A p s m args c cc nL Ts own) (G : gW D ad cy N A H0 cm dm H locs) {t n : Nat} (hk : gck t = 24) (ht : t < N) (hn : gal t = n) (hdg : decode cc pc = .ok (.arraylength, 1)) (kk : W p l e R s m args below meth c H locs cells slots Q (F0 m (pc + 1) ls (.int (nI n) :: rest))) : W p l e R s m args below meth c H locs cells slots Q (F0 m pc ls (.ref (ad t) :: rest)) := by
  obtain ⟨hx, hb, -, hown, hts, hK, -, -, -, -⟩ := F
  exact va_alen hx hb hK G.1 t 2 (by rw [gwl_at ht, gwe_24 hk]) rfl (by rw [hn]; rfl) hdg kk
theorem gx_mgal (F : gF sa D ad cy N A p s m args c cc nL Ts own) (G : gW D ad cy N A H0 cm dm H locs) {t n : Nat} (hk : gck t = 25) (ht : t < N) (hn : gal t = n) (hdg : decode cc pc = .ok (.arraylength, 1)) (kk : W p l e R s m args below meth c H locs cells slots Q (F0 m (pc + 1) ls (.int (nI n) :: rest))) : W p l e R s m args below meth c H locs cells slots Q (F0 m pc ls (.ref (ad t) :: rest)) := by
  obtain ⟨hx, hb, -, hown, hts, hK, -, -, -, -⟩ := F
  exact va_alen hx hb hK G.1 t 4 (by rw [gwl_at ht, gwe_25 hk]) rfl (by rw [hn]; rfl) hdg kk
theorem gx_iret (F : gF sa D ad cy N A p s m args c cc nL Ts own) (G : gW D ad cy N A s.heap cm dm H locs) (hr : meth.sig.returnType = some .int) (hlk : meth.locks = false) {r : Int32} (hdg : decode cc pc = .ok (.ireturn, 1)) : W p l e R s m args below meth c H locs cells slots (MQ below (va_Qi (fun (rZ : Int32) (_ : Unit) => rZ = r) (fun _ U => gE D ad cy N cm dm U) A) args s cells slots A) (F0 m pc ls [.int r]) := by
  obtain ⟨hx, hb, -, hown, hts, hK, -, -, -, -⟩ := F
  exact W.iret hx hb hr (fun t ht hW => ⟨⟨r, (), rfl, rfl, by rw [ht]; exact G.1, va_K.moved hW.alike hK⟩, G.2.F ht⟩) G.2.2.2 hdg hlk
theorem gx_zret (F : gF sa D ad cy N A p s m args c cc nL Ts own) (G : gW D ad cy N A s.heap cm dm H locs) {ty : FieldType} (hr : meth.sig.returnType = some ty) (hlk : meth.locks = false) {r : Int32} (hn : narrow ty (.int r) = .int r) (hdg : decode cc pc = .ok (.ireturn, 1)) : W p l e R s m args below meth c H locs cells slots (MQ below (va_Qi (fun (rZ : Int32) (_ : Unit) => rZ = r) (fun _ U => gE D ad cy N cm dm U) A) args s cells slots A) (F0 m pc ls [.int r]) := by
  obtain ⟨hx, hb, -, hown, hts, hK, -, -, -, -⟩ := F
  exact W.zret hx hb hr hn (fun t ht hW => ⟨⟨r, (), rfl, rfl, by rw [ht]; exact G.1, va_K.moved hW.alike hK⟩, G.2.F ht⟩) G.2.2.2 hdg hlk
theorem gx_lret (F : gF sa D ad cy N A p s m args c cc nL Ts own) (G : gW D ad cy N A s.heap cm dm H locs) (hr : meth.sig.returnType = some .long) (hlk : meth.locks = false) {r : Int64} (hdg : decode cc pc = .ok (.lreturn, 1)) : W p l e R s m args below meth c H locs cells slots (MQ below (va_Ql (fun (rZ : Int64) (_ : Unit) => rZ = r) (fun _ U => gE D ad cy N cm dm U) A) args s cells slots A) (F0 m pc ls [.long r]) := by
  obtain ⟨hx, hb, -, hown, hts, hK, -, -, -, -⟩ := F
  exact W.lret hx hb hr (fun t ht hW => ⟨⟨r, (), rfl, rfl, by rw [ht]; exact G.1, va_K.moved hW.alike hK⟩, G.2.F ht⟩) G.2.2.2 hdg hlk
theorem gx_vret (F : gF sa D ad cy N A p s m args c cc nL Ts own) (G : gW D ad cy N A s.heap cm dm H locs) (hr : meth.sig.returnType = none) (hlk : meth.locks = false) (hdg : decode cc pc = .ok (.return_, 1)) : W p l e R s m args below meth c H locs cells slots (MQ below (va_Qv (fun (_ : Unit) => True) (fun _ U => gE D ad cy N cm dm U) A) args s cells slots A) (F0 m pc ls []) := by
  obtain ⟨hx, hb, -, hown, hts, hK, -, -, -, -⟩ := F
  exact W.vret hx hb hr (fun t ht hW => ⟨⟨(), rfl, trivial, by rw [ht]; exact G.1, va_K.moved hW.alike hK⟩, G.2.F ht⟩) G.2.2.2 hdg hlk
/-- what a callee asks and gives, over the memory -/
theorem gx_pre (F : gF sa D ad cy N A p s m args c cc nL Ts own) (G : gW D ad cy N A s.heap cm dm H locs) {As : List Value} : PreS s H (va_Pc As (gP sa D ad cy N H.size cm dm)) As :=
  ⟨fun a U g mk q => by obtain ⟨q0, q1, qP, qK, qZ⟩ := q; exact ⟨q0, q1, qP, va_K.moved (u := U) (U := U.calling g mk a) (Vm.Alike.refl U.vm) qK, gZ_blind qZ⟩, fun U hU hW => ⟨rfl, by rw [hU], by rw [hU]; exact G.1, va_K.moved hW.alike F.2.2.2.2.2.1, gZ_call F.2.2.2.2.2.2.2.2.2 G.2 (gA_mono F.2.2.2.2.2.2.2.1 (fun q h => F.2.2.2.2.2.2.2.2.1 q (Nat.le_trans G.2.1 h))) hU hW⟩⟩
theorem gx_rec (F : gF sa D ad cy N A p s m args c cc nL Ts own) (G : gW D ad cy N A s.heap cm dm H locs) {t ci n : Nat} {C : String} {T : u_T} {fs : List Value} (ht : t < N) (he : gwe ad cy cm dm t = .inr (ci, fs)) (hc : vwCl[ci]? = some (C, T, n)) {As : List Value} : PreV s H C (ad t) (va_Pc (.ref (ad t) :: As) (gP sa D ad cy N H.size cm dm)) As := by
  obtain ⟨h1, h2⟩ := gx_pre F G (As := .ref (ad t) :: As)
  exact ⟨h1, va_recv F.2.2.2.2.2.1 G.1 hc (q0 := t) (by rw [gwl_at ht, he]), h2⟩
theorem gx_calli (F : gF sa D ad cy N A p s m args c cc nL Ts own) (G : gW D ad cy N A s.heap cm dm H locs) {st0 : List Value} {a : Array Value} {r : Int32} {cm2 dm2 : gm} (hr : va_Run p l e R s m args below meth c H locs cells slots 0 0 (F0 m pc ls st0) rest (va_Qi (fun (rZ : Int32) (_ : Unit) => rZ = r) (fun _ U => gE D ad cy N cm2 dm2 U) (gA ad N H.size) a) (gA ad N H.size)) (kk : ∀ (H1 : Heap) (locs1 : List Loc), gW D ad cy N A s.heap cm2 dm2 H1 locs1 → W p l e R s m args below meth c H1 locs1 cells slots Q (F0 m (pc + 3) ls (.int r :: rest))) : W p l e R s m args below meth c H locs cells slots Q (F0 m pc ls st0) := by
  obtain ⟨hx, hb, -, hown, hts, hK, hI, hA, hZ, -⟩ := F
  have hm := gA_mono (sz := H.size) hA (fun q h => hZ q (Nat.le_trans G.2.1 h))
  refine va_calli hr G.2 (fun q _ h => hm q h) hm (fun rZ u t H1 locs1 ht hvm hw hB hz hk hS => ?_)
  subst hw
  exact kk H1 locs1 ⟨by rw [← ht]; exact hB.1, hS⟩
theorem gx_calll (F : gF sa D ad cy N A p s m args c cc nL Ts own) (G : gW D ad cy N A s.heap cm dm H locs) {st0 : List Value} {a : Array Value} {r : Int64} {cm2 dm2 : gm} (hr : va_Run p l e R s m args below meth c H locs cells slots 0 0 (F0 m pc ls st0) rest (va_Ql (fun (rZ : Int64) (_ : Unit) => rZ = r) (fun _ U => gE D ad cy N cm2 dm2 U) (gA ad N H.size) a) (gA ad N H.size)) (kk : ∀ (H1 : Heap) (locs1 : List Loc), gW D ad cy N A s.heap cm2 dm2 H1 locs1 → W p l e R s m args below meth c H1 locs1 cells slots Q (F0 m (pc + 3) ls (.long r :: rest))) : W p l e R s m args below meth c H locs cells slots Q (F0 m pc ls st0) := by
  obtain ⟨hx, hb, -, hown, hts, hK, hI, hA, hZ, -⟩ := F
  have hm := gA_mono (sz := H.size) hA (fun q h => hZ q (Nat.le_trans G.2.1 h))
  refine va_calll hr G.2 (fun q _ h => hm q h) hm (fun rZ u t H1 locs1 ht hvm hw hB hz hk hS => ?_)
  subst hw
  exact kk H1 locs1 ⟨by rw [← ht]; exact hB.1, hS⟩
theorem gx_callv (F : gF sa D ad cy N A p s m args c cc nL Ts own) (G : gW D ad cy N A s.heap cm dm H locs) {st0 : List Value} {a : Array Value} {cm2 dm2 : gm} (hr : va_Run p l e R s m args below meth c H locs cells slots 0 0 (F0 m pc ls st0) rest (va_Qv (fun (_ : Unit) => True) (fun _ U => gE D ad cy N cm2 dm2 U) (gA ad N H.size) a) (gA ad N H.size)) (kk : ∀ (H1 : Heap) (locs1 : List Loc), gW D ad cy N A s.heap cm2 dm2 H1 locs1 → W p l e R s m args below meth c H1 locs1 cells slots Q (F0 m (pc + 3) ls rest)) : W p l e R s m args below meth c H locs cells slots Q (F0 m pc ls st0) := by
  obtain ⟨hx, hb, -, hown, hts, hK, hI, hA, hZ, -⟩ := F
  have hm := gA_mono (sz := H.size) hA (fun q h => hZ q (Nat.le_trans G.2.1 h))
  refine va_callv hr G.2 (fun q _ h => hm q h) hm (fun u t H1 locs1 ht hvm hw hB hz hk hS => ?_)
  exact kk H1 locs1 ⟨by rw [← ht]; exact hB.1, hS⟩
theorem gx_fix (F : gF sa D ad cy N A p s m args c cc nL Ts own) : CallFix p m c cc nL s args Ts own := ⟨F.1, F.2.1, F.2.2.1, F.2.2.2.1, F.2.2.2.2.1⟩
theorem gx_mga (F : gF sa D ad cy N A p s m args c cc nL Ts own) (G : gW D ad cy N A H0 cm dm H locs) {t n : Nat} {x : Int32} (hk : gck t = 25) (ht : t < N) (hn : gal t = n) (hi : 0 ≤ x.toInt ∧ x.toInt < n) (hdg : decode cc pc = .ok (.aaload, 1)) (kk : W p l e R s m args below meth c H locs cells slots Q (F0 m (pc + 1) ls (.ref (ad (t + 1 + x.toNatClampNeg)) :: rest))) : W p l e R s m args below meth c H locs cells slots Q (F0 m pc ls (.int x :: .ref (ad t) :: rest)) := by
  obtain ⟨hx, hb, -, hown, hts, hK, -, -, -, -⟩ := F
  have ha : (gwl ad cy N cm dm)[t]? = some (ad t, .inl (cy 4, gal t, .inr (.inr (.inr (.inr (fun k => some (ad (t + 1 + k)))))))) := by rw [gwl_at ht, gwe_25 hk]
  have hin := gin (x := x) (n := gal t) (hn ▸ hi)
  have hlt : x.toNatClampNeg < gal t := Nat.not_le.mp fun q => hin (Or.inr q)
  have hK4 := (hK.2 4 (cy 4, .array .int) rfl).1
  exact W.aald (v := .ref (ad (t + 1 + x.toNatClampNeg))) (ty := .array .int) hx hb (G.1 t _ ha) (hK4 (gal t) (fun j => va_rf (some (ad (t + 1 + j))))) rfl (fun q => by cases q) (by show ¬ (x < 0 ∨ (arrV _ _ _).slots.size ≤ _); rw [arrV_size]; exact hin) (by show (arrV _ _ _).slots[_]? = _; rw [arrV_read _ _ hlt]; rfl) rfl rfl hdg kk
theorem gx_copy (F : gF sa D ad cy N A p s m args c cc nL Ts own) (G : gW D ad cy N A H0 cm dm H locs) (hls : ls.size = nL) {index t u n1 n2 : Nat} {x y z : Int32} (hl1 : Cond.methodLink own index arraycopyName ∈ Ts) (hl2 : Cond.native arraycopyName ∈ Ts) (hl3 : Cond.static arraycopyName ∈ Ts) (hl4 : Cond.initialized "java/lang/System" ∈ Ts) (hk : gck t = 12) (ht : t < N) (hn : gal t = n1) (hk2 : gck u = 12) (ht2 : u < N) (hn2 : gal u = n2) (hi : 0 ≤ x.toInt ∧ 0 ≤ y.toInt ∧ 0 ≤ z.toInt ∧ x.toInt + z.toInt ≤ n1 ∧ y.toInt + z.toInt ≤ n2) (hframes : 1 ≤ R.frames) (hlocals : (rest.map fun v => v.category).sum + (nativeFrameWords "java/lang/System" "arraycopy" 5 + 11) ≤ R.locals) (hdg : decode cc pc = .ok (.invokestatic index, 3))
    (kk : ∀ (H1 : Heap) (locs1 : List Loc), gW D ad cy N A H0 (gm_r cm u (va_cpy (cm.1 t) (cm.1 u) x.toNatClampNeg y.toNatClampNeg z.toNatClampNeg)) dm H1 locs1 → W p l e R s m args below meth c H1 locs1 cells slots Q (F0 m (pc + 3) ls rest)) : W p l e R s m args below meth c H locs cells slots Q (F0 m pc ls (.int z :: .int y :: .ref (ad u) :: .int x :: .ref (ad t) :: rest)) := by
  obtain ⟨hx, hb, hml, hown, hts, hK, hI, hA, -, -⟩ := F
  obtain ⟨i1, i2, i3, i4, i5⟩ := hi
  subst hn
  subst hn2
  have nn : ∀ q : Int32, 0 ≤ q.toInt → ¬ q < 0 ∧ q.toInt = (q.toNatClampNeg : Int) := fun q h => ⟨fun q2 => by have := Int32.lt_iff_toInt_lt.mp q2; simp at this; omega, by show q.toInt = ((q.toInt.toNat : Nat) : Int); omega⟩
  have e1 := nn x i1
  have e2 := nn y i2
  have e3 := nn z i3
  refine va_copyi hx hb (hml.trans hls.symm) hown (hts _ hl1) (hts _ hl2) (hts _ hl3) (hts _ hl4) hK G.1 (gwl_D hI hA) G.2 t u 0 0 (by rw [gwl_at ht, gwe_12 hk]) (by rw [gwl_at ht2, gwe_12 hk2]) rfl rfl rfl e1.1 e2.1 e3.1 (by omega) (by omega) (fun _ _ => rfl) hframes hlocals hdg (fun H1 locs1 hP hD hS => ?_)
  rw [gwl_set (c2 := gm_r cm u (va_cpy (cm.1 t) (cm.1 u) x.toNatClampNeg y.toNatClampNeg z.toNatClampNeg)) (d2 := dm) (by rw [gwe_12 hk2]; simp [gm_r, va_up_self]) (fun i h => gwe_rc h)] at hP
  exact kk H1 locs1 ⟨hP, hS⟩
theorem gx_slen (F : gF sa D ad cy N A p s m args c cc nL Ts own) (G : gW D ad cy N A s.heap cm dm H locs) {w : Nat} (hw : w < 18) (hdg : decode cc pc = .ok (.arraylength, 1)) (kk : W p l e R s m args below meth c H locs cells slots Q (F0 m (pc + 1) ls (.int (nI (gsn w)) :: rest))) : W p l e R s m args below meth c H locs cells slots Q (F0 m pc ls (.ref (sa.2 w) :: rest)) :=
  va_tlen F.1 F.2.1 (F.2.2.2.2.2.2.2.2.2.1.1 w hw).2.2.2 G.2 rfl hdg kk
theorem gx_sb (F : gF sa D ad cy N A p s m args c cc nL Ts own) (G : gW D ad cy N A s.heap cm dm H locs) {w : Nat} {x : Int32} (hw : w < 18) (hi : 0 ≤ x.toInt ∧ x.toInt < (gsn w : Nat)) (hdg : decode cc pc = .ok (.baload, 1)) (kk : W p l e R s m args below meth c H locs cells slots Q (F0 m (pc + 1) ls (.int (gsb w x.toNatClampNeg) :: rest))) : W p l e R s m args below meth c H locs cells slots Q (F0 m pc ls (.int x :: .ref (sa.2 w) :: rest)) :=
  va_tb F.1 F.2.1 (F.2.2.2.2.2.2.2.2.2.1.1 w hw).2.2.2 G.2 (gin hi) rfl hdg kk
theorem gx_comp (F : gF sa D ad cy N A p s m args c cc nL Ts own) (G : gW D ad cy N A s.heap cm dm H locs) {index : Nat} (hl : Cond.fieldLink own index "java/lang/String" "COMPACT_STRINGS" "Z" ∈ Ts) (hdg : decode cc pc = .ok (.getstatic index, 3)) (kk : W p l e R s m args below meth c H locs cells slots Q (F0 m (pc + 3) ls (.int 1 :: rest))) : W p l e R s m args below meth c H locs cells slots Q (F0 m pc ls rest) :=
  va_gets F.1 F.2.1 F.2.2.2.2.2.2.2.2.2.2.1.1 G.2 F.2.2.2.1 (F.2.2.2.2.1 _ hl) (fun _ h => h) hdg kk
theorem gx_fmt (F : gF sa D ad cy N A p s m args c cc nL Ts own) (G : gW D ad cy N A s.heap cm dm H locs) {index : Nat} (hl : Cond.fieldLink own index "jdk/internal/util/Preconditions" "SIOOBE_FORMATTER" "Ljava/util/function/BiFunction;" ∈ Ts) (hdg : decode cc pc = .ok (.getstatic index, 3)) (kk : ∀ v : Value, (v = .null ∨ ∃ q : Nat, v = .ref q) → W p l e R s m args below meth c H locs cells slots Q (F0 m (pc + 3) ls (v :: rest))) : W p l e R s m args below meth c H locs cells slots Q (F0 m pc ls rest) := by
  rcases F.2.2.2.2.2.2.2.2.2.2.1.2 with h | ⟨q, h⟩
  · exact va_gets F.1 F.2.1 h G.2 F.2.2.2.1 (F.2.2.2.2.1 _ hl) (fun _ h => h) hdg (kk _ (Or.inl rfl))
  · exact va_gets F.1 F.2.1 h G.2 F.2.2.2.1 (F.2.2.2.2.1 _ hl) (fun _ h => h) hdg (kk _ (Or.inr ⟨q, rfl⟩))
theorem gx_srec (F : gF sa D ad cy N A p s m args c cc nL Ts own) (G : gW D ad cy N A s.heap cm dm H locs) {w : Nat} (hw : w < 18) {As : List Value} : PreV s H "java/lang/String" (sa.1 w) (va_Pc (.ref (sa.1 w) :: As) (gP sa D ad cy N H.size cm dm)) As := by
  obtain ⟨h1, h2⟩ := gx_pre F G (As := .ref (sa.1 w) :: As)
  exact ⟨h1, vk_recv F.2.2.2.2.2.2.2.2.2.1 hw G.2, h2⟩
theorem gx_ldcS (F : gF sa D ad cy N A p s m args c cc nL Ts own) {index w : Nat} {tx : String} (h : (own, index, tx, w) ∈ gsites) (hdg : decode cc pc = .ok (.ldc index, 2)) (kk : W p l e R s m args below meth c H locs cells slots Q (F0 m (pc + 2) ls (.ref (sa.1 w) :: rest))) : W p l e R s m args below meth c H locs cells slots Q (F0 m pc ls rest) :=
  va_ldcS F.1 F.2.1 F.2.2.2.1 (gZ_site F.2.2.2.2.2.2.2.2.2 own index tx w h) hdg kk
theorem gx_scod (F : gF sa D ad cy N A p s m args c cc nL Ts own) (G : gW D ad cy N A s.heap cm dm H locs) {index w : Nat} (hw : w < 18) (hl : Cond.fieldLink own index "java/lang/String" "coder" "B" ∈ Ts) (hdg : decode cc pc = .ok (.getfield index, 3)) (kk : W p l e R s m args below meth c H locs cells slots Q (F0 m (pc + 3) ls (.int 0 :: rest))) : W p l e R s m args below meth c H locs cells slots Q (F0 m pc ls (.ref (sa.1 w) :: rest)) :=
  vk_getf F.1 F.2.1 (F.2.2.2.2.2.2.2.2.2.1.1 w hw).2.1 G.2 F.2.2.2.1 (F.2.2.2.2.1 _ hl) (fun _ h => h) hdg kk
theorem gx_sval (F : gF sa D ad cy N A p s m args c cc nL Ts own) (G : gW D ad cy N A s.heap cm dm H locs) {index w : Nat} (hw : w < 18) (hl : Cond.fieldLink own index "java/lang/String" "value" "[B" ∈ Ts) (hdg : decode cc pc = .ok (.getfield index, 3)) (kk : W p l e R s m args below meth c H locs cells slots Q (F0 m (pc + 3) ls (.ref (sa.2 w) :: rest))) : W p l e R s m args below meth c H locs cells slots Q (F0 m pc ls (.ref (sa.1 w) :: rest)) :=
  vk_getf F.1 F.2.1 (F.2.2.2.2.2.2.2.2.2.1.1 w hw).2.2.1 G.2 F.2.2.2.1 (F.2.2.2.2.1 _ hl) (fun _ h => h) hdg kk
theorem gatX9_demand {sa : gSa} {A : Nat → Prop} {args : Array Value} {s : State} (hts : ∀ w ∈ wsX9_demand, w.before args s = true) (hZ : gZ sa A s) : ∀ w ∈ vx_atS RX9 340 "java/lang/IllegalArgumentException" ["java/lang/RuntimeException", "java/lang/Exception"], w.before args s = true := by
  obtain ⟨-, -, -, -, -, ⟨h8, h9, h10⟩, ⟨h11, h12⟩, -⟩ := hZ
  exact vx_hat (B := [.declares (Bundle.initS "java/lang/RuntimeException"), .declares (Bundle.initS "java/lang/Exception"), .declares (Bundle.initS "java/lang/Throwable"), .castable "java/lang/IllegalArgumentException" "java/lang/IllegalArgumentException"]) (fun w h => hts w (List.mem_cons_of_mem _ (List.mem_append_right _ h))) (by decide +kernel) (vx_c (va_Nw.use rfl h8) (vx_c (va_Nw.use rfl h9) (vx_c (va_Nw.use rfl h10) (vx_c (va_Nw.use rfl h11) vx_n))))
theorem ggdX9_demand : ∀ w ∈ Cond.classLink RX9 336 "java/lang/IllegalArgumentException" :: Cond.initialized "java/lang/IllegalArgumentException" :: vx_atS RX9 340 "java/lang/IllegalArgumentException" ["java/lang/RuntimeException", "java/lang/Exception"], vx_ot w = true := by decide +kernel
theorem gx_thrown (F : gF sa D ad cy N A p s m args c cc nL Ts own) (G : gW D ad cy N A s.heap cm dm H locs) {k : Nat} {E : String} (hE : E = gxn k) {t : State} (hvm : s.vm.Alike t.vm) (hz : H.size ≤ t.heap.size) (hk : ∀ q : Nat, q < H.size → t.heap[q]? = H[q]?) : vx_X (fun (_ : Unit) => True) (fun E _ U => E = gxn k ∧ gE D ad cy N cm dm U) A E s t :=
  ⟨(), trivial, ⟨hE, G.1.kept (fun k9 q hq => hk q.1 ((G.1 k9 q hq).lt)), va_K.moved hvm F.2.2.2.2.2.1⟩, Nat.le_trans G.2.1 hz, fun q h1 h2 => by rw [hk q (Nat.lt_of_lt_of_le h1 G.2.1)]; exact G.2.2.1 q h1 h2⟩
theorem gx_xv (F : gF sa D ad cy N A p s m args c cc nL Ts own) (G : gW D ad cy N A s.heap cm dm H locs) (htab : ∀ x ∈ c.exceptionTable.toList, False) (hlk : meth.locks = false) {st0 : List Value} {a : Array Value} {k : Nat} {cm2 dm2 : gm} {Qc : Array Value → State → Outcome → State → Prop} (hr : vx_Run p l e R s m args below meth c H locs 0 0 1 6 (F0 m pc ls st0) rest (va_Qv (fun (_ : Unit) => False) (fun _ _ => True) (gA ad N H.size) a) (vx_X (fun (_ : Unit) => True) (fun E _ U => E = gxn k ∧ gE D ad cy N cm2 dm2 U) (gA ad N H.size)) (gA ad N H.size)) : W p l e R s m args below meth c H locs 0 0 (vx_MQ below Qc (vx_X (fun (_ : Unit) => True) (fun E _ U => E = gxn k ∧ gE D ad cy N cm2 dm2 U) A) args s 1 6 A) (F0 m pc ls st0) := by
  obtain ⟨hx, hb, -, hown, hts, hK, hI, hA, hZ, -⟩ := F
  have hm := gA_mono (sz := H.size) hA (fun q h => hZ q (Nat.le_trans G.2.1 h))
  refine vx_callv hr G.2 (fun q _ h => hm q h) hm (fun q _ h => hm q h) (fun E ce q9 u t H1 locs1 ht hvm hp hB hz hk hS hc hv hcl => ?_) (fun u t H1 locs1 ht hvm hw hB hz hk hS => hw.elim)
  exact vx_out (fun x h => (htab x h).elim) hlk hc hv hcl (fun t2 ht2 hvm2 => ⟨(), trivial, ⟨hB.1, by rw [ht2, ← ht]; exact hB.2.1, va_K.moved hvm2 hK⟩, hS.F ht2⟩) hS.2.2 (Nat.le_refl _) (Nat.le_refl _)
theorem gck_lt0 {i : Nat} (h : gck i = 0) : i < 55 := by
  unfold gck at h
  repeat' (split at h)
  all_goals omega
theorem gck_lt1 {i : Nat} (h : gck i = 1) : i < 55 := by
  unfold gck at h
  repeat' (split at h)
  all_goals omega
theorem gck_lt2 {i : Nat} (h : gck i = 2) : i < 55 := by
  unfold gck at h
  repeat' (split at h)
  all_goals omega
theorem gck_lt3 {i : Nat} (h : gck i = 3) : i < 55 := by
  unfold gck at h
  repeat' (split at h)
  all_goals omega
theorem gck_lt4 {i : Nat} (h : gck i = 4) : i < 55 := by
  unfold gck at h
  repeat' (split at h)
  all_goals omega
theorem gck_lt5 {i : Nat} (h : gck i = 5) : i < 55 := by
  unfold gck at h
  repeat' (split at h)
  all_goals omega
theorem gck_lt6 {i : Nat} (h : gck i = 6) : i < 55 := by
  unfold gck at h
  repeat' (split at h)
  all_goals omega
theorem gck_lt7 {i : Nat} (h : gck i = 7) : i < 55 := by
  unfold gck at h
  repeat' (split at h)
  all_goals omega
theorem gck_lt8 {i : Nat} (h : gck i = 8) : i < 55 := by
  unfold gck at h
  repeat' (split at h)
  all_goals omega
theorem gck_lt9 {i : Nat} (h : gck i = 9) : i < 55 := by
  unfold gck at h
  repeat' (split at h)
  all_goals omega
theorem gck_lt10 {i : Nat} (h : gck i = 10) : i < 530 := by
  unfold gck at h
  repeat' (split at h)
  all_goals omega
theorem gck_lt12 {i : Nat} (h : gck i = 12) : i < 55 := by
  unfold gck at h
  repeat' (split at h)
  all_goals omega
theorem gck_lt13 {i : Nat} (h : gck i = 13) : i < 55 := by
  unfold gck at h
  repeat' (split at h)
  all_goals omega
theorem gck_lt14 {i : Nat} (h : gck i = 14) : i < 55 := by
  unfold gck at h
  repeat' (split at h)
  all_goals omega
theorem gck_lt22 {i : Nat} (h : gck i = 22) : i < 530 := by
  unfold gck at h
  repeat' (split at h)
  all_goals omega
theorem gck_lt24 {i : Nat} (h : gck i = 24) : i < 530 := by
  unfold gck at h
  repeat' (split at h)
  all_goals omega
theorem gck_lt25 {i : Nat} (h : gck i = 25) : i < 530 := by
  unfold gck at h
  repeat' (split at h)
  all_goals omega
theorem gck_lt26 {i : Nat} (h : gck i = 26) : i < 531 := by
  unfold gck at h
  repeat' (split at h)
  all_goals omega
theorem gka_0_left {i : Nat} (h : gck i = 0) : gck (i + 1) = 12 ∧ gal (i + 1) = 6 := by
  have hl := gck_lt0 h
  revert h
  revert hl
  revert i
  decide
theorem gka_0_right {i : Nat} (h : gck i = 0) : gck (i + 2) = 12 ∧ gal (i + 2) = 6 := by
  have hl := gck_lt0 h
  revert h
  revert hl
  revert i
  decide
theorem gka_0_stood {i : Nat} (h : gck i = 0) : gck (i + 3) = 12 ∧ gal (i + 3) = 6 := by
  have hl := gck_lt0 h
  revert h
  revert hl
  revert i
  decide
theorem gka_0_fitting {i : Nat} (h : gck i = 0) : gck (i + 4) = 14 ∧ gal (i + 4) = 190 := by
  have hl := gck_lt0 h
  revert h
  revert hl
  revert i
  decide
theorem gka_0_leftBy {i : Nat} (h : gck i = 0) : gck (i + 5) = 12 ∧ gal (i + 5) = 3 := by
  have hl := gck_lt0 h
  revert h
  revert hl
  revert i
  decide
theorem gka_1_fatRings {i : Nat} (h : gck i = 1) : gck (i + 1) = 12 ∧ gal (i + 1) = 1024 := by
  have hl := gck_lt1 h
  revert h
  revert hl
  revert i
  decide
theorem gka_3_marks {i : Nat} (h : gck i = 3) : gck (i + 1) = 12 ∧ gal (i + 1) = 150 := by
  have hl := gck_lt3 h
  revert h
  revert hl
  revert i
  decide
theorem gka_3_operands {i : Nat} (h : gck i = 3) : gck (i + 2) = 12 ∧ gal (i + 2) = 150 := by
  have hl := gck_lt3 h
  revert h
  revert hl
  revert i
  decide
theorem gka_3_values {i : Nat} (h : gck i = 3) : gck (i + 3) = 12 ∧ gal (i + 3) = 7 := by
  have hl := gck_lt3 h
  revert h
  revert hl
  revert i
  decide
theorem gka_3_stack {i : Nat} (h : gck i = 3) : gck (i + 4) = 12 ∧ gal (i + 4) = 24 := by
  have hl := gck_lt3 h
  revert h
  revert hl
  revert i
  decide
theorem gka_4_sums {i : Nat} (h : gck i = 4) : gck (i + 1) = 12 ∧ gal (i + 1) = 256 := by
  have hl := gck_lt4 h
  revert h
  revert hl
  revert i
  decide
theorem gka_4_matched {i : Nat} (h : gck i = 4) : gck (i + 2) = 14 ∧ gal (i + 2) = 481 := by
  have hl := gck_lt4 h
  revert h
  revert hl
  revert i
  decide
theorem gka_5_workRows {i : Nat} (h : gck i = 5) : gck (i + 1) = 12 ∧ gal (i + 1) = 960 := by
  have hl := gck_lt5 h
  revert h
  revert hl
  revert i
  decide
theorem gka_5_imageRows {i : Nat} (h : gck i = 5) : gck (i + 2) = 12 ∧ gal (i + 2) = 3060 := by
  have hl := gck_lt5 h
  revert h
  revert hl
  revert i
  decide
theorem gka_5_imageWorks {i : Nat} (h : gck i = 5) : gck (i + 3) = 12 ∧ gal (i + 3) = 3 := by
  have hl := gck_lt5 h
  revert h
  revert hl
  revert i
  decide
theorem gka_6_told {i : Nat} (h : gck i = 6) : gck (i + 1) = 12 ∧ gal (i + 1) = 8 := by
  have hl := gck_lt6 h
  revert h
  revert hl
  revert i
  decide
theorem gka_6_weight {i : Nat} (h : gck i = 6) : gck (i + 2) = 12 ∧ gal (i + 2) = 8 := by
  have hl := gck_lt6 h
  revert h
  revert hl
  revert i
  decide
theorem gka_6_weighed {i : Nat} (h : gck i = 6) : gck (i + 3) = 12 ∧ gal (i + 3) = 8 := by
  have hl := gck_lt6 h
  revert h
  revert hl
  revert i
  decide
theorem gka_6_wear {i : Nat} (h : gck i = 6) : gck (i + 4) = 12 ∧ gal (i + 4) = 8 := by
  have hl := gck_lt6 h
  revert h
  revert hl
  revert i
  decide
theorem gka_6_cryParts {i : Nat} (h : gck i = 6) : gck (i + 5) = 12 ∧ gal (i + 5) = 40 := by
  have hl := gck_lt6 h
  revert h
  revert hl
  revert i
  decide
theorem gka_7_bytes {i : Nat} (h : gck i = 7) : gck (i + 1) = 13 ∧ gal (i + 1) = 600 := by
  have hl := gck_lt7 h
  revert h
  revert hl
  revert i
  decide
theorem gka_8_parts {i : Nat} (h : gck i = 8) : gck (i + 1) = 12 ∧ gal (i + 1) = 190 := by
  have hl := gck_lt8 h
  revert h
  revert hl
  revert i
  decide
theorem gck_9 {i : Nat} (h : gck i = 9) : i = 0 := by
  unfold gck at h
  repeat' (split at h)
  all_goals omega
theorem gka_2_end {i : Nat} (h : gck i = 2) : gck (i + 1) = 6 := by
  have hl := gck_lt2 h
  revert h
  revert hl
  revert i
  decide
theorem fg_0_left (F : gF sa D ad cy N A p s m args c cc nL Ts own) (G : gW D ad cy N A H0 cm dm H locs) {index t : Nat} (hk : gck t = 0) (ht : t < N) (hin : ∀ w ∈ wsX00, w ∈ Ts) (hl : Cond.fieldLink own index "LeaningMarket$Book" "left" "[I" ∈ Ts) (hdg : decode cc pc = .ok (.getfield index, 3)) (kk : W p l e R s m args below meth c H locs cells slots Q (F0 m (pc + 3) ls (.ref (ad (t + 1)) :: rest))) : W p l e R s m args below meth c H locs cells slots Q (F0 m pc ls (.ref (ad t) :: rest)) :=
  gx_get F G ht (gwe_0 hk) rfl hin 0 (by decide) hl rfl hdg kk
theorem fg_0_right (F : gF sa D ad cy N A p s m args c cc nL Ts own) (G : gW D ad cy N A H0 cm dm H locs) {index t : Nat} (hk : gck t = 0) (ht : t < N) (hin : ∀ w ∈ wsX00, w ∈ Ts) (hl : Cond.fieldLink own index "LeaningMarket$Book" "right" "[I" ∈ Ts) (hdg : decode cc pc = .ok (.getfield index, 3)) (kk : W p l e R s m args below meth c H locs cells slots Q (F0 m (pc + 3) ls (.ref (ad (t + 2)) :: rest))) : W p l e R s m args below meth c H locs cells slots Q (F0 m pc ls (.ref (ad t) :: rest)) :=
  gx_get F G ht (gwe_0 hk) rfl hin 1 (by decide) hl rfl hdg kk
theorem fg_0_stood (F : gF sa D ad cy N A p s m args c cc nL Ts own) (G : gW D ad cy N A H0 cm dm H locs) {index t : Nat} (hk : gck t = 0) (ht : t < N) (hin : ∀ w ∈ wsX00, w ∈ Ts) (hl : Cond.fieldLink own index "LeaningMarket$Book" "stood" "[I" ∈ Ts) (hdg : decode cc pc = .ok (.getfield index, 3)) (kk : W p l e R s m args below meth c H locs cells slots Q (F0 m (pc + 3) ls (.ref (ad (t + 3)) :: rest))) : W p l e R s m args below meth c H locs cells slots Q (F0 m pc ls (.ref (ad t) :: rest)) :=
  gx_get F G ht (gwe_0 hk) rfl hin 2 (by decide) hl rfl hdg kk
theorem fg_0_fitting (F : gF sa D ad cy N A p s m args c cc nL Ts own) (G : gW D ad cy N A H0 cm dm H locs) {index t : Nat} (hk : gck t = 0) (ht : t < N) (hin : ∀ w ∈ wsX00, w ∈ Ts) (hl : Cond.fieldLink own index "LeaningMarket$Book" "fitting" "[Z" ∈ Ts) (hdg : decode cc pc = .ok (.getfield index, 3)) (kk : W p l e R s m args below meth c H locs cells slots Q (F0 m (pc + 3) ls (.ref (ad (t + 4)) :: rest))) : W p l e R s m args below meth c H locs cells slots Q (F0 m pc ls (.ref (ad t) :: rest)) :=
  gx_get F G ht (gwe_0 hk) rfl hin 3 (by decide) hl rfl hdg kk
theorem fg_0_leftBy (F : gF sa D ad cy N A p s m args c cc nL Ts own) (G : gW D ad cy N A H0 cm dm H locs) {index t : Nat} (hk : gck t = 0) (ht : t < N) (hin : ∀ w ∈ wsX00, w ∈ Ts) (hl : Cond.fieldLink own index "LeaningMarket$Book" "leftBy" "[I" ∈ Ts) (hdg : decode cc pc = .ok (.getfield index, 3)) (kk : W p l e R s m args below meth c H locs cells slots Q (F0 m (pc + 3) ls (.ref (ad (t + 5)) :: rest))) : W p l e R s m args below meth c H locs cells slots Q (F0 m pc ls (.ref (ad t) :: rest)) :=
  gx_get F G ht (gwe_0 hk) rfl hin 4 (by decide) hl rfl hdg kk
theorem fg_0_size (F : gF sa D ad cy N A p s m args c cc nL Ts own) (G : gW D ad cy N A H0 cm dm H locs) {index t : Nat} (hk : gck t = 0) (ht : t < N) (hin : ∀ w ∈ wsX00, w ∈ Ts) (hl : Cond.fieldLink own index "LeaningMarket$Book" "size" "I" ∈ Ts) (hdg : decode cc pc = .ok (.getfield index, 3)) (kk : W p l e R s m args below meth c H locs cells slots Q (F0 m (pc + 3) ls (.int (cm.1 t 5) :: rest))) : W p l e R s m args below meth c H locs cells slots Q (F0 m pc ls (.ref (ad t) :: rest)) :=
  gx_get F G ht (gwe_0 hk) rfl hin 5 (by decide) hl rfl hdg kk
theorem fp_0_size (F : gF sa D ad cy N A p s m args c cc nL Ts own) (G : gW D ad cy N A H0 cm dm H locs) {index t : Nat} (hk : gck t = 0) (ht : t < N) (hin : ∀ w ∈ wsX00, w ∈ Ts) (hl : Cond.fieldLink own index "LeaningMarket$Book" "size" "I" ∈ Ts) {x : Int32} (hdg : decode cc pc = .ok (.putfield index, 3)) (kk : ∀ (H1 : Heap) (locs1 : List Loc), gW D ad cy N A H0 (gm_r cm t (upd (cm.1 t) 5 x)) dm H1 locs1 → W p l e R s m args below meth c H1 locs1 cells slots Q (F0 m (pc + 3) ls rest)) : W p l e R s m args below meth c H locs cells slots Q (F0 m pc ls (.int x :: .ref (ad t) :: rest)) :=
  gx_put F G (ty := .int) ht (gwe_0 hk) rfl hin tyX0 tyX0_ok nmX0 5 (by decide) hl rfl (by decide +kernel) rfl rfl (Nat.le_of_ble_eq_true rfl) (by rw [gwe_0 hk]; simp [gm_r, va_up_self, upd]) (fun i h => gwe_rc h) hdg kk
theorem fg_0_pairs (F : gF sa D ad cy N A p s m args c cc nL Ts own) (G : gW D ad cy N A H0 cm dm H locs) {index t : Nat} (hk : gck t = 0) (ht : t < N) (hin : ∀ w ∈ wsX00, w ∈ Ts) (hl : Cond.fieldLink own index "LeaningMarket$Book" "pairs" "I" ∈ Ts) (hdg : decode cc pc = .ok (.getfield index, 3)) (kk : W p l e R s m args below meth c H locs cells slots Q (F0 m (pc + 3) ls (.int (cm.1 t 6) :: rest))) : W p l e R s m args below meth c H locs cells slots Q (F0 m pc ls (.ref (ad t) :: rest)) :=
  gx_get F G ht (gwe_0 hk) rfl hin 6 (by decide) hl rfl hdg kk
theorem fp_0_pairs (F : gF sa D ad cy N A p s m args c cc nL Ts own) (G : gW D ad cy N A H0 cm dm H locs) {index t : Nat} (hk : gck t = 0) (ht : t < N) (hin : ∀ w ∈ wsX00, w ∈ Ts) (hl : Cond.fieldLink own index "LeaningMarket$Book" "pairs" "I" ∈ Ts) {x : Int32} (hdg : decode cc pc = .ok (.putfield index, 3)) (kk : ∀ (H1 : Heap) (locs1 : List Loc), gW D ad cy N A H0 (gm_r cm t (upd (cm.1 t) 6 x)) dm H1 locs1 → W p l e R s m args below meth c H1 locs1 cells slots Q (F0 m (pc + 3) ls rest)) : W p l e R s m args below meth c H locs cells slots Q (F0 m pc ls (.int x :: .ref (ad t) :: rest)) :=
  gx_put F G (ty := .int) ht (gwe_0 hk) rfl hin tyX0 tyX0_ok nmX0 6 (by decide) hl rfl (by decide +kernel) rfl rfl (Nat.le_of_ble_eq_true rfl) (by rw [gwe_0 hk]; simp [gm_r, va_up_self, upd]) (fun i h => gwe_rc h) hdg kk
theorem fg_0_nextTwo (F : gF sa D ad cy N A p s m args c cc nL Ts own) (G : gW D ad cy N A H0 cm dm H locs) {index t : Nat} (hk : gck t = 0) (ht : t < N) (hin : ∀ w ∈ wsX00, w ∈ Ts) (hl : Cond.fieldLink own index "LeaningMarket$Book" "nextTwo" "I" ∈ Ts) (hdg : decode cc pc = .ok (.getfield index, 3)) (kk : W p l e R s m args below meth c H locs cells slots Q (F0 m (pc + 3) ls (.int (cm.1 t 7) :: rest))) : W p l e R s m args below meth c H locs cells slots Q (F0 m pc ls (.ref (ad t) :: rest)) :=
  gx_get F G ht (gwe_0 hk) rfl hin 7 (by decide) hl rfl hdg kk
theorem fp_0_nextTwo (F : gF sa D ad cy N A p s m args c cc nL Ts own) (G : gW D ad cy N A H0 cm dm H locs) {index t : Nat} (hk : gck t = 0) (ht : t < N) (hin : ∀ w ∈ wsX00, w ∈ Ts) (hl : Cond.fieldLink own index "LeaningMarket$Book" "nextTwo" "I" ∈ Ts) {x : Int32} (hdg : decode cc pc = .ok (.putfield index, 3)) (kk : ∀ (H1 : Heap) (locs1 : List Loc), gW D ad cy N A H0 (gm_r cm t (upd (cm.1 t) 7 x)) dm H1 locs1 → W p l e R s m args below meth c H1 locs1 cells slots Q (F0 m (pc + 3) ls rest)) : W p l e R s m args below meth c H locs cells slots Q (F0 m pc ls (.int x :: .ref (ad t) :: rest)) :=
  gx_put F G (ty := .int) ht (gwe_0 hk) rfl hin tyX0 tyX0_ok nmX0 7 (by decide) hl rfl (by decide +kernel) rfl rfl (Nat.le_of_ble_eq_true rfl) (by rw [gwe_0 hk]; simp [gm_r, va_up_self, upd]) (fun i h => gwe_rc h) hdg kk
theorem fg_0_leftAtWorst (F : gF sa D ad cy N A p s m args c cc nL Ts own) (G : gW D ad cy N A H0 cm dm H locs) {index t : Nat} (hk : gck t = 0) (ht : t < N) (hin : ∀ w ∈ wsX00, w ∈ Ts) (hl : Cond.fieldLink own index "LeaningMarket$Book" "leftAtWorst" "I" ∈ Ts) (hdg : decode cc pc = .ok (.getfield index, 3)) (kk : W p l e R s m args below meth c H locs cells slots Q (F0 m (pc + 3) ls (.int (cm.1 t 8) :: rest))) : W p l e R s m args below meth c H locs cells slots Q (F0 m pc ls (.ref (ad t) :: rest)) :=
  gx_get F G ht (gwe_0 hk) rfl hin 8 (by decide) hl rfl hdg kk
theorem fp_0_leftAtWorst (F : gF sa D ad cy N A p s m args c cc nL Ts own) (G : gW D ad cy N A H0 cm dm H locs) {index t : Nat} (hk : gck t = 0) (ht : t < N) (hin : ∀ w ∈ wsX00, w ∈ Ts) (hl : Cond.fieldLink own index "LeaningMarket$Book" "leftAtWorst" "I" ∈ Ts) {x : Int32} (hdg : decode cc pc = .ok (.putfield index, 3)) (kk : ∀ (H1 : Heap) (locs1 : List Loc), gW D ad cy N A H0 (gm_r cm t (upd (cm.1 t) 8 x)) dm H1 locs1 → W p l e R s m args below meth c H1 locs1 cells slots Q (F0 m (pc + 3) ls rest)) : W p l e R s m args below meth c H locs cells slots Q (F0 m pc ls (.int x :: .ref (ad t) :: rest)) :=
  gx_put F G (ty := .int) ht (gwe_0 hk) rfl hin tyX0 tyX0_ok nmX0 8 (by decide) hl rfl (by decide +kernel) rfl rfl (Nat.le_of_ble_eq_true rfl) (by rw [gwe_0 hk]; simp [gm_r, va_up_self, upd]) (fun i h => gwe_rc h) hdg kk
theorem fg_1_fatRings (F : gF sa D ad cy N A p s m args c cc nL Ts own) (G : gW D ad cy N A H0 cm dm H locs) {index t : Nat} (hk : gck t = 1) (ht : t < N) (hin : ∀ w ∈ wsX10, w ∈ Ts) (hl : Cond.fieldLink own index "LeaningMarket$Chains" "fatRings" "[I" ∈ Ts) (hdg : decode cc pc = .ok (.getfield index, 3)) (kk : W p l e R s m args below meth c H locs cells slots Q (F0 m (pc + 3) ls (.ref (ad (t + 1)) :: rest))) : W p l e R s m args below meth c H locs cells slots Q (F0 m pc ls (.ref (ad t) :: rest)) :=
  gx_get F G ht (gwe_1 hk) rfl hin 0 (by decide) hl rfl hdg kk
theorem fg_1_fatCount (F : gF sa D ad cy N A p s m args c cc nL Ts own) (G : gW D ad cy N A H0 cm dm H locs) {index t : Nat} (hk : gck t = 1) (ht : t < N) (hin : ∀ w ∈ wsX10, w ∈ Ts) (hl : Cond.fieldLink own index "LeaningMarket$Chains" "fatCount" "I" ∈ Ts) (hdg : decode cc pc = .ok (.getfield index, 3)) (kk : W p l e R s m args below meth c H locs cells slots Q (F0 m (pc + 3) ls (.int (cm.1 t 1) :: rest))) : W p l e R s m args below meth c H locs cells slots Q (F0 m pc ls (.ref (ad t) :: rest)) :=
  gx_get F G ht (gwe_1 hk) rfl hin 1 (by decide) hl rfl hdg kk
theorem fp_1_fatCount (F : gF sa D ad cy N A p s m args c cc nL Ts own) (G : gW D ad cy N A H0 cm dm H locs) {index t : Nat} (hk : gck t = 1) (ht : t < N) (hin : ∀ w ∈ wsX10, w ∈ Ts) (hl : Cond.fieldLink own index "LeaningMarket$Chains" "fatCount" "I" ∈ Ts) {x : Int32} (hdg : decode cc pc = .ok (.putfield index, 3)) (kk : ∀ (H1 : Heap) (locs1 : List Loc), gW D ad cy N A H0 (gm_r cm t (upd (cm.1 t) 1 x)) dm H1 locs1 → W p l e R s m args below meth c H1 locs1 cells slots Q (F0 m (pc + 3) ls rest)) : W p l e R s m args below meth c H locs cells slots Q (F0 m pc ls (.int x :: .ref (ad t) :: rest)) :=
  gx_put F G (ty := .int) ht (gwe_1 hk) rfl hin tyX1 tyX1_ok nmX1 1 (by decide) hl rfl (by decide +kernel) rfl rfl (Nat.le_of_ble_eq_true rfl) (by rw [gwe_1 hk]; simp [gm_r, va_up_self, upd]) (fun i h => gwe_rc h) hdg kk
theorem fg_1_shortestFat (F : gF sa D ad cy N A p s m args c cc nL Ts own) (G : gW D ad cy N A H0 cm dm H locs) {index t : Nat} (hk : gck t = 1) (ht : t < N) (hin : ∀ w ∈ wsX10, w ∈ Ts) (hl : Cond.fieldLink own index "LeaningMarket$Chains" "shortestFat" "I" ∈ Ts) (hdg : decode cc pc = .ok (.getfield index, 3)) (kk : W p l e R s m args below meth c H locs cells slots Q (F0 m (pc + 3) ls (.int (cm.1 t 2) :: rest))) : W p l e R s m args below meth c H locs cells slots Q (F0 m pc ls (.ref (ad t) :: rest)) :=
  gx_get F G ht (gwe_1 hk) rfl hin 2 (by decide) hl rfl hdg kk
theorem fp_1_shortestFat (F : gF sa D ad cy N A p s m args c cc nL Ts own) (G : gW D ad cy N A H0 cm dm H locs) {index t : Nat} (hk : gck t = 1) (ht : t < N) (hin : ∀ w ∈ wsX10, w ∈ Ts) (hl : Cond.fieldLink own index "LeaningMarket$Chains" "shortestFat" "I" ∈ Ts) {x : Int32} (hdg : decode cc pc = .ok (.putfield index, 3)) (kk : ∀ (H1 : Heap) (locs1 : List Loc), gW D ad cy N A H0 (gm_r cm t (upd (cm.1 t) 2 x)) dm H1 locs1 → W p l e R s m args below meth c H1 locs1 cells slots Q (F0 m (pc + 3) ls rest)) : W p l e R s m args below meth c H locs cells slots Q (F0 m pc ls (.int x :: .ref (ad t) :: rest)) :=
  gx_put F G (ty := .int) ht (gwe_1 hk) rfl hin tyX1 tyX1_ok nmX1 2 (by decide) hl rfl (by decide +kernel) rfl rfl (Nat.le_of_ble_eq_true rfl) (by rw [gwe_1 hk]; simp [gm_r, va_up_self, upd]) (fun i h => gwe_rc h) hdg kk
theorem fg_1_goal (F : gF sa D ad cy N A p s m args c cc nL Ts own) (G : gW D ad cy N A H0 cm dm H locs) {index t : Nat} (hk : gck t = 1) (ht : t < N) (hin : ∀ w ∈ wsX10, w ∈ Ts) (hl : Cond.fieldLink own index "LeaningMarket$Chains" "goal" "I" ∈ Ts) (hdg : decode cc pc = .ok (.getfield index, 3)) (kk : W p l e R s m args below meth c H locs cells slots Q (F0 m (pc + 3) ls (.int (cm.1 t 3) :: rest))) : W p l e R s m args below meth c H locs cells slots Q (F0 m pc ls (.ref (ad t) :: rest)) :=
  gx_get F G ht (gwe_1 hk) rfl hin 3 (by decide) hl rfl hdg kk
theorem fp_1_goal (F : gF sa D ad cy N A p s m args c cc nL Ts own) (G : gW D ad cy N A H0 cm dm H locs) {index t : Nat} (hk : gck t = 1) (ht : t < N) (hin : ∀ w ∈ wsX10, w ∈ Ts) (hl : Cond.fieldLink own index "LeaningMarket$Chains" "goal" "I" ∈ Ts) {x : Int32} (hdg : decode cc pc = .ok (.putfield index, 3)) (kk : ∀ (H1 : Heap) (locs1 : List Loc), gW D ad cy N A H0 (gm_r cm t (upd (cm.1 t) 3 x)) dm H1 locs1 → W p l e R s m args below meth c H1 locs1 cells slots Q (F0 m (pc + 3) ls rest)) : W p l e R s m args below meth c H locs cells slots Q (F0 m pc ls (.int x :: .ref (ad t) :: rest)) :=
  gx_put F G (ty := .int) ht (gwe_1 hk) rfl hin tyX1 tyX1_ok nmX1 3 (by decide) hl rfl (by decide +kernel) rfl rfl (Nat.le_of_ble_eq_true rfl) (by rw [gwe_1 hk]; simp [gm_r, va_up_self, upd]) (fun i h => gwe_rc h) hdg kk
theorem fg_1_bestUp (F : gF sa D ad cy N A p s m args c cc nL Ts own) (G : gW D ad cy N A H0 cm dm H locs) {index t : Nat} (hk : gck t = 1) (ht : t < N) (hin : ∀ w ∈ wsX10, w ∈ Ts) (hl : Cond.fieldLink own index "LeaningMarket$Chains" "bestUp" "J" ∈ Ts) (hdg : decode cc pc = .ok (.getfield index, 3)) (kk : W p l e R s m args below meth c H locs cells slots Q (F0 m (pc + 3) ls (.long (cm.2.1 t 4) :: rest))) : W p l e R s m args below meth c H locs cells slots Q (F0 m pc ls (.ref (ad t) :: rest)) :=
  gx_get F G ht (gwe_1 hk) rfl hin 4 (by decide) hl rfl hdg kk
theorem fp_1_bestUp (F : gF sa D ad cy N A p s m args c cc nL Ts own) (G : gW D ad cy N A H0 cm dm H locs) {index t : Nat} (hk : gck t = 1) (ht : t < N) (hin : ∀ w ∈ wsX10, w ∈ Ts) (hl : Cond.fieldLink own index "LeaningMarket$Chains" "bestUp" "J" ∈ Ts) {x : Int64} (hdg : decode cc pc = .ok (.putfield index, 3)) (kk : ∀ (H1 : Heap) (locs1 : List Loc), gW D ad cy N A H0 (gm_l cm t (vp_updL (cm.2.1 t) 4 x)) dm H1 locs1 → W p l e R s m args below meth c H1 locs1 cells slots Q (F0 m (pc + 3) ls rest)) : W p l e R s m args below meth c H locs cells slots Q (F0 m pc ls (.long x :: .ref (ad t) :: rest)) :=
  gx_put F G (ty := .long) ht (gwe_1 hk) rfl hin tyX1 tyX1_ok nmX1 4 (by decide) hl rfl (by decide +kernel) rfl rfl (Nat.le_of_ble_eq_true rfl) (by rw [gwe_1 hk]; simp [gm_l, va_up_self, vp_updL]) (fun i h => gwe_lc h) hdg kk
theorem fg_1_bestDown (F : gF sa D ad cy N A p s m args c cc nL Ts own) (G : gW D ad cy N A H0 cm dm H locs) {index t : Nat} (hk : gck t = 1) (ht : t < N) (hin : ∀ w ∈ wsX10, w ∈ Ts) (hl : Cond.fieldLink own index "LeaningMarket$Chains" "bestDown" "J" ∈ Ts) (hdg : decode cc pc = .ok (.getfield index, 3)) (kk : W p l e R s m args below meth c H locs cells slots Q (F0 m (pc + 3) ls (.long (cm.2.1 t 5) :: rest))) : W p l e R s m args below meth c H locs cells slots Q (F0 m pc ls (.ref (ad t) :: rest)) :=
  gx_get F G ht (gwe_1 hk) rfl hin 5 (by decide) hl rfl hdg kk
theorem fp_1_bestDown (F : gF sa D ad cy N A p s m args c cc nL Ts own) (G : gW D ad cy N A H0 cm dm H locs) {index t : Nat} (hk : gck t = 1) (ht : t < N) (hin : ∀ w ∈ wsX10, w ∈ Ts) (hl : Cond.fieldLink own index "LeaningMarket$Chains" "bestDown" "J" ∈ Ts) {x : Int64} (hdg : decode cc pc = .ok (.putfield index, 3)) (kk : ∀ (H1 : Heap) (locs1 : List Loc), gW D ad cy N A H0 (gm_l cm t (vp_updL (cm.2.1 t) 5 x)) dm H1 locs1 → W p l e R s m args below meth c H1 locs1 cells slots Q (F0 m (pc + 3) ls rest)) : W p l e R s m args below meth c H locs cells slots Q (F0 m pc ls (.long x :: .ref (ad t) :: rest)) :=
  gx_put F G (ty := .long) ht (gwe_1 hk) rfl hin tyX1 tyX1_ok nmX1 5 (by decide) hl rfl (by decide +kernel) rfl rfl (Nat.le_of_ble_eq_true rfl) (by rw [gwe_1 hk]; simp [gm_l, va_up_self, vp_updL]) (fun i h => gwe_lc h) hdg kk
theorem fg_2_end (F : gF sa D ad cy N A p s m args c cc nL Ts own) (G : gW D ad cy N A H0 cm dm H locs) {index t : Nat} (hk : gck t = 2) (ht : t < N) (hin : ∀ w ∈ wsX20, w ∈ Ts) (hl : Cond.fieldLink own index "LeaningMarket$Fair" "end" "LLeaningMarket$State;" ∈ Ts) (hdg : decode cc pc = .ok (.getfield index, 3)) (kk : W p l e R s m args below meth c H locs cells slots Q (F0 m (pc + 3) ls (.ref (ad (t + 1)) :: rest))) : W p l e R s m args below meth c H locs cells slots Q (F0 m pc ls (.ref (ad t) :: rest)) :=
  gx_get F G ht (gwe_2 hk) rfl hin 0 (by decide) hl rfl hdg kk
theorem fg_2_seed (F : gF sa D ad cy N A p s m args c cc nL Ts own) (G : gW D ad cy N A H0 cm dm H locs) {index t : Nat} (hk : gck t = 2) (ht : t < N) (hin : ∀ w ∈ wsX20, w ∈ Ts) (hl : Cond.fieldLink own index "LeaningMarket$Fair" "seed" "I" ∈ Ts) (hdg : decode cc pc = .ok (.getfield index, 3)) (kk : W p l e R s m args below meth c H locs cells slots Q (F0 m (pc + 3) ls (.int (cm.1 t 1) :: rest))) : W p l e R s m args below meth c H locs cells slots Q (F0 m pc ls (.ref (ad t) :: rest)) :=
  gx_get F G ht (gwe_2 hk) rfl hin 1 (by decide) hl rfl hdg kk
theorem fp_2_seed (F : gF sa D ad cy N A p s m args c cc nL Ts own) (G : gW D ad cy N A H0 cm dm H locs) {index t : Nat} (hk : gck t = 2) (ht : t < N) (hin : ∀ w ∈ wsX20, w ∈ Ts) (hl : Cond.fieldLink own index "LeaningMarket$Fair" "seed" "I" ∈ Ts) {x : Int32} (hdg : decode cc pc = .ok (.putfield index, 3)) (kk : ∀ (H1 : Heap) (locs1 : List Loc), gW D ad cy N A H0 (gm_r cm t (upd (cm.1 t) 1 x)) dm H1 locs1 → W p l e R s m args below meth c H1 locs1 cells slots Q (F0 m (pc + 3) ls rest)) : W p l e R s m args below meth c H locs cells slots Q (F0 m pc ls (.int x :: .ref (ad t) :: rest)) :=
  gx_put F G (ty := .int) ht (gwe_2 hk) rfl hin tyX2 tyX2_ok nmX2 1 (by decide) hl rfl (by decide +kernel) rfl rfl (Nat.le_of_ble_eq_true rfl) (by rw [gwe_2 hk]; simp [gm_r, va_up_self, upd]) (fun i h => gwe_rc h) hdg kk
theorem fg_3_marks (F : gF sa D ad cy N A p s m args c cc nL Ts own) (G : gW D ad cy N A H0 cm dm H locs) {index t : Nat} (hk : gck t = 3) (ht : t < N) (hin : ∀ w ∈ wsX30, w ∈ Ts) (hl : Cond.fieldLink own index "LeaningMarket$Law" "marks" "[I" ∈ Ts) (hdg : decode cc pc = .ok (.getfield index, 3)) (kk : W p l e R s m args below meth c H locs cells slots Q (F0 m (pc + 3) ls (.ref (ad (t + 1)) :: rest))) : W p l e R s m args below meth c H locs cells slots Q (F0 m pc ls (.ref (ad t) :: rest)) :=
  gx_get F G ht (gwe_3 hk) rfl hin 0 (by decide) hl rfl hdg kk
theorem fg_3_operands (F : gF sa D ad cy N A p s m args c cc nL Ts own) (G : gW D ad cy N A H0 cm dm H locs) {index t : Nat} (hk : gck t = 3) (ht : t < N) (hin : ∀ w ∈ wsX30, w ∈ Ts) (hl : Cond.fieldLink own index "LeaningMarket$Law" "operands" "[I" ∈ Ts) (hdg : decode cc pc = .ok (.getfield index, 3)) (kk : W p l e R s m args below meth c H locs cells slots Q (F0 m (pc + 3) ls (.ref (ad (t + 2)) :: rest))) : W p l e R s m args below meth c H locs cells slots Q (F0 m pc ls (.ref (ad t) :: rest)) :=
  gx_get F G ht (gwe_3 hk) rfl hin 1 (by decide) hl rfl hdg kk
theorem fg_3_values (F : gF sa D ad cy N A p s m args c cc nL Ts own) (G : gW D ad cy N A H0 cm dm H locs) {index t : Nat} (hk : gck t = 3) (ht : t < N) (hin : ∀ w ∈ wsX30, w ∈ Ts) (hl : Cond.fieldLink own index "LeaningMarket$Law" "values" "[I" ∈ Ts) (hdg : decode cc pc = .ok (.getfield index, 3)) (kk : W p l e R s m args below meth c H locs cells slots Q (F0 m (pc + 3) ls (.ref (ad (t + 3)) :: rest))) : W p l e R s m args below meth c H locs cells slots Q (F0 m pc ls (.ref (ad t) :: rest)) :=
  gx_get F G ht (gwe_3 hk) rfl hin 2 (by decide) hl rfl hdg kk
theorem fg_3_stack (F : gF sa D ad cy N A p s m args c cc nL Ts own) (G : gW D ad cy N A H0 cm dm H locs) {index t : Nat} (hk : gck t = 3) (ht : t < N) (hin : ∀ w ∈ wsX30, w ∈ Ts) (hl : Cond.fieldLink own index "LeaningMarket$Law" "stack" "[I" ∈ Ts) (hdg : decode cc pc = .ok (.getfield index, 3)) (kk : W p l e R s m args below meth c H locs cells slots Q (F0 m (pc + 3) ls (.ref (ad (t + 4)) :: rest))) : W p l e R s m args below meth c H locs cells slots Q (F0 m pc ls (.ref (ad t) :: rest)) :=
  gx_get F G ht (gwe_3 hk) rfl hin 3 (by decide) hl rfl hdg kk
theorem fg_3_size (F : gF sa D ad cy N A p s m args c cc nL Ts own) (G : gW D ad cy N A H0 cm dm H locs) {index t : Nat} (hk : gck t = 3) (ht : t < N) (hin : ∀ w ∈ wsX30, w ∈ Ts) (hl : Cond.fieldLink own index "LeaningMarket$Law" "size" "I" ∈ Ts) (hdg : decode cc pc = .ok (.getfield index, 3)) (kk : W p l e R s m args below meth c H locs cells slots Q (F0 m (pc + 3) ls (.int (cm.1 t 4) :: rest))) : W p l e R s m args below meth c H locs cells slots Q (F0 m pc ls (.ref (ad t) :: rest)) :=
  gx_get F G ht (gwe_3 hk) rfl hin 4 (by decide) hl rfl hdg kk
theorem fp_3_size (F : gF sa D ad cy N A p s m args c cc nL Ts own) (G : gW D ad cy N A H0 cm dm H locs) {index t : Nat} (hk : gck t = 3) (ht : t < N) (hin : ∀ w ∈ wsX30, w ∈ Ts) (hl : Cond.fieldLink own index "LeaningMarket$Law" "size" "I" ∈ Ts) {x : Int32} (hdg : decode cc pc = .ok (.putfield index, 3)) (kk : ∀ (H1 : Heap) (locs1 : List Loc), gW D ad cy N A H0 (gm_r cm t (upd (cm.1 t) 4 x)) dm H1 locs1 → W p l e R s m args below meth c H1 locs1 cells slots Q (F0 m (pc + 3) ls rest)) : W p l e R s m args below meth c H locs cells slots Q (F0 m pc ls (.int x :: .ref (ad t) :: rest)) :=
  gx_put F G (ty := .int) ht (gwe_3 hk) rfl hin tyX3 tyX3_ok nmX3 4 (by decide) hl rfl (by decide +kernel) rfl rfl (Nat.le_of_ble_eq_true rfl) (by rw [gwe_3 hk]; simp [gm_r, va_up_self, upd]) (fun i h => gwe_rc h) hdg kk
theorem fg_4_sums (F : gF sa D ad cy N A p s m args c cc nL Ts own) (G : gW D ad cy N A H0 cm dm H locs) {index t : Nat} (hk : gck t = 4) (ht : t < N) (hin : ∀ w ∈ wsX40, w ∈ Ts) (hl : Cond.fieldLink own index "LeaningMarket$Pans" "sums" "[I" ∈ Ts) (hdg : decode cc pc = .ok (.getfield index, 3)) (kk : W p l e R s m args below meth c H locs cells slots Q (F0 m (pc + 3) ls (.ref (ad (t + 1)) :: rest))) : W p l e R s m args below meth c H locs cells slots Q (F0 m pc ls (.ref (ad t) :: rest)) :=
  gx_get F G ht (gwe_4 hk) rfl hin 0 (by decide) hl rfl hdg kk
theorem fg_4_matched (F : gF sa D ad cy N A p s m args c cc nL Ts own) (G : gW D ad cy N A H0 cm dm H locs) {index t : Nat} (hk : gck t = 4) (ht : t < N) (hin : ∀ w ∈ wsX40, w ∈ Ts) (hl : Cond.fieldLink own index "LeaningMarket$Pans" "matched" "[Z" ∈ Ts) (hdg : decode cc pc = .ok (.getfield index, 3)) (kk : W p l e R s m args below meth c H locs cells slots Q (F0 m (pc + 3) ls (.ref (ad (t + 2)) :: rest))) : W p l e R s m args below meth c H locs cells slots Q (F0 m pc ls (.ref (ad t) :: rest)) :=
  gx_get F G ht (gwe_4 hk) rfl hin 1 (by decide) hl rfl hdg kk
theorem fg_4_apart (F : gF sa D ad cy N A p s m args c cc nL Ts own) (G : gW D ad cy N A H0 cm dm H locs) {index t : Nat} (hk : gck t = 4) (ht : t < N) (hin : ∀ w ∈ wsX40, w ∈ Ts) (hl : Cond.fieldLink own index "LeaningMarket$Pans" "apart" "I" ∈ Ts) (hdg : decode cc pc = .ok (.getfield index, 3)) (kk : W p l e R s m args below meth c H locs cells slots Q (F0 m (pc + 3) ls (.int (cm.1 t 2) :: rest))) : W p l e R s m args below meth c H locs cells slots Q (F0 m pc ls (.ref (ad t) :: rest)) :=
  gx_get F G ht (gwe_4 hk) rfl hin 2 (by decide) hl rfl hdg kk
theorem fp_4_apart (F : gF sa D ad cy N A p s m args c cc nL Ts own) (G : gW D ad cy N A H0 cm dm H locs) {index t : Nat} (hk : gck t = 4) (ht : t < N) (hin : ∀ w ∈ wsX40, w ∈ Ts) (hl : Cond.fieldLink own index "LeaningMarket$Pans" "apart" "I" ∈ Ts) {x : Int32} (hdg : decode cc pc = .ok (.putfield index, 3)) (kk : ∀ (H1 : Heap) (locs1 : List Loc), gW D ad cy N A H0 (gm_r cm t (upd (cm.1 t) 2 x)) dm H1 locs1 → W p l e R s m args below meth c H1 locs1 cells slots Q (F0 m (pc + 3) ls rest)) : W p l e R s m args below meth c H locs cells slots Q (F0 m pc ls (.int x :: .ref (ad t) :: rest)) :=
  gx_put F G (ty := .int) ht (gwe_4 hk) rfl hin tyX4 tyX4_ok nmX4 2 (by decide) hl rfl (by decide +kernel) rfl rfl (Nat.le_of_ble_eq_true rfl) (by rw [gwe_4 hk]; simp [gm_r, va_up_self, upd]) (fun i h => gwe_rc h) hdg kk
theorem fg_4_pan (F : gF sa D ad cy N A p s m args c cc nL Ts own) (G : gW D ad cy N A H0 cm dm H locs) {index t : Nat} (hk : gck t = 4) (ht : t < N) (hin : ∀ w ∈ wsX40, w ∈ Ts) (hl : Cond.fieldLink own index "LeaningMarket$Pans" "pan" "I" ∈ Ts) (hdg : decode cc pc = .ok (.getfield index, 3)) (kk : W p l e R s m args below meth c H locs cells slots Q (F0 m (pc + 3) ls (.int (cm.1 t 3) :: rest))) : W p l e R s m args below meth c H locs cells slots Q (F0 m pc ls (.ref (ad t) :: rest)) :=
  gx_get F G ht (gwe_4 hk) rfl hin 3 (by decide) hl rfl hdg kk
theorem fp_4_pan (F : gF sa D ad cy N A p s m args c cc nL Ts own) (G : gW D ad cy N A H0 cm dm H locs) {index t : Nat} (hk : gck t = 4) (ht : t < N) (hin : ∀ w ∈ wsX40, w ∈ Ts) (hl : Cond.fieldLink own index "LeaningMarket$Pans" "pan" "I" ∈ Ts) {x : Int32} (hdg : decode cc pc = .ok (.putfield index, 3)) (kk : ∀ (H1 : Heap) (locs1 : List Loc), gW D ad cy N A H0 (gm_r cm t (upd (cm.1 t) 3 x)) dm H1 locs1 → W p l e R s m args below meth c H1 locs1 cells slots Q (F0 m (pc + 3) ls rest)) : W p l e R s m args below meth c H locs cells slots Q (F0 m pc ls (.int x :: .ref (ad t) :: rest)) :=
  gx_put F G (ty := .int) ht (gwe_4 hk) rfl hin tyX4 tyX4_ok nmX4 3 (by decide) hl rfl (by decide +kernel) rfl rfl (Nat.le_of_ble_eq_true rfl) (by rw [gwe_4 hk]; simp [gm_r, va_up_self, upd]) (fun i h => gwe_rc h) hdg kk
theorem fg_5_workRows (F : gF sa D ad cy N A p s m args c cc nL Ts own) (G : gW D ad cy N A H0 cm dm H locs) {index t : Nat} (hk : gck t = 5) (ht : t < N) (hin : ∀ w ∈ wsX50, w ∈ Ts) (hl : Cond.fieldLink own index "LeaningMarket$Past" "workRows" "[I" ∈ Ts) (hdg : decode cc pc = .ok (.getfield index, 3)) (kk : W p l e R s m args below meth c H locs cells slots Q (F0 m (pc + 3) ls (.ref (ad (t + 1)) :: rest))) : W p l e R s m args below meth c H locs cells slots Q (F0 m pc ls (.ref (ad t) :: rest)) :=
  gx_get F G ht (gwe_5 hk) rfl hin 0 (by decide) hl rfl hdg kk
theorem fg_5_imageRows (F : gF sa D ad cy N A p s m args c cc nL Ts own) (G : gW D ad cy N A H0 cm dm H locs) {index t : Nat} (hk : gck t = 5) (ht : t < N) (hin : ∀ w ∈ wsX50, w ∈ Ts) (hl : Cond.fieldLink own index "LeaningMarket$Past" "imageRows" "[I" ∈ Ts) (hdg : decode cc pc = .ok (.getfield index, 3)) (kk : W p l e R s m args below meth c H locs cells slots Q (F0 m (pc + 3) ls (.ref (ad (t + 2)) :: rest))) : W p l e R s m args below meth c H locs cells slots Q (F0 m pc ls (.ref (ad t) :: rest)) :=
  gx_get F G ht (gwe_5 hk) rfl hin 1 (by decide) hl rfl hdg kk
theorem fg_5_imageWorks (F : gF sa D ad cy N A p s m args c cc nL Ts own) (G : gW D ad cy N A H0 cm dm H locs) {index t : Nat} (hk : gck t = 5) (ht : t < N) (hin : ∀ w ∈ wsX50, w ∈ Ts) (hl : Cond.fieldLink own index "LeaningMarket$Past" "imageWorks" "[I" ∈ Ts) (hdg : decode cc pc = .ok (.getfield index, 3)) (kk : W p l e R s m args below meth c H locs cells slots Q (F0 m (pc + 3) ls (.ref (ad (t + 3)) :: rest))) : W p l e R s m args below meth c H locs cells slots Q (F0 m pc ls (.ref (ad t) :: rest)) :=
  gx_get F G ht (gwe_5 hk) rfl hin 2 (by decide) hl rfl hdg kk
theorem fg_5_works (F : gF sa D ad cy N A p s m args c cc nL Ts own) (G : gW D ad cy N A H0 cm dm H locs) {index t : Nat} (hk : gck t = 5) (ht : t < N) (hin : ∀ w ∈ wsX50, w ∈ Ts) (hl : Cond.fieldLink own index "LeaningMarket$Past" "works" "I" ∈ Ts) (hdg : decode cc pc = .ok (.getfield index, 3)) (kk : W p l e R s m args below meth c H locs cells slots Q (F0 m (pc + 3) ls (.int (cm.1 t 3) :: rest))) : W p l e R s m args below meth c H locs cells slots Q (F0 m pc ls (.ref (ad t) :: rest)) :=
  gx_get F G ht (gwe_5 hk) rfl hin 3 (by decide) hl rfl hdg kk
theorem fp_5_works (F : gF sa D ad cy N A p s m args c cc nL Ts own) (G : gW D ad cy N A H0 cm dm H locs) {index t : Nat} (hk : gck t = 5) (ht : t < N) (hin : ∀ w ∈ wsX50, w ∈ Ts) (hl : Cond.fieldLink own index "LeaningMarket$Past" "works" "I" ∈ Ts) {x : Int32} (hdg : decode cc pc = .ok (.putfield index, 3)) (kk : ∀ (H1 : Heap) (locs1 : List Loc), gW D ad cy N A H0 (gm_r cm t (upd (cm.1 t) 3 x)) dm H1 locs1 → W p l e R s m args below meth c H1 locs1 cells slots Q (F0 m (pc + 3) ls rest)) : W p l e R s m args below meth c H locs cells slots Q (F0 m pc ls (.int x :: .ref (ad t) :: rest)) :=
  gx_put F G (ty := .int) ht (gwe_5 hk) rfl hin tyX5 tyX5_ok nmX5 3 (by decide) hl rfl (by decide +kernel) rfl rfl (Nat.le_of_ble_eq_true rfl) (by rw [gwe_5 hk]; simp [gm_r, va_up_self, upd]) (fun i h => gwe_rc h) hdg kk
theorem fg_5_images (F : gF sa D ad cy N A p s m args c cc nL Ts own) (G : gW D ad cy N A H0 cm dm H locs) {index t : Nat} (hk : gck t = 5) (ht : t < N) (hin : ∀ w ∈ wsX50, w ∈ Ts) (hl : Cond.fieldLink own index "LeaningMarket$Past" "images" "I" ∈ Ts) (hdg : decode cc pc = .ok (.getfield index, 3)) (kk : W p l e R s m args below meth c H locs cells slots Q (F0 m (pc + 3) ls (.int (cm.1 t 4) :: rest))) : W p l e R s m args below meth c H locs cells slots Q (F0 m pc ls (.ref (ad t) :: rest)) :=
  gx_get F G ht (gwe_5 hk) rfl hin 4 (by decide) hl rfl hdg kk
theorem fp_5_images (F : gF sa D ad cy N A p s m args c cc nL Ts own) (G : gW D ad cy N A H0 cm dm H locs) {index t : Nat} (hk : gck t = 5) (ht : t < N) (hin : ∀ w ∈ wsX50, w ∈ Ts) (hl : Cond.fieldLink own index "LeaningMarket$Past" "images" "I" ∈ Ts) {x : Int32} (hdg : decode cc pc = .ok (.putfield index, 3)) (kk : ∀ (H1 : Heap) (locs1 : List Loc), gW D ad cy N A H0 (gm_r cm t (upd (cm.1 t) 4 x)) dm H1 locs1 → W p l e R s m args below meth c H1 locs1 cells slots Q (F0 m (pc + 3) ls rest)) : W p l e R s m args below meth c H locs cells slots Q (F0 m pc ls (.int x :: .ref (ad t) :: rest)) :=
  gx_put F G (ty := .int) ht (gwe_5 hk) rfl hin tyX5 tyX5_ok nmX5 4 (by decide) hl rfl (by decide +kernel) rfl rfl (Nat.le_of_ble_eq_true rfl) (by rw [gwe_5 hk]; simp [gm_r, va_up_self, upd]) (fun i h => gwe_rc h) hdg kk
theorem fg_6_told (F : gF sa D ad cy N A p s m args c cc nL Ts own) (G : gW D ad cy N A H0 cm dm H locs) {index t : Nat} (hk : gck t = 6) (ht : t < N) (hin : ∀ w ∈ wsX60, w ∈ Ts) (hl : Cond.fieldLink own index "LeaningMarket$State" "told" "[I" ∈ Ts) (hdg : decode cc pc = .ok (.getfield index, 3)) (kk : W p l e R s m args below meth c H locs cells slots Q (F0 m (pc + 3) ls (.ref (ad (t + 1)) :: rest))) : W p l e R s m args below meth c H locs cells slots Q (F0 m pc ls (.ref (ad t) :: rest)) :=
  gx_get F G ht (gwe_6 hk) rfl hin 0 (by decide) hl rfl hdg kk
theorem fg_6_weight (F : gF sa D ad cy N A p s m args c cc nL Ts own) (G : gW D ad cy N A H0 cm dm H locs) {index t : Nat} (hk : gck t = 6) (ht : t < N) (hin : ∀ w ∈ wsX60, w ∈ Ts) (hl : Cond.fieldLink own index "LeaningMarket$State" "weight" "[I" ∈ Ts) (hdg : decode cc pc = .ok (.getfield index, 3)) (kk : W p l e R s m args below meth c H locs cells slots Q (F0 m (pc + 3) ls (.ref (ad (t + 2)) :: rest))) : W p l e R s m args below meth c H locs cells slots Q (F0 m pc ls (.ref (ad t) :: rest)) :=
  gx_get F G ht (gwe_6 hk) rfl hin 1 (by decide) hl rfl hdg kk
theorem fg_6_weighed (F : gF sa D ad cy N A p s m args c cc nL Ts own) (G : gW D ad cy N A H0 cm dm H locs) {index t : Nat} (hk : gck t = 6) (ht : t < N) (hin : ∀ w ∈ wsX60, w ∈ Ts) (hl : Cond.fieldLink own index "LeaningMarket$State" "weighed" "[I" ∈ Ts) (hdg : decode cc pc = .ok (.getfield index, 3)) (kk : W p l e R s m args below meth c H locs cells slots Q (F0 m (pc + 3) ls (.ref (ad (t + 3)) :: rest))) : W p l e R s m args below meth c H locs cells slots Q (F0 m pc ls (.ref (ad t) :: rest)) :=
  gx_get F G ht (gwe_6 hk) rfl hin 2 (by decide) hl rfl hdg kk
theorem fg_6_wear (F : gF sa D ad cy N A p s m args c cc nL Ts own) (G : gW D ad cy N A H0 cm dm H locs) {index t : Nat} (hk : gck t = 6) (ht : t < N) (hin : ∀ w ∈ wsX60, w ∈ Ts) (hl : Cond.fieldLink own index "LeaningMarket$State" "wear" "[I" ∈ Ts) (hdg : decode cc pc = .ok (.getfield index, 3)) (kk : W p l e R s m args below meth c H locs cells slots Q (F0 m (pc + 3) ls (.ref (ad (t + 4)) :: rest))) : W p l e R s m args below meth c H locs cells slots Q (F0 m pc ls (.ref (ad t) :: rest)) :=
  gx_get F G ht (gwe_6 hk) rfl hin 3 (by decide) hl rfl hdg kk
theorem fg_6_cryParts (F : gF sa D ad cy N A p s m args c cc nL Ts own) (G : gW D ad cy N A H0 cm dm H locs) {index t : Nat} (hk : gck t = 6) (ht : t < N) (hin : ∀ w ∈ wsX60, w ∈ Ts) (hl : Cond.fieldLink own index "LeaningMarket$State" "cryParts" "[I" ∈ Ts) (hdg : decode cc pc = .ok (.getfield index, 3)) (kk : W p l e R s m args below meth c H locs cells slots Q (F0 m (pc + 3) ls (.ref (ad (t + 5)) :: rest))) : W p l e R s m args below meth c H locs cells slots Q (F0 m pc ls (.ref (ad t) :: rest)) :=
  gx_get F G ht (gwe_6 hk) rfl hin 4 (by decide) hl rfl hdg kk
theorem fg_6_things (F : gF sa D ad cy N A p s m args c cc nL Ts own) (G : gW D ad cy N A H0 cm dm H locs) {index t : Nat} (hk : gck t = 6) (ht : t < N) (hin : ∀ w ∈ wsX60, w ∈ Ts) (hl : Cond.fieldLink own index "LeaningMarket$State" "things" "I" ∈ Ts) (hdg : decode cc pc = .ok (.getfield index, 3)) (kk : W p l e R s m args below meth c H locs cells slots Q (F0 m (pc + 3) ls (.int (cm.1 t 5) :: rest))) : W p l e R s m args below meth c H locs cells slots Q (F0 m pc ls (.ref (ad t) :: rest)) :=
  gx_get F G ht (gwe_6 hk) rfl hin 5 (by decide) hl rfl hdg kk
theorem fp_6_things (F : gF sa D ad cy N A p s m args c cc nL Ts own) (G : gW D ad cy N A H0 cm dm H locs) {index t : Nat} (hk : gck t = 6) (ht : t < N) (hin : ∀ w ∈ wsX60, w ∈ Ts) (hl : Cond.fieldLink own index "LeaningMarket$State" "things" "I" ∈ Ts) {x : Int32} (hdg : decode cc pc = .ok (.putfield index, 3)) (kk : ∀ (H1 : Heap) (locs1 : List Loc), gW D ad cy N A H0 (gm_r cm t (upd (cm.1 t) 5 x)) dm H1 locs1 → W p l e R s m args below meth c H1 locs1 cells slots Q (F0 m (pc + 3) ls rest)) : W p l e R s m args below meth c H locs cells slots Q (F0 m pc ls (.int x :: .ref (ad t) :: rest)) :=
  gx_put F G (ty := .int) ht (gwe_6 hk) rfl hin tyX6 tyX6_ok nmX6 5 (by decide) hl rfl (by decide +kernel) rfl rfl (Nat.le_of_ble_eq_true rfl) (by rw [gwe_6 hk]; simp [gm_r, va_up_self, upd]) (fun i h => gwe_rc h) hdg kk
theorem fg_6_cries (F : gF sa D ad cy N A p s m args c cc nL Ts own) (G : gW D ad cy N A H0 cm dm H locs) {index t : Nat} (hk : gck t = 6) (ht : t < N) (hin : ∀ w ∈ wsX60, w ∈ Ts) (hl : Cond.fieldLink own index "LeaningMarket$State" "cries" "I" ∈ Ts) (hdg : decode cc pc = .ok (.getfield index, 3)) (kk : W p l e R s m args below meth c H locs cells slots Q (F0 m (pc + 3) ls (.int (cm.1 t 6) :: rest))) : W p l e R s m args below meth c H locs cells slots Q (F0 m pc ls (.ref (ad t) :: rest)) :=
  gx_get F G ht (gwe_6 hk) rfl hin 6 (by decide) hl rfl hdg kk
theorem fp_6_cries (F : gF sa D ad cy N A p s m args c cc nL Ts own) (G : gW D ad cy N A H0 cm dm H locs) {index t : Nat} (hk : gck t = 6) (ht : t < N) (hin : ∀ w ∈ wsX60, w ∈ Ts) (hl : Cond.fieldLink own index "LeaningMarket$State" "cries" "I" ∈ Ts) {x : Int32} (hdg : decode cc pc = .ok (.putfield index, 3)) (kk : ∀ (H1 : Heap) (locs1 : List Loc), gW D ad cy N A H0 (gm_r cm t (upd (cm.1 t) 6 x)) dm H1 locs1 → W p l e R s m args below meth c H1 locs1 cells slots Q (F0 m (pc + 3) ls rest)) : W p l e R s m args below meth c H locs cells slots Q (F0 m pc ls (.int x :: .ref (ad t) :: rest)) :=
  gx_put F G (ty := .int) ht (gwe_6 hk) rfl hin tyX6 tyX6_ok nmX6 6 (by decide) hl rfl (by decide +kernel) rfl rfl (Nat.le_of_ble_eq_true rfl) (by rw [gwe_6 hk]; simp [gm_r, va_up_self, upd]) (fun i h => gwe_rc h) hdg kk
theorem fg_6_lean (F : gF sa D ad cy N A p s m args c cc nL Ts own) (G : gW D ad cy N A H0 cm dm H locs) {index t : Nat} (hk : gck t = 6) (ht : t < N) (hin : ∀ w ∈ wsX60, w ∈ Ts) (hl : Cond.fieldLink own index "LeaningMarket$State" "lean" "I" ∈ Ts) (hdg : decode cc pc = .ok (.getfield index, 3)) (kk : W p l e R s m args below meth c H locs cells slots Q (F0 m (pc + 3) ls (.int (cm.1 t 7) :: rest))) : W p l e R s m args below meth c H locs cells slots Q (F0 m pc ls (.ref (ad t) :: rest)) :=
  gx_get F G ht (gwe_6 hk) rfl hin 7 (by decide) hl rfl hdg kk
theorem fp_6_lean (F : gF sa D ad cy N A p s m args c cc nL Ts own) (G : gW D ad cy N A H0 cm dm H locs) {index t : Nat} (hk : gck t = 6) (ht : t < N) (hin : ∀ w ∈ wsX60, w ∈ Ts) (hl : Cond.fieldLink own index "LeaningMarket$State" "lean" "I" ∈ Ts) {x : Int32} (hdg : decode cc pc = .ok (.putfield index, 3)) (kk : ∀ (H1 : Heap) (locs1 : List Loc), gW D ad cy N A H0 (gm_r cm t (upd (cm.1 t) 7 x)) dm H1 locs1 → W p l e R s m args below meth c H1 locs1 cells slots Q (F0 m (pc + 3) ls rest)) : W p l e R s m args below meth c H locs cells slots Q (F0 m pc ls (.int x :: .ref (ad t) :: rest)) :=
  gx_put F G (ty := .int) ht (gwe_6 hk) rfl hin tyX6 tyX6_ok nmX6 7 (by decide) hl rfl (by decide +kernel) rfl rfl (Nat.le_of_ble_eq_true rfl) (by rw [gwe_6 hk]; simp [gm_r, va_up_self, upd]) (fun i h => gwe_rc h) hdg kk
theorem fg_6_play (F : gF sa D ad cy N A p s m args c cc nL Ts own) (G : gW D ad cy N A H0 cm dm H locs) {index t : Nat} (hk : gck t = 6) (ht : t < N) (hin : ∀ w ∈ wsX60, w ∈ Ts) (hl : Cond.fieldLink own index "LeaningMarket$State" "play" "I" ∈ Ts) (hdg : decode cc pc = .ok (.getfield index, 3)) (kk : W p l e R s m args below meth c H locs cells slots Q (F0 m (pc + 3) ls (.int (cm.1 t 8) :: rest))) : W p l e R s m args below meth c H locs cells slots Q (F0 m pc ls (.ref (ad t) :: rest)) :=
  gx_get F G ht (gwe_6 hk) rfl hin 8 (by decide) hl rfl hdg kk
theorem fp_6_play (F : gF sa D ad cy N A p s m args c cc nL Ts own) (G : gW D ad cy N A H0 cm dm H locs) {index t : Nat} (hk : gck t = 6) (ht : t < N) (hin : ∀ w ∈ wsX60, w ∈ Ts) (hl : Cond.fieldLink own index "LeaningMarket$State" "play" "I" ∈ Ts) {x : Int32} (hdg : decode cc pc = .ok (.putfield index, 3)) (kk : ∀ (H1 : Heap) (locs1 : List Loc), gW D ad cy N A H0 (gm_r cm t (upd (cm.1 t) 8 x)) dm H1 locs1 → W p l e R s m args below meth c H1 locs1 cells slots Q (F0 m (pc + 3) ls rest)) : W p l e R s m args below meth c H locs cells slots Q (F0 m pc ls (.int x :: .ref (ad t) :: rest)) :=
  gx_put F G (ty := .int) ht (gwe_6 hk) rfl hin tyX6 tyX6_ok nmX6 8 (by decide) hl rfl (by decide +kernel) rfl rfl (Nat.le_of_ble_eq_true rfl) (by rw [gwe_6 hk]; simp [gm_r, va_up_self, upd]) (fun i h => gwe_rc h) hdg kk
theorem fg_6_day (F : gF sa D ad cy N A p s m args c cc nL Ts own) (G : gW D ad cy N A H0 cm dm H locs) {index t : Nat} (hk : gck t = 6) (ht : t < N) (hin : ∀ w ∈ wsX60, w ∈ Ts) (hl : Cond.fieldLink own index "LeaningMarket$State" "day" "I" ∈ Ts) (hdg : decode cc pc = .ok (.getfield index, 3)) (kk : W p l e R s m args below meth c H locs cells slots Q (F0 m (pc + 3) ls (.int (cm.1 t 9) :: rest))) : W p l e R s m args below meth c H locs cells slots Q (F0 m pc ls (.ref (ad t) :: rest)) :=
  gx_get F G ht (gwe_6 hk) rfl hin 9 (by decide) hl rfl hdg kk
theorem fp_6_day (F : gF sa D ad cy N A p s m args c cc nL Ts own) (G : gW D ad cy N A H0 cm dm H locs) {index t : Nat} (hk : gck t = 6) (ht : t < N) (hin : ∀ w ∈ wsX60, w ∈ Ts) (hl : Cond.fieldLink own index "LeaningMarket$State" "day" "I" ∈ Ts) {x : Int32} (hdg : decode cc pc = .ok (.putfield index, 3)) (kk : ∀ (H1 : Heap) (locs1 : List Loc), gW D ad cy N A H0 (gm_r cm t (upd (cm.1 t) 9 x)) dm H1 locs1 → W p l e R s m args below meth c H1 locs1 cells slots Q (F0 m (pc + 3) ls rest)) : W p l e R s m args below meth c H locs cells slots Q (F0 m pc ls (.int x :: .ref (ad t) :: rest)) :=
  gx_put F G (ty := .int) ht (gwe_6 hk) rfl hin tyX6 tyX6_ok nmX6 9 (by decide) hl rfl (by decide +kernel) rfl rfl (Nat.le_of_ble_eq_true rfl) (by rw [gwe_6 hk]; simp [gm_r, va_up_self, upd]) (fun i h => gwe_rc h) hdg kk
theorem fg_6_weighings (F : gF sa D ad cy N A p s m args c cc nL Ts own) (G : gW D ad cy N A H0 cm dm H locs) {index t : Nat} (hk : gck t = 6) (ht : t < N) (hin : ∀ w ∈ wsX60, w ∈ Ts) (hl : Cond.fieldLink own index "LeaningMarket$State" "weighings" "I" ∈ Ts) (hdg : decode cc pc = .ok (.getfield index, 3)) (kk : W p l e R s m args below meth c H locs cells slots Q (F0 m (pc + 3) ls (.int (cm.1 t 10) :: rest))) : W p l e R s m args below meth c H locs cells slots Q (F0 m pc ls (.ref (ad t) :: rest)) :=
  gx_get F G ht (gwe_6 hk) rfl hin 10 (by decide) hl rfl hdg kk
theorem fp_6_weighings (F : gF sa D ad cy N A p s m args c cc nL Ts own) (G : gW D ad cy N A H0 cm dm H locs) {index t : Nat} (hk : gck t = 6) (ht : t < N) (hin : ∀ w ∈ wsX60, w ∈ Ts) (hl : Cond.fieldLink own index "LeaningMarket$State" "weighings" "I" ∈ Ts) {x : Int32} (hdg : decode cc pc = .ok (.putfield index, 3)) (kk : ∀ (H1 : Heap) (locs1 : List Loc), gW D ad cy N A H0 (gm_r cm t (upd (cm.1 t) 10 x)) dm H1 locs1 → W p l e R s m args below meth c H1 locs1 cells slots Q (F0 m (pc + 3) ls rest)) : W p l e R s m args below meth c H locs cells slots Q (F0 m pc ls (.int x :: .ref (ad t) :: rest)) :=
  gx_put F G (ty := .int) ht (gwe_6 hk) rfl hin tyX6 tyX6_ok nmX6 10 (by decide) hl rfl (by decide +kernel) rfl rfl (Nat.le_of_ble_eq_true rfl) (by rw [gwe_6 hk]; simp [gm_r, va_up_self, upd]) (fun i h => gwe_rc h) hdg kk
theorem fg_7_bytes (F : gF sa D ad cy N A p s m args c cc nL Ts own) (G : gW D ad cy N A H0 cm dm H locs) {index t : Nat} (hk : gck t = 7) (ht : t < N) (hin : ∀ w ∈ wsX70, w ∈ Ts) (hl : Cond.fieldLink own index "LeaningMarket$Text" "bytes" "[B" ∈ Ts) (hdg : decode cc pc = .ok (.getfield index, 3)) (kk : W p l e R s m args below meth c H locs cells slots Q (F0 m (pc + 3) ls (.ref (ad (t + 1)) :: rest))) : W p l e R s m args below meth c H locs cells slots Q (F0 m pc ls (.ref (ad t) :: rest)) :=
  gx_get F G ht (gwe_7 hk) rfl hin 0 (by decide) hl rfl hdg kk
theorem fg_7_held (F : gF sa D ad cy N A p s m args c cc nL Ts own) (G : gW D ad cy N A H0 cm dm H locs) {index t : Nat} (hk : gck t = 7) (ht : t < N) (hin : ∀ w ∈ wsX70, w ∈ Ts) (hl : Cond.fieldLink own index "LeaningMarket$Text" "held" "I" ∈ Ts) (hdg : decode cc pc = .ok (.getfield index, 3)) (kk : W p l e R s m args below meth c H locs cells slots Q (F0 m (pc + 3) ls (.int (cm.1 t 1) :: rest))) : W p l e R s m args below meth c H locs cells slots Q (F0 m pc ls (.ref (ad t) :: rest)) :=
  gx_get F G ht (gwe_7 hk) rfl hin 1 (by decide) hl rfl hdg kk
theorem fp_7_held (F : gF sa D ad cy N A p s m args c cc nL Ts own) (G : gW D ad cy N A H0 cm dm H locs) {index t : Nat} (hk : gck t = 7) (ht : t < N) (hin : ∀ w ∈ wsX70, w ∈ Ts) (hl : Cond.fieldLink own index "LeaningMarket$Text" "held" "I" ∈ Ts) {x : Int32} (hdg : decode cc pc = .ok (.putfield index, 3)) (kk : ∀ (H1 : Heap) (locs1 : List Loc), gW D ad cy N A H0 (gm_r cm t (upd (cm.1 t) 1 x)) dm H1 locs1 → W p l e R s m args below meth c H1 locs1 cells slots Q (F0 m (pc + 3) ls rest)) : W p l e R s m args below meth c H locs cells slots Q (F0 m pc ls (.int x :: .ref (ad t) :: rest)) :=
  gx_put F G (ty := .int) ht (gwe_7 hk) rfl hin tyX7 tyX7_ok nmX7 1 (by decide) hl rfl (by decide +kernel) rfl rfl (Nat.le_of_ble_eq_true rfl) (by rw [gwe_7 hk]; simp [gm_r, va_up_self, upd]) (fun i h => gwe_rc h) hdg kk
theorem fg_7_length (F : gF sa D ad cy N A p s m args c cc nL Ts own) (G : gW D ad cy N A H0 cm dm H locs) {index t : Nat} (hk : gck t = 7) (ht : t < N) (hin : ∀ w ∈ wsX70, w ∈ Ts) (hl : Cond.fieldLink own index "LeaningMarket$Text" "length" "I" ∈ Ts) (hdg : decode cc pc = .ok (.getfield index, 3)) (kk : W p l e R s m args below meth c H locs cells slots Q (F0 m (pc + 3) ls (.int (cm.1 t 2) :: rest))) : W p l e R s m args below meth c H locs cells slots Q (F0 m pc ls (.ref (ad t) :: rest)) :=
  gx_get F G ht (gwe_7 hk) rfl hin 2 (by decide) hl rfl hdg kk
theorem fp_7_length (F : gF sa D ad cy N A p s m args c cc nL Ts own) (G : gW D ad cy N A H0 cm dm H locs) {index t : Nat} (hk : gck t = 7) (ht : t < N) (hin : ∀ w ∈ wsX70, w ∈ Ts) (hl : Cond.fieldLink own index "LeaningMarket$Text" "length" "I" ∈ Ts) {x : Int32} (hdg : decode cc pc = .ok (.putfield index, 3)) (kk : ∀ (H1 : Heap) (locs1 : List Loc), gW D ad cy N A H0 (gm_r cm t (upd (cm.1 t) 2 x)) dm H1 locs1 → W p l e R s m args below meth c H1 locs1 cells slots Q (F0 m (pc + 3) ls rest)) : W p l e R s m args below meth c H locs cells slots Q (F0 m pc ls (.int x :: .ref (ad t) :: rest)) :=
  gx_put F G (ty := .int) ht (gwe_7 hk) rfl hin tyX7 tyX7_ok nmX7 2 (by decide) hl rfl (by decide +kernel) rfl rfl (Nat.le_of_ble_eq_true rfl) (by rw [gwe_7 hk]; simp [gm_r, va_up_self, upd]) (fun i h => gwe_rc h) hdg kk
theorem fg_7_at (F : gF sa D ad cy N A p s m args c cc nL Ts own) (G : gW D ad cy N A H0 cm dm H locs) {index t : Nat} (hk : gck t = 7) (ht : t < N) (hin : ∀ w ∈ wsX70, w ∈ Ts) (hl : Cond.fieldLink own index "LeaningMarket$Text" "at" "I" ∈ Ts) (hdg : decode cc pc = .ok (.getfield index, 3)) (kk : W p l e R s m args below meth c H locs cells slots Q (F0 m (pc + 3) ls (.int (cm.1 t 3) :: rest))) : W p l e R s m args below meth c H locs cells slots Q (F0 m pc ls (.ref (ad t) :: rest)) :=
  gx_get F G ht (gwe_7 hk) rfl hin 3 (by decide) hl rfl hdg kk
theorem fp_7_at (F : gF sa D ad cy N A p s m args c cc nL Ts own) (G : gW D ad cy N A H0 cm dm H locs) {index t : Nat} (hk : gck t = 7) (ht : t < N) (hin : ∀ w ∈ wsX70, w ∈ Ts) (hl : Cond.fieldLink own index "LeaningMarket$Text" "at" "I" ∈ Ts) {x : Int32} (hdg : decode cc pc = .ok (.putfield index, 3)) (kk : ∀ (H1 : Heap) (locs1 : List Loc), gW D ad cy N A H0 (gm_r cm t (upd (cm.1 t) 3 x)) dm H1 locs1 → W p l e R s m args below meth c H1 locs1 cells slots Q (F0 m (pc + 3) ls rest)) : W p l e R s m args below meth c H locs cells slots Q (F0 m pc ls (.int x :: .ref (ad t) :: rest)) :=
  gx_put F G (ty := .int) ht (gwe_7 hk) rfl hin tyX7 tyX7_ok nmX7 3 (by decide) hl rfl (by decide +kernel) rfl rfl (Nat.le_of_ble_eq_true rfl) (by rw [gwe_7 hk]; simp [gm_r, va_up_self, upd]) (fun i h => gwe_rc h) hdg kk
theorem fg_7_mark (F : gF sa D ad cy N A p s m args c cc nL Ts own) (G : gW D ad cy N A H0 cm dm H locs) {index t : Nat} (hk : gck t = 7) (ht : t < N) (hin : ∀ w ∈ wsX70, w ∈ Ts) (hl : Cond.fieldLink own index "LeaningMarket$Text" "mark" "I" ∈ Ts) (hdg : decode cc pc = .ok (.getfield index, 3)) (kk : W p l e R s m args below meth c H locs cells slots Q (F0 m (pc + 3) ls (.int (cm.1 t 4) :: rest))) : W p l e R s m args below meth c H locs cells slots Q (F0 m pc ls (.ref (ad t) :: rest)) :=
  gx_get F G ht (gwe_7 hk) rfl hin 4 (by decide) hl rfl hdg kk
theorem fp_7_mark (F : gF sa D ad cy N A p s m args c cc nL Ts own) (G : gW D ad cy N A H0 cm dm H locs) {index t : Nat} (hk : gck t = 7) (ht : t < N) (hin : ∀ w ∈ wsX70, w ∈ Ts) (hl : Cond.fieldLink own index "LeaningMarket$Text" "mark" "I" ∈ Ts) {x : Int32} (hdg : decode cc pc = .ok (.putfield index, 3)) (kk : ∀ (H1 : Heap) (locs1 : List Loc), gW D ad cy N A H0 (gm_r cm t (upd (cm.1 t) 4 x)) dm H1 locs1 → W p l e R s m args below meth c H1 locs1 cells slots Q (F0 m (pc + 3) ls rest)) : W p l e R s m args below meth c H locs cells slots Q (F0 m pc ls (.int x :: .ref (ad t) :: rest)) :=
  gx_put F G (ty := .int) ht (gwe_7 hk) rfl hin tyX7 tyX7_ok nmX7 4 (by decide) hl rfl (by decide +kernel) rfl rfl (Nat.le_of_ble_eq_true rfl) (by rw [gwe_7 hk]; simp [gm_r, va_up_self, upd]) (fun i h => gwe_rc h) hdg kk
theorem fg_7_value (F : gF sa D ad cy N A p s m args c cc nL Ts own) (G : gW D ad cy N A H0 cm dm H locs) {index t : Nat} (hk : gck t = 7) (ht : t < N) (hin : ∀ w ∈ wsX70, w ∈ Ts) (hl : Cond.fieldLink own index "LeaningMarket$Text" "value" "I" ∈ Ts) (hdg : decode cc pc = .ok (.getfield index, 3)) (kk : W p l e R s m args below meth c H locs cells slots Q (F0 m (pc + 3) ls (.int (cm.1 t 5) :: rest))) : W p l e R s m args below meth c H locs cells slots Q (F0 m pc ls (.ref (ad t) :: rest)) :=
  gx_get F G ht (gwe_7 hk) rfl hin 5 (by decide) hl rfl hdg kk
theorem fp_7_value (F : gF sa D ad cy N A p s m args c cc nL Ts own) (G : gW D ad cy N A H0 cm dm H locs) {index t : Nat} (hk : gck t = 7) (ht : t < N) (hin : ∀ w ∈ wsX70, w ∈ Ts) (hl : Cond.fieldLink own index "LeaningMarket$Text" "value" "I" ∈ Ts) {x : Int32} (hdg : decode cc pc = .ok (.putfield index, 3)) (kk : ∀ (H1 : Heap) (locs1 : List Loc), gW D ad cy N A H0 (gm_r cm t (upd (cm.1 t) 5 x)) dm H1 locs1 → W p l e R s m args below meth c H1 locs1 cells slots Q (F0 m (pc + 3) ls rest)) : W p l e R s m args below meth c H locs cells slots Q (F0 m pc ls (.int x :: .ref (ad t) :: rest)) :=
  gx_put F G (ty := .int) ht (gwe_7 hk) rfl hin tyX7 tyX7_ok nmX7 5 (by decide) hl rfl (by decide +kernel) rfl rfl (Nat.le_of_ble_eq_true rfl) (by rw [gwe_7 hk]; simp [gm_r, va_up_self, upd]) (fun i h => gwe_rc h) hdg kk
theorem fg_7_faultKind (F : gF sa D ad cy N A p s m args c cc nL Ts own) (G : gW D ad cy N A H0 cm dm H locs) {index t : Nat} (hk : gck t = 7) (ht : t < N) (hin : ∀ w ∈ wsX70, w ∈ Ts) (hl : Cond.fieldLink own index "LeaningMarket$Text" "faultKind" "I" ∈ Ts) (hdg : decode cc pc = .ok (.getfield index, 3)) (kk : W p l e R s m args below meth c H locs cells slots Q (F0 m (pc + 3) ls (.int (cm.1 t 6) :: rest))) : W p l e R s m args below meth c H locs cells slots Q (F0 m pc ls (.ref (ad t) :: rest)) :=
  gx_get F G ht (gwe_7 hk) rfl hin 6 (by decide) hl rfl hdg kk
theorem fp_7_faultKind (F : gF sa D ad cy N A p s m args c cc nL Ts own) (G : gW D ad cy N A H0 cm dm H locs) {index t : Nat} (hk : gck t = 7) (ht : t < N) (hin : ∀ w ∈ wsX70, w ∈ Ts) (hl : Cond.fieldLink own index "LeaningMarket$Text" "faultKind" "I" ∈ Ts) {x : Int32} (hdg : decode cc pc = .ok (.putfield index, 3)) (kk : ∀ (H1 : Heap) (locs1 : List Loc), gW D ad cy N A H0 (gm_r cm t (upd (cm.1 t) 6 x)) dm H1 locs1 → W p l e R s m args below meth c H1 locs1 cells slots Q (F0 m (pc + 3) ls rest)) : W p l e R s m args below meth c H locs cells slots Q (F0 m pc ls (.int x :: .ref (ad t) :: rest)) :=
  gx_put F G (ty := .int) ht (gwe_7 hk) rfl hin tyX7 tyX7_ok nmX7 6 (by decide) hl rfl (by decide +kernel) rfl rfl (Nat.le_of_ble_eq_true rfl) (by rw [gwe_7 hk]; simp [gm_r, va_up_self, upd]) (fun i h => gwe_rc h) hdg kk
theorem fg_7_faultPlace (F : gF sa D ad cy N A p s m args c cc nL Ts own) (G : gW D ad cy N A H0 cm dm H locs) {index t : Nat} (hk : gck t = 7) (ht : t < N) (hin : ∀ w ∈ wsX70, w ∈ Ts) (hl : Cond.fieldLink own index "LeaningMarket$Text" "faultPlace" "I" ∈ Ts) (hdg : decode cc pc = .ok (.getfield index, 3)) (kk : W p l e R s m args below meth c H locs cells slots Q (F0 m (pc + 3) ls (.int (cm.1 t 7) :: rest))) : W p l e R s m args below meth c H locs cells slots Q (F0 m pc ls (.ref (ad t) :: rest)) :=
  gx_get F G ht (gwe_7 hk) rfl hin 7 (by decide) hl rfl hdg kk
theorem fp_7_faultPlace (F : gF sa D ad cy N A p s m args c cc nL Ts own) (G : gW D ad cy N A H0 cm dm H locs) {index t : Nat} (hk : gck t = 7) (ht : t < N) (hin : ∀ w ∈ wsX70, w ∈ Ts) (hl : Cond.fieldLink own index "LeaningMarket$Text" "faultPlace" "I" ∈ Ts) {x : Int32} (hdg : decode cc pc = .ok (.putfield index, 3)) (kk : ∀ (H1 : Heap) (locs1 : List Loc), gW D ad cy N A H0 (gm_r cm t (upd (cm.1 t) 7 x)) dm H1 locs1 → W p l e R s m args below meth c H1 locs1 cells slots Q (F0 m (pc + 3) ls rest)) : W p l e R s m args below meth c H locs cells slots Q (F0 m pc ls (.int x :: .ref (ad t) :: rest)) :=
  gx_put F G (ty := .int) ht (gwe_7 hk) rfl hin tyX7 tyX7_ok nmX7 7 (by decide) hl rfl (by decide +kernel) rfl rfl (Nat.le_of_ble_eq_true rfl) (by rw [gwe_7 hk]; simp [gm_r, va_up_self, upd]) (fun i h => gwe_rc h) hdg kk
theorem fg_8_parts (F : gF sa D ad cy N A p s m args c cc nL Ts own) (G : gW D ad cy N A H0 cm dm H locs) {index t : Nat} (hk : gck t = 8) (ht : t < N) (hin : ∀ w ∈ wsX80, w ∈ Ts) (hl : Cond.fieldLink own index "LeaningMarket$Work" "parts" "[I" ∈ Ts) (hdg : decode cc pc = .ok (.getfield index, 3)) (kk : W p l e R s m args below meth c H locs cells slots Q (F0 m (pc + 3) ls (.ref (ad (t + 1)) :: rest))) : W p l e R s m args below meth c H locs cells slots Q (F0 m pc ls (.ref (ad t) :: rest)) :=
  gx_get F G ht (gwe_8 hk) rfl hin 0 (by decide) hl rfl hdg kk
theorem fg_8_size (F : gF sa D ad cy N A p s m args c cc nL Ts own) (G : gW D ad cy N A H0 cm dm H locs) {index t : Nat} (hk : gck t = 8) (ht : t < N) (hin : ∀ w ∈ wsX80, w ∈ Ts) (hl : Cond.fieldLink own index "LeaningMarket$Work" "size" "I" ∈ Ts) (hdg : decode cc pc = .ok (.getfield index, 3)) (kk : W p l e R s m args below meth c H locs cells slots Q (F0 m (pc + 3) ls (.int (cm.1 t 1) :: rest))) : W p l e R s m args below meth c H locs cells slots Q (F0 m pc ls (.ref (ad t) :: rest)) :=
  gx_get F G ht (gwe_8 hk) rfl hin 1 (by decide) hl rfl hdg kk
theorem fp_8_size (F : gF sa D ad cy N A p s m args c cc nL Ts own) (G : gW D ad cy N A H0 cm dm H locs) {index t : Nat} (hk : gck t = 8) (ht : t < N) (hin : ∀ w ∈ wsX80, w ∈ Ts) (hl : Cond.fieldLink own index "LeaningMarket$Work" "size" "I" ∈ Ts) {x : Int32} (hdg : decode cc pc = .ok (.putfield index, 3)) (kk : ∀ (H1 : Heap) (locs1 : List Loc), gW D ad cy N A H0 (gm_r cm t (upd (cm.1 t) 1 x)) dm H1 locs1 → W p l e R s m args below meth c H1 locs1 cells slots Q (F0 m (pc + 3) ls rest)) : W p l e R s m args below meth c H locs cells slots Q (F0 m pc ls (.int x :: .ref (ad t) :: rest)) :=
  gx_put F G (ty := .int) ht (gwe_8 hk) rfl hin tyX8 tyX8_ok nmX8 1 (by decide) hl rfl (by decide +kernel) rfl rfl (Nat.le_of_ble_eq_true rfl) (by rw [gwe_8 hk]; simp [gm_r, va_up_self, upd]) (fun i h => gwe_rc h) hdg kk
theorem fg_8_begun (F : gF sa D ad cy N A p s m args c cc nL Ts own) (G : gW D ad cy N A H0 cm dm H locs) {index t : Nat} (hk : gck t = 8) (ht : t < N) (hin : ∀ w ∈ wsX80, w ∈ Ts) (hl : Cond.fieldLink own index "LeaningMarket$Work" "begun" "I" ∈ Ts) (hdg : decode cc pc = .ok (.getfield index, 3)) (kk : W p l e R s m args below meth c H locs cells slots Q (F0 m (pc + 3) ls (.int (cm.1 t 2) :: rest))) : W p l e R s m args below meth c H locs cells slots Q (F0 m pc ls (.ref (ad t) :: rest)) :=
  gx_get F G ht (gwe_8 hk) rfl hin 2 (by decide) hl rfl hdg kk
theorem fp_8_begun (F : gF sa D ad cy N A p s m args c cc nL Ts own) (G : gW D ad cy N A H0 cm dm H locs) {index t : Nat} (hk : gck t = 8) (ht : t < N) (hin : ∀ w ∈ wsX80, w ∈ Ts) (hl : Cond.fieldLink own index "LeaningMarket$Work" "begun" "I" ∈ Ts) {x : Int32} (hdg : decode cc pc = .ok (.putfield index, 3)) (kk : ∀ (H1 : Heap) (locs1 : List Loc), gW D ad cy N A H0 (gm_r cm t (upd (cm.1 t) 2 x)) dm H1 locs1 → W p l e R s m args below meth c H1 locs1 cells slots Q (F0 m (pc + 3) ls rest)) : W p l e R s m args below meth c H locs cells slots Q (F0 m pc ls (.int x :: .ref (ad t) :: rest)) :=
  gx_put F G (ty := .int) ht (gwe_8 hk) rfl hin tyX8 tyX8_ok nmX8 2 (by decide) hl rfl (by decide +kernel) rfl rfl (Nat.le_of_ble_eq_true rfl) (by rw [gwe_8 hk]; simp [gm_r, va_up_self, upd]) (fun i h => gwe_rc h) hdg kk
theorem fg_8_done (F : gF sa D ad cy N A p s m args c cc nL Ts own) (G : gW D ad cy N A H0 cm dm H locs) {index t : Nat} (hk : gck t = 8) (ht : t < N) (hin : ∀ w ∈ wsX80, w ∈ Ts) (hl : Cond.fieldLink own index "LeaningMarket$Work" "done" "I" ∈ Ts) (hdg : decode cc pc = .ok (.getfield index, 3)) (kk : W p l e R s m args below meth c H locs cells slots Q (F0 m (pc + 3) ls (.int (cm.1 t 3) :: rest))) : W p l e R s m args below meth c H locs cells slots Q (F0 m pc ls (.ref (ad t) :: rest)) :=
  gx_get F G ht (gwe_8 hk) rfl hin 3 (by decide) hl rfl hdg kk
theorem fp_8_done (F : gF sa D ad cy N A p s m args c cc nL Ts own) (G : gW D ad cy N A H0 cm dm H locs) {index t : Nat} (hk : gck t = 8) (ht : t < N) (hin : ∀ w ∈ wsX80, w ∈ Ts) (hl : Cond.fieldLink own index "LeaningMarket$Work" "done" "I" ∈ Ts) {x : Int32} (hdg : decode cc pc = .ok (.putfield index, 3)) (kk : ∀ (H1 : Heap) (locs1 : List Loc), gW D ad cy N A H0 (gm_r cm t (upd (cm.1 t) 3 x)) dm H1 locs1 → W p l e R s m args below meth c H1 locs1 cells slots Q (F0 m (pc + 3) ls rest)) : W p l e R s m args below meth c H locs cells slots Q (F0 m pc ls (.int x :: .ref (ad t) :: rest)) :=
  gx_put F G (ty := .int) ht (gwe_8 hk) rfl hin tyX8 tyX8_ok nmX8 3 (by decide) hl rfl (by decide +kernel) rfl rfl (Nat.le_of_ble_eq_true rfl) (by rw [gwe_8 hk]; simp [gm_r, va_up_self, upd]) (fun i h => gwe_rc h) hdg kk
theorem fg_8_refused (F : gF sa D ad cy N A p s m args c cc nL Ts own) (G : gW D ad cy N A H0 cm dm H locs) {index t : Nat} (hk : gck t = 8) (ht : t < N) (hin : ∀ w ∈ wsX80, w ∈ Ts) (hl : Cond.fieldLink own index "LeaningMarket$Work" "refused" "I" ∈ Ts) (hdg : decode cc pc = .ok (.getfield index, 3)) (kk : W p l e R s m args below meth c H locs cells slots Q (F0 m (pc + 3) ls (.int (cm.1 t 4) :: rest))) : W p l e R s m args below meth c H locs cells slots Q (F0 m pc ls (.ref (ad t) :: rest)) :=
  gx_get F G ht (gwe_8 hk) rfl hin 4 (by decide) hl rfl hdg kk
theorem fp_8_refused (F : gF sa D ad cy N A p s m args c cc nL Ts own) (G : gW D ad cy N A H0 cm dm H locs) {index t : Nat} (hk : gck t = 8) (ht : t < N) (hin : ∀ w ∈ wsX80, w ∈ Ts) (hl : Cond.fieldLink own index "LeaningMarket$Work" "refused" "I" ∈ Ts) {x : Int32} (hdg : decode cc pc = .ok (.putfield index, 3)) (kk : ∀ (H1 : Heap) (locs1 : List Loc), gW D ad cy N A H0 (gm_r cm t (upd (cm.1 t) 4 x)) dm H1 locs1 → W p l e R s m args below meth c H1 locs1 cells slots Q (F0 m (pc + 3) ls rest)) : W p l e R s m args below meth c H locs cells slots Q (F0 m pc ls (.int x :: .ref (ad t) :: rest)) :=
  gx_put F G (ty := .int) ht (gwe_8 hk) rfl hin tyX8 tyX8_ok nmX8 4 (by decide) hl rfl (by decide +kernel) rfl rfl (Nat.le_of_ble_eq_true rfl) (by rw [gwe_8 hk]; simp [gm_r, va_up_self, upd]) (fun i h => gwe_rc h) hdg kk
theorem fg_9_text (F : gF sa D ad cy N A p s m args c cc nL Ts own) (G : gW D ad cy N A H0 cm dm H locs) {index t : Nat} (hk : gck t = 9) (ht : t < N) (hin : ∀ w ∈ wsX90, w ∈ Ts) (hl : Cond.fieldLink own index "LeaningMarket" "text" "LLeaningMarket$Text;" ∈ Ts) (hdg : decode cc pc = .ok (.getfield index, 3)) (kk : W p l e R s m args below meth c H locs cells slots Q (F0 m (pc + 3) ls (.ref (ad 1) :: rest))) : W p l e R s m args below meth c H locs cells slots Q (F0 m pc ls (.ref (ad t) :: rest)) :=
  gx_get F G ht (gwe_9 hk) rfl hin 0 (by decide) hl rfl hdg kk
theorem fg_9_now (F : gF sa D ad cy N A p s m args c cc nL Ts own) (G : gW D ad cy N A H0 cm dm H locs) {index t : Nat} (hk : gck t = 9) (ht : t < N) (hin : ∀ w ∈ wsX90, w ∈ Ts) (hl : Cond.fieldLink own index "LeaningMarket" "now" "LLeaningMarket$State;" ∈ Ts) (hdg : decode cc pc = .ok (.getfield index, 3)) (kk : W p l e R s m args below meth c H locs cells slots Q (F0 m (pc + 3) ls (.ref (ad 3) :: rest))) : W p l e R s m args below meth c H locs cells slots Q (F0 m pc ls (.ref (ad t) :: rest)) :=
  gx_get F G ht (gwe_9 hk) rfl hin 1 (by decide) hl rfl hdg kk
theorem fg_9_draft (F : gF sa D ad cy N A p s m args c cc nL Ts own) (G : gW D ad cy N A H0 cm dm H locs) {index t : Nat} (hk : gck t = 9) (ht : t < N) (hin : ∀ w ∈ wsX90, w ∈ Ts) (hl : Cond.fieldLink own index "LeaningMarket" "draft" "LLeaningMarket$State;" ∈ Ts) (hdg : decode cc pc = .ok (.getfield index, 3)) (kk : W p l e R s m args below meth c H locs cells slots Q (F0 m (pc + 3) ls (.ref (ad 9) :: rest))) : W p l e R s m args below meth c H locs cells slots Q (F0 m pc ls (.ref (ad t) :: rest)) :=
  gx_get F G ht (gwe_9 hk) rfl hin 2 (by decide) hl rfl hdg kk
theorem fg_9_steps (F : gF sa D ad cy N A p s m args c cc nL Ts own) (G : gW D ad cy N A H0 cm dm H locs) {index t : Nat} (hk : gck t = 9) (ht : t < N) (hin : ∀ w ∈ wsX90, w ∈ Ts) (hl : Cond.fieldLink own index "LeaningMarket" "steps" "LLeaningMarket$Work;" ∈ Ts) (hdg : decode cc pc = .ok (.getfield index, 3)) (kk : W p l e R s m args below meth c H locs cells slots Q (F0 m (pc + 3) ls (.ref (ad 15) :: rest))) : W p l e R s m args below meth c H locs cells slots Q (F0 m pc ls (.ref (ad t) :: rest)) :=
  gx_get F G ht (gwe_9 hk) rfl hin 3 (by decide) hl rfl hdg kk
theorem fg_9_past (F : gF sa D ad cy N A p s m args c cc nL Ts own) (G : gW D ad cy N A H0 cm dm H locs) {index t : Nat} (hk : gck t = 9) (ht : t < N) (hin : ∀ w ∈ wsX90, w ∈ Ts) (hl : Cond.fieldLink own index "LeaningMarket" "past" "LLeaningMarket$Past;" ∈ Ts) (hdg : decode cc pc = .ok (.getfield index, 3)) (kk : W p l e R s m args below meth c H locs cells slots Q (F0 m (pc + 3) ls (.ref (ad 17) :: rest))) : W p l e R s m args below meth c H locs cells slots Q (F0 m pc ls (.ref (ad t) :: rest)) :=
  gx_get F G ht (gwe_9 hk) rfl hin 4 (by decide) hl rfl hdg kk
theorem fg_9_chains (F : gF sa D ad cy N A p s m args c cc nL Ts own) (G : gW D ad cy N A H0 cm dm H locs) {index t : Nat} (hk : gck t = 9) (ht : t < N) (hin : ∀ w ∈ wsX90, w ∈ Ts) (hl : Cond.fieldLink own index "LeaningMarket" "chains" "LLeaningMarket$Chains;" ∈ Ts) (hdg : decode cc pc = .ok (.getfield index, 3)) (kk : W p l e R s m args below meth c H locs cells slots Q (F0 m (pc + 3) ls (.ref (ad 21) :: rest))) : W p l e R s m args below meth c H locs cells slots Q (F0 m pc ls (.ref (ad t) :: rest)) :=
  gx_get F G ht (gwe_9 hk) rfl hin 5 (by decide) hl rfl hdg kk
theorem fg_9_pans (F : gF sa D ad cy N A p s m args c cc nL Ts own) (G : gW D ad cy N A H0 cm dm H locs) {index t : Nat} (hk : gck t = 9) (ht : t < N) (hin : ∀ w ∈ wsX90, w ∈ Ts) (hl : Cond.fieldLink own index "LeaningMarket" "pans" "LLeaningMarket$Pans;" ∈ Ts) (hdg : decode cc pc = .ok (.getfield index, 3)) (kk : W p l e R s m args below meth c H locs cells slots Q (F0 m (pc + 3) ls (.ref (ad 23) :: rest))) : W p l e R s m args below meth c H locs cells slots Q (F0 m pc ls (.ref (ad t) :: rest)) :=
  gx_get F G ht (gwe_9 hk) rfl hin 6 (by decide) hl rfl hdg kk
theorem fg_9_fairs (F : gF sa D ad cy N A p s m args c cc nL Ts own) (G : gW D ad cy N A H0 cm dm H locs) {index t : Nat} (hk : gck t = 9) (ht : t < N) (hin : ∀ w ∈ wsX90, w ∈ Ts) (hl : Cond.fieldLink own index "LeaningMarket" "fairs" "LLeaningMarket$Fair;" ∈ Ts) (hdg : decode cc pc = .ok (.getfield index, 3)) (kk : W p l e R s m args below meth c H locs cells slots Q (F0 m (pc + 3) ls (.ref (ad 26) :: rest))) : W p l e R s m args below meth c H locs cells slots Q (F0 m pc ls (.ref (ad t) :: rest)) :=
  gx_get F G ht (gwe_9 hk) rfl hin 7 (by decide) hl rfl hdg kk
theorem fg_9_rule (F : gF sa D ad cy N A p s m args c cc nL Ts own) (G : gW D ad cy N A H0 cm dm H locs) {index t : Nat} (hk : gck t = 9) (ht : t < N) (hin : ∀ w ∈ wsX90, w ∈ Ts) (hl : Cond.fieldLink own index "LeaningMarket" "rule" "LLeaningMarket$Law;" ∈ Ts) (hdg : decode cc pc = .ok (.getfield index, 3)) (kk : W p l e R s m args below meth c H locs cells slots Q (F0 m (pc + 3) ls (.ref (ad (cm.2.2 0)) :: rest))) : W p l e R s m args below meth c H locs cells slots Q (F0 m pc ls (.ref (ad t) :: rest)) :=
  gx_get F G ht (gwe_9 hk) rfl hin 8 (by decide) hl rfl hdg kk
theorem fp_9_rule (F : gF sa D ad cy N A p s m args c cc nL Ts own) (G : gW D ad cy N A H0 cm dm H locs) {index t : Nat} (hk : gck t = 9) (ht : t < N) (hin : ∀ w ∈ wsX90, w ∈ Ts) (hl : Cond.fieldLink own index "LeaningMarket" "rule" "LLeaningMarket$Law;" ∈ Ts) {x : Nat} (hdg : decode cc pc = .ok (.putfield index, 3)) (kk : ∀ (H1 : Heap) (locs1 : List Loc), gW D ad cy N A H0 (gm_k cm 0 x) dm H1 locs1 → W p l e R s m args below meth c H1 locs1 cells slots Q (F0 m (pc + 3) ls rest)) : W p l e R s m args below meth c H locs cells slots Q (F0 m pc ls (.ref (ad x) :: .ref (ad t) :: rest)) :=
  gx_put F G (ty := .object "LeaningMarket$Law") ht (gwe_9 hk) rfl hin tyX9 tyX9_ok nmX9 8 (by decide) hl rfl (by decide +kernel) rfl rfl (Nat.le_of_ble_eq_true rfl) (by rw [gwe_9 hk]; simp [gm_k, va_up]) (fun i h => gwe_kc (fun q => h (by rw [gck_9 q, gck_9 hk]))) hdg kk
theorem fg_9_spareRule (F : gF sa D ad cy N A p s m args c cc nL Ts own) (G : gW D ad cy N A H0 cm dm H locs) {index t : Nat} (hk : gck t = 9) (ht : t < N) (hin : ∀ w ∈ wsX90, w ∈ Ts) (hl : Cond.fieldLink own index "LeaningMarket" "spareRule" "LLeaningMarket$Law;" ∈ Ts) (hdg : decode cc pc = .ok (.getfield index, 3)) (kk : W p l e R s m args below meth c H locs cells slots Q (F0 m (pc + 3) ls (.ref (ad (cm.2.2 1)) :: rest))) : W p l e R s m args below meth c H locs cells slots Q (F0 m pc ls (.ref (ad t) :: rest)) :=
  gx_get F G ht (gwe_9 hk) rfl hin 9 (by decide) hl rfl hdg kk
theorem fp_9_spareRule (F : gF sa D ad cy N A p s m args c cc nL Ts own) (G : gW D ad cy N A H0 cm dm H locs) {index t : Nat} (hk : gck t = 9) (ht : t < N) (hin : ∀ w ∈ wsX90, w ∈ Ts) (hl : Cond.fieldLink own index "LeaningMarket" "spareRule" "LLeaningMarket$Law;" ∈ Ts) {x : Nat} (hdg : decode cc pc = .ok (.putfield index, 3)) (kk : ∀ (H1 : Heap) (locs1 : List Loc), gW D ad cy N A H0 (gm_k cm 1 x) dm H1 locs1 → W p l e R s m args below meth c H1 locs1 cells slots Q (F0 m (pc + 3) ls rest)) : W p l e R s m args below meth c H locs cells slots Q (F0 m pc ls (.ref (ad x) :: .ref (ad t) :: rest)) :=
  gx_put F G (ty := .object "LeaningMarket$Law") ht (gwe_9 hk) rfl hin tyX9 tyX9_ok nmX9 9 (by decide) hl rfl (by decide +kernel) rfl rfl (Nat.le_of_ble_eq_true rfl) (by rw [gwe_9 hk]; simp [gm_k, va_up]) (fun i h => gwe_kc (fun q => h (by rw [gck_9 q, gck_9 hk]))) hdg kk
theorem fg_9_lines (F : gF sa D ad cy N A p s m args c cc nL Ts own) (G : gW D ad cy N A H0 cm dm H locs) {index t : Nat} (hk : gck t = 9) (ht : t < N) (hin : ∀ w ∈ wsX90, w ∈ Ts) (hl : Cond.fieldLink own index "LeaningMarket" "lines" "LLeaningMarket$Book;" ∈ Ts) (hdg : decode cc pc = .ok (.getfield index, 3)) (kk : W p l e R s m args below meth c H locs cells slots Q (F0 m (pc + 3) ls (.ref (ad (cm.2.2 2)) :: rest))) : W p l e R s m args below meth c H locs cells slots Q (F0 m pc ls (.ref (ad t) :: rest)) :=
  gx_get F G ht (gwe_9 hk) rfl hin 10 (by decide) hl rfl hdg kk
theorem fp_9_lines (F : gF sa D ad cy N A p s m args c cc nL Ts own) (G : gW D ad cy N A H0 cm dm H locs) {index t : Nat} (hk : gck t = 9) (ht : t < N) (hin : ∀ w ∈ wsX90, w ∈ Ts) (hl : Cond.fieldLink own index "LeaningMarket" "lines" "LLeaningMarket$Book;" ∈ Ts) {x : Nat} (hdg : decode cc pc = .ok (.putfield index, 3)) (kk : ∀ (H1 : Heap) (locs1 : List Loc), gW D ad cy N A H0 (gm_k cm 2 x) dm H1 locs1 → W p l e R s m args below meth c H1 locs1 cells slots Q (F0 m (pc + 3) ls rest)) : W p l e R s m args below meth c H locs cells slots Q (F0 m pc ls (.ref (ad x) :: .ref (ad t) :: rest)) :=
  gx_put F G (ty := .object "LeaningMarket$Book") ht (gwe_9 hk) rfl hin tyX9 tyX9_ok nmX9 10 (by decide) hl rfl (by decide +kernel) rfl rfl (Nat.le_of_ble_eq_true rfl) (by rw [gwe_9 hk]; simp [gm_k, va_up]) (fun i h => gwe_kc (fun q => h (by rw [gck_9 q, gck_9 hk]))) hdg kk
theorem fg_9_spareLines (F : gF sa D ad cy N A p s m args c cc nL Ts own) (G : gW D ad cy N A H0 cm dm H locs) {index t : Nat} (hk : gck t = 9) (ht : t < N) (hin : ∀ w ∈ wsX90, w ∈ Ts) (hl : Cond.fieldLink own index "LeaningMarket" "spareLines" "LLeaningMarket$Book;" ∈ Ts) (hdg : decode cc pc = .ok (.getfield index, 3)) (kk : W p l e R s m args below meth c H locs cells slots Q (F0 m (pc + 3) ls (.ref (ad (cm.2.2 3)) :: rest))) : W p l e R s m args below meth c H locs cells slots Q (F0 m pc ls (.ref (ad t) :: rest)) :=
  gx_get F G ht (gwe_9 hk) rfl hin 11 (by decide) hl rfl hdg kk
theorem fp_9_spareLines (F : gF sa D ad cy N A p s m args c cc nL Ts own) (G : gW D ad cy N A H0 cm dm H locs) {index t : Nat} (hk : gck t = 9) (ht : t < N) (hin : ∀ w ∈ wsX90, w ∈ Ts) (hl : Cond.fieldLink own index "LeaningMarket" "spareLines" "LLeaningMarket$Book;" ∈ Ts) {x : Nat} (hdg : decode cc pc = .ok (.putfield index, 3)) (kk : ∀ (H1 : Heap) (locs1 : List Loc), gW D ad cy N A H0 (gm_k cm 3 x) dm H1 locs1 → W p l e R s m args below meth c H1 locs1 cells slots Q (F0 m (pc + 3) ls rest)) : W p l e R s m args below meth c H locs cells slots Q (F0 m pc ls (.ref (ad x) :: .ref (ad t) :: rest)) :=
  gx_put F G (ty := .object "LeaningMarket$Book") ht (gwe_9 hk) rfl hin tyX9 tyX9_ok nmX9 11 (by decide) hl rfl (by decide +kernel) rfl rfl (Nat.le_of_ble_eq_true rfl) (by rw [gwe_9 hk]; simp [gm_k, va_up]) (fun i h => gwe_kc (fun q => h (by rw [gck_9 q, gck_9 hk]))) hdg kk
theorem fg_9_refusedSteps (F : gF sa D ad cy N A p s m args c cc nL Ts own) (G : gW D ad cy N A H0 cm dm H locs) {index t : Nat} (hk : gck t = 9) (ht : t < N) (hin : ∀ w ∈ wsX90, w ∈ Ts) (hl : Cond.fieldLink own index "LeaningMarket" "refusedSteps" "I" ∈ Ts) (hdg : decode cc pc = .ok (.getfield index, 3)) (kk : W p l e R s m args below meth c H locs cells slots Q (F0 m (pc + 3) ls (.int (cm.1 t 12) :: rest))) : W p l e R s m args below meth c H locs cells slots Q (F0 m pc ls (.ref (ad t) :: rest)) :=
  gx_get F G ht (gwe_9 hk) rfl hin 12 (by decide) hl rfl hdg kk
theorem fp_9_refusedSteps (F : gF sa D ad cy N A p s m args c cc nL Ts own) (G : gW D ad cy N A H0 cm dm H locs) {index t : Nat} (hk : gck t = 9) (ht : t < N) (hin : ∀ w ∈ wsX90, w ∈ Ts) (hl : Cond.fieldLink own index "LeaningMarket" "refusedSteps" "I" ∈ Ts) {x : Int32} (hdg : decode cc pc = .ok (.putfield index, 3)) (kk : ∀ (H1 : Heap) (locs1 : List Loc), gW D ad cy N A H0 (gm_r cm t (upd (cm.1 t) 12 x)) dm H1 locs1 → W p l e R s m args below meth c H1 locs1 cells slots Q (F0 m (pc + 3) ls rest)) : W p l e R s m args below meth c H locs cells slots Q (F0 m pc ls (.int x :: .ref (ad t) :: rest)) :=
  gx_put F G (ty := .int) ht (gwe_9 hk) rfl hin tyX9 tyX9_ok nmX9 12 (by decide) hl rfl (by decide +kernel) rfl rfl (Nat.le_of_ble_eq_true rfl) (by rw [gwe_9 hk]; simp [gm_r, va_up_self, upd]) (fun i h => gwe_rc h) hdg kk
theorem fg_9_noSuchCalls (F : gF sa D ad cy N A p s m args c cc nL Ts own) (G : gW D ad cy N A H0 cm dm H locs) {index t : Nat} (hk : gck t = 9) (ht : t < N) (hin : ∀ w ∈ wsX90, w ∈ Ts) (hl : Cond.fieldLink own index "LeaningMarket" "noSuchCalls" "I" ∈ Ts) (hdg : decode cc pc = .ok (.getfield index, 3)) (kk : W p l e R s m args below meth c H locs cells slots Q (F0 m (pc + 3) ls (.int (cm.1 t 13) :: rest))) : W p l e R s m args below meth c H locs cells slots Q (F0 m pc ls (.ref (ad t) :: rest)) :=
  gx_get F G ht (gwe_9 hk) rfl hin 13 (by decide) hl rfl hdg kk
theorem fp_9_noSuchCalls (F : gF sa D ad cy N A p s m args c cc nL Ts own) (G : gW D ad cy N A H0 cm dm H locs) {index t : Nat} (hk : gck t = 9) (ht : t < N) (hin : ∀ w ∈ wsX90, w ∈ Ts) (hl : Cond.fieldLink own index "LeaningMarket" "noSuchCalls" "I" ∈ Ts) {x : Int32} (hdg : decode cc pc = .ok (.putfield index, 3)) (kk : ∀ (H1 : Heap) (locs1 : List Loc), gW D ad cy N A H0 (gm_r cm t (upd (cm.1 t) 13 x)) dm H1 locs1 → W p l e R s m args below meth c H1 locs1 cells slots Q (F0 m (pc + 3) ls rest)) : W p l e R s m args below meth c H locs cells slots Q (F0 m pc ls (.int x :: .ref (ad t) :: rest)) :=
  gx_put F G (ty := .int) ht (gwe_9 hk) rfl hin tyX9 tyX9_ok nmX9 13 (by decide) hl rfl (by decide +kernel) rfl rfl (Nat.le_of_ble_eq_true rfl) (by rw [gwe_9 hk]; simp [gm_r, va_up_self, upd]) (fun i h => gwe_rc h) hdg kk
theorem fg_9_illegalCalls (F : gF sa D ad cy N A p s m args c cc nL Ts own) (G : gW D ad cy N A H0 cm dm H locs) {index t : Nat} (hk : gck t = 9) (ht : t < N) (hin : ∀ w ∈ wsX90, w ∈ Ts) (hl : Cond.fieldLink own index "LeaningMarket" "illegalCalls" "I" ∈ Ts) (hdg : decode cc pc = .ok (.getfield index, 3)) (kk : W p l e R s m args below meth c H locs cells slots Q (F0 m (pc + 3) ls (.int (cm.1 t 14) :: rest))) : W p l e R s m args below meth c H locs cells slots Q (F0 m pc ls (.ref (ad t) :: rest)) :=
  gx_get F G ht (gwe_9 hk) rfl hin 14 (by decide) hl rfl hdg kk
theorem fp_9_illegalCalls (F : gF sa D ad cy N A p s m args c cc nL Ts own) (G : gW D ad cy N A H0 cm dm H locs) {index t : Nat} (hk : gck t = 9) (ht : t < N) (hin : ∀ w ∈ wsX90, w ∈ Ts) (hl : Cond.fieldLink own index "LeaningMarket" "illegalCalls" "I" ∈ Ts) {x : Int32} (hdg : decode cc pc = .ok (.putfield index, 3)) (kk : ∀ (H1 : Heap) (locs1 : List Loc), gW D ad cy N A H0 (gm_r cm t (upd (cm.1 t) 14 x)) dm H1 locs1 → W p l e R s m args below meth c H1 locs1 cells slots Q (F0 m (pc + 3) ls rest)) : W p l e R s m args below meth c H locs cells slots Q (F0 m pc ls (.int x :: .ref (ad t) :: rest)) :=
  gx_put F G (ty := .int) ht (gwe_9 hk) rfl hin tyX9 tyX9_ok nmX9 14 (by decide) hl rfl (by decide +kernel) rfl rfl (Nat.le_of_ble_eq_true rfl) (by rw [gwe_9 hk]; simp [gm_r, va_up_self, upd]) (fun i h => gwe_rc h) hdg kk
theorem fg_10_thrown (F : gF sa D ad cy N A p s m args c cc nL Ts own) (G : gW D ad cy N A H0 cm dm H locs) {index t : Nat} (hk : gck t = 10) (ht : t < N) (hin : ∀ w ∈ wsX100, w ∈ Ts) (hl : Cond.fieldLink own index "LeaningMarketModel" "thrown" "I" ∈ Ts) (hdg : decode cc pc = .ok (.getfield index, 3)) (kk : W p l e R s m args below meth c H locs cells slots Q (F0 m (pc + 3) ls (.int (dm.1 t 0) :: rest))) : W p l e R s m args below meth c H locs cells slots Q (F0 m pc ls (.ref (ad t) :: rest)) :=
  gx_get F G ht (gwe_10 hk) rfl hin 0 (by decide) hl rfl hdg kk
theorem fp_10_thrown (F : gF sa D ad cy N A p s m args c cc nL Ts own) (G : gW D ad cy N A H0 cm dm H locs) {index t : Nat} (hk : gck t = 10) (ht : t < N) (hin : ∀ w ∈ wsX100, w ∈ Ts) (hl : Cond.fieldLink own index "LeaningMarketModel" "thrown" "I" ∈ Ts) {x : Int32} (hdg : decode cc pc = .ok (.putfield index, 3)) (kk : ∀ (H1 : Heap) (locs1 : List Loc), gW D ad cy N A H0 cm (gm_r dm t (upd (dm.1 t) 0 x)) H1 locs1 → W p l e R s m args below meth c H1 locs1 cells slots Q (F0 m (pc + 3) ls rest)) : W p l e R s m args below meth c H locs cells slots Q (F0 m pc ls (.int x :: .ref (ad t) :: rest)) :=
  gx_put F G (ty := .int) ht (gwe_10 hk) rfl hin tyX10 tyX10_ok nmX10 0 (by decide) hl rfl (by decide +kernel) rfl rfl (Nat.le_of_ble_eq_true rfl) (by rw [gwe_10 hk]; simp [gm_r, va_up_self, upd]) (fun i h => gwe_rd h) hdg kk
theorem fg_10_tape (F : gF sa D ad cy N A p s m args c cc nL Ts own) (G : gW D ad cy N A H0 cm dm H locs) {index t : Nat} (hk : gck t = 10) (ht : t < N) (hin : ∀ w ∈ wsX100, w ∈ Ts) (hl : Cond.fieldLink own index "LeaningMarketModel" "tape" "I" ∈ Ts) (hdg : decode cc pc = .ok (.getfield index, 3)) (kk : W p l e R s m args below meth c H locs cells slots Q (F0 m (pc + 3) ls (.int (dm.1 t 1) :: rest))) : W p l e R s m args below meth c H locs cells slots Q (F0 m pc ls (.ref (ad t) :: rest)) :=
  gx_get F G ht (gwe_10 hk) rfl hin 1 (by decide) hl rfl hdg kk
theorem fp_10_tape (F : gF sa D ad cy N A p s m args c cc nL Ts own) (G : gW D ad cy N A H0 cm dm H locs) {index t : Nat} (hk : gck t = 10) (ht : t < N) (hin : ∀ w ∈ wsX100, w ∈ Ts) (hl : Cond.fieldLink own index "LeaningMarketModel" "tape" "I" ∈ Ts) {x : Int32} (hdg : decode cc pc = .ok (.putfield index, 3)) (kk : ∀ (H1 : Heap) (locs1 : List Loc), gW D ad cy N A H0 cm (gm_r dm t (upd (dm.1 t) 1 x)) H1 locs1 → W p l e R s m args below meth c H1 locs1 cells slots Q (F0 m (pc + 3) ls rest)) : W p l e R s m args below meth c H locs cells slots Q (F0 m pc ls (.int x :: .ref (ad t) :: rest)) :=
  gx_put F G (ty := .int) ht (gwe_10 hk) rfl hin tyX10 tyX10_ok nmX10 1 (by decide) hl rfl (by decide +kernel) rfl rfl (Nat.le_of_ble_eq_true rfl) (by rw [gwe_10 hk]; simp [gm_r, va_up_self, upd]) (fun i h => gwe_rd h) hdg kk
theorem fg_10_size (F : gF sa D ad cy N A p s m args c cc nL Ts own) (G : gW D ad cy N A H0 cm dm H locs) {index t : Nat} (hk : gck t = 10) (ht : t < N) (hin : ∀ w ∈ wsX100, w ∈ Ts) (hl : Cond.fieldLink own index "LeaningMarketModel" "size" "I" ∈ Ts) (hdg : decode cc pc = .ok (.getfield index, 3)) (kk : W p l e R s m args below meth c H locs cells slots Q (F0 m (pc + 3) ls (.int (dm.1 t 2) :: rest))) : W p l e R s m args below meth c H locs cells slots Q (F0 m pc ls (.ref (ad t) :: rest)) :=
  gx_get F G ht (gwe_10 hk) rfl hin 2 (by decide) hl rfl hdg kk
theorem fp_10_size (F : gF sa D ad cy N A p s m args c cc nL Ts own) (G : gW D ad cy N A H0 cm dm H locs) {index t : Nat} (hk : gck t = 10) (ht : t < N) (hin : ∀ w ∈ wsX100, w ∈ Ts) (hl : Cond.fieldLink own index "LeaningMarketModel" "size" "I" ∈ Ts) {x : Int32} (hdg : decode cc pc = .ok (.putfield index, 3)) (kk : ∀ (H1 : Heap) (locs1 : List Loc), gW D ad cy N A H0 cm (gm_r dm t (upd (dm.1 t) 2 x)) H1 locs1 → W p l e R s m args below meth c H1 locs1 cells slots Q (F0 m (pc + 3) ls rest)) : W p l e R s m args below meth c H locs cells slots Q (F0 m pc ls (.int x :: .ref (ad t) :: rest)) :=
  gx_put F G (ty := .int) ht (gwe_10 hk) rfl hin tyX10 tyX10_ok nmX10 2 (by decide) hl rfl (by decide +kernel) rfl rfl (Nat.le_of_ble_eq_true rfl) (by rw [gwe_10 hk]; simp [gm_r, va_up_self, upd]) (fun i h => gwe_rd h) hdg kk
theorem fg_10_place (F : gF sa D ad cy N A p s m args c cc nL Ts own) (G : gW D ad cy N A H0 cm dm H locs) {index t : Nat} (hk : gck t = 10) (ht : t < N) (hin : ∀ w ∈ wsX100, w ∈ Ts) (hl : Cond.fieldLink own index "LeaningMarketModel" "place" "I" ∈ Ts) (hdg : decode cc pc = .ok (.getfield index, 3)) (kk : W p l e R s m args below meth c H locs cells slots Q (F0 m (pc + 3) ls (.int (dm.1 t 3) :: rest))) : W p l e R s m args below meth c H locs cells slots Q (F0 m pc ls (.ref (ad t) :: rest)) :=
  gx_get F G ht (gwe_10 hk) rfl hin 3 (by decide) hl rfl hdg kk
theorem fp_10_place (F : gF sa D ad cy N A p s m args c cc nL Ts own) (G : gW D ad cy N A H0 cm dm H locs) {index t : Nat} (hk : gck t = 10) (ht : t < N) (hin : ∀ w ∈ wsX100, w ∈ Ts) (hl : Cond.fieldLink own index "LeaningMarketModel" "place" "I" ∈ Ts) {x : Int32} (hdg : decode cc pc = .ok (.putfield index, 3)) (kk : ∀ (H1 : Heap) (locs1 : List Loc), gW D ad cy N A H0 cm (gm_r dm t (upd (dm.1 t) 3 x)) H1 locs1 → W p l e R s m args below meth c H1 locs1 cells slots Q (F0 m (pc + 3) ls rest)) : W p l e R s m args below meth c H locs cells slots Q (F0 m pc ls (.int x :: .ref (ad t) :: rest)) :=
  gx_put F G (ty := .int) ht (gwe_10 hk) rfl hin tyX10 tyX10_ok nmX10 3 (by decide) hl rfl (by decide +kernel) rfl rfl (Nat.le_of_ble_eq_true rfl) (by rw [gwe_10 hk]; simp [gm_r, va_up_self, upd]) (fun i h => gwe_rd h) hdg kk
theorem fg_10_at (F : gF sa D ad cy N A p s m args c cc nL Ts own) (G : gW D ad cy N A H0 cm dm H locs) {index t : Nat} (hk : gck t = 10) (ht : t < N) (hin : ∀ w ∈ wsX100, w ∈ Ts) (hl : Cond.fieldLink own index "LeaningMarketModel" "at" "I" ∈ Ts) (hdg : decode cc pc = .ok (.getfield index, 3)) (kk : W p l e R s m args below meth c H locs cells slots Q (F0 m (pc + 3) ls (.int (dm.1 t 4) :: rest))) : W p l e R s m args below meth c H locs cells slots Q (F0 m pc ls (.ref (ad t) :: rest)) :=
  gx_get F G ht (gwe_10 hk) rfl hin 4 (by decide) hl rfl hdg kk
theorem fp_10_at (F : gF sa D ad cy N A p s m args c cc nL Ts own) (G : gW D ad cy N A H0 cm dm H locs) {index t : Nat} (hk : gck t = 10) (ht : t < N) (hin : ∀ w ∈ wsX100, w ∈ Ts) (hl : Cond.fieldLink own index "LeaningMarketModel" "at" "I" ∈ Ts) {x : Int32} (hdg : decode cc pc = .ok (.putfield index, 3)) (kk : ∀ (H1 : Heap) (locs1 : List Loc), gW D ad cy N A H0 cm (gm_r dm t (upd (dm.1 t) 4 x)) H1 locs1 → W p l e R s m args below meth c H1 locs1 cells slots Q (F0 m (pc + 3) ls rest)) : W p l e R s m args below meth c H locs cells slots Q (F0 m pc ls (.int x :: .ref (ad t) :: rest)) :=
  gx_put F G (ty := .int) ht (gwe_10 hk) rfl hin tyX10 tyX10_ok nmX10 4 (by decide) hl rfl (by decide +kernel) rfl rfl (Nat.le_of_ble_eq_true rfl) (by rw [gwe_10 hk]; simp [gm_r, va_up_self, upd]) (fun i h => gwe_rd h) hdg kk
theorem fg_10_fault (F : gF sa D ad cy N A p s m args c cc nL Ts own) (G : gW D ad cy N A H0 cm dm H locs) {index t : Nat} (hk : gck t = 10) (ht : t < N) (hin : ∀ w ∈ wsX100, w ∈ Ts) (hl : Cond.fieldLink own index "LeaningMarketModel" "fault" "I" ∈ Ts) (hdg : decode cc pc = .ok (.getfield index, 3)) (kk : W p l e R s m args below meth c H locs cells slots Q (F0 m (pc + 3) ls (.int (dm.1 t 5) :: rest))) : W p l e R s m args below meth c H locs cells slots Q (F0 m pc ls (.ref (ad t) :: rest)) :=
  gx_get F G ht (gwe_10 hk) rfl hin 5 (by decide) hl rfl hdg kk
theorem fp_10_fault (F : gF sa D ad cy N A p s m args c cc nL Ts own) (G : gW D ad cy N A H0 cm dm H locs) {index t : Nat} (hk : gck t = 10) (ht : t < N) (hin : ∀ w ∈ wsX100, w ∈ Ts) (hl : Cond.fieldLink own index "LeaningMarketModel" "fault" "I" ∈ Ts) {x : Int32} (hdg : decode cc pc = .ok (.putfield index, 3)) (kk : ∀ (H1 : Heap) (locs1 : List Loc), gW D ad cy N A H0 cm (gm_r dm t (upd (dm.1 t) 5 x)) H1 locs1 → W p l e R s m args below meth c H1 locs1 cells slots Q (F0 m (pc + 3) ls rest)) : W p l e R s m args below meth c H locs cells slots Q (F0 m pc ls (.int x :: .ref (ad t) :: rest)) :=
  gx_put F G (ty := .int) ht (gwe_10 hk) rfl hin tyX10 tyX10_ok nmX10 5 (by decide) hl rfl (by decide +kernel) rfl rfl (Nat.le_of_ble_eq_true rfl) (by rw [gwe_10 hk]; simp [gm_r, va_up_self, upd]) (fun i h => gwe_rd h) hdg kk
theorem fg_10_faultAt (F : gF sa D ad cy N A p s m args c cc nL Ts own) (G : gW D ad cy N A H0 cm dm H locs) {index t : Nat} (hk : gck t = 10) (ht : t < N) (hin : ∀ w ∈ wsX100, w ∈ Ts) (hl : Cond.fieldLink own index "LeaningMarketModel" "faultAt" "I" ∈ Ts) (hdg : decode cc pc = .ok (.getfield index, 3)) (kk : W p l e R s m args below meth c H locs cells slots Q (F0 m (pc + 3) ls (.int (dm.1 t 6) :: rest))) : W p l e R s m args below meth c H locs cells slots Q (F0 m pc ls (.ref (ad t) :: rest)) :=
  gx_get F G ht (gwe_10 hk) rfl hin 6 (by decide) hl rfl hdg kk
theorem fp_10_faultAt (F : gF sa D ad cy N A p s m args c cc nL Ts own) (G : gW D ad cy N A H0 cm dm H locs) {index t : Nat} (hk : gck t = 10) (ht : t < N) (hin : ∀ w ∈ wsX100, w ∈ Ts) (hl : Cond.fieldLink own index "LeaningMarketModel" "faultAt" "I" ∈ Ts) {x : Int32} (hdg : decode cc pc = .ok (.putfield index, 3)) (kk : ∀ (H1 : Heap) (locs1 : List Loc), gW D ad cy N A H0 cm (gm_r dm t (upd (dm.1 t) 6 x)) H1 locs1 → W p l e R s m args below meth c H1 locs1 cells slots Q (F0 m (pc + 3) ls rest)) : W p l e R s m args below meth c H locs cells slots Q (F0 m pc ls (.int x :: .ref (ad t) :: rest)) :=
  gx_put F G (ty := .int) ht (gwe_10 hk) rfl hin tyX10 tyX10_ok nmX10 6 (by decide) hl rfl (by decide +kernel) rfl rfl (Nat.le_of_ble_eq_true rfl) (by rw [gwe_10 hk]; simp [gm_r, va_up_self, upd]) (fun i h => gwe_rd h) hdg kk
theorem fg_10_clauses (F : gF sa D ad cy N A p s m args c cc nL Ts own) (G : gW D ad cy N A H0 cm dm H locs) {index t : Nat} (hk : gck t = 10) (ht : t < N) (hin : ∀ w ∈ wsX100, w ∈ Ts) (hl : Cond.fieldLink own index "LeaningMarketModel" "clauses" "I" ∈ Ts) (hdg : decode cc pc = .ok (.getfield index, 3)) (kk : W p l e R s m args below meth c H locs cells slots Q (F0 m (pc + 3) ls (.int (dm.1 t 7) :: rest))) : W p l e R s m args below meth c H locs cells slots Q (F0 m pc ls (.ref (ad t) :: rest)) :=
  gx_get F G ht (gwe_10 hk) rfl hin 7 (by decide) hl rfl hdg kk
theorem fp_10_clauses (F : gF sa D ad cy N A p s m args c cc nL Ts own) (G : gW D ad cy N A H0 cm dm H locs) {index t : Nat} (hk : gck t = 10) (ht : t < N) (hin : ∀ w ∈ wsX100, w ∈ Ts) (hl : Cond.fieldLink own index "LeaningMarketModel" "clauses" "I" ∈ Ts) {x : Int32} (hdg : decode cc pc = .ok (.putfield index, 3)) (kk : ∀ (H1 : Heap) (locs1 : List Loc), gW D ad cy N A H0 cm (gm_r dm t (upd (dm.1 t) 7 x)) H1 locs1 → W p l e R s m args below meth c H1 locs1 cells slots Q (F0 m (pc + 3) ls rest)) : W p l e R s m args below meth c H locs cells slots Q (F0 m pc ls (.int x :: .ref (ad t) :: rest)) :=
  gx_put F G (ty := .int) ht (gwe_10 hk) rfl hin tyX10 tyX10_ok nmX10 7 (by decide) hl rfl (by decide +kernel) rfl rfl (Nat.le_of_ble_eq_true rfl) (by rw [gwe_10 hk]; simp [gm_r, va_up_self, upd]) (fun i h => gwe_rd h) hdg kk
theorem fg_10_open (F : gF sa D ad cy N A p s m args c cc nL Ts own) (G : gW D ad cy N A H0 cm dm H locs) {index t : Nat} (hk : gck t = 10) (ht : t < N) (hin : ∀ w ∈ wsX100, w ∈ Ts) (hl : Cond.fieldLink own index "LeaningMarketModel" "open" "I" ∈ Ts) (hdg : decode cc pc = .ok (.getfield index, 3)) (kk : W p l e R s m args below meth c H locs cells slots Q (F0 m (pc + 3) ls (.int (dm.1 t 8) :: rest))) : W p l e R s m args below meth c H locs cells slots Q (F0 m pc ls (.ref (ad t) :: rest)) :=
  gx_get F G ht (gwe_10 hk) rfl hin 8 (by decide) hl rfl hdg kk
theorem fp_10_open (F : gF sa D ad cy N A p s m args c cc nL Ts own) (G : gW D ad cy N A H0 cm dm H locs) {index t : Nat} (hk : gck t = 10) (ht : t < N) (hin : ∀ w ∈ wsX100, w ∈ Ts) (hl : Cond.fieldLink own index "LeaningMarketModel" "open" "I" ∈ Ts) {x : Int32} (hdg : decode cc pc = .ok (.putfield index, 3)) (kk : ∀ (H1 : Heap) (locs1 : List Loc), gW D ad cy N A H0 cm (gm_r dm t (upd (dm.1 t) 8 x)) H1 locs1 → W p l e R s m args below meth c H1 locs1 cells slots Q (F0 m (pc + 3) ls rest)) : W p l e R s m args below meth c H locs cells slots Q (F0 m pc ls (.int x :: .ref (ad t) :: rest)) :=
  gx_put F G (ty := .int) ht (gwe_10 hk) rfl hin tyX10 tyX10_ok nmX10 8 (by decide) hl rfl (by decide +kernel) rfl rfl (Nat.le_of_ble_eq_true rfl) (by rw [gwe_10 hk]; simp [gm_r, va_up_self, upd]) (fun i h => gwe_rd h) hdg kk
theorem fg_10_fed (F : gF sa D ad cy N A p s m args c cc nL Ts own) (G : gW D ad cy N A H0 cm dm H locs) {index t : Nat} (hk : gck t = 10) (ht : t < N) (hin : ∀ w ∈ wsX100, w ∈ Ts) (hl : Cond.fieldLink own index "LeaningMarketModel" "fed" "[I" ∈ Ts) (hdg : decode cc pc = .ok (.getfield index, 3)) (kk : W p l e R s m args below meth c H locs cells slots Q (F0 m (pc + 3) ls (.ref (ad 56) :: rest))) : W p l e R s m args below meth c H locs cells slots Q (F0 m pc ls (.ref (ad t) :: rest)) :=
  gx_get F G ht (gwe_10 hk) rfl hin 9 (by decide) hl rfl hdg kk
theorem fg_10_refused (F : gF sa D ad cy N A p s m args c cc nL Ts own) (G : gW D ad cy N A H0 cm dm H locs) {index t : Nat} (hk : gck t = 10) (ht : t < N) (hin : ∀ w ∈ wsX100, w ∈ Ts) (hl : Cond.fieldLink own index "LeaningMarketModel" "refused" "[I" ∈ Ts) (hdg : decode cc pc = .ok (.getfield index, 3)) (kk : W p l e R s m args below meth c H locs cells slots Q (F0 m (pc + 3) ls (.ref (ad 57) :: rest))) : W p l e R s m args below meth c H locs cells slots Q (F0 m pc ls (.ref (ad t) :: rest)) :=
  gx_get F G ht (gwe_10 hk) rfl hin 10 (by decide) hl rfl hdg kk
theorem fg_10_readTold (F : gF sa D ad cy N A p s m args c cc nL Ts own) (G : gW D ad cy N A H0 cm dm H locs) {index t : Nat} (hk : gck t = 10) (ht : t < N) (hin : ∀ w ∈ wsX100, w ∈ Ts) (hl : Cond.fieldLink own index "LeaningMarketModel" "readTold" "[I" ∈ Ts) (hdg : decode cc pc = .ok (.getfield index, 3)) (kk : W p l e R s m args below meth c H locs cells slots Q (F0 m (pc + 3) ls (.ref (ad 58) :: rest))) : W p l e R s m args below meth c H locs cells slots Q (F0 m pc ls (.ref (ad t) :: rest)) :=
  gx_get F G ht (gwe_10 hk) rfl hin 11 (by decide) hl rfl hdg kk
theorem fg_10_told (F : gF sa D ad cy N A p s m args c cc nL Ts own) (G : gW D ad cy N A H0 cm dm H locs) {index t : Nat} (hk : gck t = 10) (ht : t < N) (hin : ∀ w ∈ wsX100, w ∈ Ts) (hl : Cond.fieldLink own index "LeaningMarketModel" "told" "[I" ∈ Ts) (hdg : decode cc pc = .ok (.getfield index, 3)) (kk : W p l e R s m args below meth c H locs cells slots Q (F0 m (pc + 3) ls (.ref (ad 59) :: rest))) : W p l e R s m args below meth c H locs cells slots Q (F0 m pc ls (.ref (ad t) :: rest)) :=
  gx_get F G ht (gwe_10 hk) rfl hin 12 (by decide) hl rfl hdg kk
theorem fg_10_readWeight (F : gF sa D ad cy N A p s m args c cc nL Ts own) (G : gW D ad cy N A H0 cm dm H locs) {index t : Nat} (hk : gck t = 10) (ht : t < N) (hin : ∀ w ∈ wsX100, w ∈ Ts) (hl : Cond.fieldLink own index "LeaningMarketModel" "readWeight" "[I" ∈ Ts) (hdg : decode cc pc = .ok (.getfield index, 3)) (kk : W p l e R s m args below meth c H locs cells slots Q (F0 m (pc + 3) ls (.ref (ad 60) :: rest))) : W p l e R s m args below meth c H locs cells slots Q (F0 m pc ls (.ref (ad t) :: rest)) :=
  gx_get F G ht (gwe_10 hk) rfl hin 13 (by decide) hl rfl hdg kk
theorem fg_10_weight (F : gF sa D ad cy N A p s m args c cc nL Ts own) (G : gW D ad cy N A H0 cm dm H locs) {index t : Nat} (hk : gck t = 10) (ht : t < N) (hin : ∀ w ∈ wsX100, w ∈ Ts) (hl : Cond.fieldLink own index "LeaningMarketModel" "weight" "[I" ∈ Ts) (hdg : decode cc pc = .ok (.getfield index, 3)) (kk : W p l e R s m args below meth c H locs cells slots Q (F0 m (pc + 3) ls (.ref (ad 61) :: rest))) : W p l e R s m args below meth c H locs cells slots Q (F0 m pc ls (.ref (ad t) :: rest)) :=
  gx_get F G ht (gwe_10 hk) rfl hin 14 (by decide) hl rfl hdg kk
theorem fg_10_readCry (F : gF sa D ad cy N A p s m args c cc nL Ts own) (G : gW D ad cy N A H0 cm dm H locs) {index t : Nat} (hk : gck t = 10) (ht : t < N) (hin : ∀ w ∈ wsX100, w ∈ Ts) (hl : Cond.fieldLink own index "LeaningMarketModel" "readCry" "[[I" ∈ Ts) (hdg : decode cc pc = .ok (.getfield index, 3)) (kk : W p l e R s m args below meth c H locs cells slots Q (F0 m (pc + 3) ls (.ref (ad 62) :: rest))) : W p l e R s m args below meth c H locs cells slots Q (F0 m pc ls (.ref (ad t) :: rest)) :=
  gx_get F G ht (gwe_10 hk) rfl hin 15 (by decide) hl rfl hdg kk
theorem fg_10_cry (F : gF sa D ad cy N A p s m args c cc nL Ts own) (G : gW D ad cy N A H0 cm dm H locs) {index t : Nat} (hk : gck t = 10) (ht : t < N) (hin : ∀ w ∈ wsX100, w ∈ Ts) (hl : Cond.fieldLink own index "LeaningMarketModel" "cry" "[[I" ∈ Ts) (hdg : decode cc pc = .ok (.getfield index, 3)) (kk : W p l e R s m args below meth c H locs cells slots Q (F0 m (pc + 3) ls (.ref (ad 73) :: rest))) : W p l e R s m args below meth c H locs cells slots Q (F0 m pc ls (.ref (ad t) :: rest)) :=
  gx_get F G ht (gwe_10 hk) rfl hin 16 (by decide) hl rfl hdg kk
theorem fg_10_lawMany (F : gF sa D ad cy N A p s m args c cc nL Ts own) (G : gW D ad cy N A H0 cm dm H locs) {index t : Nat} (hk : gck t = 10) (ht : t < N) (hin : ∀ w ∈ wsX100, w ∈ Ts) (hl : Cond.fieldLink own index "LeaningMarketModel" "lawMany" "I" ∈ Ts) (hdg : decode cc pc = .ok (.getfield index, 3)) (kk : W p l e R s m args below meth c H locs cells slots Q (F0 m (pc + 3) ls (.int (dm.1 t 17) :: rest))) : W p l e R s m args below meth c H locs cells slots Q (F0 m pc ls (.ref (ad t) :: rest)) :=
  gx_get F G ht (gwe_10 hk) rfl hin 17 (by decide) hl rfl hdg kk
theorem fp_10_lawMany (F : gF sa D ad cy N A p s m args c cc nL Ts own) (G : gW D ad cy N A H0 cm dm H locs) {index t : Nat} (hk : gck t = 10) (ht : t < N) (hin : ∀ w ∈ wsX100, w ∈ Ts) (hl : Cond.fieldLink own index "LeaningMarketModel" "lawMany" "I" ∈ Ts) {x : Int32} (hdg : decode cc pc = .ok (.putfield index, 3)) (kk : ∀ (H1 : Heap) (locs1 : List Loc), gW D ad cy N A H0 cm (gm_r dm t (upd (dm.1 t) 17 x)) H1 locs1 → W p l e R s m args below meth c H1 locs1 cells slots Q (F0 m (pc + 3) ls rest)) : W p l e R s m args below meth c H locs cells slots Q (F0 m pc ls (.int x :: .ref (ad t) :: rest)) :=
  gx_put F G (ty := .int) ht (gwe_10 hk) rfl hin tyX10 tyX10_ok nmX10 17 (by decide) hl rfl (by decide +kernel) rfl rfl (Nat.le_of_ble_eq_true rfl) (by rw [gwe_10 hk]; simp [gm_r, va_up_self, upd]) (fun i h => gwe_rd h) hdg kk
theorem fg_10_readLawMany (F : gF sa D ad cy N A p s m args c cc nL Ts own) (G : gW D ad cy N A H0 cm dm H locs) {index t : Nat} (hk : gck t = 10) (ht : t < N) (hin : ∀ w ∈ wsX100, w ∈ Ts) (hl : Cond.fieldLink own index "LeaningMarketModel" "readLawMany" "I" ∈ Ts) (hdg : decode cc pc = .ok (.getfield index, 3)) (kk : W p l e R s m args below meth c H locs cells slots Q (F0 m (pc + 3) ls (.int (dm.1 t 18) :: rest))) : W p l e R s m args below meth c H locs cells slots Q (F0 m pc ls (.ref (ad t) :: rest)) :=
  gx_get F G ht (gwe_10 hk) rfl hin 18 (by decide) hl rfl hdg kk
theorem fp_10_readLawMany (F : gF sa D ad cy N A p s m args c cc nL Ts own) (G : gW D ad cy N A H0 cm dm H locs) {index t : Nat} (hk : gck t = 10) (ht : t < N) (hin : ∀ w ∈ wsX100, w ∈ Ts) (hl : Cond.fieldLink own index "LeaningMarketModel" "readLawMany" "I" ∈ Ts) {x : Int32} (hdg : decode cc pc = .ok (.putfield index, 3)) (kk : ∀ (H1 : Heap) (locs1 : List Loc), gW D ad cy N A H0 cm (gm_r dm t (upd (dm.1 t) 18 x)) H1 locs1 → W p l e R s m args below meth c H1 locs1 cells slots Q (F0 m (pc + 3) ls rest)) : W p l e R s m args below meth c H locs cells slots Q (F0 m pc ls (.int x :: .ref (ad t) :: rest)) :=
  gx_put F G (ty := .int) ht (gwe_10 hk) rfl hin tyX10 tyX10_ok nmX10 18 (by decide) hl rfl (by decide +kernel) rfl rfl (Nat.le_of_ble_eq_true rfl) (by rw [gwe_10 hk]; simp [gm_r, va_up_self, upd]) (fun i h => gwe_rd h) hdg kk
theorem fg_10_law (F : gF sa D ad cy N A p s m args c cc nL Ts own) (G : gW D ad cy N A H0 cm dm H locs) {index t : Nat} (hk : gck t = 10) (ht : t < N) (hin : ∀ w ∈ wsX100, w ∈ Ts) (hl : Cond.fieldLink own index "LeaningMarketModel" "law" "[[I" ∈ Ts) (hdg : decode cc pc = .ok (.getfield index, 3)) (kk : W p l e R s m args below meth c H locs cells slots Q (F0 m (pc + 3) ls (.ref (ad 84) :: rest))) : W p l e R s m args below meth c H locs cells slots Q (F0 m pc ls (.ref (ad t) :: rest)) :=
  gx_get F G ht (gwe_10 hk) rfl hin 19 (by decide) hl rfl hdg kk
theorem fg_10_readLaw (F : gF sa D ad cy N A p s m args c cc nL Ts own) (G : gW D ad cy N A H0 cm dm H locs) {index t : Nat} (hk : gck t = 10) (ht : t < N) (hin : ∀ w ∈ wsX100, w ∈ Ts) (hl : Cond.fieldLink own index "LeaningMarketModel" "readLaw" "[[I" ∈ Ts) (hdg : decode cc pc = .ok (.getfield index, 3)) (kk : W p l e R s m args below meth c H locs cells slots Q (F0 m (pc + 3) ls (.ref (ad 245) :: rest))) : W p l e R s m args below meth c H locs cells slots Q (F0 m pc ls (.ref (ad t) :: rest)) :=
  gx_get F G ht (gwe_10 hk) rfl hin 20 (by decide) hl rfl hdg kk
theorem fg_10_line (F : gF sa D ad cy N A p s m args c cc nL Ts own) (G : gW D ad cy N A H0 cm dm H locs) {index t : Nat} (hk : gck t = 10) (ht : t < N) (hin : ∀ w ∈ wsX100, w ∈ Ts) (hl : Cond.fieldLink own index "LeaningMarketModel" "line" "[[I" ∈ Ts) (hdg : decode cc pc = .ok (.getfield index, 3)) (kk : W p l e R s m args below meth c H locs cells slots Q (F0 m (pc + 3) ls (.ref (ad 406) :: rest))) : W p l e R s m args below meth c H locs cells slots Q (F0 m pc ls (.ref (ad t) :: rest)) :=
  gx_get F G ht (gwe_10 hk) rfl hin 21 (by decide) hl rfl hdg kk
theorem fg_10_readLine (F : gF sa D ad cy N A p s m args c cc nL Ts own) (G : gW D ad cy N A H0 cm dm H locs) {index t : Nat} (hk : gck t = 10) (ht : t < N) (hin : ∀ w ∈ wsX100, w ∈ Ts) (hl : Cond.fieldLink own index "LeaningMarketModel" "readLine" "[[I" ∈ Ts) (hdg : decode cc pc = .ok (.getfield index, 3)) (kk : W p l e R s m args below meth c H locs cells slots Q (F0 m (pc + 3) ls (.ref (ad 413) :: rest))) : W p l e R s m args below meth c H locs cells slots Q (F0 m pc ls (.ref (ad t) :: rest)) :=
  gx_get F G ht (gwe_10 hk) rfl hin 22 (by decide) hl rfl hdg kk
theorem fg_10_stack (F : gF sa D ad cy N A p s m args c cc nL Ts own) (G : gW D ad cy N A H0 cm dm H locs) {index t : Nat} (hk : gck t = 10) (ht : t < N) (hin : ∀ w ∈ wsX100, w ∈ Ts) (hl : Cond.fieldLink own index "LeaningMarketModel" "stack" "[I" ∈ Ts) (hdg : decode cc pc = .ok (.getfield index, 3)) (kk : W p l e R s m args below meth c H locs cells slots Q (F0 m (pc + 3) ls (.ref (ad 420) :: rest))) : W p l e R s m args below meth c H locs cells slots Q (F0 m pc ls (.ref (ad t) :: rest)) :=
  gx_get F G ht (gwe_10 hk) rfl hin 23 (by decide) hl rfl hdg kk
theorem fg_10_known (F : gF sa D ad cy N A p s m args c cc nL Ts own) (G : gW D ad cy N A H0 cm dm H locs) {index t : Nat} (hk : gck t = 10) (ht : t < N) (hin : ∀ w ∈ wsX100, w ∈ Ts) (hl : Cond.fieldLink own index "LeaningMarketModel" "known" "[I" ∈ Ts) (hdg : decode cc pc = .ok (.getfield index, 3)) (kk : W p l e R s m args below meth c H locs cells slots Q (F0 m (pc + 3) ls (.ref (ad 421) :: rest))) : W p l e R s m args below meth c H locs cells slots Q (F0 m pc ls (.ref (ad t) :: rest)) :=
  gx_get F G ht (gwe_10 hk) rfl hin 24 (by decide) hl rfl hdg kk
theorem fg_10_step (F : gF sa D ad cy N A p s m args c cc nL Ts own) (G : gW D ad cy N A H0 cm dm H locs) {index t : Nat} (hk : gck t = 10) (ht : t < N) (hin : ∀ w ∈ wsX100, w ∈ Ts) (hl : Cond.fieldLink own index "LeaningMarketModel" "step" "[[I" ∈ Ts) (hdg : decode cc pc = .ok (.getfield index, 3)) (kk : W p l e R s m args below meth c H locs cells slots Q (F0 m (pc + 3) ls (.ref (ad 422) :: rest))) : W p l e R s m args below meth c H locs cells slots Q (F0 m pc ls (.ref (ad t) :: rest)) :=
  gx_get F G ht (gwe_10 hk) rfl hin 25 (by decide) hl rfl hdg kk
theorem fg_10_steps (F : gF sa D ad cy N A p s m args c cc nL Ts own) (G : gW D ad cy N A H0 cm dm H locs) {index t : Nat} (hk : gck t = 10) (ht : t < N) (hin : ∀ w ∈ wsX100, w ∈ Ts) (hl : Cond.fieldLink own index "LeaningMarketModel" "steps" "I" ∈ Ts) (hdg : decode cc pc = .ok (.getfield index, 3)) (kk : W p l e R s m args below meth c H locs cells slots Q (F0 m (pc + 3) ls (.int (dm.1 t 26) :: rest))) : W p l e R s m args below meth c H locs cells slots Q (F0 m pc ls (.ref (ad t) :: rest)) :=
  gx_get F G ht (gwe_10 hk) rfl hin 26 (by decide) hl rfl hdg kk
theorem fp_10_steps (F : gF sa D ad cy N A p s m args c cc nL Ts own) (G : gW D ad cy N A H0 cm dm H locs) {index t : Nat} (hk : gck t = 10) (ht : t < N) (hin : ∀ w ∈ wsX100, w ∈ Ts) (hl : Cond.fieldLink own index "LeaningMarketModel" "steps" "I" ∈ Ts) {x : Int32} (hdg : decode cc pc = .ok (.putfield index, 3)) (kk : ∀ (H1 : Heap) (locs1 : List Loc), gW D ad cy N A H0 cm (gm_r dm t (upd (dm.1 t) 26 x)) H1 locs1 → W p l e R s m args below meth c H1 locs1 cells slots Q (F0 m (pc + 3) ls rest)) : W p l e R s m args below meth c H locs cells slots Q (F0 m pc ls (.int x :: .ref (ad t) :: rest)) :=
  gx_put F G (ty := .int) ht (gwe_10 hk) rfl hin tyX10 tyX10_ok nmX10 26 (by decide) hl rfl (by decide +kernel) rfl rfl (Nat.le_of_ble_eq_true rfl) (by rw [gwe_10 hk]; simp [gm_r, va_up_self, upd]) (fun i h => gwe_rd h) hdg kk
theorem fg_10_now (F : gF sa D ad cy N A p s m args c cc nL Ts own) (G : gW D ad cy N A H0 cm dm H locs) {index t : Nat} (hk : gck t = 10) (ht : t < N) (hin : ∀ w ∈ wsX100, w ∈ Ts) (hl : Cond.fieldLink own index "LeaningMarketModel" "now" "[I" ∈ Ts) (hdg : decode cc pc = .ok (.getfield index, 3)) (kk : W p l e R s m args below meth c H locs cells slots Q (F0 m (pc + 3) ls (.ref (ad 503) :: rest))) : W p l e R s m args below meth c H locs cells slots Q (F0 m pc ls (.ref (ad t) :: rest)) :=
  gx_get F G ht (gwe_10 hk) rfl hin 27 (by decide) hl rfl hdg kk
theorem fg_10_trial (F : gF sa D ad cy N A p s m args c cc nL Ts own) (G : gW D ad cy N A H0 cm dm H locs) {index t : Nat} (hk : gck t = 10) (ht : t < N) (hin : ∀ w ∈ wsX100, w ∈ Ts) (hl : Cond.fieldLink own index "LeaningMarketModel" "trial" "[I" ∈ Ts) (hdg : decode cc pc = .ok (.getfield index, 3)) (kk : W p l e R s m args below meth c H locs cells slots Q (F0 m (pc + 3) ls (.ref (ad 504) :: rest))) : W p l e R s m args below meth c H locs cells slots Q (F0 m pc ls (.ref (ad t) :: rest)) :=
  gx_get F G ht (gwe_10 hk) rfl hin 28 (by decide) hl rfl hdg kk
theorem fg_10_wears (F : gF sa D ad cy N A p s m args c cc nL Ts own) (G : gW D ad cy N A H0 cm dm H locs) {index t : Nat} (hk : gck t = 10) (ht : t < N) (hin : ∀ w ∈ wsX100, w ∈ Ts) (hl : Cond.fieldLink own index "LeaningMarketModel" "wears" "[I" ∈ Ts) (hdg : decode cc pc = .ok (.getfield index, 3)) (kk : W p l e R s m args below meth c H locs cells slots Q (F0 m (pc + 3) ls (.ref (ad 505) :: rest))) : W p l e R s m args below meth c H locs cells slots Q (F0 m pc ls (.ref (ad t) :: rest)) :=
  gx_get F G ht (gwe_10 hk) rfl hin 29 (by decide) hl rfl hdg kk
theorem fg_10_before (F : gF sa D ad cy N A p s m args c cc nL Ts own) (G : gW D ad cy N A H0 cm dm H locs) {index t : Nat} (hk : gck t = 10) (ht : t < N) (hin : ∀ w ∈ wsX100, w ∈ Ts) (hl : Cond.fieldLink own index "LeaningMarketModel" "before" "[[I" ∈ Ts) (hdg : decode cc pc = .ok (.getfield index, 3)) (kk : W p l e R s m args below meth c H locs cells slots Q (F0 m (pc + 3) ls (.ref (ad 506) :: rest))) : W p l e R s m args below meth c H locs cells slots Q (F0 m pc ls (.ref (ad t) :: rest)) :=
  gx_get F G ht (gwe_10 hk) rfl hin 30 (by decide) hl rfl hdg kk
theorem fg_10_kept (F : gF sa D ad cy N A p s m args c cc nL Ts own) (G : gW D ad cy N A H0 cm dm H locs) {index t : Nat} (hk : gck t = 10) (ht : t < N) (hin : ∀ w ∈ wsX100, w ∈ Ts) (hl : Cond.fieldLink own index "LeaningMarketModel" "kept" "[[I" ∈ Ts) (hdg : decode cc pc = .ok (.getfield index, 3)) (kk : W p l e R s m args below meth c H locs cells slots Q (F0 m (pc + 3) ls (.ref (ad 523) :: rest))) : W p l e R s m args below meth c H locs cells slots Q (F0 m pc ls (.ref (ad t) :: rest)) :=
  gx_get F G ht (gwe_10 hk) rfl hin 31 (by decide) hl rfl hdg kk
theorem fg_10_lines (F : gF sa D ad cy N A p s m args c cc nL Ts own) (G : gW D ad cy N A H0 cm dm H locs) {index t : Nat} (hk : gck t = 10) (ht : t < N) (hin : ∀ w ∈ wsX100, w ∈ Ts) (hl : Cond.fieldLink own index "LeaningMarketModel" "lines" "I" ∈ Ts) (hdg : decode cc pc = .ok (.getfield index, 3)) (kk : W p l e R s m args below meth c H locs cells slots Q (F0 m (pc + 3) ls (.int (dm.1 t 32) :: rest))) : W p l e R s m args below meth c H locs cells slots Q (F0 m pc ls (.ref (ad t) :: rest)) :=
  gx_get F G ht (gwe_10 hk) rfl hin 32 (by decide) hl rfl hdg kk
theorem fp_10_lines (F : gF sa D ad cy N A p s m args c cc nL Ts own) (G : gW D ad cy N A H0 cm dm H locs) {index t : Nat} (hk : gck t = 10) (ht : t < N) (hin : ∀ w ∈ wsX100, w ∈ Ts) (hl : Cond.fieldLink own index "LeaningMarketModel" "lines" "I" ∈ Ts) {x : Int32} (hdg : decode cc pc = .ok (.putfield index, 3)) (kk : ∀ (H1 : Heap) (locs1 : List Loc), gW D ad cy N A H0 cm (gm_r dm t (upd (dm.1 t) 32 x)) H1 locs1 → W p l e R s m args below meth c H1 locs1 cells slots Q (F0 m (pc + 3) ls rest)) : W p l e R s m args below meth c H locs cells slots Q (F0 m pc ls (.int x :: .ref (ad t) :: rest)) :=
  gx_put F G (ty := .int) ht (gwe_10 hk) rfl hin tyX10 tyX10_ok nmX10 32 (by decide) hl rfl (by decide +kernel) rfl rfl (Nat.le_of_ble_eq_true rfl) (by rw [gwe_10 hk]; simp [gm_r, va_up_self, upd]) (fun i h => gwe_rd h) hdg kk
theorem fg_10_works (F : gF sa D ad cy N A p s m args c cc nL Ts own) (G : gW D ad cy N A H0 cm dm H locs) {index t : Nat} (hk : gck t = 10) (ht : t < N) (hin : ∀ w ∈ wsX100, w ∈ Ts) (hl : Cond.fieldLink own index "LeaningMarketModel" "works" "I" ∈ Ts) (hdg : decode cc pc = .ok (.getfield index, 3)) (kk : W p l e R s m args below meth c H locs cells slots Q (F0 m (pc + 3) ls (.int (dm.1 t 33) :: rest))) : W p l e R s m args below meth c H locs cells slots Q (F0 m pc ls (.ref (ad t) :: rest)) :=
  gx_get F G ht (gwe_10 hk) rfl hin 33 (by decide) hl rfl hdg kk
theorem fp_10_works (F : gF sa D ad cy N A p s m args c cc nL Ts own) (G : gW D ad cy N A H0 cm dm H locs) {index t : Nat} (hk : gck t = 10) (ht : t < N) (hin : ∀ w ∈ wsX100, w ∈ Ts) (hl : Cond.fieldLink own index "LeaningMarketModel" "works" "I" ∈ Ts) {x : Int32} (hdg : decode cc pc = .ok (.putfield index, 3)) (kk : ∀ (H1 : Heap) (locs1 : List Loc), gW D ad cy N A H0 cm (gm_r dm t (upd (dm.1 t) 33 x)) H1 locs1 → W p l e R s m args below meth c H1 locs1 cells slots Q (F0 m (pc + 3) ls rest)) : W p l e R s m args below meth c H locs cells slots Q (F0 m pc ls (.int x :: .ref (ad t) :: rest)) :=
  gx_put F G (ty := .int) ht (gwe_10 hk) rfl hin tyX10 tyX10_ok nmX10 33 (by decide) hl rfl (by decide +kernel) rfl rfl (Nat.le_of_ble_eq_true rfl) (by rw [gwe_10 hk]; simp [gm_r, va_up_self, upd]) (fun i h => gwe_rd h) hdg kk
theorem fg_10_refusedSteps (F : gF sa D ad cy N A p s m args c cc nL Ts own) (G : gW D ad cy N A H0 cm dm H locs) {index t : Nat} (hk : gck t = 10) (ht : t < N) (hin : ∀ w ∈ wsX100, w ∈ Ts) (hl : Cond.fieldLink own index "LeaningMarketModel" "refusedSteps" "I" ∈ Ts) (hdg : decode cc pc = .ok (.getfield index, 3)) (kk : W p l e R s m args below meth c H locs cells slots Q (F0 m (pc + 3) ls (.int (dm.1 t 34) :: rest))) : W p l e R s m args below meth c H locs cells slots Q (F0 m pc ls (.ref (ad t) :: rest)) :=
  gx_get F G ht (gwe_10 hk) rfl hin 34 (by decide) hl rfl hdg kk
theorem fp_10_refusedSteps (F : gF sa D ad cy N A p s m args c cc nL Ts own) (G : gW D ad cy N A H0 cm dm H locs) {index t : Nat} (hk : gck t = 10) (ht : t < N) (hin : ∀ w ∈ wsX100, w ∈ Ts) (hl : Cond.fieldLink own index "LeaningMarketModel" "refusedSteps" "I" ∈ Ts) {x : Int32} (hdg : decode cc pc = .ok (.putfield index, 3)) (kk : ∀ (H1 : Heap) (locs1 : List Loc), gW D ad cy N A H0 cm (gm_r dm t (upd (dm.1 t) 34 x)) H1 locs1 → W p l e R s m args below meth c H1 locs1 cells slots Q (F0 m (pc + 3) ls rest)) : W p l e R s m args below meth c H locs cells slots Q (F0 m pc ls (.int x :: .ref (ad t) :: rest)) :=
  gx_put F G (ty := .int) ht (gwe_10 hk) rfl hin tyX10 tyX10_ok nmX10 34 (by decide) hl rfl (by decide +kernel) rfl rfl (Nat.le_of_ble_eq_true rfl) (by rw [gwe_10 hk]; simp [gm_r, va_up_self, upd]) (fun i h => gwe_rd h) hdg kk
theorem fg_10_images (F : gF sa D ad cy N A p s m args c cc nL Ts own) (G : gW D ad cy N A H0 cm dm H locs) {index t : Nat} (hk : gck t = 10) (ht : t < N) (hin : ∀ w ∈ wsX100, w ∈ Ts) (hl : Cond.fieldLink own index "LeaningMarketModel" "images" "I" ∈ Ts) (hdg : decode cc pc = .ok (.getfield index, 3)) (kk : W p l e R s m args below meth c H locs cells slots Q (F0 m (pc + 3) ls (.int (dm.1 t 35) :: rest))) : W p l e R s m args below meth c H locs cells slots Q (F0 m pc ls (.ref (ad t) :: rest)) :=
  gx_get F G ht (gwe_10 hk) rfl hin 35 (by decide) hl rfl hdg kk
theorem fp_10_images (F : gF sa D ad cy N A p s m args c cc nL Ts own) (G : gW D ad cy N A H0 cm dm H locs) {index t : Nat} (hk : gck t = 10) (ht : t < N) (hin : ∀ w ∈ wsX100, w ∈ Ts) (hl : Cond.fieldLink own index "LeaningMarketModel" "images" "I" ∈ Ts) {x : Int32} (hdg : decode cc pc = .ok (.putfield index, 3)) (kk : ∀ (H1 : Heap) (locs1 : List Loc), gW D ad cy N A H0 cm (gm_r dm t (upd (dm.1 t) 35 x)) H1 locs1 → W p l e R s m args below meth c H1 locs1 cells slots Q (F0 m (pc + 3) ls rest)) : W p l e R s m args below meth c H locs cells slots Q (F0 m pc ls (.int x :: .ref (ad t) :: rest)) :=
  gx_put F G (ty := .int) ht (gwe_10 hk) rfl hin tyX10 tyX10_ok nmX10 35 (by decide) hl rfl (by decide +kernel) rfl rfl (Nat.le_of_ble_eq_true rfl) (by rw [gwe_10 hk]; simp [gm_r, va_up_self, upd]) (fun i h => gwe_rd h) hdg kk
theorem fg_10_spot (F : gF sa D ad cy N A p s m args c cc nL Ts own) (G : gW D ad cy N A H0 cm dm H locs) {index t : Nat} (hk : gck t = 10) (ht : t < N) (hin : ∀ w ∈ wsX100, w ∈ Ts) (hl : Cond.fieldLink own index "LeaningMarketModel" "spot" "I" ∈ Ts) (hdg : decode cc pc = .ok (.getfield index, 3)) (kk : W p l e R s m args below meth c H locs cells slots Q (F0 m (pc + 3) ls (.int (dm.1 t 36) :: rest))) : W p l e R s m args below meth c H locs cells slots Q (F0 m pc ls (.ref (ad t) :: rest)) :=
  gx_get F G ht (gwe_10 hk) rfl hin 36 (by decide) hl rfl hdg kk
theorem fp_10_spot (F : gF sa D ad cy N A p s m args c cc nL Ts own) (G : gW D ad cy N A H0 cm dm H locs) {index t : Nat} (hk : gck t = 10) (ht : t < N) (hin : ∀ w ∈ wsX100, w ∈ Ts) (hl : Cond.fieldLink own index "LeaningMarketModel" "spot" "I" ∈ Ts) {x : Int32} (hdg : decode cc pc = .ok (.putfield index, 3)) (kk : ∀ (H1 : Heap) (locs1 : List Loc), gW D ad cy N A H0 cm (gm_r dm t (upd (dm.1 t) 36 x)) H1 locs1 → W p l e R s m args below meth c H1 locs1 cells slots Q (F0 m (pc + 3) ls rest)) : W p l e R s m args below meth c H locs cells slots Q (F0 m pc ls (.int x :: .ref (ad t) :: rest)) :=
  gx_put F G (ty := .int) ht (gwe_10 hk) rfl hin tyX10 tyX10_ok nmX10 36 (by decide) hl rfl (by decide +kernel) rfl rfl (Nat.le_of_ble_eq_true rfl) (by rw [gwe_10 hk]; simp [gm_r, va_up_self, upd]) (fun i h => gwe_rd h) hdg kk
theorem fg_10_begun (F : gF sa D ad cy N A p s m args c cc nL Ts own) (G : gW D ad cy N A H0 cm dm H locs) {index t : Nat} (hk : gck t = 10) (ht : t < N) (hin : ∀ w ∈ wsX100, w ∈ Ts) (hl : Cond.fieldLink own index "LeaningMarketModel" "begun" "I" ∈ Ts) (hdg : decode cc pc = .ok (.getfield index, 3)) (kk : W p l e R s m args below meth c H locs cells slots Q (F0 m (pc + 3) ls (.int (dm.1 t 37) :: rest))) : W p l e R s m args below meth c H locs cells slots Q (F0 m pc ls (.ref (ad t) :: rest)) :=
  gx_get F G ht (gwe_10 hk) rfl hin 37 (by decide) hl rfl hdg kk
theorem fp_10_begun (F : gF sa D ad cy N A p s m args c cc nL Ts own) (G : gW D ad cy N A H0 cm dm H locs) {index t : Nat} (hk : gck t = 10) (ht : t < N) (hin : ∀ w ∈ wsX100, w ∈ Ts) (hl : Cond.fieldLink own index "LeaningMarketModel" "begun" "I" ∈ Ts) {x : Int32} (hdg : decode cc pc = .ok (.putfield index, 3)) (kk : ∀ (H1 : Heap) (locs1 : List Loc), gW D ad cy N A H0 cm (gm_r dm t (upd (dm.1 t) 37 x)) H1 locs1 → W p l e R s m args below meth c H1 locs1 cells slots Q (F0 m (pc + 3) ls rest)) : W p l e R s m args below meth c H locs cells slots Q (F0 m pc ls (.int x :: .ref (ad t) :: rest)) :=
  gx_put F G (ty := .int) ht (gwe_10 hk) rfl hin tyX10 tyX10_ok nmX10 37 (by decide) hl rfl (by decide +kernel) rfl rfl (Nat.le_of_ble_eq_true rfl) (by rw [gwe_10 hk]; simp [gm_r, va_up_self, upd]) (fun i h => gwe_rd h) hdg kk
theorem fg_10_doneSteps (F : gF sa D ad cy N A p s m args c cc nL Ts own) (G : gW D ad cy N A H0 cm dm H locs) {index t : Nat} (hk : gck t = 10) (ht : t < N) (hin : ∀ w ∈ wsX100, w ∈ Ts) (hl : Cond.fieldLink own index "LeaningMarketModel" "doneSteps" "I" ∈ Ts) (hdg : decode cc pc = .ok (.getfield index, 3)) (kk : W p l e R s m args below meth c H locs cells slots Q (F0 m (pc + 3) ls (.int (dm.1 t 38) :: rest))) : W p l e R s m args below meth c H locs cells slots Q (F0 m pc ls (.ref (ad t) :: rest)) :=
  gx_get F G ht (gwe_10 hk) rfl hin 38 (by decide) hl rfl hdg kk
theorem fp_10_doneSteps (F : gF sa D ad cy N A p s m args c cc nL Ts own) (G : gW D ad cy N A H0 cm dm H locs) {index t : Nat} (hk : gck t = 10) (ht : t < N) (hin : ∀ w ∈ wsX100, w ∈ Ts) (hl : Cond.fieldLink own index "LeaningMarketModel" "doneSteps" "I" ∈ Ts) {x : Int32} (hdg : decode cc pc = .ok (.putfield index, 3)) (kk : ∀ (H1 : Heap) (locs1 : List Loc), gW D ad cy N A H0 cm (gm_r dm t (upd (dm.1 t) 38 x)) H1 locs1 → W p l e R s m args below meth c H1 locs1 cells slots Q (F0 m (pc + 3) ls rest)) : W p l e R s m args below meth c H locs cells slots Q (F0 m pc ls (.int x :: .ref (ad t) :: rest)) :=
  gx_put F G (ty := .int) ht (gwe_10 hk) rfl hin tyX10 tyX10_ok nmX10 38 (by decide) hl rfl (by decide +kernel) rfl rfl (Nat.le_of_ble_eq_true rfl) (by rw [gwe_10 hk]; simp [gm_r, va_up_self, upd]) (fun i h => gwe_rd h) hdg kk
theorem fg_10_bestUp (F : gF sa D ad cy N A p s m args c cc nL Ts own) (G : gW D ad cy N A H0 cm dm H locs) {index t : Nat} (hk : gck t = 10) (ht : t < N) (hin : ∀ w ∈ wsX100, w ∈ Ts) (hl : Cond.fieldLink own index "LeaningMarketModel" "bestUp" "J" ∈ Ts) (hdg : decode cc pc = .ok (.getfield index, 3)) (kk : W p l e R s m args below meth c H locs cells slots Q (F0 m (pc + 3) ls (.long (dm.2.1 t 39) :: rest))) : W p l e R s m args below meth c H locs cells slots Q (F0 m pc ls (.ref (ad t) :: rest)) :=
  gx_get F G ht (gwe_10 hk) rfl hin 39 (by decide) hl rfl hdg kk
theorem fp_10_bestUp (F : gF sa D ad cy N A p s m args c cc nL Ts own) (G : gW D ad cy N A H0 cm dm H locs) {index t : Nat} (hk : gck t = 10) (ht : t < N) (hin : ∀ w ∈ wsX100, w ∈ Ts) (hl : Cond.fieldLink own index "LeaningMarketModel" "bestUp" "J" ∈ Ts) {x : Int64} (hdg : decode cc pc = .ok (.putfield index, 3)) (kk : ∀ (H1 : Heap) (locs1 : List Loc), gW D ad cy N A H0 cm (gm_l dm t (vp_updL (dm.2.1 t) 39 x)) H1 locs1 → W p l e R s m args below meth c H1 locs1 cells slots Q (F0 m (pc + 3) ls rest)) : W p l e R s m args below meth c H locs cells slots Q (F0 m pc ls (.long x :: .ref (ad t) :: rest)) :=
  gx_put F G (ty := .long) ht (gwe_10 hk) rfl hin tyX10 tyX10_ok nmX10 39 (by decide) hl rfl (by decide +kernel) rfl rfl (Nat.le_of_ble_eq_true rfl) (by rw [gwe_10 hk]; simp [gm_l, va_up_self, vp_updL]) (fun i h => gwe_ld h) hdg kk
theorem fg_10_bestLow (F : gF sa D ad cy N A p s m args c cc nL Ts own) (G : gW D ad cy N A H0 cm dm H locs) {index t : Nat} (hk : gck t = 10) (ht : t < N) (hin : ∀ w ∈ wsX100, w ∈ Ts) (hl : Cond.fieldLink own index "LeaningMarketModel" "bestLow" "J" ∈ Ts) (hdg : decode cc pc = .ok (.getfield index, 3)) (kk : W p l e R s m args below meth c H locs cells slots Q (F0 m (pc + 3) ls (.long (dm.2.1 t 40) :: rest))) : W p l e R s m args below meth c H locs cells slots Q (F0 m pc ls (.ref (ad t) :: rest)) :=
  gx_get F G ht (gwe_10 hk) rfl hin 40 (by decide) hl rfl hdg kk
theorem fp_10_bestLow (F : gF sa D ad cy N A p s m args c cc nL Ts own) (G : gW D ad cy N A H0 cm dm H locs) {index t : Nat} (hk : gck t = 10) (ht : t < N) (hin : ∀ w ∈ wsX100, w ∈ Ts) (hl : Cond.fieldLink own index "LeaningMarketModel" "bestLow" "J" ∈ Ts) {x : Int64} (hdg : decode cc pc = .ok (.putfield index, 3)) (kk : ∀ (H1 : Heap) (locs1 : List Loc), gW D ad cy N A H0 cm (gm_l dm t (vp_updL (dm.2.1 t) 40 x)) H1 locs1 → W p l e R s m args below meth c H1 locs1 cells slots Q (F0 m (pc + 3) ls rest)) : W p l e R s m args below meth c H locs cells slots Q (F0 m pc ls (.long x :: .ref (ad t) :: rest)) :=
  gx_put F G (ty := .long) ht (gwe_10 hk) rfl hin tyX10 tyX10_ok nmX10 40 (by decide) hl rfl (by decide +kernel) rfl rfl (Nat.le_of_ble_eq_true rfl) (by rw [gwe_10 hk]; simp [gm_l, va_up_self, vp_updL]) (fun i h => gwe_ld h) hdg kk
theorem fg_10_isFat (F : gF sa D ad cy N A p s m args c cc nL Ts own) (G : gW D ad cy N A H0 cm dm H locs) {index t : Nat} (hk : gck t = 10) (ht : t < N) (hin : ∀ w ∈ wsX100, w ∈ Ts) (hl : Cond.fieldLink own index "LeaningMarketModel" "isFat" "[Z" ∈ Ts) (hdg : decode cc pc = .ok (.getfield index, 3)) (kk : W p l e R s m args below meth c H locs cells slots Q (F0 m (pc + 3) ls (.ref (ad 527) :: rest))) : W p l e R s m args below meth c H locs cells slots Q (F0 m pc ls (.ref (ad t) :: rest)) :=
  gx_get F G ht (gwe_10 hk) rfl hin 41 (by decide) hl rfl hdg kk
theorem fg_10_fewestFat (F : gF sa D ad cy N A p s m args c cc nL Ts own) (G : gW D ad cy N A H0 cm dm H locs) {index t : Nat} (hk : gck t = 10) (ht : t < N) (hin : ∀ w ∈ wsX100, w ∈ Ts) (hl : Cond.fieldLink own index "LeaningMarketModel" "fewestFat" "I" ∈ Ts) (hdg : decode cc pc = .ok (.getfield index, 3)) (kk : W p l e R s m args below meth c H locs cells slots Q (F0 m (pc + 3) ls (.int (dm.1 t 42) :: rest))) : W p l e R s m args below meth c H locs cells slots Q (F0 m pc ls (.ref (ad t) :: rest)) :=
  gx_get F G ht (gwe_10 hk) rfl hin 42 (by decide) hl rfl hdg kk
theorem fp_10_fewestFat (F : gF sa D ad cy N A p s m args c cc nL Ts own) (G : gW D ad cy N A H0 cm dm H locs) {index t : Nat} (hk : gck t = 10) (ht : t < N) (hin : ∀ w ∈ wsX100, w ∈ Ts) (hl : Cond.fieldLink own index "LeaningMarketModel" "fewestFat" "I" ∈ Ts) {x : Int32} (hdg : decode cc pc = .ok (.putfield index, 3)) (kk : ∀ (H1 : Heap) (locs1 : List Loc), gW D ad cy N A H0 cm (gm_r dm t (upd (dm.1 t) 42 x)) H1 locs1 → W p l e R s m args below meth c H1 locs1 cells slots Q (F0 m (pc + 3) ls rest)) : W p l e R s m args below meth c H locs cells slots Q (F0 m pc ls (.int x :: .ref (ad t) :: rest)) :=
  gx_put F G (ty := .int) ht (gwe_10 hk) rfl hin tyX10 tyX10_ok nmX10 42 (by decide) hl rfl (by decide +kernel) rfl rfl (Nat.le_of_ble_eq_true rfl) (by rw [gwe_10 hk]; simp [gm_r, va_up_self, upd]) (fun i h => gwe_rd h) hdg kk
theorem fg_10_by (F : gF sa D ad cy N A p s m args c cc nL Ts own) (G : gW D ad cy N A H0 cm dm H locs) {index t : Nat} (hk : gck t = 10) (ht : t < N) (hin : ∀ w ∈ wsX100, w ∈ Ts) (hl : Cond.fieldLink own index "LeaningMarketModel" "by" "[I" ∈ Ts) (hdg : decode cc pc = .ok (.getfield index, 3)) (kk : W p l e R s m args below meth c H locs cells slots Q (F0 m (pc + 3) ls (.ref (ad 528) :: rest))) : W p l e R s m args below meth c H locs cells slots Q (F0 m pc ls (.ref (ad t) :: rest)) :=
  gx_get F G ht (gwe_10 hk) rfl hin 43 (by decide) hl rfl hdg kk
theorem fg_10_seen (F : gF sa D ad cy N A p s m args c cc nL Ts own) (G : gW D ad cy N A H0 cm dm H locs) {index t : Nat} (hk : gck t = 10) (ht : t < N) (hin : ∀ w ∈ wsX100, w ∈ Ts) (hl : Cond.fieldLink own index "LeaningMarketModel" "seen" "[I" ∈ Ts) (hdg : decode cc pc = .ok (.getfield index, 3)) (kk : W p l e R s m args below meth c H locs cells slots Q (F0 m (pc + 3) ls (.ref (ad 529) :: rest))) : W p l e R s m args below meth c H locs cells slots Q (F0 m pc ls (.ref (ad t) :: rest)) :=
  gx_get F G ht (gwe_10 hk) rfl hin 44 (by decide) hl rfl hdg kk
theorem fg_10_lots (F : gF sa D ad cy N A p s m args c cc nL Ts own) (G : gW D ad cy N A H0 cm dm H locs) {index t : Nat} (hk : gck t = 10) (ht : t < N) (hin : ∀ w ∈ wsX100, w ∈ Ts) (hl : Cond.fieldLink own index "LeaningMarketModel" "lots" "I" ∈ Ts) (hdg : decode cc pc = .ok (.getfield index, 3)) (kk : W p l e R s m args below meth c H locs cells slots Q (F0 m (pc + 3) ls (.int (dm.1 t 45) :: rest))) : W p l e R s m args below meth c H locs cells slots Q (F0 m pc ls (.ref (ad t) :: rest)) :=
  gx_get F G ht (gwe_10 hk) rfl hin 45 (by decide) hl rfl hdg kk
theorem fp_10_lots (F : gF sa D ad cy N A p s m args c cc nL Ts own) (G : gW D ad cy N A H0 cm dm H locs) {index t : Nat} (hk : gck t = 10) (ht : t < N) (hin : ∀ w ∈ wsX100, w ∈ Ts) (hl : Cond.fieldLink own index "LeaningMarketModel" "lots" "I" ∈ Ts) {x : Int32} (hdg : decode cc pc = .ok (.putfield index, 3)) (kk : ∀ (H1 : Heap) (locs1 : List Loc), gW D ad cy N A H0 cm (gm_r dm t (upd (dm.1 t) 45 x)) H1 locs1 → W p l e R s m args below meth c H1 locs1 cells slots Q (F0 m (pc + 3) ls rest)) : W p l e R s m args below meth c H locs cells slots Q (F0 m pc ls (.int x :: .ref (ad t) :: rest)) :=
  gx_put F G (ty := .int) ht (gwe_10 hk) rfl hin tyX10 tyX10_ok nmX10 45 (by decide) hl rfl (by decide +kernel) rfl rfl (Nat.le_of_ble_eq_true rfl) (by rw [gwe_10 hk]; simp [gm_r, va_up_self, upd]) (fun i h => gwe_rd h) hdg kk
end GR
