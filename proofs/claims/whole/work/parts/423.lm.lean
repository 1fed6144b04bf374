set_option maxRecDepth 16384
def gNs (U : State) : Prop := va_Nw (.methodLinkNest RX9 9 yX7_init "LeaningMarket") U ∧ va_Nw (.methodLinkNest RX9 18 yX6_init "LeaningMarket") U ∧ va_Nw (.methodLinkNest RX9 28 yX8_init "LeaningMarket") U ∧ va_Nw (.methodLinkNest RX9 35 yX5_init "LeaningMarket") U ∧ va_Nw (.methodLinkNest RX9 42 yX1_init "LeaningMarket") U ∧ va_Nw (.methodLinkNest RX9 49 yX4_init "LeaningMarket") U ∧ va_Nw (.methodLinkNest RX9 56 yX2_init "LeaningMarket") U ∧ va_Nw (.methodLinkNest RX9 73 yX0_init "LeaningMarket") U ∧ va_Nw (.methodLinkNest RX2 9 yX6_init "LeaningMarket") U
/-- the class's memory when it is new -/
def gc0 : gm := (fun i => if i = 1 then (fun k => if k = 7 then -1 else 0) else if i = 3 then (fun k => if k = 7 then 9 else 0) else if i = 9 then (fun k => if k = 7 then 9 else 0) else if i = 27 then (fun k => if k = 7 then 9 else 0) else if i = 33 then (fun k => if k = 4 then 3 else 0) else if i = 38 then (fun k => if k = 4 then 3 else 0) else if i = 34 then usF else if i = 39 then usF else if i = 35 then usG else if i = 40 then usG else (fun _ => 0), fun _ _ => 0, fun k => if k = 0 then 33 else if k = 1 then 38 else if k = 2 then 43 else 49)
abbrev rmX9_init : Room := { frames := 3, cells := 54, slots := 7965, locals := 62 }
set_option maxHeartbeats 4000000 in
set_option maxRecDepth 100000 in
theorem ci_X9 (l : Launch) (D : va_G) (cy : Nat → ClassId) (d : gm) (h0 sz : Nat) : Met l yX9_init wsX9_init rmX9_init (va_Pc [.ref h0] (gPi D cy h0 sz 9 [.null, .null, .null, .null, .null, .null, .null, .null, .null, .null, .null, .null, .int 0, .int 0, .int 0] gNs)) (va_Qv (fun (r : Nat → Nat) => r 0 = h0) (fun r U => va_P D vwCl (gbl r 55 ((fun r : Nat → Nat => gwe r cy gc0 d) r)) U.heap ∧ va_D (gAi h0 sz) (gbl r 55 ((fun r : Nat → Nat => gwe r cy gc0 d) r))) (gAi h0 sz)) 54 7965 (gAi h0 sz) := by
  refine Met.ofW (cc := cX9_init) (maxL := 1) (ret := none) (by decide) rfl ?_
  intro p e s m args below meth cod s₁ B hml hv
  obtain ⟨rfl, hsz, hP0, hK0, hZ0⟩ := hv
  have hx := B.exec
  have hb := B.bytes
  have hr := B.returns
  have hts := atoms_spec (ws := wsX9_init) B.pre
  have hown : s.vm.findClass RX9 = some m.cls := findClass_of_methodNamed B.named
  have hlocks := B.notSynchronized
  have hin2 : meth.name = "<init>" := (name_of_methodNamed B.named B.method).1
  subst hsz
  have G := gq_start (ci := 9) (fs := [.null, .null, .null, .null, .null, .null, .null, .null, .null, .null, .null, .null, .int 0, .int 0, .int 0]) hP0
  have hl := lv_entry ([.ref h0]) (n := 1) (Nat.le_of_ble_eq_true rfl)
  rw [lg_entry_eq]
  generalize (lg_sl ([.ref h0]) ++ List.replicate (1 - (lg_sl ([.ref h0])).length) Slot.unset).toArray = ls at hl ⊢
  have hl : lv_has ls 1 [(0, .ref h0)] := hl
  have hin : ∀ w ∈ wsX90, w ∈ wsX9_init := by decide +kernel
  generalize hargs : ([.ref h0] : List Value).toArray = args at *
  generalize hAe : gAi h0 s.heap.size = A at G ⊢
  have F : gQc D cy A p s m args cod cX9_init 1 wsX9_init RX9 := ⟨hx, hb, hml, hown, hts, hK0, by rw [← hAe]; exact fun q h => Or.inr h⟩
  refine lv_aload_n hx hb dX9_init_0 rfl (lv_at hl 0 rfl) ?_
  refine W.objInit hx hb hown (hts (.methodLink RX9 1 objectInit) (by decide +kernel)) (hts (.instanceMethod objectInit) (by decide +kernel)) (hts _ (List.mem_of_getElem? (l := wsX9_init) (i := 3) rfl)) rfl (by rw [hml]; exact hl.1) rfl dX9_init_1 (Nat.le_of_ble_eq_true rfl) (Nat.le_of_ble_eq_true rfl) ?_
  refine W.eq (g2 := F0 m 4 ls []) rfl ?_
  refine lv_aload_n hx hb dX9_init_4 rfl (lv_at hl 0 rfl) ?_
  have hin7_1 : ∀ w ∈ wsX70, w ∈ wsX9_init := by decide +kernel
  refine gq_new F G (ci := 7) (n := 8) (fs := [.null, .int 0, .int 0, .int 0, .int 0, .int 0, .int 0, .int 0]) rfl hin7_1 tyX7 tyX7_ok (by decide +kernel) (by decide +kernel) (by decide +kernel) (fun j hj => by rcases (show j = 0 ∨ j = 1 ∨ j = 2 ∨ j = 3 ∨ j = 4 ∨ j = 5 ∨ j = 6 ∨ j = 7 by omega) with rfl | rfl | rfl | rfl | rfl | rfl | rfl | rfl <;> rfl) (by show 0 + 1 ≤ _; decide) (by show 0 + 8 ≤ _; decide) dX9_init_5 (fun q1 H G => ?_)
  refine W.widen (k := 1) (n := 8) (by omega) (by omega) ?_
  refine lv_dup hx hb dX9_init_8 rfl ?_
  refine gq_call F G (N := 1) (n := 2) (Ef := (eX7 cy)) rfl (va_runIN (As := []) (rest := [.ref q1, .ref h0]) ⟨hx, hb, hml, hown, hts⟩ (ci_X7 l D cy q1 H.size) ⟨va_cnB 0 hts gX9_init_X7_init_n9 rfl rfl rfl hZ0.1 (hts (.initialized RX7) (by decide +kernel)) (by decide +kernel) ⟨by decide, by decide⟩, rfl, hts (.instanceMethod yX7_init) (by decide +kernel)⟩ (gq_pre F G (N := 1) rfl rfl (fun _ _ _ _ h => h) (fun _ _ => trivial)) rfl rfl hl.1 rfl (lv_room (Nat.le_of_ble_eq_true rfl)) dX9_init_9 ⟨by show 1 + 1 ≤ _; decide, by show 8 + 600 ≤ _; decide⟩) (fun r_q1 H locs er G => ?_)
  subst er
  refine W.widen (k := 2) (n := 608) (by omega) (by omega) ?_
  refine gq_putF F G (ci := 9) (n := 15) (fs := [.null, .null, .null, .null, .null, .null, .null, .null, .null, .null, .null, .null, .int 0, .int 0, .int 0]) 0 (by decide) rfl rfl hin tyX9 tyX9_ok nmX9 0 (by decide) (by decide +kernel) rfl hin2 rfl (ty := .object "LeaningMarket$Text") (by decide +kernel) rfl rfl (Nat.le_of_ble_eq_true rfl) rfl dX9_init_12 (fun H locs G => ?_)
  refine lv_aload_n hx hb dX9_init_15 rfl (lv_at hl 0 rfl) ?_
  have hin6_2 : ∀ w ∈ wsX60, w ∈ wsX9_init := by decide +kernel
  refine gq_new F G (ci := 6) (n := 11) (fs := [.null, .null, .null, .null, .null, .int 0, .int 0, .int 0, .int 0, .int 0, .int 0]) rfl hin6_2 tyX6 tyX6_ok (by decide +kernel) (by decide +kernel) (by decide +kernel) (fun j hj => by rcases (show j = 0 ∨ j = 1 ∨ j = 2 ∨ j = 3 ∨ j = 4 ∨ j = 5 ∨ j = 6 ∨ j = 7 ∨ j = 8 ∨ j = 9 ∨ j = 10 by omega) with rfl | rfl | rfl | rfl | rfl | rfl | rfl | rfl | rfl | rfl | rfl <;> rfl) (by show 2 + 1 ≤ _; decide) (by show 608 + 11 ≤ _; decide) dX9_init_16 (fun q2 H G => ?_)
  refine W.widen (k := 3) (n := 619) (by omega) (by omega) ?_
  refine lv_dup hx hb dX9_init_19 rfl ?_
  refine gq_call F G (N := 3) (n := 6) (Ef := (eX6 cy)) rfl (va_runIN (As := []) (rest := [.ref q2, .ref h0]) ⟨hx, hb, hml, hown, hts⟩ (ci_X6 l D cy q2 H.size) ⟨va_cnB 0 hts gX9_init_X6_init_n18 rfl rfl rfl hZ0.2.1 (hts (.initialized RX6) (by decide +kernel)) (by decide +kernel) ⟨by decide, by decide⟩, rfl, hts (.instanceMethod yX6_init) (by decide +kernel)⟩ (gq_pre F G (N := 3) rfl rfl (fun _ _ _ _ h => h) (fun _ _ => trivial)) rfl rfl hl.1 rfl (lv_room (Nat.le_of_ble_eq_true rfl)) dX9_init_20 ⟨by show 3 + 5 ≤ _; decide, by show 619 + 72 ≤ _; decide⟩) (fun r_q2 H locs er G => ?_)
  subst er
  refine W.widen (k := 8) (n := 691) (by omega) (by omega) ?_
  refine gq_putF F G (ci := 9) (n := 15) (fs := [.ref (r_q1 0), .null, .null, .null, .null, .null, .null, .null, .null, .null, .null, .null, .int 0, .int 0, .int 0]) 0 (by decide) rfl rfl hin tyX9 tyX9_ok nmX9 1 (by decide) (by decide +kernel) rfl hin2 rfl (ty := .object "LeaningMarket$State") (by decide +kernel) rfl rfl (Nat.le_of_ble_eq_true rfl) rfl dX9_init_23 (fun H locs G => ?_)
  refine lv_aload_n hx hb dX9_init_26 rfl (lv_at hl 0 rfl) ?_
  have hin6_3 : ∀ w ∈ wsX60, w ∈ wsX9_init := by decide +kernel
  refine gq_new F G (ci := 6) (n := 11) (fs := [.null, .null, .null, .null, .null, .int 0, .int 0, .int 0, .int 0, .int 0, .int 0]) rfl hin6_3 tyX6 tyX6_ok (by decide +kernel) (by decide +kernel) (by decide +kernel) (fun j hj => by rcases (show j = 0 ∨ j = 1 ∨ j = 2 ∨ j = 3 ∨ j = 4 ∨ j = 5 ∨ j = 6 ∨ j = 7 ∨ j = 8 ∨ j = 9 ∨ j = 10 by omega) with rfl | rfl | rfl | rfl | rfl | rfl | rfl | rfl | rfl | rfl | rfl <;> rfl) (by show 8 + 1 ≤ _; decide) (by show 691 + 11 ≤ _; decide) dX9_init_27 (fun q3 H G => ?_)
  refine W.widen (k := 9) (n := 702) (by omega) (by omega) ?_
  refine lv_dup hx hb dX9_init_30 rfl ?_
  refine gq_call F G (N := 9) (n := 6) (Ef := (eX6 cy)) rfl (va_runIN (As := []) (rest := [.ref q3, .ref h0]) ⟨hx, hb, hml, hown, hts⟩ (ci_X6 l D cy q3 H.size) ⟨va_cnB 0 hts gX9_init_X6_init_n18 rfl rfl rfl hZ0.2.1 (hts (.initialized RX6) (by decide +kernel)) (by decide +kernel) ⟨by decide, by decide⟩, rfl, hts (.instanceMethod yX6_init) (by decide +kernel)⟩ (gq_pre F G (N := 9) rfl rfl (fun _ _ _ _ h => h) (fun _ _ => trivial)) rfl rfl hl.1 rfl (lv_room (Nat.le_of_ble_eq_true rfl)) dX9_init_31 ⟨by show 9 + 5 ≤ _; decide, by show 702 + 72 ≤ _; decide⟩) (fun r_q3 H locs er G => ?_)
  subst er
  refine W.widen (k := 14) (n := 774) (by omega) (by omega) ?_
  refine gq_putF F G (ci := 9) (n := 15) (fs := [.ref (r_q1 0), .ref (r_q2 0), .null, .null, .null, .null, .null, .null, .null, .null, .null, .null, .int 0, .int 0, .int 0]) 0 (by decide) rfl rfl hin tyX9 tyX9_ok nmX9 2 (by decide) (by decide +kernel) rfl hin2 rfl (ty := .object "LeaningMarket$State") (by decide +kernel) rfl rfl (Nat.le_of_ble_eq_true rfl) rfl dX9_init_34 (fun H locs G => ?_)
  refine lv_aload_n hx hb dX9_init_37 rfl (lv_at hl 0 rfl) ?_
  have hin8_4 : ∀ w ∈ wsX80, w ∈ wsX9_init := by decide +kernel
  refine gq_new F G (ci := 8) (n := 5) (fs := [.null, .int 0, .int 0, .int 0, .int 0]) rfl hin8_4 tyX8 tyX8_ok (by decide +kernel) (by decide +kernel) (by decide +kernel) (fun j hj => by rcases (show j = 0 ∨ j = 1 ∨ j = 2 ∨ j = 3 ∨ j = 4 by omega) with rfl | rfl | rfl | rfl | rfl <;> rfl) (by show 14 + 1 ≤ _; decide) (by show 774 + 5 ≤ _; decide) dX9_init_38 (fun q4 H G => ?_)
  refine W.widen (k := 15) (n := 779) (by omega) (by omega) ?_
  refine lv_dup hx hb dX9_init_41 rfl ?_
  refine gq_call F G (N := 15) (n := 2) (Ef := (eX8 cy)) rfl (va_runIN (As := []) (rest := [.ref q4, .ref h0]) ⟨hx, hb, hml, hown, hts⟩ (ci_X8 l D cy q4 H.size) ⟨va_cnB 0 hts gX9_init_X8_init_n28 rfl rfl rfl hZ0.2.2.1 (hts (.initialized RX8) (by decide +kernel)) (by decide +kernel) ⟨by decide, by decide⟩, rfl, hts (.instanceMethod yX8_init) (by decide +kernel)⟩ (gq_pre F G (N := 15) rfl rfl (fun _ _ _ _ h => h) (fun _ _ => trivial)) rfl rfl hl.1 rfl (lv_room (Nat.le_of_ble_eq_true rfl)) dX9_init_42 ⟨by show 15 + 1 ≤ _; decide, by show 779 + 190 ≤ _; decide⟩) (fun r_q4 H locs er G => ?_)
  subst er
  refine W.widen (k := 16) (n := 969) (by omega) (by omega) ?_
  refine gq_putF F G (ci := 9) (n := 15) (fs := [.ref (r_q1 0), .ref (r_q2 0), .ref (r_q3 0), .null, .null, .null, .null, .null, .null, .null, .null, .null, .int 0, .int 0, .int 0]) 0 (by decide) rfl rfl hin tyX9 tyX9_ok nmX9 3 (by decide) (by decide +kernel) rfl hin2 rfl (ty := .object "LeaningMarket$Work") (by decide +kernel) rfl rfl (Nat.le_of_ble_eq_true rfl) rfl dX9_init_45 (fun H locs G => ?_)
  refine lv_aload_n hx hb dX9_init_48 rfl (lv_at hl 0 rfl) ?_
  have hin5_5 : ∀ w ∈ wsX50, w ∈ wsX9_init := by decide +kernel
  refine gq_new F G (ci := 5) (n := 5) (fs := [.null, .null, .null, .int 0, .int 0]) rfl hin5_5 tyX5 tyX5_ok (by decide +kernel) (by decide +kernel) (by decide +kernel) (fun j hj => by rcases (show j = 0 ∨ j = 1 ∨ j = 2 ∨ j = 3 ∨ j = 4 by omega) with rfl | rfl | rfl | rfl | rfl <;> rfl) (by show 16 + 1 ≤ _; decide) (by show 969 + 5 ≤ _; decide) dX9_init_49 (fun q5 H G => ?_)
  refine W.widen (k := 17) (n := 974) (by omega) (by omega) ?_
  refine lv_dup hx hb dX9_init_52 rfl ?_
  refine gq_call F G (N := 17) (n := 4) (Ef := (eX5 cy)) rfl (va_runIN (As := []) (rest := [.ref q5, .ref h0]) ⟨hx, hb, hml, hown, hts⟩ (ci_X5 l D cy q5 H.size) ⟨va_cnB 0 hts gX9_init_X5_init_n35 rfl rfl rfl hZ0.2.2.2.1 (hts (.initialized RX5) (by decide +kernel)) (by decide +kernel) ⟨by decide, by decide⟩, rfl, hts (.instanceMethod yX5_init) (by decide +kernel)⟩ (gq_pre F G (N := 17) rfl rfl (fun _ _ _ _ h => h) (fun _ _ => trivial)) rfl rfl hl.1 rfl (lv_room (Nat.le_of_ble_eq_true rfl)) dX9_init_53 ⟨by show 17 + 3 ≤ _; decide, by show 974 + 4023 ≤ _; decide⟩) (fun r_q5 H locs er G => ?_)
  subst er
  refine W.widen (k := 20) (n := 4997) (by omega) (by omega) ?_
  refine gq_putF F G (ci := 9) (n := 15) (fs := [.ref (r_q1 0), .ref (r_q2 0), .ref (r_q3 0), .ref (r_q4 0), .null, .null, .null, .null, .null, .null, .null, .null, .int 0, .int 0, .int 0]) 0 (by decide) rfl rfl hin tyX9 tyX9_ok nmX9 4 (by decide) (by decide +kernel) rfl hin2 rfl (ty := .object "LeaningMarket$Past") (by decide +kernel) rfl rfl (Nat.le_of_ble_eq_true rfl) rfl dX9_init_56 (fun H locs G => ?_)
  refine lv_aload_n hx hb dX9_init_59 rfl (lv_at hl 0 rfl) ?_
  have hin1_6 : ∀ w ∈ wsX10, w ∈ wsX9_init := by decide +kernel
  refine gq_new F G (ci := 1) (n := 6) (fs := [.null, .int 0, .int 0, .int 0, .long 0, .long 0]) rfl hin1_6 tyX1 tyX1_ok (by decide +kernel) (by decide +kernel) (by decide +kernel) (fun j hj => by rcases (show j = 0 ∨ j = 1 ∨ j = 2 ∨ j = 3 ∨ j = 4 ∨ j = 5 by omega) with rfl | rfl | rfl | rfl | rfl | rfl <;> rfl) (by show 20 + 1 ≤ _; decide) (by show 4997 + 6 ≤ _; decide) dX9_init_60 (fun q6 H G => ?_)
  refine W.widen (k := 21) (n := 5003) (by omega) (by omega) ?_
  refine lv_dup hx hb dX9_init_63 rfl ?_
  refine gq_call F G (N := 21) (n := 2) (Ef := (eX1 cy)) rfl (va_runIN (As := []) (rest := [.ref q6, .ref h0]) ⟨hx, hb, hml, hown, hts⟩ (ci_X1 l D cy q6 H.size) ⟨va_cnB 0 hts gX9_init_X1_init_n42 rfl rfl rfl hZ0.2.2.2.2.1 (hts (.initialized RX1) (by decide +kernel)) (by decide +kernel) ⟨by decide, by decide⟩, rfl, hts (.instanceMethod yX1_init) (by decide +kernel)⟩ (gq_pre F G (N := 21) rfl rfl (fun _ _ _ _ h => h) (fun _ _ => trivial)) rfl rfl hl.1 rfl (lv_room (Nat.le_of_ble_eq_true rfl)) dX9_init_64 ⟨by show 21 + 1 ≤ _; decide, by show 5003 + 1024 ≤ _; decide⟩) (fun r_q6 H locs er G => ?_)
  subst er
  refine W.widen (k := 22) (n := 6027) (by omega) (by omega) ?_
  refine gq_putF F G (ci := 9) (n := 15) (fs := [.ref (r_q1 0), .ref (r_q2 0), .ref (r_q3 0), .ref (r_q4 0), .ref (r_q5 0), .null, .null, .null, .null, .null, .null, .null, .int 0, .int 0, .int 0]) 0 (by decide) rfl rfl hin tyX9 tyX9_ok nmX9 5 (by decide) (by decide +kernel) rfl hin2 rfl (ty := .object "LeaningMarket$Chains") (by decide +kernel) rfl rfl (Nat.le_of_ble_eq_true rfl) rfl dX9_init_67 (fun H locs G => ?_)
  refine lv_aload_n hx hb dX9_init_70 rfl (lv_at hl 0 rfl) ?_
  have hin4_7 : ∀ w ∈ wsX40, w ∈ wsX9_init := by decide +kernel
  refine gq_new F G (ci := 4) (n := 4) (fs := [.null, .null, .int 0, .int 0]) rfl hin4_7 tyX4 tyX4_ok (by decide +kernel) (by decide +kernel) (by decide +kernel) (fun j hj => by rcases (show j = 0 ∨ j = 1 ∨ j = 2 ∨ j = 3 by omega) with rfl | rfl | rfl | rfl <;> rfl) (by show 22 + 1 ≤ _; decide) (by show 6027 + 4 ≤ _; decide) dX9_init_71 (fun q7 H G => ?_)
  refine W.widen (k := 23) (n := 6031) (by omega) (by omega) ?_
  refine lv_dup hx hb dX9_init_74 rfl ?_
  refine gq_call F G (N := 23) (n := 3) (Ef := (eX4 cy)) rfl (va_runIN (As := []) (rest := [.ref q7, .ref h0]) ⟨hx, hb, hml, hown, hts⟩ (ci_X4 l D cy q7 H.size) ⟨va_cnB 0 hts gX9_init_X4_init_n49 rfl rfl rfl hZ0.2.2.2.2.2.1 (hts (.initialized RX4) (by decide +kernel)) (by decide +kernel) ⟨by decide, by decide⟩, rfl, hts (.instanceMethod yX4_init) (by decide +kernel)⟩ (gq_pre F G (N := 23) rfl rfl (fun _ _ _ _ h => h) (fun _ _ => trivial)) rfl rfl hl.1 rfl (lv_room (Nat.le_of_ble_eq_true rfl)) dX9_init_75 ⟨by show 23 + 2 ≤ _; decide, by show 6031 + 737 ≤ _; decide⟩) (fun r_q7 H locs er G => ?_)
  subst er
  refine W.widen (k := 25) (n := 6768) (by omega) (by omega) ?_
  refine gq_putF F G (ci := 9) (n := 15) (fs := [.ref (r_q1 0), .ref (r_q2 0), .ref (r_q3 0), .ref (r_q4 0), .ref (r_q5 0), .ref (r_q6 0), .null, .null, .null, .null, .null, .null, .int 0, .int 0, .int 0]) 0 (by decide) rfl rfl hin tyX9 tyX9_ok nmX9 6 (by decide) (by decide +kernel) rfl hin2 rfl (ty := .object "LeaningMarket$Pans") (by decide +kernel) rfl rfl (Nat.le_of_ble_eq_true rfl) rfl dX9_init_78 (fun H locs G => ?_)
  refine lv_aload_n hx hb dX9_init_81 rfl (lv_at hl 0 rfl) ?_
  have hin2_8 : ∀ w ∈ wsX20, w ∈ wsX9_init := by decide +kernel
  refine gq_new F G (ci := 2) (n := 2) (fs := [.null, .int 0]) rfl hin2_8 tyX2 tyX2_ok (by decide +kernel) (by decide +kernel) (by decide +kernel) (fun j hj => by rcases (show j = 0 ∨ j = 1 by omega) with rfl | rfl <;> rfl) (by show 25 + 1 ≤ _; decide) (by show 6768 + 2 ≤ _; decide) dX9_init_82 (fun q8 H G => ?_)
  refine W.widen (k := 26) (n := 6770) (by omega) (by omega) ?_
  refine lv_dup hx hb dX9_init_85 rfl ?_
  refine gq_call F G (N := 26) (n := 7) (Ef := (eX2 cy)) rfl (va_runIN (As := []) (rest := [.ref q8, .ref h0]) ⟨hx, hb, hml, hown, hts⟩ (ci_X2 l D cy q8 H.size) ⟨va_cnB 0 hts gX9_init_X2_init_n56 rfl rfl rfl hZ0.2.2.2.2.2.2.1 (hts (.initialized RX2) (by decide +kernel)) (by decide +kernel) ⟨by decide, by decide⟩, rfl, hts (.instanceMethod yX2_init) (by decide +kernel)⟩ (gq_pre F G (N := 26) rfl rfl (fun U _ _ _ h => va_Nw.same (u := U) rfl rfl h) (fun U hW => va_Nw.warmM hW hZ0.2.2.2.2.2.2.2.2)) rfl rfl hl.1 rfl (lv_room (Nat.le_of_ble_eq_true rfl)) dX9_init_86 ⟨by show 26 + 6 ≤ _; decide, by show 6770 + 83 ≤ _; decide⟩) (fun r_q8 H locs er G => ?_)
  subst er
  refine W.widen (k := 32) (n := 6853) (by omega) (by omega) ?_
  refine gq_putF F G (ci := 9) (n := 15) (fs := [.ref (r_q1 0), .ref (r_q2 0), .ref (r_q3 0), .ref (r_q4 0), .ref (r_q5 0), .ref (r_q6 0), .ref (r_q7 0), .null, .null, .null, .null, .null, .int 0, .int 0, .int 0]) 0 (by decide) rfl rfl hin tyX9 tyX9_ok nmX9 7 (by decide) (by decide +kernel) rfl hin2 rfl (ty := .object "LeaningMarket$Fair") (by decide +kernel) rfl rfl (Nat.le_of_ble_eq_true rfl) rfl dX9_init_89 (fun H locs G => ?_)
  refine lv_aload_n hx hb dX9_init_92 rfl (lv_at hl 0 rfl) ?_
  have hin3_9 : ∀ w ∈ wsX30, w ∈ wsX9_init := by decide +kernel
  refine gq_new F G (ci := 3) (n := 5) (fs := [.null, .null, .null, .null, .int 0]) rfl hin3_9 tyX3 tyX3_ok (by decide +kernel) (by decide +kernel) (by decide +kernel) (fun j hj => by rcases (show j = 0 ∨ j = 1 ∨ j = 2 ∨ j = 3 ∨ j = 4 by omega) with rfl | rfl | rfl | rfl | rfl <;> rfl) (by show 32 + 1 ≤ _; decide) (by show 6853 + 5 ≤ _; decide) dX9_init_93 (fun q9 H G => ?_)
  refine W.widen (k := 33) (n := 6858) (by omega) (by omega) ?_
  refine lv_dup hx hb dX9_init_96 rfl ?_
  refine gq_call F G (N := 33) (n := 5) (Ef := (fun r => lwE cy r usF usG 3)) rfl (va_runI (As := []) (rest := [.ref q9, .ref h0]) ⟨hx, hb, hml, hown, hts⟩ (ci_X3 l D cy q9 H.size) (cwI 0 hts gX9_init_X3_init rfl rfl rfl (hts (.initialized RX3) (by decide +kernel)) (hts (.methodLink RX9 63 yX3_init) (by decide +kernel)) (hts (.instanceMethod yX3_init) (by decide +kernel)) rfl (by decide +kernel) ⟨by decide, by decide⟩) (gq_pre F G (N := 33) rfl rfl (fun _ _ _ _ h => h) (fun _ _ => trivial)) rfl rfl hl.1 rfl (lv_room (Nat.le_of_ble_eq_true rfl)) dX9_init_97 ⟨by show 33 + 4 ≤ _; decide, by show 6858 + 331 ≤ _; decide⟩) (fun r_q9 H locs er G => ?_)
  subst er
  refine W.widen (k := 37) (n := 7189) (by omega) (by omega) ?_
  refine gq_put F G (ci := 9) (n := 15) (fs := [.ref (r_q1 0), .ref (r_q2 0), .ref (r_q3 0), .ref (r_q4 0), .ref (r_q5 0), .ref (r_q6 0), .ref (r_q7 0), .ref (r_q8 0), .null, .null, .null, .null, .int 0, .int 0, .int 0]) 0 (by decide) rfl rfl hin tyX9 tyX9_ok nmX9 8 (by decide) (by decide +kernel) rfl (ty := .object "LeaningMarket$Law") (by decide +kernel) rfl rfl (Nat.le_of_ble_eq_true rfl) rfl dX9_init_100 (fun H locs G => ?_)
  refine lv_aload_n hx hb dX9_init_103 rfl (lv_at hl 0 rfl) ?_
  have hin3_10 : ∀ w ∈ wsX30, w ∈ wsX9_init := by decide +kernel
  refine gq_new F G (ci := 3) (n := 5) (fs := [.null, .null, .null, .null, .int 0]) rfl hin3_10 tyX3 tyX3_ok (by decide +kernel) (by decide +kernel) (by decide +kernel) (fun j hj => by rcases (show j = 0 ∨ j = 1 ∨ j = 2 ∨ j = 3 ∨ j = 4 by omega) with rfl | rfl | rfl | rfl | rfl <;> rfl) (by show 37 + 1 ≤ _; decide) (by show 7189 + 5 ≤ _; decide) dX9_init_104 (fun q10 H G => ?_)
  refine W.widen (k := 38) (n := 7194) (by omega) (by omega) ?_
  refine lv_dup hx hb dX9_init_107 rfl ?_
  refine gq_call F G (N := 38) (n := 5) (Ef := (fun r => lwE cy r usF usG 3)) rfl (va_runI (As := []) (rest := [.ref q10, .ref h0]) ⟨hx, hb, hml, hown, hts⟩ (ci_X3 l D cy q10 H.size) (cwI 0 hts gX9_init_X3_init rfl rfl rfl (hts (.initialized RX3) (by decide +kernel)) (hts (.methodLink RX9 63 yX3_init) (by decide +kernel)) (hts (.instanceMethod yX3_init) (by decide +kernel)) rfl (by decide +kernel) ⟨by decide, by decide⟩) (gq_pre F G (N := 38) rfl rfl (fun _ _ _ _ h => h) (fun _ _ => trivial)) rfl rfl hl.1 rfl (lv_room (Nat.le_of_ble_eq_true rfl)) dX9_init_108 ⟨by show 38 + 4 ≤ _; decide, by show 7194 + 331 ≤ _; decide⟩) (fun r_q10 H locs er G => ?_)
  subst er
  refine W.widen (k := 42) (n := 7525) (by omega) (by omega) ?_
  refine gq_put F G (ci := 9) (n := 15) (fs := [.ref (r_q1 0), .ref (r_q2 0), .ref (r_q3 0), .ref (r_q4 0), .ref (r_q5 0), .ref (r_q6 0), .ref (r_q7 0), .ref (r_q8 0), .ref (r_q9 0), .null, .null, .null, .int 0, .int 0, .int 0]) 0 (by decide) rfl rfl hin tyX9 tyX9_ok nmX9 9 (by decide) (by decide +kernel) rfl (ty := .object "LeaningMarket$Law") (by decide +kernel) rfl rfl (Nat.le_of_ble_eq_true rfl) rfl dX9_init_111 (fun H locs G => ?_)
  refine lv_aload_n hx hb dX9_init_114 rfl (lv_at hl 0 rfl) ?_
  have hin0_11 : ∀ w ∈ wsX00, w ∈ wsX9_init := by decide +kernel
  refine gq_new F G (ci := 0) (n := 9) (fs := [.null, .null, .null, .null, .null, .int 0, .int 0, .int 0, .int 0]) rfl hin0_11 tyX0 tyX0_ok (by decide +kernel) (by decide +kernel) (by decide +kernel) (fun j hj => by rcases (show j = 0 ∨ j = 1 ∨ j = 2 ∨ j = 3 ∨ j = 4 ∨ j = 5 ∨ j = 6 ∨ j = 7 ∨ j = 8 by omega) with rfl | rfl | rfl | rfl | rfl | rfl | rfl | rfl | rfl <;> rfl) (by show 42 + 1 ≤ _; decide) (by show 7525 + 9 ≤ _; decide) dX9_init_115 (fun q11 H G => ?_)
  refine W.widen (k := 43) (n := 7534) (by omega) (by omega) ?_
  refine lv_dup hx hb dX9_init_118 rfl ?_
  refine gq_call F G (N := 43) (n := 6) (Ef := (eX0 cy)) rfl (va_runIN (As := []) (rest := [.ref q11, .ref h0]) ⟨hx, hb, hml, hown, hts⟩ (ci_X0 l D cy q11 H.size) ⟨va_cnB 0 hts gX9_init_X0_init_n73 rfl rfl rfl hZ0.2.2.2.2.2.2.2.1 (hts (.initialized RX0) (by decide +kernel)) (by decide +kernel) ⟨by decide, by decide⟩, rfl, hts (.instanceMethod yX0_init) (by decide +kernel)⟩ (gq_pre F G (N := 43) rfl rfl (fun _ _ _ _ h => h) (fun _ _ => trivial)) rfl rfl hl.1 rfl (lv_room (Nat.le_of_ble_eq_true rfl)) dX9_init_119 ⟨by show 43 + 5 ≤ _; decide, by show 7534 + 211 ≤ _; decide⟩) (fun r_q11 H locs er G => ?_)
  subst er
  refine W.widen (k := 48) (n := 7745) (by omega) (by omega) ?_
  refine gq_put F G (ci := 9) (n := 15) (fs := [.ref (r_q1 0), .ref (r_q2 0), .ref (r_q3 0), .ref (r_q4 0), .ref (r_q5 0), .ref (r_q6 0), .ref (r_q7 0), .ref (r_q8 0), .ref (r_q9 0), .ref (r_q10 0), .null, .null, .int 0, .int 0, .int 0]) 0 (by decide) rfl rfl hin tyX9 tyX9_ok nmX9 10 (by decide) (by decide +kernel) rfl (ty := .object "LeaningMarket$Book") (by decide +kernel) rfl rfl (Nat.le_of_ble_eq_true rfl) rfl dX9_init_122 (fun H locs G => ?_)
  refine lv_aload_n hx hb dX9_init_125 rfl (lv_at hl 0 rfl) ?_
  have hin0_12 : ∀ w ∈ wsX00, w ∈ wsX9_init := by decide +kernel
  refine gq_new F G (ci := 0) (n := 9) (fs := [.null, .null, .null, .null, .null, .int 0, .int 0, .int 0, .int 0]) rfl hin0_12 tyX0 tyX0_ok (by decide +kernel) (by decide +kernel) (by decide +kernel) (fun j hj => by rcases (show j = 0 ∨ j = 1 ∨ j = 2 ∨ j = 3 ∨ j = 4 ∨ j = 5 ∨ j = 6 ∨ j = 7 ∨ j = 8 by omega) with rfl | rfl | rfl | rfl | rfl | rfl | rfl | rfl | rfl <;> rfl) (by show 48 + 1 ≤ _; decide) (by show 7745 + 9 ≤ _; decide) dX9_init_126 (fun q12 H G => ?_)
  refine W.widen (k := 49) (n := 7754) (by omega) (by omega) ?_
  refine lv_dup hx hb dX9_init_129 rfl ?_
  refine gq_call F G (N := 49) (n := 6) (Ef := (eX0 cy)) rfl (va_runIN (As := []) (rest := [.ref q12, .ref h0]) ⟨hx, hb, hml, hown, hts⟩ (ci_X0 l D cy q12 H.size) ⟨va_cnB 0 hts gX9_init_X0_init_n73 rfl rfl rfl hZ0.2.2.2.2.2.2.2.1 (hts (.initialized RX0) (by decide +kernel)) (by decide +kernel) ⟨by decide, by decide⟩, rfl, hts (.instanceMethod yX0_init) (by decide +kernel)⟩ (gq_pre F G (N := 49) rfl rfl (fun _ _ _ _ h => h) (fun _ _ => trivial)) rfl rfl hl.1 rfl (lv_room (Nat.le_of_ble_eq_true rfl)) dX9_init_130 ⟨by show 49 + 5 ≤ _; decide, by show 7754 + 211 ≤ _; decide⟩) (fun r_q12 H locs er G => ?_)
  subst er
  refine W.widen (k := 54) (n := 7965) (by omega) (by omega) ?_
  refine gq_put F G (ci := 9) (n := 15) (fs := [.ref (r_q1 0), .ref (r_q2 0), .ref (r_q3 0), .ref (r_q4 0), .ref (r_q5 0), .ref (r_q6 0), .ref (r_q7 0), .ref (r_q8 0), .ref (r_q9 0), .ref (r_q10 0), .ref (r_q11 0), .null, .int 0, .int 0, .int 0]) 0 (by decide) rfl rfl hin tyX9 tyX9_ok nmX9 11 (by decide) (by decide +kernel) rfl (ty := .object "LeaningMarket$Book") (by decide +kernel) rfl rfl (Nat.le_of_ble_eq_true rfl) rfl dX9_init_133 (fun H locs G => ?_)
  subst hAe
  exact gq_vret F G (Ef := fun r : Nat → Nat => gwe r cy gc0 d) rfl (by
    intro i hi
    rcases (show i = 0 ∨ i = 1 ∨ i = 2 ∨ i = 3 ∨ i = 4 ∨ i = 5 ∨ i = 6 ∨ i = 7 ∨ i = 8 ∨ i = 9 ∨ i = 10 ∨ i = 11 ∨ i = 12 ∨ i = 13 ∨ i = 14 ∨ i = 15 ∨ i = 16 ∨ i = 17 ∨ i = 18 ∨ i = 19 ∨ i = 20 ∨ i = 21 ∨ i = 22 ∨ i = 23 ∨ i = 24 ∨ i = 25 ∨ i = 26 ∨ i = 27 ∨ i = 28 ∨ i = 29 ∨ i = 30 ∨ i = 31 ∨ i = 32 ∨ i = 33 ∨ i = 34 ∨ i = 35 ∨ i = 36 ∨ i = 37 ∨ i = 38 ∨ i = 39 ∨ i = 40 ∨ i = 41 ∨ i = 42 ∨ i = 43 ∨ i = 44 ∨ i = 45 ∨ i = 46 ∨ i = 47 ∨ i = 48 ∨ i = 49 ∨ i = 50 ∨ i = 51 ∨ i = 52 ∨ i = 53 ∨ i = 54 by omega) with rfl | rfl | rfl | rfl | rfl | rfl | rfl | rfl | rfl | rfl | rfl | rfl | rfl | rfl | rfl | rfl | rfl | rfl | rfl | rfl | rfl | rfl | rfl | rfl | rfl | rfl | rfl | rfl | rfl | rfl | rfl | rfl | rfl | rfl | rfl | rfl | rfl | rfl | rfl | rfl | rfl | rfl | rfl | rfl | rfl | rfl | rfl | rfl | rfl | rfl | rfl | rfl | rfl | rfl | rfl <;> rfl) hr hlocks dX9_init_136
