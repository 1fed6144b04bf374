set_option maxRecDepth 16384
/-! the constructors that make one object and its arrays -/
def eX0 (cy : Nat → ClassId) (r : Nat → Nat) : Nat → va_E := fun i => if i = 0 then .inr (0, [.ref (r 1), .ref (r 2), .ref (r 3), .ref (r 4), .ref (r 5), .int 0, .int 0, .int 0, .int 0]) else if i = 1 then .inl (cy 0, 6, .inl (fun _ => 0)) else if i = 2 then .inl (cy 0, 6, .inl (fun _ => 0)) else if i = 3 then .inl (cy 0, 6, .inl (fun _ => 0)) else if i = 4 then .inl (cy 2, 190, .inl (fun _ => 0)) else .inl (cy 0, 3, .inl (fun _ => 0))
abbrev rmX0_init : Room := { frames := 1, cells := 5, slots := 211, locals := 12 }
set_option maxHeartbeats 4000000 in
set_option maxRecDepth 100000 in
theorem ci_X0 (l : Launch) (D : va_G) (cy : Nat → ClassId) (h0 sz : Nat) : Met l yX0_init wsX0_init rmX0_init (va_Pc [.ref h0] (gPi D cy h0 sz 0 [.null, .null, .null, .null, .null, .int 0, .int 0, .int 0, .int 0] (fun _ => True))) (va_Qv (fun (r : Nat → Nat) => r 0 = h0) (fun r U => va_P D vwCl (gbl r 6 (eX0 cy r)) U.heap ∧ va_D (gAi h0 sz) (gbl r 6 (eX0 cy r))) (gAi h0 sz)) 5 211 (gAi h0 sz) := by
  refine Met.ofW (cc := cX0_init) (maxL := 1) (ret := none) (by decide) rfl ?_
  intro p e s m args below meth cod s₁ B hml hv
  obtain ⟨rfl, hsz, hP0, hK0, hZ0⟩ := hv
  have hx := B.exec
  have hb := B.bytes
  have hr := B.returns
  have hts := atoms_spec (ws := wsX0_init) B.pre
  have hown : s.vm.findClass RX0 = some m.cls := findClass_of_methodNamed B.named
  have hlocks := B.notSynchronized
  have hin2 : meth.name = "<init>" := (name_of_methodNamed B.named B.method).1
  subst hsz
  have G := gq_start (ci := 0) (fs := [.null, .null, .null, .null, .null, .int 0, .int 0, .int 0, .int 0]) hP0
  have hl := lv_entry ([.ref h0]) (n := 1) (Nat.le_of_ble_eq_true rfl)
  rw [lg_entry_eq]
  generalize (lg_sl ([.ref h0]) ++ List.replicate (1 - (lg_sl ([.ref h0])).length) Slot.unset).toArray = ls at hl ⊢
  have hl : lv_has ls 1 [(0, .ref h0)] := hl
  have hin : ∀ w ∈ wsX00, w ∈ wsX0_init := by decide +kernel
  generalize hargs : ([.ref h0] : List Value).toArray = args at *
  generalize hAe : gAi h0 s.heap.size = A at G ⊢
  have F : gQc D cy A p s m args cod cX0_init 1 wsX0_init RX0 := ⟨hx, hb, hml, hown, hts, hK0, by rw [← hAe]; exact fun q h => Or.inr h⟩
  refine lv_aload_n hx hb dX0_init_0 rfl (lv_at hl 0 rfl) ?_
  refine W.objInit hx hb hown (hts (.methodLink RX0 5 objectInit) (by decide +kernel)) (hts (.instanceMethod objectInit) (by decide +kernel)) (hts _ (List.mem_of_getElem? (l := wsX0_init) (i := 3) rfl)) rfl (by rw [hml]; exact hl.1) rfl dX0_init_1 (Nat.le_of_ble_eq_true rfl) (Nat.le_of_ble_eq_true rfl) ?_
  refine W.eq (g2 := F0 m 4 ls []) rfl ?_
  refine lv_aload_n hx hb dX0_init_4 rfl (lv_at hl 0 rfl) ?_
  refine lv_bipush (v := 6) hx hb dX0_init_5 (by decide) ?_
  refine gq_newa F G 0 rfl rfl (by decide +kernel) (N' := 6) (a0 := (6, .inl (fun _ => 0))) (fun _ => rfl) (by decide) rfl (by decide) (by show 0 + 1 ≤ _; decide) (by show 0 + 6 ≤ _; decide) dX0_init_7 (fun q1 H G => ?_)
  refine W.widen (k := 1) (n := 6) (by omega) (by omega) ?_
  refine gq_putF F G (ci := 0) (n := 9) (fs := [.null, .null, .null, .null, .null, .int 0, .int 0, .int 0, .int 0]) 0 (by decide) rfl rfl hin tyX0 tyX0_ok nmX0 0 (by decide) (by decide +kernel) rfl hin2 rfl (ty := .array .int) (by decide +kernel) rfl rfl (Nat.le_of_ble_eq_true rfl) rfl dX0_init_9 (fun H locs G => ?_)
  refine lv_aload_n hx hb dX0_init_12 rfl (lv_at hl 0 rfl) ?_
  refine lv_bipush (v := 6) hx hb dX0_init_13 (by decide) ?_
  refine gq_newa F G 0 rfl rfl (by decide +kernel) (N' := 6) (a0 := (6, .inl (fun _ => 0))) (fun _ => rfl) (by decide) rfl (by decide) (by show 1 + 1 ≤ _; decide) (by show 6 + 6 ≤ _; decide) dX0_init_15 (fun q2 H G => ?_)
  refine W.widen (k := 2) (n := 12) (by omega) (by omega) ?_
  refine gq_putF F G (ci := 0) (n := 9) (fs := [.ref q1, .null, .null, .null, .null, .int 0, .int 0, .int 0, .int 0]) 0 (by decide) rfl rfl hin tyX0 tyX0_ok nmX0 1 (by decide) (by decide +kernel) rfl hin2 rfl (ty := .array .int) (by decide +kernel) rfl rfl (Nat.le_of_ble_eq_true rfl) rfl dX0_init_17 (fun H locs G => ?_)
  refine lv_aload_n hx hb dX0_init_20 rfl (lv_at hl 0 rfl) ?_
  refine lv_bipush (v := 6) hx hb dX0_init_21 (by decide) ?_
  refine gq_newa F G 0 rfl rfl (by decide +kernel) (N' := 6) (a0 := (6, .inl (fun _ => 0))) (fun _ => rfl) (by decide) rfl (by decide) (by show 2 + 1 ≤ _; decide) (by show 12 + 6 ≤ _; decide) dX0_init_23 (fun q3 H G => ?_)
  refine W.widen (k := 3) (n := 18) (by omega) (by omega) ?_
  refine gq_putF F G (ci := 0) (n := 9) (fs := [.ref q1, .ref q2, .null, .null, .null, .int 0, .int 0, .int 0, .int 0]) 0 (by decide) rfl rfl hin tyX0 tyX0_ok nmX0 2 (by decide) (by decide +kernel) rfl hin2 rfl (ty := .array .int) (by decide +kernel) rfl rfl (Nat.le_of_ble_eq_true rfl) rfl dX0_init_25 (fun H locs G => ?_)
  refine lv_aload_n hx hb dX0_init_28 rfl (lv_at hl 0 rfl) ?_
  refine lv_sipush (v := 190) hx hb dX0_init_29 (by decide) ?_
  refine gq_newa F G 2 rfl rfl (by decide +kernel) (N' := 190) (a0 := (190, .inl (fun _ => 0))) (fun _ => rfl) (by decide) rfl (by decide) (by show 3 + 1 ≤ _; decide) (by show 18 + 190 ≤ _; decide) dX0_init_32 (fun q4 H G => ?_)
  refine W.widen (k := 4) (n := 208) (by omega) (by omega) ?_
  refine gq_putF F G (ci := 0) (n := 9) (fs := [.ref q1, .ref q2, .ref q3, .null, .null, .int 0, .int 0, .int 0, .int 0]) 0 (by decide) rfl rfl hin tyX0 tyX0_ok nmX0 3 (by decide) (by decide +kernel) rfl hin2 rfl (ty := .array .boolean) (by decide +kernel) rfl rfl (Nat.le_of_ble_eq_true rfl) rfl dX0_init_34 (fun H locs G => ?_)
  refine lv_aload_n hx hb dX0_init_37 rfl (lv_at hl 0 rfl) ?_
  refine lv_iconst (v := 3) hx hb dX0_init_38 (by decide) ?_
  refine gq_newa F G 0 rfl rfl (by decide +kernel) (N' := 3) (a0 := (3, .inl (fun _ => 0))) (fun _ => rfl) (by decide) rfl (by decide) (by show 4 + 1 ≤ _; decide) (by show 208 + 3 ≤ _; decide) dX0_init_39 (fun q5 H G => ?_)
  refine W.widen (k := 5) (n := 211) (by omega) (by omega) ?_
  refine gq_putF F G (ci := 0) (n := 9) (fs := [.ref q1, .ref q2, .ref q3, .ref q4, .null, .int 0, .int 0, .int 0, .int 0]) 0 (by decide) rfl rfl hin tyX0 tyX0_ok nmX0 4 (by decide) (by decide +kernel) rfl hin2 rfl (ty := .array .int) (by decide +kernel) rfl rfl (Nat.le_of_ble_eq_true rfl) rfl dX0_init_41 (fun H locs G => ?_)
  subst hAe
  exact gq_vret F G (Ef := eX0 cy) rfl (by
    intro i hi
    rcases (show i = 0 ∨ i = 1 ∨ i = 2 ∨ i = 3 ∨ i = 4 ∨ i = 5 by omega) with rfl | rfl | rfl | rfl | rfl | rfl <;> rfl) hr hlocks dX0_init_44
def eX1 (cy : Nat → ClassId) (r : Nat → Nat) : Nat → va_E := fun i => if i = 0 then .inr (1, [.ref (r 1), .int 0, .int 0, .int 0, .long 0, .long 0]) else .inl (cy 0, 1024, .inl (fun _ => 0))
abbrev rmX1_init : Room := { frames := 1, cells := 1, slots := 1024, locals := 12 }
set_option maxHeartbeats 4000000 in
set_option maxRecDepth 100000 in
theorem ci_X1 (l : Launch) (D : va_G) (cy : Nat → ClassId) (h0 sz : Nat) : Met l yX1_init wsX1_init rmX1_init (va_Pc [.ref h0] (gPi D cy h0 sz 1 [.null, .int 0, .int 0, .int 0, .long 0, .long 0] (fun _ => True))) (va_Qv (fun (r : Nat → Nat) => r 0 = h0) (fun r U => va_P D vwCl (gbl r 2 (eX1 cy r)) U.heap ∧ va_D (gAi h0 sz) (gbl r 2 (eX1 cy r))) (gAi h0 sz)) 1 1024 (gAi h0 sz) := by
  refine Met.ofW (cc := cX1_init) (maxL := 1) (ret := none) (by decide) rfl ?_
  intro p e s m args below meth cod s₁ B hml hv
  obtain ⟨rfl, hsz, hP0, hK0, hZ0⟩ := hv
  have hx := B.exec
  have hb := B.bytes
  have hr := B.returns
  have hts := atoms_spec (ws := wsX1_init) B.pre
  have hown : s.vm.findClass RX1 = some m.cls := findClass_of_methodNamed B.named
  have hlocks := B.notSynchronized
  have hin2 : meth.name = "<init>" := (name_of_methodNamed B.named B.method).1
  subst hsz
  have G := gq_start (ci := 1) (fs := [.null, .int 0, .int 0, .int 0, .long 0, .long 0]) hP0
  have hl := lv_entry ([.ref h0]) (n := 1) (Nat.le_of_ble_eq_true rfl)
  rw [lg_entry_eq]
  generalize (lg_sl ([.ref h0]) ++ List.replicate (1 - (lg_sl ([.ref h0])).length) Slot.unset).toArray = ls at hl ⊢
  have hl : lv_has ls 1 [(0, .ref h0)] := hl
  have hin : ∀ w ∈ wsX10, w ∈ wsX1_init := by decide +kernel
  generalize hargs : ([.ref h0] : List Value).toArray = args at *
  generalize hAe : gAi h0 s.heap.size = A at G ⊢
  have F : gQc D cy A p s m args cod cX1_init 1 wsX1_init RX1 := ⟨hx, hb, hml, hown, hts, hK0, by rw [← hAe]; exact fun q h => Or.inr h⟩
  refine lv_aload_n hx hb dX1_init_0 rfl (lv_at hl 0 rfl) ?_
  refine W.objInit hx hb hown (hts (.methodLink RX1 3 objectInit) (by decide +kernel)) (hts (.instanceMethod objectInit) (by decide +kernel)) (hts _ (List.mem_of_getElem? (l := wsX1_init) (i := 3) rfl)) rfl (by rw [hml]; exact hl.1) rfl dX1_init_1 (Nat.le_of_ble_eq_true rfl) (Nat.le_of_ble_eq_true rfl) ?_
  refine W.eq (g2 := F0 m 4 ls []) rfl ?_
  refine lv_aload_n hx hb dX1_init_4 rfl (lv_at hl 0 rfl) ?_
  refine lv_sipush (v := 1024) hx hb dX1_init_5 (by decide) ?_
  refine gq_newa F G 0 rfl rfl (by decide +kernel) (N' := 1024) (a0 := (1024, .inl (fun _ => 0))) (fun _ => rfl) (by decide) rfl (by decide) (by show 0 + 1 ≤ _; decide) (by show 0 + 1024 ≤ _; decide) dX1_init_8 (fun q1 H G => ?_)
  refine W.widen (k := 1) (n := 1024) (by omega) (by omega) ?_
  refine gq_putF F G (ci := 1) (n := 6) (fs := [.null, .int 0, .int 0, .int 0, .long 0, .long 0]) 0 (by decide) rfl rfl hin tyX1 tyX1_ok nmX1 0 (by decide) (by decide +kernel) rfl hin2 rfl (ty := .array .int) (by decide +kernel) rfl rfl (Nat.le_of_ble_eq_true rfl) rfl dX1_init_10 (fun H locs G => ?_)
  subst hAe
  exact gq_vret F G (Ef := eX1 cy) rfl (by
    intro i hi
    rcases (show i = 0 ∨ i = 1 by omega) with rfl | rfl <;> rfl) hr hlocks dX1_init_13
def eX4 (cy : Nat → ClassId) (r : Nat → Nat) : Nat → va_E := fun i => if i = 0 then .inr (4, [.ref (r 1), .ref (r 2), .int 0, .int 0]) else if i = 1 then .inl (cy 0, 256, .inl (fun _ => 0)) else .inl (cy 2, 481, .inl (fun _ => 0))
abbrev rmX4_init : Room := { frames := 1, cells := 2, slots := 737, locals := 12 }
set_option maxHeartbeats 4000000 in
set_option maxRecDepth 100000 in
theorem ci_X4 (l : Launch) (D : va_G) (cy : Nat → ClassId) (h0 sz : Nat) : Met l yX4_init wsX4_init rmX4_init (va_Pc [.ref h0] (gPi D cy h0 sz 4 [.null, .null, .int 0, .int 0] (fun _ => True))) (va_Qv (fun (r : Nat → Nat) => r 0 = h0) (fun r U => va_P D vwCl (gbl r 3 (eX4 cy r)) U.heap ∧ va_D (gAi h0 sz) (gbl r 3 (eX4 cy r))) (gAi h0 sz)) 2 737 (gAi h0 sz) := by
  refine Met.ofW (cc := cX4_init) (maxL := 1) (ret := none) (by decide) rfl ?_
  intro p e s m args below meth cod s₁ B hml hv
  obtain ⟨rfl, hsz, hP0, hK0, hZ0⟩ := hv
  have hx := B.exec
  have hb := B.bytes
  have hr := B.returns
  have hts := atoms_spec (ws := wsX4_init) B.pre
  have hown : s.vm.findClass RX4 = some m.cls := findClass_of_methodNamed B.named
  have hlocks := B.notSynchronized
  have hin2 : meth.name = "<init>" := (name_of_methodNamed B.named B.method).1
  subst hsz
  have G := gq_start (ci := 4) (fs := [.null, .null, .int 0, .int 0]) hP0
  have hl := lv_entry ([.ref h0]) (n := 1) (Nat.le_of_ble_eq_true rfl)
  rw [lg_entry_eq]
  generalize (lg_sl ([.ref h0]) ++ List.replicate (1 - (lg_sl ([.ref h0])).length) Slot.unset).toArray = ls at hl ⊢
  have hl : lv_has ls 1 [(0, .ref h0)] := hl
  have hin : ∀ w ∈ wsX40, w ∈ wsX4_init := by decide +kernel
  generalize hargs : ([.ref h0] : List Value).toArray = args at *
  generalize hAe : gAi h0 s.heap.size = A at G ⊢
  have F : gQc D cy A p s m args cod cX4_init 1 wsX4_init RX4 := ⟨hx, hb, hml, hown, hts, hK0, by rw [← hAe]; exact fun q h => Or.inr h⟩
  refine lv_aload_n hx hb dX4_init_0 rfl (lv_at hl 0 rfl) ?_
  refine W.objInit hx hb hown (hts (.methodLink RX4 3 objectInit) (by decide +kernel)) (hts (.instanceMethod objectInit) (by decide +kernel)) (hts _ (List.mem_of_getElem? (l := wsX4_init) (i := 3) rfl)) rfl (by rw [hml]; exact hl.1) rfl dX4_init_1 (Nat.le_of_ble_eq_true rfl) (Nat.le_of_ble_eq_true rfl) ?_
  refine W.eq (g2 := F0 m 4 ls []) rfl ?_
  refine lv_aload_n hx hb dX4_init_4 rfl (lv_at hl 0 rfl) ?_
  refine lv_sipush (v := 256) hx hb dX4_init_5 (by decide) ?_
  refine gq_newa F G 0 rfl rfl (by decide +kernel) (N' := 256) (a0 := (256, .inl (fun _ => 0))) (fun _ => rfl) (by decide) rfl (by decide) (by show 0 + 1 ≤ _; decide) (by show 0 + 256 ≤ _; decide) dX4_init_8 (fun q1 H G => ?_)
  refine W.widen (k := 1) (n := 256) (by omega) (by omega) ?_
  refine gq_putF F G (ci := 4) (n := 4) (fs := [.null, .null, .int 0, .int 0]) 0 (by decide) rfl rfl hin tyX4 tyX4_ok nmX4 0 (by decide) (by decide +kernel) rfl hin2 rfl (ty := .array .int) (by decide +kernel) rfl rfl (Nat.le_of_ble_eq_true rfl) rfl dX4_init_10 (fun H locs G => ?_)
  refine lv_aload_n hx hb dX4_init_13 rfl (lv_at hl 0 rfl) ?_
  refine lv_sipush (v := 481) hx hb dX4_init_14 (by decide) ?_
  refine gq_newa F G 2 rfl rfl (by decide +kernel) (N' := 481) (a0 := (481, .inl (fun _ => 0))) (fun _ => rfl) (by decide) rfl (by decide) (by show 1 + 1 ≤ _; decide) (by show 256 + 481 ≤ _; decide) dX4_init_17 (fun q2 H G => ?_)
  refine W.widen (k := 2) (n := 737) (by omega) (by omega) ?_
  refine gq_putF F G (ci := 4) (n := 4) (fs := [.ref q1, .null, .int 0, .int 0]) 0 (by decide) rfl rfl hin tyX4 tyX4_ok nmX4 1 (by decide) (by decide +kernel) rfl hin2 rfl (ty := .array .boolean) (by decide +kernel) rfl rfl (Nat.le_of_ble_eq_true rfl) rfl dX4_init_19 (fun H locs G => ?_)
  subst hAe
  exact gq_vret F G (Ef := eX4 cy) rfl (by
    intro i hi
    rcases (show i = 0 ∨ i = 1 ∨ i = 2 by omega) with rfl | rfl | rfl <;> rfl) hr hlocks dX4_init_22
def eX5 (cy : Nat → ClassId) (r : Nat → Nat) : Nat → va_E := fun i => if i = 0 then .inr (5, [.ref (r 1), .ref (r 2), .ref (r 3), .int 0, .int 0]) else if i = 1 then .inl (cy 0, 960, .inl (fun _ => 0)) else if i = 2 then .inl (cy 0, 3060, .inl (fun _ => 0)) else .inl (cy 0, 3, .inl (fun _ => 0))
abbrev rmX5_init : Room := { frames := 1, cells := 3, slots := 4023, locals := 12 }
set_option maxHeartbeats 4000000 in
set_option maxRecDepth 100000 in
theorem ci_X5 (l : Launch) (D : va_G) (cy : Nat → ClassId) (h0 sz : Nat) : Met l yX5_init wsX5_init rmX5_init (va_Pc [.ref h0] (gPi D cy h0 sz 5 [.null, .null, .null, .int 0, .int 0] (fun _ => True))) (va_Qv (fun (r : Nat → Nat) => r 0 = h0) (fun r U => va_P D vwCl (gbl r 4 (eX5 cy r)) U.heap ∧ va_D (gAi h0 sz) (gbl r 4 (eX5 cy r))) (gAi h0 sz)) 3 4023 (gAi h0 sz) := by
  refine Met.ofW (cc := cX5_init) (maxL := 1) (ret := none) (by decide) rfl ?_
  intro p e s m args below meth cod s₁ B hml hv
  obtain ⟨rfl, hsz, hP0, hK0, hZ0⟩ := hv
  have hx := B.exec
  have hb := B.bytes
  have hr := B.returns
  have hts := atoms_spec (ws := wsX5_init) B.pre
  have hown : s.vm.findClass RX5 = some m.cls := findClass_of_methodNamed B.named
  have hlocks := B.notSynchronized
  have hin2 : meth.name = "<init>" := (name_of_methodNamed B.named B.method).1
  subst hsz
  have G := gq_start (ci := 5) (fs := [.null, .null, .null, .int 0, .int 0]) hP0
  have hl := lv_entry ([.ref h0]) (n := 1) (Nat.le_of_ble_eq_true rfl)
  rw [lg_entry_eq]
  generalize (lg_sl ([.ref h0]) ++ List.replicate (1 - (lg_sl ([.ref h0])).length) Slot.unset).toArray = ls at hl ⊢
  have hl : lv_has ls 1 [(0, .ref h0)] := hl
  have hin : ∀ w ∈ wsX50, w ∈ wsX5_init := by decide +kernel
  generalize hargs : ([.ref h0] : List Value).toArray = args at *
  generalize hAe : gAi h0 s.heap.size = A at G ⊢
  have F : gQc D cy A p s m args cod cX5_init 1 wsX5_init RX5 := ⟨hx, hb, hml, hown, hts, hK0, by rw [← hAe]; exact fun q h => Or.inr h⟩
  refine lv_aload_n hx hb dX5_init_0 rfl (lv_at hl 0 rfl) ?_
  refine W.objInit hx hb hown (hts (.methodLink RX5 7 objectInit) (by decide +kernel)) (hts (.instanceMethod objectInit) (by decide +kernel)) (hts _ (List.mem_of_getElem? (l := wsX5_init) (i := 3) rfl)) rfl (by rw [hml]; exact hl.1) rfl dX5_init_1 (Nat.le_of_ble_eq_true rfl) (Nat.le_of_ble_eq_true rfl) ?_
  refine W.eq (g2 := F0 m 4 ls []) rfl ?_
  refine lv_aload_n hx hb dX5_init_4 rfl (lv_at hl 0 rfl) ?_
  refine lv_sipush (v := 960) hx hb dX5_init_5 (by decide) ?_
  refine gq_newa F G 0 rfl rfl (by decide +kernel) (N' := 960) (a0 := (960, .inl (fun _ => 0))) (fun _ => rfl) (by decide) rfl (by decide) (by show 0 + 1 ≤ _; decide) (by show 0 + 960 ≤ _; decide) dX5_init_8 (fun q1 H G => ?_)
  refine W.widen (k := 1) (n := 960) (by omega) (by omega) ?_
  refine gq_putF F G (ci := 5) (n := 5) (fs := [.null, .null, .null, .int 0, .int 0]) 0 (by decide) rfl rfl hin tyX5 tyX5_ok nmX5 0 (by decide) (by decide +kernel) rfl hin2 rfl (ty := .array .int) (by decide +kernel) rfl rfl (Nat.le_of_ble_eq_true rfl) rfl dX5_init_10 (fun H locs G => ?_)
  refine lv_aload_n hx hb dX5_init_13 rfl (lv_at hl 0 rfl) ?_
  refine lv_sipush (v := 3060) hx hb dX5_init_14 (by decide) ?_
  refine gq_newa F G 0 rfl rfl (by decide +kernel) (N' := 3060) (a0 := (3060, .inl (fun _ => 0))) (fun _ => rfl) (by decide) rfl (by decide) (by show 1 + 1 ≤ _; decide) (by show 960 + 3060 ≤ _; decide) dX5_init_17 (fun q2 H G => ?_)
  refine W.widen (k := 2) (n := 4020) (by omega) (by omega) ?_
  refine gq_putF F G (ci := 5) (n := 5) (fs := [.ref q1, .null, .null, .int 0, .int 0]) 0 (by decide) rfl rfl hin tyX5 tyX5_ok nmX5 1 (by decide) (by decide +kernel) rfl hin2 rfl (ty := .array .int) (by decide +kernel) rfl rfl (Nat.le_of_ble_eq_true rfl) rfl dX5_init_19 (fun H locs G => ?_)
  refine lv_aload_n hx hb dX5_init_22 rfl (lv_at hl 0 rfl) ?_
  refine lv_iconst (v := 3) hx hb dX5_init_23 (by decide) ?_
  refine gq_newa F G 0 rfl rfl (by decide +kernel) (N' := 3) (a0 := (3, .inl (fun _ => 0))) (fun _ => rfl) (by decide) rfl (by decide) (by show 2 + 1 ≤ _; decide) (by show 4020 + 3 ≤ _; decide) dX5_init_24 (fun q3 H G => ?_)
  refine W.widen (k := 3) (n := 4023) (by omega) (by omega) ?_
  refine gq_putF F G (ci := 5) (n := 5) (fs := [.ref q1, .ref q2, .null, .int 0, .int 0]) 0 (by decide) rfl rfl hin tyX5 tyX5_ok nmX5 2 (by decide) (by decide +kernel) rfl hin2 rfl (ty := .array .int) (by decide +kernel) rfl rfl (Nat.le_of_ble_eq_true rfl) rfl dX5_init_26 (fun H locs G => ?_)
  subst hAe
  exact gq_vret F G (Ef := eX5 cy) rfl (by
    intro i hi
    rcases (show i = 0 ∨ i = 1 ∨ i = 2 ∨ i = 3 by omega) with rfl | rfl | rfl | rfl <;> rfl) hr hlocks dX5_init_29
def eX6 (cy : Nat → ClassId) (r : Nat → Nat) : Nat → va_E := fun i => if i = 0 then .inr (6, [.ref (r 1), .ref (r 2), .ref (r 3), .ref (r 4), .ref (r 5), .int 0, .int 0, .int 9, .int 0, .int 0, .int 0]) else if i = 1 then .inl (cy 0, 8, .inl (fun _ => 0)) else if i = 2 then .inl (cy 0, 8, .inl (fun _ => 0)) else if i = 3 then .inl (cy 0, 8, .inl (fun _ => 0)) else if i = 4 then .inl (cy 0, 8, .inl (fun _ => 0)) else .inl (cy 0, 40, .inl (fun _ => 0))
abbrev rmX6_init : Room := { frames := 1, cells := 5, slots := 72, locals := 12 }
set_option maxHeartbeats 4000000 in
set_option maxRecDepth 100000 in
theorem ci_X6 (l : Launch) (D : va_G) (cy : Nat → ClassId) (h0 sz : Nat) : Met l yX6_init wsX6_init rmX6_init (va_Pc [.ref h0] (gPi D cy h0 sz 6 [.null, .null, .null, .null, .null, .int 0, .int 0, .int 0, .int 0, .int 0, .int 0] (fun _ => True))) (va_Qv (fun (r : Nat → Nat) => r 0 = h0) (fun r U => va_P D vwCl (gbl r 6 (eX6 cy r)) U.heap ∧ va_D (gAi h0 sz) (gbl r 6 (eX6 cy r))) (gAi h0 sz)) 5 72 (gAi h0 sz) := by
  refine Met.ofW (cc := cX6_init) (maxL := 1) (ret := none) (by decide) rfl ?_
  intro p e s m args below meth cod s₁ B hml hv
  obtain ⟨rfl, hsz, hP0, hK0, hZ0⟩ := hv
  have hx := B.exec
  have hb := B.bytes
  have hr := B.returns
  have hts := atoms_spec (ws := wsX6_init) B.pre
  have hown : s.vm.findClass RX6 = some m.cls := findClass_of_methodNamed B.named
  have hlocks := B.notSynchronized
  have hin2 : meth.name = "<init>" := (name_of_methodNamed B.named B.method).1
  subst hsz
  have G := gq_start (ci := 6) (fs := [.null, .null, .null, .null, .null, .int 0, .int 0, .int 0, .int 0, .int 0, .int 0]) hP0
  have hl := lv_entry ([.ref h0]) (n := 1) (Nat.le_of_ble_eq_true rfl)
  rw [lg_entry_eq]
  generalize (lg_sl ([.ref h0]) ++ List.replicate (1 - (lg_sl ([.ref h0])).length) Slot.unset).toArray = ls at hl ⊢
  have hl : lv_has ls 1 [(0, .ref h0)] := hl
  have hin : ∀ w ∈ wsX60, w ∈ wsX6_init := by decide +kernel
  generalize hargs : ([.ref h0] : List Value).toArray = args at *
  generalize hAe : gAi h0 s.heap.size = A at G ⊢
  have F : gQc D cy A p s m args cod cX6_init 1 wsX6_init RX6 := ⟨hx, hb, hml, hown, hts, hK0, by rw [← hAe]; exact fun q h => Or.inr h⟩
  refine lv_aload_n hx hb dX6_init_0 rfl (lv_at hl 0 rfl) ?_
  refine W.objInit hx hb hown (hts (.methodLink RX6 5 objectInit) (by decide +kernel)) (hts (.instanceMethod objectInit) (by decide +kernel)) (hts _ (List.mem_of_getElem? (l := wsX6_init) (i := 3) rfl)) rfl (by rw [hml]; exact hl.1) rfl dX6_init_1 (Nat.le_of_ble_eq_true rfl) (Nat.le_of_ble_eq_true rfl) ?_
  refine W.eq (g2 := F0 m 4 ls []) rfl ?_
  refine lv_aload_n hx hb dX6_init_4 rfl (lv_at hl 0 rfl) ?_
  refine lv_bipush (v := 8) hx hb dX6_init_5 (by decide) ?_
  refine gq_newa F G 0 rfl rfl (by decide +kernel) (N' := 8) (a0 := (8, .inl (fun _ => 0))) (fun _ => rfl) (by decide) rfl (by decide) (by show 0 + 1 ≤ _; decide) (by show 0 + 8 ≤ _; decide) dX6_init_7 (fun q1 H G => ?_)
  refine W.widen (k := 1) (n := 8) (by omega) (by omega) ?_
  refine gq_putF F G (ci := 6) (n := 11) (fs := [.null, .null, .null, .null, .null, .int 0, .int 0, .int 0, .int 0, .int 0, .int 0]) 0 (by decide) rfl rfl hin tyX6 tyX6_ok nmX6 0 (by decide) (by decide +kernel) rfl hin2 rfl (ty := .array .int) (by decide +kernel) rfl rfl (Nat.le_of_ble_eq_true rfl) rfl dX6_init_9 (fun H locs G => ?_)
  refine lv_aload_n hx hb dX6_init_12 rfl (lv_at hl 0 rfl) ?_
  refine lv_bipush (v := 8) hx hb dX6_init_13 (by decide) ?_
  refine gq_newa F G 0 rfl rfl (by decide +kernel) (N' := 8) (a0 := (8, .inl (fun _ => 0))) (fun _ => rfl) (by decide) rfl (by decide) (by show 1 + 1 ≤ _; decide) (by show 8 + 8 ≤ _; decide) dX6_init_15 (fun q2 H G => ?_)
  refine W.widen (k := 2) (n := 16) (by omega) (by omega) ?_
  refine gq_putF F G (ci := 6) (n := 11) (fs := [.ref q1, .null, .null, .null, .null, .int 0, .int 0, .int 0, .int 0, .int 0, .int 0]) 0 (by decide) rfl rfl hin tyX6 tyX6_ok nmX6 1 (by decide) (by decide +kernel) rfl hin2 rfl (ty := .array .int) (by decide +kernel) rfl rfl (Nat.le_of_ble_eq_true rfl) rfl dX6_init_17 (fun H locs G => ?_)
  refine lv_aload_n hx hb dX6_init_20 rfl (lv_at hl 0 rfl) ?_
  refine lv_bipush (v := 8) hx hb dX6_init_21 (by decide) ?_
  refine gq_newa F G 0 rfl rfl (by decide +kernel) (N' := 8) (a0 := (8, .inl (fun _ => 0))) (fun _ => rfl) (by decide) rfl (by decide) (by show 2 + 1 ≤ _; decide) (by show 16 + 8 ≤ _; decide) dX6_init_23 (fun q3 H G => ?_)
  refine W.widen (k := 3) (n := 24) (by omega) (by omega) ?_
  refine gq_putF F G (ci := 6) (n := 11) (fs := [.ref q1, .ref q2, .null, .null, .null, .int 0, .int 0, .int 0, .int 0, .int 0, .int 0]) 0 (by decide) rfl rfl hin tyX6 tyX6_ok nmX6 2 (by decide) (by decide +kernel) rfl hin2 rfl (ty := .array .int) (by decide +kernel) rfl rfl (Nat.le_of_ble_eq_true rfl) rfl dX6_init_25 (fun H locs G => ?_)
  refine lv_aload_n hx hb dX6_init_28 rfl (lv_at hl 0 rfl) ?_
  refine lv_bipush (v := 8) hx hb dX6_init_29 (by decide) ?_
  refine gq_newa F G 0 rfl rfl (by decide +kernel) (N' := 8) (a0 := (8, .inl (fun _ => 0))) (fun _ => rfl) (by decide) rfl (by decide) (by show 3 + 1 ≤ _; decide) (by show 24 + 8 ≤ _; decide) dX6_init_31 (fun q4 H G => ?_)
  refine W.widen (k := 4) (n := 32) (by omega) (by omega) ?_
  refine gq_putF F G (ci := 6) (n := 11) (fs := [.ref q1, .ref q2, .ref q3, .null, .null, .int 0, .int 0, .int 0, .int 0, .int 0, .int 0]) 0 (by decide) rfl rfl hin tyX6 tyX6_ok nmX6 3 (by decide) (by decide +kernel) rfl hin2 rfl (ty := .array .int) (by decide +kernel) rfl rfl (Nat.le_of_ble_eq_true rfl) rfl dX6_init_33 (fun H locs G => ?_)
  refine lv_aload_n hx hb dX6_init_36 rfl (lv_at hl 0 rfl) ?_
  refine lv_bipush (v := 40) hx hb dX6_init_37 (by decide) ?_
  refine gq_newa F G 0 rfl rfl (by decide +kernel) (N' := 40) (a0 := (40, .inl (fun _ => 0))) (fun _ => rfl) (by decide) rfl (by decide) (by show 4 + 1 ≤ _; decide) (by show 32 + 40 ≤ _; decide) dX6_init_39 (fun q5 H G => ?_)
  refine W.widen (k := 5) (n := 72) (by omega) (by omega) ?_
  refine gq_putF F G (ci := 6) (n := 11) (fs := [.ref q1, .ref q2, .ref q3, .ref q4, .null, .int 0, .int 0, .int 0, .int 0, .int 0, .int 0]) 0 (by decide) rfl rfl hin tyX6 tyX6_ok nmX6 4 (by decide) (by decide +kernel) rfl hin2 rfl (ty := .array .int) (by decide +kernel) rfl rfl (Nat.le_of_ble_eq_true rfl) rfl dX6_init_41 (fun H locs G => ?_)
  refine lv_aload_n hx hb dX6_init_44 rfl (lv_at hl 0 rfl) ?_
  refine lv_bipush (v := 9) hx hb dX6_init_45 (by decide) ?_
  refine gq_put F G (ci := 6) (n := 11) (fs := [.ref q1, .ref q2, .ref q3, .ref q4, .ref q5, .int 0, .int 0, .int 0, .int 0, .int 0, .int 0]) 0 (by decide) rfl rfl hin tyX6 tyX6_ok nmX6 7 (by decide) (by decide +kernel) rfl (ty := .int) (by decide +kernel) rfl rfl (Nat.le_of_ble_eq_true rfl) rfl dX6_init_47 (fun H locs G => ?_)
  subst hAe
  exact gq_vret F G (Ef := eX6 cy) rfl (by
    intro i hi
    rcases (show i = 0 ∨ i = 1 ∨ i = 2 ∨ i = 3 ∨ i = 4 ∨ i = 5 by omega) with rfl | rfl | rfl | rfl | rfl | rfl <;> rfl) hr hlocks dX6_init_50
def eX7 (cy : Nat → ClassId) (r : Nat → Nat) : Nat → va_E := fun i => if i = 0 then .inr (7, [.ref (r 1), .int 0, .int 0, .int 0, .int 0, .int 0, .int 0, .int (-1)]) else .inl (cy 1, 600, .inl (fun _ => 0))
abbrev rmX7_init : Room := { frames := 1, cells := 1, slots := 600, locals := 12 }
set_option maxHeartbeats 4000000 in
set_option maxRecDepth 100000 in
theorem ci_X7 (l : Launch) (D : va_G) (cy : Nat → ClassId) (h0 sz : Nat) : Met l yX7_init wsX7_init rmX7_init (va_Pc [.ref h0] (gPi D cy h0 sz 7 [.null, .int 0, .int 0, .int 0, .int 0, .int 0, .int 0, .int 0] (fun _ => True))) (va_Qv (fun (r : Nat → Nat) => r 0 = h0) (fun r U => va_P D vwCl (gbl r 2 (eX7 cy r)) U.heap ∧ va_D (gAi h0 sz) (gbl r 2 (eX7 cy r))) (gAi h0 sz)) 1 600 (gAi h0 sz) := by
  refine Met.ofW (cc := cX7_init) (maxL := 1) (ret := none) (by decide) rfl ?_
  intro p e s m args below meth cod s₁ B hml hv
  obtain ⟨rfl, hsz, hP0, hK0, hZ0⟩ := hv
  have hx := B.exec
  have hb := B.bytes
  have hr := B.returns
  have hts := atoms_spec (ws := wsX7_init) B.pre
  have hown : s.vm.findClass RX7 = some m.cls := findClass_of_methodNamed B.named
  have hlocks := B.notSynchronized
  have hin2 : meth.name = "<init>" := (name_of_methodNamed B.named B.method).1
  subst hsz
  have G := gq_start (ci := 7) (fs := [.null, .int 0, .int 0, .int 0, .int 0, .int 0, .int 0, .int 0]) hP0
  have hl := lv_entry ([.ref h0]) (n := 1) (Nat.le_of_ble_eq_true rfl)
  rw [lg_entry_eq]
  generalize (lg_sl ([.ref h0]) ++ List.replicate (1 - (lg_sl ([.ref h0])).length) Slot.unset).toArray = ls at hl ⊢
  have hl : lv_has ls 1 [(0, .ref h0)] := hl
  have hin : ∀ w ∈ wsX70, w ∈ wsX7_init := by decide +kernel
  generalize hargs : ([.ref h0] : List Value).toArray = args at *
  generalize hAe : gAi h0 s.heap.size = A at G ⊢
  have F : gQc D cy A p s m args cod cX7_init 1 wsX7_init RX7 := ⟨hx, hb, hml, hown, hts, hK0, by rw [← hAe]; exact fun q h => Or.inr h⟩
  refine lv_aload_n hx hb dX7_init_0 rfl (lv_at hl 0 rfl) ?_
  refine W.objInit hx hb hown (hts (.methodLink RX7 3 objectInit) (by decide +kernel)) (hts (.instanceMethod objectInit) (by decide +kernel)) (hts _ (List.mem_of_getElem? (l := wsX7_init) (i := 3) rfl)) rfl (by rw [hml]; exact hl.1) rfl dX7_init_1 (Nat.le_of_ble_eq_true rfl) (Nat.le_of_ble_eq_true rfl) ?_
  refine W.eq (g2 := F0 m 4 ls []) rfl ?_
  refine lv_aload_n hx hb dX7_init_4 rfl (lv_at hl 0 rfl) ?_
  refine lv_sipush (v := 600) hx hb dX7_init_5 (by decide) ?_
  refine gq_newa F G 1 rfl rfl (by decide +kernel) (N' := 600) (a0 := (600, .inl (fun _ => 0))) (fun _ => rfl) (by decide) rfl (by decide) (by show 0 + 1 ≤ _; decide) (by show 0 + 600 ≤ _; decide) dX7_init_8 (fun q1 H G => ?_)
  refine W.widen (k := 1) (n := 600) (by omega) (by omega) ?_
  refine gq_putF F G (ci := 7) (n := 8) (fs := [.null, .int 0, .int 0, .int 0, .int 0, .int 0, .int 0, .int 0]) 0 (by decide) rfl rfl hin tyX7 tyX7_ok nmX7 0 (by decide) (by decide +kernel) rfl hin2 rfl (ty := .array .byte) (by decide +kernel) rfl rfl (Nat.le_of_ble_eq_true rfl) rfl dX7_init_10 (fun H locs G => ?_)
  refine lv_aload_n hx hb dX7_init_13 rfl (lv_at hl 0 rfl) ?_
  refine lv_iconst (v := (-1)) hx hb dX7_init_14 (by decide) ?_
  refine gq_put F G (ci := 7) (n := 8) (fs := [.ref q1, .int 0, .int 0, .int 0, .int 0, .int 0, .int 0, .int 0]) 0 (by decide) rfl rfl hin tyX7 tyX7_ok nmX7 7 (by decide) (by decide +kernel) rfl (ty := .int) (by decide +kernel) rfl rfl (Nat.le_of_ble_eq_true rfl) rfl dX7_init_15 (fun H locs G => ?_)
  subst hAe
  exact gq_vret F G (Ef := eX7 cy) rfl (by
    intro i hi
    rcases (show i = 0 ∨ i = 1 by omega) with rfl | rfl <;> rfl) hr hlocks dX7_init_18
def eX8 (cy : Nat → ClassId) (r : Nat → Nat) : Nat → va_E := fun i => if i = 0 then .inr (8, [.ref (r 1), .int 0, .int 0, .int 0, .int 0]) else .inl (cy 0, 190, .inl (fun _ => 0))
abbrev rmX8_init : Room := { frames := 1, cells := 1, slots := 190, locals := 12 }
set_option maxHeartbeats 4000000 in
set_option maxRecDepth 100000 in
theorem ci_X8 (l : Launch) (D : va_G) (cy : Nat → ClassId) (h0 sz : Nat) : Met l yX8_init wsX8_init rmX8_init (va_Pc [.ref h0] (gPi D cy h0 sz 8 [.null, .int 0, .int 0, .int 0, .int 0] (fun _ => True))) (va_Qv (fun (r : Nat → Nat) => r 0 = h0) (fun r U => va_P D vwCl (gbl r 2 (eX8 cy r)) U.heap ∧ va_D (gAi h0 sz) (gbl r 2 (eX8 cy r))) (gAi h0 sz)) 1 190 (gAi h0 sz) := by
  refine Met.ofW (cc := cX8_init) (maxL := 1) (ret := none) (by decide) rfl ?_
  intro p e s m args below meth cod s₁ B hml hv
  obtain ⟨rfl, hsz, hP0, hK0, hZ0⟩ := hv
  have hx := B.exec
  have hb := B.bytes
  have hr := B.returns
  have hts := atoms_spec (ws := wsX8_init) B.pre
  have hown : s.vm.findClass RX8 = some m.cls := findClass_of_methodNamed B.named
  have hlocks := B.notSynchronized
  have hin2 : meth.name = "<init>" := (name_of_methodNamed B.named B.method).1
  subst hsz
  have G := gq_start (ci := 8) (fs := [.null, .int 0, .int 0, .int 0, .int 0]) hP0
  have hl := lv_entry ([.ref h0]) (n := 1) (Nat.le_of_ble_eq_true rfl)
  rw [lg_entry_eq]
  generalize (lg_sl ([.ref h0]) ++ List.replicate (1 - (lg_sl ([.ref h0])).length) Slot.unset).toArray = ls at hl ⊢
  have hl : lv_has ls 1 [(0, .ref h0)] := hl
  have hin : ∀ w ∈ wsX80, w ∈ wsX8_init := by decide +kernel
  generalize hargs : ([.ref h0] : List Value).toArray = args at *
  generalize hAe : gAi h0 s.heap.size = A at G ⊢
  have F : gQc D cy A p s m args cod cX8_init 1 wsX8_init RX8 := ⟨hx, hb, hml, hown, hts, hK0, by rw [← hAe]; exact fun q h => Or.inr h⟩
  refine lv_aload_n hx hb dX8_init_0 rfl (lv_at hl 0 rfl) ?_
  refine W.objInit hx hb hown (hts (.methodLink RX8 3 objectInit) (by decide +kernel)) (hts (.instanceMethod objectInit) (by decide +kernel)) (hts _ (List.mem_of_getElem? (l := wsX8_init) (i := 3) rfl)) rfl (by rw [hml]; exact hl.1) rfl dX8_init_1 (Nat.le_of_ble_eq_true rfl) (Nat.le_of_ble_eq_true rfl) ?_
  refine W.eq (g2 := F0 m 4 ls []) rfl ?_
  refine lv_aload_n hx hb dX8_init_4 rfl (lv_at hl 0 rfl) ?_
  refine lv_sipush (v := 190) hx hb dX8_init_5 (by decide) ?_
  refine gq_newa F G 0 rfl rfl (by decide +kernel) (N' := 190) (a0 := (190, .inl (fun _ => 0))) (fun _ => rfl) (by decide) rfl (by decide) (by show 0 + 1 ≤ _; decide) (by show 0 + 190 ≤ _; decide) dX8_init_8 (fun q1 H G => ?_)
  refine W.widen (k := 1) (n := 190) (by omega) (by omega) ?_
  refine gq_putF F G (ci := 8) (n := 5) (fs := [.null, .int 0, .int 0, .int 0, .int 0]) 0 (by decide) rfl rfl hin tyX8 tyX8_ok nmX8 0 (by decide) (by decide +kernel) rfl hin2 rfl (ty := .array .int) (by decide +kernel) rfl rfl (Nat.le_of_ble_eq_true rfl) rfl dX8_init_10 (fun H locs G => ?_)
  subst hAe
  exact gq_vret F G (Ef := eX8 cy) rfl (by
    intro i hi
    rcases (show i = 0 ∨ i = 1 by omega) with rfl | rfl <;> rfl) hr hlocks dX8_init_13
def eX2 (cy : Nat → ClassId) (r : Nat → Nat) : Nat → va_E := fun i => if i = 0 then .inr (2, [.ref (r 1), .int 0]) else eX6 cy (fun k => r (1 + k)) (i - 1)
abbrev rmX2_init : Room := { frames := 2, cells := 6, slots := 83, locals := 32 }
set_option maxHeartbeats 4000000 in
set_option maxRecDepth 100000 in
theorem ci_X2 (l : Launch) (D : va_G) (cy : Nat → ClassId) (h0 sz : Nat) : Met l yX2_init wsX2_init rmX2_init (va_Pc [.ref h0] (gPi D cy h0 sz 2 [.null, .int 0] (va_Nw (.methodLinkNest RX2 9 yX6_init "LeaningMarket")))) (va_Qv (fun (r : Nat → Nat) => r 0 = h0) (fun r U => va_P D vwCl (gbl r 7 (eX2 cy r)) U.heap ∧ va_D (gAi h0 sz) (gbl r 7 (eX2 cy r))) (gAi h0 sz)) 6 83 (gAi h0 sz) := by
  refine Met.ofW (cc := cX2_init) (maxL := 1) (ret := none) (by decide) rfl ?_
  intro p e s m args below meth cod s₁ B hml hv
  obtain ⟨rfl, hsz, hP0, hK0, hZ0⟩ := hv
  have hx := B.exec
  have hb := B.bytes
  have hr := B.returns
  have hts := atoms_spec (ws := wsX2_init) B.pre
  have hown : s.vm.findClass RX2 = some m.cls := findClass_of_methodNamed B.named
  have hlocks := B.notSynchronized
  have hin2 : meth.name = "<init>" := (name_of_methodNamed B.named B.method).1
  subst hsz
  have G := gq_start (ci := 2) (fs := [.null, .int 0]) hP0
  have hl := lv_entry ([.ref h0]) (n := 1) (Nat.le_of_ble_eq_true rfl)
  rw [lg_entry_eq]
  generalize (lg_sl ([.ref h0]) ++ List.replicate (1 - (lg_sl ([.ref h0])).length) Slot.unset).toArray = ls at hl ⊢
  have hl : lv_has ls 1 [(0, .ref h0)] := hl
  have hin : ∀ w ∈ wsX20, w ∈ wsX2_init := by decide +kernel
  generalize hargs : ([.ref h0] : List Value).toArray = args at *
  generalize hAe : gAi h0 s.heap.size = A at G ⊢
  have F : gQc D cy A p s m args cod cX2_init 1 wsX2_init RX2 := ⟨hx, hb, hml, hown, hts, hK0, by rw [← hAe]; exact fun q h => Or.inr h⟩
  refine lv_aload_n hx hb dX2_init_0 rfl (lv_at hl 0 rfl) ?_
  refine W.objInit hx hb hown (hts (.methodLink RX2 1 objectInit) (by decide +kernel)) (hts (.instanceMethod objectInit) (by decide +kernel)) (hts _ (List.mem_of_getElem? (l := wsX2_init) (i := 3) rfl)) rfl (by rw [hml]; exact hl.1) rfl dX2_init_1 (Nat.le_of_ble_eq_true rfl) (Nat.le_of_ble_eq_true rfl) ?_
  refine W.eq (g2 := F0 m 4 ls []) rfl ?_
  refine lv_aload_n hx hb dX2_init_4 rfl (lv_at hl 0 rfl) ?_
  have hin6_1 : ∀ w ∈ wsX60, w ∈ wsX2_init := by decide +kernel
  refine gq_new F G (ci := 6) (n := 11) (fs := [.null, .null, .null, .null, .null, .int 0, .int 0, .int 0, .int 0, .int 0, .int 0]) rfl hin6_1 tyX6 tyX6_ok (by decide +kernel) (by decide +kernel) (by decide +kernel) (fun j hj => by rcases (show j = 0 ∨ j = 1 ∨ j = 2 ∨ j = 3 ∨ j = 4 ∨ j = 5 ∨ j = 6 ∨ j = 7 ∨ j = 8 ∨ j = 9 ∨ j = 10 by omega) with rfl | rfl | rfl | rfl | rfl | rfl | rfl | rfl | rfl | rfl | rfl <;> rfl) (by show 0 + 1 ≤ _; decide) (by show 0 + 11 ≤ _; decide) dX2_init_5 (fun q1 H G => ?_)
  refine W.widen (k := 1) (n := 11) (by omega) (by omega) ?_
  refine lv_dup hx hb dX2_init_8 rfl ?_
  refine gq_call F G (N := 1) (n := 6) (Ef := (eX6 cy)) rfl (va_runIN (As := []) (rest := [.ref q1, .ref h0]) ⟨hx, hb, hml, hown, hts⟩ (ci_X6 l D cy q1 H.size) ⟨va_cnB 0 hts gX2_init_X6_init_n9 rfl rfl rfl hZ0 (hts (.initialized RX6) (by decide +kernel)) (by decide +kernel) ⟨by decide, by decide⟩, rfl, hts (.instanceMethod yX6_init) (by decide +kernel)⟩ (gq_pre F G (N := 1) rfl rfl (fun _ _ _ _ h => h) (fun _ _ => trivial)) rfl rfl hl.1 rfl (lv_room (Nat.le_of_ble_eq_true rfl)) dX2_init_9 ⟨by show 1 + 5 ≤ _; decide, by show 11 + 72 ≤ _; decide⟩) (fun r_q1 H locs er G => ?_)
  subst er
  refine W.widen (k := 6) (n := 83) (by omega) (by omega) ?_
  refine gq_putF F G (ci := 2) (n := 2) (fs := [.null, .int 0]) 0 (by decide) rfl rfl hin tyX2 tyX2_ok nmX2 0 (by decide) (by decide +kernel) rfl hin2 rfl (ty := .object "LeaningMarket$State") (by decide +kernel) rfl rfl (Nat.le_of_ble_eq_true rfl) rfl dX2_init_12 (fun H locs G => ?_)
  subst hAe
  exact gq_vret F G (Ef := eX2 cy) rfl (by
    intro i hi
    rcases (show i = 0 ∨ i = 1 ∨ i = 2 ∨ i = 3 ∨ i = 4 ∨ i = 5 ∨ i = 6 by omega) with rfl | rfl | rfl | rfl | rfl | rfl | rfl <;> rfl) hr hlocks dX2_init_15
