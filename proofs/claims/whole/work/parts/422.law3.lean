set_option maxRecDepth 16384
/-! a law's own five cells: its marks, operands, values, stack -/
def lwE (cy : Nat → ClassId) (r : Nat → Nat) (f g : Nat → Int32) (n : Int32) : Nat → va_E := fun i => if i = 0 then .inr (3, [.ref (r 1), .ref (r 2), .ref (r 3), .ref (r 4), .int n]) else if i = 1 then .inl (cy 0, 150, .inl f) else if i = 2 then .inl (cy 0, 150, .inl g) else if i = 3 then .inl (cy 0, 7, .inl (fun _ => 0)) else .inl (cy 0, 24, .inl (fun _ => 0))
def lwF (r : Nat → Nat) (n : Int32) : List Value := [.ref (r 1), .ref (r 2), .ref (r 3), .ref (r 4), .int n]
set_option maxHeartbeats 4000000 in
set_option maxRecDepth 100000 in
theorem cl_add (l : Launch) (D : va_G) (cy : Nat → ClassId) (r : Nat → Nat) (sz : Nat) (f g : Nat → Int32) (n a1 a2 : Int32) (hn : 0 ≤ n.toInt ∧ n.toInt < 150) : Met l yX3_add wsX3_add rmX3_add (va_Pc [.ref (r 0), .int a1, .int a2] (gPw D cy r 5 (lwE cy r f g n) sz (fun _ => True))) (va_Qv (fun (_ : Unit) => True) (fun _ U => va_P D vwCl (gbl r 5 (lwE cy r (upd f n.toNatClampNeg a1) (upd g n.toNatClampNeg a2) (n + 1))) U.heap) (gAw r 5 sz)) 0 0 (gAw r 5 sz) := by
  refine Met.ofW (cc := cX3_add) (maxL := 3) (ret := none) (by decide) rfl ?_
  intro p e s m args below meth cod s₁ B hml hv
  obtain ⟨rfl, hsz, hP0, hK0, hD0, -⟩ := hv
  have hx := B.exec
  have hb := B.bytes
  have hr := B.returns
  have hts := atoms_spec (ws := wsX3_add) B.pre
  have hown : s.vm.findClass RX3 = some m.cls := findClass_of_methodNamed B.named
  have hlocks := B.notSynchronized
  subst hsz
  have hl := lv_entry ([.ref (r 0), .int a1, .int a2]) (n := 3) (Nat.le_of_ble_eq_true rfl)
  rw [lg_entry_eq]
  generalize (lg_sl ([.ref (r 0), .int a1, .int a2]) ++ List.replicate (3 - (lg_sl ([.ref (r 0), .int a1, .int a2])).length) Slot.unset).toArray = ls at hl ⊢
  have hl : lv_has ls 3 [(0, .ref (r 0)), (1, .int a1), (2, .int a2)] := hl
  have hin : ∀ w ∈ wsX30, w ∈ wsX3_add := by decide +kernel
  generalize hargs : ([.ref (r 0), .int a1, .int a2] : List Value).toArray = args at *
  have G : gQg D (gAw r 5 s.heap.size) s.heap r 5 (lwE cy r f g n) s.heap [] := ⟨hP0, gbl_dd hD0 (fun i hi => Or.inl ⟨i, hi, rfl⟩), va_S.rf⟩
  generalize hAe : gAw r 5 s.heap.size = A at G ⊢
  have F : gQc D cy A p s m args cod cX3_add 3 wsX3_add RX3 := ⟨hx, hb, hml, hown, hts, hK0, by rw [← hAe]; exact fun q h => Or.inr h⟩
  have q3 : ¬ n < 0 := by rw [Int32.lt_iff_toInt_lt]; show ¬ n.toInt < 0; omega
  have q4 : ¬ (150 : Int32) ≤ n := by rw [Int32.le_iff_toInt_le]; show ¬ (150 : Int) ≤ n.toInt; omega
  refine lv_aload_n hx hb dX3_add_0 rfl (lv_at hl 0 rfl) ?_
  refine gq_get F G (ci := 3) (fs := lwF r n) 0 (by decide) rfl rfl hin 4 (by decide) (by decide +kernel) rfl rfl dX3_add_1 ?_
  refine lv_if_lt (tgt := 47) hx hb dX3_add_4 (by decide) (fun q => absurd q q3) (fun _ => ?_)
  refine lv_aload_n hx hb dX3_add_7 rfl (lv_at hl 0 rfl) ?_
  refine gq_get F G (ci := 3) (fs := lwF r n) 0 (by decide) rfl rfl hin 4 (by decide) (by decide +kernel) rfl rfl dX3_add_8 ?_
  refine lv_sipush (v := 150) hx hb dX3_add_11 (by decide) ?_
  refine lv_icmp_ge (tgt := 47) hx hb dX3_add_14 (by decide) (fun q => absurd q q4) (fun _ => ?_)
  refine lv_aload_n hx hb dX3_add_17 rfl (lv_at hl 0 rfl) ?_
  refine gq_get F G (ci := 3) (fs := lwF r n) 0 (by decide) rfl rfl hin 0 (by decide) (by decide +kernel) rfl rfl dX3_add_18 ?_
  refine lv_aload_n hx hb dX3_add_21 rfl (lv_at hl 0 rfl) ?_
  refine gq_get F G (ci := 3) (fs := lwF r n) 0 (by decide) rfl rfl hin 4 (by decide) (by decide +kernel) rfl rfl dX3_add_22 ?_
  refine lv_iload_n hx hb dX3_add_25 rfl (lv_at hl 1 rfl) ?_
  refine gq_is F G (n := 150) (f := f) 1 (by decide) rfl hn rfl dX3_add_26 (fun H locs G => ?_)
  refine lv_aload_n hx hb dX3_add_27 rfl (lv_at hl 0 rfl) ?_
  refine gq_get F G (ci := 3) (fs := lwF r n) 0 (by decide) rfl rfl hin 1 (by decide) (by decide +kernel) rfl rfl dX3_add_28 ?_
  refine lv_aload_n hx hb dX3_add_31 rfl (lv_at hl 0 rfl) ?_
  refine gq_get F G (ci := 3) (fs := lwF r n) 0 (by decide) rfl rfl hin 4 (by decide) (by decide +kernel) rfl rfl dX3_add_32 ?_
  refine lv_iload_n hx hb dX3_add_35 rfl (lv_at hl 2 rfl) ?_
  refine gq_is F G (n := 150) (f := g) 2 (by decide) rfl hn rfl dX3_add_36 (fun H locs G => ?_)
  refine lv_aload_n hx hb dX3_add_37 rfl (lv_at hl 0 rfl) ?_
  refine lv_dup hx hb dX3_add_38 rfl ?_
  refine gq_get F G (ci := 3) (fs := lwF r n) 0 (by decide) rfl rfl hin 4 (by decide) (by decide +kernel) rfl rfl dX3_add_39 ?_
  refine lv_iconst (v := 1) hx hb dX3_add_42 (by decide) ?_
  refine lv_iadd hx hb dX3_add_43 ?_
  refine gq_put F G (ci := 3) (n := 5) (fs := lwF r n) 0 (by decide) rfl rfl hin tyX3 tyX3_ok nmX3 4 (by decide) (by decide +kernel) rfl (ty := .int) (by decide +kernel) rfl rfl (Nat.le_of_ble_eq_true rfl) rfl dX3_add_44 (fun H locs G => ?_)
  subst hAe
  exact gq_vretw F G (by
    intro i hi
    rcases (show i = 0 ∨ i = 1 ∨ i = 2 ∨ i = 3 ∨ i = 4 by omega) with rfl | rfl | rfl | rfl | rfl <;> rfl) hr hlocks dX3_add_47
def usF : Nat → Int32 := upd (upd (upd (fun _ => 0) 0 1) 1 0) 2 5
def usG : Nat → Int32 := upd (upd (upd (fun _ => 0) 0 1) 1 4) 2 0
theorem us_n : (0 ≤ (0 : Int32).toInt ∧ (0 : Int32).toInt < 150) ∧ (0 ≤ ((0 : Int32) + 1).toInt ∧ ((0 : Int32) + 1).toInt < 150) ∧ (0 ≤ ((0 : Int32) + 1 + 1).toInt ∧ ((0 : Int32) + 1 + 1).toInt < 150) := by decide
set_option maxHeartbeats 4000000 in
set_option maxRecDepth 100000 in
theorem cl_usual (l : Launch) (D : va_G) (cy : Nat → ClassId) (r : Nat → Nat) (sz : Nat) : Met l yX3_becomeUsual wsX3_becomeUsual rmX3_becomeUsual (va_Pc [.ref (r 0)] (gPw D cy r 5 (lwE cy r (fun _ => 0) (fun _ => 0) 0) sz (fun _ => True))) (va_Qv (fun (_ : Unit) => True) (fun _ U => va_P D vwCl (gbl r 5 (lwE cy r usF usG 3)) U.heap) (gAw r 5 sz)) 0 0 (gAw r 5 sz) := by
  refine Met.ofW (cc := cX3_becomeUsual) (maxL := 1) (ret := none) (by decide) rfl ?_
  intro p e s m args below meth cod s₁ B hml hv
  obtain ⟨rfl, hsz, hP0, hK0, hD0, -⟩ := hv
  have hx := B.exec
  have hb := B.bytes
  have hr := B.returns
  have hts := atoms_spec (ws := wsX3_becomeUsual) B.pre
  have hown : s.vm.findClass RX3 = some m.cls := findClass_of_methodNamed B.named
  have hlocks := B.notSynchronized
  subst hsz
  have hl := lv_entry ([.ref (r 0)]) (n := 1) (Nat.le_of_ble_eq_true rfl)
  rw [lg_entry_eq]
  generalize (lg_sl ([.ref (r 0)]) ++ List.replicate (1 - (lg_sl ([.ref (r 0)])).length) Slot.unset).toArray = ls at hl ⊢
  have hl : lv_has ls 1 [(0, .ref (r 0))] := hl
  have hin : ∀ w ∈ wsX30, w ∈ wsX3_becomeUsual := by decide +kernel
  generalize hargs : ([.ref (r 0)] : List Value).toArray = args at *
  have G : gQg D (gAw r 5 s.heap.size) s.heap r 5 (lwE cy r (fun _ => 0) (fun _ => 0) 0) s.heap [] := ⟨hP0, gbl_dd hD0 (fun i hi => Or.inl ⟨i, hi, rfl⟩), va_S.rf⟩
  generalize hAe : gAw r 5 s.heap.size = A at G ⊢
  have F : gQc D cy A p s m args cod cX3_becomeUsual 1 wsX3_becomeUsual RX3 := ⟨hx, hb, hml, hown, hts, hK0, by rw [← hAe]; exact fun q h => Or.inr h⟩
  refine lv_aload_n hx hb dX3_becomeUsual_0 rfl (lv_at hl 0 rfl) ?_
  refine lv_iconst (v := 0) hx hb dX3_becomeUsual_1 (by decide) ?_
  refine gq_put F G (ci := 3) (n := 5) (fs := lwF r 0) 0 (by decide) rfl rfl hin tyX3 tyX3_ok nmX3 4 (by decide) (by decide +kernel) rfl (ty := .int) (by decide +kernel) rfl rfl (Nat.le_of_ble_eq_true rfl) rfl dX3_becomeUsual_2 (fun H locs G => ?_)
  have eE : gbl r 5 (va_up (lwE cy r (fun _ => 0) (fun _ => 0) 0) 0 (.inr (3, (lwF r 0).set 4 (.int 0)))) = gbl r 5 (lwE cy r (fun _ => 0) (fun _ => 0) 0) := by
    unfold gbl
    apply List.map_congr_left
    intro i hi
    have := List.mem_range.mp hi
    rcases (show i = 0 ∨ i = 1 ∨ i = 2 ∨ i = 3 ∨ i = 4 by omega) with rfl | rfl | rfl | rfl | rfl <;> rfl
  have G : gQg D A s.heap r 5 (lwE cy r (fun _ => 0) (fun _ => 0) 0) H locs := by
    unfold gQg at G ⊢
    rw [eE] at G
    exact G

  refine lv_aload_n hx hb dX3_becomeUsual_5 rfl (lv_at hl 0 rfl) ?_
  refine lv_iconst (v := 1) hx hb dX3_becomeUsual_6 (by decide) ?_
  refine lv_iconst (v := 1) hx hb dX3_becomeUsual_7 (by decide) ?_
  refine gq_callw F G (va_runV (As := [.int 1, .int 1]) (rest := []) ⟨hx, hb, hml, hown, hts⟩ (cl_add l D cy r H.size ((fun _ => 0)) ((fun _ => 0)) (0) 1 1 us_n.1) (cwV 2 hts gX3_becomeUsual_X3_add rfl rfl rfl (by decide +kernel) ⟨by decide, by decide⟩) (gq_recw F G (t := 0) (ci := 3) (fs := lwF r (0)) (by decide) rfl rfl rfl (fun _ _ _ _ h => h) (fun _ _ _ => trivial)) rfl rfl hl.1 rfl (lv_room (Nat.le_of_ble_eq_true rfl)) dX3_becomeUsual_8 ⟨Nat.zero_le _, Nat.zero_le _⟩) (fun H locs G => ?_)
  refine lv_aload_n hx hb dX3_becomeUsual_11 rfl (lv_at hl 0 rfl) ?_
  refine lv_iconst (v := 0) hx hb dX3_becomeUsual_12 (by decide) ?_
  refine lv_iconst (v := 4) hx hb dX3_becomeUsual_13 (by decide) ?_
  refine gq_callw F G (va_runV (As := [.int 0, .int 4]) (rest := []) ⟨hx, hb, hml, hown, hts⟩ (cl_add l D cy r H.size (upd ((fun _ => 0)) (0 : Int32).toNatClampNeg 1) (upd ((fun _ => 0)) (0 : Int32).toNatClampNeg 1) (0 + 1) 0 4 us_n.2.1) (cwV 2 hts gX3_becomeUsual_X3_add rfl rfl rfl (by decide +kernel) ⟨by decide, by decide⟩) (gq_recw F G (t := 0) (ci := 3) (fs := lwF r (0 + 1)) (by decide) rfl rfl rfl (fun _ _ _ _ h => h) (fun _ _ _ => trivial)) rfl rfl hl.1 rfl (lv_room (Nat.le_of_ble_eq_true rfl)) dX3_becomeUsual_14 ⟨Nat.zero_le _, Nat.zero_le _⟩) (fun H locs G => ?_)
  refine lv_aload_n hx hb dX3_becomeUsual_17 rfl (lv_at hl 0 rfl) ?_
  refine lv_iconst (v := 5) hx hb dX3_becomeUsual_18 (by decide) ?_
  refine lv_iconst (v := 0) hx hb dX3_becomeUsual_19 (by decide) ?_
  refine gq_callw F G (va_runV (As := [.int 5, .int 0]) (rest := []) ⟨hx, hb, hml, hown, hts⟩ (cl_add l D cy r H.size (upd (upd ((fun _ => 0)) (0 : Int32).toNatClampNeg 1) (0 + 1 : Int32).toNatClampNeg 0) (upd (upd ((fun _ => 0)) (0 : Int32).toNatClampNeg 1) (0 + 1 : Int32).toNatClampNeg 4) (0 + 1 + 1) 5 0 us_n.2.2) (cwV 2 hts gX3_becomeUsual_X3_add rfl rfl rfl (by decide +kernel) ⟨by decide, by decide⟩) (gq_recw F G (t := 0) (ci := 3) (fs := lwF r (0 + 1 + 1)) (by decide) rfl rfl rfl (fun _ _ _ _ h => h) (fun _ _ _ => trivial)) rfl rfl hl.1 rfl (lv_room (Nat.le_of_ble_eq_true rfl)) dX3_becomeUsual_20 ⟨Nat.zero_le _, Nat.zero_le _⟩) (fun H locs G => ?_)
  subst hAe
  exact gq_vretw F G (by
    intro i hi
    rcases (show i = 0 ∨ i = 1 ∨ i = 2 ∨ i = 3 ∨ i = 4 by omega) with rfl | rfl | rfl | rfl | rfl <;> rfl) hr hlocks dX3_becomeUsual_23
theorem gPw_e {D : va_G} {cy : Nat → ClassId} {ad : Nat → Nat} {N sz : Nat} {E E2 : Nat → va_E} {Z : State → Prop} (h : ∀ i, i < N → E i = E2 i) : gPw D cy ad N E sz Z = gPw D cy ad N E2 sz Z := by
  have ee : gbl ad N E = gbl ad N E2 := by
    unfold gbl
    apply List.map_congr_left
    intro i hi
    rw [h i (List.mem_range.mp hi)]
  unfold gPw
  rw [ee]
abbrev rmX3_init : Room := { frames := 2, cells := 4, slots := 331, locals := 42 }
set_option maxHeartbeats 4000000 in
set_option maxRecDepth 100000 in
theorem ci_X3 (l : Launch) (D : va_G) (cy : Nat → ClassId) (h0 sz : Nat) : Met l yX3_init wsX3_init rmX3_init (va_Pc [.ref h0] (gPi D cy h0 sz 3 [.null, .null, .null, .null, .int 0] (fun _ => True))) (va_Qv (fun (r : Nat → Nat) => r 0 = h0) (fun r U => va_P D vwCl (gbl r 5 ((fun r => lwE cy r usF usG 3) r)) U.heap ∧ va_D (gAi h0 sz) (gbl r 5 ((fun r => lwE cy r usF usG 3) r))) (gAi h0 sz)) 4 331 (gAi h0 sz) := by
  refine Met.ofW (cc := cX3_init) (maxL := 1) (ret := none) (by decide) rfl ?_
  intro p e s m args below meth cod s₁ B hml hv
  obtain ⟨rfl, hsz, hP0, hK0, hZ0⟩ := hv
  have hx := B.exec
  have hb := B.bytes
  have hr := B.returns
  have hts := atoms_spec (ws := wsX3_init) B.pre
  have hown : s.vm.findClass RX3 = some m.cls := findClass_of_methodNamed B.named
  have hlocks := B.notSynchronized
  have hin2 : meth.name = "<init>" := (name_of_methodNamed B.named B.method).1
  subst hsz
  have G := gq_start (ci := 3) (fs := [.null, .null, .null, .null, .int 0]) hP0
  have hl := lv_entry ([.ref h0]) (n := 1) (Nat.le_of_ble_eq_true rfl)
  rw [lg_entry_eq]
  generalize (lg_sl ([.ref h0]) ++ List.replicate (1 - (lg_sl ([.ref h0])).length) Slot.unset).toArray = ls at hl ⊢
  have hl : lv_has ls 1 [(0, .ref h0)] := hl
  have hin : ∀ w ∈ wsX30, w ∈ wsX3_init := by decide +kernel
  generalize hargs : ([.ref h0] : List Value).toArray = args at *
  generalize hAe : gAi h0 s.heap.size = A at G ⊢
  have F : gQc D cy A p s m args cod cX3_init 1 wsX3_init RX3 := ⟨hx, hb, hml, hown, hts, hK0, by rw [← hAe]; exact fun q h => Or.inr h⟩
  refine lv_aload_n hx hb dX3_init_0 rfl (lv_at hl 0 rfl) ?_
  refine W.objInit hx hb hown (hts (.methodLink RX3 3 objectInit) (by decide +kernel)) (hts (.instanceMethod objectInit) (by decide +kernel)) (hts _ (List.mem_of_getElem? (l := wsX3_init) (i := 3) rfl)) rfl (by rw [hml]; exact hl.1) rfl dX3_init_1 (Nat.le_of_ble_eq_true rfl) (Nat.le_of_ble_eq_true rfl) ?_
  refine W.eq (g2 := F0 m 4 ls []) rfl ?_
  refine lv_aload_n hx hb dX3_init_4 rfl (lv_at hl 0 rfl) ?_
  refine lv_sipush (v := 150) hx hb dX3_init_5 (by decide) ?_
  refine gq_newa F G 0 rfl rfl (by decide +kernel) (N' := 150) (a0 := (150, .inl (fun _ => 0))) (fun _ => rfl) (by decide) rfl (by decide) (by show 0 + 1 ≤ _; decide) (by show 0 + 150 ≤ _; decide) dX3_init_8 (fun q1 H G => ?_)
  refine W.widen (k := 1) (n := 150) (by omega) (by omega) ?_
  refine gq_putF F G (ci := 3) (n := 5) (fs := [.null, .null, .null, .null, .int 0]) 0 (by decide) rfl rfl hin tyX3 tyX3_ok nmX3 0 (by decide) (by decide +kernel) rfl hin2 rfl (ty := .array .int) (by decide +kernel) rfl rfl (Nat.le_of_ble_eq_true rfl) rfl dX3_init_10 (fun H locs G => ?_)
  refine lv_aload_n hx hb dX3_init_13 rfl (lv_at hl 0 rfl) ?_
  refine lv_sipush (v := 150) hx hb dX3_init_14 (by decide) ?_
  refine gq_newa F G 0 rfl rfl (by decide +kernel) (N' := 150) (a0 := (150, .inl (fun _ => 0))) (fun _ => rfl) (by decide) rfl (by decide) (by show 1 + 1 ≤ _; decide) (by show 150 + 150 ≤ _; decide) dX3_init_17 (fun q2 H G => ?_)
  refine W.widen (k := 2) (n := 300) (by omega) (by omega) ?_
  refine gq_putF F G (ci := 3) (n := 5) (fs := [.ref q1, .null, .null, .null, .int 0]) 0 (by decide) rfl rfl hin tyX3 tyX3_ok nmX3 1 (by decide) (by decide +kernel) rfl hin2 rfl (ty := .array .int) (by decide +kernel) rfl rfl (Nat.le_of_ble_eq_true rfl) rfl dX3_init_19 (fun H locs G => ?_)
  refine lv_aload_n hx hb dX3_init_22 rfl (lv_at hl 0 rfl) ?_
  refine lv_bipush (v := 7) hx hb dX3_init_23 (by decide) ?_
  refine gq_newa F G 0 rfl rfl (by decide +kernel) (N' := 7) (a0 := (7, .inl (fun _ => 0))) (fun _ => rfl) (by decide) rfl (by decide) (by show 2 + 1 ≤ _; decide) (by show 300 + 7 ≤ _; decide) dX3_init_25 (fun q3 H G => ?_)
  refine W.widen (k := 3) (n := 307) (by omega) (by omega) ?_
  refine gq_putF F G (ci := 3) (n := 5) (fs := [.ref q1, .ref q2, .null, .null, .int 0]) 0 (by decide) rfl rfl hin tyX3 tyX3_ok nmX3 2 (by decide) (by decide +kernel) rfl hin2 rfl (ty := .array .int) (by decide +kernel) rfl rfl (Nat.le_of_ble_eq_true rfl) rfl dX3_init_27 (fun H locs G => ?_)
  refine lv_aload_n hx hb dX3_init_30 rfl (lv_at hl 0 rfl) ?_
  refine lv_bipush (v := 24) hx hb dX3_init_31 (by decide) ?_
  refine gq_newa F G 0 rfl rfl (by decide +kernel) (N' := 24) (a0 := (24, .inl (fun _ => 0))) (fun _ => rfl) (by decide) rfl (by decide) (by show 3 + 1 ≤ _; decide) (by show 307 + 24 ≤ _; decide) dX3_init_33 (fun q4 H G => ?_)
  refine W.widen (k := 4) (n := 331) (by omega) (by omega) ?_
  refine gq_putF F G (ci := 3) (n := 5) (fs := [.ref q1, .ref q2, .ref q3, .null, .int 0]) 0 (by decide) rfl rfl hin tyX3 tyX3_ok nmX3 3 (by decide) (by decide +kernel) rfl hin2 rfl (ty := .array .int) (by decide +kernel) rfl rfl (Nat.le_of_ble_eq_true rfl) rfl dX3_init_35 (fun H locs G => ?_)
  refine lv_aload_n hx hb dX3_init_38 rfl (lv_at hl 0 rfl) ?_
  refine gq_callw F G (E2 := lwE cy (va_up (va_up (va_up (va_up (fun _ => h0) 1 q1) 2 q2) 3 q3) 4 q4) usF usG 3) (va_runV (As := []) (rest := []) ⟨hx, hb, hml, hown, hts⟩ (cl_usual l D cy (va_up (va_up (va_up (va_up (fun _ => h0) 1 q1) 2 q2) 3 q3) 4 q4) H.size) (cwV 0 hts gX3_init_X3_becomeUsual rfl rfl rfl (by decide +kernel) ⟨by decide, by decide⟩) (by
    have hv := gq_recw F G (t := 0) (ci := 3) (fs := [.ref q1, .ref q2, .ref q3, .ref q4, .int 0]) (As := []) (a := h0) (by decide) rfl rfl rfl (Z := fun _ => True) (fun _ _ _ _ h => h) (fun _ _ _ => trivial)
    rw [gPw_e (E2 := lwE cy (va_up (va_up (va_up (va_up (fun _ => h0) 1 q1) 2 q2) 3 q3) 4 q4) (fun _ => 0) (fun _ => 0) 0) (by
      intro i hi
      rcases (show i = 0 ∨ i = 1 ∨ i = 2 ∨ i = 3 ∨ i = 4 by omega) with rfl | rfl | rfl | rfl | rfl <;> rfl)] at hv
    exact hv) rfl rfl hl.1 rfl (lv_room (Nat.le_of_ble_eq_true rfl)) dX3_init_39 ⟨by show 4 + 0 ≤ _; decide, by show 331 + 0 ≤ _; decide⟩) (fun H locs G => ?_)
  subst hAe
  exact gq_vret F G (Ef := fun r => lwE cy r usF usG 3) rfl (fun _ _ => rfl) hr hlocks dX3_init_42
