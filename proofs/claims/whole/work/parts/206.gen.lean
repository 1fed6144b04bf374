-- X9_market X9_law X9_work X9_book X9_fault X9_undo X9_told X9_demandPresent X9_demandThing X9_thing X9_cry X9_stands
def m_X9_market (n : Nat) (t : Nat) (a1 : Int32) (c : gm) : Option ((Int32 × gm) ⊕ (Nat × gm)) :=
  gj (fun (v1 : Int32) => gc (gck t = 9) (gbx (m_X9_demand t v1 c) (fun (c7 : gm) => gok (gb (m_X7_open 1 a1 c7) (fun (c12 : gm) => gb2 (m_X6_readFrom n 9 1 c12) (fun (r16 : Int32) (c17 : gm) => (if r16 = 0 then some (((c17.1 1 6) - 10), c17) else gb (m_X6_copyFrom 3 9 c17) (fun (c23 : gm) => gc (gck (c23.2.2 0) = 3) (gb (m_X3_becomeUsual (c23.2.2 0) c23) (fun (c28 : gm) => gc (gck (c28.2.2 2) = 0) (gv (gm_r c28 (c28.2.2 2) (upd (c28.1 (c28.2.2 2)) 5 0)) (fun (c31 : gm) => gb (m_X5_forget 17 c31) (fun (c36 : gm) => gv (gm_r c36 t (upd (c36.1 t) 12 0)) (fun (c37 : gm) => some ((c37.1 3 5), c37))))))))))))))) (fun K2 => gj (fun (_ : Unit) => K2 0) (fun K38 => (if a1 < 0 then K38 () else gc (gck t = 9) ((if (c.1 1 1) < a1 then K38 () else K2 1)))))
abbrev rmX9_market : Room := { frames := 8, cells := 0, slots := 0, locals := 173 }
abbrev rxX9_market : Room := { frames := 8, cells := 1, slots := 6, locals := 173 }
set_option maxHeartbeats 4000000 in
set_option maxRecDepth 100000 in
theorem c_X9_market (l : Launch) (sa : gSa) (D : va_G) (ad : Nat → Nat) (cy : Nat → ClassId) (N sz : Nat) (hN : 55 ≤ N) (hI : gI ad N) (c d0 : gm) {n : Nat} {t : Nat} {a1 : Int32} {rZ : Int32} {cZ : gm} (h : m_X9_market n t a1 c = some (.inl (rZ, cZ))) : Met l yX9_market wsX9_market rmX9_market (va_Pc [.ref (ad t), .int a1] (gP sa D ad cy N sz c d0)) (va_Qi (fun (z : Int32) (_ : Unit) => z = rZ) (fun _ U => gE D ad cy N cZ d0 U) (gA ad N sz)) 0 0 (gA ad N sz) := by
  refine Met.ofW (cc := cX9_market) (maxL := 2) (ret := (some .int)) (by decide) rfl ?_
  intro p e s m args below meth cod s₁ B hml hv
  obtain ⟨rfl, hsz, hP, hK, hZ⟩ := hv
  have hx := B.exec
  have hb := B.bytes
  have hr := B.returns
  have hts := atoms_spec (ws := wsX9_market) B.pre
  have hown : s.vm.findClass RX9 = some m.cls := findClass_of_methodNamed B.named
  have hlocks := B.notSynchronized
  subst hsz
  have hl := lv_entry ([.ref (ad t), .int a1]) (n := 2) (Nat.le_of_ble_eq_true rfl)
  rw [lg_entry_eq]
  generalize (lg_sl ([.ref (ad t), .int a1]) ++ List.replicate (2 - (lg_sl ([.ref (ad t), .int a1])).length) Slot.unset).toArray = ls at hl ⊢
  have hl : lv_has ls 2 [(0, .ref (ad t)), (1, .int a1)] := hl
  have in0 : ∀ w ∈ wsX00, w ∈ wsX9_market := by decide +kernel
  have in6 : ∀ w ∈ wsX60, w ∈ wsX9_market := by decide +kernel
  have in7 : ∀ w ∈ wsX70, w ∈ wsX9_market := by decide +kernel
  have in9 : ∀ w ∈ wsX90, w ∈ wsX9_market := by decide +kernel
  generalize hargs : ([.ref (ad t), .int a1] : List Value).toArray = args at *
  generalize hAe : gA ad N s.heap.size = A
  have F : gF sa D ad cy N A p s m args cod cX9_market 2 wsX9_market RX9 := ⟨hx, hb, hml, hown, hts, hK, hI, by rw [← hAe]; exact gA_ad, by rw [← hAe]; exact gA_sz, by rw [← hAe]; exact hZ⟩
  have G : gW D ad cy N A s.heap c d0 s.heap [] := ⟨hP, va_S.rf⟩
  generalize hQ : MQ below (va_Qi (fun (z : Int32) (_ : Unit) => z = rZ) (fun _ U => gE D ad cy N cZ d0 U) A) args s 0 0 A = Q
  suffices hgen : ∀ (H : Heap) (locs : List Loc), gW D ad cy N A s.heap c d0 H locs → W p l e rmX9_market s m args below meth cod H locs 0 0 Q (F0 m 0 ls []) from hgen _ _ G
  clear G
  intro H locs G
  unfold m_X9_market at h
  refine lv_aload_n hx hb dX9_market_0 rfl (lv_at hl 0 rfl) ?_
  refine lv_iload_n hx hb dX9_market_1 rfl (lv_at hl 1 rfl) ?_
  obtain ⟨K2, eK2, h⟩ := gj_s h
  have JK2 : ∀ (v1 : Int32) (H : Heap) (locs : List Loc) (ls : Array Slot), K2 v1 = some (.inl (rZ, cZ)) → gW D ad cy N A s.heap c d0 H locs → lv_has ls 2 [(0, .ref (ad t)), (1, .int a1)] → W p l e rmX9_market s m args below meth cod H locs 0 0 Q (F0 m 21 ls [.int v1, .ref (ad t)]) := by
    intro v1 H locs ls h G hl
    rw [eK2] at h
    obtain ⟨hk3, h⟩ := gc_s h
    have ht4 : t < N := Nat.lt_of_lt_of_le (gck_lt9 hk3) hN
    obtain ⟨c7, hc5, h⟩ := gbx_l h
    refine gx_callv F G (va_runV (As := [.int v1]) (rest := []) (gx_fix F) (c_X9_demand l sa D ad cy N H.size hN hI c d0 hc5) (cwV 1 hts gX9_market_X9_demand rfl rfl rfl (by decide +kernel) ⟨by decide, by decide⟩) (gx_rec F G ht4 (gwe_9 hk3) rfl) rfl rfl hl.1 rfl (lv_room (Nat.le_of_ble_eq_true rfl)) dX9_market_21 ⟨Nat.zero_le _, Nat.zero_le _⟩) (fun H locs G => ?_)
    replace h := gok_s h
    refine lv_aload_n hx hb dX9_market_24 rfl (lv_at hl 0 rfl) ?_
    refine fg_9_text F G hk3 ht4 in9 (by decide +kernel) dX9_market_25 ?_
    have hk8 : gck 1 = 7 := rfl
    have ht9 : 1 < N := Nat.lt_of_lt_of_le (by decide) hN
    refine lv_iload_n hx hb dX9_market_28 rfl (lv_at hl 1 rfl) ?_
    obtain ⟨c12, hc10, h⟩ := gb_s h
    refine gx_callv F G (va_runV (As := [.int a1]) (rest := []) (gx_fix F) (c_X7_open l sa D ad cy N H.size hN hI c7 d0 hc10) (cwV 1 hts gX9_market_X7_open rfl rfl rfl (by decide +kernel) ⟨by decide, by decide⟩) (gx_rec F G ht9 (gwe_7 hk8) rfl) rfl rfl hl.1 rfl (lv_room (Nat.le_of_ble_eq_true rfl)) dX9_market_29 ⟨Nat.zero_le _, Nat.zero_le _⟩) (fun H locs G => ?_)
    refine lv_aload_n hx hb dX9_market_32 rfl (lv_at hl 0 rfl) ?_
    refine fg_9_draft F G hk3 ht4 in9 (by decide +kernel) dX9_market_33 ?_
    have hk13 : gck 9 = 6 := rfl
    have ht14 : 9 < N := Nat.lt_of_lt_of_le (by decide) hN
    refine lv_aload_n hx hb dX9_market_36 rfl (lv_at hl 0 rfl) ?_
    refine fg_9_text F G hk3 ht4 in9 (by decide +kernel) dX9_market_37 ?_
    obtain ⟨r16, c17, hc15, h⟩ := gb2_s h
    refine gx_calli F G (va_runV (As := [.ref (ad 1)]) (rest := []) (gx_fix F) (c_X6_readFrom l sa D ad cy N H.size hN hI c12 d0 hc15) (cwV 1 hts gX9_market_X6_readFrom rfl rfl rfl (by decide +kernel) ⟨by decide, by decide⟩) (gx_rec F G ht14 (gwe_6 hk13) rfl) rfl rfl hl.1 rfl (lv_room (Nat.le_of_ble_eq_true rfl)) dX9_market_40 ⟨Nat.zero_le _, Nat.zero_le _⟩) (fun H locs G => ?_)
    refine lv_if_ne (tgt := 57) hx hb dX9_market_43 (by decide) (fun q18 => ?_) (fun q18 => ?_)
    · replace h := gf_s q18 h
      refine lv_aload_n hx hb dX9_market_57 rfl (lv_at hl 0 rfl) ?_
      refine fg_9_now F G hk3 ht4 in9 (by decide +kernel) dX9_market_58 ?_
      have hk19 : gck 3 = 6 := rfl
      have ht20 : 3 < N := Nat.lt_of_lt_of_le (by decide) hN
      refine lv_aload_n hx hb dX9_market_61 rfl (lv_at hl 0 rfl) ?_
      refine fg_9_draft F G hk3 ht4 in9 (by decide +kernel) dX9_market_62 ?_
      obtain ⟨c23, hc21, h⟩ := gb_s h
      refine gx_callv F G (va_runV (As := [.ref (ad 9)]) (rest := []) (gx_fix F) (c_X6_copyFrom l sa D ad cy N H.size hN hI c17 d0 hc21) (cwV 1 hts gX9_market_X6_copyFrom rfl rfl rfl (by decide +kernel) ⟨by decide, by decide⟩) (gx_rec F G ht20 (gwe_6 hk19) rfl) rfl rfl hl.1 rfl (lv_room (Nat.le_of_ble_eq_true rfl)) dX9_market_65 ⟨Nat.zero_le _, Nat.zero_le _⟩) (fun H locs G => ?_)
      refine lv_aload_n hx hb dX9_market_68 rfl (lv_at hl 0 rfl) ?_
      refine fg_9_rule F G hk3 ht4 in9 (by decide +kernel) dX9_market_69 ?_
      obtain ⟨hk24, h⟩ := gc_s h
      have ht25 : (c23.2.2 0) < N := Nat.lt_of_lt_of_le (gck_lt3 hk24) hN
      obtain ⟨c28, hc26, h⟩ := gb_s h
      refine gx_callv F G (va_runV (As := []) (rest := []) (gx_fix F) (c_X3_becomeUsual l sa D ad cy N H.size hN hI c23 d0 hc26) (cwV 0 hts gX9_market_X3_becomeUsual rfl rfl rfl (by decide +kernel) ⟨by decide, by decide⟩) (gx_rec F G ht25 (gwe_3 hk24) rfl) rfl rfl hl.1 rfl (lv_room (Nat.le_of_ble_eq_true rfl)) dX9_market_72 ⟨Nat.zero_le _, Nat.zero_le _⟩) (fun H locs G => ?_)
      refine lv_aload_n hx hb dX9_market_75 rfl (lv_at hl 0 rfl) ?_
      refine fg_9_lines F G hk3 ht4 in9 (by decide +kernel) dX9_market_76 ?_
      refine lv_iconst (v := 0) hx hb dX9_market_79 (by decide) ?_
      obtain ⟨hk29, h⟩ := gc_s h
      have ht30 : (c28.2.2 2) < N := Nat.lt_of_lt_of_le (gck_lt0 hk29) hN
      refine fp_0_size F G hk29 ht30 in0 (by decide +kernel) dX9_market_80 (fun H locs G => ?_)
      obtain ⟨c31, ec31⟩ : ∃ z, z = gm_r c28 (c28.2.2 2) (upd (c28.1 (c28.2.2 2)) 5 0) := ⟨_, rfl⟩
      rw [← ec31] at G
      replace h := gv_s h c31 ec31
      refine lv_aload_n hx hb dX9_market_83 rfl (lv_at hl 0 rfl) ?_
      refine fg_9_past F G hk3 ht4 in9 (by decide +kernel) dX9_market_84 ?_
      have hk32 : gck 17 = 5 := rfl
      have ht33 : 17 < N := Nat.lt_of_lt_of_le (by decide) hN
      obtain ⟨c36, hc34, h⟩ := gb_s h
      refine gx_callv F G (va_runV (As := []) (rest := []) (gx_fix F) (c_X5_forget l sa D ad cy N H.size hN hI c31 d0 hc34) (cwV 0 hts gX9_market_X5_forget rfl rfl rfl (by decide +kernel) ⟨by decide, by decide⟩) (gx_rec F G ht33 (gwe_5 hk32) rfl) rfl rfl hl.1 rfl (lv_room (Nat.le_of_ble_eq_true rfl)) dX9_market_87 ⟨Nat.zero_le _, Nat.zero_le _⟩) (fun H locs G => ?_)
      refine lv_aload_n hx hb dX9_market_90 rfl (lv_at hl 0 rfl) ?_
      refine lv_iconst (v := 0) hx hb dX9_market_91 (by decide) ?_
      refine fp_9_refusedSteps F G hk3 ht4 in9 (by decide +kernel) dX9_market_92 (fun H locs G => ?_)
      obtain ⟨c37, ec37⟩ : ∃ z, z = gm_r c36 t (upd (c36.1 t) 12 0) := ⟨_, rfl⟩
      rw [← ec37] at G
      replace h := gv_s h c37 ec37
      refine lv_aload_n hx hb dX9_market_95 rfl (lv_at hl 0 rfl) ?_
      refine fg_9_now F G hk3 ht4 in9 (by decide +kernel) dX9_market_96 ?_
      refine fg_6_things F G hk19 ht20 in6 (by decide +kernel) dX9_market_99 ?_
      cases h
      rw [← hQ]
      exact gx_iret F G hr hlocks dX9_market_102
    · replace h := gt_s q18 h
      refine lv_aload_n hx hb dX9_market_46 rfl (lv_at hl 0 rfl) ?_
      refine fg_9_text F G hk3 ht4 in9 (by decide +kernel) dX9_market_47 ?_
      refine fg_7_faultKind F G hk8 ht9 in7 (by decide +kernel) dX9_market_50 ?_
      refine lv_bipush (v := 10) hx hb dX9_market_53 (by decide) ?_
      refine lv_isub hx hb dX9_market_55 ?_
      cases h
      rw [← hQ]
      exact gx_iret F G hr hlocks dX9_market_56
  obtain ⟨K38, eK38, h⟩ := gj_s h
  have JK38 : ∀ (H : Heap) (locs : List Loc) (ls : Array Slot), K38 () = some (.inl (rZ, cZ)) → gW D ad cy N A s.heap c d0 H locs → lv_has ls 2 [(0, .ref (ad t)), (1, .int a1)] → W p l e rmX9_market s m args below meth cod H locs 0 0 Q (F0 m 20 ls [.ref (ad t)]) := by
    intro  H locs ls h G hl
    rw [eK38] at h
    refine lv_iconst (v := 0) hx hb dX9_market_20 (by decide) ?_
    exact JK2 _ _ _ _ h G hl
  refine lv_if_lt (tgt := 20) hx hb dX9_market_2 (by decide) (fun q39 => ?_) (fun q39 => ?_)
  · replace h := gt_s q39 h
    exact JK38  _ _ _ h G hl
  · replace h := gf_s q39 h
    refine lv_iload_n hx hb dX9_market_5 rfl (lv_at hl 1 rfl) ?_
    refine lv_aload_n hx hb dX9_market_6 rfl (lv_at hl 0 rfl) ?_
    obtain ⟨hk40, h⟩ := gc_s h
    have ht41 : t < N := Nat.lt_of_lt_of_le (gck_lt9 hk40) hN
    refine fg_9_text F G hk40 ht41 in9 (by decide +kernel) dX9_market_7 ?_
    have hk42 : gck 1 = 7 := rfl
    have ht43 : 1 < N := Nat.lt_of_lt_of_le (by decide) hN
    refine fg_7_held F G hk42 ht43 in7 (by decide +kernel) dX9_market_10 ?_
    refine lv_icmp_gt (tgt := 20) hx hb dX9_market_13 (by decide) (fun q44 => ?_) (fun q44 => ?_)
    · replace h := gt_s q44 h
      exact JK38  _ _ _ h G hl
    · replace h := gf_s q44 h
      refine lv_iconst (v := 1) hx hb dX9_market_16 (by decide) ?_
      refine lv_goto (tgt := 21) hx hb dX9_market_17 (by decide) ?_
      exact JK2 _ _ _ _ h G hl
set_option maxHeartbeats 4000000 in
set_option maxRecDepth 100000 in
theorem cx_X9_market (l : Launch) (hlt : l.stackTraces = false) (sa : gSa) (D : va_G) (ad : Nat → Nat) (cy : Nat → ClassId) (N sz : Nat) (hN : 55 ≤ N) (hI : gI ad N) (c d0 : gm) {n : Nat} {t : Nat} {a1 : Int32} {kZ : Nat} {cZ : gm} (h : m_X9_market n t a1 c = some (.inr (kZ, cZ))) : vx_Met l yX9_market wsX9_market rxX9_market (va_Pc [.ref (ad t), .int a1] (gP sa D ad cy N sz c d0)) (va_Qi (fun (_ : Int32) (_ : Unit) => False) (fun _ _ => True) (gA ad N sz)) (vx_X (fun (_ : Unit) => True) (fun E _ U => E = gxn kZ ∧ gE D ad cy N cZ d0 U) (gA ad N sz)) 1 6 (gA ad N sz) := by
  refine vx_ofW (cc := cX9_market) (maxL := 2) (ret := (some .int)) (by decide) rfl ?_
  intro p e s m args below meth cod s₁ B hml htab hv
  obtain ⟨rfl, hsz, hP, hK, hZ⟩ := hv
  have hx := B.exec
  have hb := B.bytes
  have hr := B.returns
  have hts := atoms_spec (ws := wsX9_market) B.pre
  have hown : s.vm.findClass RX9 = some m.cls := findClass_of_methodNamed B.named
  have hlocks := B.notSynchronized
  subst hsz
  have hl := lv_entry ([.ref (ad t), .int a1]) (n := 2) (Nat.le_of_ble_eq_true rfl)
  rw [lg_entry_eq]
  generalize (lg_sl ([.ref (ad t), .int a1]) ++ List.replicate (2 - (lg_sl ([.ref (ad t), .int a1])).length) Slot.unset).toArray = ls at hl ⊢
  have hl : lv_has ls 2 [(0, .ref (ad t)), (1, .int a1)] := hl
  have in7 : ∀ w ∈ wsX70, w ∈ wsX9_market := by decide +kernel
  have in9 : ∀ w ∈ wsX90, w ∈ wsX9_market := by decide +kernel
  generalize hargs : ([.ref (ad t), .int a1] : List Value).toArray = args at *
  generalize hAe : gA ad N s.heap.size = A
  have F : gF sa D ad cy N A p s m args cod cX9_market 2 wsX9_market RX9 := ⟨hx, hb, hml, hown, hts, hK, hI, by rw [← hAe]; exact gA_ad, by rw [← hAe]; exact gA_sz, by rw [← hAe]; exact hZ⟩
  have G : gW D ad cy N A s.heap c d0 s.heap [] := ⟨hP, va_S.rf⟩
  generalize hQ : vx_MQ below (va_Qi (fun (_ : Int32) (_ : Unit) => False) (fun _ _ => True) A) (vx_X (fun (_ : Unit) => True) (fun E _ U => E = gxn kZ ∧ gE D ad cy N cZ d0 U) A) args s 1 6 A = Q
  suffices hgen : ∀ (H : Heap) (locs : List Loc), gW D ad cy N A s.heap c d0 H locs → W p l e rxX9_market s m args below meth cod H locs 0 0 Q (F0 m 0 ls []) from hgen _ _ G
  clear G
  intro H locs G
  unfold m_X9_market at h
  refine lv_aload_n hx hb dX9_market_0 rfl (lv_at hl 0 rfl) ?_
  refine lv_iload_n hx hb dX9_market_1 rfl (lv_at hl 1 rfl) ?_
  obtain ⟨K2, eK2, h⟩ := gj_s h
  have JK2 : ∀ (v1 : Int32) (H : Heap) (locs : List Loc) (ls : Array Slot), K2 v1 = some (.inr (kZ, cZ)) → gW D ad cy N A s.heap c d0 H locs → lv_has ls 2 [(0, .ref (ad t)), (1, .int a1)] → W p l e rxX9_market s m args below meth cod H locs 0 0 Q (F0 m 21 ls [.int v1, .ref (ad t)]) := by
    intro v1 H locs ls h G hl
    rw [eK2] at h
    obtain ⟨hk3, h⟩ := gc_s h
    have ht4 : t < N := Nat.lt_of_lt_of_le (gck_lt9 hk3) hN
    rcases gbx_x h with hc5 | ⟨c7, hc5, h⟩
    · exact hQ ▸ gx_xv F G htab hlocks (vx_runV (As := [.int v1]) (rest := []) (gx_fix F) (cx_X9_demand l hlt sa D ad cy N H.size hN hI c d0 hc5) (cwV 1 hts gX9_market_X9_demand rfl rfl rfl (by decide +kernel) ⟨by decide, by decide⟩) (gx_rec F G ht4 (gwe_9 hk3) rfl) rfl rfl hl.1 rfl (lv_room (Nat.le_of_ble_eq_true rfl)) dX9_market_21 ⟨by decide, by decide⟩)
    · skip
      refine gx_callv F G (va_runV (As := [.int v1]) (rest := []) (gx_fix F) (c_X9_demand l sa D ad cy N H.size hN hI c d0 hc5) (cwV 1 hts gX9_market_X9_demand rfl rfl rfl (by decide +kernel) ⟨by decide, by decide⟩) (gx_rec F G ht4 (gwe_9 hk3) rfl) rfl rfl hl.1 rfl (lv_room (Nat.le_of_ble_eq_true rfl)) dX9_market_21 ⟨Nat.zero_le _, Nat.zero_le _⟩) (fun H locs G => ?_)
      exact (gok_no h).elim
  obtain ⟨K8, eK8, h⟩ := gj_s h
  have JK8 : ∀ (H : Heap) (locs : List Loc) (ls : Array Slot), K8 () = some (.inr (kZ, cZ)) → gW D ad cy N A s.heap c d0 H locs → lv_has ls 2 [(0, .ref (ad t)), (1, .int a1)] → W p l e rxX9_market s m args below meth cod H locs 0 0 Q (F0 m 20 ls [.ref (ad t)]) := by
    intro  H locs ls h G hl
    rw [eK8] at h
    refine lv_iconst (v := 0) hx hb dX9_market_20 (by decide) ?_
    exact JK2 _ _ _ _ h G hl
  refine lv_if_lt (tgt := 20) hx hb dX9_market_2 (by decide) (fun q9 => ?_) (fun q9 => ?_)
  · replace h := gt_s q9 h
    exact JK8  _ _ _ h G hl
  · replace h := gf_s q9 h
    refine lv_iload_n hx hb dX9_market_5 rfl (lv_at hl 1 rfl) ?_
    refine lv_aload_n hx hb dX9_market_6 rfl (lv_at hl 0 rfl) ?_
    obtain ⟨hk10, h⟩ := gc_s h
    have ht11 : t < N := Nat.lt_of_lt_of_le (gck_lt9 hk10) hN
    refine fg_9_text F G hk10 ht11 in9 (by decide +kernel) dX9_market_7 ?_
    have hk12 : gck 1 = 7 := rfl
    have ht13 : 1 < N := Nat.lt_of_lt_of_le (by decide) hN
    refine fg_7_held F G hk12 ht13 in7 (by decide +kernel) dX9_market_10 ?_
    refine lv_icmp_gt (tgt := 20) hx hb dX9_market_13 (by decide) (fun q14 => ?_) (fun q14 => ?_)
    · replace h := gt_s q14 h
      exact JK8  _ _ _ h G hl
    · replace h := gf_s q14 h
      refine lv_iconst (v := 1) hx hb dX9_market_16 (by decide) ?_
      refine lv_goto (tgt := 21) hx hb dX9_market_17 (by decide) ?_
      exact JK2 _ _ _ _ h G hl
def m_X9_law (n : Nat) (t : Nat) (a1 : Int32) (c : gm) : Option ((Int32 × gm) ⊕ (Nat × gm)) :=
  gj (fun (v1 : Int32) => gc (gck t = 9) (gbx (m_X9_demand t v1 c) (fun (c7 : gm) => gok (gb (m_X7_open 1 a1 c7) (fun (c12 : gm) => gc (gck (c12.2.2 1) = 3) (gb2 (m_X3_readFrom n (c12.2.2 1) 1 c12) (fun (r16 : Int32) (c17 : gm) => (if r16 = 0 then some (((c17.1 1 6) - 10), c17) else gv (gm_k c17 1 (c17.2.2 0)) (fun (c19 : gm) => gv (gm_k c19 0 (c17.2.2 1)) (fun (c20 : gm) => some (1, c20))))))))))) (fun K2 => gj (fun (_ : Unit) => K2 0) (fun K21 => (if a1 < 0 then K21 () else gc (gck t = 9) ((if (c.1 1 1) < a1 then K21 () else (if 150 < a1 then K21 () else K2 1))))))
abbrev rmX9_law : Room := { frames := 57, cells := 0, slots := 0, locals := 1345 }
abbrev rxX9_law : Room := { frames := 57, cells := 1, slots := 6, locals := 1345 }
set_option maxHeartbeats 4000000 in
set_option maxRecDepth 100000 in
theorem c_X9_law (l : Launch) (sa : gSa) (D : va_G) (ad : Nat → Nat) (cy : Nat → ClassId) (N sz : Nat) (hN : 55 ≤ N) (hI : gI ad N) (c d0 : gm) {n : Nat} {t : Nat} {a1 : Int32} {rZ : Int32} {cZ : gm} (h : m_X9_law n t a1 c = some (.inl (rZ, cZ))) : Met l yX9_law wsX9_law rmX9_law (va_Pc [.ref (ad t), .int a1] (gP sa D ad cy N sz c d0)) (va_Qi (fun (z : Int32) (_ : Unit) => z = rZ) (fun _ U => gE D ad cy N cZ d0 U) (gA ad N sz)) 0 0 (gA ad N sz) := by
  refine Met.ofW (cc := cX9_law) (maxL := 3) (ret := (some .int)) (by decide) rfl ?_
  intro p e s m args below meth cod s₁ B hml hv
  obtain ⟨rfl, hsz, hP, hK, hZ⟩ := hv
  have hx := B.exec
  have hb := B.bytes
  have hr := B.returns
  have hts := atoms_spec (ws := wsX9_law) B.pre
  have hown : s.vm.findClass RX9 = some m.cls := findClass_of_methodNamed B.named
  have hlocks := B.notSynchronized
  subst hsz
  have hl := lv_entry ([.ref (ad t), .int a1]) (n := 3) (Nat.le_of_ble_eq_true rfl)
  rw [lg_entry_eq]
  generalize (lg_sl ([.ref (ad t), .int a1]) ++ List.replicate (3 - (lg_sl ([.ref (ad t), .int a1])).length) Slot.unset).toArray = ls at hl ⊢
  have hl : lv_has ls 3 [(0, .ref (ad t)), (1, .int a1)] := hl
  have in7 : ∀ w ∈ wsX70, w ∈ wsX9_law := by decide +kernel
  have in9 : ∀ w ∈ wsX90, w ∈ wsX9_law := by decide +kernel
  generalize hargs : ([.ref (ad t), .int a1] : List Value).toArray = args at *
  generalize hAe : gA ad N s.heap.size = A
  have F : gF sa D ad cy N A p s m args cod cX9_law 3 wsX9_law RX9 := ⟨hx, hb, hml, hown, hts, hK, hI, by rw [← hAe]; exact gA_ad, by rw [← hAe]; exact gA_sz, by rw [← hAe]; exact hZ⟩
  have G : gW D ad cy N A s.heap c d0 s.heap [] := ⟨hP, va_S.rf⟩
  generalize hQ : MQ below (va_Qi (fun (z : Int32) (_ : Unit) => z = rZ) (fun _ U => gE D ad cy N cZ d0 U) A) args s 0 0 A = Q
  suffices hgen : ∀ (H : Heap) (locs : List Loc), gW D ad cy N A s.heap c d0 H locs → W p l e rmX9_law s m args below meth cod H locs 0 0 Q (F0 m 0 ls []) from hgen _ _ G
  clear G
  intro H locs G
  unfold m_X9_law at h
  refine lv_aload_n hx hb dX9_law_0 rfl (lv_at hl 0 rfl) ?_
  refine lv_iload_n hx hb dX9_law_1 rfl (lv_at hl 1 rfl) ?_
  obtain ⟨K2, eK2, h⟩ := gj_s h
  have JK2 : ∀ (v1 : Int32) (H : Heap) (locs : List Loc) (ls : Array Slot), K2 v1 = some (.inl (rZ, cZ)) → gW D ad cy N A s.heap c d0 H locs → lv_has ls 3 [(0, .ref (ad t)), (1, .int a1)] → W p l e rmX9_law s m args below meth cod H locs 0 0 Q (F0 m 28 ls [.int v1, .ref (ad t)]) := by
    intro v1 H locs ls h G hl
    rw [eK2] at h
    obtain ⟨hk3, h⟩ := gc_s h
    have ht4 : t < N := Nat.lt_of_lt_of_le (gck_lt9 hk3) hN
    obtain ⟨c7, hc5, h⟩ := gbx_l h
    refine gx_callv F G (va_runV (As := [.int v1]) (rest := []) (gx_fix F) (c_X9_demand l sa D ad cy N H.size hN hI c d0 hc5) (cwV 1 hts gX9_law_X9_demand rfl rfl rfl (by decide +kernel) ⟨by decide, by decide⟩) (gx_rec F G ht4 (gwe_9 hk3) rfl) rfl rfl hl.1 rfl (lv_room (Nat.le_of_ble_eq_true rfl)) dX9_law_28 ⟨Nat.zero_le _, Nat.zero_le _⟩) (fun H locs G => ?_)
    replace h := gok_s h
    refine lv_aload_n hx hb dX9_law_31 rfl (lv_at hl 0 rfl) ?_
    refine fg_9_text F G hk3 ht4 in9 (by decide +kernel) dX9_law_32 ?_
    have hk8 : gck 1 = 7 := rfl
    have ht9 : 1 < N := Nat.lt_of_lt_of_le (by decide) hN
    refine lv_iload_n hx hb dX9_law_35 rfl (lv_at hl 1 rfl) ?_
    obtain ⟨c12, hc10, h⟩ := gb_s h
    refine gx_callv F G (va_runV (As := [.int a1]) (rest := []) (gx_fix F) (c_X7_open l sa D ad cy N H.size hN hI c7 d0 hc10) (cwV 1 hts gX9_law_X7_open rfl rfl rfl (by decide +kernel) ⟨by decide, by decide⟩) (gx_rec F G ht9 (gwe_7 hk8) rfl) rfl rfl hl.1 rfl (lv_room (Nat.le_of_ble_eq_true rfl)) dX9_law_36 ⟨Nat.zero_le _, Nat.zero_le _⟩) (fun H locs G => ?_)
    refine lv_aload_n hx hb dX9_law_39 rfl (lv_at hl 0 rfl) ?_
    refine fg_9_spareRule F G hk3 ht4 in9 (by decide +kernel) dX9_law_40 ?_
    refine lv_aload_n hx hb dX9_law_43 rfl (lv_at hl 0 rfl) ?_
    refine fg_9_text F G hk3 ht4 in9 (by decide +kernel) dX9_law_44 ?_
    obtain ⟨hk13, h⟩ := gc_s h
    have ht14 : (c12.2.2 1) < N := Nat.lt_of_lt_of_le (gck_lt3 hk13) hN
    obtain ⟨r16, c17, hc15, h⟩ := gb2_s h
    refine gx_calli F G (va_runV (As := [.ref (ad 1)]) (rest := []) (gx_fix F) (c_X3_readFrom l sa D ad cy N H.size hN hI c12 d0 hc15) (cwV 1 hts gX9_law_X3_readFrom rfl rfl rfl (by decide +kernel) ⟨by decide, by decide⟩) (gx_rec F G ht14 (gwe_3 hk13) rfl) rfl rfl hl.1 rfl (lv_room (Nat.le_of_ble_eq_true rfl)) dX9_law_47 ⟨Nat.zero_le _, Nat.zero_le _⟩) (fun H locs G => ?_)
    refine lv_if_ne (tgt := 64) hx hb dX9_law_50 (by decide) (fun q18 => ?_) (fun q18 => ?_)
    · replace h := gf_s q18 h
      refine lv_aload_n hx hb dX9_law_64 rfl (lv_at hl 0 rfl) ?_
      refine fg_9_spareRule F G hk3 ht4 in9 (by decide +kernel) dX9_law_65 ?_
      refine lv_astore_n (lv' := [(2, .ref (ad (c17.2.2 1))), (0, .ref (ad t)), (1, .int a1)]) hx hb dX9_law_68 rfl hl (by decide) rfl (fun ls hl => ?_)
      refine lv_aload_n hx hb dX9_law_69 rfl (lv_at hl 1 rfl) ?_
      refine lv_aload_n hx hb dX9_law_70 rfl (lv_at hl 1 rfl) ?_
      refine fg_9_rule F G hk3 ht4 in9 (by decide +kernel) dX9_law_71 ?_
      refine fp_9_spareRule F G hk3 ht4 in9 (by decide +kernel) dX9_law_74 (fun H locs G => ?_)
      obtain ⟨c19, ec19⟩ : ∃ z, z = gm_k c17 1 (c17.2.2 0) := ⟨_, rfl⟩
      rw [← ec19] at G
      replace h := gv_s h c19 ec19
      refine lv_aload_n hx hb dX9_law_77 rfl (lv_at hl 1 rfl) ?_
      refine lv_aload_n hx hb dX9_law_78 rfl (lv_at hl 0 rfl) ?_
      refine fp_9_rule F G hk3 ht4 in9 (by decide +kernel) dX9_law_79 (fun H locs G => ?_)
      obtain ⟨c20, ec20⟩ : ∃ z, z = gm_k c19 0 (c17.2.2 1) := ⟨_, rfl⟩
      rw [← ec20] at G
      replace h := gv_s h c20 ec20
      refine lv_iconst (v := 1) hx hb dX9_law_82 (by decide) ?_
      cases h
      rw [← hQ]
      exact gx_iret F G hr hlocks dX9_law_83
    · replace h := gt_s q18 h
      refine lv_aload_n hx hb dX9_law_53 rfl (lv_at hl 0 rfl) ?_
      refine fg_9_text F G hk3 ht4 in9 (by decide +kernel) dX9_law_54 ?_
      refine fg_7_faultKind F G hk8 ht9 in7 (by decide +kernel) dX9_law_57 ?_
      refine lv_bipush (v := 10) hx hb dX9_law_60 (by decide) ?_
      refine lv_isub hx hb dX9_law_62 ?_
      cases h
      rw [← hQ]
      exact gx_iret F G hr hlocks dX9_law_63
  obtain ⟨K21, eK21, h⟩ := gj_s h
  have JK21 : ∀ (H : Heap) (locs : List Loc) (ls : Array Slot), K21 () = some (.inl (rZ, cZ)) → gW D ad cy N A s.heap c d0 H locs → lv_has ls 3 [(0, .ref (ad t)), (1, .int a1)] → W p l e rmX9_law s m args below meth cod H locs 0 0 Q (F0 m 27 ls [.ref (ad t)]) := by
    intro  H locs ls h G hl
    rw [eK21] at h
    refine lv_iconst (v := 0) hx hb dX9_law_27 (by decide) ?_
    exact JK2 _ _ _ _ h G hl
  refine lv_if_lt (tgt := 27) hx hb dX9_law_2 (by decide) (fun q22 => ?_) (fun q22 => ?_)
  · replace h := gt_s q22 h
    exact JK21  _ _ _ h G hl
  · replace h := gf_s q22 h
    refine lv_iload_n hx hb dX9_law_5 rfl (lv_at hl 1 rfl) ?_
    refine lv_aload_n hx hb dX9_law_6 rfl (lv_at hl 0 rfl) ?_
    obtain ⟨hk23, h⟩ := gc_s h
    have ht24 : t < N := Nat.lt_of_lt_of_le (gck_lt9 hk23) hN
    refine fg_9_text F G hk23 ht24 in9 (by decide +kernel) dX9_law_7 ?_
    have hk25 : gck 1 = 7 := rfl
    have ht26 : 1 < N := Nat.lt_of_lt_of_le (by decide) hN
    refine fg_7_held F G hk25 ht26 in7 (by decide +kernel) dX9_law_10 ?_
    refine lv_icmp_gt (tgt := 27) hx hb dX9_law_13 (by decide) (fun q27 => ?_) (fun q27 => ?_)
    · replace h := gt_s q27 h
      exact JK21  _ _ _ h G hl
    · replace h := gf_s q27 h
      refine lv_iload_n hx hb dX9_law_16 rfl (lv_at hl 1 rfl) ?_
      refine lv_sipush (v := 150) hx hb dX9_law_17 (by decide) ?_
      refine lv_icmp_gt (tgt := 27) hx hb dX9_law_20 (by decide) (fun q28 => ?_) (fun q28 => ?_)
      · replace h := gt_s q28 h
        exact JK21  _ _ _ h G hl
      · replace h := gf_s q28 h
        refine lv_iconst (v := 1) hx hb dX9_law_23 (by decide) ?_
        refine lv_goto (tgt := 28) hx hb dX9_law_24 (by decide) ?_
        exact JK2 _ _ _ _ h G hl
set_option maxHeartbeats 4000000 in
set_option maxRecDepth 100000 in
theorem cx_X9_law (l : Launch) (hlt : l.stackTraces = false) (sa : gSa) (D : va_G) (ad : Nat → Nat) (cy : Nat → ClassId) (N sz : Nat) (hN : 55 ≤ N) (hI : gI ad N) (c d0 : gm) {n : Nat} {t : Nat} {a1 : Int32} {kZ : Nat} {cZ : gm} (h : m_X9_law n t a1 c = some (.inr (kZ, cZ))) : vx_Met l yX9_law wsX9_law rxX9_law (va_Pc [.ref (ad t), .int a1] (gP sa D ad cy N sz c d0)) (va_Qi (fun (_ : Int32) (_ : Unit) => False) (fun _ _ => True) (gA ad N sz)) (vx_X (fun (_ : Unit) => True) (fun E _ U => E = gxn kZ ∧ gE D ad cy N cZ d0 U) (gA ad N sz)) 1 6 (gA ad N sz) := by
  refine vx_ofW (cc := cX9_law) (maxL := 3) (ret := (some .int)) (by decide) rfl ?_
  intro p e s m args below meth cod s₁ B hml htab hv
  obtain ⟨rfl, hsz, hP, hK, hZ⟩ := hv
  have hx := B.exec
  have hb := B.bytes
  have hr := B.returns
  have hts := atoms_spec (ws := wsX9_law) B.pre
  have hown : s.vm.findClass RX9 = some m.cls := findClass_of_methodNamed B.named
  have hlocks := B.notSynchronized
  subst hsz
  have hl := lv_entry ([.ref (ad t), .int a1]) (n := 3) (Nat.le_of_ble_eq_true rfl)
  rw [lg_entry_eq]
  generalize (lg_sl ([.ref (ad t), .int a1]) ++ List.replicate (3 - (lg_sl ([.ref (ad t), .int a1])).length) Slot.unset).toArray = ls at hl ⊢
  have hl : lv_has ls 3 [(0, .ref (ad t)), (1, .int a1)] := hl
  have in7 : ∀ w ∈ wsX70, w ∈ wsX9_law := by decide +kernel
  have in9 : ∀ w ∈ wsX90, w ∈ wsX9_law := by decide +kernel
  generalize hargs : ([.ref (ad t), .int a1] : List Value).toArray = args at *
  generalize hAe : gA ad N s.heap.size = A
  have F : gF sa D ad cy N A p s m args cod cX9_law 3 wsX9_law RX9 := ⟨hx, hb, hml, hown, hts, hK, hI, by rw [← hAe]; exact gA_ad, by rw [← hAe]; exact gA_sz, by rw [← hAe]; exact hZ⟩
  have G : gW D ad cy N A s.heap c d0 s.heap [] := ⟨hP, va_S.rf⟩
  generalize hQ : vx_MQ below (va_Qi (fun (_ : Int32) (_ : Unit) => False) (fun _ _ => True) A) (vx_X (fun (_ : Unit) => True) (fun E _ U => E = gxn kZ ∧ gE D ad cy N cZ d0 U) A) args s 1 6 A = Q
  suffices hgen : ∀ (H : Heap) (locs : List Loc), gW D ad cy N A s.heap c d0 H locs → W p l e rxX9_law s m args below meth cod H locs 0 0 Q (F0 m 0 ls []) from hgen _ _ G
  clear G
  intro H locs G
  unfold m_X9_law at h
  refine lv_aload_n hx hb dX9_law_0 rfl (lv_at hl 0 rfl) ?_
  refine lv_iload_n hx hb dX9_law_1 rfl (lv_at hl 1 rfl) ?_
  obtain ⟨K2, eK2, h⟩ := gj_s h
  have JK2 : ∀ (v1 : Int32) (H : Heap) (locs : List Loc) (ls : Array Slot), K2 v1 = some (.inr (kZ, cZ)) → gW D ad cy N A s.heap c d0 H locs → lv_has ls 3 [(0, .ref (ad t)), (1, .int a1)] → W p l e rxX9_law s m args below meth cod H locs 0 0 Q (F0 m 28 ls [.int v1, .ref (ad t)]) := by
    intro v1 H locs ls h G hl
    rw [eK2] at h
    obtain ⟨hk3, h⟩ := gc_s h
    have ht4 : t < N := Nat.lt_of_lt_of_le (gck_lt9 hk3) hN
    rcases gbx_x h with hc5 | ⟨c7, hc5, h⟩
    · exact hQ ▸ gx_xv F G htab hlocks (vx_runV (As := [.int v1]) (rest := []) (gx_fix F) (cx_X9_demand l hlt sa D ad cy N H.size hN hI c d0 hc5) (cwV 1 hts gX9_law_X9_demand rfl rfl rfl (by decide +kernel) ⟨by decide, by decide⟩) (gx_rec F G ht4 (gwe_9 hk3) rfl) rfl rfl hl.1 rfl (lv_room (Nat.le_of_ble_eq_true rfl)) dX9_law_28 ⟨by decide, by decide⟩)
    · skip
      refine gx_callv F G (va_runV (As := [.int v1]) (rest := []) (gx_fix F) (c_X9_demand l sa D ad cy N H.size hN hI c d0 hc5) (cwV 1 hts gX9_law_X9_demand rfl rfl rfl (by decide +kernel) ⟨by decide, by decide⟩) (gx_rec F G ht4 (gwe_9 hk3) rfl) rfl rfl hl.1 rfl (lv_room (Nat.le_of_ble_eq_true rfl)) dX9_law_28 ⟨Nat.zero_le _, Nat.zero_le _⟩) (fun H locs G => ?_)
      exact (gok_no h).elim
  obtain ⟨K8, eK8, h⟩ := gj_s h
  have JK8 : ∀ (H : Heap) (locs : List Loc) (ls : Array Slot), K8 () = some (.inr (kZ, cZ)) → gW D ad cy N A s.heap c d0 H locs → lv_has ls 3 [(0, .ref (ad t)), (1, .int a1)] → W p l e rxX9_law s m args below meth cod H locs 0 0 Q (F0 m 27 ls [.ref (ad t)]) := by
    intro  H locs ls h G hl
    rw [eK8] at h
    refine lv_iconst (v := 0) hx hb dX9_law_27 (by decide) ?_
    exact JK2 _ _ _ _ h G hl
  refine lv_if_lt (tgt := 27) hx hb dX9_law_2 (by decide) (fun q9 => ?_) (fun q9 => ?_)
  · replace h := gt_s q9 h
    exact JK8  _ _ _ h G hl
  · replace h := gf_s q9 h
    refine lv_iload_n hx hb dX9_law_5 rfl (lv_at hl 1 rfl) ?_
    refine lv_aload_n hx hb dX9_law_6 rfl (lv_at hl 0 rfl) ?_
    obtain ⟨hk10, h⟩ := gc_s h
    have ht11 : t < N := Nat.lt_of_lt_of_le (gck_lt9 hk10) hN
    refine fg_9_text F G hk10 ht11 in9 (by decide +kernel) dX9_law_7 ?_
    have hk12 : gck 1 = 7 := rfl
    have ht13 : 1 < N := Nat.lt_of_lt_of_le (by decide) hN
    refine fg_7_held F G hk12 ht13 in7 (by decide +kernel) dX9_law_10 ?_
    refine lv_icmp_gt (tgt := 27) hx hb dX9_law_13 (by decide) (fun q14 => ?_) (fun q14 => ?_)
    · replace h := gt_s q14 h
      exact JK8  _ _ _ h G hl
    · replace h := gf_s q14 h
      refine lv_iload_n hx hb dX9_law_16 rfl (lv_at hl 1 rfl) ?_
      refine lv_sipush (v := 150) hx hb dX9_law_17 (by decide) ?_
      refine lv_icmp_gt (tgt := 27) hx hb dX9_law_20 (by decide) (fun q15 => ?_) (fun q15 => ?_)
      · replace h := gt_s q15 h
        exact JK8  _ _ _ h G hl
      · replace h := gf_s q15 h
        refine lv_iconst (v := 1) hx hb dX9_law_23 (by decide) ?_
        refine lv_goto (tgt := 28) hx hb dX9_law_24 (by decide) ?_
        exact JK2 _ _ _ _ h G hl
def m_X9_work (n : Nat) (t : Nat) (a1 : Int32) (c : gm) : Option ((Int32 × gm) ⊕ (Nat × gm)) :=
  gj (fun (v1 : Int32) => gc (gck t = 9) (gbx (m_X9_demand t v1 c) (fun (c7 : gm) => gok (gb (m_X7_open 1 a1 c7) (fun (c12 : gm) => (if (c12.1 17 3) < 16 then gb2 (m_X8_readFrom n 15 1 (c12.1 3 5) c12) (fun (r21 : Int32) (c22 : gm) => (if r21 = 0 then some (((c22.1 1 6) - 10), c22) else gb (m_X5_keep 17 3 c22) (fun (c26 : gm) => gb (m_X8_doAll n 15 3 (c26.2.2 0) c26) (fun (c29 : gm) => gv (gm_r c29 t (upd (c29.1 t) 12 (c29.1 15 4))) (fun (c30 : gm) => some ((c30.1 15 3), c30)))))) else some ((-20), c12))))))) (fun K2 => gj (fun (_ : Unit) => K2 0) (fun K31 => (if a1 < 0 then K31 () else gc (gck t = 9) ((if (c.1 1 1) < a1 then K31 () else (if 150 < a1 then K31 () else K2 1))))))
abbrev rmX9_work : Room := { frames := 44, cells := 0, slots := 0, locals := 1050 }
abbrev rxX9_work : Room := { frames := 44, cells := 1, slots := 6, locals := 1050 }
set_option maxHeartbeats 4000000 in
set_option maxRecDepth 100000 in
theorem c_X9_work (l : Launch) (sa : gSa) (D : va_G) (ad : Nat → Nat) (cy : Nat → ClassId) (N sz : Nat) (hN : 55 ≤ N) (hI : gI ad N) (c d0 : gm) {n : Nat} {t : Nat} {a1 : Int32} {rZ : Int32} {cZ : gm} (h : m_X9_work n t a1 c = some (.inl (rZ, cZ))) : Met l yX9_work wsX9_work rmX9_work (va_Pc [.ref (ad t), .int a1] (gP sa D ad cy N sz c d0)) (va_Qi (fun (z : Int32) (_ : Unit) => z = rZ) (fun _ U => gE D ad cy N cZ d0 U) (gA ad N sz)) 0 0 (gA ad N sz) := by
  refine Met.ofW (cc := cX9_work) (maxL := 2) (ret := (some .int)) (by decide) rfl ?_
  intro p e s m args below meth cod s₁ B hml hv
  obtain ⟨rfl, hsz, hP, hK, hZ⟩ := hv
  have hx := B.exec
  have hb := B.bytes
  have hr := B.returns
  have hts := atoms_spec (ws := wsX9_work) B.pre
  have hown : s.vm.findClass RX9 = some m.cls := findClass_of_methodNamed B.named
  have hlocks := B.notSynchronized
  subst hsz
  have hl := lv_entry ([.ref (ad t), .int a1]) (n := 2) (Nat.le_of_ble_eq_true rfl)
  rw [lg_entry_eq]
  generalize (lg_sl ([.ref (ad t), .int a1]) ++ List.replicate (2 - (lg_sl ([.ref (ad t), .int a1])).length) Slot.unset).toArray = ls at hl ⊢
  have hl : lv_has ls 2 [(0, .ref (ad t)), (1, .int a1)] := hl
  have in5 : ∀ w ∈ wsX50, w ∈ wsX9_work := by decide +kernel
  have in6 : ∀ w ∈ wsX60, w ∈ wsX9_work := by decide +kernel
  have in7 : ∀ w ∈ wsX70, w ∈ wsX9_work := by decide +kernel
  have in8 : ∀ w ∈ wsX80, w ∈ wsX9_work := by decide +kernel
  have in9 : ∀ w ∈ wsX90, w ∈ wsX9_work := by decide +kernel
  generalize hargs : ([.ref (ad t), .int a1] : List Value).toArray = args at *
  generalize hAe : gA ad N s.heap.size = A
  have F : gF sa D ad cy N A p s m args cod cX9_work 2 wsX9_work RX9 := ⟨hx, hb, hml, hown, hts, hK, hI, by rw [← hAe]; exact gA_ad, by rw [← hAe]; exact gA_sz, by rw [← hAe]; exact hZ⟩
  have G : gW D ad cy N A s.heap c d0 s.heap [] := ⟨hP, va_S.rf⟩
  generalize hQ : MQ below (va_Qi (fun (z : Int32) (_ : Unit) => z = rZ) (fun _ U => gE D ad cy N cZ d0 U) A) args s 0 0 A = Q
  suffices hgen : ∀ (H : Heap) (locs : List Loc), gW D ad cy N A s.heap c d0 H locs → W p l e rmX9_work s m args below meth cod H locs 0 0 Q (F0 m 0 ls []) from hgen _ _ G
  clear G
  intro H locs G
  unfold m_X9_work at h
  refine lv_aload_n hx hb dX9_work_0 rfl (lv_at hl 0 rfl) ?_
  refine lv_iload_n hx hb dX9_work_1 rfl (lv_at hl 1 rfl) ?_
  obtain ⟨K2, eK2, h⟩ := gj_s h
  have JK2 : ∀ (v1 : Int32) (H : Heap) (locs : List Loc) (ls : Array Slot), K2 v1 = some (.inl (rZ, cZ)) → gW D ad cy N A s.heap c d0 H locs → lv_has ls 2 [(0, .ref (ad t)), (1, .int a1)] → W p l e rmX9_work s m args below meth cod H locs 0 0 Q (F0 m 28 ls [.int v1, .ref (ad t)]) := by
    intro v1 H locs ls h G hl
    rw [eK2] at h
    obtain ⟨hk3, h⟩ := gc_s h
    have ht4 : t < N := Nat.lt_of_lt_of_le (gck_lt9 hk3) hN
    obtain ⟨c7, hc5, h⟩ := gbx_l h
    refine gx_callv F G (va_runV (As := [.int v1]) (rest := []) (gx_fix F) (c_X9_demand l sa D ad cy N H.size hN hI c d0 hc5) (cwV 1 hts gX9_work_X9_demand rfl rfl rfl (by decide +kernel) ⟨by decide, by decide⟩) (gx_rec F G ht4 (gwe_9 hk3) rfl) rfl rfl hl.1 rfl (lv_room (Nat.le_of_ble_eq_true rfl)) dX9_work_28 ⟨Nat.zero_le _, Nat.zero_le _⟩) (fun H locs G => ?_)
    replace h := gok_s h
    refine lv_aload_n hx hb dX9_work_31 rfl (lv_at hl 0 rfl) ?_
    refine fg_9_text F G hk3 ht4 in9 (by decide +kernel) dX9_work_32 ?_
    have hk8 : gck 1 = 7 := rfl
    have ht9 : 1 < N := Nat.lt_of_lt_of_le (by decide) hN
    refine lv_iload_n hx hb dX9_work_35 rfl (lv_at hl 1 rfl) ?_
    obtain ⟨c12, hc10, h⟩ := gb_s h
    refine gx_callv F G (va_runV (As := [.int a1]) (rest := []) (gx_fix F) (c_X7_open l sa D ad cy N H.size hN hI c7 d0 hc10) (cwV 1 hts gX9_work_X7_open rfl rfl rfl (by decide +kernel) ⟨by decide, by decide⟩) (gx_rec F G ht9 (gwe_7 hk8) rfl) rfl rfl hl.1 rfl (lv_room (Nat.le_of_ble_eq_true rfl)) dX9_work_36 ⟨Nat.zero_le _, Nat.zero_le _⟩) (fun H locs G => ?_)
    refine lv_aload_n hx hb dX9_work_39 rfl (lv_at hl 0 rfl) ?_
    refine fg_9_past F G hk3 ht4 in9 (by decide +kernel) dX9_work_40 ?_
    have hk13 : gck 17 = 5 := rfl
    have ht14 : 17 < N := Nat.lt_of_lt_of_le (by decide) hN
    refine fg_5_works F G hk13 ht14 in5 (by decide +kernel) dX9_work_43 ?_
    refine lv_bipush (v := 16) hx hb dX9_work_46 (by decide) ?_
    refine lv_icmp_lt (tgt := 54) hx hb dX9_work_48 (by decide) (fun q15 => ?_) (fun q15 => ?_)
    · replace h := gt_s q15 h
      refine lv_aload_n hx hb dX9_work_54 rfl (lv_at hl 0 rfl) ?_
      refine fg_9_steps F G hk3 ht4 in9 (by decide +kernel) dX9_work_55 ?_
      have hk16 : gck 15 = 8 := rfl
      have ht17 : 15 < N := Nat.lt_of_lt_of_le (by decide) hN
      refine lv_aload_n hx hb dX9_work_58 rfl (lv_at hl 0 rfl) ?_
      refine fg_9_text F G hk3 ht4 in9 (by decide +kernel) dX9_work_59 ?_
      refine lv_aload_n hx hb dX9_work_62 rfl (lv_at hl 0 rfl) ?_
      refine fg_9_now F G hk3 ht4 in9 (by decide +kernel) dX9_work_63 ?_
      have hk18 : gck 3 = 6 := rfl
      have ht19 : 3 < N := Nat.lt_of_lt_of_le (by decide) hN
      refine fg_6_things F G hk18 ht19 in6 (by decide +kernel) dX9_work_66 ?_
      obtain ⟨r21, c22, hc20, h⟩ := gb2_s h
      refine gx_calli F G (va_runV (As := [.ref (ad 1), .int (c12.1 3 5)]) (rest := []) (gx_fix F) (c_X8_readFrom l sa D ad cy N H.size hN hI c12 d0 hc20) (cwV 2 hts gX9_work_X8_readFrom rfl rfl rfl (by decide +kernel) ⟨by decide, by decide⟩) (gx_rec F G ht17 (gwe_8 hk16) rfl) rfl rfl hl.1 rfl (lv_room (Nat.le_of_ble_eq_true rfl)) dX9_work_69 ⟨Nat.zero_le _, Nat.zero_le _⟩) (fun H locs G => ?_)
      refine lv_if_ne (tgt := 86) hx hb dX9_work_72 (by decide) (fun q23 => ?_) (fun q23 => ?_)
      · replace h := gf_s q23 h
        refine lv_aload_n hx hb dX9_work_86 rfl (lv_at hl 0 rfl) ?_
        refine fg_9_past F G hk3 ht4 in9 (by decide +kernel) dX9_work_87 ?_
        refine lv_aload_n hx hb dX9_work_90 rfl (lv_at hl 0 rfl) ?_
        refine fg_9_now F G hk3 ht4 in9 (by decide +kernel) dX9_work_91 ?_
        obtain ⟨c26, hc24, h⟩ := gb_s h
        refine gx_callv F G (va_runV (As := [.ref (ad 3)]) (rest := []) (gx_fix F) (c_X5_keep l sa D ad cy N H.size hN hI c22 d0 hc24) (cwV 1 hts gX9_work_X5_keep rfl rfl rfl (by decide +kernel) ⟨by decide, by decide⟩) (gx_rec F G ht14 (gwe_5 hk13) rfl) rfl rfl hl.1 rfl (lv_room (Nat.le_of_ble_eq_true rfl)) dX9_work_94 ⟨Nat.zero_le _, Nat.zero_le _⟩) (fun H locs G => ?_)
        refine lv_aload_n hx hb dX9_work_97 rfl (lv_at hl 0 rfl) ?_
        refine fg_9_steps F G hk3 ht4 in9 (by decide +kernel) dX9_work_98 ?_
        refine lv_aload_n hx hb dX9_work_101 rfl (lv_at hl 0 rfl) ?_
        refine fg_9_now F G hk3 ht4 in9 (by decide +kernel) dX9_work_102 ?_
        refine lv_aload_n hx hb dX9_work_105 rfl (lv_at hl 0 rfl) ?_
        refine fg_9_rule F G hk3 ht4 in9 (by decide +kernel) dX9_work_106 ?_
        obtain ⟨c29, hc27, h⟩ := gb_s h
        refine gx_callv F G (va_runV (As := [.ref (ad 3), .ref (ad (c26.2.2 0))]) (rest := []) (gx_fix F) (c_X8_doAll l sa D ad cy N H.size hN hI c26 d0 hc27) (cwV 2 hts gX9_work_X8_doAll rfl rfl rfl (by decide +kernel) ⟨by decide, by decide⟩) (gx_rec F G ht17 (gwe_8 hk16) rfl) rfl rfl hl.1 rfl (lv_room (Nat.le_of_ble_eq_true rfl)) dX9_work_109 ⟨Nat.zero_le _, Nat.zero_le _⟩) (fun H locs G => ?_)
        refine lv_aload_n hx hb dX9_work_112 rfl (lv_at hl 0 rfl) ?_
        refine lv_aload_n hx hb dX9_work_113 rfl (lv_at hl 0 rfl) ?_
        refine fg_9_steps F G hk3 ht4 in9 (by decide +kernel) dX9_work_114 ?_
        refine fg_8_refused F G hk16 ht17 in8 (by decide +kernel) dX9_work_117 ?_
        refine fp_9_refusedSteps F G hk3 ht4 in9 (by decide +kernel) dX9_work_120 (fun H locs G => ?_)
        obtain ⟨c30, ec30⟩ : ∃ z, z = gm_r c29 t (upd (c29.1 t) 12 (c29.1 15 4)) := ⟨_, rfl⟩
        rw [← ec30] at G
        replace h := gv_s h c30 ec30
        refine lv_aload_n hx hb dX9_work_123 rfl (lv_at hl 0 rfl) ?_
        refine fg_9_steps F G hk3 ht4 in9 (by decide +kernel) dX9_work_124 ?_
        refine fg_8_done F G hk16 ht17 in8 (by decide +kernel) dX9_work_127 ?_
        cases h
        rw [← hQ]
        exact gx_iret F G hr hlocks dX9_work_130
      · replace h := gt_s q23 h
        refine lv_aload_n hx hb dX9_work_75 rfl (lv_at hl 0 rfl) ?_
        refine fg_9_text F G hk3 ht4 in9 (by decide +kernel) dX9_work_76 ?_
        refine fg_7_faultKind F G hk8 ht9 in7 (by decide +kernel) dX9_work_79 ?_
        refine lv_bipush (v := 10) hx hb dX9_work_82 (by decide) ?_
        refine lv_isub hx hb dX9_work_84 ?_
        cases h
        rw [← hQ]
        exact gx_iret F G hr hlocks dX9_work_85
    · replace h := gf_s q15 h
      refine lv_bipush (v := (-20)) hx hb dX9_work_51 (by decide) ?_
      cases h
      rw [← hQ]
      exact gx_iret F G hr hlocks dX9_work_53
  obtain ⟨K31, eK31, h⟩ := gj_s h
  have JK31 : ∀ (H : Heap) (locs : List Loc) (ls : Array Slot), K31 () = some (.inl (rZ, cZ)) → gW D ad cy N A s.heap c d0 H locs → lv_has ls 2 [(0, .ref (ad t)), (1, .int a1)] → W p l e rmX9_work s m args below meth cod H locs 0 0 Q (F0 m 27 ls [.ref (ad t)]) := by
    intro  H locs ls h G hl
    rw [eK31] at h
    refine lv_iconst (v := 0) hx hb dX9_work_27 (by decide) ?_
    exact JK2 _ _ _ _ h G hl
  refine lv_if_lt (tgt := 27) hx hb dX9_work_2 (by decide) (fun q32 => ?_) (fun q32 => ?_)
  · replace h := gt_s q32 h
    exact JK31  _ _ _ h G hl
  · replace h := gf_s q32 h
    refine lv_iload_n hx hb dX9_work_5 rfl (lv_at hl 1 rfl) ?_
    refine lv_aload_n hx hb dX9_work_6 rfl (lv_at hl 0 rfl) ?_
    obtain ⟨hk33, h⟩ := gc_s h
    have ht34 : t < N := Nat.lt_of_lt_of_le (gck_lt9 hk33) hN
    refine fg_9_text F G hk33 ht34 in9 (by decide +kernel) dX9_work_7 ?_
    have hk35 : gck 1 = 7 := rfl
    have ht36 : 1 < N := Nat.lt_of_lt_of_le (by decide) hN
    refine fg_7_held F G hk35 ht36 in7 (by decide +kernel) dX9_work_10 ?_
    refine lv_icmp_gt (tgt := 27) hx hb dX9_work_13 (by decide) (fun q37 => ?_) (fun q37 => ?_)
    · replace h := gt_s q37 h
      exact JK31  _ _ _ h G hl
    · replace h := gf_s q37 h
      refine lv_iload_n hx hb dX9_work_16 rfl (lv_at hl 1 rfl) ?_
      refine lv_sipush (v := 150) hx hb dX9_work_17 (by decide) ?_
      refine lv_icmp_gt (tgt := 27) hx hb dX9_work_20 (by decide) (fun q38 => ?_) (fun q38 => ?_)
      · replace h := gt_s q38 h
        exact JK31  _ _ _ h G hl
      · replace h := gf_s q38 h
        refine lv_iconst (v := 1) hx hb dX9_work_23 (by decide) ?_
        refine lv_goto (tgt := 28) hx hb dX9_work_24 (by decide) ?_
        exact JK2 _ _ _ _ h G hl
set_option maxHeartbeats 4000000 in
set_option maxRecDepth 100000 in
theorem cx_X9_work (l : Launch) (hlt : l.stackTraces = false) (sa : gSa) (D : va_G) (ad : Nat → Nat) (cy : Nat → ClassId) (N sz : Nat) (hN : 55 ≤ N) (hI : gI ad N) (c d0 : gm) {n : Nat} {t : Nat} {a1 : Int32} {kZ : Nat} {cZ : gm} (h : m_X9_work n t a1 c = some (.inr (kZ, cZ))) : vx_Met l yX9_work wsX9_work rxX9_work (va_Pc [.ref (ad t), .int a1] (gP sa D ad cy N sz c d0)) (va_Qi (fun (_ : Int32) (_ : Unit) => False) (fun _ _ => True) (gA ad N sz)) (vx_X (fun (_ : Unit) => True) (fun E _ U => E = gxn kZ ∧ gE D ad cy N cZ d0 U) (gA ad N sz)) 1 6 (gA ad N sz) := by
  refine vx_ofW (cc := cX9_work) (maxL := 2) (ret := (some .int)) (by decide) rfl ?_
  intro p e s m args below meth cod s₁ B hml htab hv
  obtain ⟨rfl, hsz, hP, hK, hZ⟩ := hv
  have hx := B.exec
  have hb := B.bytes
  have hr := B.returns
  have hts := atoms_spec (ws := wsX9_work) B.pre
  have hown : s.vm.findClass RX9 = some m.cls := findClass_of_methodNamed B.named
  have hlocks := B.notSynchronized
  subst hsz
  have hl := lv_entry ([.ref (ad t), .int a1]) (n := 2) (Nat.le_of_ble_eq_true rfl)
  rw [lg_entry_eq]
  generalize (lg_sl ([.ref (ad t), .int a1]) ++ List.replicate (2 - (lg_sl ([.ref (ad t), .int a1])).length) Slot.unset).toArray = ls at hl ⊢
  have hl : lv_has ls 2 [(0, .ref (ad t)), (1, .int a1)] := hl
  have in7 : ∀ w ∈ wsX70, w ∈ wsX9_work := by decide +kernel
  have in9 : ∀ w ∈ wsX90, w ∈ wsX9_work := by decide +kernel
  generalize hargs : ([.ref (ad t), .int a1] : List Value).toArray = args at *
  generalize hAe : gA ad N s.heap.size = A
  have F : gF sa D ad cy N A p s m args cod cX9_work 2 wsX9_work RX9 := ⟨hx, hb, hml, hown, hts, hK, hI, by rw [← hAe]; exact gA_ad, by rw [← hAe]; exact gA_sz, by rw [← hAe]; exact hZ⟩
  have G : gW D ad cy N A s.heap c d0 s.heap [] := ⟨hP, va_S.rf⟩
  generalize hQ : vx_MQ below (va_Qi (fun (_ : Int32) (_ : Unit) => False) (fun _ _ => True) A) (vx_X (fun (_ : Unit) => True) (fun E _ U => E = gxn kZ ∧ gE D ad cy N cZ d0 U) A) args s 1 6 A = Q
  suffices hgen : ∀ (H : Heap) (locs : List Loc), gW D ad cy N A s.heap c d0 H locs → W p l e rxX9_work s m args below meth cod H locs 0 0 Q (F0 m 0 ls []) from hgen _ _ G
  clear G
  intro H locs G
  unfold m_X9_work at h
  refine lv_aload_n hx hb dX9_work_0 rfl (lv_at hl 0 rfl) ?_
  refine lv_iload_n hx hb dX9_work_1 rfl (lv_at hl 1 rfl) ?_
  obtain ⟨K2, eK2, h⟩ := gj_s h
  have JK2 : ∀ (v1 : Int32) (H : Heap) (locs : List Loc) (ls : Array Slot), K2 v1 = some (.inr (kZ, cZ)) → gW D ad cy N A s.heap c d0 H locs → lv_has ls 2 [(0, .ref (ad t)), (1, .int a1)] → W p l e rxX9_work s m args below meth cod H locs 0 0 Q (F0 m 28 ls [.int v1, .ref (ad t)]) := by
    intro v1 H locs ls h G hl
    rw [eK2] at h
    obtain ⟨hk3, h⟩ := gc_s h
    have ht4 : t < N := Nat.lt_of_lt_of_le (gck_lt9 hk3) hN
    rcases gbx_x h with hc5 | ⟨c7, hc5, h⟩
    · exact hQ ▸ gx_xv F G htab hlocks (vx_runV (As := [.int v1]) (rest := []) (gx_fix F) (cx_X9_demand l hlt sa D ad cy N H.size hN hI c d0 hc5) (cwV 1 hts gX9_work_X9_demand rfl rfl rfl (by decide +kernel) ⟨by decide, by decide⟩) (gx_rec F G ht4 (gwe_9 hk3) rfl) rfl rfl hl.1 rfl (lv_room (Nat.le_of_ble_eq_true rfl)) dX9_work_28 ⟨by decide, by decide⟩)
    · skip
      refine gx_callv F G (va_runV (As := [.int v1]) (rest := []) (gx_fix F) (c_X9_demand l sa D ad cy N H.size hN hI c d0 hc5) (cwV 1 hts gX9_work_X9_demand rfl rfl rfl (by decide +kernel) ⟨by decide, by decide⟩) (gx_rec F G ht4 (gwe_9 hk3) rfl) rfl rfl hl.1 rfl (lv_room (Nat.le_of_ble_eq_true rfl)) dX9_work_28 ⟨Nat.zero_le _, Nat.zero_le _⟩) (fun H locs G => ?_)
      exact (gok_no h).elim
  obtain ⟨K8, eK8, h⟩ := gj_s h
  have JK8 : ∀ (H : Heap) (locs : List Loc) (ls : Array Slot), K8 () = some (.inr (kZ, cZ)) → gW D ad cy N A s.heap c d0 H locs → lv_has ls 2 [(0, .ref (ad t)), (1, .int a1)] → W p l e rxX9_work s m args below meth cod H locs 0 0 Q (F0 m 27 ls [.ref (ad t)]) := by
    intro  H locs ls h G hl
    rw [eK8] at h
    refine lv_iconst (v := 0) hx hb dX9_work_27 (by decide) ?_
    exact JK2 _ _ _ _ h G hl
  refine lv_if_lt (tgt := 27) hx hb dX9_work_2 (by decide) (fun q9 => ?_) (fun q9 => ?_)
  · replace h := gt_s q9 h
    exact JK8  _ _ _ h G hl
  · replace h := gf_s q9 h
    refine lv_iload_n hx hb dX9_work_5 rfl (lv_at hl 1 rfl) ?_
    refine lv_aload_n hx hb dX9_work_6 rfl (lv_at hl 0 rfl) ?_
    obtain ⟨hk10, h⟩ := gc_s h
    have ht11 : t < N := Nat.lt_of_lt_of_le (gck_lt9 hk10) hN
    refine fg_9_text F G hk10 ht11 in9 (by decide +kernel) dX9_work_7 ?_
    have hk12 : gck 1 = 7 := rfl
    have ht13 : 1 < N := Nat.lt_of_lt_of_le (by decide) hN
    refine fg_7_held F G hk12 ht13 in7 (by decide +kernel) dX9_work_10 ?_
    refine lv_icmp_gt (tgt := 27) hx hb dX9_work_13 (by decide) (fun q14 => ?_) (fun q14 => ?_)
    · replace h := gt_s q14 h
      exact JK8  _ _ _ h G hl
    · replace h := gf_s q14 h
      refine lv_iload_n hx hb dX9_work_16 rfl (lv_at hl 1 rfl) ?_
      refine lv_sipush (v := 150) hx hb dX9_work_17 (by decide) ?_
      refine lv_icmp_gt (tgt := 27) hx hb dX9_work_20 (by decide) (fun q15 => ?_) (fun q15 => ?_)
      · replace h := gt_s q15 h
        exact JK8  _ _ _ h G hl
      · replace h := gf_s q15 h
        refine lv_iconst (v := 1) hx hb dX9_work_23 (by decide) ?_
        refine lv_goto (tgt := 28) hx hb dX9_work_24 (by decide) ?_
        exact JK2 _ _ _ _ h G hl
def m_X9_book (n : Nat) (t : Nat) (a1 : Int32) (c : gm) : Option ((Int32 × gm) ⊕ (Nat × gm)) :=
  gj (fun (v1 : Int32) => gc (gck t = 9) (gbx (m_X9_demand t v1 c) (fun (c7 : gm) => gok (gb (m_X7_open 1 a1 c7) (fun (c12 : gm) => gc (gck (c12.2.2 3) = 0) (gb2 (m_X0_readFrom n (c12.2.2 3) 1 (c12.1 3 5) c12) (fun (r18 : Int32) (c19 : gm) => (if r18 = 0 then some (((c19.1 1 6) - 10), c19) else gv (gm_k c19 3 (c19.2.2 2)) (fun (c21 : gm) => gv (gm_k c21 2 (c19.2.2 3)) (fun (c22 : gm) => gc (gck (c22.2.2 2) = 0) (some ((c22.1 (c22.2.2 2) 5), c22)))))))))))) (fun K2 => gj (fun (_ : Unit) => K2 0) (fun K25 => (if a1 < 0 then K25 () else gc (gck t = 9) ((if (c.1 1 1) < a1 then K25 () else (if 60 < a1 then K25 () else K2 1))))))
abbrev rmX9_book : Room := { frames := 7, cells := 0, slots := 0, locals := 129 }
abbrev rxX9_book : Room := { frames := 7, cells := 1, slots := 6, locals := 129 }
set_option maxHeartbeats 4000000 in
set_option maxRecDepth 100000 in
theorem c_X9_book (l : Launch) (sa : gSa) (D : va_G) (ad : Nat → Nat) (cy : Nat → ClassId) (N sz : Nat) (hN : 55 ≤ N) (hI : gI ad N) (c d0 : gm) {n : Nat} {t : Nat} {a1 : Int32} {rZ : Int32} {cZ : gm} (h : m_X9_book n t a1 c = some (.inl (rZ, cZ))) : Met l yX9_book wsX9_book rmX9_book (va_Pc [.ref (ad t), .int a1] (gP sa D ad cy N sz c d0)) (va_Qi (fun (z : Int32) (_ : Unit) => z = rZ) (fun _ U => gE D ad cy N cZ d0 U) (gA ad N sz)) 0 0 (gA ad N sz) := by
  refine Met.ofW (cc := cX9_book) (maxL := 3) (ret := (some .int)) (by decide) rfl ?_
  intro p e s m args below meth cod s₁ B hml hv
  obtain ⟨rfl, hsz, hP, hK, hZ⟩ := hv
  have hx := B.exec
  have hb := B.bytes
  have hr := B.returns
  have hts := atoms_spec (ws := wsX9_book) B.pre
  have hown : s.vm.findClass RX9 = some m.cls := findClass_of_methodNamed B.named
  have hlocks := B.notSynchronized
  subst hsz
  have hl := lv_entry ([.ref (ad t), .int a1]) (n := 3) (Nat.le_of_ble_eq_true rfl)
  rw [lg_entry_eq]
  generalize (lg_sl ([.ref (ad t), .int a1]) ++ List.replicate (3 - (lg_sl ([.ref (ad t), .int a1])).length) Slot.unset).toArray = ls at hl ⊢
  have hl : lv_has ls 3 [(0, .ref (ad t)), (1, .int a1)] := hl
  have in0 : ∀ w ∈ wsX00, w ∈ wsX9_book := by decide +kernel
  have in6 : ∀ w ∈ wsX60, w ∈ wsX9_book := by decide +kernel
  have in7 : ∀ w ∈ wsX70, w ∈ wsX9_book := by decide +kernel
  have in9 : ∀ w ∈ wsX90, w ∈ wsX9_book := by decide +kernel
  generalize hargs : ([.ref (ad t), .int a1] : List Value).toArray = args at *
  generalize hAe : gA ad N s.heap.size = A
  have F : gF sa D ad cy N A p s m args cod cX9_book 3 wsX9_book RX9 := ⟨hx, hb, hml, hown, hts, hK, hI, by rw [← hAe]; exact gA_ad, by rw [← hAe]; exact gA_sz, by rw [← hAe]; exact hZ⟩
  have G : gW D ad cy N A s.heap c d0 s.heap [] := ⟨hP, va_S.rf⟩
  generalize hQ : MQ below (va_Qi (fun (z : Int32) (_ : Unit) => z = rZ) (fun _ U => gE D ad cy N cZ d0 U) A) args s 0 0 A = Q
  suffices hgen : ∀ (H : Heap) (locs : List Loc), gW D ad cy N A s.heap c d0 H locs → W p l e rmX9_book s m args below meth cod H locs 0 0 Q (F0 m 0 ls []) from hgen _ _ G
  clear G
  intro H locs G
  unfold m_X9_book at h
  refine lv_aload_n hx hb dX9_book_0 rfl (lv_at hl 0 rfl) ?_
  refine lv_iload_n hx hb dX9_book_1 rfl (lv_at hl 1 rfl) ?_
  obtain ⟨K2, eK2, h⟩ := gj_s h
  have JK2 : ∀ (v1 : Int32) (H : Heap) (locs : List Loc) (ls : Array Slot), K2 v1 = some (.inl (rZ, cZ)) → gW D ad cy N A s.heap c d0 H locs → lv_has ls 3 [(0, .ref (ad t)), (1, .int a1)] → W p l e rmX9_book s m args below meth cod H locs 0 0 Q (F0 m 27 ls [.int v1, .ref (ad t)]) := by
    intro v1 H locs ls h G hl
    rw [eK2] at h
    obtain ⟨hk3, h⟩ := gc_s h
    have ht4 : t < N := Nat.lt_of_lt_of_le (gck_lt9 hk3) hN
    obtain ⟨c7, hc5, h⟩ := gbx_l h
    refine gx_callv F G (va_runV (As := [.int v1]) (rest := []) (gx_fix F) (c_X9_demand l sa D ad cy N H.size hN hI c d0 hc5) (cwV 1 hts gX9_book_X9_demand rfl rfl rfl (by decide +kernel) ⟨by decide, by decide⟩) (gx_rec F G ht4 (gwe_9 hk3) rfl) rfl rfl hl.1 rfl (lv_room (Nat.le_of_ble_eq_true rfl)) dX9_book_27 ⟨Nat.zero_le _, Nat.zero_le _⟩) (fun H locs G => ?_)
    replace h := gok_s h
    refine lv_aload_n hx hb dX9_book_30 rfl (lv_at hl 0 rfl) ?_
    refine fg_9_text F G hk3 ht4 in9 (by decide +kernel) dX9_book_31 ?_
    have hk8 : gck 1 = 7 := rfl
    have ht9 : 1 < N := Nat.lt_of_lt_of_le (by decide) hN
    refine lv_iload_n hx hb dX9_book_34 rfl (lv_at hl 1 rfl) ?_
    obtain ⟨c12, hc10, h⟩ := gb_s h
    refine gx_callv F G (va_runV (As := [.int a1]) (rest := []) (gx_fix F) (c_X7_open l sa D ad cy N H.size hN hI c7 d0 hc10) (cwV 1 hts gX9_book_X7_open rfl rfl rfl (by decide +kernel) ⟨by decide, by decide⟩) (gx_rec F G ht9 (gwe_7 hk8) rfl) rfl rfl hl.1 rfl (lv_room (Nat.le_of_ble_eq_true rfl)) dX9_book_35 ⟨Nat.zero_le _, Nat.zero_le _⟩) (fun H locs G => ?_)
    refine lv_aload_n hx hb dX9_book_38 rfl (lv_at hl 0 rfl) ?_
    refine fg_9_spareLines F G hk3 ht4 in9 (by decide +kernel) dX9_book_39 ?_
    refine lv_aload_n hx hb dX9_book_42 rfl (lv_at hl 0 rfl) ?_
    refine fg_9_text F G hk3 ht4 in9 (by decide +kernel) dX9_book_43 ?_
    refine lv_aload_n hx hb dX9_book_46 rfl (lv_at hl 0 rfl) ?_
    refine fg_9_now F G hk3 ht4 in9 (by decide +kernel) dX9_book_47 ?_
    have hk13 : gck 3 = 6 := rfl
    have ht14 : 3 < N := Nat.lt_of_lt_of_le (by decide) hN
    refine fg_6_things F G hk13 ht14 in6 (by decide +kernel) dX9_book_50 ?_
    obtain ⟨hk15, h⟩ := gc_s h
    have ht16 : (c12.2.2 3) < N := Nat.lt_of_lt_of_le (gck_lt0 hk15) hN
    obtain ⟨r18, c19, hc17, h⟩ := gb2_s h
    refine gx_calli F G (va_runV (As := [.ref (ad 1), .int (c12.1 3 5)]) (rest := []) (gx_fix F) (c_X0_readFrom l sa D ad cy N H.size hN hI c12 d0 hc17) (cwV 2 hts gX9_book_X0_readFrom rfl rfl rfl (by decide +kernel) ⟨by decide, by decide⟩) (gx_rec F G ht16 (gwe_0 hk15) rfl) rfl rfl hl.1 rfl (lv_room (Nat.le_of_ble_eq_true rfl)) dX9_book_53 ⟨Nat.zero_le _, Nat.zero_le _⟩) (fun H locs G => ?_)
    refine lv_if_ne (tgt := 70) hx hb dX9_book_56 (by decide) (fun q20 => ?_) (fun q20 => ?_)
    · replace h := gf_s q20 h
      refine lv_aload_n hx hb dX9_book_70 rfl (lv_at hl 0 rfl) ?_
      refine fg_9_spareLines F G hk3 ht4 in9 (by decide +kernel) dX9_book_71 ?_
      refine lv_astore_n (lv' := [(2, .ref (ad (c19.2.2 3))), (0, .ref (ad t)), (1, .int a1)]) hx hb dX9_book_74 rfl hl (by decide) rfl (fun ls hl => ?_)
      refine lv_aload_n hx hb dX9_book_75 rfl (lv_at hl 1 rfl) ?_
      refine lv_aload_n hx hb dX9_book_76 rfl (lv_at hl 1 rfl) ?_
      refine fg_9_lines F G hk3 ht4 in9 (by decide +kernel) dX9_book_77 ?_
      refine fp_9_spareLines F G hk3 ht4 in9 (by decide +kernel) dX9_book_80 (fun H locs G => ?_)
      obtain ⟨c21, ec21⟩ : ∃ z, z = gm_k c19 3 (c19.2.2 2) := ⟨_, rfl⟩
      rw [← ec21] at G
      replace h := gv_s h c21 ec21
      refine lv_aload_n hx hb dX9_book_83 rfl (lv_at hl 1 rfl) ?_
      refine lv_aload_n hx hb dX9_book_84 rfl (lv_at hl 0 rfl) ?_
      refine fp_9_lines F G hk3 ht4 in9 (by decide +kernel) dX9_book_85 (fun H locs G => ?_)
      obtain ⟨c22, ec22⟩ : ∃ z, z = gm_k c21 2 (c19.2.2 3) := ⟨_, rfl⟩
      rw [← ec22] at G
      replace h := gv_s h c22 ec22
      refine lv_aload_n hx hb dX9_book_88 rfl (lv_at hl 1 rfl) ?_
      refine fg_9_lines F G hk3 ht4 in9 (by decide +kernel) dX9_book_89 ?_
      obtain ⟨hk23, h⟩ := gc_s h
      have ht24 : (c22.2.2 2) < N := Nat.lt_of_lt_of_le (gck_lt0 hk23) hN
      refine fg_0_size F G hk23 ht24 in0 (by decide +kernel) dX9_book_92 ?_
      cases h
      rw [← hQ]
      exact gx_iret F G hr hlocks dX9_book_95
    · replace h := gt_s q20 h
      refine lv_aload_n hx hb dX9_book_59 rfl (lv_at hl 0 rfl) ?_
      refine fg_9_text F G hk3 ht4 in9 (by decide +kernel) dX9_book_60 ?_
      refine fg_7_faultKind F G hk8 ht9 in7 (by decide +kernel) dX9_book_63 ?_
      refine lv_bipush (v := 10) hx hb dX9_book_66 (by decide) ?_
      refine lv_isub hx hb dX9_book_68 ?_
      cases h
      rw [← hQ]
      exact gx_iret F G hr hlocks dX9_book_69
  obtain ⟨K25, eK25, h⟩ := gj_s h
  have JK25 : ∀ (H : Heap) (locs : List Loc) (ls : Array Slot), K25 () = some (.inl (rZ, cZ)) → gW D ad cy N A s.heap c d0 H locs → lv_has ls 3 [(0, .ref (ad t)), (1, .int a1)] → W p l e rmX9_book s m args below meth cod H locs 0 0 Q (F0 m 26 ls [.ref (ad t)]) := by
    intro  H locs ls h G hl
    rw [eK25] at h
    refine lv_iconst (v := 0) hx hb dX9_book_26 (by decide) ?_
    exact JK2 _ _ _ _ h G hl
  refine lv_if_lt (tgt := 26) hx hb dX9_book_2 (by decide) (fun q26 => ?_) (fun q26 => ?_)
  · replace h := gt_s q26 h
    exact JK25  _ _ _ h G hl
  · replace h := gf_s q26 h
    refine lv_iload_n hx hb dX9_book_5 rfl (lv_at hl 1 rfl) ?_
    refine lv_aload_n hx hb dX9_book_6 rfl (lv_at hl 0 rfl) ?_
    obtain ⟨hk27, h⟩ := gc_s h
    have ht28 : t < N := Nat.lt_of_lt_of_le (gck_lt9 hk27) hN
    refine fg_9_text F G hk27 ht28 in9 (by decide +kernel) dX9_book_7 ?_
    have hk29 : gck 1 = 7 := rfl
    have ht30 : 1 < N := Nat.lt_of_lt_of_le (by decide) hN
    refine fg_7_held F G hk29 ht30 in7 (by decide +kernel) dX9_book_10 ?_
    refine lv_icmp_gt (tgt := 26) hx hb dX9_book_13 (by decide) (fun q31 => ?_) (fun q31 => ?_)
    · replace h := gt_s q31 h
      exact JK25  _ _ _ h G hl
    · replace h := gf_s q31 h
      refine lv_iload_n hx hb dX9_book_16 rfl (lv_at hl 1 rfl) ?_
      refine lv_bipush (v := 60) hx hb dX9_book_17 (by decide) ?_
      refine lv_icmp_gt (tgt := 26) hx hb dX9_book_19 (by decide) (fun q32 => ?_) (fun q32 => ?_)
      · replace h := gt_s q32 h
        exact JK25  _ _ _ h G hl
      · replace h := gf_s q32 h
        refine lv_iconst (v := 1) hx hb dX9_book_22 (by decide) ?_
        refine lv_goto (tgt := 27) hx hb dX9_book_23 (by decide) ?_
        exact JK2 _ _ _ _ h G hl
set_option maxHeartbeats 4000000 in
set_option maxRecDepth 100000 in
theorem cx_X9_book (l : Launch) (hlt : l.stackTraces = false) (sa : gSa) (D : va_G) (ad : Nat → Nat) (cy : Nat → ClassId) (N sz : Nat) (hN : 55 ≤ N) (hI : gI ad N) (c d0 : gm) {n : Nat} {t : Nat} {a1 : Int32} {kZ : Nat} {cZ : gm} (h : m_X9_book n t a1 c = some (.inr (kZ, cZ))) : vx_Met l yX9_book wsX9_book rxX9_book (va_Pc [.ref (ad t), .int a1] (gP sa D ad cy N sz c d0)) (va_Qi (fun (_ : Int32) (_ : Unit) => False) (fun _ _ => True) (gA ad N sz)) (vx_X (fun (_ : Unit) => True) (fun E _ U => E = gxn kZ ∧ gE D ad cy N cZ d0 U) (gA ad N sz)) 1 6 (gA ad N sz) := by
  refine vx_ofW (cc := cX9_book) (maxL := 3) (ret := (some .int)) (by decide) rfl ?_
  intro p e s m args below meth cod s₁ B hml htab hv
  obtain ⟨rfl, hsz, hP, hK, hZ⟩ := hv
  have hx := B.exec
  have hb := B.bytes
  have hr := B.returns
  have hts := atoms_spec (ws := wsX9_book) B.pre
  have hown : s.vm.findClass RX9 = some m.cls := findClass_of_methodNamed B.named
  have hlocks := B.notSynchronized
  subst hsz
  have hl := lv_entry ([.ref (ad t), .int a1]) (n := 3) (Nat.le_of_ble_eq_true rfl)
  rw [lg_entry_eq]
  generalize (lg_sl ([.ref (ad t), .int a1]) ++ List.replicate (3 - (lg_sl ([.ref (ad t), .int a1])).length) Slot.unset).toArray = ls at hl ⊢
  have hl : lv_has ls 3 [(0, .ref (ad t)), (1, .int a1)] := hl
  have in7 : ∀ w ∈ wsX70, w ∈ wsX9_book := by decide +kernel
  have in9 : ∀ w ∈ wsX90, w ∈ wsX9_book := by decide +kernel
  generalize hargs : ([.ref (ad t), .int a1] : List Value).toArray = args at *
  generalize hAe : gA ad N s.heap.size = A
  have F : gF sa D ad cy N A p s m args cod cX9_book 3 wsX9_book RX9 := ⟨hx, hb, hml, hown, hts, hK, hI, by rw [← hAe]; exact gA_ad, by rw [← hAe]; exact gA_sz, by rw [← hAe]; exact hZ⟩
  have G : gW D ad cy N A s.heap c d0 s.heap [] := ⟨hP, va_S.rf⟩
  generalize hQ : vx_MQ below (va_Qi (fun (_ : Int32) (_ : Unit) => False) (fun _ _ => True) A) (vx_X (fun (_ : Unit) => True) (fun E _ U => E = gxn kZ ∧ gE D ad cy N cZ d0 U) A) args s 1 6 A = Q
  suffices hgen : ∀ (H : Heap) (locs : List Loc), gW D ad cy N A s.heap c d0 H locs → W p l e rxX9_book s m args below meth cod H locs 0 0 Q (F0 m 0 ls []) from hgen _ _ G
  clear G
  intro H locs G
  unfold m_X9_book at h
  refine lv_aload_n hx hb dX9_book_0 rfl (lv_at hl 0 rfl) ?_
  refine lv_iload_n hx hb dX9_book_1 rfl (lv_at hl 1 rfl) ?_
  obtain ⟨K2, eK2, h⟩ := gj_s h
  have JK2 : ∀ (v1 : Int32) (H : Heap) (locs : List Loc) (ls : Array Slot), K2 v1 = some (.inr (kZ, cZ)) → gW D ad cy N A s.heap c d0 H locs → lv_has ls 3 [(0, .ref (ad t)), (1, .int a1)] → W p l e rxX9_book s m args below meth cod H locs 0 0 Q (F0 m 27 ls [.int v1, .ref (ad t)]) := by
    intro v1 H locs ls h G hl
    rw [eK2] at h
    obtain ⟨hk3, h⟩ := gc_s h
    have ht4 : t < N := Nat.lt_of_lt_of_le (gck_lt9 hk3) hN
    rcases gbx_x h with hc5 | ⟨c7, hc5, h⟩
    · exact hQ ▸ gx_xv F G htab hlocks (vx_runV (As := [.int v1]) (rest := []) (gx_fix F) (cx_X9_demand l hlt sa D ad cy N H.size hN hI c d0 hc5) (cwV 1 hts gX9_book_X9_demand rfl rfl rfl (by decide +kernel) ⟨by decide, by decide⟩) (gx_rec F G ht4 (gwe_9 hk3) rfl) rfl rfl hl.1 rfl (lv_room (Nat.le_of_ble_eq_true rfl)) dX9_book_27 ⟨by decide, by decide⟩)
    · skip
      refine gx_callv F G (va_runV (As := [.int v1]) (rest := []) (gx_fix F) (c_X9_demand l sa D ad cy N H.size hN hI c d0 hc5) (cwV 1 hts gX9_book_X9_demand rfl rfl rfl (by decide +kernel) ⟨by decide, by decide⟩) (gx_rec F G ht4 (gwe_9 hk3) rfl) rfl rfl hl.1 rfl (lv_room (Nat.le_of_ble_eq_true rfl)) dX9_book_27 ⟨Nat.zero_le _, Nat.zero_le _⟩) (fun H locs G => ?_)
      exact (gok_no h).elim
  obtain ⟨K8, eK8, h⟩ := gj_s h
  have JK8 : ∀ (H : Heap) (locs : List Loc) (ls : Array Slot), K8 () = some (.inr (kZ, cZ)) → gW D ad cy N A s.heap c d0 H locs → lv_has ls 3 [(0, .ref (ad t)), (1, .int a1)] → W p l e rxX9_book s m args below meth cod H locs 0 0 Q (F0 m 26 ls [.ref (ad t)]) := by
    intro  H locs ls h G hl
    rw [eK8] at h
    refine lv_iconst (v := 0) hx hb dX9_book_26 (by decide) ?_
    exact JK2 _ _ _ _ h G hl
  refine lv_if_lt (tgt := 26) hx hb dX9_book_2 (by decide) (fun q9 => ?_) (fun q9 => ?_)
  · replace h := gt_s q9 h
    exact JK8  _ _ _ h G hl
  · replace h := gf_s q9 h
    refine lv_iload_n hx hb dX9_book_5 rfl (lv_at hl 1 rfl) ?_
    refine lv_aload_n hx hb dX9_book_6 rfl (lv_at hl 0 rfl) ?_
    obtain ⟨hk10, h⟩ := gc_s h
    have ht11 : t < N := Nat.lt_of_lt_of_le (gck_lt9 hk10) hN
    refine fg_9_text F G hk10 ht11 in9 (by decide +kernel) dX9_book_7 ?_
    have hk12 : gck 1 = 7 := rfl
    have ht13 : 1 < N := Nat.lt_of_lt_of_le (by decide) hN
    refine fg_7_held F G hk12 ht13 in7 (by decide +kernel) dX9_book_10 ?_
    refine lv_icmp_gt (tgt := 26) hx hb dX9_book_13 (by decide) (fun q14 => ?_) (fun q14 => ?_)
    · replace h := gt_s q14 h
      exact JK8  _ _ _ h G hl
    · replace h := gf_s q14 h
      refine lv_iload_n hx hb dX9_book_16 rfl (lv_at hl 1 rfl) ?_
      refine lv_bipush (v := 60) hx hb dX9_book_17 (by decide) ?_
      refine lv_icmp_gt (tgt := 26) hx hb dX9_book_19 (by decide) (fun q15 => ?_) (fun q15 => ?_)
      · replace h := gt_s q15 h
        exact JK8  _ _ _ h G hl
      · replace h := gf_s q15 h
        refine lv_iconst (v := 1) hx hb dX9_book_22 (by decide) ?_
        refine lv_goto (tgt := 27) hx hb dX9_book_23 (by decide) ?_
        exact JK2 _ _ _ _ h G hl
def m_X9_fault (t : Nat) (c : gm) : Option (Int32) :=
  gc (gck t = 9) (some (c.1 1 7))
abbrev rmX9_fault : Room := { frames := 0, cells := 0, slots := 0, locals := 0 }
set_option maxHeartbeats 4000000 in
set_option maxRecDepth 100000 in
theorem c_X9_fault (l : Launch) (sa : gSa) (D : va_G) (ad : Nat → Nat) (cy : Nat → ClassId) (N sz : Nat) (hN : 55 ≤ N) (hI : gI ad N) (c d0 : gm) {t : Nat} {rZ : Int32} (h : m_X9_fault t c = some rZ) : Met l yX9_fault wsX9_fault rmX9_fault (va_Pc [.ref (ad t)] (gP sa D ad cy N sz c d0)) (va_Qi (fun (z : Int32) (_ : Unit) => z = rZ) (fun _ U => gE D ad cy N c d0 U) (gA ad N sz)) 0 0 (gA ad N sz) := by
  refine Met.ofW (cc := cX9_fault) (maxL := 1) (ret := (some .int)) (by decide) rfl ?_
  intro p e s m args below meth cod s₁ B hml hv
  obtain ⟨rfl, hsz, hP, hK, hZ⟩ := hv
  have hx := B.exec
  have hb := B.bytes
  have hr := B.returns
  have hts := atoms_spec (ws := wsX9_fault) B.pre
  have hown : s.vm.findClass RX9 = some m.cls := findClass_of_methodNamed B.named
  have hlocks := B.notSynchronized
  subst hsz
  have hl := lv_entry ([.ref (ad t)]) (n := 1) (Nat.le_of_ble_eq_true rfl)
  rw [lg_entry_eq]
  generalize (lg_sl ([.ref (ad t)]) ++ List.replicate (1 - (lg_sl ([.ref (ad t)])).length) Slot.unset).toArray = ls at hl ⊢
  have hl : lv_has ls 1 [(0, .ref (ad t))] := hl
  have in7 : ∀ w ∈ wsX70, w ∈ wsX9_fault := by decide +kernel
  have in9 : ∀ w ∈ wsX90, w ∈ wsX9_fault := by decide +kernel
  generalize hargs : ([.ref (ad t)] : List Value).toArray = args at *
  generalize hAe : gA ad N s.heap.size = A
  have F : gF sa D ad cy N A p s m args cod cX9_fault 1 wsX9_fault RX9 := ⟨hx, hb, hml, hown, hts, hK, hI, by rw [← hAe]; exact gA_ad, by rw [← hAe]; exact gA_sz, by rw [← hAe]; exact hZ⟩
  have G : gW D ad cy N A s.heap c d0 s.heap [] := ⟨hP, va_S.rf⟩
  generalize hQ : MQ below (va_Qi (fun (z : Int32) (_ : Unit) => z = rZ) (fun _ U => gE D ad cy N c d0 U) A) args s 0 0 A = Q
  suffices hgen : ∀ (H : Heap) (locs : List Loc), gW D ad cy N A s.heap c d0 H locs → W p l e rmX9_fault s m args below meth cod H locs 0 0 Q (F0 m 0 ls []) from hgen _ _ G
  clear G
  intro H locs G
  unfold m_X9_fault at h
  refine lv_aload_n hx hb dX9_fault_0 rfl (lv_at hl 0 rfl) ?_
  obtain ⟨hk1, h⟩ := gc_s h
  have ht2 : t < N := Nat.lt_of_lt_of_le (gck_lt9 hk1) hN
  refine fg_9_text F G hk1 ht2 in9 (by decide +kernel) dX9_fault_1 ?_
  have hk3 : gck 1 = 7 := rfl
  have ht4 : 1 < N := Nat.lt_of_lt_of_le (by decide) hN
  refine fg_7_faultPlace F G hk3 ht4 in7 (by decide +kernel) dX9_fault_4 ?_
  cases h
  rw [← hQ]
  exact gx_iret F G hr hlocks dX9_fault_7
def m_X9_undo (t : Nat) (c : gm) : Option (Int32 × gm) :=
  gc (gck t = 9) ((if 0 < (c.1 17 3) then gb (m_X5_takeBack 17 3 c) (fun (c10 : gm) => gv (gm_r c10 t (upd (c10.1 t) 12 0)) (fun (c11 : gm) => some ((c11.1 17 3), c11))) else some ((-1), c)))
abbrev rmX9_undo : Room := { frames := 3, cells := 0, slots := 0, locals := 103 }
set_option maxHeartbeats 4000000 in
set_option maxRecDepth 100000 in
theorem c_X9_undo (l : Launch) (sa : gSa) (D : va_G) (ad : Nat → Nat) (cy : Nat → ClassId) (N sz : Nat) (hN : 55 ≤ N) (hI : gI ad N) (c d0 : gm) {t : Nat} {rZ : Int32} {cZ : gm} (h : m_X9_undo t c = some (rZ, cZ)) : Met l yX9_undo wsX9_undo rmX9_undo (va_Pc [.ref (ad t)] (gP sa D ad cy N sz c d0)) (va_Qi (fun (z : Int32) (_ : Unit) => z = rZ) (fun _ U => gE D ad cy N cZ d0 U) (gA ad N sz)) 0 0 (gA ad N sz) := by
  refine Met.ofW (cc := cX9_undo) (maxL := 1) (ret := (some .int)) (by decide) rfl ?_
  intro p e s m args below meth cod s₁ B hml hv
  obtain ⟨rfl, hsz, hP, hK, hZ⟩ := hv
  have hx := B.exec
  have hb := B.bytes
  have hr := B.returns
  have hts := atoms_spec (ws := wsX9_undo) B.pre
  have hown : s.vm.findClass RX9 = some m.cls := findClass_of_methodNamed B.named
  have hlocks := B.notSynchronized
  subst hsz
  have hl := lv_entry ([.ref (ad t)]) (n := 1) (Nat.le_of_ble_eq_true rfl)
  rw [lg_entry_eq]
  generalize (lg_sl ([.ref (ad t)]) ++ List.replicate (1 - (lg_sl ([.ref (ad t)])).length) Slot.unset).toArray = ls at hl ⊢
  have hl : lv_has ls 1 [(0, .ref (ad t))] := hl
  have in5 : ∀ w ∈ wsX50, w ∈ wsX9_undo := by decide +kernel
  have in9 : ∀ w ∈ wsX90, w ∈ wsX9_undo := by decide +kernel
  generalize hargs : ([.ref (ad t)] : List Value).toArray = args at *
  generalize hAe : gA ad N s.heap.size = A
  have F : gF sa D ad cy N A p s m args cod cX9_undo 1 wsX9_undo RX9 := ⟨hx, hb, hml, hown, hts, hK, hI, by rw [← hAe]; exact gA_ad, by rw [← hAe]; exact gA_sz, by rw [← hAe]; exact hZ⟩
  have G : gW D ad cy N A s.heap c d0 s.heap [] := ⟨hP, va_S.rf⟩
  generalize hQ : MQ below (va_Qi (fun (z : Int32) (_ : Unit) => z = rZ) (fun _ U => gE D ad cy N cZ d0 U) A) args s 0 0 A = Q
  suffices hgen : ∀ (H : Heap) (locs : List Loc), gW D ad cy N A s.heap c d0 H locs → W p l e rmX9_undo s m args below meth cod H locs 0 0 Q (F0 m 0 ls []) from hgen _ _ G
  clear G
  intro H locs G
  unfold m_X9_undo at h
  refine lv_aload_n hx hb dX9_undo_0 rfl (lv_at hl 0 rfl) ?_
  obtain ⟨hk1, h⟩ := gc_s h
  have ht2 : t < N := Nat.lt_of_lt_of_le (gck_lt9 hk1) hN
  refine fg_9_past F G hk1 ht2 in9 (by decide +kernel) dX9_undo_1 ?_
  have hk3 : gck 17 = 5 := rfl
  have ht4 : 17 < N := Nat.lt_of_lt_of_le (by decide) hN
  refine fg_5_works F G hk3 ht4 in5 (by decide +kernel) dX9_undo_4 ?_
  refine lv_if_gt (tgt := 12) hx hb dX9_undo_7 (by decide) (fun q5 => ?_) (fun q5 => ?_)
  · replace h := gt_s q5 h
    refine lv_aload_n hx hb dX9_undo_12 rfl (lv_at hl 0 rfl) ?_
    refine fg_9_past F G hk1 ht2 in9 (by decide +kernel) dX9_undo_13 ?_
    refine lv_aload_n hx hb dX9_undo_16 rfl (lv_at hl 0 rfl) ?_
    refine fg_9_now F G hk1 ht2 in9 (by decide +kernel) dX9_undo_17 ?_
    have hk6 : gck 3 = 6 := rfl
    have ht7 : 3 < N := Nat.lt_of_lt_of_le (by decide) hN
    obtain ⟨c10, hc8, h⟩ := gb_s h
    refine gx_callv F G (va_runV (As := [.ref (ad 3)]) (rest := []) (gx_fix F) (c_X5_takeBack l sa D ad cy N H.size hN hI c d0 hc8) (cwV 1 hts gX9_undo_X5_takeBack rfl rfl rfl (by decide +kernel) ⟨by decide, by decide⟩) (gx_rec F G ht4 (gwe_5 hk3) rfl) rfl rfl hl.1 rfl (lv_room (Nat.le_of_ble_eq_true rfl)) dX9_undo_20 ⟨Nat.zero_le _, Nat.zero_le _⟩) (fun H locs G => ?_)
    refine lv_aload_n hx hb dX9_undo_23 rfl (lv_at hl 0 rfl) ?_
    refine lv_iconst (v := 0) hx hb dX9_undo_24 (by decide) ?_
    refine fp_9_refusedSteps F G hk1 ht2 in9 (by decide +kernel) dX9_undo_25 (fun H locs G => ?_)
    obtain ⟨c11, ec11⟩ : ∃ z, z = gm_r c10 t (upd (c10.1 t) 12 0) := ⟨_, rfl⟩
    rw [← ec11] at G
    replace h := gv_s h c11 ec11
    refine lv_aload_n hx hb dX9_undo_28 rfl (lv_at hl 0 rfl) ?_
    refine fg_9_past F G hk1 ht2 in9 (by decide +kernel) dX9_undo_29 ?_
    refine fg_5_works F G hk3 ht4 in5 (by decide +kernel) dX9_undo_32 ?_
    cases h
    rw [← hQ]
    exact gx_iret F G hr hlocks dX9_undo_35
  · replace h := gf_s q5 h
    refine lv_iconst (v := (-1)) hx hb dX9_undo_10 (by decide) ?_
    cases h
    rw [← hQ]
    exact gx_iret F G hr hlocks dX9_undo_11
def m_X9_told (n : Nat) (t : Nat) (a1 : Int32) (c : gm) : Option ((Int32 × gm) ⊕ (Nat × gm)) :=
  gj (fun (v1 : Int32) => gc (gck t = 9) (gbx (m_X9_demand t v1 c) (fun (c7 : gm) => gok ((if a1 = 0 then some ((c7.1 3 5), c7) else (if a1 = 1 then some ((c7.1 3 6), c7) else (if a1 = 2 then some ((c7.1 3 9), c7) else (if a1 = 3 then some ((c7.1 3 7), c7) else (if a1 = 4 then some ((c7.1 3 8), c7) else (if a1 = 5 then gb (m_X6_weightOfAll n 3 c7) (fun (r27 : Int32) => some (r27, c7)) else (if a1 = 6 then gb (m_X6_criesNotSo n 3 c7) (fun (r32 : Int32) => some (r32, c7)) else (if a1 = 7 then gb (m_X6_thingsCried n 3 c7) (fun (r37 : Int32) => some (r37, c7)) else (if a1 = 8 then gc (gck (c7.2.2 2) = 0) (some ((c7.1 (c7.2.2 2) 5), c7)) else (if a1 = 9 then some ((c7.1 t 12), c7) else some ((c7.1 3 10), c7))))))))))))))) (fun K2 => gj (fun (_ : Unit) => K2 0) (fun K54 => (if a1 < 0 then K54 () else (if 10 < a1 then K54 () else K2 1))))
abbrev rmX9_told : Room := { frames := 7, cells := 0, slots := 0, locals := 111 }
abbrev rxX9_told : Room := { frames := 7, cells := 1, slots := 6, locals := 111 }
set_option maxHeartbeats 4000000 in
set_option maxRecDepth 100000 in
theorem c_X9_told (l : Launch) (sa : gSa) (D : va_G) (ad : Nat → Nat) (cy : Nat → ClassId) (N sz : Nat) (hN : 55 ≤ N) (hI : gI ad N) (c d0 : gm) {n : Nat} {t : Nat} {a1 : Int32} {rZ : Int32} {cZ : gm} (h : m_X9_told n t a1 c = some (.inl (rZ, cZ))) : Met l yX9_told wsX9_told rmX9_told (va_Pc [.ref (ad t), .int a1] (gP sa D ad cy N sz c d0)) (va_Qi (fun (z : Int32) (_ : Unit) => z = rZ) (fun _ U => gE D ad cy N cZ d0 U) (gA ad N sz)) 0 0 (gA ad N sz) := by
  refine Met.ofW (cc := cX9_told) (maxL := 2) (ret := (some .int)) (by decide) rfl ?_
  intro p e s m args below meth cod s₁ B hml hv
  obtain ⟨rfl, hsz, hP, hK, hZ⟩ := hv
  have hx := B.exec
  have hb := B.bytes
  have hr := B.returns
  have hts := atoms_spec (ws := wsX9_told) B.pre
  have hown : s.vm.findClass RX9 = some m.cls := findClass_of_methodNamed B.named
  have hlocks := B.notSynchronized
  subst hsz
  have hl := lv_entry ([.ref (ad t), .int a1]) (n := 2) (Nat.le_of_ble_eq_true rfl)
  rw [lg_entry_eq]
  generalize (lg_sl ([.ref (ad t), .int a1]) ++ List.replicate (2 - (lg_sl ([.ref (ad t), .int a1])).length) Slot.unset).toArray = ls at hl ⊢
  have hl : lv_has ls 2 [(0, .ref (ad t)), (1, .int a1)] := hl
  have in0 : ∀ w ∈ wsX00, w ∈ wsX9_told := by decide +kernel
  have in6 : ∀ w ∈ wsX60, w ∈ wsX9_told := by decide +kernel
  have in9 : ∀ w ∈ wsX90, w ∈ wsX9_told := by decide +kernel
  generalize hargs : ([.ref (ad t), .int a1] : List Value).toArray = args at *
  generalize hAe : gA ad N s.heap.size = A
  have F : gF sa D ad cy N A p s m args cod cX9_told 2 wsX9_told RX9 := ⟨hx, hb, hml, hown, hts, hK, hI, by rw [← hAe]; exact gA_ad, by rw [← hAe]; exact gA_sz, by rw [← hAe]; exact hZ⟩
  have G : gW D ad cy N A s.heap c d0 s.heap [] := ⟨hP, va_S.rf⟩
  generalize hQ : MQ below (va_Qi (fun (z : Int32) (_ : Unit) => z = rZ) (fun _ U => gE D ad cy N cZ d0 U) A) args s 0 0 A = Q
  suffices hgen : ∀ (H : Heap) (locs : List Loc), gW D ad cy N A s.heap c d0 H locs → W p l e rmX9_told s m args below meth cod H locs 0 0 Q (F0 m 0 ls []) from hgen _ _ G
  clear G
  intro H locs G
  unfold m_X9_told at h
  refine lv_aload_n hx hb dX9_told_0 rfl (lv_at hl 0 rfl) ?_
  refine lv_iload_n hx hb dX9_told_1 rfl (lv_at hl 1 rfl) ?_
  obtain ⟨K2, eK2, h⟩ := gj_s h
  have JK2 : ∀ (v1 : Int32) (H : Heap) (locs : List Loc) (ls : Array Slot), K2 v1 = some (.inl (rZ, cZ)) → gW D ad cy N A s.heap c d0 H locs → lv_has ls 2 [(0, .ref (ad t)), (1, .int a1)] → W p l e rmX9_told s m args below meth cod H locs 0 0 Q (F0 m 16 ls [.int v1, .ref (ad t)]) := by
    intro v1 H locs ls h G hl
    rw [eK2] at h
    obtain ⟨hk3, h⟩ := gc_s h
    have ht4 : t < N := Nat.lt_of_lt_of_le (gck_lt9 hk3) hN
    obtain ⟨c7, hc5, h⟩ := gbx_l h
    refine gx_callv F G (va_runV (As := [.int v1]) (rest := []) (gx_fix F) (c_X9_demand l sa D ad cy N H.size hN hI c d0 hc5) (cwV 1 hts gX9_told_X9_demand rfl rfl rfl (by decide +kernel) ⟨by decide, by decide⟩) (gx_rec F G ht4 (gwe_9 hk3) rfl) rfl rfl hl.1 rfl (lv_room (Nat.le_of_ble_eq_true rfl)) dX9_told_16 ⟨Nat.zero_le _, Nat.zero_le _⟩) (fun H locs G => ?_)
    replace h := gok_s h
    refine lv_iload_n hx hb dX9_told_19 rfl (lv_at hl 1 rfl) ?_
    by_cases q8 : a1 = 0
    · replace h := gt_s q8 h
      refine lv_tableIn (tgt := 76) hx hb dX9_told_20 (by rw [q8]; decide) (by rw [q8]; decide) (off := 56) (by rw [q8]; decide) (by decide) ?_
      refine lv_aload_n hx hb dX9_told_76 rfl (lv_at hl 0 rfl) ?_
      refine fg_9_now F G hk3 ht4 in9 (by decide +kernel) dX9_told_77 ?_
      have hk9 : gck 3 = 6 := rfl
      have ht10 : 3 < N := Nat.lt_of_lt_of_le (by decide) hN
      refine fg_6_things F G hk9 ht10 in6 (by decide +kernel) dX9_told_80 ?_
      cases h
      rw [← hQ]
      exact gx_iret F G hr hlocks dX9_told_83
    replace h := gf_s q8 h
    by_cases q11 : a1 = 1
    · replace h := gt_s q11 h
      refine lv_tableIn (tgt := 84) hx hb dX9_told_20 (by rw [q11]; decide) (by rw [q11]; decide) (off := 64) (by rw [q11]; decide) (by decide) ?_
      refine lv_aload_n hx hb dX9_told_84 rfl (lv_at hl 0 rfl) ?_
      refine fg_9_now F G hk3 ht4 in9 (by decide +kernel) dX9_told_85 ?_
      have hk12 : gck 3 = 6 := rfl
      have ht13 : 3 < N := Nat.lt_of_lt_of_le (by decide) hN
      refine fg_6_cries F G hk12 ht13 in6 (by decide +kernel) dX9_told_88 ?_
      cases h
      rw [← hQ]
      exact gx_iret F G hr hlocks dX9_told_91
    replace h := gf_s q11 h
    by_cases q14 : a1 = 2
    · replace h := gt_s q14 h
      refine lv_tableIn (tgt := 92) hx hb dX9_told_20 (by rw [q14]; decide) (by rw [q14]; decide) (off := 72) (by rw [q14]; decide) (by decide) ?_
      refine lv_aload_n hx hb dX9_told_92 rfl (lv_at hl 0 rfl) ?_
      refine fg_9_now F G hk3 ht4 in9 (by decide +kernel) dX9_told_93 ?_
      have hk15 : gck 3 = 6 := rfl
      have ht16 : 3 < N := Nat.lt_of_lt_of_le (by decide) hN
      refine fg_6_day F G hk15 ht16 in6 (by decide +kernel) dX9_told_96 ?_
      cases h
      rw [← hQ]
      exact gx_iret F G hr hlocks dX9_told_99
    replace h := gf_s q14 h
    by_cases q17 : a1 = 3
    · replace h := gt_s q17 h
      refine lv_tableIn (tgt := 100) hx hb dX9_told_20 (by rw [q17]; decide) (by rw [q17]; decide) (off := 80) (by rw [q17]; decide) (by decide) ?_
      refine lv_aload_n hx hb dX9_told_100 rfl (lv_at hl 0 rfl) ?_
      refine fg_9_now F G hk3 ht4 in9 (by decide +kernel) dX9_told_101 ?_
      have hk18 : gck 3 = 6 := rfl
      have ht19 : 3 < N := Nat.lt_of_lt_of_le (by decide) hN
      refine fg_6_lean F G hk18 ht19 in6 (by decide +kernel) dX9_told_104 ?_
      cases h
      rw [← hQ]
      exact gx_iret F G hr hlocks dX9_told_107
    replace h := gf_s q17 h
    by_cases q20 : a1 = 4
    · replace h := gt_s q20 h
      refine lv_tableIn (tgt := 108) hx hb dX9_told_20 (by rw [q20]; decide) (by rw [q20]; decide) (off := 88) (by rw [q20]; decide) (by decide) ?_
      refine lv_aload_n hx hb dX9_told_108 rfl (lv_at hl 0 rfl) ?_
      refine fg_9_now F G hk3 ht4 in9 (by decide +kernel) dX9_told_109 ?_
      have hk21 : gck 3 = 6 := rfl
      have ht22 : 3 < N := Nat.lt_of_lt_of_le (by decide) hN
      refine fg_6_play F G hk21 ht22 in6 (by decide +kernel) dX9_told_112 ?_
      cases h
      rw [← hQ]
      exact gx_iret F G hr hlocks dX9_told_115
    replace h := gf_s q20 h
    by_cases q23 : a1 = 5
    · replace h := gt_s q23 h
      refine lv_tableIn (tgt := 116) hx hb dX9_told_20 (by rw [q23]; decide) (by rw [q23]; decide) (off := 96) (by rw [q23]; decide) (by decide) ?_
      refine lv_aload_n hx hb dX9_told_116 rfl (lv_at hl 0 rfl) ?_
      refine fg_9_now F G hk3 ht4 in9 (by decide +kernel) dX9_told_117 ?_
      have hk24 : gck 3 = 6 := rfl
      have ht25 : 3 < N := Nat.lt_of_lt_of_le (by decide) hN
      obtain ⟨r27, hc26, h⟩ := gb_s h
      refine gx_calli F G (va_runV (As := []) (rest := []) (gx_fix F) (c_X6_weightOfAll l sa D ad cy N H.size hN hI c7 d0 hc26) (cwV 0 hts gX9_told_X6_weightOfAll rfl rfl rfl (by decide +kernel) ⟨by decide, by decide⟩) (gx_rec F G ht25 (gwe_6 hk24) rfl) rfl rfl hl.1 rfl (lv_room (Nat.le_of_ble_eq_true rfl)) dX9_told_120 ⟨Nat.zero_le _, Nat.zero_le _⟩) (fun H locs G => ?_)
      cases h
      rw [← hQ]
      exact gx_iret F G hr hlocks dX9_told_123
    replace h := gf_s q23 h
    by_cases q28 : a1 = 6
    · replace h := gt_s q28 h
      refine lv_tableIn (tgt := 124) hx hb dX9_told_20 (by rw [q28]; decide) (by rw [q28]; decide) (off := 104) (by rw [q28]; decide) (by decide) ?_
      refine lv_aload_n hx hb dX9_told_124 rfl (lv_at hl 0 rfl) ?_
      refine fg_9_now F G hk3 ht4 in9 (by decide +kernel) dX9_told_125 ?_
      have hk29 : gck 3 = 6 := rfl
      have ht30 : 3 < N := Nat.lt_of_lt_of_le (by decide) hN
      obtain ⟨r32, hc31, h⟩ := gb_s h
      refine gx_calli F G (va_runV (As := []) (rest := []) (gx_fix F) (c_X6_criesNotSo l sa D ad cy N H.size hN hI c7 d0 hc31) (cwV 0 hts gX9_told_X6_criesNotSo rfl rfl rfl (by decide +kernel) ⟨by decide, by decide⟩) (gx_rec F G ht30 (gwe_6 hk29) rfl) rfl rfl hl.1 rfl (lv_room (Nat.le_of_ble_eq_true rfl)) dX9_told_128 ⟨Nat.zero_le _, Nat.zero_le _⟩) (fun H locs G => ?_)
      cases h
      rw [← hQ]
      exact gx_iret F G hr hlocks dX9_told_131
    replace h := gf_s q28 h
    by_cases q33 : a1 = 7
    · replace h := gt_s q33 h
      refine lv_tableIn (tgt := 132) hx hb dX9_told_20 (by rw [q33]; decide) (by rw [q33]; decide) (off := 112) (by rw [q33]; decide) (by decide) ?_
      refine lv_aload_n hx hb dX9_told_132 rfl (lv_at hl 0 rfl) ?_
      refine fg_9_now F G hk3 ht4 in9 (by decide +kernel) dX9_told_133 ?_
      have hk34 : gck 3 = 6 := rfl
      have ht35 : 3 < N := Nat.lt_of_lt_of_le (by decide) hN
      obtain ⟨r37, hc36, h⟩ := gb_s h
      refine gx_calli F G (va_runV (As := []) (rest := []) (gx_fix F) (c_X6_thingsCried l sa D ad cy N H.size hN hI c7 d0 hc36) (cwV 0 hts gX9_told_X6_thingsCried rfl rfl rfl (by decide +kernel) ⟨by decide, by decide⟩) (gx_rec F G ht35 (gwe_6 hk34) rfl) rfl rfl hl.1 rfl (lv_room (Nat.le_of_ble_eq_true rfl)) dX9_told_136 ⟨Nat.zero_le _, Nat.zero_le _⟩) (fun H locs G => ?_)
      cases h
      rw [← hQ]
      exact gx_iret F G hr hlocks dX9_told_139
    replace h := gf_s q33 h
    by_cases q38 : a1 = 8
    · replace h := gt_s q38 h
      refine lv_tableIn (tgt := 140) hx hb dX9_told_20 (by rw [q38]; decide) (by rw [q38]; decide) (off := 120) (by rw [q38]; decide) (by decide) ?_
      refine lv_aload_n hx hb dX9_told_140 rfl (lv_at hl 0 rfl) ?_
      refine fg_9_lines F G hk3 ht4 in9 (by decide +kernel) dX9_told_141 ?_
      obtain ⟨hk39, h⟩ := gc_s h
      have ht40 : (c7.2.2 2) < N := Nat.lt_of_lt_of_le (gck_lt0 hk39) hN
      refine fg_0_size F G hk39 ht40 in0 (by decide +kernel) dX9_told_144 ?_
      cases h
      rw [← hQ]
      exact gx_iret F G hr hlocks dX9_told_147
    replace h := gf_s q38 h
    by_cases q41 : a1 = 9
    · replace h := gt_s q41 h
      refine lv_tableIn (tgt := 148) hx hb dX9_told_20 (by rw [q41]; decide) (by rw [q41]; decide) (off := 128) (by rw [q41]; decide) (by decide) ?_
      refine lv_aload_n hx hb dX9_told_148 rfl (lv_at hl 0 rfl) ?_
      refine fg_9_refusedSteps F G hk3 ht4 in9 (by decide +kernel) dX9_told_149 ?_
      cases h
      rw [← hQ]
      exact gx_iret F G hr hlocks dX9_told_152
    replace h := gf_s q41 h
    have nn42 := lv_neT q8 (show (0 : Int32).toInt = 0 by decide)
    have nn43 := lv_neT q11 (show (1 : Int32).toInt = 1 by decide)
    have nn44 := lv_neT q14 (show (2 : Int32).toInt = 2 by decide)
    have nn45 := lv_neT q17 (show (3 : Int32).toInt = 3 by decide)
    have nn46 := lv_neT q20 (show (4 : Int32).toInt = 4 by decide)
    have nn47 := lv_neT q23 (show (5 : Int32).toInt = 5 by decide)
    have nn48 := lv_neT q28 (show (6 : Int32).toInt = 6 by decide)
    have nn49 := lv_neT q33 (show (7 : Int32).toInt = 7 by decide)
    have nn50 := lv_neT q38 (show (8 : Int32).toInt = 8 by decide)
    have nn51 := lv_neT q41 (show (9 : Int32).toInt = 9 by decide)
    refine lv_tableOut (tgt := 153) hx hb dX9_told_20 (by omega) (by decide) ?_
    refine lv_aload_n hx hb dX9_told_153 rfl (lv_at hl 0 rfl) ?_
    refine fg_9_now F G hk3 ht4 in9 (by decide +kernel) dX9_told_154 ?_
    have hk52 : gck 3 = 6 := rfl
    have ht53 : 3 < N := Nat.lt_of_lt_of_le (by decide) hN
    refine fg_6_weighings F G hk52 ht53 in6 (by decide +kernel) dX9_told_157 ?_
    cases h
    rw [← hQ]
    exact gx_iret F G hr hlocks dX9_told_160
  obtain ⟨K54, eK54, h⟩ := gj_s h
  have JK54 : ∀ (H : Heap) (locs : List Loc) (ls : Array Slot), K54 () = some (.inl (rZ, cZ)) → gW D ad cy N A s.heap c d0 H locs → lv_has ls 2 [(0, .ref (ad t)), (1, .int a1)] → W p l e rmX9_told s m args below meth cod H locs 0 0 Q (F0 m 15 ls [.ref (ad t)]) := by
    intro  H locs ls h G hl
    rw [eK54] at h
    refine lv_iconst (v := 0) hx hb dX9_told_15 (by decide) ?_
    exact JK2 _ _ _ _ h G hl
  refine lv_if_lt (tgt := 15) hx hb dX9_told_2 (by decide) (fun q55 => ?_) (fun q55 => ?_)
  · replace h := gt_s q55 h
    exact JK54  _ _ _ h G hl
  · replace h := gf_s q55 h
    refine lv_iload_n hx hb dX9_told_5 rfl (lv_at hl 1 rfl) ?_
    refine lv_bipush (v := 10) hx hb dX9_told_6 (by decide) ?_
    refine lv_icmp_gt (tgt := 15) hx hb dX9_told_8 (by decide) (fun q56 => ?_) (fun q56 => ?_)
    · replace h := gt_s q56 h
      exact JK54  _ _ _ h G hl
    · replace h := gf_s q56 h
      refine lv_iconst (v := 1) hx hb dX9_told_11 (by decide) ?_
      refine lv_goto (tgt := 16) hx hb dX9_told_12 (by decide) ?_
      exact JK2 _ _ _ _ h G hl
set_option maxHeartbeats 4000000 in
set_option maxRecDepth 100000 in
theorem cx_X9_told (l : Launch) (hlt : l.stackTraces = false) (sa : gSa) (D : va_G) (ad : Nat → Nat) (cy : Nat → ClassId) (N sz : Nat) (hN : 55 ≤ N) (hI : gI ad N) (c d0 : gm) {n : Nat} {t : Nat} {a1 : Int32} {kZ : Nat} {cZ : gm} (h : m_X9_told n t a1 c = some (.inr (kZ, cZ))) : vx_Met l yX9_told wsX9_told rxX9_told (va_Pc [.ref (ad t), .int a1] (gP sa D ad cy N sz c d0)) (va_Qi (fun (_ : Int32) (_ : Unit) => False) (fun _ _ => True) (gA ad N sz)) (vx_X (fun (_ : Unit) => True) (fun E _ U => E = gxn kZ ∧ gE D ad cy N cZ d0 U) (gA ad N sz)) 1 6 (gA ad N sz) := by
  refine vx_ofW (cc := cX9_told) (maxL := 2) (ret := (some .int)) (by decide) rfl ?_
  intro p e s m args below meth cod s₁ B hml htab hv
  obtain ⟨rfl, hsz, hP, hK, hZ⟩ := hv
  have hx := B.exec
  have hb := B.bytes
  have hr := B.returns
  have hts := atoms_spec (ws := wsX9_told) B.pre
  have hown : s.vm.findClass RX9 = some m.cls := findClass_of_methodNamed B.named
  have hlocks := B.notSynchronized
  subst hsz
  have hl := lv_entry ([.ref (ad t), .int a1]) (n := 2) (Nat.le_of_ble_eq_true rfl)
  rw [lg_entry_eq]
  generalize (lg_sl ([.ref (ad t), .int a1]) ++ List.replicate (2 - (lg_sl ([.ref (ad t), .int a1])).length) Slot.unset).toArray = ls at hl ⊢
  have hl : lv_has ls 2 [(0, .ref (ad t)), (1, .int a1)] := hl
  generalize hargs : ([.ref (ad t), .int a1] : List Value).toArray = args at *
  generalize hAe : gA ad N s.heap.size = A
  have F : gF sa D ad cy N A p s m args cod cX9_told 2 wsX9_told RX9 := ⟨hx, hb, hml, hown, hts, hK, hI, by rw [← hAe]; exact gA_ad, by rw [← hAe]; exact gA_sz, by rw [← hAe]; exact hZ⟩
  have G : gW D ad cy N A s.heap c d0 s.heap [] := ⟨hP, va_S.rf⟩
  generalize hQ : vx_MQ below (va_Qi (fun (_ : Int32) (_ : Unit) => False) (fun _ _ => True) A) (vx_X (fun (_ : Unit) => True) (fun E _ U => E = gxn kZ ∧ gE D ad cy N cZ d0 U) A) args s 1 6 A = Q
  suffices hgen : ∀ (H : Heap) (locs : List Loc), gW D ad cy N A s.heap c d0 H locs → W p l e rxX9_told s m args below meth cod H locs 0 0 Q (F0 m 0 ls []) from hgen _ _ G
  clear G
  intro H locs G
  unfold m_X9_told at h
  refine lv_aload_n hx hb dX9_told_0 rfl (lv_at hl 0 rfl) ?_
  refine lv_iload_n hx hb dX9_told_1 rfl (lv_at hl 1 rfl) ?_
  obtain ⟨K2, eK2, h⟩ := gj_s h
  have JK2 : ∀ (v1 : Int32) (H : Heap) (locs : List Loc) (ls : Array Slot), K2 v1 = some (.inr (kZ, cZ)) → gW D ad cy N A s.heap c d0 H locs → lv_has ls 2 [(0, .ref (ad t)), (1, .int a1)] → W p l e rxX9_told s m args below meth cod H locs 0 0 Q (F0 m 16 ls [.int v1, .ref (ad t)]) := by
    intro v1 H locs ls h G hl
    rw [eK2] at h
    obtain ⟨hk3, h⟩ := gc_s h
    have ht4 : t < N := Nat.lt_of_lt_of_le (gck_lt9 hk3) hN
    rcases gbx_x h with hc5 | ⟨c7, hc5, h⟩
    · exact hQ ▸ gx_xv F G htab hlocks (vx_runV (As := [.int v1]) (rest := []) (gx_fix F) (cx_X9_demand l hlt sa D ad cy N H.size hN hI c d0 hc5) (cwV 1 hts gX9_told_X9_demand rfl rfl rfl (by decide +kernel) ⟨by decide, by decide⟩) (gx_rec F G ht4 (gwe_9 hk3) rfl) rfl rfl hl.1 rfl (lv_room (Nat.le_of_ble_eq_true rfl)) dX9_told_16 ⟨by decide, by decide⟩)
    · skip
      refine gx_callv F G (va_runV (As := [.int v1]) (rest := []) (gx_fix F) (c_X9_demand l sa D ad cy N H.size hN hI c d0 hc5) (cwV 1 hts gX9_told_X9_demand rfl rfl rfl (by decide +kernel) ⟨by decide, by decide⟩) (gx_rec F G ht4 (gwe_9 hk3) rfl) rfl rfl hl.1 rfl (lv_room (Nat.le_of_ble_eq_true rfl)) dX9_told_16 ⟨Nat.zero_le _, Nat.zero_le _⟩) (fun H locs G => ?_)
      exact (gok_no h).elim
  obtain ⟨K8, eK8, h⟩ := gj_s h
  have JK8 : ∀ (H : Heap) (locs : List Loc) (ls : Array Slot), K8 () = some (.inr (kZ, cZ)) → gW D ad cy N A s.heap c d0 H locs → lv_has ls 2 [(0, .ref (ad t)), (1, .int a1)] → W p l e rxX9_told s m args below meth cod H locs 0 0 Q (F0 m 15 ls [.ref (ad t)]) := by
    intro  H locs ls h G hl
    rw [eK8] at h
    refine lv_iconst (v := 0) hx hb dX9_told_15 (by decide) ?_
    exact JK2 _ _ _ _ h G hl
  refine lv_if_lt (tgt := 15) hx hb dX9_told_2 (by decide) (fun q9 => ?_) (fun q9 => ?_)
  · replace h := gt_s q9 h
    exact JK8  _ _ _ h G hl
  · replace h := gf_s q9 h
    refine lv_iload_n hx hb dX9_told_5 rfl (lv_at hl 1 rfl) ?_
    refine lv_bipush (v := 10) hx hb dX9_told_6 (by decide) ?_
    refine lv_icmp_gt (tgt := 15) hx hb dX9_told_8 (by decide) (fun q10 => ?_) (fun q10 => ?_)
    · replace h := gt_s q10 h
      exact JK8  _ _ _ h G hl
    · replace h := gf_s q10 h
      refine lv_iconst (v := 1) hx hb dX9_told_11 (by decide) ?_
      refine lv_goto (tgt := 16) hx hb dX9_told_12 (by decide) ?_
      exact JK2 _ _ _ _ h G hl
def m_X9_demandPresent (t : Nat) (a1 : Int32) (c : gm) : Option ((gm) ⊕ (Nat × gm)) :=
  (if a1 = 0 then gc (gck t = 9) (gv (gm_r c t (upd (c.1 t) 13 ((c.1 t 13) + 1))) (fun (c4 : gm) => some (.inr (0, c4)))) else gok (some c))
abbrev rmX9_demandPresent : Room := { frames := 6, cells := 0, slots := 0, locals := 90 }
abbrev rxX9_demandPresent : Room := { frames := 6, cells := 1, slots := 6, locals := 90 }
set_option maxHeartbeats 4000000 in
set_option maxRecDepth 100000 in
theorem c_X9_demandPresent (l : Launch) (sa : gSa) (D : va_G) (ad : Nat → Nat) (cy : Nat → ClassId) (N sz : Nat) (hN : 55 ≤ N) (hI : gI ad N) (c d0 : gm) {t : Nat} {a1 : Int32} {cZ : gm} (h : m_X9_demandPresent t a1 c = some (.inl cZ)) : Met l yX9_demandPresent wsX9_demandPresent rmX9_demandPresent (va_Pc [.ref (ad t), .int a1] (gP sa D ad cy N sz c d0)) (va_Qv (fun (_ : Unit) => True) (fun _ U => gE D ad cy N cZ d0 U) (gA ad N sz)) 0 0 (gA ad N sz) := by
  refine Met.ofW (cc := cX9_demandPresent) (maxL := 2) (ret := none) (by decide) rfl ?_
  intro p e s m args below meth cod s₁ B hml hv
  obtain ⟨rfl, hsz, hP, hK, hZ⟩ := hv
  have hx := B.exec
  have hb := B.bytes
  have hr := B.returns
  have hts := atoms_spec (ws := wsX9_demandPresent) B.pre
  have hown : s.vm.findClass RX9 = some m.cls := findClass_of_methodNamed B.named
  have hlocks := B.notSynchronized
  subst hsz
  have hl := lv_entry ([.ref (ad t), .int a1]) (n := 2) (Nat.le_of_ble_eq_true rfl)
  rw [lg_entry_eq]
  generalize (lg_sl ([.ref (ad t), .int a1]) ++ List.replicate (2 - (lg_sl ([.ref (ad t), .int a1])).length) Slot.unset).toArray = ls at hl ⊢
  have hl : lv_has ls 2 [(0, .ref (ad t)), (1, .int a1)] := hl
  have in9 : ∀ w ∈ wsX90, w ∈ wsX9_demandPresent := by decide +kernel
  generalize hargs : ([.ref (ad t), .int a1] : List Value).toArray = args at *
  generalize hAe : gA ad N s.heap.size = A
  have F : gF sa D ad cy N A p s m args cod cX9_demandPresent 2 wsX9_demandPresent RX9 := ⟨hx, hb, hml, hown, hts, hK, hI, by rw [← hAe]; exact gA_ad, by rw [← hAe]; exact gA_sz, by rw [← hAe]; exact hZ⟩
  have G : gW D ad cy N A s.heap c d0 s.heap [] := ⟨hP, va_S.rf⟩
  generalize hQ : MQ below (va_Qv (fun (_ : Unit) => True) (fun _ U => gE D ad cy N cZ d0 U) A) args s 0 0 A = Q
  suffices hgen : ∀ (H : Heap) (locs : List Loc), gW D ad cy N A s.heap c d0 H locs → W p l e rmX9_demandPresent s m args below meth cod H locs 0 0 Q (F0 m 0 ls []) from hgen _ _ G
  clear G
  intro H locs G
  unfold m_X9_demandPresent at h
  refine lv_iload_n hx hb dX9_demandPresent_0 rfl (lv_at hl 1 rfl) ?_
  refine lv_if_ne (tgt := 25) hx hb dX9_demandPresent_1 (by decide) (fun q1 => ?_) (fun q1 => ?_)
  · replace h := gf_s q1 h
    replace h := gok_s h
    cases h
    rw [← hQ]
    exact gx_vret F G hr hlocks dX9_demandPresent_25
  · replace h := gt_s q1 h
    refine lv_aload_n hx hb dX9_demandPresent_4 rfl (lv_at hl 0 rfl) ?_
    refine lv_dup hx hb dX9_demandPresent_5 rfl ?_
    obtain ⟨hk2, h⟩ := gc_s h
    have ht3 : t < N := Nat.lt_of_lt_of_le (gck_lt9 hk2) hN
    refine fg_9_noSuchCalls F G hk2 ht3 in9 (by decide +kernel) dX9_demandPresent_6 ?_
    refine lv_iconst (v := 1) hx hb dX9_demandPresent_9 (by decide) ?_
    refine lv_iadd hx hb dX9_demandPresent_10 ?_
    refine fp_9_noSuchCalls F G hk2 ht3 in9 (by decide +kernel) dX9_demandPresent_11 (fun H locs G => ?_)
    obtain ⟨c4, ec4⟩ : ∃ z, z = gm_r c t (upd (c.1 t) 13 ((c.1 t 13) + 1)) := ⟨_, rfl⟩
    rw [← ec4] at G
    replace h := gv_s h c4 ec4
    cases h
set_option maxHeartbeats 4000000 in
set_option maxRecDepth 100000 in
theorem cx_X9_demandPresent (l : Launch) (hlt : l.stackTraces = false) (sa : gSa) (D : va_G) (ad : Nat → Nat) (cy : Nat → ClassId) (N sz : Nat) (hN : 55 ≤ N) (hI : gI ad N) (c d0 : gm) {t : Nat} {a1 : Int32} {kZ : Nat} {cZ : gm} (h : m_X9_demandPresent t a1 c = some (.inr (kZ, cZ))) : vx_Met l yX9_demandPresent wsX9_demandPresent rxX9_demandPresent (va_Pc [.ref (ad t), .int a1] (gP sa D ad cy N sz c d0)) (va_Qv (fun (_ : Unit) => False) (fun _ _ => True) (gA ad N sz)) (vx_X (fun (_ : Unit) => True) (fun E _ U => E = gxn kZ ∧ gE D ad cy N cZ d0 U) (gA ad N sz)) 1 6 (gA ad N sz) := by
  refine vx_ofW (cc := cX9_demandPresent) (maxL := 2) (ret := none) (by decide) rfl ?_
  intro p e s m args below meth cod s₁ B hml htab hv
  obtain ⟨rfl, hsz, hP, hK, hZ⟩ := hv
  have hx := B.exec
  have hb := B.bytes
  have hr := B.returns
  have hts := atoms_spec (ws := wsX9_demandPresent) B.pre
  have hown : s.vm.findClass RX9 = some m.cls := findClass_of_methodNamed B.named
  have hlocks := B.notSynchronized
  subst hsz
  have hl := lv_entry ([.ref (ad t), .int a1]) (n := 2) (Nat.le_of_ble_eq_true rfl)
  rw [lg_entry_eq]
  generalize (lg_sl ([.ref (ad t), .int a1]) ++ List.replicate (2 - (lg_sl ([.ref (ad t), .int a1])).length) Slot.unset).toArray = ls at hl ⊢
  have hl : lv_has ls 2 [(0, .ref (ad t)), (1, .int a1)] := hl
  have in9 : ∀ w ∈ wsX90, w ∈ wsX9_demandPresent := by decide +kernel
  generalize hargs : ([.ref (ad t), .int a1] : List Value).toArray = args at *
  generalize hAe : gA ad N s.heap.size = A
  have F : gF sa D ad cy N A p s m args cod cX9_demandPresent 2 wsX9_demandPresent RX9 := ⟨hx, hb, hml, hown, hts, hK, hI, by rw [← hAe]; exact gA_ad, by rw [← hAe]; exact gA_sz, by rw [← hAe]; exact hZ⟩
  have G : gW D ad cy N A s.heap c d0 s.heap [] := ⟨hP, va_S.rf⟩
  generalize hQ : vx_MQ below (va_Qv (fun (_ : Unit) => False) (fun _ _ => True) A) (vx_X (fun (_ : Unit) => True) (fun E _ U => E = gxn kZ ∧ gE D ad cy N cZ d0 U) A) args s 1 6 A = Q
  suffices hgen : ∀ (H : Heap) (locs : List Loc), gW D ad cy N A s.heap c d0 H locs → W p l e rxX9_demandPresent s m args below meth cod H locs 0 0 Q (F0 m 0 ls []) from hgen _ _ G
  clear G
  intro H locs G
  unfold m_X9_demandPresent at h
  have gat_X9_demandPresent := gatX9_demandPresent hts F.2.2.2.2.2.2.2.2.2
  refine lv_iload_n hx hb dX9_demandPresent_0 rfl (lv_at hl 1 rfl) ?_
  refine lv_if_ne (tgt := 25) hx hb dX9_demandPresent_1 (by decide) (fun q1 => ?_) (fun q1 => ?_)
  · replace h := gf_s q1 h
    exact (gok_no h).elim
  · replace h := gt_s q1 h
    refine lv_aload_n hx hb dX9_demandPresent_4 rfl (lv_at hl 0 rfl) ?_
    refine lv_dup hx hb dX9_demandPresent_5 rfl ?_
    obtain ⟨hk2, h⟩ := gc_s h
    have ht3 : t < N := Nat.lt_of_lt_of_le (gck_lt9 hk2) hN
    refine fg_9_noSuchCalls F G hk2 ht3 in9 (by decide +kernel) dX9_demandPresent_6 ?_
    refine lv_iconst (v := 1) hx hb dX9_demandPresent_9 (by decide) ?_
    refine lv_iadd hx hb dX9_demandPresent_10 ?_
    refine fp_9_noSuchCalls F G hk2 ht3 in9 (by decide +kernel) dX9_demandPresent_11 (fun H locs G => ?_)
    obtain ⟨c4, ec4⟩ : ∃ z, z = gm_r c t (upd (c.1 t) 13 ((c.1 t 13) + 1)) := ⟨_, rfl⟩
    rw [← ec4] at G
    replace h := gv_s h c4 ec4
    cases h
    rw [← hQ]
    refine gns_throw hx hb hlt (A := A) hown (hts (.classLink RX9 343 "java/util/NoSuchElementException") (by decide +kernel)) (hts (.initialized "java/util/NoSuchElementException") (by decide +kernel)) (gZ_site F.2.2.2.2.2.2.2.2.2 _ 345 "there is none such" 17 (by decide)) gat_X9_demandPresent F.2.2.2.2.2.2.2.2.2.2.2.1.1 F.2.2.2.2.2.2.2.2.2.2.2.1.2 G.2 (hl.1.trans hml.symm) dX9_demandPresent_14 dX9_demandPresent_17 dX9_demandPresent_18 dX9_demandPresent_21 dX9_demandPresent_24 (fun x h => (htab x h).elim) (by decide) (by decide) (by decide) (by decide) hlocks (fun t hvm hz hk => ?_) G.2.2.2 (by decide) (by decide)
    exact gx_thrown F G rfl hvm hz hk
def m_X9_demandThing (t : Nat) (a1 : Int32) (c : gm) : Option ((gm) ⊕ (Nat × gm)) :=
  gc (gck t = 9) (gb (m_X6_isThing 3 a1 c) (fun (r6 : Int32) => gbx (m_X9_demandPresent t r6 c) (fun (c9 : gm) => gok (some c9))))
abbrev rmX9_demandThing : Room := { frames := 7, cells := 0, slots := 0, locals := 111 }
abbrev rxX9_demandThing : Room := { frames := 7, cells := 1, slots := 6, locals := 111 }
set_option maxHeartbeats 4000000 in
set_option maxRecDepth 100000 in
theorem c_X9_demandThing (l : Launch) (sa : gSa) (D : va_G) (ad : Nat → Nat) (cy : Nat → ClassId) (N sz : Nat) (hN : 55 ≤ N) (hI : gI ad N) (c d0 : gm) {t : Nat} {a1 : Int32} {cZ : gm} (h : m_X9_demandThing t a1 c = some (.inl cZ)) : Met l yX9_demandThing wsX9_demandThing rmX9_demandThing (va_Pc [.ref (ad t), .int a1] (gP sa D ad cy N sz c d0)) (va_Qv (fun (_ : Unit) => True) (fun _ U => gE D ad cy N cZ d0 U) (gA ad N sz)) 0 0 (gA ad N sz) := by
  refine Met.ofW (cc := cX9_demandThing) (maxL := 2) (ret := none) (by decide) rfl ?_
  intro p e s m args below meth cod s₁ B hml hv
  obtain ⟨rfl, hsz, hP, hK, hZ⟩ := hv
  have hx := B.exec
  have hb := B.bytes
  have hr := B.returns
  have hts := atoms_spec (ws := wsX9_demandThing) B.pre
  have hown : s.vm.findClass RX9 = some m.cls := findClass_of_methodNamed B.named
  have hlocks := B.notSynchronized
  subst hsz
  have hl := lv_entry ([.ref (ad t), .int a1]) (n := 2) (Nat.le_of_ble_eq_true rfl)
  rw [lg_entry_eq]
  generalize (lg_sl ([.ref (ad t), .int a1]) ++ List.replicate (2 - (lg_sl ([.ref (ad t), .int a1])).length) Slot.unset).toArray = ls at hl ⊢
  have hl : lv_has ls 2 [(0, .ref (ad t)), (1, .int a1)] := hl
  have in9 : ∀ w ∈ wsX90, w ∈ wsX9_demandThing := by decide +kernel
  generalize hargs : ([.ref (ad t), .int a1] : List Value).toArray = args at *
  generalize hAe : gA ad N s.heap.size = A
  have F : gF sa D ad cy N A p s m args cod cX9_demandThing 2 wsX9_demandThing RX9 := ⟨hx, hb, hml, hown, hts, hK, hI, by rw [← hAe]; exact gA_ad, by rw [← hAe]; exact gA_sz, by rw [← hAe]; exact hZ⟩
  have G : gW D ad cy N A s.heap c d0 s.heap [] := ⟨hP, va_S.rf⟩
  generalize hQ : MQ below (va_Qv (fun (_ : Unit) => True) (fun _ U => gE D ad cy N cZ d0 U) A) args s 0 0 A = Q
  suffices hgen : ∀ (H : Heap) (locs : List Loc), gW D ad cy N A s.heap c d0 H locs → W p l e rmX9_demandThing s m args below meth cod H locs 0 0 Q (F0 m 0 ls []) from hgen _ _ G
  clear G
  intro H locs G
  unfold m_X9_demandThing at h
  refine lv_aload_n hx hb dX9_demandThing_0 rfl (lv_at hl 0 rfl) ?_
  refine lv_aload_n hx hb dX9_demandThing_1 rfl (lv_at hl 0 rfl) ?_
  obtain ⟨hk1, h⟩ := gc_s h
  have ht2 : t < N := Nat.lt_of_lt_of_le (gck_lt9 hk1) hN
  refine fg_9_now F G hk1 ht2 in9 (by decide +kernel) dX9_demandThing_2 ?_
  have hk3 : gck 3 = 6 := rfl
  have ht4 : 3 < N := Nat.lt_of_lt_of_le (by decide) hN
  refine lv_iload_n hx hb dX9_demandThing_5 rfl (lv_at hl 1 rfl) ?_
  obtain ⟨r6, hc5, h⟩ := gb_s h
  refine gx_calli F G (va_runV (As := [.int a1]) (rest := [.ref (ad t)]) (gx_fix F) (c_X6_isThing l sa D ad cy N H.size hN hI c d0 hc5) (cwV 1 hts gX9_demandThing_X6_isThing rfl rfl rfl (by decide +kernel) ⟨by decide, by decide⟩) (gx_rec F G ht4 (gwe_6 hk3) rfl) rfl rfl hl.1 rfl (lv_room (Nat.le_of_ble_eq_true rfl)) dX9_demandThing_6 ⟨Nat.zero_le _, Nat.zero_le _⟩) (fun H locs G => ?_)
  obtain ⟨c9, hc7, h⟩ := gbx_l h
  refine gx_callv F G (va_runV (As := [.int r6]) (rest := []) (gx_fix F) (c_X9_demandPresent l sa D ad cy N H.size hN hI c d0 hc7) (cwV 1 hts gX9_demandThing_X9_demandPresent rfl rfl rfl (by decide +kernel) ⟨by decide, by decide⟩) (gx_rec F G ht2 (gwe_9 hk1) rfl) rfl rfl hl.1 rfl (lv_room (Nat.le_of_ble_eq_true rfl)) dX9_demandThing_9 ⟨Nat.zero_le _, Nat.zero_le _⟩) (fun H locs G => ?_)
  replace h := gok_s h
  cases h
  rw [← hQ]
  exact gx_vret F G hr hlocks dX9_demandThing_12
set_option maxHeartbeats 4000000 in
set_option maxRecDepth 100000 in
theorem cx_X9_demandThing (l : Launch) (hlt : l.stackTraces = false) (sa : gSa) (D : va_G) (ad : Nat → Nat) (cy : Nat → ClassId) (N sz : Nat) (hN : 55 ≤ N) (hI : gI ad N) (c d0 : gm) {t : Nat} {a1 : Int32} {kZ : Nat} {cZ : gm} (h : m_X9_demandThing t a1 c = some (.inr (kZ, cZ))) : vx_Met l yX9_demandThing wsX9_demandThing rxX9_demandThing (va_Pc [.ref (ad t), .int a1] (gP sa D ad cy N sz c d0)) (va_Qv (fun (_ : Unit) => False) (fun _ _ => True) (gA ad N sz)) (vx_X (fun (_ : Unit) => True) (fun E _ U => E = gxn kZ ∧ gE D ad cy N cZ d0 U) (gA ad N sz)) 1 6 (gA ad N sz) := by
  refine vx_ofW (cc := cX9_demandThing) (maxL := 2) (ret := none) (by decide) rfl ?_
  intro p e s m args below meth cod s₁ B hml htab hv
  obtain ⟨rfl, hsz, hP, hK, hZ⟩ := hv
  have hx := B.exec
  have hb := B.bytes
  have hr := B.returns
  have hts := atoms_spec (ws := wsX9_demandThing) B.pre
  have hown : s.vm.findClass RX9 = some m.cls := findClass_of_methodNamed B.named
  have hlocks := B.notSynchronized
  subst hsz
  have hl := lv_entry ([.ref (ad t), .int a1]) (n := 2) (Nat.le_of_ble_eq_true rfl)
  rw [lg_entry_eq]
  generalize (lg_sl ([.ref (ad t), .int a1]) ++ List.replicate (2 - (lg_sl ([.ref (ad t), .int a1])).length) Slot.unset).toArray = ls at hl ⊢
  have hl : lv_has ls 2 [(0, .ref (ad t)), (1, .int a1)] := hl
  have in9 : ∀ w ∈ wsX90, w ∈ wsX9_demandThing := by decide +kernel
  generalize hargs : ([.ref (ad t), .int a1] : List Value).toArray = args at *
  generalize hAe : gA ad N s.heap.size = A
  have F : gF sa D ad cy N A p s m args cod cX9_demandThing 2 wsX9_demandThing RX9 := ⟨hx, hb, hml, hown, hts, hK, hI, by rw [← hAe]; exact gA_ad, by rw [← hAe]; exact gA_sz, by rw [← hAe]; exact hZ⟩
  have G : gW D ad cy N A s.heap c d0 s.heap [] := ⟨hP, va_S.rf⟩
  generalize hQ : vx_MQ below (va_Qv (fun (_ : Unit) => False) (fun _ _ => True) A) (vx_X (fun (_ : Unit) => True) (fun E _ U => E = gxn kZ ∧ gE D ad cy N cZ d0 U) A) args s 1 6 A = Q
  suffices hgen : ∀ (H : Heap) (locs : List Loc), gW D ad cy N A s.heap c d0 H locs → W p l e rxX9_demandThing s m args below meth cod H locs 0 0 Q (F0 m 0 ls []) from hgen _ _ G
  clear G
  intro H locs G
  unfold m_X9_demandThing at h
  refine lv_aload_n hx hb dX9_demandThing_0 rfl (lv_at hl 0 rfl) ?_
  refine lv_aload_n hx hb dX9_demandThing_1 rfl (lv_at hl 0 rfl) ?_
  obtain ⟨hk1, h⟩ := gc_s h
  have ht2 : t < N := Nat.lt_of_lt_of_le (gck_lt9 hk1) hN
  refine fg_9_now F G hk1 ht2 in9 (by decide +kernel) dX9_demandThing_2 ?_
  have hk3 : gck 3 = 6 := rfl
  have ht4 : 3 < N := Nat.lt_of_lt_of_le (by decide) hN
  refine lv_iload_n hx hb dX9_demandThing_5 rfl (lv_at hl 1 rfl) ?_
  obtain ⟨r6, hc5, h⟩ := gb_s h
  refine gx_calli F G (va_runV (As := [.int a1]) (rest := [.ref (ad t)]) (gx_fix F) (c_X6_isThing l sa D ad cy N H.size hN hI c d0 hc5) (cwV 1 hts gX9_demandThing_X6_isThing rfl rfl rfl (by decide +kernel) ⟨by decide, by decide⟩) (gx_rec F G ht4 (gwe_6 hk3) rfl) rfl rfl hl.1 rfl (lv_room (Nat.le_of_ble_eq_true rfl)) dX9_demandThing_6 ⟨Nat.zero_le _, Nat.zero_le _⟩) (fun H locs G => ?_)
  rcases gbx_x h with hc7 | ⟨c9, hc7, h⟩
  · exact hQ ▸ gx_xv F G htab hlocks (vx_runV (As := [.int r6]) (rest := []) (gx_fix F) (cx_X9_demandPresent l hlt sa D ad cy N H.size hN hI c d0 hc7) (cwV 1 hts gX9_demandThing_X9_demandPresent rfl rfl rfl (by decide +kernel) ⟨by decide, by decide⟩) (gx_rec F G ht2 (gwe_9 hk1) rfl) rfl rfl hl.1 rfl (lv_room (Nat.le_of_ble_eq_true rfl)) dX9_demandThing_9 ⟨by decide, by decide⟩)
  · skip
    refine gx_callv F G (va_runV (As := [.int r6]) (rest := []) (gx_fix F) (c_X9_demandPresent l sa D ad cy N H.size hN hI c d0 hc7) (cwV 1 hts gX9_demandThing_X9_demandPresent rfl rfl rfl (by decide +kernel) ⟨by decide, by decide⟩) (gx_rec F G ht2 (gwe_9 hk1) rfl) rfl rfl hl.1 rfl (lv_room (Nat.le_of_ble_eq_true rfl)) dX9_demandThing_9 ⟨Nat.zero_le _, Nat.zero_le _⟩) (fun H locs G => ?_)
    exact (gok_no h).elim
def m_X9_thing (n : Nat) (t : Nat) (a1 : Int32) (a2 : Int32) (c : gm) : Option ((Int32 × gm) ⊕ (Nat × gm)) :=
  gc (gck t = 9) (gbx (m_X9_demandThing t a1 c) (fun (c5 : gm) => gj (fun (v6 : Int32) => gbx (m_X9_demand t v6 c5) (fun (c10 : gm) => gok ((if a2 = 0 then gb (m_X6_weightOf 3 a1 c10) (fun (r15 : Int32) => some (r15, c10)) else (if a2 = 1 then gb (m_X6_toldOf 3 a1 c10) (fun (r20 : Int32) => some (r20, c10)) else (if a2 = 2 then gb (m_X6_weighedOf 3 a1 c10) (fun (r25 : Int32) => some (r25, c10)) else (if a2 = 3 then gb (m_X6_criesWith n 3 a1 c10) (fun (r30 : Int32) => some (r30, c10)) else gb2 (m_X6_wearOf n 3 a1 (c10.2.2 0) c10) (fun (r38 : Int32) (c39 : gm) => some (r38, c39))))))))) (fun K7 => gj (fun (_ : Unit) => K7 0) (fun K40 => (if a2 < 0 then K40 () else (if 4 < a2 then K40 () else K7 1))))))
abbrev rmX9_thing : Room := { frames := 8, cells := 0, slots := 0, locals := 132 }
abbrev rxX9_thing : Room := { frames := 8, cells := 1, slots := 6, locals := 132 }
set_option maxHeartbeats 4000000 in
set_option maxRecDepth 100000 in
theorem c_X9_thing (l : Launch) (sa : gSa) (D : va_G) (ad : Nat → Nat) (cy : Nat → ClassId) (N sz : Nat) (hN : 55 ≤ N) (hI : gI ad N) (c d0 : gm) {n : Nat} {t : Nat} {a1 : Int32} {a2 : Int32} {rZ : Int32} {cZ : gm} (h : m_X9_thing n t a1 a2 c = some (.inl (rZ, cZ))) : Met l yX9_thing wsX9_thing rmX9_thing (va_Pc [.ref (ad t), .int a1, .int a2] (gP sa D ad cy N sz c d0)) (va_Qi (fun (z : Int32) (_ : Unit) => z = rZ) (fun _ U => gE D ad cy N cZ d0 U) (gA ad N sz)) 0 0 (gA ad N sz) := by
  refine Met.ofW (cc := cX9_thing) (maxL := 3) (ret := (some .int)) (by decide) rfl ?_
  intro p e s m args below meth cod s₁ B hml hv
  obtain ⟨rfl, hsz, hP, hK, hZ⟩ := hv
  have hx := B.exec
  have hb := B.bytes
  have hr := B.returns
  have hts := atoms_spec (ws := wsX9_thing) B.pre
  have hown : s.vm.findClass RX9 = some m.cls := findClass_of_methodNamed B.named
  have hlocks := B.notSynchronized
  subst hsz
  have hl := lv_entry ([.ref (ad t), .int a1, .int a2]) (n := 3) (Nat.le_of_ble_eq_true rfl)
  rw [lg_entry_eq]
  generalize (lg_sl ([.ref (ad t), .int a1, .int a2]) ++ List.replicate (3 - (lg_sl ([.ref (ad t), .int a1, .int a2])).length) Slot.unset).toArray = ls at hl ⊢
  have hl : lv_has ls 3 [(0, .ref (ad t)), (1, .int a1), (2, .int a2)] := hl
  have in9 : ∀ w ∈ wsX90, w ∈ wsX9_thing := by decide +kernel
  generalize hargs : ([.ref (ad t), .int a1, .int a2] : List Value).toArray = args at *
  generalize hAe : gA ad N s.heap.size = A
  have F : gF sa D ad cy N A p s m args cod cX9_thing 3 wsX9_thing RX9 := ⟨hx, hb, hml, hown, hts, hK, hI, by rw [← hAe]; exact gA_ad, by rw [← hAe]; exact gA_sz, by rw [← hAe]; exact hZ⟩
  have G : gW D ad cy N A s.heap c d0 s.heap [] := ⟨hP, va_S.rf⟩
  generalize hQ : MQ below (va_Qi (fun (z : Int32) (_ : Unit) => z = rZ) (fun _ U => gE D ad cy N cZ d0 U) A) args s 0 0 A = Q
  suffices hgen : ∀ (H : Heap) (locs : List Loc), gW D ad cy N A s.heap c d0 H locs → W p l e rmX9_thing s m args below meth cod H locs 0 0 Q (F0 m 0 ls []) from hgen _ _ G
  clear G
  intro H locs G
  unfold m_X9_thing at h
  refine lv_aload_n hx hb dX9_thing_0 rfl (lv_at hl 0 rfl) ?_
  refine lv_iload_n hx hb dX9_thing_1 rfl (lv_at hl 1 rfl) ?_
  obtain ⟨hk1, h⟩ := gc_s h
  have ht2 : t < N := Nat.lt_of_lt_of_le (gck_lt9 hk1) hN
  obtain ⟨c5, hc3, h⟩ := gbx_l h
  refine gx_callv F G (va_runV (As := [.int a1]) (rest := []) (gx_fix F) (c_X9_demandThing l sa D ad cy N H.size hN hI c d0 hc3) (cwV 1 hts gX9_thing_X9_demandThing rfl rfl rfl (by decide +kernel) ⟨by decide, by decide⟩) (gx_rec F G ht2 (gwe_9 hk1) rfl) rfl rfl hl.1 rfl (lv_room (Nat.le_of_ble_eq_true rfl)) dX9_thing_2 ⟨Nat.zero_le _, Nat.zero_le _⟩) (fun H locs G => ?_)
  refine lv_aload_n hx hb dX9_thing_5 rfl (lv_at hl 0 rfl) ?_
  refine lv_iload_n hx hb dX9_thing_6 rfl (lv_at hl 2 rfl) ?_
  obtain ⟨K7, eK7, h⟩ := gj_s h
  have JK7 : ∀ (v6 : Int32) (H : Heap) (locs : List Loc) (ls : Array Slot), K7 v6 = some (.inl (rZ, cZ)) → gW D ad cy N A s.heap c5 d0 H locs → lv_has ls 3 [(0, .ref (ad t)), (1, .int a1), (2, .int a2)] → W p l e rmX9_thing s m args below meth cod H locs 0 0 Q (F0 m 20 ls [.int v6, .ref (ad t)]) := by
    intro v6 H locs ls h G hl
    rw [eK7] at h
    obtain ⟨c10, hc8, h⟩ := gbx_l h
    refine gx_callv F G (va_runV (As := [.int v6]) (rest := []) (gx_fix F) (c_X9_demand l sa D ad cy N H.size hN hI c5 d0 hc8) (cwV 1 hts gX9_thing_X9_demand rfl rfl rfl (by decide +kernel) ⟨by decide, by decide⟩) (gx_rec F G ht2 (gwe_9 hk1) rfl) rfl rfl hl.1 rfl (lv_room (Nat.le_of_ble_eq_true rfl)) dX9_thing_20 ⟨Nat.zero_le _, Nat.zero_le _⟩) (fun H locs G => ?_)
    replace h := gok_s h
    refine lv_iload_n hx hb dX9_thing_23 rfl (lv_at hl 2 rfl) ?_
    by_cases q11 : a2 = 0
    · replace h := gt_s q11 h
      refine lv_tableIn (tgt := 56) hx hb dX9_thing_24 (by rw [q11]; decide) (by rw [q11]; decide) (off := 32) (by rw [q11]; decide) (by decide) ?_
      refine lv_aload_n hx hb dX9_thing_56 rfl (lv_at hl 0 rfl) ?_
      refine fg_9_now F G hk1 ht2 in9 (by decide +kernel) dX9_thing_57 ?_
      have hk12 : gck 3 = 6 := rfl
      have ht13 : 3 < N := Nat.lt_of_lt_of_le (by decide) hN
      refine lv_iload_n hx hb dX9_thing_60 rfl (lv_at hl 1 rfl) ?_
      obtain ⟨r15, hc14, h⟩ := gb_s h
      refine gx_calli F G (va_runV (As := [.int a1]) (rest := []) (gx_fix F) (c_X6_weightOf l sa D ad cy N H.size hN hI c10 d0 hc14) (cwV 1 hts gX9_thing_X6_weightOf rfl rfl rfl (by decide +kernel) ⟨by decide, by decide⟩) (gx_rec F G ht13 (gwe_6 hk12) rfl) rfl rfl hl.1 rfl (lv_room (Nat.le_of_ble_eq_true rfl)) dX9_thing_61 ⟨Nat.zero_le _, Nat.zero_le _⟩) (fun H locs G => ?_)
      cases h
      rw [← hQ]
      exact gx_iret F G hr hlocks dX9_thing_64
    replace h := gf_s q11 h
    by_cases q16 : a2 = 1
    · replace h := gt_s q16 h
      refine lv_tableIn (tgt := 65) hx hb dX9_thing_24 (by rw [q16]; decide) (by rw [q16]; decide) (off := 41) (by rw [q16]; decide) (by decide) ?_
      refine lv_aload_n hx hb dX9_thing_65 rfl (lv_at hl 0 rfl) ?_
      refine fg_9_now F G hk1 ht2 in9 (by decide +kernel) dX9_thing_66 ?_
      have hk17 : gck 3 = 6 := rfl
      have ht18 : 3 < N := Nat.lt_of_lt_of_le (by decide) hN
      refine lv_iload_n hx hb dX9_thing_69 rfl (lv_at hl 1 rfl) ?_
      obtain ⟨r20, hc19, h⟩ := gb_s h
      refine gx_calli F G (va_runV (As := [.int a1]) (rest := []) (gx_fix F) (c_X6_toldOf l sa D ad cy N H.size hN hI c10 d0 hc19) (cwV 1 hts gX9_thing_X6_toldOf rfl rfl rfl (by decide +kernel) ⟨by decide, by decide⟩) (gx_rec F G ht18 (gwe_6 hk17) rfl) rfl rfl hl.1 rfl (lv_room (Nat.le_of_ble_eq_true rfl)) dX9_thing_70 ⟨Nat.zero_le _, Nat.zero_le _⟩) (fun H locs G => ?_)
      cases h
      rw [← hQ]
      exact gx_iret F G hr hlocks dX9_thing_73
    replace h := gf_s q16 h
    by_cases q21 : a2 = 2
    · replace h := gt_s q21 h
      refine lv_tableIn (tgt := 74) hx hb dX9_thing_24 (by rw [q21]; decide) (by rw [q21]; decide) (off := 50) (by rw [q21]; decide) (by decide) ?_
      refine lv_aload_n hx hb dX9_thing_74 rfl (lv_at hl 0 rfl) ?_
      refine fg_9_now F G hk1 ht2 in9 (by decide +kernel) dX9_thing_75 ?_
      have hk22 : gck 3 = 6 := rfl
      have ht23 : 3 < N := Nat.lt_of_lt_of_le (by decide) hN
      refine lv_iload_n hx hb dX9_thing_78 rfl (lv_at hl 1 rfl) ?_
      obtain ⟨r25, hc24, h⟩ := gb_s h
      refine gx_calli F G (va_runV (As := [.int a1]) (rest := []) (gx_fix F) (c_X6_weighedOf l sa D ad cy N H.size hN hI c10 d0 hc24) (cwV 1 hts gX9_thing_X6_weighedOf rfl rfl rfl (by decide +kernel) ⟨by decide, by decide⟩) (gx_rec F G ht23 (gwe_6 hk22) rfl) rfl rfl hl.1 rfl (lv_room (Nat.le_of_ble_eq_true rfl)) dX9_thing_79 ⟨Nat.zero_le _, Nat.zero_le _⟩) (fun H locs G => ?_)
      cases h
      rw [← hQ]
      exact gx_iret F G hr hlocks dX9_thing_82
    replace h := gf_s q21 h
    by_cases q26 : a2 = 3
    · replace h := gt_s q26 h
      refine lv_tableIn (tgt := 83) hx hb dX9_thing_24 (by rw [q26]; decide) (by rw [q26]; decide) (off := 59) (by rw [q26]; decide) (by decide) ?_
      refine lv_aload_n hx hb dX9_thing_83 rfl (lv_at hl 0 rfl) ?_
      refine fg_9_now F G hk1 ht2 in9 (by decide +kernel) dX9_thing_84 ?_
      have hk27 : gck 3 = 6 := rfl
      have ht28 : 3 < N := Nat.lt_of_lt_of_le (by decide) hN
      refine lv_iload_n hx hb dX9_thing_87 rfl (lv_at hl 1 rfl) ?_
      obtain ⟨r30, hc29, h⟩ := gb_s h
      refine gx_calli F G (va_runV (As := [.int a1]) (rest := []) (gx_fix F) (c_X6_criesWith l sa D ad cy N H.size hN hI c10 d0 hc29) (cwV 1 hts gX9_thing_X6_criesWith rfl rfl rfl (by decide +kernel) ⟨by decide, by decide⟩) (gx_rec F G ht28 (gwe_6 hk27) rfl) rfl rfl hl.1 rfl (lv_room (Nat.le_of_ble_eq_true rfl)) dX9_thing_88 ⟨Nat.zero_le _, Nat.zero_le _⟩) (fun H locs G => ?_)
      cases h
      rw [← hQ]
      exact gx_iret F G hr hlocks dX9_thing_91
    replace h := gf_s q26 h
    have nn31 := lv_neT q11 (show (0 : Int32).toInt = 0 by decide)
    have nn32 := lv_neT q16 (show (1 : Int32).toInt = 1 by decide)
    have nn33 := lv_neT q21 (show (2 : Int32).toInt = 2 by decide)
    have nn34 := lv_neT q26 (show (3 : Int32).toInt = 3 by decide)
    refine lv_tableOut (tgt := 92) hx hb dX9_thing_24 (by omega) (by decide) ?_
    refine lv_aload_n hx hb dX9_thing_92 rfl (lv_at hl 0 rfl) ?_
    refine fg_9_now F G hk1 ht2 in9 (by decide +kernel) dX9_thing_93 ?_
    have hk35 : gck 3 = 6 := rfl
    have ht36 : 3 < N := Nat.lt_of_lt_of_le (by decide) hN
    refine lv_iload_n hx hb dX9_thing_96 rfl (lv_at hl 1 rfl) ?_
    refine lv_aload_n hx hb dX9_thing_97 rfl (lv_at hl 0 rfl) ?_
    refine fg_9_rule F G hk1 ht2 in9 (by decide +kernel) dX9_thing_98 ?_
    obtain ⟨r38, c39, hc37, h⟩ := gb2_s h
    refine gx_calli F G (va_runV (As := [.int a1, .ref (ad (c10.2.2 0))]) (rest := []) (gx_fix F) (c_X6_wearOf l sa D ad cy N H.size hN hI c10 d0 hc37) (cwV 2 hts gX9_thing_X6_wearOf rfl rfl rfl (by decide +kernel) ⟨by decide, by decide⟩) (gx_rec F G ht36 (gwe_6 hk35) rfl) rfl rfl hl.1 rfl (lv_room (Nat.le_of_ble_eq_true rfl)) dX9_thing_101 ⟨Nat.zero_le _, Nat.zero_le _⟩) (fun H locs G => ?_)
    cases h
    rw [← hQ]
    exact gx_iret F G hr hlocks dX9_thing_104
  obtain ⟨K40, eK40, h⟩ := gj_s h
  have JK40 : ∀ (H : Heap) (locs : List Loc) (ls : Array Slot), K40 () = some (.inl (rZ, cZ)) → gW D ad cy N A s.heap c5 d0 H locs → lv_has ls 3 [(0, .ref (ad t)), (1, .int a1), (2, .int a2)] → W p l e rmX9_thing s m args below meth cod H locs 0 0 Q (F0 m 19 ls [.ref (ad t)]) := by
    intro  H locs ls h G hl
    rw [eK40] at h
    refine lv_iconst (v := 0) hx hb dX9_thing_19 (by decide) ?_
    exact JK7 _ _ _ _ h G hl
  refine lv_if_lt (tgt := 19) hx hb dX9_thing_7 (by decide) (fun q41 => ?_) (fun q41 => ?_)
  · replace h := gt_s q41 h
    exact JK40  _ _ _ h G hl
  · replace h := gf_s q41 h
    refine lv_iload_n hx hb dX9_thing_10 rfl (lv_at hl 2 rfl) ?_
    refine lv_iconst (v := 4) hx hb dX9_thing_11 (by decide) ?_
    refine lv_icmp_gt (tgt := 19) hx hb dX9_thing_12 (by decide) (fun q42 => ?_) (fun q42 => ?_)
    · replace h := gt_s q42 h
      exact JK40  _ _ _ h G hl
    · replace h := gf_s q42 h
      refine lv_iconst (v := 1) hx hb dX9_thing_15 (by decide) ?_
      refine lv_goto (tgt := 20) hx hb dX9_thing_16 (by decide) ?_
      exact JK7 _ _ _ _ h G hl
set_option maxHeartbeats 4000000 in
set_option maxRecDepth 100000 in
theorem cx_X9_thing (l : Launch) (hlt : l.stackTraces = false) (sa : gSa) (D : va_G) (ad : Nat → Nat) (cy : Nat → ClassId) (N sz : Nat) (hN : 55 ≤ N) (hI : gI ad N) (c d0 : gm) {n : Nat} {t : Nat} {a1 : Int32} {a2 : Int32} {kZ : Nat} {cZ : gm} (h : m_X9_thing n t a1 a2 c = some (.inr (kZ, cZ))) : vx_Met l yX9_thing wsX9_thing rxX9_thing (va_Pc [.ref (ad t), .int a1, .int a2] (gP sa D ad cy N sz c d0)) (va_Qi (fun (_ : Int32) (_ : Unit) => False) (fun _ _ => True) (gA ad N sz)) (vx_X (fun (_ : Unit) => True) (fun E _ U => E = gxn kZ ∧ gE D ad cy N cZ d0 U) (gA ad N sz)) 1 6 (gA ad N sz) := by
  refine vx_ofW (cc := cX9_thing) (maxL := 3) (ret := (some .int)) (by decide) rfl ?_
  intro p e s m args below meth cod s₁ B hml htab hv
  obtain ⟨rfl, hsz, hP, hK, hZ⟩ := hv
  have hx := B.exec
  have hb := B.bytes
  have hr := B.returns
  have hts := atoms_spec (ws := wsX9_thing) B.pre
  have hown : s.vm.findClass RX9 = some m.cls := findClass_of_methodNamed B.named
  have hlocks := B.notSynchronized
  subst hsz
  have hl := lv_entry ([.ref (ad t), .int a1, .int a2]) (n := 3) (Nat.le_of_ble_eq_true rfl)
  rw [lg_entry_eq]
  generalize (lg_sl ([.ref (ad t), .int a1, .int a2]) ++ List.replicate (3 - (lg_sl ([.ref (ad t), .int a1, .int a2])).length) Slot.unset).toArray = ls at hl ⊢
  have hl : lv_has ls 3 [(0, .ref (ad t)), (1, .int a1), (2, .int a2)] := hl
  generalize hargs : ([.ref (ad t), .int a1, .int a2] : List Value).toArray = args at *
  generalize hAe : gA ad N s.heap.size = A
  have F : gF sa D ad cy N A p s m args cod cX9_thing 3 wsX9_thing RX9 := ⟨hx, hb, hml, hown, hts, hK, hI, by rw [← hAe]; exact gA_ad, by rw [← hAe]; exact gA_sz, by rw [← hAe]; exact hZ⟩
  have G : gW D ad cy N A s.heap c d0 s.heap [] := ⟨hP, va_S.rf⟩
  generalize hQ : vx_MQ below (va_Qi (fun (_ : Int32) (_ : Unit) => False) (fun _ _ => True) A) (vx_X (fun (_ : Unit) => True) (fun E _ U => E = gxn kZ ∧ gE D ad cy N cZ d0 U) A) args s 1 6 A = Q
  suffices hgen : ∀ (H : Heap) (locs : List Loc), gW D ad cy N A s.heap c d0 H locs → W p l e rxX9_thing s m args below meth cod H locs 0 0 Q (F0 m 0 ls []) from hgen _ _ G
  clear G
  intro H locs G
  unfold m_X9_thing at h
  refine lv_aload_n hx hb dX9_thing_0 rfl (lv_at hl 0 rfl) ?_
  refine lv_iload_n hx hb dX9_thing_1 rfl (lv_at hl 1 rfl) ?_
  obtain ⟨hk1, h⟩ := gc_s h
  have ht2 : t < N := Nat.lt_of_lt_of_le (gck_lt9 hk1) hN
  rcases gbx_x h with hc3 | ⟨c5, hc3, h⟩
  · exact hQ ▸ gx_xv F G htab hlocks (vx_runV (As := [.int a1]) (rest := []) (gx_fix F) (cx_X9_demandThing l hlt sa D ad cy N H.size hN hI c d0 hc3) (cwV 1 hts gX9_thing_X9_demandThing rfl rfl rfl (by decide +kernel) ⟨by decide, by decide⟩) (gx_rec F G ht2 (gwe_9 hk1) rfl) rfl rfl hl.1 rfl (lv_room (Nat.le_of_ble_eq_true rfl)) dX9_thing_2 ⟨by decide, by decide⟩)
  · skip
    refine gx_callv F G (va_runV (As := [.int a1]) (rest := []) (gx_fix F) (c_X9_demandThing l sa D ad cy N H.size hN hI c d0 hc3) (cwV 1 hts gX9_thing_X9_demandThing rfl rfl rfl (by decide +kernel) ⟨by decide, by decide⟩) (gx_rec F G ht2 (gwe_9 hk1) rfl) rfl rfl hl.1 rfl (lv_room (Nat.le_of_ble_eq_true rfl)) dX9_thing_2 ⟨Nat.zero_le _, Nat.zero_le _⟩) (fun H locs G => ?_)
    refine lv_aload_n hx hb dX9_thing_5 rfl (lv_at hl 0 rfl) ?_
    refine lv_iload_n hx hb dX9_thing_6 rfl (lv_at hl 2 rfl) ?_
    obtain ⟨K7, eK7, h⟩ := gj_s h
    have JK7 : ∀ (v6 : Int32) (H : Heap) (locs : List Loc) (ls : Array Slot), K7 v6 = some (.inr (kZ, cZ)) → gW D ad cy N A s.heap c5 d0 H locs → lv_has ls 3 [(0, .ref (ad t)), (1, .int a1), (2, .int a2)] → W p l e rxX9_thing s m args below meth cod H locs 0 0 Q (F0 m 20 ls [.int v6, .ref (ad t)]) := by
      intro v6 H locs ls h G hl
      rw [eK7] at h
      rcases gbx_x h with hc8 | ⟨c10, hc8, h⟩
      · exact hQ ▸ gx_xv F G htab hlocks (vx_runV (As := [.int v6]) (rest := []) (gx_fix F) (cx_X9_demand l hlt sa D ad cy N H.size hN hI c5 d0 hc8) (cwV 1 hts gX9_thing_X9_demand rfl rfl rfl (by decide +kernel) ⟨by decide, by decide⟩) (gx_rec F G ht2 (gwe_9 hk1) rfl) rfl rfl hl.1 rfl (lv_room (Nat.le_of_ble_eq_true rfl)) dX9_thing_20 ⟨by decide, by decide⟩)
      · skip
        refine gx_callv F G (va_runV (As := [.int v6]) (rest := []) (gx_fix F) (c_X9_demand l sa D ad cy N H.size hN hI c5 d0 hc8) (cwV 1 hts gX9_thing_X9_demand rfl rfl rfl (by decide +kernel) ⟨by decide, by decide⟩) (gx_rec F G ht2 (gwe_9 hk1) rfl) rfl rfl hl.1 rfl (lv_room (Nat.le_of_ble_eq_true rfl)) dX9_thing_20 ⟨Nat.zero_le _, Nat.zero_le _⟩) (fun H locs G => ?_)
        exact (gok_no h).elim
    obtain ⟨K11, eK11, h⟩ := gj_s h
    have JK11 : ∀ (H : Heap) (locs : List Loc) (ls : Array Slot), K11 () = some (.inr (kZ, cZ)) → gW D ad cy N A s.heap c5 d0 H locs → lv_has ls 3 [(0, .ref (ad t)), (1, .int a1), (2, .int a2)] → W p l e rxX9_thing s m args below meth cod H locs 0 0 Q (F0 m 19 ls [.ref (ad t)]) := by
      intro  H locs ls h G hl
      rw [eK11] at h
      refine lv_iconst (v := 0) hx hb dX9_thing_19 (by decide) ?_
      exact JK7 _ _ _ _ h G hl
    refine lv_if_lt (tgt := 19) hx hb dX9_thing_7 (by decide) (fun q12 => ?_) (fun q12 => ?_)
    · replace h := gt_s q12 h
      exact JK11  _ _ _ h G hl
    · replace h := gf_s q12 h
      refine lv_iload_n hx hb dX9_thing_10 rfl (lv_at hl 2 rfl) ?_
      refine lv_iconst (v := 4) hx hb dX9_thing_11 (by decide) ?_
      refine lv_icmp_gt (tgt := 19) hx hb dX9_thing_12 (by decide) (fun q13 => ?_) (fun q13 => ?_)
      · replace h := gt_s q13 h
        exact JK11  _ _ _ h G hl
      · replace h := gf_s q13 h
        refine lv_iconst (v := 1) hx hb dX9_thing_15 (by decide) ?_
        refine lv_goto (tgt := 20) hx hb dX9_thing_16 (by decide) ?_
        exact JK7 _ _ _ _ h G hl
def m_X9_cry (t : Nat) (a1 : Int32) (a2 : Int32) (c : gm) : Option ((Int32 × gm) ⊕ (Nat × gm)) :=
  gj (fun (v1 : Int32) => gc (gck t = 9) (gbx (m_X9_demandPresent t v1 c) (fun (c7 : gm) => gj (fun (v8 : Int32) => gbx (m_X9_demand t v8 c7) (fun (c12 : gm) => gok (gb (m_X6_cryPart 3 a1 a2 c12) (fun (r16 : Int32) => some (r16, c12))))) (fun K9 => gj (fun (_ : Unit) => K9 0) (fun K17 => (if a2 < 0 then K17 () else (if 3 < a2 then K17 () else K9 1))))))) (fun K2 => gj (fun (_ : Unit) => K2 0) (fun K20 => (if a1 < 0 then K20 () else gc (gck t = 9) ((if (c.1 3 6) ≤ a1 then K20 () else K2 1)))))
abbrev rmX9_cry : Room := { frames := 7, cells := 0, slots := 0, locals := 111 }
abbrev rxX9_cry : Room := { frames := 7, cells := 1, slots := 6, locals := 111 }
set_option maxHeartbeats 4000000 in
set_option maxRecDepth 100000 in
theorem c_X9_cry (l : Launch) (sa : gSa) (D : va_G) (ad : Nat → Nat) (cy : Nat → ClassId) (N sz : Nat) (hN : 55 ≤ N) (hI : gI ad N) (c d0 : gm) {t : Nat} {a1 : Int32} {a2 : Int32} {rZ : Int32} {cZ : gm} (h : m_X9_cry t a1 a2 c = some (.inl (rZ, cZ))) : Met l yX9_cry wsX9_cry rmX9_cry (va_Pc [.ref (ad t), .int a1, .int a2] (gP sa D ad cy N sz c d0)) (va_Qi (fun (z : Int32) (_ : Unit) => z = rZ) (fun _ U => gE D ad cy N cZ d0 U) (gA ad N sz)) 0 0 (gA ad N sz) := by
  refine Met.ofW (cc := cX9_cry) (maxL := 3) (ret := (some .int)) (by decide) rfl ?_
  intro p e s m args below meth cod s₁ B hml hv
  obtain ⟨rfl, hsz, hP, hK, hZ⟩ := hv
  have hx := B.exec
  have hb := B.bytes
  have hr := B.returns
  have hts := atoms_spec (ws := wsX9_cry) B.pre
  have hown : s.vm.findClass RX9 = some m.cls := findClass_of_methodNamed B.named
  have hlocks := B.notSynchronized
  subst hsz
  have hl := lv_entry ([.ref (ad t), .int a1, .int a2]) (n := 3) (Nat.le_of_ble_eq_true rfl)
  rw [lg_entry_eq]
  generalize (lg_sl ([.ref (ad t), .int a1, .int a2]) ++ List.replicate (3 - (lg_sl ([.ref (ad t), .int a1, .int a2])).length) Slot.unset).toArray = ls at hl ⊢
  have hl : lv_has ls 3 [(0, .ref (ad t)), (1, .int a1), (2, .int a2)] := hl
  have in6 : ∀ w ∈ wsX60, w ∈ wsX9_cry := by decide +kernel
  have in9 : ∀ w ∈ wsX90, w ∈ wsX9_cry := by decide +kernel
  generalize hargs : ([.ref (ad t), .int a1, .int a2] : List Value).toArray = args at *
  generalize hAe : gA ad N s.heap.size = A
  have F : gF sa D ad cy N A p s m args cod cX9_cry 3 wsX9_cry RX9 := ⟨hx, hb, hml, hown, hts, hK, hI, by rw [← hAe]; exact gA_ad, by rw [← hAe]; exact gA_sz, by rw [← hAe]; exact hZ⟩
  have G : gW D ad cy N A s.heap c d0 s.heap [] := ⟨hP, va_S.rf⟩
  generalize hQ : MQ below (va_Qi (fun (z : Int32) (_ : Unit) => z = rZ) (fun _ U => gE D ad cy N cZ d0 U) A) args s 0 0 A = Q
  suffices hgen : ∀ (H : Heap) (locs : List Loc), gW D ad cy N A s.heap c d0 H locs → W p l e rmX9_cry s m args below meth cod H locs 0 0 Q (F0 m 0 ls []) from hgen _ _ G
  clear G
  intro H locs G
  unfold m_X9_cry at h
  refine lv_aload_n hx hb dX9_cry_0 rfl (lv_at hl 0 rfl) ?_
  refine lv_iload_n hx hb dX9_cry_1 rfl (lv_at hl 1 rfl) ?_
  obtain ⟨K2, eK2, h⟩ := gj_s h
  have JK2 : ∀ (v1 : Int32) (H : Heap) (locs : List Loc) (ls : Array Slot), K2 v1 = some (.inl (rZ, cZ)) → gW D ad cy N A s.heap c d0 H locs → lv_has ls 3 [(0, .ref (ad t)), (1, .int a1), (2, .int a2)] → W p l e rmX9_cry s m args below meth cod H locs 0 0 Q (F0 m 21 ls [.int v1, .ref (ad t)]) := by
    intro v1 H locs ls h G hl
    rw [eK2] at h
    obtain ⟨hk3, h⟩ := gc_s h
    have ht4 : t < N := Nat.lt_of_lt_of_le (gck_lt9 hk3) hN
    obtain ⟨c7, hc5, h⟩ := gbx_l h
    refine gx_callv F G (va_runV (As := [.int v1]) (rest := []) (gx_fix F) (c_X9_demandPresent l sa D ad cy N H.size hN hI c d0 hc5) (cwV 1 hts gX9_cry_X9_demandPresent rfl rfl rfl (by decide +kernel) ⟨by decide, by decide⟩) (gx_rec F G ht4 (gwe_9 hk3) rfl) rfl rfl hl.1 rfl (lv_room (Nat.le_of_ble_eq_true rfl)) dX9_cry_21 ⟨Nat.zero_le _, Nat.zero_le _⟩) (fun H locs G => ?_)
    refine lv_aload_n hx hb dX9_cry_24 rfl (lv_at hl 0 rfl) ?_
    refine lv_iload_n hx hb dX9_cry_25 rfl (lv_at hl 2 rfl) ?_
    obtain ⟨K9, eK9, h⟩ := gj_s h
    have JK9 : ∀ (v8 : Int32) (H : Heap) (locs : List Loc) (ls : Array Slot), K9 v8 = some (.inl (rZ, cZ)) → gW D ad cy N A s.heap c7 d0 H locs → lv_has ls 3 [(0, .ref (ad t)), (1, .int a1), (2, .int a2)] → W p l e rmX9_cry s m args below meth cod H locs 0 0 Q (F0 m 39 ls [.int v8, .ref (ad t)]) := by
      intro v8 H locs ls h G hl
      rw [eK9] at h
      obtain ⟨c12, hc10, h⟩ := gbx_l h
      refine gx_callv F G (va_runV (As := [.int v8]) (rest := []) (gx_fix F) (c_X9_demand l sa D ad cy N H.size hN hI c7 d0 hc10) (cwV 1 hts gX9_cry_X9_demand rfl rfl rfl (by decide +kernel) ⟨by decide, by decide⟩) (gx_rec F G ht4 (gwe_9 hk3) rfl) rfl rfl hl.1 rfl (lv_room (Nat.le_of_ble_eq_true rfl)) dX9_cry_39 ⟨Nat.zero_le _, Nat.zero_le _⟩) (fun H locs G => ?_)
      replace h := gok_s h
      refine lv_aload_n hx hb dX9_cry_42 rfl (lv_at hl 0 rfl) ?_
      refine fg_9_now F G hk3 ht4 in9 (by decide +kernel) dX9_cry_43 ?_
      have hk13 : gck 3 = 6 := rfl
      have ht14 : 3 < N := Nat.lt_of_lt_of_le (by decide) hN
      refine lv_iload_n hx hb dX9_cry_46 rfl (lv_at hl 1 rfl) ?_
      refine lv_iload_n hx hb dX9_cry_47 rfl (lv_at hl 2 rfl) ?_
      obtain ⟨r16, hc15, h⟩ := gb_s h
      refine gx_calli F G (va_runV (As := [.int a1, .int a2]) (rest := []) (gx_fix F) (c_X6_cryPart l sa D ad cy N H.size hN hI c12 d0 hc15) (cwV 2 hts gX9_cry_X6_cryPart rfl rfl rfl (by decide +kernel) ⟨by decide, by decide⟩) (gx_rec F G ht14 (gwe_6 hk13) rfl) rfl rfl hl.1 rfl (lv_room (Nat.le_of_ble_eq_true rfl)) dX9_cry_48 ⟨Nat.zero_le _, Nat.zero_le _⟩) (fun H locs G => ?_)
      cases h
      rw [← hQ]
      exact gx_iret F G hr hlocks dX9_cry_51
    obtain ⟨K17, eK17, h⟩ := gj_s h
    have JK17 : ∀ (H : Heap) (locs : List Loc) (ls : Array Slot), K17 () = some (.inl (rZ, cZ)) → gW D ad cy N A s.heap c7 d0 H locs → lv_has ls 3 [(0, .ref (ad t)), (1, .int a1), (2, .int a2)] → W p l e rmX9_cry s m args below meth cod H locs 0 0 Q (F0 m 38 ls [.ref (ad t)]) := by
      intro  H locs ls h G hl
      rw [eK17] at h
      refine lv_iconst (v := 0) hx hb dX9_cry_38 (by decide) ?_
      exact JK9 _ _ _ _ h G hl
    refine lv_if_lt (tgt := 38) hx hb dX9_cry_26 (by decide) (fun q18 => ?_) (fun q18 => ?_)
    · replace h := gt_s q18 h
      exact JK17  _ _ _ h G hl
    · replace h := gf_s q18 h
      refine lv_iload_n hx hb dX9_cry_29 rfl (lv_at hl 2 rfl) ?_
      refine lv_iconst (v := 3) hx hb dX9_cry_30 (by decide) ?_
      refine lv_icmp_gt (tgt := 38) hx hb dX9_cry_31 (by decide) (fun q19 => ?_) (fun q19 => ?_)
      · replace h := gt_s q19 h
        exact JK17  _ _ _ h G hl
      · replace h := gf_s q19 h
        refine lv_iconst (v := 1) hx hb dX9_cry_34 (by decide) ?_
        refine lv_goto (tgt := 39) hx hb dX9_cry_35 (by decide) ?_
        exact JK9 _ _ _ _ h G hl
  obtain ⟨K20, eK20, h⟩ := gj_s h
  have JK20 : ∀ (H : Heap) (locs : List Loc) (ls : Array Slot), K20 () = some (.inl (rZ, cZ)) → gW D ad cy N A s.heap c d0 H locs → lv_has ls 3 [(0, .ref (ad t)), (1, .int a1), (2, .int a2)] → W p l e rmX9_cry s m args below meth cod H locs 0 0 Q (F0 m 20 ls [.ref (ad t)]) := by
    intro  H locs ls h G hl
    rw [eK20] at h
    refine lv_iconst (v := 0) hx hb dX9_cry_20 (by decide) ?_
    exact JK2 _ _ _ _ h G hl
  refine lv_if_lt (tgt := 20) hx hb dX9_cry_2 (by decide) (fun q21 => ?_) (fun q21 => ?_)
  · replace h := gt_s q21 h
    exact JK20  _ _ _ h G hl
  · replace h := gf_s q21 h
    refine lv_iload_n hx hb dX9_cry_5 rfl (lv_at hl 1 rfl) ?_
    refine lv_aload_n hx hb dX9_cry_6 rfl (lv_at hl 0 rfl) ?_
    obtain ⟨hk22, h⟩ := gc_s h
    have ht23 : t < N := Nat.lt_of_lt_of_le (gck_lt9 hk22) hN
    refine fg_9_now F G hk22 ht23 in9 (by decide +kernel) dX9_cry_7 ?_
    have hk24 : gck 3 = 6 := rfl
    have ht25 : 3 < N := Nat.lt_of_lt_of_le (by decide) hN
    refine fg_6_cries F G hk24 ht25 in6 (by decide +kernel) dX9_cry_10 ?_
    refine lv_icmp_ge (tgt := 20) hx hb dX9_cry_13 (by decide) (fun q26 => ?_) (fun q26 => ?_)
    · replace h := gt_s q26 h
      exact JK20  _ _ _ h G hl
    · replace h := gf_s q26 h
      refine lv_iconst (v := 1) hx hb dX9_cry_16 (by decide) ?_
      refine lv_goto (tgt := 21) hx hb dX9_cry_17 (by decide) ?_
      exact JK2 _ _ _ _ h G hl
set_option maxHeartbeats 4000000 in
set_option maxRecDepth 100000 in
theorem cx_X9_cry (l : Launch) (hlt : l.stackTraces = false) (sa : gSa) (D : va_G) (ad : Nat → Nat) (cy : Nat → ClassId) (N sz : Nat) (hN : 55 ≤ N) (hI : gI ad N) (c d0 : gm) {t : Nat} {a1 : Int32} {a2 : Int32} {kZ : Nat} {cZ : gm} (h : m_X9_cry t a1 a2 c = some (.inr (kZ, cZ))) : vx_Met l yX9_cry wsX9_cry rxX9_cry (va_Pc [.ref (ad t), .int a1, .int a2] (gP sa D ad cy N sz c d0)) (va_Qi (fun (_ : Int32) (_ : Unit) => False) (fun _ _ => True) (gA ad N sz)) (vx_X (fun (_ : Unit) => True) (fun E _ U => E = gxn kZ ∧ gE D ad cy N cZ d0 U) (gA ad N sz)) 1 6 (gA ad N sz) := by
  refine vx_ofW (cc := cX9_cry) (maxL := 3) (ret := (some .int)) (by decide) rfl ?_
  intro p e s m args below meth cod s₁ B hml htab hv
  obtain ⟨rfl, hsz, hP, hK, hZ⟩ := hv
  have hx := B.exec
  have hb := B.bytes
  have hr := B.returns
  have hts := atoms_spec (ws := wsX9_cry) B.pre
  have hown : s.vm.findClass RX9 = some m.cls := findClass_of_methodNamed B.named
  have hlocks := B.notSynchronized
  subst hsz
  have hl := lv_entry ([.ref (ad t), .int a1, .int a2]) (n := 3) (Nat.le_of_ble_eq_true rfl)
  rw [lg_entry_eq]
  generalize (lg_sl ([.ref (ad t), .int a1, .int a2]) ++ List.replicate (3 - (lg_sl ([.ref (ad t), .int a1, .int a2])).length) Slot.unset).toArray = ls at hl ⊢
  have hl : lv_has ls 3 [(0, .ref (ad t)), (1, .int a1), (2, .int a2)] := hl
  have in6 : ∀ w ∈ wsX60, w ∈ wsX9_cry := by decide +kernel
  have in9 : ∀ w ∈ wsX90, w ∈ wsX9_cry := by decide +kernel
  generalize hargs : ([.ref (ad t), .int a1, .int a2] : List Value).toArray = args at *
  generalize hAe : gA ad N s.heap.size = A
  have F : gF sa D ad cy N A p s m args cod cX9_cry 3 wsX9_cry RX9 := ⟨hx, hb, hml, hown, hts, hK, hI, by rw [← hAe]; exact gA_ad, by rw [← hAe]; exact gA_sz, by rw [← hAe]; exact hZ⟩
  have G : gW D ad cy N A s.heap c d0 s.heap [] := ⟨hP, va_S.rf⟩
  generalize hQ : vx_MQ below (va_Qi (fun (_ : Int32) (_ : Unit) => False) (fun _ _ => True) A) (vx_X (fun (_ : Unit) => True) (fun E _ U => E = gxn kZ ∧ gE D ad cy N cZ d0 U) A) args s 1 6 A = Q
  suffices hgen : ∀ (H : Heap) (locs : List Loc), gW D ad cy N A s.heap c d0 H locs → W p l e rxX9_cry s m args below meth cod H locs 0 0 Q (F0 m 0 ls []) from hgen _ _ G
  clear G
  intro H locs G
  unfold m_X9_cry at h
  refine lv_aload_n hx hb dX9_cry_0 rfl (lv_at hl 0 rfl) ?_
  refine lv_iload_n hx hb dX9_cry_1 rfl (lv_at hl 1 rfl) ?_
  obtain ⟨K2, eK2, h⟩ := gj_s h
  have JK2 : ∀ (v1 : Int32) (H : Heap) (locs : List Loc) (ls : Array Slot), K2 v1 = some (.inr (kZ, cZ)) → gW D ad cy N A s.heap c d0 H locs → lv_has ls 3 [(0, .ref (ad t)), (1, .int a1), (2, .int a2)] → W p l e rxX9_cry s m args below meth cod H locs 0 0 Q (F0 m 21 ls [.int v1, .ref (ad t)]) := by
    intro v1 H locs ls h G hl
    rw [eK2] at h
    obtain ⟨hk3, h⟩ := gc_s h
    have ht4 : t < N := Nat.lt_of_lt_of_le (gck_lt9 hk3) hN
    rcases gbx_x h with hc5 | ⟨c7, hc5, h⟩
    · exact hQ ▸ gx_xv F G htab hlocks (vx_runV (As := [.int v1]) (rest := []) (gx_fix F) (cx_X9_demandPresent l hlt sa D ad cy N H.size hN hI c d0 hc5) (cwV 1 hts gX9_cry_X9_demandPresent rfl rfl rfl (by decide +kernel) ⟨by decide, by decide⟩) (gx_rec F G ht4 (gwe_9 hk3) rfl) rfl rfl hl.1 rfl (lv_room (Nat.le_of_ble_eq_true rfl)) dX9_cry_21 ⟨by decide, by decide⟩)
    · skip
      refine gx_callv F G (va_runV (As := [.int v1]) (rest := []) (gx_fix F) (c_X9_demandPresent l sa D ad cy N H.size hN hI c d0 hc5) (cwV 1 hts gX9_cry_X9_demandPresent rfl rfl rfl (by decide +kernel) ⟨by decide, by decide⟩) (gx_rec F G ht4 (gwe_9 hk3) rfl) rfl rfl hl.1 rfl (lv_room (Nat.le_of_ble_eq_true rfl)) dX9_cry_21 ⟨Nat.zero_le _, Nat.zero_le _⟩) (fun H locs G => ?_)
      refine lv_aload_n hx hb dX9_cry_24 rfl (lv_at hl 0 rfl) ?_
      refine lv_iload_n hx hb dX9_cry_25 rfl (lv_at hl 2 rfl) ?_
      obtain ⟨K9, eK9, h⟩ := gj_s h
      have JK9 : ∀ (v8 : Int32) (H : Heap) (locs : List Loc) (ls : Array Slot), K9 v8 = some (.inr (kZ, cZ)) → gW D ad cy N A s.heap c7 d0 H locs → lv_has ls 3 [(0, .ref (ad t)), (1, .int a1), (2, .int a2)] → W p l e rxX9_cry s m args below meth cod H locs 0 0 Q (F0 m 39 ls [.int v8, .ref (ad t)]) := by
        intro v8 H locs ls h G hl
        rw [eK9] at h
        rcases gbx_x h with hc10 | ⟨c12, hc10, h⟩
        · exact hQ ▸ gx_xv F G htab hlocks (vx_runV (As := [.int v8]) (rest := []) (gx_fix F) (cx_X9_demand l hlt sa D ad cy N H.size hN hI c7 d0 hc10) (cwV 1 hts gX9_cry_X9_demand rfl rfl rfl (by decide +kernel) ⟨by decide, by decide⟩) (gx_rec F G ht4 (gwe_9 hk3) rfl) rfl rfl hl.1 rfl (lv_room (Nat.le_of_ble_eq_true rfl)) dX9_cry_39 ⟨by decide, by decide⟩)
        · skip
          refine gx_callv F G (va_runV (As := [.int v8]) (rest := []) (gx_fix F) (c_X9_demand l sa D ad cy N H.size hN hI c7 d0 hc10) (cwV 1 hts gX9_cry_X9_demand rfl rfl rfl (by decide +kernel) ⟨by decide, by decide⟩) (gx_rec F G ht4 (gwe_9 hk3) rfl) rfl rfl hl.1 rfl (lv_room (Nat.le_of_ble_eq_true rfl)) dX9_cry_39 ⟨Nat.zero_le _, Nat.zero_le _⟩) (fun H locs G => ?_)
          exact (gok_no h).elim
      obtain ⟨K13, eK13, h⟩ := gj_s h
      have JK13 : ∀ (H : Heap) (locs : List Loc) (ls : Array Slot), K13 () = some (.inr (kZ, cZ)) → gW D ad cy N A s.heap c7 d0 H locs → lv_has ls 3 [(0, .ref (ad t)), (1, .int a1), (2, .int a2)] → W p l e rxX9_cry s m args below meth cod H locs 0 0 Q (F0 m 38 ls [.ref (ad t)]) := by
        intro  H locs ls h G hl
        rw [eK13] at h
        refine lv_iconst (v := 0) hx hb dX9_cry_38 (by decide) ?_
        exact JK9 _ _ _ _ h G hl
      refine lv_if_lt (tgt := 38) hx hb dX9_cry_26 (by decide) (fun q14 => ?_) (fun q14 => ?_)
      · replace h := gt_s q14 h
        exact JK13  _ _ _ h G hl
      · replace h := gf_s q14 h
        refine lv_iload_n hx hb dX9_cry_29 rfl (lv_at hl 2 rfl) ?_
        refine lv_iconst (v := 3) hx hb dX9_cry_30 (by decide) ?_
        refine lv_icmp_gt (tgt := 38) hx hb dX9_cry_31 (by decide) (fun q15 => ?_) (fun q15 => ?_)
        · replace h := gt_s q15 h
          exact JK13  _ _ _ h G hl
        · replace h := gf_s q15 h
          refine lv_iconst (v := 1) hx hb dX9_cry_34 (by decide) ?_
          refine lv_goto (tgt := 39) hx hb dX9_cry_35 (by decide) ?_
          exact JK9 _ _ _ _ h G hl
  obtain ⟨K16, eK16, h⟩ := gj_s h
  have JK16 : ∀ (H : Heap) (locs : List Loc) (ls : Array Slot), K16 () = some (.inr (kZ, cZ)) → gW D ad cy N A s.heap c d0 H locs → lv_has ls 3 [(0, .ref (ad t)), (1, .int a1), (2, .int a2)] → W p l e rxX9_cry s m args below meth cod H locs 0 0 Q (F0 m 20 ls [.ref (ad t)]) := by
    intro  H locs ls h G hl
    rw [eK16] at h
    refine lv_iconst (v := 0) hx hb dX9_cry_20 (by decide) ?_
    exact JK2 _ _ _ _ h G hl
  refine lv_if_lt (tgt := 20) hx hb dX9_cry_2 (by decide) (fun q17 => ?_) (fun q17 => ?_)
  · replace h := gt_s q17 h
    exact JK16  _ _ _ h G hl
  · replace h := gf_s q17 h
    refine lv_iload_n hx hb dX9_cry_5 rfl (lv_at hl 1 rfl) ?_
    refine lv_aload_n hx hb dX9_cry_6 rfl (lv_at hl 0 rfl) ?_
    obtain ⟨hk18, h⟩ := gc_s h
    have ht19 : t < N := Nat.lt_of_lt_of_le (gck_lt9 hk18) hN
    refine fg_9_now F G hk18 ht19 in9 (by decide +kernel) dX9_cry_7 ?_
    have hk20 : gck 3 = 6 := rfl
    have ht21 : 3 < N := Nat.lt_of_lt_of_le (by decide) hN
    refine fg_6_cries F G hk20 ht21 in6 (by decide +kernel) dX9_cry_10 ?_
    refine lv_icmp_ge (tgt := 20) hx hb dX9_cry_13 (by decide) (fun q22 => ?_) (fun q22 => ?_)
    · replace h := gt_s q22 h
      exact JK16  _ _ _ h G hl
    · replace h := gf_s q22 h
      refine lv_iconst (v := 1) hx hb dX9_cry_16 (by decide) ?_
      refine lv_goto (tgt := 21) hx hb dX9_cry_17 (by decide) ?_
      exact JK2 _ _ _ _ h G hl
def m_X9_stands (t : Nat) (a1 : Int32) (a2 : Int32) (a3 : Int32) (a4 : Int32) (c : gm) : Option ((Int32 × gm) ⊕ (Nat × gm)) :=
  gc (gck t = 9) (gbx (m_X9_demandThing t a1 c) (fun (c5 : gm) => gbx (m_X9_demandThing t a3 c5) (fun (c8 : gm) => gj (fun (v9 : Int32) => gbx (m_X9_demand t v9 c8) (fun (c13 : gm) => gok (gb (m_X6_standingOf 3 a1 a2 a3 a4 c13) (fun (r17 : Int32) => some (r17, c13))))) (fun K10 => gj (fun (_ : Unit) => K10 0) (fun K18 => (if a2 < 1 then K18 () else (if 9 < a2 then K18 () else (if a4 < 1 then K18 () else (if 9 < a4 then K18 () else K10 1)))))))))
abbrev rmX9_stands : Room := { frames := 8, cells := 0, slots := 0, locals := 132 }
abbrev rxX9_stands : Room := { frames := 8, cells := 1, slots := 6, locals := 132 }
set_option maxHeartbeats 4000000 in
set_option maxRecDepth 100000 in
theorem c_X9_stands (l : Launch) (sa : gSa) (D : va_G) (ad : Nat → Nat) (cy : Nat → ClassId) (N sz : Nat) (hN : 55 ≤ N) (hI : gI ad N) (c d0 : gm) {t : Nat} {a1 : Int32} {a2 : Int32} {a3 : Int32} {a4 : Int32} {rZ : Int32} {cZ : gm} (h : m_X9_stands t a1 a2 a3 a4 c = some (.inl (rZ, cZ))) : Met l yX9_stands wsX9_stands rmX9_stands (va_Pc [.ref (ad t), .int a1, .int a2, .int a3, .int a4] (gP sa D ad cy N sz c d0)) (va_Qi (fun (z : Int32) (_ : Unit) => z = rZ) (fun _ U => gE D ad cy N cZ d0 U) (gA ad N sz)) 0 0 (gA ad N sz) := by
  refine Met.ofW (cc := cX9_stands) (maxL := 5) (ret := (some .int)) (by decide) rfl ?_
  intro p e s m args below meth cod s₁ B hml hv
  obtain ⟨rfl, hsz, hP, hK, hZ⟩ := hv
  have hx := B.exec
  have hb := B.bytes
  have hr := B.returns
  have hts := atoms_spec (ws := wsX9_stands) B.pre
  have hown : s.vm.findClass RX9 = some m.cls := findClass_of_methodNamed B.named
  have hlocks := B.notSynchronized
  subst hsz
  have hl := lv_entry ([.ref (ad t), .int a1, .int a2, .int a3, .int a4]) (n := 5) (Nat.le_of_ble_eq_true rfl)
  rw [lg_entry_eq]
  generalize (lg_sl ([.ref (ad t), .int a1, .int a2, .int a3, .int a4]) ++ List.replicate (5 - (lg_sl ([.ref (ad t), .int a1, .int a2, .int a3, .int a4])).length) Slot.unset).toArray = ls at hl ⊢
  have hl : lv_has ls 5 [(0, .ref (ad t)), (1, .int a1), (2, .int a2), (3, .int a3), (4, .int a4)] := hl
  have in9 : ∀ w ∈ wsX90, w ∈ wsX9_stands := by decide +kernel
  generalize hargs : ([.ref (ad t), .int a1, .int a2, .int a3, .int a4] : List Value).toArray = args at *
  generalize hAe : gA ad N s.heap.size = A
  have F : gF sa D ad cy N A p s m args cod cX9_stands 5 wsX9_stands RX9 := ⟨hx, hb, hml, hown, hts, hK, hI, by rw [← hAe]; exact gA_ad, by rw [← hAe]; exact gA_sz, by rw [← hAe]; exact hZ⟩
  have G : gW D ad cy N A s.heap c d0 s.heap [] := ⟨hP, va_S.rf⟩
  generalize hQ : MQ below (va_Qi (fun (z : Int32) (_ : Unit) => z = rZ) (fun _ U => gE D ad cy N cZ d0 U) A) args s 0 0 A = Q
  suffices hgen : ∀ (H : Heap) (locs : List Loc), gW D ad cy N A s.heap c d0 H locs → W p l e rmX9_stands s m args below meth cod H locs 0 0 Q (F0 m 0 ls []) from hgen _ _ G
  clear G
  intro H locs G
  unfold m_X9_stands at h
  refine lv_aload_n hx hb dX9_stands_0 rfl (lv_at hl 0 rfl) ?_
  refine lv_iload_n hx hb dX9_stands_1 rfl (lv_at hl 1 rfl) ?_
  obtain ⟨hk1, h⟩ := gc_s h
  have ht2 : t < N := Nat.lt_of_lt_of_le (gck_lt9 hk1) hN
  obtain ⟨c5, hc3, h⟩ := gbx_l h
  refine gx_callv F G (va_runV (As := [.int a1]) (rest := []) (gx_fix F) (c_X9_demandThing l sa D ad cy N H.size hN hI c d0 hc3) (cwV 1 hts gX9_stands_X9_demandThing rfl rfl rfl (by decide +kernel) ⟨by decide, by decide⟩) (gx_rec F G ht2 (gwe_9 hk1) rfl) rfl rfl hl.1 rfl (lv_room (Nat.le_of_ble_eq_true rfl)) dX9_stands_2 ⟨Nat.zero_le _, Nat.zero_le _⟩) (fun H locs G => ?_)
  refine lv_aload_n hx hb dX9_stands_5 rfl (lv_at hl 0 rfl) ?_
  refine lv_iload_n hx hb dX9_stands_6 rfl (lv_at hl 3 rfl) ?_
  obtain ⟨c8, hc6, h⟩ := gbx_l h
  refine gx_callv F G (va_runV (As := [.int a3]) (rest := []) (gx_fix F) (c_X9_demandThing l sa D ad cy N H.size hN hI c5 d0 hc6) (cwV 1 hts gX9_stands_X9_demandThing rfl rfl rfl (by decide +kernel) ⟨by decide, by decide⟩) (gx_rec F G ht2 (gwe_9 hk1) rfl) rfl rfl hl.1 rfl (lv_room (Nat.le_of_ble_eq_true rfl)) dX9_stands_7 ⟨Nat.zero_le _, Nat.zero_le _⟩) (fun H locs G => ?_)
  refine lv_aload_n hx hb dX9_stands_10 rfl (lv_at hl 0 rfl) ?_
  refine lv_iload_n hx hb dX9_stands_11 rfl (lv_at hl 2 rfl) ?_
  refine lv_iconst (v := 1) hx hb dX9_stands_12 (by decide) ?_
  obtain ⟨K10, eK10, h⟩ := gj_s h
  have JK10 : ∀ (v9 : Int32) (H : Heap) (locs : List Loc) (ls : Array Slot), K10 v9 = some (.inl (rZ, cZ)) → gW D ad cy N A s.heap c8 d0 H locs → lv_has ls 5 [(0, .ref (ad t)), (1, .int a1), (2, .int a2), (3, .int a3), (4, .int a4)] → W p l e rmX9_stands s m args below meth cod H locs 0 0 Q (F0 m 40 ls [.int v9, .ref (ad t)]) := by
    intro v9 H locs ls h G hl
    rw [eK10] at h
    obtain ⟨c13, hc11, h⟩ := gbx_l h
    refine gx_callv F G (va_runV (As := [.int v9]) (rest := []) (gx_fix F) (c_X9_demand l sa D ad cy N H.size hN hI c8 d0 hc11) (cwV 1 hts gX9_stands_X9_demand rfl rfl rfl (by decide +kernel) ⟨by decide, by decide⟩) (gx_rec F G ht2 (gwe_9 hk1) rfl) rfl rfl hl.1 rfl (lv_room (Nat.le_of_ble_eq_true rfl)) dX9_stands_40 ⟨Nat.zero_le _, Nat.zero_le _⟩) (fun H locs G => ?_)
    replace h := gok_s h
    refine lv_aload_n hx hb dX9_stands_43 rfl (lv_at hl 0 rfl) ?_
    refine fg_9_now F G hk1 ht2 in9 (by decide +kernel) dX9_stands_44 ?_
    have hk14 : gck 3 = 6 := rfl
    have ht15 : 3 < N := Nat.lt_of_lt_of_le (by decide) hN
    refine lv_iload_n hx hb dX9_stands_47 rfl (lv_at hl 1 rfl) ?_
    refine lv_iload_n hx hb dX9_stands_48 rfl (lv_at hl 2 rfl) ?_
    refine lv_iload_n hx hb dX9_stands_49 rfl (lv_at hl 3 rfl) ?_
    refine lv_iload hx hb dX9_stands_50 (lv_at hl 4 rfl) ?_
    obtain ⟨r17, hc16, h⟩ := gb_s h
    refine gx_calli F G (va_runV (As := [.int a1, .int a2, .int a3, .int a4]) (rest := []) (gx_fix F) (c_X6_standingOf l sa D ad cy N H.size hN hI c13 d0 hc16) (cwV 4 hts gX9_stands_X6_standingOf rfl rfl rfl (by decide +kernel) ⟨by decide, by decide⟩) (gx_rec F G ht15 (gwe_6 hk14) rfl) rfl rfl hl.1 rfl (lv_room (Nat.le_of_ble_eq_true rfl)) dX9_stands_52 ⟨Nat.zero_le _, Nat.zero_le _⟩) (fun H locs G => ?_)
    cases h
    rw [← hQ]
    exact gx_iret F G hr hlocks dX9_stands_55
  obtain ⟨K18, eK18, h⟩ := gj_s h
  have JK18 : ∀ (H : Heap) (locs : List Loc) (ls : Array Slot), K18 () = some (.inl (rZ, cZ)) → gW D ad cy N A s.heap c8 d0 H locs → lv_has ls 5 [(0, .ref (ad t)), (1, .int a1), (2, .int a2), (3, .int a3), (4, .int a4)] → W p l e rmX9_stands s m args below meth cod H locs 0 0 Q (F0 m 39 ls [.ref (ad t)]) := by
    intro  H locs ls h G hl
    rw [eK18] at h
    refine lv_iconst (v := 0) hx hb dX9_stands_39 (by decide) ?_
    exact JK10 _ _ _ _ h G hl
  refine lv_icmp_lt (tgt := 39) hx hb dX9_stands_13 (by decide) (fun q19 => ?_) (fun q19 => ?_)
  · replace h := gt_s q19 h
    exact JK18  _ _ _ h G hl
  · replace h := gf_s q19 h
    refine lv_iload_n hx hb dX9_stands_16 rfl (lv_at hl 2 rfl) ?_
    refine lv_bipush (v := 9) hx hb dX9_stands_17 (by decide) ?_
    refine lv_icmp_gt (tgt := 39) hx hb dX9_stands_19 (by decide) (fun q20 => ?_) (fun q20 => ?_)
    · replace h := gt_s q20 h
      exact JK18  _ _ _ h G hl
    · replace h := gf_s q20 h
      refine lv_iload hx hb dX9_stands_22 (lv_at hl 4 rfl) ?_
      refine lv_iconst (v := 1) hx hb dX9_stands_24 (by decide) ?_
      refine lv_icmp_lt (tgt := 39) hx hb dX9_stands_25 (by decide) (fun q21 => ?_) (fun q21 => ?_)
      · replace h := gt_s q21 h
        exact JK18  _ _ _ h G hl
      · replace h := gf_s q21 h
        refine lv_iload hx hb dX9_stands_28 (lv_at hl 4 rfl) ?_
        refine lv_bipush (v := 9) hx hb dX9_stands_30 (by decide) ?_
        refine lv_icmp_gt (tgt := 39) hx hb dX9_stands_32 (by decide) (fun q22 => ?_) (fun q22 => ?_)
        · replace h := gt_s q22 h
          exact JK18  _ _ _ h G hl
        · replace h := gf_s q22 h
          refine lv_iconst (v := 1) hx hb dX9_stands_35 (by decide) ?_
          refine lv_goto (tgt := 40) hx hb dX9_stands_36 (by decide) ?_
          exact JK10 _ _ _ _ h G hl
set_option maxHeartbeats 4000000 in
set_option maxRecDepth 100000 in
theorem cx_X9_stands (l : Launch) (hlt : l.stackTraces = false) (sa : gSa) (D : va_G) (ad : Nat → Nat) (cy : Nat → ClassId) (N sz : Nat) (hN : 55 ≤ N) (hI : gI ad N) (c d0 : gm) {t : Nat} {a1 : Int32} {a2 : Int32} {a3 : Int32} {a4 : Int32} {kZ : Nat} {cZ : gm} (h : m_X9_stands t a1 a2 a3 a4 c = some (.inr (kZ, cZ))) : vx_Met l yX9_stands wsX9_stands rxX9_stands (va_Pc [.ref (ad t), .int a1, .int a2, .int a3, .int a4] (gP sa D ad cy N sz c d0)) (va_Qi (fun (_ : Int32) (_ : Unit) => False) (fun _ _ => True) (gA ad N sz)) (vx_X (fun (_ : Unit) => True) (fun E _ U => E = gxn kZ ∧ gE D ad cy N cZ d0 U) (gA ad N sz)) 1 6 (gA ad N sz) := by
  refine vx_ofW (cc := cX9_stands) (maxL := 5) (ret := (some .int)) (by decide) rfl ?_
  intro p e s m args below meth cod s₁ B hml htab hv
  obtain ⟨rfl, hsz, hP, hK, hZ⟩ := hv
  have hx := B.exec
  have hb := B.bytes
  have hr := B.returns
  have hts := atoms_spec (ws := wsX9_stands) B.pre
  have hown : s.vm.findClass RX9 = some m.cls := findClass_of_methodNamed B.named
  have hlocks := B.notSynchronized
  subst hsz
  have hl := lv_entry ([.ref (ad t), .int a1, .int a2, .int a3, .int a4]) (n := 5) (Nat.le_of_ble_eq_true rfl)
  rw [lg_entry_eq]
  generalize (lg_sl ([.ref (ad t), .int a1, .int a2, .int a3, .int a4]) ++ List.replicate (5 - (lg_sl ([.ref (ad t), .int a1, .int a2, .int a3, .int a4])).length) Slot.unset).toArray = ls at hl ⊢
  have hl : lv_has ls 5 [(0, .ref (ad t)), (1, .int a1), (2, .int a2), (3, .int a3), (4, .int a4)] := hl
  generalize hargs : ([.ref (ad t), .int a1, .int a2, .int a3, .int a4] : List Value).toArray = args at *
  generalize hAe : gA ad N s.heap.size = A
  have F : gF sa D ad cy N A p s m args cod cX9_stands 5 wsX9_stands RX9 := ⟨hx, hb, hml, hown, hts, hK, hI, by rw [← hAe]; exact gA_ad, by rw [← hAe]; exact gA_sz, by rw [← hAe]; exact hZ⟩
  have G : gW D ad cy N A s.heap c d0 s.heap [] := ⟨hP, va_S.rf⟩
  generalize hQ : vx_MQ below (va_Qi (fun (_ : Int32) (_ : Unit) => False) (fun _ _ => True) A) (vx_X (fun (_ : Unit) => True) (fun E _ U => E = gxn kZ ∧ gE D ad cy N cZ d0 U) A) args s 1 6 A = Q
  suffices hgen : ∀ (H : Heap) (locs : List Loc), gW D ad cy N A s.heap c d0 H locs → W p l e rxX9_stands s m args below meth cod H locs 0 0 Q (F0 m 0 ls []) from hgen _ _ G
  clear G
  intro H locs G
  unfold m_X9_stands at h
  refine lv_aload_n hx hb dX9_stands_0 rfl (lv_at hl 0 rfl) ?_
  refine lv_iload_n hx hb dX9_stands_1 rfl (lv_at hl 1 rfl) ?_
  obtain ⟨hk1, h⟩ := gc_s h
  have ht2 : t < N := Nat.lt_of_lt_of_le (gck_lt9 hk1) hN
  rcases gbx_x h with hc3 | ⟨c5, hc3, h⟩
  · exact hQ ▸ gx_xv F G htab hlocks (vx_runV (As := [.int a1]) (rest := []) (gx_fix F) (cx_X9_demandThing l hlt sa D ad cy N H.size hN hI c d0 hc3) (cwV 1 hts gX9_stands_X9_demandThing rfl rfl rfl (by decide +kernel) ⟨by decide, by decide⟩) (gx_rec F G ht2 (gwe_9 hk1) rfl) rfl rfl hl.1 rfl (lv_room (Nat.le_of_ble_eq_true rfl)) dX9_stands_2 ⟨by decide, by decide⟩)
  · skip
    refine gx_callv F G (va_runV (As := [.int a1]) (rest := []) (gx_fix F) (c_X9_demandThing l sa D ad cy N H.size hN hI c d0 hc3) (cwV 1 hts gX9_stands_X9_demandThing rfl rfl rfl (by decide +kernel) ⟨by decide, by decide⟩) (gx_rec F G ht2 (gwe_9 hk1) rfl) rfl rfl hl.1 rfl (lv_room (Nat.le_of_ble_eq_true rfl)) dX9_stands_2 ⟨Nat.zero_le _, Nat.zero_le _⟩) (fun H locs G => ?_)
    refine lv_aload_n hx hb dX9_stands_5 rfl (lv_at hl 0 rfl) ?_
    refine lv_iload_n hx hb dX9_stands_6 rfl (lv_at hl 3 rfl) ?_
    rcases gbx_x h with hc6 | ⟨c8, hc6, h⟩
    · exact hQ ▸ gx_xv F G htab hlocks (vx_runV (As := [.int a3]) (rest := []) (gx_fix F) (cx_X9_demandThing l hlt sa D ad cy N H.size hN hI c5 d0 hc6) (cwV 1 hts gX9_stands_X9_demandThing rfl rfl rfl (by decide +kernel) ⟨by decide, by decide⟩) (gx_rec F G ht2 (gwe_9 hk1) rfl) rfl rfl hl.1 rfl (lv_room (Nat.le_of_ble_eq_true rfl)) dX9_stands_7 ⟨by decide, by decide⟩)
    · skip
      refine gx_callv F G (va_runV (As := [.int a3]) (rest := []) (gx_fix F) (c_X9_demandThing l sa D ad cy N H.size hN hI c5 d0 hc6) (cwV 1 hts gX9_stands_X9_demandThing rfl rfl rfl (by decide +kernel) ⟨by decide, by decide⟩) (gx_rec F G ht2 (gwe_9 hk1) rfl) rfl rfl hl.1 rfl (lv_room (Nat.le_of_ble_eq_true rfl)) dX9_stands_7 ⟨Nat.zero_le _, Nat.zero_le _⟩) (fun H locs G => ?_)
      refine lv_aload_n hx hb dX9_stands_10 rfl (lv_at hl 0 rfl) ?_
      refine lv_iload_n hx hb dX9_stands_11 rfl (lv_at hl 2 rfl) ?_
      refine lv_iconst (v := 1) hx hb dX9_stands_12 (by decide) ?_
      obtain ⟨K10, eK10, h⟩ := gj_s h
      have JK10 : ∀ (v9 : Int32) (H : Heap) (locs : List Loc) (ls : Array Slot), K10 v9 = some (.inr (kZ, cZ)) → gW D ad cy N A s.heap c8 d0 H locs → lv_has ls 5 [(0, .ref (ad t)), (1, .int a1), (2, .int a2), (3, .int a3), (4, .int a4)] → W p l e rxX9_stands s m args below meth cod H locs 0 0 Q (F0 m 40 ls [.int v9, .ref (ad t)]) := by
        intro v9 H locs ls h G hl
        rw [eK10] at h
        rcases gbx_x h with hc11 | ⟨c13, hc11, h⟩
        · exact hQ ▸ gx_xv F G htab hlocks (vx_runV (As := [.int v9]) (rest := []) (gx_fix F) (cx_X9_demand l hlt sa D ad cy N H.size hN hI c8 d0 hc11) (cwV 1 hts gX9_stands_X9_demand rfl rfl rfl (by decide +kernel) ⟨by decide, by decide⟩) (gx_rec F G ht2 (gwe_9 hk1) rfl) rfl rfl hl.1 rfl (lv_room (Nat.le_of_ble_eq_true rfl)) dX9_stands_40 ⟨by decide, by decide⟩)
        · skip
          refine gx_callv F G (va_runV (As := [.int v9]) (rest := []) (gx_fix F) (c_X9_demand l sa D ad cy N H.size hN hI c8 d0 hc11) (cwV 1 hts gX9_stands_X9_demand rfl rfl rfl (by decide +kernel) ⟨by decide, by decide⟩) (gx_rec F G ht2 (gwe_9 hk1) rfl) rfl rfl hl.1 rfl (lv_room (Nat.le_of_ble_eq_true rfl)) dX9_stands_40 ⟨Nat.zero_le _, Nat.zero_le _⟩) (fun H locs G => ?_)
          exact (gok_no h).elim
      obtain ⟨K14, eK14, h⟩ := gj_s h
      have JK14 : ∀ (H : Heap) (locs : List Loc) (ls : Array Slot), K14 () = some (.inr (kZ, cZ)) → gW D ad cy N A s.heap c8 d0 H locs → lv_has ls 5 [(0, .ref (ad t)), (1, .int a1), (2, .int a2), (3, .int a3), (4, .int a4)] → W p l e rxX9_stands s m args below meth cod H locs 0 0 Q (F0 m 39 ls [.ref (ad t)]) := by
        intro  H locs ls h G hl
        rw [eK14] at h
        refine lv_iconst (v := 0) hx hb dX9_stands_39 (by decide) ?_
        exact JK10 _ _ _ _ h G hl
      refine lv_icmp_lt (tgt := 39) hx hb dX9_stands_13 (by decide) (fun q15 => ?_) (fun q15 => ?_)
      · replace h := gt_s q15 h
        exact JK14  _ _ _ h G hl
      · replace h := gf_s q15 h
        refine lv_iload_n hx hb dX9_stands_16 rfl (lv_at hl 2 rfl) ?_
        refine lv_bipush (v := 9) hx hb dX9_stands_17 (by decide) ?_
        refine lv_icmp_gt (tgt := 39) hx hb dX9_stands_19 (by decide) (fun q16 => ?_) (fun q16 => ?_)
        · replace h := gt_s q16 h
          exact JK14  _ _ _ h G hl
        · replace h := gf_s q16 h
          refine lv_iload hx hb dX9_stands_22 (lv_at hl 4 rfl) ?_
          refine lv_iconst (v := 1) hx hb dX9_stands_24 (by decide) ?_
          refine lv_icmp_lt (tgt := 39) hx hb dX9_stands_25 (by decide) (fun q17 => ?_) (fun q17 => ?_)
          · replace h := gt_s q17 h
            exact JK14  _ _ _ h G hl
          · replace h := gf_s q17 h
            refine lv_iload hx hb dX9_stands_28 (lv_at hl 4 rfl) ?_
            refine lv_bipush (v := 9) hx hb dX9_stands_30 (by decide) ?_
            refine lv_icmp_gt (tgt := 39) hx hb dX9_stands_32 (by decide) (fun q18 => ?_) (fun q18 => ?_)
            · replace h := gt_s q18 h
              exact JK14  _ _ _ h G hl
            · replace h := gf_s q18 h
              refine lv_iconst (v := 1) hx hb dX9_stands_35 (by decide) ?_
              refine lv_goto (tgt := 40) hx hb dX9_stands_36 (by decide) ?_
              exact JK10 _ _ _ _ h G hl
