-- X9_look X9_falsely X9_gain X9_isRest X9_sellers X9_even X9_share X9_heaviest X9_above X9_alike
def m_X9_look (n : Nat) (t : Nat) (a1 : Int32) (c : gm) : Option ((Int32 × gm) ⊕ (Nat × gm)) :=
  gj (fun (v1 : Int32) => gc (gck t = 9) (gbx (m_X9_demand t v1 c) (fun (c7 : gm) => gok (gc (gck (c7.2.2 2) = 0) (gb (m_X0_seekNext n (c7.2.2 2) 3 c7) (fun (c14 : gm) => (if a1 = 0 then gc (gck (c14.2.2 2) = 0) (some ((c14.1 (c14.2.2 2) 7), c14)) else gc (gck (c14.2.2 2) = 0) (some ((c14.1 (c14.2.2 2) 8), c14))))))))) (fun K2 => gj (fun (_ : Unit) => K2 1) (fun K20 => (if a1 = 0 then K20 () else (if a1 = 1 then K20 () else K2 0))))
abbrev rmX9_look : Room := { frames := 7, cells := 0, slots := 0, locals := 134 }
abbrev rxX9_look : Room := { frames := 7, cells := 1, slots := 6, locals := 134 }
set_option maxHeartbeats 4000000 in
set_option maxRecDepth 100000 in
theorem c_X9_look (l : Launch) (sa : gSa) (D : va_G) (ad : Nat → Nat) (cy : Nat → ClassId) (N sz : Nat) (hN : 55 ≤ N) (hI : gI ad N) (c d0 : gm) {n : Nat} {t : Nat} {a1 : Int32} {rZ : Int32} {cZ : gm} (h : m_X9_look n t a1 c = some (.inl (rZ, cZ))) : Met l yX9_look wsX9_look rmX9_look (va_Pc [.ref (ad t), .int a1] (gP sa D ad cy N sz c d0)) (va_Qi (fun (z : Int32) (_ : Unit) => z = rZ) (fun _ U => gE D ad cy N cZ d0 U) (gA ad N sz)) 0 0 (gA ad N sz) := by
  refine Met.ofW (cc := cX9_look) (maxL := 2) (ret := (some .int)) (by decide) rfl ?_
  intro p e s m args below meth cod s₁ B hml hv
  obtain ⟨rfl, hsz, hP, hK, hZ⟩ := hv
  have hx := B.exec
  have hb := B.bytes
  have hr := B.returns
  have hts := atoms_spec (ws := wsX9_look) B.pre
  have hown : s.vm.findClass RX9 = some m.cls := findClass_of_methodNamed B.named
  have hlocks := B.notSynchronized
  subst hsz
  have hl := lv_entry ([.ref (ad t), .int a1]) (n := 2) (Nat.le_of_ble_eq_true rfl)
  rw [lg_entry_eq]
  generalize (lg_sl ([.ref (ad t), .int a1]) ++ List.replicate (2 - (lg_sl ([.ref (ad t), .int a1])).length) Slot.unset).toArray = ls at hl ⊢
  have hl : lv_has ls 2 [(0, .ref (ad t)), (1, .int a1)] := hl
  have in0 : ∀ w ∈ wsX00, w ∈ wsX9_look := by decide +kernel
  have in9 : ∀ w ∈ wsX90, w ∈ wsX9_look := by decide +kernel
  generalize hargs : ([.ref (ad t), .int a1] : List Value).toArray = args at *
  generalize hAe : gA ad N s.heap.size = A
  have F : gF sa D ad cy N A p s m args cod cX9_look 2 wsX9_look RX9 := ⟨hx, hb, hml, hown, hts, hK, hI, by rw [← hAe]; exact gA_ad, by rw [← hAe]; exact gA_sz, by rw [← hAe]; exact hZ⟩
  have G : gW D ad cy N A s.heap c d0 s.heap [] := ⟨hP, va_S.rf⟩
  generalize hQ : MQ below (va_Qi (fun (z : Int32) (_ : Unit) => z = rZ) (fun _ U => gE D ad cy N cZ d0 U) A) args s 0 0 A = Q
  suffices hgen : ∀ (H : Heap) (locs : List Loc), gW D ad cy N A s.heap c d0 H locs → W p l e rmX9_look s m args below meth cod H locs 0 0 Q (F0 m 0 ls []) from hgen _ _ G
  clear G
  intro H locs G
  unfold m_X9_look at h
  refine lv_aload_n hx hb dX9_look_0 rfl (lv_at hl 0 rfl) ?_
  refine lv_iload_n hx hb dX9_look_1 rfl (lv_at hl 1 rfl) ?_
  obtain ⟨K2, eK2, h⟩ := gj_s h
  have JK2 : ∀ (v1 : Int32) (H : Heap) (locs : List Loc) (ls : Array Slot), K2 v1 = some (.inl (rZ, cZ)) → gW D ad cy N A s.heap c d0 H locs → lv_has ls 2 [(0, .ref (ad t)), (1, .int a1)] → W p l e rmX9_look s m args below meth cod H locs 0 0 Q (F0 m 15 ls [.int v1, .ref (ad t)]) := by
    intro v1 H locs ls h G hl
    rw [eK2] at h
    obtain ⟨hk3, h⟩ := gc_s h
    have ht4 : t < N := Nat.lt_of_lt_of_le (gck_lt9 hk3) hN
    obtain ⟨c7, hc5, h⟩ := gbx_l h
    refine gx_callv F G (va_runV (As := [.int v1]) (rest := []) (gx_fix F) (c_X9_demand l sa D ad cy N H.size hN hI c d0 hc5) (cwV 1 hts gX9_look_X9_demand rfl rfl rfl (by decide +kernel) ⟨by decide, by decide⟩) (gx_rec F G ht4 (gwe_9 hk3) rfl) rfl rfl hl.1 rfl (lv_room (Nat.le_of_ble_eq_true rfl)) dX9_look_15 ⟨Nat.zero_le _, Nat.zero_le _⟩) (fun H locs G => ?_)
    replace h := gok_s h
    refine lv_aload_n hx hb dX9_look_18 rfl (lv_at hl 0 rfl) ?_
    refine fg_9_lines F G hk3 ht4 in9 (by decide +kernel) dX9_look_19 ?_
    refine lv_aload_n hx hb dX9_look_22 rfl (lv_at hl 0 rfl) ?_
    refine fg_9_now F G hk3 ht4 in9 (by decide +kernel) dX9_look_23 ?_
    have hk8 : gck 3 = 6 := rfl
    have ht9 : 3 < N := Nat.lt_of_lt_of_le (by decide) hN
    obtain ⟨hk10, h⟩ := gc_s h
    have ht11 : (c7.2.2 2) < N := Nat.lt_of_lt_of_le (gck_lt0 hk10) hN
    obtain ⟨c14, hc12, h⟩ := gb_s h
    refine gx_callv F G (va_runV (As := [.ref (ad 3)]) (rest := []) (gx_fix F) (c_X0_seekNext l sa D ad cy N H.size hN hI c7 d0 hc12) (cwV 1 hts gX9_look_X0_seekNext rfl rfl rfl (by decide +kernel) ⟨by decide, by decide⟩) (gx_rec F G ht11 (gwe_0 hk10) rfl) rfl rfl hl.1 rfl (lv_room (Nat.le_of_ble_eq_true rfl)) dX9_look_26 ⟨Nat.zero_le _, Nat.zero_le _⟩) (fun H locs G => ?_)
    refine lv_iload_n hx hb dX9_look_29 rfl (lv_at hl 1 rfl) ?_
    refine lv_if_ne (tgt := 43) hx hb dX9_look_30 (by decide) (fun q15 => ?_) (fun q15 => ?_)
    · replace h := gf_s q15 h
      refine lv_aload_n hx hb dX9_look_43 rfl (lv_at hl 0 rfl) ?_
      refine fg_9_lines F G hk3 ht4 in9 (by decide +kernel) dX9_look_44 ?_
      obtain ⟨hk16, h⟩ := gc_s h
      have ht17 : (c14.2.2 2) < N := Nat.lt_of_lt_of_le (gck_lt0 hk16) hN
      refine fg_0_leftAtWorst F G hk16 ht17 in0 (by decide +kernel) dX9_look_47 ?_
      cases h
      rw [← hQ]
      exact gx_iret F G hr hlocks dX9_look_50
    · replace h := gt_s q15 h
      refine lv_aload_n hx hb dX9_look_33 rfl (lv_at hl 0 rfl) ?_
      refine fg_9_lines F G hk3 ht4 in9 (by decide +kernel) dX9_look_34 ?_
      obtain ⟨hk18, h⟩ := gc_s h
      have ht19 : (c14.2.2 2) < N := Nat.lt_of_lt_of_le (gck_lt0 hk18) hN
      refine fg_0_nextTwo F G hk18 ht19 in0 (by decide +kernel) dX9_look_37 ?_
      refine lv_goto (tgt := 50) hx hb dX9_look_40 (by decide) ?_
      cases h
      rw [← hQ]
      exact gx_iret F G hr hlocks dX9_look_50
  obtain ⟨K20, eK20, h⟩ := gj_s h
  have JK20 : ∀ (H : Heap) (locs : List Loc) (ls : Array Slot), K20 () = some (.inl (rZ, cZ)) → gW D ad cy N A s.heap c d0 H locs → lv_has ls 2 [(0, .ref (ad t)), (1, .int a1)] → W p l e rmX9_look s m args below meth cod H locs 0 0 Q (F0 m 10 ls [.ref (ad t)]) := by
    intro  H locs ls h G hl
    rw [eK20] at h
    refine lv_iconst (v := 1) hx hb dX9_look_10 (by decide) ?_
    refine lv_goto (tgt := 15) hx hb dX9_look_11 (by decide) ?_
    exact JK2 _ _ _ _ h G hl
  refine lv_if_eq (tgt := 10) hx hb dX9_look_2 (by decide) (fun q21 => ?_) (fun q21 => ?_)
  · replace h := gt_s q21 h
    exact JK20  _ _ _ h G hl
  · replace h := gf_s q21 h
    refine lv_iload_n hx hb dX9_look_5 rfl (lv_at hl 1 rfl) ?_
    refine lv_iconst (v := 1) hx hb dX9_look_6 (by decide) ?_
    refine lv_icmp_ne (tgt := 14) hx hb dX9_look_7 (by decide) (fun q22 => ?_) (fun q22 => ?_)
    · replace h := gf_s q22 h
      refine lv_iconst (v := 0) hx hb dX9_look_14 (by decide) ?_
      exact JK2 _ _ _ _ h G hl
    · replace h := gt_s q22 h
      exact JK20  _ _ _ h G hl
set_option maxHeartbeats 4000000 in
set_option maxRecDepth 100000 in
theorem cx_X9_look (l : Launch) (hlt : l.stackTraces = false) (sa : gSa) (D : va_G) (ad : Nat → Nat) (cy : Nat → ClassId) (N sz : Nat) (hN : 55 ≤ N) (hI : gI ad N) (c d0 : gm) {n : Nat} {t : Nat} {a1 : Int32} {kZ : Nat} {cZ : gm} (h : m_X9_look n t a1 c = some (.inr (kZ, cZ))) : vx_Met l yX9_look wsX9_look rxX9_look (va_Pc [.ref (ad t), .int a1] (gP sa D ad cy N sz c d0)) (va_Qi (fun (_ : Int32) (_ : Unit) => False) (fun _ _ => True) (gA ad N sz)) (vx_X (fun (_ : Unit) => True) (fun E _ U => E = gxn kZ ∧ gE D ad cy N cZ d0 U) (gA ad N sz)) 1 6 (gA ad N sz) := by
  refine vx_ofW (cc := cX9_look) (maxL := 2) (ret := (some .int)) (by decide) rfl ?_
  intro p e s m args below meth cod s₁ B hml htab hv
  obtain ⟨rfl, hsz, hP, hK, hZ⟩ := hv
  have hx := B.exec
  have hb := B.bytes
  have hr := B.returns
  have hts := atoms_spec (ws := wsX9_look) B.pre
  have hown : s.vm.findClass RX9 = some m.cls := findClass_of_methodNamed B.named
  have hlocks := B.notSynchronized
  subst hsz
  have hl := lv_entry ([.ref (ad t), .int a1]) (n := 2) (Nat.le_of_ble_eq_true rfl)
  rw [lg_entry_eq]
  generalize (lg_sl ([.ref (ad t), .int a1]) ++ List.replicate (2 - (lg_sl ([.ref (ad t), .int a1])).length) Slot.unset).toArray = ls at hl ⊢
  have hl : lv_has ls 2 [(0, .ref (ad t)), (1, .int a1)] := hl
  generalize hargs : ([.ref (ad t), .int a1] : List Value).toArray = args at *
  generalize hAe : gA ad N s.heap.size = A
  have F : gF sa D ad cy N A p s m args cod cX9_look 2 wsX9_look RX9 := ⟨hx, hb, hml, hown, hts, hK, hI, by rw [← hAe]; exact gA_ad, by rw [← hAe]; exact gA_sz, by rw [← hAe]; exact hZ⟩
  have G : gW D ad cy N A s.heap c d0 s.heap [] := ⟨hP, va_S.rf⟩
  generalize hQ : vx_MQ below (va_Qi (fun (_ : Int32) (_ : Unit) => False) (fun _ _ => True) A) (vx_X (fun (_ : Unit) => True) (fun E _ U => E = gxn kZ ∧ gE D ad cy N cZ d0 U) A) args s 1 6 A = Q
  suffices hgen : ∀ (H : Heap) (locs : List Loc), gW D ad cy N A s.heap c d0 H locs → W p l e rxX9_look s m args below meth cod H locs 0 0 Q (F0 m 0 ls []) from hgen _ _ G
  clear G
  intro H locs G
  unfold m_X9_look at h
  refine lv_aload_n hx hb dX9_look_0 rfl (lv_at hl 0 rfl) ?_
  refine lv_iload_n hx hb dX9_look_1 rfl (lv_at hl 1 rfl) ?_
  obtain ⟨K2, eK2, h⟩ := gj_s h
  have JK2 : ∀ (v1 : Int32) (H : Heap) (locs : List Loc) (ls : Array Slot), K2 v1 = some (.inr (kZ, cZ)) → gW D ad cy N A s.heap c d0 H locs → lv_has ls 2 [(0, .ref (ad t)), (1, .int a1)] → W p l e rxX9_look s m args below meth cod H locs 0 0 Q (F0 m 15 ls [.int v1, .ref (ad t)]) := by
    intro v1 H locs ls h G hl
    rw [eK2] at h
    obtain ⟨hk3, h⟩ := gc_s h
    have ht4 : t < N := Nat.lt_of_lt_of_le (gck_lt9 hk3) hN
    rcases gbx_x h with hc5 | ⟨c7, hc5, h⟩
    · exact hQ ▸ gx_xv F G htab hlocks (vx_runV (As := [.int v1]) (rest := []) (gx_fix F) (cx_X9_demand l hlt sa D ad cy N H.size hN hI c d0 hc5) (cwV 1 hts gX9_look_X9_demand rfl rfl rfl (by decide +kernel) ⟨by decide, by decide⟩) (gx_rec F G ht4 (gwe_9 hk3) rfl) rfl rfl hl.1 rfl (lv_room (Nat.le_of_ble_eq_true rfl)) dX9_look_15 ⟨by decide, by decide⟩)
    · skip
      refine gx_callv F G (va_runV (As := [.int v1]) (rest := []) (gx_fix F) (c_X9_demand l sa D ad cy N H.size hN hI c d0 hc5) (cwV 1 hts gX9_look_X9_demand rfl rfl rfl (by decide +kernel) ⟨by decide, by decide⟩) (gx_rec F G ht4 (gwe_9 hk3) rfl) rfl rfl hl.1 rfl (lv_room (Nat.le_of_ble_eq_true rfl)) dX9_look_15 ⟨Nat.zero_le _, Nat.zero_le _⟩) (fun H locs G => ?_)
      exact (gok_no h).elim
  obtain ⟨K8, eK8, h⟩ := gj_s h
  have JK8 : ∀ (H : Heap) (locs : List Loc) (ls : Array Slot), K8 () = some (.inr (kZ, cZ)) → gW D ad cy N A s.heap c d0 H locs → lv_has ls 2 [(0, .ref (ad t)), (1, .int a1)] → W p l e rxX9_look s m args below meth cod H locs 0 0 Q (F0 m 10 ls [.ref (ad t)]) := by
    intro  H locs ls h G hl
    rw [eK8] at h
    refine lv_iconst (v := 1) hx hb dX9_look_10 (by decide) ?_
    refine lv_goto (tgt := 15) hx hb dX9_look_11 (by decide) ?_
    exact JK2 _ _ _ _ h G hl
  refine lv_if_eq (tgt := 10) hx hb dX9_look_2 (by decide) (fun q9 => ?_) (fun q9 => ?_)
  · replace h := gt_s q9 h
    exact JK8  _ _ _ h G hl
  · replace h := gf_s q9 h
    refine lv_iload_n hx hb dX9_look_5 rfl (lv_at hl 1 rfl) ?_
    refine lv_iconst (v := 1) hx hb dX9_look_6 (by decide) ?_
    refine lv_icmp_ne (tgt := 14) hx hb dX9_look_7 (by decide) (fun q10 => ?_) (fun q10 => ?_)
    · replace h := gf_s q10 h
      refine lv_iconst (v := 0) hx hb dX9_look_14 (by decide) ?_
      exact JK2 _ _ _ _ h G hl
    · replace h := gt_s q10 h
      exact JK8  _ _ _ h G hl
def m_X9_falsely_L33 (a1 : Int32) (y10 : Int32) (y11 : Int32) : Option ((Int32 × Int32) ⊕ (Int32)) :=
  (if 20 ≤ y11 then some (.inr y11) else (if a1 ≤ ((y10 - 3) / 2) then some (.inr y11) else gv (y10 * 3) (fun (x15 : Int32) => gv (y11 + 1) (fun (x16 : Int32) => some (.inl (x15, x16))))))
def m_X9_falsely (n : Nat) (t : Nat) (a1 : Int32) (c : gm) : Option ((Int32 × gm) ⊕ (Nat × gm)) :=
  gj (fun (v1 : Int32) => gc (gck t = 9) (gbx (m_X9_demand t v1 c) (fun (c7 : gm) => gok ((if 3 ≤ a1 then gb (gloop (gu2 (fun (y10 : Int32) (y11 : Int32) => m_X9_falsely_L33 a1 y10 y11)) n (9, 2)) (fun (z12 : Int32) => some (z12, c7)) else some ((-1), c7)))))) (fun K2 => gj (fun (_ : Unit) => K2 0) (fun K17 => (if a1 < 1 then K17 () else (if 9999 < a1 then K17 () else K2 1))))
abbrev rmX9_falsely : Room := { frames := 7, cells := 0, slots := 0, locals := 111 }
abbrev rxX9_falsely : Room := { frames := 7, cells := 1, slots := 6, locals := 111 }
set_option maxHeartbeats 4000000 in
set_option maxRecDepth 100000 in
theorem c_X9_falsely (l : Launch) (sa : gSa) (D : va_G) (ad : Nat → Nat) (cy : Nat → ClassId) (N sz : Nat) (hN : 55 ≤ N) (hI : gI ad N) (c d0 : gm) {n : Nat} {t : Nat} {a1 : Int32} {rZ : Int32} {cZ : gm} (h : m_X9_falsely n t a1 c = some (.inl (rZ, cZ))) : Met l yX9_falsely wsX9_falsely rmX9_falsely (va_Pc [.ref (ad t), .int a1] (gP sa D ad cy N sz c d0)) (va_Qi (fun (z : Int32) (_ : Unit) => z = rZ) (fun _ U => gE D ad cy N cZ d0 U) (gA ad N sz)) 0 0 (gA ad N sz) := by
  refine Met.ofW (cc := cX9_falsely) (maxL := 4) (ret := (some .int)) (by decide) rfl ?_
  intro p e s m args below meth cod s₁ B hml hv
  obtain ⟨rfl, hsz, hP, hK, hZ⟩ := hv
  have hx := B.exec
  have hb := B.bytes
  have hr := B.returns
  have hts := atoms_spec (ws := wsX9_falsely) B.pre
  have hown : s.vm.findClass RX9 = some m.cls := findClass_of_methodNamed B.named
  have hlocks := B.notSynchronized
  subst hsz
  have hl := lv_entry ([.ref (ad t), .int a1]) (n := 4) (Nat.le_of_ble_eq_true rfl)
  rw [lg_entry_eq]
  generalize (lg_sl ([.ref (ad t), .int a1]) ++ List.replicate (4 - (lg_sl ([.ref (ad t), .int a1])).length) Slot.unset).toArray = ls at hl ⊢
  have hl : lv_has ls 4 [(0, .ref (ad t)), (1, .int a1)] := hl
  generalize hargs : ([.ref (ad t), .int a1] : List Value).toArray = args at *
  generalize hAe : gA ad N s.heap.size = A
  have F : gF sa D ad cy N A p s m args cod cX9_falsely 4 wsX9_falsely RX9 := ⟨hx, hb, hml, hown, hts, hK, hI, by rw [← hAe]; exact gA_ad, by rw [← hAe]; exact gA_sz, by rw [← hAe]; exact hZ⟩
  have G : gW D ad cy N A s.heap c d0 s.heap [] := ⟨hP, va_S.rf⟩
  generalize hQ : MQ below (va_Qi (fun (z : Int32) (_ : Unit) => z = rZ) (fun _ U => gE D ad cy N cZ d0 U) A) args s 0 0 A = Q
  suffices hgen : ∀ (H : Heap) (locs : List Loc), gW D ad cy N A s.heap c d0 H locs → W p l e rmX9_falsely s m args below meth cod H locs 0 0 Q (F0 m 0 ls []) from hgen _ _ G
  clear G
  intro H locs G
  unfold m_X9_falsely at h
  refine lv_aload_n hx hb dX9_falsely_0 rfl (lv_at hl 0 rfl) ?_
  refine lv_iload_n hx hb dX9_falsely_1 rfl (lv_at hl 1 rfl) ?_
  refine lv_iconst (v := 1) hx hb dX9_falsely_2 (by decide) ?_
  obtain ⟨K2, eK2, h⟩ := gj_s h
  have JK2 : ∀ (v1 : Int32) (H : Heap) (locs : List Loc) (ls : Array Slot), K2 v1 = some (.inl (rZ, cZ)) → gW D ad cy N A s.heap c d0 H locs → lv_has ls 4 [(1, .int a1)] → W p l e rmX9_falsely s m args below meth cod H locs 0 0 Q (F0 m 18 ls [.int v1, .ref (ad t)]) := by
    intro v1 H locs ls h G hl
    rw [eK2] at h
    obtain ⟨hk3, h⟩ := gc_s h
    have ht4 : t < N := Nat.lt_of_lt_of_le (gck_lt9 hk3) hN
    obtain ⟨c7, hc5, h⟩ := gbx_l h
    refine gx_callv F G (va_runV (As := [.int v1]) (rest := []) (gx_fix F) (c_X9_demand l sa D ad cy N H.size hN hI c d0 hc5) (cwV 1 hts gX9_falsely_X9_demand rfl rfl rfl (by decide +kernel) ⟨by decide, by decide⟩) (gx_rec F G ht4 (gwe_9 hk3) rfl) rfl rfl hl.1 rfl (lv_room (Nat.le_of_ble_eq_true rfl)) dX9_falsely_18 ⟨Nat.zero_le _, Nat.zero_le _⟩) (fun H locs G => ?_)
    replace h := gok_s h
    refine lv_iload_n hx hb dX9_falsely_21 rfl (lv_at hl 0 rfl) ?_
    refine lv_iconst (v := 3) hx hb dX9_falsely_22 (by decide) ?_
    refine lv_icmp_ge (tgt := 28) hx hb dX9_falsely_23 (by decide) (fun q8 => ?_) (fun q8 => ?_)
    · replace h := gt_s q8 h
      refine lv_bipush (v := 9) hx hb dX9_falsely_28 (by decide) ?_
      refine lv_istore_n (lv' := [(2, .int 9), (1, .int a1)]) hx hb dX9_falsely_30 rfl hl (by decide) rfl (fun ls hl => ?_)
      refine lv_iconst (v := 2) hx hb dX9_falsely_31 (by decide) ?_
      refine lv_istore_n (lv' := [(3, .int 2), (2, .int 9), (1, .int a1)]) hx hb dX9_falsely_32 rfl hl (by decide) rfl (fun ls hl => ?_)
      obtain ⟨b9, hb9, hK9⟩ := gb_s h
      have E9 : ∀ (z12 : Int32) (H : Heap) (locs : List Loc) (ls : Array Slot), (z12 : Int32) = b9 → gW D ad cy N A s.heap c7 d0 H locs → lv_has ls 4 [(3, .int z12)] → W p l e rmX9_falsely s m args below meth cod H locs 0 0 Q (F0 m 58 ls []) := by
        intro z12 H locs ls hq9 G hl
        subst hq9
        replace hK9 := hK9
        have h := hK9
        refine lv_iload_n hx hb dX9_falsely_58 rfl (lv_at hl 0 rfl) ?_
        cases h
        rw [← hQ]
        exact gx_iret F G hr hlocks dX9_falsely_59
      have L9 : ∀ (n9 : Nat) (y10 : Int32) (y11 : Int32) (H : Heap) (locs : List Loc) (ls : Array Slot), gloop (gu2 (fun (y10 : Int32) (y11 : Int32) => m_X9_falsely_L33 a1 y10 y11)) n9 (y10, y11) = some b9 → gW D ad cy N A s.heap c7 d0 H locs → lv_has ls 4 [(1, .int a1), (2, .int y10), (3, .int y11)] → W p l e rmX9_falsely s m args below meth cod H locs 0 0 Q (F0 m 33 ls []) := by
        intro n9
        induction n9 with
        | zero => intro y10 y11 H locs ls h; exact (gloop_0 h).elim
        | succ n9 ih =>
          intro y10 y11 H locs ls h G hl
          have ih9 := ih
          obtain ⟨o9, h, hn9⟩ := gloop_s h
          replace h := gu2_s h
          unfold m_X9_falsely_L33 at h
          refine lv_iload_n hx hb dX9_falsely_33 rfl (lv_at hl 2 rfl) ?_
          refine lv_bipush (v := 20) hx hb dX9_falsely_34 (by decide) ?_
          refine lv_icmp_ge (tgt := 58) hx hb dX9_falsely_36 (by decide) (fun q13 => ?_) (fun q13 => ?_)
          · replace h := gt_s q13 h
            cases h
            exact E9 _ _ _ _ (gnx_r hn9) G (lv_sub hl [2] rfl)
          · replace h := gf_s q13 h
            refine lv_iload_n hx hb dX9_falsely_39 rfl (lv_at hl 1 rfl) ?_
            refine lv_iconst (v := 3) hx hb dX9_falsely_40 (by decide) ?_
            refine lv_isub hx hb dX9_falsely_41 ?_
            refine lv_iconst (v := 2) hx hb dX9_falsely_42 (by decide) ?_
            refine lv_idiv hx hb dX9_falsely_43 (by decide) ?_
            refine lv_iload_n hx hb dX9_falsely_44 rfl (lv_at hl 0 rfl) ?_
            refine lv_icmp_ge (tgt := 58) hx hb dX9_falsely_45 (by decide) (fun q14 => ?_) (fun q14 => ?_)
            · replace h := gt_s q14 h
              cases h
              exact E9 _ _ _ _ (gnx_r hn9) G (lv_sub hl [2] rfl)
            · replace h := gf_s q14 h
              refine lv_iload_n hx hb dX9_falsely_48 rfl (lv_at hl 1 rfl) ?_
              refine lv_iconst (v := 3) hx hb dX9_falsely_49 (by decide) ?_
              refine lv_imul hx hb dX9_falsely_50 ?_
              refine lv_topi (fun x15 ex15 => ?_)
              replace h := gv_s h x15 ex15
              refine lv_istore_n (lv' := [(2, .int x15), (1, .int a1), (3, .int y11)]) hx hb dX9_falsely_51 rfl hl (by decide) rfl (fun ls hl => ?_)
              obtain ⟨x16, ex16⟩ : ∃ z : Int32, z = y11 + 1 := ⟨_, rfl⟩
              replace h := gv_s h x16 ex16
              refine lv_iinc (v := x16) (lv' := [(3, .int x16), (2, .int x15), (1, .int a1)]) hx hb dX9_falsely_52 hl (k := 2) rfl (by rw [ex16]; rfl) (by decide) rfl (fun ls hl => ?_)
              refine lv_goto (tgt := 33) hx hb dX9_falsely_55 (by decide) ?_
              cases h
              exact ih9 _ _ _ _ _ hn9 G (lv_sub hl [2, 1, 0] rfl)
      exact L9 n _ _ _ _ _ hb9 G (lv_sub hl [2, 1, 0] rfl)
    · replace h := gf_s q8 h
      refine lv_iconst (v := (-1)) hx hb dX9_falsely_26 (by decide) ?_
      cases h
      rw [← hQ]
      exact gx_iret F G hr hlocks dX9_falsely_27
  obtain ⟨K17, eK17, h⟩ := gj_s h
  have JK17 : ∀ (H : Heap) (locs : List Loc) (ls : Array Slot), K17 () = some (.inl (rZ, cZ)) → gW D ad cy N A s.heap c d0 H locs → lv_has ls 4 [(1, .int a1)] → W p l e rmX9_falsely s m args below meth cod H locs 0 0 Q (F0 m 17 ls [.ref (ad t)]) := by
    intro  H locs ls h G hl
    rw [eK17] at h
    refine lv_iconst (v := 0) hx hb dX9_falsely_17 (by decide) ?_
    exact JK2 _ _ _ _ h G hl
  refine lv_icmp_lt (tgt := 17) hx hb dX9_falsely_3 (by decide) (fun q18 => ?_) (fun q18 => ?_)
  · replace h := gt_s q18 h
    exact JK17  _ _ _ h G (lv_sub hl [1] rfl)
  · replace h := gf_s q18 h
    refine lv_iload_n hx hb dX9_falsely_6 rfl (lv_at hl 1 rfl) ?_
    refine lv_sipush (v := 9999) hx hb dX9_falsely_7 (by decide) ?_
    refine lv_icmp_gt (tgt := 17) hx hb dX9_falsely_10 (by decide) (fun q19 => ?_) (fun q19 => ?_)
    · replace h := gt_s q19 h
      exact JK17  _ _ _ h G (lv_sub hl [1] rfl)
    · replace h := gf_s q19 h
      refine lv_iconst (v := 1) hx hb dX9_falsely_13 (by decide) ?_
      refine lv_goto (tgt := 18) hx hb dX9_falsely_14 (by decide) ?_
      exact JK2 _ _ _ _ h G (lv_sub hl [1] rfl)
set_option maxHeartbeats 4000000 in
set_option maxRecDepth 100000 in
theorem cx_X9_falsely (l : Launch) (hlt : l.stackTraces = false) (sa : gSa) (D : va_G) (ad : Nat → Nat) (cy : Nat → ClassId) (N sz : Nat) (hN : 55 ≤ N) (hI : gI ad N) (c d0 : gm) {n : Nat} {t : Nat} {a1 : Int32} {kZ : Nat} {cZ : gm} (h : m_X9_falsely n t a1 c = some (.inr (kZ, cZ))) : vx_Met l yX9_falsely wsX9_falsely rxX9_falsely (va_Pc [.ref (ad t), .int a1] (gP sa D ad cy N sz c d0)) (va_Qi (fun (_ : Int32) (_ : Unit) => False) (fun _ _ => True) (gA ad N sz)) (vx_X (fun (_ : Unit) => True) (fun E _ U => E = gxn kZ ∧ gE D ad cy N cZ d0 U) (gA ad N sz)) 1 6 (gA ad N sz) := by
  refine vx_ofW (cc := cX9_falsely) (maxL := 4) (ret := (some .int)) (by decide) rfl ?_
  intro p e s m args below meth cod s₁ B hml htab hv
  obtain ⟨rfl, hsz, hP, hK, hZ⟩ := hv
  have hx := B.exec
  have hb := B.bytes
  have hr := B.returns
  have hts := atoms_spec (ws := wsX9_falsely) B.pre
  have hown : s.vm.findClass RX9 = some m.cls := findClass_of_methodNamed B.named
  have hlocks := B.notSynchronized
  subst hsz
  have hl := lv_entry ([.ref (ad t), .int a1]) (n := 4) (Nat.le_of_ble_eq_true rfl)
  rw [lg_entry_eq]
  generalize (lg_sl ([.ref (ad t), .int a1]) ++ List.replicate (4 - (lg_sl ([.ref (ad t), .int a1])).length) Slot.unset).toArray = ls at hl ⊢
  have hl : lv_has ls 4 [(0, .ref (ad t)), (1, .int a1)] := hl
  generalize hargs : ([.ref (ad t), .int a1] : List Value).toArray = args at *
  generalize hAe : gA ad N s.heap.size = A
  have F : gF sa D ad cy N A p s m args cod cX9_falsely 4 wsX9_falsely RX9 := ⟨hx, hb, hml, hown, hts, hK, hI, by rw [← hAe]; exact gA_ad, by rw [← hAe]; exact gA_sz, by rw [← hAe]; exact hZ⟩
  have G : gW D ad cy N A s.heap c d0 s.heap [] := ⟨hP, va_S.rf⟩
  generalize hQ : vx_MQ below (va_Qi (fun (_ : Int32) (_ : Unit) => False) (fun _ _ => True) A) (vx_X (fun (_ : Unit) => True) (fun E _ U => E = gxn kZ ∧ gE D ad cy N cZ d0 U) A) args s 1 6 A = Q
  suffices hgen : ∀ (H : Heap) (locs : List Loc), gW D ad cy N A s.heap c d0 H locs → W p l e rxX9_falsely s m args below meth cod H locs 0 0 Q (F0 m 0 ls []) from hgen _ _ G
  clear G
  intro H locs G
  unfold m_X9_falsely at h
  refine lv_aload_n hx hb dX9_falsely_0 rfl (lv_at hl 0 rfl) ?_
  refine lv_iload_n hx hb dX9_falsely_1 rfl (lv_at hl 1 rfl) ?_
  refine lv_iconst (v := 1) hx hb dX9_falsely_2 (by decide) ?_
  obtain ⟨K2, eK2, h⟩ := gj_s h
  have JK2 : ∀ (v1 : Int32) (H : Heap) (locs : List Loc) (ls : Array Slot), K2 v1 = some (.inr (kZ, cZ)) → gW D ad cy N A s.heap c d0 H locs → lv_has ls 4 [(1, .int a1)] → W p l e rxX9_falsely s m args below meth cod H locs 0 0 Q (F0 m 18 ls [.int v1, .ref (ad t)]) := by
    intro v1 H locs ls h G hl
    rw [eK2] at h
    obtain ⟨hk3, h⟩ := gc_s h
    have ht4 : t < N := Nat.lt_of_lt_of_le (gck_lt9 hk3) hN
    rcases gbx_x h with hc5 | ⟨c7, hc5, h⟩
    · exact hQ ▸ gx_xv F G htab hlocks (vx_runV (As := [.int v1]) (rest := []) (gx_fix F) (cx_X9_demand l hlt sa D ad cy N H.size hN hI c d0 hc5) (cwV 1 hts gX9_falsely_X9_demand rfl rfl rfl (by decide +kernel) ⟨by decide, by decide⟩) (gx_rec F G ht4 (gwe_9 hk3) rfl) rfl rfl hl.1 rfl (lv_room (Nat.le_of_ble_eq_true rfl)) dX9_falsely_18 ⟨by decide, by decide⟩)
    · skip
      refine gx_callv F G (va_runV (As := [.int v1]) (rest := []) (gx_fix F) (c_X9_demand l sa D ad cy N H.size hN hI c d0 hc5) (cwV 1 hts gX9_falsely_X9_demand rfl rfl rfl (by decide +kernel) ⟨by decide, by decide⟩) (gx_rec F G ht4 (gwe_9 hk3) rfl) rfl rfl hl.1 rfl (lv_room (Nat.le_of_ble_eq_true rfl)) dX9_falsely_18 ⟨Nat.zero_le _, Nat.zero_le _⟩) (fun H locs G => ?_)
      exact (gok_no h).elim
  obtain ⟨K8, eK8, h⟩ := gj_s h
  have JK8 : ∀ (H : Heap) (locs : List Loc) (ls : Array Slot), K8 () = some (.inr (kZ, cZ)) → gW D ad cy N A s.heap c d0 H locs → lv_has ls 4 [(1, .int a1)] → W p l e rxX9_falsely s m args below meth cod H locs 0 0 Q (F0 m 17 ls [.ref (ad t)]) := by
    intro  H locs ls h G hl
    rw [eK8] at h
    refine lv_iconst (v := 0) hx hb dX9_falsely_17 (by decide) ?_
    exact JK2 _ _ _ _ h G hl
  refine lv_icmp_lt (tgt := 17) hx hb dX9_falsely_3 (by decide) (fun q9 => ?_) (fun q9 => ?_)
  · replace h := gt_s q9 h
    exact JK8  _ _ _ h G (lv_sub hl [1] rfl)
  · replace h := gf_s q9 h
    refine lv_iload_n hx hb dX9_falsely_6 rfl (lv_at hl 1 rfl) ?_
    refine lv_sipush (v := 9999) hx hb dX9_falsely_7 (by decide) ?_
    refine lv_icmp_gt (tgt := 17) hx hb dX9_falsely_10 (by decide) (fun q10 => ?_) (fun q10 => ?_)
    · replace h := gt_s q10 h
      exact JK8  _ _ _ h G (lv_sub hl [1] rfl)
    · replace h := gf_s q10 h
      refine lv_iconst (v := 1) hx hb dX9_falsely_13 (by decide) ?_
      refine lv_goto (tgt := 18) hx hb dX9_falsely_14 (by decide) ?_
      exact JK2 _ _ _ _ h G (lv_sub hl [1] rfl)
def m_X9_gain (a1 : Int32) (a2 : Int32) (a3 : Int32) (a4 : Int32) : Option (Int32) :=
  (if a3 = 0 then (if a4 = 0 then some a1 else some 0) else (if a4 = 0 then some a2 else some (-1)))
abbrev rmX9_gain : Room := { frames := 0, cells := 0, slots := 0, locals := 0 }
set_option maxHeartbeats 4000000 in
set_option maxRecDepth 100000 in
theorem c_X9_gain (l : Launch) (sa : gSa) (D : va_G) (ad : Nat → Nat) (cy : Nat → ClassId) (N sz : Nat) (hN : 55 ≤ N) (hI : gI ad N) (c d0 : gm) {a1 : Int32} {a2 : Int32} {a3 : Int32} {a4 : Int32} {rZ : Int32} (h : m_X9_gain a1 a2 a3 a4 = some rZ) : Met l yX9_gain wsX9_gain rmX9_gain (va_Pc [.int a1, .int a2, .int a3, .int a4] (gP sa D ad cy N sz c d0)) (va_Qi (fun (z : Int32) (_ : Unit) => z = rZ) (fun _ U => gE D ad cy N c d0 U) (gA ad N sz)) 0 0 (gA ad N sz) := by
  refine Met.ofW (cc := cX9_gain) (maxL := 4) (ret := (some .int)) (by decide) rfl ?_
  intro p e s m args below meth cod s₁ B hml hv
  obtain ⟨rfl, hsz, hP, hK, hZ⟩ := hv
  have hx := B.exec
  have hb := B.bytes
  have hr := B.returns
  have hts := atoms_spec (ws := wsX9_gain) B.pre
  have hown : s.vm.findClass RX9 = some m.cls := findClass_of_methodNamed B.named
  have hlocks := B.notSynchronized
  subst hsz
  have hl := lv_entry ([.int a1, .int a2, .int a3, .int a4]) (n := 4) (Nat.le_of_ble_eq_true rfl)
  rw [lg_entry_eq]
  generalize (lg_sl ([.int a1, .int a2, .int a3, .int a4]) ++ List.replicate (4 - (lg_sl ([.int a1, .int a2, .int a3, .int a4])).length) Slot.unset).toArray = ls at hl ⊢
  have hl : lv_has ls 4 [(0, .int a1), (1, .int a2), (2, .int a3), (3, .int a4)] := hl
  generalize hargs : ([.int a1, .int a2, .int a3, .int a4] : List Value).toArray = args at *
  generalize hAe : gA ad N s.heap.size = A
  have F : gF sa D ad cy N A p s m args cod cX9_gain 4 wsX9_gain RX9 := ⟨hx, hb, hml, hown, hts, hK, hI, by rw [← hAe]; exact gA_ad, by rw [← hAe]; exact gA_sz, by rw [← hAe]; exact hZ⟩
  have G : gW D ad cy N A s.heap c d0 s.heap [] := ⟨hP, va_S.rf⟩
  generalize hQ : MQ below (va_Qi (fun (z : Int32) (_ : Unit) => z = rZ) (fun _ U => gE D ad cy N c d0 U) A) args s 0 0 A = Q
  suffices hgen : ∀ (H : Heap) (locs : List Loc), gW D ad cy N A s.heap c d0 H locs → W p l e rmX9_gain s m args below meth cod H locs 0 0 Q (F0 m 0 ls []) from hgen _ _ G
  clear G
  intro H locs G
  unfold m_X9_gain at h
  refine lv_iload_n hx hb dX9_gain_0 rfl (lv_at hl 2 rfl) ?_
  refine lv_if_ne (tgt := 14) hx hb dX9_gain_1 (by decide) (fun q1 => ?_) (fun q1 => ?_)
  · replace h := gf_s q1 h
    refine lv_iload_n hx hb dX9_gain_14 rfl (lv_at hl 3 rfl) ?_
    refine lv_if_ne (tgt := 22) hx hb dX9_gain_15 (by decide) (fun q2 => ?_) (fun q2 => ?_)
    · replace h := gf_s q2 h
      refine lv_iconst (v := (-1)) hx hb dX9_gain_22 (by decide) ?_
      cases h
      rw [← hQ]
      exact gx_iret F G hr hlocks dX9_gain_23
    · replace h := gt_s q2 h
      refine lv_iload_n hx hb dX9_gain_18 rfl (lv_at hl 1 rfl) ?_
      refine lv_goto (tgt := 23) hx hb dX9_gain_19 (by decide) ?_
      cases h
      rw [← hQ]
      exact gx_iret F G hr hlocks dX9_gain_23
  · replace h := gt_s q1 h
    refine lv_iload_n hx hb dX9_gain_4 rfl (lv_at hl 3 rfl) ?_
    refine lv_if_ne (tgt := 12) hx hb dX9_gain_5 (by decide) (fun q3 => ?_) (fun q3 => ?_)
    · replace h := gf_s q3 h
      refine lv_iconst (v := 0) hx hb dX9_gain_12 (by decide) ?_
      cases h
      rw [← hQ]
      exact gx_iret F G hr hlocks dX9_gain_13
    · replace h := gt_s q3 h
      refine lv_iload_n hx hb dX9_gain_8 rfl (lv_at hl 0 rfl) ?_
      refine lv_goto (tgt := 13) hx hb dX9_gain_9 (by decide) ?_
      cases h
      rw [← hQ]
      exact gx_iret F G hr hlocks dX9_gain_13
def m_X9_isRest (a1 : Int32) (a2 : Int32) (a3 : Int32) (a4 : Int32) : Option (Int32) :=
  gb (m_X9_gain a1 a2 a3 a4) (fun (r2 : Int32) => gb (m_X9_gain a1 a2 (1 - a3) a4) (fun (r4 : Int32) => (if r2 < r4 then some 0 else gb (m_X9_gain a1 a2 a4 a3) (fun (r7 : Int32) => gb (m_X9_gain a1 a2 (1 - a4) a3) (fun (r9 : Int32) => (if r7 < r9 then some 0 else some 1))))))
abbrev rmX9_isRest : Room := { frames := 1, cells := 0, slots := 0, locals := 23 }
set_option maxHeartbeats 4000000 in
set_option maxRecDepth 100000 in
theorem c_X9_isRest (l : Launch) (sa : gSa) (D : va_G) (ad : Nat → Nat) (cy : Nat → ClassId) (N sz : Nat) (hN : 55 ≤ N) (hI : gI ad N) (c d0 : gm) {a1 : Int32} {a2 : Int32} {a3 : Int32} {a4 : Int32} {rZ : Int32} (h : m_X9_isRest a1 a2 a3 a4 = some rZ) : Met l yX9_isRest wsX9_isRest rmX9_isRest (va_Pc [.int a1, .int a2, .int a3, .int a4] (gP sa D ad cy N sz c d0)) (va_Qi (fun (z : Int32) (_ : Unit) => z = rZ) (fun _ U => gE D ad cy N c d0 U) (gA ad N sz)) 0 0 (gA ad N sz) := by
  refine Met.ofW (cc := cX9_isRest) (maxL := 4) (ret := (some .boolean)) (by decide) rfl ?_
  intro p e s m args below meth cod s₁ B hml hv
  obtain ⟨rfl, hsz, hP, hK, hZ⟩ := hv
  have hx := B.exec
  have hb := B.bytes
  have hr := B.returns
  have hts := atoms_spec (ws := wsX9_isRest) B.pre
  have hown : s.vm.findClass RX9 = some m.cls := findClass_of_methodNamed B.named
  have hlocks := B.notSynchronized
  subst hsz
  have hl := lv_entry ([.int a1, .int a2, .int a3, .int a4]) (n := 4) (Nat.le_of_ble_eq_true rfl)
  rw [lg_entry_eq]
  generalize (lg_sl ([.int a1, .int a2, .int a3, .int a4]) ++ List.replicate (4 - (lg_sl ([.int a1, .int a2, .int a3, .int a4])).length) Slot.unset).toArray = ls at hl ⊢
  have hl : lv_has ls 4 [(0, .int a1), (1, .int a2), (2, .int a3), (3, .int a4)] := hl
  generalize hargs : ([.int a1, .int a2, .int a3, .int a4] : List Value).toArray = args at *
  generalize hAe : gA ad N s.heap.size = A
  have F : gF sa D ad cy N A p s m args cod cX9_isRest 4 wsX9_isRest RX9 := ⟨hx, hb, hml, hown, hts, hK, hI, by rw [← hAe]; exact gA_ad, by rw [← hAe]; exact gA_sz, by rw [← hAe]; exact hZ⟩
  have G : gW D ad cy N A s.heap c d0 s.heap [] := ⟨hP, va_S.rf⟩
  generalize hQ : MQ below (va_Qi (fun (z : Int32) (_ : Unit) => z = rZ) (fun _ U => gE D ad cy N c d0 U) A) args s 0 0 A = Q
  suffices hgen : ∀ (H : Heap) (locs : List Loc), gW D ad cy N A s.heap c d0 H locs → W p l e rmX9_isRest s m args below meth cod H locs 0 0 Q (F0 m 0 ls []) from hgen _ _ G
  clear G
  intro H locs G
  unfold m_X9_isRest at h
  refine lv_iload_n hx hb dX9_isRest_0 rfl (lv_at hl 0 rfl) ?_
  refine lv_iload_n hx hb dX9_isRest_1 rfl (lv_at hl 1 rfl) ?_
  refine lv_iload_n hx hb dX9_isRest_2 rfl (lv_at hl 2 rfl) ?_
  refine lv_iload_n hx hb dX9_isRest_3 rfl (lv_at hl 3 rfl) ?_
  obtain ⟨r2, hc1, h⟩ := gb_s h
  refine gx_calli F G (va_runS (As := [.int a1, .int a2, .int a3, .int a4]) (rest := []) (gx_fix F) (c_X9_gain l sa D ad cy N H.size hN hI c d0 hc1) (va_cwS 4 hts gX9_isRest_X9_gain rfl rfl rfl (by decide +kernel) ⟨by decide, by decide⟩) (gx_pre F G) rfl rfl hl.1 rfl (lv_room (Nat.le_of_ble_eq_true rfl)) dX9_isRest_4 ⟨Nat.zero_le _, Nat.zero_le _⟩) (fun H locs G => ?_)
  refine lv_iload_n hx hb dX9_isRest_7 rfl (lv_at hl 0 rfl) ?_
  refine lv_iload_n hx hb dX9_isRest_8 rfl (lv_at hl 1 rfl) ?_
  refine lv_iconst (v := 1) hx hb dX9_isRest_9 (by decide) ?_
  refine lv_iload_n hx hb dX9_isRest_10 rfl (lv_at hl 2 rfl) ?_
  refine lv_isub hx hb dX9_isRest_11 ?_
  refine lv_iload_n hx hb dX9_isRest_12 rfl (lv_at hl 3 rfl) ?_
  obtain ⟨r4, hc3, h⟩ := gb_s h
  refine gx_calli F G (va_runS (As := [.int a1, .int a2, .int (1 - a3), .int a4]) (rest := [.int r2]) (gx_fix F) (c_X9_gain l sa D ad cy N H.size hN hI c d0 hc3) (va_cwS 4 hts gX9_isRest_X9_gain rfl rfl rfl (by decide +kernel) ⟨by decide, by decide⟩) (gx_pre F G) rfl rfl hl.1 rfl (lv_room (Nat.le_of_ble_eq_true rfl)) dX9_isRest_13 ⟨Nat.zero_le _, Nat.zero_le _⟩) (fun H locs G => ?_)
  refine lv_icmp_lt (tgt := 42) hx hb dX9_isRest_16 (by decide) (fun q5 => ?_) (fun q5 => ?_)
  · replace h := gt_s q5 h
    refine lv_iconst (v := 0) hx hb dX9_isRest_42 (by decide) ?_
    cases h
    rw [← hQ]
    exact gx_zret F G hr hlocks rfl dX9_isRest_43
  · replace h := gf_s q5 h
    refine lv_iload_n hx hb dX9_isRest_19 rfl (lv_at hl 0 rfl) ?_
    refine lv_iload_n hx hb dX9_isRest_20 rfl (lv_at hl 1 rfl) ?_
    refine lv_iload_n hx hb dX9_isRest_21 rfl (lv_at hl 3 rfl) ?_
    refine lv_iload_n hx hb dX9_isRest_22 rfl (lv_at hl 2 rfl) ?_
    obtain ⟨r7, hc6, h⟩ := gb_s h
    refine gx_calli F G (va_runS (As := [.int a1, .int a2, .int a4, .int a3]) (rest := []) (gx_fix F) (c_X9_gain l sa D ad cy N H.size hN hI c d0 hc6) (va_cwS 4 hts gX9_isRest_X9_gain rfl rfl rfl (by decide +kernel) ⟨by decide, by decide⟩) (gx_pre F G) rfl rfl hl.1 rfl (lv_room (Nat.le_of_ble_eq_true rfl)) dX9_isRest_23 ⟨Nat.zero_le _, Nat.zero_le _⟩) (fun H locs G => ?_)
    refine lv_iload_n hx hb dX9_isRest_26 rfl (lv_at hl 0 rfl) ?_
    refine lv_iload_n hx hb dX9_isRest_27 rfl (lv_at hl 1 rfl) ?_
    refine lv_iconst (v := 1) hx hb dX9_isRest_28 (by decide) ?_
    refine lv_iload_n hx hb dX9_isRest_29 rfl (lv_at hl 3 rfl) ?_
    refine lv_isub hx hb dX9_isRest_30 ?_
    refine lv_iload_n hx hb dX9_isRest_31 rfl (lv_at hl 2 rfl) ?_
    obtain ⟨r9, hc8, h⟩ := gb_s h
    refine gx_calli F G (va_runS (As := [.int a1, .int a2, .int (1 - a4), .int a3]) (rest := [.int r7]) (gx_fix F) (c_X9_gain l sa D ad cy N H.size hN hI c d0 hc8) (va_cwS 4 hts gX9_isRest_X9_gain rfl rfl rfl (by decide +kernel) ⟨by decide, by decide⟩) (gx_pre F G) rfl rfl hl.1 rfl (lv_room (Nat.le_of_ble_eq_true rfl)) dX9_isRest_32 ⟨Nat.zero_le _, Nat.zero_le _⟩) (fun H locs G => ?_)
    refine lv_icmp_lt (tgt := 42) hx hb dX9_isRest_35 (by decide) (fun q10 => ?_) (fun q10 => ?_)
    · replace h := gt_s q10 h
      refine lv_iconst (v := 0) hx hb dX9_isRest_42 (by decide) ?_
      cases h
      rw [← hQ]
      exact gx_zret F G hr hlocks rfl dX9_isRest_43
    · replace h := gf_s q10 h
      refine lv_iconst (v := 1) hx hb dX9_isRest_38 (by decide) ?_
      refine lv_goto (tgt := 43) hx hb dX9_isRest_39 (by decide) ?_
      cases h
      rw [← hQ]
      exact gx_zret F G hr hlocks rfl dX9_isRest_43
def m_X9_sellers_L59 (a1 : Int32) (a2 : Int32) (y14 : Int32) (y15 : Int32) (y16 : Int32) (y17 : Int32) : Option ((Int32 × Int32 × Int32 × Int32) ⊕ (Int32 × Int32 × Int32)) :=
  (if 4 ≤ y17 then some (.inr (y14, y15, y16)) else gv (y17 >>> ((1 : Int32) &&& 31)) (fun (x24 : Int32) => gv (y17 &&& 1) (fun (x25 : Int32) => gb (m_X9_isRest a1 a2 x24 x25) (fun (r27 : Int32) => gj (gu2 (fun (v28 : Int32) => gu2 (fun (v29 : Int32) (v30 : Int32) => gv (y17 + 1) (fun (x32 : Int32) => some (.inl (v28, v29, v30, x32)))))) (fun K31 => (if r27 = 0 then K31 (y14, y15, y16) else gv (y14 + 1) (fun (x34 : Int32) => (if y15 = (-1) then gv ((10 * x24) + x25) (fun (x36 : Int32) => gb (m_X9_gain a1 a2 x24 x25) (fun (r38 : Int32) => gb (m_X9_gain a1 a2 x25 x24) (fun (r40 : Int32) => gv (r38 + r40) (fun (x41 : Int32) => K31 (x34, x36, x41))))) else K31 (x34, y15, y16)))))))))
def m_X9_sellers (n : Nat) (t : Nat) (a1 : Int32) (a2 : Int32) (a3 : Int32) (c : gm) : Option ((Int32 × gm) ⊕ (Nat × gm)) :=
  gj (fun (v1 : Int32) => gc (gck t = 9) (gbx (m_X9_demand t v1 c) (fun (c7 : gm) => gj (fun (v8 : Int32) => gbx (m_X9_demand t v8 c7) (fun (c12 : gm) => gok (gb (gloop (gu2 (fun (y14 : Int32) => gu2 (fun (y15 : Int32) => gu2 (fun (y16 : Int32) (y17 : Int32) => m_X9_sellers_L59 a1 a2 y14 y15 y16 y17)))) n (0, (-1), 0, 0)) (gu2 (fun (z18 : Int32) => gu2 (fun (z19 : Int32) (z20 : Int32) => (if a3 = 0 then some (z18, c12) else (if a3 = 1 then some (z19, c12) else some (z20, c12))))))))) (fun K9 => gj (fun (_ : Unit) => K9 0) (fun K42 => (if a3 < 0 then K42 () else (if 2 < a3 then K42 () else K9 1))))))) (fun K2 => gj (fun (_ : Unit) => K2 0) (fun K45 => (if a1 < 0 then K45 () else (if 99 < a1 then K45 () else (if a2 < 0 then K45 () else (if 99 < a2 then K45 () else K2 1))))))
abbrev rmX9_sellers : Room := { frames := 7, cells := 0, slots := 0, locals := 111 }
abbrev rxX9_sellers : Room := { frames := 7, cells := 1, slots := 6, locals := 111 }
set_option maxHeartbeats 4000000 in
set_option maxRecDepth 100000 in
theorem c_X9_sellers (l : Launch) (sa : gSa) (D : va_G) (ad : Nat → Nat) (cy : Nat → ClassId) (N sz : Nat) (hN : 55 ≤ N) (hI : gI ad N) (c d0 : gm) {n : Nat} {t : Nat} {a1 : Int32} {a2 : Int32} {a3 : Int32} {rZ : Int32} {cZ : gm} (h : m_X9_sellers n t a1 a2 a3 c = some (.inl (rZ, cZ))) : Met l yX9_sellers wsX9_sellers rmX9_sellers (va_Pc [.ref (ad t), .int a1, .int a2, .int a3] (gP sa D ad cy N sz c d0)) (va_Qi (fun (z : Int32) (_ : Unit) => z = rZ) (fun _ U => gE D ad cy N cZ d0 U) (gA ad N sz)) 0 0 (gA ad N sz) := by
  refine Met.ofW (cc := cX9_sellers) (maxL := 10) (ret := (some .int)) (by decide) rfl ?_
  intro p e s m args below meth cod s₁ B hml hv
  obtain ⟨rfl, hsz, hP, hK, hZ⟩ := hv
  have hx := B.exec
  have hb := B.bytes
  have hr := B.returns
  have hts := atoms_spec (ws := wsX9_sellers) B.pre
  have hown : s.vm.findClass RX9 = some m.cls := findClass_of_methodNamed B.named
  have hlocks := B.notSynchronized
  subst hsz
  have hl := lv_entry ([.ref (ad t), .int a1, .int a2, .int a3]) (n := 10) (Nat.le_of_ble_eq_true rfl)
  rw [lg_entry_eq]
  generalize (lg_sl ([.ref (ad t), .int a1, .int a2, .int a3]) ++ List.replicate (10 - (lg_sl ([.ref (ad t), .int a1, .int a2, .int a3])).length) Slot.unset).toArray = ls at hl ⊢
  have hl : lv_has ls 10 [(0, .ref (ad t)), (1, .int a1), (2, .int a2), (3, .int a3)] := hl
  generalize hargs : ([.ref (ad t), .int a1, .int a2, .int a3] : List Value).toArray = args at *
  generalize hAe : gA ad N s.heap.size = A
  have F : gF sa D ad cy N A p s m args cod cX9_sellers 10 wsX9_sellers RX9 := ⟨hx, hb, hml, hown, hts, hK, hI, by rw [← hAe]; exact gA_ad, by rw [← hAe]; exact gA_sz, by rw [← hAe]; exact hZ⟩
  have G : gW D ad cy N A s.heap c d0 s.heap [] := ⟨hP, va_S.rf⟩
  generalize hQ : MQ below (va_Qi (fun (z : Int32) (_ : Unit) => z = rZ) (fun _ U => gE D ad cy N cZ d0 U) A) args s 0 0 A = Q
  suffices hgen : ∀ (H : Heap) (locs : List Loc), gW D ad cy N A s.heap c d0 H locs → W p l e rmX9_sellers s m args below meth cod H locs 0 0 Q (F0 m 0 ls []) from hgen _ _ G
  clear G
  intro H locs G
  unfold m_X9_sellers at h
  refine lv_aload_n hx hb dX9_sellers_0 rfl (lv_at hl 0 rfl) ?_
  refine lv_iload_n hx hb dX9_sellers_1 rfl (lv_at hl 1 rfl) ?_
  obtain ⟨K2, eK2, h⟩ := gj_s h
  have JK2 : ∀ (v1 : Int32) (H : Heap) (locs : List Loc) (ls : Array Slot), K2 v1 = some (.inl (rZ, cZ)) → gW D ad cy N A s.heap c d0 H locs → lv_has ls 10 [(0, .ref (ad t)), (1, .int a1), (2, .int a2), (3, .int a3)] → W p l e rmX9_sellers s m args below meth cod H locs 0 0 Q (F0 m 26 ls [.int v1, .ref (ad t)]) := by
    intro v1 H locs ls h G hl
    rw [eK2] at h
    obtain ⟨hk3, h⟩ := gc_s h
    have ht4 : t < N := Nat.lt_of_lt_of_le (gck_lt9 hk3) hN
    obtain ⟨c7, hc5, h⟩ := gbx_l h
    refine gx_callv F G (va_runV (As := [.int v1]) (rest := []) (gx_fix F) (c_X9_demand l sa D ad cy N H.size hN hI c d0 hc5) (cwV 1 hts gX9_sellers_X9_demand rfl rfl rfl (by decide +kernel) ⟨by decide, by decide⟩) (gx_rec F G ht4 (gwe_9 hk3) rfl) rfl rfl hl.1 rfl (lv_room (Nat.le_of_ble_eq_true rfl)) dX9_sellers_26 ⟨Nat.zero_le _, Nat.zero_le _⟩) (fun H locs G => ?_)
    refine lv_aload_n hx hb dX9_sellers_29 rfl (lv_at hl 0 rfl) ?_
    refine lv_iload_n hx hb dX9_sellers_30 rfl (lv_at hl 3 rfl) ?_
    obtain ⟨K9, eK9, h⟩ := gj_s h
    have JK9 : ∀ (v8 : Int32) (H : Heap) (locs : List Loc) (ls : Array Slot), K9 v8 = some (.inl (rZ, cZ)) → gW D ad cy N A s.heap c7 d0 H locs → lv_has ls 10 [(1, .int a1), (2, .int a2), (3, .int a3)] → W p l e rmX9_sellers s m args below meth cod H locs 0 0 Q (F0 m 44 ls [.int v8, .ref (ad t)]) := by
      intro v8 H locs ls h G hl
      rw [eK9] at h
      obtain ⟨c12, hc10, h⟩ := gbx_l h
      refine gx_callv F G (va_runV (As := [.int v8]) (rest := []) (gx_fix F) (c_X9_demand l sa D ad cy N H.size hN hI c7 d0 hc10) (cwV 1 hts gX9_sellers_X9_demand rfl rfl rfl (by decide +kernel) ⟨by decide, by decide⟩) (gx_rec F G ht4 (gwe_9 hk3) rfl) rfl rfl hl.1 rfl (lv_room (Nat.le_of_ble_eq_true rfl)) dX9_sellers_44 ⟨Nat.zero_le _, Nat.zero_le _⟩) (fun H locs G => ?_)
      replace h := gok_s h
      refine lv_iconst (v := 0) hx hb dX9_sellers_47 (by decide) ?_
      refine lv_istore (lv' := [(4, .int 0), (1, .int a1), (2, .int a2), (3, .int a3)]) hx hb dX9_sellers_48 hl (by decide) rfl (fun ls hl => ?_)
      refine lv_iconst (v := (-1)) hx hb dX9_sellers_50 (by decide) ?_
      refine lv_istore (lv' := [(5, .int (-1)), (4, .int 0), (1, .int a1), (2, .int a2), (3, .int a3)]) hx hb dX9_sellers_51 hl (by decide) rfl (fun ls hl => ?_)
      refine lv_iconst (v := 0) hx hb dX9_sellers_53 (by decide) ?_
      refine lv_istore (lv' := [(6, .int 0), (5, .int (-1)), (4, .int 0), (1, .int a1), (2, .int a2), (3, .int a3)]) hx hb dX9_sellers_54 hl (by decide) rfl (fun ls hl => ?_)
      refine lv_iconst (v := 0) hx hb dX9_sellers_56 (by decide) ?_
      refine lv_istore (lv' := [(7, .int 0), (6, .int 0), (5, .int (-1)), (4, .int 0), (1, .int a1), (2, .int a2), (3, .int a3)]) hx hb dX9_sellers_57 hl (by decide) rfl (fun ls hl => ?_)
      obtain ⟨b13, hb13, hK13⟩ := gb_s h
      have E13 : ∀ (z18 : Int32) (z19 : Int32) (z20 : Int32) (H : Heap) (locs : List Loc) (ls : Array Slot), ((z18, z19, z20) : Int32 × Int32 × Int32) = b13 → gW D ad cy N A s.heap c12 d0 H locs → lv_has ls 10 [(3, .int a3), (4, .int z18), (5, .int z19), (6, .int z20)] → W p l e rmX9_sellers s m args below meth cod H locs 0 0 Q (F0 m 135 ls []) := by
        intro z18 z19 z20 H locs ls hq13 G hl
        subst hq13
        replace hK13 := hK13
        replace hK13 := gu2_s hK13
        replace hK13 := gu2_s hK13
        have h := hK13
        refine lv_iload_n hx hb dX9_sellers_135 rfl (lv_at hl 0 rfl) ?_
        refine lv_if_ne (tgt := 144) hx hb dX9_sellers_136 (by decide) (fun q21 => ?_) (fun q21 => ?_)
        · replace h := gf_s q21 h
          refine lv_iload_n hx hb dX9_sellers_144 rfl (lv_at hl 0 rfl) ?_
          refine lv_iconst (v := 1) hx hb dX9_sellers_145 (by decide) ?_
          refine lv_icmp_ne (tgt := 154) hx hb dX9_sellers_146 (by decide) (fun q22 => ?_) (fun q22 => ?_)
          · replace h := gf_s q22 h
            refine lv_iload hx hb dX9_sellers_154 (lv_at hl 3 rfl) ?_
            cases h
            rw [← hQ]
            exact gx_iret F G hr hlocks dX9_sellers_156
          · replace h := gt_s q22 h
            refine lv_iload hx hb dX9_sellers_149 (lv_at hl 2 rfl) ?_
            refine lv_goto (tgt := 156) hx hb dX9_sellers_151 (by decide) ?_
            cases h
            rw [← hQ]
            exact gx_iret F G hr hlocks dX9_sellers_156
        · replace h := gt_s q21 h
          refine lv_iload hx hb dX9_sellers_139 (lv_at hl 1 rfl) ?_
          refine lv_goto (tgt := 156) hx hb dX9_sellers_141 (by decide) ?_
          cases h
          rw [← hQ]
          exact gx_iret F G hr hlocks dX9_sellers_156
      have L13 : ∀ (n9 : Nat) (y14 : Int32) (y15 : Int32) (y16 : Int32) (y17 : Int32) (H : Heap) (locs : List Loc) (ls : Array Slot), gloop (gu2 (fun (y14 : Int32) => gu2 (fun (y15 : Int32) => gu2 (fun (y16 : Int32) (y17 : Int32) => m_X9_sellers_L59 a1 a2 y14 y15 y16 y17)))) n9 (y14, y15, y16, y17) = some b13 → gW D ad cy N A s.heap c12 d0 H locs → lv_has ls 10 [(1, .int a1), (2, .int a2), (3, .int a3), (4, .int y14), (5, .int y15), (6, .int y16), (7, .int y17)] → W p l e rmX9_sellers s m args below meth cod H locs 0 0 Q (F0 m 59 ls []) := by
        intro n9
        induction n9 with
        | zero => intro y14 y15 y16 y17 H locs ls h; exact (gloop_0 h).elim
        | succ n9 ih =>
          intro y14 y15 y16 y17 H locs ls h G hl
          have ih13 := ih
          obtain ⟨o13, h, hn13⟩ := gloop_s h
          replace h := gu2_s h
          replace h := gu2_s h
          replace h := gu2_s h
          unfold m_X9_sellers_L59 at h
          refine lv_iload hx hb dX9_sellers_59 (lv_at hl 6 rfl) ?_
          refine lv_iconst (v := 4) hx hb dX9_sellers_61 (by decide) ?_
          refine lv_icmp_ge (tgt := 135) hx hb dX9_sellers_62 (by decide) (fun q23 => ?_) (fun q23 => ?_)
          · replace h := gt_s q23 h
            cases h
            exact E13 _ _ _ _ _ _ (gnx_r hn13) G (lv_sub hl [2, 3, 4, 5] rfl)
          · replace h := gf_s q23 h
            refine lv_iload hx hb dX9_sellers_65 (lv_at hl 6 rfl) ?_
            refine lv_iconst (v := 1) hx hb dX9_sellers_67 (by decide) ?_
            refine lv_ishr hx hb dX9_sellers_68 ?_
            refine lv_topi (fun x24 ex24 => ?_)
            replace h := gv_s h x24 ex24
            refine lv_istore (lv' := [(8, .int x24), (1, .int a1), (2, .int a2), (3, .int a3), (4, .int y14), (5, .int y15), (6, .int y16), (7, .int y17)]) hx hb dX9_sellers_69 hl (by decide) rfl (fun ls hl => ?_)
            refine lv_iload hx hb dX9_sellers_71 (lv_at hl 7 rfl) ?_
            refine lv_iconst (v := 1) hx hb dX9_sellers_73 (by decide) ?_
            refine lv_iand hx hb dX9_sellers_74 ?_
            refine lv_topi (fun x25 ex25 => ?_)
            replace h := gv_s h x25 ex25
            refine lv_istore (lv' := [(9, .int x25), (8, .int x24), (1, .int a1), (2, .int a2), (3, .int a3), (4, .int y14), (5, .int y15), (6, .int y16), (7, .int y17)]) hx hb dX9_sellers_75 hl (by decide) rfl (fun ls hl => ?_)
            refine lv_iload_n hx hb dX9_sellers_77 rfl (lv_at hl 2 rfl) ?_
            refine lv_iload_n hx hb dX9_sellers_78 rfl (lv_at hl 3 rfl) ?_
            refine lv_iload hx hb dX9_sellers_79 (lv_at hl 1 rfl) ?_
            refine lv_iload hx hb dX9_sellers_81 (lv_at hl 0 rfl) ?_
            obtain ⟨r27, hc26, h⟩ := gb_s h
            refine gx_calli F G (va_runS (As := [.int a1, .int a2, .int x24, .int x25]) (rest := []) (gx_fix F) (c_X9_isRest l sa D ad cy N H.size hN hI c12 d0 hc26) (va_cwS 4 hts gX9_sellers_X9_isRest rfl rfl rfl (by decide +kernel) ⟨by decide, by decide⟩) (gx_pre F G) rfl rfl hl.1 rfl (lv_room (Nat.le_of_ble_eq_true rfl)) dX9_sellers_83 ⟨Nat.zero_le _, Nat.zero_le _⟩) (fun H locs G => ?_)
            obtain ⟨K31, eK31, h⟩ := gj_s h
            have JK31 : ∀ (v28 : Int32) (v29 : Int32) (v30 : Int32) (H : Heap) (locs : List Loc) (ls : Array Slot), K31 (v28, v29, v30) = some o13 → gW D ad cy N A s.heap c12 d0 H locs → lv_has ls 10 [(1, .int a1), (2, .int a2), (3, .int a3), (4, .int v28), (5, .int v29), (6, .int v30), (7, .int y17)] → W p l e rmX9_sellers s m args below meth cod H locs 0 0 Q (F0 m 129 ls []) := by
              intro v28 v29 v30 H locs ls h G hl
              rw [eK31] at h
              replace h := gu2_s h
              replace h := gu2_s h
              obtain ⟨x32, ex32⟩ : ∃ z : Int32, z = y17 + 1 := ⟨_, rfl⟩
              replace h := gv_s h x32 ex32
              refine lv_iinc (v := x32) (lv' := [(7, .int x32), (1, .int a1), (2, .int a2), (3, .int a3), (4, .int v28), (5, .int v29), (6, .int v30)]) hx hb dX9_sellers_129 hl (k := 6) rfl (by rw [ex32]; rfl) (by decide) rfl (fun ls hl => ?_)
              refine lv_goto (tgt := 59) hx hb dX9_sellers_132 (by decide) ?_
              cases h
              exact ih13 _ _ _ _ _ _ _ hn13 G (lv_sub hl [1, 2, 3, 4, 5, 6, 0] rfl)
            refine lv_if_eq (tgt := 129) hx hb dX9_sellers_86 (by decide) (fun q33 => ?_) (fun q33 => ?_)
            · replace h := gt_s q33 h
              exact JK31 _ _ _ _ _ _ h G (lv_sub hl [2, 3, 4, 5, 6, 7, 8] rfl)
            · replace h := gf_s q33 h
              obtain ⟨x34, ex34⟩ : ∃ z : Int32, z = y14 + 1 := ⟨_, rfl⟩
              replace h := gv_s h x34 ex34
              refine lv_iinc (v := x34) (lv' := [(4, .int x34), (9, .int x25), (8, .int x24), (1, .int a1), (2, .int a2), (3, .int a3), (5, .int y15), (6, .int y16), (7, .int y17)]) hx hb dX9_sellers_89 hl (k := 5) rfl (by rw [ex34]; rfl) (by decide) rfl (fun ls hl => ?_)
              refine lv_iload hx hb dX9_sellers_92 (lv_at hl 6 rfl) ?_
              refine lv_iconst (v := (-1)) hx hb dX9_sellers_94 (by decide) ?_
              refine lv_icmp_ne (tgt := 129) hx hb dX9_sellers_95 (by decide) (fun q35 => ?_) (fun q35 => ?_)
              · replace h := gf_s q35 h
                exact JK31 _ _ _ _ _ _ h G (lv_sub hl [3, 4, 5, 0, 6, 7, 8] rfl)
              · replace h := gt_s q35 h
                refine lv_bipush (v := 10) hx hb dX9_sellers_98 (by decide) ?_
                refine lv_iload hx hb dX9_sellers_100 (lv_at hl 2 rfl) ?_
                refine lv_imul hx hb dX9_sellers_102 ?_
                refine lv_iload hx hb dX9_sellers_103 (lv_at hl 1 rfl) ?_
                refine lv_iadd hx hb dX9_sellers_105 ?_
                refine lv_topi (fun x36 ex36 => ?_)
                replace h := gv_s h x36 ex36
                refine lv_istore (lv' := [(5, .int x36), (4, .int x34), (9, .int x25), (8, .int x24), (1, .int a1), (2, .int a2), (3, .int a3), (6, .int y16), (7, .int y17)]) hx hb dX9_sellers_106 hl (by decide) rfl (fun ls hl => ?_)
                refine lv_iload_n hx hb dX9_sellers_108 rfl (lv_at hl 4 rfl) ?_
                refine lv_iload_n hx hb dX9_sellers_109 rfl (lv_at hl 5 rfl) ?_
                refine lv_iload hx hb dX9_sellers_110 (lv_at hl 3 rfl) ?_
                refine lv_iload hx hb dX9_sellers_112 (lv_at hl 2 rfl) ?_
                obtain ⟨r38, hc37, h⟩ := gb_s h
                refine gx_calli F G (va_runS (As := [.int a1, .int a2, .int x24, .int x25]) (rest := []) (gx_fix F) (c_X9_gain l sa D ad cy N H.size hN hI c12 d0 hc37) (va_cwS 4 hts gX9_sellers_X9_gain rfl rfl rfl (by decide +kernel) ⟨by decide, by decide⟩) (gx_pre F G) rfl rfl hl.1 rfl (lv_room (Nat.le_of_ble_eq_true rfl)) dX9_sellers_114 ⟨Nat.zero_le _, Nat.zero_le _⟩) (fun H locs G => ?_)
                refine lv_iload_n hx hb dX9_sellers_117 rfl (lv_at hl 4 rfl) ?_
                refine lv_iload_n hx hb dX9_sellers_118 rfl (lv_at hl 5 rfl) ?_
                refine lv_iload hx hb dX9_sellers_119 (lv_at hl 2 rfl) ?_
                refine lv_iload hx hb dX9_sellers_121 (lv_at hl 3 rfl) ?_
                obtain ⟨r40, hc39, h⟩ := gb_s h
                refine gx_calli F G (va_runS (As := [.int a1, .int a2, .int x25, .int x24]) (rest := [.int r38]) (gx_fix F) (c_X9_gain l sa D ad cy N H.size hN hI c12 d0 hc39) (va_cwS 4 hts gX9_sellers_X9_gain rfl rfl rfl (by decide +kernel) ⟨by decide, by decide⟩) (gx_pre F G) rfl rfl hl.1 rfl (lv_room (Nat.le_of_ble_eq_true rfl)) dX9_sellers_123 ⟨Nat.zero_le _, Nat.zero_le _⟩) (fun H locs G => ?_)
                refine lv_iadd hx hb dX9_sellers_126 ?_
                refine lv_topi (fun x41 ex41 => ?_)
                replace h := gv_s h x41 ex41
                refine lv_istore (lv' := [(6, .int x41), (5, .int x36), (4, .int x34), (9, .int x25), (8, .int x24), (1, .int a1), (2, .int a2), (3, .int a3), (7, .int y17)]) hx hb dX9_sellers_127 hl (by decide) rfl (fun ls hl => ?_)
                exact JK31 _ _ _ _ _ _ h G (lv_sub hl [5, 6, 7, 2, 1, 0, 8] rfl)
      exact L13 n _ _ _ _ _ _ _ hb13 G (lv_sub hl [4, 5, 6, 3, 2, 1, 0] rfl)
    obtain ⟨K42, eK42, h⟩ := gj_s h
    have JK42 : ∀ (H : Heap) (locs : List Loc) (ls : Array Slot), K42 () = some (.inl (rZ, cZ)) → gW D ad cy N A s.heap c7 d0 H locs → lv_has ls 10 [(1, .int a1), (2, .int a2), (3, .int a3)] → W p l e rmX9_sellers s m args below meth cod H locs 0 0 Q (F0 m 43 ls [.ref (ad t)]) := by
      intro  H locs ls h G hl
      rw [eK42] at h
      refine lv_iconst (v := 0) hx hb dX9_sellers_43 (by decide) ?_
      exact JK9 _ _ _ _ h G hl
    refine lv_if_lt (tgt := 43) hx hb dX9_sellers_31 (by decide) (fun q43 => ?_) (fun q43 => ?_)
    · replace h := gt_s q43 h
      exact JK42  _ _ _ h G (lv_sub hl [1, 2, 3] rfl)
    · replace h := gf_s q43 h
      refine lv_iload_n hx hb dX9_sellers_34 rfl (lv_at hl 3 rfl) ?_
      refine lv_iconst (v := 2) hx hb dX9_sellers_35 (by decide) ?_
      refine lv_icmp_gt (tgt := 43) hx hb dX9_sellers_36 (by decide) (fun q44 => ?_) (fun q44 => ?_)
      · replace h := gt_s q44 h
        exact JK42  _ _ _ h G (lv_sub hl [1, 2, 3] rfl)
      · replace h := gf_s q44 h
        refine lv_iconst (v := 1) hx hb dX9_sellers_39 (by decide) ?_
        refine lv_goto (tgt := 44) hx hb dX9_sellers_40 (by decide) ?_
        exact JK9 _ _ _ _ h G (lv_sub hl [1, 2, 3] rfl)
  obtain ⟨K45, eK45, h⟩ := gj_s h
  have JK45 : ∀ (H : Heap) (locs : List Loc) (ls : Array Slot), K45 () = some (.inl (rZ, cZ)) → gW D ad cy N A s.heap c d0 H locs → lv_has ls 10 [(0, .ref (ad t)), (1, .int a1), (2, .int a2), (3, .int a3)] → W p l e rmX9_sellers s m args below meth cod H locs 0 0 Q (F0 m 25 ls [.ref (ad t)]) := by
    intro  H locs ls h G hl
    rw [eK45] at h
    refine lv_iconst (v := 0) hx hb dX9_sellers_25 (by decide) ?_
    exact JK2 _ _ _ _ h G hl
  refine lv_if_lt (tgt := 25) hx hb dX9_sellers_2 (by decide) (fun q46 => ?_) (fun q46 => ?_)
  · replace h := gt_s q46 h
    exact JK45  _ _ _ h G hl
  · replace h := gf_s q46 h
    refine lv_iload_n hx hb dX9_sellers_5 rfl (lv_at hl 1 rfl) ?_
    refine lv_bipush (v := 99) hx hb dX9_sellers_6 (by decide) ?_
    refine lv_icmp_gt (tgt := 25) hx hb dX9_sellers_8 (by decide) (fun q47 => ?_) (fun q47 => ?_)
    · replace h := gt_s q47 h
      exact JK45  _ _ _ h G hl
    · replace h := gf_s q47 h
      refine lv_iload_n hx hb dX9_sellers_11 rfl (lv_at hl 2 rfl) ?_
      refine lv_if_lt (tgt := 25) hx hb dX9_sellers_12 (by decide) (fun q48 => ?_) (fun q48 => ?_)
      · replace h := gt_s q48 h
        exact JK45  _ _ _ h G hl
      · replace h := gf_s q48 h
        refine lv_iload_n hx hb dX9_sellers_15 rfl (lv_at hl 2 rfl) ?_
        refine lv_bipush (v := 99) hx hb dX9_sellers_16 (by decide) ?_
        refine lv_icmp_gt (tgt := 25) hx hb dX9_sellers_18 (by decide) (fun q49 => ?_) (fun q49 => ?_)
        · replace h := gt_s q49 h
          exact JK45  _ _ _ h G hl
        · replace h := gf_s q49 h
          refine lv_iconst (v := 1) hx hb dX9_sellers_21 (by decide) ?_
          refine lv_goto (tgt := 26) hx hb dX9_sellers_22 (by decide) ?_
          exact JK2 _ _ _ _ h G hl
set_option maxHeartbeats 4000000 in
set_option maxRecDepth 100000 in
theorem cx_X9_sellers (l : Launch) (hlt : l.stackTraces = false) (sa : gSa) (D : va_G) (ad : Nat → Nat) (cy : Nat → ClassId) (N sz : Nat) (hN : 55 ≤ N) (hI : gI ad N) (c d0 : gm) {n : Nat} {t : Nat} {a1 : Int32} {a2 : Int32} {a3 : Int32} {kZ : Nat} {cZ : gm} (h : m_X9_sellers n t a1 a2 a3 c = some (.inr (kZ, cZ))) : vx_Met l yX9_sellers wsX9_sellers rxX9_sellers (va_Pc [.ref (ad t), .int a1, .int a2, .int a3] (gP sa D ad cy N sz c d0)) (va_Qi (fun (_ : Int32) (_ : Unit) => False) (fun _ _ => True) (gA ad N sz)) (vx_X (fun (_ : Unit) => True) (fun E _ U => E = gxn kZ ∧ gE D ad cy N cZ d0 U) (gA ad N sz)) 1 6 (gA ad N sz) := by
  refine vx_ofW (cc := cX9_sellers) (maxL := 10) (ret := (some .int)) (by decide) rfl ?_
  intro p e s m args below meth cod s₁ B hml htab hv
  obtain ⟨rfl, hsz, hP, hK, hZ⟩ := hv
  have hx := B.exec
  have hb := B.bytes
  have hr := B.returns
  have hts := atoms_spec (ws := wsX9_sellers) B.pre
  have hown : s.vm.findClass RX9 = some m.cls := findClass_of_methodNamed B.named
  have hlocks := B.notSynchronized
  subst hsz
  have hl := lv_entry ([.ref (ad t), .int a1, .int a2, .int a3]) (n := 10) (Nat.le_of_ble_eq_true rfl)
  rw [lg_entry_eq]
  generalize (lg_sl ([.ref (ad t), .int a1, .int a2, .int a3]) ++ List.replicate (10 - (lg_sl ([.ref (ad t), .int a1, .int a2, .int a3])).length) Slot.unset).toArray = ls at hl ⊢
  have hl : lv_has ls 10 [(0, .ref (ad t)), (1, .int a1), (2, .int a2), (3, .int a3)] := hl
  generalize hargs : ([.ref (ad t), .int a1, .int a2, .int a3] : List Value).toArray = args at *
  generalize hAe : gA ad N s.heap.size = A
  have F : gF sa D ad cy N A p s m args cod cX9_sellers 10 wsX9_sellers RX9 := ⟨hx, hb, hml, hown, hts, hK, hI, by rw [← hAe]; exact gA_ad, by rw [← hAe]; exact gA_sz, by rw [← hAe]; exact hZ⟩
  have G : gW D ad cy N A s.heap c d0 s.heap [] := ⟨hP, va_S.rf⟩
  generalize hQ : vx_MQ below (va_Qi (fun (_ : Int32) (_ : Unit) => False) (fun _ _ => True) A) (vx_X (fun (_ : Unit) => True) (fun E _ U => E = gxn kZ ∧ gE D ad cy N cZ d0 U) A) args s 1 6 A = Q
  suffices hgen : ∀ (H : Heap) (locs : List Loc), gW D ad cy N A s.heap c d0 H locs → W p l e rxX9_sellers s m args below meth cod H locs 0 0 Q (F0 m 0 ls []) from hgen _ _ G
  clear G
  intro H locs G
  unfold m_X9_sellers at h
  refine lv_aload_n hx hb dX9_sellers_0 rfl (lv_at hl 0 rfl) ?_
  refine lv_iload_n hx hb dX9_sellers_1 rfl (lv_at hl 1 rfl) ?_
  obtain ⟨K2, eK2, h⟩ := gj_s h
  have JK2 : ∀ (v1 : Int32) (H : Heap) (locs : List Loc) (ls : Array Slot), K2 v1 = some (.inr (kZ, cZ)) → gW D ad cy N A s.heap c d0 H locs → lv_has ls 10 [(0, .ref (ad t)), (1, .int a1), (2, .int a2), (3, .int a3)] → W p l e rxX9_sellers s m args below meth cod H locs 0 0 Q (F0 m 26 ls [.int v1, .ref (ad t)]) := by
    intro v1 H locs ls h G hl
    rw [eK2] at h
    obtain ⟨hk3, h⟩ := gc_s h
    have ht4 : t < N := Nat.lt_of_lt_of_le (gck_lt9 hk3) hN
    rcases gbx_x h with hc5 | ⟨c7, hc5, h⟩
    · exact hQ ▸ gx_xv F G htab hlocks (vx_runV (As := [.int v1]) (rest := []) (gx_fix F) (cx_X9_demand l hlt sa D ad cy N H.size hN hI c d0 hc5) (cwV 1 hts gX9_sellers_X9_demand rfl rfl rfl (by decide +kernel) ⟨by decide, by decide⟩) (gx_rec F G ht4 (gwe_9 hk3) rfl) rfl rfl hl.1 rfl (lv_room (Nat.le_of_ble_eq_true rfl)) dX9_sellers_26 ⟨by decide, by decide⟩)
    · skip
      refine gx_callv F G (va_runV (As := [.int v1]) (rest := []) (gx_fix F) (c_X9_demand l sa D ad cy N H.size hN hI c d0 hc5) (cwV 1 hts gX9_sellers_X9_demand rfl rfl rfl (by decide +kernel) ⟨by decide, by decide⟩) (gx_rec F G ht4 (gwe_9 hk3) rfl) rfl rfl hl.1 rfl (lv_room (Nat.le_of_ble_eq_true rfl)) dX9_sellers_26 ⟨Nat.zero_le _, Nat.zero_le _⟩) (fun H locs G => ?_)
      refine lv_aload_n hx hb dX9_sellers_29 rfl (lv_at hl 0 rfl) ?_
      refine lv_iload_n hx hb dX9_sellers_30 rfl (lv_at hl 3 rfl) ?_
      obtain ⟨K9, eK9, h⟩ := gj_s h
      have JK9 : ∀ (v8 : Int32) (H : Heap) (locs : List Loc) (ls : Array Slot), K9 v8 = some (.inr (kZ, cZ)) → gW D ad cy N A s.heap c7 d0 H locs → lv_has ls 10 [(1, .int a1), (2, .int a2), (3, .int a3)] → W p l e rxX9_sellers s m args below meth cod H locs 0 0 Q (F0 m 44 ls [.int v8, .ref (ad t)]) := by
        intro v8 H locs ls h G hl
        rw [eK9] at h
        rcases gbx_x h with hc10 | ⟨c12, hc10, h⟩
        · exact hQ ▸ gx_xv F G htab hlocks (vx_runV (As := [.int v8]) (rest := []) (gx_fix F) (cx_X9_demand l hlt sa D ad cy N H.size hN hI c7 d0 hc10) (cwV 1 hts gX9_sellers_X9_demand rfl rfl rfl (by decide +kernel) ⟨by decide, by decide⟩) (gx_rec F G ht4 (gwe_9 hk3) rfl) rfl rfl hl.1 rfl (lv_room (Nat.le_of_ble_eq_true rfl)) dX9_sellers_44 ⟨by decide, by decide⟩)
        · skip
          refine gx_callv F G (va_runV (As := [.int v8]) (rest := []) (gx_fix F) (c_X9_demand l sa D ad cy N H.size hN hI c7 d0 hc10) (cwV 1 hts gX9_sellers_X9_demand rfl rfl rfl (by decide +kernel) ⟨by decide, by decide⟩) (gx_rec F G ht4 (gwe_9 hk3) rfl) rfl rfl hl.1 rfl (lv_room (Nat.le_of_ble_eq_true rfl)) dX9_sellers_44 ⟨Nat.zero_le _, Nat.zero_le _⟩) (fun H locs G => ?_)
          exact (gok_no h).elim
      obtain ⟨K13, eK13, h⟩ := gj_s h
      have JK13 : ∀ (H : Heap) (locs : List Loc) (ls : Array Slot), K13 () = some (.inr (kZ, cZ)) → gW D ad cy N A s.heap c7 d0 H locs → lv_has ls 10 [(1, .int a1), (2, .int a2), (3, .int a3)] → W p l e rxX9_sellers s m args below meth cod H locs 0 0 Q (F0 m 43 ls [.ref (ad t)]) := by
        intro  H locs ls h G hl
        rw [eK13] at h
        refine lv_iconst (v := 0) hx hb dX9_sellers_43 (by decide) ?_
        exact JK9 _ _ _ _ h G hl
      refine lv_if_lt (tgt := 43) hx hb dX9_sellers_31 (by decide) (fun q14 => ?_) (fun q14 => ?_)
      · replace h := gt_s q14 h
        exact JK13  _ _ _ h G (lv_sub hl [1, 2, 3] rfl)
      · replace h := gf_s q14 h
        refine lv_iload_n hx hb dX9_sellers_34 rfl (lv_at hl 3 rfl) ?_
        refine lv_iconst (v := 2) hx hb dX9_sellers_35 (by decide) ?_
        refine lv_icmp_gt (tgt := 43) hx hb dX9_sellers_36 (by decide) (fun q15 => ?_) (fun q15 => ?_)
        · replace h := gt_s q15 h
          exact JK13  _ _ _ h G (lv_sub hl [1, 2, 3] rfl)
        · replace h := gf_s q15 h
          refine lv_iconst (v := 1) hx hb dX9_sellers_39 (by decide) ?_
          refine lv_goto (tgt := 44) hx hb dX9_sellers_40 (by decide) ?_
          exact JK9 _ _ _ _ h G (lv_sub hl [1, 2, 3] rfl)
  obtain ⟨K16, eK16, h⟩ := gj_s h
  have JK16 : ∀ (H : Heap) (locs : List Loc) (ls : Array Slot), K16 () = some (.inr (kZ, cZ)) → gW D ad cy N A s.heap c d0 H locs → lv_has ls 10 [(0, .ref (ad t)), (1, .int a1), (2, .int a2), (3, .int a3)] → W p l e rxX9_sellers s m args below meth cod H locs 0 0 Q (F0 m 25 ls [.ref (ad t)]) := by
    intro  H locs ls h G hl
    rw [eK16] at h
    refine lv_iconst (v := 0) hx hb dX9_sellers_25 (by decide) ?_
    exact JK2 _ _ _ _ h G hl
  refine lv_if_lt (tgt := 25) hx hb dX9_sellers_2 (by decide) (fun q17 => ?_) (fun q17 => ?_)
  · replace h := gt_s q17 h
    exact JK16  _ _ _ h G hl
  · replace h := gf_s q17 h
    refine lv_iload_n hx hb dX9_sellers_5 rfl (lv_at hl 1 rfl) ?_
    refine lv_bipush (v := 99) hx hb dX9_sellers_6 (by decide) ?_
    refine lv_icmp_gt (tgt := 25) hx hb dX9_sellers_8 (by decide) (fun q18 => ?_) (fun q18 => ?_)
    · replace h := gt_s q18 h
      exact JK16  _ _ _ h G hl
    · replace h := gf_s q18 h
      refine lv_iload_n hx hb dX9_sellers_11 rfl (lv_at hl 2 rfl) ?_
      refine lv_if_lt (tgt := 25) hx hb dX9_sellers_12 (by decide) (fun q19 => ?_) (fun q19 => ?_)
      · replace h := gt_s q19 h
        exact JK16  _ _ _ h G hl
      · replace h := gf_s q19 h
        refine lv_iload_n hx hb dX9_sellers_15 rfl (lv_at hl 2 rfl) ?_
        refine lv_bipush (v := 99) hx hb dX9_sellers_16 (by decide) ?_
        refine lv_icmp_gt (tgt := 25) hx hb dX9_sellers_18 (by decide) (fun q20 => ?_) (fun q20 => ?_)
        · replace h := gt_s q20 h
          exact JK16  _ _ _ h G hl
        · replace h := gf_s q20 h
          refine lv_iconst (v := 1) hx hb dX9_sellers_21 (by decide) ?_
          refine lv_goto (tgt := 26) hx hb dX9_sellers_22 (by decide) ?_
          exact JK2 _ _ _ _ h G hl
def m_X9_even_L98 (a1 : Int32) (y21 : Int64) (y22 : Int32) : Option ((Int64 × Int32) ⊕ (Int64)) :=
  (if a1 ≤ y22 then some (.inr y21) else gv (y21 * (16 : Int64)) (fun (x31 : Int64) => gv (y22 + 1) (fun (x32 : Int32) => some (.inl (x31, x32)))))
def m_X9_even_L56 (a1 : Int32) (a2 : Int32) (y17 : Int64) (y18 : Int32) : Option ((Int64 × Int32) ⊕ (Int64)) :=
  (if (a1 / 2) < y18 then some (.inr y17) else gc (¬ (Int32.toInt64 y18) = 0) (gv ((((y17 * (Int32.toInt64 ((a1 / 2) + y18))) / (Int32.toInt64 y18)) * (Int32.toInt64 a2)) * (Int32.toInt64 (16 - a2))) (fun (x35 : Int64) => gv (y18 + 1) (fun (x36 : Int32) => some (.inl (x35, x36))))))
def m_X9_even (n : Nat) (t : Nat) (a1 : Int32) (a2 : Int32) (a3 : Int32) (c : gm) : Option ((Int64 × gm) ⊕ (Nat × gm)) :=
  gj (fun (v1 : Int32) => gc (gck t = 9) (gbx (m_X9_demand t v1 c) (fun (c7 : gm) => gb (m_X9_isPart a3) (fun (r9 : Int32) => gbx (m_X9_demand t r9 c7) (fun (c12 : gm) => gok (gj (fun (v13 : Int64) => gv (1 : Int64) (fun (x15 : Int64) => gb (gloop (gu2 (fun (y17 : Int64) (y18 : Int32) => m_X9_even_L56 a1 a2 y17 y18)) n (v13, 1)) (fun (z19 : Int64) => gb (gloop (gu2 (fun (y21 : Int64) (y22 : Int32) => m_X9_even_L98 a1 y21 y22)) n (x15, 0)) (fun (z23 : Int64) => gj (fun (v24 : Int64) => gb (m_X9_commonMeasure n z19 z23) (fun (r27 : Int64) => gc (¬ r27 = 0) (some ((v24 / r27), c12)))) (fun K25 => (if a3 = 0 then K25 z19 else K25 z23)))))) (fun K14 => (if (a1 - a1 / 2 * 2) = 0 then K14 (1 : Int64) else K14 (0 : Int64))))))))) (fun K2 => gj (fun (_ : Unit) => K2 0) (fun K38 => (if a1 < 0 then K38 () else (if 12 < a1 then K38 () else (if a2 < 0 then K38 () else (if 16 < a2 then K38 () else K2 1))))))
abbrev rmX9_even : Room := { frames := 7, cells := 0, slots := 0, locals := 111 }
abbrev rxX9_even : Room := { frames := 7, cells := 1, slots := 6, locals := 111 }
set_option maxHeartbeats 4000000 in
set_option maxRecDepth 100000 in
theorem c_X9_even (l : Launch) (sa : gSa) (D : va_G) (ad : Nat → Nat) (cy : Nat → ClassId) (N sz : Nat) (hN : 55 ≤ N) (hI : gI ad N) (c d0 : gm) {n : Nat} {t : Nat} {a1 : Int32} {a2 : Int32} {a3 : Int32} {rZ : Int64} {cZ : gm} (h : m_X9_even n t a1 a2 a3 c = some (.inl (rZ, cZ))) : Met l yX9_even wsX9_even rmX9_even (va_Pc [.ref (ad t), .int a1, .int a2, .int a3] (gP sa D ad cy N sz c d0)) (va_Ql (fun (z : Int64) (_ : Unit) => z = rZ) (fun _ U => gE D ad cy N cZ d0 U) (gA ad N sz)) 0 0 (gA ad N sz) := by
  refine Met.ofW (cc := cX9_even) (maxL := 9) (ret := (some .long)) (by decide) rfl ?_
  intro p e s m args below meth cod s₁ B hml hv
  obtain ⟨rfl, hsz, hP, hK, hZ⟩ := hv
  have hx := B.exec
  have hb := B.bytes
  have hr := B.returns
  have hts := atoms_spec (ws := wsX9_even) B.pre
  have hown : s.vm.findClass RX9 = some m.cls := findClass_of_methodNamed B.named
  have hlocks := B.notSynchronized
  subst hsz
  have hl := lv_entry ([.ref (ad t), .int a1, .int a2, .int a3]) (n := 9) (Nat.le_of_ble_eq_true rfl)
  rw [lg_entry_eq]
  generalize (lg_sl ([.ref (ad t), .int a1, .int a2, .int a3]) ++ List.replicate (9 - (lg_sl ([.ref (ad t), .int a1, .int a2, .int a3])).length) Slot.unset).toArray = ls at hl ⊢
  have hl : lv_has ls 9 [(0, .ref (ad t)), (1, .int a1), (2, .int a2), (3, .int a3)] := hl
  generalize hargs : ([.ref (ad t), .int a1, .int a2, .int a3] : List Value).toArray = args at *
  generalize hAe : gA ad N s.heap.size = A
  have F : gF sa D ad cy N A p s m args cod cX9_even 9 wsX9_even RX9 := ⟨hx, hb, hml, hown, hts, hK, hI, by rw [← hAe]; exact gA_ad, by rw [← hAe]; exact gA_sz, by rw [← hAe]; exact hZ⟩
  have G : gW D ad cy N A s.heap c d0 s.heap [] := ⟨hP, va_S.rf⟩
  generalize hQ : MQ below (va_Ql (fun (z : Int64) (_ : Unit) => z = rZ) (fun _ U => gE D ad cy N cZ d0 U) A) args s 0 0 A = Q
  suffices hgen : ∀ (H : Heap) (locs : List Loc), gW D ad cy N A s.heap c d0 H locs → W p l e rmX9_even s m args below meth cod H locs 0 0 Q (F0 m 0 ls []) from hgen _ _ G
  clear G
  intro H locs G
  unfold m_X9_even at h
  refine lv_aload_n hx hb dX9_even_0 rfl (lv_at hl 0 rfl) ?_
  refine lv_iload_n hx hb dX9_even_1 rfl (lv_at hl 1 rfl) ?_
  obtain ⟨K2, eK2, h⟩ := gj_s h
  have JK2 : ∀ (v1 : Int32) (H : Heap) (locs : List Loc) (ls : Array Slot), K2 v1 = some (.inl (rZ, cZ)) → gW D ad cy N A s.heap c d0 H locs → lv_has ls 9 [(0, .ref (ad t)), (1, .int a1), (2, .int a2), (3, .int a3)] → W p l e rmX9_even s m args below meth cod H locs 0 0 Q (F0 m 26 ls [.int v1, .ref (ad t)]) := by
    intro v1 H locs ls h G hl
    rw [eK2] at h
    obtain ⟨hk3, h⟩ := gc_s h
    have ht4 : t < N := Nat.lt_of_lt_of_le (gck_lt9 hk3) hN
    obtain ⟨c7, hc5, h⟩ := gbx_l h
    refine gx_callv F G (va_runV (As := [.int v1]) (rest := []) (gx_fix F) (c_X9_demand l sa D ad cy N H.size hN hI c d0 hc5) (cwV 1 hts gX9_even_X9_demand rfl rfl rfl (by decide +kernel) ⟨by decide, by decide⟩) (gx_rec F G ht4 (gwe_9 hk3) rfl) rfl rfl hl.1 rfl (lv_room (Nat.le_of_ble_eq_true rfl)) dX9_even_26 ⟨Nat.zero_le _, Nat.zero_le _⟩) (fun H locs G => ?_)
    refine lv_aload_n hx hb dX9_even_29 rfl (lv_at hl 0 rfl) ?_
    refine lv_iload_n hx hb dX9_even_30 rfl (lv_at hl 3 rfl) ?_
    obtain ⟨r9, hc8, h⟩ := gb_s h
    refine gx_calli F G (va_runS (As := [.int a3]) (rest := [.ref (ad t)]) (gx_fix F) (c_X9_isPart l sa D ad cy N H.size hN hI c7 d0 hc8) (va_cwS 1 hts gX9_even_X9_isPart rfl rfl rfl (by decide +kernel) ⟨by decide, by decide⟩) (gx_pre F G) rfl rfl hl.1 rfl (lv_room (Nat.le_of_ble_eq_true rfl)) dX9_even_31 ⟨Nat.zero_le _, Nat.zero_le _⟩) (fun H locs G => ?_)
    obtain ⟨c12, hc10, h⟩ := gbx_l h
    refine gx_callv F G (va_runV (As := [.int r9]) (rest := []) (gx_fix F) (c_X9_demand l sa D ad cy N H.size hN hI c7 d0 hc10) (cwV 1 hts gX9_even_X9_demand rfl rfl rfl (by decide +kernel) ⟨by decide, by decide⟩) (gx_rec F G ht4 (gwe_9 hk3) rfl) rfl rfl hl.1 rfl (lv_room (Nat.le_of_ble_eq_true rfl)) dX9_even_34 ⟨Nat.zero_le _, Nat.zero_le _⟩) (fun H locs G => ?_)
    replace h := gok_s h
    refine lv_iload_n hx hb dX9_even_37 rfl (lv_at hl 1 rfl) ?_
    refine lv_iconst (v := 2) hx hb dX9_even_38 (by decide) ?_
    refine lv_irem hx hb dX9_even_39 (by decide) ?_
    obtain ⟨K14, eK14, h⟩ := gj_s h
    have JK14 : ∀ (v13 : Int64) (H : Heap) (locs : List Loc) (ls : Array Slot), K14 v13 = some (rZ, cZ) → gW D ad cy N A s.heap c12 d0 H locs → lv_has ls 9 [(1, .int a1), (2, .int a2), (3, .int a3)] → W p l e rmX9_even s m args below meth cod H locs 0 0 Q (F0 m 48 ls [.long v13]) := by
      intro v13 H locs ls h G hl
      rw [eK14] at h
      refine lv_lstore (lv' := [(4, .long v13), (1, .int a1), (2, .int a2), (3, .int a3)]) hx hb dX9_even_48 hl (by decide) rfl (fun ls hl => ?_)
      refine lv_lconst (v := 1) hx hb dX9_even_50 (by decide) ?_
      refine lv_topl (fun x15 ex15 => ?_)
      replace h := gv_s h x15 ex15
      refine lv_lstore (lv' := [(6, .long x15), (4, .long v13), (1, .int a1), (2, .int a2), (3, .int a3)]) hx hb dX9_even_51 hl (by decide) rfl (fun ls hl => ?_)
      refine lv_iconst (v := 1) hx hb dX9_even_53 (by decide) ?_
      refine lv_istore (lv' := [(8, .int 1), (6, .long x15), (4, .long v13), (1, .int a1), (2, .int a2), (3, .int a3)]) hx hb dX9_even_54 hl (by decide) rfl (fun ls hl => ?_)
      obtain ⟨b16, hb16, hK16⟩ := gb_s h
      have E16 : ∀ (z19 : Int64) (H : Heap) (locs : List Loc) (ls : Array Slot), (z19 : Int64) = b16 → gW D ad cy N A s.heap c12 d0 H locs → lv_has ls 9 [(1, .int a1), (3, .int a3), (4, .long z19), (6, .long x15)] → W p l e rmX9_even s m args below meth cod H locs 0 0 Q (F0 m 95 ls []) := by
        intro z19 H locs ls hq16 G hl
        subst hq16
        replace hK16 := hK16
        have h := hK16
        refine lv_iconst (v := 0) hx hb dX9_even_95 (by decide) ?_
        refine lv_istore (lv' := [(8, .int 0), (1, .int a1), (3, .int a3), (4, .long z19), (6, .long x15)]) hx hb dX9_even_96 hl (by decide) rfl (fun ls hl => ?_)
        obtain ⟨b20, hb20, hK20⟩ := gb_s h
        have E20 : ∀ (z23 : Int64) (H : Heap) (locs : List Loc) (ls : Array Slot), (z23 : Int64) = b20 → gW D ad cy N A s.heap c12 d0 H locs → lv_has ls 9 [(3, .int a3), (4, .long z19), (6, .long z23)] → W p l e rmX9_even s m args below meth cod H locs 0 0 Q (F0 m 118 ls []) := by
          intro z23 H locs ls hq20 G hl
          subst hq20
          replace hK20 := hK20
          have h := hK20
          refine lv_iload_n hx hb dX9_even_118 rfl (lv_at hl 0 rfl) ?_
          obtain ⟨K25, eK25, h⟩ := gj_s h
          have JK25 : ∀ (v24 : Int64) (H : Heap) (locs : List Loc) (ls : Array Slot), K25 v24 = some (rZ, cZ) → gW D ad cy N A s.heap c12 d0 H locs → lv_has ls 9 [(4, .long z19), (6, .long z23)] → W p l e rmX9_even s m args below meth cod H locs 0 0 Q (F0 m 129 ls [.long v24]) := by
            intro v24 H locs ls h G hl
            rw [eK25] at h
            refine lv_lload hx hb dX9_even_129 (lv_at hl 0 rfl) ?_
            refine lv_lload hx hb dX9_even_131 (lv_at hl 1 rfl) ?_
            obtain ⟨r27, hc26, h⟩ := gb_s h
            refine gx_calll F G (va_runS (As := [.long z19, .long z23]) (rest := [.long v24]) (gx_fix F) (c_X9_commonMeasure l sa D ad cy N H.size hN hI c12 d0 hc26) (va_cwS 2 hts gX9_even_X9_commonMeasure rfl rfl rfl (by decide +kernel) ⟨by decide, by decide⟩) (gx_pre F G) rfl rfl hl.1 rfl (lv_room (Nat.le_of_ble_eq_true rfl)) dX9_even_133 ⟨Nat.zero_le _, Nat.zero_le _⟩) (fun H locs G => ?_)
            obtain ⟨hz28, h⟩ := gc_s h
            refine lv_ldiv hx hb dX9_even_136 hz28 ?_
            cases h
            rw [← hQ]
            exact gx_lret F G hr hlocks dX9_even_137
          refine lv_if_ne (tgt := 127) hx hb dX9_even_119 (by decide) (fun q29 => ?_) (fun q29 => ?_)
          · replace h := gf_s q29 h
            refine lv_lload hx hb dX9_even_127 (lv_at hl 2 rfl) ?_
            exact JK25 _ _ _ _ h G (lv_sub hl [1, 2] rfl)
          · replace h := gt_s q29 h
            refine lv_lload hx hb dX9_even_122 (lv_at hl 1 rfl) ?_
            refine lv_goto (tgt := 129) hx hb dX9_even_124 (by decide) ?_
            exact JK25 _ _ _ _ h G (lv_sub hl [1, 2] rfl)
        have L20 : ∀ (n9 : Nat) (y21 : Int64) (y22 : Int32) (H : Heap) (locs : List Loc) (ls : Array Slot), gloop (gu2 (fun (y21 : Int64) (y22 : Int32) => m_X9_even_L98 a1 y21 y22)) n9 (y21, y22) = some b20 → gW D ad cy N A s.heap c12 d0 H locs → lv_has ls 9 [(1, .int a1), (3, .int a3), (4, .long z19), (6, .long y21), (8, .int y22)] → W p l e rmX9_even s m args below meth cod H locs 0 0 Q (F0 m 98 ls []) := by
          intro n9
          induction n9 with
          | zero => intro y21 y22 H locs ls h; exact (gloop_0 h).elim
          | succ n9 ih =>
            intro y21 y22 H locs ls h G hl
            have ih20 := ih
            obtain ⟨o20, h, hn20⟩ := gloop_s h
            replace h := gu2_s h
            unfold m_X9_even_L98 at h
            refine lv_iload hx hb dX9_even_98 (lv_at hl 4 rfl) ?_
            refine lv_iload_n hx hb dX9_even_100 rfl (lv_at hl 0 rfl) ?_
            refine lv_icmp_ge (tgt := 118) hx hb dX9_even_101 (by decide) (fun q30 => ?_) (fun q30 => ?_)
            · replace h := gt_s q30 h
              cases h
              exact E20 _ _ _ _ (gnx_r hn20) G (lv_sub hl [1, 2, 3] rfl)
            · replace h := gf_s q30 h
              refine lv_lload hx hb dX9_even_104 (lv_at hl 3 rfl) ?_
              refine lv_ldc2 (v := 16) hx hb hown (hts (.constantLong RX9 288 16) (by decide +kernel)) dX9_even_106 ?_
              refine lv_lmul hx hb dX9_even_109 ?_
              refine lv_topl (fun x31 ex31 => ?_)
              replace h := gv_s h x31 ex31
              refine lv_lstore (lv' := [(6, .long x31), (1, .int a1), (3, .int a3), (4, .long z19), (8, .int y22)]) hx hb dX9_even_110 hl (by decide) rfl (fun ls hl => ?_)
              obtain ⟨x32, ex32⟩ : ∃ z : Int32, z = y22 + 1 := ⟨_, rfl⟩
              replace h := gv_s h x32 ex32
              refine lv_iinc (v := x32) (lv' := [(8, .int x32), (6, .long x31), (1, .int a1), (3, .int a3), (4, .long z19)]) hx hb dX9_even_112 hl (k := 4) rfl (by rw [ex32]; rfl) (by decide) rfl (fun ls hl => ?_)
              refine lv_goto (tgt := 98) hx hb dX9_even_115 (by decide) ?_
              cases h
              exact ih20 _ _ _ _ _ hn20 G (lv_sub hl [2, 3, 4, 1, 0] rfl)
        exact L20 n _ _ _ _ _ hb20 G (lv_sub hl [1, 2, 3, 4, 0] rfl)
      have L16 : ∀ (n9 : Nat) (y17 : Int64) (y18 : Int32) (H : Heap) (locs : List Loc) (ls : Array Slot), gloop (gu2 (fun (y17 : Int64) (y18 : Int32) => m_X9_even_L56 a1 a2 y17 y18)) n9 (y17, y18) = some b16 → gW D ad cy N A s.heap c12 d0 H locs → lv_has ls 9 [(1, .int a1), (2, .int a2), (3, .int a3), (4, .long y17), (6, .long x15), (8, .int y18)] → W p l e rmX9_even s m args below meth cod H locs 0 0 Q (F0 m 56 ls []) := by
        intro n9
        induction n9 with
        | zero => intro y17 y18 H locs ls h; exact (gloop_0 h).elim
        | succ n9 ih =>
          intro y17 y18 H locs ls h G hl
          have ih16 := ih
          obtain ⟨o16, h, hn16⟩ := gloop_s h
          replace h := gu2_s h
          unfold m_X9_even_L56 at h
          refine lv_iload hx hb dX9_even_56 (lv_at hl 5 rfl) ?_
          refine lv_iload_n hx hb dX9_even_58 rfl (lv_at hl 0 rfl) ?_
          refine lv_iconst (v := 2) hx hb dX9_even_59 (by decide) ?_
          refine lv_idiv hx hb dX9_even_60 (by decide) ?_
          refine lv_icmp_gt (tgt := 95) hx hb dX9_even_61 (by decide) (fun q33 => ?_) (fun q33 => ?_)
          · replace h := gt_s q33 h
            cases h
            exact E16 _ _ _ _ (gnx_r hn16) G (lv_sub hl [0, 2, 3, 4] rfl)
          · replace h := gf_s q33 h
            refine lv_lload hx hb dX9_even_64 (lv_at hl 3 rfl) ?_
            refine lv_iload_n hx hb dX9_even_66 rfl (lv_at hl 0 rfl) ?_
            refine lv_iconst (v := 2) hx hb dX9_even_67 (by decide) ?_
            refine lv_idiv hx hb dX9_even_68 (by decide) ?_
            refine lv_iload hx hb dX9_even_69 (lv_at hl 5 rfl) ?_
            refine lv_iadd hx hb dX9_even_71 ?_
            refine lv_i2l hx hb dX9_even_72 rfl ?_
            refine lv_lmul hx hb dX9_even_73 ?_
            refine lv_iload hx hb dX9_even_74 (lv_at hl 5 rfl) ?_
            refine lv_i2l hx hb dX9_even_76 rfl ?_
            obtain ⟨hz34, h⟩ := gc_s h
            refine lv_ldiv hx hb dX9_even_77 hz34 ?_
            refine lv_iload_n hx hb dX9_even_78 rfl (lv_at hl 1 rfl) ?_
            refine lv_i2l hx hb dX9_even_79 rfl ?_
            refine lv_lmul hx hb dX9_even_80 ?_
            refine lv_bipush (v := 16) hx hb dX9_even_81 (by decide) ?_
            refine lv_iload_n hx hb dX9_even_83 rfl (lv_at hl 1 rfl) ?_
            refine lv_isub hx hb dX9_even_84 ?_
            refine lv_i2l hx hb dX9_even_85 rfl ?_
            refine lv_lmul hx hb dX9_even_86 ?_
            refine lv_topl (fun x35 ex35 => ?_)
            replace h := gv_s h x35 ex35
            refine lv_lstore (lv' := [(4, .long x35), (1, .int a1), (2, .int a2), (3, .int a3), (6, .long x15), (8, .int y18)]) hx hb dX9_even_87 hl (by decide) rfl (fun ls hl => ?_)
            obtain ⟨x36, ex36⟩ : ∃ z : Int32, z = y18 + 1 := ⟨_, rfl⟩
            replace h := gv_s h x36 ex36
            refine lv_iinc (v := x36) (lv' := [(8, .int x36), (4, .long x35), (1, .int a1), (2, .int a2), (3, .int a3), (6, .long x15)]) hx hb dX9_even_89 hl (k := 5) rfl (by rw [ex36]; rfl) (by decide) rfl (fun ls hl => ?_)
            refine lv_goto (tgt := 56) hx hb dX9_even_92 (by decide) ?_
            cases h
            exact ih16 _ _ _ _ _ hn16 G (lv_sub hl [2, 3, 4, 1, 5, 0] rfl)
      exact L16 n _ _ _ _ _ hb16 G (lv_sub hl [3, 4, 5, 2, 1, 0] rfl)
    refine lv_if_ne (tgt := 47) hx hb dX9_even_40 (by decide) (fun q37 => ?_) (fun q37 => ?_)
    · replace h := gf_s q37 h
      refine lv_lconst (v := 0) hx hb dX9_even_47 (by decide) ?_
      exact JK14 _ _ _ _ h G (lv_sub hl [1, 2, 3] rfl)
    · replace h := gt_s q37 h
      refine lv_lconst (v := 1) hx hb dX9_even_43 (by decide) ?_
      refine lv_goto (tgt := 48) hx hb dX9_even_44 (by decide) ?_
      exact JK14 _ _ _ _ h G (lv_sub hl [1, 2, 3] rfl)
  obtain ⟨K38, eK38, h⟩ := gj_s h
  have JK38 : ∀ (H : Heap) (locs : List Loc) (ls : Array Slot), K38 () = some (.inl (rZ, cZ)) → gW D ad cy N A s.heap c d0 H locs → lv_has ls 9 [(0, .ref (ad t)), (1, .int a1), (2, .int a2), (3, .int a3)] → W p l e rmX9_even s m args below meth cod H locs 0 0 Q (F0 m 25 ls [.ref (ad t)]) := by
    intro  H locs ls h G hl
    rw [eK38] at h
    refine lv_iconst (v := 0) hx hb dX9_even_25 (by decide) ?_
    exact JK2 _ _ _ _ h G hl
  refine lv_if_lt (tgt := 25) hx hb dX9_even_2 (by decide) (fun q39 => ?_) (fun q39 => ?_)
  · replace h := gt_s q39 h
    exact JK38  _ _ _ h G hl
  · replace h := gf_s q39 h
    refine lv_iload_n hx hb dX9_even_5 rfl (lv_at hl 1 rfl) ?_
    refine lv_bipush (v := 12) hx hb dX9_even_6 (by decide) ?_
    refine lv_icmp_gt (tgt := 25) hx hb dX9_even_8 (by decide) (fun q40 => ?_) (fun q40 => ?_)
    · replace h := gt_s q40 h
      exact JK38  _ _ _ h G hl
    · replace h := gf_s q40 h
      refine lv_iload_n hx hb dX9_even_11 rfl (lv_at hl 2 rfl) ?_
      refine lv_if_lt (tgt := 25) hx hb dX9_even_12 (by decide) (fun q41 => ?_) (fun q41 => ?_)
      · replace h := gt_s q41 h
        exact JK38  _ _ _ h G hl
      · replace h := gf_s q41 h
        refine lv_iload_n hx hb dX9_even_15 rfl (lv_at hl 2 rfl) ?_
        refine lv_bipush (v := 16) hx hb dX9_even_16 (by decide) ?_
        refine lv_icmp_gt (tgt := 25) hx hb dX9_even_18 (by decide) (fun q42 => ?_) (fun q42 => ?_)
        · replace h := gt_s q42 h
          exact JK38  _ _ _ h G hl
        · replace h := gf_s q42 h
          refine lv_iconst (v := 1) hx hb dX9_even_21 (by decide) ?_
          refine lv_goto (tgt := 26) hx hb dX9_even_22 (by decide) ?_
          exact JK2 _ _ _ _ h G hl
set_option maxHeartbeats 4000000 in
set_option maxRecDepth 100000 in
theorem cx_X9_even (l : Launch) (hlt : l.stackTraces = false) (sa : gSa) (D : va_G) (ad : Nat → Nat) (cy : Nat → ClassId) (N sz : Nat) (hN : 55 ≤ N) (hI : gI ad N) (c d0 : gm) {n : Nat} {t : Nat} {a1 : Int32} {a2 : Int32} {a3 : Int32} {kZ : Nat} {cZ : gm} (h : m_X9_even n t a1 a2 a3 c = some (.inr (kZ, cZ))) : vx_Met l yX9_even wsX9_even rxX9_even (va_Pc [.ref (ad t), .int a1, .int a2, .int a3] (gP sa D ad cy N sz c d0)) (va_Ql (fun (_ : Int64) (_ : Unit) => False) (fun _ _ => True) (gA ad N sz)) (vx_X (fun (_ : Unit) => True) (fun E _ U => E = gxn kZ ∧ gE D ad cy N cZ d0 U) (gA ad N sz)) 1 6 (gA ad N sz) := by
  refine vx_ofW (cc := cX9_even) (maxL := 9) (ret := (some .long)) (by decide) rfl ?_
  intro p e s m args below meth cod s₁ B hml htab hv
  obtain ⟨rfl, hsz, hP, hK, hZ⟩ := hv
  have hx := B.exec
  have hb := B.bytes
  have hr := B.returns
  have hts := atoms_spec (ws := wsX9_even) B.pre
  have hown : s.vm.findClass RX9 = some m.cls := findClass_of_methodNamed B.named
  have hlocks := B.notSynchronized
  subst hsz
  have hl := lv_entry ([.ref (ad t), .int a1, .int a2, .int a3]) (n := 9) (Nat.le_of_ble_eq_true rfl)
  rw [lg_entry_eq]
  generalize (lg_sl ([.ref (ad t), .int a1, .int a2, .int a3]) ++ List.replicate (9 - (lg_sl ([.ref (ad t), .int a1, .int a2, .int a3])).length) Slot.unset).toArray = ls at hl ⊢
  have hl : lv_has ls 9 [(0, .ref (ad t)), (1, .int a1), (2, .int a2), (3, .int a3)] := hl
  generalize hargs : ([.ref (ad t), .int a1, .int a2, .int a3] : List Value).toArray = args at *
  generalize hAe : gA ad N s.heap.size = A
  have F : gF sa D ad cy N A p s m args cod cX9_even 9 wsX9_even RX9 := ⟨hx, hb, hml, hown, hts, hK, hI, by rw [← hAe]; exact gA_ad, by rw [← hAe]; exact gA_sz, by rw [← hAe]; exact hZ⟩
  have G : gW D ad cy N A s.heap c d0 s.heap [] := ⟨hP, va_S.rf⟩
  generalize hQ : vx_MQ below (va_Ql (fun (_ : Int64) (_ : Unit) => False) (fun _ _ => True) A) (vx_X (fun (_ : Unit) => True) (fun E _ U => E = gxn kZ ∧ gE D ad cy N cZ d0 U) A) args s 1 6 A = Q
  suffices hgen : ∀ (H : Heap) (locs : List Loc), gW D ad cy N A s.heap c d0 H locs → W p l e rxX9_even s m args below meth cod H locs 0 0 Q (F0 m 0 ls []) from hgen _ _ G
  clear G
  intro H locs G
  unfold m_X9_even at h
  refine lv_aload_n hx hb dX9_even_0 rfl (lv_at hl 0 rfl) ?_
  refine lv_iload_n hx hb dX9_even_1 rfl (lv_at hl 1 rfl) ?_
  obtain ⟨K2, eK2, h⟩ := gj_s h
  have JK2 : ∀ (v1 : Int32) (H : Heap) (locs : List Loc) (ls : Array Slot), K2 v1 = some (.inr (kZ, cZ)) → gW D ad cy N A s.heap c d0 H locs → lv_has ls 9 [(0, .ref (ad t)), (1, .int a1), (2, .int a2), (3, .int a3)] → W p l e rxX9_even s m args below meth cod H locs 0 0 Q (F0 m 26 ls [.int v1, .ref (ad t)]) := by
    intro v1 H locs ls h G hl
    rw [eK2] at h
    obtain ⟨hk3, h⟩ := gc_s h
    have ht4 : t < N := Nat.lt_of_lt_of_le (gck_lt9 hk3) hN
    rcases gbx_x h with hc5 | ⟨c7, hc5, h⟩
    · exact hQ ▸ gx_xv F G htab hlocks (vx_runV (As := [.int v1]) (rest := []) (gx_fix F) (cx_X9_demand l hlt sa D ad cy N H.size hN hI c d0 hc5) (cwV 1 hts gX9_even_X9_demand rfl rfl rfl (by decide +kernel) ⟨by decide, by decide⟩) (gx_rec F G ht4 (gwe_9 hk3) rfl) rfl rfl hl.1 rfl (lv_room (Nat.le_of_ble_eq_true rfl)) dX9_even_26 ⟨by decide, by decide⟩)
    · skip
      refine gx_callv F G (va_runV (As := [.int v1]) (rest := []) (gx_fix F) (c_X9_demand l sa D ad cy N H.size hN hI c d0 hc5) (cwV 1 hts gX9_even_X9_demand rfl rfl rfl (by decide +kernel) ⟨by decide, by decide⟩) (gx_rec F G ht4 (gwe_9 hk3) rfl) rfl rfl hl.1 rfl (lv_room (Nat.le_of_ble_eq_true rfl)) dX9_even_26 ⟨Nat.zero_le _, Nat.zero_le _⟩) (fun H locs G => ?_)
      refine lv_aload_n hx hb dX9_even_29 rfl (lv_at hl 0 rfl) ?_
      refine lv_iload_n hx hb dX9_even_30 rfl (lv_at hl 3 rfl) ?_
      obtain ⟨r9, hc8, h⟩ := gb_s h
      refine gx_calli F G (va_runS (As := [.int a3]) (rest := [.ref (ad t)]) (gx_fix F) (c_X9_isPart l sa D ad cy N H.size hN hI c7 d0 hc8) (va_cwS 1 hts gX9_even_X9_isPart rfl rfl rfl (by decide +kernel) ⟨by decide, by decide⟩) (gx_pre F G) rfl rfl hl.1 rfl (lv_room (Nat.le_of_ble_eq_true rfl)) dX9_even_31 ⟨Nat.zero_le _, Nat.zero_le _⟩) (fun H locs G => ?_)
      rcases gbx_x h with hc10 | ⟨c12, hc10, h⟩
      · exact hQ ▸ gx_xv F G htab hlocks (vx_runV (As := [.int r9]) (rest := []) (gx_fix F) (cx_X9_demand l hlt sa D ad cy N H.size hN hI c7 d0 hc10) (cwV 1 hts gX9_even_X9_demand rfl rfl rfl (by decide +kernel) ⟨by decide, by decide⟩) (gx_rec F G ht4 (gwe_9 hk3) rfl) rfl rfl hl.1 rfl (lv_room (Nat.le_of_ble_eq_true rfl)) dX9_even_34 ⟨by decide, by decide⟩)
      · skip
        refine gx_callv F G (va_runV (As := [.int r9]) (rest := []) (gx_fix F) (c_X9_demand l sa D ad cy N H.size hN hI c7 d0 hc10) (cwV 1 hts gX9_even_X9_demand rfl rfl rfl (by decide +kernel) ⟨by decide, by decide⟩) (gx_rec F G ht4 (gwe_9 hk3) rfl) rfl rfl hl.1 rfl (lv_room (Nat.le_of_ble_eq_true rfl)) dX9_even_34 ⟨Nat.zero_le _, Nat.zero_le _⟩) (fun H locs G => ?_)
        exact (gok_no h).elim
  obtain ⟨K13, eK13, h⟩ := gj_s h
  have JK13 : ∀ (H : Heap) (locs : List Loc) (ls : Array Slot), K13 () = some (.inr (kZ, cZ)) → gW D ad cy N A s.heap c d0 H locs → lv_has ls 9 [(0, .ref (ad t)), (1, .int a1), (2, .int a2), (3, .int a3)] → W p l e rxX9_even s m args below meth cod H locs 0 0 Q (F0 m 25 ls [.ref (ad t)]) := by
    intro  H locs ls h G hl
    rw [eK13] at h
    refine lv_iconst (v := 0) hx hb dX9_even_25 (by decide) ?_
    exact JK2 _ _ _ _ h G hl
  refine lv_if_lt (tgt := 25) hx hb dX9_even_2 (by decide) (fun q14 => ?_) (fun q14 => ?_)
  · replace h := gt_s q14 h
    exact JK13  _ _ _ h G hl
  · replace h := gf_s q14 h
    refine lv_iload_n hx hb dX9_even_5 rfl (lv_at hl 1 rfl) ?_
    refine lv_bipush (v := 12) hx hb dX9_even_6 (by decide) ?_
    refine lv_icmp_gt (tgt := 25) hx hb dX9_even_8 (by decide) (fun q15 => ?_) (fun q15 => ?_)
    · replace h := gt_s q15 h
      exact JK13  _ _ _ h G hl
    · replace h := gf_s q15 h
      refine lv_iload_n hx hb dX9_even_11 rfl (lv_at hl 2 rfl) ?_
      refine lv_if_lt (tgt := 25) hx hb dX9_even_12 (by decide) (fun q16 => ?_) (fun q16 => ?_)
      · replace h := gt_s q16 h
        exact JK13  _ _ _ h G hl
      · replace h := gf_s q16 h
        refine lv_iload_n hx hb dX9_even_15 rfl (lv_at hl 2 rfl) ?_
        refine lv_bipush (v := 16) hx hb dX9_even_16 (by decide) ?_
        refine lv_icmp_gt (tgt := 25) hx hb dX9_even_18 (by decide) (fun q17 => ?_) (fun q17 => ?_)
        · replace h := gt_s q17 h
          exact JK13  _ _ _ h G hl
        · replace h := gf_s q17 h
          refine lv_iconst (v := 1) hx hb dX9_even_21 (by decide) ?_
          refine lv_goto (tgt := 26) hx hb dX9_even_22 (by decide) ?_
          exact JK2 _ _ _ _ h G hl
def m_X9_share (n : Nat) (t : Nat) (a1 : Int32) (a2 : Int32) (a3 : Int32) (c : gm) : Option ((Int32 × gm) ⊕ (Nat × gm)) :=
  gc (gck t = 9) (gbx (m_X9_demandThing t a1 c) (fun (c5 : gm) => gbx (m_X9_demandBits t a2 c5) (fun (c8 : gm) => gj (fun (v9 : Int32) => gbx (m_X9_demand t v9 c8) (fun (c13 : gm) => gok ((if ((a2 >>> (a1 &&& 31)) &&& 1) = 0 then some (0, c13) else gb (m_X6_weightOf 3 a1 c13) (fun (r18 : Int32) => gb (m_X4_shareBound n 23 3 a2 a3 c13) (fun (r22 : Int32) => some ((if r22 < r18 then r22 else r18), c13))))))) (fun K10 => gj (fun (_ : Unit) => K10 0) (fun K23 => (if a3 < 0 then K23 () else (if 999 < a3 then K23 () else K10 1)))))))
abbrev rmX9_share : Room := { frames := 8, cells := 0, slots := 0, locals := 132 }
abbrev rxX9_share : Room := { frames := 8, cells := 1, slots := 6, locals := 132 }
set_option maxHeartbeats 4000000 in
set_option maxRecDepth 100000 in
theorem c_X9_share (l : Launch) (sa : gSa) (D : va_G) (ad : Nat → Nat) (cy : Nat → ClassId) (N sz : Nat) (hN : 55 ≤ N) (hI : gI ad N) (c d0 : gm) {n : Nat} {t : Nat} {a1 : Int32} {a2 : Int32} {a3 : Int32} {rZ : Int32} {cZ : gm} (h : m_X9_share n t a1 a2 a3 c = some (.inl (rZ, cZ))) : Met l yX9_share wsX9_share rmX9_share (va_Pc [.ref (ad t), .int a1, .int a2, .int a3] (gP sa D ad cy N sz c d0)) (va_Qi (fun (z : Int32) (_ : Unit) => z = rZ) (fun _ U => gE D ad cy N cZ d0 U) (gA ad N sz)) 0 0 (gA ad N sz) := by
  refine Met.ofW (cc := cX9_share) (maxL := 4) (ret := (some .int)) (by decide) rfl ?_
  intro p e s m args below meth cod s₁ B hml hv
  obtain ⟨rfl, hsz, hP, hK, hZ⟩ := hv
  have hx := B.exec
  have hb := B.bytes
  have hr := B.returns
  have hts := atoms_spec (ws := wsX9_share) B.pre
  have hown : s.vm.findClass RX9 = some m.cls := findClass_of_methodNamed B.named
  have hlocks := B.notSynchronized
  subst hsz
  have hl := lv_entry ([.ref (ad t), .int a1, .int a2, .int a3]) (n := 4) (Nat.le_of_ble_eq_true rfl)
  rw [lg_entry_eq]
  generalize (lg_sl ([.ref (ad t), .int a1, .int a2, .int a3]) ++ List.replicate (4 - (lg_sl ([.ref (ad t), .int a1, .int a2, .int a3])).length) Slot.unset).toArray = ls at hl ⊢
  have hl : lv_has ls 4 [(0, .ref (ad t)), (1, .int a1), (2, .int a2), (3, .int a3)] := hl
  have in9 : ∀ w ∈ wsX90, w ∈ wsX9_share := by decide +kernel
  generalize hargs : ([.ref (ad t), .int a1, .int a2, .int a3] : List Value).toArray = args at *
  generalize hAe : gA ad N s.heap.size = A
  have F : gF sa D ad cy N A p s m args cod cX9_share 4 wsX9_share RX9 := ⟨hx, hb, hml, hown, hts, hK, hI, by rw [← hAe]; exact gA_ad, by rw [← hAe]; exact gA_sz, by rw [← hAe]; exact hZ⟩
  have G : gW D ad cy N A s.heap c d0 s.heap [] := ⟨hP, va_S.rf⟩
  generalize hQ : MQ below (va_Qi (fun (z : Int32) (_ : Unit) => z = rZ) (fun _ U => gE D ad cy N cZ d0 U) A) args s 0 0 A = Q
  suffices hgen : ∀ (H : Heap) (locs : List Loc), gW D ad cy N A s.heap c d0 H locs → W p l e rmX9_share s m args below meth cod H locs 0 0 Q (F0 m 0 ls []) from hgen _ _ G
  clear G
  intro H locs G
  unfold m_X9_share at h
  refine lv_aload_n hx hb dX9_share_0 rfl (lv_at hl 0 rfl) ?_
  refine lv_iload_n hx hb dX9_share_1 rfl (lv_at hl 1 rfl) ?_
  obtain ⟨hk1, h⟩ := gc_s h
  have ht2 : t < N := Nat.lt_of_lt_of_le (gck_lt9 hk1) hN
  obtain ⟨c5, hc3, h⟩ := gbx_l h
  refine gx_callv F G (va_runV (As := [.int a1]) (rest := []) (gx_fix F) (c_X9_demandThing l sa D ad cy N H.size hN hI c d0 hc3) (cwV 1 hts gX9_share_X9_demandThing rfl rfl rfl (by decide +kernel) ⟨by decide, by decide⟩) (gx_rec F G ht2 (gwe_9 hk1) rfl) rfl rfl hl.1 rfl (lv_room (Nat.le_of_ble_eq_true rfl)) dX9_share_2 ⟨Nat.zero_le _, Nat.zero_le _⟩) (fun H locs G => ?_)
  refine lv_aload_n hx hb dX9_share_5 rfl (lv_at hl 0 rfl) ?_
  refine lv_iload_n hx hb dX9_share_6 rfl (lv_at hl 2 rfl) ?_
  obtain ⟨c8, hc6, h⟩ := gbx_l h
  refine gx_callv F G (va_runV (As := [.int a2]) (rest := []) (gx_fix F) (c_X9_demandBits l sa D ad cy N H.size hN hI c5 d0 hc6) (cwV 1 hts gX9_share_X9_demandBits rfl rfl rfl (by decide +kernel) ⟨by decide, by decide⟩) (gx_rec F G ht2 (gwe_9 hk1) rfl) rfl rfl hl.1 rfl (lv_room (Nat.le_of_ble_eq_true rfl)) dX9_share_7 ⟨Nat.zero_le _, Nat.zero_le _⟩) (fun H locs G => ?_)
  refine lv_aload_n hx hb dX9_share_10 rfl (lv_at hl 0 rfl) ?_
  refine lv_iload_n hx hb dX9_share_11 rfl (lv_at hl 3 rfl) ?_
  obtain ⟨K10, eK10, h⟩ := gj_s h
  have JK10 : ∀ (v9 : Int32) (H : Heap) (locs : List Loc) (ls : Array Slot), K10 v9 = some (.inl (rZ, cZ)) → gW D ad cy N A s.heap c8 d0 H locs → lv_has ls 4 [(0, .ref (ad t)), (1, .int a1), (2, .int a2), (3, .int a3)] → W p l e rmX9_share s m args below meth cod H locs 0 0 Q (F0 m 27 ls [.int v9, .ref (ad t)]) := by
    intro v9 H locs ls h G hl
    rw [eK10] at h
    obtain ⟨c13, hc11, h⟩ := gbx_l h
    refine gx_callv F G (va_runV (As := [.int v9]) (rest := []) (gx_fix F) (c_X9_demand l sa D ad cy N H.size hN hI c8 d0 hc11) (cwV 1 hts gX9_share_X9_demand rfl rfl rfl (by decide +kernel) ⟨by decide, by decide⟩) (gx_rec F G ht2 (gwe_9 hk1) rfl) rfl rfl hl.1 rfl (lv_room (Nat.le_of_ble_eq_true rfl)) dX9_share_27 ⟨Nat.zero_le _, Nat.zero_le _⟩) (fun H locs G => ?_)
    replace h := gok_s h
    refine lv_iload_n hx hb dX9_share_30 rfl (lv_at hl 2 rfl) ?_
    refine lv_iload_n hx hb dX9_share_31 rfl (lv_at hl 1 rfl) ?_
    refine lv_ishr hx hb dX9_share_32 ?_
    refine lv_iconst (v := 1) hx hb dX9_share_33 (by decide) ?_
    refine lv_iand hx hb dX9_share_34 ?_
    refine lv_if_ne (tgt := 40) hx hb dX9_share_35 (by decide) (fun q14 => ?_) (fun q14 => ?_)
    · replace h := gf_s q14 h
      refine lv_aload_n hx hb dX9_share_40 rfl (lv_at hl 0 rfl) ?_
      refine fg_9_now F G hk1 ht2 in9 (by decide +kernel) dX9_share_41 ?_
      have hk15 : gck 3 = 6 := rfl
      have ht16 : 3 < N := Nat.lt_of_lt_of_le (by decide) hN
      refine lv_iload_n hx hb dX9_share_44 rfl (lv_at hl 1 rfl) ?_
      obtain ⟨r18, hc17, h⟩ := gb_s h
      refine gx_calli F G (va_runV (As := [.int a1]) (rest := []) (gx_fix F) (c_X6_weightOf l sa D ad cy N H.size hN hI c13 d0 hc17) (cwV 1 hts gX9_share_X6_weightOf rfl rfl rfl (by decide +kernel) ⟨by decide, by decide⟩) (gx_rec F G ht16 (gwe_6 hk15) rfl) rfl rfl hl.1 rfl (lv_room (Nat.le_of_ble_eq_true rfl)) dX9_share_45 ⟨Nat.zero_le _, Nat.zero_le _⟩) (fun H locs G => ?_)
      refine lv_aload_n hx hb dX9_share_48 rfl (lv_at hl 0 rfl) ?_
      refine fg_9_pans F G hk1 ht2 in9 (by decide +kernel) dX9_share_49 ?_
      have hk19 : gck 23 = 4 := rfl
      have ht20 : 23 < N := Nat.lt_of_lt_of_le (by decide) hN
      refine lv_aload_n hx hb dX9_share_52 rfl (lv_at hl 0 rfl) ?_
      refine fg_9_now F G hk1 ht2 in9 (by decide +kernel) dX9_share_53 ?_
      refine lv_iload_n hx hb dX9_share_56 rfl (lv_at hl 2 rfl) ?_
      refine lv_iload_n hx hb dX9_share_57 rfl (lv_at hl 3 rfl) ?_
      obtain ⟨r22, hc21, h⟩ := gb_s h
      refine gx_calli F G (va_runV (As := [.ref (ad 3), .int a2, .int a3]) (rest := [.int r18]) (gx_fix F) (c_X4_shareBound l sa D ad cy N H.size hN hI c13 d0 hc21) (cwV 3 hts gX9_share_X4_shareBound rfl rfl rfl (by decide +kernel) ⟨by decide, by decide⟩) (gx_rec F G ht20 (gwe_4 hk19) rfl) rfl rfl hl.1 rfl (lv_room (Nat.le_of_ble_eq_true rfl)) dX9_share_58 ⟨Nat.zero_le _, Nat.zero_le _⟩) (fun H locs G => ?_)
      refine va_mmin hx hb (hml.trans hl.1.symm) hown (hts (.methodLink RX9 298 Lib.Math.min.name) (by decide +kernel)) (hts (.static Lib.Math.min.name) (by decide +kernel)) (hts (.initialized "java/lang/Math") (by decide +kernel)) (hts (.code Lib.Math.min.name Lib.Math.min.code 2 (some .int)) (by decide +kernel)) (Nat.le_of_ble_eq_true rfl) (Nat.le_of_ble_eq_true rfl) (Nat.zero_le _) (Nat.zero_le _) dX9_share_61 ?_
      cases h
      rw [← hQ]
      exact gx_iret F G hr hlocks dX9_share_64
    · replace h := gt_s q14 h
      refine lv_iconst (v := 0) hx hb dX9_share_38 (by decide) ?_
      cases h
      rw [← hQ]
      exact gx_iret F G hr hlocks dX9_share_39
  obtain ⟨K23, eK23, h⟩ := gj_s h
  have JK23 : ∀ (H : Heap) (locs : List Loc) (ls : Array Slot), K23 () = some (.inl (rZ, cZ)) → gW D ad cy N A s.heap c8 d0 H locs → lv_has ls 4 [(0, .ref (ad t)), (1, .int a1), (2, .int a2), (3, .int a3)] → W p l e rmX9_share s m args below meth cod H locs 0 0 Q (F0 m 26 ls [.ref (ad t)]) := by
    intro  H locs ls h G hl
    rw [eK23] at h
    refine lv_iconst (v := 0) hx hb dX9_share_26 (by decide) ?_
    exact JK10 _ _ _ _ h G hl
  refine lv_if_lt (tgt := 26) hx hb dX9_share_12 (by decide) (fun q24 => ?_) (fun q24 => ?_)
  · replace h := gt_s q24 h
    exact JK23  _ _ _ h G hl
  · replace h := gf_s q24 h
    refine lv_iload_n hx hb dX9_share_15 rfl (lv_at hl 3 rfl) ?_
    refine lv_sipush (v := 999) hx hb dX9_share_16 (by decide) ?_
    refine lv_icmp_gt (tgt := 26) hx hb dX9_share_19 (by decide) (fun q25 => ?_) (fun q25 => ?_)
    · replace h := gt_s q25 h
      exact JK23  _ _ _ h G hl
    · replace h := gf_s q25 h
      refine lv_iconst (v := 1) hx hb dX9_share_22 (by decide) ?_
      refine lv_goto (tgt := 27) hx hb dX9_share_23 (by decide) ?_
      exact JK10 _ _ _ _ h G hl
set_option maxHeartbeats 4000000 in
set_option maxRecDepth 100000 in
theorem cx_X9_share (l : Launch) (hlt : l.stackTraces = false) (sa : gSa) (D : va_G) (ad : Nat → Nat) (cy : Nat → ClassId) (N sz : Nat) (hN : 55 ≤ N) (hI : gI ad N) (c d0 : gm) {n : Nat} {t : Nat} {a1 : Int32} {a2 : Int32} {a3 : Int32} {kZ : Nat} {cZ : gm} (h : m_X9_share n t a1 a2 a3 c = some (.inr (kZ, cZ))) : vx_Met l yX9_share wsX9_share rxX9_share (va_Pc [.ref (ad t), .int a1, .int a2, .int a3] (gP sa D ad cy N sz c d0)) (va_Qi (fun (_ : Int32) (_ : Unit) => False) (fun _ _ => True) (gA ad N sz)) (vx_X (fun (_ : Unit) => True) (fun E _ U => E = gxn kZ ∧ gE D ad cy N cZ d0 U) (gA ad N sz)) 1 6 (gA ad N sz) := by
  refine vx_ofW (cc := cX9_share) (maxL := 4) (ret := (some .int)) (by decide) rfl ?_
  intro p e s m args below meth cod s₁ B hml htab hv
  obtain ⟨rfl, hsz, hP, hK, hZ⟩ := hv
  have hx := B.exec
  have hb := B.bytes
  have hr := B.returns
  have hts := atoms_spec (ws := wsX9_share) B.pre
  have hown : s.vm.findClass RX9 = some m.cls := findClass_of_methodNamed B.named
  have hlocks := B.notSynchronized
  subst hsz
  have hl := lv_entry ([.ref (ad t), .int a1, .int a2, .int a3]) (n := 4) (Nat.le_of_ble_eq_true rfl)
  rw [lg_entry_eq]
  generalize (lg_sl ([.ref (ad t), .int a1, .int a2, .int a3]) ++ List.replicate (4 - (lg_sl ([.ref (ad t), .int a1, .int a2, .int a3])).length) Slot.unset).toArray = ls at hl ⊢
  have hl : lv_has ls 4 [(0, .ref (ad t)), (1, .int a1), (2, .int a2), (3, .int a3)] := hl
  generalize hargs : ([.ref (ad t), .int a1, .int a2, .int a3] : List Value).toArray = args at *
  generalize hAe : gA ad N s.heap.size = A
  have F : gF sa D ad cy N A p s m args cod cX9_share 4 wsX9_share RX9 := ⟨hx, hb, hml, hown, hts, hK, hI, by rw [← hAe]; exact gA_ad, by rw [← hAe]; exact gA_sz, by rw [← hAe]; exact hZ⟩
  have G : gW D ad cy N A s.heap c d0 s.heap [] := ⟨hP, va_S.rf⟩
  generalize hQ : vx_MQ below (va_Qi (fun (_ : Int32) (_ : Unit) => False) (fun _ _ => True) A) (vx_X (fun (_ : Unit) => True) (fun E _ U => E = gxn kZ ∧ gE D ad cy N cZ d0 U) A) args s 1 6 A = Q
  suffices hgen : ∀ (H : Heap) (locs : List Loc), gW D ad cy N A s.heap c d0 H locs → W p l e rxX9_share s m args below meth cod H locs 0 0 Q (F0 m 0 ls []) from hgen _ _ G
  clear G
  intro H locs G
  unfold m_X9_share at h
  refine lv_aload_n hx hb dX9_share_0 rfl (lv_at hl 0 rfl) ?_
  refine lv_iload_n hx hb dX9_share_1 rfl (lv_at hl 1 rfl) ?_
  obtain ⟨hk1, h⟩ := gc_s h
  have ht2 : t < N := Nat.lt_of_lt_of_le (gck_lt9 hk1) hN
  rcases gbx_x h with hc3 | ⟨c5, hc3, h⟩
  · exact hQ ▸ gx_xv F G htab hlocks (vx_runV (As := [.int a1]) (rest := []) (gx_fix F) (cx_X9_demandThing l hlt sa D ad cy N H.size hN hI c d0 hc3) (cwV 1 hts gX9_share_X9_demandThing rfl rfl rfl (by decide +kernel) ⟨by decide, by decide⟩) (gx_rec F G ht2 (gwe_9 hk1) rfl) rfl rfl hl.1 rfl (lv_room (Nat.le_of_ble_eq_true rfl)) dX9_share_2 ⟨by decide, by decide⟩)
  · skip
    refine gx_callv F G (va_runV (As := [.int a1]) (rest := []) (gx_fix F) (c_X9_demandThing l sa D ad cy N H.size hN hI c d0 hc3) (cwV 1 hts gX9_share_X9_demandThing rfl rfl rfl (by decide +kernel) ⟨by decide, by decide⟩) (gx_rec F G ht2 (gwe_9 hk1) rfl) rfl rfl hl.1 rfl (lv_room (Nat.le_of_ble_eq_true rfl)) dX9_share_2 ⟨Nat.zero_le _, Nat.zero_le _⟩) (fun H locs G => ?_)
    refine lv_aload_n hx hb dX9_share_5 rfl (lv_at hl 0 rfl) ?_
    refine lv_iload_n hx hb dX9_share_6 rfl (lv_at hl 2 rfl) ?_
    rcases gbx_x h with hc6 | ⟨c8, hc6, h⟩
    · exact hQ ▸ gx_xv F G htab hlocks (vx_runV (As := [.int a2]) (rest := []) (gx_fix F) (cx_X9_demandBits l hlt sa D ad cy N H.size hN hI c5 d0 hc6) (cwV 1 hts gX9_share_X9_demandBits rfl rfl rfl (by decide +kernel) ⟨by decide, by decide⟩) (gx_rec F G ht2 (gwe_9 hk1) rfl) rfl rfl hl.1 rfl (lv_room (Nat.le_of_ble_eq_true rfl)) dX9_share_7 ⟨by decide, by decide⟩)
    · skip
      refine gx_callv F G (va_runV (As := [.int a2]) (rest := []) (gx_fix F) (c_X9_demandBits l sa D ad cy N H.size hN hI c5 d0 hc6) (cwV 1 hts gX9_share_X9_demandBits rfl rfl rfl (by decide +kernel) ⟨by decide, by decide⟩) (gx_rec F G ht2 (gwe_9 hk1) rfl) rfl rfl hl.1 rfl (lv_room (Nat.le_of_ble_eq_true rfl)) dX9_share_7 ⟨Nat.zero_le _, Nat.zero_le _⟩) (fun H locs G => ?_)
      refine lv_aload_n hx hb dX9_share_10 rfl (lv_at hl 0 rfl) ?_
      refine lv_iload_n hx hb dX9_share_11 rfl (lv_at hl 3 rfl) ?_
      obtain ⟨K10, eK10, h⟩ := gj_s h
      have JK10 : ∀ (v9 : Int32) (H : Heap) (locs : List Loc) (ls : Array Slot), K10 v9 = some (.inr (kZ, cZ)) → gW D ad cy N A s.heap c8 d0 H locs → lv_has ls 4 [(0, .ref (ad t)), (1, .int a1), (2, .int a2), (3, .int a3)] → W p l e rxX9_share s m args below meth cod H locs 0 0 Q (F0 m 27 ls [.int v9, .ref (ad t)]) := by
        intro v9 H locs ls h G hl
        rw [eK10] at h
        rcases gbx_x h with hc11 | ⟨c13, hc11, h⟩
        · exact hQ ▸ gx_xv F G htab hlocks (vx_runV (As := [.int v9]) (rest := []) (gx_fix F) (cx_X9_demand l hlt sa D ad cy N H.size hN hI c8 d0 hc11) (cwV 1 hts gX9_share_X9_demand rfl rfl rfl (by decide +kernel) ⟨by decide, by decide⟩) (gx_rec F G ht2 (gwe_9 hk1) rfl) rfl rfl hl.1 rfl (lv_room (Nat.le_of_ble_eq_true rfl)) dX9_share_27 ⟨by decide, by decide⟩)
        · skip
          refine gx_callv F G (va_runV (As := [.int v9]) (rest := []) (gx_fix F) (c_X9_demand l sa D ad cy N H.size hN hI c8 d0 hc11) (cwV 1 hts gX9_share_X9_demand rfl rfl rfl (by decide +kernel) ⟨by decide, by decide⟩) (gx_rec F G ht2 (gwe_9 hk1) rfl) rfl rfl hl.1 rfl (lv_room (Nat.le_of_ble_eq_true rfl)) dX9_share_27 ⟨Nat.zero_le _, Nat.zero_le _⟩) (fun H locs G => ?_)
          exact (gok_no h).elim
      obtain ⟨K14, eK14, h⟩ := gj_s h
      have JK14 : ∀ (H : Heap) (locs : List Loc) (ls : Array Slot), K14 () = some (.inr (kZ, cZ)) → gW D ad cy N A s.heap c8 d0 H locs → lv_has ls 4 [(0, .ref (ad t)), (1, .int a1), (2, .int a2), (3, .int a3)] → W p l e rxX9_share s m args below meth cod H locs 0 0 Q (F0 m 26 ls [.ref (ad t)]) := by
        intro  H locs ls h G hl
        rw [eK14] at h
        refine lv_iconst (v := 0) hx hb dX9_share_26 (by decide) ?_
        exact JK10 _ _ _ _ h G hl
      refine lv_if_lt (tgt := 26) hx hb dX9_share_12 (by decide) (fun q15 => ?_) (fun q15 => ?_)
      · replace h := gt_s q15 h
        exact JK14  _ _ _ h G hl
      · replace h := gf_s q15 h
        refine lv_iload_n hx hb dX9_share_15 rfl (lv_at hl 3 rfl) ?_
        refine lv_sipush (v := 999) hx hb dX9_share_16 (by decide) ?_
        refine lv_icmp_gt (tgt := 26) hx hb dX9_share_19 (by decide) (fun q16 => ?_) (fun q16 => ?_)
        · replace h := gt_s q16 h
          exact JK14  _ _ _ h G hl
        · replace h := gf_s q16 h
          refine lv_iconst (v := 1) hx hb dX9_share_22 (by decide) ?_
          refine lv_goto (tgt := 27) hx hb dX9_share_23 (by decide) ?_
          exact JK10 _ _ _ _ h G hl
def m_X9_heaviest (n : Nat) (t : Nat) (a1 : Int32) (c : gm) : Option ((Int32 × gm) ⊕ (Nat × gm)) :=
  gj (fun (v1 : Int32) => gc (gck t = 9) (gbx (m_X9_demand t v1 c) (fun (c7 : gm) => gok (gb (m_X6_heaviestThing n 3 c7) (fun (r11 : Int32) => (if a1 = 0 then some (r11, c7) else (if r11 = (-1) then some (r11, c7) else gb (m_X6_weightOf 3 r11 c7) (fun (r15 : Int32) => some (r15, c7))))))))) (fun K2 => gj (fun (_ : Unit) => K2 1) (fun K16 => (if a1 = 0 then K16 () else (if a1 = 1 then K16 () else K2 0))))
abbrev rmX9_heaviest : Room := { frames := 7, cells := 0, slots := 0, locals := 111 }
abbrev rxX9_heaviest : Room := { frames := 7, cells := 1, slots := 6, locals := 111 }
set_option maxHeartbeats 4000000 in
set_option maxRecDepth 100000 in
theorem c_X9_heaviest (l : Launch) (sa : gSa) (D : va_G) (ad : Nat → Nat) (cy : Nat → ClassId) (N sz : Nat) (hN : 55 ≤ N) (hI : gI ad N) (c d0 : gm) {n : Nat} {t : Nat} {a1 : Int32} {rZ : Int32} {cZ : gm} (h : m_X9_heaviest n t a1 c = some (.inl (rZ, cZ))) : Met l yX9_heaviest wsX9_heaviest rmX9_heaviest (va_Pc [.ref (ad t), .int a1] (gP sa D ad cy N sz c d0)) (va_Qi (fun (z : Int32) (_ : Unit) => z = rZ) (fun _ U => gE D ad cy N cZ d0 U) (gA ad N sz)) 0 0 (gA ad N sz) := by
  refine Met.ofW (cc := cX9_heaviest) (maxL := 3) (ret := (some .int)) (by decide) rfl ?_
  intro p e s m args below meth cod s₁ B hml hv
  obtain ⟨rfl, hsz, hP, hK, hZ⟩ := hv
  have hx := B.exec
  have hb := B.bytes
  have hr := B.returns
  have hts := atoms_spec (ws := wsX9_heaviest) B.pre
  have hown : s.vm.findClass RX9 = some m.cls := findClass_of_methodNamed B.named
  have hlocks := B.notSynchronized
  subst hsz
  have hl := lv_entry ([.ref (ad t), .int a1]) (n := 3) (Nat.le_of_ble_eq_true rfl)
  rw [lg_entry_eq]
  generalize (lg_sl ([.ref (ad t), .int a1]) ++ List.replicate (3 - (lg_sl ([.ref (ad t), .int a1])).length) Slot.unset).toArray = ls at hl ⊢
  have hl : lv_has ls 3 [(0, .ref (ad t)), (1, .int a1)] := hl
  have in9 : ∀ w ∈ wsX90, w ∈ wsX9_heaviest := by decide +kernel
  generalize hargs : ([.ref (ad t), .int a1] : List Value).toArray = args at *
  generalize hAe : gA ad N s.heap.size = A
  have F : gF sa D ad cy N A p s m args cod cX9_heaviest 3 wsX9_heaviest RX9 := ⟨hx, hb, hml, hown, hts, hK, hI, by rw [← hAe]; exact gA_ad, by rw [← hAe]; exact gA_sz, by rw [← hAe]; exact hZ⟩
  have G : gW D ad cy N A s.heap c d0 s.heap [] := ⟨hP, va_S.rf⟩
  generalize hQ : MQ below (va_Qi (fun (z : Int32) (_ : Unit) => z = rZ) (fun _ U => gE D ad cy N cZ d0 U) A) args s 0 0 A = Q
  suffices hgen : ∀ (H : Heap) (locs : List Loc), gW D ad cy N A s.heap c d0 H locs → W p l e rmX9_heaviest s m args below meth cod H locs 0 0 Q (F0 m 0 ls []) from hgen _ _ G
  clear G
  intro H locs G
  unfold m_X9_heaviest at h
  refine lv_aload_n hx hb dX9_heaviest_0 rfl (lv_at hl 0 rfl) ?_
  refine lv_iload_n hx hb dX9_heaviest_1 rfl (lv_at hl 1 rfl) ?_
  obtain ⟨K2, eK2, h⟩ := gj_s h
  have JK2 : ∀ (v1 : Int32) (H : Heap) (locs : List Loc) (ls : Array Slot), K2 v1 = some (.inl (rZ, cZ)) → gW D ad cy N A s.heap c d0 H locs → lv_has ls 3 [(0, .ref (ad t)), (1, .int a1)] → W p l e rmX9_heaviest s m args below meth cod H locs 0 0 Q (F0 m 15 ls [.int v1, .ref (ad t)]) := by
    intro v1 H locs ls h G hl
    rw [eK2] at h
    obtain ⟨hk3, h⟩ := gc_s h
    have ht4 : t < N := Nat.lt_of_lt_of_le (gck_lt9 hk3) hN
    obtain ⟨c7, hc5, h⟩ := gbx_l h
    refine gx_callv F G (va_runV (As := [.int v1]) (rest := []) (gx_fix F) (c_X9_demand l sa D ad cy N H.size hN hI c d0 hc5) (cwV 1 hts gX9_heaviest_X9_demand rfl rfl rfl (by decide +kernel) ⟨by decide, by decide⟩) (gx_rec F G ht4 (gwe_9 hk3) rfl) rfl rfl hl.1 rfl (lv_room (Nat.le_of_ble_eq_true rfl)) dX9_heaviest_15 ⟨Nat.zero_le _, Nat.zero_le _⟩) (fun H locs G => ?_)
    replace h := gok_s h
    refine lv_aload_n hx hb dX9_heaviest_18 rfl (lv_at hl 0 rfl) ?_
    refine fg_9_now F G hk3 ht4 in9 (by decide +kernel) dX9_heaviest_19 ?_
    have hk8 : gck 3 = 6 := rfl
    have ht9 : 3 < N := Nat.lt_of_lt_of_le (by decide) hN
    obtain ⟨r11, hc10, h⟩ := gb_s h
    refine gx_calli F G (va_runV (As := []) (rest := []) (gx_fix F) (c_X6_heaviestThing l sa D ad cy N H.size hN hI c7 d0 hc10) (cwV 0 hts gX9_heaviest_X6_heaviestThing rfl rfl rfl (by decide +kernel) ⟨by decide, by decide⟩) (gx_rec F G ht9 (gwe_6 hk8) rfl) rfl rfl hl.1 rfl (lv_room (Nat.le_of_ble_eq_true rfl)) dX9_heaviest_22 ⟨Nat.zero_le _, Nat.zero_le _⟩) (fun H locs G => ?_)
    refine lv_istore_n (lv' := [(2, .int r11), (0, .ref (ad t)), (1, .int a1)]) hx hb dX9_heaviest_25 rfl hl (by decide) rfl (fun ls hl => ?_)
    refine lv_iload_n hx hb dX9_heaviest_26 rfl (lv_at hl 2 rfl) ?_
    refine lv_if_eq (tgt := 35) hx hb dX9_heaviest_27 (by decide) (fun q12 => ?_) (fun q12 => ?_)
    · replace h := gt_s q12 h
      refine lv_iload_n hx hb dX9_heaviest_35 rfl (lv_at hl 0 rfl) ?_
      refine lv_goto (tgt := 47) hx hb dX9_heaviest_36 (by decide) ?_
      cases h
      rw [← hQ]
      exact gx_iret F G hr hlocks dX9_heaviest_47
    · replace h := gf_s q12 h
      refine lv_iload_n hx hb dX9_heaviest_30 rfl (lv_at hl 0 rfl) ?_
      refine lv_iconst (v := (-1)) hx hb dX9_heaviest_31 (by decide) ?_
      refine lv_icmp_ne (tgt := 39) hx hb dX9_heaviest_32 (by decide) (fun q13 => ?_) (fun q13 => ?_)
      · replace h := gf_s q13 h
        refine lv_aload_n hx hb dX9_heaviest_39 rfl (lv_at hl 1 rfl) ?_
        refine fg_9_now F G hk3 ht4 in9 (by decide +kernel) dX9_heaviest_40 ?_
        refine lv_iload_n hx hb dX9_heaviest_43 rfl (lv_at hl 0 rfl) ?_
        obtain ⟨r15, hc14, h⟩ := gb_s h
        refine gx_calli F G (va_runV (As := [.int r11]) (rest := []) (gx_fix F) (c_X6_weightOf l sa D ad cy N H.size hN hI c7 d0 hc14) (cwV 1 hts gX9_heaviest_X6_weightOf rfl rfl rfl (by decide +kernel) ⟨by decide, by decide⟩) (gx_rec F G ht9 (gwe_6 hk8) rfl) rfl rfl hl.1 rfl (lv_room (Nat.le_of_ble_eq_true rfl)) dX9_heaviest_44 ⟨Nat.zero_le _, Nat.zero_le _⟩) (fun H locs G => ?_)
        cases h
        rw [← hQ]
        exact gx_iret F G hr hlocks dX9_heaviest_47
      · replace h := gt_s q13 h
        refine lv_iload_n hx hb dX9_heaviest_35 rfl (lv_at hl 0 rfl) ?_
        refine lv_goto (tgt := 47) hx hb dX9_heaviest_36 (by decide) ?_
        cases h
        rw [← hQ]
        exact gx_iret F G hr hlocks dX9_heaviest_47
  obtain ⟨K16, eK16, h⟩ := gj_s h
  have JK16 : ∀ (H : Heap) (locs : List Loc) (ls : Array Slot), K16 () = some (.inl (rZ, cZ)) → gW D ad cy N A s.heap c d0 H locs → lv_has ls 3 [(0, .ref (ad t)), (1, .int a1)] → W p l e rmX9_heaviest s m args below meth cod H locs 0 0 Q (F0 m 10 ls [.ref (ad t)]) := by
    intro  H locs ls h G hl
    rw [eK16] at h
    refine lv_iconst (v := 1) hx hb dX9_heaviest_10 (by decide) ?_
    refine lv_goto (tgt := 15) hx hb dX9_heaviest_11 (by decide) ?_
    exact JK2 _ _ _ _ h G hl
  refine lv_if_eq (tgt := 10) hx hb dX9_heaviest_2 (by decide) (fun q17 => ?_) (fun q17 => ?_)
  · replace h := gt_s q17 h
    exact JK16  _ _ _ h G hl
  · replace h := gf_s q17 h
    refine lv_iload_n hx hb dX9_heaviest_5 rfl (lv_at hl 1 rfl) ?_
    refine lv_iconst (v := 1) hx hb dX9_heaviest_6 (by decide) ?_
    refine lv_icmp_ne (tgt := 14) hx hb dX9_heaviest_7 (by decide) (fun q18 => ?_) (fun q18 => ?_)
    · replace h := gf_s q18 h
      refine lv_iconst (v := 0) hx hb dX9_heaviest_14 (by decide) ?_
      exact JK2 _ _ _ _ h G hl
    · replace h := gt_s q18 h
      exact JK16  _ _ _ h G hl
set_option maxHeartbeats 4000000 in
set_option maxRecDepth 100000 in
theorem cx_X9_heaviest (l : Launch) (hlt : l.stackTraces = false) (sa : gSa) (D : va_G) (ad : Nat → Nat) (cy : Nat → ClassId) (N sz : Nat) (hN : 55 ≤ N) (hI : gI ad N) (c d0 : gm) {n : Nat} {t : Nat} {a1 : Int32} {kZ : Nat} {cZ : gm} (h : m_X9_heaviest n t a1 c = some (.inr (kZ, cZ))) : vx_Met l yX9_heaviest wsX9_heaviest rxX9_heaviest (va_Pc [.ref (ad t), .int a1] (gP sa D ad cy N sz c d0)) (va_Qi (fun (_ : Int32) (_ : Unit) => False) (fun _ _ => True) (gA ad N sz)) (vx_X (fun (_ : Unit) => True) (fun E _ U => E = gxn kZ ∧ gE D ad cy N cZ d0 U) (gA ad N sz)) 1 6 (gA ad N sz) := by
  refine vx_ofW (cc := cX9_heaviest) (maxL := 3) (ret := (some .int)) (by decide) rfl ?_
  intro p e s m args below meth cod s₁ B hml htab hv
  obtain ⟨rfl, hsz, hP, hK, hZ⟩ := hv
  have hx := B.exec
  have hb := B.bytes
  have hr := B.returns
  have hts := atoms_spec (ws := wsX9_heaviest) B.pre
  have hown : s.vm.findClass RX9 = some m.cls := findClass_of_methodNamed B.named
  have hlocks := B.notSynchronized
  subst hsz
  have hl := lv_entry ([.ref (ad t), .int a1]) (n := 3) (Nat.le_of_ble_eq_true rfl)
  rw [lg_entry_eq]
  generalize (lg_sl ([.ref (ad t), .int a1]) ++ List.replicate (3 - (lg_sl ([.ref (ad t), .int a1])).length) Slot.unset).toArray = ls at hl ⊢
  have hl : lv_has ls 3 [(0, .ref (ad t)), (1, .int a1)] := hl
  generalize hargs : ([.ref (ad t), .int a1] : List Value).toArray = args at *
  generalize hAe : gA ad N s.heap.size = A
  have F : gF sa D ad cy N A p s m args cod cX9_heaviest 3 wsX9_heaviest RX9 := ⟨hx, hb, hml, hown, hts, hK, hI, by rw [← hAe]; exact gA_ad, by rw [← hAe]; exact gA_sz, by rw [← hAe]; exact hZ⟩
  have G : gW D ad cy N A s.heap c d0 s.heap [] := ⟨hP, va_S.rf⟩
  generalize hQ : vx_MQ below (va_Qi (fun (_ : Int32) (_ : Unit) => False) (fun _ _ => True) A) (vx_X (fun (_ : Unit) => True) (fun E _ U => E = gxn kZ ∧ gE D ad cy N cZ d0 U) A) args s 1 6 A = Q
  suffices hgen : ∀ (H : Heap) (locs : List Loc), gW D ad cy N A s.heap c d0 H locs → W p l e rxX9_heaviest s m args below meth cod H locs 0 0 Q (F0 m 0 ls []) from hgen _ _ G
  clear G
  intro H locs G
  unfold m_X9_heaviest at h
  refine lv_aload_n hx hb dX9_heaviest_0 rfl (lv_at hl 0 rfl) ?_
  refine lv_iload_n hx hb dX9_heaviest_1 rfl (lv_at hl 1 rfl) ?_
  obtain ⟨K2, eK2, h⟩ := gj_s h
  have JK2 : ∀ (v1 : Int32) (H : Heap) (locs : List Loc) (ls : Array Slot), K2 v1 = some (.inr (kZ, cZ)) → gW D ad cy N A s.heap c d0 H locs → lv_has ls 3 [(0, .ref (ad t)), (1, .int a1)] → W p l e rxX9_heaviest s m args below meth cod H locs 0 0 Q (F0 m 15 ls [.int v1, .ref (ad t)]) := by
    intro v1 H locs ls h G hl
    rw [eK2] at h
    obtain ⟨hk3, h⟩ := gc_s h
    have ht4 : t < N := Nat.lt_of_lt_of_le (gck_lt9 hk3) hN
    rcases gbx_x h with hc5 | ⟨c7, hc5, h⟩
    · exact hQ ▸ gx_xv F G htab hlocks (vx_runV (As := [.int v1]) (rest := []) (gx_fix F) (cx_X9_demand l hlt sa D ad cy N H.size hN hI c d0 hc5) (cwV 1 hts gX9_heaviest_X9_demand rfl rfl rfl (by decide +kernel) ⟨by decide, by decide⟩) (gx_rec F G ht4 (gwe_9 hk3) rfl) rfl rfl hl.1 rfl (lv_room (Nat.le_of_ble_eq_true rfl)) dX9_heaviest_15 ⟨by decide, by decide⟩)
    · skip
      refine gx_callv F G (va_runV (As := [.int v1]) (rest := []) (gx_fix F) (c_X9_demand l sa D ad cy N H.size hN hI c d0 hc5) (cwV 1 hts gX9_heaviest_X9_demand rfl rfl rfl (by decide +kernel) ⟨by decide, by decide⟩) (gx_rec F G ht4 (gwe_9 hk3) rfl) rfl rfl hl.1 rfl (lv_room (Nat.le_of_ble_eq_true rfl)) dX9_heaviest_15 ⟨Nat.zero_le _, Nat.zero_le _⟩) (fun H locs G => ?_)
      exact (gok_no h).elim
  obtain ⟨K8, eK8, h⟩ := gj_s h
  have JK8 : ∀ (H : Heap) (locs : List Loc) (ls : Array Slot), K8 () = some (.inr (kZ, cZ)) → gW D ad cy N A s.heap c d0 H locs → lv_has ls 3 [(0, .ref (ad t)), (1, .int a1)] → W p l e rxX9_heaviest s m args below meth cod H locs 0 0 Q (F0 m 10 ls [.ref (ad t)]) := by
    intro  H locs ls h G hl
    rw [eK8] at h
    refine lv_iconst (v := 1) hx hb dX9_heaviest_10 (by decide) ?_
    refine lv_goto (tgt := 15) hx hb dX9_heaviest_11 (by decide) ?_
    exact JK2 _ _ _ _ h G hl
  refine lv_if_eq (tgt := 10) hx hb dX9_heaviest_2 (by decide) (fun q9 => ?_) (fun q9 => ?_)
  · replace h := gt_s q9 h
    exact JK8  _ _ _ h G hl
  · replace h := gf_s q9 h
    refine lv_iload_n hx hb dX9_heaviest_5 rfl (lv_at hl 1 rfl) ?_
    refine lv_iconst (v := 1) hx hb dX9_heaviest_6 (by decide) ?_
    refine lv_icmp_ne (tgt := 14) hx hb dX9_heaviest_7 (by decide) (fun q10 => ?_) (fun q10 => ?_)
    · replace h := gf_s q10 h
      refine lv_iconst (v := 0) hx hb dX9_heaviest_14 (by decide) ?_
      exact JK2 _ _ _ _ h G hl
    · replace h := gt_s q10 h
      exact JK8  _ _ _ h G hl
def m_X9_above_L9 (n : Nat) (a1 : Int32) (y7 : Int32) (y8 : Int32) (c9 : gm) : Option ((Int32 × Int32 × gm) ⊕ (Int32 × gm)) :=
  (if (c9.1 3 5) ≤ y8 then some (.inr (y7, c9)) else gj (gu2 (fun (v15 : Int32) (c16 : gm) => gv (y8 + 1) (fun (x18 : Int32) => some (.inl (v15, x18, c16))))) (fun K17 => (if y8 = a1 then K17 (y7, c9) else gb (m_X1_seekChain n 21 3 y8 a1 c9) (fun (c24 : gm) => gb (m_X1_isOneOrMore 21 c24) (fun (r26 : Int32) => gj (fun (v27 : Int32) => gv (y7 ||| v27) (fun (x29 : Int32) => K17 (x29, c24))) (fun K28 => (if r26 = 0 then K28 0 else K28 ((1 : Int32) <<< (y8 &&& 31)))))))))
def m_X9_above (n : Nat) (t : Nat) (a1 : Int32) (c : gm) : Option ((Int32 × gm) ⊕ (Nat × gm)) :=
  gc (gck t = 9) (gbx (m_X9_demandThing t a1 c) (fun (c5 : gm) => gok (gb (gloop (gu2 (fun (y7 : Int32) => gu2 (fun (y8 : Int32) (c9 : gm) => m_X9_above_L9 n a1 y7 y8 c9))) n (0, 0, c5)) (gu2 (fun (z10 : Int32) (c11 : gm) => some (z10, c11))))))
abbrev rmX9_above : Room := { frames := 16, cells := 0, slots := 0, locals := 544 }
abbrev rxX9_above : Room := { frames := 16, cells := 1, slots := 6, locals := 544 }
set_option maxHeartbeats 4000000 in
set_option maxRecDepth 100000 in
theorem c_X9_above (l : Launch) (sa : gSa) (D : va_G) (ad : Nat → Nat) (cy : Nat → ClassId) (N sz : Nat) (hN : 55 ≤ N) (hI : gI ad N) (c d0 : gm) {n : Nat} {t : Nat} {a1 : Int32} {rZ : Int32} {cZ : gm} (h : m_X9_above n t a1 c = some (.inl (rZ, cZ))) : Met l yX9_above wsX9_above rmX9_above (va_Pc [.ref (ad t), .int a1] (gP sa D ad cy N sz c d0)) (va_Qi (fun (z : Int32) (_ : Unit) => z = rZ) (fun _ U => gE D ad cy N cZ d0 U) (gA ad N sz)) 0 0 (gA ad N sz) := by
  refine Met.ofW (cc := cX9_above) (maxL := 4) (ret := (some .int)) (by decide) rfl ?_
  intro p e s m args below meth cod s₁ B hml hv
  obtain ⟨rfl, hsz, hP, hK, hZ⟩ := hv
  have hx := B.exec
  have hb := B.bytes
  have hr := B.returns
  have hts := atoms_spec (ws := wsX9_above) B.pre
  have hown : s.vm.findClass RX9 = some m.cls := findClass_of_methodNamed B.named
  have hlocks := B.notSynchronized
  subst hsz
  have hl := lv_entry ([.ref (ad t), .int a1]) (n := 4) (Nat.le_of_ble_eq_true rfl)
  rw [lg_entry_eq]
  generalize (lg_sl ([.ref (ad t), .int a1]) ++ List.replicate (4 - (lg_sl ([.ref (ad t), .int a1])).length) Slot.unset).toArray = ls at hl ⊢
  have hl : lv_has ls 4 [(0, .ref (ad t)), (1, .int a1)] := hl
  have in6 : ∀ w ∈ wsX60, w ∈ wsX9_above := by decide +kernel
  have in9 : ∀ w ∈ wsX90, w ∈ wsX9_above := by decide +kernel
  generalize hargs : ([.ref (ad t), .int a1] : List Value).toArray = args at *
  generalize hAe : gA ad N s.heap.size = A
  have F : gF sa D ad cy N A p s m args cod cX9_above 4 wsX9_above RX9 := ⟨hx, hb, hml, hown, hts, hK, hI, by rw [← hAe]; exact gA_ad, by rw [← hAe]; exact gA_sz, by rw [← hAe]; exact hZ⟩
  have G : gW D ad cy N A s.heap c d0 s.heap [] := ⟨hP, va_S.rf⟩
  generalize hQ : MQ below (va_Qi (fun (z : Int32) (_ : Unit) => z = rZ) (fun _ U => gE D ad cy N cZ d0 U) A) args s 0 0 A = Q
  suffices hgen : ∀ (H : Heap) (locs : List Loc), gW D ad cy N A s.heap c d0 H locs → W p l e rmX9_above s m args below meth cod H locs 0 0 Q (F0 m 0 ls []) from hgen _ _ G
  clear G
  intro H locs G
  unfold m_X9_above at h
  refine lv_aload_n hx hb dX9_above_0 rfl (lv_at hl 0 rfl) ?_
  refine lv_iload_n hx hb dX9_above_1 rfl (lv_at hl 1 rfl) ?_
  obtain ⟨hk1, h⟩ := gc_s h
  have ht2 : t < N := Nat.lt_of_lt_of_le (gck_lt9 hk1) hN
  obtain ⟨c5, hc3, h⟩ := gbx_l h
  refine gx_callv F G (va_runV (As := [.int a1]) (rest := []) (gx_fix F) (c_X9_demandThing l sa D ad cy N H.size hN hI c d0 hc3) (cwV 1 hts gX9_above_X9_demandThing rfl rfl rfl (by decide +kernel) ⟨by decide, by decide⟩) (gx_rec F G ht2 (gwe_9 hk1) rfl) rfl rfl hl.1 rfl (lv_room (Nat.le_of_ble_eq_true rfl)) dX9_above_2 ⟨Nat.zero_le _, Nat.zero_le _⟩) (fun H locs G => ?_)
  replace h := gok_s h
  refine lv_iconst (v := 0) hx hb dX9_above_5 (by decide) ?_
  refine lv_istore_n (lv' := [(2, .int 0), (0, .ref (ad t)), (1, .int a1)]) hx hb dX9_above_6 rfl hl (by decide) rfl (fun ls hl => ?_)
  refine lv_iconst (v := 0) hx hb dX9_above_7 (by decide) ?_
  refine lv_istore_n (lv' := [(3, .int 0), (2, .int 0), (0, .ref (ad t)), (1, .int a1)]) hx hb dX9_above_8 rfl hl (by decide) rfl (fun ls hl => ?_)
  obtain ⟨b6, hb6, hK6⟩ := gb_s h
  have E6 : ∀ (z10 : Int32) (c11 : gm) (H : Heap) (locs : List Loc) (ls : Array Slot), ((z10, c11) : Int32 × gm) = b6 → gW D ad cy N A s.heap c11 d0 H locs → lv_has ls 4 [(2, .int z10)] → W p l e rmX9_above s m args below meth cod H locs 0 0 Q (F0 m 64 ls []) := by
    intro z10 c11 H locs ls hq6 G hl
    subst hq6
    replace hK6 := hK6
    replace hK6 := gu2_s hK6
    have h := hK6
    refine lv_iload_n hx hb dX9_above_64 rfl (lv_at hl 0 rfl) ?_
    cases h
    rw [← hQ]
    exact gx_iret F G hr hlocks dX9_above_65
  have L6 : ∀ (n9 : Nat) (y7 : Int32) (y8 : Int32) (c9 : gm) (H : Heap) (locs : List Loc) (ls : Array Slot), gloop (gu2 (fun (y7 : Int32) => gu2 (fun (y8 : Int32) (c9 : gm) => m_X9_above_L9 n a1 y7 y8 c9))) n9 (y7, y8, c9) = some b6 → gW D ad cy N A s.heap c9 d0 H locs → lv_has ls 4 [(0, .ref (ad t)), (1, .int a1), (2, .int y7), (3, .int y8)] → W p l e rmX9_above s m args below meth cod H locs 0 0 Q (F0 m 9 ls []) := by
    intro n9
    induction n9 with
    | zero => intro y7 y8 c9 H locs ls h; exact (gloop_0 h).elim
    | succ n9 ih =>
      intro y7 y8 c9 H locs ls h G hl
      have ih6 := ih
      obtain ⟨o6, h, hn6⟩ := gloop_s h
      replace h := gu2_s h
      replace h := gu2_s h
      unfold m_X9_above_L9 at h
      refine lv_iload_n hx hb dX9_above_9 rfl (lv_at hl 3 rfl) ?_
      refine lv_aload_n hx hb dX9_above_10 rfl (lv_at hl 0 rfl) ?_
      refine fg_9_now F G hk1 ht2 in9 (by decide +kernel) dX9_above_11 ?_
      have hk12 : gck 3 = 6 := rfl
      have ht13 : 3 < N := Nat.lt_of_lt_of_le (by decide) hN
      refine fg_6_things F G hk12 ht13 in6 (by decide +kernel) dX9_above_14 ?_
      refine lv_icmp_ge (tgt := 64) hx hb dX9_above_17 (by decide) (fun q14 => ?_) (fun q14 => ?_)
      · replace h := gt_s q14 h
        cases h
        exact E6 _ _ _ _ _ (gnx_r hn6) G (lv_sub hl [2] rfl)
      · replace h := gf_s q14 h
        refine lv_iload_n hx hb dX9_above_20 rfl (lv_at hl 3 rfl) ?_
        refine lv_iload_n hx hb dX9_above_21 rfl (lv_at hl 1 rfl) ?_
        obtain ⟨K17, eK17, h⟩ := gj_s h
        have JK17 : ∀ (v15 : Int32) (c16 : gm) (H : Heap) (locs : List Loc) (ls : Array Slot), K17 (v15, c16) = some o6 → gW D ad cy N A s.heap c16 d0 H locs → lv_has ls 4 [(0, .ref (ad t)), (1, .int a1), (2, .int v15), (3, .int y8)] → W p l e rmX9_above s m args below meth cod H locs 0 0 Q (F0 m 58 ls []) := by
          intro v15 c16 H locs ls h G hl
          rw [eK17] at h
          replace h := gu2_s h
          obtain ⟨x18, ex18⟩ : ∃ z : Int32, z = y8 + 1 := ⟨_, rfl⟩
          replace h := gv_s h x18 ex18
          refine lv_iinc (v := x18) (lv' := [(3, .int x18), (0, .ref (ad t)), (1, .int a1), (2, .int v15)]) hx hb dX9_above_58 hl (k := 3) rfl (by rw [ex18]; rfl) (by decide) rfl (fun ls hl => ?_)
          refine lv_goto (tgt := 9) hx hb dX9_above_61 (by decide) ?_
          cases h
          exact ih6 _ _ _ _ _ _ hn6 G (lv_sub hl [1, 2, 3, 0] rfl)
        refine lv_icmp_eq (tgt := 58) hx hb dX9_above_22 (by decide) (fun q19 => ?_) (fun q19 => ?_)
        · replace h := gt_s q19 h
          exact JK17 _ _ _ _ _ h G hl
        · replace h := gf_s q19 h
          refine lv_aload_n hx hb dX9_above_25 rfl (lv_at hl 0 rfl) ?_
          refine fg_9_chains F G hk1 ht2 in9 (by decide +kernel) dX9_above_26 ?_
          have hk20 : gck 21 = 1 := rfl
          have ht21 : 21 < N := Nat.lt_of_lt_of_le (by decide) hN
          refine lv_aload_n hx hb dX9_above_29 rfl (lv_at hl 0 rfl) ?_
          refine fg_9_now F G hk1 ht2 in9 (by decide +kernel) dX9_above_30 ?_
          refine lv_iload_n hx hb dX9_above_33 rfl (lv_at hl 3 rfl) ?_
          refine lv_iload_n hx hb dX9_above_34 rfl (lv_at hl 1 rfl) ?_
          obtain ⟨c24, hc22, h⟩ := gb_s h
          refine gx_callv F G (va_runV (As := [.ref (ad 3), .int y8, .int a1]) (rest := []) (gx_fix F) (c_X1_seekChain l sa D ad cy N H.size hN hI c9 d0 hc22) (cwV 3 hts gX9_above_X1_seekChain rfl rfl rfl (by decide +kernel) ⟨by decide, by decide⟩) (gx_rec F G ht21 (gwe_1 hk20) rfl) rfl rfl hl.1 rfl (lv_room (Nat.le_of_ble_eq_true rfl)) dX9_above_35 ⟨Nat.zero_le _, Nat.zero_le _⟩) (fun H locs G => ?_)
          refine lv_iload_n hx hb dX9_above_38 rfl (lv_at hl 2 rfl) ?_
          refine lv_aload_n hx hb dX9_above_39 rfl (lv_at hl 0 rfl) ?_
          refine fg_9_chains F G hk1 ht2 in9 (by decide +kernel) dX9_above_40 ?_
          obtain ⟨r26, hc25, h⟩ := gb_s h
          refine gx_calli F G (va_runV (As := []) (rest := [.int y7]) (gx_fix F) (c_X1_isOneOrMore l sa D ad cy N H.size hN hI c24 d0 hc25) (cwV 0 hts gX9_above_X1_isOneOrMore rfl rfl rfl (by decide +kernel) ⟨by decide, by decide⟩) (gx_rec F G ht21 (gwe_1 hk20) rfl) rfl rfl hl.1 rfl (lv_room (Nat.le_of_ble_eq_true rfl)) dX9_above_43 ⟨Nat.zero_le _, Nat.zero_le _⟩) (fun H locs G => ?_)
          obtain ⟨K28, eK28, h⟩ := gj_s h
          have JK28 : ∀ (v27 : Int32) (H : Heap) (locs : List Loc) (ls : Array Slot), K28 v27 = some o6 → gW D ad cy N A s.heap c24 d0 H locs → lv_has ls 4 [(0, .ref (ad t)), (1, .int a1), (3, .int y8)] → W p l e rmX9_above s m args below meth cod H locs 0 0 Q (F0 m 56 ls [.int v27, .int y7]) := by
            intro v27 H locs ls h G hl
            rw [eK28] at h
            refine lv_ior hx hb dX9_above_56 ?_
            refine lv_topi (fun x29 ex29 => ?_)
            replace h := gv_s h x29 ex29
            refine lv_istore_n (lv' := [(2, .int x29), (0, .ref (ad t)), (1, .int a1), (3, .int y8)]) hx hb dX9_above_57 rfl hl (by decide) rfl (fun ls hl => ?_)
            exact JK17 _ _ _ _ _ h G (lv_sub hl [1, 2, 0, 3] rfl)
          refine lv_if_eq (tgt := 55) hx hb dX9_above_46 (by decide) (fun q30 => ?_) (fun q30 => ?_)
          · replace h := gt_s q30 h
            refine lv_iconst (v := 0) hx hb dX9_above_55 (by decide) ?_
            exact JK28 _ _ _ _ h G (lv_sub hl [0, 1, 3] rfl)
          · replace h := gf_s q30 h
            refine lv_iconst (v := 1) hx hb dX9_above_49 (by decide) ?_
            refine lv_iload_n hx hb dX9_above_50 rfl (lv_at hl 3 rfl) ?_
            refine lv_ishl hx hb dX9_above_51 ?_
            refine lv_goto (tgt := 56) hx hb dX9_above_52 (by decide) ?_
            exact JK28 _ _ _ _ h G (lv_sub hl [0, 1, 3] rfl)
  exact L6 n _ _ _ _ _ _ hb6 G (lv_sub hl [2, 3, 1, 0] rfl)
set_option maxHeartbeats 4000000 in
set_option maxRecDepth 100000 in
theorem cx_X9_above (l : Launch) (hlt : l.stackTraces = false) (sa : gSa) (D : va_G) (ad : Nat → Nat) (cy : Nat → ClassId) (N sz : Nat) (hN : 55 ≤ N) (hI : gI ad N) (c d0 : gm) {n : Nat} {t : Nat} {a1 : Int32} {kZ : Nat} {cZ : gm} (h : m_X9_above n t a1 c = some (.inr (kZ, cZ))) : vx_Met l yX9_above wsX9_above rxX9_above (va_Pc [.ref (ad t), .int a1] (gP sa D ad cy N sz c d0)) (va_Qi (fun (_ : Int32) (_ : Unit) => False) (fun _ _ => True) (gA ad N sz)) (vx_X (fun (_ : Unit) => True) (fun E _ U => E = gxn kZ ∧ gE D ad cy N cZ d0 U) (gA ad N sz)) 1 6 (gA ad N sz) := by
  refine vx_ofW (cc := cX9_above) (maxL := 4) (ret := (some .int)) (by decide) rfl ?_
  intro p e s m args below meth cod s₁ B hml htab hv
  obtain ⟨rfl, hsz, hP, hK, hZ⟩ := hv
  have hx := B.exec
  have hb := B.bytes
  have hr := B.returns
  have hts := atoms_spec (ws := wsX9_above) B.pre
  have hown : s.vm.findClass RX9 = some m.cls := findClass_of_methodNamed B.named
  have hlocks := B.notSynchronized
  subst hsz
  have hl := lv_entry ([.ref (ad t), .int a1]) (n := 4) (Nat.le_of_ble_eq_true rfl)
  rw [lg_entry_eq]
  generalize (lg_sl ([.ref (ad t), .int a1]) ++ List.replicate (4 - (lg_sl ([.ref (ad t), .int a1])).length) Slot.unset).toArray = ls at hl ⊢
  have hl : lv_has ls 4 [(0, .ref (ad t)), (1, .int a1)] := hl
  generalize hargs : ([.ref (ad t), .int a1] : List Value).toArray = args at *
  generalize hAe : gA ad N s.heap.size = A
  have F : gF sa D ad cy N A p s m args cod cX9_above 4 wsX9_above RX9 := ⟨hx, hb, hml, hown, hts, hK, hI, by rw [← hAe]; exact gA_ad, by rw [← hAe]; exact gA_sz, by rw [← hAe]; exact hZ⟩
  have G : gW D ad cy N A s.heap c d0 s.heap [] := ⟨hP, va_S.rf⟩
  generalize hQ : vx_MQ below (va_Qi (fun (_ : Int32) (_ : Unit) => False) (fun _ _ => True) A) (vx_X (fun (_ : Unit) => True) (fun E _ U => E = gxn kZ ∧ gE D ad cy N cZ d0 U) A) args s 1 6 A = Q
  suffices hgen : ∀ (H : Heap) (locs : List Loc), gW D ad cy N A s.heap c d0 H locs → W p l e rxX9_above s m args below meth cod H locs 0 0 Q (F0 m 0 ls []) from hgen _ _ G
  clear G
  intro H locs G
  unfold m_X9_above at h
  refine lv_aload_n hx hb dX9_above_0 rfl (lv_at hl 0 rfl) ?_
  refine lv_iload_n hx hb dX9_above_1 rfl (lv_at hl 1 rfl) ?_
  obtain ⟨hk1, h⟩ := gc_s h
  have ht2 : t < N := Nat.lt_of_lt_of_le (gck_lt9 hk1) hN
  rcases gbx_x h with hc3 | ⟨c5, hc3, h⟩
  · exact hQ ▸ gx_xv F G htab hlocks (vx_runV (As := [.int a1]) (rest := []) (gx_fix F) (cx_X9_demandThing l hlt sa D ad cy N H.size hN hI c d0 hc3) (cwV 1 hts gX9_above_X9_demandThing rfl rfl rfl (by decide +kernel) ⟨by decide, by decide⟩) (gx_rec F G ht2 (gwe_9 hk1) rfl) rfl rfl hl.1 rfl (lv_room (Nat.le_of_ble_eq_true rfl)) dX9_above_2 ⟨by decide, by decide⟩)
  · skip
    refine gx_callv F G (va_runV (As := [.int a1]) (rest := []) (gx_fix F) (c_X9_demandThing l sa D ad cy N H.size hN hI c d0 hc3) (cwV 1 hts gX9_above_X9_demandThing rfl rfl rfl (by decide +kernel) ⟨by decide, by decide⟩) (gx_rec F G ht2 (gwe_9 hk1) rfl) rfl rfl hl.1 rfl (lv_room (Nat.le_of_ble_eq_true rfl)) dX9_above_2 ⟨Nat.zero_le _, Nat.zero_le _⟩) (fun H locs G => ?_)
    exact (gok_no h).elim
def m_X9_alike_L43 (c7 : gm) (y11 : Int32) (y20 : Int32) (y21 : Int32) (y22 : Int32) : Option ((Int32 × Int32 × Int32) ⊕ (Int32 × Int32)) :=
  (if (c7.1 3 5) ≤ y22 then some (.inr (y20, y21)) else gb (m_X6_weightOf 3 y11 c7) (fun (r28 : Int32) => gb (m_X6_weightOf 3 y22 c7) (fun (r30 : Int32) => gj (gu2 (fun (v31 : Int32) (v32 : Int32) => gv (y22 + 1) (fun (x34 : Int32) => some (.inl (v31, v32, x34))))) (fun K33 => (if r28 = r30 then gj (fun (v36 : Int32) => gv (y20 + 1) (fun (x38 : Int32) => K33 (x38, v36))) (fun K37 => (if y20 = 0 then K37 ((10 * y11) + y22) else K37 y21)) else K33 (y20, y21))))))
def m_X9_alike_L25 (n : Nat) (c7 : gm) (y9 : Int32) (y10 : Int32) (y11 : Int32) : Option ((Int32 × Int32 × Int32) ⊕ (Int32 × Int32)) :=
  (if (c7.1 3 5) ≤ y11 then some (.inr (y9, y10)) else gv (y11 + 1) (fun (x18 : Int32) => gb (gloop (gu2 (fun (y20 : Int32) => gu2 (fun (y21 : Int32) (y22 : Int32) => m_X9_alike_L43 c7 y11 y20 y21 y22))) n (y9, y10, x18)) (gu2 (fun (z23 : Int32) (z24 : Int32) => gv (y11 + 1) (fun (x25 : Int32) => some (.inl (z23, z24, x25)))))))
def m_X9_alike (n : Nat) (t : Nat) (a1 : Int32) (c : gm) : Option ((Int32 × gm) ⊕ (Nat × gm)) :=
  gj (fun (v1 : Int32) => gc (gck t = 9) (gbx (m_X9_demand t v1 c) (fun (c7 : gm) => gok (gb (gloop (gu2 (fun (y9 : Int32) => gu2 (fun (y10 : Int32) (y11 : Int32) => m_X9_alike_L25 n c7 y9 y10 y11))) n (0, (-1), 0)) (gu2 (fun (z12 : Int32) (z13 : Int32) => (if a1 = 0 then some (z12, c7) else some (z13, c7)))))))) (fun K2 => gj (fun (_ : Unit) => K2 1) (fun K40 => (if a1 = 0 then K40 () else (if a1 = 1 then K40 () else K2 0))))
abbrev rmX9_alike : Room := { frames := 7, cells := 0, slots := 0, locals := 111 }
abbrev rxX9_alike : Room := { frames := 7, cells := 1, slots := 6, locals := 111 }
set_option maxHeartbeats 4000000 in
set_option maxRecDepth 100000 in
theorem c_X9_alike (l : Launch) (sa : gSa) (D : va_G) (ad : Nat → Nat) (cy : Nat → ClassId) (N sz : Nat) (hN : 55 ≤ N) (hI : gI ad N) (c d0 : gm) {n : Nat} {t : Nat} {a1 : Int32} {rZ : Int32} {cZ : gm} (h : m_X9_alike n t a1 c = some (.inl (rZ, cZ))) : Met l yX9_alike wsX9_alike rmX9_alike (va_Pc [.ref (ad t), .int a1] (gP sa D ad cy N sz c d0)) (va_Qi (fun (z : Int32) (_ : Unit) => z = rZ) (fun _ U => gE D ad cy N cZ d0 U) (gA ad N sz)) 0 0 (gA ad N sz) := by
  refine Met.ofW (cc := cX9_alike) (maxL := 6) (ret := (some .int)) (by decide) rfl ?_
  intro p e s m args below meth cod s₁ B hml hv
  obtain ⟨rfl, hsz, hP, hK, hZ⟩ := hv
  have hx := B.exec
  have hb := B.bytes
  have hr := B.returns
  have hts := atoms_spec (ws := wsX9_alike) B.pre
  have hown : s.vm.findClass RX9 = some m.cls := findClass_of_methodNamed B.named
  have hlocks := B.notSynchronized
  subst hsz
  have hl := lv_entry ([.ref (ad t), .int a1]) (n := 6) (Nat.le_of_ble_eq_true rfl)
  rw [lg_entry_eq]
  generalize (lg_sl ([.ref (ad t), .int a1]) ++ List.replicate (6 - (lg_sl ([.ref (ad t), .int a1])).length) Slot.unset).toArray = ls at hl ⊢
  have hl : lv_has ls 6 [(0, .ref (ad t)), (1, .int a1)] := hl
  have in6 : ∀ w ∈ wsX60, w ∈ wsX9_alike := by decide +kernel
  have in9 : ∀ w ∈ wsX90, w ∈ wsX9_alike := by decide +kernel
  generalize hargs : ([.ref (ad t), .int a1] : List Value).toArray = args at *
  generalize hAe : gA ad N s.heap.size = A
  have F : gF sa D ad cy N A p s m args cod cX9_alike 6 wsX9_alike RX9 := ⟨hx, hb, hml, hown, hts, hK, hI, by rw [← hAe]; exact gA_ad, by rw [← hAe]; exact gA_sz, by rw [← hAe]; exact hZ⟩
  have G : gW D ad cy N A s.heap c d0 s.heap [] := ⟨hP, va_S.rf⟩
  generalize hQ : MQ below (va_Qi (fun (z : Int32) (_ : Unit) => z = rZ) (fun _ U => gE D ad cy N cZ d0 U) A) args s 0 0 A = Q
  suffices hgen : ∀ (H : Heap) (locs : List Loc), gW D ad cy N A s.heap c d0 H locs → W p l e rmX9_alike s m args below meth cod H locs 0 0 Q (F0 m 0 ls []) from hgen _ _ G
  clear G
  intro H locs G
  unfold m_X9_alike at h
  refine lv_aload_n hx hb dX9_alike_0 rfl (lv_at hl 0 rfl) ?_
  refine lv_iload_n hx hb dX9_alike_1 rfl (lv_at hl 1 rfl) ?_
  obtain ⟨K2, eK2, h⟩ := gj_s h
  have JK2 : ∀ (v1 : Int32) (H : Heap) (locs : List Loc) (ls : Array Slot), K2 v1 = some (.inl (rZ, cZ)) → gW D ad cy N A s.heap c d0 H locs → lv_has ls 6 [(0, .ref (ad t)), (1, .int a1)] → W p l e rmX9_alike s m args below meth cod H locs 0 0 Q (F0 m 15 ls [.int v1, .ref (ad t)]) := by
    intro v1 H locs ls h G hl
    rw [eK2] at h
    obtain ⟨hk3, h⟩ := gc_s h
    have ht4 : t < N := Nat.lt_of_lt_of_le (gck_lt9 hk3) hN
    obtain ⟨c7, hc5, h⟩ := gbx_l h
    refine gx_callv F G (va_runV (As := [.int v1]) (rest := []) (gx_fix F) (c_X9_demand l sa D ad cy N H.size hN hI c d0 hc5) (cwV 1 hts gX9_alike_X9_demand rfl rfl rfl (by decide +kernel) ⟨by decide, by decide⟩) (gx_rec F G ht4 (gwe_9 hk3) rfl) rfl rfl hl.1 rfl (lv_room (Nat.le_of_ble_eq_true rfl)) dX9_alike_15 ⟨Nat.zero_le _, Nat.zero_le _⟩) (fun H locs G => ?_)
    replace h := gok_s h
    refine lv_iconst (v := 0) hx hb dX9_alike_18 (by decide) ?_
    refine lv_istore_n (lv' := [(2, .int 0), (0, .ref (ad t)), (1, .int a1)]) hx hb dX9_alike_19 rfl hl (by decide) rfl (fun ls hl => ?_)
    refine lv_iconst (v := (-1)) hx hb dX9_alike_20 (by decide) ?_
    refine lv_istore_n (lv' := [(3, .int (-1)), (2, .int 0), (0, .ref (ad t)), (1, .int a1)]) hx hb dX9_alike_21 rfl hl (by decide) rfl (fun ls hl => ?_)
    refine lv_iconst (v := 0) hx hb dX9_alike_22 (by decide) ?_
    refine lv_istore (lv' := [(4, .int 0), (3, .int (-1)), (2, .int 0), (0, .ref (ad t)), (1, .int a1)]) hx hb dX9_alike_23 hl (by decide) rfl (fun ls hl => ?_)
    obtain ⟨b8, hb8, hK8⟩ := gb_s h
    have E8 : ∀ (z12 : Int32) (z13 : Int32) (H : Heap) (locs : List Loc) (ls : Array Slot), ((z12, z13) : Int32 × Int32) = b8 → gW D ad cy N A s.heap c7 d0 H locs → lv_has ls 6 [(1, .int a1), (2, .int z12), (3, .int z13)] → W p l e rmX9_alike s m args below meth cod H locs 0 0 Q (F0 m 108 ls []) := by
      intro z12 z13 H locs ls hq8 G hl
      subst hq8
      replace hK8 := hK8
      replace hK8 := gu2_s hK8
      have h := hK8
      refine lv_iload_n hx hb dX9_alike_108 rfl (lv_at hl 0 rfl) ?_
      refine lv_if_ne (tgt := 116) hx hb dX9_alike_109 (by decide) (fun q14 => ?_) (fun q14 => ?_)
      · replace h := gf_s q14 h
        refine lv_iload_n hx hb dX9_alike_116 rfl (lv_at hl 2 rfl) ?_
        cases h
        rw [← hQ]
        exact gx_iret F G hr hlocks dX9_alike_117
      · replace h := gt_s q14 h
        refine lv_iload_n hx hb dX9_alike_112 rfl (lv_at hl 1 rfl) ?_
        refine lv_goto (tgt := 117) hx hb dX9_alike_113 (by decide) ?_
        cases h
        rw [← hQ]
        exact gx_iret F G hr hlocks dX9_alike_117
    have L8 : ∀ (n9 : Nat) (y9 : Int32) (y10 : Int32) (y11 : Int32) (H : Heap) (locs : List Loc) (ls : Array Slot), gloop (gu2 (fun (y9 : Int32) => gu2 (fun (y10 : Int32) (y11 : Int32) => m_X9_alike_L25 n c7 y9 y10 y11))) n9 (y9, y10, y11) = some b8 → gW D ad cy N A s.heap c7 d0 H locs → lv_has ls 6 [(0, .ref (ad t)), (1, .int a1), (2, .int y9), (3, .int y10), (4, .int y11)] → W p l e rmX9_alike s m args below meth cod H locs 0 0 Q (F0 m 25 ls []) := by
      intro n9
      induction n9 with
      | zero => intro y9 y10 y11 H locs ls h; exact (gloop_0 h).elim
      | succ n9 ih =>
        intro y9 y10 y11 H locs ls h G hl
        have ih8 := ih
        obtain ⟨o8, h, hn8⟩ := gloop_s h
        replace h := gu2_s h
        replace h := gu2_s h
        unfold m_X9_alike_L25 at h
        refine lv_iload hx hb dX9_alike_25 (lv_at hl 4 rfl) ?_
        refine lv_aload_n hx hb dX9_alike_27 rfl (lv_at hl 0 rfl) ?_
        refine fg_9_now F G hk3 ht4 in9 (by decide +kernel) dX9_alike_28 ?_
        have hk15 : gck 3 = 6 := rfl
        have ht16 : 3 < N := Nat.lt_of_lt_of_le (by decide) hN
        refine fg_6_things F G hk15 ht16 in6 (by decide +kernel) dX9_alike_31 ?_
        refine lv_icmp_ge (tgt := 108) hx hb dX9_alike_34 (by decide) (fun q17 => ?_) (fun q17 => ?_)
        · replace h := gt_s q17 h
          cases h
          exact E8 _ _ _ _ _ (gnx_r hn8) G (lv_sub hl [1, 2, 3] rfl)
        · replace h := gf_s q17 h
          refine lv_iload hx hb dX9_alike_37 (lv_at hl 4 rfl) ?_
          refine lv_iconst (v := 1) hx hb dX9_alike_39 (by decide) ?_
          refine lv_iadd hx hb dX9_alike_40 ?_
          refine lv_topi (fun x18 ex18 => ?_)
          replace h := gv_s h x18 ex18
          refine lv_istore (lv' := [(5, .int x18), (0, .ref (ad t)), (1, .int a1), (2, .int y9), (3, .int y10), (4, .int y11)]) hx hb dX9_alike_41 hl (by decide) rfl (fun ls hl => ?_)
          obtain ⟨b19, hb19, hK19⟩ := gb_s h
          have E19 : ∀ (z23 : Int32) (z24 : Int32) (H : Heap) (locs : List Loc) (ls : Array Slot), ((z23, z24) : Int32 × Int32) = b19 → gW D ad cy N A s.heap c7 d0 H locs → lv_has ls 6 [(0, .ref (ad t)), (1, .int a1), (2, .int z23), (3, .int z24), (4, .int y11)] → W p l e rmX9_alike s m args below meth cod H locs 0 0 Q (F0 m 102 ls []) := by
            intro z23 z24 H locs ls hq19 G hl
            subst hq19
            replace hK19 := hK19
            replace hK19 := gu2_s hK19
            have h := hK19
            obtain ⟨x25, ex25⟩ : ∃ z : Int32, z = y11 + 1 := ⟨_, rfl⟩
            replace h := gv_s h x25 ex25
            refine lv_iinc (v := x25) (lv' := [(4, .int x25), (0, .ref (ad t)), (1, .int a1), (2, .int z23), (3, .int z24)]) hx hb dX9_alike_102 hl (k := 4) rfl (by rw [ex25]; rfl) (by decide) rfl (fun ls hl => ?_)
            refine lv_goto (tgt := 25) hx hb dX9_alike_105 (by decide) ?_
            cases h
            exact ih8 _ _ _ _ _ _ hn8 G (lv_sub hl [1, 2, 3, 4, 0] rfl)
          have L19 : ∀ (n9 : Nat) (y20 : Int32) (y21 : Int32) (y22 : Int32) (H : Heap) (locs : List Loc) (ls : Array Slot), gloop (gu2 (fun (y20 : Int32) => gu2 (fun (y21 : Int32) (y22 : Int32) => m_X9_alike_L43 c7 y11 y20 y21 y22))) n9 (y20, y21, y22) = some b19 → gW D ad cy N A s.heap c7 d0 H locs → lv_has ls 6 [(0, .ref (ad t)), (1, .int a1), (2, .int y20), (3, .int y21), (4, .int y11), (5, .int y22)] → W p l e rmX9_alike s m args below meth cod H locs 0 0 Q (F0 m 43 ls []) := by
            intro n9
            induction n9 with
            | zero => intro y20 y21 y22 H locs ls h; exact (gloop_0 h).elim
            | succ n9 ih =>
              intro y20 y21 y22 H locs ls h G hl
              have ih19 := ih
              obtain ⟨o19, h, hn19⟩ := gloop_s h
              replace h := gu2_s h
              replace h := gu2_s h
              unfold m_X9_alike_L43 at h
              refine lv_iload hx hb dX9_alike_43 (lv_at hl 5 rfl) ?_
              refine lv_aload_n hx hb dX9_alike_45 rfl (lv_at hl 0 rfl) ?_
              refine fg_9_now F G hk3 ht4 in9 (by decide +kernel) dX9_alike_46 ?_
              refine fg_6_things F G hk15 ht16 in6 (by decide +kernel) dX9_alike_49 ?_
              refine lv_icmp_ge (tgt := 102) hx hb dX9_alike_52 (by decide) (fun q26 => ?_) (fun q26 => ?_)
              · replace h := gt_s q26 h
                cases h
                exact E19 _ _ _ _ _ (gnx_r hn19) G (lv_sub hl [0, 1, 2, 3, 4] rfl)
              · replace h := gf_s q26 h
                refine lv_aload_n hx hb dX9_alike_55 rfl (lv_at hl 0 rfl) ?_
                refine fg_9_now F G hk3 ht4 in9 (by decide +kernel) dX9_alike_56 ?_
                refine lv_iload hx hb dX9_alike_59 (lv_at hl 4 rfl) ?_
                obtain ⟨r28, hc27, h⟩ := gb_s h
                refine gx_calli F G (va_runV (As := [.int y11]) (rest := []) (gx_fix F) (c_X6_weightOf l sa D ad cy N H.size hN hI c7 d0 hc27) (cwV 1 hts gX9_alike_X6_weightOf rfl rfl rfl (by decide +kernel) ⟨by decide, by decide⟩) (gx_rec F G ht16 (gwe_6 hk15) rfl) rfl rfl hl.1 rfl (lv_room (Nat.le_of_ble_eq_true rfl)) dX9_alike_61 ⟨Nat.zero_le _, Nat.zero_le _⟩) (fun H locs G => ?_)
                refine lv_aload_n hx hb dX9_alike_64 rfl (lv_at hl 0 rfl) ?_
                refine fg_9_now F G hk3 ht4 in9 (by decide +kernel) dX9_alike_65 ?_
                refine lv_iload hx hb dX9_alike_68 (lv_at hl 5 rfl) ?_
                obtain ⟨r30, hc29, h⟩ := gb_s h
                refine gx_calli F G (va_runV (As := [.int y22]) (rest := [.int r28]) (gx_fix F) (c_X6_weightOf l sa D ad cy N H.size hN hI c7 d0 hc29) (cwV 1 hts gX9_alike_X6_weightOf rfl rfl rfl (by decide +kernel) ⟨by decide, by decide⟩) (gx_rec F G ht16 (gwe_6 hk15) rfl) rfl rfl hl.1 rfl (lv_room (Nat.le_of_ble_eq_true rfl)) dX9_alike_70 ⟨Nat.zero_le _, Nat.zero_le _⟩) (fun H locs G => ?_)
                obtain ⟨K33, eK33, h⟩ := gj_s h
                have JK33 : ∀ (v31 : Int32) (v32 : Int32) (H : Heap) (locs : List Loc) (ls : Array Slot), K33 (v31, v32) = some o19 → gW D ad cy N A s.heap c7 d0 H locs → lv_has ls 6 [(0, .ref (ad t)), (1, .int a1), (2, .int v31), (3, .int v32), (4, .int y11), (5, .int y22)] → W p l e rmX9_alike s m args below meth cod H locs 0 0 Q (F0 m 96 ls []) := by
                  intro v31 v32 H locs ls h G hl
                  rw [eK33] at h
                  replace h := gu2_s h
                  obtain ⟨x34, ex34⟩ : ∃ z : Int32, z = y22 + 1 := ⟨_, rfl⟩
                  replace h := gv_s h x34 ex34
                  refine lv_iinc (v := x34) (lv' := [(5, .int x34), (0, .ref (ad t)), (1, .int a1), (2, .int v31), (3, .int v32), (4, .int y11)]) hx hb dX9_alike_96 hl (k := 5) rfl (by rw [ex34]; rfl) (by decide) rfl (fun ls hl => ?_)
                  refine lv_goto (tgt := 43) hx hb dX9_alike_99 (by decide) ?_
                  cases h
                  exact ih19 _ _ _ _ _ _ hn19 G (lv_sub hl [1, 2, 3, 4, 5, 0] rfl)
                refine lv_icmp_ne (tgt := 96) hx hb dX9_alike_73 (by decide) (fun q35 => ?_) (fun q35 => ?_)
                · replace h := gf_s q35 h
                  exact JK33 _ _ _ _ _ h G hl
                · replace h := gt_s q35 h
                  refine lv_iload_n hx hb dX9_alike_76 rfl (lv_at hl 2 rfl) ?_
                  obtain ⟨K37, eK37, h⟩ := gj_s h
                  have JK37 : ∀ (v36 : Int32) (H : Heap) (locs : List Loc) (ls : Array Slot), K37 v36 = some o19 → gW D ad cy N A s.heap c7 d0 H locs → lv_has ls 6 [(0, .ref (ad t)), (1, .int a1), (2, .int y20), (4, .int y11), (5, .int y22)] → W p l e rmX9_alike s m args below meth cod H locs 0 0 Q (F0 m 92 ls [.int v36]) := by
                    intro v36 H locs ls h G hl
                    rw [eK37] at h
                    refine lv_istore_n (lv' := [(3, .int v36), (0, .ref (ad t)), (1, .int a1), (2, .int y20), (4, .int y11), (5, .int y22)]) hx hb dX9_alike_92 rfl hl (by decide) rfl (fun ls hl => ?_)
                    obtain ⟨x38, ex38⟩ : ∃ z : Int32, z = y20 + 1 := ⟨_, rfl⟩
                    replace h := gv_s h x38 ex38
                    refine lv_iinc (v := x38) (lv' := [(2, .int x38), (3, .int v36), (0, .ref (ad t)), (1, .int a1), (4, .int y11), (5, .int y22)]) hx hb dX9_alike_93 hl (k := 3) rfl (by rw [ex38]; rfl) (by decide) rfl (fun ls hl => ?_)
                    exact JK33 _ _ _ _ _ h G (lv_sub hl [2, 3, 0, 1, 4, 5] rfl)
                  refine lv_if_ne (tgt := 91) hx hb dX9_alike_77 (by decide) (fun q39 => ?_) (fun q39 => ?_)
                  · replace h := gf_s q39 h
                    refine lv_iload_n hx hb dX9_alike_91 rfl (lv_at hl 3 rfl) ?_
                    exact JK37 _ _ _ _ h G (lv_sub hl [0, 1, 2, 4, 5] rfl)
                  · replace h := gt_s q39 h
                    refine lv_bipush (v := 10) hx hb dX9_alike_80 (by decide) ?_
                    refine lv_iload hx hb dX9_alike_82 (lv_at hl 4 rfl) ?_
                    refine lv_imul hx hb dX9_alike_84 ?_
                    refine lv_iload hx hb dX9_alike_85 (lv_at hl 5 rfl) ?_
                    refine lv_iadd hx hb dX9_alike_87 ?_
                    refine lv_goto (tgt := 92) hx hb dX9_alike_88 (by decide) ?_
                    exact JK37 _ _ _ _ h G (lv_sub hl [0, 1, 2, 4, 5] rfl)
          exact L19 n _ _ _ _ _ _ hb19 G (lv_sub hl [1, 2, 3, 4, 5, 0] rfl)
    exact L8 n _ _ _ _ _ _ hb8 G (lv_sub hl [3, 4, 2, 1, 0] rfl)
  obtain ⟨K40, eK40, h⟩ := gj_s h
  have JK40 : ∀ (H : Heap) (locs : List Loc) (ls : Array Slot), K40 () = some (.inl (rZ, cZ)) → gW D ad cy N A s.heap c d0 H locs → lv_has ls 6 [(0, .ref (ad t)), (1, .int a1)] → W p l e rmX9_alike s m args below meth cod H locs 0 0 Q (F0 m 10 ls [.ref (ad t)]) := by
    intro  H locs ls h G hl
    rw [eK40] at h
    refine lv_iconst (v := 1) hx hb dX9_alike_10 (by decide) ?_
    refine lv_goto (tgt := 15) hx hb dX9_alike_11 (by decide) ?_
    exact JK2 _ _ _ _ h G hl
  refine lv_if_eq (tgt := 10) hx hb dX9_alike_2 (by decide) (fun q41 => ?_) (fun q41 => ?_)
  · replace h := gt_s q41 h
    exact JK40  _ _ _ h G hl
  · replace h := gf_s q41 h
    refine lv_iload_n hx hb dX9_alike_5 rfl (lv_at hl 1 rfl) ?_
    refine lv_iconst (v := 1) hx hb dX9_alike_6 (by decide) ?_
    refine lv_icmp_ne (tgt := 14) hx hb dX9_alike_7 (by decide) (fun q42 => ?_) (fun q42 => ?_)
    · replace h := gf_s q42 h
      refine lv_iconst (v := 0) hx hb dX9_alike_14 (by decide) ?_
      exact JK2 _ _ _ _ h G hl
    · replace h := gt_s q42 h
      exact JK40  _ _ _ h G hl
set_option maxHeartbeats 4000000 in
set_option maxRecDepth 100000 in
theorem cx_X9_alike (l : Launch) (hlt : l.stackTraces = false) (sa : gSa) (D : va_G) (ad : Nat → Nat) (cy : Nat → ClassId) (N sz : Nat) (hN : 55 ≤ N) (hI : gI ad N) (c d0 : gm) {n : Nat} {t : Nat} {a1 : Int32} {kZ : Nat} {cZ : gm} (h : m_X9_alike n t a1 c = some (.inr (kZ, cZ))) : vx_Met l yX9_alike wsX9_alike rxX9_alike (va_Pc [.ref (ad t), .int a1] (gP sa D ad cy N sz c d0)) (va_Qi (fun (_ : Int32) (_ : Unit) => False) (fun _ _ => True) (gA ad N sz)) (vx_X (fun (_ : Unit) => True) (fun E _ U => E = gxn kZ ∧ gE D ad cy N cZ d0 U) (gA ad N sz)) 1 6 (gA ad N sz) := by
  refine vx_ofW (cc := cX9_alike) (maxL := 6) (ret := (some .int)) (by decide) rfl ?_
  intro p e s m args below meth cod s₁ B hml htab hv
  obtain ⟨rfl, hsz, hP, hK, hZ⟩ := hv
  have hx := B.exec
  have hb := B.bytes
  have hr := B.returns
  have hts := atoms_spec (ws := wsX9_alike) B.pre
  have hown : s.vm.findClass RX9 = some m.cls := findClass_of_methodNamed B.named
  have hlocks := B.notSynchronized
  subst hsz
  have hl := lv_entry ([.ref (ad t), .int a1]) (n := 6) (Nat.le_of_ble_eq_true rfl)
  rw [lg_entry_eq]
  generalize (lg_sl ([.ref (ad t), .int a1]) ++ List.replicate (6 - (lg_sl ([.ref (ad t), .int a1])).length) Slot.unset).toArray = ls at hl ⊢
  have hl : lv_has ls 6 [(0, .ref (ad t)), (1, .int a1)] := hl
  generalize hargs : ([.ref (ad t), .int a1] : List Value).toArray = args at *
  generalize hAe : gA ad N s.heap.size = A
  have F : gF sa D ad cy N A p s m args cod cX9_alike 6 wsX9_alike RX9 := ⟨hx, hb, hml, hown, hts, hK, hI, by rw [← hAe]; exact gA_ad, by rw [← hAe]; exact gA_sz, by rw [← hAe]; exact hZ⟩
  have G : gW D ad cy N A s.heap c d0 s.heap [] := ⟨hP, va_S.rf⟩
  generalize hQ : vx_MQ below (va_Qi (fun (_ : Int32) (_ : Unit) => False) (fun _ _ => True) A) (vx_X (fun (_ : Unit) => True) (fun E _ U => E = gxn kZ ∧ gE D ad cy N cZ d0 U) A) args s 1 6 A = Q
  suffices hgen : ∀ (H : Heap) (locs : List Loc), gW D ad cy N A s.heap c d0 H locs → W p l e rxX9_alike s m args below meth cod H locs 0 0 Q (F0 m 0 ls []) from hgen _ _ G
  clear G
  intro H locs G
  unfold m_X9_alike at h
  refine lv_aload_n hx hb dX9_alike_0 rfl (lv_at hl 0 rfl) ?_
  refine lv_iload_n hx hb dX9_alike_1 rfl (lv_at hl 1 rfl) ?_
  obtain ⟨K2, eK2, h⟩ := gj_s h
  have JK2 : ∀ (v1 : Int32) (H : Heap) (locs : List Loc) (ls : Array Slot), K2 v1 = some (.inr (kZ, cZ)) → gW D ad cy N A s.heap c d0 H locs → lv_has ls 6 [(0, .ref (ad t)), (1, .int a1)] → W p l e rxX9_alike s m args below meth cod H locs 0 0 Q (F0 m 15 ls [.int v1, .ref (ad t)]) := by
    intro v1 H locs ls h G hl
    rw [eK2] at h
    obtain ⟨hk3, h⟩ := gc_s h
    have ht4 : t < N := Nat.lt_of_lt_of_le (gck_lt9 hk3) hN
    rcases gbx_x h with hc5 | ⟨c7, hc5, h⟩
    · exact hQ ▸ gx_xv F G htab hlocks (vx_runV (As := [.int v1]) (rest := []) (gx_fix F) (cx_X9_demand l hlt sa D ad cy N H.size hN hI c d0 hc5) (cwV 1 hts gX9_alike_X9_demand rfl rfl rfl (by decide +kernel) ⟨by decide, by decide⟩) (gx_rec F G ht4 (gwe_9 hk3) rfl) rfl rfl hl.1 rfl (lv_room (Nat.le_of_ble_eq_true rfl)) dX9_alike_15 ⟨by decide, by decide⟩)
    · skip
      refine gx_callv F G (va_runV (As := [.int v1]) (rest := []) (gx_fix F) (c_X9_demand l sa D ad cy N H.size hN hI c d0 hc5) (cwV 1 hts gX9_alike_X9_demand rfl rfl rfl (by decide +kernel) ⟨by decide, by decide⟩) (gx_rec F G ht4 (gwe_9 hk3) rfl) rfl rfl hl.1 rfl (lv_room (Nat.le_of_ble_eq_true rfl)) dX9_alike_15 ⟨Nat.zero_le _, Nat.zero_le _⟩) (fun H locs G => ?_)
      exact (gok_no h).elim
  obtain ⟨K8, eK8, h⟩ := gj_s h
  have JK8 : ∀ (H : Heap) (locs : List Loc) (ls : Array Slot), K8 () = some (.inr (kZ, cZ)) → gW D ad cy N A s.heap c d0 H locs → lv_has ls 6 [(0, .ref (ad t)), (1, .int a1)] → W p l e rxX9_alike s m args below meth cod H locs 0 0 Q (F0 m 10 ls [.ref (ad t)]) := by
    intro  H locs ls h G hl
    rw [eK8] at h
    refine lv_iconst (v := 1) hx hb dX9_alike_10 (by decide) ?_
    refine lv_goto (tgt := 15) hx hb dX9_alike_11 (by decide) ?_
    exact JK2 _ _ _ _ h G hl
  refine lv_if_eq (tgt := 10) hx hb dX9_alike_2 (by decide) (fun q9 => ?_) (fun q9 => ?_)
  · replace h := gt_s q9 h
    exact JK8  _ _ _ h G hl
  · replace h := gf_s q9 h
    refine lv_iload_n hx hb dX9_alike_5 rfl (lv_at hl 1 rfl) ?_
    refine lv_iconst (v := 1) hx hb dX9_alike_6 (by decide) ?_
    refine lv_icmp_ne (tgt := 14) hx hb dX9_alike_7 (by decide) (fun q10 => ?_) (fun q10 => ?_)
    · replace h := gf_s q10 h
      refine lv_iconst (v := 0) hx hb dX9_alike_14 (by decide) ?_
      exact JK2 _ _ _ _ h G hl
    · replace h := gt_s q10 h
      exact JK8  _ _ _ h G hl
