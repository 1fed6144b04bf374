-- X7_open X8_put X8_add X8_readPart X8_part X8_readWeigh X8_readAgain X8_readStep X8_readSteps X8_readFrom X8_doStep X8_doSteps X8_doAll X9_feed X9_demand
def m_X7_open (t : Nat) (a1 : Int32) (c : gm) : Option (gm) :=
  gc (gck t = 7) (gv (gm_r c t (upd (c.1 t) 2 a1)) (fun (c3 : gm) => gv (gm_r c3 t (upd (c3.1 t) 1 0)) (fun (c4 : gm) => gv (gm_r c4 t (upd (c4.1 t) 3 0)) (fun (c5 : gm) => gv (gm_r c5 t (upd (c5.1 t) 4 0)) (fun (c6 : gm) => gv (gm_r c6 t (upd (c6.1 t) 6 0)) (fun (c7 : gm) => gv (gm_r c7 t (upd (c7.1 t) 7 (-1))) (fun (c8 : gm) => some c8)))))))
abbrev rmX7_open : Room := { frames := 0, cells := 0, slots := 0, locals := 0 }
set_option maxHeartbeats 4000000 in
set_option maxRecDepth 100000 in
theorem c_X7_open (l : Launch) (sa : gSa) (D : va_G) (ad : Nat → Nat) (cy : Nat → ClassId) (N sz : Nat) (hN : 55 ≤ N) (hI : gI ad N) (c d0 : gm) {t : Nat} {a1 : Int32} {cZ : gm} (h : m_X7_open t a1 c = some cZ) : Met l yX7_open wsX7_open rmX7_open (va_Pc [.ref (ad t), .int a1] (gP sa D ad cy N sz c d0)) (va_Qv (fun (_ : Unit) => True) (fun _ U => gE D ad cy N cZ d0 U) (gA ad N sz)) 0 0 (gA ad N sz) := by
  refine Met.ofW (cc := cX7_open) (maxL := 2) (ret := none) (by decide) rfl ?_
  intro p e s m args below meth cod s₁ B hml hv
  obtain ⟨rfl, hsz, hP, hK, hZ⟩ := hv
  have hx := B.exec
  have hb := B.bytes
  have hr := B.returns
  have hts := atoms_spec (ws := wsX7_open) B.pre
  have hown : s.vm.findClass RX7 = some m.cls := findClass_of_methodNamed B.named
  have hlocks := B.notSynchronized
  subst hsz
  have hl := lv_entry ([.ref (ad t), .int a1]) (n := 2) (Nat.le_of_ble_eq_true rfl)
  rw [lg_entry_eq]
  generalize (lg_sl ([.ref (ad t), .int a1]) ++ List.replicate (2 - (lg_sl ([.ref (ad t), .int a1])).length) Slot.unset).toArray = ls at hl ⊢
  have hl : lv_has ls 2 [(0, .ref (ad t)), (1, .int a1)] := hl
  have in7 : ∀ w ∈ wsX70, w ∈ wsX7_open := by decide +kernel
  generalize hargs : ([.ref (ad t), .int a1] : List Value).toArray = args at *
  generalize hAe : gA ad N s.heap.size = A
  have F : gF sa D ad cy N A p s m args cod cX7_open 2 wsX7_open RX7 := ⟨hx, hb, hml, hown, hts, hK, hI, by rw [← hAe]; exact gA_ad, by rw [← hAe]; exact gA_sz, by rw [← hAe]; exact hZ⟩
  have G : gW D ad cy N A s.heap c d0 s.heap [] := ⟨hP, va_S.rf⟩
  generalize hQ : MQ below (va_Qv (fun (_ : Unit) => True) (fun _ U => gE D ad cy N cZ d0 U) A) args s 0 0 A = Q
  suffices hgen : ∀ (H : Heap) (locs : List Loc), gW D ad cy N A s.heap c d0 H locs → W p l e rmX7_open s m args below meth cod H locs 0 0 Q (F0 m 0 ls []) from hgen _ _ G
  clear G
  intro H locs G
  unfold m_X7_open at h
  refine lv_aload_n hx hb dX7_open_0 rfl (lv_at hl 0 rfl) ?_
  refine lv_iload_n hx hb dX7_open_1 rfl (lv_at hl 1 rfl) ?_
  obtain ⟨hk1, h⟩ := gc_s h
  have ht2 : t < N := Nat.lt_of_lt_of_le (gck_lt7 hk1) hN
  refine fp_7_length F G hk1 ht2 in7 (by decide +kernel) dX7_open_2 (fun H locs G => ?_)
  obtain ⟨c3, ec3⟩ : ∃ z, z = gm_r c t (upd (c.1 t) 2 a1) := ⟨_, rfl⟩
  rw [← ec3] at G
  replace h := gv_s h c3 ec3
  refine lv_aload_n hx hb dX7_open_5 rfl (lv_at hl 0 rfl) ?_
  refine lv_iconst (v := 0) hx hb dX7_open_6 (by decide) ?_
  refine fp_7_held F G hk1 ht2 in7 (by decide +kernel) dX7_open_7 (fun H locs G => ?_)
  obtain ⟨c4, ec4⟩ : ∃ z, z = gm_r c3 t (upd (c3.1 t) 1 0) := ⟨_, rfl⟩
  rw [← ec4] at G
  replace h := gv_s h c4 ec4
  refine lv_aload_n hx hb dX7_open_10 rfl (lv_at hl 0 rfl) ?_
  refine lv_iconst (v := 0) hx hb dX7_open_11 (by decide) ?_
  refine fp_7_at F G hk1 ht2 in7 (by decide +kernel) dX7_open_12 (fun H locs G => ?_)
  obtain ⟨c5, ec5⟩ : ∃ z, z = gm_r c4 t (upd (c4.1 t) 3 0) := ⟨_, rfl⟩
  rw [← ec5] at G
  replace h := gv_s h c5 ec5
  refine lv_aload_n hx hb dX7_open_15 rfl (lv_at hl 0 rfl) ?_
  refine lv_iconst (v := 0) hx hb dX7_open_16 (by decide) ?_
  refine fp_7_mark F G hk1 ht2 in7 (by decide +kernel) dX7_open_17 (fun H locs G => ?_)
  obtain ⟨c6, ec6⟩ : ∃ z, z = gm_r c5 t (upd (c5.1 t) 4 0) := ⟨_, rfl⟩
  rw [← ec6] at G
  replace h := gv_s h c6 ec6
  refine lv_aload_n hx hb dX7_open_20 rfl (lv_at hl 0 rfl) ?_
  refine lv_iconst (v := 0) hx hb dX7_open_21 (by decide) ?_
  refine fp_7_faultKind F G hk1 ht2 in7 (by decide +kernel) dX7_open_22 (fun H locs G => ?_)
  obtain ⟨c7, ec7⟩ : ∃ z, z = gm_r c6 t (upd (c6.1 t) 6 0) := ⟨_, rfl⟩
  rw [← ec7] at G
  replace h := gv_s h c7 ec7
  refine lv_aload_n hx hb dX7_open_25 rfl (lv_at hl 0 rfl) ?_
  refine lv_iconst (v := (-1)) hx hb dX7_open_26 (by decide) ?_
  refine fp_7_faultPlace F G hk1 ht2 in7 (by decide +kernel) dX7_open_27 (fun H locs G => ?_)
  obtain ⟨c8, ec8⟩ : ∃ z, z = gm_r c7 t (upd (c7.1 t) 7 (-1)) := ⟨_, rfl⟩
  rw [← ec8] at G
  replace h := gv_s h c8 ec8
  cases h
  rw [← hQ]
  exact gx_vret F G hr hlocks dX7_open_30
def m_X8_put (t : Nat) (a1 : Int32) (a2 : Int32) (a3 : Int32) (c : gm) : Option (gm) :=
  (if a1 < 0 then some c else (if 38 ≤ a1 then some c else (if a2 < 0 then some c else (if 5 ≤ a2 then some c else gc (gck t = 8) (gc (0 ≤ ((5 * a1) + a2).toInt ∧ ((5 * a1) + a2).toInt < 190) (gv (gm_r c (t + 1) (upd (c.1 (t + 1)) ((5 * a1) + a2).toNatClampNeg a3)) (fun (c11 : gm) => some c11)))))))
abbrev rmX8_put : Room := { frames := 0, cells := 0, slots := 0, locals := 0 }
set_option maxHeartbeats 4000000 in
set_option maxRecDepth 100000 in
theorem c_X8_put (l : Launch) (sa : gSa) (D : va_G) (ad : Nat → Nat) (cy : Nat → ClassId) (N sz : Nat) (hN : 55 ≤ N) (hI : gI ad N) (c d0 : gm) {t : Nat} {a1 : Int32} {a2 : Int32} {a3 : Int32} {cZ : gm} (h : m_X8_put t a1 a2 a3 c = some cZ) : Met l yX8_put wsX8_put rmX8_put (va_Pc [.ref (ad t), .int a1, .int a2, .int a3] (gP sa D ad cy N sz c d0)) (va_Qv (fun (_ : Unit) => True) (fun _ U => gE D ad cy N cZ d0 U) (gA ad N sz)) 0 0 (gA ad N sz) := by
  refine Met.ofW (cc := cX8_put) (maxL := 4) (ret := none) (by decide) rfl ?_
  intro p e s m args below meth cod s₁ B hml hv
  obtain ⟨rfl, hsz, hP, hK, hZ⟩ := hv
  have hx := B.exec
  have hb := B.bytes
  have hr := B.returns
  have hts := atoms_spec (ws := wsX8_put) B.pre
  have hown : s.vm.findClass RX8 = some m.cls := findClass_of_methodNamed B.named
  have hlocks := B.notSynchronized
  subst hsz
  have hl := lv_entry ([.ref (ad t), .int a1, .int a2, .int a3]) (n := 4) (Nat.le_of_ble_eq_true rfl)
  rw [lg_entry_eq]
  generalize (lg_sl ([.ref (ad t), .int a1, .int a2, .int a3]) ++ List.replicate (4 - (lg_sl ([.ref (ad t), .int a1, .int a2, .int a3])).length) Slot.unset).toArray = ls at hl ⊢
  have hl : lv_has ls 4 [(0, .ref (ad t)), (1, .int a1), (2, .int a2), (3, .int a3)] := hl
  have in8 : ∀ w ∈ wsX80, w ∈ wsX8_put := by decide +kernel
  generalize hargs : ([.ref (ad t), .int a1, .int a2, .int a3] : List Value).toArray = args at *
  generalize hAe : gA ad N s.heap.size = A
  have F : gF sa D ad cy N A p s m args cod cX8_put 4 wsX8_put RX8 := ⟨hx, hb, hml, hown, hts, hK, hI, by rw [← hAe]; exact gA_ad, by rw [← hAe]; exact gA_sz, by rw [← hAe]; exact hZ⟩
  have G : gW D ad cy N A s.heap c d0 s.heap [] := ⟨hP, va_S.rf⟩
  generalize hQ : MQ below (va_Qv (fun (_ : Unit) => True) (fun _ U => gE D ad cy N cZ d0 U) A) args s 0 0 A = Q
  suffices hgen : ∀ (H : Heap) (locs : List Loc), gW D ad cy N A s.heap c d0 H locs → W p l e rmX8_put s m args below meth cod H locs 0 0 Q (F0 m 0 ls []) from hgen _ _ G
  clear G
  intro H locs G
  unfold m_X8_put at h
  refine lv_iload_n hx hb dX8_put_0 rfl (lv_at hl 1 rfl) ?_
  refine lv_if_lt (tgt := 30) hx hb dX8_put_1 (by decide) (fun q1 => ?_) (fun q1 => ?_)
  · replace h := gt_s q1 h
    cases h
    rw [← hQ]
    exact gx_vret F G hr hlocks dX8_put_30
  · replace h := gf_s q1 h
    refine lv_iload_n hx hb dX8_put_4 rfl (lv_at hl 1 rfl) ?_
    refine lv_bipush (v := 38) hx hb dX8_put_5 (by decide) ?_
    refine lv_icmp_ge (tgt := 30) hx hb dX8_put_7 (by decide) (fun q2 => ?_) (fun q2 => ?_)
    · replace h := gt_s q2 h
      cases h
      rw [← hQ]
      exact gx_vret F G hr hlocks dX8_put_30
    · replace h := gf_s q2 h
      refine lv_iload_n hx hb dX8_put_10 rfl (lv_at hl 2 rfl) ?_
      refine lv_if_lt (tgt := 30) hx hb dX8_put_11 (by decide) (fun q3 => ?_) (fun q3 => ?_)
      · replace h := gt_s q3 h
        cases h
        rw [← hQ]
        exact gx_vret F G hr hlocks dX8_put_30
      · replace h := gf_s q3 h
        refine lv_iload_n hx hb dX8_put_14 rfl (lv_at hl 2 rfl) ?_
        refine lv_iconst (v := 5) hx hb dX8_put_15 (by decide) ?_
        refine lv_icmp_ge (tgt := 30) hx hb dX8_put_16 (by decide) (fun q4 => ?_) (fun q4 => ?_)
        · replace h := gt_s q4 h
          cases h
          rw [← hQ]
          exact gx_vret F G hr hlocks dX8_put_30
        · replace h := gf_s q4 h
          refine lv_aload_n hx hb dX8_put_19 rfl (lv_at hl 0 rfl) ?_
          obtain ⟨hk5, h⟩ := gc_s h
          have ht6 : t < N := Nat.lt_of_lt_of_le (gck_lt8 hk5) hN
          refine fg_8_parts F G hk5 ht6 in8 (by decide +kernel) dX8_put_20 ?_
          obtain ⟨hk7, hn9⟩ := gka_8_parts hk5
          have ht8 : (t + 1) < N := Nat.lt_of_lt_of_le (gck_lt12 hk7) hN
          refine lv_iconst (v := 5) hx hb dX8_put_23 (by decide) ?_
          refine lv_iload_n hx hb dX8_put_24 rfl (lv_at hl 1 rfl) ?_
          refine lv_imul hx hb dX8_put_25 ?_
          refine lv_iload_n hx hb dX8_put_26 rfl (lv_at hl 2 rfl) ?_
          refine lv_iadd hx hb dX8_put_27 ?_
          refine lv_iload_n hx hb dX8_put_28 rfl (lv_at hl 3 rfl) ?_
          obtain ⟨hi10, h⟩ := gc_s h
          refine gx_is F G hk7 ht8 hn9 hi10 dX8_put_29 (fun H locs G => ?_)
          obtain ⟨c11, ec11⟩ : ∃ z, z = gm_r c (t + 1) (upd (c.1 (t + 1)) ((5 * a1) + a2).toNatClampNeg a3) := ⟨_, rfl⟩
          rw [← ec11] at G
          replace h := gv_s h c11 ec11
          cases h
          rw [← hQ]
          exact gx_vret F G hr hlocks dX8_put_30
def m_X8_add (t : Nat) (a1 : Int32) (c : gm) : Option (Int32 × gm) :=
  gc (gck t = 8) ((if (c.1 t 1) < 38 then gb (m_X8_put t (c.1 t 1) 0 a1 c) (fun (c6 : gm) => gv (gm_r c6 t (upd (c6.1 t) 1 ((c6.1 t 1) + 1))) (fun (c7 : gm) => some (1, c7))) else some (0, c)))
abbrev rmX8_add : Room := { frames := 1, cells := 0, slots := 0, locals := 23 }
set_option maxHeartbeats 4000000 in
set_option maxRecDepth 100000 in
theorem c_X8_add (l : Launch) (sa : gSa) (D : va_G) (ad : Nat → Nat) (cy : Nat → ClassId) (N sz : Nat) (hN : 55 ≤ N) (hI : gI ad N) (c d0 : gm) {t : Nat} {a1 : Int32} {rZ : Int32} {cZ : gm} (h : m_X8_add t a1 c = some (rZ, cZ)) : Met l yX8_add wsX8_add rmX8_add (va_Pc [.ref (ad t), .int a1] (gP sa D ad cy N sz c d0)) (va_Qi (fun (z : Int32) (_ : Unit) => z = rZ) (fun _ U => gE D ad cy N cZ d0 U) (gA ad N sz)) 0 0 (gA ad N sz) := by
  refine Met.ofW (cc := cX8_add) (maxL := 2) (ret := (some .boolean)) (by decide) rfl ?_
  intro p e s m args below meth cod s₁ B hml hv
  obtain ⟨rfl, hsz, hP, hK, hZ⟩ := hv
  have hx := B.exec
  have hb := B.bytes
  have hr := B.returns
  have hts := atoms_spec (ws := wsX8_add) B.pre
  have hown : s.vm.findClass RX8 = some m.cls := findClass_of_methodNamed B.named
  have hlocks := B.notSynchronized
  subst hsz
  have hl := lv_entry ([.ref (ad t), .int a1]) (n := 2) (Nat.le_of_ble_eq_true rfl)
  rw [lg_entry_eq]
  generalize (lg_sl ([.ref (ad t), .int a1]) ++ List.replicate (2 - (lg_sl ([.ref (ad t), .int a1])).length) Slot.unset).toArray = ls at hl ⊢
  have hl : lv_has ls 2 [(0, .ref (ad t)), (1, .int a1)] := hl
  have in8 : ∀ w ∈ wsX80, w ∈ wsX8_add := by decide +kernel
  generalize hargs : ([.ref (ad t), .int a1] : List Value).toArray = args at *
  generalize hAe : gA ad N s.heap.size = A
  have F : gF sa D ad cy N A p s m args cod cX8_add 2 wsX8_add RX8 := ⟨hx, hb, hml, hown, hts, hK, hI, by rw [← hAe]; exact gA_ad, by rw [← hAe]; exact gA_sz, by rw [← hAe]; exact hZ⟩
  have G : gW D ad cy N A s.heap c d0 s.heap [] := ⟨hP, va_S.rf⟩
  generalize hQ : MQ below (va_Qi (fun (z : Int32) (_ : Unit) => z = rZ) (fun _ U => gE D ad cy N cZ d0 U) A) args s 0 0 A = Q
  suffices hgen : ∀ (H : Heap) (locs : List Loc), gW D ad cy N A s.heap c d0 H locs → W p l e rmX8_add s m args below meth cod H locs 0 0 Q (F0 m 0 ls []) from hgen _ _ G
  clear G
  intro H locs G
  unfold m_X8_add at h
  refine lv_aload_n hx hb dX8_add_0 rfl (lv_at hl 0 rfl) ?_
  obtain ⟨hk1, h⟩ := gc_s h
  have ht2 : t < N := Nat.lt_of_lt_of_le (gck_lt8 hk1) hN
  refine fg_8_size F G hk1 ht2 in8 (by decide +kernel) dX8_add_1 ?_
  refine lv_bipush (v := 38) hx hb dX8_add_4 (by decide) ?_
  refine lv_icmp_lt (tgt := 11) hx hb dX8_add_6 (by decide) (fun q3 => ?_) (fun q3 => ?_)
  · replace h := gt_s q3 h
    refine lv_aload_n hx hb dX8_add_11 rfl (lv_at hl 0 rfl) ?_
    refine lv_aload_n hx hb dX8_add_12 rfl (lv_at hl 0 rfl) ?_
    refine fg_8_size F G hk1 ht2 in8 (by decide +kernel) dX8_add_13 ?_
    refine lv_iconst (v := 0) hx hb dX8_add_16 (by decide) ?_
    refine lv_iload_n hx hb dX8_add_17 rfl (lv_at hl 1 rfl) ?_
    obtain ⟨c6, hc4, h⟩ := gb_s h
    refine gx_callv F G (va_runV (As := [.int (c.1 t 1), .int 0, .int a1]) (rest := []) (gx_fix F) (c_X8_put l sa D ad cy N H.size hN hI c d0 hc4) (cwV 3 hts gX8_add_X8_put rfl rfl rfl (by decide +kernel) ⟨by decide, by decide⟩) (gx_rec F G ht2 (gwe_8 hk1) rfl) rfl rfl hl.1 rfl (lv_room (Nat.le_of_ble_eq_true rfl)) dX8_add_18 ⟨Nat.zero_le _, Nat.zero_le _⟩) (fun H locs G => ?_)
    refine lv_aload_n hx hb dX8_add_21 rfl (lv_at hl 0 rfl) ?_
    refine lv_dup hx hb dX8_add_22 rfl ?_
    refine fg_8_size F G hk1 ht2 in8 (by decide +kernel) dX8_add_23 ?_
    refine lv_iconst (v := 1) hx hb dX8_add_26 (by decide) ?_
    refine lv_iadd hx hb dX8_add_27 ?_
    refine fp_8_size F G hk1 ht2 in8 (by decide +kernel) dX8_add_28 (fun H locs G => ?_)
    obtain ⟨c7, ec7⟩ : ∃ z, z = gm_r c6 t (upd (c6.1 t) 1 ((c6.1 t 1) + 1)) := ⟨_, rfl⟩
    rw [← ec7] at G
    replace h := gv_s h c7 ec7
    refine lv_iconst (v := 1) hx hb dX8_add_31 (by decide) ?_
    cases h
    rw [← hQ]
    exact gx_zret F G hr hlocks rfl dX8_add_32
  · replace h := gf_s q3 h
    refine lv_iconst (v := 0) hx hb dX8_add_9 (by decide) ?_
    cases h
    rw [← hQ]
    exact gx_zret F G hr hlocks rfl dX8_add_10
def m_X8_readPart (n : Nat) (t : Nat) (a1 : Nat) (a2 : Int32) (a3 : Int32) (a4 : Int32) (a5 : Int32) (c : gm) : Option (Int32 × gm) :=
  gc (gck a1 = 7) (gb2 (m_X7_takeNumber n a1 a2 a3 c) (fun (r4 : Int32) (c5 : gm) => (if r4 = 0 then some (0, c5) else gc (gck t = 8) (gb (m_X8_put t a4 a5 (c5.1 a1 5) c5) (fun (c11 : gm) => some (1, c11))))))
abbrev rmX8_readPart : Room := { frames := 2, cells := 0, slots := 0, locals := 62 }
set_option maxHeartbeats 4000000 in
set_option maxRecDepth 100000 in
theorem c_X8_readPart (l : Launch) (sa : gSa) (D : va_G) (ad : Nat → Nat) (cy : Nat → ClassId) (N sz : Nat) (hN : 55 ≤ N) (hI : gI ad N) (c d0 : gm) {n : Nat} {t : Nat} {a1 : Nat} {a2 : Int32} {a3 : Int32} {a4 : Int32} {a5 : Int32} {rZ : Int32} {cZ : gm} (h : m_X8_readPart n t a1 a2 a3 a4 a5 c = some (rZ, cZ)) : Met l yX8_readPart wsX8_readPart rmX8_readPart (va_Pc [.ref (ad t), .ref (ad a1), .int a2, .int a3, .int a4, .int a5] (gP sa D ad cy N sz c d0)) (va_Qi (fun (z : Int32) (_ : Unit) => z = rZ) (fun _ U => gE D ad cy N cZ d0 U) (gA ad N sz)) 0 0 (gA ad N sz) := by
  refine Met.ofW (cc := cX8_readPart) (maxL := 6) (ret := (some .boolean)) (by decide) rfl ?_
  intro p e s m args below meth cod s₁ B hml hv
  obtain ⟨rfl, hsz, hP, hK, hZ⟩ := hv
  have hx := B.exec
  have hb := B.bytes
  have hr := B.returns
  have hts := atoms_spec (ws := wsX8_readPart) B.pre
  have hown : s.vm.findClass RX8 = some m.cls := findClass_of_methodNamed B.named
  have hlocks := B.notSynchronized
  subst hsz
  have hl := lv_entry ([.ref (ad t), .ref (ad a1), .int a2, .int a3, .int a4, .int a5]) (n := 6) (Nat.le_of_ble_eq_true rfl)
  rw [lg_entry_eq]
  generalize (lg_sl ([.ref (ad t), .ref (ad a1), .int a2, .int a3, .int a4, .int a5]) ++ List.replicate (6 - (lg_sl ([.ref (ad t), .ref (ad a1), .int a2, .int a3, .int a4, .int a5])).length) Slot.unset).toArray = ls at hl ⊢
  have hl : lv_has ls 6 [(0, .ref (ad t)), (1, .ref (ad a1)), (2, .int a2), (3, .int a3), (4, .int a4), (5, .int a5)] := hl
  have in7 : ∀ w ∈ wsX70, w ∈ wsX8_readPart := by decide +kernel
  generalize hargs : ([.ref (ad t), .ref (ad a1), .int a2, .int a3, .int a4, .int a5] : List Value).toArray = args at *
  generalize hAe : gA ad N s.heap.size = A
  have F : gF sa D ad cy N A p s m args cod cX8_readPart 6 wsX8_readPart RX8 := ⟨hx, hb, hml, hown, hts, hK, hI, by rw [← hAe]; exact gA_ad, by rw [← hAe]; exact gA_sz, by rw [← hAe]; exact hZ⟩
  have G : gW D ad cy N A s.heap c d0 s.heap [] := ⟨hP, va_S.rf⟩
  generalize hQ : MQ below (va_Qi (fun (z : Int32) (_ : Unit) => z = rZ) (fun _ U => gE D ad cy N cZ d0 U) A) args s 0 0 A = Q
  suffices hgen : ∀ (H : Heap) (locs : List Loc), gW D ad cy N A s.heap c d0 H locs → W p l e rmX8_readPart s m args below meth cod H locs 0 0 Q (F0 m 0 ls []) from hgen _ _ G
  clear G
  intro H locs G
  unfold m_X8_readPart at h
  refine lv_aload_n hx hb dX8_readPart_0 rfl (lv_at hl 1 rfl) ?_
  refine lv_iload_n hx hb dX8_readPart_1 rfl (lv_at hl 2 rfl) ?_
  refine lv_iload_n hx hb dX8_readPart_2 rfl (lv_at hl 3 rfl) ?_
  obtain ⟨hk1, h⟩ := gc_s h
  have ht2 : a1 < N := Nat.lt_of_lt_of_le (gck_lt7 hk1) hN
  obtain ⟨r4, c5, hc3, h⟩ := gb2_s h
  refine gx_calli F G (va_runV (As := [.int a2, .int a3]) (rest := []) (gx_fix F) (c_X7_takeNumber l sa D ad cy N H.size hN hI c d0 hc3) (cwV 2 hts gX8_readPart_X7_takeNumber rfl rfl rfl (by decide +kernel) ⟨by decide, by decide⟩) (gx_rec F G ht2 (gwe_7 hk1) rfl) rfl rfl hl.1 rfl (lv_room (Nat.le_of_ble_eq_true rfl)) dX8_readPart_3 ⟨Nat.zero_le _, Nat.zero_le _⟩) (fun H locs G => ?_)
  refine lv_if_ne (tgt := 11) hx hb dX8_readPart_6 (by decide) (fun q6 => ?_) (fun q6 => ?_)
  · replace h := gf_s q6 h
    refine lv_aload_n hx hb dX8_readPart_11 rfl (lv_at hl 0 rfl) ?_
    refine lv_iload hx hb dX8_readPart_12 (lv_at hl 4 rfl) ?_
    refine lv_iload hx hb dX8_readPart_14 (lv_at hl 5 rfl) ?_
    refine lv_aload_n hx hb dX8_readPart_16 rfl (lv_at hl 1 rfl) ?_
    refine fg_7_value F G hk1 ht2 in7 (by decide +kernel) dX8_readPart_17 ?_
    obtain ⟨hk7, h⟩ := gc_s h
    have ht8 : t < N := Nat.lt_of_lt_of_le (gck_lt8 hk7) hN
    obtain ⟨c11, hc9, h⟩ := gb_s h
    refine gx_callv F G (va_runV (As := [.int a4, .int a5, .int (c5.1 a1 5)]) (rest := []) (gx_fix F) (c_X8_put l sa D ad cy N H.size hN hI c5 d0 hc9) (cwV 3 hts gX8_readPart_X8_put rfl rfl rfl (by decide +kernel) ⟨by decide, by decide⟩) (gx_rec F G ht8 (gwe_8 hk7) rfl) rfl rfl hl.1 rfl (lv_room (Nat.le_of_ble_eq_true rfl)) dX8_readPart_20 ⟨Nat.zero_le _, Nat.zero_le _⟩) (fun H locs G => ?_)
    refine lv_iconst (v := 1) hx hb dX8_readPart_23 (by decide) ?_
    cases h
    rw [← hQ]
    exact gx_zret F G hr hlocks rfl dX8_readPart_24
  · replace h := gt_s q6 h
    refine lv_iconst (v := 0) hx hb dX8_readPart_9 (by decide) ?_
    cases h
    rw [← hQ]
    exact gx_zret F G hr hlocks rfl dX8_readPart_10
def m_X8_part (t : Nat) (a1 : Int32) (a2 : Int32) (c : gm) : Option (Int32) :=
  gj (fun (v1 : Int32) => (if v1 = 0 then some 0 else gc (gck t = 8) (gc (0 ≤ ((5 * a1) + a2).toInt ∧ ((5 * a1) + a2).toInt < 190) (some (c.1 (t + 1) ((5 * a1) + a2).toNatClampNeg))))) (fun K2 => gj (fun (_ : Unit) => K2 0) (fun K10 => (if a1 < 0 then K10 () else (if 38 ≤ a1 then K10 () else (if a2 < 0 then K10 () else (if 5 ≤ a2 then K10 () else K2 1))))))
abbrev rmX8_part : Room := { frames := 0, cells := 0, slots := 0, locals := 0 }
set_option maxHeartbeats 4000000 in
set_option maxRecDepth 100000 in
theorem c_X8_part (l : Launch) (sa : gSa) (D : va_G) (ad : Nat → Nat) (cy : Nat → ClassId) (N sz : Nat) (hN : 55 ≤ N) (hI : gI ad N) (c d0 : gm) {t : Nat} {a1 : Int32} {a2 : Int32} {rZ : Int32} (h : m_X8_part t a1 a2 c = some rZ) : Met l yX8_part wsX8_part rmX8_part (va_Pc [.ref (ad t), .int a1, .int a2] (gP sa D ad cy N sz c d0)) (va_Qi (fun (z : Int32) (_ : Unit) => z = rZ) (fun _ U => gE D ad cy N c d0 U) (gA ad N sz)) 0 0 (gA ad N sz) := by
  refine Met.ofW (cc := cX8_part) (maxL := 4) (ret := (some .int)) (by decide) rfl ?_
  intro p e s m args below meth cod s₁ B hml hv
  obtain ⟨rfl, hsz, hP, hK, hZ⟩ := hv
  have hx := B.exec
  have hb := B.bytes
  have hr := B.returns
  have hts := atoms_spec (ws := wsX8_part) B.pre
  have hown : s.vm.findClass RX8 = some m.cls := findClass_of_methodNamed B.named
  have hlocks := B.notSynchronized
  subst hsz
  have hl := lv_entry ([.ref (ad t), .int a1, .int a2]) (n := 4) (Nat.le_of_ble_eq_true rfl)
  rw [lg_entry_eq]
  generalize (lg_sl ([.ref (ad t), .int a1, .int a2]) ++ List.replicate (4 - (lg_sl ([.ref (ad t), .int a1, .int a2])).length) Slot.unset).toArray = ls at hl ⊢
  have hl : lv_has ls 4 [(0, .ref (ad t)), (1, .int a1), (2, .int a2)] := hl
  have in8 : ∀ w ∈ wsX80, w ∈ wsX8_part := by decide +kernel
  generalize hargs : ([.ref (ad t), .int a1, .int a2] : List Value).toArray = args at *
  generalize hAe : gA ad N s.heap.size = A
  have F : gF sa D ad cy N A p s m args cod cX8_part 4 wsX8_part RX8 := ⟨hx, hb, hml, hown, hts, hK, hI, by rw [← hAe]; exact gA_ad, by rw [← hAe]; exact gA_sz, by rw [← hAe]; exact hZ⟩
  have G : gW D ad cy N A s.heap c d0 s.heap [] := ⟨hP, va_S.rf⟩
  generalize hQ : MQ below (va_Qi (fun (z : Int32) (_ : Unit) => z = rZ) (fun _ U => gE D ad cy N c d0 U) A) args s 0 0 A = Q
  suffices hgen : ∀ (H : Heap) (locs : List Loc), gW D ad cy N A s.heap c d0 H locs → W p l e rmX8_part s m args below meth cod H locs 0 0 Q (F0 m 0 ls []) from hgen _ _ G
  clear G
  intro H locs G
  unfold m_X8_part at h
  refine lv_iload_n hx hb dX8_part_0 rfl (lv_at hl 1 rfl) ?_
  obtain ⟨K2, eK2, h⟩ := gj_s h
  have JK2 : ∀ (v1 : Int32) (H : Heap) (locs : List Loc) (ls : Array Slot), K2 v1 = some rZ → gW D ad cy N A s.heap c d0 H locs → lv_has ls 4 [(0, .ref (ad t)), (1, .int a1), (2, .int a2)] → W p l e rmX8_part s m args below meth cod H locs 0 0 Q (F0 m 24 ls [.int v1]) := by
    intro v1 H locs ls h G hl
    rw [eK2] at h
    refine lv_istore_n (lv' := [(3, .int v1), (0, .ref (ad t)), (1, .int a1), (2, .int a2)]) hx hb dX8_part_24 rfl hl (by decide) rfl (fun ls hl => ?_)
    refine lv_iload_n hx hb dX8_part_25 rfl (lv_at hl 0 rfl) ?_
    refine lv_if_eq (tgt := 42) hx hb dX8_part_26 (by decide) (fun q3 => ?_) (fun q3 => ?_)
    · replace h := gt_s q3 h
      refine lv_iconst (v := 0) hx hb dX8_part_42 (by decide) ?_
      cases h
      rw [← hQ]
      exact gx_iret F G hr hlocks dX8_part_43
    · replace h := gf_s q3 h
      refine lv_aload_n hx hb dX8_part_29 rfl (lv_at hl 1 rfl) ?_
      obtain ⟨hk4, h⟩ := gc_s h
      have ht5 : t < N := Nat.lt_of_lt_of_le (gck_lt8 hk4) hN
      refine fg_8_parts F G hk4 ht5 in8 (by decide +kernel) dX8_part_30 ?_
      obtain ⟨hk6, hn8⟩ := gka_8_parts hk4
      have ht7 : (t + 1) < N := Nat.lt_of_lt_of_le (gck_lt12 hk6) hN
      refine lv_iconst (v := 5) hx hb dX8_part_33 (by decide) ?_
      refine lv_iload_n hx hb dX8_part_34 rfl (lv_at hl 2 rfl) ?_
      refine lv_imul hx hb dX8_part_35 ?_
      refine lv_iload_n hx hb dX8_part_36 rfl (lv_at hl 3 rfl) ?_
      refine lv_iadd hx hb dX8_part_37 ?_
      obtain ⟨hi9, h⟩ := gc_s h
      refine gx_ia F G hk6 ht7 hn8 hi9 dX8_part_38 ?_
      refine lv_goto (tgt := 43) hx hb dX8_part_39 (by decide) ?_
      cases h
      rw [← hQ]
      exact gx_iret F G hr hlocks dX8_part_43
  obtain ⟨K10, eK10, h⟩ := gj_s h
  have JK10 : ∀ (H : Heap) (locs : List Loc) (ls : Array Slot), K10 () = some rZ → gW D ad cy N A s.heap c d0 H locs → lv_has ls 4 [(0, .ref (ad t)), (1, .int a1), (2, .int a2)] → W p l e rmX8_part s m args below meth cod H locs 0 0 Q (F0 m 23 ls []) := by
    intro  H locs ls h G hl
    rw [eK10] at h
    refine lv_iconst (v := 0) hx hb dX8_part_23 (by decide) ?_
    exact JK2 _ _ _ _ h G hl
  refine lv_if_lt (tgt := 23) hx hb dX8_part_1 (by decide) (fun q11 => ?_) (fun q11 => ?_)
  · replace h := gt_s q11 h
    exact JK10  _ _ _ h G hl
  · replace h := gf_s q11 h
    refine lv_iload_n hx hb dX8_part_4 rfl (lv_at hl 1 rfl) ?_
    refine lv_bipush (v := 38) hx hb dX8_part_5 (by decide) ?_
    refine lv_icmp_ge (tgt := 23) hx hb dX8_part_7 (by decide) (fun q12 => ?_) (fun q12 => ?_)
    · replace h := gt_s q12 h
      exact JK10  _ _ _ h G hl
    · replace h := gf_s q12 h
      refine lv_iload_n hx hb dX8_part_10 rfl (lv_at hl 2 rfl) ?_
      refine lv_if_lt (tgt := 23) hx hb dX8_part_11 (by decide) (fun q13 => ?_) (fun q13 => ?_)
      · replace h := gt_s q13 h
        exact JK10  _ _ _ h G hl
      · replace h := gf_s q13 h
        refine lv_iload_n hx hb dX8_part_14 rfl (lv_at hl 2 rfl) ?_
        refine lv_iconst (v := 5) hx hb dX8_part_15 (by decide) ?_
        refine lv_icmp_ge (tgt := 23) hx hb dX8_part_16 (by decide) (fun q14 => ?_) (fun q14 => ?_)
        · replace h := gt_s q14 h
          exact JK10  _ _ _ h G hl
        · replace h := gf_s q14 h
          refine lv_iconst (v := 1) hx hb dX8_part_19 (by decide) ?_
          refine lv_goto (tgt := 24) hx hb dX8_part_20 (by decide) ?_
          exact JK2 _ _ _ _ h G hl
def m_X8_readWeigh (n : Nat) (t : Nat) (a1 : Nat) (a2 : Int32) (a3 : Int32) (c : gm) : Option (Int32 × gm) :=
  gc (gck t = 8) (gb2 (m_X8_readPart n t a1 0 (a2 - 1) a3 1 c) (fun (r4 : Int32) (c5 : gm) => (if r4 = 0 then some (0, c5) else gb2 (m_X8_readPart n t a1 1 9 a3 2 c5) (fun (r8 : Int32) (c9 : gm) => (if r8 = 0 then some (0, c9) else gb (m_X8_part t a3 1 c9) (fun (r12 : Int32) => gc (gck a1 = 7) (gb2 (m_X7_takeOther n a1 a2 r12 c9) (fun (r16 : Int32) (c17 : gm) => (if r16 = 0 then some (0, c17) else gb (m_X8_put t a3 3 (c17.1 a1 5) c17) (fun (c21 : gm) => gb2 (m_X8_readPart n t a1 1 9 a3 4 c21) (fun (r23 : Int32) (c24 : gm) => gc (r23 = 0 ∨ r23 = 1) (some (r23, c24)))))))))))))
abbrev rmX8_readWeigh : Room := { frames := 3, cells := 0, slots := 0, locals := 87 }
set_option maxHeartbeats 4000000 in
set_option maxRecDepth 100000 in
theorem c_X8_readWeigh (l : Launch) (sa : gSa) (D : va_G) (ad : Nat → Nat) (cy : Nat → ClassId) (N sz : Nat) (hN : 55 ≤ N) (hI : gI ad N) (c d0 : gm) {n : Nat} {t : Nat} {a1 : Nat} {a2 : Int32} {a3 : Int32} {rZ : Int32} {cZ : gm} (h : m_X8_readWeigh n t a1 a2 a3 c = some (rZ, cZ)) : Met l yX8_readWeigh wsX8_readWeigh rmX8_readWeigh (va_Pc [.ref (ad t), .ref (ad a1), .int a2, .int a3] (gP sa D ad cy N sz c d0)) (va_Qi (fun (z : Int32) (_ : Unit) => z = rZ) (fun _ U => gE D ad cy N cZ d0 U) (gA ad N sz)) 0 0 (gA ad N sz) := by
  refine Met.ofW (cc := cX8_readWeigh) (maxL := 4) (ret := (some .boolean)) (by decide) rfl ?_
  intro p e s m args below meth cod s₁ B hml hv
  obtain ⟨rfl, hsz, hP, hK, hZ⟩ := hv
  have hx := B.exec
  have hb := B.bytes
  have hr := B.returns
  have hts := atoms_spec (ws := wsX8_readWeigh) B.pre
  have hown : s.vm.findClass RX8 = some m.cls := findClass_of_methodNamed B.named
  have hlocks := B.notSynchronized
  subst hsz
  have hl := lv_entry ([.ref (ad t), .ref (ad a1), .int a2, .int a3]) (n := 4) (Nat.le_of_ble_eq_true rfl)
  rw [lg_entry_eq]
  generalize (lg_sl ([.ref (ad t), .ref (ad a1), .int a2, .int a3]) ++ List.replicate (4 - (lg_sl ([.ref (ad t), .ref (ad a1), .int a2, .int a3])).length) Slot.unset).toArray = ls at hl ⊢
  have hl : lv_has ls 4 [(0, .ref (ad t)), (1, .ref (ad a1)), (2, .int a2), (3, .int a3)] := hl
  have in7 : ∀ w ∈ wsX70, w ∈ wsX8_readWeigh := by decide +kernel
  generalize hargs : ([.ref (ad t), .ref (ad a1), .int a2, .int a3] : List Value).toArray = args at *
  generalize hAe : gA ad N s.heap.size = A
  have F : gF sa D ad cy N A p s m args cod cX8_readWeigh 4 wsX8_readWeigh RX8 := ⟨hx, hb, hml, hown, hts, hK, hI, by rw [← hAe]; exact gA_ad, by rw [← hAe]; exact gA_sz, by rw [← hAe]; exact hZ⟩
  have G : gW D ad cy N A s.heap c d0 s.heap [] := ⟨hP, va_S.rf⟩
  generalize hQ : MQ below (va_Qi (fun (z : Int32) (_ : Unit) => z = rZ) (fun _ U => gE D ad cy N cZ d0 U) A) args s 0 0 A = Q
  suffices hgen : ∀ (H : Heap) (locs : List Loc), gW D ad cy N A s.heap c d0 H locs → W p l e rmX8_readWeigh s m args below meth cod H locs 0 0 Q (F0 m 0 ls []) from hgen _ _ G
  clear G
  intro H locs G
  unfold m_X8_readWeigh at h
  refine lv_aload_n hx hb dX8_readWeigh_0 rfl (lv_at hl 0 rfl) ?_
  refine lv_aload_n hx hb dX8_readWeigh_1 rfl (lv_at hl 1 rfl) ?_
  refine lv_iconst (v := 0) hx hb dX8_readWeigh_2 (by decide) ?_
  refine lv_iload_n hx hb dX8_readWeigh_3 rfl (lv_at hl 2 rfl) ?_
  refine lv_iconst (v := 1) hx hb dX8_readWeigh_4 (by decide) ?_
  refine lv_isub hx hb dX8_readWeigh_5 ?_
  refine lv_iload_n hx hb dX8_readWeigh_6 rfl (lv_at hl 3 rfl) ?_
  refine lv_iconst (v := 1) hx hb dX8_readWeigh_7 (by decide) ?_
  obtain ⟨hk1, h⟩ := gc_s h
  have ht2 : t < N := Nat.lt_of_lt_of_le (gck_lt8 hk1) hN
  obtain ⟨r4, c5, hc3, h⟩ := gb2_s h
  refine gx_calli F G (va_runV (As := [.ref (ad a1), .int 0, .int (a2 - 1), .int a3, .int 1]) (rest := []) (gx_fix F) (c_X8_readPart l sa D ad cy N H.size hN hI c d0 hc3) (cwV 5 hts gX8_readWeigh_X8_readPart rfl rfl rfl (by decide +kernel) ⟨by decide, by decide⟩) (gx_rec F G ht2 (gwe_8 hk1) rfl) rfl rfl hl.1 rfl (lv_room (Nat.le_of_ble_eq_true rfl)) dX8_readWeigh_8 ⟨Nat.zero_le _, Nat.zero_le _⟩) (fun H locs G => ?_)
  refine lv_if_eq (tgt := 41) hx hb dX8_readWeigh_11 (by decide) (fun q6 => ?_) (fun q6 => ?_)
  · replace h := gt_s q6 h
    refine lv_iconst (v := 0) hx hb dX8_readWeigh_41 (by decide) ?_
    cases h
    rw [← hQ]
    exact gx_zret F G hr hlocks rfl dX8_readWeigh_42
  · replace h := gf_s q6 h
    refine lv_aload_n hx hb dX8_readWeigh_14 rfl (lv_at hl 0 rfl) ?_
    refine lv_aload_n hx hb dX8_readWeigh_15 rfl (lv_at hl 1 rfl) ?_
    refine lv_iconst (v := 1) hx hb dX8_readWeigh_16 (by decide) ?_
    refine lv_bipush (v := 9) hx hb dX8_readWeigh_17 (by decide) ?_
    refine lv_iload_n hx hb dX8_readWeigh_19 rfl (lv_at hl 3 rfl) ?_
    refine lv_iconst (v := 2) hx hb dX8_readWeigh_20 (by decide) ?_
    obtain ⟨r8, c9, hc7, h⟩ := gb2_s h
    refine gx_calli F G (va_runV (As := [.ref (ad a1), .int 1, .int 9, .int a3, .int 2]) (rest := []) (gx_fix F) (c_X8_readPart l sa D ad cy N H.size hN hI c5 d0 hc7) (cwV 5 hts gX8_readWeigh_X8_readPart rfl rfl rfl (by decide +kernel) ⟨by decide, by decide⟩) (gx_rec F G ht2 (gwe_8 hk1) rfl) rfl rfl hl.1 rfl (lv_room (Nat.le_of_ble_eq_true rfl)) dX8_readWeigh_21 ⟨Nat.zero_le _, Nat.zero_le _⟩) (fun H locs G => ?_)
    refine lv_if_eq (tgt := 41) hx hb dX8_readWeigh_24 (by decide) (fun q10 => ?_) (fun q10 => ?_)
    · replace h := gt_s q10 h
      refine lv_iconst (v := 0) hx hb dX8_readWeigh_41 (by decide) ?_
      cases h
      rw [← hQ]
      exact gx_zret F G hr hlocks rfl dX8_readWeigh_42
    · replace h := gf_s q10 h
      refine lv_aload_n hx hb dX8_readWeigh_27 rfl (lv_at hl 1 rfl) ?_
      refine lv_iload_n hx hb dX8_readWeigh_28 rfl (lv_at hl 2 rfl) ?_
      refine lv_aload_n hx hb dX8_readWeigh_29 rfl (lv_at hl 0 rfl) ?_
      refine lv_iload_n hx hb dX8_readWeigh_30 rfl (lv_at hl 3 rfl) ?_
      refine lv_iconst (v := 1) hx hb dX8_readWeigh_31 (by decide) ?_
      obtain ⟨r12, hc11, h⟩ := gb_s h
      refine gx_calli F G (va_runV (As := [.int a3, .int 1]) (rest := [.int a2, .ref (ad a1)]) (gx_fix F) (c_X8_part l sa D ad cy N H.size hN hI c9 d0 hc11) (cwV 2 hts gX8_readWeigh_X8_part rfl rfl rfl (by decide +kernel) ⟨by decide, by decide⟩) (gx_rec F G ht2 (gwe_8 hk1) rfl) rfl rfl hl.1 rfl (lv_room (Nat.le_of_ble_eq_true rfl)) dX8_readWeigh_32 ⟨Nat.zero_le _, Nat.zero_le _⟩) (fun H locs G => ?_)
      obtain ⟨hk13, h⟩ := gc_s h
      have ht14 : a1 < N := Nat.lt_of_lt_of_le (gck_lt7 hk13) hN
      obtain ⟨r16, c17, hc15, h⟩ := gb2_s h
      refine gx_calli F G (va_runV (As := [.int a2, .int r12]) (rest := []) (gx_fix F) (c_X7_takeOther l sa D ad cy N H.size hN hI c9 d0 hc15) (cwV 2 hts gX8_readWeigh_X7_takeOther rfl rfl rfl (by decide +kernel) ⟨by decide, by decide⟩) (gx_rec F G ht14 (gwe_7 hk13) rfl) rfl rfl hl.1 rfl (lv_room (Nat.le_of_ble_eq_true rfl)) dX8_readWeigh_35 ⟨Nat.zero_le _, Nat.zero_le _⟩) (fun H locs G => ?_)
      refine lv_if_ne (tgt := 43) hx hb dX8_readWeigh_38 (by decide) (fun q18 => ?_) (fun q18 => ?_)
      · replace h := gf_s q18 h
        refine lv_aload_n hx hb dX8_readWeigh_43 rfl (lv_at hl 0 rfl) ?_
        refine lv_iload_n hx hb dX8_readWeigh_44 rfl (lv_at hl 3 rfl) ?_
        refine lv_iconst (v := 3) hx hb dX8_readWeigh_45 (by decide) ?_
        refine lv_aload_n hx hb dX8_readWeigh_46 rfl (lv_at hl 1 rfl) ?_
        refine fg_7_value F G hk13 ht14 in7 (by decide +kernel) dX8_readWeigh_47 ?_
        obtain ⟨c21, hc19, h⟩ := gb_s h
        refine gx_callv F G (va_runV (As := [.int a3, .int 3, .int (c17.1 a1 5)]) (rest := []) (gx_fix F) (c_X8_put l sa D ad cy N H.size hN hI c17 d0 hc19) (cwV 3 hts gX8_readWeigh_X8_put rfl rfl rfl (by decide +kernel) ⟨by decide, by decide⟩) (gx_rec F G ht2 (gwe_8 hk1) rfl) rfl rfl hl.1 rfl (lv_room (Nat.le_of_ble_eq_true rfl)) dX8_readWeigh_50 ⟨Nat.zero_le _, Nat.zero_le _⟩) (fun H locs G => ?_)
        refine lv_aload_n hx hb dX8_readWeigh_53 rfl (lv_at hl 0 rfl) ?_
        refine lv_aload_n hx hb dX8_readWeigh_54 rfl (lv_at hl 1 rfl) ?_
        refine lv_iconst (v := 1) hx hb dX8_readWeigh_55 (by decide) ?_
        refine lv_bipush (v := 9) hx hb dX8_readWeigh_56 (by decide) ?_
        refine lv_iload_n hx hb dX8_readWeigh_58 rfl (lv_at hl 3 rfl) ?_
        refine lv_iconst (v := 4) hx hb dX8_readWeigh_59 (by decide) ?_
        obtain ⟨r23, c24, hc22, h⟩ := gb2_s h
        refine gx_calli F G (va_runV (As := [.ref (ad a1), .int 1, .int 9, .int a3, .int 4]) (rest := []) (gx_fix F) (c_X8_readPart l sa D ad cy N H.size hN hI c21 d0 hc22) (cwV 5 hts gX8_readWeigh_X8_readPart rfl rfl rfl (by decide +kernel) ⟨by decide, by decide⟩) (gx_rec F G ht2 (gwe_8 hk1) rfl) rfl rfl hl.1 rfl (lv_room (Nat.le_of_ble_eq_true rfl)) dX8_readWeigh_60 ⟨Nat.zero_le _, Nat.zero_le _⟩) (fun H locs G => ?_)
        obtain ⟨hz25, h⟩ := gc_s h
        cases h
        rw [← hQ]
        exact gx_zret F G hr hlocks (gnb hz25) dX8_readWeigh_63
      · replace h := gt_s q18 h
        refine lv_iconst (v := 0) hx hb dX8_readWeigh_41 (by decide) ?_
        cases h
        rw [← hQ]
        exact gx_zret F G hr hlocks rfl dX8_readWeigh_42
def m_X8_readAgain (rs : (Nat → Nat → Nat → Int32 → Int32 → gm → Option (Int32 × gm))) (n : Nat) (t : Nat) (a1 : Nat) (a2 : Int32) (a3 : Int32) (a4 : Int32) (c : gm) : Option (Int32 × gm) :=
  gc (gck t = 8) (gb2 (m_X8_readPart n t a1 0 60 a4 1 c) (fun (r4 : Int32) (c5 : gm) => gj (gu2 (fun (v6 : Int32) (c7 : gm) => gb (m_X8_put t a4 2 (c7.1 t 1) c7) (fun (c11 : gm) => gc (v6 = 0 ∨ v6 = 1) (some (v6, c11))))) (fun K8 => gj (fun (c13 : gm) => K8 (0, c13)) (fun K14 => (if r4 = 0 then K14 c5 else gc (gck a1 = 7) (gb2 (m_X7_takeSign n a1 91 c5) (fun (r19 : Int32) (c20 : gm) => (if r19 = 0 then K14 c20 else gb2 (rs n t a1 a2 (a3 + 1) c20) (fun (r23 : Int32) (c24 : gm) => (if r23 = 0 then K14 c24 else gb2 (m_X7_takeSign n a1 93 c24) (fun (r27 : Int32) (c28 : gm) => (if r27 = 0 then K14 c28 else K8 (1, c28)))))))))))))
abbrev rmX8_readSteps (dd : Nat) : Room := { frames := 3 * dd + 6, cells := 0, slots := 0, locals := 73 * dd + 128 }
abbrev rmX8_readAgain (dd : Nat) : Room := { frames := 3 * dd + 7, cells := 0, slots := 0, locals := 73 * dd + 152 }
set_option maxHeartbeats 4000000 in
set_option maxRecDepth 100000 in
theorem c_X8_readAgain (l : Launch) (sa : gSa) (D : va_G) (ad : Nat → Nat) (cy : Nat → ClassId) (N sz : Nat) (hN : 55 ≤ N) (hI : gI ad N) (c d0 : gm) (rs : (Nat → Nat → Nat → Int32 → Int32 → gm → Option (Int32 × gm))) (dd : Nat) (hrs : ∀ (sz : Nat) (c d0 : gm) {n : Nat} {t : Nat} {a1 : Nat} {a2 : Int32} {a3 : Int32} {rZ : Int32} {cZ : gm}, rs n t a1 a2 a3 c = some (rZ, cZ) → Met l yX8_readSteps wsX8_readSteps (rmX8_readSteps dd) (va_Pc [.ref (ad t), .ref (ad a1), .int a2, .int a3] (gP sa D ad cy N sz c d0)) (va_Qi (fun (z : Int32) (_ : Unit) => z = rZ) (fun _ U => gE D ad cy N cZ d0 U) (gA ad N sz)) 0 0 (gA ad N sz)) {n : Nat} {t : Nat} {a1 : Nat} {a2 : Int32} {a3 : Int32} {a4 : Int32} {rZ : Int32} {cZ : gm} (h : m_X8_readAgain rs n t a1 a2 a3 a4 c = some (rZ, cZ)) : Met l yX8_readAgain wsX8_readAgain (rmX8_readAgain dd) (va_Pc [.ref (ad t), .ref (ad a1), .int a2, .int a3, .int a4] (gP sa D ad cy N sz c d0)) (va_Qi (fun (z : Int32) (_ : Unit) => z = rZ) (fun _ U => gE D ad cy N cZ d0 U) (gA ad N sz)) 0 0 (gA ad N sz) := by
  refine Met.ofW (cc := cX8_readAgain) (maxL := 6) (ret := (some .boolean)) (by decide) rfl ?_
  intro p e s m args below meth cod s₁ B hml hv
  obtain ⟨rfl, hsz, hP, hK, hZ⟩ := hv
  have hx := B.exec
  have hb := B.bytes
  have hr := B.returns
  have hts := atoms_spec (ws := wsX8_readAgain) B.pre
  have hown : s.vm.findClass RX8 = some m.cls := findClass_of_methodNamed B.named
  have hlocks := B.notSynchronized
  subst hsz
  have hl := lv_entry ([.ref (ad t), .ref (ad a1), .int a2, .int a3, .int a4]) (n := 6) (Nat.le_of_ble_eq_true rfl)
  rw [lg_entry_eq]
  generalize (lg_sl ([.ref (ad t), .ref (ad a1), .int a2, .int a3, .int a4]) ++ List.replicate (6 - (lg_sl ([.ref (ad t), .ref (ad a1), .int a2, .int a3, .int a4])).length) Slot.unset).toArray = ls at hl ⊢
  have hl : lv_has ls 6 [(0, .ref (ad t)), (1, .ref (ad a1)), (2, .int a2), (3, .int a3), (4, .int a4)] := hl
  have in8 : ∀ w ∈ wsX80, w ∈ wsX8_readAgain := by decide +kernel
  generalize hargs : ([.ref (ad t), .ref (ad a1), .int a2, .int a3, .int a4] : List Value).toArray = args at *
  generalize hAe : gA ad N s.heap.size = A
  have F : gF sa D ad cy N A p s m args cod cX8_readAgain 6 wsX8_readAgain RX8 := ⟨hx, hb, hml, hown, hts, hK, hI, by rw [← hAe]; exact gA_ad, by rw [← hAe]; exact gA_sz, by rw [← hAe]; exact hZ⟩
  have G : gW D ad cy N A s.heap c d0 s.heap [] := ⟨hP, va_S.rf⟩
  generalize hQ : MQ below (va_Qi (fun (z : Int32) (_ : Unit) => z = rZ) (fun _ U => gE D ad cy N cZ d0 U) A) args s 0 0 A = Q
  suffices hgen : ∀ (H : Heap) (locs : List Loc), gW D ad cy N A s.heap c d0 H locs → W p l e (rmX8_readAgain dd) s m args below meth cod H locs 0 0 Q (F0 m 0 ls []) from hgen _ _ G
  clear G
  intro H locs G
  unfold m_X8_readAgain at h
  refine lv_aload_n hx hb dX8_readAgain_0 rfl (lv_at hl 0 rfl) ?_
  refine lv_aload_n hx hb dX8_readAgain_1 rfl (lv_at hl 1 rfl) ?_
  refine lv_iconst (v := 0) hx hb dX8_readAgain_2 (by decide) ?_
  refine lv_bipush (v := 60) hx hb dX8_readAgain_3 (by decide) ?_
  refine lv_iload hx hb dX8_readAgain_5 (lv_at hl 4 rfl) ?_
  refine lv_iconst (v := 1) hx hb dX8_readAgain_7 (by decide) ?_
  obtain ⟨hk1, h⟩ := gc_s h
  have ht2 : t < N := Nat.lt_of_lt_of_le (gck_lt8 hk1) hN
  obtain ⟨r4, c5, hc3, h⟩ := gb2_s h
  refine gx_calli F G (va_runV (As := [.ref (ad a1), .int 0, .int 60, .int a4, .int 1]) (rest := []) (gx_fix F) (c_X8_readPart l sa D ad cy N H.size hN hI c d0 hc3) (cwV 5 hts gX8_readAgain_X8_readPart rfl rfl rfl (by decide +kernel) ⟨by simp only [rmX8_readAgain, rmX8_readPart]; omega, by simp only [rmX8_readAgain, rmX8_readPart]; omega⟩) (gx_rec F G ht2 (gwe_8 hk1) rfl) rfl rfl hl.1 rfl (lv_room (Nat.le_of_ble_eq_true rfl)) dX8_readAgain_8 ⟨Nat.zero_le _, Nat.zero_le _⟩) (fun H locs G => ?_)
  obtain ⟨K8, eK8, h⟩ := gj_s h
  have JK8 : ∀ (v6 : Int32) (c7 : gm) (H : Heap) (locs : List Loc) (ls : Array Slot), K8 (v6, c7) = some (rZ, cZ) → gW D ad cy N A s.heap c7 d0 H locs → lv_has ls 6 [(0, .ref (ad t)), (4, .int a4)] → W p l e (rmX8_readAgain dd) s m args below meth cod H locs 0 0 Q (F0 m 49 ls [.int v6]) := by
    intro v6 c7 H locs ls h G hl
    rw [eK8] at h
    replace h := gu2_s h
    refine lv_istore (lv' := [(5, .int v6), (0, .ref (ad t)), (4, .int a4)]) hx hb dX8_readAgain_49 hl (by decide) rfl (fun ls hl => ?_)
    refine lv_aload_n hx hb dX8_readAgain_51 rfl (lv_at hl 1 rfl) ?_
    refine lv_iload hx hb dX8_readAgain_52 (lv_at hl 2 rfl) ?_
    refine lv_iconst (v := 2) hx hb dX8_readAgain_54 (by decide) ?_
    refine lv_aload_n hx hb dX8_readAgain_55 rfl (lv_at hl 1 rfl) ?_
    refine fg_8_size F G hk1 ht2 in8 (by decide +kernel) dX8_readAgain_56 ?_
    obtain ⟨c11, hc9, h⟩ := gb_s h
    refine gx_callv F G (va_runV (As := [.int a4, .int 2, .int (c7.1 t 1)]) (rest := []) (gx_fix F) (c_X8_put l sa D ad cy N H.size hN hI c7 d0 hc9) (cwV 3 hts gX8_readAgain_X8_put rfl rfl rfl (by decide +kernel) ⟨by simp only [rmX8_readAgain, rmX8_put]; omega, by simp only [rmX8_readAgain, rmX8_put]; omega⟩) (gx_rec F G ht2 (gwe_8 hk1) rfl) rfl rfl hl.1 rfl (lv_room (Nat.le_of_ble_eq_true rfl)) dX8_readAgain_59 ⟨Nat.zero_le _, Nat.zero_le _⟩) (fun H locs G => ?_)
    refine lv_iload hx hb dX8_readAgain_62 (lv_at hl 0 rfl) ?_
    obtain ⟨hz12, h⟩ := gc_s h
    cases h
    rw [← hQ]
    exact gx_zret F G hr hlocks (gnb hz12) dX8_readAgain_64
  obtain ⟨K14, eK14, h⟩ := gj_s h
  have JK14 : ∀ (c13 : gm) (H : Heap) (locs : List Loc) (ls : Array Slot), K14 c13 = some (rZ, cZ) → gW D ad cy N A s.heap c13 d0 H locs → lv_has ls 6 [(0, .ref (ad t)), (4, .int a4)] → W p l e (rmX8_readAgain dd) s m args below meth cod H locs 0 0 Q (F0 m 48 ls []) := by
    intro c13 H locs ls h G hl
    rw [eK14] at h
    refine lv_iconst (v := 0) hx hb dX8_readAgain_48 (by decide) ?_
    exact JK8 _ _ _ _ _ h G hl
  refine lv_if_eq (tgt := 48) hx hb dX8_readAgain_11 (by decide) (fun q15 => ?_) (fun q15 => ?_)
  · replace h := gt_s q15 h
    exact JK14 _ _ _ _ h G (lv_sub hl [0, 4] rfl)
  · replace h := gf_s q15 h
    refine lv_aload_n hx hb dX8_readAgain_14 rfl (lv_at hl 1 rfl) ?_
    refine lv_bipush (v := 91) hx hb dX8_readAgain_15 (by decide) ?_
    obtain ⟨hk16, h⟩ := gc_s h
    have ht17 : a1 < N := Nat.lt_of_lt_of_le (gck_lt7 hk16) hN
    obtain ⟨r19, c20, hc18, h⟩ := gb2_s h
    refine gx_calli F G (va_runV (As := [.int 91]) (rest := []) (gx_fix F) (c_X7_takeSign l sa D ad cy N H.size hN hI c5 d0 hc18) (cwV 1 hts gX8_readAgain_X7_takeSign rfl rfl rfl (by decide +kernel) ⟨by simp only [rmX8_readAgain, rmX7_takeSign]; omega, by simp only [rmX8_readAgain, rmX7_takeSign]; omega⟩) (gx_rec F G ht17 (gwe_7 hk16) rfl) rfl rfl hl.1 rfl (lv_room (Nat.le_of_ble_eq_true rfl)) dX8_readAgain_17 ⟨Nat.zero_le _, Nat.zero_le _⟩) (fun H locs G => ?_)
    refine lv_if_eq (tgt := 48) hx hb dX8_readAgain_20 (by decide) (fun q21 => ?_) (fun q21 => ?_)
    · replace h := gt_s q21 h
      exact JK14 _ _ _ _ h G (lv_sub hl [0, 4] rfl)
    · replace h := gf_s q21 h
      refine lv_aload_n hx hb dX8_readAgain_23 rfl (lv_at hl 0 rfl) ?_
      refine lv_aload_n hx hb dX8_readAgain_24 rfl (lv_at hl 1 rfl) ?_
      refine lv_iload_n hx hb dX8_readAgain_25 rfl (lv_at hl 2 rfl) ?_
      refine lv_iload_n hx hb dX8_readAgain_26 rfl (lv_at hl 3 rfl) ?_
      refine lv_iconst (v := 1) hx hb dX8_readAgain_27 (by decide) ?_
      refine lv_iadd hx hb dX8_readAgain_28 ?_
      obtain ⟨r23, c24, hc22, h⟩ := gb2_s h
      refine gx_calli F G (va_runV (As := [.ref (ad a1), .int a2, .int (a3 + 1)]) (rest := []) (gx_fix F) (hrs H.size c20 d0 hc22) (cwV 3 hts gX8_readAgain_X8_readSteps rfl rfl rfl (by decide +kernel) ⟨by simp only [rmX8_readAgain, rmX8_readSteps]; omega, by simp only [rmX8_readAgain, rmX8_readSteps]; omega⟩) (gx_rec F G ht2 (gwe_8 hk1) rfl) rfl rfl hl.1 rfl (lv_room (Nat.le_of_ble_eq_true rfl)) dX8_readAgain_29 ⟨Nat.zero_le _, Nat.zero_le _⟩) (fun H locs G => ?_)
      refine lv_if_eq (tgt := 48) hx hb dX8_readAgain_32 (by decide) (fun q25 => ?_) (fun q25 => ?_)
      · replace h := gt_s q25 h
        exact JK14 _ _ _ _ h G (lv_sub hl [0, 4] rfl)
      · replace h := gf_s q25 h
        refine lv_aload_n hx hb dX8_readAgain_35 rfl (lv_at hl 1 rfl) ?_
        refine lv_bipush (v := 93) hx hb dX8_readAgain_36 (by decide) ?_
        obtain ⟨r27, c28, hc26, h⟩ := gb2_s h
        refine gx_calli F G (va_runV (As := [.int 93]) (rest := []) (gx_fix F) (c_X7_takeSign l sa D ad cy N H.size hN hI c24 d0 hc26) (cwV 1 hts gX8_readAgain_X7_takeSign rfl rfl rfl (by decide +kernel) ⟨by simp only [rmX8_readAgain, rmX7_takeSign]; omega, by simp only [rmX8_readAgain, rmX7_takeSign]; omega⟩) (gx_rec F G ht17 (gwe_7 hk16) rfl) rfl rfl hl.1 rfl (lv_room (Nat.le_of_ble_eq_true rfl)) dX8_readAgain_38 ⟨Nat.zero_le _, Nat.zero_le _⟩) (fun H locs G => ?_)
        refine lv_if_eq (tgt := 48) hx hb dX8_readAgain_41 (by decide) (fun q29 => ?_) (fun q29 => ?_)
        · replace h := gt_s q29 h
          exact JK14 _ _ _ _ h G (lv_sub hl [0, 4] rfl)
        · replace h := gf_s q29 h
          refine lv_iconst (v := 1) hx hb dX8_readAgain_44 (by decide) ?_
          refine lv_goto (tgt := 49) hx hb dX8_readAgain_45 (by decide) ?_
          exact JK8 _ _ _ _ _ h G (lv_sub hl [0, 4] rfl)
def m_X8_readStep (rs : (Nat → Nat → Nat → Int32 → Int32 → gm → Option (Int32 × gm))) (n : Nat) (t : Nat) (a1 : Nat) (a2 : Int32) (a3 : Int32) (c : gm) : Option (Int32 × gm) :=
  gc (gck a1 = 7) (gb2 (m_X7_takeWord n a1 c) (fun (r4 : Int32) (c5 : gm) => (if r4 = 0 then some (0, c5) else gc (gck t = 8) (gv (c5.1 t 1) (fun (x9 : Int32) => gb (m_X7_wordIs n a1 11 c5) (fun (r11 : Int32) => (if r11 = 0 then gb (m_X7_wordIs n a1 12 c5) (fun (r14 : Int32) => (if r14 = 0 then gb (m_X7_wordIs n a1 13 c5) (fun (r17 : Int32) => (if r17 = 0 then gb (m_X7_wordIs n a1 14 c5) (fun (r20 : Int32) => (if r20 = 0 then gb (m_X7_wordIs n a1 4 c5) (fun (r23 : Int32) => (if r23 = 0 then gb (m_X7_wordIs n a1 15 c5) (fun (r26 : Int32) => (if r26 = 0 then gb2 (m_X7_fail a1 1 (c5.1 a1 4) c5) (fun (r42 : Int32) (c43 : gm) => gc (r42 = 0 ∨ r42 = 1) (some (r42, c43))) else (if a3 < 6 then gb2 (m_X8_add t 5 c5) (fun (r30 : Int32) (c31 : gm) => (if r30 = 0 then some (0, c31) else gb2 (m_X8_readAgain rs n t a1 a2 a3 x9 c31) (fun (r34 : Int32) (c35 : gm) => (if r34 = 0 then some (0, c35) else some (1, c35))))) else gb2 (m_X7_fail a1 3 (c5.1 a1 4) c5) (fun (r38 : Int32) (c39 : gm) => gc (r38 = 0 ∨ r38 = 1) (some (r38, c39)))))) else gb2 (m_X8_add t 4 c5) (fun (r46 : Int32) (c47 : gm) => gc (r46 = 0 ∨ r46 = 1) (some (r46, c47))))) else gb2 (m_X8_add t 3 c5) (fun (r50 : Int32) (c51 : gm) => gc (r50 = 0 ∨ r50 = 1) (some (r50, c51))))) else gb2 (m_X8_add t 2 c5) (fun (r54 : Int32) (c55 : gm) => (if r54 = 0 then some (0, c55) else gb2 (m_X8_readPart n t a1 0 (a2 - 1) x9 1 c55) (fun (r58 : Int32) (c59 : gm) => (if r58 = 0 then some (0, c59) else gb2 (m_X8_readPart n t a1 1 30 x9 2 c59) (fun (r62 : Int32) (c63 : gm) => (if r62 = 0 then some (0, c63) else some (1, c63))))))))) else gb2 (m_X8_add t 1 c5) (fun (r66 : Int32) (c67 : gm) => (if r66 = 0 then some (0, c67) else gb2 (m_X8_readPart n t a1 0 9 x9 1 c67) (fun (r70 : Int32) (c71 : gm) => (if r70 = 0 then some (0, c71) else some (1, c71))))))) else gb2 (m_X8_add t 0 c5) (fun (r74 : Int32) (c75 : gm) => (if r74 = 0 then some (0, c75) else gb2 (m_X8_readWeigh n t a1 a2 x9 c75) (fun (r78 : Int32) (c79 : gm) => (if r78 = 0 then some (0, c79) else some (1, c79))))))))))))
abbrev rmX8_readStep (dd : Nat) : Room := { frames := 3 * dd + 8, cells := 0, slots := 0, locals := 73 * dd + 177 }
set_option maxHeartbeats 4000000 in
set_option maxRecDepth 100000 in
theorem c_X8_readStep (l : Launch) (sa : gSa) (D : va_G) (ad : Nat → Nat) (cy : Nat → ClassId) (N sz : Nat) (hN : 55 ≤ N) (hI : gI ad N) (c d0 : gm) (rs : (Nat → Nat → Nat → Int32 → Int32 → gm → Option (Int32 × gm))) (dd : Nat) (hrs : ∀ (sz : Nat) (c d0 : gm) {n : Nat} {t : Nat} {a1 : Nat} {a2 : Int32} {a3 : Int32} {rZ : Int32} {cZ : gm}, rs n t a1 a2 a3 c = some (rZ, cZ) → Met l yX8_readSteps wsX8_readSteps (rmX8_readSteps dd) (va_Pc [.ref (ad t), .ref (ad a1), .int a2, .int a3] (gP sa D ad cy N sz c d0)) (va_Qi (fun (z : Int32) (_ : Unit) => z = rZ) (fun _ U => gE D ad cy N cZ d0 U) (gA ad N sz)) 0 0 (gA ad N sz)) {n : Nat} {t : Nat} {a1 : Nat} {a2 : Int32} {a3 : Int32} {rZ : Int32} {cZ : gm} (h : m_X8_readStep rs n t a1 a2 a3 c = some (rZ, cZ)) : Met l yX8_readStep wsX8_readStep (rmX8_readStep dd) (va_Pc [.ref (ad t), .ref (ad a1), .int a2, .int a3] (gP sa D ad cy N sz c d0)) (va_Qi (fun (z : Int32) (_ : Unit) => z = rZ) (fun _ U => gE D ad cy N cZ d0 U) (gA ad N sz)) 0 0 (gA ad N sz) := by
  refine Met.ofW (cc := cX8_readStep) (maxL := 5) (ret := (some .boolean)) (by decide) rfl ?_
  intro p e s m args below meth cod s₁ B hml hv
  obtain ⟨rfl, hsz, hP, hK, hZ⟩ := hv
  have hx := B.exec
  have hb := B.bytes
  have hr := B.returns
  have hts := atoms_spec (ws := wsX8_readStep) B.pre
  have hown : s.vm.findClass RX8 = some m.cls := findClass_of_methodNamed B.named
  have hlocks := B.notSynchronized
  subst hsz
  have hl := lv_entry ([.ref (ad t), .ref (ad a1), .int a2, .int a3]) (n := 5) (Nat.le_of_ble_eq_true rfl)
  rw [lg_entry_eq]
  generalize (lg_sl ([.ref (ad t), .ref (ad a1), .int a2, .int a3]) ++ List.replicate (5 - (lg_sl ([.ref (ad t), .ref (ad a1), .int a2, .int a3])).length) Slot.unset).toArray = ls at hl ⊢
  have hl : lv_has ls 5 [(0, .ref (ad t)), (1, .ref (ad a1)), (2, .int a2), (3, .int a3)] := hl
  have in7 : ∀ w ∈ wsX70, w ∈ wsX8_readStep := by decide +kernel
  have in8 : ∀ w ∈ wsX80, w ∈ wsX8_readStep := by decide +kernel
  generalize hargs : ([.ref (ad t), .ref (ad a1), .int a2, .int a3] : List Value).toArray = args at *
  generalize hAe : gA ad N s.heap.size = A
  have F : gF sa D ad cy N A p s m args cod cX8_readStep 5 wsX8_readStep RX8 := ⟨hx, hb, hml, hown, hts, hK, hI, by rw [← hAe]; exact gA_ad, by rw [← hAe]; exact gA_sz, by rw [← hAe]; exact hZ⟩
  have G : gW D ad cy N A s.heap c d0 s.heap [] := ⟨hP, va_S.rf⟩
  generalize hQ : MQ below (va_Qi (fun (z : Int32) (_ : Unit) => z = rZ) (fun _ U => gE D ad cy N cZ d0 U) A) args s 0 0 A = Q
  suffices hgen : ∀ (H : Heap) (locs : List Loc), gW D ad cy N A s.heap c d0 H locs → W p l e (rmX8_readStep dd) s m args below meth cod H locs 0 0 Q (F0 m 0 ls []) from hgen _ _ G
  clear G
  intro H locs G
  unfold m_X8_readStep at h
  refine lv_aload_n hx hb dX8_readStep_0 rfl (lv_at hl 1 rfl) ?_
  obtain ⟨hk1, h⟩ := gc_s h
  have ht2 : a1 < N := Nat.lt_of_lt_of_le (gck_lt7 hk1) hN
  obtain ⟨r4, c5, hc3, h⟩ := gb2_s h
  refine gx_calli F G (va_runV (As := []) (rest := []) (gx_fix F) (c_X7_takeWord l sa D ad cy N H.size hN hI c d0 hc3) (cwV 0 hts gX8_readStep_X7_takeWord rfl rfl rfl (by decide +kernel) ⟨by simp only [rmX8_readStep, rmX7_takeWord]; omega, by simp only [rmX8_readStep, rmX7_takeWord]; omega⟩) (gx_rec F G ht2 (gwe_7 hk1) rfl) rfl rfl hl.1 rfl (lv_room (Nat.le_of_ble_eq_true rfl)) dX8_readStep_1 ⟨Nat.zero_le _, Nat.zero_le _⟩) (fun H locs G => ?_)
  refine lv_if_ne (tgt := 9) hx hb dX8_readStep_4 (by decide) (fun q6 => ?_) (fun q6 => ?_)
  · replace h := gf_s q6 h
    refine lv_aload_n hx hb dX8_readStep_9 rfl (lv_at hl 0 rfl) ?_
    obtain ⟨hk7, h⟩ := gc_s h
    have ht8 : t < N := Nat.lt_of_lt_of_le (gck_lt8 hk7) hN
    refine fg_8_size F G hk7 ht8 in8 (by decide +kernel) dX8_readStep_10 ?_
    refine lv_topi (fun x9 ex9 => ?_)
    replace h := gv_s h x9 ex9
    refine lv_istore (lv' := [(4, .int x9), (0, .ref (ad t)), (1, .ref (ad a1)), (2, .int a2), (3, .int a3)]) hx hb dX8_readStep_13 hl (by decide) rfl (fun ls hl => ?_)
    refine lv_aload_n hx hb dX8_readStep_15 rfl (lv_at hl 2 rfl) ?_
    refine gx_ldcS F (w := 11) (tx := "weigh") (by decide) dX8_readStep_16 ?_
    obtain ⟨r11, hc10, h⟩ := gb_s h
    refine gx_calli F G (va_runV (As := [.ref (sa.1 11)]) (rest := []) (gx_fix F) (c_X7_wordIs l sa D ad cy N H.size hN hI c5 d0 hc10) (cwV 1 hts gX8_readStep_X7_wordIs rfl rfl rfl (by decide +kernel) ⟨by simp only [rmX8_readStep, rmX7_wordIs]; omega, by simp only [rmX8_readStep, rmX7_wordIs]; omega⟩) (gx_rec F G ht2 (gwe_7 hk1) rfl) rfl rfl hl.1 rfl (lv_room (Nat.le_of_ble_eq_true rfl)) dX8_readStep_18 ⟨Nat.zero_le _, Nat.zero_le _⟩) (fun H locs G => ?_)
    refine lv_if_eq (tgt := 49) hx hb dX8_readStep_21 (by decide) (fun q12 => ?_) (fun q12 => ?_)
    · replace h := gt_s q12 h
      refine lv_aload_n hx hb dX8_readStep_49 rfl (lv_at hl 2 rfl) ?_
      refine gx_ldcS F (w := 12) (tx := "tip") (by decide) dX8_readStep_50 ?_
      obtain ⟨r14, hc13, h⟩ := gb_s h
      refine gx_calli F G (va_runV (As := [.ref (sa.1 12)]) (rest := []) (gx_fix F) (c_X7_wordIs l sa D ad cy N H.size hN hI c5 d0 hc13) (cwV 1 hts gX8_readStep_X7_wordIs rfl rfl rfl (by decide +kernel) ⟨by simp only [rmX8_readStep, rmX7_wordIs]; omega, by simp only [rmX8_readStep, rmX7_wordIs]; omega⟩) (gx_rec F G ht2 (gwe_7 hk1) rfl) rfl rfl hl.1 rfl (lv_room (Nat.le_of_ble_eq_true rfl)) dX8_readStep_52 ⟨Nat.zero_le _, Nat.zero_le _⟩) (fun H locs G => ?_)
      refine lv_if_eq (tgt := 86) hx hb dX8_readStep_55 (by decide) (fun q15 => ?_) (fun q15 => ?_)
      · replace h := gt_s q15 h
        refine lv_aload_n hx hb dX8_readStep_86 rfl (lv_at hl 2 rfl) ?_
        refine gx_ldcS F (w := 13) (tx := "feed") (by decide) dX8_readStep_87 ?_
        obtain ⟨r17, hc16, h⟩ := gb_s h
        refine gx_calli F G (va_runV (As := [.ref (sa.1 13)]) (rest := []) (gx_fix F) (c_X7_wordIs l sa D ad cy N H.size hN hI c5 d0 hc16) (cwV 1 hts gX8_readStep_X7_wordIs rfl rfl rfl (by decide +kernel) ⟨by simp only [rmX8_readStep, rmX7_wordIs]; omega, by simp only [rmX8_readStep, rmX7_wordIs]; omega⟩) (gx_rec F G ht2 (gwe_7 hk1) rfl) rfl rfl hl.1 rfl (lv_room (Nat.le_of_ble_eq_true rfl)) dX8_readStep_89 ⟨Nat.zero_le _, Nat.zero_le _⟩) (fun H locs G => ?_)
        refine lv_if_eq (tgt := 138) hx hb dX8_readStep_92 (by decide) (fun q18 => ?_) (fun q18 => ?_)
        · replace h := gt_s q18 h
          refine lv_aload_n hx hb dX8_readStep_138 rfl (lv_at hl 2 rfl) ?_
          refine gx_ldcS F (w := 14) (tx := "turn") (by decide) dX8_readStep_139 ?_
          obtain ⟨r20, hc19, h⟩ := gb_s h
          refine gx_calli F G (va_runV (As := [.ref (sa.1 14)]) (rest := []) (gx_fix F) (c_X7_wordIs l sa D ad cy N H.size hN hI c5 d0 hc19) (cwV 1 hts gX8_readStep_X7_wordIs rfl rfl rfl (by decide +kernel) ⟨by simp only [rmX8_readStep, rmX7_wordIs]; omega, by simp only [rmX8_readStep, rmX7_wordIs]; omega⟩) (gx_rec F G ht2 (gwe_7 hk1) rfl) rfl rfl hl.1 rfl (lv_room (Nat.le_of_ble_eq_true rfl)) dX8_readStep_141 ⟨Nat.zero_le _, Nat.zero_le _⟩) (fun H locs G => ?_)
          refine lv_if_eq (tgt := 153) hx hb dX8_readStep_144 (by decide) (fun q21 => ?_) (fun q21 => ?_)
          · replace h := gt_s q21 h
            refine lv_aload_n hx hb dX8_readStep_153 rfl (lv_at hl 2 rfl) ?_
            refine gx_ldcS F (w := 4) (tx := "day") (by decide) dX8_readStep_154 ?_
            obtain ⟨r23, hc22, h⟩ := gb_s h
            refine gx_calli F G (va_runV (As := [.ref (sa.1 4)]) (rest := []) (gx_fix F) (c_X7_wordIs l sa D ad cy N H.size hN hI c5 d0 hc22) (cwV 1 hts gX8_readStep_X7_wordIs rfl rfl rfl (by decide +kernel) ⟨by simp only [rmX8_readStep, rmX7_wordIs]; omega, by simp only [rmX8_readStep, rmX7_wordIs]; omega⟩) (gx_rec F G ht2 (gwe_7 hk1) rfl) rfl rfl hl.1 rfl (lv_room (Nat.le_of_ble_eq_true rfl)) dX8_readStep_156 ⟨Nat.zero_le _, Nat.zero_le _⟩) (fun H locs G => ?_)
            refine lv_if_eq (tgt := 168) hx hb dX8_readStep_159 (by decide) (fun q24 => ?_) (fun q24 => ?_)
            · replace h := gt_s q24 h
              refine lv_aload_n hx hb dX8_readStep_168 rfl (lv_at hl 2 rfl) ?_
              refine gx_ldcS F (w := 15) (tx := "again") (by decide) dX8_readStep_169 ?_
              obtain ⟨r26, hc25, h⟩ := gb_s h
              refine gx_calli F G (va_runV (As := [.ref (sa.1 15)]) (rest := []) (gx_fix F) (c_X7_wordIs l sa D ad cy N H.size hN hI c5 d0 hc25) (cwV 1 hts gX8_readStep_X7_wordIs rfl rfl rfl (by decide +kernel) ⟨by simp only [rmX8_readStep, rmX7_wordIs]; omega, by simp only [rmX8_readStep, rmX7_wordIs]; omega⟩) (gx_rec F G ht2 (gwe_7 hk1) rfl) rfl rfl hl.1 rfl (lv_room (Nat.le_of_ble_eq_true rfl)) dX8_readStep_171 ⟨Nat.zero_le _, Nat.zero_le _⟩) (fun H locs G => ?_)
              refine lv_if_ne (tgt := 187) hx hb dX8_readStep_174 (by decide) (fun q27 => ?_) (fun q27 => ?_)
              · replace h := gf_s q27 h
                refine lv_iload_n hx hb dX8_readStep_187 rfl (lv_at hl 4 rfl) ?_
                refine lv_bipush (v := 6) hx hb dX8_readStep_188 (by decide) ?_
                refine lv_icmp_lt (tgt := 205) hx hb dX8_readStep_190 (by decide) (fun q28 => ?_) (fun q28 => ?_)
                · replace h := gt_s q28 h
                  refine lv_aload_n hx hb dX8_readStep_205 rfl (lv_at hl 1 rfl) ?_
                  refine lv_iconst (v := 5) hx hb dX8_readStep_206 (by decide) ?_
                  obtain ⟨r30, c31, hc29, h⟩ := gb2_s h
                  refine gx_calli F G (va_runV (As := [.int 5]) (rest := []) (gx_fix F) (c_X8_add l sa D ad cy N H.size hN hI c5 d0 hc29) (cwV 1 hts gX8_readStep_X8_add rfl rfl rfl (by decide +kernel) ⟨by simp only [rmX8_readStep, rmX8_add]; omega, by simp only [rmX8_readStep, rmX8_add]; omega⟩) (gx_rec F G ht8 (gwe_8 hk7) rfl) rfl rfl hl.1 rfl (lv_room (Nat.le_of_ble_eq_true rfl)) dX8_readStep_207 ⟨Nat.zero_le _, Nat.zero_le _⟩) (fun H locs G => ?_)
                  refine lv_if_eq (tgt := 229) hx hb dX8_readStep_210 (by decide) (fun q32 => ?_) (fun q32 => ?_)
                  · replace h := gt_s q32 h
                    refine lv_iconst (v := 0) hx hb dX8_readStep_229 (by decide) ?_
                    cases h
                    rw [← hQ]
                    exact gx_zret F G hr hlocks rfl dX8_readStep_230
                  · replace h := gf_s q32 h
                    refine lv_aload_n hx hb dX8_readStep_213 rfl (lv_at hl 1 rfl) ?_
                    refine lv_aload_n hx hb dX8_readStep_214 rfl (lv_at hl 2 rfl) ?_
                    refine lv_iload_n hx hb dX8_readStep_215 rfl (lv_at hl 3 rfl) ?_
                    refine lv_iload_n hx hb dX8_readStep_216 rfl (lv_at hl 4 rfl) ?_
                    refine lv_iload hx hb dX8_readStep_217 (lv_at hl 0 rfl) ?_
                    obtain ⟨r34, c35, hc33, h⟩ := gb2_s h
                    refine gx_calli F G (va_runV (As := [.ref (ad a1), .int a2, .int a3, .int x9]) (rest := []) (gx_fix F) (c_X8_readAgain l sa D ad cy N H.size hN hI c31 d0 rs dd hrs hc33) (cwV 4 hts gX8_readStep_X8_readAgain rfl rfl rfl (by decide +kernel) ⟨by simp only [rmX8_readStep, rmX8_readAgain]; omega, by simp only [rmX8_readStep, rmX8_readAgain]; omega⟩) (gx_rec F G ht8 (gwe_8 hk7) rfl) rfl rfl hl.1 rfl (lv_room (Nat.le_of_ble_eq_true rfl)) dX8_readStep_219 ⟨Nat.zero_le _, Nat.zero_le _⟩) (fun H locs G => ?_)
                    refine lv_if_eq (tgt := 229) hx hb dX8_readStep_222 (by decide) (fun q36 => ?_) (fun q36 => ?_)
                    · replace h := gt_s q36 h
                      refine lv_iconst (v := 0) hx hb dX8_readStep_229 (by decide) ?_
                      cases h
                      rw [← hQ]
                      exact gx_zret F G hr hlocks rfl dX8_readStep_230
                    · replace h := gf_s q36 h
                      refine lv_iconst (v := 1) hx hb dX8_readStep_225 (by decide) ?_
                      refine lv_goto (tgt := 230) hx hb dX8_readStep_226 (by decide) ?_
                      cases h
                      rw [← hQ]
                      exact gx_zret F G hr hlocks rfl dX8_readStep_230
                · replace h := gf_s q28 h
                  refine lv_aload_n hx hb dX8_readStep_193 rfl (lv_at hl 2 rfl) ?_
                  refine lv_iconst (v := 3) hx hb dX8_readStep_194 (by decide) ?_
                  refine lv_aload_n hx hb dX8_readStep_195 rfl (lv_at hl 2 rfl) ?_
                  refine fg_7_mark F G hk1 ht2 in7 (by decide +kernel) dX8_readStep_196 ?_
                  obtain ⟨r38, c39, hc37, h⟩ := gb2_s h
                  refine gx_calli F G (va_runV (As := [.int 3, .int (c5.1 a1 4)]) (rest := []) (gx_fix F) (c_X7_fail l sa D ad cy N H.size hN hI c5 d0 hc37) (cwV 2 hts gX8_readStep_X7_fail rfl rfl rfl (by decide +kernel) ⟨by simp only [rmX8_readStep, rmX7_fail]; omega, by simp only [rmX8_readStep, rmX7_fail]; omega⟩) (gx_rec F G ht2 (gwe_7 hk1) rfl) rfl rfl hl.1 rfl (lv_room (Nat.le_of_ble_eq_true rfl)) dX8_readStep_199 ⟨Nat.zero_le _, Nat.zero_le _⟩) (fun H locs G => ?_)
                  refine lv_goto (tgt := 230) hx hb dX8_readStep_202 (by decide) ?_
                  obtain ⟨hz40, h⟩ := gc_s h
                  cases h
                  rw [← hQ]
                  exact gx_zret F G hr hlocks (gnb hz40) dX8_readStep_230
              · replace h := gt_s q27 h
                refine lv_aload_n hx hb dX8_readStep_177 rfl (lv_at hl 2 rfl) ?_
                refine lv_iconst (v := 1) hx hb dX8_readStep_178 (by decide) ?_
                refine lv_aload_n hx hb dX8_readStep_179 rfl (lv_at hl 2 rfl) ?_
                refine fg_7_mark F G hk1 ht2 in7 (by decide +kernel) dX8_readStep_180 ?_
                obtain ⟨r42, c43, hc41, h⟩ := gb2_s h
                refine gx_calli F G (va_runV (As := [.int 1, .int (c5.1 a1 4)]) (rest := []) (gx_fix F) (c_X7_fail l sa D ad cy N H.size hN hI c5 d0 hc41) (cwV 2 hts gX8_readStep_X7_fail rfl rfl rfl (by decide +kernel) ⟨by simp only [rmX8_readStep, rmX7_fail]; omega, by simp only [rmX8_readStep, rmX7_fail]; omega⟩) (gx_rec F G ht2 (gwe_7 hk1) rfl) rfl rfl hl.1 rfl (lv_room (Nat.le_of_ble_eq_true rfl)) dX8_readStep_183 ⟨Nat.zero_le _, Nat.zero_le _⟩) (fun H locs G => ?_)
                obtain ⟨hz44, h⟩ := gc_s h
                cases h
                rw [← hQ]
                exact gx_zret F G hr hlocks (gnb hz44) dX8_readStep_186
            · replace h := gf_s q24 h
              refine lv_aload_n hx hb dX8_readStep_162 rfl (lv_at hl 1 rfl) ?_
              refine lv_iconst (v := 4) hx hb dX8_readStep_163 (by decide) ?_
              obtain ⟨r46, c47, hc45, h⟩ := gb2_s h
              refine gx_calli F G (va_runV (As := [.int 4]) (rest := []) (gx_fix F) (c_X8_add l sa D ad cy N H.size hN hI c5 d0 hc45) (cwV 1 hts gX8_readStep_X8_add rfl rfl rfl (by decide +kernel) ⟨by simp only [rmX8_readStep, rmX8_add]; omega, by simp only [rmX8_readStep, rmX8_add]; omega⟩) (gx_rec F G ht8 (gwe_8 hk7) rfl) rfl rfl hl.1 rfl (lv_room (Nat.le_of_ble_eq_true rfl)) dX8_readStep_164 ⟨Nat.zero_le _, Nat.zero_le _⟩) (fun H locs G => ?_)
              obtain ⟨hz48, h⟩ := gc_s h
              cases h
              rw [← hQ]
              exact gx_zret F G hr hlocks (gnb hz48) dX8_readStep_167
          · replace h := gf_s q21 h
            refine lv_aload_n hx hb dX8_readStep_147 rfl (lv_at hl 1 rfl) ?_
            refine lv_iconst (v := 3) hx hb dX8_readStep_148 (by decide) ?_
            obtain ⟨r50, c51, hc49, h⟩ := gb2_s h
            refine gx_calli F G (va_runV (As := [.int 3]) (rest := []) (gx_fix F) (c_X8_add l sa D ad cy N H.size hN hI c5 d0 hc49) (cwV 1 hts gX8_readStep_X8_add rfl rfl rfl (by decide +kernel) ⟨by simp only [rmX8_readStep, rmX8_add]; omega, by simp only [rmX8_readStep, rmX8_add]; omega⟩) (gx_rec F G ht8 (gwe_8 hk7) rfl) rfl rfl hl.1 rfl (lv_room (Nat.le_of_ble_eq_true rfl)) dX8_readStep_149 ⟨Nat.zero_le _, Nat.zero_le _⟩) (fun H locs G => ?_)
            obtain ⟨hz52, h⟩ := gc_s h
            cases h
            rw [← hQ]
            exact gx_zret F G hr hlocks (gnb hz52) dX8_readStep_152
        · replace h := gf_s q18 h
          refine lv_aload_n hx hb dX8_readStep_95 rfl (lv_at hl 1 rfl) ?_
          refine lv_iconst (v := 2) hx hb dX8_readStep_96 (by decide) ?_
          obtain ⟨r54, c55, hc53, h⟩ := gb2_s h
          refine gx_calli F G (va_runV (As := [.int 2]) (rest := []) (gx_fix F) (c_X8_add l sa D ad cy N H.size hN hI c5 d0 hc53) (cwV 1 hts gX8_readStep_X8_add rfl rfl rfl (by decide +kernel) ⟨by simp only [rmX8_readStep, rmX8_add]; omega, by simp only [rmX8_readStep, rmX8_add]; omega⟩) (gx_rec F G ht8 (gwe_8 hk7) rfl) rfl rfl hl.1 rfl (lv_room (Nat.le_of_ble_eq_true rfl)) dX8_readStep_97 ⟨Nat.zero_le _, Nat.zero_le _⟩) (fun H locs G => ?_)
          refine lv_if_eq (tgt := 136) hx hb dX8_readStep_100 (by decide) (fun q56 => ?_) (fun q56 => ?_)
          · replace h := gt_s q56 h
            refine lv_iconst (v := 0) hx hb dX8_readStep_136 (by decide) ?_
            cases h
            rw [← hQ]
            exact gx_zret F G hr hlocks rfl dX8_readStep_137
          · replace h := gf_s q56 h
            refine lv_aload_n hx hb dX8_readStep_103 rfl (lv_at hl 1 rfl) ?_
            refine lv_aload_n hx hb dX8_readStep_104 rfl (lv_at hl 2 rfl) ?_
            refine lv_iconst (v := 0) hx hb dX8_readStep_105 (by decide) ?_
            refine lv_iload_n hx hb dX8_readStep_106 rfl (lv_at hl 3 rfl) ?_
            refine lv_iconst (v := 1) hx hb dX8_readStep_107 (by decide) ?_
            refine lv_isub hx hb dX8_readStep_108 ?_
            refine lv_iload hx hb dX8_readStep_109 (lv_at hl 0 rfl) ?_
            refine lv_iconst (v := 1) hx hb dX8_readStep_111 (by decide) ?_
            obtain ⟨r58, c59, hc57, h⟩ := gb2_s h
            refine gx_calli F G (va_runV (As := [.ref (ad a1), .int 0, .int (a2 - 1), .int x9, .int 1]) (rest := []) (gx_fix F) (c_X8_readPart l sa D ad cy N H.size hN hI c55 d0 hc57) (cwV 5 hts gX8_readStep_X8_readPart rfl rfl rfl (by decide +kernel) ⟨by simp only [rmX8_readStep, rmX8_readPart]; omega, by simp only [rmX8_readStep, rmX8_readPart]; omega⟩) (gx_rec F G ht8 (gwe_8 hk7) rfl) rfl rfl hl.1 rfl (lv_room (Nat.le_of_ble_eq_true rfl)) dX8_readStep_112 ⟨Nat.zero_le _, Nat.zero_le _⟩) (fun H locs G => ?_)
            refine lv_if_eq (tgt := 136) hx hb dX8_readStep_115 (by decide) (fun q60 => ?_) (fun q60 => ?_)
            · replace h := gt_s q60 h
              refine lv_iconst (v := 0) hx hb dX8_readStep_136 (by decide) ?_
              cases h
              rw [← hQ]
              exact gx_zret F G hr hlocks rfl dX8_readStep_137
            · replace h := gf_s q60 h
              refine lv_aload_n hx hb dX8_readStep_118 rfl (lv_at hl 1 rfl) ?_
              refine lv_aload_n hx hb dX8_readStep_119 rfl (lv_at hl 2 rfl) ?_
              refine lv_iconst (v := 1) hx hb dX8_readStep_120 (by decide) ?_
              refine lv_bipush (v := 30) hx hb dX8_readStep_121 (by decide) ?_
              refine lv_iload hx hb dX8_readStep_123 (lv_at hl 0 rfl) ?_
              refine lv_iconst (v := 2) hx hb dX8_readStep_125 (by decide) ?_
              obtain ⟨r62, c63, hc61, h⟩ := gb2_s h
              refine gx_calli F G (va_runV (As := [.ref (ad a1), .int 1, .int 30, .int x9, .int 2]) (rest := []) (gx_fix F) (c_X8_readPart l sa D ad cy N H.size hN hI c59 d0 hc61) (cwV 5 hts gX8_readStep_X8_readPart rfl rfl rfl (by decide +kernel) ⟨by simp only [rmX8_readStep, rmX8_readPart]; omega, by simp only [rmX8_readStep, rmX8_readPart]; omega⟩) (gx_rec F G ht8 (gwe_8 hk7) rfl) rfl rfl hl.1 rfl (lv_room (Nat.le_of_ble_eq_true rfl)) dX8_readStep_126 ⟨Nat.zero_le _, Nat.zero_le _⟩) (fun H locs G => ?_)
              refine lv_if_eq (tgt := 136) hx hb dX8_readStep_129 (by decide) (fun q64 => ?_) (fun q64 => ?_)
              · replace h := gt_s q64 h
                refine lv_iconst (v := 0) hx hb dX8_readStep_136 (by decide) ?_
                cases h
                rw [← hQ]
                exact gx_zret F G hr hlocks rfl dX8_readStep_137
              · replace h := gf_s q64 h
                refine lv_iconst (v := 1) hx hb dX8_readStep_132 (by decide) ?_
                refine lv_goto (tgt := 137) hx hb dX8_readStep_133 (by decide) ?_
                cases h
                rw [← hQ]
                exact gx_zret F G hr hlocks rfl dX8_readStep_137
      · replace h := gf_s q15 h
        refine lv_aload_n hx hb dX8_readStep_58 rfl (lv_at hl 1 rfl) ?_
        refine lv_iconst (v := 1) hx hb dX8_readStep_59 (by decide) ?_
        obtain ⟨r66, c67, hc65, h⟩ := gb2_s h
        refine gx_calli F G (va_runV (As := [.int 1]) (rest := []) (gx_fix F) (c_X8_add l sa D ad cy N H.size hN hI c5 d0 hc65) (cwV 1 hts gX8_readStep_X8_add rfl rfl rfl (by decide +kernel) ⟨by simp only [rmX8_readStep, rmX8_add]; omega, by simp only [rmX8_readStep, rmX8_add]; omega⟩) (gx_rec F G ht8 (gwe_8 hk7) rfl) rfl rfl hl.1 rfl (lv_room (Nat.le_of_ble_eq_true rfl)) dX8_readStep_60 ⟨Nat.zero_le _, Nat.zero_le _⟩) (fun H locs G => ?_)
        refine lv_if_eq (tgt := 84) hx hb dX8_readStep_63 (by decide) (fun q68 => ?_) (fun q68 => ?_)
        · replace h := gt_s q68 h
          refine lv_iconst (v := 0) hx hb dX8_readStep_84 (by decide) ?_
          cases h
          rw [← hQ]
          exact gx_zret F G hr hlocks rfl dX8_readStep_85
        · replace h := gf_s q68 h
          refine lv_aload_n hx hb dX8_readStep_66 rfl (lv_at hl 1 rfl) ?_
          refine lv_aload_n hx hb dX8_readStep_67 rfl (lv_at hl 2 rfl) ?_
          refine lv_iconst (v := 0) hx hb dX8_readStep_68 (by decide) ?_
          refine lv_bipush (v := 9) hx hb dX8_readStep_69 (by decide) ?_
          refine lv_iload hx hb dX8_readStep_71 (lv_at hl 0 rfl) ?_
          refine lv_iconst (v := 1) hx hb dX8_readStep_73 (by decide) ?_
          obtain ⟨r70, c71, hc69, h⟩ := gb2_s h
          refine gx_calli F G (va_runV (As := [.ref (ad a1), .int 0, .int 9, .int x9, .int 1]) (rest := []) (gx_fix F) (c_X8_readPart l sa D ad cy N H.size hN hI c67 d0 hc69) (cwV 5 hts gX8_readStep_X8_readPart rfl rfl rfl (by decide +kernel) ⟨by simp only [rmX8_readStep, rmX8_readPart]; omega, by simp only [rmX8_readStep, rmX8_readPart]; omega⟩) (gx_rec F G ht8 (gwe_8 hk7) rfl) rfl rfl hl.1 rfl (lv_room (Nat.le_of_ble_eq_true rfl)) dX8_readStep_74 ⟨Nat.zero_le _, Nat.zero_le _⟩) (fun H locs G => ?_)
          refine lv_if_eq (tgt := 84) hx hb dX8_readStep_77 (by decide) (fun q72 => ?_) (fun q72 => ?_)
          · replace h := gt_s q72 h
            refine lv_iconst (v := 0) hx hb dX8_readStep_84 (by decide) ?_
            cases h
            rw [← hQ]
            exact gx_zret F G hr hlocks rfl dX8_readStep_85
          · replace h := gf_s q72 h
            refine lv_iconst (v := 1) hx hb dX8_readStep_80 (by decide) ?_
            refine lv_goto (tgt := 85) hx hb dX8_readStep_81 (by decide) ?_
            cases h
            rw [← hQ]
            exact gx_zret F G hr hlocks rfl dX8_readStep_85
    · replace h := gf_s q12 h
      refine lv_aload_n hx hb dX8_readStep_24 rfl (lv_at hl 1 rfl) ?_
      refine lv_iconst (v := 0) hx hb dX8_readStep_25 (by decide) ?_
      obtain ⟨r74, c75, hc73, h⟩ := gb2_s h
      refine gx_calli F G (va_runV (As := [.int 0]) (rest := []) (gx_fix F) (c_X8_add l sa D ad cy N H.size hN hI c5 d0 hc73) (cwV 1 hts gX8_readStep_X8_add rfl rfl rfl (by decide +kernel) ⟨by simp only [rmX8_readStep, rmX8_add]; omega, by simp only [rmX8_readStep, rmX8_add]; omega⟩) (gx_rec F G ht8 (gwe_8 hk7) rfl) rfl rfl hl.1 rfl (lv_room (Nat.le_of_ble_eq_true rfl)) dX8_readStep_26 ⟨Nat.zero_le _, Nat.zero_le _⟩) (fun H locs G => ?_)
      refine lv_if_eq (tgt := 47) hx hb dX8_readStep_29 (by decide) (fun q76 => ?_) (fun q76 => ?_)
      · replace h := gt_s q76 h
        refine lv_iconst (v := 0) hx hb dX8_readStep_47 (by decide) ?_
        cases h
        rw [← hQ]
        exact gx_zret F G hr hlocks rfl dX8_readStep_48
      · replace h := gf_s q76 h
        refine lv_aload_n hx hb dX8_readStep_32 rfl (lv_at hl 1 rfl) ?_
        refine lv_aload_n hx hb dX8_readStep_33 rfl (lv_at hl 2 rfl) ?_
        refine lv_iload_n hx hb dX8_readStep_34 rfl (lv_at hl 3 rfl) ?_
        refine lv_iload hx hb dX8_readStep_35 (lv_at hl 0 rfl) ?_
        obtain ⟨r78, c79, hc77, h⟩ := gb2_s h
        refine gx_calli F G (va_runV (As := [.ref (ad a1), .int a2, .int x9]) (rest := []) (gx_fix F) (c_X8_readWeigh l sa D ad cy N H.size hN hI c75 d0 hc77) (cwV 3 hts gX8_readStep_X8_readWeigh rfl rfl rfl (by decide +kernel) ⟨by simp only [rmX8_readStep, rmX8_readWeigh]; omega, by simp only [rmX8_readStep, rmX8_readWeigh]; omega⟩) (gx_rec F G ht8 (gwe_8 hk7) rfl) rfl rfl hl.1 rfl (lv_room (Nat.le_of_ble_eq_true rfl)) dX8_readStep_37 ⟨Nat.zero_le _, Nat.zero_le _⟩) (fun H locs G => ?_)
        refine lv_if_eq (tgt := 47) hx hb dX8_readStep_40 (by decide) (fun q80 => ?_) (fun q80 => ?_)
        · replace h := gt_s q80 h
          refine lv_iconst (v := 0) hx hb dX8_readStep_47 (by decide) ?_
          cases h
          rw [← hQ]
          exact gx_zret F G hr hlocks rfl dX8_readStep_48
        · replace h := gf_s q80 h
          refine lv_iconst (v := 1) hx hb dX8_readStep_43 (by decide) ?_
          refine lv_goto (tgt := 48) hx hb dX8_readStep_44 (by decide) ?_
          cases h
          rw [← hQ]
          exact gx_zret F G hr hlocks rfl dX8_readStep_48
  · replace h := gt_s q6 h
    refine lv_iconst (v := 0) hx hb dX8_readStep_7 (by decide) ?_
    cases h
    rw [← hQ]
    exact gx_zret F G hr hlocks rfl dX8_readStep_8
def m_X8_readSteps_L3 (rs : (Nat → Nat → Nat → Int32 → Int32 → gm → Option (Int32 × gm))) (n : Nat) (t : Nat) (a1 : Nat) (a2 : Int32) (a3 : Int32) (y2 : Int32) (c3 : gm) : Option ((Int32 × gm) ⊕ ((Int32 × gm) ⊕ (gm))) :=
  (if 38 ≤ y2 then some (.inr (.inr c3)) else gc (gck a1 = 7) (gb2 (m_X7_hasMore n a1 c3) (fun (r9 : Int32) (c10 : gm) => (if r9 = 0 then some (.inr (.inr c10)) else gj (fun (c12 : gm) => gc (gck t = 8) (gb2 (m_X8_readStep rs n t a1 a2 a3 c12) (fun (r17 : Int32) (c18 : gm) => (if r17 = 0 then some (.inr (.inl (0, c18))) else gb2 (m_X7_takeSign n a1 59 c18) (fun (r21 : Int32) (c22 : gm) => (if r21 = 0 then some (.inr (.inl (0, c22))) else gv (y2 + 1) (fun (x24 : Int32) => some (.inl (x24, c22))))))))) (fun K13 => (if a3 ≤ 0 then K13 c10 else gb2 (m_X7_peek n a1 c10) (fun (r27 : Int32) (c28 : gm) => (if r27 = 93 then some (.inr (.inl (1, c28))) else K13 c28))))))))
def m_X8_readSteps_b (rs : (Nat → Nat → Nat → Int32 → Int32 → gm → Option (Int32 × gm))) (n : Nat) (t : Nat) (a1 : Nat) (a2 : Int32) (a3 : Int32) (c : gm) : Option (Int32 × gm) :=
  gb (gloop (gu2 (fun (y2 : Int32) (c3 : gm) => m_X8_readSteps_L3 rs n t a1 a2 a3 y2 c3)) n (0, c)) (gsm (fun (c4 : gm) => some (1, c4)))

set_option maxHeartbeats 4000000 in
set_option maxRecDepth 100000 in
theorem c_X8_readSteps_b (l : Launch) (sa : gSa) (D : va_G) (ad : Nat → Nat) (cy : Nat → ClassId) (N sz : Nat) (hN : 55 ≤ N) (hI : gI ad N) (c d0 : gm) (rs : (Nat → Nat → Nat → Int32 → Int32 → gm → Option (Int32 × gm))) (dd : Nat) (hrs : ∀ (sz : Nat) (c d0 : gm) {n : Nat} {t : Nat} {a1 : Nat} {a2 : Int32} {a3 : Int32} {rZ : Int32} {cZ : gm}, rs n t a1 a2 a3 c = some (rZ, cZ) → Met l yX8_readSteps wsX8_readSteps (rmX8_readSteps dd) (va_Pc [.ref (ad t), .ref (ad a1), .int a2, .int a3] (gP sa D ad cy N sz c d0)) (va_Qi (fun (z : Int32) (_ : Unit) => z = rZ) (fun _ U => gE D ad cy N cZ d0 U) (gA ad N sz)) 0 0 (gA ad N sz)) {n : Nat} {t : Nat} {a1 : Nat} {a2 : Int32} {a3 : Int32} {rZ : Int32} {cZ : gm} (h : m_X8_readSteps_b rs n t a1 a2 a3 c = some (rZ, cZ)) : Met l yX8_readSteps wsX8_readSteps (rmX8_readSteps (dd + 1)) (va_Pc [.ref (ad t), .ref (ad a1), .int a2, .int a3] (gP sa D ad cy N sz c d0)) (va_Qi (fun (z : Int32) (_ : Unit) => z = rZ) (fun _ U => gE D ad cy N cZ d0 U) (gA ad N sz)) 0 0 (gA ad N sz) := by
  refine Met.ofW (cc := cX8_readSteps) (maxL := 5) (ret := (some .boolean)) (by decide) rfl ?_
  intro p e s m args below meth cod s₁ B hml hv
  obtain ⟨rfl, hsz, hP, hK, hZ⟩ := hv
  have hx := B.exec
  have hb := B.bytes
  have hr := B.returns
  have hts := atoms_spec (ws := wsX8_readSteps) B.pre
  have hown : s.vm.findClass RX8 = some m.cls := findClass_of_methodNamed B.named
  have hlocks := B.notSynchronized
  subst hsz
  have hl := lv_entry ([.ref (ad t), .ref (ad a1), .int a2, .int a3]) (n := 5) (Nat.le_of_ble_eq_true rfl)
  rw [lg_entry_eq]
  generalize (lg_sl ([.ref (ad t), .ref (ad a1), .int a2, .int a3]) ++ List.replicate (5 - (lg_sl ([.ref (ad t), .ref (ad a1), .int a2, .int a3])).length) Slot.unset).toArray = ls at hl ⊢
  have hl : lv_has ls 5 [(0, .ref (ad t)), (1, .ref (ad a1)), (2, .int a2), (3, .int a3)] := hl
  generalize hargs : ([.ref (ad t), .ref (ad a1), .int a2, .int a3] : List Value).toArray = args at *
  generalize hAe : gA ad N s.heap.size = A
  have F : gF sa D ad cy N A p s m args cod cX8_readSteps 5 wsX8_readSteps RX8 := ⟨hx, hb, hml, hown, hts, hK, hI, by rw [← hAe]; exact gA_ad, by rw [← hAe]; exact gA_sz, by rw [← hAe]; exact hZ⟩
  have G : gW D ad cy N A s.heap c d0 s.heap [] := ⟨hP, va_S.rf⟩
  generalize hQ : MQ below (va_Qi (fun (z : Int32) (_ : Unit) => z = rZ) (fun _ U => gE D ad cy N cZ d0 U) A) args s 0 0 A = Q
  suffices hgen : ∀ (H : Heap) (locs : List Loc), gW D ad cy N A s.heap c d0 H locs → W p l e (rmX8_readSteps (dd + 1)) s m args below meth cod H locs 0 0 Q (F0 m 0 ls []) from hgen _ _ G
  clear G
  intro H locs G
  unfold m_X8_readSteps_b at h
  refine lv_iconst (v := 0) hx hb dX8_readSteps_0 (by decide) ?_
  refine lv_istore (lv' := [(4, .int 0), (0, .ref (ad t)), (1, .ref (ad a1)), (2, .int a2), (3, .int a3)]) hx hb dX8_readSteps_1 hl (by decide) rfl (fun ls hl => ?_)
  obtain ⟨b1, hb1, hK1⟩ := gb_s h
  have E1 : ∀ (c4 : gm) (H : Heap) (locs : List Loc) (ls : Array Slot), (Sum.inr c4 : (Int32 × gm) ⊕ (gm)) = b1 → gW D ad cy N A s.heap c4 d0 H locs → lv_has ls 5 [] → W p l e (rmX8_readSteps (dd + 1)) s m args below meth cod H locs 0 0 Q (F0 m 59 ls []) := by
    intro c4 H locs ls hq1 G hl
    subst hq1
    replace hK1 := gsm_r hK1
    have h := hK1
    refine lv_iconst (v := 1) hx hb dX8_readSteps_59 (by decide) ?_
    cases h
    rw [← hQ]
    exact gx_zret F G hr hlocks rfl dX8_readSteps_60
  have L1 : ∀ (n9 : Nat) (y2 : Int32) (c3 : gm) (H : Heap) (locs : List Loc) (ls : Array Slot), gloop (gu2 (fun (y2 : Int32) (c3 : gm) => m_X8_readSteps_L3 rs n t a1 a2 a3 y2 c3)) n9 (y2, c3) = some b1 → gW D ad cy N A s.heap c3 d0 H locs → lv_has ls 5 [(0, .ref (ad t)), (1, .ref (ad a1)), (2, .int a2), (3, .int a3), (4, .int y2)] → W p l e (rmX8_readSteps (dd + 1)) s m args below meth cod H locs 0 0 Q (F0 m 3 ls []) := by
    intro n9
    induction n9 with
    | zero => intro y2 c3 H locs ls h; exact (gloop_0 h).elim
    | succ n9 ih =>
      intro y2 c3 H locs ls h G hl
      have ih1 := ih
      obtain ⟨o1, h, hn1⟩ := gloop_s h
      replace h := gu2_s h
      unfold m_X8_readSteps_L3 at h
      refine lv_iload hx hb dX8_readSteps_3 (lv_at hl 4 rfl) ?_
      refine lv_bipush (v := 38) hx hb dX8_readSteps_5 (by decide) ?_
      refine lv_icmp_ge (tgt := 59) hx hb dX8_readSteps_7 (by decide) (fun q5 => ?_) (fun q5 => ?_)
      · replace h := gt_s q5 h
        cases h
        exact E1 _ _ _ _ (gnx_r hn1) G (lv_sub hl [] rfl)
      · replace h := gf_s q5 h
        refine lv_aload_n hx hb dX8_readSteps_10 rfl (lv_at hl 1 rfl) ?_
        obtain ⟨hk6, h⟩ := gc_s h
        have ht7 : a1 < N := Nat.lt_of_lt_of_le (gck_lt7 hk6) hN
        obtain ⟨r9, c10, hc8, h⟩ := gb2_s h
        refine gx_calli F G (va_runV (As := []) (rest := []) (gx_fix F) (c_X7_hasMore l sa D ad cy N H.size hN hI c3 d0 hc8) (cwV 0 hts gX8_readSteps_X7_hasMore rfl rfl rfl (by decide +kernel) ⟨by simp only [rmX8_readSteps, rmX7_hasMore]; omega, by simp only [rmX8_readSteps, rmX7_hasMore]; omega⟩) (gx_rec F G ht7 (gwe_7 hk6) rfl) rfl rfl hl.1 rfl (lv_room (Nat.le_of_ble_eq_true rfl)) dX8_readSteps_11 ⟨Nat.zero_le _, Nat.zero_le _⟩) (fun H locs G => ?_)
        refine lv_if_eq (tgt := 59) hx hb dX8_readSteps_14 (by decide) (fun q11 => ?_) (fun q11 => ?_)
        · replace h := gt_s q11 h
          cases h
          exact E1 _ _ _ _ (gnx_r hn1) G (lv_sub hl [] rfl)
        · replace h := gf_s q11 h
          refine lv_iload_n hx hb dX8_readSteps_17 rfl (lv_at hl 3 rfl) ?_
          obtain ⟨K13, eK13, h⟩ := gj_s h
          have JK13 : ∀ (c12 : gm) (H : Heap) (locs : List Loc) (ls : Array Slot), K13 c12 = some o1 → gW D ad cy N A s.heap c12 d0 H locs → lv_has ls 5 [(0, .ref (ad t)), (1, .ref (ad a1)), (2, .int a2), (3, .int a3), (4, .int y2)] → W p l e (rmX8_readSteps (dd + 1)) s m args below meth cod H locs 0 0 Q (F0 m 32 ls []) := by
            intro c12 H locs ls h G hl
            rw [eK13] at h
            refine lv_aload_n hx hb dX8_readSteps_32 rfl (lv_at hl 0 rfl) ?_
            refine lv_aload_n hx hb dX8_readSteps_33 rfl (lv_at hl 1 rfl) ?_
            refine lv_iload_n hx hb dX8_readSteps_34 rfl (lv_at hl 2 rfl) ?_
            refine lv_iload_n hx hb dX8_readSteps_35 rfl (lv_at hl 3 rfl) ?_
            obtain ⟨hk14, h⟩ := gc_s h
            have ht15 : t < N := Nat.lt_of_lt_of_le (gck_lt8 hk14) hN
            obtain ⟨r17, c18, hc16, h⟩ := gb2_s h
            refine gx_calli F G (va_runV (As := [.ref (ad a1), .int a2, .int a3]) (rest := []) (gx_fix F) (c_X8_readStep l sa D ad cy N H.size hN hI c12 d0 rs dd hrs hc16) (cwV 3 hts gX8_readSteps_X8_readStep rfl rfl rfl (by decide +kernel) ⟨by simp only [rmX8_readSteps, rmX8_readStep]; omega, by simp only [rmX8_readSteps, rmX8_readStep]; omega⟩) (gx_rec F G ht15 (gwe_8 hk14) rfl) rfl rfl hl.1 rfl (lv_room (Nat.le_of_ble_eq_true rfl)) dX8_readSteps_36 ⟨Nat.zero_le _, Nat.zero_le _⟩) (fun H locs G => ?_)
            refine lv_if_eq (tgt := 51) hx hb dX8_readSteps_39 (by decide) (fun q19 => ?_) (fun q19 => ?_)
            · replace h := gt_s q19 h
              refine lv_iconst (v := 0) hx hb dX8_readSteps_51 (by decide) ?_
              cases h
              cases gnx_r hn1
              cases gsm_l hK1
              rw [← hQ]
              exact gx_zret F G hr hlocks rfl dX8_readSteps_52
            · replace h := gf_s q19 h
              refine lv_aload_n hx hb dX8_readSteps_42 rfl (lv_at hl 1 rfl) ?_
              refine lv_bipush (v := 59) hx hb dX8_readSteps_43 (by decide) ?_
              obtain ⟨r21, c22, hc20, h⟩ := gb2_s h
              refine gx_calli F G (va_runV (As := [.int 59]) (rest := []) (gx_fix F) (c_X7_takeSign l sa D ad cy N H.size hN hI c18 d0 hc20) (cwV 1 hts gX8_readSteps_X7_takeSign rfl rfl rfl (by decide +kernel) ⟨by simp only [rmX8_readSteps, rmX7_takeSign]; omega, by simp only [rmX8_readSteps, rmX7_takeSign]; omega⟩) (gx_rec F G ht7 (gwe_7 hk6) rfl) rfl rfl hl.1 rfl (lv_room (Nat.le_of_ble_eq_true rfl)) dX8_readSteps_45 ⟨Nat.zero_le _, Nat.zero_le _⟩) (fun H locs G => ?_)
              refine lv_if_ne (tgt := 53) hx hb dX8_readSteps_48 (by decide) (fun q23 => ?_) (fun q23 => ?_)
              · replace h := gf_s q23 h
                obtain ⟨x24, ex24⟩ : ∃ z : Int32, z = y2 + 1 := ⟨_, rfl⟩
                replace h := gv_s h x24 ex24
                refine lv_iinc (v := x24) (lv' := [(4, .int x24), (0, .ref (ad t)), (1, .ref (ad a1)), (2, .int a2), (3, .int a3)]) hx hb dX8_readSteps_53 hl (k := 4) rfl (by rw [ex24]; rfl) (by decide) rfl (fun ls hl => ?_)
                refine lv_goto (tgt := 3) hx hb dX8_readSteps_56 (by decide) ?_
                cases h
                exact ih1 _ _ _ _ _ hn1 G (lv_sub hl [1, 2, 3, 4, 0] rfl)
              · replace h := gt_s q23 h
                refine lv_iconst (v := 0) hx hb dX8_readSteps_51 (by decide) ?_
                cases h
                cases gnx_r hn1
                cases gsm_l hK1
                rw [← hQ]
                exact gx_zret F G hr hlocks rfl dX8_readSteps_52
          refine lv_if_le (tgt := 32) hx hb dX8_readSteps_18 (by decide) (fun q25 => ?_) (fun q25 => ?_)
          · replace h := gt_s q25 h
            exact JK13 _ _ _ _ h G hl
          · replace h := gf_s q25 h
            refine lv_aload_n hx hb dX8_readSteps_21 rfl (lv_at hl 1 rfl) ?_
            obtain ⟨r27, c28, hc26, h⟩ := gb2_s h
            refine gx_calli F G (va_runV (As := []) (rest := []) (gx_fix F) (c_X7_peek l sa D ad cy N H.size hN hI c10 d0 hc26) (cwV 0 hts gX8_readSteps_X7_peek rfl rfl rfl (by decide +kernel) ⟨by simp only [rmX8_readSteps, rmX7_peek]; omega, by simp only [rmX8_readSteps, rmX7_peek]; omega⟩) (gx_rec F G ht7 (gwe_7 hk6) rfl) rfl rfl hl.1 rfl (lv_room (Nat.le_of_ble_eq_true rfl)) dX8_readSteps_22 ⟨Nat.zero_le _, Nat.zero_le _⟩) (fun H locs G => ?_)
            refine lv_bipush (v := 93) hx hb dX8_readSteps_25 (by decide) ?_
            refine lv_icmp_ne (tgt := 32) hx hb dX8_readSteps_27 (by decide) (fun q29 => ?_) (fun q29 => ?_)
            · replace h := gf_s q29 h
              exact JK13 _ _ _ _ h G hl
            · replace h := gt_s q29 h
              refine lv_iconst (v := 1) hx hb dX8_readSteps_30 (by decide) ?_
              cases h
              cases gnx_r hn1
              cases gsm_l hK1
              rw [← hQ]
              exact gx_zret F G hr hlocks rfl dX8_readSteps_31
  exact L1 n _ _ _ _ _ hb1 G (lv_sub hl [1, 2, 3, 4, 0] rfl)
def m_X8_readSteps : Nat → (Nat → Nat → Nat → Int32 → Int32 → gm → Option (Int32 × gm))
  | 0 => fun _ _ _ _ _ _ => none
  | dd + 1 => m_X8_readSteps_b (m_X8_readSteps dd)
theorem c_X8_readSteps (l : Launch) (sa : gSa) (D : va_G) (ad : Nat → Nat) (cy : Nat → ClassId) (N : Nat) (hN : 55 ≤ N) (hI : gI ad N) (dd : Nat) : ∀ (sz : Nat) (c d0 : gm) {n : Nat} {t : Nat} {a1 : Nat} {a2 : Int32} {a3 : Int32} {rZ : Int32} {cZ : gm}, m_X8_readSteps dd n t a1 a2 a3 c = some (rZ, cZ) → Met l yX8_readSteps wsX8_readSteps (rmX8_readSteps dd) (va_Pc [.ref (ad t), .ref (ad a1), .int a2, .int a3] (gP sa D ad cy N sz c d0)) (va_Qi (fun (z : Int32) (_ : Unit) => z = rZ) (fun _ U => gE D ad cy N cZ d0 U) (gA ad N sz)) 0 0 (gA ad N sz) := by
  induction dd with
  | zero => intro _ _ _ _ _ _ _ _ _ _ h; have h2 : none = some _ := h; cases h2
  | succ dd ih => intro sz c d0 _ _ _ _ _ _ _ h; exact c_X8_readSteps_b l sa D ad cy N sz hN hI c d0 (m_X8_readSteps dd) dd (fun sz c d0 _ _ _ _ _ _ _ h => ih sz c d0 h) h

def m_X8_readFrom (n : Nat) (t : Nat) (a1 : Nat) (a2 : Int32) (c : gm) : Option (Int32 × gm) :=
  gc (gck t = 8) (gv (gm_r c t (upd (c.1 t) 1 0)) (fun (c3 : gm) => gb2 (m_X8_readSteps 12 n t a1 a2 0 c3) (fun (r5 : Int32) (c6 : gm) => gc (r5 = 0 ∨ r5 = 1) (some (r5, c6)))))
abbrev rmX8_readFrom : Room := { frames := 43, cells := 0, slots := 0, locals := 1028 }
set_option maxHeartbeats 4000000 in
set_option maxRecDepth 100000 in
theorem c_X8_readFrom (l : Launch) (sa : gSa) (D : va_G) (ad : Nat → Nat) (cy : Nat → ClassId) (N sz : Nat) (hN : 55 ≤ N) (hI : gI ad N) (c d0 : gm) {n : Nat} {t : Nat} {a1 : Nat} {a2 : Int32} {rZ : Int32} {cZ : gm} (h : m_X8_readFrom n t a1 a2 c = some (rZ, cZ)) : Met l yX8_readFrom wsX8_readFrom rmX8_readFrom (va_Pc [.ref (ad t), .ref (ad a1), .int a2] (gP sa D ad cy N sz c d0)) (va_Qi (fun (z : Int32) (_ : Unit) => z = rZ) (fun _ U => gE D ad cy N cZ d0 U) (gA ad N sz)) 0 0 (gA ad N sz) := by
  refine Met.ofW (cc := cX8_readFrom) (maxL := 3) (ret := (some .boolean)) (by decide) rfl ?_
  intro p e s m args below meth cod s₁ B hml hv
  obtain ⟨rfl, hsz, hP, hK, hZ⟩ := hv
  have hx := B.exec
  have hb := B.bytes
  have hr := B.returns
  have hts := atoms_spec (ws := wsX8_readFrom) B.pre
  have hown : s.vm.findClass RX8 = some m.cls := findClass_of_methodNamed B.named
  have hlocks := B.notSynchronized
  subst hsz
  have hl := lv_entry ([.ref (ad t), .ref (ad a1), .int a2]) (n := 3) (Nat.le_of_ble_eq_true rfl)
  rw [lg_entry_eq]
  generalize (lg_sl ([.ref (ad t), .ref (ad a1), .int a2]) ++ List.replicate (3 - (lg_sl ([.ref (ad t), .ref (ad a1), .int a2])).length) Slot.unset).toArray = ls at hl ⊢
  have hl : lv_has ls 3 [(0, .ref (ad t)), (1, .ref (ad a1)), (2, .int a2)] := hl
  have in8 : ∀ w ∈ wsX80, w ∈ wsX8_readFrom := by decide +kernel
  generalize hargs : ([.ref (ad t), .ref (ad a1), .int a2] : List Value).toArray = args at *
  generalize hAe : gA ad N s.heap.size = A
  have F : gF sa D ad cy N A p s m args cod cX8_readFrom 3 wsX8_readFrom RX8 := ⟨hx, hb, hml, hown, hts, hK, hI, by rw [← hAe]; exact gA_ad, by rw [← hAe]; exact gA_sz, by rw [← hAe]; exact hZ⟩
  have G : gW D ad cy N A s.heap c d0 s.heap [] := ⟨hP, va_S.rf⟩
  generalize hQ : MQ below (va_Qi (fun (z : Int32) (_ : Unit) => z = rZ) (fun _ U => gE D ad cy N cZ d0 U) A) args s 0 0 A = Q
  suffices hgen : ∀ (H : Heap) (locs : List Loc), gW D ad cy N A s.heap c d0 H locs → W p l e rmX8_readFrom s m args below meth cod H locs 0 0 Q (F0 m 0 ls []) from hgen _ _ G
  clear G
  intro H locs G
  unfold m_X8_readFrom at h
  refine lv_aload_n hx hb dX8_readFrom_0 rfl (lv_at hl 0 rfl) ?_
  refine lv_iconst (v := 0) hx hb dX8_readFrom_1 (by decide) ?_
  obtain ⟨hk1, h⟩ := gc_s h
  have ht2 : t < N := Nat.lt_of_lt_of_le (gck_lt8 hk1) hN
  refine fp_8_size F G hk1 ht2 in8 (by decide +kernel) dX8_readFrom_2 (fun H locs G => ?_)
  obtain ⟨c3, ec3⟩ : ∃ z, z = gm_r c t (upd (c.1 t) 1 0) := ⟨_, rfl⟩
  rw [← ec3] at G
  replace h := gv_s h c3 ec3
  refine lv_aload_n hx hb dX8_readFrom_5 rfl (lv_at hl 0 rfl) ?_
  refine lv_aload_n hx hb dX8_readFrom_6 rfl (lv_at hl 1 rfl) ?_
  refine lv_iload_n hx hb dX8_readFrom_7 rfl (lv_at hl 2 rfl) ?_
  refine lv_iconst (v := 0) hx hb dX8_readFrom_8 (by decide) ?_
  obtain ⟨r5, c6, hc4, h⟩ := gb2_s h
  refine gx_calli F G (va_runV (As := [.ref (ad a1), .int a2, .int 0]) (rest := []) (gx_fix F) (c_X8_readSteps l sa D ad cy N hN hI 12 H.size c3 d0 hc4) (cwV 3 hts gX8_readFrom_X8_readSteps rfl rfl rfl (by decide +kernel) ⟨by decide, by decide⟩) (gx_rec F G ht2 (gwe_8 hk1) rfl) rfl rfl hl.1 rfl (lv_room (Nat.le_of_ble_eq_true rfl)) dX8_readFrom_9 ⟨Nat.zero_le _, Nat.zero_le _⟩) (fun H locs G => ?_)
  obtain ⟨hz7, h⟩ := gc_s h
  cases h
  rw [← hQ]
  exact gx_zret F G hr hlocks (gnb hz7) dX8_readFrom_12
def m_X8_doStep (n : Nat) (t : Nat) (a1 : Nat) (a2 : Nat) (a3 : Int32) (c : gm) : Option (Int32 × gm) :=
  gc (gck t = 8) (gb (m_X8_part t a3 0 c) (fun (r4 : Int32) => (if r4 = 0 then gb (m_X8_part t a3 1 c) (fun (r7 : Int32) => gb (m_X8_part t a3 2 c) (fun (r9 : Int32) => gb (m_X8_part t a3 3 c) (fun (r11 : Int32) => gb (m_X8_part t a3 4 c) (fun (r13 : Int32) => gc (gck a1 = 6) (gb2 (m_X6_weigh n a1 r7 r9 r11 r13 c) (fun (r17 : Int32) (c18 : gm) => gc (r17 = 0 ∨ r17 = 1) (some (r17, c18)))))))) else (if r4 = 1 then gb (m_X8_part t a3 1 c) (fun (r22 : Int32) => gc (gck a1 = 6) (gb2 (m_X6_tip a1 r22 c) (fun (r26 : Int32) (c27 : gm) => gc (r26 = 0 ∨ r26 = 1) (some (r26, c27))))) else (if r4 = 2 then gb (m_X8_part t a3 1 c) (fun (r31 : Int32) => gb (m_X8_part t a3 2 c) (fun (r33 : Int32) => gc (gck a1 = 6) (gb2 (m_X6_fatten a1 r31 r33 c) (fun (r37 : Int32) (c38 : gm) => gc (r37 = 0 ∨ r37 = 1) (some (r37, c38)))))) else (if r4 = 3 then gc (gck a1 = 6) (gb2 (m_X6_turnBeam a1 c) (fun (r44 : Int32) (c45 : gm) => gc (r44 = 0 ∨ r44 = 1) (some (r44, c45)))) else gc (gck a1 = 6) ((if 300 ≤ (c.1 a1 9) then some (0, c) else gb2 (m_X6_passDay n a1 a2 c) (fun (r55 : Int32) (c56 : gm) => (if r55 = 0 then some (0, c56) else some (1, c56)))))))))))
abbrev rmX8_doStep : Room := { frames := 4, cells := 0, slots := 0, locals := 97 }
set_option maxHeartbeats 4000000 in
set_option maxRecDepth 100000 in
theorem c_X8_doStep (l : Launch) (sa : gSa) (D : va_G) (ad : Nat → Nat) (cy : Nat → ClassId) (N sz : Nat) (hN : 55 ≤ N) (hI : gI ad N) (c d0 : gm) {n : Nat} {t : Nat} {a1 : Nat} {a2 : Nat} {a3 : Int32} {rZ : Int32} {cZ : gm} (h : m_X8_doStep n t a1 a2 a3 c = some (rZ, cZ)) : Met l yX8_doStep wsX8_doStep rmX8_doStep (va_Pc [.ref (ad t), .ref (ad a1), .ref (ad a2), .int a3] (gP sa D ad cy N sz c d0)) (va_Qi (fun (z : Int32) (_ : Unit) => z = rZ) (fun _ U => gE D ad cy N cZ d0 U) (gA ad N sz)) 0 0 (gA ad N sz) := by
  refine Met.ofW (cc := cX8_doStep) (maxL := 4) (ret := (some .boolean)) (by decide) rfl ?_
  intro p e s m args below meth cod s₁ B hml hv
  obtain ⟨rfl, hsz, hP, hK, hZ⟩ := hv
  have hx := B.exec
  have hb := B.bytes
  have hr := B.returns
  have hts := atoms_spec (ws := wsX8_doStep) B.pre
  have hown : s.vm.findClass RX8 = some m.cls := findClass_of_methodNamed B.named
  have hlocks := B.notSynchronized
  subst hsz
  have hl := lv_entry ([.ref (ad t), .ref (ad a1), .ref (ad a2), .int a3]) (n := 4) (Nat.le_of_ble_eq_true rfl)
  rw [lg_entry_eq]
  generalize (lg_sl ([.ref (ad t), .ref (ad a1), .ref (ad a2), .int a3]) ++ List.replicate (4 - (lg_sl ([.ref (ad t), .ref (ad a1), .ref (ad a2), .int a3])).length) Slot.unset).toArray = ls at hl ⊢
  have hl : lv_has ls 4 [(0, .ref (ad t)), (1, .ref (ad a1)), (2, .ref (ad a2)), (3, .int a3)] := hl
  have in6 : ∀ w ∈ wsX60, w ∈ wsX8_doStep := by decide +kernel
  generalize hargs : ([.ref (ad t), .ref (ad a1), .ref (ad a2), .int a3] : List Value).toArray = args at *
  generalize hAe : gA ad N s.heap.size = A
  have F : gF sa D ad cy N A p s m args cod cX8_doStep 4 wsX8_doStep RX8 := ⟨hx, hb, hml, hown, hts, hK, hI, by rw [← hAe]; exact gA_ad, by rw [← hAe]; exact gA_sz, by rw [← hAe]; exact hZ⟩
  have G : gW D ad cy N A s.heap c d0 s.heap [] := ⟨hP, va_S.rf⟩
  generalize hQ : MQ below (va_Qi (fun (z : Int32) (_ : Unit) => z = rZ) (fun _ U => gE D ad cy N cZ d0 U) A) args s 0 0 A = Q
  suffices hgen : ∀ (H : Heap) (locs : List Loc), gW D ad cy N A s.heap c d0 H locs → W p l e rmX8_doStep s m args below meth cod H locs 0 0 Q (F0 m 0 ls []) from hgen _ _ G
  clear G
  intro H locs G
  unfold m_X8_doStep at h
  refine lv_aload_n hx hb dX8_doStep_0 rfl (lv_at hl 0 rfl) ?_
  refine lv_iload_n hx hb dX8_doStep_1 rfl (lv_at hl 3 rfl) ?_
  refine lv_iconst (v := 0) hx hb dX8_doStep_2 (by decide) ?_
  obtain ⟨hk1, h⟩ := gc_s h
  have ht2 : t < N := Nat.lt_of_lt_of_le (gck_lt8 hk1) hN
  obtain ⟨r4, hc3, h⟩ := gb_s h
  refine gx_calli F G (va_runV (As := [.int a3, .int 0]) (rest := []) (gx_fix F) (c_X8_part l sa D ad cy N H.size hN hI c d0 hc3) (cwV 2 hts gX8_doStep_X8_part rfl rfl rfl (by decide +kernel) ⟨by decide, by decide⟩) (gx_rec F G ht2 (gwe_8 hk1) rfl) rfl rfl hl.1 rfl (lv_room (Nat.le_of_ble_eq_true rfl)) dX8_doStep_3 ⟨Nat.zero_le _, Nat.zero_le _⟩) (fun H locs G => ?_)
  by_cases q5 : r4 = 0
  · replace h := gt_s q5 h
    refine lv_tableIn (tgt := 36) hx hb dX8_doStep_6 (by rw [q5]; decide) (by rw [q5]; decide) (off := 30) (by rw [q5]; decide) (by decide) ?_
    refine lv_aload_n hx hb dX8_doStep_36 rfl (lv_at hl 1 rfl) ?_
    refine lv_aload_n hx hb dX8_doStep_37 rfl (lv_at hl 0 rfl) ?_
    refine lv_iload_n hx hb dX8_doStep_38 rfl (lv_at hl 3 rfl) ?_
    refine lv_iconst (v := 1) hx hb dX8_doStep_39 (by decide) ?_
    obtain ⟨r7, hc6, h⟩ := gb_s h
    refine gx_calli F G (va_runV (As := [.int a3, .int 1]) (rest := [.ref (ad a1)]) (gx_fix F) (c_X8_part l sa D ad cy N H.size hN hI c d0 hc6) (cwV 2 hts gX8_doStep_X8_part rfl rfl rfl (by decide +kernel) ⟨by decide, by decide⟩) (gx_rec F G ht2 (gwe_8 hk1) rfl) rfl rfl hl.1 rfl (lv_room (Nat.le_of_ble_eq_true rfl)) dX8_doStep_40 ⟨Nat.zero_le _, Nat.zero_le _⟩) (fun H locs G => ?_)
    refine lv_aload_n hx hb dX8_doStep_43 rfl (lv_at hl 0 rfl) ?_
    refine lv_iload_n hx hb dX8_doStep_44 rfl (lv_at hl 3 rfl) ?_
    refine lv_iconst (v := 2) hx hb dX8_doStep_45 (by decide) ?_
    obtain ⟨r9, hc8, h⟩ := gb_s h
    refine gx_calli F G (va_runV (As := [.int a3, .int 2]) (rest := [.int r7, .ref (ad a1)]) (gx_fix F) (c_X8_part l sa D ad cy N H.size hN hI c d0 hc8) (cwV 2 hts gX8_doStep_X8_part rfl rfl rfl (by decide +kernel) ⟨by decide, by decide⟩) (gx_rec F G ht2 (gwe_8 hk1) rfl) rfl rfl hl.1 rfl (lv_room (Nat.le_of_ble_eq_true rfl)) dX8_doStep_46 ⟨Nat.zero_le _, Nat.zero_le _⟩) (fun H locs G => ?_)
    refine lv_aload_n hx hb dX8_doStep_49 rfl (lv_at hl 0 rfl) ?_
    refine lv_iload_n hx hb dX8_doStep_50 rfl (lv_at hl 3 rfl) ?_
    refine lv_iconst (v := 3) hx hb dX8_doStep_51 (by decide) ?_
    obtain ⟨r11, hc10, h⟩ := gb_s h
    refine gx_calli F G (va_runV (As := [.int a3, .int 3]) (rest := [.int r9, .int r7, .ref (ad a1)]) (gx_fix F) (c_X8_part l sa D ad cy N H.size hN hI c d0 hc10) (cwV 2 hts gX8_doStep_X8_part rfl rfl rfl (by decide +kernel) ⟨by decide, by decide⟩) (gx_rec F G ht2 (gwe_8 hk1) rfl) rfl rfl hl.1 rfl (lv_room (Nat.le_of_ble_eq_true rfl)) dX8_doStep_52 ⟨Nat.zero_le _, Nat.zero_le _⟩) (fun H locs G => ?_)
    refine lv_aload_n hx hb dX8_doStep_55 rfl (lv_at hl 0 rfl) ?_
    refine lv_iload_n hx hb dX8_doStep_56 rfl (lv_at hl 3 rfl) ?_
    refine lv_iconst (v := 4) hx hb dX8_doStep_57 (by decide) ?_
    obtain ⟨r13, hc12, h⟩ := gb_s h
    refine gx_calli F G (va_runV (As := [.int a3, .int 4]) (rest := [.int r11, .int r9, .int r7, .ref (ad a1)]) (gx_fix F) (c_X8_part l sa D ad cy N H.size hN hI c d0 hc12) (cwV 2 hts gX8_doStep_X8_part rfl rfl rfl (by decide +kernel) ⟨by decide, by decide⟩) (gx_rec F G ht2 (gwe_8 hk1) rfl) rfl rfl hl.1 rfl (lv_room (Nat.le_of_ble_eq_true rfl)) dX8_doStep_58 ⟨Nat.zero_le _, Nat.zero_le _⟩) (fun H locs G => ?_)
    obtain ⟨hk14, h⟩ := gc_s h
    have ht15 : a1 < N := Nat.lt_of_lt_of_le (gck_lt6 hk14) hN
    obtain ⟨r17, c18, hc16, h⟩ := gb2_s h
    refine gx_calli F G (va_runV (As := [.int r7, .int r9, .int r11, .int r13]) (rest := []) (gx_fix F) (c_X6_weigh l sa D ad cy N H.size hN hI c d0 hc16) (cwV 4 hts gX8_doStep_X6_weigh rfl rfl rfl (by decide +kernel) ⟨by decide, by decide⟩) (gx_rec F G ht15 (gwe_6 hk14) rfl) rfl rfl hl.1 rfl (lv_room (Nat.le_of_ble_eq_true rfl)) dX8_doStep_61 ⟨Nat.zero_le _, Nat.zero_le _⟩) (fun H locs G => ?_)
    obtain ⟨hz19, h⟩ := gc_s h
    cases h
    rw [← hQ]
    exact gx_zret F G hr hlocks (gnb hz19) dX8_doStep_64
  replace h := gf_s q5 h
  by_cases q20 : r4 = 1
  · replace h := gt_s q20 h
    refine lv_tableIn (tgt := 65) hx hb dX8_doStep_6 (by rw [q20]; decide) (by rw [q20]; decide) (off := 59) (by rw [q20]; decide) (by decide) ?_
    refine lv_aload_n hx hb dX8_doStep_65 rfl (lv_at hl 1 rfl) ?_
    refine lv_aload_n hx hb dX8_doStep_66 rfl (lv_at hl 0 rfl) ?_
    refine lv_iload_n hx hb dX8_doStep_67 rfl (lv_at hl 3 rfl) ?_
    refine lv_iconst (v := 1) hx hb dX8_doStep_68 (by decide) ?_
    obtain ⟨r22, hc21, h⟩ := gb_s h
    refine gx_calli F G (va_runV (As := [.int a3, .int 1]) (rest := [.ref (ad a1)]) (gx_fix F) (c_X8_part l sa D ad cy N H.size hN hI c d0 hc21) (cwV 2 hts gX8_doStep_X8_part rfl rfl rfl (by decide +kernel) ⟨by decide, by decide⟩) (gx_rec F G ht2 (gwe_8 hk1) rfl) rfl rfl hl.1 rfl (lv_room (Nat.le_of_ble_eq_true rfl)) dX8_doStep_69 ⟨Nat.zero_le _, Nat.zero_le _⟩) (fun H locs G => ?_)
    obtain ⟨hk23, h⟩ := gc_s h
    have ht24 : a1 < N := Nat.lt_of_lt_of_le (gck_lt6 hk23) hN
    obtain ⟨r26, c27, hc25, h⟩ := gb2_s h
    refine gx_calli F G (va_runV (As := [.int r22]) (rest := []) (gx_fix F) (c_X6_tip l sa D ad cy N H.size hN hI c d0 hc25) (cwV 1 hts gX8_doStep_X6_tip rfl rfl rfl (by decide +kernel) ⟨by decide, by decide⟩) (gx_rec F G ht24 (gwe_6 hk23) rfl) rfl rfl hl.1 rfl (lv_room (Nat.le_of_ble_eq_true rfl)) dX8_doStep_72 ⟨Nat.zero_le _, Nat.zero_le _⟩) (fun H locs G => ?_)
    obtain ⟨hz28, h⟩ := gc_s h
    cases h
    rw [← hQ]
    exact gx_zret F G hr hlocks (gnb hz28) dX8_doStep_75
  replace h := gf_s q20 h
  by_cases q29 : r4 = 2
  · replace h := gt_s q29 h
    refine lv_tableIn (tgt := 76) hx hb dX8_doStep_6 (by rw [q29]; decide) (by rw [q29]; decide) (off := 70) (by rw [q29]; decide) (by decide) ?_
    refine lv_aload_n hx hb dX8_doStep_76 rfl (lv_at hl 1 rfl) ?_
    refine lv_aload_n hx hb dX8_doStep_77 rfl (lv_at hl 0 rfl) ?_
    refine lv_iload_n hx hb dX8_doStep_78 rfl (lv_at hl 3 rfl) ?_
    refine lv_iconst (v := 1) hx hb dX8_doStep_79 (by decide) ?_
    obtain ⟨r31, hc30, h⟩ := gb_s h
    refine gx_calli F G (va_runV (As := [.int a3, .int 1]) (rest := [.ref (ad a1)]) (gx_fix F) (c_X8_part l sa D ad cy N H.size hN hI c d0 hc30) (cwV 2 hts gX8_doStep_X8_part rfl rfl rfl (by decide +kernel) ⟨by decide, by decide⟩) (gx_rec F G ht2 (gwe_8 hk1) rfl) rfl rfl hl.1 rfl (lv_room (Nat.le_of_ble_eq_true rfl)) dX8_doStep_80 ⟨Nat.zero_le _, Nat.zero_le _⟩) (fun H locs G => ?_)
    refine lv_aload_n hx hb dX8_doStep_83 rfl (lv_at hl 0 rfl) ?_
    refine lv_iload_n hx hb dX8_doStep_84 rfl (lv_at hl 3 rfl) ?_
    refine lv_iconst (v := 2) hx hb dX8_doStep_85 (by decide) ?_
    obtain ⟨r33, hc32, h⟩ := gb_s h
    refine gx_calli F G (va_runV (As := [.int a3, .int 2]) (rest := [.int r31, .ref (ad a1)]) (gx_fix F) (c_X8_part l sa D ad cy N H.size hN hI c d0 hc32) (cwV 2 hts gX8_doStep_X8_part rfl rfl rfl (by decide +kernel) ⟨by decide, by decide⟩) (gx_rec F G ht2 (gwe_8 hk1) rfl) rfl rfl hl.1 rfl (lv_room (Nat.le_of_ble_eq_true rfl)) dX8_doStep_86 ⟨Nat.zero_le _, Nat.zero_le _⟩) (fun H locs G => ?_)
    obtain ⟨hk34, h⟩ := gc_s h
    have ht35 : a1 < N := Nat.lt_of_lt_of_le (gck_lt6 hk34) hN
    obtain ⟨r37, c38, hc36, h⟩ := gb2_s h
    refine gx_calli F G (va_runV (As := [.int r31, .int r33]) (rest := []) (gx_fix F) (c_X6_fatten l sa D ad cy N H.size hN hI c d0 hc36) (cwV 2 hts gX8_doStep_X6_fatten rfl rfl rfl (by decide +kernel) ⟨by decide, by decide⟩) (gx_rec F G ht35 (gwe_6 hk34) rfl) rfl rfl hl.1 rfl (lv_room (Nat.le_of_ble_eq_true rfl)) dX8_doStep_89 ⟨Nat.zero_le _, Nat.zero_le _⟩) (fun H locs G => ?_)
    obtain ⟨hz39, h⟩ := gc_s h
    cases h
    rw [← hQ]
    exact gx_zret F G hr hlocks (gnb hz39) dX8_doStep_92
  replace h := gf_s q29 h
  by_cases q40 : r4 = 3
  · replace h := gt_s q40 h
    refine lv_tableIn (tgt := 93) hx hb dX8_doStep_6 (by rw [q40]; decide) (by rw [q40]; decide) (off := 87) (by rw [q40]; decide) (by decide) ?_
    refine lv_aload_n hx hb dX8_doStep_93 rfl (lv_at hl 1 rfl) ?_
    obtain ⟨hk41, h⟩ := gc_s h
    have ht42 : a1 < N := Nat.lt_of_lt_of_le (gck_lt6 hk41) hN
    obtain ⟨r44, c45, hc43, h⟩ := gb2_s h
    refine gx_calli F G (va_runV (As := []) (rest := []) (gx_fix F) (c_X6_turnBeam l sa D ad cy N H.size hN hI c d0 hc43) (cwV 0 hts gX8_doStep_X6_turnBeam rfl rfl rfl (by decide +kernel) ⟨by decide, by decide⟩) (gx_rec F G ht42 (gwe_6 hk41) rfl) rfl rfl hl.1 rfl (lv_room (Nat.le_of_ble_eq_true rfl)) dX8_doStep_94 ⟨Nat.zero_le _, Nat.zero_le _⟩) (fun H locs G => ?_)
    obtain ⟨hz46, h⟩ := gc_s h
    cases h
    rw [← hQ]
    exact gx_zret F G hr hlocks (gnb hz46) dX8_doStep_97
  replace h := gf_s q40 h
  have nn47 := lv_neT q5 (show (0 : Int32).toInt = 0 by decide)
  have nn48 := lv_neT q20 (show (1 : Int32).toInt = 1 by decide)
  have nn49 := lv_neT q29 (show (2 : Int32).toInt = 2 by decide)
  have nn50 := lv_neT q40 (show (3 : Int32).toInt = 3 by decide)
  refine lv_tableOut (tgt := 98) hx hb dX8_doStep_6 (by omega) (by decide) ?_
  refine lv_aload_n hx hb dX8_doStep_98 rfl (lv_at hl 1 rfl) ?_
  obtain ⟨hk51, h⟩ := gc_s h
  have ht52 : a1 < N := Nat.lt_of_lt_of_le (gck_lt6 hk51) hN
  refine fg_6_day F G hk51 ht52 in6 (by decide +kernel) dX8_doStep_99 ?_
  refine lv_sipush (v := 300) hx hb dX8_doStep_102 (by decide) ?_
  refine lv_icmp_ge (tgt := 120) hx hb dX8_doStep_105 (by decide) (fun q53 => ?_) (fun q53 => ?_)
  · replace h := gt_s q53 h
    refine lv_iconst (v := 0) hx hb dX8_doStep_120 (by decide) ?_
    cases h
    rw [← hQ]
    exact gx_zret F G hr hlocks rfl dX8_doStep_121
  · replace h := gf_s q53 h
    refine lv_aload_n hx hb dX8_doStep_108 rfl (lv_at hl 1 rfl) ?_
    refine lv_aload_n hx hb dX8_doStep_109 rfl (lv_at hl 2 rfl) ?_
    obtain ⟨r55, c56, hc54, h⟩ := gb2_s h
    refine gx_calli F G (va_runV (As := [.ref (ad a2)]) (rest := []) (gx_fix F) (c_X6_passDay l sa D ad cy N H.size hN hI c d0 hc54) (cwV 1 hts gX8_doStep_X6_passDay rfl rfl rfl (by decide +kernel) ⟨by decide, by decide⟩) (gx_rec F G ht52 (gwe_6 hk51) rfl) rfl rfl hl.1 rfl (lv_room (Nat.le_of_ble_eq_true rfl)) dX8_doStep_110 ⟨Nat.zero_le _, Nat.zero_le _⟩) (fun H locs G => ?_)
    refine lv_if_eq (tgt := 120) hx hb dX8_doStep_113 (by decide) (fun q57 => ?_) (fun q57 => ?_)
    · replace h := gt_s q57 h
      refine lv_iconst (v := 0) hx hb dX8_doStep_120 (by decide) ?_
      cases h
      rw [← hQ]
      exact gx_zret F G hr hlocks rfl dX8_doStep_121
    · replace h := gf_s q57 h
      refine lv_iconst (v := 1) hx hb dX8_doStep_116 (by decide) ?_
      refine lv_goto (tgt := 121) hx hb dX8_doStep_117 (by decide) ?_
      cases h
      rw [← hQ]
      exact gx_zret F G hr hlocks rfl dX8_doStep_121
def m_X8_doSteps_L63 (rs : (Nat → Nat → Nat → Nat → Int32 → Int32 → Int32 → gm → Option (gm))) (n : Nat) (t : Nat) (a1 : Nat) (a2 : Nat) (a5 : Int32) (y2 : Int32) (r32 : Int32) (y34 : Int32) (c35 : gm) : Option ((Int32 × gm) ⊕ (gm)) :=
  gb (m_X8_part t y2 1 c35) (fun (r38 : Int32) => (if r38 ≤ y34 then some (.inr c35) else (if 200 ≤ (c35.1 t 2) then some (.inr c35) else (if 6 ≤ a5 then some (.inr c35) else gb (rs n t a1 a2 (y2 + 1) r32 (a5 + 1) c35) (fun (c44 : gm) => gv (y34 + 1) (fun (x45 : Int32) => some (.inl (x45, c44))))))))
def m_X8_doSteps_L6 (rs : (Nat → Nat → Nat → Nat → Int32 → Int32 → Int32 → gm → Option (gm))) (n : Nat) (t : Nat) (a1 : Nat) (a2 : Nat) (a4 : Int32) (a5 : Int32) (y2 : Int32) (y3 : Int32) (c4 : gm) : Option ((Int32 × Int32 × gm) ⊕ (gm)) :=
  (if 38 ≤ y3 then some (.inr c4) else (if a4 ≤ y2 then some (.inr c4) else gc (gck t = 8) ((if 200 ≤ (c4.1 t 2) then some (.inr c4) else gv (gm_r c4 t (upd (c4.1 t) 2 ((c4.1 t 2) + 1))) (fun (c11 : gm) => gb (m_X8_part t y2 0 c11) (fun (r13 : Int32) => gj (gu2 (fun (v14 : Int32) (c15 : gm) => gv (y3 + 1) (fun (x17 : Int32) => some (.inl (v14, x17, c15))))) (fun K16 => (if r13 = 5 then gb (m_X8_part t y2 2 c11) (fun (r32 : Int32) => gb (gloop (gu2 (fun (y34 : Int32) (c35 : gm) => m_X8_doSteps_L63 rs n t a1 a2 a5 y2 r32 y34 c35)) n (0, c11)) (fun (c36 : gm) => K16 (r32, c36))) else gb2 (m_X8_doStep n t a1 a2 y2 c11) (fun (r20 : Int32) (c21 : gm) => gj (fun (v22 : Int32) => gv (gm_r c21 t (upd (c21.1 t) 3 ((c21.1 t 3) + v22))) (fun (c24 : gm) => gj (fun (v25 : Int32) => gv (gm_r c24 t (upd (c24.1 t) 4 ((c24.1 t 4) + v25))) (fun (c27 : gm) => gv (y2 + 1) (fun (x28 : Int32) => K16 (x28, c27)))) (fun K26 => (if r20 = 0 then K26 1 else K26 0)))) (fun K23 => (if r20 = 0 then K23 0 else K23 1)))))))))))
def m_X8_doSteps_b (rs : (Nat → Nat → Nat → Nat → Int32 → Int32 → Int32 → gm → Option (gm))) (n : Nat) (t : Nat) (a1 : Nat) (a2 : Nat) (a3 : Int32) (a4 : Int32) (a5 : Int32) (c : gm) : Option (gm) :=
  gb (gloop (gu2 (fun (y2 : Int32) => gu2 (fun (y3 : Int32) (c4 : gm) => m_X8_doSteps_L6 rs n t a1 a2 a4 a5 y2 y3 c4))) n (a3, 0, c)) (fun (c5 : gm) => some c5)
abbrev rmX8_doSteps (dd : Nat) : Room := { frames := 1 * dd + 5, cells := 0, slots := 0, locals := 29 * dd + 120 }
set_option maxHeartbeats 4000000 in
set_option maxRecDepth 100000 in
theorem c_X8_doSteps_b (l : Launch) (sa : gSa) (D : va_G) (ad : Nat → Nat) (cy : Nat → ClassId) (N sz : Nat) (hN : 55 ≤ N) (hI : gI ad N) (c d0 : gm) (rs : (Nat → Nat → Nat → Nat → Int32 → Int32 → Int32 → gm → Option (gm))) (dd : Nat) (hrs : ∀ (sz : Nat) (c d0 : gm) {n : Nat} {t : Nat} {a1 : Nat} {a2 : Nat} {a3 : Int32} {a4 : Int32} {a5 : Int32} {cZ : gm}, rs n t a1 a2 a3 a4 a5 c = some cZ → Met l yX8_doSteps wsX8_doSteps (rmX8_doSteps dd) (va_Pc [.ref (ad t), .ref (ad a1), .ref (ad a2), .int a3, .int a4, .int a5] (gP sa D ad cy N sz c d0)) (va_Qv (fun (_ : Unit) => True) (fun _ U => gE D ad cy N cZ d0 U) (gA ad N sz)) 0 0 (gA ad N sz)) {n : Nat} {t : Nat} {a1 : Nat} {a2 : Nat} {a3 : Int32} {a4 : Int32} {a5 : Int32} {cZ : gm} (h : m_X8_doSteps_b rs n t a1 a2 a3 a4 a5 c = some cZ) : Met l yX8_doSteps wsX8_doSteps (rmX8_doSteps (dd + 1)) (va_Pc [.ref (ad t), .ref (ad a1), .ref (ad a2), .int a3, .int a4, .int a5] (gP sa D ad cy N sz c d0)) (va_Qv (fun (_ : Unit) => True) (fun _ U => gE D ad cy N cZ d0 U) (gA ad N sz)) 0 0 (gA ad N sz) := by
  refine Met.ofW (cc := cX8_doSteps) (maxL := 10) (ret := none) (by decide) rfl ?_
  intro p e s m args below meth cod s₁ B hml hv
  obtain ⟨rfl, hsz, hP, hK, hZ⟩ := hv
  have hx := B.exec
  have hb := B.bytes
  have hr := B.returns
  have hts := atoms_spec (ws := wsX8_doSteps) B.pre
  have hown : s.vm.findClass RX8 = some m.cls := findClass_of_methodNamed B.named
  have hlocks := B.notSynchronized
  subst hsz
  have hl := lv_entry ([.ref (ad t), .ref (ad a1), .ref (ad a2), .int a3, .int a4, .int a5]) (n := 10) (Nat.le_of_ble_eq_true rfl)
  rw [lg_entry_eq]
  generalize (lg_sl ([.ref (ad t), .ref (ad a1), .ref (ad a2), .int a3, .int a4, .int a5]) ++ List.replicate (10 - (lg_sl ([.ref (ad t), .ref (ad a1), .ref (ad a2), .int a3, .int a4, .int a5])).length) Slot.unset).toArray = ls at hl ⊢
  have hl : lv_has ls 10 [(0, .ref (ad t)), (1, .ref (ad a1)), (2, .ref (ad a2)), (3, .int a3), (4, .int a4), (5, .int a5)] := hl
  have in8 : ∀ w ∈ wsX80, w ∈ wsX8_doSteps := by decide +kernel
  generalize hargs : ([.ref (ad t), .ref (ad a1), .ref (ad a2), .int a3, .int a4, .int a5] : List Value).toArray = args at *
  generalize hAe : gA ad N s.heap.size = A
  have F : gF sa D ad cy N A p s m args cod cX8_doSteps 10 wsX8_doSteps RX8 := ⟨hx, hb, hml, hown, hts, hK, hI, by rw [← hAe]; exact gA_ad, by rw [← hAe]; exact gA_sz, by rw [← hAe]; exact hZ⟩
  have G : gW D ad cy N A s.heap c d0 s.heap [] := ⟨hP, va_S.rf⟩
  generalize hQ : MQ below (va_Qv (fun (_ : Unit) => True) (fun _ U => gE D ad cy N cZ d0 U) A) args s 0 0 A = Q
  suffices hgen : ∀ (H : Heap) (locs : List Loc), gW D ad cy N A s.heap c d0 H locs → W p l e (rmX8_doSteps (dd + 1)) s m args below meth cod H locs 0 0 Q (F0 m 0 ls []) from hgen _ _ G
  clear G
  intro H locs G
  unfold m_X8_doSteps_b at h
  refine lv_iload_n hx hb dX8_doSteps_0 rfl (lv_at hl 3 rfl) ?_
  refine lv_istore (lv' := [(6, .int a3), (0, .ref (ad t)), (1, .ref (ad a1)), (2, .ref (ad a2)), (3, .int a3), (4, .int a4), (5, .int a5)]) hx hb dX8_doSteps_1 hl (by decide) rfl (fun ls hl => ?_)
  refine lv_iconst (v := 0) hx hb dX8_doSteps_3 (by decide) ?_
  refine lv_istore (lv' := [(7, .int 0), (6, .int a3), (0, .ref (ad t)), (1, .ref (ad a1)), (2, .ref (ad a2)), (3, .int a3), (4, .int a4), (5, .int a5)]) hx hb dX8_doSteps_4 hl (by decide) rfl (fun ls hl => ?_)
  obtain ⟨b1, hb1, hK1⟩ := gb_s h
  have E1 : ∀ (c5 : gm) (H : Heap) (locs : List Loc) (ls : Array Slot), (c5 : gm) = b1 → gW D ad cy N A s.heap c5 d0 H locs → lv_has ls 10 [] → W p l e (rmX8_doSteps (dd + 1)) s m args below meth cod H locs 0 0 Q (F0 m 178 ls []) := by
    intro c5 H locs ls hq1 G hl
    subst hq1
    replace hK1 := hK1
    have h := hK1
    cases h
    rw [← hQ]
    exact gx_vret F G hr hlocks dX8_doSteps_178
  have L1 : ∀ (n9 : Nat) (y2 : Int32) (y3 : Int32) (c4 : gm) (H : Heap) (locs : List Loc) (ls : Array Slot), gloop (gu2 (fun (y2 : Int32) => gu2 (fun (y3 : Int32) (c4 : gm) => m_X8_doSteps_L6 rs n t a1 a2 a4 a5 y2 y3 c4))) n9 (y2, y3, c4) = some b1 → gW D ad cy N A s.heap c4 d0 H locs → lv_has ls 10 [(0, .ref (ad t)), (1, .ref (ad a1)), (2, .ref (ad a2)), (4, .int a4), (5, .int a5), (6, .int y2), (7, .int y3)] → W p l e (rmX8_doSteps (dd + 1)) s m args below meth cod H locs 0 0 Q (F0 m 6 ls []) := by
    intro n9
    induction n9 with
    | zero => intro y2 y3 c4 H locs ls h; exact (gloop_0 h).elim
    | succ n9 ih =>
      intro y2 y3 c4 H locs ls h G hl
      have ih1 := ih
      obtain ⟨o1, h, hn1⟩ := gloop_s h
      replace h := gu2_s h
      replace h := gu2_s h
      unfold m_X8_doSteps_L6 at h
      refine lv_iload hx hb dX8_doSteps_6 (lv_at hl 6 rfl) ?_
      refine lv_bipush (v := 38) hx hb dX8_doSteps_8 (by decide) ?_
      refine lv_icmp_ge (tgt := 178) hx hb dX8_doSteps_10 (by decide) (fun q6 => ?_) (fun q6 => ?_)
      · replace h := gt_s q6 h
        cases h
        exact E1 _ _ _ _ (gnx_r hn1) G (lv_sub hl [] rfl)
      · replace h := gf_s q6 h
        refine lv_iload hx hb dX8_doSteps_13 (lv_at hl 5 rfl) ?_
        refine lv_iload hx hb dX8_doSteps_15 (lv_at hl 3 rfl) ?_
        refine lv_icmp_ge (tgt := 178) hx hb dX8_doSteps_17 (by decide) (fun q7 => ?_) (fun q7 => ?_)
        · replace h := gt_s q7 h
          cases h
          exact E1 _ _ _ _ (gnx_r hn1) G (lv_sub hl [] rfl)
        · replace h := gf_s q7 h
          refine lv_aload_n hx hb dX8_doSteps_20 rfl (lv_at hl 0 rfl) ?_
          obtain ⟨hk8, h⟩ := gc_s h
          have ht9 : t < N := Nat.lt_of_lt_of_le (gck_lt8 hk8) hN
          refine fg_8_begun F G hk8 ht9 in8 (by decide +kernel) dX8_doSteps_21 ?_
          refine lv_sipush (v := 200) hx hb dX8_doSteps_24 (by decide) ?_
          refine lv_icmp_ge (tgt := 178) hx hb dX8_doSteps_27 (by decide) (fun q10 => ?_) (fun q10 => ?_)
          · replace h := gt_s q10 h
            cases h
            exact E1 _ _ _ _ (gnx_r hn1) G (lv_sub hl [] rfl)
          · replace h := gf_s q10 h
            refine lv_aload_n hx hb dX8_doSteps_30 rfl (lv_at hl 0 rfl) ?_
            refine lv_dup hx hb dX8_doSteps_31 rfl ?_
            refine fg_8_begun F G hk8 ht9 in8 (by decide +kernel) dX8_doSteps_32 ?_
            refine lv_iconst (v := 1) hx hb dX8_doSteps_35 (by decide) ?_
            refine lv_iadd hx hb dX8_doSteps_36 ?_
            refine fp_8_begun F G hk8 ht9 in8 (by decide +kernel) dX8_doSteps_37 (fun H locs G => ?_)
            obtain ⟨c11, ec11⟩ : ∃ z, z = gm_r c4 t (upd (c4.1 t) 2 ((c4.1 t 2) + 1)) := ⟨_, rfl⟩
            rw [← ec11] at G
            replace h := gv_s h c11 ec11
            refine lv_aload_n hx hb dX8_doSteps_40 rfl (lv_at hl 0 rfl) ?_
            refine lv_iload hx hb dX8_doSteps_41 (lv_at hl 5 rfl) ?_
            refine lv_iconst (v := 0) hx hb dX8_doSteps_43 (by decide) ?_
            obtain ⟨r13, hc12, h⟩ := gb_s h
            refine gx_calli F G (va_runV (As := [.int y2, .int 0]) (rest := []) (gx_fix F) (c_X8_part l sa D ad cy N H.size hN hI c11 d0 hc12) (cwV 2 hts gX8_doSteps_X8_part rfl rfl rfl (by decide +kernel) ⟨by simp only [rmX8_doSteps, rmX8_part]; omega, by simp only [rmX8_doSteps, rmX8_part]; omega⟩) (gx_rec F G ht9 (gwe_8 hk8) rfl) rfl rfl hl.1 rfl (lv_room (Nat.le_of_ble_eq_true rfl)) dX8_doSteps_44 ⟨Nat.zero_le _, Nat.zero_le _⟩) (fun H locs G => ?_)
            refine lv_iconst (v := 5) hx hb dX8_doSteps_47 (by decide) ?_
            obtain ⟨K16, eK16, h⟩ := gj_s h
            have JK16 : ∀ (v14 : Int32) (c15 : gm) (H : Heap) (locs : List Loc) (ls : Array Slot), K16 (v14, c15) = some o1 → gW D ad cy N A s.heap c15 d0 H locs → lv_has ls 10 [(0, .ref (ad t)), (1, .ref (ad a1)), (2, .ref (ad a2)), (4, .int a4), (5, .int a5), (6, .int v14), (7, .int y3)] → W p l e (rmX8_doSteps (dd + 1)) s m args below meth cod H locs 0 0 Q (F0 m 172 ls []) := by
              intro v14 c15 H locs ls h G hl
              rw [eK16] at h
              replace h := gu2_s h
              obtain ⟨x17, ex17⟩ : ∃ z : Int32, z = y3 + 1 := ⟨_, rfl⟩
              replace h := gv_s h x17 ex17
              refine lv_iinc (v := x17) (lv' := [(7, .int x17), (0, .ref (ad t)), (1, .ref (ad a1)), (2, .ref (ad a2)), (4, .int a4), (5, .int a5), (6, .int v14)]) hx hb dX8_doSteps_172 hl (k := 6) rfl (by rw [ex17]; rfl) (by decide) rfl (fun ls hl => ?_)
              refine lv_goto (tgt := 6) hx hb dX8_doSteps_175 (by decide) ?_
              cases h
              exact ih1 _ _ _ _ _ _ hn1 G (lv_sub hl [1, 2, 3, 4, 5, 6, 0] rfl)
            refine lv_icmp_ne (tgt := 121) hx hb dX8_doSteps_48 (by decide) (fun q18 => ?_) (fun q18 => ?_)
            · replace h := gf_s q18 h
              refine lv_aload_n hx hb dX8_doSteps_121 rfl (lv_at hl 0 rfl) ?_
              refine lv_aload_n hx hb dX8_doSteps_122 rfl (lv_at hl 1 rfl) ?_
              refine lv_aload_n hx hb dX8_doSteps_123 rfl (lv_at hl 2 rfl) ?_
              refine lv_iload hx hb dX8_doSteps_124 (lv_at hl 5 rfl) ?_
              obtain ⟨r20, c21, hc19, h⟩ := gb2_s h
              refine gx_calli F G (va_runV (As := [.ref (ad a1), .ref (ad a2), .int y2]) (rest := []) (gx_fix F) (c_X8_doStep l sa D ad cy N H.size hN hI c11 d0 hc19) (cwV 3 hts gX8_doSteps_X8_doStep rfl rfl rfl (by decide +kernel) ⟨by simp only [rmX8_doSteps, rmX8_doStep]; omega, by simp only [rmX8_doSteps, rmX8_doStep]; omega⟩) (gx_rec F G ht9 (gwe_8 hk8) rfl) rfl rfl hl.1 rfl (lv_room (Nat.le_of_ble_eq_true rfl)) dX8_doSteps_126 ⟨Nat.zero_le _, Nat.zero_le _⟩) (fun H locs G => ?_)
              refine lv_istore (lv' := [(8, .int r20), (0, .ref (ad t)), (1, .ref (ad a1)), (2, .ref (ad a2)), (4, .int a4), (5, .int a5), (6, .int y2), (7, .int y3)]) hx hb dX8_doSteps_129 hl (by decide) rfl (fun ls hl => ?_)
              refine lv_aload_n hx hb dX8_doSteps_131 rfl (lv_at hl 1 rfl) ?_
              refine lv_dup hx hb dX8_doSteps_132 rfl ?_
              refine fg_8_done F G hk8 ht9 in8 (by decide +kernel) dX8_doSteps_133 ?_
              refine lv_iload hx hb dX8_doSteps_136 (lv_at hl 0 rfl) ?_
              obtain ⟨K23, eK23, h⟩ := gj_s h
              have JK23 : ∀ (v22 : Int32) (H : Heap) (locs : List Loc) (ls : Array Slot), K23 v22 = some o1 → gW D ad cy N A s.heap c21 d0 H locs → lv_has ls 10 [(0, .ref (ad t)), (1, .ref (ad a1)), (2, .ref (ad a2)), (4, .int a4), (5, .int a5), (6, .int y2), (7, .int y3), (8, .int r20)] → W p l e (rmX8_doSteps (dd + 1)) s m args below meth cod H locs 0 0 Q (F0 m 146 ls [.int v22, .int (c21.1 t 3), .ref (ad t)]) := by
                intro v22 H locs ls h G hl
                rw [eK23] at h
                refine lv_iadd hx hb dX8_doSteps_146 ?_
                refine fp_8_done F G hk8 ht9 in8 (by decide +kernel) dX8_doSteps_147 (fun H locs G => ?_)
                obtain ⟨c24, ec24⟩ : ∃ z, z = gm_r c21 t (upd (c21.1 t) 3 ((c21.1 t 3) + v22)) := ⟨_, rfl⟩
                rw [← ec24] at G
                replace h := gv_s h c24 ec24
                refine lv_aload_n hx hb dX8_doSteps_150 rfl (lv_at hl 0 rfl) ?_
                refine lv_dup hx hb dX8_doSteps_151 rfl ?_
                refine fg_8_refused F G hk8 ht9 in8 (by decide +kernel) dX8_doSteps_152 ?_
                refine lv_iload hx hb dX8_doSteps_155 (lv_at hl 7 rfl) ?_
                obtain ⟨K26, eK26, h⟩ := gj_s h
                have JK26 : ∀ (v25 : Int32) (H : Heap) (locs : List Loc) (ls : Array Slot), K26 v25 = some o1 → gW D ad cy N A s.heap c24 d0 H locs → lv_has ls 10 [(0, .ref (ad t)), (1, .ref (ad a1)), (2, .ref (ad a2)), (4, .int a4), (5, .int a5), (6, .int y2), (7, .int y3)] → W p l e (rmX8_doSteps (dd + 1)) s m args below meth cod H locs 0 0 Q (F0 m 165 ls [.int v25, .int (c24.1 t 4), .ref (ad t)]) := by
                  intro v25 H locs ls h G hl
                  rw [eK26] at h
                  refine lv_iadd hx hb dX8_doSteps_165 ?_
                  refine fp_8_refused F G hk8 ht9 in8 (by decide +kernel) dX8_doSteps_166 (fun H locs G => ?_)
                  obtain ⟨c27, ec27⟩ : ∃ z, z = gm_r c24 t (upd (c24.1 t) 4 ((c24.1 t 4) + v25)) := ⟨_, rfl⟩
                  rw [← ec27] at G
                  replace h := gv_s h c27 ec27
                  obtain ⟨x28, ex28⟩ : ∃ z : Int32, z = y2 + 1 := ⟨_, rfl⟩
                  replace h := gv_s h x28 ex28
                  refine lv_iinc (v := x28) (lv' := [(6, .int x28), (0, .ref (ad t)), (1, .ref (ad a1)), (2, .ref (ad a2)), (4, .int a4), (5, .int a5), (7, .int y3)]) hx hb dX8_doSteps_169 hl (k := 5) rfl (by rw [ex28]; rfl) (by decide) rfl (fun ls hl => ?_)
                  exact JK16 _ _ _ _ _ h G (lv_sub hl [1, 2, 3, 4, 5, 0, 6] rfl)
                refine lv_if_eq (tgt := 164) hx hb dX8_doSteps_157 (by decide) (fun q29 => ?_) (fun q29 => ?_)
                · replace h := gt_s q29 h
                  refine lv_iconst (v := 1) hx hb dX8_doSteps_164 (by decide) ?_
                  exact JK26 _ _ _ _ h G (lv_sub hl [0, 1, 2, 3, 4, 5, 6] rfl)
                · replace h := gf_s q29 h
                  refine lv_iconst (v := 0) hx hb dX8_doSteps_160 (by decide) ?_
                  refine lv_goto (tgt := 165) hx hb dX8_doSteps_161 (by decide) ?_
                  exact JK26 _ _ _ _ h G (lv_sub hl [0, 1, 2, 3, 4, 5, 6] rfl)
              refine lv_if_eq (tgt := 145) hx hb dX8_doSteps_138 (by decide) (fun q30 => ?_) (fun q30 => ?_)
              · replace h := gt_s q30 h
                refine lv_iconst (v := 0) hx hb dX8_doSteps_145 (by decide) ?_
                exact JK23 _ _ _ _ h G (lv_sub hl [1, 2, 3, 4, 5, 6, 7, 0] rfl)
              · replace h := gf_s q30 h
                refine lv_iconst (v := 1) hx hb dX8_doSteps_141 (by decide) ?_
                refine lv_goto (tgt := 146) hx hb dX8_doSteps_142 (by decide) ?_
                exact JK23 _ _ _ _ h G (lv_sub hl [1, 2, 3, 4, 5, 6, 7, 0] rfl)
            · replace h := gt_s q18 h
              refine lv_aload_n hx hb dX8_doSteps_51 rfl (lv_at hl 0 rfl) ?_
              refine lv_iload hx hb dX8_doSteps_52 (lv_at hl 5 rfl) ?_
              refine lv_iconst (v := 2) hx hb dX8_doSteps_54 (by decide) ?_
              obtain ⟨r32, hc31, h⟩ := gb_s h
              refine gx_calli F G (va_runV (As := [.int y2, .int 2]) (rest := []) (gx_fix F) (c_X8_part l sa D ad cy N H.size hN hI c11 d0 hc31) (cwV 2 hts gX8_doSteps_X8_part rfl rfl rfl (by decide +kernel) ⟨by simp only [rmX8_doSteps, rmX8_part]; omega, by simp only [rmX8_doSteps, rmX8_part]; omega⟩) (gx_rec F G ht9 (gwe_8 hk8) rfl) rfl rfl hl.1 rfl (lv_room (Nat.le_of_ble_eq_true rfl)) dX8_doSteps_55 ⟨Nat.zero_le _, Nat.zero_le _⟩) (fun H locs G => ?_)
              refine lv_istore (lv' := [(8, .int r32), (0, .ref (ad t)), (1, .ref (ad a1)), (2, .ref (ad a2)), (4, .int a4), (5, .int a5), (6, .int y2), (7, .int y3)]) hx hb dX8_doSteps_58 hl (by decide) rfl (fun ls hl => ?_)
              refine lv_iconst (v := 0) hx hb dX8_doSteps_60 (by decide) ?_
              refine lv_istore (lv' := [(9, .int 0), (8, .int r32), (0, .ref (ad t)), (1, .ref (ad a1)), (2, .ref (ad a2)), (4, .int a4), (5, .int a5), (6, .int y2), (7, .int y3)]) hx hb dX8_doSteps_61 hl (by decide) rfl (fun ls hl => ?_)
              obtain ⟨b33, hb33, hK33⟩ := gb_s h
              have E33 : ∀ (c36 : gm) (H : Heap) (locs : List Loc) (ls : Array Slot), (c36 : gm) = b33 → gW D ad cy N A s.heap c36 d0 H locs → lv_has ls 10 [(0, .ref (ad t)), (1, .ref (ad a1)), (2, .ref (ad a2)), (4, .int a4), (5, .int a5), (7, .int y3), (8, .int r32)] → W p l e (rmX8_doSteps (dd + 1)) s m args below meth cod H locs 0 0 Q (F0 m 114 ls []) := by
                intro c36 H locs ls hq33 G hl
                subst hq33
                replace hK33 := hK33
                have h := hK33
                refine lv_iload hx hb dX8_doSteps_114 (lv_at hl 6 rfl) ?_
                refine lv_istore (lv' := [(6, .int r32), (0, .ref (ad t)), (1, .ref (ad a1)), (2, .ref (ad a2)), (4, .int a4), (5, .int a5), (7, .int y3), (8, .int r32)]) hx hb dX8_doSteps_116 hl (by decide) rfl (fun ls hl => ?_)
                refine lv_goto (tgt := 172) hx hb dX8_doSteps_118 (by decide) ?_
                exact JK16 _ _ _ _ _ h G (lv_sub hl [1, 2, 3, 4, 5, 0, 6] rfl)
              have L33 : ∀ (n9 : Nat) (y34 : Int32) (c35 : gm) (H : Heap) (locs : List Loc) (ls : Array Slot), gloop (gu2 (fun (y34 : Int32) (c35 : gm) => m_X8_doSteps_L63 rs n t a1 a2 a5 y2 r32 y34 c35)) n9 (y34, c35) = some b33 → gW D ad cy N A s.heap c35 d0 H locs → lv_has ls 10 [(0, .ref (ad t)), (1, .ref (ad a1)), (2, .ref (ad a2)), (4, .int a4), (5, .int a5), (6, .int y2), (7, .int y3), (8, .int r32), (9, .int y34)] → W p l e (rmX8_doSteps (dd + 1)) s m args below meth cod H locs 0 0 Q (F0 m 63 ls []) := by
                intro n9
                induction n9 with
                | zero => intro y34 c35 H locs ls h; exact (gloop_0 h).elim
                | succ n9 ih =>
                  intro y34 c35 H locs ls h G hl
                  have ih33 := ih
                  obtain ⟨o33, h, hn33⟩ := gloop_s h
                  replace h := gu2_s h
                  unfold m_X8_doSteps_L63 at h
                  refine lv_iload hx hb dX8_doSteps_63 (lv_at hl 8 rfl) ?_
                  refine lv_aload_n hx hb dX8_doSteps_65 rfl (lv_at hl 0 rfl) ?_
                  refine lv_iload hx hb dX8_doSteps_66 (lv_at hl 5 rfl) ?_
                  refine lv_iconst (v := 1) hx hb dX8_doSteps_68 (by decide) ?_
                  obtain ⟨r38, hc37, h⟩ := gb_s h
                  refine gx_calli F G (va_runV (As := [.int y2, .int 1]) (rest := [.int y34]) (gx_fix F) (c_X8_part l sa D ad cy N H.size hN hI c35 d0 hc37) (cwV 2 hts gX8_doSteps_X8_part rfl rfl rfl (by decide +kernel) ⟨by simp only [rmX8_doSteps, rmX8_part]; omega, by simp only [rmX8_doSteps, rmX8_part]; omega⟩) (gx_rec F G ht9 (gwe_8 hk8) rfl) rfl rfl hl.1 rfl (lv_room (Nat.le_of_ble_eq_true rfl)) dX8_doSteps_69 ⟨Nat.zero_le _, Nat.zero_le _⟩) (fun H locs G => ?_)
                  refine lv_icmp_ge (tgt := 114) hx hb dX8_doSteps_72 (by decide) (fun q39 => ?_) (fun q39 => ?_)
                  · replace h := gt_s q39 h
                    cases h
                    exact E33 _ _ _ _ (gnx_r hn33) G (lv_sub hl [0, 1, 2, 3, 4, 6, 7] rfl)
                  · replace h := gf_s q39 h
                    refine lv_aload_n hx hb dX8_doSteps_75 rfl (lv_at hl 0 rfl) ?_
                    refine fg_8_begun F G hk8 ht9 in8 (by decide +kernel) dX8_doSteps_76 ?_
                    refine lv_sipush (v := 200) hx hb dX8_doSteps_79 (by decide) ?_
                    refine lv_icmp_ge (tgt := 114) hx hb dX8_doSteps_82 (by decide) (fun q40 => ?_) (fun q40 => ?_)
                    · replace h := gt_s q40 h
                      cases h
                      exact E33 _ _ _ _ (gnx_r hn33) G (lv_sub hl [0, 1, 2, 3, 4, 6, 7] rfl)
                    · replace h := gf_s q40 h
                      refine lv_iload hx hb dX8_doSteps_85 (lv_at hl 4 rfl) ?_
                      refine lv_bipush (v := 6) hx hb dX8_doSteps_87 (by decide) ?_
                      refine lv_icmp_ge (tgt := 114) hx hb dX8_doSteps_89 (by decide) (fun q41 => ?_) (fun q41 => ?_)
                      · replace h := gt_s q41 h
                        cases h
                        exact E33 _ _ _ _ (gnx_r hn33) G (lv_sub hl [0, 1, 2, 3, 4, 6, 7] rfl)
                      · replace h := gf_s q41 h
                        refine lv_aload_n hx hb dX8_doSteps_92 rfl (lv_at hl 0 rfl) ?_
                        refine lv_aload_n hx hb dX8_doSteps_93 rfl (lv_at hl 1 rfl) ?_
                        refine lv_aload_n hx hb dX8_doSteps_94 rfl (lv_at hl 2 rfl) ?_
                        refine lv_iload hx hb dX8_doSteps_95 (lv_at hl 5 rfl) ?_
                        refine lv_iconst (v := 1) hx hb dX8_doSteps_97 (by decide) ?_
                        refine lv_iadd hx hb dX8_doSteps_98 ?_
                        refine lv_iload hx hb dX8_doSteps_99 (lv_at hl 7 rfl) ?_
                        refine lv_iload hx hb dX8_doSteps_101 (lv_at hl 4 rfl) ?_
                        refine lv_iconst (v := 1) hx hb dX8_doSteps_103 (by decide) ?_
                        refine lv_iadd hx hb dX8_doSteps_104 ?_
                        obtain ⟨c44, hc42, h⟩ := gb_s h
                        refine gx_callv F G (va_runV (As := [.ref (ad a1), .ref (ad a2), .int (y2 + 1), .int r32, .int (a5 + 1)]) (rest := []) (gx_fix F) (hrs H.size c35 d0 hc42) (cwV 5 hts gX8_doSteps_X8_doSteps rfl rfl rfl (by decide +kernel) ⟨by simp only [rmX8_doSteps]; omega, by simp only [rmX8_doSteps]; omega⟩) (gx_rec F G ht9 (gwe_8 hk8) rfl) rfl rfl hl.1 rfl (lv_room (Nat.le_of_ble_eq_true rfl)) dX8_doSteps_105 ⟨Nat.zero_le _, Nat.zero_le _⟩) (fun H locs G => ?_)
                        obtain ⟨x45, ex45⟩ : ∃ z : Int32, z = y34 + 1 := ⟨_, rfl⟩
                        replace h := gv_s h x45 ex45
                        refine lv_iinc (v := x45) (lv' := [(9, .int x45), (0, .ref (ad t)), (1, .ref (ad a1)), (2, .ref (ad a2)), (4, .int a4), (5, .int a5), (6, .int y2), (7, .int y3), (8, .int r32)]) hx hb dX8_doSteps_108 hl (k := 8) rfl (by rw [ex45]; rfl) (by decide) rfl (fun ls hl => ?_)
                        refine lv_goto (tgt := 63) hx hb dX8_doSteps_111 (by decide) ?_
                        cases h
                        exact ih33 _ _ _ _ _ hn33 G (lv_sub hl [1, 2, 3, 4, 5, 6, 7, 8, 0] rfl)
              exact L33 n _ _ _ _ _ hb33 G (lv_sub hl [2, 3, 4, 5, 6, 7, 8, 1, 0] rfl)
  exact L1 n _ _ _ _ _ _ hb1 G (lv_sub hl [2, 3, 4, 6, 7, 1, 0] rfl)
def m_X8_doSteps : Nat → (Nat → Nat → Nat → Nat → Int32 → Int32 → Int32 → gm → Option (gm))
  | 0 => fun _ _ _ _ _ _ _ _ => none
  | dd + 1 => m_X8_doSteps_b (m_X8_doSteps dd)
theorem c_X8_doSteps (l : Launch) (sa : gSa) (D : va_G) (ad : Nat → Nat) (cy : Nat → ClassId) (N : Nat) (hN : 55 ≤ N) (hI : gI ad N) (dd : Nat) : ∀ (sz : Nat) (c d0 : gm) {n : Nat} {t : Nat} {a1 : Nat} {a2 : Nat} {a3 : Int32} {a4 : Int32} {a5 : Int32} {cZ : gm}, m_X8_doSteps dd n t a1 a2 a3 a4 a5 c = some cZ → Met l yX8_doSteps wsX8_doSteps (rmX8_doSteps dd) (va_Pc [.ref (ad t), .ref (ad a1), .ref (ad a2), .int a3, .int a4, .int a5] (gP sa D ad cy N sz c d0)) (va_Qv (fun (_ : Unit) => True) (fun _ U => gE D ad cy N cZ d0 U) (gA ad N sz)) 0 0 (gA ad N sz) := by
  induction dd with
  | zero => intro _ _ _ _ _ _ _ _ _ _ _ h; have h2 : none = some _ := h; cases h2
  | succ dd ih => intro sz c d0 _ _ _ _ _ _ _ _ h; exact c_X8_doSteps_b l sa D ad cy N sz hN hI c d0 (m_X8_doSteps dd) dd (fun sz c d0 _ _ _ _ _ _ _ _ h => ih sz c d0 h) h

def m_X8_doAll (n : Nat) (t : Nat) (a1 : Nat) (a2 : Nat) (c : gm) : Option (gm) :=
  gc (gck t = 8) (gv (gm_r c t (upd (c.1 t) 2 0)) (fun (c3 : gm) => gv (gm_r c3 t (upd (c3.1 t) 3 0)) (fun (c4 : gm) => gv (gm_r c4 t (upd (c4.1 t) 4 0)) (fun (c5 : gm) => gb (m_X8_doSteps 12 n t a1 a2 0 (c5.1 t 1) 0 c5) (fun (c8 : gm) => some c8)))))
abbrev rmX8_doAll : Room := { frames := 18, cells := 0, slots := 0, locals := 497 }
set_option maxHeartbeats 4000000 in
set_option maxRecDepth 100000 in
theorem c_X8_doAll (l : Launch) (sa : gSa) (D : va_G) (ad : Nat → Nat) (cy : Nat → ClassId) (N sz : Nat) (hN : 55 ≤ N) (hI : gI ad N) (c d0 : gm) {n : Nat} {t : Nat} {a1 : Nat} {a2 : Nat} {cZ : gm} (h : m_X8_doAll n t a1 a2 c = some cZ) : Met l yX8_doAll wsX8_doAll rmX8_doAll (va_Pc [.ref (ad t), .ref (ad a1), .ref (ad a2)] (gP sa D ad cy N sz c d0)) (va_Qv (fun (_ : Unit) => True) (fun _ U => gE D ad cy N cZ d0 U) (gA ad N sz)) 0 0 (gA ad N sz) := by
  refine Met.ofW (cc := cX8_doAll) (maxL := 3) (ret := none) (by decide) rfl ?_
  intro p e s m args below meth cod s₁ B hml hv
  obtain ⟨rfl, hsz, hP, hK, hZ⟩ := hv
  have hx := B.exec
  have hb := B.bytes
  have hr := B.returns
  have hts := atoms_spec (ws := wsX8_doAll) B.pre
  have hown : s.vm.findClass RX8 = some m.cls := findClass_of_methodNamed B.named
  have hlocks := B.notSynchronized
  subst hsz
  have hl := lv_entry ([.ref (ad t), .ref (ad a1), .ref (ad a2)]) (n := 3) (Nat.le_of_ble_eq_true rfl)
  rw [lg_entry_eq]
  generalize (lg_sl ([.ref (ad t), .ref (ad a1), .ref (ad a2)]) ++ List.replicate (3 - (lg_sl ([.ref (ad t), .ref (ad a1), .ref (ad a2)])).length) Slot.unset).toArray = ls at hl ⊢
  have hl : lv_has ls 3 [(0, .ref (ad t)), (1, .ref (ad a1)), (2, .ref (ad a2))] := hl
  have in8 : ∀ w ∈ wsX80, w ∈ wsX8_doAll := by decide +kernel
  generalize hargs : ([.ref (ad t), .ref (ad a1), .ref (ad a2)] : List Value).toArray = args at *
  generalize hAe : gA ad N s.heap.size = A
  have F : gF sa D ad cy N A p s m args cod cX8_doAll 3 wsX8_doAll RX8 := ⟨hx, hb, hml, hown, hts, hK, hI, by rw [← hAe]; exact gA_ad, by rw [← hAe]; exact gA_sz, by rw [← hAe]; exact hZ⟩
  have G : gW D ad cy N A s.heap c d0 s.heap [] := ⟨hP, va_S.rf⟩
  generalize hQ : MQ below (va_Qv (fun (_ : Unit) => True) (fun _ U => gE D ad cy N cZ d0 U) A) args s 0 0 A = Q
  suffices hgen : ∀ (H : Heap) (locs : List Loc), gW D ad cy N A s.heap c d0 H locs → W p l e rmX8_doAll s m args below meth cod H locs 0 0 Q (F0 m 0 ls []) from hgen _ _ G
  clear G
  intro H locs G
  unfold m_X8_doAll at h
  refine lv_aload_n hx hb dX8_doAll_0 rfl (lv_at hl 0 rfl) ?_
  refine lv_iconst (v := 0) hx hb dX8_doAll_1 (by decide) ?_
  obtain ⟨hk1, h⟩ := gc_s h
  have ht2 : t < N := Nat.lt_of_lt_of_le (gck_lt8 hk1) hN
  refine fp_8_begun F G hk1 ht2 in8 (by decide +kernel) dX8_doAll_2 (fun H locs G => ?_)
  obtain ⟨c3, ec3⟩ : ∃ z, z = gm_r c t (upd (c.1 t) 2 0) := ⟨_, rfl⟩
  rw [← ec3] at G
  replace h := gv_s h c3 ec3
  refine lv_aload_n hx hb dX8_doAll_5 rfl (lv_at hl 0 rfl) ?_
  refine lv_iconst (v := 0) hx hb dX8_doAll_6 (by decide) ?_
  refine fp_8_done F G hk1 ht2 in8 (by decide +kernel) dX8_doAll_7 (fun H locs G => ?_)
  obtain ⟨c4, ec4⟩ : ∃ z, z = gm_r c3 t (upd (c3.1 t) 3 0) := ⟨_, rfl⟩
  rw [← ec4] at G
  replace h := gv_s h c4 ec4
  refine lv_aload_n hx hb dX8_doAll_10 rfl (lv_at hl 0 rfl) ?_
  refine lv_iconst (v := 0) hx hb dX8_doAll_11 (by decide) ?_
  refine fp_8_refused F G hk1 ht2 in8 (by decide +kernel) dX8_doAll_12 (fun H locs G => ?_)
  obtain ⟨c5, ec5⟩ : ∃ z, z = gm_r c4 t (upd (c4.1 t) 4 0) := ⟨_, rfl⟩
  rw [← ec5] at G
  replace h := gv_s h c5 ec5
  refine lv_aload_n hx hb dX8_doAll_15 rfl (lv_at hl 0 rfl) ?_
  refine lv_aload_n hx hb dX8_doAll_16 rfl (lv_at hl 1 rfl) ?_
  refine lv_aload_n hx hb dX8_doAll_17 rfl (lv_at hl 2 rfl) ?_
  refine lv_iconst (v := 0) hx hb dX8_doAll_18 (by decide) ?_
  refine lv_aload_n hx hb dX8_doAll_19 rfl (lv_at hl 0 rfl) ?_
  refine fg_8_size F G hk1 ht2 in8 (by decide +kernel) dX8_doAll_20 ?_
  refine lv_iconst (v := 0) hx hb dX8_doAll_23 (by decide) ?_
  obtain ⟨c8, hc6, h⟩ := gb_s h
  refine gx_callv F G (va_runV (As := [.ref (ad a1), .ref (ad a2), .int 0, .int (c5.1 t 1), .int 0]) (rest := []) (gx_fix F) (c_X8_doSteps l sa D ad cy N hN hI 12 H.size c5 d0 hc6) (cwV 5 hts gX8_doAll_X8_doSteps rfl rfl rfl (by decide +kernel) ⟨by decide, by decide⟩) (gx_rec F G ht2 (gwe_8 hk1) rfl) rfl rfl hl.1 rfl (lv_room (Nat.le_of_ble_eq_true rfl)) dX8_doAll_24 ⟨Nat.zero_le _, Nat.zero_le _⟩) (fun H locs G => ?_)
  cases h
  rw [← hQ]
  exact gx_vret F G hr hlocks dX8_doAll_27
def m_X9_feed (n : Nat) (t : Nat) (a1 : Int32) (a2 : Int32) (a3 : Int32) (a4 : Int32) (a5 : Int32) (c : gm) : Option (Int32 × gm) :=
  gc (gck t = 9) ((if (c.1 1 1) ≤ 580 then gb (m_X7_put n 1 a1 c) (fun (c8 : gm) => gb (m_X7_put n 1 a2 c8) (fun (c11 : gm) => gb (m_X7_put n 1 a3 c11) (fun (c14 : gm) => gb (m_X7_put n 1 a4 c14) (fun (c17 : gm) => gb (m_X7_put n 1 a5 c17) (fun (c20 : gm) => some ((c20.1 1 1), c20)))))) else some ((-1), c)))
abbrev rmX9_feed : Room := { frames := 1, cells := 0, slots := 0, locals := 22 }
set_option maxHeartbeats 4000000 in
set_option maxRecDepth 100000 in
theorem c_X9_feed (l : Launch) (sa : gSa) (D : va_G) (ad : Nat → Nat) (cy : Nat → ClassId) (N sz : Nat) (hN : 55 ≤ N) (hI : gI ad N) (c d0 : gm) {n : Nat} {t : Nat} {a1 : Int32} {a2 : Int32} {a3 : Int32} {a4 : Int32} {a5 : Int32} {rZ : Int32} {cZ : gm} (h : m_X9_feed n t a1 a2 a3 a4 a5 c = some (rZ, cZ)) : Met l yX9_feed wsX9_feed rmX9_feed (va_Pc [.ref (ad t), .int a1, .int a2, .int a3, .int a4, .int a5] (gP sa D ad cy N sz c d0)) (va_Qi (fun (z : Int32) (_ : Unit) => z = rZ) (fun _ U => gE D ad cy N cZ d0 U) (gA ad N sz)) 0 0 (gA ad N sz) := by
  refine Met.ofW (cc := cX9_feed) (maxL := 6) (ret := (some .int)) (by decide) rfl ?_
  intro p e s m args below meth cod s₁ B hml hv
  obtain ⟨rfl, hsz, hP, hK, hZ⟩ := hv
  have hx := B.exec
  have hb := B.bytes
  have hr := B.returns
  have hts := atoms_spec (ws := wsX9_feed) B.pre
  have hown : s.vm.findClass RX9 = some m.cls := findClass_of_methodNamed B.named
  have hlocks := B.notSynchronized
  subst hsz
  have hl := lv_entry ([.ref (ad t), .int a1, .int a2, .int a3, .int a4, .int a5]) (n := 6) (Nat.le_of_ble_eq_true rfl)
  rw [lg_entry_eq]
  generalize (lg_sl ([.ref (ad t), .int a1, .int a2, .int a3, .int a4, .int a5]) ++ List.replicate (6 - (lg_sl ([.ref (ad t), .int a1, .int a2, .int a3, .int a4, .int a5])).length) Slot.unset).toArray = ls at hl ⊢
  have hl : lv_has ls 6 [(0, .ref (ad t)), (1, .int a1), (2, .int a2), (3, .int a3), (4, .int a4), (5, .int a5)] := hl
  have in7 : ∀ w ∈ wsX70, w ∈ wsX9_feed := by decide +kernel
  have in9 : ∀ w ∈ wsX90, w ∈ wsX9_feed := by decide +kernel
  generalize hargs : ([.ref (ad t), .int a1, .int a2, .int a3, .int a4, .int a5] : List Value).toArray = args at *
  generalize hAe : gA ad N s.heap.size = A
  have F : gF sa D ad cy N A p s m args cod cX9_feed 6 wsX9_feed RX9 := ⟨hx, hb, hml, hown, hts, hK, hI, by rw [← hAe]; exact gA_ad, by rw [← hAe]; exact gA_sz, by rw [← hAe]; exact hZ⟩
  have G : gW D ad cy N A s.heap c d0 s.heap [] := ⟨hP, va_S.rf⟩
  generalize hQ : MQ below (va_Qi (fun (z : Int32) (_ : Unit) => z = rZ) (fun _ U => gE D ad cy N cZ d0 U) A) args s 0 0 A = Q
  suffices hgen : ∀ (H : Heap) (locs : List Loc), gW D ad cy N A s.heap c d0 H locs → W p l e rmX9_feed s m args below meth cod H locs 0 0 Q (F0 m 0 ls []) from hgen _ _ G
  clear G
  intro H locs G
  unfold m_X9_feed at h
  refine lv_aload_n hx hb dX9_feed_0 rfl (lv_at hl 0 rfl) ?_
  obtain ⟨hk1, h⟩ := gc_s h
  have ht2 : t < N := Nat.lt_of_lt_of_le (gck_lt9 hk1) hN
  refine fg_9_text F G hk1 ht2 in9 (by decide +kernel) dX9_feed_1 ?_
  have hk3 : gck 1 = 7 := rfl
  have ht4 : 1 < N := Nat.lt_of_lt_of_le (by decide) hN
  refine fg_7_held F G hk3 ht4 in7 (by decide +kernel) dX9_feed_4 ?_
  refine lv_sipush (v := 580) hx hb dX9_feed_7 (by decide) ?_
  refine lv_icmp_le (tgt := 15) hx hb dX9_feed_10 (by decide) (fun q5 => ?_) (fun q5 => ?_)
  · replace h := gt_s q5 h
    refine lv_aload_n hx hb dX9_feed_15 rfl (lv_at hl 0 rfl) ?_
    refine fg_9_text F G hk1 ht2 in9 (by decide +kernel) dX9_feed_16 ?_
    refine lv_iload_n hx hb dX9_feed_19 rfl (lv_at hl 1 rfl) ?_
    obtain ⟨c8, hc6, h⟩ := gb_s h
    refine gx_callv F G (va_runV (As := [.int a1]) (rest := []) (gx_fix F) (c_X7_put l sa D ad cy N H.size hN hI c d0 hc6) (cwV 1 hts gX9_feed_X7_put rfl rfl rfl (by decide +kernel) ⟨by decide, by decide⟩) (gx_rec F G ht4 (gwe_7 hk3) rfl) rfl rfl hl.1 rfl (lv_room (Nat.le_of_ble_eq_true rfl)) dX9_feed_20 ⟨Nat.zero_le _, Nat.zero_le _⟩) (fun H locs G => ?_)
    refine lv_aload_n hx hb dX9_feed_23 rfl (lv_at hl 0 rfl) ?_
    refine fg_9_text F G hk1 ht2 in9 (by decide +kernel) dX9_feed_24 ?_
    refine lv_iload_n hx hb dX9_feed_27 rfl (lv_at hl 2 rfl) ?_
    obtain ⟨c11, hc9, h⟩ := gb_s h
    refine gx_callv F G (va_runV (As := [.int a2]) (rest := []) (gx_fix F) (c_X7_put l sa D ad cy N H.size hN hI c8 d0 hc9) (cwV 1 hts gX9_feed_X7_put rfl rfl rfl (by decide +kernel) ⟨by decide, by decide⟩) (gx_rec F G ht4 (gwe_7 hk3) rfl) rfl rfl hl.1 rfl (lv_room (Nat.le_of_ble_eq_true rfl)) dX9_feed_28 ⟨Nat.zero_le _, Nat.zero_le _⟩) (fun H locs G => ?_)
    refine lv_aload_n hx hb dX9_feed_31 rfl (lv_at hl 0 rfl) ?_
    refine fg_9_text F G hk1 ht2 in9 (by decide +kernel) dX9_feed_32 ?_
    refine lv_iload_n hx hb dX9_feed_35 rfl (lv_at hl 3 rfl) ?_
    obtain ⟨c14, hc12, h⟩ := gb_s h
    refine gx_callv F G (va_runV (As := [.int a3]) (rest := []) (gx_fix F) (c_X7_put l sa D ad cy N H.size hN hI c11 d0 hc12) (cwV 1 hts gX9_feed_X7_put rfl rfl rfl (by decide +kernel) ⟨by decide, by decide⟩) (gx_rec F G ht4 (gwe_7 hk3) rfl) rfl rfl hl.1 rfl (lv_room (Nat.le_of_ble_eq_true rfl)) dX9_feed_36 ⟨Nat.zero_le _, Nat.zero_le _⟩) (fun H locs G => ?_)
    refine lv_aload_n hx hb dX9_feed_39 rfl (lv_at hl 0 rfl) ?_
    refine fg_9_text F G hk1 ht2 in9 (by decide +kernel) dX9_feed_40 ?_
    refine lv_iload hx hb dX9_feed_43 (lv_at hl 4 rfl) ?_
    obtain ⟨c17, hc15, h⟩ := gb_s h
    refine gx_callv F G (va_runV (As := [.int a4]) (rest := []) (gx_fix F) (c_X7_put l sa D ad cy N H.size hN hI c14 d0 hc15) (cwV 1 hts gX9_feed_X7_put rfl rfl rfl (by decide +kernel) ⟨by decide, by decide⟩) (gx_rec F G ht4 (gwe_7 hk3) rfl) rfl rfl hl.1 rfl (lv_room (Nat.le_of_ble_eq_true rfl)) dX9_feed_45 ⟨Nat.zero_le _, Nat.zero_le _⟩) (fun H locs G => ?_)
    refine lv_aload_n hx hb dX9_feed_48 rfl (lv_at hl 0 rfl) ?_
    refine fg_9_text F G hk1 ht2 in9 (by decide +kernel) dX9_feed_49 ?_
    refine lv_iload hx hb dX9_feed_52 (lv_at hl 5 rfl) ?_
    obtain ⟨c20, hc18, h⟩ := gb_s h
    refine gx_callv F G (va_runV (As := [.int a5]) (rest := []) (gx_fix F) (c_X7_put l sa D ad cy N H.size hN hI c17 d0 hc18) (cwV 1 hts gX9_feed_X7_put rfl rfl rfl (by decide +kernel) ⟨by decide, by decide⟩) (gx_rec F G ht4 (gwe_7 hk3) rfl) rfl rfl hl.1 rfl (lv_room (Nat.le_of_ble_eq_true rfl)) dX9_feed_54 ⟨Nat.zero_le _, Nat.zero_le _⟩) (fun H locs G => ?_)
    refine lv_aload_n hx hb dX9_feed_57 rfl (lv_at hl 0 rfl) ?_
    refine fg_9_text F G hk1 ht2 in9 (by decide +kernel) dX9_feed_58 ?_
    refine fg_7_held F G hk3 ht4 in7 (by decide +kernel) dX9_feed_61 ?_
    cases h
    rw [← hQ]
    exact gx_iret F G hr hlocks dX9_feed_64
  · replace h := gf_s q5 h
    refine lv_iconst (v := (-1)) hx hb dX9_feed_13 (by decide) ?_
    cases h
    rw [← hQ]
    exact gx_iret F G hr hlocks dX9_feed_14
def m_X9_demand (t : Nat) (a1 : Int32) (c : gm) : Option ((gm) ⊕ (Nat × gm)) :=
  (if a1 = 0 then gc (gck t = 9) (gv (gm_r c t (upd (c.1 t) 14 ((c.1 t 14) + 1))) (fun (c4 : gm) => some (.inr (1, c4)))) else gok (some c))
abbrev rmX9_demand : Room := { frames := 6, cells := 0, slots := 0, locals := 90 }
abbrev rxX9_demand : Room := { frames := 6, cells := 1, slots := 6, locals := 90 }
set_option maxHeartbeats 4000000 in
set_option maxRecDepth 100000 in
theorem c_X9_demand (l : Launch) (sa : gSa) (D : va_G) (ad : Nat → Nat) (cy : Nat → ClassId) (N sz : Nat) (hN : 55 ≤ N) (hI : gI ad N) (c d0 : gm) {t : Nat} {a1 : Int32} {cZ : gm} (h : m_X9_demand t a1 c = some (.inl cZ)) : Met l yX9_demand wsX9_demand rmX9_demand (va_Pc [.ref (ad t), .int a1] (gP sa D ad cy N sz c d0)) (va_Qv (fun (_ : Unit) => True) (fun _ U => gE D ad cy N cZ d0 U) (gA ad N sz)) 0 0 (gA ad N sz) := by
  refine Met.ofW (cc := cX9_demand) (maxL := 2) (ret := none) (by decide) rfl ?_
  intro p e s m args below meth cod s₁ B hml hv
  obtain ⟨rfl, hsz, hP, hK, hZ⟩ := hv
  have hx := B.exec
  have hb := B.bytes
  have hr := B.returns
  have hts := atoms_spec (ws := wsX9_demand) B.pre
  have hown : s.vm.findClass RX9 = some m.cls := findClass_of_methodNamed B.named
  have hlocks := B.notSynchronized
  subst hsz
  have hl := lv_entry ([.ref (ad t), .int a1]) (n := 2) (Nat.le_of_ble_eq_true rfl)
  rw [lg_entry_eq]
  generalize (lg_sl ([.ref (ad t), .int a1]) ++ List.replicate (2 - (lg_sl ([.ref (ad t), .int a1])).length) Slot.unset).toArray = ls at hl ⊢
  have hl : lv_has ls 2 [(0, .ref (ad t)), (1, .int a1)] := hl
  have in9 : ∀ w ∈ wsX90, w ∈ wsX9_demand := by decide +kernel
  generalize hargs : ([.ref (ad t), .int a1] : List Value).toArray = args at *
  generalize hAe : gA ad N s.heap.size = A
  have F : gF sa D ad cy N A p s m args cod cX9_demand 2 wsX9_demand RX9 := ⟨hx, hb, hml, hown, hts, hK, hI, by rw [← hAe]; exact gA_ad, by rw [← hAe]; exact gA_sz, by rw [← hAe]; exact hZ⟩
  have G : gW D ad cy N A s.heap c d0 s.heap [] := ⟨hP, va_S.rf⟩
  generalize hQ : MQ below (va_Qv (fun (_ : Unit) => True) (fun _ U => gE D ad cy N cZ d0 U) A) args s 0 0 A = Q
  suffices hgen : ∀ (H : Heap) (locs : List Loc), gW D ad cy N A s.heap c d0 H locs → W p l e rmX9_demand s m args below meth cod H locs 0 0 Q (F0 m 0 ls []) from hgen _ _ G
  clear G
  intro H locs G
  unfold m_X9_demand at h
  refine lv_iload_n hx hb dX9_demand_0 rfl (lv_at hl 1 rfl) ?_
  refine lv_if_ne (tgt := 25) hx hb dX9_demand_1 (by decide) (fun q1 => ?_) (fun q1 => ?_)
  · replace h := gf_s q1 h
    replace h := gok_s h
    cases h
    rw [← hQ]
    exact gx_vret F G hr hlocks dX9_demand_25
  · replace h := gt_s q1 h
    refine lv_aload_n hx hb dX9_demand_4 rfl (lv_at hl 0 rfl) ?_
    refine lv_dup hx hb dX9_demand_5 rfl ?_
    obtain ⟨hk2, h⟩ := gc_s h
    have ht3 : t < N := Nat.lt_of_lt_of_le (gck_lt9 hk2) hN
    refine fg_9_illegalCalls F G hk2 ht3 in9 (by decide +kernel) dX9_demand_6 ?_
    refine lv_iconst (v := 1) hx hb dX9_demand_9 (by decide) ?_
    refine lv_iadd hx hb dX9_demand_10 ?_
    refine fp_9_illegalCalls F G hk2 ht3 in9 (by decide +kernel) dX9_demand_11 (fun H locs G => ?_)
    obtain ⟨c4, ec4⟩ : ∃ z, z = gm_r c t (upd (c.1 t) 14 ((c.1 t 14) + 1)) := ⟨_, rfl⟩
    rw [← ec4] at G
    replace h := gv_s h c4 ec4
    cases h
set_option maxHeartbeats 4000000 in
set_option maxRecDepth 100000 in
theorem cx_X9_demand (l : Launch) (hlt : l.stackTraces = false) (sa : gSa) (D : va_G) (ad : Nat → Nat) (cy : Nat → ClassId) (N sz : Nat) (hN : 55 ≤ N) (hI : gI ad N) (c d0 : gm) {t : Nat} {a1 : Int32} {kZ : Nat} {cZ : gm} (h : m_X9_demand t a1 c = some (.inr (kZ, cZ))) : vx_Met l yX9_demand wsX9_demand rxX9_demand (va_Pc [.ref (ad t), .int a1] (gP sa D ad cy N sz c d0)) (va_Qv (fun (_ : Unit) => False) (fun _ _ => True) (gA ad N sz)) (vx_X (fun (_ : Unit) => True) (fun E _ U => E = gxn kZ ∧ gE D ad cy N cZ d0 U) (gA ad N sz)) 1 6 (gA ad N sz) := by
  refine vx_ofW (cc := cX9_demand) (maxL := 2) (ret := none) (by decide) rfl ?_
  intro p e s m args below meth cod s₁ B hml htab hv
  obtain ⟨rfl, hsz, hP, hK, hZ⟩ := hv
  have hx := B.exec
  have hb := B.bytes
  have hr := B.returns
  have hts := atoms_spec (ws := wsX9_demand) B.pre
  have hown : s.vm.findClass RX9 = some m.cls := findClass_of_methodNamed B.named
  have hlocks := B.notSynchronized
  subst hsz
  have hl := lv_entry ([.ref (ad t), .int a1]) (n := 2) (Nat.le_of_ble_eq_true rfl)
  rw [lg_entry_eq]
  generalize (lg_sl ([.ref (ad t), .int a1]) ++ List.replicate (2 - (lg_sl ([.ref (ad t), .int a1])).length) Slot.unset).toArray = ls at hl ⊢
  have hl : lv_has ls 2 [(0, .ref (ad t)), (1, .int a1)] := hl
  have in9 : ∀ w ∈ wsX90, w ∈ wsX9_demand := by decide +kernel
  generalize hargs : ([.ref (ad t), .int a1] : List Value).toArray = args at *
  generalize hAe : gA ad N s.heap.size = A
  have F : gF sa D ad cy N A p s m args cod cX9_demand 2 wsX9_demand RX9 := ⟨hx, hb, hml, hown, hts, hK, hI, by rw [← hAe]; exact gA_ad, by rw [← hAe]; exact gA_sz, by rw [← hAe]; exact hZ⟩
  have G : gW D ad cy N A s.heap c d0 s.heap [] := ⟨hP, va_S.rf⟩
  generalize hQ : vx_MQ below (va_Qv (fun (_ : Unit) => False) (fun _ _ => True) A) (vx_X (fun (_ : Unit) => True) (fun E _ U => E = gxn kZ ∧ gE D ad cy N cZ d0 U) A) args s 1 6 A = Q
  suffices hgen : ∀ (H : Heap) (locs : List Loc), gW D ad cy N A s.heap c d0 H locs → W p l e rxX9_demand s m args below meth cod H locs 0 0 Q (F0 m 0 ls []) from hgen _ _ G
  clear G
  intro H locs G
  unfold m_X9_demand at h
  have gat_X9_demand := gatX9_demand hts F.2.2.2.2.2.2.2.2.2
  have ggd_X9_demand := ggdX9_demand
  refine lv_iload_n hx hb dX9_demand_0 rfl (lv_at hl 1 rfl) ?_
  refine lv_if_ne (tgt := 25) hx hb dX9_demand_1 (by decide) (fun q1 => ?_) (fun q1 => ?_)
  · replace h := gf_s q1 h
    exact (gok_no h).elim
  · replace h := gt_s q1 h
    refine lv_aload_n hx hb dX9_demand_4 rfl (lv_at hl 0 rfl) ?_
    refine lv_dup hx hb dX9_demand_5 rfl ?_
    obtain ⟨hk2, h⟩ := gc_s h
    have ht3 : t < N := Nat.lt_of_lt_of_le (gck_lt9 hk2) hN
    refine fg_9_illegalCalls F G hk2 ht3 in9 (by decide +kernel) dX9_demand_6 ?_
    refine lv_iconst (v := 1) hx hb dX9_demand_9 (by decide) ?_
    refine lv_iadd hx hb dX9_demand_10 ?_
    refine fp_9_illegalCalls F G hk2 ht3 in9 (by decide +kernel) dX9_demand_11 (fun H locs G => ?_)
    obtain ⟨c4, ec4⟩ : ∃ z, z = gm_r c t (upd (c.1 t) 14 ((c.1 t 14) + 1)) := ⟨_, rfl⟩
    rw [← ec4] at G
    replace h := gv_s h c4 ec4
    cases h
    rw [← hQ]
    refine vx_throwSW hx hb hlt (own := RX9) (cls := "java/lang/IllegalArgumentException") (text := "an argument is none such") (names := ["java/lang/RuntimeException", "java/lang/Exception"]) (ik := 336) (is := 338) (ic := 340) (A := A) hown (by decide +kernel) (by decide +kernel) (hts (.classLink RX9 336 "java/lang/IllegalArgumentException") (by decide +kernel)) (hts (.initialized "java/lang/IllegalArgumentException") (by decide +kernel)) (gZ_site F.2.2.2.2.2.2.2.2.2 _ 338 "an argument is none such" 16 (by decide)) gat_X9_demand ggd_X9_demand F.2.2.2.2.2.2.2.2.2.2.2.1.1 F.2.2.2.2.2.2.2.2.2.2.2.1.2 G.2 (hl.1.trans hml.symm) dX9_demand_14 dX9_demand_17 dX9_demand_18 dX9_demand_21 dX9_demand_24 (fun x h => (htab x h).elim) (by decide) (by decide) (by decide) (by decide) hlocks (fun t hvm hz hk => ?_) G.2.2.2 (by decide) (by decide)
    exact gx_thrown F G rfl hvm hz hk
