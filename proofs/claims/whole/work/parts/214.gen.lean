-- X10_stands X10_would X10_heaviestIn X10_ahead X10_keeps X10_chains X10_worths X10_rings X10_allRings X10_partOf X10_worth X10_fattest X10_fat X10_isMended X10_mend
def m_X10_stands (t : Nat) (a1 : Int32) (a2 : Int32) (a3 : Int32) (a4 : Int32) (c : gm) : Option (Int32 × gm) :=
  gc (gck t = 10) (gv (gm_r c t (upd (c.1 t) 0 0)) (fun (c3 : gm) => gb (m_X10_isThing t a1 c3) (fun (r5 : Int32) => gj (fun (v6 : Int32) => gb2 (m_X10_bad t v6 1 0 c3) (fun (r9 : Int32) (c10 : gm) => (if r9 = 0 then gb (m_X10_in a2 1 9) (fun (r13 : Int32) => gj (fun (v14 : Int32) => gb2 (m_X10_bad t v14 2 1 c10) (fun (r17 : Int32) (c18 : gm) => (if r17 = 0 then gb (m_X10_standsIn t 503 a1 a2 a3 a4 c18) (fun (r24 : Int32) => some (r24, c18)) else some (0, c18)))) (fun K15 => gj (fun (_ : Unit) => K15 1) (fun K25 => (if r13 = 0 then K25 () else gb (m_X10_in a4 1 9) (fun (r28 : Int32) => (if r28 = 0 then K25 () else K15 0)))))) else some (0, c10)))) (fun K7 => gj (fun (_ : Unit) => K7 1) (fun K30 => (if r5 = 0 then K30 () else gb (m_X10_isThing t a3 c3) (fun (r33 : Int32) => (if r33 = 0 then K30 () else K7 0))))))))
abbrev rmX10_stands : Room := { frames := 2, cells := 0, slots := 0, locals := 49 }
set_option maxHeartbeats 4000000 in
set_option maxRecDepth 100000 in
theorem c_X10_stands (l : Launch) (sa : gSa) (D : va_G) (ad : Nat → Nat) (cy : Nat → ClassId) (N sz : Nat) (hN : 530 ≤ N) (hI : gI ad N) (c0 c : gm) {t : Nat} {a1 : Int32} {a2 : Int32} {a3 : Int32} {a4 : Int32} {rZ : Int32} {cZ : gm} (h : m_X10_stands t a1 a2 a3 a4 c = some (rZ, cZ)) : Met l yX10_stands wsX10_stands rmX10_stands (va_Pc [.ref (ad t), .int a1, .int a2, .int a3, .int a4] (gP sa D ad cy N sz c0 c)) (va_Qi (fun (z : Int32) (_ : Unit) => z = rZ) (fun _ U => gE D ad cy N c0 cZ U) (gA ad N sz)) 0 0 (gA ad N sz) := by
  refine Met.ofW (cc := cX10_stands) (maxL := 5) (ret := (some .int)) (by decide) rfl ?_
  intro p e s m args below meth cod s₁ B hml hv
  obtain ⟨rfl, hsz, hP, hK, hZ⟩ := hv
  have hx := B.exec
  have hb := B.bytes
  have hr := B.returns
  have hts := atoms_spec (ws := wsX10_stands) B.pre
  have hown : s.vm.findClass RX10 = some m.cls := findClass_of_methodNamed B.named
  have hlocks := B.notSynchronized
  subst hsz
  have hl := lv_entry ([.ref (ad t), .int a1, .int a2, .int a3, .int a4]) (n := 5) (Nat.le_of_ble_eq_true rfl)
  rw [lg_entry_eq]
  generalize (lg_sl ([.ref (ad t), .int a1, .int a2, .int a3, .int a4]) ++ List.replicate (5 - (lg_sl ([.ref (ad t), .int a1, .int a2, .int a3, .int a4])).length) Slot.unset).toArray = ls at hl ⊢
  have hl : lv_has ls 5 [(0, .ref (ad t)), (1, .int a1), (2, .int a2), (3, .int a3), (4, .int a4)] := hl
  have in10 : ∀ w ∈ wsX100, w ∈ wsX10_stands := by decide +kernel
  generalize hargs : ([.ref (ad t), .int a1, .int a2, .int a3, .int a4] : List Value).toArray = args at *
  generalize hAe : gA ad N s.heap.size = A
  have F : gF sa D ad cy N A p s m args cod cX10_stands 5 wsX10_stands RX10 := ⟨hx, hb, hml, hown, hts, hK, hI, by rw [← hAe]; exact gA_ad, by rw [← hAe]; exact gA_sz, by rw [← hAe]; exact hZ⟩
  have G : gW D ad cy N A s.heap c0 c s.heap [] := ⟨hP, va_S.rf⟩
  generalize hQ : MQ below (va_Qi (fun (z : Int32) (_ : Unit) => z = rZ) (fun _ U => gE D ad cy N c0 cZ U) A) args s 0 0 A = Q
  suffices hgen : ∀ (H : Heap) (locs : List Loc), gW D ad cy N A s.heap c0 c H locs → W p l e rmX10_stands s m args below meth cod H locs 0 0 Q (F0 m 0 ls []) from hgen _ _ G
  clear G
  intro H locs G
  unfold m_X10_stands at h
  refine lv_aload_n hx hb dX10_stands_0 rfl (lv_at hl 0 rfl) ?_
  refine lv_iconst (v := 0) hx hb dX10_stands_1 (by decide) ?_
  obtain ⟨hk1, h⟩ := gc_s h
  have ht2 : t < N := Nat.lt_of_lt_of_le (gck_lt10 hk1) hN
  refine fp_10_thrown F G hk1 ht2 in10 (by decide +kernel) dX10_stands_2 (fun H locs G => ?_)
  obtain ⟨c3, ec3⟩ : ∃ z, z = gm_r c t (upd (c.1 t) 0 0) := ⟨_, rfl⟩
  rw [← ec3] at G
  replace h := gv_s h c3 ec3
  refine lv_aload_n hx hb dX10_stands_5 rfl (lv_at hl 0 rfl) ?_
  refine lv_aload_n hx hb dX10_stands_6 rfl (lv_at hl 0 rfl) ?_
  refine lv_iload_n hx hb dX10_stands_7 rfl (lv_at hl 1 rfl) ?_
  obtain ⟨r5, hc4, h⟩ := gb_s h
  refine gx_calli F G (va_runV (As := [.int a1]) (rest := [.ref (ad t)]) (gx_fix F) (c_X10_isThing l sa D ad cy N H.size hN hI c0 c3 hc4) (cwV 1 hts gX10_stands_X10_isThing rfl rfl rfl (by decide +kernel) ⟨by decide, by decide⟩) (gx_rec F G ht2 (gwe_10 hk1) rfl) rfl rfl hl.1 rfl (lv_room (Nat.le_of_ble_eq_true rfl)) dX10_stands_8 ⟨Nat.zero_le _, Nat.zero_le _⟩) (fun H locs G => ?_)
  obtain ⟨K7, eK7, h⟩ := gj_s h
  have JK7 : ∀ (v6 : Int32) (H : Heap) (locs : List Loc) (ls : Array Slot), K7 v6 = some (rZ, cZ) → gW D ad cy N A s.heap c0 c3 H locs → lv_has ls 5 [(0, .ref (ad t)), (1, .int a1), (2, .int a2), (3, .int a3), (4, .int a4)] → W p l e rmX10_stands s m args below meth cod H locs 0 0 Q (F0 m 27 ls [.int v6, .ref (ad t)]) := by
    intro v6 H locs ls h G hl
    rw [eK7] at h
    refine lv_iconst (v := 1) hx hb dX10_stands_27 (by decide) ?_
    refine lv_iconst (v := 0) hx hb dX10_stands_28 (by decide) ?_
    obtain ⟨r9, c10, hc8, h⟩ := gb2_s h
    refine gx_calli F G (va_runV (As := [.int v6, .int 1, .int 0]) (rest := []) (gx_fix F) (c_X10_bad l sa D ad cy N H.size hN hI c0 c3 hc8) (cwV 3 hts gX10_stands_X10_bad rfl rfl rfl (by decide +kernel) ⟨by decide, by decide⟩) (gx_rec F G ht2 (gwe_10 hk1) rfl) rfl rfl hl.1 rfl (lv_room (Nat.le_of_ble_eq_true rfl)) dX10_stands_29 ⟨Nat.zero_le _, Nat.zero_le _⟩) (fun H locs G => ?_)
    refine lv_if_ne (tgt := 70) hx hb dX10_stands_32 (by decide) (fun q11 => ?_) (fun q11 => ?_)
    · replace h := gf_s q11 h
      refine lv_iconst (v := 0) hx hb dX10_stands_70 (by decide) ?_
      cases h
      rw [← hQ]
      exact gx_iret F G hr hlocks dX10_stands_71
    · replace h := gt_s q11 h
      refine lv_aload_n hx hb dX10_stands_35 rfl (lv_at hl 0 rfl) ?_
      refine lv_iload_n hx hb dX10_stands_36 rfl (lv_at hl 2 rfl) ?_
      refine lv_iconst (v := 1) hx hb dX10_stands_37 (by decide) ?_
      refine lv_bipush (v := 9) hx hb dX10_stands_38 (by decide) ?_
      obtain ⟨r13, hc12, h⟩ := gb_s h
      refine gx_calli F G (va_runS (As := [.int a2, .int 1, .int 9]) (rest := [.ref (ad t)]) (gx_fix F) (c_X10_in l sa D ad cy N H.size hN hI c0 c10 hc12) (va_cwS 3 hts gX10_stands_X10_in rfl rfl rfl (by decide +kernel) ⟨by decide, by decide⟩) (gx_pre F G) rfl rfl hl.1 rfl (lv_room (Nat.le_of_ble_eq_true rfl)) dX10_stands_40 ⟨Nat.zero_le _, Nat.zero_le _⟩) (fun H locs G => ?_)
      obtain ⟨K15, eK15, h⟩ := gj_s h
      have JK15 : ∀ (v14 : Int32) (H : Heap) (locs : List Loc) (ls : Array Slot), K15 v14 = some (rZ, cZ) → gW D ad cy N A s.heap c0 c10 H locs → lv_has ls 5 [(0, .ref (ad t)), (1, .int a1), (2, .int a2), (3, .int a3), (4, .int a4)] → W p l e rmX10_stands s m args below meth cod H locs 0 0 Q (F0 m 62 ls [.int v14, .ref (ad t)]) := by
        intro v14 H locs ls h G hl
        rw [eK15] at h
        refine lv_iconst (v := 2) hx hb dX10_stands_62 (by decide) ?_
        refine lv_iconst (v := 1) hx hb dX10_stands_63 (by decide) ?_
        obtain ⟨r17, c18, hc16, h⟩ := gb2_s h
        refine gx_calli F G (va_runV (As := [.int v14, .int 2, .int 1]) (rest := []) (gx_fix F) (c_X10_bad l sa D ad cy N H.size hN hI c0 c10 hc16) (cwV 3 hts gX10_stands_X10_bad rfl rfl rfl (by decide +kernel) ⟨by decide, by decide⟩) (gx_rec F G ht2 (gwe_10 hk1) rfl) rfl rfl hl.1 rfl (lv_room (Nat.le_of_ble_eq_true rfl)) dX10_stands_64 ⟨Nat.zero_le _, Nat.zero_le _⟩) (fun H locs G => ?_)
        refine lv_if_eq (tgt := 72) hx hb dX10_stands_67 (by decide) (fun q19 => ?_) (fun q19 => ?_)
        · replace h := gt_s q19 h
          refine lv_aload_n hx hb dX10_stands_72 rfl (lv_at hl 0 rfl) ?_
          refine lv_aload_n hx hb dX10_stands_73 rfl (lv_at hl 0 rfl) ?_
          refine fg_10_now F G hk1 ht2 in10 (by decide +kernel) dX10_stands_74 ?_
          have hk20 : gck 503 = 22 := rfl
          have ht21 : 503 < N := Nat.lt_of_lt_of_le (by decide) hN
          have hn22 : gal 503 = 60 := rfl
          refine lv_iload_n hx hb dX10_stands_77 rfl (lv_at hl 1 rfl) ?_
          refine lv_iload_n hx hb dX10_stands_78 rfl (lv_at hl 2 rfl) ?_
          refine lv_iload_n hx hb dX10_stands_79 rfl (lv_at hl 3 rfl) ?_
          refine lv_iload hx hb dX10_stands_80 (lv_at hl 4 rfl) ?_
          obtain ⟨r24, hc23, h⟩ := gb_s h
          refine gx_calli F G (va_runV (As := [.ref (ad 503), .int a1, .int a2, .int a3, .int a4]) (rest := []) (gx_fix F) (c_X10_standsIn l sa D ad cy N H.size hN hI c0 c18 hc23) (cwV 5 hts gX10_stands_X10_standsIn rfl rfl rfl (by decide +kernel) ⟨by decide, by decide⟩) (gx_rec F G ht2 (gwe_10 hk1) rfl) rfl rfl hl.1 rfl (lv_room (Nat.le_of_ble_eq_true rfl)) dX10_stands_82 ⟨Nat.zero_le _, Nat.zero_le _⟩) (fun H locs G => ?_)
          cases h
          rw [← hQ]
          exact gx_iret F G hr hlocks dX10_stands_85
        · replace h := gf_s q19 h
          refine lv_iconst (v := 0) hx hb dX10_stands_70 (by decide) ?_
          cases h
          rw [← hQ]
          exact gx_iret F G hr hlocks dX10_stands_71
      obtain ⟨K25, eK25, h⟩ := gj_s h
      have JK25 : ∀ (H : Heap) (locs : List Loc) (ls : Array Slot), K25 () = some (rZ, cZ) → gW D ad cy N A s.heap c0 c10 H locs → lv_has ls 5 [(0, .ref (ad t)), (1, .int a1), (2, .int a2), (3, .int a3), (4, .int a4)] → W p l e rmX10_stands s m args below meth cod H locs 0 0 Q (F0 m 57 ls [.ref (ad t)]) := by
        intro  H locs ls h G hl
        rw [eK25] at h
        refine lv_iconst (v := 1) hx hb dX10_stands_57 (by decide) ?_
        refine lv_goto (tgt := 62) hx hb dX10_stands_58 (by decide) ?_
        exact JK15 _ _ _ _ h G hl
      refine lv_if_eq (tgt := 57) hx hb dX10_stands_43 (by decide) (fun q26 => ?_) (fun q26 => ?_)
      · replace h := gt_s q26 h
        exact JK25  _ _ _ h G hl
      · replace h := gf_s q26 h
        refine lv_iload hx hb dX10_stands_46 (lv_at hl 4 rfl) ?_
        refine lv_iconst (v := 1) hx hb dX10_stands_48 (by decide) ?_
        refine lv_bipush (v := 9) hx hb dX10_stands_49 (by decide) ?_
        obtain ⟨r28, hc27, h⟩ := gb_s h
        refine gx_calli F G (va_runS (As := [.int a4, .int 1, .int 9]) (rest := [.ref (ad t)]) (gx_fix F) (c_X10_in l sa D ad cy N H.size hN hI c0 c10 hc27) (va_cwS 3 hts gX10_stands_X10_in rfl rfl rfl (by decide +kernel) ⟨by decide, by decide⟩) (gx_pre F G) rfl rfl hl.1 rfl (lv_room (Nat.le_of_ble_eq_true rfl)) dX10_stands_51 ⟨Nat.zero_le _, Nat.zero_le _⟩) (fun H locs G => ?_)
        refine lv_if_ne (tgt := 61) hx hb dX10_stands_54 (by decide) (fun q29 => ?_) (fun q29 => ?_)
        · replace h := gf_s q29 h
          refine lv_iconst (v := 0) hx hb dX10_stands_61 (by decide) ?_
          exact JK15 _ _ _ _ h G hl
        · replace h := gt_s q29 h
          exact JK25  _ _ _ h G hl
  obtain ⟨K30, eK30, h⟩ := gj_s h
  have JK30 : ∀ (H : Heap) (locs : List Loc) (ls : Array Slot), K30 () = some (rZ, cZ) → gW D ad cy N A s.heap c0 c3 H locs → lv_has ls 5 [(0, .ref (ad t)), (1, .int a1), (2, .int a2), (3, .int a3), (4, .int a4)] → W p l e rmX10_stands s m args below meth cod H locs 0 0 Q (F0 m 22 ls [.ref (ad t)]) := by
    intro  H locs ls h G hl
    rw [eK30] at h
    refine lv_iconst (v := 1) hx hb dX10_stands_22 (by decide) ?_
    refine lv_goto (tgt := 27) hx hb dX10_stands_23 (by decide) ?_
    exact JK7 _ _ _ _ h G hl
  refine lv_if_eq (tgt := 22) hx hb dX10_stands_11 (by decide) (fun q31 => ?_) (fun q31 => ?_)
  · replace h := gt_s q31 h
    exact JK30  _ _ _ h G hl
  · replace h := gf_s q31 h
    refine lv_aload_n hx hb dX10_stands_14 rfl (lv_at hl 0 rfl) ?_
    refine lv_iload_n hx hb dX10_stands_15 rfl (lv_at hl 3 rfl) ?_
    obtain ⟨r33, hc32, h⟩ := gb_s h
    refine gx_calli F G (va_runV (As := [.int a3]) (rest := [.ref (ad t)]) (gx_fix F) (c_X10_isThing l sa D ad cy N H.size hN hI c0 c3 hc32) (cwV 1 hts gX10_stands_X10_isThing rfl rfl rfl (by decide +kernel) ⟨by decide, by decide⟩) (gx_rec F G ht2 (gwe_10 hk1) rfl) rfl rfl hl.1 rfl (lv_room (Nat.le_of_ble_eq_true rfl)) dX10_stands_16 ⟨Nat.zero_le _, Nat.zero_le _⟩) (fun H locs G => ?_)
    refine lv_if_ne (tgt := 26) hx hb dX10_stands_19 (by decide) (fun q34 => ?_) (fun q34 => ?_)
    · replace h := gf_s q34 h
      refine lv_iconst (v := 0) hx hb dX10_stands_26 (by decide) ?_
      exact JK7 _ _ _ _ h G hl
    · replace h := gt_s q34 h
      exact JK30  _ _ _ h G hl
def m_X10_would (n : Nat) (t : Nat) (a1 : Int32) (a2 : Int32) (a3 : Int32) (a4 : Int32) (a5 : Int32) (a6 : Int32) (a7 : Int32) (c : gm) : Option (Int32 × gm) :=
  gc (gck t = 10) (gv (gm_r c t (upd (c.1 t) 0 0)) (fun (c3 : gm) => gb (m_X10_in a1 1 60) (fun (r5 : Int32) => gj (fun (v6 : Int32) => gb2 (m_X10_bad t v6 1 1 c3) (fun (r9 : Int32) (c10 : gm) => (if r9 = 0 then gb2 (m_X10_wearBy n t a1 a2 a3 a4 a5 a6 a7 c10) (fun (r13 : Int32) (c14 : gm) => some (r13, c14)) else some (0, c10)))) (fun K7 => gj (fun (_ : Unit) => K7 1) (fun K15 => (if r5 = 0 then K15 () else gb (m_X10_in a2 0 999) (fun (r18 : Int32) => (if r18 = 0 then K15 () else gb (m_X10_in a3 0 10) (fun (r21 : Int32) => (if r21 = 0 then K15 () else gb (m_X10_in a4 0 7) (fun (r24 : Int32) => (if r24 = 0 then K15 () else gb (m_X10_in a5 0 300) (fun (r27 : Int32) => (if r27 = 0 then K15 () else gb (m_X10_in a6 0 18) (fun (r30 : Int32) => (if r30 = 0 then K15 () else gb (m_X10_in a7 0 9) (fun (r33 : Int32) => (if r33 = 0 then K15 () else K7 0))))))))))))))))))
abbrev rmX10_would : Room := { frames := 4, cells := 0, slots := 0, locals := 92 }
set_option maxHeartbeats 4000000 in
set_option maxRecDepth 100000 in
theorem c_X10_would (l : Launch) (sa : gSa) (D : va_G) (ad : Nat → Nat) (cy : Nat → ClassId) (N sz : Nat) (hN : 530 ≤ N) (hI : gI ad N) (c0 c : gm) {n : Nat} {t : Nat} {a1 : Int32} {a2 : Int32} {a3 : Int32} {a4 : Int32} {a5 : Int32} {a6 : Int32} {a7 : Int32} {rZ : Int32} {cZ : gm} (h : m_X10_would n t a1 a2 a3 a4 a5 a6 a7 c = some (rZ, cZ)) : Met l yX10_would wsX10_would rmX10_would (va_Pc [.ref (ad t), .int a1, .int a2, .int a3, .int a4, .int a5, .int a6, .int a7] (gP sa D ad cy N sz c0 c)) (va_Qi (fun (z : Int32) (_ : Unit) => z = rZ) (fun _ U => gE D ad cy N c0 cZ U) (gA ad N sz)) 0 0 (gA ad N sz) := by
  refine Met.ofW (cc := cX10_would) (maxL := 8) (ret := (some .int)) (by decide) rfl ?_
  intro p e s m args below meth cod s₁ B hml hv
  obtain ⟨rfl, hsz, hP, hK, hZ⟩ := hv
  have hx := B.exec
  have hb := B.bytes
  have hr := B.returns
  have hts := atoms_spec (ws := wsX10_would) B.pre
  have hown : s.vm.findClass RX10 = some m.cls := findClass_of_methodNamed B.named
  have hlocks := B.notSynchronized
  subst hsz
  have hl := lv_entry ([.ref (ad t), .int a1, .int a2, .int a3, .int a4, .int a5, .int a6, .int a7]) (n := 8) (Nat.le_of_ble_eq_true rfl)
  rw [lg_entry_eq]
  generalize (lg_sl ([.ref (ad t), .int a1, .int a2, .int a3, .int a4, .int a5, .int a6, .int a7]) ++ List.replicate (8 - (lg_sl ([.ref (ad t), .int a1, .int a2, .int a3, .int a4, .int a5, .int a6, .int a7])).length) Slot.unset).toArray = ls at hl ⊢
  have hl : lv_has ls 8 [(0, .ref (ad t)), (1, .int a1), (2, .int a2), (3, .int a3), (4, .int a4), (5, .int a5), (6, .int a6), (7, .int a7)] := hl
  have in10 : ∀ w ∈ wsX100, w ∈ wsX10_would := by decide +kernel
  generalize hargs : ([.ref (ad t), .int a1, .int a2, .int a3, .int a4, .int a5, .int a6, .int a7] : List Value).toArray = args at *
  generalize hAe : gA ad N s.heap.size = A
  have F : gF sa D ad cy N A p s m args cod cX10_would 8 wsX10_would RX10 := ⟨hx, hb, hml, hown, hts, hK, hI, by rw [← hAe]; exact gA_ad, by rw [← hAe]; exact gA_sz, by rw [← hAe]; exact hZ⟩
  have G : gW D ad cy N A s.heap c0 c s.heap [] := ⟨hP, va_S.rf⟩
  generalize hQ : MQ below (va_Qi (fun (z : Int32) (_ : Unit) => z = rZ) (fun _ U => gE D ad cy N c0 cZ U) A) args s 0 0 A = Q
  suffices hgen : ∀ (H : Heap) (locs : List Loc), gW D ad cy N A s.heap c0 c H locs → W p l e rmX10_would s m args below meth cod H locs 0 0 Q (F0 m 0 ls []) from hgen _ _ G
  clear G
  intro H locs G
  unfold m_X10_would at h
  refine lv_aload_n hx hb dX10_would_0 rfl (lv_at hl 0 rfl) ?_
  refine lv_iconst (v := 0) hx hb dX10_would_1 (by decide) ?_
  obtain ⟨hk1, h⟩ := gc_s h
  have ht2 : t < N := Nat.lt_of_lt_of_le (gck_lt10 hk1) hN
  refine fp_10_thrown F G hk1 ht2 in10 (by decide +kernel) dX10_would_2 (fun H locs G => ?_)
  obtain ⟨c3, ec3⟩ : ∃ z, z = gm_r c t (upd (c.1 t) 0 0) := ⟨_, rfl⟩
  rw [← ec3] at G
  replace h := gv_s h c3 ec3
  refine lv_aload_n hx hb dX10_would_5 rfl (lv_at hl 0 rfl) ?_
  refine lv_iload_n hx hb dX10_would_6 rfl (lv_at hl 1 rfl) ?_
  refine lv_iconst (v := 1) hx hb dX10_would_7 (by decide) ?_
  refine lv_bipush (v := 60) hx hb dX10_would_8 (by decide) ?_
  obtain ⟨r5, hc4, h⟩ := gb_s h
  refine gx_calli F G (va_runS (As := [.int a1, .int 1, .int 60]) (rest := [.ref (ad t)]) (gx_fix F) (c_X10_in l sa D ad cy N H.size hN hI c0 c3 hc4) (va_cwS 3 hts gX10_would_X10_in rfl rfl rfl (by decide +kernel) ⟨by decide, by decide⟩) (gx_pre F G) rfl rfl hl.1 rfl (lv_room (Nat.le_of_ble_eq_true rfl)) dX10_would_10 ⟨Nat.zero_le _, Nat.zero_le _⟩) (fun H locs G => ?_)
  obtain ⟨K7, eK7, h⟩ := gj_s h
  have JK7 : ∀ (v6 : Int32) (H : Heap) (locs : List Loc) (ls : Array Slot), K7 v6 = some (rZ, cZ) → gW D ad cy N A s.heap c0 c3 H locs → lv_has ls 8 [(0, .ref (ad t)), (1, .int a1), (2, .int a2), (3, .int a3), (4, .int a4), (5, .int a5), (6, .int a6), (7, .int a7)] → W p l e rmX10_would s m args below meth cod H locs 0 0 Q (F0 m 87 ls [.int v6, .ref (ad t)]) := by
    intro v6 H locs ls h G hl
    rw [eK7] at h
    refine lv_iconst (v := 1) hx hb dX10_would_87 (by decide) ?_
    refine lv_iconst (v := 1) hx hb dX10_would_88 (by decide) ?_
    obtain ⟨r9, c10, hc8, h⟩ := gb2_s h
    refine gx_calli F G (va_runV (As := [.int v6, .int 1, .int 1]) (rest := []) (gx_fix F) (c_X10_bad l sa D ad cy N H.size hN hI c0 c3 hc8) (cwV 3 hts gX10_would_X10_bad rfl rfl rfl (by decide +kernel) ⟨by decide, by decide⟩) (gx_rec F G ht2 (gwe_10 hk1) rfl) rfl rfl hl.1 rfl (lv_room (Nat.le_of_ble_eq_true rfl)) dX10_would_89 ⟨Nat.zero_le _, Nat.zero_le _⟩) (fun H locs G => ?_)
    refine lv_if_eq (tgt := 97) hx hb dX10_would_92 (by decide) (fun q11 => ?_) (fun q11 => ?_)
    · replace h := gt_s q11 h
      refine lv_aload_n hx hb dX10_would_97 rfl (lv_at hl 0 rfl) ?_
      refine lv_iload_n hx hb dX10_would_98 rfl (lv_at hl 1 rfl) ?_
      refine lv_iload_n hx hb dX10_would_99 rfl (lv_at hl 2 rfl) ?_
      refine lv_iload_n hx hb dX10_would_100 rfl (lv_at hl 3 rfl) ?_
      refine lv_iload hx hb dX10_would_101 (lv_at hl 4 rfl) ?_
      refine lv_iload hx hb dX10_would_103 (lv_at hl 5 rfl) ?_
      refine lv_iload hx hb dX10_would_105 (lv_at hl 6 rfl) ?_
      refine lv_iload hx hb dX10_would_107 (lv_at hl 7 rfl) ?_
      obtain ⟨r13, c14, hc12, h⟩ := gb2_s h
      refine gx_calli F G (va_runV (As := [.int a1, .int a2, .int a3, .int a4, .int a5, .int a6, .int a7]) (rest := []) (gx_fix F) (c_X10_wearBy l sa D ad cy N H.size hN hI c0 c10 hc12) (cwV 7 hts gX10_would_X10_wearBy rfl rfl rfl (by decide +kernel) ⟨by decide, by decide⟩) (gx_rec F G ht2 (gwe_10 hk1) rfl) rfl rfl hl.1 rfl (lv_room (Nat.le_of_ble_eq_true rfl)) dX10_would_109 ⟨Nat.zero_le _, Nat.zero_le _⟩) (fun H locs G => ?_)
      cases h
      rw [← hQ]
      exact gx_iret F G hr hlocks dX10_would_112
    · replace h := gf_s q11 h
      refine lv_iconst (v := 0) hx hb dX10_would_95 (by decide) ?_
      cases h
      rw [← hQ]
      exact gx_iret F G hr hlocks dX10_would_96
  obtain ⟨K15, eK15, h⟩ := gj_s h
  have JK15 : ∀ (H : Heap) (locs : List Loc) (ls : Array Slot), K15 () = some (rZ, cZ) → gW D ad cy N A s.heap c0 c3 H locs → lv_has ls 8 [(0, .ref (ad t)), (1, .int a1), (2, .int a2), (3, .int a3), (4, .int a4), (5, .int a5), (6, .int a6), (7, .int a7)] → W p l e rmX10_would s m args below meth cod H locs 0 0 Q (F0 m 82 ls [.ref (ad t)]) := by
    intro  H locs ls h G hl
    rw [eK15] at h
    refine lv_iconst (v := 1) hx hb dX10_would_82 (by decide) ?_
    refine lv_goto (tgt := 87) hx hb dX10_would_83 (by decide) ?_
    exact JK7 _ _ _ _ h G hl
  refine lv_if_eq (tgt := 82) hx hb dX10_would_13 (by decide) (fun q16 => ?_) (fun q16 => ?_)
  · replace h := gt_s q16 h
    exact JK15  _ _ _ h G hl
  · replace h := gf_s q16 h
    refine lv_iload_n hx hb dX10_would_16 rfl (lv_at hl 2 rfl) ?_
    refine lv_iconst (v := 0) hx hb dX10_would_17 (by decide) ?_
    refine lv_sipush (v := 999) hx hb dX10_would_18 (by decide) ?_
    obtain ⟨r18, hc17, h⟩ := gb_s h
    refine gx_calli F G (va_runS (As := [.int a2, .int 0, .int 999]) (rest := [.ref (ad t)]) (gx_fix F) (c_X10_in l sa D ad cy N H.size hN hI c0 c3 hc17) (va_cwS 3 hts gX10_would_X10_in rfl rfl rfl (by decide +kernel) ⟨by decide, by decide⟩) (gx_pre F G) rfl rfl hl.1 rfl (lv_room (Nat.le_of_ble_eq_true rfl)) dX10_would_21 ⟨Nat.zero_le _, Nat.zero_le _⟩) (fun H locs G => ?_)
    refine lv_if_eq (tgt := 82) hx hb dX10_would_24 (by decide) (fun q19 => ?_) (fun q19 => ?_)
    · replace h := gt_s q19 h
      exact JK15  _ _ _ h G hl
    · replace h := gf_s q19 h
      refine lv_iload_n hx hb dX10_would_27 rfl (lv_at hl 3 rfl) ?_
      refine lv_iconst (v := 0) hx hb dX10_would_28 (by decide) ?_
      refine lv_bipush (v := 10) hx hb dX10_would_29 (by decide) ?_
      obtain ⟨r21, hc20, h⟩ := gb_s h
      refine gx_calli F G (va_runS (As := [.int a3, .int 0, .int 10]) (rest := [.ref (ad t)]) (gx_fix F) (c_X10_in l sa D ad cy N H.size hN hI c0 c3 hc20) (va_cwS 3 hts gX10_would_X10_in rfl rfl rfl (by decide +kernel) ⟨by decide, by decide⟩) (gx_pre F G) rfl rfl hl.1 rfl (lv_room (Nat.le_of_ble_eq_true rfl)) dX10_would_31 ⟨Nat.zero_le _, Nat.zero_le _⟩) (fun H locs G => ?_)
      refine lv_if_eq (tgt := 82) hx hb dX10_would_34 (by decide) (fun q22 => ?_) (fun q22 => ?_)
      · replace h := gt_s q22 h
        exact JK15  _ _ _ h G hl
      · replace h := gf_s q22 h
        refine lv_iload hx hb dX10_would_37 (lv_at hl 4 rfl) ?_
        refine lv_iconst (v := 0) hx hb dX10_would_39 (by decide) ?_
        refine lv_bipush (v := 7) hx hb dX10_would_40 (by decide) ?_
        obtain ⟨r24, hc23, h⟩ := gb_s h
        refine gx_calli F G (va_runS (As := [.int a4, .int 0, .int 7]) (rest := [.ref (ad t)]) (gx_fix F) (c_X10_in l sa D ad cy N H.size hN hI c0 c3 hc23) (va_cwS 3 hts gX10_would_X10_in rfl rfl rfl (by decide +kernel) ⟨by decide, by decide⟩) (gx_pre F G) rfl rfl hl.1 rfl (lv_room (Nat.le_of_ble_eq_true rfl)) dX10_would_42 ⟨Nat.zero_le _, Nat.zero_le _⟩) (fun H locs G => ?_)
        refine lv_if_eq (tgt := 82) hx hb dX10_would_45 (by decide) (fun q25 => ?_) (fun q25 => ?_)
        · replace h := gt_s q25 h
          exact JK15  _ _ _ h G hl
        · replace h := gf_s q25 h
          refine lv_iload hx hb dX10_would_48 (lv_at hl 5 rfl) ?_
          refine lv_iconst (v := 0) hx hb dX10_would_50 (by decide) ?_
          refine lv_sipush (v := 300) hx hb dX10_would_51 (by decide) ?_
          obtain ⟨r27, hc26, h⟩ := gb_s h
          refine gx_calli F G (va_runS (As := [.int a5, .int 0, .int 300]) (rest := [.ref (ad t)]) (gx_fix F) (c_X10_in l sa D ad cy N H.size hN hI c0 c3 hc26) (va_cwS 3 hts gX10_would_X10_in rfl rfl rfl (by decide +kernel) ⟨by decide, by decide⟩) (gx_pre F G) rfl rfl hl.1 rfl (lv_room (Nat.le_of_ble_eq_true rfl)) dX10_would_54 ⟨Nat.zero_le _, Nat.zero_le _⟩) (fun H locs G => ?_)
          refine lv_if_eq (tgt := 82) hx hb dX10_would_57 (by decide) (fun q28 => ?_) (fun q28 => ?_)
          · replace h := gt_s q28 h
            exact JK15  _ _ _ h G hl
          · replace h := gf_s q28 h
            refine lv_iload hx hb dX10_would_60 (lv_at hl 6 rfl) ?_
            refine lv_iconst (v := 0) hx hb dX10_would_62 (by decide) ?_
            refine lv_bipush (v := 18) hx hb dX10_would_63 (by decide) ?_
            obtain ⟨r30, hc29, h⟩ := gb_s h
            refine gx_calli F G (va_runS (As := [.int a6, .int 0, .int 18]) (rest := [.ref (ad t)]) (gx_fix F) (c_X10_in l sa D ad cy N H.size hN hI c0 c3 hc29) (va_cwS 3 hts gX10_would_X10_in rfl rfl rfl (by decide +kernel) ⟨by decide, by decide⟩) (gx_pre F G) rfl rfl hl.1 rfl (lv_room (Nat.le_of_ble_eq_true rfl)) dX10_would_65 ⟨Nat.zero_le _, Nat.zero_le _⟩) (fun H locs G => ?_)
            refine lv_if_eq (tgt := 82) hx hb dX10_would_68 (by decide) (fun q31 => ?_) (fun q31 => ?_)
            · replace h := gt_s q31 h
              exact JK15  _ _ _ h G hl
            · replace h := gf_s q31 h
              refine lv_iload hx hb dX10_would_71 (lv_at hl 7 rfl) ?_
              refine lv_iconst (v := 0) hx hb dX10_would_73 (by decide) ?_
              refine lv_bipush (v := 9) hx hb dX10_would_74 (by decide) ?_
              obtain ⟨r33, hc32, h⟩ := gb_s h
              refine gx_calli F G (va_runS (As := [.int a7, .int 0, .int 9]) (rest := [.ref (ad t)]) (gx_fix F) (c_X10_in l sa D ad cy N H.size hN hI c0 c3 hc32) (va_cwS 3 hts gX10_would_X10_in rfl rfl rfl (by decide +kernel) ⟨by decide, by decide⟩) (gx_pre F G) rfl rfl hl.1 rfl (lv_room (Nat.le_of_ble_eq_true rfl)) dX10_would_76 ⟨Nat.zero_le _, Nat.zero_le _⟩) (fun H locs G => ?_)
              refine lv_if_ne (tgt := 86) hx hb dX10_would_79 (by decide) (fun q34 => ?_) (fun q34 => ?_)
              · replace h := gf_s q34 h
                refine lv_iconst (v := 0) hx hb dX10_would_86 (by decide) ?_
                exact JK7 _ _ _ _ h G hl
              · replace h := gt_s q34 h
                exact JK15  _ _ _ h G hl
def m_X10_heaviestIn_L4 (t : Nat) (a1 : Nat) (c : gm) (y2 : Int32) (y3 : Int32) : Option ((Int32 × Int32) ⊕ (Int32)) :=
  gc (gck t = 10) ((if (c.1 59 (0 : Int32).toNatClampNeg) ≤ y3 then some (.inr y2) else gj (fun (v12 : Int32) => gv (y3 + 1) (fun (x14 : Int32) => some (.inl (v12, x14)))) (fun K13 => gj (fun (_ : Unit) => K13 y3) (fun K15 => (if y2 = (-1) then K15 () else gc (gck a1 = 22) (gc (0 ≤ (0 + y3).toInt ∧ (0 + y3).toInt < ((gal a1) : Nat)) (gc (0 ≤ (0 + y2).toInt ∧ (0 + y2).toInt < ((gal a1) : Nat)) ((if (c.1 a1 (0 + y3).toNatClampNeg) ≤ (c.1 a1 (0 + y2).toNatClampNeg) then K13 y2 else K15 ())))))))))
def m_X10_heaviestIn (n : Nat) (t : Nat) (a1 : Nat) (c : gm) : Option (Int32) :=
  gb (gloop (gu2 (fun (y2 : Int32) (y3 : Int32) => m_X10_heaviestIn_L4 t a1 c y2 y3)) n ((-1), 0)) (fun (z4 : Int32) => some z4)
abbrev rmX10_heaviestIn : Room := { frames := 0, cells := 0, slots := 0, locals := 0 }
set_option maxHeartbeats 4000000 in
set_option maxRecDepth 100000 in
theorem c_X10_heaviestIn (l : Launch) (sa : gSa) (D : va_G) (ad : Nat → Nat) (cy : Nat → ClassId) (N sz : Nat) (hN : 530 ≤ N) (hI : gI ad N) (c0 c : gm) {n : Nat} {t : Nat} {a1 : Nat} {rZ : Int32} (h : m_X10_heaviestIn n t a1 c = some rZ) : Met l yX10_heaviestIn wsX10_heaviestIn rmX10_heaviestIn (va_Pc [.ref (ad t), .ref (ad a1)] (gP sa D ad cy N sz c0 c)) (va_Qi (fun (z : Int32) (_ : Unit) => z = rZ) (fun _ U => gE D ad cy N c0 c U) (gA ad N sz)) 0 0 (gA ad N sz) := by
  refine Met.ofW (cc := cX10_heaviestIn) (maxL := 4) (ret := (some .int)) (by decide) rfl ?_
  intro p e s m args below meth cod s₁ B hml hv
  obtain ⟨rfl, hsz, hP, hK, hZ⟩ := hv
  have hx := B.exec
  have hb := B.bytes
  have hr := B.returns
  have hts := atoms_spec (ws := wsX10_heaviestIn) B.pre
  have hown : s.vm.findClass RX10 = some m.cls := findClass_of_methodNamed B.named
  have hlocks := B.notSynchronized
  subst hsz
  have hl := lv_entry ([.ref (ad t), .ref (ad a1)]) (n := 4) (Nat.le_of_ble_eq_true rfl)
  rw [lg_entry_eq]
  generalize (lg_sl ([.ref (ad t), .ref (ad a1)]) ++ List.replicate (4 - (lg_sl ([.ref (ad t), .ref (ad a1)])).length) Slot.unset).toArray = ls at hl ⊢
  have hl : lv_has ls 4 [(0, .ref (ad t)), (1, .ref (ad a1))] := hl
  have in10 : ∀ w ∈ wsX100, w ∈ wsX10_heaviestIn := by decide +kernel
  generalize hargs : ([.ref (ad t), .ref (ad a1)] : List Value).toArray = args at *
  generalize hAe : gA ad N s.heap.size = A
  have F : gF sa D ad cy N A p s m args cod cX10_heaviestIn 4 wsX10_heaviestIn RX10 := ⟨hx, hb, hml, hown, hts, hK, hI, by rw [← hAe]; exact gA_ad, by rw [← hAe]; exact gA_sz, by rw [← hAe]; exact hZ⟩
  have G : gW D ad cy N A s.heap c0 c s.heap [] := ⟨hP, va_S.rf⟩
  generalize hQ : MQ below (va_Qi (fun (z : Int32) (_ : Unit) => z = rZ) (fun _ U => gE D ad cy N c0 c U) A) args s 0 0 A = Q
  suffices hgen : ∀ (H : Heap) (locs : List Loc), gW D ad cy N A s.heap c0 c H locs → W p l e rmX10_heaviestIn s m args below meth cod H locs 0 0 Q (F0 m 0 ls []) from hgen _ _ G
  clear G
  intro H locs G
  unfold m_X10_heaviestIn at h
  refine lv_iconst (v := (-1)) hx hb dX10_heaviestIn_0 (by decide) ?_
  refine lv_istore_n (lv' := [(2, .int (-1)), (0, .ref (ad t)), (1, .ref (ad a1))]) hx hb dX10_heaviestIn_1 rfl hl (by decide) rfl (fun ls hl => ?_)
  refine lv_iconst (v := 0) hx hb dX10_heaviestIn_2 (by decide) ?_
  refine lv_istore_n (lv' := [(3, .int 0), (2, .int (-1)), (0, .ref (ad t)), (1, .ref (ad a1))]) hx hb dX10_heaviestIn_3 rfl hl (by decide) rfl (fun ls hl => ?_)
  obtain ⟨b1, hb1, hK1⟩ := gb_s h
  have E1 : ∀ (z4 : Int32) (H : Heap) (locs : List Loc) (ls : Array Slot), (z4 : Int32) = b1 → gW D ad cy N A s.heap c0 c H locs → lv_has ls 4 [(2, .int z4)] → W p l e rmX10_heaviestIn s m args below meth cod H locs 0 0 Q (F0 m 44 ls []) := by
    intro z4 H locs ls hq1 G hl
    subst hq1
    replace hK1 := hK1
    have h := hK1
    refine lv_iload_n hx hb dX10_heaviestIn_44 rfl (lv_at hl 0 rfl) ?_
    cases h
    rw [← hQ]
    exact gx_iret F G hr hlocks dX10_heaviestIn_45
  have L1 : ∀ (n9 : Nat) (y2 : Int32) (y3 : Int32) (H : Heap) (locs : List Loc) (ls : Array Slot), gloop (gu2 (fun (y2 : Int32) (y3 : Int32) => m_X10_heaviestIn_L4 t a1 c y2 y3)) n9 (y2, y3) = some b1 → gW D ad cy N A s.heap c0 c H locs → lv_has ls 4 [(0, .ref (ad t)), (1, .ref (ad a1)), (2, .int y2), (3, .int y3)] → W p l e rmX10_heaviestIn s m args below meth cod H locs 0 0 Q (F0 m 4 ls []) := by
    intro n9
    induction n9 with
    | zero => intro y2 y3 H locs ls h; exact (gloop_0 h).elim
    | succ n9 ih =>
      intro y2 y3 H locs ls h G hl
      have ih1 := ih
      obtain ⟨o1, h, hn1⟩ := gloop_s h
      replace h := gu2_s h
      unfold m_X10_heaviestIn_L4 at h
      refine lv_iload_n hx hb dX10_heaviestIn_4 rfl (lv_at hl 3 rfl) ?_
      refine lv_aload_n hx hb dX10_heaviestIn_5 rfl (lv_at hl 0 rfl) ?_
      obtain ⟨hk5, h⟩ := gc_s h
      have ht6 : t < N := Nat.lt_of_lt_of_le (gck_lt10 hk5) hN
      refine fg_10_told F G hk5 ht6 in10 (by decide +kernel) dX10_heaviestIn_6 ?_
      have hk7 : gck 59 = 22 := rfl
      have ht8 : 59 < N := Nat.lt_of_lt_of_le (by decide) hN
      have hn9 : gal 59 = 4 := rfl
      refine lv_iconst (v := 0) hx hb dX10_heaviestIn_9 (by decide) ?_
      refine gx_mia F G hk7 ht8 hn9 (by decide) dX10_heaviestIn_10 ?_
      refine lv_icmp_ge (tgt := 44) hx hb dX10_heaviestIn_11 (by decide) (fun q11 => ?_) (fun q11 => ?_)
      · replace h := gt_s q11 h
        cases h
        exact E1 _ _ _ _ (gnx_r hn1) G (lv_sub hl [2] rfl)
      · replace h := gf_s q11 h
        refine lv_iload_n hx hb dX10_heaviestIn_14 rfl (lv_at hl 2 rfl) ?_
        refine lv_iconst (v := (-1)) hx hb dX10_heaviestIn_15 (by decide) ?_
        obtain ⟨K13, eK13, h⟩ := gj_s h
        have JK13 : ∀ (v12 : Int32) (H : Heap) (locs : List Loc) (ls : Array Slot), K13 v12 = some o1 → gW D ad cy N A s.heap c0 c H locs → lv_has ls 4 [(0, .ref (ad t)), (1, .ref (ad a1)), (3, .int y3)] → W p l e rmX10_heaviestIn s m args below meth cod H locs 0 0 Q (F0 m 37 ls [.int v12]) := by
          intro v12 H locs ls h G hl
          rw [eK13] at h
          refine lv_istore_n (lv' := [(2, .int v12), (0, .ref (ad t)), (1, .ref (ad a1)), (3, .int y3)]) hx hb dX10_heaviestIn_37 rfl hl (by decide) rfl (fun ls hl => ?_)
          obtain ⟨x14, ex14⟩ : ∃ z : Int32, z = y3 + 1 := ⟨_, rfl⟩
          replace h := gv_s h x14 ex14
          refine lv_iinc (v := x14) (lv' := [(3, .int x14), (2, .int v12), (0, .ref (ad t)), (1, .ref (ad a1))]) hx hb dX10_heaviestIn_38 hl (k := 3) rfl (by rw [ex14]; rfl) (by decide) rfl (fun ls hl => ?_)
          refine lv_goto (tgt := 4) hx hb dX10_heaviestIn_41 (by decide) ?_
          cases h
          exact ih1 _ _ _ _ _ hn1 G (lv_sub hl [2, 3, 1, 0] rfl)
        obtain ⟨K15, eK15, h⟩ := gj_s h
        have JK15 : ∀ (H : Heap) (locs : List Loc) (ls : Array Slot), K15 () = some o1 → gW D ad cy N A s.heap c0 c H locs → lv_has ls 4 [(0, .ref (ad t)), (1, .ref (ad a1)), (3, .int y3)] → W p l e rmX10_heaviestIn s m args below meth cod H locs 0 0 Q (F0 m 32 ls []) := by
          intro  H locs ls h G hl
          rw [eK15] at h
          refine lv_iload_n hx hb dX10_heaviestIn_32 rfl (lv_at hl 2 rfl) ?_
          refine lv_goto (tgt := 37) hx hb dX10_heaviestIn_33 (by decide) ?_
          exact JK13 _ _ _ _ h G hl
        refine lv_icmp_eq (tgt := 32) hx hb dX10_heaviestIn_16 (by decide) (fun q16 => ?_) (fun q16 => ?_)
        · replace h := gt_s q16 h
          exact JK15  _ _ _ h G (lv_sub hl [0, 1, 3] rfl)
        · replace h := gf_s q16 h
          refine lv_aload_n hx hb dX10_heaviestIn_19 rfl (lv_at hl 1 rfl) ?_
          refine lv_iconst (v := 0) hx hb dX10_heaviestIn_20 (by decide) ?_
          refine lv_iload_n hx hb dX10_heaviestIn_21 rfl (lv_at hl 3 rfl) ?_
          refine lv_iadd hx hb dX10_heaviestIn_22 ?_
          obtain ⟨hk17, h⟩ := gc_s h
          have ht18 : a1 < N := Nat.lt_of_lt_of_le (gck_lt22 hk17) hN
          obtain ⟨hi19, h⟩ := gc_s h
          refine gx_mia F G hk17 ht18 rfl hi19 dX10_heaviestIn_23 ?_
          refine lv_aload_n hx hb dX10_heaviestIn_24 rfl (lv_at hl 1 rfl) ?_
          refine lv_iconst (v := 0) hx hb dX10_heaviestIn_25 (by decide) ?_
          refine lv_iload_n hx hb dX10_heaviestIn_26 rfl (lv_at hl 2 rfl) ?_
          refine lv_iadd hx hb dX10_heaviestIn_27 ?_
          obtain ⟨hi20, h⟩ := gc_s h
          refine gx_mia F G hk17 ht18 rfl hi20 dX10_heaviestIn_28 ?_
          refine lv_icmp_le (tgt := 36) hx hb dX10_heaviestIn_29 (by decide) (fun q21 => ?_) (fun q21 => ?_)
          · replace h := gt_s q21 h
            refine lv_iload_n hx hb dX10_heaviestIn_36 rfl (lv_at hl 2 rfl) ?_
            exact JK13 _ _ _ _ h G (lv_sub hl [0, 1, 3] rfl)
          · replace h := gf_s q21 h
            exact JK15  _ _ _ h G (lv_sub hl [0, 1, 3] rfl)
  exact L1 n _ _ _ _ _ hb1 G (lv_sub hl [2, 3, 1, 0] rfl)
def m_X10_ahead_L53 (n : Nat) (t : Nat) (a1 : Int32) (y22 : Int32) (c23 : gm) : Option ((Int32 × gm) ⊕ (gm)) :=
  (if a1 ≤ y22 then some (.inr c23) else gb (m_X10_dayEnds n t 504 c23) (fun (c36 : gm) => gv (y22 + 1) (fun (x37 : Int32) => some (.inl (x37, c36)))))
def m_X10_ahead (n : Nat) (t : Nat) (a1 : Int32) (a2 : Int32) (c : gm) : Option (Int32 × gm) :=
  gc (gck t = 10) (gv (gm_r c t (upd (c.1 t) 0 0)) (fun (c3 : gm) => gb (m_X10_in a1 0 99) (fun (r5 : Int32) => gj (fun (v6 : Int32) => gb2 (m_X10_bad t v6 1 1 c3) (fun (r9 : Int32) (c10 : gm) => (if r9 = 0 then gb (m_X10_copies n 503 504 c10) (fun (c20 : gm) => gb (gloop (gu2 (fun (y22 : Int32) (c23 : gm) => m_X10_ahead_L53 n t a1 y22 c23)) n (0, c20)) (fun (c24 : gm) => (if a2 = 0 then gb (m_X10_weightIn n t 504 c24) (fun (r32 : Int32) => some (r32, c24)) else (if a2 = 1 then gb (m_X10_heaviestIn n t 504 c24) (fun (r30 : Int32) => some (r30, c24)) else gb (m_X10_notSo n 504 c24) (fun (r28 : Int32) => some (r28, c24)))))) else some (0, c10)))) (fun K7 => gj (fun (_ : Unit) => K7 1) (fun K38 => (if r5 = 0 then K38 () else gb (m_X10_in a2 0 2) (fun (r41 : Int32) => (if r41 = 0 then K38 () else K7 0))))))))
abbrev rmX10_ahead : Room := { frames := 6, cells := 0, slots := 0, locals := 136 }
set_option maxHeartbeats 4000000 in
set_option maxRecDepth 100000 in
theorem c_X10_ahead (l : Launch) (sa : gSa) (D : va_G) (ad : Nat → Nat) (cy : Nat → ClassId) (N sz : Nat) (hN : 530 ≤ N) (hI : gI ad N) (c0 c : gm) {n : Nat} {t : Nat} {a1 : Int32} {a2 : Int32} {rZ : Int32} {cZ : gm} (h : m_X10_ahead n t a1 a2 c = some (rZ, cZ)) : Met l yX10_ahead wsX10_ahead rmX10_ahead (va_Pc [.ref (ad t), .int a1, .int a2] (gP sa D ad cy N sz c0 c)) (va_Qi (fun (z : Int32) (_ : Unit) => z = rZ) (fun _ U => gE D ad cy N c0 cZ U) (gA ad N sz)) 0 0 (gA ad N sz) := by
  refine Met.ofW (cc := cX10_ahead) (maxL := 4) (ret := (some .int)) (by decide) rfl ?_
  intro p e s m args below meth cod s₁ B hml hv
  obtain ⟨rfl, hsz, hP, hK, hZ⟩ := hv
  have hx := B.exec
  have hb := B.bytes
  have hr := B.returns
  have hts := atoms_spec (ws := wsX10_ahead) B.pre
  have hown : s.vm.findClass RX10 = some m.cls := findClass_of_methodNamed B.named
  have hlocks := B.notSynchronized
  subst hsz
  have hl := lv_entry ([.ref (ad t), .int a1, .int a2]) (n := 4) (Nat.le_of_ble_eq_true rfl)
  rw [lg_entry_eq]
  generalize (lg_sl ([.ref (ad t), .int a1, .int a2]) ++ List.replicate (4 - (lg_sl ([.ref (ad t), .int a1, .int a2])).length) Slot.unset).toArray = ls at hl ⊢
  have hl : lv_has ls 4 [(0, .ref (ad t)), (1, .int a1), (2, .int a2)] := hl
  have in10 : ∀ w ∈ wsX100, w ∈ wsX10_ahead := by decide +kernel
  generalize hargs : ([.ref (ad t), .int a1, .int a2] : List Value).toArray = args at *
  generalize hAe : gA ad N s.heap.size = A
  have F : gF sa D ad cy N A p s m args cod cX10_ahead 4 wsX10_ahead RX10 := ⟨hx, hb, hml, hown, hts, hK, hI, by rw [← hAe]; exact gA_ad, by rw [← hAe]; exact gA_sz, by rw [← hAe]; exact hZ⟩
  have G : gW D ad cy N A s.heap c0 c s.heap [] := ⟨hP, va_S.rf⟩
  generalize hQ : MQ below (va_Qi (fun (z : Int32) (_ : Unit) => z = rZ) (fun _ U => gE D ad cy N c0 cZ U) A) args s 0 0 A = Q
  suffices hgen : ∀ (H : Heap) (locs : List Loc), gW D ad cy N A s.heap c0 c H locs → W p l e rmX10_ahead s m args below meth cod H locs 0 0 Q (F0 m 0 ls []) from hgen _ _ G
  clear G
  intro H locs G
  unfold m_X10_ahead at h
  refine lv_aload_n hx hb dX10_ahead_0 rfl (lv_at hl 0 rfl) ?_
  refine lv_iconst (v := 0) hx hb dX10_ahead_1 (by decide) ?_
  obtain ⟨hk1, h⟩ := gc_s h
  have ht2 : t < N := Nat.lt_of_lt_of_le (gck_lt10 hk1) hN
  refine fp_10_thrown F G hk1 ht2 in10 (by decide +kernel) dX10_ahead_2 (fun H locs G => ?_)
  obtain ⟨c3, ec3⟩ : ∃ z, z = gm_r c t (upd (c.1 t) 0 0) := ⟨_, rfl⟩
  rw [← ec3] at G
  replace h := gv_s h c3 ec3
  refine lv_aload_n hx hb dX10_ahead_5 rfl (lv_at hl 0 rfl) ?_
  refine lv_iload_n hx hb dX10_ahead_6 rfl (lv_at hl 1 rfl) ?_
  refine lv_iconst (v := 0) hx hb dX10_ahead_7 (by decide) ?_
  refine lv_bipush (v := 99) hx hb dX10_ahead_8 (by decide) ?_
  obtain ⟨r5, hc4, h⟩ := gb_s h
  refine gx_calli F G (va_runS (As := [.int a1, .int 0, .int 99]) (rest := [.ref (ad t)]) (gx_fix F) (c_X10_in l sa D ad cy N H.size hN hI c0 c3 hc4) (va_cwS 3 hts gX10_ahead_X10_in rfl rfl rfl (by decide +kernel) ⟨by decide, by decide⟩) (gx_pre F G) rfl rfl hl.1 rfl (lv_room (Nat.le_of_ble_eq_true rfl)) dX10_ahead_10 ⟨Nat.zero_le _, Nat.zero_le _⟩) (fun H locs G => ?_)
  obtain ⟨K7, eK7, h⟩ := gj_s h
  have JK7 : ∀ (v6 : Int32) (H : Heap) (locs : List Loc) (ls : Array Slot), K7 v6 = some (rZ, cZ) → gW D ad cy N A s.heap c0 c3 H locs → lv_has ls 4 [(0, .ref (ad t)), (1, .int a1), (2, .int a2)] → W p l e rmX10_ahead s m args below meth cod H locs 0 0 Q (F0 m 30 ls [.int v6, .ref (ad t)]) := by
    intro v6 H locs ls h G hl
    rw [eK7] at h
    refine lv_iconst (v := 1) hx hb dX10_ahead_30 (by decide) ?_
    refine lv_iconst (v := 1) hx hb dX10_ahead_31 (by decide) ?_
    obtain ⟨r9, c10, hc8, h⟩ := gb2_s h
    refine gx_calli F G (va_runV (As := [.int v6, .int 1, .int 1]) (rest := []) (gx_fix F) (c_X10_bad l sa D ad cy N H.size hN hI c0 c3 hc8) (cwV 3 hts gX10_ahead_X10_bad rfl rfl rfl (by decide +kernel) ⟨by decide, by decide⟩) (gx_rec F G ht2 (gwe_10 hk1) rfl) rfl rfl hl.1 rfl (lv_room (Nat.le_of_ble_eq_true rfl)) dX10_ahead_32 ⟨Nat.zero_le _, Nat.zero_le _⟩) (fun H locs G => ?_)
    refine lv_if_eq (tgt := 40) hx hb dX10_ahead_35 (by decide) (fun q11 => ?_) (fun q11 => ?_)
    · replace h := gt_s q11 h
      refine lv_aload_n hx hb dX10_ahead_40 rfl (lv_at hl 0 rfl) ?_
      refine fg_10_now F G hk1 ht2 in10 (by decide +kernel) dX10_ahead_41 ?_
      have hk12 : gck 503 = 22 := rfl
      have ht13 : 503 < N := Nat.lt_of_lt_of_le (by decide) hN
      have hn14 : gal 503 = 60 := rfl
      refine lv_aload_n hx hb dX10_ahead_44 rfl (lv_at hl 0 rfl) ?_
      refine fg_10_trial F G hk1 ht2 in10 (by decide +kernel) dX10_ahead_45 ?_
      have hk15 : gck 504 = 22 := rfl
      have ht16 : 504 < N := Nat.lt_of_lt_of_le (by decide) hN
      have hn17 : gal 504 = 60 := rfl
      obtain ⟨c20, hc18, h⟩ := gb_s h
      refine gx_callv F G (va_runS (As := [.ref (ad 503), .ref (ad 504)]) (rest := []) (gx_fix F) (c_X10_copies l sa D ad cy N H.size hN hI c0 c10 hc18) (va_cwS 2 hts gX10_ahead_X10_copies rfl rfl rfl (by decide +kernel) ⟨by decide, by decide⟩) (gx_pre F G) rfl rfl hl.1 rfl (lv_room (Nat.le_of_ble_eq_true rfl)) dX10_ahead_48 ⟨Nat.zero_le _, Nat.zero_le _⟩) (fun H locs G => ?_)
      refine lv_iconst (v := 0) hx hb dX10_ahead_51 (by decide) ?_
      refine lv_istore_n (lv' := [(3, .int 0), (0, .ref (ad t)), (1, .int a1), (2, .int a2)]) hx hb dX10_ahead_52 rfl hl (by decide) rfl (fun ls hl => ?_)
      obtain ⟨b21, hb21, hK21⟩ := gb_s h
      have E21 : ∀ (c24 : gm) (H : Heap) (locs : List Loc) (ls : Array Slot), (c24 : gm) = b21 → gW D ad cy N A s.heap c0 c24 H locs → lv_has ls 4 [(0, .ref (ad t)), (2, .int a2)] → W p l e rmX10_ahead s m args below meth cod H locs 0 0 Q (F0 m 72 ls []) := by
        intro c24 H locs ls hq21 G hl
        subst hq21
        replace hK21 := hK21
        have h := hK21
        refine lv_iload_n hx hb dX10_ahead_72 rfl (lv_at hl 1 rfl) ?_
        refine lv_if_ne (tgt := 87) hx hb dX10_ahead_73 (by decide) (fun q25 => ?_) (fun q25 => ?_)
        · replace h := gf_s q25 h
          refine lv_iload_n hx hb dX10_ahead_87 rfl (lv_at hl 1 rfl) ?_
          refine lv_iconst (v := 1) hx hb dX10_ahead_88 (by decide) ?_
          refine lv_icmp_ne (tgt := 103) hx hb dX10_ahead_89 (by decide) (fun q26 => ?_) (fun q26 => ?_)
          · replace h := gf_s q26 h
            refine lv_aload_n hx hb dX10_ahead_103 rfl (lv_at hl 0 rfl) ?_
            refine fg_10_trial F G hk1 ht2 in10 (by decide +kernel) dX10_ahead_104 ?_
            obtain ⟨r28, hc27, h⟩ := gb_s h
            refine gx_calli F G (va_runS (As := [.ref (ad 504)]) (rest := []) (gx_fix F) (c_X10_notSo l sa D ad cy N H.size hN hI c0 c24 hc27) (va_cwS 1 hts gX10_ahead_X10_notSo rfl rfl rfl (by decide +kernel) ⟨by decide, by decide⟩) (gx_pre F G) rfl rfl hl.1 rfl (lv_room (Nat.le_of_ble_eq_true rfl)) dX10_ahead_107 ⟨Nat.zero_le _, Nat.zero_le _⟩) (fun H locs G => ?_)
            cases h
            rw [← hQ]
            exact gx_iret F G hr hlocks dX10_ahead_110
          · replace h := gt_s q26 h
            refine lv_aload_n hx hb dX10_ahead_92 rfl (lv_at hl 0 rfl) ?_
            refine lv_aload_n hx hb dX10_ahead_93 rfl (lv_at hl 0 rfl) ?_
            refine fg_10_trial F G hk1 ht2 in10 (by decide +kernel) dX10_ahead_94 ?_
            obtain ⟨r30, hc29, h⟩ := gb_s h
            refine gx_calli F G (va_runV (As := [.ref (ad 504)]) (rest := []) (gx_fix F) (c_X10_heaviestIn l sa D ad cy N H.size hN hI c0 c24 hc29) (cwV 1 hts gX10_ahead_X10_heaviestIn rfl rfl rfl (by decide +kernel) ⟨by decide, by decide⟩) (gx_rec F G ht2 (gwe_10 hk1) rfl) rfl rfl hl.1 rfl (lv_room (Nat.le_of_ble_eq_true rfl)) dX10_ahead_97 ⟨Nat.zero_le _, Nat.zero_le _⟩) (fun H locs G => ?_)
            refine lv_goto (tgt := 110) hx hb dX10_ahead_100 (by decide) ?_
            cases h
            rw [← hQ]
            exact gx_iret F G hr hlocks dX10_ahead_110
        · replace h := gt_s q25 h
          refine lv_aload_n hx hb dX10_ahead_76 rfl (lv_at hl 0 rfl) ?_
          refine lv_aload_n hx hb dX10_ahead_77 rfl (lv_at hl 0 rfl) ?_
          refine fg_10_trial F G hk1 ht2 in10 (by decide +kernel) dX10_ahead_78 ?_
          obtain ⟨r32, hc31, h⟩ := gb_s h
          refine gx_calli F G (va_runV (As := [.ref (ad 504)]) (rest := []) (gx_fix F) (c_X10_weightIn l sa D ad cy N H.size hN hI c0 c24 hc31) (cwV 1 hts gX10_ahead_X10_weightIn rfl rfl rfl (by decide +kernel) ⟨by decide, by decide⟩) (gx_rec F G ht2 (gwe_10 hk1) rfl) rfl rfl hl.1 rfl (lv_room (Nat.le_of_ble_eq_true rfl)) dX10_ahead_81 ⟨Nat.zero_le _, Nat.zero_le _⟩) (fun H locs G => ?_)
          refine lv_goto (tgt := 110) hx hb dX10_ahead_84 (by decide) ?_
          cases h
          rw [← hQ]
          exact gx_iret F G hr hlocks dX10_ahead_110
      have L21 : ∀ (n9 : Nat) (y22 : Int32) (c23 : gm) (H : Heap) (locs : List Loc) (ls : Array Slot), gloop (gu2 (fun (y22 : Int32) (c23 : gm) => m_X10_ahead_L53 n t a1 y22 c23)) n9 (y22, c23) = some b21 → gW D ad cy N A s.heap c0 c23 H locs → lv_has ls 4 [(0, .ref (ad t)), (1, .int a1), (2, .int a2), (3, .int y22)] → W p l e rmX10_ahead s m args below meth cod H locs 0 0 Q (F0 m 53 ls []) := by
        intro n9
        induction n9 with
        | zero => intro y22 c23 H locs ls h; exact (gloop_0 h).elim
        | succ n9 ih =>
          intro y22 c23 H locs ls h G hl
          have ih21 := ih
          obtain ⟨o21, h, hn21⟩ := gloop_s h
          replace h := gu2_s h
          unfold m_X10_ahead_L53 at h
          refine lv_iload_n hx hb dX10_ahead_53 rfl (lv_at hl 3 rfl) ?_
          refine lv_iload_n hx hb dX10_ahead_54 rfl (lv_at hl 1 rfl) ?_
          refine lv_icmp_ge (tgt := 72) hx hb dX10_ahead_55 (by decide) (fun q33 => ?_) (fun q33 => ?_)
          · replace h := gt_s q33 h
            cases h
            exact E21 _ _ _ _ (gnx_r hn21) G (lv_sub hl [0, 2] rfl)
          · replace h := gf_s q33 h
            refine lv_aload_n hx hb dX10_ahead_58 rfl (lv_at hl 0 rfl) ?_
            refine lv_aload_n hx hb dX10_ahead_59 rfl (lv_at hl 0 rfl) ?_
            refine fg_10_trial F G hk1 ht2 in10 (by decide +kernel) dX10_ahead_60 ?_
            obtain ⟨c36, hc34, h⟩ := gb_s h
            refine gx_callv F G (va_runV (As := [.ref (ad 504)]) (rest := []) (gx_fix F) (c_X10_dayEnds l sa D ad cy N H.size hN hI c0 c23 hc34) (cwV 1 hts gX10_ahead_X10_dayEnds rfl rfl rfl (by decide +kernel) ⟨by decide, by decide⟩) (gx_rec F G ht2 (gwe_10 hk1) rfl) rfl rfl hl.1 rfl (lv_room (Nat.le_of_ble_eq_true rfl)) dX10_ahead_63 ⟨Nat.zero_le _, Nat.zero_le _⟩) (fun H locs G => ?_)
            obtain ⟨x37, ex37⟩ : ∃ z : Int32, z = y22 + 1 := ⟨_, rfl⟩
            replace h := gv_s h x37 ex37
            refine lv_iinc (v := x37) (lv' := [(3, .int x37), (0, .ref (ad t)), (1, .int a1), (2, .int a2)]) hx hb dX10_ahead_66 hl (k := 3) rfl (by rw [ex37]; rfl) (by decide) rfl (fun ls hl => ?_)
            refine lv_goto (tgt := 53) hx hb dX10_ahead_69 (by decide) ?_
            cases h
            exact ih21 _ _ _ _ _ hn21 G (lv_sub hl [1, 2, 3, 0] rfl)
      exact L21 n _ _ _ _ _ hb21 G (lv_sub hl [1, 2, 3, 0] rfl)
    · replace h := gf_s q11 h
      refine lv_iconst (v := 0) hx hb dX10_ahead_38 (by decide) ?_
      cases h
      rw [← hQ]
      exact gx_iret F G hr hlocks dX10_ahead_39
  obtain ⟨K38, eK38, h⟩ := gj_s h
  have JK38 : ∀ (H : Heap) (locs : List Loc) (ls : Array Slot), K38 () = some (rZ, cZ) → gW D ad cy N A s.heap c0 c3 H locs → lv_has ls 4 [(0, .ref (ad t)), (1, .int a1), (2, .int a2)] → W p l e rmX10_ahead s m args below meth cod H locs 0 0 Q (F0 m 25 ls [.ref (ad t)]) := by
    intro  H locs ls h G hl
    rw [eK38] at h
    refine lv_iconst (v := 1) hx hb dX10_ahead_25 (by decide) ?_
    refine lv_goto (tgt := 30) hx hb dX10_ahead_26 (by decide) ?_
    exact JK7 _ _ _ _ h G hl
  refine lv_if_eq (tgt := 25) hx hb dX10_ahead_13 (by decide) (fun q39 => ?_) (fun q39 => ?_)
  · replace h := gt_s q39 h
    exact JK38  _ _ _ h G hl
  · replace h := gf_s q39 h
    refine lv_iload_n hx hb dX10_ahead_16 rfl (lv_at hl 2 rfl) ?_
    refine lv_iconst (v := 0) hx hb dX10_ahead_17 (by decide) ?_
    refine lv_iconst (v := 2) hx hb dX10_ahead_18 (by decide) ?_
    obtain ⟨r41, hc40, h⟩ := gb_s h
    refine gx_calli F G (va_runS (As := [.int a2, .int 0, .int 2]) (rest := [.ref (ad t)]) (gx_fix F) (c_X10_in l sa D ad cy N H.size hN hI c0 c3 hc40) (va_cwS 3 hts gX10_ahead_X10_in rfl rfl rfl (by decide +kernel) ⟨by decide, by decide⟩) (gx_pre F G) rfl rfl hl.1 rfl (lv_room (Nat.le_of_ble_eq_true rfl)) dX10_ahead_19 ⟨Nat.zero_le _, Nat.zero_le _⟩) (fun H locs G => ?_)
    refine lv_if_ne (tgt := 29) hx hb dX10_ahead_22 (by decide) (fun q42 => ?_) (fun q42 => ?_)
    · replace h := gf_s q42 h
      refine lv_iconst (v := 0) hx hb dX10_ahead_29 (by decide) ?_
      exact JK7 _ _ _ _ h G hl
    · replace h := gt_s q42 h
      exact JK38  _ _ _ h G hl
def m_X10_keeps (t : Nat) (a1 : Int64) (a2 : Int64) (c : gm) : Option (gm) :=
  gc (gck t = 10) ((if 0 < (lg_cmp (a1 * (c.2.1 t 40)) ((c.2.1 t 39) * a2)) then gv (gm_l c t (vp_updL (c.2.1 t) 39 a1)) (fun (c4 : gm) => gv (gm_l c4 t (vp_updL (c4.2.1 t) 40 a2)) (fun (c5 : gm) => some c5)) else some c))
abbrev rmX10_keeps : Room := { frames := 0, cells := 0, slots := 0, locals := 0 }
set_option maxHeartbeats 4000000 in
set_option maxRecDepth 100000 in
theorem c_X10_keeps (l : Launch) (sa : gSa) (D : va_G) (ad : Nat → Nat) (cy : Nat → ClassId) (N sz : Nat) (hN : 530 ≤ N) (hI : gI ad N) (c0 c : gm) {t : Nat} {a1 : Int64} {a2 : Int64} {cZ : gm} (h : m_X10_keeps t a1 a2 c = some cZ) : Met l yX10_keeps wsX10_keeps rmX10_keeps (va_Pc [.ref (ad t), .long a1, .long a2] (gP sa D ad cy N sz c0 c)) (va_Qv (fun (_ : Unit) => True) (fun _ U => gE D ad cy N c0 cZ U) (gA ad N sz)) 0 0 (gA ad N sz) := by
  refine Met.ofW (cc := cX10_keeps) (maxL := 5) (ret := none) (by decide) rfl ?_
  intro p e s m args below meth cod s₁ B hml hv
  obtain ⟨rfl, hsz, hP, hK, hZ⟩ := hv
  have hx := B.exec
  have hb := B.bytes
  have hr := B.returns
  have hts := atoms_spec (ws := wsX10_keeps) B.pre
  have hown : s.vm.findClass RX10 = some m.cls := findClass_of_methodNamed B.named
  have hlocks := B.notSynchronized
  subst hsz
  have hl := lv_entry ([.ref (ad t), .long a1, .long a2]) (n := 5) (Nat.le_of_ble_eq_true rfl)
  rw [lg_entry_eq]
  generalize (lg_sl ([.ref (ad t), .long a1, .long a2]) ++ List.replicate (5 - (lg_sl ([.ref (ad t), .long a1, .long a2])).length) Slot.unset).toArray = ls at hl ⊢
  have hl : lv_has ls 5 [(0, .ref (ad t)), (1, .long a1), (3, .long a2)] := hl
  have in10 : ∀ w ∈ wsX100, w ∈ wsX10_keeps := by decide +kernel
  generalize hargs : ([.ref (ad t), .long a1, .long a2] : List Value).toArray = args at *
  generalize hAe : gA ad N s.heap.size = A
  have F : gF sa D ad cy N A p s m args cod cX10_keeps 5 wsX10_keeps RX10 := ⟨hx, hb, hml, hown, hts, hK, hI, by rw [← hAe]; exact gA_ad, by rw [← hAe]; exact gA_sz, by rw [← hAe]; exact hZ⟩
  have G : gW D ad cy N A s.heap c0 c s.heap [] := ⟨hP, va_S.rf⟩
  generalize hQ : MQ below (va_Qv (fun (_ : Unit) => True) (fun _ U => gE D ad cy N c0 cZ U) A) args s 0 0 A = Q
  suffices hgen : ∀ (H : Heap) (locs : List Loc), gW D ad cy N A s.heap c0 c H locs → W p l e rmX10_keeps s m args below meth cod H locs 0 0 Q (F0 m 0 ls []) from hgen _ _ G
  clear G
  intro H locs G
  unfold m_X10_keeps at h
  refine lv_lload_n hx hb dX10_keeps_0 rfl (lv_at hl 1 rfl) ?_
  refine lv_aload_n hx hb dX10_keeps_1 rfl (lv_at hl 0 rfl) ?_
  obtain ⟨hk1, h⟩ := gc_s h
  have ht2 : t < N := Nat.lt_of_lt_of_le (gck_lt10 hk1) hN
  refine fg_10_bestLow F G hk1 ht2 in10 (by decide +kernel) dX10_keeps_2 ?_
  refine lv_lmul hx hb dX10_keeps_5 ?_
  refine lv_aload_n hx hb dX10_keeps_6 rfl (lv_at hl 0 rfl) ?_
  refine fg_10_bestUp F G hk1 ht2 in10 (by decide +kernel) dX10_keeps_7 ?_
  refine lv_lload_n hx hb dX10_keeps_10 rfl (lv_at hl 2 rfl) ?_
  refine lv_lmul hx hb dX10_keeps_11 ?_
  refine W.lcmp hx hb dX10_keeps_12 ?_
  refine lv_if_gt (tgt := 17) hx hb dX10_keeps_13 (by decide) (fun q3 => ?_) (fun q3 => ?_)
  · replace h := gt_s q3 h
    refine lv_aload_n hx hb dX10_keeps_17 rfl (lv_at hl 0 rfl) ?_
    refine lv_lload_n hx hb dX10_keeps_18 rfl (lv_at hl 1 rfl) ?_
    refine fp_10_bestUp F G hk1 ht2 in10 (by decide +kernel) dX10_keeps_19 (fun H locs G => ?_)
    obtain ⟨c4, ec4⟩ : ∃ z, z = gm_l c t (vp_updL (c.2.1 t) 39 a1) := ⟨_, rfl⟩
    rw [← ec4] at G
    replace h := gv_s h c4 ec4
    refine lv_aload_n hx hb dX10_keeps_22 rfl (lv_at hl 0 rfl) ?_
    refine lv_lload_n hx hb dX10_keeps_23 rfl (lv_at hl 2 rfl) ?_
    refine fp_10_bestLow F G hk1 ht2 in10 (by decide +kernel) dX10_keeps_24 (fun H locs G => ?_)
    obtain ⟨c5, ec5⟩ : ∃ z, z = gm_l c4 t (vp_updL (c4.2.1 t) 40 a2) := ⟨_, rfl⟩
    rw [← ec5] at G
    replace h := gv_s h c5 ec5
    cases h
    rw [← hQ]
    exact gx_vret F G hr hlocks dX10_keeps_27
  · replace h := gf_s q3 h
    cases h
    rw [← hQ]
    exact gx_vret F G hr hlocks dX10_keeps_16
def m_X10_chains_L17 (rs : (Nat → Nat → Int32 → Int32 → Int32 → Int64 → Int64 → gm → Option (gm))) (n : Nat) (t : Nat) (a1 : Int32) (a2 : Int32) (a3 : Int32) (a4 : Int64) (a5 : Int64) (y3 : Int32) (c4 : gm) : Option ((Int32 × gm) ⊕ (gm)) :=
  gc (gck t = 10) ((if (c4.1 503 (56 : Int32).toNatClampNeg) ≤ y3 then some (.inr c4) else gv (16 + (4 * y3)) (fun (x13 : Int32) => gc (0 ≤ (x13 + 2).toInt ∧ (x13 + 2).toInt < 60) (gv (c4.1 503 (x13 + 2).toNatClampNeg) (fun (x15 : Int32) => gc (0 ≤ x13.toInt ∧ x13.toInt < 60) (gj (fun (c17 : gm) => gv (y3 + 1) (fun (x19 : Int32) => some (.inl (x19, c17)))) (fun K18 => (if (c4.1 503 x13.toNatClampNeg) = a1 then gb (m_X10_has a3 x15) (fun (r22 : Int32) => (if r22 = 0 then gc (0 ≤ (x13 + 3).toInt ∧ (x13 + 3).toInt < 60) (gc (0 ≤ (x13 + 1).toInt ∧ (x13 + 1).toInt < 60) (gb (rs n t x15 a2 (a3 ||| ((1 : Int32) <<< (x15 &&& 31))) (a4 * (Int32.toInt64 (c4.1 503 (x13 + 3).toNatClampNeg))) (a5 * (Int32.toInt64 (c4.1 503 (x13 + 1).toNatClampNeg))) c4) (fun (c28 : gm) => K18 c28))) else K18 c4)) else K18 c4))))))))
def m_X10_chains_b (rs : (Nat → Nat → Int32 → Int32 → Int32 → Int64 → Int64 → gm → Option (gm))) (n : Nat) (t : Nat) (a1 : Int32) (a2 : Int32) (a3 : Int32) (a4 : Int64) (a5 : Int64) (c : gm) : Option (gm) :=
  (if a1 = a2 then gc (gck t = 10) (gb (m_X10_keeps t a4 a5 c) (fun (c33 : gm) => some c33)) else gb (gloop (gu2 (fun (y3 : Int32) (c4 : gm) => m_X10_chains_L17 rs n t a1 a2 a3 a4 a5 y3 c4)) n (0, c)) (fun (c5 : gm) => some c5))
abbrev rmX10_chains (dd : Nat) : Room := { frames := 1 * dd + 1, cells := 0, slots := 0, locals := 30 * dd + 24 }
set_option maxHeartbeats 4000000 in
set_option maxRecDepth 100000 in
theorem c_X10_chains_b (l : Launch) (sa : gSa) (D : va_G) (ad : Nat → Nat) (cy : Nat → ClassId) (N sz : Nat) (hN : 530 ≤ N) (hI : gI ad N) (c0 c : gm) (rs : (Nat → Nat → Int32 → Int32 → Int32 → Int64 → Int64 → gm → Option (gm))) (dd : Nat) (hrs : ∀ (sz : Nat) (c0 c : gm) {n : Nat} {t : Nat} {a1 : Int32} {a2 : Int32} {a3 : Int32} {a4 : Int64} {a5 : Int64} {cZ : gm}, rs n t a1 a2 a3 a4 a5 c = some cZ → Met l yX10_chains wsX10_chains (rmX10_chains dd) (va_Pc [.ref (ad t), .int a1, .int a2, .int a3, .long a4, .long a5] (gP sa D ad cy N sz c0 c)) (va_Qv (fun (_ : Unit) => True) (fun _ U => gE D ad cy N c0 cZ U) (gA ad N sz)) 0 0 (gA ad N sz)) {n : Nat} {t : Nat} {a1 : Int32} {a2 : Int32} {a3 : Int32} {a4 : Int64} {a5 : Int64} {cZ : gm} (h : m_X10_chains_b rs n t a1 a2 a3 a4 a5 c = some cZ) : Met l yX10_chains wsX10_chains (rmX10_chains (dd + 1)) (va_Pc [.ref (ad t), .int a1, .int a2, .int a3, .long a4, .long a5] (gP sa D ad cy N sz c0 c)) (va_Qv (fun (_ : Unit) => True) (fun _ U => gE D ad cy N c0 cZ U) (gA ad N sz)) 0 0 (gA ad N sz) := by
  refine Met.ofW (cc := cX10_chains) (maxL := 11) (ret := none) (by decide) rfl ?_
  intro p e s m args below meth cod s₁ B hml hv
  obtain ⟨rfl, hsz, hP, hK, hZ⟩ := hv
  have hx := B.exec
  have hb := B.bytes
  have hr := B.returns
  have hts := atoms_spec (ws := wsX10_chains) B.pre
  have hown : s.vm.findClass RX10 = some m.cls := findClass_of_methodNamed B.named
  have hlocks := B.notSynchronized
  subst hsz
  have hl := lv_entry ([.ref (ad t), .int a1, .int a2, .int a3, .long a4, .long a5]) (n := 11) (Nat.le_of_ble_eq_true rfl)
  rw [lg_entry_eq]
  generalize (lg_sl ([.ref (ad t), .int a1, .int a2, .int a3, .long a4, .long a5]) ++ List.replicate (11 - (lg_sl ([.ref (ad t), .int a1, .int a2, .int a3, .long a4, .long a5])).length) Slot.unset).toArray = ls at hl ⊢
  have hl : lv_has ls 11 [(0, .ref (ad t)), (1, .int a1), (2, .int a2), (3, .int a3), (4, .long a4), (6, .long a5)] := hl
  have in10 : ∀ w ∈ wsX100, w ∈ wsX10_chains := by decide +kernel
  generalize hargs : ([.ref (ad t), .int a1, .int a2, .int a3, .long a4, .long a5] : List Value).toArray = args at *
  generalize hAe : gA ad N s.heap.size = A
  have F : gF sa D ad cy N A p s m args cod cX10_chains 11 wsX10_chains RX10 := ⟨hx, hb, hml, hown, hts, hK, hI, by rw [← hAe]; exact gA_ad, by rw [← hAe]; exact gA_sz, by rw [← hAe]; exact hZ⟩
  have G : gW D ad cy N A s.heap c0 c s.heap [] := ⟨hP, va_S.rf⟩
  generalize hQ : MQ below (va_Qv (fun (_ : Unit) => True) (fun _ U => gE D ad cy N c0 cZ U) A) args s 0 0 A = Q
  suffices hgen : ∀ (H : Heap) (locs : List Loc), gW D ad cy N A s.heap c0 c H locs → W p l e (rmX10_chains (dd + 1)) s m args below meth cod H locs 0 0 Q (F0 m 0 ls []) from hgen _ _ G
  clear G
  intro H locs G
  unfold m_X10_chains_b at h
  refine lv_iload_n hx hb dX10_chains_0 rfl (lv_at hl 1 rfl) ?_
  refine lv_iload_n hx hb dX10_chains_1 rfl (lv_at hl 2 rfl) ?_
  refine lv_icmp_ne (tgt := 14) hx hb dX10_chains_2 (by decide) (fun q1 => ?_) (fun q1 => ?_)
  · replace h := gf_s q1 h
    refine lv_iconst (v := 0) hx hb dX10_chains_14 (by decide) ?_
    refine lv_istore (lv' := [(8, .int 0), (0, .ref (ad t)), (1, .int a1), (2, .int a2), (3, .int a3), (4, .long a4), (6, .long a5)]) hx hb dX10_chains_15 hl (by decide) rfl (fun ls hl => ?_)
    obtain ⟨b2, hb2, hK2⟩ := gb_s h
    have E2 : ∀ (c5 : gm) (H : Heap) (locs : List Loc) (ls : Array Slot), (c5 : gm) = b2 → gW D ad cy N A s.heap c0 c5 H locs → lv_has ls 11 [] → W p l e (rmX10_chains (dd + 1)) s m args below meth cod H locs 0 0 Q (F0 m 117 ls []) := by
      intro c5 H locs ls hq2 G hl
      subst hq2
      replace hK2 := hK2
      have h := hK2
      cases h
      rw [← hQ]
      exact gx_vret F G hr hlocks dX10_chains_117
    have L2 : ∀ (n9 : Nat) (y3 : Int32) (c4 : gm) (H : Heap) (locs : List Loc) (ls : Array Slot), gloop (gu2 (fun (y3 : Int32) (c4 : gm) => m_X10_chains_L17 rs n t a1 a2 a3 a4 a5 y3 c4)) n9 (y3, c4) = some b2 → gW D ad cy N A s.heap c0 c4 H locs → lv_has ls 11 [(0, .ref (ad t)), (1, .int a1), (2, .int a2), (3, .int a3), (4, .long a4), (6, .long a5), (8, .int y3)] → W p l e (rmX10_chains (dd + 1)) s m args below meth cod H locs 0 0 Q (F0 m 17 ls []) := by
      intro n9
      induction n9 with
      | zero => intro y3 c4 H locs ls h; exact (gloop_0 h).elim
      | succ n9 ih =>
        intro y3 c4 H locs ls h G hl
        have ih2 := ih
        obtain ⟨o2, h, hn2⟩ := gloop_s h
        replace h := gu2_s h
        unfold m_X10_chains_L17 at h
        refine lv_iload hx hb dX10_chains_17 (lv_at hl 6 rfl) ?_
        refine lv_aload_n hx hb dX10_chains_19 rfl (lv_at hl 0 rfl) ?_
        obtain ⟨hk6, h⟩ := gc_s h
        have ht7 : t < N := Nat.lt_of_lt_of_le (gck_lt10 hk6) hN
        refine fg_10_now F G hk6 ht7 in10 (by decide +kernel) dX10_chains_20 ?_
        have hk8 : gck 503 = 22 := rfl
        have ht9 : 503 < N := Nat.lt_of_lt_of_le (by decide) hN
        have hn10 : gal 503 = 60 := rfl
        refine lv_bipush (v := 56) hx hb dX10_chains_23 (by decide) ?_
        refine gx_mia F G hk8 ht9 hn10 (by decide) dX10_chains_25 ?_
        refine lv_icmp_ge (tgt := 117) hx hb dX10_chains_26 (by decide) (fun q12 => ?_) (fun q12 => ?_)
        · replace h := gt_s q12 h
          cases h
          exact E2 _ _ _ _ (gnx_r hn2) G (lv_sub hl [] rfl)
        · replace h := gf_s q12 h
          refine lv_bipush (v := 16) hx hb dX10_chains_29 (by decide) ?_
          refine lv_iconst (v := 4) hx hb dX10_chains_31 (by decide) ?_
          refine lv_iload hx hb dX10_chains_32 (lv_at hl 6 rfl) ?_
          refine lv_imul hx hb dX10_chains_34 ?_
          refine lv_iadd hx hb dX10_chains_35 ?_
          refine lv_topi (fun x13 ex13 => ?_)
          replace h := gv_s h x13 ex13
          refine lv_istore (lv' := [(9, .int x13), (0, .ref (ad t)), (1, .int a1), (2, .int a2), (3, .int a3), (4, .long a4), (6, .long a5), (8, .int y3)]) hx hb dX10_chains_36 hl (by decide) rfl (fun ls hl => ?_)
          refine lv_aload_n hx hb dX10_chains_38 rfl (lv_at hl 1 rfl) ?_
          refine fg_10_now F G hk6 ht7 in10 (by decide +kernel) dX10_chains_39 ?_
          refine lv_iload hx hb dX10_chains_42 (lv_at hl 0 rfl) ?_
          refine lv_iconst (v := 2) hx hb dX10_chains_44 (by decide) ?_
          refine lv_iadd hx hb dX10_chains_45 ?_
          obtain ⟨hi14, h⟩ := gc_s h
          refine gx_mia F G hk8 ht9 hn10 hi14 dX10_chains_46 ?_
          refine lv_topi (fun x15 ex15 => ?_)
          replace h := gv_s h x15 ex15
          refine lv_istore (lv' := [(10, .int x15), (9, .int x13), (0, .ref (ad t)), (1, .int a1), (2, .int a2), (3, .int a3), (4, .long a4), (6, .long a5), (8, .int y3)]) hx hb dX10_chains_47 hl (by decide) rfl (fun ls hl => ?_)
          refine lv_aload_n hx hb dX10_chains_49 rfl (lv_at hl 2 rfl) ?_
          refine fg_10_now F G hk6 ht7 in10 (by decide +kernel) dX10_chains_50 ?_
          refine lv_iload hx hb dX10_chains_53 (lv_at hl 1 rfl) ?_
          obtain ⟨hi16, h⟩ := gc_s h
          refine gx_mia F G hk8 ht9 hn10 hi16 dX10_chains_55 ?_
          refine lv_iload_n hx hb dX10_chains_56 rfl (lv_at hl 3 rfl) ?_
          obtain ⟨K18, eK18, h⟩ := gj_s h
          have JK18 : ∀ (c17 : gm) (H : Heap) (locs : List Loc) (ls : Array Slot), K18 c17 = some o2 → gW D ad cy N A s.heap c0 c17 H locs → lv_has ls 11 [(0, .ref (ad t)), (1, .int a1), (2, .int a2), (3, .int a3), (4, .long a4), (6, .long a5), (8, .int y3)] → W p l e (rmX10_chains (dd + 1)) s m args below meth cod H locs 0 0 Q (F0 m 111 ls []) := by
            intro c17 H locs ls h G hl
            rw [eK18] at h
            obtain ⟨x19, ex19⟩ : ∃ z : Int32, z = y3 + 1 := ⟨_, rfl⟩
            replace h := gv_s h x19 ex19
            refine lv_iinc (v := x19) (lv' := [(8, .int x19), (0, .ref (ad t)), (1, .int a1), (2, .int a2), (3, .int a3), (4, .long a4), (6, .long a5)]) hx hb dX10_chains_111 hl (k := 6) rfl (by rw [ex19]; rfl) (by decide) rfl (fun ls hl => ?_)
            refine lv_goto (tgt := 17) hx hb dX10_chains_114 (by decide) ?_
            cases h
            exact ih2 _ _ _ _ _ hn2 G (lv_sub hl [1, 2, 3, 4, 5, 6, 0] rfl)
          refine lv_icmp_ne (tgt := 111) hx hb dX10_chains_57 (by decide) (fun q20 => ?_) (fun q20 => ?_)
          · replace h := gf_s q20 h
            exact JK18 _ _ _ _ h G (lv_sub hl [2, 3, 4, 5, 6, 7, 8] rfl)
          · replace h := gt_s q20 h
            refine lv_iload_n hx hb dX10_chains_60 rfl (lv_at hl 5 rfl) ?_
            refine lv_iload hx hb dX10_chains_61 (lv_at hl 0 rfl) ?_
            obtain ⟨r22, hc21, h⟩ := gb_s h
            refine gx_calli F G (va_runS (As := [.int a3, .int x15]) (rest := []) (gx_fix F) (c_X10_has l sa D ad cy N H.size hN hI c0 c4 hc21) (va_cwS 2 hts gX10_chains_X10_has rfl rfl rfl (by decide +kernel) ⟨by simp only [rmX10_chains, rmX10_has]; omega, by simp only [rmX10_chains, rmX10_has]; omega⟩) (gx_pre F G) rfl rfl hl.1 rfl (lv_room (Nat.le_of_ble_eq_true rfl)) dX10_chains_63 ⟨Nat.zero_le _, Nat.zero_le _⟩) (fun H locs G => ?_)
            refine lv_if_eq (tgt := 72) hx hb dX10_chains_66 (by decide) (fun q23 => ?_) (fun q23 => ?_)
            · replace h := gt_s q23 h
              refine lv_aload_n hx hb dX10_chains_72 rfl (lv_at hl 2 rfl) ?_
              refine lv_iload hx hb dX10_chains_73 (lv_at hl 0 rfl) ?_
              refine lv_iload_n hx hb dX10_chains_75 rfl (lv_at hl 4 rfl) ?_
              refine lv_iload_n hx hb dX10_chains_76 rfl (lv_at hl 5 rfl) ?_
              refine lv_iconst (v := 1) hx hb dX10_chains_77 (by decide) ?_
              refine lv_iload hx hb dX10_chains_78 (lv_at hl 0 rfl) ?_
              refine lv_ishl hx hb dX10_chains_80 ?_
              refine lv_ior hx hb dX10_chains_81 ?_
              refine lv_lload hx hb dX10_chains_82 (lv_at hl 6 rfl) ?_
              refine lv_aload_n hx hb dX10_chains_84 rfl (lv_at hl 2 rfl) ?_
              refine fg_10_now F G hk6 ht7 in10 (by decide +kernel) dX10_chains_85 ?_
              refine lv_iload hx hb dX10_chains_88 (lv_at hl 1 rfl) ?_
              refine lv_iconst (v := 3) hx hb dX10_chains_90 (by decide) ?_
              refine lv_iadd hx hb dX10_chains_91 ?_
              obtain ⟨hi24, h⟩ := gc_s h
              refine gx_mia F G hk8 ht9 hn10 hi24 dX10_chains_92 ?_
              refine lv_i2l hx hb dX10_chains_93 rfl ?_
              refine lv_lmul hx hb dX10_chains_94 ?_
              refine lv_lload hx hb dX10_chains_95 (lv_at hl 7 rfl) ?_
              refine lv_aload_n hx hb dX10_chains_97 rfl (lv_at hl 2 rfl) ?_
              refine fg_10_now F G hk6 ht7 in10 (by decide +kernel) dX10_chains_98 ?_
              refine lv_iload hx hb dX10_chains_101 (lv_at hl 1 rfl) ?_
              refine lv_iconst (v := 1) hx hb dX10_chains_103 (by decide) ?_
              refine lv_iadd hx hb dX10_chains_104 ?_
              obtain ⟨hi25, h⟩ := gc_s h
              refine gx_mia F G hk8 ht9 hn10 hi25 dX10_chains_105 ?_
              refine lv_i2l hx hb dX10_chains_106 rfl ?_
              refine lv_lmul hx hb dX10_chains_107 ?_
              obtain ⟨c28, hc26, h⟩ := gb_s h
              refine gx_callv F G (va_runV (As := [.int x15, .int a2, .int (a3 ||| ((1 : Int32) <<< (x15 &&& 31))), .long (a4 * (Int32.toInt64 (c4.1 503 (x13 + 3).toNatClampNeg))), .long (a5 * (Int32.toInt64 (c4.1 503 (x13 + 1).toNatClampNeg)))]) (rest := []) (gx_fix F) (hrs H.size c0 c4 hc26) (cwV 5 hts gX10_chains_X10_chains rfl rfl rfl (by decide +kernel) ⟨by simp only [rmX10_chains]; omega, by simp only [rmX10_chains]; omega⟩) (gx_rec F G ht7 (gwe_10 hk6) rfl) rfl rfl hl.1 rfl (lv_room (Nat.le_of_ble_eq_true rfl)) dX10_chains_108 ⟨Nat.zero_le _, Nat.zero_le _⟩) (fun H locs G => ?_)
              exact JK18 _ _ _ _ h G (lv_sub hl [2, 3, 4, 5, 6, 7, 8] rfl)
            · replace h := gf_s q23 h
              refine lv_goto (tgt := 111) hx hb dX10_chains_69 (by decide) ?_
              exact JK18 _ _ _ _ h G (lv_sub hl [2, 3, 4, 5, 6, 7, 8] rfl)
    exact L2 n _ _ _ _ _ hb2 G (lv_sub hl [1, 2, 3, 4, 5, 6, 0] rfl)
  · replace h := gt_s q1 h
    refine lv_aload_n hx hb dX10_chains_5 rfl (lv_at hl 0 rfl) ?_
    refine lv_lload hx hb dX10_chains_6 (lv_at hl 4 rfl) ?_
    refine lv_lload hx hb dX10_chains_8 (lv_at hl 5 rfl) ?_
    obtain ⟨hk29, h⟩ := gc_s h
    have ht30 : t < N := Nat.lt_of_lt_of_le (gck_lt10 hk29) hN
    obtain ⟨c33, hc31, h⟩ := gb_s h
    refine gx_callv F G (va_runV (As := [.long a4, .long a5]) (rest := []) (gx_fix F) (c_X10_keeps l sa D ad cy N H.size hN hI c0 c hc31) (cwV 2 hts gX10_chains_X10_keeps rfl rfl rfl (by decide +kernel) ⟨by simp only [rmX10_chains, rmX10_keeps]; omega, by simp only [rmX10_chains, rmX10_keeps]; omega⟩) (gx_rec F G ht30 (gwe_10 hk29) rfl) rfl rfl hl.1 rfl (lv_room (Nat.le_of_ble_eq_true rfl)) dX10_chains_10 ⟨Nat.zero_le _, Nat.zero_le _⟩) (fun H locs G => ?_)
    cases h
    rw [← hQ]
    exact gx_vret F G hr hlocks dX10_chains_13
def m_X10_chains : Nat → (Nat → Nat → Int32 → Int32 → Int32 → Int64 → Int64 → gm → Option (gm))
  | 0 => fun _ _ _ _ _ _ _ _ => none
  | dd + 1 => m_X10_chains_b (m_X10_chains dd)
theorem c_X10_chains (l : Launch) (sa : gSa) (D : va_G) (ad : Nat → Nat) (cy : Nat → ClassId) (N : Nat) (hN : 530 ≤ N) (hI : gI ad N) (dd : Nat) : ∀ (sz : Nat) (c0 c : gm) {n : Nat} {t : Nat} {a1 : Int32} {a2 : Int32} {a3 : Int32} {a4 : Int64} {a5 : Int64} {cZ : gm}, m_X10_chains dd n t a1 a2 a3 a4 a5 c = some cZ → Met l yX10_chains wsX10_chains (rmX10_chains dd) (va_Pc [.ref (ad t), .int a1, .int a2, .int a3, .long a4, .long a5] (gP sa D ad cy N sz c0 c)) (va_Qv (fun (_ : Unit) => True) (fun _ U => gE D ad cy N c0 cZ U) (gA ad N sz)) 0 0 (gA ad N sz) := by
  induction dd with
  | zero => intro _ _ _ _ _ _ _ _ _ _ _ h; have h2 : none = some _ := h; cases h2
  | succ dd ih => intro sz c d0 _ _ _ _ _ _ _ _ h; exact c_X10_chains_b l sa D ad cy N sz hN hI c d0 (m_X10_chains dd) dd (fun sz c d0 _ _ _ _ _ _ _ _ h => ih sz c d0 h) h

def m_X10_worths (n : Nat) (t : Nat) (a1 : Int32) (a2 : Int32) (c : gm) : Option (gm) :=
  gc (gck t = 10) (gv (gm_l c t (vp_updL (c.2.1 t) 39 (0 : Int64))) (fun (c3 : gm) => gv (gm_l c3 t (vp_updL (c3.2.1 t) 40 (1 : Int64))) (fun (c4 : gm) => gb (m_X10_chains 12 n t a1 a2 ((1 : Int32) <<< (a1 &&& 31)) (1 : Int64) (1 : Int64) c4) (fun (c7 : gm) => some c7))))
abbrev rmX10_worths : Room := { frames := 14, cells := 0, slots := 0, locals := 414 }
set_option maxHeartbeats 4000000 in
set_option maxRecDepth 100000 in
theorem c_X10_worths (l : Launch) (sa : gSa) (D : va_G) (ad : Nat → Nat) (cy : Nat → ClassId) (N sz : Nat) (hN : 530 ≤ N) (hI : gI ad N) (c0 c : gm) {n : Nat} {t : Nat} {a1 : Int32} {a2 : Int32} {cZ : gm} (h : m_X10_worths n t a1 a2 c = some cZ) : Met l yX10_worths wsX10_worths rmX10_worths (va_Pc [.ref (ad t), .int a1, .int a2] (gP sa D ad cy N sz c0 c)) (va_Qv (fun (_ : Unit) => True) (fun _ U => gE D ad cy N c0 cZ U) (gA ad N sz)) 0 0 (gA ad N sz) := by
  refine Met.ofW (cc := cX10_worths) (maxL := 3) (ret := none) (by decide) rfl ?_
  intro p e s m args below meth cod s₁ B hml hv
  obtain ⟨rfl, hsz, hP, hK, hZ⟩ := hv
  have hx := B.exec
  have hb := B.bytes
  have hr := B.returns
  have hts := atoms_spec (ws := wsX10_worths) B.pre
  have hown : s.vm.findClass RX10 = some m.cls := findClass_of_methodNamed B.named
  have hlocks := B.notSynchronized
  subst hsz
  have hl := lv_entry ([.ref (ad t), .int a1, .int a2]) (n := 3) (Nat.le_of_ble_eq_true rfl)
  rw [lg_entry_eq]
  generalize (lg_sl ([.ref (ad t), .int a1, .int a2]) ++ List.replicate (3 - (lg_sl ([.ref (ad t), .int a1, .int a2])).length) Slot.unset).toArray = ls at hl ⊢
  have hl : lv_has ls 3 [(0, .ref (ad t)), (1, .int a1), (2, .int a2)] := hl
  have in10 : ∀ w ∈ wsX100, w ∈ wsX10_worths := by decide +kernel
  generalize hargs : ([.ref (ad t), .int a1, .int a2] : List Value).toArray = args at *
  generalize hAe : gA ad N s.heap.size = A
  have F : gF sa D ad cy N A p s m args cod cX10_worths 3 wsX10_worths RX10 := ⟨hx, hb, hml, hown, hts, hK, hI, by rw [← hAe]; exact gA_ad, by rw [← hAe]; exact gA_sz, by rw [← hAe]; exact hZ⟩
  have G : gW D ad cy N A s.heap c0 c s.heap [] := ⟨hP, va_S.rf⟩
  generalize hQ : MQ below (va_Qv (fun (_ : Unit) => True) (fun _ U => gE D ad cy N c0 cZ U) A) args s 0 0 A = Q
  suffices hgen : ∀ (H : Heap) (locs : List Loc), gW D ad cy N A s.heap c0 c H locs → W p l e rmX10_worths s m args below meth cod H locs 0 0 Q (F0 m 0 ls []) from hgen _ _ G
  clear G
  intro H locs G
  unfold m_X10_worths at h
  refine lv_aload_n hx hb dX10_worths_0 rfl (lv_at hl 0 rfl) ?_
  refine lv_lconst (v := 0) hx hb dX10_worths_1 (by decide) ?_
  obtain ⟨hk1, h⟩ := gc_s h
  have ht2 : t < N := Nat.lt_of_lt_of_le (gck_lt10 hk1) hN
  refine fp_10_bestUp F G hk1 ht2 in10 (by decide +kernel) dX10_worths_2 (fun H locs G => ?_)
  obtain ⟨c3, ec3⟩ : ∃ z, z = gm_l c t (vp_updL (c.2.1 t) 39 (0 : Int64)) := ⟨_, rfl⟩
  rw [← ec3] at G
  replace h := gv_s h c3 ec3
  refine lv_aload_n hx hb dX10_worths_5 rfl (lv_at hl 0 rfl) ?_
  refine lv_lconst (v := 1) hx hb dX10_worths_6 (by decide) ?_
  refine fp_10_bestLow F G hk1 ht2 in10 (by decide +kernel) dX10_worths_7 (fun H locs G => ?_)
  obtain ⟨c4, ec4⟩ : ∃ z, z = gm_l c3 t (vp_updL (c3.2.1 t) 40 (1 : Int64)) := ⟨_, rfl⟩
  rw [← ec4] at G
  replace h := gv_s h c4 ec4
  refine lv_aload_n hx hb dX10_worths_10 rfl (lv_at hl 0 rfl) ?_
  refine lv_iload_n hx hb dX10_worths_11 rfl (lv_at hl 1 rfl) ?_
  refine lv_iload_n hx hb dX10_worths_12 rfl (lv_at hl 2 rfl) ?_
  refine lv_iconst (v := 1) hx hb dX10_worths_13 (by decide) ?_
  refine lv_iload_n hx hb dX10_worths_14 rfl (lv_at hl 1 rfl) ?_
  refine lv_ishl hx hb dX10_worths_15 ?_
  refine lv_lconst (v := 1) hx hb dX10_worths_16 (by decide) ?_
  refine lv_lconst (v := 1) hx hb dX10_worths_17 (by decide) ?_
  obtain ⟨c7, hc5, h⟩ := gb_s h
  refine gx_callv F G (va_runV (As := [.int a1, .int a2, .int ((1 : Int32) <<< (a1 &&& 31)), .long (1 : Int64), .long (1 : Int64)]) (rest := []) (gx_fix F) (c_X10_chains l sa D ad cy N hN hI 12 H.size c0 c4 hc5) (cwV 5 hts gX10_worths_X10_chains rfl rfl rfl (by decide +kernel) ⟨by decide, by decide⟩) (gx_rec F G ht2 (gwe_10 hk1) rfl) rfl rfl hl.1 rfl (lv_room (Nat.le_of_ble_eq_true rfl)) dX10_worths_18 ⟨Nat.zero_le _, Nat.zero_le _⟩) (fun H locs G => ?_)
  cases h
  rw [← hQ]
  exact gx_vret F G hr hlocks dX10_worths_21
def m_X10_rings_L3 (rs : (Nat → Nat → Int32 → Int32 → Int32 → Int32 → Int64 → Int64 → gm → Option (gm))) (n : Nat) (t : Nat) (a1 : Int32) (a2 : Int32) (a3 : Int32) (a4 : Int32) (a5 : Int64) (a6 : Int64) (y2 : Int32) (c3 : gm) : Option ((Int32 × gm) ⊕ (gm)) :=
  gc (gck t = 10) ((if (c3.1 503 (56 : Int32).toNatClampNeg) ≤ y2 then some (.inr c3) else gv (16 + (4 * y2)) (fun (x12 : Int32) => gc (0 ≤ (x12 + 2).toInt ∧ (x12 + 2).toInt < 60) (gv (c3.1 503 (x12 + 2).toNatClampNeg) (fun (x14 : Int32) => gc (0 ≤ x12.toInt ∧ x12.toInt < 60) (gj (fun (c16 : gm) => gv (y2 + 1) (fun (x18 : Int32) => some (.inl (x18, c16)))) (fun K17 => (if (c3.1 503 x12.toNatClampNeg) = a2 then (if x14 < a1 then K17 c3 else gj (fun (_ : Unit) => gc (0 ≤ (x12 + 3).toInt ∧ (x12 + 3).toInt < 60) (gv (a5 * (Int32.toInt64 (c3.1 503 (x12 + 3).toNatClampNeg))) (fun (x23 : Int64) => gc (0 ≤ (x12 + 1).toInt ∧ (x12 + 1).toInt < 60) (gv (a6 * (Int32.toInt64 (c3.1 503 (x12 + 1).toNatClampNeg))) (fun (x25 : Int64) => (if x14 = a1 then gb (m_X10_keeps t x23 x25 c3) (fun (c29 : gm) => (if 0 < (lg_cmp x23 x25) then gc (0 ≤ (a4 ||| ((1 : Int32) <<< (y2 &&& 31))).toInt ∧ (a4 ||| ((1 : Int32) <<< (y2 &&& 31))).toInt < 1024) (gv (gm_r c29 527 (upd (c29.1 527) (a4 ||| ((1 : Int32) <<< (y2 &&& 31))).toNatClampNeg (vp_nar .boolean 1))) (fun (c35 : gm) => gj (fun (v36 : Int32) => gv (gm_r c35 t (upd (c35.1 t) 42 v36)) (fun (c38 : gm) => K17 c38)) (fun K37 => (if (c35.1 t 42) = (-1) then gb (m_X10_ones n a4) (fun (r45 : Int32) => K37 (r45 + 1)) else gb (m_X10_ones n a4) (fun (r41 : Int32) => gb (m_X10_less (c35.1 t 42) (r41 + 1)) (fun (r43 : Int32) => K37 r43)))))) else K17 c29)) else gb (rs n t a1 x14 (a3 ||| ((1 : Int32) <<< (x14 &&& 31))) (a4 ||| ((1 : Int32) <<< (y2 &&& 31))) x23 x25 c3) (fun (c48 : gm) => K17 c48))))))) (fun K21 => (if x14 = a1 then K21 () else gb (m_X10_has a3 x14) (fun (r51 : Int32) => (if r51 = 0 then K21 () else K17 c3))))) else K17 c3))))))))
def m_X10_rings_b (rs : (Nat → Nat → Int32 → Int32 → Int32 → Int32 → Int64 → Int64 → gm → Option (gm))) (n : Nat) (t : Nat) (a1 : Int32) (a2 : Int32) (a3 : Int32) (a4 : Int32) (a5 : Int64) (a6 : Int64) (c : gm) : Option (gm) :=
  gb (gloop (gu2 (fun (y2 : Int32) (c3 : gm) => m_X10_rings_L3 rs n t a1 a2 a3 a4 a5 a6 y2 c3)) n (0, c)) (fun (c4 : gm) => some c4)
abbrev rmX10_rings (dd : Nat) : Room := { frames := 1 * dd + 1, cells := 0, slots := 0, locals := 35 * dd + 24 }
set_option maxHeartbeats 4000000 in
set_option maxRecDepth 100000 in
theorem c_X10_rings_b (l : Launch) (sa : gSa) (D : va_G) (ad : Nat → Nat) (cy : Nat → ClassId) (N sz : Nat) (hN : 530 ≤ N) (hI : gI ad N) (c0 c : gm) (rs : (Nat → Nat → Int32 → Int32 → Int32 → Int32 → Int64 → Int64 → gm → Option (gm))) (dd : Nat) (hrs : ∀ (sz : Nat) (c0 c : gm) {n : Nat} {t : Nat} {a1 : Int32} {a2 : Int32} {a3 : Int32} {a4 : Int32} {a5 : Int64} {a6 : Int64} {cZ : gm}, rs n t a1 a2 a3 a4 a5 a6 c = some cZ → Met l yX10_rings wsX10_rings (rmX10_rings dd) (va_Pc [.ref (ad t), .int a1, .int a2, .int a3, .int a4, .long a5, .long a6] (gP sa D ad cy N sz c0 c)) (va_Qv (fun (_ : Unit) => True) (fun _ U => gE D ad cy N c0 cZ U) (gA ad N sz)) 0 0 (gA ad N sz)) {n : Nat} {t : Nat} {a1 : Int32} {a2 : Int32} {a3 : Int32} {a4 : Int32} {a5 : Int64} {a6 : Int64} {cZ : gm} (h : m_X10_rings_b rs n t a1 a2 a3 a4 a5 a6 c = some cZ) : Met l yX10_rings wsX10_rings (rmX10_rings (dd + 1)) (va_Pc [.ref (ad t), .int a1, .int a2, .int a3, .int a4, .long a5, .long a6] (gP sa D ad cy N sz c0 c)) (va_Qv (fun (_ : Unit) => True) (fun _ U => gE D ad cy N c0 cZ U) (gA ad N sz)) 0 0 (gA ad N sz) := by
  refine Met.ofW (cc := cX10_rings) (maxL := 16) (ret := none) (by decide) rfl ?_
  intro p e s m args below meth cod s₁ B hml hv
  obtain ⟨rfl, hsz, hP, hK, hZ⟩ := hv
  have hx := B.exec
  have hb := B.bytes
  have hr := B.returns
  have hts := atoms_spec (ws := wsX10_rings) B.pre
  have hown : s.vm.findClass RX10 = some m.cls := findClass_of_methodNamed B.named
  have hlocks := B.notSynchronized
  subst hsz
  have hl := lv_entry ([.ref (ad t), .int a1, .int a2, .int a3, .int a4, .long a5, .long a6]) (n := 16) (Nat.le_of_ble_eq_true rfl)
  rw [lg_entry_eq]
  generalize (lg_sl ([.ref (ad t), .int a1, .int a2, .int a3, .int a4, .long a5, .long a6]) ++ List.replicate (16 - (lg_sl ([.ref (ad t), .int a1, .int a2, .int a3, .int a4, .long a5, .long a6])).length) Slot.unset).toArray = ls at hl ⊢
  have hl : lv_has ls 16 [(0, .ref (ad t)), (1, .int a1), (2, .int a2), (3, .int a3), (4, .int a4), (5, .long a5), (7, .long a6)] := hl
  have in10 : ∀ w ∈ wsX100, w ∈ wsX10_rings := by decide +kernel
  generalize hargs : ([.ref (ad t), .int a1, .int a2, .int a3, .int a4, .long a5, .long a6] : List Value).toArray = args at *
  generalize hAe : gA ad N s.heap.size = A
  have F : gF sa D ad cy N A p s m args cod cX10_rings 16 wsX10_rings RX10 := ⟨hx, hb, hml, hown, hts, hK, hI, by rw [← hAe]; exact gA_ad, by rw [← hAe]; exact gA_sz, by rw [← hAe]; exact hZ⟩
  have G : gW D ad cy N A s.heap c0 c s.heap [] := ⟨hP, va_S.rf⟩
  generalize hQ : MQ below (va_Qv (fun (_ : Unit) => True) (fun _ U => gE D ad cy N c0 cZ U) A) args s 0 0 A = Q
  suffices hgen : ∀ (H : Heap) (locs : List Loc), gW D ad cy N A s.heap c0 c H locs → W p l e (rmX10_rings (dd + 1)) s m args below meth cod H locs 0 0 Q (F0 m 0 ls []) from hgen _ _ G
  clear G
  intro H locs G
  unfold m_X10_rings_b at h
  refine lv_iconst (v := 0) hx hb dX10_rings_0 (by decide) ?_
  refine lv_istore (lv' := [(9, .int 0), (0, .ref (ad t)), (1, .int a1), (2, .int a2), (3, .int a3), (4, .int a4), (5, .long a5), (7, .long a6)]) hx hb dX10_rings_1 hl (by decide) rfl (fun ls hl => ?_)
  obtain ⟨b1, hb1, hK1⟩ := gb_s h
  have E1 : ∀ (c4 : gm) (H : Heap) (locs : List Loc) (ls : Array Slot), (c4 : gm) = b1 → gW D ad cy N A s.heap c0 c4 H locs → lv_has ls 16 [] → W p l e (rmX10_rings (dd + 1)) s m args below meth cod H locs 0 0 Q (F0 m 207 ls []) := by
    intro c4 H locs ls hq1 G hl
    subst hq1
    replace hK1 := hK1
    have h := hK1
    cases h
    rw [← hQ]
    exact gx_vret F G hr hlocks dX10_rings_207
  have L1 : ∀ (n9 : Nat) (y2 : Int32) (c3 : gm) (H : Heap) (locs : List Loc) (ls : Array Slot), gloop (gu2 (fun (y2 : Int32) (c3 : gm) => m_X10_rings_L3 rs n t a1 a2 a3 a4 a5 a6 y2 c3)) n9 (y2, c3) = some b1 → gW D ad cy N A s.heap c0 c3 H locs → lv_has ls 16 [(0, .ref (ad t)), (1, .int a1), (2, .int a2), (3, .int a3), (4, .int a4), (5, .long a5), (7, .long a6), (9, .int y2)] → W p l e (rmX10_rings (dd + 1)) s m args below meth cod H locs 0 0 Q (F0 m 3 ls []) := by
    intro n9
    induction n9 with
    | zero => intro y2 c3 H locs ls h; exact (gloop_0 h).elim
    | succ n9 ih =>
      intro y2 c3 H locs ls h G hl
      have ih1 := ih
      obtain ⟨o1, h, hn1⟩ := gloop_s h
      replace h := gu2_s h
      unfold m_X10_rings_L3 at h
      refine lv_iload hx hb dX10_rings_3 (lv_at hl 7 rfl) ?_
      refine lv_aload_n hx hb dX10_rings_5 rfl (lv_at hl 0 rfl) ?_
      obtain ⟨hk5, h⟩ := gc_s h
      have ht6 : t < N := Nat.lt_of_lt_of_le (gck_lt10 hk5) hN
      refine fg_10_now F G hk5 ht6 in10 (by decide +kernel) dX10_rings_6 ?_
      have hk7 : gck 503 = 22 := rfl
      have ht8 : 503 < N := Nat.lt_of_lt_of_le (by decide) hN
      have hn9 : gal 503 = 60 := rfl
      refine lv_bipush (v := 56) hx hb dX10_rings_9 (by decide) ?_
      refine gx_mia F G hk7 ht8 hn9 (by decide) dX10_rings_11 ?_
      refine lv_icmp_ge (tgt := 207) hx hb dX10_rings_12 (by decide) (fun q11 => ?_) (fun q11 => ?_)
      · replace h := gt_s q11 h
        cases h
        exact E1 _ _ _ _ (gnx_r hn1) G (lv_sub hl [] rfl)
      · replace h := gf_s q11 h
        refine lv_bipush (v := 16) hx hb dX10_rings_15 (by decide) ?_
        refine lv_iconst (v := 4) hx hb dX10_rings_17 (by decide) ?_
        refine lv_iload hx hb dX10_rings_18 (lv_at hl 7 rfl) ?_
        refine lv_imul hx hb dX10_rings_20 ?_
        refine lv_iadd hx hb dX10_rings_21 ?_
        refine lv_topi (fun x12 ex12 => ?_)
        replace h := gv_s h x12 ex12
        refine lv_istore (lv' := [(10, .int x12), (0, .ref (ad t)), (1, .int a1), (2, .int a2), (3, .int a3), (4, .int a4), (5, .long a5), (7, .long a6), (9, .int y2)]) hx hb dX10_rings_22 hl (by decide) rfl (fun ls hl => ?_)
        refine lv_aload_n hx hb dX10_rings_24 rfl (lv_at hl 1 rfl) ?_
        refine fg_10_now F G hk5 ht6 in10 (by decide +kernel) dX10_rings_25 ?_
        refine lv_iload hx hb dX10_rings_28 (lv_at hl 0 rfl) ?_
        refine lv_iconst (v := 2) hx hb dX10_rings_30 (by decide) ?_
        refine lv_iadd hx hb dX10_rings_31 ?_
        obtain ⟨hi13, h⟩ := gc_s h
        refine gx_mia F G hk7 ht8 hn9 hi13 dX10_rings_32 ?_
        refine lv_topi (fun x14 ex14 => ?_)
        replace h := gv_s h x14 ex14
        refine lv_istore (lv' := [(11, .int x14), (10, .int x12), (0, .ref (ad t)), (1, .int a1), (2, .int a2), (3, .int a3), (4, .int a4), (5, .long a5), (7, .long a6), (9, .int y2)]) hx hb dX10_rings_33 hl (by decide) rfl (fun ls hl => ?_)
        refine lv_aload_n hx hb dX10_rings_35 rfl (lv_at hl 2 rfl) ?_
        refine fg_10_now F G hk5 ht6 in10 (by decide +kernel) dX10_rings_36 ?_
        refine lv_iload hx hb dX10_rings_39 (lv_at hl 1 rfl) ?_
        obtain ⟨hi15, h⟩ := gc_s h
        refine gx_mia F G hk7 ht8 hn9 hi15 dX10_rings_41 ?_
        refine lv_iload_n hx hb dX10_rings_42 rfl (lv_at hl 4 rfl) ?_
        obtain ⟨K17, eK17, h⟩ := gj_s h
        have JK17 : ∀ (c16 : gm) (H : Heap) (locs : List Loc) (ls : Array Slot), K17 c16 = some o1 → gW D ad cy N A s.heap c0 c16 H locs → lv_has ls 16 [(0, .ref (ad t)), (1, .int a1), (2, .int a2), (3, .int a3), (4, .int a4), (5, .long a5), (7, .long a6), (9, .int y2)] → W p l e (rmX10_rings (dd + 1)) s m args below meth cod H locs 0 0 Q (F0 m 201 ls []) := by
          intro c16 H locs ls h G hl
          rw [eK17] at h
          obtain ⟨x18, ex18⟩ : ∃ z : Int32, z = y2 + 1 := ⟨_, rfl⟩
          replace h := gv_s h x18 ex18
          refine lv_iinc (v := x18) (lv' := [(9, .int x18), (0, .ref (ad t)), (1, .int a1), (2, .int a2), (3, .int a3), (4, .int a4), (5, .long a5), (7, .long a6)]) hx hb dX10_rings_201 hl (k := 7) rfl (by rw [ex18]; rfl) (by decide) rfl (fun ls hl => ?_)
          refine lv_goto (tgt := 3) hx hb dX10_rings_204 (by decide) ?_
          cases h
          exact ih1 _ _ _ _ _ hn1 G (lv_sub hl [1, 2, 3, 4, 5, 6, 7, 0] rfl)
        refine lv_icmp_ne (tgt := 201) hx hb dX10_rings_43 (by decide) (fun q19 => ?_) (fun q19 => ?_)
        · replace h := gf_s q19 h
          exact JK17 _ _ _ _ h G (lv_sub hl [2, 3, 4, 5, 6, 7, 8, 9] rfl)
        · replace h := gt_s q19 h
          refine lv_iload hx hb dX10_rings_46 (lv_at hl 0 rfl) ?_
          refine lv_iload_n hx hb dX10_rings_48 rfl (lv_at hl 3 rfl) ?_
          refine lv_icmp_lt (tgt := 201) hx hb dX10_rings_49 (by decide) (fun q20 => ?_) (fun q20 => ?_)
          · replace h := gt_s q20 h
            exact JK17 _ _ _ _ h G (lv_sub hl [2, 3, 4, 5, 6, 7, 8, 9] rfl)
          · replace h := gf_s q20 h
            refine lv_iload hx hb dX10_rings_52 (lv_at hl 0 rfl) ?_
            refine lv_iload_n hx hb dX10_rings_54 rfl (lv_at hl 3 rfl) ?_
            obtain ⟨K21, eK21, h⟩ := gj_s h
            have JK21 : ∀ (H : Heap) (locs : List Loc) (ls : Array Slot), K21 () = some o1 → gW D ad cy N A s.heap c0 c3 H locs → lv_has ls 16 [(0, .ref (ad t)), (1, .int a1), (2, .int a2), (3, .int a3), (4, .int a4), (5, .long a5), (7, .long a6), (9, .int y2), (10, .int x12), (11, .int x14)] → W p l e (rmX10_rings (dd + 1)) s m args below meth cod H locs 0 0 Q (F0 m 70 ls []) := by
              intro  H locs ls h G hl
              rw [eK21] at h
              refine lv_lload hx hb dX10_rings_70 (lv_at hl 5 rfl) ?_
              refine lv_aload_n hx hb dX10_rings_72 rfl (lv_at hl 0 rfl) ?_
              refine fg_10_now F G hk5 ht6 in10 (by decide +kernel) dX10_rings_73 ?_
              refine lv_iload hx hb dX10_rings_76 (lv_at hl 8 rfl) ?_
              refine lv_iconst (v := 3) hx hb dX10_rings_78 (by decide) ?_
              refine lv_iadd hx hb dX10_rings_79 ?_
              obtain ⟨hi22, h⟩ := gc_s h
              refine gx_mia F G hk7 ht8 hn9 hi22 dX10_rings_80 ?_
              refine lv_i2l hx hb dX10_rings_81 rfl ?_
              refine lv_lmul hx hb dX10_rings_82 ?_
              refine lv_topl (fun x23 ex23 => ?_)
              replace h := gv_s h x23 ex23
              refine lv_lstore (lv' := [(12, .long x23), (0, .ref (ad t)), (1, .int a1), (2, .int a2), (3, .int a3), (4, .int a4), (5, .long a5), (7, .long a6), (9, .int y2), (10, .int x12), (11, .int x14)]) hx hb dX10_rings_83 hl (by decide) rfl (fun ls hl => ?_)
              refine lv_lload hx hb dX10_rings_85 (lv_at hl 7 rfl) ?_
              refine lv_aload_n hx hb dX10_rings_87 rfl (lv_at hl 1 rfl) ?_
              refine fg_10_now F G hk5 ht6 in10 (by decide +kernel) dX10_rings_88 ?_
              refine lv_iload hx hb dX10_rings_91 (lv_at hl 9 rfl) ?_
              refine lv_iconst (v := 1) hx hb dX10_rings_93 (by decide) ?_
              refine lv_iadd hx hb dX10_rings_94 ?_
              obtain ⟨hi24, h⟩ := gc_s h
              refine gx_mia F G hk7 ht8 hn9 hi24 dX10_rings_95 ?_
              refine lv_i2l hx hb dX10_rings_96 rfl ?_
              refine lv_lmul hx hb dX10_rings_97 ?_
              refine lv_topl (fun x25 ex25 => ?_)
              replace h := gv_s h x25 ex25
              refine lv_lstore (lv' := [(14, .long x25), (12, .long x23), (0, .ref (ad t)), (1, .int a1), (2, .int a2), (3, .int a3), (4, .int a4), (5, .long a5), (7, .long a6), (9, .int y2), (10, .int x12), (11, .int x14)]) hx hb dX10_rings_98 hl (by decide) rfl (fun ls hl => ?_)
              refine lv_iload hx hb dX10_rings_100 (lv_at hl 11 rfl) ?_
              refine lv_iload_n hx hb dX10_rings_102 rfl (lv_at hl 3 rfl) ?_
              refine lv_icmp_eq (tgt := 133) hx hb dX10_rings_103 (by decide) (fun q26 => ?_) (fun q26 => ?_)
              · replace h := gt_s q26 h
                refine lv_aload_n hx hb dX10_rings_133 rfl (lv_at hl 2 rfl) ?_
                refine lv_lload hx hb dX10_rings_134 (lv_at hl 1 rfl) ?_
                refine lv_lload hx hb dX10_rings_136 (lv_at hl 0 rfl) ?_
                obtain ⟨c29, hc27, h⟩ := gb_s h
                refine gx_callv F G (va_runV (As := [.long x23, .long x25]) (rest := []) (gx_fix F) (c_X10_keeps l sa D ad cy N H.size hN hI c0 c3 hc27) (cwV 2 hts gX10_rings_X10_keeps rfl rfl rfl (by decide +kernel) ⟨by simp only [rmX10_rings, rmX10_keeps]; omega, by simp only [rmX10_rings, rmX10_keeps]; omega⟩) (gx_rec F G ht6 (gwe_10 hk5) rfl) rfl rfl hl.1 rfl (lv_room (Nat.le_of_ble_eq_true rfl)) dX10_rings_138 ⟨Nat.zero_le _, Nat.zero_le _⟩) (fun H locs G => ?_)
                refine lv_lload hx hb dX10_rings_141 (lv_at hl 1 rfl) ?_
                refine lv_lload hx hb dX10_rings_143 (lv_at hl 0 rfl) ?_
                refine W.lcmp hx hb dX10_rings_145 ?_
                refine lv_if_gt (tgt := 152) hx hb dX10_rings_146 (by decide) (fun q30 => ?_) (fun q30 => ?_)
                · replace h := gt_s q30 h
                  refine lv_aload_n hx hb dX10_rings_152 rfl (lv_at hl 2 rfl) ?_
                  refine fg_10_isFat F G hk5 ht6 in10 (by decide +kernel) dX10_rings_153 ?_
                  have hk31 : gck 527 = 24 := rfl
                  have ht32 : 527 < N := Nat.lt_of_lt_of_le (by decide) hN
                  have hn33 : gal 527 = 1024 := rfl
                  refine lv_iload hx hb dX10_rings_156 (lv_at hl 6 rfl) ?_
                  refine lv_iconst (v := 1) hx hb dX10_rings_158 (by decide) ?_
                  refine lv_iload hx hb dX10_rings_159 (lv_at hl 9 rfl) ?_
                  refine lv_ishl hx hb dX10_rings_161 ?_
                  refine lv_ior hx hb dX10_rings_162 ?_
                  refine lv_iconst (v := 1) hx hb dX10_rings_163 (by decide) ?_
                  obtain ⟨hi34, h⟩ := gc_s h
                  refine gx_mzs F G hk31 ht32 hn33 hi34 dX10_rings_164 (fun H locs G => ?_)
                  obtain ⟨c35, ec35⟩ : ∃ z, z = gm_r c29 527 (upd (c29.1 527) (a4 ||| ((1 : Int32) <<< (y2 &&& 31))).toNatClampNeg (vp_nar .boolean 1)) := ⟨_, rfl⟩
                  rw [← ec35] at G
                  replace h := gv_s h c35 ec35
                  refine lv_aload_n hx hb dX10_rings_165 rfl (lv_at hl 2 rfl) ?_
                  refine lv_aload_n hx hb dX10_rings_166 rfl (lv_at hl 2 rfl) ?_
                  refine fg_10_fewestFat F G hk5 ht6 in10 (by decide +kernel) dX10_rings_167 ?_
                  refine lv_iconst (v := (-1)) hx hb dX10_rings_170 (by decide) ?_
                  obtain ⟨K37, eK37, h⟩ := gj_s h
                  have JK37 : ∀ (v36 : Int32) (H : Heap) (locs : List Loc) (ls : Array Slot), K37 v36 = some o1 → gW D ad cy N A s.heap c0 c35 H locs → lv_has ls 16 [(0, .ref (ad t)), (1, .int a1), (2, .int a2), (3, .int a3), (4, .int a4), (5, .long a5), (7, .long a6), (9, .int y2)] → W p l e (rmX10_rings (dd + 1)) s m args below meth cod H locs 0 0 Q (F0 m 198 ls [.int v36, .ref (ad t)]) := by
                    intro v36 H locs ls h G hl
                    rw [eK37] at h
                    refine fp_10_fewestFat F G hk5 ht6 in10 (by decide +kernel) dX10_rings_198 (fun H locs G => ?_)
                    obtain ⟨c38, ec38⟩ : ∃ z, z = gm_r c35 t (upd (c35.1 t) 42 v36) := ⟨_, rfl⟩
                    rw [← ec38] at G
                    replace h := gv_s h c38 ec38
                    exact JK17 _ _ _ _ h G hl
                  refine lv_icmp_ne (tgt := 184) hx hb dX10_rings_171 (by decide) (fun q39 => ?_) (fun q39 => ?_)
                  · replace h := gf_s q39 h
                    refine lv_aload_n hx hb dX10_rings_184 rfl (lv_at hl 2 rfl) ?_
                    refine fg_10_fewestFat F G hk5 ht6 in10 (by decide +kernel) dX10_rings_185 ?_
                    refine lv_iload hx hb dX10_rings_188 (lv_at hl 6 rfl) ?_
                    obtain ⟨r41, hc40, h⟩ := gb_s h
                    refine gx_calli F G (va_runS (As := [.int a4]) (rest := [.int (c35.1 t 42), .ref (ad t)]) (gx_fix F) (c_X10_ones l sa D ad cy N H.size hN hI c0 c35 hc40) (va_cwS 1 hts gX10_rings_X10_ones rfl rfl rfl (by decide +kernel) ⟨by simp only [rmX10_rings, rmX10_ones]; omega, by simp only [rmX10_rings, rmX10_ones]; omega⟩) (gx_pre F G) rfl rfl hl.1 rfl (lv_room (Nat.le_of_ble_eq_true rfl)) dX10_rings_190 ⟨Nat.zero_le _, Nat.zero_le _⟩) (fun H locs G => ?_)
                    refine lv_iconst (v := 1) hx hb dX10_rings_193 (by decide) ?_
                    refine lv_iadd hx hb dX10_rings_194 ?_
                    obtain ⟨r43, hc42, h⟩ := gb_s h
                    refine gx_calli F G (va_runS (As := [.int (c35.1 t 42), .int (r41 + 1)]) (rest := [.ref (ad t)]) (gx_fix F) (c_X10_less l sa D ad cy N H.size hN hI c0 c35 hc42) (va_cwS 2 hts gX10_rings_X10_less rfl rfl rfl (by decide +kernel) ⟨by simp only [rmX10_rings, rmX10_less]; omega, by simp only [rmX10_rings, rmX10_less]; omega⟩) (gx_pre F G) rfl rfl hl.1 rfl (lv_room (Nat.le_of_ble_eq_true rfl)) dX10_rings_195 ⟨Nat.zero_le _, Nat.zero_le _⟩) (fun H locs G => ?_)
                    exact JK37 _ _ _ _ h G (lv_sub hl [2, 3, 4, 5, 6, 7, 8, 9] rfl)
                  · replace h := gt_s q39 h
                    refine lv_iload hx hb dX10_rings_174 (lv_at hl 6 rfl) ?_
                    obtain ⟨r45, hc44, h⟩ := gb_s h
                    refine gx_calli F G (va_runS (As := [.int a4]) (rest := [.ref (ad t)]) (gx_fix F) (c_X10_ones l sa D ad cy N H.size hN hI c0 c35 hc44) (va_cwS 1 hts gX10_rings_X10_ones rfl rfl rfl (by decide +kernel) ⟨by simp only [rmX10_rings, rmX10_ones]; omega, by simp only [rmX10_rings, rmX10_ones]; omega⟩) (gx_pre F G) rfl rfl hl.1 rfl (lv_room (Nat.le_of_ble_eq_true rfl)) dX10_rings_176 ⟨Nat.zero_le _, Nat.zero_le _⟩) (fun H locs G => ?_)
                    refine lv_iconst (v := 1) hx hb dX10_rings_179 (by decide) ?_
                    refine lv_iadd hx hb dX10_rings_180 ?_
                    refine lv_goto (tgt := 198) hx hb dX10_rings_181 (by decide) ?_
                    exact JK37 _ _ _ _ h G (lv_sub hl [2, 3, 4, 5, 6, 7, 8, 9] rfl)
                · replace h := gf_s q30 h
                  refine lv_goto (tgt := 201) hx hb dX10_rings_149 (by decide) ?_
                  exact JK17 _ _ _ _ h G (lv_sub hl [2, 3, 4, 5, 6, 7, 8, 9] rfl)
              · replace h := gf_s q26 h
                refine lv_aload_n hx hb dX10_rings_106 rfl (lv_at hl 2 rfl) ?_
                refine lv_iload_n hx hb dX10_rings_107 rfl (lv_at hl 3 rfl) ?_
                refine lv_iload hx hb dX10_rings_108 (lv_at hl 11 rfl) ?_
                refine lv_iload_n hx hb dX10_rings_110 rfl (lv_at hl 5 rfl) ?_
                refine lv_iconst (v := 1) hx hb dX10_rings_111 (by decide) ?_
                refine lv_iload hx hb dX10_rings_112 (lv_at hl 11 rfl) ?_
                refine lv_ishl hx hb dX10_rings_114 ?_
                refine lv_ior hx hb dX10_rings_115 ?_
                refine lv_iload hx hb dX10_rings_116 (lv_at hl 6 rfl) ?_
                refine lv_iconst (v := 1) hx hb dX10_rings_118 (by decide) ?_
                refine lv_iload hx hb dX10_rings_119 (lv_at hl 9 rfl) ?_
                refine lv_ishl hx hb dX10_rings_121 ?_
                refine lv_ior hx hb dX10_rings_122 ?_
                refine lv_lload hx hb dX10_rings_123 (lv_at hl 1 rfl) ?_
                refine lv_lload hx hb dX10_rings_125 (lv_at hl 0 rfl) ?_
                obtain ⟨c48, hc46, h⟩ := gb_s h
                refine gx_callv F G (va_runV (As := [.int a1, .int x14, .int (a3 ||| ((1 : Int32) <<< (x14 &&& 31))), .int (a4 ||| ((1 : Int32) <<< (y2 &&& 31))), .long x23, .long x25]) (rest := []) (gx_fix F) (hrs H.size c0 c3 hc46) (cwV 6 hts gX10_rings_X10_rings rfl rfl rfl (by decide +kernel) ⟨by simp only [rmX10_rings]; omega, by simp only [rmX10_rings]; omega⟩) (gx_rec F G ht6 (gwe_10 hk5) rfl) rfl rfl hl.1 rfl (lv_room (Nat.le_of_ble_eq_true rfl)) dX10_rings_127 ⟨Nat.zero_le _, Nat.zero_le _⟩) (fun H locs G => ?_)
                refine lv_goto (tgt := 201) hx hb dX10_rings_130 (by decide) ?_
                exact JK17 _ _ _ _ h G (lv_sub hl [2, 3, 4, 5, 6, 7, 8, 9] rfl)
            refine lv_icmp_eq (tgt := 70) hx hb dX10_rings_55 (by decide) (fun q49 => ?_) (fun q49 => ?_)
            · replace h := gt_s q49 h
              exact JK21  _ _ _ h G (lv_sub hl [2, 3, 4, 5, 6, 7, 8, 9, 1, 0] rfl)
            · replace h := gf_s q49 h
              refine lv_iload_n hx hb dX10_rings_58 rfl (lv_at hl 5 rfl) ?_
              refine lv_iload hx hb dX10_rings_59 (lv_at hl 0 rfl) ?_
              obtain ⟨r51, hc50, h⟩ := gb_s h
              refine gx_calli F G (va_runS (As := [.int a3, .int x14]) (rest := []) (gx_fix F) (c_X10_has l sa D ad cy N H.size hN hI c0 c3 hc50) (va_cwS 2 hts gX10_rings_X10_has rfl rfl rfl (by decide +kernel) ⟨by simp only [rmX10_rings, rmX10_has]; omega, by simp only [rmX10_rings, rmX10_has]; omega⟩) (gx_pre F G) rfl rfl hl.1 rfl (lv_room (Nat.le_of_ble_eq_true rfl)) dX10_rings_61 ⟨Nat.zero_le _, Nat.zero_le _⟩) (fun H locs G => ?_)
              refine lv_if_eq (tgt := 70) hx hb dX10_rings_64 (by decide) (fun q52 => ?_) (fun q52 => ?_)
              · replace h := gt_s q52 h
                exact JK21  _ _ _ h G (lv_sub hl [2, 3, 4, 5, 6, 7, 8, 9, 1, 0] rfl)
              · replace h := gf_s q52 h
                refine lv_goto (tgt := 201) hx hb dX10_rings_67 (by decide) ?_
                exact JK17 _ _ _ _ h G (lv_sub hl [2, 3, 4, 5, 6, 7, 8, 9] rfl)
  exact L1 n _ _ _ _ _ hb1 G (lv_sub hl [1, 2, 3, 4, 5, 6, 7, 0] rfl)
def m_X10_rings : Nat → (Nat → Nat → Int32 → Int32 → Int32 → Int32 → Int64 → Int64 → gm → Option (gm))
  | 0 => fun _ _ _ _ _ _ _ _ _ => none
  | dd + 1 => m_X10_rings_b (m_X10_rings dd)
theorem c_X10_rings (l : Launch) (sa : gSa) (D : va_G) (ad : Nat → Nat) (cy : Nat → ClassId) (N : Nat) (hN : 530 ≤ N) (hI : gI ad N) (dd : Nat) : ∀ (sz : Nat) (c0 c : gm) {n : Nat} {t : Nat} {a1 : Int32} {a2 : Int32} {a3 : Int32} {a4 : Int32} {a5 : Int64} {a6 : Int64} {cZ : gm}, m_X10_rings dd n t a1 a2 a3 a4 a5 a6 c = some cZ → Met l yX10_rings wsX10_rings (rmX10_rings dd) (va_Pc [.ref (ad t), .int a1, .int a2, .int a3, .int a4, .long a5, .long a6] (gP sa D ad cy N sz c0 c)) (va_Qv (fun (_ : Unit) => True) (fun _ U => gE D ad cy N c0 cZ U) (gA ad N sz)) 0 0 (gA ad N sz) := by
  induction dd with
  | zero => intro _ _ _ _ _ _ _ _ _ _ _ _ h; have h2 : none = some _ := h; cases h2
  | succ dd ih => intro sz c d0 _ _ _ _ _ _ _ _ _ h; exact c_X10_rings_b l sa D ad cy N sz hN hI c d0 (m_X10_rings dd) dd (fun sz c d0 _ _ _ _ _ _ _ _ _ h => ih sz c d0 h) h

def m_X10_allRings_L41 (n : Nat) (t : Nat) (y11 : Int32) (c12 : gm) : Option ((Int32 × gm) ⊕ (gm)) :=
  (if (c12.1 59 (0 : Int32).toNatClampNeg) ≤ y11 then some (.inr c12) else gb (m_X10_rings 12 n t y11 y11 ((1 : Int32) <<< (y11 &&& 31)) 0 (1 : Int64) (1 : Int64) c12) (fun (c21 : gm) => gv (y11 + 1) (fun (x22 : Int32) => some (.inl (x22, c21)))))
def m_X10_allRings_L17 (y7 : Int32) (c8 : gm) : Option ((Int32 × gm) ⊕ (gm)) :=
  (if (nI 1024) ≤ y7 then some (.inr c8) else gc (0 ≤ y7.toInt ∧ y7.toInt < 1024) (gv (gm_r c8 527 (upd (c8.1 527) y7.toNatClampNeg (vp_nar .boolean 0))) (fun (c28 : gm) => gv (y7 + 1) (fun (x29 : Int32) => some (.inl (x29, c28))))))
def m_X10_allRings (n : Nat) (t : Nat) (c : gm) : Option (gm) :=
  gc (gck t = 10) (gv (gm_l c t (vp_updL (c.2.1 t) 39 (0 : Int64))) (fun (c3 : gm) => gv (gm_l c3 t (vp_updL (c3.2.1 t) 40 (1 : Int64))) (fun (c4 : gm) => gv (gm_r c4 t (upd (c4.1 t) 42 (-1))) (fun (c5 : gm) => gb (gloop (gu2 (fun (y7 : Int32) (c8 : gm) => m_X10_allRings_L17 y7 c8)) n (0, c5)) (fun (c9 : gm) => gb (gloop (gu2 (fun (y11 : Int32) (c12 : gm) => m_X10_allRings_L41 n t y11 c12)) n (0, c9)) (fun (c13 : gm) => some c13))))))
abbrev rmX10_allRings : Room := { frames := 14, cells := 0, slots := 0, locals := 479 }
set_option maxHeartbeats 4000000 in
set_option maxRecDepth 100000 in
theorem c_X10_allRings (l : Launch) (sa : gSa) (D : va_G) (ad : Nat → Nat) (cy : Nat → ClassId) (N sz : Nat) (hN : 530 ≤ N) (hI : gI ad N) (c0 c : gm) {n : Nat} {t : Nat} {cZ : gm} (h : m_X10_allRings n t c = some cZ) : Met l yX10_allRings wsX10_allRings rmX10_allRings (va_Pc [.ref (ad t)] (gP sa D ad cy N sz c0 c)) (va_Qv (fun (_ : Unit) => True) (fun _ U => gE D ad cy N c0 cZ U) (gA ad N sz)) 0 0 (gA ad N sz) := by
  refine Met.ofW (cc := cX10_allRings) (maxL := 2) (ret := none) (by decide) rfl ?_
  intro p e s m args below meth cod s₁ B hml hv
  obtain ⟨rfl, hsz, hP, hK, hZ⟩ := hv
  have hx := B.exec
  have hb := B.bytes
  have hr := B.returns
  have hts := atoms_spec (ws := wsX10_allRings) B.pre
  have hown : s.vm.findClass RX10 = some m.cls := findClass_of_methodNamed B.named
  have hlocks := B.notSynchronized
  subst hsz
  have hl := lv_entry ([.ref (ad t)]) (n := 2) (Nat.le_of_ble_eq_true rfl)
  rw [lg_entry_eq]
  generalize (lg_sl ([.ref (ad t)]) ++ List.replicate (2 - (lg_sl ([.ref (ad t)])).length) Slot.unset).toArray = ls at hl ⊢
  have hl : lv_has ls 2 [(0, .ref (ad t))] := hl
  have in10 : ∀ w ∈ wsX100, w ∈ wsX10_allRings := by decide +kernel
  generalize hargs : ([.ref (ad t)] : List Value).toArray = args at *
  generalize hAe : gA ad N s.heap.size = A
  have F : gF sa D ad cy N A p s m args cod cX10_allRings 2 wsX10_allRings RX10 := ⟨hx, hb, hml, hown, hts, hK, hI, by rw [← hAe]; exact gA_ad, by rw [← hAe]; exact gA_sz, by rw [← hAe]; exact hZ⟩
  have G : gW D ad cy N A s.heap c0 c s.heap [] := ⟨hP, va_S.rf⟩
  generalize hQ : MQ below (va_Qv (fun (_ : Unit) => True) (fun _ U => gE D ad cy N c0 cZ U) A) args s 0 0 A = Q
  suffices hgen : ∀ (H : Heap) (locs : List Loc), gW D ad cy N A s.heap c0 c H locs → W p l e rmX10_allRings s m args below meth cod H locs 0 0 Q (F0 m 0 ls []) from hgen _ _ G
  clear G
  intro H locs G
  unfold m_X10_allRings at h
  refine lv_aload_n hx hb dX10_allRings_0 rfl (lv_at hl 0 rfl) ?_
  refine lv_lconst (v := 0) hx hb dX10_allRings_1 (by decide) ?_
  obtain ⟨hk1, h⟩ := gc_s h
  have ht2 : t < N := Nat.lt_of_lt_of_le (gck_lt10 hk1) hN
  refine fp_10_bestUp F G hk1 ht2 in10 (by decide +kernel) dX10_allRings_2 (fun H locs G => ?_)
  obtain ⟨c3, ec3⟩ : ∃ z, z = gm_l c t (vp_updL (c.2.1 t) 39 (0 : Int64)) := ⟨_, rfl⟩
  rw [← ec3] at G
  replace h := gv_s h c3 ec3
  refine lv_aload_n hx hb dX10_allRings_5 rfl (lv_at hl 0 rfl) ?_
  refine lv_lconst (v := 1) hx hb dX10_allRings_6 (by decide) ?_
  refine fp_10_bestLow F G hk1 ht2 in10 (by decide +kernel) dX10_allRings_7 (fun H locs G => ?_)
  obtain ⟨c4, ec4⟩ : ∃ z, z = gm_l c3 t (vp_updL (c3.2.1 t) 40 (1 : Int64)) := ⟨_, rfl⟩
  rw [← ec4] at G
  replace h := gv_s h c4 ec4
  refine lv_aload_n hx hb dX10_allRings_10 rfl (lv_at hl 0 rfl) ?_
  refine lv_iconst (v := (-1)) hx hb dX10_allRings_11 (by decide) ?_
  refine fp_10_fewestFat F G hk1 ht2 in10 (by decide +kernel) dX10_allRings_12 (fun H locs G => ?_)
  obtain ⟨c5, ec5⟩ : ∃ z, z = gm_r c4 t (upd (c4.1 t) 42 (-1)) := ⟨_, rfl⟩
  rw [← ec5] at G
  replace h := gv_s h c5 ec5
  refine lv_iconst (v := 0) hx hb dX10_allRings_15 (by decide) ?_
  refine lv_istore_n (lv' := [(1, .int 0), (0, .ref (ad t))]) hx hb dX10_allRings_16 rfl hl (by decide) rfl (fun ls hl => ?_)
  obtain ⟨b6, hb6, hK6⟩ := gb_s h
  have E6 : ∀ (c9 : gm) (H : Heap) (locs : List Loc) (ls : Array Slot), (c9 : gm) = b6 → gW D ad cy N A s.heap c0 c9 H locs → lv_has ls 2 [(0, .ref (ad t))] → W p l e rmX10_allRings s m args below meth cod H locs 0 0 Q (F0 m 39 ls []) := by
    intro c9 H locs ls hq6 G hl
    subst hq6
    replace hK6 := hK6
    have h := hK6
    refine lv_iconst (v := 0) hx hb dX10_allRings_39 (by decide) ?_
    refine lv_istore_n (lv' := [(1, .int 0), (0, .ref (ad t))]) hx hb dX10_allRings_40 rfl hl (by decide) rfl (fun ls hl => ?_)
    obtain ⟨b10, hb10, hK10⟩ := gb_s h
    have E10 : ∀ (c13 : gm) (H : Heap) (locs : List Loc) (ls : Array Slot), (c13 : gm) = b10 → gW D ad cy N A s.heap c0 c13 H locs → lv_has ls 2 [] → W p l e rmX10_allRings s m args below meth cod H locs 0 0 Q (F0 m 69 ls []) := by
      intro c13 H locs ls hq10 G hl
      subst hq10
      replace hK10 := hK10
      have h := hK10
      cases h
      rw [← hQ]
      exact gx_vret F G hr hlocks dX10_allRings_69
    have L10 : ∀ (n9 : Nat) (y11 : Int32) (c12 : gm) (H : Heap) (locs : List Loc) (ls : Array Slot), gloop (gu2 (fun (y11 : Int32) (c12 : gm) => m_X10_allRings_L41 n t y11 c12)) n9 (y11, c12) = some b10 → gW D ad cy N A s.heap c0 c12 H locs → lv_has ls 2 [(0, .ref (ad t)), (1, .int y11)] → W p l e rmX10_allRings s m args below meth cod H locs 0 0 Q (F0 m 41 ls []) := by
      intro n9
      induction n9 with
      | zero => intro y11 c12 H locs ls h; exact (gloop_0 h).elim
      | succ n9 ih =>
        intro y11 c12 H locs ls h G hl
        have ih10 := ih
        obtain ⟨o10, h, hn10⟩ := gloop_s h
        replace h := gu2_s h
        unfold m_X10_allRings_L41 at h
        refine lv_iload_n hx hb dX10_allRings_41 rfl (lv_at hl 1 rfl) ?_
        refine lv_aload_n hx hb dX10_allRings_42 rfl (lv_at hl 0 rfl) ?_
        refine fg_10_told F G hk1 ht2 in10 (by decide +kernel) dX10_allRings_43 ?_
        have hk14 : gck 59 = 22 := rfl
        have ht15 : 59 < N := Nat.lt_of_lt_of_le (by decide) hN
        have hn16 : gal 59 = 4 := rfl
        refine lv_iconst (v := 0) hx hb dX10_allRings_46 (by decide) ?_
        refine gx_mia F G hk14 ht15 hn16 (by decide) dX10_allRings_47 ?_
        refine lv_icmp_ge (tgt := 69) hx hb dX10_allRings_48 (by decide) (fun q18 => ?_) (fun q18 => ?_)
        · replace h := gt_s q18 h
          cases h
          exact E10 _ _ _ _ (gnx_r hn10) G (lv_sub hl [] rfl)
        · replace h := gf_s q18 h
          refine lv_aload_n hx hb dX10_allRings_51 rfl (lv_at hl 0 rfl) ?_
          refine lv_iload_n hx hb dX10_allRings_52 rfl (lv_at hl 1 rfl) ?_
          refine lv_iload_n hx hb dX10_allRings_53 rfl (lv_at hl 1 rfl) ?_
          refine lv_iconst (v := 1) hx hb dX10_allRings_54 (by decide) ?_
          refine lv_iload_n hx hb dX10_allRings_55 rfl (lv_at hl 1 rfl) ?_
          refine lv_ishl hx hb dX10_allRings_56 ?_
          refine lv_iconst (v := 0) hx hb dX10_allRings_57 (by decide) ?_
          refine lv_lconst (v := 1) hx hb dX10_allRings_58 (by decide) ?_
          refine lv_lconst (v := 1) hx hb dX10_allRings_59 (by decide) ?_
          obtain ⟨c21, hc19, h⟩ := gb_s h
          refine gx_callv F G (va_runV (As := [.int y11, .int y11, .int ((1 : Int32) <<< (y11 &&& 31)), .int 0, .long (1 : Int64), .long (1 : Int64)]) (rest := []) (gx_fix F) (c_X10_rings l sa D ad cy N hN hI 12 H.size c0 c12 hc19) (cwV 6 hts gX10_allRings_X10_rings rfl rfl rfl (by decide +kernel) ⟨by decide, by decide⟩) (gx_rec F G ht2 (gwe_10 hk1) rfl) rfl rfl hl.1 rfl (lv_room (Nat.le_of_ble_eq_true rfl)) dX10_allRings_60 ⟨Nat.zero_le _, Nat.zero_le _⟩) (fun H locs G => ?_)
          obtain ⟨x22, ex22⟩ : ∃ z : Int32, z = y11 + 1 := ⟨_, rfl⟩
          replace h := gv_s h x22 ex22
          refine lv_iinc (v := x22) (lv' := [(1, .int x22), (0, .ref (ad t))]) hx hb dX10_allRings_63 hl (k := 1) rfl (by rw [ex22]; rfl) (by decide) rfl (fun ls hl => ?_)
          refine lv_goto (tgt := 41) hx hb dX10_allRings_66 (by decide) ?_
          cases h
          exact ih10 _ _ _ _ _ hn10 G (lv_sub hl [1, 0] rfl)
    exact L10 n _ _ _ _ _ hb10 G (lv_sub hl [1, 0] rfl)
  have L6 : ∀ (n9 : Nat) (y7 : Int32) (c8 : gm) (H : Heap) (locs : List Loc) (ls : Array Slot), gloop (gu2 (fun (y7 : Int32) (c8 : gm) => m_X10_allRings_L17 y7 c8)) n9 (y7, c8) = some b6 → gW D ad cy N A s.heap c0 c8 H locs → lv_has ls 2 [(0, .ref (ad t)), (1, .int y7)] → W p l e rmX10_allRings s m args below meth cod H locs 0 0 Q (F0 m 17 ls []) := by
    intro n9
    induction n9 with
    | zero => intro y7 c8 H locs ls h; exact (gloop_0 h).elim
    | succ n9 ih =>
      intro y7 c8 H locs ls h G hl
      have ih6 := ih
      obtain ⟨o6, h, hn6⟩ := gloop_s h
      replace h := gu2_s h
      unfold m_X10_allRings_L17 at h
      refine lv_iload_n hx hb dX10_allRings_17 rfl (lv_at hl 1 rfl) ?_
      refine lv_aload_n hx hb dX10_allRings_18 rfl (lv_at hl 0 rfl) ?_
      refine fg_10_isFat F G hk1 ht2 in10 (by decide +kernel) dX10_allRings_19 ?_
      have hk23 : gck 527 = 24 := rfl
      have ht24 : 527 < N := Nat.lt_of_lt_of_le (by decide) hN
      have hn25 : gal 527 = 1024 := rfl
      refine gx_mzal F G hk23 ht24 hn25 dX10_allRings_22 ?_
      refine lv_icmp_ge (tgt := 39) hx hb dX10_allRings_23 (by decide) (fun q26 => ?_) (fun q26 => ?_)
      · replace h := gt_s q26 h
        cases h
        exact E6 _ _ _ _ (gnx_r hn6) G (lv_sub hl [0] rfl)
      · replace h := gf_s q26 h
        refine lv_aload_n hx hb dX10_allRings_26 rfl (lv_at hl 0 rfl) ?_
        refine fg_10_isFat F G hk1 ht2 in10 (by decide +kernel) dX10_allRings_27 ?_
        refine lv_iload_n hx hb dX10_allRings_30 rfl (lv_at hl 1 rfl) ?_
        refine lv_iconst (v := 0) hx hb dX10_allRings_31 (by decide) ?_
        obtain ⟨hi27, h⟩ := gc_s h
        refine gx_mzs F G hk23 ht24 hn25 hi27 dX10_allRings_32 (fun H locs G => ?_)
        obtain ⟨c28, ec28⟩ : ∃ z, z = gm_r c8 527 (upd (c8.1 527) y7.toNatClampNeg (vp_nar .boolean 0)) := ⟨_, rfl⟩
        rw [← ec28] at G
        replace h := gv_s h c28 ec28
        obtain ⟨x29, ex29⟩ : ∃ z : Int32, z = y7 + 1 := ⟨_, rfl⟩
        replace h := gv_s h x29 ex29
        refine lv_iinc (v := x29) (lv' := [(1, .int x29), (0, .ref (ad t))]) hx hb dX10_allRings_33 hl (k := 1) rfl (by rw [ex29]; rfl) (by decide) rfl (fun ls hl => ?_)
        refine lv_goto (tgt := 17) hx hb dX10_allRings_36 (by decide) ?_
        cases h
        exact ih6 _ _ _ _ _ hn6 G (lv_sub hl [1, 0] rfl)
  exact L6 n _ _ _ _ _ hb6 G (lv_sub hl [1, 0] rfl)
def m_X10_partOf_L6 (y2 : Int64) (y3 : Int64) : Option ((Int64 × Int64) ⊕ (Int64)) :=
  (if (lg_cmp y3 (0 : Int64)) = 0 then some (.inr y2) else gc (¬ y3 = 0) (gv (y2 - y2 / y3 * y3) (fun (x10 : Int64) => some (.inl (y3, x10)))))
def m_X10_partOf (n : Nat) (a1 : Int64) (a2 : Int64) (a3 : Int32) : Option (Int64) :=
  gb (gloop (gu2 (fun (y2 : Int64) (y3 : Int64) => m_X10_partOf_L6 y2 y3)) n (a2, a1)) (fun (z4 : Int64) => (if a3 = 0 then gc (¬ z4 = 0) (some (a1 / z4)) else gc (¬ z4 = 0) (some (a2 / z4))))
abbrev rmX10_partOf : Room := { frames := 0, cells := 0, slots := 0, locals := 0 }
set_option maxHeartbeats 4000000 in
set_option maxRecDepth 100000 in
theorem c_X10_partOf (l : Launch) (sa : gSa) (D : va_G) (ad : Nat → Nat) (cy : Nat → ClassId) (N sz : Nat) (hN : 530 ≤ N) (hI : gI ad N) (c0 c : gm) {n : Nat} {a1 : Int64} {a2 : Int64} {a3 : Int32} {rZ : Int64} (h : m_X10_partOf n a1 a2 a3 = some rZ) : Met l yX10_partOf wsX10_partOf rmX10_partOf (va_Pc [.long a1, .long a2, .int a3] (gP sa D ad cy N sz c0 c)) (va_Ql (fun (z : Int64) (_ : Unit) => z = rZ) (fun _ U => gE D ad cy N c0 c U) (gA ad N sz)) 0 0 (gA ad N sz) := by
  refine Met.ofW (cc := cX10_partOf) (maxL := 11) (ret := (some .long)) (by decide) rfl ?_
  intro p e s m args below meth cod s₁ B hml hv
  obtain ⟨rfl, hsz, hP, hK, hZ⟩ := hv
  have hx := B.exec
  have hb := B.bytes
  have hr := B.returns
  have hts := atoms_spec (ws := wsX10_partOf) B.pre
  have hown : s.vm.findClass RX10 = some m.cls := findClass_of_methodNamed B.named
  have hlocks := B.notSynchronized
  subst hsz
  have hl := lv_entry ([.long a1, .long a2, .int a3]) (n := 11) (Nat.le_of_ble_eq_true rfl)
  rw [lg_entry_eq]
  generalize (lg_sl ([.long a1, .long a2, .int a3]) ++ List.replicate (11 - (lg_sl ([.long a1, .long a2, .int a3])).length) Slot.unset).toArray = ls at hl ⊢
  have hl : lv_has ls 11 [(0, .long a1), (2, .long a2), (4, .int a3)] := hl
  generalize hargs : ([.long a1, .long a2, .int a3] : List Value).toArray = args at *
  generalize hAe : gA ad N s.heap.size = A
  have F : gF sa D ad cy N A p s m args cod cX10_partOf 11 wsX10_partOf RX10 := ⟨hx, hb, hml, hown, hts, hK, hI, by rw [← hAe]; exact gA_ad, by rw [← hAe]; exact gA_sz, by rw [← hAe]; exact hZ⟩
  have G : gW D ad cy N A s.heap c0 c s.heap [] := ⟨hP, va_S.rf⟩
  generalize hQ : MQ below (va_Ql (fun (z : Int64) (_ : Unit) => z = rZ) (fun _ U => gE D ad cy N c0 c U) A) args s 0 0 A = Q
  suffices hgen : ∀ (H : Heap) (locs : List Loc), gW D ad cy N A s.heap c0 c H locs → W p l e rmX10_partOf s m args below meth cod H locs 0 0 Q (F0 m 0 ls []) from hgen _ _ G
  clear G
  intro H locs G
  unfold m_X10_partOf at h
  refine lv_lload_n hx hb dX10_partOf_0 rfl (lv_at hl 1 rfl) ?_
  refine lv_lstore (lv' := [(5, .long a2), (0, .long a1), (2, .long a2), (4, .int a3)]) hx hb dX10_partOf_1 hl (by decide) rfl (fun ls hl => ?_)
  refine lv_lload_n hx hb dX10_partOf_3 rfl (lv_at hl 1 rfl) ?_
  refine lv_lstore (lv' := [(7, .long a1), (5, .long a2), (0, .long a1), (2, .long a2), (4, .int a3)]) hx hb dX10_partOf_4 hl (by decide) rfl (fun ls hl => ?_)
  obtain ⟨b1, hb1, hK1⟩ := gb_s h
  have E1 : ∀ (z4 : Int64) (H : Heap) (locs : List Loc) (ls : Array Slot), (z4 : Int64) = b1 → gW D ad cy N A s.heap c0 c H locs → lv_has ls 11 [(0, .long a1), (2, .long a2), (4, .int a3), (5, .long z4)] → W p l e rmX10_partOf s m args below meth cod H locs 0 0 Q (F0 m 31 ls []) := by
    intro z4 H locs ls hq1 G hl
    subst hq1
    replace hK1 := hK1
    have h := hK1
    refine lv_iload hx hb dX10_partOf_31 (lv_at hl 2 rfl) ?_
    refine lv_if_ne (tgt := 43) hx hb dX10_partOf_33 (by decide) (fun q5 => ?_) (fun q5 => ?_)
    · replace h := gf_s q5 h
      refine lv_lload_n hx hb dX10_partOf_43 rfl (lv_at hl 1 rfl) ?_
      refine lv_lload hx hb dX10_partOf_44 (lv_at hl 3 rfl) ?_
      obtain ⟨hz6, h⟩ := gc_s h
      refine lv_ldiv hx hb dX10_partOf_46 hz6 ?_
      cases h
      rw [← hQ]
      exact gx_lret F G hr hlocks dX10_partOf_47
    · replace h := gt_s q5 h
      refine lv_lload_n hx hb dX10_partOf_36 rfl (lv_at hl 0 rfl) ?_
      refine lv_lload hx hb dX10_partOf_37 (lv_at hl 3 rfl) ?_
      obtain ⟨hz7, h⟩ := gc_s h
      refine lv_ldiv hx hb dX10_partOf_39 hz7 ?_
      refine lv_goto (tgt := 47) hx hb dX10_partOf_40 (by decide) ?_
      cases h
      rw [← hQ]
      exact gx_lret F G hr hlocks dX10_partOf_47
  have L1 : ∀ (n9 : Nat) (y2 : Int64) (y3 : Int64) (H : Heap) (locs : List Loc) (ls : Array Slot), gloop (gu2 (fun (y2 : Int64) (y3 : Int64) => m_X10_partOf_L6 y2 y3)) n9 (y2, y3) = some b1 → gW D ad cy N A s.heap c0 c H locs → lv_has ls 11 [(0, .long a1), (2, .long a2), (4, .int a3), (5, .long y2), (7, .long y3)] → W p l e rmX10_partOf s m args below meth cod H locs 0 0 Q (F0 m 6 ls []) := by
    intro n9
    induction n9 with
    | zero => intro y2 y3 H locs ls h; exact (gloop_0 h).elim
    | succ n9 ih =>
      intro y2 y3 H locs ls h G hl
      have ih1 := ih
      obtain ⟨o1, h, hn1⟩ := gloop_s h
      replace h := gu2_s h
      unfold m_X10_partOf_L6 at h
      refine lv_lload hx hb dX10_partOf_6 (lv_at hl 4 rfl) ?_
      refine lv_lconst (v := 0) hx hb dX10_partOf_8 (by decide) ?_
      refine W.lcmp hx hb dX10_partOf_9 ?_
      refine lv_if_eq (tgt := 31) hx hb dX10_partOf_10 (by decide) (fun q8 => ?_) (fun q8 => ?_)
      · replace h := gt_s q8 h
        cases h
        exact E1 _ _ _ _ (gnx_r hn1) G (lv_sub hl [0, 1, 2, 3] rfl)
      · replace h := gf_s q8 h
        refine lv_lload hx hb dX10_partOf_13 (lv_at hl 3 rfl) ?_
        refine lv_lload hx hb dX10_partOf_15 (lv_at hl 4 rfl) ?_
        obtain ⟨hz9, h⟩ := gc_s h
        refine lv_lrem hx hb dX10_partOf_17 hz9 ?_
        refine lv_topl (fun x10 ex10 => ?_)
        replace h := gv_s h x10 ex10
        refine lv_lstore (lv' := [(9, .long x10), (0, .long a1), (2, .long a2), (4, .int a3), (5, .long y2), (7, .long y3)]) hx hb dX10_partOf_18 hl (by decide) rfl (fun ls hl => ?_)
        refine lv_lload hx hb dX10_partOf_20 (lv_at hl 5 rfl) ?_
        refine lv_lstore (lv' := [(5, .long y3), (9, .long x10), (0, .long a1), (2, .long a2), (4, .int a3), (7, .long y3)]) hx hb dX10_partOf_22 hl (by decide) rfl (fun ls hl => ?_)
        refine lv_lload hx hb dX10_partOf_24 (lv_at hl 1 rfl) ?_
        refine lv_lstore (lv' := [(7, .long x10), (5, .long y3), (9, .long x10), (0, .long a1), (2, .long a2), (4, .int a3)]) hx hb dX10_partOf_26 hl (by decide) rfl (fun ls hl => ?_)
        refine lv_goto (tgt := 6) hx hb dX10_partOf_28 (by decide) ?_
        cases h
        exact ih1 _ _ _ _ _ hn1 G (lv_sub hl [3, 4, 5, 1, 0] rfl)
  exact L1 n _ _ _ _ _ hb1 G (lv_sub hl [2, 3, 4, 1, 0] rfl)
def m_X10_worth (n : Nat) (t : Nat) (a1 : Int32) (a2 : Int32) (a3 : Int32) (c : gm) : Option (Int64 × gm) :=
  gc (gck t = 10) (gv (gm_r c t (upd (c.1 t) 0 0)) (fun (c3 : gm) => gb (m_X10_isThing t a1 c3) (fun (r5 : Int32) => gj (fun (v6 : Int32) => gb2 (m_X10_bad t v6 1 0 c3) (fun (r9 : Int32) (c10 : gm) => (if r9 = 0 then gj (fun (v12 : Int32) => gb2 (m_X10_bad t v12 2 1 c10) (fun (r15 : Int32) (c16 : gm) => (if r15 = 0 then gb (m_X10_worths n t a1 a2 c16) (fun (c20 : gm) => gb (m_X10_partOf n (c20.2.1 t 39) (c20.2.1 t 40) a3) (fun (r22 : Int64) => some (r22, c20))) else some ((0 : Int64), c16)))) (fun K13 => gj (fun (_ : Unit) => K13 1) (fun K23 => (if a1 = a2 then K23 () else gb (m_X10_in a3 0 1) (fun (r26 : Int32) => (if r26 = 0 then K23 () else K13 0))))) else some ((0 : Int64), c10)))) (fun K7 => gj (fun (_ : Unit) => K7 1) (fun K28 => (if r5 = 0 then K28 () else gb (m_X10_isThing t a2 c3) (fun (r31 : Int32) => (if r31 = 0 then K28 () else K7 0))))))))
abbrev rmX10_worth : Room := { frames := 15, cells := 0, slots := 0, locals := 436 }
set_option maxHeartbeats 4000000 in
set_option maxRecDepth 100000 in
theorem c_X10_worth (l : Launch) (sa : gSa) (D : va_G) (ad : Nat → Nat) (cy : Nat → ClassId) (N sz : Nat) (hN : 530 ≤ N) (hI : gI ad N) (c0 c : gm) {n : Nat} {t : Nat} {a1 : Int32} {a2 : Int32} {a3 : Int32} {rZ : Int64} {cZ : gm} (h : m_X10_worth n t a1 a2 a3 c = some (rZ, cZ)) : Met l yX10_worth wsX10_worth rmX10_worth (va_Pc [.ref (ad t), .int a1, .int a2, .int a3] (gP sa D ad cy N sz c0 c)) (va_Ql (fun (z : Int64) (_ : Unit) => z = rZ) (fun _ U => gE D ad cy N c0 cZ U) (gA ad N sz)) 0 0 (gA ad N sz) := by
  refine Met.ofW (cc := cX10_worth) (maxL := 4) (ret := (some .long)) (by decide) rfl ?_
  intro p e s m args below meth cod s₁ B hml hv
  obtain ⟨rfl, hsz, hP, hK, hZ⟩ := hv
  have hx := B.exec
  have hb := B.bytes
  have hr := B.returns
  have hts := atoms_spec (ws := wsX10_worth) B.pre
  have hown : s.vm.findClass RX10 = some m.cls := findClass_of_methodNamed B.named
  have hlocks := B.notSynchronized
  subst hsz
  have hl := lv_entry ([.ref (ad t), .int a1, .int a2, .int a3]) (n := 4) (Nat.le_of_ble_eq_true rfl)
  rw [lg_entry_eq]
  generalize (lg_sl ([.ref (ad t), .int a1, .int a2, .int a3]) ++ List.replicate (4 - (lg_sl ([.ref (ad t), .int a1, .int a2, .int a3])).length) Slot.unset).toArray = ls at hl ⊢
  have hl : lv_has ls 4 [(0, .ref (ad t)), (1, .int a1), (2, .int a2), (3, .int a3)] := hl
  have in10 : ∀ w ∈ wsX100, w ∈ wsX10_worth := by decide +kernel
  generalize hargs : ([.ref (ad t), .int a1, .int a2, .int a3] : List Value).toArray = args at *
  generalize hAe : gA ad N s.heap.size = A
  have F : gF sa D ad cy N A p s m args cod cX10_worth 4 wsX10_worth RX10 := ⟨hx, hb, hml, hown, hts, hK, hI, by rw [← hAe]; exact gA_ad, by rw [← hAe]; exact gA_sz, by rw [← hAe]; exact hZ⟩
  have G : gW D ad cy N A s.heap c0 c s.heap [] := ⟨hP, va_S.rf⟩
  generalize hQ : MQ below (va_Ql (fun (z : Int64) (_ : Unit) => z = rZ) (fun _ U => gE D ad cy N c0 cZ U) A) args s 0 0 A = Q
  suffices hgen : ∀ (H : Heap) (locs : List Loc), gW D ad cy N A s.heap c0 c H locs → W p l e rmX10_worth s m args below meth cod H locs 0 0 Q (F0 m 0 ls []) from hgen _ _ G
  clear G
  intro H locs G
  unfold m_X10_worth at h
  refine lv_aload_n hx hb dX10_worth_0 rfl (lv_at hl 0 rfl) ?_
  refine lv_iconst (v := 0) hx hb dX10_worth_1 (by decide) ?_
  obtain ⟨hk1, h⟩ := gc_s h
  have ht2 : t < N := Nat.lt_of_lt_of_le (gck_lt10 hk1) hN
  refine fp_10_thrown F G hk1 ht2 in10 (by decide +kernel) dX10_worth_2 (fun H locs G => ?_)
  obtain ⟨c3, ec3⟩ : ∃ z, z = gm_r c t (upd (c.1 t) 0 0) := ⟨_, rfl⟩
  rw [← ec3] at G
  replace h := gv_s h c3 ec3
  refine lv_aload_n hx hb dX10_worth_5 rfl (lv_at hl 0 rfl) ?_
  refine lv_aload_n hx hb dX10_worth_6 rfl (lv_at hl 0 rfl) ?_
  refine lv_iload_n hx hb dX10_worth_7 rfl (lv_at hl 1 rfl) ?_
  obtain ⟨r5, hc4, h⟩ := gb_s h
  refine gx_calli F G (va_runV (As := [.int a1]) (rest := [.ref (ad t)]) (gx_fix F) (c_X10_isThing l sa D ad cy N H.size hN hI c0 c3 hc4) (cwV 1 hts gX10_worth_X10_isThing rfl rfl rfl (by decide +kernel) ⟨by decide, by decide⟩) (gx_rec F G ht2 (gwe_10 hk1) rfl) rfl rfl hl.1 rfl (lv_room (Nat.le_of_ble_eq_true rfl)) dX10_worth_8 ⟨Nat.zero_le _, Nat.zero_le _⟩) (fun H locs G => ?_)
  obtain ⟨K7, eK7, h⟩ := gj_s h
  have JK7 : ∀ (v6 : Int32) (H : Heap) (locs : List Loc) (ls : Array Slot), K7 v6 = some (rZ, cZ) → gW D ad cy N A s.heap c0 c3 H locs → lv_has ls 4 [(0, .ref (ad t)), (1, .int a1), (2, .int a2), (3, .int a3)] → W p l e rmX10_worth s m args below meth cod H locs 0 0 Q (F0 m 27 ls [.int v6, .ref (ad t)]) := by
    intro v6 H locs ls h G hl
    rw [eK7] at h
    refine lv_iconst (v := 1) hx hb dX10_worth_27 (by decide) ?_
    refine lv_iconst (v := 0) hx hb dX10_worth_28 (by decide) ?_
    obtain ⟨r9, c10, hc8, h⟩ := gb2_s h
    refine gx_calli F G (va_runV (As := [.int v6, .int 1, .int 0]) (rest := []) (gx_fix F) (c_X10_bad l sa D ad cy N H.size hN hI c0 c3 hc8) (cwV 3 hts gX10_worth_X10_bad rfl rfl rfl (by decide +kernel) ⟨by decide, by decide⟩) (gx_rec F G ht2 (gwe_10 hk1) rfl) rfl rfl hl.1 rfl (lv_room (Nat.le_of_ble_eq_true rfl)) dX10_worth_29 ⟨Nat.zero_le _, Nat.zero_le _⟩) (fun H locs G => ?_)
    refine lv_if_ne (tgt := 63) hx hb dX10_worth_32 (by decide) (fun q11 => ?_) (fun q11 => ?_)
    · replace h := gf_s q11 h
      refine lv_lconst (v := 0) hx hb dX10_worth_63 (by decide) ?_
      cases h
      rw [← hQ]
      exact gx_lret F G hr hlocks dX10_worth_64
    · replace h := gt_s q11 h
      refine lv_aload_n hx hb dX10_worth_35 rfl (lv_at hl 0 rfl) ?_
      refine lv_iload_n hx hb dX10_worth_36 rfl (lv_at hl 1 rfl) ?_
      refine lv_iload_n hx hb dX10_worth_37 rfl (lv_at hl 2 rfl) ?_
      obtain ⟨K13, eK13, h⟩ := gj_s h
      have JK13 : ∀ (v12 : Int32) (H : Heap) (locs : List Loc) (ls : Array Slot), K13 v12 = some (rZ, cZ) → gW D ad cy N A s.heap c0 c10 H locs → lv_has ls 4 [(0, .ref (ad t)), (1, .int a1), (2, .int a2), (3, .int a3)] → W p l e rmX10_worth s m args below meth cod H locs 0 0 Q (F0 m 55 ls [.int v12, .ref (ad t)]) := by
        intro v12 H locs ls h G hl
        rw [eK13] at h
        refine lv_iconst (v := 2) hx hb dX10_worth_55 (by decide) ?_
        refine lv_iconst (v := 1) hx hb dX10_worth_56 (by decide) ?_
        obtain ⟨r15, c16, hc14, h⟩ := gb2_s h
        refine gx_calli F G (va_runV (As := [.int v12, .int 2, .int 1]) (rest := []) (gx_fix F) (c_X10_bad l sa D ad cy N H.size hN hI c0 c10 hc14) (cwV 3 hts gX10_worth_X10_bad rfl rfl rfl (by decide +kernel) ⟨by decide, by decide⟩) (gx_rec F G ht2 (gwe_10 hk1) rfl) rfl rfl hl.1 rfl (lv_room (Nat.le_of_ble_eq_true rfl)) dX10_worth_57 ⟨Nat.zero_le _, Nat.zero_le _⟩) (fun H locs G => ?_)
        refine lv_if_eq (tgt := 65) hx hb dX10_worth_60 (by decide) (fun q17 => ?_) (fun q17 => ?_)
        · replace h := gt_s q17 h
          refine lv_aload_n hx hb dX10_worth_65 rfl (lv_at hl 0 rfl) ?_
          refine lv_iload_n hx hb dX10_worth_66 rfl (lv_at hl 1 rfl) ?_
          refine lv_iload_n hx hb dX10_worth_67 rfl (lv_at hl 2 rfl) ?_
          obtain ⟨c20, hc18, h⟩ := gb_s h
          refine gx_callv F G (va_runV (As := [.int a1, .int a2]) (rest := []) (gx_fix F) (c_X10_worths l sa D ad cy N H.size hN hI c0 c16 hc18) (cwV 2 hts gX10_worth_X10_worths rfl rfl rfl (by decide +kernel) ⟨by decide, by decide⟩) (gx_rec F G ht2 (gwe_10 hk1) rfl) rfl rfl hl.1 rfl (lv_room (Nat.le_of_ble_eq_true rfl)) dX10_worth_68 ⟨Nat.zero_le _, Nat.zero_le _⟩) (fun H locs G => ?_)
          refine lv_aload_n hx hb dX10_worth_71 rfl (lv_at hl 0 rfl) ?_
          refine fg_10_bestUp F G hk1 ht2 in10 (by decide +kernel) dX10_worth_72 ?_
          refine lv_aload_n hx hb dX10_worth_75 rfl (lv_at hl 0 rfl) ?_
          refine fg_10_bestLow F G hk1 ht2 in10 (by decide +kernel) dX10_worth_76 ?_
          refine lv_iload_n hx hb dX10_worth_79 rfl (lv_at hl 3 rfl) ?_
          obtain ⟨r22, hc21, h⟩ := gb_s h
          refine gx_calll F G (va_runS (As := [.long (c20.2.1 t 39), .long (c20.2.1 t 40), .int a3]) (rest := []) (gx_fix F) (c_X10_partOf l sa D ad cy N H.size hN hI c0 c20 hc21) (va_cwS 3 hts gX10_worth_X10_partOf rfl rfl rfl (by decide +kernel) ⟨by decide, by decide⟩) (gx_pre F G) rfl rfl hl.1 rfl (lv_room (Nat.le_of_ble_eq_true rfl)) dX10_worth_80 ⟨Nat.zero_le _, Nat.zero_le _⟩) (fun H locs G => ?_)
          cases h
          rw [← hQ]
          exact gx_lret F G hr hlocks dX10_worth_83
        · replace h := gf_s q17 h
          refine lv_lconst (v := 0) hx hb dX10_worth_63 (by decide) ?_
          cases h
          rw [← hQ]
          exact gx_lret F G hr hlocks dX10_worth_64
      obtain ⟨K23, eK23, h⟩ := gj_s h
      have JK23 : ∀ (H : Heap) (locs : List Loc) (ls : Array Slot), K23 () = some (rZ, cZ) → gW D ad cy N A s.heap c0 c10 H locs → lv_has ls 4 [(0, .ref (ad t)), (1, .int a1), (2, .int a2), (3, .int a3)] → W p l e rmX10_worth s m args below meth cod H locs 0 0 Q (F0 m 50 ls [.ref (ad t)]) := by
        intro  H locs ls h G hl
        rw [eK23] at h
        refine lv_iconst (v := 1) hx hb dX10_worth_50 (by decide) ?_
        refine lv_goto (tgt := 55) hx hb dX10_worth_51 (by decide) ?_
        exact JK13 _ _ _ _ h G hl
      refine lv_icmp_eq (tgt := 50) hx hb dX10_worth_38 (by decide) (fun q24 => ?_) (fun q24 => ?_)
      · replace h := gt_s q24 h
        exact JK23  _ _ _ h G hl
      · replace h := gf_s q24 h
        refine lv_iload_n hx hb dX10_worth_41 rfl (lv_at hl 3 rfl) ?_
        refine lv_iconst (v := 0) hx hb dX10_worth_42 (by decide) ?_
        refine lv_iconst (v := 1) hx hb dX10_worth_43 (by decide) ?_
        obtain ⟨r26, hc25, h⟩ := gb_s h
        refine gx_calli F G (va_runS (As := [.int a3, .int 0, .int 1]) (rest := [.ref (ad t)]) (gx_fix F) (c_X10_in l sa D ad cy N H.size hN hI c0 c10 hc25) (va_cwS 3 hts gX10_worth_X10_in rfl rfl rfl (by decide +kernel) ⟨by decide, by decide⟩) (gx_pre F G) rfl rfl hl.1 rfl (lv_room (Nat.le_of_ble_eq_true rfl)) dX10_worth_44 ⟨Nat.zero_le _, Nat.zero_le _⟩) (fun H locs G => ?_)
        refine lv_if_ne (tgt := 54) hx hb dX10_worth_47 (by decide) (fun q27 => ?_) (fun q27 => ?_)
        · replace h := gf_s q27 h
          refine lv_iconst (v := 0) hx hb dX10_worth_54 (by decide) ?_
          exact JK13 _ _ _ _ h G hl
        · replace h := gt_s q27 h
          exact JK23  _ _ _ h G hl
  obtain ⟨K28, eK28, h⟩ := gj_s h
  have JK28 : ∀ (H : Heap) (locs : List Loc) (ls : Array Slot), K28 () = some (rZ, cZ) → gW D ad cy N A s.heap c0 c3 H locs → lv_has ls 4 [(0, .ref (ad t)), (1, .int a1), (2, .int a2), (3, .int a3)] → W p l e rmX10_worth s m args below meth cod H locs 0 0 Q (F0 m 22 ls [.ref (ad t)]) := by
    intro  H locs ls h G hl
    rw [eK28] at h
    refine lv_iconst (v := 1) hx hb dX10_worth_22 (by decide) ?_
    refine lv_goto (tgt := 27) hx hb dX10_worth_23 (by decide) ?_
    exact JK7 _ _ _ _ h G hl
  refine lv_if_eq (tgt := 22) hx hb dX10_worth_11 (by decide) (fun q29 => ?_) (fun q29 => ?_)
  · replace h := gt_s q29 h
    exact JK28  _ _ _ h G hl
  · replace h := gf_s q29 h
    refine lv_aload_n hx hb dX10_worth_14 rfl (lv_at hl 0 rfl) ?_
    refine lv_iload_n hx hb dX10_worth_15 rfl (lv_at hl 2 rfl) ?_
    obtain ⟨r31, hc30, h⟩ := gb_s h
    refine gx_calli F G (va_runV (As := [.int a2]) (rest := [.ref (ad t)]) (gx_fix F) (c_X10_isThing l sa D ad cy N H.size hN hI c0 c3 hc30) (cwV 1 hts gX10_worth_X10_isThing rfl rfl rfl (by decide +kernel) ⟨by decide, by decide⟩) (gx_rec F G ht2 (gwe_10 hk1) rfl) rfl rfl hl.1 rfl (lv_room (Nat.le_of_ble_eq_true rfl)) dX10_worth_16 ⟨Nat.zero_le _, Nat.zero_le _⟩) (fun H locs G => ?_)
    refine lv_if_ne (tgt := 26) hx hb dX10_worth_19 (by decide) (fun q32 => ?_) (fun q32 => ?_)
    · replace h := gf_s q32 h
      refine lv_iconst (v := 0) hx hb dX10_worth_26 (by decide) ?_
      exact JK7 _ _ _ _ h G hl
    · replace h := gt_s q32 h
      exact JK28  _ _ _ h G hl
def m_X10_fattest (n : Nat) (t : Nat) (a1 : Int32) (c : gm) : Option (Int64 × gm) :=
  gc (gck t = 10) (gv (gm_r c t (upd (c.1 t) 0 0)) (fun (c3 : gm) => gb (m_X10_in a1 0 1) (fun (r5 : Int32) => gj (fun (v6 : Int32) => gb2 (m_X10_bad t v6 1 1 c3) (fun (r9 : Int32) (c10 : gm) => (if r9 = 0 then gb (m_X10_allRings n t c10) (fun (c14 : gm) => gb (m_X10_partOf n (c14.2.1 t 39) (c14.2.1 t 40) a1) (fun (r16 : Int64) => some (r16, c14))) else some ((0 : Int64), c10)))) (fun K7 => (if r5 = 0 then K7 1 else K7 0)))))
abbrev rmX10_fattest : Room := { frames := 15, cells := 0, slots := 0, locals := 500 }
set_option maxHeartbeats 4000000 in
set_option maxRecDepth 100000 in
theorem c_X10_fattest (l : Launch) (sa : gSa) (D : va_G) (ad : Nat → Nat) (cy : Nat → ClassId) (N sz : Nat) (hN : 530 ≤ N) (hI : gI ad N) (c0 c : gm) {n : Nat} {t : Nat} {a1 : Int32} {rZ : Int64} {cZ : gm} (h : m_X10_fattest n t a1 c = some (rZ, cZ)) : Met l yX10_fattest wsX10_fattest rmX10_fattest (va_Pc [.ref (ad t), .int a1] (gP sa D ad cy N sz c0 c)) (va_Ql (fun (z : Int64) (_ : Unit) => z = rZ) (fun _ U => gE D ad cy N c0 cZ U) (gA ad N sz)) 0 0 (gA ad N sz) := by
  refine Met.ofW (cc := cX10_fattest) (maxL := 2) (ret := (some .long)) (by decide) rfl ?_
  intro p e s m args below meth cod s₁ B hml hv
  obtain ⟨rfl, hsz, hP, hK, hZ⟩ := hv
  have hx := B.exec
  have hb := B.bytes
  have hr := B.returns
  have hts := atoms_spec (ws := wsX10_fattest) B.pre
  have hown : s.vm.findClass RX10 = some m.cls := findClass_of_methodNamed B.named
  have hlocks := B.notSynchronized
  subst hsz
  have hl := lv_entry ([.ref (ad t), .int a1]) (n := 2) (Nat.le_of_ble_eq_true rfl)
  rw [lg_entry_eq]
  generalize (lg_sl ([.ref (ad t), .int a1]) ++ List.replicate (2 - (lg_sl ([.ref (ad t), .int a1])).length) Slot.unset).toArray = ls at hl ⊢
  have hl : lv_has ls 2 [(0, .ref (ad t)), (1, .int a1)] := hl
  have in10 : ∀ w ∈ wsX100, w ∈ wsX10_fattest := by decide +kernel
  generalize hargs : ([.ref (ad t), .int a1] : List Value).toArray = args at *
  generalize hAe : gA ad N s.heap.size = A
  have F : gF sa D ad cy N A p s m args cod cX10_fattest 2 wsX10_fattest RX10 := ⟨hx, hb, hml, hown, hts, hK, hI, by rw [← hAe]; exact gA_ad, by rw [← hAe]; exact gA_sz, by rw [← hAe]; exact hZ⟩
  have G : gW D ad cy N A s.heap c0 c s.heap [] := ⟨hP, va_S.rf⟩
  generalize hQ : MQ below (va_Ql (fun (z : Int64) (_ : Unit) => z = rZ) (fun _ U => gE D ad cy N c0 cZ U) A) args s 0 0 A = Q
  suffices hgen : ∀ (H : Heap) (locs : List Loc), gW D ad cy N A s.heap c0 c H locs → W p l e rmX10_fattest s m args below meth cod H locs 0 0 Q (F0 m 0 ls []) from hgen _ _ G
  clear G
  intro H locs G
  unfold m_X10_fattest at h
  refine lv_aload_n hx hb dX10_fattest_0 rfl (lv_at hl 0 rfl) ?_
  refine lv_iconst (v := 0) hx hb dX10_fattest_1 (by decide) ?_
  obtain ⟨hk1, h⟩ := gc_s h
  have ht2 : t < N := Nat.lt_of_lt_of_le (gck_lt10 hk1) hN
  refine fp_10_thrown F G hk1 ht2 in10 (by decide +kernel) dX10_fattest_2 (fun H locs G => ?_)
  obtain ⟨c3, ec3⟩ : ∃ z, z = gm_r c t (upd (c.1 t) 0 0) := ⟨_, rfl⟩
  rw [← ec3] at G
  replace h := gv_s h c3 ec3
  refine lv_aload_n hx hb dX10_fattest_5 rfl (lv_at hl 0 rfl) ?_
  refine lv_iload_n hx hb dX10_fattest_6 rfl (lv_at hl 1 rfl) ?_
  refine lv_iconst (v := 0) hx hb dX10_fattest_7 (by decide) ?_
  refine lv_iconst (v := 1) hx hb dX10_fattest_8 (by decide) ?_
  obtain ⟨r5, hc4, h⟩ := gb_s h
  refine gx_calli F G (va_runS (As := [.int a1, .int 0, .int 1]) (rest := [.ref (ad t)]) (gx_fix F) (c_X10_in l sa D ad cy N H.size hN hI c0 c3 hc4) (va_cwS 3 hts gX10_fattest_X10_in rfl rfl rfl (by decide +kernel) ⟨by decide, by decide⟩) (gx_pre F G) rfl rfl hl.1 rfl (lv_room (Nat.le_of_ble_eq_true rfl)) dX10_fattest_9 ⟨Nat.zero_le _, Nat.zero_le _⟩) (fun H locs G => ?_)
  obtain ⟨K7, eK7, h⟩ := gj_s h
  have JK7 : ∀ (v6 : Int32) (H : Heap) (locs : List Loc) (ls : Array Slot), K7 v6 = some (rZ, cZ) → gW D ad cy N A s.heap c0 c3 H locs → lv_has ls 2 [(0, .ref (ad t)), (1, .int a1)] → W p l e rmX10_fattest s m args below meth cod H locs 0 0 Q (F0 m 20 ls [.int v6, .ref (ad t)]) := by
    intro v6 H locs ls h G hl
    rw [eK7] at h
    refine lv_iconst (v := 1) hx hb dX10_fattest_20 (by decide) ?_
    refine lv_iconst (v := 1) hx hb dX10_fattest_21 (by decide) ?_
    obtain ⟨r9, c10, hc8, h⟩ := gb2_s h
    refine gx_calli F G (va_runV (As := [.int v6, .int 1, .int 1]) (rest := []) (gx_fix F) (c_X10_bad l sa D ad cy N H.size hN hI c0 c3 hc8) (cwV 3 hts gX10_fattest_X10_bad rfl rfl rfl (by decide +kernel) ⟨by decide, by decide⟩) (gx_rec F G ht2 (gwe_10 hk1) rfl) rfl rfl hl.1 rfl (lv_room (Nat.le_of_ble_eq_true rfl)) dX10_fattest_22 ⟨Nat.zero_le _, Nat.zero_le _⟩) (fun H locs G => ?_)
    refine lv_if_eq (tgt := 30) hx hb dX10_fattest_25 (by decide) (fun q11 => ?_) (fun q11 => ?_)
    · replace h := gt_s q11 h
      refine lv_aload_n hx hb dX10_fattest_30 rfl (lv_at hl 0 rfl) ?_
      obtain ⟨c14, hc12, h⟩ := gb_s h
      refine gx_callv F G (va_runV (As := []) (rest := []) (gx_fix F) (c_X10_allRings l sa D ad cy N H.size hN hI c0 c10 hc12) (cwV 0 hts gX10_fattest_X10_allRings rfl rfl rfl (by decide +kernel) ⟨by decide, by decide⟩) (gx_rec F G ht2 (gwe_10 hk1) rfl) rfl rfl hl.1 rfl (lv_room (Nat.le_of_ble_eq_true rfl)) dX10_fattest_31 ⟨Nat.zero_le _, Nat.zero_le _⟩) (fun H locs G => ?_)
      refine lv_aload_n hx hb dX10_fattest_34 rfl (lv_at hl 0 rfl) ?_
      refine fg_10_bestUp F G hk1 ht2 in10 (by decide +kernel) dX10_fattest_35 ?_
      refine lv_aload_n hx hb dX10_fattest_38 rfl (lv_at hl 0 rfl) ?_
      refine fg_10_bestLow F G hk1 ht2 in10 (by decide +kernel) dX10_fattest_39 ?_
      refine lv_iload_n hx hb dX10_fattest_42 rfl (lv_at hl 1 rfl) ?_
      obtain ⟨r16, hc15, h⟩ := gb_s h
      refine gx_calll F G (va_runS (As := [.long (c14.2.1 t 39), .long (c14.2.1 t 40), .int a1]) (rest := []) (gx_fix F) (c_X10_partOf l sa D ad cy N H.size hN hI c0 c14 hc15) (va_cwS 3 hts gX10_fattest_X10_partOf rfl rfl rfl (by decide +kernel) ⟨by decide, by decide⟩) (gx_pre F G) rfl rfl hl.1 rfl (lv_room (Nat.le_of_ble_eq_true rfl)) dX10_fattest_43 ⟨Nat.zero_le _, Nat.zero_le _⟩) (fun H locs G => ?_)
      cases h
      rw [← hQ]
      exact gx_lret F G hr hlocks dX10_fattest_46
    · replace h := gf_s q11 h
      refine lv_lconst (v := 0) hx hb dX10_fattest_28 (by decide) ?_
      cases h
      rw [← hQ]
      exact gx_lret F G hr hlocks dX10_fattest_29
  refine lv_if_ne (tgt := 19) hx hb dX10_fattest_12 (by decide) (fun q17 => ?_) (fun q17 => ?_)
  · replace h := gf_s q17 h
    refine lv_iconst (v := 0) hx hb dX10_fattest_19 (by decide) ?_
    exact JK7 _ _ _ _ h G hl
  · replace h := gt_s q17 h
    refine lv_iconst (v := 1) hx hb dX10_fattest_15 (by decide) ?_
    refine lv_goto (tgt := 20) hx hb dX10_fattest_16 (by decide) ?_
    exact JK7 _ _ _ _ h G hl
def m_X10_fat (n : Nat) (t : Nat) (c : gm) : Option (Int32 × gm) :=
  gc (gck t = 10) (gv (gm_r c t (upd (c.1 t) 0 0)) (fun (c3 : gm) => gb (m_X10_allRings n t c3) (fun (c6 : gm) => some ((c6.1 t 42), c6))))
abbrev rmX10_fat : Room := { frames := 15, cells := 0, slots := 0, locals := 500 }
set_option maxHeartbeats 4000000 in
set_option maxRecDepth 100000 in
theorem c_X10_fat (l : Launch) (sa : gSa) (D : va_G) (ad : Nat → Nat) (cy : Nat → ClassId) (N sz : Nat) (hN : 530 ≤ N) (hI : gI ad N) (c0 c : gm) {n : Nat} {t : Nat} {rZ : Int32} {cZ : gm} (h : m_X10_fat n t c = some (rZ, cZ)) : Met l yX10_fat wsX10_fat rmX10_fat (va_Pc [.ref (ad t)] (gP sa D ad cy N sz c0 c)) (va_Qi (fun (z : Int32) (_ : Unit) => z = rZ) (fun _ U => gE D ad cy N c0 cZ U) (gA ad N sz)) 0 0 (gA ad N sz) := by
  refine Met.ofW (cc := cX10_fat) (maxL := 1) (ret := (some .int)) (by decide) rfl ?_
  intro p e s m args below meth cod s₁ B hml hv
  obtain ⟨rfl, hsz, hP, hK, hZ⟩ := hv
  have hx := B.exec
  have hb := B.bytes
  have hr := B.returns
  have hts := atoms_spec (ws := wsX10_fat) B.pre
  have hown : s.vm.findClass RX10 = some m.cls := findClass_of_methodNamed B.named
  have hlocks := B.notSynchronized
  subst hsz
  have hl := lv_entry ([.ref (ad t)]) (n := 1) (Nat.le_of_ble_eq_true rfl)
  rw [lg_entry_eq]
  generalize (lg_sl ([.ref (ad t)]) ++ List.replicate (1 - (lg_sl ([.ref (ad t)])).length) Slot.unset).toArray = ls at hl ⊢
  have hl : lv_has ls 1 [(0, .ref (ad t))] := hl
  have in10 : ∀ w ∈ wsX100, w ∈ wsX10_fat := by decide +kernel
  generalize hargs : ([.ref (ad t)] : List Value).toArray = args at *
  generalize hAe : gA ad N s.heap.size = A
  have F : gF sa D ad cy N A p s m args cod cX10_fat 1 wsX10_fat RX10 := ⟨hx, hb, hml, hown, hts, hK, hI, by rw [← hAe]; exact gA_ad, by rw [← hAe]; exact gA_sz, by rw [← hAe]; exact hZ⟩
  have G : gW D ad cy N A s.heap c0 c s.heap [] := ⟨hP, va_S.rf⟩
  generalize hQ : MQ below (va_Qi (fun (z : Int32) (_ : Unit) => z = rZ) (fun _ U => gE D ad cy N c0 cZ U) A) args s 0 0 A = Q
  suffices hgen : ∀ (H : Heap) (locs : List Loc), gW D ad cy N A s.heap c0 c H locs → W p l e rmX10_fat s m args below meth cod H locs 0 0 Q (F0 m 0 ls []) from hgen _ _ G
  clear G
  intro H locs G
  unfold m_X10_fat at h
  refine lv_aload_n hx hb dX10_fat_0 rfl (lv_at hl 0 rfl) ?_
  refine lv_iconst (v := 0) hx hb dX10_fat_1 (by decide) ?_
  obtain ⟨hk1, h⟩ := gc_s h
  have ht2 : t < N := Nat.lt_of_lt_of_le (gck_lt10 hk1) hN
  refine fp_10_thrown F G hk1 ht2 in10 (by decide +kernel) dX10_fat_2 (fun H locs G => ?_)
  obtain ⟨c3, ec3⟩ : ∃ z, z = gm_r c t (upd (c.1 t) 0 0) := ⟨_, rfl⟩
  rw [← ec3] at G
  replace h := gv_s h c3 ec3
  refine lv_aload_n hx hb dX10_fat_5 rfl (lv_at hl 0 rfl) ?_
  obtain ⟨c6, hc4, h⟩ := gb_s h
  refine gx_callv F G (va_runV (As := []) (rest := []) (gx_fix F) (c_X10_allRings l sa D ad cy N H.size hN hI c0 c3 hc4) (cwV 0 hts gX10_fat_X10_allRings rfl rfl rfl (by decide +kernel) ⟨by decide, by decide⟩) (gx_rec F G ht2 (gwe_10 hk1) rfl) rfl rfl hl.1 rfl (lv_room (Nat.le_of_ble_eq_true rfl)) dX10_fat_6 ⟨Nat.zero_le _, Nat.zero_le _⟩) (fun H locs G => ?_)
  refine lv_aload_n hx hb dX10_fat_9 rfl (lv_at hl 0 rfl) ?_
  refine fg_10_fewestFat F G hk1 ht2 in10 (by decide +kernel) dX10_fat_10 ?_
  cases h
  rw [← hQ]
  exact gx_iret F G hr hlocks dX10_fat_13
def m_X10_isMended_L2 (t : Nat) (a1 : Int32) (c : gm) (y2 : Int32) : Option ((Int32) ⊕ ((Int32) ⊕ (Unit))) :=
  gc (gck t = 10) ((if ((1 : Int32) <<< ((c.1 503 (56 : Int32).toNatClampNeg) &&& 31)) ≤ y2 then some (.inr (.inr ())) else gc (0 ≤ y2.toInt ∧ y2.toInt < 1024) (gj (fun (_ : Unit) => gv (y2 + 1) (fun (x15 : Int32) => some (.inl x15))) (fun K14 => (if (c.1 527 y2.toNatClampNeg) = 0 then K14 () else (if (y2 &&& a1) = 0 then some (.inr (.inl 0)) else K14 ()))))))
def m_X10_isMended (n : Nat) (t : Nat) (a1 : Int32) (c : gm) : Option (Int32) :=
  gb (gloop (fun (y2 : Int32) => m_X10_isMended_L2 t a1 c y2) n 1) (gsm (fun (_ : Unit) => some 1))
abbrev rmX10_isMended : Room := { frames := 0, cells := 0, slots := 0, locals := 0 }
set_option maxHeartbeats 4000000 in
set_option maxRecDepth 100000 in
theorem c_X10_isMended (l : Launch) (sa : gSa) (D : va_G) (ad : Nat → Nat) (cy : Nat → ClassId) (N sz : Nat) (hN : 530 ≤ N) (hI : gI ad N) (c0 c : gm) {n : Nat} {t : Nat} {a1 : Int32} {rZ : Int32} (h : m_X10_isMended n t a1 c = some rZ) : Met l yX10_isMended wsX10_isMended rmX10_isMended (va_Pc [.ref (ad t), .int a1] (gP sa D ad cy N sz c0 c)) (va_Qi (fun (z : Int32) (_ : Unit) => z = rZ) (fun _ U => gE D ad cy N c0 c U) (gA ad N sz)) 0 0 (gA ad N sz) := by
  refine Met.ofW (cc := cX10_isMended) (maxL := 3) (ret := (some .boolean)) (by decide) rfl ?_
  intro p e s m args below meth cod s₁ B hml hv
  obtain ⟨rfl, hsz, hP, hK, hZ⟩ := hv
  have hx := B.exec
  have hb := B.bytes
  have hr := B.returns
  have hts := atoms_spec (ws := wsX10_isMended) B.pre
  have hown : s.vm.findClass RX10 = some m.cls := findClass_of_methodNamed B.named
  have hlocks := B.notSynchronized
  subst hsz
  have hl := lv_entry ([.ref (ad t), .int a1]) (n := 3) (Nat.le_of_ble_eq_true rfl)
  rw [lg_entry_eq]
  generalize (lg_sl ([.ref (ad t), .int a1]) ++ List.replicate (3 - (lg_sl ([.ref (ad t), .int a1])).length) Slot.unset).toArray = ls at hl ⊢
  have hl : lv_has ls 3 [(0, .ref (ad t)), (1, .int a1)] := hl
  have in10 : ∀ w ∈ wsX100, w ∈ wsX10_isMended := by decide +kernel
  generalize hargs : ([.ref (ad t), .int a1] : List Value).toArray = args at *
  generalize hAe : gA ad N s.heap.size = A
  have F : gF sa D ad cy N A p s m args cod cX10_isMended 3 wsX10_isMended RX10 := ⟨hx, hb, hml, hown, hts, hK, hI, by rw [← hAe]; exact gA_ad, by rw [← hAe]; exact gA_sz, by rw [← hAe]; exact hZ⟩
  have G : gW D ad cy N A s.heap c0 c s.heap [] := ⟨hP, va_S.rf⟩
  generalize hQ : MQ below (va_Qi (fun (z : Int32) (_ : Unit) => z = rZ) (fun _ U => gE D ad cy N c0 c U) A) args s 0 0 A = Q
  suffices hgen : ∀ (H : Heap) (locs : List Loc), gW D ad cy N A s.heap c0 c H locs → W p l e rmX10_isMended s m args below meth cod H locs 0 0 Q (F0 m 0 ls []) from hgen _ _ G
  clear G
  intro H locs G
  unfold m_X10_isMended at h
  refine lv_iconst (v := 1) hx hb dX10_isMended_0 (by decide) ?_
  refine lv_istore_n (lv' := [(2, .int 1), (0, .ref (ad t)), (1, .int a1)]) hx hb dX10_isMended_1 rfl hl (by decide) rfl (fun ls hl => ?_)
  obtain ⟨b1, hb1, hK1⟩ := gb_s h
  have E1 : ∀ (H : Heap) (locs : List Loc) (ls : Array Slot), (Sum.inr () : (Int32) ⊕ (Unit)) = b1 → gW D ad cy N A s.heap c0 c H locs → lv_has ls 3 [] → W p l e rmX10_isMended s m args below meth cod H locs 0 0 Q (F0 m 38 ls []) := by
    intro  H locs ls hq1 G hl
    subst hq1
    replace hK1 := gsm_r hK1
    have h := hK1
    refine lv_iconst (v := 1) hx hb dX10_isMended_38 (by decide) ?_
    cases h
    rw [← hQ]
    exact gx_zret F G hr hlocks rfl dX10_isMended_39
  have L1 : ∀ (n9 : Nat) (y2 : Int32) (H : Heap) (locs : List Loc) (ls : Array Slot), gloop (fun (y2 : Int32) => m_X10_isMended_L2 t a1 c y2) n9 y2 = some b1 → gW D ad cy N A s.heap c0 c H locs → lv_has ls 3 [(0, .ref (ad t)), (1, .int a1), (2, .int y2)] → W p l e rmX10_isMended s m args below meth cod H locs 0 0 Q (F0 m 2 ls []) := by
    intro n9
    induction n9 with
    | zero => intro y2 H locs ls h; exact (gloop_0 h).elim
    | succ n9 ih =>
      intro y2 H locs ls h G hl
      have ih1 := ih
      obtain ⟨o1, h, hn1⟩ := gloop_s h
      unfold m_X10_isMended_L2 at h
      refine lv_iload_n hx hb dX10_isMended_2 rfl (lv_at hl 2 rfl) ?_
      refine lv_iconst (v := 1) hx hb dX10_isMended_3 (by decide) ?_
      refine lv_aload_n hx hb dX10_isMended_4 rfl (lv_at hl 0 rfl) ?_
      obtain ⟨hk3, h⟩ := gc_s h
      have ht4 : t < N := Nat.lt_of_lt_of_le (gck_lt10 hk3) hN
      refine fg_10_now F G hk3 ht4 in10 (by decide +kernel) dX10_isMended_5 ?_
      have hk5 : gck 503 = 22 := rfl
      have ht6 : 503 < N := Nat.lt_of_lt_of_le (by decide) hN
      have hn7 : gal 503 = 60 := rfl
      refine lv_bipush (v := 56) hx hb dX10_isMended_8 (by decide) ?_
      refine gx_mia F G hk5 ht6 hn7 (by decide) dX10_isMended_10 ?_
      refine lv_ishl hx hb dX10_isMended_11 ?_
      refine lv_icmp_ge (tgt := 38) hx hb dX10_isMended_12 (by decide) (fun q9 => ?_) (fun q9 => ?_)
      · replace h := gt_s q9 h
        cases h
        exact E1  _ _ _ (gnx_r hn1) G (lv_sub hl [] rfl)
      · replace h := gf_s q9 h
        refine lv_aload_n hx hb dX10_isMended_15 rfl (lv_at hl 0 rfl) ?_
        refine fg_10_isFat F G hk3 ht4 in10 (by decide +kernel) dX10_isMended_16 ?_
        have hk10 : gck 527 = 24 := rfl
        have ht11 : 527 < N := Nat.lt_of_lt_of_le (by decide) hN
        have hn12 : gal 527 = 1024 := rfl
        refine lv_iload_n hx hb dX10_isMended_19 rfl (lv_at hl 2 rfl) ?_
        obtain ⟨hi13, h⟩ := gc_s h
        refine gx_mza F G hk10 ht11 hn12 hi13 dX10_isMended_20 ?_
        obtain ⟨K14, eK14, h⟩ := gj_s h
        have JK14 : ∀ (H : Heap) (locs : List Loc) (ls : Array Slot), K14 () = some o1 → gW D ad cy N A s.heap c0 c H locs → lv_has ls 3 [(0, .ref (ad t)), (1, .int a1), (2, .int y2)] → W p l e rmX10_isMended s m args below meth cod H locs 0 0 Q (F0 m 32 ls []) := by
          intro  H locs ls h G hl
          rw [eK14] at h
          obtain ⟨x15, ex15⟩ : ∃ z : Int32, z = y2 + 1 := ⟨_, rfl⟩
          replace h := gv_s h x15 ex15
          refine lv_iinc (v := x15) (lv' := [(2, .int x15), (0, .ref (ad t)), (1, .int a1)]) hx hb dX10_isMended_32 hl (k := 2) rfl (by rw [ex15]; rfl) (by decide) rfl (fun ls hl => ?_)
          refine lv_goto (tgt := 2) hx hb dX10_isMended_35 (by decide) ?_
          cases h
          exact ih1 _ _ _ _ hn1 G (lv_sub hl [1, 2, 0] rfl)
        refine lv_if_eq (tgt := 32) hx hb dX10_isMended_21 (by decide) (fun q16 => ?_) (fun q16 => ?_)
        · replace h := gt_s q16 h
          exact JK14  _ _ _ h G hl
        · replace h := gf_s q16 h
          refine lv_iload_n hx hb dX10_isMended_24 rfl (lv_at hl 2 rfl) ?_
          refine lv_iload_n hx hb dX10_isMended_25 rfl (lv_at hl 1 rfl) ?_
          refine lv_iand hx hb dX10_isMended_26 ?_
          refine lv_if_ne (tgt := 32) hx hb dX10_isMended_27 (by decide) (fun q17 => ?_) (fun q17 => ?_)
          · replace h := gf_s q17 h
            exact JK14  _ _ _ h G hl
          · replace h := gt_s q17 h
            refine lv_iconst (v := 0) hx hb dX10_isMended_30 (by decide) ?_
            cases h
            cases gnx_r hn1
            cases gsm_l hK1
            rw [← hQ]
            exact gx_zret F G hr hlocks rfl dX10_isMended_31
  exact L1 n _ _ _ _ hb1 G (lv_sub hl [1, 2, 0] rfl)
def m_X10_mend_L23 (n : Nat) (t : Nat) (c6 : gm) (y13 : Int32) (y14 : Int32) : Option ((Int32 × Int32) ⊕ (Int32)) :=
  (if y14 < 0 then some (.inr y13) else gb (m_X10_ones n y14) (fun (r18 : Int32) => gb (m_X10_ones n y13) (fun (r20 : Int32) => gj (fun (v21 : Int32) => gv (y14 + (-1)) (fun (x23 : Int32) => some (.inl (v21, x23)))) (fun K22 => gj (fun (_ : Unit) => K22 y13) (fun K24 => (if r20 < r18 then K24 () else gb (m_X10_isMended n t y14 c6) (fun (r27 : Int32) => (if r27 = 0 then K24 () else K22 y14))))))))
def m_X10_mend (n : Nat) (t : Nat) (c : gm) : Option (Int32 × gm) :=
  gc (gck t = 10) (gv (gm_r c t (upd (c.1 t) 0 0)) (fun (c3 : gm) => gb (m_X10_allRings n t c3) (fun (c6 : gm) => gv (((1 : Int32) <<< ((c6.1 503 (56 : Int32).toNatClampNeg) &&& 31)) - 1) (fun (x11 : Int32) => gb (gloop (gu2 (fun (y13 : Int32) (y14 : Int32) => m_X10_mend_L23 n t c6 y13 y14)) n (x11, x11)) (fun (z15 : Int32) => some (z15, c6))))))
abbrev rmX10_mend : Room := { frames := 15, cells := 0, slots := 0, locals := 500 }
set_option maxHeartbeats 4000000 in
set_option maxRecDepth 100000 in
theorem c_X10_mend (l : Launch) (sa : gSa) (D : va_G) (ad : Nat → Nat) (cy : Nat → ClassId) (N sz : Nat) (hN : 530 ≤ N) (hI : gI ad N) (c0 c : gm) {n : Nat} {t : Nat} {rZ : Int32} {cZ : gm} (h : m_X10_mend n t c = some (rZ, cZ)) : Met l yX10_mend wsX10_mend rmX10_mend (va_Pc [.ref (ad t)] (gP sa D ad cy N sz c0 c)) (va_Qi (fun (z : Int32) (_ : Unit) => z = rZ) (fun _ U => gE D ad cy N c0 cZ U) (gA ad N sz)) 0 0 (gA ad N sz) := by
  refine Met.ofW (cc := cX10_mend) (maxL := 3) (ret := (some .int)) (by decide) rfl ?_
  intro p e s m args below meth cod s₁ B hml hv
  obtain ⟨rfl, hsz, hP, hK, hZ⟩ := hv
  have hx := B.exec
  have hb := B.bytes
  have hr := B.returns
  have hts := atoms_spec (ws := wsX10_mend) B.pre
  have hown : s.vm.findClass RX10 = some m.cls := findClass_of_methodNamed B.named
  have hlocks := B.notSynchronized
  subst hsz
  have hl := lv_entry ([.ref (ad t)]) (n := 3) (Nat.le_of_ble_eq_true rfl)
  rw [lg_entry_eq]
  generalize (lg_sl ([.ref (ad t)]) ++ List.replicate (3 - (lg_sl ([.ref (ad t)])).length) Slot.unset).toArray = ls at hl ⊢
  have hl : lv_has ls 3 [(0, .ref (ad t))] := hl
  have in10 : ∀ w ∈ wsX100, w ∈ wsX10_mend := by decide +kernel
  generalize hargs : ([.ref (ad t)] : List Value).toArray = args at *
  generalize hAe : gA ad N s.heap.size = A
  have F : gF sa D ad cy N A p s m args cod cX10_mend 3 wsX10_mend RX10 := ⟨hx, hb, hml, hown, hts, hK, hI, by rw [← hAe]; exact gA_ad, by rw [← hAe]; exact gA_sz, by rw [← hAe]; exact hZ⟩
  have G : gW D ad cy N A s.heap c0 c s.heap [] := ⟨hP, va_S.rf⟩
  generalize hQ : MQ below (va_Qi (fun (z : Int32) (_ : Unit) => z = rZ) (fun _ U => gE D ad cy N c0 cZ U) A) args s 0 0 A = Q
  suffices hgen : ∀ (H : Heap) (locs : List Loc), gW D ad cy N A s.heap c0 c H locs → W p l e rmX10_mend s m args below meth cod H locs 0 0 Q (F0 m 0 ls []) from hgen _ _ G
  clear G
  intro H locs G
  unfold m_X10_mend at h
  refine lv_aload_n hx hb dX10_mend_0 rfl (lv_at hl 0 rfl) ?_
  refine lv_iconst (v := 0) hx hb dX10_mend_1 (by decide) ?_
  obtain ⟨hk1, h⟩ := gc_s h
  have ht2 : t < N := Nat.lt_of_lt_of_le (gck_lt10 hk1) hN
  refine fp_10_thrown F G hk1 ht2 in10 (by decide +kernel) dX10_mend_2 (fun H locs G => ?_)
  obtain ⟨c3, ec3⟩ : ∃ z, z = gm_r c t (upd (c.1 t) 0 0) := ⟨_, rfl⟩
  rw [← ec3] at G
  replace h := gv_s h c3 ec3
  refine lv_aload_n hx hb dX10_mend_5 rfl (lv_at hl 0 rfl) ?_
  obtain ⟨c6, hc4, h⟩ := gb_s h
  refine gx_callv F G (va_runV (As := []) (rest := []) (gx_fix F) (c_X10_allRings l sa D ad cy N H.size hN hI c0 c3 hc4) (cwV 0 hts gX10_mend_X10_allRings rfl rfl rfl (by decide +kernel) ⟨by decide, by decide⟩) (gx_rec F G ht2 (gwe_10 hk1) rfl) rfl rfl hl.1 rfl (lv_room (Nat.le_of_ble_eq_true rfl)) dX10_mend_6 ⟨Nat.zero_le _, Nat.zero_le _⟩) (fun H locs G => ?_)
  refine lv_iconst (v := 1) hx hb dX10_mend_9 (by decide) ?_
  refine lv_aload_n hx hb dX10_mend_10 rfl (lv_at hl 0 rfl) ?_
  refine fg_10_now F G hk1 ht2 in10 (by decide +kernel) dX10_mend_11 ?_
  have hk7 : gck 503 = 22 := rfl
  have ht8 : 503 < N := Nat.lt_of_lt_of_le (by decide) hN
  have hn9 : gal 503 = 60 := rfl
  refine lv_bipush (v := 56) hx hb dX10_mend_14 (by decide) ?_
  refine gx_mia F G hk7 ht8 hn9 (by decide) dX10_mend_16 ?_
  refine lv_ishl hx hb dX10_mend_17 ?_
  refine lv_iconst (v := 1) hx hb dX10_mend_18 (by decide) ?_
  refine lv_isub hx hb dX10_mend_19 ?_
  refine lv_topi (fun x11 ex11 => ?_)
  replace h := gv_s h x11 ex11
  refine lv_istore_n (lv' := [(1, .int x11), (0, .ref (ad t))]) hx hb dX10_mend_20 rfl hl (by decide) rfl (fun ls hl => ?_)
  refine lv_iload_n hx hb dX10_mend_21 rfl (lv_at hl 0 rfl) ?_
  refine lv_istore_n (lv' := [(2, .int x11), (1, .int x11), (0, .ref (ad t))]) hx hb dX10_mend_22 rfl hl (by decide) rfl (fun ls hl => ?_)
  obtain ⟨b12, hb12, hK12⟩ := gb_s h
  have E12 : ∀ (z15 : Int32) (H : Heap) (locs : List Loc) (ls : Array Slot), (z15 : Int32) = b12 → gW D ad cy N A s.heap c0 c6 H locs → lv_has ls 3 [(1, .int z15)] → W p l e rmX10_mend s m args below meth cod H locs 0 0 Q (F0 m 58 ls []) := by
    intro z15 H locs ls hq12 G hl
    subst hq12
    replace hK12 := hK12
    have h := hK12
    refine lv_iload_n hx hb dX10_mend_58 rfl (lv_at hl 0 rfl) ?_
    cases h
    rw [← hQ]
    exact gx_iret F G hr hlocks dX10_mend_59
  have L12 : ∀ (n9 : Nat) (y13 : Int32) (y14 : Int32) (H : Heap) (locs : List Loc) (ls : Array Slot), gloop (gu2 (fun (y13 : Int32) (y14 : Int32) => m_X10_mend_L23 n t c6 y13 y14)) n9 (y13, y14) = some b12 → gW D ad cy N A s.heap c0 c6 H locs → lv_has ls 3 [(0, .ref (ad t)), (1, .int y13), (2, .int y14)] → W p l e rmX10_mend s m args below meth cod H locs 0 0 Q (F0 m 23 ls []) := by
    intro n9
    induction n9 with
    | zero => intro y13 y14 H locs ls h; exact (gloop_0 h).elim
    | succ n9 ih =>
      intro y13 y14 H locs ls h G hl
      have ih12 := ih
      obtain ⟨o12, h, hn12⟩ := gloop_s h
      replace h := gu2_s h
      unfold m_X10_mend_L23 at h
      refine lv_iload_n hx hb dX10_mend_23 rfl (lv_at hl 2 rfl) ?_
      refine lv_if_lt (tgt := 58) hx hb dX10_mend_24 (by decide) (fun q16 => ?_) (fun q16 => ?_)
      · replace h := gt_s q16 h
        cases h
        exact E12 _ _ _ _ (gnx_r hn12) G (lv_sub hl [1] rfl)
      · replace h := gf_s q16 h
        refine lv_iload_n hx hb dX10_mend_27 rfl (lv_at hl 2 rfl) ?_
        obtain ⟨r18, hc17, h⟩ := gb_s h
        refine gx_calli F G (va_runS (As := [.int y14]) (rest := []) (gx_fix F) (c_X10_ones l sa D ad cy N H.size hN hI c0 c6 hc17) (va_cwS 1 hts gX10_mend_X10_ones rfl rfl rfl (by decide +kernel) ⟨by decide, by decide⟩) (gx_pre F G) rfl rfl hl.1 rfl (lv_room (Nat.le_of_ble_eq_true rfl)) dX10_mend_28 ⟨Nat.zero_le _, Nat.zero_le _⟩) (fun H locs G => ?_)
        refine lv_iload_n hx hb dX10_mend_31 rfl (lv_at hl 1 rfl) ?_
        obtain ⟨r20, hc19, h⟩ := gb_s h
        refine gx_calli F G (va_runS (As := [.int y13]) (rest := [.int r18]) (gx_fix F) (c_X10_ones l sa D ad cy N H.size hN hI c0 c6 hc19) (va_cwS 1 hts gX10_mend_X10_ones rfl rfl rfl (by decide +kernel) ⟨by decide, by decide⟩) (gx_pre F G) rfl rfl hl.1 rfl (lv_room (Nat.le_of_ble_eq_true rfl)) dX10_mend_32 ⟨Nat.zero_le _, Nat.zero_le _⟩) (fun H locs G => ?_)
        obtain ⟨K22, eK22, h⟩ := gj_s h
        have JK22 : ∀ (v21 : Int32) (H : Heap) (locs : List Loc) (ls : Array Slot), K22 v21 = some o12 → gW D ad cy N A s.heap c0 c6 H locs → lv_has ls 3 [(0, .ref (ad t)), (2, .int y14)] → W p l e rmX10_mend s m args below meth cod H locs 0 0 Q (F0 m 51 ls [.int v21]) := by
          intro v21 H locs ls h G hl
          rw [eK22] at h
          refine lv_istore_n (lv' := [(1, .int v21), (0, .ref (ad t)), (2, .int y14)]) hx hb dX10_mend_51 rfl hl (by decide) rfl (fun ls hl => ?_)
          obtain ⟨x23, ex23⟩ : ∃ z : Int32, z = y14 + (-1) := ⟨_, rfl⟩
          replace h := gv_s h x23 ex23
          refine lv_iinc (v := x23) (lv' := [(2, .int x23), (1, .int v21), (0, .ref (ad t))]) hx hb dX10_mend_52 hl (k := 2) rfl (by rw [ex23]; rfl) (by decide) rfl (fun ls hl => ?_)
          refine lv_goto (tgt := 23) hx hb dX10_mend_55 (by decide) ?_
          cases h
          exact ih12 _ _ _ _ _ hn12 G (lv_sub hl [2, 1, 0] rfl)
        obtain ⟨K24, eK24, h⟩ := gj_s h
        have JK24 : ∀ (H : Heap) (locs : List Loc) (ls : Array Slot), K24 () = some o12 → gW D ad cy N A s.heap c0 c6 H locs → lv_has ls 3 [(0, .ref (ad t)), (1, .int y13), (2, .int y14)] → W p l e rmX10_mend s m args below meth cod H locs 0 0 Q (F0 m 50 ls []) := by
          intro  H locs ls h G hl
          rw [eK24] at h
          refine lv_iload_n hx hb dX10_mend_50 rfl (lv_at hl 1 rfl) ?_
          exact JK22 _ _ _ _ h G (lv_sub hl [0, 2] rfl)
        refine lv_icmp_gt (tgt := 50) hx hb dX10_mend_35 (by decide) (fun q25 => ?_) (fun q25 => ?_)
        · replace h := gt_s q25 h
          exact JK24  _ _ _ h G hl
        · replace h := gf_s q25 h
          refine lv_aload_n hx hb dX10_mend_38 rfl (lv_at hl 0 rfl) ?_
          refine lv_iload_n hx hb dX10_mend_39 rfl (lv_at hl 2 rfl) ?_
          obtain ⟨r27, hc26, h⟩ := gb_s h
          refine gx_calli F G (va_runV (As := [.int y14]) (rest := []) (gx_fix F) (c_X10_isMended l sa D ad cy N H.size hN hI c0 c6 hc26) (cwV 1 hts gX10_mend_X10_isMended rfl rfl rfl (by decide +kernel) ⟨by decide, by decide⟩) (gx_rec F G ht2 (gwe_10 hk1) rfl) rfl rfl hl.1 rfl (lv_room (Nat.le_of_ble_eq_true rfl)) dX10_mend_40 ⟨Nat.zero_le _, Nat.zero_le _⟩) (fun H locs G => ?_)
          refine lv_if_eq (tgt := 50) hx hb dX10_mend_43 (by decide) (fun q28 => ?_) (fun q28 => ?_)
          · replace h := gt_s q28 h
            exact JK24  _ _ _ h G hl
          · replace h := gf_s q28 h
            refine lv_iload_n hx hb dX10_mend_46 rfl (lv_at hl 2 rfl) ?_
            refine lv_goto (tgt := 51) hx hb dX10_mend_47 (by decide) ?_
            exact JK22 _ _ _ _ h G (lv_sub hl [0, 2] rfl)
  exact L12 n _ _ _ _ _ hb12 G (lv_sub hl [2, 1, 0] rfl)
