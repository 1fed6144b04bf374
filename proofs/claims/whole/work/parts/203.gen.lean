-- X3_readUnit X3_productMark X3_readProduct X3_sumMark X3_readSum X3_readFrom X4_addUp X4_sumOf X4_seekAmounts X4_amounts X4_gap X4_makes X4_fewestFor X4_layLevel X4_givenBy X4_shareBound X5_forget
def m_X3_readUnit (rs : (Nat → Nat → Nat → Int32 → gm → Option (Int32 × gm))) (n : Nat) (t : Nat) (a1 : Nat) (a2 : Int32) (c : gm) : Option (Int32 × gm) :=
  gc (gck a1 = 7) (gb2 (m_X7_peek n a1 c) (fun (r4 : Int32) (c5 : gm) => (if r4 = 40 then gc (gck t = 3) (gb2 (m_X3_readBraced rs n t a1 a2 c5) (fun (r56 : Int32) (c57 : gm) => gc (r56 = 0 ∨ r56 = 1) (some (r56, c57)))) else gj (fun (_ : Unit) => gb2 (m_X7_takeWord n a1 c5) (fun (r9 : Int32) (c10 : gm) => (if r9 = 0 then some (0, c10) else gb (m_X7_wordIs n a1 7 c10) (fun (r13 : Int32) => (if r13 = 0 then gb (m_X7_wordIs n a1 8 c10) (fun (r16 : Int32) => (if r16 = 0 then gb (m_X3_nameOf n a1 c10) (fun (r19 : Int32) => (if 0 ≤ r19 then gc (gck t = 3) (gb (m_X3_add t 1 r19 c10) (fun (c25 : gm) => some (1, c25))) else gb2 (m_X7_fail a1 1 (c10.1 a1 4) c10) (fun (r27 : Int32) (c28 : gm) => gc (r27 = 0 ∨ r27 = 1) (some (r27, c28))))) else gc (gck t = 3) (gb2 (m_X3_readPair rs n t a1 a2 8 c10) (fun (r33 : Int32) (c34 : gm) => gc (r33 = 0 ∨ r33 = 1) (some (r33, c34)))))) else gc (gck t = 3) (gb2 (m_X3_readPair rs n t a1 a2 7 c10) (fun (r39 : Int32) (c40 : gm) => gc (r39 = 0 ∨ r39 = 1) (some (r39, c40))))))))) (fun K7 => (if r4 < 48 then K7 () else (if 57 < r4 then K7 () else gb2 (m_X7_takeNumber n a1 0 999 c5) (fun (r45 : Int32) (c46 : gm) => (if r45 = 0 then some (0, c46) else gc (gck t = 3) (gb (m_X3_add t 0 (c46.1 a1 5) c46) (fun (c52 : gm) => some (1, c52)))))))))))
abbrev rmX3_readUnit (dd : Nat) : Room := { frames := 4 * dd + 9, cells := 0, slots := 0, locals := 96 * dd + 196 }
set_option maxHeartbeats 4000000 in
set_option maxRecDepth 100000 in
theorem c_X3_readUnit (l : Launch) (sa : gSa) (D : va_G) (ad : Nat → Nat) (cy : Nat → ClassId) (N sz : Nat) (hN : 55 ≤ N) (hI : gI ad N) (c d0 : gm) (rs : (Nat → Nat → Nat → Int32 → gm → Option (Int32 × gm))) (dd : Nat) (hrs : ∀ (sz : Nat) (c d0 : gm) {n : Nat} {t : Nat} {a1 : Nat} {a2 : Int32} {rZ : Int32} {cZ : gm}, rs n t a1 a2 c = some (rZ, cZ) → Met l yX3_readSum wsX3_readSum (rmX3_readSum dd) (va_Pc [.ref (ad t), .ref (ad a1), .int a2] (gP sa D ad cy N sz c d0)) (va_Qi (fun (z : Int32) (_ : Unit) => z = rZ) (fun _ U => gE D ad cy N cZ d0 U) (gA ad N sz)) 0 0 (gA ad N sz)) {n : Nat} {t : Nat} {a1 : Nat} {a2 : Int32} {rZ : Int32} {cZ : gm} (h : m_X3_readUnit rs n t a1 a2 c = some (rZ, cZ)) : Met l yX3_readUnit wsX3_readUnit (rmX3_readUnit dd) (va_Pc [.ref (ad t), .ref (ad a1), .int a2] (gP sa D ad cy N sz c d0)) (va_Qi (fun (z : Int32) (_ : Unit) => z = rZ) (fun _ U => gE D ad cy N cZ d0 U) (gA ad N sz)) 0 0 (gA ad N sz) := by
  refine Met.ofW (cc := cX3_readUnit) (maxL := 5) (ret := (some .boolean)) (by decide) rfl ?_
  intro p e s m args below meth cod s₁ B hml hv
  obtain ⟨rfl, hsz, hP, hK, hZ⟩ := hv
  have hx := B.exec
  have hb := B.bytes
  have hr := B.returns
  have hts := atoms_spec (ws := wsX3_readUnit) B.pre
  have hown : s.vm.findClass RX3 = some m.cls := findClass_of_methodNamed B.named
  have hlocks := B.notSynchronized
  subst hsz
  have hl := lv_entry ([.ref (ad t), .ref (ad a1), .int a2]) (n := 5) (Nat.le_of_ble_eq_true rfl)
  rw [lg_entry_eq]
  generalize (lg_sl ([.ref (ad t), .ref (ad a1), .int a2]) ++ List.replicate (5 - (lg_sl ([.ref (ad t), .ref (ad a1), .int a2])).length) Slot.unset).toArray = ls at hl ⊢
  have hl : lv_has ls 5 [(0, .ref (ad t)), (1, .ref (ad a1)), (2, .int a2)] := hl
  have in7 : ∀ w ∈ wsX70, w ∈ wsX3_readUnit := by decide +kernel
  generalize hargs : ([.ref (ad t), .ref (ad a1), .int a2] : List Value).toArray = args at *
  generalize hAe : gA ad N s.heap.size = A
  have F : gF sa D ad cy N A p s m args cod cX3_readUnit 5 wsX3_readUnit RX3 := ⟨hx, hb, hml, hown, hts, hK, hI, by rw [← hAe]; exact gA_ad, by rw [← hAe]; exact gA_sz, by rw [← hAe]; exact hZ⟩
  have G : gW D ad cy N A s.heap c d0 s.heap [] := ⟨hP, va_S.rf⟩
  generalize hQ : MQ below (va_Qi (fun (z : Int32) (_ : Unit) => z = rZ) (fun _ U => gE D ad cy N cZ d0 U) A) args s 0 0 A = Q
  suffices hgen : ∀ (H : Heap) (locs : List Loc), gW D ad cy N A s.heap c d0 H locs → W p l e (rmX3_readUnit dd) s m args below meth cod H locs 0 0 Q (F0 m 0 ls []) from hgen _ _ G
  clear G
  intro H locs G
  unfold m_X3_readUnit at h
  refine lv_aload_n hx hb dX3_readUnit_0 rfl (lv_at hl 1 rfl) ?_
  obtain ⟨hk1, h⟩ := gc_s h
  have ht2 : a1 < N := Nat.lt_of_lt_of_le (gck_lt7 hk1) hN
  obtain ⟨r4, c5, hc3, h⟩ := gb2_s h
  refine gx_calli F G (va_runV (As := []) (rest := []) (gx_fix F) (c_X7_peek l sa D ad cy N H.size hN hI c d0 hc3) (cwV 0 hts gX3_readUnit_X7_peek rfl rfl rfl (by decide +kernel) ⟨by simp only [rmX3_readUnit, rmX7_peek]; omega, by simp only [rmX3_readUnit, rmX7_peek]; omega⟩) (gx_rec F G ht2 (gwe_7 hk1) rfl) rfl rfl hl.1 rfl (lv_room (Nat.le_of_ble_eq_true rfl)) dX3_readUnit_1 ⟨Nat.zero_le _, Nat.zero_le _⟩) (fun H locs G => ?_)
  refine lv_istore_n (lv' := [(3, .int r4), (0, .ref (ad t)), (1, .ref (ad a1)), (2, .int a2)]) hx hb dX3_readUnit_4 rfl hl (by decide) rfl (fun ls hl => ?_)
  refine lv_iload_n hx hb dX3_readUnit_5 rfl (lv_at hl 0 rfl) ?_
  refine lv_bipush (v := 40) hx hb dX3_readUnit_6 (by decide) ?_
  refine lv_icmp_ne (tgt := 18) hx hb dX3_readUnit_8 (by decide) (fun q6 => ?_) (fun q6 => ?_)
  · replace h := gf_s q6 h
    refine lv_iload_n hx hb dX3_readUnit_18 rfl (lv_at hl 0 rfl) ?_
    refine lv_bipush (v := 48) hx hb dX3_readUnit_19 (by decide) ?_
    obtain ⟨K7, eK7, h⟩ := gj_s h
    have JK7 : ∀ (H : Heap) (locs : List Loc) (ls : Array Slot), K7 () = some (rZ, cZ) → gW D ad cy N A s.heap c5 d0 H locs → lv_has ls 5 [(0, .ref (ad t)), (1, .ref (ad a1)), (2, .int a2)] → W p l e (rmX3_readUnit dd) s m args below meth cod H locs 0 0 Q (F0 m 54 ls []) := by
      intro  H locs ls h G hl
      rw [eK7] at h
      refine lv_aload_n hx hb dX3_readUnit_54 rfl (lv_at hl 1 rfl) ?_
      obtain ⟨r9, c10, hc8, h⟩ := gb2_s h
      refine gx_calli F G (va_runV (As := []) (rest := []) (gx_fix F) (c_X7_takeWord l sa D ad cy N H.size hN hI c5 d0 hc8) (cwV 0 hts gX3_readUnit_X7_takeWord rfl rfl rfl (by decide +kernel) ⟨by simp only [rmX3_readUnit, rmX7_takeWord]; omega, by simp only [rmX3_readUnit, rmX7_takeWord]; omega⟩) (gx_rec F G ht2 (gwe_7 hk1) rfl) rfl rfl hl.1 rfl (lv_room (Nat.le_of_ble_eq_true rfl)) dX3_readUnit_55 ⟨Nat.zero_le _, Nat.zero_le _⟩) (fun H locs G => ?_)
      refine lv_if_ne (tgt := 63) hx hb dX3_readUnit_58 (by decide) (fun q11 => ?_) (fun q11 => ?_)
      · replace h := gf_s q11 h
        refine lv_aload_n hx hb dX3_readUnit_63 rfl (lv_at hl 1 rfl) ?_
        refine gx_ldcS F (w := 7) (tx := "least") (by decide) dX3_readUnit_64 ?_
        obtain ⟨r13, hc12, h⟩ := gb_s h
        refine gx_calli F G (va_runV (As := [.ref (sa.1 7)]) (rest := []) (gx_fix F) (c_X7_wordIs l sa D ad cy N H.size hN hI c10 d0 hc12) (cwV 1 hts gX3_readUnit_X7_wordIs rfl rfl rfl (by decide +kernel) ⟨by simp only [rmX3_readUnit, rmX7_wordIs]; omega, by simp only [rmX3_readUnit, rmX7_wordIs]; omega⟩) (gx_rec F G ht2 (gwe_7 hk1) rfl) rfl rfl hl.1 rfl (lv_room (Nat.le_of_ble_eq_true rfl)) dX3_readUnit_66 ⟨Nat.zero_le _, Nat.zero_le _⟩) (fun H locs G => ?_)
        refine lv_if_eq (tgt := 81) hx hb dX3_readUnit_69 (by decide) (fun q14 => ?_) (fun q14 => ?_)
        · replace h := gt_s q14 h
          refine lv_aload_n hx hb dX3_readUnit_81 rfl (lv_at hl 1 rfl) ?_
          refine gx_ldcS F (w := 8) (tx := "most") (by decide) dX3_readUnit_82 ?_
          obtain ⟨r16, hc15, h⟩ := gb_s h
          refine gx_calli F G (va_runV (As := [.ref (sa.1 8)]) (rest := []) (gx_fix F) (c_X7_wordIs l sa D ad cy N H.size hN hI c10 d0 hc15) (cwV 1 hts gX3_readUnit_X7_wordIs rfl rfl rfl (by decide +kernel) ⟨by simp only [rmX3_readUnit, rmX7_wordIs]; omega, by simp only [rmX3_readUnit, rmX7_wordIs]; omega⟩) (gx_rec F G ht2 (gwe_7 hk1) rfl) rfl rfl hl.1 rfl (lv_room (Nat.le_of_ble_eq_true rfl)) dX3_readUnit_84 ⟨Nat.zero_le _, Nat.zero_le _⟩) (fun H locs G => ?_)
          refine lv_if_eq (tgt := 99) hx hb dX3_readUnit_87 (by decide) (fun q17 => ?_) (fun q17 => ?_)
          · replace h := gt_s q17 h
            refine lv_aload_n hx hb dX3_readUnit_99 rfl (lv_at hl 1 rfl) ?_
            obtain ⟨r19, hc18, h⟩ := gb_s h
            refine gx_calli F G (va_runS (As := [.ref (ad a1)]) (rest := []) (gx_fix F) (c_X3_nameOf l sa D ad cy N H.size hN hI c10 d0 hc18) (va_cwS 1 hts gX3_readUnit_X3_nameOf rfl rfl rfl (by decide +kernel) ⟨by simp only [rmX3_readUnit, rmX3_nameOf]; omega, by simp only [rmX3_readUnit, rmX3_nameOf]; omega⟩) (gx_pre F G) rfl rfl hl.1 rfl (lv_room (Nat.le_of_ble_eq_true rfl)) dX3_readUnit_100 ⟨Nat.zero_le _, Nat.zero_le _⟩) (fun H locs G => ?_)
            refine lv_istore (lv' := [(4, .int r19), (0, .ref (ad t)), (1, .ref (ad a1)), (2, .int a2)]) hx hb dX3_readUnit_103 hl (by decide) rfl (fun ls hl => ?_)
            refine lv_iload hx hb dX3_readUnit_105 (lv_at hl 0 rfl) ?_
            refine lv_if_ge (tgt := 120) hx hb dX3_readUnit_107 (by decide) (fun q20 => ?_) (fun q20 => ?_)
            · replace h := gt_s q20 h
              refine lv_aload_n hx hb dX3_readUnit_120 rfl (lv_at hl 1 rfl) ?_
              refine lv_iconst (v := 1) hx hb dX3_readUnit_121 (by decide) ?_
              refine lv_iload hx hb dX3_readUnit_122 (lv_at hl 0 rfl) ?_
              obtain ⟨hk21, h⟩ := gc_s h
              have ht22 : t < N := Nat.lt_of_lt_of_le (gck_lt3 hk21) hN
              obtain ⟨c25, hc23, h⟩ := gb_s h
              refine gx_callv F G (va_runV (As := [.int 1, .int r19]) (rest := []) (gx_fix F) (c_X3_add l sa D ad cy N H.size hN hI c10 d0 hc23) (cwV 2 hts gX3_readUnit_X3_add rfl rfl rfl (by decide +kernel) ⟨by simp only [rmX3_readUnit, rmX3_add]; omega, by simp only [rmX3_readUnit, rmX3_add]; omega⟩) (gx_rec F G ht22 (gwe_3 hk21) rfl) rfl rfl hl.1 rfl (lv_room (Nat.le_of_ble_eq_true rfl)) dX3_readUnit_124 ⟨Nat.zero_le _, Nat.zero_le _⟩) (fun H locs G => ?_)
              refine lv_iconst (v := 1) hx hb dX3_readUnit_127 (by decide) ?_
              cases h
              rw [← hQ]
              exact gx_zret F G hr hlocks rfl dX3_readUnit_128
            · replace h := gf_s q20 h
              refine lv_aload_n hx hb dX3_readUnit_110 rfl (lv_at hl 2 rfl) ?_
              refine lv_iconst (v := 1) hx hb dX3_readUnit_111 (by decide) ?_
              refine lv_aload_n hx hb dX3_readUnit_112 rfl (lv_at hl 2 rfl) ?_
              refine fg_7_mark F G hk1 ht2 in7 (by decide +kernel) dX3_readUnit_113 ?_
              obtain ⟨r27, c28, hc26, h⟩ := gb2_s h
              refine gx_calli F G (va_runV (As := [.int 1, .int (c10.1 a1 4)]) (rest := []) (gx_fix F) (c_X7_fail l sa D ad cy N H.size hN hI c10 d0 hc26) (cwV 2 hts gX3_readUnit_X7_fail rfl rfl rfl (by decide +kernel) ⟨by simp only [rmX3_readUnit, rmX7_fail]; omega, by simp only [rmX3_readUnit, rmX7_fail]; omega⟩) (gx_rec F G ht2 (gwe_7 hk1) rfl) rfl rfl hl.1 rfl (lv_room (Nat.le_of_ble_eq_true rfl)) dX3_readUnit_116 ⟨Nat.zero_le _, Nat.zero_le _⟩) (fun H locs G => ?_)
              obtain ⟨hz29, h⟩ := gc_s h
              cases h
              rw [← hQ]
              exact gx_zret F G hr hlocks (gnb hz29) dX3_readUnit_119
          · replace h := gf_s q17 h
            refine lv_aload_n hx hb dX3_readUnit_90 rfl (lv_at hl 0 rfl) ?_
            refine lv_aload_n hx hb dX3_readUnit_91 rfl (lv_at hl 1 rfl) ?_
            refine lv_iload_n hx hb dX3_readUnit_92 rfl (lv_at hl 2 rfl) ?_
            refine lv_bipush (v := 8) hx hb dX3_readUnit_93 (by decide) ?_
            obtain ⟨hk30, h⟩ := gc_s h
            have ht31 : t < N := Nat.lt_of_lt_of_le (gck_lt3 hk30) hN
            obtain ⟨r33, c34, hc32, h⟩ := gb2_s h
            refine gx_calli F G (va_runV (As := [.ref (ad a1), .int a2, .int 8]) (rest := []) (gx_fix F) (c_X3_readPair l sa D ad cy N H.size hN hI c10 d0 rs dd hrs hc32) (cwV 3 hts gX3_readUnit_X3_readPair rfl rfl rfl (by decide +kernel) ⟨by simp only [rmX3_readUnit, rmX3_readPair]; omega, by simp only [rmX3_readUnit, rmX3_readPair]; omega⟩) (gx_rec F G ht31 (gwe_3 hk30) rfl) rfl rfl hl.1 rfl (lv_room (Nat.le_of_ble_eq_true rfl)) dX3_readUnit_95 ⟨Nat.zero_le _, Nat.zero_le _⟩) (fun H locs G => ?_)
            obtain ⟨hz35, h⟩ := gc_s h
            cases h
            rw [← hQ]
            exact gx_zret F G hr hlocks (gnb hz35) dX3_readUnit_98
        · replace h := gf_s q14 h
          refine lv_aload_n hx hb dX3_readUnit_72 rfl (lv_at hl 0 rfl) ?_
          refine lv_aload_n hx hb dX3_readUnit_73 rfl (lv_at hl 1 rfl) ?_
          refine lv_iload_n hx hb dX3_readUnit_74 rfl (lv_at hl 2 rfl) ?_
          refine lv_bipush (v := 7) hx hb dX3_readUnit_75 (by decide) ?_
          obtain ⟨hk36, h⟩ := gc_s h
          have ht37 : t < N := Nat.lt_of_lt_of_le (gck_lt3 hk36) hN
          obtain ⟨r39, c40, hc38, h⟩ := gb2_s h
          refine gx_calli F G (va_runV (As := [.ref (ad a1), .int a2, .int 7]) (rest := []) (gx_fix F) (c_X3_readPair l sa D ad cy N H.size hN hI c10 d0 rs dd hrs hc38) (cwV 3 hts gX3_readUnit_X3_readPair rfl rfl rfl (by decide +kernel) ⟨by simp only [rmX3_readUnit, rmX3_readPair]; omega, by simp only [rmX3_readUnit, rmX3_readPair]; omega⟩) (gx_rec F G ht37 (gwe_3 hk36) rfl) rfl rfl hl.1 rfl (lv_room (Nat.le_of_ble_eq_true rfl)) dX3_readUnit_77 ⟨Nat.zero_le _, Nat.zero_le _⟩) (fun H locs G => ?_)
          obtain ⟨hz41, h⟩ := gc_s h
          cases h
          rw [← hQ]
          exact gx_zret F G hr hlocks (gnb hz41) dX3_readUnit_80
      · replace h := gt_s q11 h
        refine lv_iconst (v := 0) hx hb dX3_readUnit_61 (by decide) ?_
        cases h
        rw [← hQ]
        exact gx_zret F G hr hlocks rfl dX3_readUnit_62
    refine lv_icmp_lt (tgt := 54) hx hb dX3_readUnit_21 (by decide) (fun q42 => ?_) (fun q42 => ?_)
    · replace h := gt_s q42 h
      exact JK7  _ _ _ h G (lv_sub hl [1, 2, 3] rfl)
    · replace h := gf_s q42 h
      refine lv_iload_n hx hb dX3_readUnit_24 rfl (lv_at hl 0 rfl) ?_
      refine lv_bipush (v := 57) hx hb dX3_readUnit_25 (by decide) ?_
      refine lv_icmp_gt (tgt := 54) hx hb dX3_readUnit_27 (by decide) (fun q43 => ?_) (fun q43 => ?_)
      · replace h := gt_s q43 h
        exact JK7  _ _ _ h G (lv_sub hl [1, 2, 3] rfl)
      · replace h := gf_s q43 h
        refine lv_aload_n hx hb dX3_readUnit_30 rfl (lv_at hl 2 rfl) ?_
        refine lv_iconst (v := 0) hx hb dX3_readUnit_31 (by decide) ?_
        refine lv_sipush (v := 999) hx hb dX3_readUnit_32 (by decide) ?_
        obtain ⟨r45, c46, hc44, h⟩ := gb2_s h
        refine gx_calli F G (va_runV (As := [.int 0, .int 999]) (rest := []) (gx_fix F) (c_X7_takeNumber l sa D ad cy N H.size hN hI c5 d0 hc44) (cwV 2 hts gX3_readUnit_X7_takeNumber rfl rfl rfl (by decide +kernel) ⟨by simp only [rmX3_readUnit, rmX7_takeNumber]; omega, by simp only [rmX3_readUnit, rmX7_takeNumber]; omega⟩) (gx_rec F G ht2 (gwe_7 hk1) rfl) rfl rfl hl.1 rfl (lv_room (Nat.le_of_ble_eq_true rfl)) dX3_readUnit_35 ⟨Nat.zero_le _, Nat.zero_le _⟩) (fun H locs G => ?_)
        refine lv_if_ne (tgt := 43) hx hb dX3_readUnit_38 (by decide) (fun q47 => ?_) (fun q47 => ?_)
        · replace h := gf_s q47 h
          refine lv_aload_n hx hb dX3_readUnit_43 rfl (lv_at hl 1 rfl) ?_
          refine lv_iconst (v := 0) hx hb dX3_readUnit_44 (by decide) ?_
          refine lv_aload_n hx hb dX3_readUnit_45 rfl (lv_at hl 2 rfl) ?_
          refine fg_7_value F G hk1 ht2 in7 (by decide +kernel) dX3_readUnit_46 ?_
          obtain ⟨hk48, h⟩ := gc_s h
          have ht49 : t < N := Nat.lt_of_lt_of_le (gck_lt3 hk48) hN
          obtain ⟨c52, hc50, h⟩ := gb_s h
          refine gx_callv F G (va_runV (As := [.int 0, .int (c46.1 a1 5)]) (rest := []) (gx_fix F) (c_X3_add l sa D ad cy N H.size hN hI c46 d0 hc50) (cwV 2 hts gX3_readUnit_X3_add rfl rfl rfl (by decide +kernel) ⟨by simp only [rmX3_readUnit, rmX3_add]; omega, by simp only [rmX3_readUnit, rmX3_add]; omega⟩) (gx_rec F G ht49 (gwe_3 hk48) rfl) rfl rfl hl.1 rfl (lv_room (Nat.le_of_ble_eq_true rfl)) dX3_readUnit_49 ⟨Nat.zero_le _, Nat.zero_le _⟩) (fun H locs G => ?_)
          refine lv_iconst (v := 1) hx hb dX3_readUnit_52 (by decide) ?_
          cases h
          rw [← hQ]
          exact gx_zret F G hr hlocks rfl dX3_readUnit_53
        · replace h := gt_s q47 h
          refine lv_iconst (v := 0) hx hb dX3_readUnit_41 (by decide) ?_
          cases h
          rw [← hQ]
          exact gx_zret F G hr hlocks rfl dX3_readUnit_42
  · replace h := gt_s q6 h
    refine lv_aload_n hx hb dX3_readUnit_11 rfl (lv_at hl 1 rfl) ?_
    refine lv_aload_n hx hb dX3_readUnit_12 rfl (lv_at hl 2 rfl) ?_
    refine lv_iload_n hx hb dX3_readUnit_13 rfl (lv_at hl 3 rfl) ?_
    obtain ⟨hk53, h⟩ := gc_s h
    have ht54 : t < N := Nat.lt_of_lt_of_le (gck_lt3 hk53) hN
    obtain ⟨r56, c57, hc55, h⟩ := gb2_s h
    refine gx_calli F G (va_runV (As := [.ref (ad a1), .int a2]) (rest := []) (gx_fix F) (c_X3_readBraced l sa D ad cy N H.size hN hI c5 d0 rs dd hrs hc55) (cwV 2 hts gX3_readUnit_X3_readBraced rfl rfl rfl (by decide +kernel) ⟨by simp only [rmX3_readUnit, rmX3_readBraced]; omega, by simp only [rmX3_readUnit, rmX3_readBraced]; omega⟩) (gx_rec F G ht54 (gwe_3 hk53) rfl) rfl rfl hl.1 rfl (lv_room (Nat.le_of_ble_eq_true rfl)) dX3_readUnit_14 ⟨Nat.zero_le _, Nat.zero_le _⟩) (fun H locs G => ?_)
    obtain ⟨hz58, h⟩ := gc_s h
    cases h
    rw [← hQ]
    exact gx_zret F G hr hlocks (gnb hz58) dX3_readUnit_17
def m_X3_productMark (a1 : Int32) : Option (Int32) :=
  (if a1 = 42 then some 4 else (if a1 = 47 then some 5 else (if a1 = 37 then some 6 else some (-1))))
abbrev rmX3_productMark : Room := { frames := 0, cells := 0, slots := 0, locals := 0 }
set_option maxHeartbeats 4000000 in
set_option maxRecDepth 100000 in
theorem c_X3_productMark (l : Launch) (sa : gSa) (D : va_G) (ad : Nat → Nat) (cy : Nat → ClassId) (N sz : Nat) (hN : 55 ≤ N) (hI : gI ad N) (c d0 : gm) {a1 : Int32} {rZ : Int32} (h : m_X3_productMark a1 = some rZ) : Met l yX3_productMark wsX3_productMark rmX3_productMark (va_Pc [.int a1] (gP sa D ad cy N sz c d0)) (va_Qi (fun (z : Int32) (_ : Unit) => z = rZ) (fun _ U => gE D ad cy N c d0 U) (gA ad N sz)) 0 0 (gA ad N sz) := by
  refine Met.ofW (cc := cX3_productMark) (maxL := 1) (ret := (some .int)) (by decide) rfl ?_
  intro p e s m args below meth cod s₁ B hml hv
  obtain ⟨rfl, hsz, hP, hK, hZ⟩ := hv
  have hx := B.exec
  have hb := B.bytes
  have hr := B.returns
  have hts := atoms_spec (ws := wsX3_productMark) B.pre
  have hown : s.vm.findClass RX3 = some m.cls := findClass_of_methodNamed B.named
  have hlocks := B.notSynchronized
  subst hsz
  have hl := lv_entry ([.int a1]) (n := 1) (Nat.le_of_ble_eq_true rfl)
  rw [lg_entry_eq]
  generalize (lg_sl ([.int a1]) ++ List.replicate (1 - (lg_sl ([.int a1])).length) Slot.unset).toArray = ls at hl ⊢
  have hl : lv_has ls 1 [(0, .int a1)] := hl
  generalize hargs : ([.int a1] : List Value).toArray = args at *
  generalize hAe : gA ad N s.heap.size = A
  have F : gF sa D ad cy N A p s m args cod cX3_productMark 1 wsX3_productMark RX3 := ⟨hx, hb, hml, hown, hts, hK, hI, by rw [← hAe]; exact gA_ad, by rw [← hAe]; exact gA_sz, by rw [← hAe]; exact hZ⟩
  have G : gW D ad cy N A s.heap c d0 s.heap [] := ⟨hP, va_S.rf⟩
  generalize hQ : MQ below (va_Qi (fun (z : Int32) (_ : Unit) => z = rZ) (fun _ U => gE D ad cy N c d0 U) A) args s 0 0 A = Q
  suffices hgen : ∀ (H : Heap) (locs : List Loc), gW D ad cy N A s.heap c d0 H locs → W p l e rmX3_productMark s m args below meth cod H locs 0 0 Q (F0 m 0 ls []) from hgen _ _ G
  clear G
  intro H locs G
  unfold m_X3_productMark at h
  refine lv_iload_n hx hb dX3_productMark_0 rfl (lv_at hl 0 rfl) ?_
  refine lv_bipush (v := 42) hx hb dX3_productMark_1 (by decide) ?_
  refine lv_icmp_ne (tgt := 10) hx hb dX3_productMark_3 (by decide) (fun q1 => ?_) (fun q1 => ?_)
  · replace h := gf_s q1 h
    refine lv_iload_n hx hb dX3_productMark_10 rfl (lv_at hl 0 rfl) ?_
    refine lv_bipush (v := 47) hx hb dX3_productMark_11 (by decide) ?_
    refine lv_icmp_ne (tgt := 20) hx hb dX3_productMark_13 (by decide) (fun q2 => ?_) (fun q2 => ?_)
    · replace h := gf_s q2 h
      refine lv_iload_n hx hb dX3_productMark_20 rfl (lv_at hl 0 rfl) ?_
      refine lv_bipush (v := 37) hx hb dX3_productMark_21 (by decide) ?_
      refine lv_icmp_ne (tgt := 31) hx hb dX3_productMark_23 (by decide) (fun q3 => ?_) (fun q3 => ?_)
      · replace h := gf_s q3 h
        refine lv_iconst (v := (-1)) hx hb dX3_productMark_31 (by decide) ?_
        cases h
        rw [← hQ]
        exact gx_iret F G hr hlocks dX3_productMark_32
      · replace h := gt_s q3 h
        refine lv_bipush (v := 6) hx hb dX3_productMark_26 (by decide) ?_
        refine lv_goto (tgt := 32) hx hb dX3_productMark_28 (by decide) ?_
        cases h
        rw [← hQ]
        exact gx_iret F G hr hlocks dX3_productMark_32
    · replace h := gt_s q2 h
      refine lv_iconst (v := 5) hx hb dX3_productMark_16 (by decide) ?_
      refine lv_goto (tgt := 32) hx hb dX3_productMark_17 (by decide) ?_
      cases h
      rw [← hQ]
      exact gx_iret F G hr hlocks dX3_productMark_32
  · replace h := gt_s q1 h
    refine lv_iconst (v := 4) hx hb dX3_productMark_6 (by decide) ?_
    refine lv_goto (tgt := 32) hx hb dX3_productMark_7 (by decide) ?_
    cases h
    rw [← hQ]
    exact gx_iret F G hr hlocks dX3_productMark_32
def m_X3_readProduct_L13 (rs : (Nat → Nat → Nat → Int32 → gm → Option (Int32 × gm))) (n : Nat) (t : Nat) (a1 : Nat) (a2 : Int32) (y8 : Int32) (c9 : gm) : Option ((Int32 × gm) ⊕ ((Int32 × gm) ⊕ (gm))) :=
  (if 150 ≤ y8 then some (.inr (.inr c9)) else gc (gck a1 = 7) (gb2 (m_X7_peek n a1 c9) (fun (r15 : Int32) (c16 : gm) => gb (m_X3_productMark r15) (fun (r18 : Int32) => (if r18 < 0 then some (.inr (.inr c16)) else gb2 (m_X7_peek n a1 c16) (fun (r21 : Int32) (c22 : gm) => gb (m_X3_productMark r21) (fun (r24 : Int32) => gv (gm_r c22 a1 (upd (c22.1 a1) 3 ((c22.1 a1 3) + 1))) (fun (c25 : gm) => gb2 (m_X3_readUnit rs n t a1 a2 c25) (fun (r27 : Int32) (c28 : gm) => (if r27 = 0 then some (.inr (.inl (0, c28))) else gb (m_X3_add t r24 0 c28) (fun (c32 : gm) => gv (y8 + 1) (fun (x33 : Int32) => some (.inl (x33, c32))))))))))))))
def m_X3_readProduct (rs : (Nat → Nat → Nat → Int32 → gm → Option (Int32 × gm))) (n : Nat) (t : Nat) (a1 : Nat) (a2 : Int32) (c : gm) : Option (Int32 × gm) :=
  gc (gck t = 3) (gb2 (m_X3_readUnit rs n t a1 a2 c) (fun (r4 : Int32) (c5 : gm) => (if r4 = 0 then some (0, c5) else gb (gloop (gu2 (fun (y8 : Int32) (c9 : gm) => m_X3_readProduct_L13 rs n t a1 a2 y8 c9)) n (0, c5)) (gsm (fun (c10 : gm) => some (1, c10))))))
abbrev rmX3_readProduct (dd : Nat) : Room := { frames := 4 * dd + 10, cells := 0, slots := 0, locals := 96 * dd + 220 }
set_option maxHeartbeats 4000000 in
set_option maxRecDepth 100000 in
theorem c_X3_readProduct (l : Launch) (sa : gSa) (D : va_G) (ad : Nat → Nat) (cy : Nat → ClassId) (N sz : Nat) (hN : 55 ≤ N) (hI : gI ad N) (c d0 : gm) (rs : (Nat → Nat → Nat → Int32 → gm → Option (Int32 × gm))) (dd : Nat) (hrs : ∀ (sz : Nat) (c d0 : gm) {n : Nat} {t : Nat} {a1 : Nat} {a2 : Int32} {rZ : Int32} {cZ : gm}, rs n t a1 a2 c = some (rZ, cZ) → Met l yX3_readSum wsX3_readSum (rmX3_readSum dd) (va_Pc [.ref (ad t), .ref (ad a1), .int a2] (gP sa D ad cy N sz c d0)) (va_Qi (fun (z : Int32) (_ : Unit) => z = rZ) (fun _ U => gE D ad cy N cZ d0 U) (gA ad N sz)) 0 0 (gA ad N sz)) {n : Nat} {t : Nat} {a1 : Nat} {a2 : Int32} {rZ : Int32} {cZ : gm} (h : m_X3_readProduct rs n t a1 a2 c = some (rZ, cZ)) : Met l yX3_readProduct wsX3_readProduct (rmX3_readProduct dd) (va_Pc [.ref (ad t), .ref (ad a1), .int a2] (gP sa D ad cy N sz c d0)) (va_Qi (fun (z : Int32) (_ : Unit) => z = rZ) (fun _ U => gE D ad cy N cZ d0 U) (gA ad N sz)) 0 0 (gA ad N sz) := by
  refine Met.ofW (cc := cX3_readProduct) (maxL := 5) (ret := (some .boolean)) (by decide) rfl ?_
  intro p e s m args below meth cod s₁ B hml hv
  obtain ⟨rfl, hsz, hP, hK, hZ⟩ := hv
  have hx := B.exec
  have hb := B.bytes
  have hr := B.returns
  have hts := atoms_spec (ws := wsX3_readProduct) B.pre
  have hown : s.vm.findClass RX3 = some m.cls := findClass_of_methodNamed B.named
  have hlocks := B.notSynchronized
  subst hsz
  have hl := lv_entry ([.ref (ad t), .ref (ad a1), .int a2]) (n := 5) (Nat.le_of_ble_eq_true rfl)
  rw [lg_entry_eq]
  generalize (lg_sl ([.ref (ad t), .ref (ad a1), .int a2]) ++ List.replicate (5 - (lg_sl ([.ref (ad t), .ref (ad a1), .int a2])).length) Slot.unset).toArray = ls at hl ⊢
  have hl : lv_has ls 5 [(0, .ref (ad t)), (1, .ref (ad a1)), (2, .int a2)] := hl
  have in7 : ∀ w ∈ wsX70, w ∈ wsX3_readProduct := by decide +kernel
  generalize hargs : ([.ref (ad t), .ref (ad a1), .int a2] : List Value).toArray = args at *
  generalize hAe : gA ad N s.heap.size = A
  have F : gF sa D ad cy N A p s m args cod cX3_readProduct 5 wsX3_readProduct RX3 := ⟨hx, hb, hml, hown, hts, hK, hI, by rw [← hAe]; exact gA_ad, by rw [← hAe]; exact gA_sz, by rw [← hAe]; exact hZ⟩
  have G : gW D ad cy N A s.heap c d0 s.heap [] := ⟨hP, va_S.rf⟩
  generalize hQ : MQ below (va_Qi (fun (z : Int32) (_ : Unit) => z = rZ) (fun _ U => gE D ad cy N cZ d0 U) A) args s 0 0 A = Q
  suffices hgen : ∀ (H : Heap) (locs : List Loc), gW D ad cy N A s.heap c d0 H locs → W p l e (rmX3_readProduct dd) s m args below meth cod H locs 0 0 Q (F0 m 0 ls []) from hgen _ _ G
  clear G
  intro H locs G
  unfold m_X3_readProduct at h
  refine lv_aload_n hx hb dX3_readProduct_0 rfl (lv_at hl 0 rfl) ?_
  refine lv_aload_n hx hb dX3_readProduct_1 rfl (lv_at hl 1 rfl) ?_
  refine lv_iload_n hx hb dX3_readProduct_2 rfl (lv_at hl 2 rfl) ?_
  obtain ⟨hk1, h⟩ := gc_s h
  have ht2 : t < N := Nat.lt_of_lt_of_le (gck_lt3 hk1) hN
  obtain ⟨r4, c5, hc3, h⟩ := gb2_s h
  refine gx_calli F G (va_runV (As := [.ref (ad a1), .int a2]) (rest := []) (gx_fix F) (c_X3_readUnit l sa D ad cy N H.size hN hI c d0 rs dd hrs hc3) (cwV 2 hts gX3_readProduct_X3_readUnit rfl rfl rfl (by decide +kernel) ⟨by simp only [rmX3_readProduct, rmX3_readUnit]; omega, by simp only [rmX3_readProduct, rmX3_readUnit]; omega⟩) (gx_rec F G ht2 (gwe_3 hk1) rfl) rfl rfl hl.1 rfl (lv_room (Nat.le_of_ble_eq_true rfl)) dX3_readProduct_3 ⟨Nat.zero_le _, Nat.zero_le _⟩) (fun H locs G => ?_)
  refine lv_if_ne (tgt := 11) hx hb dX3_readProduct_6 (by decide) (fun q6 => ?_) (fun q6 => ?_)
  · replace h := gf_s q6 h
    refine lv_iconst (v := 0) hx hb dX3_readProduct_11 (by decide) ?_
    refine lv_istore_n (lv' := [(3, .int 0), (0, .ref (ad t)), (1, .ref (ad a1)), (2, .int a2)]) hx hb dX3_readProduct_12 rfl hl (by decide) rfl (fun ls hl => ?_)
    obtain ⟨b7, hb7, hK7⟩ := gb_s h
    have E7 : ∀ (c10 : gm) (H : Heap) (locs : List Loc) (ls : Array Slot), (Sum.inr c10 : (Int32 × gm) ⊕ (gm)) = b7 → gW D ad cy N A s.heap c10 d0 H locs → lv_has ls 5 [] → W p l e (rmX3_readProduct dd) s m args below meth cod H locs 0 0 Q (F0 m 73 ls []) := by
      intro c10 H locs ls hq7 G hl
      subst hq7
      replace hK7 := gsm_r hK7
      have h := hK7
      refine lv_iconst (v := 1) hx hb dX3_readProduct_73 (by decide) ?_
      cases h
      rw [← hQ]
      exact gx_zret F G hr hlocks rfl dX3_readProduct_74
    have L7 : ∀ (n9 : Nat) (y8 : Int32) (c9 : gm) (H : Heap) (locs : List Loc) (ls : Array Slot), gloop (gu2 (fun (y8 : Int32) (c9 : gm) => m_X3_readProduct_L13 rs n t a1 a2 y8 c9)) n9 (y8, c9) = some b7 → gW D ad cy N A s.heap c9 d0 H locs → lv_has ls 5 [(0, .ref (ad t)), (1, .ref (ad a1)), (2, .int a2), (3, .int y8)] → W p l e (rmX3_readProduct dd) s m args below meth cod H locs 0 0 Q (F0 m 13 ls []) := by
      intro n9
      induction n9 with
      | zero => intro y8 c9 H locs ls h; exact (gloop_0 h).elim
      | succ n9 ih =>
        intro y8 c9 H locs ls h G hl
        have ih7 := ih
        obtain ⟨o7, h, hn7⟩ := gloop_s h
        replace h := gu2_s h
        unfold m_X3_readProduct_L13 at h
        refine lv_iload_n hx hb dX3_readProduct_13 rfl (lv_at hl 3 rfl) ?_
        refine lv_sipush (v := 150) hx hb dX3_readProduct_14 (by decide) ?_
        refine lv_icmp_ge (tgt := 73) hx hb dX3_readProduct_17 (by decide) (fun q11 => ?_) (fun q11 => ?_)
        · replace h := gt_s q11 h
          cases h
          exact E7 _ _ _ _ (gnx_r hn7) G (lv_sub hl [] rfl)
        · replace h := gf_s q11 h
          refine lv_aload_n hx hb dX3_readProduct_20 rfl (lv_at hl 1 rfl) ?_
          obtain ⟨hk12, h⟩ := gc_s h
          have ht13 : a1 < N := Nat.lt_of_lt_of_le (gck_lt7 hk12) hN
          obtain ⟨r15, c16, hc14, h⟩ := gb2_s h
          refine gx_calli F G (va_runV (As := []) (rest := []) (gx_fix F) (c_X7_peek l sa D ad cy N H.size hN hI c9 d0 hc14) (cwV 0 hts gX3_readProduct_X7_peek rfl rfl rfl (by decide +kernel) ⟨by simp only [rmX3_readProduct, rmX7_peek]; omega, by simp only [rmX3_readProduct, rmX7_peek]; omega⟩) (gx_rec F G ht13 (gwe_7 hk12) rfl) rfl rfl hl.1 rfl (lv_room (Nat.le_of_ble_eq_true rfl)) dX3_readProduct_21 ⟨Nat.zero_le _, Nat.zero_le _⟩) (fun H locs G => ?_)
          obtain ⟨r18, hc17, h⟩ := gb_s h
          refine gx_calli F G (va_runS (As := [.int r15]) (rest := []) (gx_fix F) (c_X3_productMark l sa D ad cy N H.size hN hI c16 d0 hc17) (va_cwS 1 hts gX3_readProduct_X3_productMark rfl rfl rfl (by decide +kernel) ⟨by simp only [rmX3_readProduct, rmX3_productMark]; omega, by simp only [rmX3_readProduct, rmX3_productMark]; omega⟩) (gx_pre F G) rfl rfl hl.1 rfl (lv_room (Nat.le_of_ble_eq_true rfl)) dX3_readProduct_24 ⟨Nat.zero_le _, Nat.zero_le _⟩) (fun H locs G => ?_)
          refine lv_if_lt (tgt := 73) hx hb dX3_readProduct_27 (by decide) (fun q19 => ?_) (fun q19 => ?_)
          · replace h := gt_s q19 h
            cases h
            exact E7 _ _ _ _ (gnx_r hn7) G (lv_sub hl [] rfl)
          · replace h := gf_s q19 h
            refine lv_aload_n hx hb dX3_readProduct_30 rfl (lv_at hl 1 rfl) ?_
            obtain ⟨r21, c22, hc20, h⟩ := gb2_s h
            refine gx_calli F G (va_runV (As := []) (rest := []) (gx_fix F) (c_X7_peek l sa D ad cy N H.size hN hI c16 d0 hc20) (cwV 0 hts gX3_readProduct_X7_peek rfl rfl rfl (by decide +kernel) ⟨by simp only [rmX3_readProduct, rmX7_peek]; omega, by simp only [rmX3_readProduct, rmX7_peek]; omega⟩) (gx_rec F G ht13 (gwe_7 hk12) rfl) rfl rfl hl.1 rfl (lv_room (Nat.le_of_ble_eq_true rfl)) dX3_readProduct_31 ⟨Nat.zero_le _, Nat.zero_le _⟩) (fun H locs G => ?_)
            obtain ⟨r24, hc23, h⟩ := gb_s h
            refine gx_calli F G (va_runS (As := [.int r21]) (rest := []) (gx_fix F) (c_X3_productMark l sa D ad cy N H.size hN hI c22 d0 hc23) (va_cwS 1 hts gX3_readProduct_X3_productMark rfl rfl rfl (by decide +kernel) ⟨by simp only [rmX3_readProduct, rmX3_productMark]; omega, by simp only [rmX3_readProduct, rmX3_productMark]; omega⟩) (gx_pre F G) rfl rfl hl.1 rfl (lv_room (Nat.le_of_ble_eq_true rfl)) dX3_readProduct_34 ⟨Nat.zero_le _, Nat.zero_le _⟩) (fun H locs G => ?_)
            refine lv_istore (lv' := [(4, .int r24), (0, .ref (ad t)), (1, .ref (ad a1)), (2, .int a2), (3, .int y8)]) hx hb dX3_readProduct_37 hl (by decide) rfl (fun ls hl => ?_)
            refine lv_aload_n hx hb dX3_readProduct_39 rfl (lv_at hl 2 rfl) ?_
            refine lv_dup hx hb dX3_readProduct_40 rfl ?_
            refine fg_7_at F G hk12 ht13 in7 (by decide +kernel) dX3_readProduct_41 ?_
            refine lv_iconst (v := 1) hx hb dX3_readProduct_44 (by decide) ?_
            refine lv_iadd hx hb dX3_readProduct_45 ?_
            refine fp_7_at F G hk12 ht13 in7 (by decide +kernel) dX3_readProduct_46 (fun H locs G => ?_)
            obtain ⟨c25, ec25⟩ : ∃ z, z = gm_r c22 a1 (upd (c22.1 a1) 3 ((c22.1 a1 3) + 1)) := ⟨_, rfl⟩
            rw [← ec25] at G
            replace h := gv_s h c25 ec25
            refine lv_aload_n hx hb dX3_readProduct_49 rfl (lv_at hl 1 rfl) ?_
            refine lv_aload_n hx hb dX3_readProduct_50 rfl (lv_at hl 2 rfl) ?_
            refine lv_iload_n hx hb dX3_readProduct_51 rfl (lv_at hl 3 rfl) ?_
            obtain ⟨r27, c28, hc26, h⟩ := gb2_s h
            refine gx_calli F G (va_runV (As := [.ref (ad a1), .int a2]) (rest := []) (gx_fix F) (c_X3_readUnit l sa D ad cy N H.size hN hI c25 d0 rs dd hrs hc26) (cwV 2 hts gX3_readProduct_X3_readUnit rfl rfl rfl (by decide +kernel) ⟨by simp only [rmX3_readProduct, rmX3_readUnit]; omega, by simp only [rmX3_readProduct, rmX3_readUnit]; omega⟩) (gx_rec F G ht2 (gwe_3 hk1) rfl) rfl rfl hl.1 rfl (lv_room (Nat.le_of_ble_eq_true rfl)) dX3_readProduct_52 ⟨Nat.zero_le _, Nat.zero_le _⟩) (fun H locs G => ?_)
            refine lv_if_ne (tgt := 60) hx hb dX3_readProduct_55 (by decide) (fun q29 => ?_) (fun q29 => ?_)
            · replace h := gf_s q29 h
              refine lv_aload_n hx hb dX3_readProduct_60 rfl (lv_at hl 1 rfl) ?_
              refine lv_iload hx hb dX3_readProduct_61 (lv_at hl 0 rfl) ?_
              refine lv_iconst (v := 0) hx hb dX3_readProduct_63 (by decide) ?_
              obtain ⟨c32, hc30, h⟩ := gb_s h
              refine gx_callv F G (va_runV (As := [.int r24, .int 0]) (rest := []) (gx_fix F) (c_X3_add l sa D ad cy N H.size hN hI c28 d0 hc30) (cwV 2 hts gX3_readProduct_X3_add rfl rfl rfl (by decide +kernel) ⟨by simp only [rmX3_readProduct, rmX3_add]; omega, by simp only [rmX3_readProduct, rmX3_add]; omega⟩) (gx_rec F G ht2 (gwe_3 hk1) rfl) rfl rfl hl.1 rfl (lv_room (Nat.le_of_ble_eq_true rfl)) dX3_readProduct_64 ⟨Nat.zero_le _, Nat.zero_le _⟩) (fun H locs G => ?_)
              obtain ⟨x33, ex33⟩ : ∃ z : Int32, z = y8 + 1 := ⟨_, rfl⟩
              replace h := gv_s h x33 ex33
              refine lv_iinc (v := x33) (lv' := [(3, .int x33), (4, .int r24), (0, .ref (ad t)), (1, .ref (ad a1)), (2, .int a2)]) hx hb dX3_readProduct_67 hl (k := 4) rfl (by rw [ex33]; rfl) (by decide) rfl (fun ls hl => ?_)
              refine lv_goto (tgt := 13) hx hb dX3_readProduct_70 (by decide) ?_
              cases h
              exact ih7 _ _ _ _ _ hn7 G (lv_sub hl [2, 3, 4, 0] rfl)
            · replace h := gt_s q29 h
              refine lv_iconst (v := 0) hx hb dX3_readProduct_58 (by decide) ?_
              cases h
              cases gnx_r hn7
              cases gsm_l hK7
              rw [← hQ]
              exact gx_zret F G hr hlocks rfl dX3_readProduct_59
    exact L7 n _ _ _ _ _ hb7 G (lv_sub hl [1, 2, 3, 0] rfl)
  · replace h := gt_s q6 h
    refine lv_iconst (v := 0) hx hb dX3_readProduct_9 (by decide) ?_
    cases h
    rw [← hQ]
    exact gx_zret F G hr hlocks rfl dX3_readProduct_10
def m_X3_sumMark (a1 : Int32) : Option (Int32) :=
  (if a1 = 43 then some 2 else (if a1 = 45 then some 3 else some (-1)))
abbrev rmX3_sumMark : Room := { frames := 0, cells := 0, slots := 0, locals := 0 }
set_option maxHeartbeats 4000000 in
set_option maxRecDepth 100000 in
theorem c_X3_sumMark (l : Launch) (sa : gSa) (D : va_G) (ad : Nat → Nat) (cy : Nat → ClassId) (N sz : Nat) (hN : 55 ≤ N) (hI : gI ad N) (c d0 : gm) {a1 : Int32} {rZ : Int32} (h : m_X3_sumMark a1 = some rZ) : Met l yX3_sumMark wsX3_sumMark rmX3_sumMark (va_Pc [.int a1] (gP sa D ad cy N sz c d0)) (va_Qi (fun (z : Int32) (_ : Unit) => z = rZ) (fun _ U => gE D ad cy N c d0 U) (gA ad N sz)) 0 0 (gA ad N sz) := by
  refine Met.ofW (cc := cX3_sumMark) (maxL := 1) (ret := (some .int)) (by decide) rfl ?_
  intro p e s m args below meth cod s₁ B hml hv
  obtain ⟨rfl, hsz, hP, hK, hZ⟩ := hv
  have hx := B.exec
  have hb := B.bytes
  have hr := B.returns
  have hts := atoms_spec (ws := wsX3_sumMark) B.pre
  have hown : s.vm.findClass RX3 = some m.cls := findClass_of_methodNamed B.named
  have hlocks := B.notSynchronized
  subst hsz
  have hl := lv_entry ([.int a1]) (n := 1) (Nat.le_of_ble_eq_true rfl)
  rw [lg_entry_eq]
  generalize (lg_sl ([.int a1]) ++ List.replicate (1 - (lg_sl ([.int a1])).length) Slot.unset).toArray = ls at hl ⊢
  have hl : lv_has ls 1 [(0, .int a1)] := hl
  generalize hargs : ([.int a1] : List Value).toArray = args at *
  generalize hAe : gA ad N s.heap.size = A
  have F : gF sa D ad cy N A p s m args cod cX3_sumMark 1 wsX3_sumMark RX3 := ⟨hx, hb, hml, hown, hts, hK, hI, by rw [← hAe]; exact gA_ad, by rw [← hAe]; exact gA_sz, by rw [← hAe]; exact hZ⟩
  have G : gW D ad cy N A s.heap c d0 s.heap [] := ⟨hP, va_S.rf⟩
  generalize hQ : MQ below (va_Qi (fun (z : Int32) (_ : Unit) => z = rZ) (fun _ U => gE D ad cy N c d0 U) A) args s 0 0 A = Q
  suffices hgen : ∀ (H : Heap) (locs : List Loc), gW D ad cy N A s.heap c d0 H locs → W p l e rmX3_sumMark s m args below meth cod H locs 0 0 Q (F0 m 0 ls []) from hgen _ _ G
  clear G
  intro H locs G
  unfold m_X3_sumMark at h
  refine lv_iload_n hx hb dX3_sumMark_0 rfl (lv_at hl 0 rfl) ?_
  refine lv_bipush (v := 43) hx hb dX3_sumMark_1 (by decide) ?_
  refine lv_icmp_ne (tgt := 10) hx hb dX3_sumMark_3 (by decide) (fun q1 => ?_) (fun q1 => ?_)
  · replace h := gf_s q1 h
    refine lv_iload_n hx hb dX3_sumMark_10 rfl (lv_at hl 0 rfl) ?_
    refine lv_bipush (v := 45) hx hb dX3_sumMark_11 (by decide) ?_
    refine lv_icmp_ne (tgt := 20) hx hb dX3_sumMark_13 (by decide) (fun q2 => ?_) (fun q2 => ?_)
    · replace h := gf_s q2 h
      refine lv_iconst (v := (-1)) hx hb dX3_sumMark_20 (by decide) ?_
      cases h
      rw [← hQ]
      exact gx_iret F G hr hlocks dX3_sumMark_21
    · replace h := gt_s q2 h
      refine lv_iconst (v := 3) hx hb dX3_sumMark_16 (by decide) ?_
      refine lv_goto (tgt := 21) hx hb dX3_sumMark_17 (by decide) ?_
      cases h
      rw [← hQ]
      exact gx_iret F G hr hlocks dX3_sumMark_21
  · replace h := gt_s q1 h
    refine lv_iconst (v := 2) hx hb dX3_sumMark_6 (by decide) ?_
    refine lv_goto (tgt := 21) hx hb dX3_sumMark_7 (by decide) ?_
    cases h
    rw [← hQ]
    exact gx_iret F G hr hlocks dX3_sumMark_21
def m_X3_readSum_L13 (rs : (Nat → Nat → Nat → Int32 → gm → Option (Int32 × gm))) (n : Nat) (t : Nat) (a1 : Nat) (a2 : Int32) (y8 : Int32) (c9 : gm) : Option ((Int32 × gm) ⊕ ((Int32 × gm) ⊕ (gm))) :=
  (if 150 ≤ y8 then some (.inr (.inr c9)) else gc (gck a1 = 7) (gb2 (m_X7_peek n a1 c9) (fun (r15 : Int32) (c16 : gm) => gb (m_X3_sumMark r15) (fun (r18 : Int32) => (if r18 < 0 then some (.inr (.inr c16)) else gb2 (m_X7_peek n a1 c16) (fun (r21 : Int32) (c22 : gm) => gb (m_X3_sumMark r21) (fun (r24 : Int32) => gv (gm_r c22 a1 (upd (c22.1 a1) 3 ((c22.1 a1 3) + 1))) (fun (c25 : gm) => gb2 (m_X3_readProduct rs n t a1 a2 c25) (fun (r27 : Int32) (c28 : gm) => (if r27 = 0 then some (.inr (.inl (0, c28))) else gb (m_X3_add t r24 0 c28) (fun (c32 : gm) => gv (y8 + 1) (fun (x33 : Int32) => some (.inl (x33, c32))))))))))))))
def m_X3_readSum_b (rs : (Nat → Nat → Nat → Int32 → gm → Option (Int32 × gm))) (n : Nat) (t : Nat) (a1 : Nat) (a2 : Int32) (c : gm) : Option (Int32 × gm) :=
  gc (gck t = 3) (gb2 (m_X3_readProduct rs n t a1 a2 c) (fun (r4 : Int32) (c5 : gm) => (if r4 = 0 then some (0, c5) else gb (gloop (gu2 (fun (y8 : Int32) (c9 : gm) => m_X3_readSum_L13 rs n t a1 a2 y8 c9)) n (0, c5)) (gsm (fun (c10 : gm) => some (1, c10))))))

set_option maxHeartbeats 4000000 in
set_option maxRecDepth 100000 in
theorem c_X3_readSum_b (l : Launch) (sa : gSa) (D : va_G) (ad : Nat → Nat) (cy : Nat → ClassId) (N sz : Nat) (hN : 55 ≤ N) (hI : gI ad N) (c d0 : gm) (rs : (Nat → Nat → Nat → Int32 → gm → Option (Int32 × gm))) (dd : Nat) (hrs : ∀ (sz : Nat) (c d0 : gm) {n : Nat} {t : Nat} {a1 : Nat} {a2 : Int32} {rZ : Int32} {cZ : gm}, rs n t a1 a2 c = some (rZ, cZ) → Met l yX3_readSum wsX3_readSum (rmX3_readSum dd) (va_Pc [.ref (ad t), .ref (ad a1), .int a2] (gP sa D ad cy N sz c d0)) (va_Qi (fun (z : Int32) (_ : Unit) => z = rZ) (fun _ U => gE D ad cy N cZ d0 U) (gA ad N sz)) 0 0 (gA ad N sz)) {n : Nat} {t : Nat} {a1 : Nat} {a2 : Int32} {rZ : Int32} {cZ : gm} (h : m_X3_readSum_b rs n t a1 a2 c = some (rZ, cZ)) : Met l yX3_readSum wsX3_readSum (rmX3_readSum (dd + 1)) (va_Pc [.ref (ad t), .ref (ad a1), .int a2] (gP sa D ad cy N sz c d0)) (va_Qi (fun (z : Int32) (_ : Unit) => z = rZ) (fun _ U => gE D ad cy N cZ d0 U) (gA ad N sz)) 0 0 (gA ad N sz) := by
  refine Met.ofW (cc := cX3_readSum) (maxL := 5) (ret := (some .boolean)) (by decide) rfl ?_
  intro p e s m args below meth cod s₁ B hml hv
  obtain ⟨rfl, hsz, hP, hK, hZ⟩ := hv
  have hx := B.exec
  have hb := B.bytes
  have hr := B.returns
  have hts := atoms_spec (ws := wsX3_readSum) B.pre
  have hown : s.vm.findClass RX3 = some m.cls := findClass_of_methodNamed B.named
  have hlocks := B.notSynchronized
  subst hsz
  have hl := lv_entry ([.ref (ad t), .ref (ad a1), .int a2]) (n := 5) (Nat.le_of_ble_eq_true rfl)
  rw [lg_entry_eq]
  generalize (lg_sl ([.ref (ad t), .ref (ad a1), .int a2]) ++ List.replicate (5 - (lg_sl ([.ref (ad t), .ref (ad a1), .int a2])).length) Slot.unset).toArray = ls at hl ⊢
  have hl : lv_has ls 5 [(0, .ref (ad t)), (1, .ref (ad a1)), (2, .int a2)] := hl
  have in7 : ∀ w ∈ wsX70, w ∈ wsX3_readSum := by decide +kernel
  generalize hargs : ([.ref (ad t), .ref (ad a1), .int a2] : List Value).toArray = args at *
  generalize hAe : gA ad N s.heap.size = A
  have F : gF sa D ad cy N A p s m args cod cX3_readSum 5 wsX3_readSum RX3 := ⟨hx, hb, hml, hown, hts, hK, hI, by rw [← hAe]; exact gA_ad, by rw [← hAe]; exact gA_sz, by rw [← hAe]; exact hZ⟩
  have G : gW D ad cy N A s.heap c d0 s.heap [] := ⟨hP, va_S.rf⟩
  generalize hQ : MQ below (va_Qi (fun (z : Int32) (_ : Unit) => z = rZ) (fun _ U => gE D ad cy N cZ d0 U) A) args s 0 0 A = Q
  suffices hgen : ∀ (H : Heap) (locs : List Loc), gW D ad cy N A s.heap c d0 H locs → W p l e (rmX3_readSum (dd + 1)) s m args below meth cod H locs 0 0 Q (F0 m 0 ls []) from hgen _ _ G
  clear G
  intro H locs G
  unfold m_X3_readSum_b at h
  refine lv_aload_n hx hb dX3_readSum_0 rfl (lv_at hl 0 rfl) ?_
  refine lv_aload_n hx hb dX3_readSum_1 rfl (lv_at hl 1 rfl) ?_
  refine lv_iload_n hx hb dX3_readSum_2 rfl (lv_at hl 2 rfl) ?_
  obtain ⟨hk1, h⟩ := gc_s h
  have ht2 : t < N := Nat.lt_of_lt_of_le (gck_lt3 hk1) hN
  obtain ⟨r4, c5, hc3, h⟩ := gb2_s h
  refine gx_calli F G (va_runV (As := [.ref (ad a1), .int a2]) (rest := []) (gx_fix F) (c_X3_readProduct l sa D ad cy N H.size hN hI c d0 rs dd hrs hc3) (cwV 2 hts gX3_readSum_X3_readProduct rfl rfl rfl (by decide +kernel) ⟨by simp only [rmX3_readSum, rmX3_readProduct]; omega, by simp only [rmX3_readSum, rmX3_readProduct]; omega⟩) (gx_rec F G ht2 (gwe_3 hk1) rfl) rfl rfl hl.1 rfl (lv_room (Nat.le_of_ble_eq_true rfl)) dX3_readSum_3 ⟨Nat.zero_le _, Nat.zero_le _⟩) (fun H locs G => ?_)
  refine lv_if_ne (tgt := 11) hx hb dX3_readSum_6 (by decide) (fun q6 => ?_) (fun q6 => ?_)
  · replace h := gf_s q6 h
    refine lv_iconst (v := 0) hx hb dX3_readSum_11 (by decide) ?_
    refine lv_istore_n (lv' := [(3, .int 0), (0, .ref (ad t)), (1, .ref (ad a1)), (2, .int a2)]) hx hb dX3_readSum_12 rfl hl (by decide) rfl (fun ls hl => ?_)
    obtain ⟨b7, hb7, hK7⟩ := gb_s h
    have E7 : ∀ (c10 : gm) (H : Heap) (locs : List Loc) (ls : Array Slot), (Sum.inr c10 : (Int32 × gm) ⊕ (gm)) = b7 → gW D ad cy N A s.heap c10 d0 H locs → lv_has ls 5 [] → W p l e (rmX3_readSum (dd + 1)) s m args below meth cod H locs 0 0 Q (F0 m 73 ls []) := by
      intro c10 H locs ls hq7 G hl
      subst hq7
      replace hK7 := gsm_r hK7
      have h := hK7
      refine lv_iconst (v := 1) hx hb dX3_readSum_73 (by decide) ?_
      cases h
      rw [← hQ]
      exact gx_zret F G hr hlocks rfl dX3_readSum_74
    have L7 : ∀ (n9 : Nat) (y8 : Int32) (c9 : gm) (H : Heap) (locs : List Loc) (ls : Array Slot), gloop (gu2 (fun (y8 : Int32) (c9 : gm) => m_X3_readSum_L13 rs n t a1 a2 y8 c9)) n9 (y8, c9) = some b7 → gW D ad cy N A s.heap c9 d0 H locs → lv_has ls 5 [(0, .ref (ad t)), (1, .ref (ad a1)), (2, .int a2), (3, .int y8)] → W p l e (rmX3_readSum (dd + 1)) s m args below meth cod H locs 0 0 Q (F0 m 13 ls []) := by
      intro n9
      induction n9 with
      | zero => intro y8 c9 H locs ls h; exact (gloop_0 h).elim
      | succ n9 ih =>
        intro y8 c9 H locs ls h G hl
        have ih7 := ih
        obtain ⟨o7, h, hn7⟩ := gloop_s h
        replace h := gu2_s h
        unfold m_X3_readSum_L13 at h
        refine lv_iload_n hx hb dX3_readSum_13 rfl (lv_at hl 3 rfl) ?_
        refine lv_sipush (v := 150) hx hb dX3_readSum_14 (by decide) ?_
        refine lv_icmp_ge (tgt := 73) hx hb dX3_readSum_17 (by decide) (fun q11 => ?_) (fun q11 => ?_)
        · replace h := gt_s q11 h
          cases h
          exact E7 _ _ _ _ (gnx_r hn7) G (lv_sub hl [] rfl)
        · replace h := gf_s q11 h
          refine lv_aload_n hx hb dX3_readSum_20 rfl (lv_at hl 1 rfl) ?_
          obtain ⟨hk12, h⟩ := gc_s h
          have ht13 : a1 < N := Nat.lt_of_lt_of_le (gck_lt7 hk12) hN
          obtain ⟨r15, c16, hc14, h⟩ := gb2_s h
          refine gx_calli F G (va_runV (As := []) (rest := []) (gx_fix F) (c_X7_peek l sa D ad cy N H.size hN hI c9 d0 hc14) (cwV 0 hts gX3_readSum_X7_peek rfl rfl rfl (by decide +kernel) ⟨by simp only [rmX3_readSum, rmX7_peek]; omega, by simp only [rmX3_readSum, rmX7_peek]; omega⟩) (gx_rec F G ht13 (gwe_7 hk12) rfl) rfl rfl hl.1 rfl (lv_room (Nat.le_of_ble_eq_true rfl)) dX3_readSum_21 ⟨Nat.zero_le _, Nat.zero_le _⟩) (fun H locs G => ?_)
          obtain ⟨r18, hc17, h⟩ := gb_s h
          refine gx_calli F G (va_runS (As := [.int r15]) (rest := []) (gx_fix F) (c_X3_sumMark l sa D ad cy N H.size hN hI c16 d0 hc17) (va_cwS 1 hts gX3_readSum_X3_sumMark rfl rfl rfl (by decide +kernel) ⟨by simp only [rmX3_readSum, rmX3_sumMark]; omega, by simp only [rmX3_readSum, rmX3_sumMark]; omega⟩) (gx_pre F G) rfl rfl hl.1 rfl (lv_room (Nat.le_of_ble_eq_true rfl)) dX3_readSum_24 ⟨Nat.zero_le _, Nat.zero_le _⟩) (fun H locs G => ?_)
          refine lv_if_lt (tgt := 73) hx hb dX3_readSum_27 (by decide) (fun q19 => ?_) (fun q19 => ?_)
          · replace h := gt_s q19 h
            cases h
            exact E7 _ _ _ _ (gnx_r hn7) G (lv_sub hl [] rfl)
          · replace h := gf_s q19 h
            refine lv_aload_n hx hb dX3_readSum_30 rfl (lv_at hl 1 rfl) ?_
            obtain ⟨r21, c22, hc20, h⟩ := gb2_s h
            refine gx_calli F G (va_runV (As := []) (rest := []) (gx_fix F) (c_X7_peek l sa D ad cy N H.size hN hI c16 d0 hc20) (cwV 0 hts gX3_readSum_X7_peek rfl rfl rfl (by decide +kernel) ⟨by simp only [rmX3_readSum, rmX7_peek]; omega, by simp only [rmX3_readSum, rmX7_peek]; omega⟩) (gx_rec F G ht13 (gwe_7 hk12) rfl) rfl rfl hl.1 rfl (lv_room (Nat.le_of_ble_eq_true rfl)) dX3_readSum_31 ⟨Nat.zero_le _, Nat.zero_le _⟩) (fun H locs G => ?_)
            obtain ⟨r24, hc23, h⟩ := gb_s h
            refine gx_calli F G (va_runS (As := [.int r21]) (rest := []) (gx_fix F) (c_X3_sumMark l sa D ad cy N H.size hN hI c22 d0 hc23) (va_cwS 1 hts gX3_readSum_X3_sumMark rfl rfl rfl (by decide +kernel) ⟨by simp only [rmX3_readSum, rmX3_sumMark]; omega, by simp only [rmX3_readSum, rmX3_sumMark]; omega⟩) (gx_pre F G) rfl rfl hl.1 rfl (lv_room (Nat.le_of_ble_eq_true rfl)) dX3_readSum_34 ⟨Nat.zero_le _, Nat.zero_le _⟩) (fun H locs G => ?_)
            refine lv_istore (lv' := [(4, .int r24), (0, .ref (ad t)), (1, .ref (ad a1)), (2, .int a2), (3, .int y8)]) hx hb dX3_readSum_37 hl (by decide) rfl (fun ls hl => ?_)
            refine lv_aload_n hx hb dX3_readSum_39 rfl (lv_at hl 2 rfl) ?_
            refine lv_dup hx hb dX3_readSum_40 rfl ?_
            refine fg_7_at F G hk12 ht13 in7 (by decide +kernel) dX3_readSum_41 ?_
            refine lv_iconst (v := 1) hx hb dX3_readSum_44 (by decide) ?_
            refine lv_iadd hx hb dX3_readSum_45 ?_
            refine fp_7_at F G hk12 ht13 in7 (by decide +kernel) dX3_readSum_46 (fun H locs G => ?_)
            obtain ⟨c25, ec25⟩ : ∃ z, z = gm_r c22 a1 (upd (c22.1 a1) 3 ((c22.1 a1 3) + 1)) := ⟨_, rfl⟩
            rw [← ec25] at G
            replace h := gv_s h c25 ec25
            refine lv_aload_n hx hb dX3_readSum_49 rfl (lv_at hl 1 rfl) ?_
            refine lv_aload_n hx hb dX3_readSum_50 rfl (lv_at hl 2 rfl) ?_
            refine lv_iload_n hx hb dX3_readSum_51 rfl (lv_at hl 3 rfl) ?_
            obtain ⟨r27, c28, hc26, h⟩ := gb2_s h
            refine gx_calli F G (va_runV (As := [.ref (ad a1), .int a2]) (rest := []) (gx_fix F) (c_X3_readProduct l sa D ad cy N H.size hN hI c25 d0 rs dd hrs hc26) (cwV 2 hts gX3_readSum_X3_readProduct rfl rfl rfl (by decide +kernel) ⟨by simp only [rmX3_readSum, rmX3_readProduct]; omega, by simp only [rmX3_readSum, rmX3_readProduct]; omega⟩) (gx_rec F G ht2 (gwe_3 hk1) rfl) rfl rfl hl.1 rfl (lv_room (Nat.le_of_ble_eq_true rfl)) dX3_readSum_52 ⟨Nat.zero_le _, Nat.zero_le _⟩) (fun H locs G => ?_)
            refine lv_if_ne (tgt := 60) hx hb dX3_readSum_55 (by decide) (fun q29 => ?_) (fun q29 => ?_)
            · replace h := gf_s q29 h
              refine lv_aload_n hx hb dX3_readSum_60 rfl (lv_at hl 1 rfl) ?_
              refine lv_iload hx hb dX3_readSum_61 (lv_at hl 0 rfl) ?_
              refine lv_iconst (v := 0) hx hb dX3_readSum_63 (by decide) ?_
              obtain ⟨c32, hc30, h⟩ := gb_s h
              refine gx_callv F G (va_runV (As := [.int r24, .int 0]) (rest := []) (gx_fix F) (c_X3_add l sa D ad cy N H.size hN hI c28 d0 hc30) (cwV 2 hts gX3_readSum_X3_add rfl rfl rfl (by decide +kernel) ⟨by simp only [rmX3_readSum, rmX3_add]; omega, by simp only [rmX3_readSum, rmX3_add]; omega⟩) (gx_rec F G ht2 (gwe_3 hk1) rfl) rfl rfl hl.1 rfl (lv_room (Nat.le_of_ble_eq_true rfl)) dX3_readSum_64 ⟨Nat.zero_le _, Nat.zero_le _⟩) (fun H locs G => ?_)
              obtain ⟨x33, ex33⟩ : ∃ z : Int32, z = y8 + 1 := ⟨_, rfl⟩
              replace h := gv_s h x33 ex33
              refine lv_iinc (v := x33) (lv' := [(3, .int x33), (4, .int r24), (0, .ref (ad t)), (1, .ref (ad a1)), (2, .int a2)]) hx hb dX3_readSum_67 hl (k := 4) rfl (by rw [ex33]; rfl) (by decide) rfl (fun ls hl => ?_)
              refine lv_goto (tgt := 13) hx hb dX3_readSum_70 (by decide) ?_
              cases h
              exact ih7 _ _ _ _ _ hn7 G (lv_sub hl [2, 3, 4, 0] rfl)
            · replace h := gt_s q29 h
              refine lv_iconst (v := 0) hx hb dX3_readSum_58 (by decide) ?_
              cases h
              cases gnx_r hn7
              cases gsm_l hK7
              rw [← hQ]
              exact gx_zret F G hr hlocks rfl dX3_readSum_59
    exact L7 n _ _ _ _ _ hb7 G (lv_sub hl [1, 2, 3, 0] rfl)
  · replace h := gt_s q6 h
    refine lv_iconst (v := 0) hx hb dX3_readSum_9 (by decide) ?_
    cases h
    rw [← hQ]
    exact gx_zret F G hr hlocks rfl dX3_readSum_10
def m_X3_readSum : Nat → (Nat → Nat → Nat → Int32 → gm → Option (Int32 × gm))
  | 0 => fun _ _ _ _ _ => none
  | dd + 1 => m_X3_readSum_b (m_X3_readSum dd)
theorem c_X3_readSum (l : Launch) (sa : gSa) (D : va_G) (ad : Nat → Nat) (cy : Nat → ClassId) (N : Nat) (hN : 55 ≤ N) (hI : gI ad N) (dd : Nat) : ∀ (sz : Nat) (c d0 : gm) {n : Nat} {t : Nat} {a1 : Nat} {a2 : Int32} {rZ : Int32} {cZ : gm}, m_X3_readSum dd n t a1 a2 c = some (rZ, cZ) → Met l yX3_readSum wsX3_readSum (rmX3_readSum dd) (va_Pc [.ref (ad t), .ref (ad a1), .int a2] (gP sa D ad cy N sz c d0)) (va_Qi (fun (z : Int32) (_ : Unit) => z = rZ) (fun _ U => gE D ad cy N cZ d0 U) (gA ad N sz)) 0 0 (gA ad N sz) := by
  induction dd with
  | zero => intro _ _ _ _ _ _ _ _ _ h; have h2 : none = some _ := h; cases h2
  | succ dd ih => intro sz c d0 _ _ _ _ _ _ h; exact c_X3_readSum_b l sa D ad cy N sz hN hI c d0 (m_X3_readSum dd) dd (fun sz c d0 _ _ _ _ _ _ h => ih sz c d0 h) h

def m_X3_readFrom (n : Nat) (t : Nat) (a1 : Nat) (c : gm) : Option (Int32 × gm) :=
  gc (gck t = 3) (gv (gm_r c t (upd (c.1 t) 4 0)) (fun (c3 : gm) => gb2 (m_X3_readSum 12 n t a1 0 c3) (fun (r5 : Int32) (c6 : gm) => (if r5 = 0 then some (0, c6) else gc (gck a1 = 7) (gb2 (m_X7_hasMore n a1 c6) (fun (r11 : Int32) (c12 : gm) => (if r11 = 0 then some (1, c12) else gb2 (m_X7_fail a1 1 (c12.1 a1 4) c12) (fun (r15 : Int32) (c16 : gm) => (if r15 = 0 then some (0, c16) else some (1, c16))))))))))
abbrev rmX3_readFrom : Room := { frames := 56, cells := 0, slots := 0, locals := 1324 }
set_option maxHeartbeats 4000000 in
set_option maxRecDepth 100000 in
theorem c_X3_readFrom (l : Launch) (sa : gSa) (D : va_G) (ad : Nat → Nat) (cy : Nat → ClassId) (N sz : Nat) (hN : 55 ≤ N) (hI : gI ad N) (c d0 : gm) {n : Nat} {t : Nat} {a1 : Nat} {rZ : Int32} {cZ : gm} (h : m_X3_readFrom n t a1 c = some (rZ, cZ)) : Met l yX3_readFrom wsX3_readFrom rmX3_readFrom (va_Pc [.ref (ad t), .ref (ad a1)] (gP sa D ad cy N sz c d0)) (va_Qi (fun (z : Int32) (_ : Unit) => z = rZ) (fun _ U => gE D ad cy N cZ d0 U) (gA ad N sz)) 0 0 (gA ad N sz) := by
  refine Met.ofW (cc := cX3_readFrom) (maxL := 2) (ret := (some .boolean)) (by decide) rfl ?_
  intro p e s m args below meth cod s₁ B hml hv
  obtain ⟨rfl, hsz, hP, hK, hZ⟩ := hv
  have hx := B.exec
  have hb := B.bytes
  have hr := B.returns
  have hts := atoms_spec (ws := wsX3_readFrom) B.pre
  have hown : s.vm.findClass RX3 = some m.cls := findClass_of_methodNamed B.named
  have hlocks := B.notSynchronized
  subst hsz
  have hl := lv_entry ([.ref (ad t), .ref (ad a1)]) (n := 2) (Nat.le_of_ble_eq_true rfl)
  rw [lg_entry_eq]
  generalize (lg_sl ([.ref (ad t), .ref (ad a1)]) ++ List.replicate (2 - (lg_sl ([.ref (ad t), .ref (ad a1)])).length) Slot.unset).toArray = ls at hl ⊢
  have hl : lv_has ls 2 [(0, .ref (ad t)), (1, .ref (ad a1))] := hl
  have in3 : ∀ w ∈ wsX30, w ∈ wsX3_readFrom := by decide +kernel
  have in7 : ∀ w ∈ wsX70, w ∈ wsX3_readFrom := by decide +kernel
  generalize hargs : ([.ref (ad t), .ref (ad a1)] : List Value).toArray = args at *
  generalize hAe : gA ad N s.heap.size = A
  have F : gF sa D ad cy N A p s m args cod cX3_readFrom 2 wsX3_readFrom RX3 := ⟨hx, hb, hml, hown, hts, hK, hI, by rw [← hAe]; exact gA_ad, by rw [← hAe]; exact gA_sz, by rw [← hAe]; exact hZ⟩
  have G : gW D ad cy N A s.heap c d0 s.heap [] := ⟨hP, va_S.rf⟩
  generalize hQ : MQ below (va_Qi (fun (z : Int32) (_ : Unit) => z = rZ) (fun _ U => gE D ad cy N cZ d0 U) A) args s 0 0 A = Q
  suffices hgen : ∀ (H : Heap) (locs : List Loc), gW D ad cy N A s.heap c d0 H locs → W p l e rmX3_readFrom s m args below meth cod H locs 0 0 Q (F0 m 0 ls []) from hgen _ _ G
  clear G
  intro H locs G
  unfold m_X3_readFrom at h
  refine lv_aload_n hx hb dX3_readFrom_0 rfl (lv_at hl 0 rfl) ?_
  refine lv_iconst (v := 0) hx hb dX3_readFrom_1 (by decide) ?_
  obtain ⟨hk1, h⟩ := gc_s h
  have ht2 : t < N := Nat.lt_of_lt_of_le (gck_lt3 hk1) hN
  refine fp_3_size F G hk1 ht2 in3 (by decide +kernel) dX3_readFrom_2 (fun H locs G => ?_)
  obtain ⟨c3, ec3⟩ : ∃ z, z = gm_r c t (upd (c.1 t) 4 0) := ⟨_, rfl⟩
  rw [← ec3] at G
  replace h := gv_s h c3 ec3
  refine lv_aload_n hx hb dX3_readFrom_5 rfl (lv_at hl 0 rfl) ?_
  refine lv_aload_n hx hb dX3_readFrom_6 rfl (lv_at hl 1 rfl) ?_
  refine lv_iconst (v := 0) hx hb dX3_readFrom_7 (by decide) ?_
  obtain ⟨r5, c6, hc4, h⟩ := gb2_s h
  refine gx_calli F G (va_runV (As := [.ref (ad a1), .int 0]) (rest := []) (gx_fix F) (c_X3_readSum l sa D ad cy N hN hI 12 H.size c3 d0 hc4) (cwV 2 hts gX3_readFrom_X3_readSum rfl rfl rfl (by decide +kernel) ⟨by decide, by decide⟩) (gx_rec F G ht2 (gwe_3 hk1) rfl) rfl rfl hl.1 rfl (lv_room (Nat.le_of_ble_eq_true rfl)) dX3_readFrom_8 ⟨Nat.zero_le _, Nat.zero_le _⟩) (fun H locs G => ?_)
  refine lv_if_eq (tgt := 37) hx hb dX3_readFrom_11 (by decide) (fun q7 => ?_) (fun q7 => ?_)
  · replace h := gt_s q7 h
    refine lv_iconst (v := 0) hx hb dX3_readFrom_37 (by decide) ?_
    cases h
    rw [← hQ]
    exact gx_zret F G hr hlocks rfl dX3_readFrom_38
  · replace h := gf_s q7 h
    refine lv_aload_n hx hb dX3_readFrom_14 rfl (lv_at hl 1 rfl) ?_
    obtain ⟨hk8, h⟩ := gc_s h
    have ht9 : a1 < N := Nat.lt_of_lt_of_le (gck_lt7 hk8) hN
    obtain ⟨r11, c12, hc10, h⟩ := gb2_s h
    refine gx_calli F G (va_runV (As := []) (rest := []) (gx_fix F) (c_X7_hasMore l sa D ad cy N H.size hN hI c6 d0 hc10) (cwV 0 hts gX3_readFrom_X7_hasMore rfl rfl rfl (by decide +kernel) ⟨by decide, by decide⟩) (gx_rec F G ht9 (gwe_7 hk8) rfl) rfl rfl hl.1 rfl (lv_room (Nat.le_of_ble_eq_true rfl)) dX3_readFrom_15 ⟨Nat.zero_le _, Nat.zero_le _⟩) (fun H locs G => ?_)
    refine lv_if_eq (tgt := 33) hx hb dX3_readFrom_18 (by decide) (fun q13 => ?_) (fun q13 => ?_)
    · replace h := gt_s q13 h
      refine lv_iconst (v := 1) hx hb dX3_readFrom_33 (by decide) ?_
      refine lv_goto (tgt := 38) hx hb dX3_readFrom_34 (by decide) ?_
      cases h
      rw [← hQ]
      exact gx_zret F G hr hlocks rfl dX3_readFrom_38
    · replace h := gf_s q13 h
      refine lv_aload_n hx hb dX3_readFrom_21 rfl (lv_at hl 1 rfl) ?_
      refine lv_iconst (v := 1) hx hb dX3_readFrom_22 (by decide) ?_
      refine lv_aload_n hx hb dX3_readFrom_23 rfl (lv_at hl 1 rfl) ?_
      refine fg_7_mark F G hk8 ht9 in7 (by decide +kernel) dX3_readFrom_24 ?_
      obtain ⟨r15, c16, hc14, h⟩ := gb2_s h
      refine gx_calli F G (va_runV (As := [.int 1, .int (c12.1 a1 4)]) (rest := []) (gx_fix F) (c_X7_fail l sa D ad cy N H.size hN hI c12 d0 hc14) (cwV 2 hts gX3_readFrom_X7_fail rfl rfl rfl (by decide +kernel) ⟨by decide, by decide⟩) (gx_rec F G ht9 (gwe_7 hk8) rfl) rfl rfl hl.1 rfl (lv_room (Nat.le_of_ble_eq_true rfl)) dX3_readFrom_27 ⟨Nat.zero_le _, Nat.zero_le _⟩) (fun H locs G => ?_)
      refine lv_if_eq (tgt := 37) hx hb dX3_readFrom_30 (by decide) (fun q17 => ?_) (fun q17 => ?_)
      · replace h := gt_s q17 h
        refine lv_iconst (v := 0) hx hb dX3_readFrom_37 (by decide) ?_
        cases h
        rw [← hQ]
        exact gx_zret F G hr hlocks rfl dX3_readFrom_38
      · replace h := gf_s q17 h
        refine lv_iconst (v := 1) hx hb dX3_readFrom_33 (by decide) ?_
        refine lv_goto (tgt := 38) hx hb dX3_readFrom_34 (by decide) ?_
        cases h
        rw [← hQ]
        exact gx_zret F G hr hlocks rfl dX3_readFrom_38
def m_X4_addUp_L18 (t : Nat) (a1 : Nat) (y2 : Int32) (y10 : Int32) (c11 : gm) : Option ((Int32 × gm) ⊕ (gm)) :=
  (if ((1 : Int32) <<< (y2 &&& 31)) ≤ y10 then some (.inr c11) else gc (gck t = 4) (gc (0 ≤ y10.toInt ∧ y10.toInt < 256) (gb (m_X6_weightOf a1 y2 c11) (fun (r22 : Int32) => gc (0 ≤ (y10 ||| ((1 : Int32) <<< (y2 &&& 31))).toInt ∧ (y10 ||| ((1 : Int32) <<< (y2 &&& 31))).toInt < 256) (gv (gm_r c11 (t + 1) (upd (c11.1 (t + 1)) (y10 ||| ((1 : Int32) <<< (y2 &&& 31))).toNatClampNeg ((c11.1 (t + 1) y10.toNatClampNeg) + r22))) (fun (c24 : gm) => gv (y10 + 1) (fun (x25 : Int32) => some (.inl (x25, c24)))))))))
def m_X4_addUp_L2 (n : Nat) (t : Nat) (a1 : Nat) (y2 : Int32) (c3 : gm) : Option ((Int32 × gm) ⊕ (gm)) :=
  gc (gck a1 = 6) ((if (c3.1 a1 5) ≤ y2 then some (.inr c3) else (if 8 ≤ y2 then some (.inr c3) else gb (gloop (gu2 (fun (y10 : Int32) (c11 : gm) => m_X4_addUp_L18 t a1 y2 y10 c11)) n (0, c3)) (fun (c12 : gm) => gv (y2 + 1) (fun (x13 : Int32) => some (.inl (x13, c12)))))))
def m_X4_addUp (n : Nat) (t : Nat) (a1 : Nat) (c : gm) : Option (gm) :=
  gb (gloop (gu2 (fun (y2 : Int32) (c3 : gm) => m_X4_addUp_L2 n t a1 y2 c3)) n (0, c)) (fun (c4 : gm) => some c4)
abbrev rmX4_addUp : Room := { frames := 2, cells := 0, slots := 0, locals := 42 }
set_option maxHeartbeats 4000000 in
set_option maxRecDepth 100000 in
theorem c_X4_addUp (l : Launch) (sa : gSa) (D : va_G) (ad : Nat → Nat) (cy : Nat → ClassId) (N sz : Nat) (hN : 55 ≤ N) (hI : gI ad N) (c d0 : gm) {n : Nat} {t : Nat} {a1 : Nat} {cZ : gm} (h : m_X4_addUp n t a1 c = some cZ) : Met l yX4_addUp wsX4_addUp rmX4_addUp (va_Pc [.ref (ad t), .ref (ad a1)] (gP sa D ad cy N sz c d0)) (va_Qv (fun (_ : Unit) => True) (fun _ U => gE D ad cy N cZ d0 U) (gA ad N sz)) 0 0 (gA ad N sz) := by
  refine Met.ofW (cc := cX4_addUp) (maxL := 4) (ret := none) (by decide) rfl ?_
  intro p e s m args below meth cod s₁ B hml hv
  obtain ⟨rfl, hsz, hP, hK, hZ⟩ := hv
  have hx := B.exec
  have hb := B.bytes
  have hr := B.returns
  have hts := atoms_spec (ws := wsX4_addUp) B.pre
  have hown : s.vm.findClass RX4 = some m.cls := findClass_of_methodNamed B.named
  have hlocks := B.notSynchronized
  subst hsz
  have hl := lv_entry ([.ref (ad t), .ref (ad a1)]) (n := 4) (Nat.le_of_ble_eq_true rfl)
  rw [lg_entry_eq]
  generalize (lg_sl ([.ref (ad t), .ref (ad a1)]) ++ List.replicate (4 - (lg_sl ([.ref (ad t), .ref (ad a1)])).length) Slot.unset).toArray = ls at hl ⊢
  have hl : lv_has ls 4 [(0, .ref (ad t)), (1, .ref (ad a1))] := hl
  have in4 : ∀ w ∈ wsX40, w ∈ wsX4_addUp := by decide +kernel
  have in6 : ∀ w ∈ wsX60, w ∈ wsX4_addUp := by decide +kernel
  generalize hargs : ([.ref (ad t), .ref (ad a1)] : List Value).toArray = args at *
  generalize hAe : gA ad N s.heap.size = A
  have F : gF sa D ad cy N A p s m args cod cX4_addUp 4 wsX4_addUp RX4 := ⟨hx, hb, hml, hown, hts, hK, hI, by rw [← hAe]; exact gA_ad, by rw [← hAe]; exact gA_sz, by rw [← hAe]; exact hZ⟩
  have G : gW D ad cy N A s.heap c d0 s.heap [] := ⟨hP, va_S.rf⟩
  generalize hQ : MQ below (va_Qv (fun (_ : Unit) => True) (fun _ U => gE D ad cy N cZ d0 U) A) args s 0 0 A = Q
  suffices hgen : ∀ (H : Heap) (locs : List Loc), gW D ad cy N A s.heap c d0 H locs → W p l e rmX4_addUp s m args below meth cod H locs 0 0 Q (F0 m 0 ls []) from hgen _ _ G
  clear G
  intro H locs G
  unfold m_X4_addUp at h
  refine lv_iconst (v := 0) hx hb dX4_addUp_0 (by decide) ?_
  refine lv_istore_n (lv' := [(2, .int 0), (0, .ref (ad t)), (1, .ref (ad a1))]) hx hb dX4_addUp_1 rfl hl (by decide) rfl (fun ls hl => ?_)
  obtain ⟨b1, hb1, hK1⟩ := gb_s h
  have E1 : ∀ (c4 : gm) (H : Heap) (locs : List Loc) (ls : Array Slot), (c4 : gm) = b1 → gW D ad cy N A s.heap c4 d0 H locs → lv_has ls 4 [] → W p l e rmX4_addUp s m args below meth cod H locs 0 0 Q (F0 m 59 ls []) := by
    intro c4 H locs ls hq1 G hl
    subst hq1
    replace hK1 := hK1
    have h := hK1
    cases h
    rw [← hQ]
    exact gx_vret F G hr hlocks dX4_addUp_59
  have L1 : ∀ (n9 : Nat) (y2 : Int32) (c3 : gm) (H : Heap) (locs : List Loc) (ls : Array Slot), gloop (gu2 (fun (y2 : Int32) (c3 : gm) => m_X4_addUp_L2 n t a1 y2 c3)) n9 (y2, c3) = some b1 → gW D ad cy N A s.heap c3 d0 H locs → lv_has ls 4 [(0, .ref (ad t)), (1, .ref (ad a1)), (2, .int y2)] → W p l e rmX4_addUp s m args below meth cod H locs 0 0 Q (F0 m 2 ls []) := by
    intro n9
    induction n9 with
    | zero => intro y2 c3 H locs ls h; exact (gloop_0 h).elim
    | succ n9 ih =>
      intro y2 c3 H locs ls h G hl
      have ih1 := ih
      obtain ⟨o1, h, hn1⟩ := gloop_s h
      replace h := gu2_s h
      unfold m_X4_addUp_L2 at h
      refine lv_iload_n hx hb dX4_addUp_2 rfl (lv_at hl 2 rfl) ?_
      refine lv_aload_n hx hb dX4_addUp_3 rfl (lv_at hl 1 rfl) ?_
      obtain ⟨hk5, h⟩ := gc_s h
      have ht6 : a1 < N := Nat.lt_of_lt_of_le (gck_lt6 hk5) hN
      refine fg_6_things F G hk5 ht6 in6 (by decide +kernel) dX4_addUp_4 ?_
      refine lv_icmp_ge (tgt := 59) hx hb dX4_addUp_7 (by decide) (fun q7 => ?_) (fun q7 => ?_)
      · replace h := gt_s q7 h
        cases h
        exact E1 _ _ _ _ (gnx_r hn1) G (lv_sub hl [] rfl)
      · replace h := gf_s q7 h
        refine lv_iload_n hx hb dX4_addUp_10 rfl (lv_at hl 2 rfl) ?_
        refine lv_bipush (v := 8) hx hb dX4_addUp_11 (by decide) ?_
        refine lv_icmp_ge (tgt := 59) hx hb dX4_addUp_13 (by decide) (fun q8 => ?_) (fun q8 => ?_)
        · replace h := gt_s q8 h
          cases h
          exact E1 _ _ _ _ (gnx_r hn1) G (lv_sub hl [] rfl)
        · replace h := gf_s q8 h
          refine lv_iconst (v := 0) hx hb dX4_addUp_16 (by decide) ?_
          refine lv_istore_n (lv' := [(3, .int 0), (0, .ref (ad t)), (1, .ref (ad a1)), (2, .int y2)]) hx hb dX4_addUp_17 rfl hl (by decide) rfl (fun ls hl => ?_)
          obtain ⟨b9, hb9, hK9⟩ := gb_s h
          have E9 : ∀ (c12 : gm) (H : Heap) (locs : List Loc) (ls : Array Slot), (c12 : gm) = b9 → gW D ad cy N A s.heap c12 d0 H locs → lv_has ls 4 [(0, .ref (ad t)), (1, .ref (ad a1)), (2, .int y2)] → W p l e rmX4_addUp s m args below meth cod H locs 0 0 Q (F0 m 53 ls []) := by
            intro c12 H locs ls hq9 G hl
            subst hq9
            replace hK9 := hK9
            have h := hK9
            obtain ⟨x13, ex13⟩ : ∃ z : Int32, z = y2 + 1 := ⟨_, rfl⟩
            replace h := gv_s h x13 ex13
            refine lv_iinc (v := x13) (lv' := [(2, .int x13), (0, .ref (ad t)), (1, .ref (ad a1))]) hx hb dX4_addUp_53 hl (k := 2) rfl (by rw [ex13]; rfl) (by decide) rfl (fun ls hl => ?_)
            refine lv_goto (tgt := 2) hx hb dX4_addUp_56 (by decide) ?_
            cases h
            exact ih1 _ _ _ _ _ hn1 G (lv_sub hl [1, 2, 0] rfl)
          have L9 : ∀ (n9 : Nat) (y10 : Int32) (c11 : gm) (H : Heap) (locs : List Loc) (ls : Array Slot), gloop (gu2 (fun (y10 : Int32) (c11 : gm) => m_X4_addUp_L18 t a1 y2 y10 c11)) n9 (y10, c11) = some b9 → gW D ad cy N A s.heap c11 d0 H locs → lv_has ls 4 [(0, .ref (ad t)), (1, .ref (ad a1)), (2, .int y2), (3, .int y10)] → W p l e rmX4_addUp s m args below meth cod H locs 0 0 Q (F0 m 18 ls []) := by
            intro n9
            induction n9 with
            | zero => intro y10 c11 H locs ls h; exact (gloop_0 h).elim
            | succ n9 ih =>
              intro y10 c11 H locs ls h G hl
              have ih9 := ih
              obtain ⟨o9, h, hn9⟩ := gloop_s h
              replace h := gu2_s h
              unfold m_X4_addUp_L18 at h
              refine lv_iload_n hx hb dX4_addUp_18 rfl (lv_at hl 3 rfl) ?_
              refine lv_iconst (v := 1) hx hb dX4_addUp_19 (by decide) ?_
              refine lv_iload_n hx hb dX4_addUp_20 rfl (lv_at hl 2 rfl) ?_
              refine lv_ishl hx hb dX4_addUp_21 ?_
              refine lv_icmp_ge (tgt := 53) hx hb dX4_addUp_22 (by decide) (fun q14 => ?_) (fun q14 => ?_)
              · replace h := gt_s q14 h
                cases h
                exact E9 _ _ _ _ (gnx_r hn9) G (lv_sub hl [0, 1, 2] rfl)
              · replace h := gf_s q14 h
                refine lv_aload_n hx hb dX4_addUp_25 rfl (lv_at hl 0 rfl) ?_
                obtain ⟨hk15, h⟩ := gc_s h
                have ht16 : t < N := Nat.lt_of_lt_of_le (gck_lt4 hk15) hN
                refine fg_4_sums F G hk15 ht16 in4 (by decide +kernel) dX4_addUp_26 ?_
                obtain ⟨hk17, hn19⟩ := gka_4_sums hk15
                have ht18 : (t + 1) < N := Nat.lt_of_lt_of_le (gck_lt12 hk17) hN
                refine lv_iload_n hx hb dX4_addUp_29 rfl (lv_at hl 3 rfl) ?_
                refine lv_iconst (v := 1) hx hb dX4_addUp_30 (by decide) ?_
                refine lv_iload_n hx hb dX4_addUp_31 rfl (lv_at hl 2 rfl) ?_
                refine lv_ishl hx hb dX4_addUp_32 ?_
                refine lv_ior hx hb dX4_addUp_33 ?_
                refine lv_aload_n hx hb dX4_addUp_34 rfl (lv_at hl 0 rfl) ?_
                refine fg_4_sums F G hk15 ht16 in4 (by decide +kernel) dX4_addUp_35 ?_
                refine lv_iload_n hx hb dX4_addUp_38 rfl (lv_at hl 3 rfl) ?_
                obtain ⟨hi20, h⟩ := gc_s h
                refine gx_ia F G hk17 ht18 hn19 hi20 dX4_addUp_39 ?_
                refine lv_aload_n hx hb dX4_addUp_40 rfl (lv_at hl 1 rfl) ?_
                refine lv_iload_n hx hb dX4_addUp_41 rfl (lv_at hl 2 rfl) ?_
                obtain ⟨r22, hc21, h⟩ := gb_s h
                refine gx_calli F G (va_runV (As := [.int y2]) (rest := [.int (c11.1 (t + 1) y10.toNatClampNeg), .int (y10 ||| ((1 : Int32) <<< (y2 &&& 31))), .ref (ad (t + 1))]) (gx_fix F) (c_X6_weightOf l sa D ad cy N H.size hN hI c11 d0 hc21) (cwV 1 hts gX4_addUp_X6_weightOf rfl rfl rfl (by decide +kernel) ⟨by decide, by decide⟩) (gx_rec F G ht6 (gwe_6 hk5) rfl) rfl rfl hl.1 rfl (lv_room (Nat.le_of_ble_eq_true rfl)) dX4_addUp_42 ⟨Nat.zero_le _, Nat.zero_le _⟩) (fun H locs G => ?_)
                refine lv_iadd hx hb dX4_addUp_45 ?_
                obtain ⟨hi23, h⟩ := gc_s h
                refine gx_is F G hk17 ht18 hn19 hi23 dX4_addUp_46 (fun H locs G => ?_)
                obtain ⟨c24, ec24⟩ : ∃ z, z = gm_r c11 (t + 1) (upd (c11.1 (t + 1)) (y10 ||| ((1 : Int32) <<< (y2 &&& 31))).toNatClampNeg ((c11.1 (t + 1) y10.toNatClampNeg) + r22)) := ⟨_, rfl⟩
                rw [← ec24] at G
                replace h := gv_s h c24 ec24
                obtain ⟨x25, ex25⟩ : ∃ z : Int32, z = y10 + 1 := ⟨_, rfl⟩
                replace h := gv_s h x25 ex25
                refine lv_iinc (v := x25) (lv' := [(3, .int x25), (0, .ref (ad t)), (1, .ref (ad a1)), (2, .int y2)]) hx hb dX4_addUp_47 hl (k := 3) rfl (by rw [ex25]; rfl) (by decide) rfl (fun ls hl => ?_)
                refine lv_goto (tgt := 18) hx hb dX4_addUp_50 (by decide) ?_
                cases h
                exact ih9 _ _ _ _ _ hn9 G (lv_sub hl [1, 2, 3, 0] rfl)
          exact L9 n _ _ _ _ _ hb9 G (lv_sub hl [1, 2, 3, 0] rfl)
  exact L1 n _ _ _ _ _ hb1 G (lv_sub hl [1, 2, 0] rfl)
def m_X4_sumOf (t : Nat) (a1 : Int32) (c : gm) : Option (Int32) :=
  (if a1 < 0 then some 0 else gc (gck t = 4) ((if (nI 256) ≤ a1 then some 0 else gc (0 ≤ a1.toInt ∧ a1.toInt < 256) (some (c.1 (t + 1) a1.toNatClampNeg)))))
abbrev rmX4_sumOf : Room := { frames := 0, cells := 0, slots := 0, locals := 0 }
set_option maxHeartbeats 4000000 in
set_option maxRecDepth 100000 in
theorem c_X4_sumOf (l : Launch) (sa : gSa) (D : va_G) (ad : Nat → Nat) (cy : Nat → ClassId) (N sz : Nat) (hN : 55 ≤ N) (hI : gI ad N) (c d0 : gm) {t : Nat} {a1 : Int32} {rZ : Int32} (h : m_X4_sumOf t a1 c = some rZ) : Met l yX4_sumOf wsX4_sumOf rmX4_sumOf (va_Pc [.ref (ad t), .int a1] (gP sa D ad cy N sz c d0)) (va_Qi (fun (z : Int32) (_ : Unit) => z = rZ) (fun _ U => gE D ad cy N c d0 U) (gA ad N sz)) 0 0 (gA ad N sz) := by
  refine Met.ofW (cc := cX4_sumOf) (maxL := 2) (ret := (some .int)) (by decide) rfl ?_
  intro p e s m args below meth cod s₁ B hml hv
  obtain ⟨rfl, hsz, hP, hK, hZ⟩ := hv
  have hx := B.exec
  have hb := B.bytes
  have hr := B.returns
  have hts := atoms_spec (ws := wsX4_sumOf) B.pre
  have hown : s.vm.findClass RX4 = some m.cls := findClass_of_methodNamed B.named
  have hlocks := B.notSynchronized
  subst hsz
  have hl := lv_entry ([.ref (ad t), .int a1]) (n := 2) (Nat.le_of_ble_eq_true rfl)
  rw [lg_entry_eq]
  generalize (lg_sl ([.ref (ad t), .int a1]) ++ List.replicate (2 - (lg_sl ([.ref (ad t), .int a1])).length) Slot.unset).toArray = ls at hl ⊢
  have hl : lv_has ls 2 [(0, .ref (ad t)), (1, .int a1)] := hl
  have in4 : ∀ w ∈ wsX40, w ∈ wsX4_sumOf := by decide +kernel
  generalize hargs : ([.ref (ad t), .int a1] : List Value).toArray = args at *
  generalize hAe : gA ad N s.heap.size = A
  have F : gF sa D ad cy N A p s m args cod cX4_sumOf 2 wsX4_sumOf RX4 := ⟨hx, hb, hml, hown, hts, hK, hI, by rw [← hAe]; exact gA_ad, by rw [← hAe]; exact gA_sz, by rw [← hAe]; exact hZ⟩
  have G : gW D ad cy N A s.heap c d0 s.heap [] := ⟨hP, va_S.rf⟩
  generalize hQ : MQ below (va_Qi (fun (z : Int32) (_ : Unit) => z = rZ) (fun _ U => gE D ad cy N c d0 U) A) args s 0 0 A = Q
  suffices hgen : ∀ (H : Heap) (locs : List Loc), gW D ad cy N A s.heap c d0 H locs → W p l e rmX4_sumOf s m args below meth cod H locs 0 0 Q (F0 m 0 ls []) from hgen _ _ G
  clear G
  intro H locs G
  unfold m_X4_sumOf at h
  refine lv_iload_n hx hb dX4_sumOf_0 rfl (lv_at hl 1 rfl) ?_
  refine lv_if_lt (tgt := 22) hx hb dX4_sumOf_1 (by decide) (fun q1 => ?_) (fun q1 => ?_)
  · replace h := gt_s q1 h
    refine lv_iconst (v := 0) hx hb dX4_sumOf_22 (by decide) ?_
    cases h
    rw [← hQ]
    exact gx_iret F G hr hlocks dX4_sumOf_23
  · replace h := gf_s q1 h
    refine lv_iload_n hx hb dX4_sumOf_4 rfl (lv_at hl 1 rfl) ?_
    refine lv_aload_n hx hb dX4_sumOf_5 rfl (lv_at hl 0 rfl) ?_
    obtain ⟨hk2, h⟩ := gc_s h
    have ht3 : t < N := Nat.lt_of_lt_of_le (gck_lt4 hk2) hN
    refine fg_4_sums F G hk2 ht3 in4 (by decide +kernel) dX4_sumOf_6 ?_
    obtain ⟨hk4, hn6⟩ := gka_4_sums hk2
    have ht5 : (t + 1) < N := Nat.lt_of_lt_of_le (gck_lt12 hk4) hN
    refine gx_ial F G hk4 ht5 hn6 dX4_sumOf_9 ?_
    refine lv_icmp_ge (tgt := 22) hx hb dX4_sumOf_10 (by decide) (fun q7 => ?_) (fun q7 => ?_)
    · replace h := gt_s q7 h
      refine lv_iconst (v := 0) hx hb dX4_sumOf_22 (by decide) ?_
      cases h
      rw [← hQ]
      exact gx_iret F G hr hlocks dX4_sumOf_23
    · replace h := gf_s q7 h
      refine lv_aload_n hx hb dX4_sumOf_13 rfl (lv_at hl 0 rfl) ?_
      refine fg_4_sums F G hk2 ht3 in4 (by decide +kernel) dX4_sumOf_14 ?_
      refine lv_iload_n hx hb dX4_sumOf_17 rfl (lv_at hl 1 rfl) ?_
      obtain ⟨hi8, h⟩ := gc_s h
      refine gx_ia F G hk4 ht5 hn6 hi8 dX4_sumOf_18 ?_
      refine lv_goto (tgt := 23) hx hb dX4_sumOf_19 (by decide) ?_
      cases h
      rw [← hQ]
      exact gx_iret F G hr hlocks dX4_sumOf_23
def m_X4_seekAmounts_L38 (t : Nat) (y11 : Int32) (y16 : Int32) (c17 : gm) : Option ((Int32 × gm) ⊕ (gm)) :=
  (if y16 ≤ 0 then some (.inr c17) else gb (m_X4_sumOf t y16 c17) (fun (r22 : Int32) => gb (m_X4_sumOf t y11 c17) (fun (r24 : Int32) => gv ((2 * r22) - r24) (fun (x25 : Int32) => gj (fun (c26 : gm) => gv ((y16 - 1) &&& y11) (fun (x28 : Int32) => some (.inl (x28, c26)))) (fun K27 => (if x25 ≤ 0 then K27 c17 else (if (nI 481) ≤ x25 then K27 c17 else gc (0 ≤ x25.toInt ∧ x25.toInt < 481) (gv (gm_r c17 (t + 2) (upd (c17.1 (t + 2)) x25.toNatClampNeg (vp_nar .boolean 1))) (fun (c35 : gm) => K27 c35)))))))))
def m_X4_seekAmounts_L31 (n : Nat) (t : Nat) (a2 : Int32) (y11 : Int32) (c12 : gm) : Option ((Int32 × gm) ⊕ (gm)) :=
  (if y11 ≤ 0 then some (.inr c12) else gb (gloop (gu2 (fun (y16 : Int32) (c17 : gm) => m_X4_seekAmounts_L38 t y11 y16 c17)) n (y11, c12)) (fun (c18 : gm) => gv ((y11 - 1) &&& a2) (fun (x19 : Int32) => some (.inl (x19, c18)))))
def m_X4_seekAmounts_L7 (t : Nat) (y7 : Int32) (c8 : gm) : Option ((Int32 × gm) ⊕ (gm)) :=
  (if (nI 481) ≤ y7 then some (.inr c8) else gc (0 ≤ y7.toInt ∧ y7.toInt < 481) (gv (gm_r c8 (t + 2) (upd (c8.1 (t + 2)) y7.toNatClampNeg (vp_nar .boolean 0))) (fun (c41 : gm) => gv (y7 + 1) (fun (x42 : Int32) => some (.inl (x42, c41))))))
def m_X4_seekAmounts (n : Nat) (t : Nat) (a1 : Nat) (a2 : Int32) (c : gm) : Option (gm) :=
  gc (gck t = 4) (gb (m_X4_addUp n t a1 c) (fun (c5 : gm) => gb (gloop (gu2 (fun (y7 : Int32) (c8 : gm) => m_X4_seekAmounts_L7 t y7 c8)) n (0, c5)) (fun (c9 : gm) => gb (gloop (gu2 (fun (y11 : Int32) (c12 : gm) => m_X4_seekAmounts_L31 n t a2 y11 c12)) n (a2, c9)) (fun (c13 : gm) => some c13))))
abbrev rmX4_seekAmounts : Room := { frames := 3, cells := 0, slots := 0, locals := 65 }
set_option maxHeartbeats 4000000 in
set_option maxRecDepth 100000 in
theorem c_X4_seekAmounts (l : Launch) (sa : gSa) (D : va_G) (ad : Nat → Nat) (cy : Nat → ClassId) (N sz : Nat) (hN : 55 ≤ N) (hI : gI ad N) (c d0 : gm) {n : Nat} {t : Nat} {a1 : Nat} {a2 : Int32} {cZ : gm} (h : m_X4_seekAmounts n t a1 a2 c = some cZ) : Met l yX4_seekAmounts wsX4_seekAmounts rmX4_seekAmounts (va_Pc [.ref (ad t), .ref (ad a1), .int a2] (gP sa D ad cy N sz c d0)) (va_Qv (fun (_ : Unit) => True) (fun _ U => gE D ad cy N cZ d0 U) (gA ad N sz)) 0 0 (gA ad N sz) := by
  refine Met.ofW (cc := cX4_seekAmounts) (maxL := 6) (ret := none) (by decide) rfl ?_
  intro p e s m args below meth cod s₁ B hml hv
  obtain ⟨rfl, hsz, hP, hK, hZ⟩ := hv
  have hx := B.exec
  have hb := B.bytes
  have hr := B.returns
  have hts := atoms_spec (ws := wsX4_seekAmounts) B.pre
  have hown : s.vm.findClass RX4 = some m.cls := findClass_of_methodNamed B.named
  have hlocks := B.notSynchronized
  subst hsz
  have hl := lv_entry ([.ref (ad t), .ref (ad a1), .int a2]) (n := 6) (Nat.le_of_ble_eq_true rfl)
  rw [lg_entry_eq]
  generalize (lg_sl ([.ref (ad t), .ref (ad a1), .int a2]) ++ List.replicate (6 - (lg_sl ([.ref (ad t), .ref (ad a1), .int a2])).length) Slot.unset).toArray = ls at hl ⊢
  have hl : lv_has ls 6 [(0, .ref (ad t)), (1, .ref (ad a1)), (2, .int a2)] := hl
  have in4 : ∀ w ∈ wsX40, w ∈ wsX4_seekAmounts := by decide +kernel
  generalize hargs : ([.ref (ad t), .ref (ad a1), .int a2] : List Value).toArray = args at *
  generalize hAe : gA ad N s.heap.size = A
  have F : gF sa D ad cy N A p s m args cod cX4_seekAmounts 6 wsX4_seekAmounts RX4 := ⟨hx, hb, hml, hown, hts, hK, hI, by rw [← hAe]; exact gA_ad, by rw [← hAe]; exact gA_sz, by rw [← hAe]; exact hZ⟩
  have G : gW D ad cy N A s.heap c d0 s.heap [] := ⟨hP, va_S.rf⟩
  generalize hQ : MQ below (va_Qv (fun (_ : Unit) => True) (fun _ U => gE D ad cy N cZ d0 U) A) args s 0 0 A = Q
  suffices hgen : ∀ (H : Heap) (locs : List Loc), gW D ad cy N A s.heap c d0 H locs → W p l e rmX4_seekAmounts s m args below meth cod H locs 0 0 Q (F0 m 0 ls []) from hgen _ _ G
  clear G
  intro H locs G
  unfold m_X4_seekAmounts at h
  refine lv_aload_n hx hb dX4_seekAmounts_0 rfl (lv_at hl 0 rfl) ?_
  refine lv_aload_n hx hb dX4_seekAmounts_1 rfl (lv_at hl 1 rfl) ?_
  obtain ⟨hk1, h⟩ := gc_s h
  have ht2 : t < N := Nat.lt_of_lt_of_le (gck_lt4 hk1) hN
  obtain ⟨c5, hc3, h⟩ := gb_s h
  refine gx_callv F G (va_runV (As := [.ref (ad a1)]) (rest := []) (gx_fix F) (c_X4_addUp l sa D ad cy N H.size hN hI c d0 hc3) (cwV 1 hts gX4_seekAmounts_X4_addUp rfl rfl rfl (by decide +kernel) ⟨by decide, by decide⟩) (gx_rec F G ht2 (gwe_4 hk1) rfl) rfl rfl hl.1 rfl (lv_room (Nat.le_of_ble_eq_true rfl)) dX4_seekAmounts_2 ⟨Nat.zero_le _, Nat.zero_le _⟩) (fun H locs G => ?_)
  refine lv_iconst (v := 0) hx hb dX4_seekAmounts_5 (by decide) ?_
  refine lv_istore_n (lv' := [(3, .int 0), (0, .ref (ad t)), (1, .ref (ad a1)), (2, .int a2)]) hx hb dX4_seekAmounts_6 rfl hl (by decide) rfl (fun ls hl => ?_)
  obtain ⟨b6, hb6, hK6⟩ := gb_s h
  have E6 : ∀ (c9 : gm) (H : Heap) (locs : List Loc) (ls : Array Slot), (c9 : gm) = b6 → gW D ad cy N A s.heap c9 d0 H locs → lv_has ls 6 [(0, .ref (ad t)), (2, .int a2)] → W p l e rmX4_seekAmounts s m args below meth cod H locs 0 0 Q (F0 m 29 ls []) := by
    intro c9 H locs ls hq6 G hl
    subst hq6
    replace hK6 := hK6
    have h := hK6
    refine lv_iload_n hx hb dX4_seekAmounts_29 rfl (lv_at hl 1 rfl) ?_
    refine lv_istore_n (lv' := [(3, .int a2), (0, .ref (ad t)), (2, .int a2)]) hx hb dX4_seekAmounts_30 rfl hl (by decide) rfl (fun ls hl => ?_)
    obtain ⟨b10, hb10, hK10⟩ := gb_s h
    have E10 : ∀ (c13 : gm) (H : Heap) (locs : List Loc) (ls : Array Slot), (c13 : gm) = b10 → gW D ad cy N A s.heap c13 d0 H locs → lv_has ls 6 [] → W p l e rmX4_seekAmounts s m args below meth cod H locs 0 0 Q (F0 m 102 ls []) := by
      intro c13 H locs ls hq10 G hl
      subst hq10
      replace hK10 := hK10
      have h := hK10
      cases h
      rw [← hQ]
      exact gx_vret F G hr hlocks dX4_seekAmounts_102
    have L10 : ∀ (n9 : Nat) (y11 : Int32) (c12 : gm) (H : Heap) (locs : List Loc) (ls : Array Slot), gloop (gu2 (fun (y11 : Int32) (c12 : gm) => m_X4_seekAmounts_L31 n t a2 y11 c12)) n9 (y11, c12) = some b10 → gW D ad cy N A s.heap c12 d0 H locs → lv_has ls 6 [(0, .ref (ad t)), (2, .int a2), (3, .int y11)] → W p l e rmX4_seekAmounts s m args below meth cod H locs 0 0 Q (F0 m 31 ls []) := by
      intro n9
      induction n9 with
      | zero => intro y11 c12 H locs ls h; exact (gloop_0 h).elim
      | succ n9 ih =>
        intro y11 c12 H locs ls h G hl
        have ih10 := ih
        obtain ⟨o10, h, hn10⟩ := gloop_s h
        replace h := gu2_s h
        unfold m_X4_seekAmounts_L31 at h
        refine lv_iload_n hx hb dX4_seekAmounts_31 rfl (lv_at hl 2 rfl) ?_
        refine lv_if_le (tgt := 102) hx hb dX4_seekAmounts_32 (by decide) (fun q14 => ?_) (fun q14 => ?_)
        · replace h := gt_s q14 h
          cases h
          exact E10 _ _ _ _ (gnx_r hn10) G (lv_sub hl [] rfl)
        · replace h := gf_s q14 h
          refine lv_iload_n hx hb dX4_seekAmounts_35 rfl (lv_at hl 2 rfl) ?_
          refine lv_istore (lv' := [(4, .int y11), (0, .ref (ad t)), (2, .int a2), (3, .int y11)]) hx hb dX4_seekAmounts_36 hl (by decide) rfl (fun ls hl => ?_)
          obtain ⟨b15, hb15, hK15⟩ := gb_s h
          have E15 : ∀ (c18 : gm) (H : Heap) (locs : List Loc) (ls : Array Slot), (c18 : gm) = b15 → gW D ad cy N A s.heap c18 d0 H locs → lv_has ls 6 [(0, .ref (ad t)), (2, .int a2), (3, .int y11)] → W p l e rmX4_seekAmounts s m args below meth cod H locs 0 0 Q (F0 m 93 ls []) := by
            intro c18 H locs ls hq15 G hl
            subst hq15
            replace hK15 := hK15
            have h := hK15
            refine lv_iload_n hx hb dX4_seekAmounts_93 rfl (lv_at hl 2 rfl) ?_
            refine lv_iconst (v := 1) hx hb dX4_seekAmounts_94 (by decide) ?_
            refine lv_isub hx hb dX4_seekAmounts_95 ?_
            refine lv_iload_n hx hb dX4_seekAmounts_96 rfl (lv_at hl 1 rfl) ?_
            refine lv_iand hx hb dX4_seekAmounts_97 ?_
            refine lv_topi (fun x19 ex19 => ?_)
            replace h := gv_s h x19 ex19
            refine lv_istore_n (lv' := [(3, .int x19), (0, .ref (ad t)), (2, .int a2)]) hx hb dX4_seekAmounts_98 rfl hl (by decide) rfl (fun ls hl => ?_)
            refine lv_goto (tgt := 31) hx hb dX4_seekAmounts_99 (by decide) ?_
            cases h
            exact ih10 _ _ _ _ _ hn10 G (lv_sub hl [1, 2, 0] rfl)
          have L15 : ∀ (n9 : Nat) (y16 : Int32) (c17 : gm) (H : Heap) (locs : List Loc) (ls : Array Slot), gloop (gu2 (fun (y16 : Int32) (c17 : gm) => m_X4_seekAmounts_L38 t y11 y16 c17)) n9 (y16, c17) = some b15 → gW D ad cy N A s.heap c17 d0 H locs → lv_has ls 6 [(0, .ref (ad t)), (2, .int a2), (3, .int y11), (4, .int y16)] → W p l e rmX4_seekAmounts s m args below meth cod H locs 0 0 Q (F0 m 38 ls []) := by
            intro n9
            induction n9 with
            | zero => intro y16 c17 H locs ls h; exact (gloop_0 h).elim
            | succ n9 ih =>
              intro y16 c17 H locs ls h G hl
              have ih15 := ih
              obtain ⟨o15, h, hn15⟩ := gloop_s h
              replace h := gu2_s h
              unfold m_X4_seekAmounts_L38 at h
              refine lv_iload hx hb dX4_seekAmounts_38 (lv_at hl 3 rfl) ?_
              refine lv_if_le (tgt := 93) hx hb dX4_seekAmounts_40 (by decide) (fun q20 => ?_) (fun q20 => ?_)
              · replace h := gt_s q20 h
                cases h
                exact E15 _ _ _ _ (gnx_r hn15) G (lv_sub hl [0, 1, 2] rfl)
              · replace h := gf_s q20 h
                refine lv_iconst (v := 2) hx hb dX4_seekAmounts_43 (by decide) ?_
                refine lv_aload_n hx hb dX4_seekAmounts_44 rfl (lv_at hl 0 rfl) ?_
                refine lv_iload hx hb dX4_seekAmounts_45 (lv_at hl 3 rfl) ?_
                obtain ⟨r22, hc21, h⟩ := gb_s h
                refine gx_calli F G (va_runV (As := [.int y16]) (rest := [.int 2]) (gx_fix F) (c_X4_sumOf l sa D ad cy N H.size hN hI c17 d0 hc21) (cwV 1 hts gX4_seekAmounts_X4_sumOf rfl rfl rfl (by decide +kernel) ⟨by decide, by decide⟩) (gx_rec F G ht2 (gwe_4 hk1) rfl) rfl rfl hl.1 rfl (lv_room (Nat.le_of_ble_eq_true rfl)) dX4_seekAmounts_47 ⟨Nat.zero_le _, Nat.zero_le _⟩) (fun H locs G => ?_)
                refine lv_imul hx hb dX4_seekAmounts_50 ?_
                refine lv_aload_n hx hb dX4_seekAmounts_51 rfl (lv_at hl 0 rfl) ?_
                refine lv_iload_n hx hb dX4_seekAmounts_52 rfl (lv_at hl 2 rfl) ?_
                obtain ⟨r24, hc23, h⟩ := gb_s h
                refine gx_calli F G (va_runV (As := [.int y11]) (rest := [.int (2 * r22)]) (gx_fix F) (c_X4_sumOf l sa D ad cy N H.size hN hI c17 d0 hc23) (cwV 1 hts gX4_seekAmounts_X4_sumOf rfl rfl rfl (by decide +kernel) ⟨by decide, by decide⟩) (gx_rec F G ht2 (gwe_4 hk1) rfl) rfl rfl hl.1 rfl (lv_room (Nat.le_of_ble_eq_true rfl)) dX4_seekAmounts_53 ⟨Nat.zero_le _, Nat.zero_le _⟩) (fun H locs G => ?_)
                refine lv_isub hx hb dX4_seekAmounts_56 ?_
                refine lv_topi (fun x25 ex25 => ?_)
                replace h := gv_s h x25 ex25
                refine lv_istore (lv' := [(5, .int x25), (0, .ref (ad t)), (2, .int a2), (3, .int y11), (4, .int y16)]) hx hb dX4_seekAmounts_57 hl (by decide) rfl (fun ls hl => ?_)
                refine lv_iload hx hb dX4_seekAmounts_59 (lv_at hl 0 rfl) ?_
                obtain ⟨K27, eK27, h⟩ := gj_s h
                have JK27 : ∀ (c26 : gm) (H : Heap) (locs : List Loc) (ls : Array Slot), K27 c26 = some o15 → gW D ad cy N A s.heap c26 d0 H locs → lv_has ls 6 [(0, .ref (ad t)), (2, .int a2), (3, .int y11), (4, .int y16)] → W p l e rmX4_seekAmounts s m args below meth cod H locs 0 0 Q (F0 m 82 ls []) := by
                  intro c26 H locs ls h G hl
                  rw [eK27] at h
                  refine lv_iload hx hb dX4_seekAmounts_82 (lv_at hl 3 rfl) ?_
                  refine lv_iconst (v := 1) hx hb dX4_seekAmounts_84 (by decide) ?_
                  refine lv_isub hx hb dX4_seekAmounts_85 ?_
                  refine lv_iload_n hx hb dX4_seekAmounts_86 rfl (lv_at hl 2 rfl) ?_
                  refine lv_iand hx hb dX4_seekAmounts_87 ?_
                  refine lv_topi (fun x28 ex28 => ?_)
                  replace h := gv_s h x28 ex28
                  refine lv_istore (lv' := [(4, .int x28), (0, .ref (ad t)), (2, .int a2), (3, .int y11)]) hx hb dX4_seekAmounts_88 hl (by decide) rfl (fun ls hl => ?_)
                  refine lv_goto (tgt := 38) hx hb dX4_seekAmounts_90 (by decide) ?_
                  cases h
                  exact ih15 _ _ _ _ _ hn15 G (lv_sub hl [1, 2, 3, 0] rfl)
                refine lv_if_le (tgt := 82) hx hb dX4_seekAmounts_61 (by decide) (fun q29 => ?_) (fun q29 => ?_)
                · replace h := gt_s q29 h
                  exact JK27 _ _ _ _ h G (lv_sub hl [1, 2, 3, 4] rfl)
                · replace h := gf_s q29 h
                  refine lv_iload hx hb dX4_seekAmounts_64 (lv_at hl 0 rfl) ?_
                  refine lv_aload_n hx hb dX4_seekAmounts_66 rfl (lv_at hl 1 rfl) ?_
                  refine fg_4_matched F G hk1 ht2 in4 (by decide +kernel) dX4_seekAmounts_67 ?_
                  obtain ⟨hk30, hn32⟩ := gka_4_matched hk1
                  have ht31 : (t + 2) < N := Nat.lt_of_lt_of_le (gck_lt14 hk30) hN
                  refine gx_zal F G hk30 ht31 hn32 dX4_seekAmounts_70 ?_
                  refine lv_icmp_ge (tgt := 82) hx hb dX4_seekAmounts_71 (by decide) (fun q33 => ?_) (fun q33 => ?_)
                  · replace h := gt_s q33 h
                    exact JK27 _ _ _ _ h G (lv_sub hl [1, 2, 3, 4] rfl)
                  · replace h := gf_s q33 h
                    refine lv_aload_n hx hb dX4_seekAmounts_74 rfl (lv_at hl 1 rfl) ?_
                    refine fg_4_matched F G hk1 ht2 in4 (by decide +kernel) dX4_seekAmounts_75 ?_
                    refine lv_iload hx hb dX4_seekAmounts_78 (lv_at hl 0 rfl) ?_
                    refine lv_iconst (v := 1) hx hb dX4_seekAmounts_80 (by decide) ?_
                    obtain ⟨hi34, h⟩ := gc_s h
                    refine gx_zs F G hk30 ht31 hn32 hi34 dX4_seekAmounts_81 (fun H locs G => ?_)
                    obtain ⟨c35, ec35⟩ : ∃ z, z = gm_r c17 (t + 2) (upd (c17.1 (t + 2)) x25.toNatClampNeg (vp_nar .boolean 1)) := ⟨_, rfl⟩
                    rw [← ec35] at G
                    replace h := gv_s h c35 ec35
                    exact JK27 _ _ _ _ h G (lv_sub hl [1, 2, 3, 4] rfl)
          exact L15 n _ _ _ _ _ hb15 G (lv_sub hl [1, 2, 3, 0] rfl)
    exact L10 n _ _ _ _ _ hb10 G (lv_sub hl [1, 2, 0] rfl)
  have L6 : ∀ (n9 : Nat) (y7 : Int32) (c8 : gm) (H : Heap) (locs : List Loc) (ls : Array Slot), gloop (gu2 (fun (y7 : Int32) (c8 : gm) => m_X4_seekAmounts_L7 t y7 c8)) n9 (y7, c8) = some b6 → gW D ad cy N A s.heap c8 d0 H locs → lv_has ls 6 [(0, .ref (ad t)), (2, .int a2), (3, .int y7)] → W p l e rmX4_seekAmounts s m args below meth cod H locs 0 0 Q (F0 m 7 ls []) := by
    intro n9
    induction n9 with
    | zero => intro y7 c8 H locs ls h; exact (gloop_0 h).elim
    | succ n9 ih =>
      intro y7 c8 H locs ls h G hl
      have ih6 := ih
      obtain ⟨o6, h, hn6⟩ := gloop_s h
      replace h := gu2_s h
      unfold m_X4_seekAmounts_L7 at h
      refine lv_iload_n hx hb dX4_seekAmounts_7 rfl (lv_at hl 2 rfl) ?_
      refine lv_aload_n hx hb dX4_seekAmounts_8 rfl (lv_at hl 0 rfl) ?_
      refine fg_4_matched F G hk1 ht2 in4 (by decide +kernel) dX4_seekAmounts_9 ?_
      obtain ⟨hk36, hn38⟩ := gka_4_matched hk1
      have ht37 : (t + 2) < N := Nat.lt_of_lt_of_le (gck_lt14 hk36) hN
      refine gx_zal F G hk36 ht37 hn38 dX4_seekAmounts_12 ?_
      refine lv_icmp_ge (tgt := 29) hx hb dX4_seekAmounts_13 (by decide) (fun q39 => ?_) (fun q39 => ?_)
      · replace h := gt_s q39 h
        cases h
        exact E6 _ _ _ _ (gnx_r hn6) G (lv_sub hl [0, 1] rfl)
      · replace h := gf_s q39 h
        refine lv_aload_n hx hb dX4_seekAmounts_16 rfl (lv_at hl 0 rfl) ?_
        refine fg_4_matched F G hk1 ht2 in4 (by decide +kernel) dX4_seekAmounts_17 ?_
        refine lv_iload_n hx hb dX4_seekAmounts_20 rfl (lv_at hl 2 rfl) ?_
        refine lv_iconst (v := 0) hx hb dX4_seekAmounts_21 (by decide) ?_
        obtain ⟨hi40, h⟩ := gc_s h
        refine gx_zs F G hk36 ht37 hn38 hi40 dX4_seekAmounts_22 (fun H locs G => ?_)
        obtain ⟨c41, ec41⟩ : ∃ z, z = gm_r c8 (t + 2) (upd (c8.1 (t + 2)) y7.toNatClampNeg (vp_nar .boolean 0)) := ⟨_, rfl⟩
        rw [← ec41] at G
        replace h := gv_s h c41 ec41
        obtain ⟨x42, ex42⟩ : ∃ z : Int32, z = y7 + 1 := ⟨_, rfl⟩
        replace h := gv_s h x42 ex42
        refine lv_iinc (v := x42) (lv' := [(3, .int x42), (0, .ref (ad t)), (2, .int a2)]) hx hb dX4_seekAmounts_23 hl (k := 2) rfl (by rw [ex42]; rfl) (by decide) rfl (fun ls hl => ?_)
        refine lv_goto (tgt := 7) hx hb dX4_seekAmounts_26 (by decide) ?_
        cases h
        exact ih6 _ _ _ _ _ hn6 G (lv_sub hl [1, 2, 0] rfl)
  exact L6 n _ _ _ _ _ hb6 G (lv_sub hl [1, 3, 0] rfl)
def m_X4_amounts_L4 (t : Nat) (c : gm) (y2 : Int32) (y3 : Int32) : Option ((Int32 × Int32) ⊕ (Int32)) :=
  gc (gck t = 4) ((if (nI 481) ≤ y3 then some (.inr y2) else gc (0 ≤ y3.toInt ∧ y3.toInt < 481) (gj (fun (v12 : Int32) => gv (y2 + v12) (fun (x14 : Int32) => gv (y3 + 1) (fun (x15 : Int32) => some (.inl (x14, x15))))) (fun K13 => (if (c.1 (t + 2) y3.toNatClampNeg) = 0 then K13 0 else K13 1)))))
def m_X4_amounts (n : Nat) (t : Nat) (c : gm) : Option (Int32) :=
  gb (gloop (gu2 (fun (y2 : Int32) (y3 : Int32) => m_X4_amounts_L4 t c y2 y3)) n (0, 1)) (fun (z4 : Int32) => some z4)
abbrev rmX4_amounts : Room := { frames := 0, cells := 0, slots := 0, locals := 0 }
set_option maxHeartbeats 4000000 in
set_option maxRecDepth 100000 in
theorem c_X4_amounts (l : Launch) (sa : gSa) (D : va_G) (ad : Nat → Nat) (cy : Nat → ClassId) (N sz : Nat) (hN : 55 ≤ N) (hI : gI ad N) (c d0 : gm) {n : Nat} {t : Nat} {rZ : Int32} (h : m_X4_amounts n t c = some rZ) : Met l yX4_amounts wsX4_amounts rmX4_amounts (va_Pc [.ref (ad t)] (gP sa D ad cy N sz c d0)) (va_Qi (fun (z : Int32) (_ : Unit) => z = rZ) (fun _ U => gE D ad cy N c d0 U) (gA ad N sz)) 0 0 (gA ad N sz) := by
  refine Met.ofW (cc := cX4_amounts) (maxL := 3) (ret := (some .int)) (by decide) rfl ?_
  intro p e s m args below meth cod s₁ B hml hv
  obtain ⟨rfl, hsz, hP, hK, hZ⟩ := hv
  have hx := B.exec
  have hb := B.bytes
  have hr := B.returns
  have hts := atoms_spec (ws := wsX4_amounts) B.pre
  have hown : s.vm.findClass RX4 = some m.cls := findClass_of_methodNamed B.named
  have hlocks := B.notSynchronized
  subst hsz
  have hl := lv_entry ([.ref (ad t)]) (n := 3) (Nat.le_of_ble_eq_true rfl)
  rw [lg_entry_eq]
  generalize (lg_sl ([.ref (ad t)]) ++ List.replicate (3 - (lg_sl ([.ref (ad t)])).length) Slot.unset).toArray = ls at hl ⊢
  have hl : lv_has ls 3 [(0, .ref (ad t))] := hl
  have in4 : ∀ w ∈ wsX40, w ∈ wsX4_amounts := by decide +kernel
  generalize hargs : ([.ref (ad t)] : List Value).toArray = args at *
  generalize hAe : gA ad N s.heap.size = A
  have F : gF sa D ad cy N A p s m args cod cX4_amounts 3 wsX4_amounts RX4 := ⟨hx, hb, hml, hown, hts, hK, hI, by rw [← hAe]; exact gA_ad, by rw [← hAe]; exact gA_sz, by rw [← hAe]; exact hZ⟩
  have G : gW D ad cy N A s.heap c d0 s.heap [] := ⟨hP, va_S.rf⟩
  generalize hQ : MQ below (va_Qi (fun (z : Int32) (_ : Unit) => z = rZ) (fun _ U => gE D ad cy N c d0 U) A) args s 0 0 A = Q
  suffices hgen : ∀ (H : Heap) (locs : List Loc), gW D ad cy N A s.heap c d0 H locs → W p l e rmX4_amounts s m args below meth cod H locs 0 0 Q (F0 m 0 ls []) from hgen _ _ G
  clear G
  intro H locs G
  unfold m_X4_amounts at h
  refine lv_iconst (v := 0) hx hb dX4_amounts_0 (by decide) ?_
  refine lv_istore_n (lv' := [(1, .int 0), (0, .ref (ad t))]) hx hb dX4_amounts_1 rfl hl (by decide) rfl (fun ls hl => ?_)
  refine lv_iconst (v := 1) hx hb dX4_amounts_2 (by decide) ?_
  refine lv_istore_n (lv' := [(2, .int 1), (1, .int 0), (0, .ref (ad t))]) hx hb dX4_amounts_3 rfl hl (by decide) rfl (fun ls hl => ?_)
  obtain ⟨b1, hb1, hK1⟩ := gb_s h
  have E1 : ∀ (z4 : Int32) (H : Heap) (locs : List Loc) (ls : Array Slot), (z4 : Int32) = b1 → gW D ad cy N A s.heap c d0 H locs → lv_has ls 3 [(1, .int z4)] → W p l e rmX4_amounts s m args below meth cod H locs 0 0 Q (F0 m 36 ls []) := by
    intro z4 H locs ls hq1 G hl
    subst hq1
    replace hK1 := hK1
    have h := hK1
    refine lv_iload_n hx hb dX4_amounts_36 rfl (lv_at hl 0 rfl) ?_
    cases h
    rw [← hQ]
    exact gx_iret F G hr hlocks dX4_amounts_37
  have L1 : ∀ (n9 : Nat) (y2 : Int32) (y3 : Int32) (H : Heap) (locs : List Loc) (ls : Array Slot), gloop (gu2 (fun (y2 : Int32) (y3 : Int32) => m_X4_amounts_L4 t c y2 y3)) n9 (y2, y3) = some b1 → gW D ad cy N A s.heap c d0 H locs → lv_has ls 3 [(0, .ref (ad t)), (1, .int y2), (2, .int y3)] → W p l e rmX4_amounts s m args below meth cod H locs 0 0 Q (F0 m 4 ls []) := by
    intro n9
    induction n9 with
    | zero => intro y2 y3 H locs ls h; exact (gloop_0 h).elim
    | succ n9 ih =>
      intro y2 y3 H locs ls h G hl
      have ih1 := ih
      obtain ⟨o1, h, hn1⟩ := gloop_s h
      replace h := gu2_s h
      unfold m_X4_amounts_L4 at h
      refine lv_iload_n hx hb dX4_amounts_4 rfl (lv_at hl 2 rfl) ?_
      refine lv_aload_n hx hb dX4_amounts_5 rfl (lv_at hl 0 rfl) ?_
      obtain ⟨hk5, h⟩ := gc_s h
      have ht6 : t < N := Nat.lt_of_lt_of_le (gck_lt4 hk5) hN
      refine fg_4_matched F G hk5 ht6 in4 (by decide +kernel) dX4_amounts_6 ?_
      obtain ⟨hk7, hn9⟩ := gka_4_matched hk5
      have ht8 : (t + 2) < N := Nat.lt_of_lt_of_le (gck_lt14 hk7) hN
      refine gx_zal F G hk7 ht8 hn9 dX4_amounts_9 ?_
      refine lv_icmp_ge (tgt := 36) hx hb dX4_amounts_10 (by decide) (fun q10 => ?_) (fun q10 => ?_)
      · replace h := gt_s q10 h
        cases h
        exact E1 _ _ _ _ (gnx_r hn1) G (lv_sub hl [1] rfl)
      · replace h := gf_s q10 h
        refine lv_iload_n hx hb dX4_amounts_13 rfl (lv_at hl 1 rfl) ?_
        refine lv_aload_n hx hb dX4_amounts_14 rfl (lv_at hl 0 rfl) ?_
        refine fg_4_matched F G hk5 ht6 in4 (by decide +kernel) dX4_amounts_15 ?_
        refine lv_iload_n hx hb dX4_amounts_18 rfl (lv_at hl 2 rfl) ?_
        obtain ⟨hi11, h⟩ := gc_s h
        refine gx_za F G hk7 ht8 hn9 hi11 dX4_amounts_19 ?_
        obtain ⟨K13, eK13, h⟩ := gj_s h
        have JK13 : ∀ (v12 : Int32) (H : Heap) (locs : List Loc) (ls : Array Slot), K13 v12 = some o1 → gW D ad cy N A s.heap c d0 H locs → lv_has ls 3 [(0, .ref (ad t)), (2, .int y3)] → W p l e rmX4_amounts s m args below meth cod H locs 0 0 Q (F0 m 28 ls [.int v12, .int y2]) := by
          intro v12 H locs ls h G hl
          rw [eK13] at h
          refine lv_iadd hx hb dX4_amounts_28 ?_
          refine lv_topi (fun x14 ex14 => ?_)
          replace h := gv_s h x14 ex14
          refine lv_istore_n (lv' := [(1, .int x14), (0, .ref (ad t)), (2, .int y3)]) hx hb dX4_amounts_29 rfl hl (by decide) rfl (fun ls hl => ?_)
          obtain ⟨x15, ex15⟩ : ∃ z : Int32, z = y3 + 1 := ⟨_, rfl⟩
          replace h := gv_s h x15 ex15
          refine lv_iinc (v := x15) (lv' := [(2, .int x15), (1, .int x14), (0, .ref (ad t))]) hx hb dX4_amounts_30 hl (k := 2) rfl (by rw [ex15]; rfl) (by decide) rfl (fun ls hl => ?_)
          refine lv_goto (tgt := 4) hx hb dX4_amounts_33 (by decide) ?_
          cases h
          exact ih1 _ _ _ _ _ hn1 G (lv_sub hl [2, 1, 0] rfl)
        refine lv_if_eq (tgt := 27) hx hb dX4_amounts_20 (by decide) (fun q16 => ?_) (fun q16 => ?_)
        · replace h := gt_s q16 h
          refine lv_iconst (v := 0) hx hb dX4_amounts_27 (by decide) ?_
          exact JK13 _ _ _ _ h G (lv_sub hl [0, 2] rfl)
        · replace h := gf_s q16 h
          refine lv_iconst (v := 1) hx hb dX4_amounts_23 (by decide) ?_
          refine lv_goto (tgt := 28) hx hb dX4_amounts_24 (by decide) ?_
          exact JK13 _ _ _ _ h G (lv_sub hl [0, 2] rfl)
  exact L1 n _ _ _ _ _ hb1 G (lv_sub hl [2, 1, 0] rfl)
def m_X4_gap_L2 (t : Nat) (c : gm) (y2 : Int32) : Option ((Int32) ⊕ ((Int32) ⊕ (Unit))) :=
  gc (gck t = 4) ((if (nI 481) ≤ y2 then some (.inr (.inr ())) else gc (0 ≤ y2.toInt ∧ y2.toInt < 481) ((if (c.1 (t + 2) y2.toNatClampNeg) = 0 then some (.inr (.inl y2)) else gv (y2 + 1) (fun (x16 : Int32) => some (.inl x16))))))
def m_X4_gap (n : Nat) (t : Nat) (c : gm) : Option (Int32) :=
  gb (gloop (fun (y2 : Int32) => m_X4_gap_L2 t c y2) n 1) (gsm (fun (_ : Unit) => gc (gck t = 4) (some (nI 481))))
abbrev rmX4_gap : Room := { frames := 0, cells := 0, slots := 0, locals := 0 }
set_option maxHeartbeats 4000000 in
set_option maxRecDepth 100000 in
theorem c_X4_gap (l : Launch) (sa : gSa) (D : va_G) (ad : Nat → Nat) (cy : Nat → ClassId) (N sz : Nat) (hN : 55 ≤ N) (hI : gI ad N) (c d0 : gm) {n : Nat} {t : Nat} {rZ : Int32} (h : m_X4_gap n t c = some rZ) : Met l yX4_gap wsX4_gap rmX4_gap (va_Pc [.ref (ad t)] (gP sa D ad cy N sz c d0)) (va_Qi (fun (z : Int32) (_ : Unit) => z = rZ) (fun _ U => gE D ad cy N c d0 U) (gA ad N sz)) 0 0 (gA ad N sz) := by
  refine Met.ofW (cc := cX4_gap) (maxL := 2) (ret := (some .int)) (by decide) rfl ?_
  intro p e s m args below meth cod s₁ B hml hv
  obtain ⟨rfl, hsz, hP, hK, hZ⟩ := hv
  have hx := B.exec
  have hb := B.bytes
  have hr := B.returns
  have hts := atoms_spec (ws := wsX4_gap) B.pre
  have hown : s.vm.findClass RX4 = some m.cls := findClass_of_methodNamed B.named
  have hlocks := B.notSynchronized
  subst hsz
  have hl := lv_entry ([.ref (ad t)]) (n := 2) (Nat.le_of_ble_eq_true rfl)
  rw [lg_entry_eq]
  generalize (lg_sl ([.ref (ad t)]) ++ List.replicate (2 - (lg_sl ([.ref (ad t)])).length) Slot.unset).toArray = ls at hl ⊢
  have hl : lv_has ls 2 [(0, .ref (ad t))] := hl
  have in4 : ∀ w ∈ wsX40, w ∈ wsX4_gap := by decide +kernel
  generalize hargs : ([.ref (ad t)] : List Value).toArray = args at *
  generalize hAe : gA ad N s.heap.size = A
  have F : gF sa D ad cy N A p s m args cod cX4_gap 2 wsX4_gap RX4 := ⟨hx, hb, hml, hown, hts, hK, hI, by rw [← hAe]; exact gA_ad, by rw [← hAe]; exact gA_sz, by rw [← hAe]; exact hZ⟩
  have G : gW D ad cy N A s.heap c d0 s.heap [] := ⟨hP, va_S.rf⟩
  generalize hQ : MQ below (va_Qi (fun (z : Int32) (_ : Unit) => z = rZ) (fun _ U => gE D ad cy N c d0 U) A) args s 0 0 A = Q
  suffices hgen : ∀ (H : Heap) (locs : List Loc), gW D ad cy N A s.heap c d0 H locs → W p l e rmX4_gap s m args below meth cod H locs 0 0 Q (F0 m 0 ls []) from hgen _ _ G
  clear G
  intro H locs G
  unfold m_X4_gap at h
  refine lv_iconst (v := 1) hx hb dX4_gap_0 (by decide) ?_
  refine lv_istore_n (lv' := [(1, .int 1), (0, .ref (ad t))]) hx hb dX4_gap_1 rfl hl (by decide) rfl (fun ls hl => ?_)
  obtain ⟨b1, hb1, hK1⟩ := gb_s h
  have E1 : ∀ (H : Heap) (locs : List Loc) (ls : Array Slot), (Sum.inr () : (Int32) ⊕ (Unit)) = b1 → gW D ad cy N A s.heap c d0 H locs → lv_has ls 2 [(0, .ref (ad t))] → W p l e rmX4_gap s m args below meth cod H locs 0 0 Q (F0 m 28 ls []) := by
    intro  H locs ls hq1 G hl
    subst hq1
    replace hK1 := gsm_r hK1
    have h := hK1
    refine lv_aload_n hx hb dX4_gap_28 rfl (lv_at hl 0 rfl) ?_
    obtain ⟨hk3, h⟩ := gc_s h
    have ht4 : t < N := Nat.lt_of_lt_of_le (gck_lt4 hk3) hN
    refine fg_4_matched F G hk3 ht4 in4 (by decide +kernel) dX4_gap_29 ?_
    obtain ⟨hk5, hn7⟩ := gka_4_matched hk3
    have ht6 : (t + 2) < N := Nat.lt_of_lt_of_le (gck_lt14 hk5) hN
    refine gx_zal F G hk5 ht6 hn7 dX4_gap_32 ?_
    cases h
    rw [← hQ]
    exact gx_iret F G hr hlocks dX4_gap_33
  have L1 : ∀ (n9 : Nat) (y2 : Int32) (H : Heap) (locs : List Loc) (ls : Array Slot), gloop (fun (y2 : Int32) => m_X4_gap_L2 t c y2) n9 y2 = some b1 → gW D ad cy N A s.heap c d0 H locs → lv_has ls 2 [(0, .ref (ad t)), (1, .int y2)] → W p l e rmX4_gap s m args below meth cod H locs 0 0 Q (F0 m 2 ls []) := by
    intro n9
    induction n9 with
    | zero => intro y2 H locs ls h; exact (gloop_0 h).elim
    | succ n9 ih =>
      intro y2 H locs ls h G hl
      have ih1 := ih
      obtain ⟨o1, h, hn1⟩ := gloop_s h
      unfold m_X4_gap_L2 at h
      refine lv_iload_n hx hb dX4_gap_2 rfl (lv_at hl 1 rfl) ?_
      refine lv_aload_n hx hb dX4_gap_3 rfl (lv_at hl 0 rfl) ?_
      obtain ⟨hk8, h⟩ := gc_s h
      have ht9 : t < N := Nat.lt_of_lt_of_le (gck_lt4 hk8) hN
      refine fg_4_matched F G hk8 ht9 in4 (by decide +kernel) dX4_gap_4 ?_
      obtain ⟨hk10, hn12⟩ := gka_4_matched hk8
      have ht11 : (t + 2) < N := Nat.lt_of_lt_of_le (gck_lt14 hk10) hN
      refine gx_zal F G hk10 ht11 hn12 dX4_gap_7 ?_
      refine lv_icmp_ge (tgt := 28) hx hb dX4_gap_8 (by decide) (fun q13 => ?_) (fun q13 => ?_)
      · replace h := gt_s q13 h
        cases h
        exact E1  _ _ _ (gnx_r hn1) G (lv_sub hl [0] rfl)
      · replace h := gf_s q13 h
        refine lv_aload_n hx hb dX4_gap_11 rfl (lv_at hl 0 rfl) ?_
        refine fg_4_matched F G hk8 ht9 in4 (by decide +kernel) dX4_gap_12 ?_
        refine lv_iload_n hx hb dX4_gap_15 rfl (lv_at hl 1 rfl) ?_
        obtain ⟨hi14, h⟩ := gc_s h
        refine gx_za F G hk10 ht11 hn12 hi14 dX4_gap_16 ?_
        refine lv_if_ne (tgt := 22) hx hb dX4_gap_17 (by decide) (fun q15 => ?_) (fun q15 => ?_)
        · replace h := gf_s q15 h
          obtain ⟨x16, ex16⟩ : ∃ z : Int32, z = y2 + 1 := ⟨_, rfl⟩
          replace h := gv_s h x16 ex16
          refine lv_iinc (v := x16) (lv' := [(1, .int x16), (0, .ref (ad t))]) hx hb dX4_gap_22 hl (k := 1) rfl (by rw [ex16]; rfl) (by decide) rfl (fun ls hl => ?_)
          refine lv_goto (tgt := 2) hx hb dX4_gap_25 (by decide) ?_
          cases h
          exact ih1 _ _ _ _ hn1 G (lv_sub hl [1, 0] rfl)
        · replace h := gt_s q15 h
          refine lv_iload_n hx hb dX4_gap_20 rfl (lv_at hl 1 rfl) ?_
          cases h
          cases gnx_r hn1
          cases gsm_l hK1
          rw [← hQ]
          exact gx_iret F G hr hlocks dX4_gap_21
  exact L1 n _ _ _ _ hb1 G (lv_sub hl [1, 0] rfl)
def m_X4_makes_L2 (t : Nat) (a1 : Int32) (a2 : Int32) (c : gm) (y2 : Int32) : Option ((Int32) ⊕ ((Int32) ⊕ (Unit))) :=
  (if y2 ≤ 0 then some (.inr (.inr ())) else gc (gck t = 4) (gb (m_X4_sumOf t y2 c) (fun (r7 : Int32) => gb (m_X4_sumOf t a1 c) (fun (r9 : Int32) => (if ((2 * r7) - r9) = a2 then some (.inr (.inl 1)) else gv ((y2 - 1) &&& a1) (fun (x11 : Int32) => some (.inl x11)))))))
def m_X4_makes (n : Nat) (t : Nat) (a1 : Int32) (a2 : Int32) (c : gm) : Option (Int32) :=
  gb (gloop (fun (y2 : Int32) => m_X4_makes_L2 t a1 a2 c y2) n a1) (gsm (fun (_ : Unit) => some 0))
abbrev rmX4_makes : Room := { frames := 1, cells := 0, slots := 0, locals := 21 }
set_option maxHeartbeats 4000000 in
set_option maxRecDepth 100000 in
theorem c_X4_makes (l : Launch) (sa : gSa) (D : va_G) (ad : Nat → Nat) (cy : Nat → ClassId) (N sz : Nat) (hN : 55 ≤ N) (hI : gI ad N) (c d0 : gm) {n : Nat} {t : Nat} {a1 : Int32} {a2 : Int32} {rZ : Int32} (h : m_X4_makes n t a1 a2 c = some rZ) : Met l yX4_makes wsX4_makes rmX4_makes (va_Pc [.ref (ad t), .int a1, .int a2] (gP sa D ad cy N sz c d0)) (va_Qi (fun (z : Int32) (_ : Unit) => z = rZ) (fun _ U => gE D ad cy N c d0 U) (gA ad N sz)) 0 0 (gA ad N sz) := by
  refine Met.ofW (cc := cX4_makes) (maxL := 4) (ret := (some .boolean)) (by decide) rfl ?_
  intro p e s m args below meth cod s₁ B hml hv
  obtain ⟨rfl, hsz, hP, hK, hZ⟩ := hv
  have hx := B.exec
  have hb := B.bytes
  have hr := B.returns
  have hts := atoms_spec (ws := wsX4_makes) B.pre
  have hown : s.vm.findClass RX4 = some m.cls := findClass_of_methodNamed B.named
  have hlocks := B.notSynchronized
  subst hsz
  have hl := lv_entry ([.ref (ad t), .int a1, .int a2]) (n := 4) (Nat.le_of_ble_eq_true rfl)
  rw [lg_entry_eq]
  generalize (lg_sl ([.ref (ad t), .int a1, .int a2]) ++ List.replicate (4 - (lg_sl ([.ref (ad t), .int a1, .int a2])).length) Slot.unset).toArray = ls at hl ⊢
  have hl : lv_has ls 4 [(0, .ref (ad t)), (1, .int a1), (2, .int a2)] := hl
  generalize hargs : ([.ref (ad t), .int a1, .int a2] : List Value).toArray = args at *
  generalize hAe : gA ad N s.heap.size = A
  have F : gF sa D ad cy N A p s m args cod cX4_makes 4 wsX4_makes RX4 := ⟨hx, hb, hml, hown, hts, hK, hI, by rw [← hAe]; exact gA_ad, by rw [← hAe]; exact gA_sz, by rw [← hAe]; exact hZ⟩
  have G : gW D ad cy N A s.heap c d0 s.heap [] := ⟨hP, va_S.rf⟩
  generalize hQ : MQ below (va_Qi (fun (z : Int32) (_ : Unit) => z = rZ) (fun _ U => gE D ad cy N c d0 U) A) args s 0 0 A = Q
  suffices hgen : ∀ (H : Heap) (locs : List Loc), gW D ad cy N A s.heap c d0 H locs → W p l e rmX4_makes s m args below meth cod H locs 0 0 Q (F0 m 0 ls []) from hgen _ _ G
  clear G
  intro H locs G
  unfold m_X4_makes at h
  refine lv_iload_n hx hb dX4_makes_0 rfl (lv_at hl 1 rfl) ?_
  refine lv_istore_n (lv' := [(3, .int a1), (0, .ref (ad t)), (1, .int a1), (2, .int a2)]) hx hb dX4_makes_1 rfl hl (by decide) rfl (fun ls hl => ?_)
  obtain ⟨b1, hb1, hK1⟩ := gb_s h
  have E1 : ∀ (H : Heap) (locs : List Loc) (ls : Array Slot), (Sum.inr () : (Int32) ⊕ (Unit)) = b1 → gW D ad cy N A s.heap c d0 H locs → lv_has ls 4 [] → W p l e rmX4_makes s m args below meth cod H locs 0 0 Q (F0 m 34 ls []) := by
    intro  H locs ls hq1 G hl
    subst hq1
    replace hK1 := gsm_r hK1
    have h := hK1
    refine lv_iconst (v := 0) hx hb dX4_makes_34 (by decide) ?_
    cases h
    rw [← hQ]
    exact gx_zret F G hr hlocks rfl dX4_makes_35
  have L1 : ∀ (n9 : Nat) (y2 : Int32) (H : Heap) (locs : List Loc) (ls : Array Slot), gloop (fun (y2 : Int32) => m_X4_makes_L2 t a1 a2 c y2) n9 y2 = some b1 → gW D ad cy N A s.heap c d0 H locs → lv_has ls 4 [(0, .ref (ad t)), (1, .int a1), (2, .int a2), (3, .int y2)] → W p l e rmX4_makes s m args below meth cod H locs 0 0 Q (F0 m 2 ls []) := by
    intro n9
    induction n9 with
    | zero => intro y2 H locs ls h; exact (gloop_0 h).elim
    | succ n9 ih =>
      intro y2 H locs ls h G hl
      have ih1 := ih
      obtain ⟨o1, h, hn1⟩ := gloop_s h
      unfold m_X4_makes_L2 at h
      refine lv_iload_n hx hb dX4_makes_2 rfl (lv_at hl 3 rfl) ?_
      refine lv_if_le (tgt := 34) hx hb dX4_makes_3 (by decide) (fun q3 => ?_) (fun q3 => ?_)
      · replace h := gt_s q3 h
        cases h
        exact E1  _ _ _ (gnx_r hn1) G (lv_sub hl [] rfl)
      · replace h := gf_s q3 h
        refine lv_iconst (v := 2) hx hb dX4_makes_6 (by decide) ?_
        refine lv_aload_n hx hb dX4_makes_7 rfl (lv_at hl 0 rfl) ?_
        refine lv_iload_n hx hb dX4_makes_8 rfl (lv_at hl 3 rfl) ?_
        obtain ⟨hk4, h⟩ := gc_s h
        have ht5 : t < N := Nat.lt_of_lt_of_le (gck_lt4 hk4) hN
        obtain ⟨r7, hc6, h⟩ := gb_s h
        refine gx_calli F G (va_runV (As := [.int y2]) (rest := [.int 2]) (gx_fix F) (c_X4_sumOf l sa D ad cy N H.size hN hI c d0 hc6) (cwV 1 hts gX4_makes_X4_sumOf rfl rfl rfl (by decide +kernel) ⟨by decide, by decide⟩) (gx_rec F G ht5 (gwe_4 hk4) rfl) rfl rfl hl.1 rfl (lv_room (Nat.le_of_ble_eq_true rfl)) dX4_makes_9 ⟨Nat.zero_le _, Nat.zero_le _⟩) (fun H locs G => ?_)
        refine lv_imul hx hb dX4_makes_12 ?_
        refine lv_aload_n hx hb dX4_makes_13 rfl (lv_at hl 0 rfl) ?_
        refine lv_iload_n hx hb dX4_makes_14 rfl (lv_at hl 1 rfl) ?_
        obtain ⟨r9, hc8, h⟩ := gb_s h
        refine gx_calli F G (va_runV (As := [.int a1]) (rest := [.int (2 * r7)]) (gx_fix F) (c_X4_sumOf l sa D ad cy N H.size hN hI c d0 hc8) (cwV 1 hts gX4_makes_X4_sumOf rfl rfl rfl (by decide +kernel) ⟨by decide, by decide⟩) (gx_rec F G ht5 (gwe_4 hk4) rfl) rfl rfl hl.1 rfl (lv_room (Nat.le_of_ble_eq_true rfl)) dX4_makes_15 ⟨Nat.zero_le _, Nat.zero_le _⟩) (fun H locs G => ?_)
        refine lv_isub hx hb dX4_makes_18 ?_
        refine lv_iload_n hx hb dX4_makes_19 rfl (lv_at hl 2 rfl) ?_
        refine lv_icmp_ne (tgt := 25) hx hb dX4_makes_20 (by decide) (fun q10 => ?_) (fun q10 => ?_)
        · replace h := gf_s q10 h
          refine lv_iload_n hx hb dX4_makes_25 rfl (lv_at hl 3 rfl) ?_
          refine lv_iconst (v := 1) hx hb dX4_makes_26 (by decide) ?_
          refine lv_isub hx hb dX4_makes_27 ?_
          refine lv_iload_n hx hb dX4_makes_28 rfl (lv_at hl 1 rfl) ?_
          refine lv_iand hx hb dX4_makes_29 ?_
          refine lv_topi (fun x11 ex11 => ?_)
          replace h := gv_s h x11 ex11
          refine lv_istore_n (lv' := [(3, .int x11), (0, .ref (ad t)), (1, .int a1), (2, .int a2)]) hx hb dX4_makes_30 rfl hl (by decide) rfl (fun ls hl => ?_)
          refine lv_goto (tgt := 2) hx hb dX4_makes_31 (by decide) ?_
          cases h
          exact ih1 _ _ _ _ hn1 G (lv_sub hl [1, 2, 3, 0] rfl)
        · replace h := gt_s q10 h
          refine lv_iconst (v := 1) hx hb dX4_makes_23 (by decide) ?_
          cases h
          cases gnx_r hn1
          cases gsm_l hK1
          rw [← hQ]
          exact gx_zret F G hr hlocks rfl dX4_makes_24
  exact L1 n _ _ _ _ hb1 G (lv_sub hl [1, 2, 3, 0] rfl)
def m_X4_fewestFor_L10 (n : Nat) (t : Nat) (a1 : Nat) (a2 : Int32) (c5 : gm) (y7 : Int32) (y8 : Int32) : Option ((Int32 × Int32) ⊕ (Int32)) :=
  gc (gck a1 = 6) ((if ((1 : Int32) <<< ((c5.1 a1 5) &&& 31)) ≤ y8 then some (.inr y7) else gj (fun (v13 : Int32) => gj (fun (v15 : Int32) => gv (y8 + 1) (fun (x17 : Int32) => some (.inl (v15, x17)))) (fun K16 => (if v13 = 0 then K16 y7 else gb (m_X4_makes n t y8 a2 c5) (fun (r20 : Int32) => (if r20 = 0 then K16 y7 else K16 y8))))) (fun K14 => gj (fun (_ : Unit) => K14 1) (fun K22 => (if y7 = (-1) then K22 () else gb (m_J6_bitCount_0f7a4 y8) (fun (r25 : Int32) => gb (m_J6_bitCount_0f7a4 y7) (fun (r27 : Int32) => (if r27 ≤ r25 then K14 0 else K22 ()))))))))
def m_X4_fewestFor (n : Nat) (t : Nat) (a1 : Nat) (a2 : Int32) (c : gm) : Option (Int32 × gm) :=
  gc (gck t = 4) (gb (m_X4_addUp n t a1 c) (fun (c5 : gm) => gb (gloop (gu2 (fun (y7 : Int32) (y8 : Int32) => m_X4_fewestFor_L10 n t a1 a2 c5 y7 y8)) n ((-1), 1)) (fun (z9 : Int32) => some (z9, c5))))
abbrev rmX4_fewestFor : Room := { frames := 3, cells := 0, slots := 0, locals := 65 }
set_option maxHeartbeats 4000000 in
set_option maxRecDepth 100000 in
theorem c_X4_fewestFor (l : Launch) (sa : gSa) (D : va_G) (ad : Nat → Nat) (cy : Nat → ClassId) (N sz : Nat) (hN : 55 ≤ N) (hI : gI ad N) (c d0 : gm) {n : Nat} {t : Nat} {a1 : Nat} {a2 : Int32} {rZ : Int32} {cZ : gm} (h : m_X4_fewestFor n t a1 a2 c = some (rZ, cZ)) : Met l yX4_fewestFor wsX4_fewestFor rmX4_fewestFor (va_Pc [.ref (ad t), .ref (ad a1), .int a2] (gP sa D ad cy N sz c d0)) (va_Qi (fun (z : Int32) (_ : Unit) => z = rZ) (fun _ U => gE D ad cy N cZ d0 U) (gA ad N sz)) 0 0 (gA ad N sz) := by
  refine Met.ofW (cc := cX4_fewestFor) (maxL := 6) (ret := (some .int)) (by decide) rfl ?_
  intro p e s m args below meth cod s₁ B hml hv
  obtain ⟨rfl, hsz, hP, hK, hZ⟩ := hv
  have hx := B.exec
  have hb := B.bytes
  have hr := B.returns
  have hts := atoms_spec (ws := wsX4_fewestFor) B.pre
  have hown : s.vm.findClass RX4 = some m.cls := findClass_of_methodNamed B.named
  have hlocks := B.notSynchronized
  subst hsz
  have hl := lv_entry ([.ref (ad t), .ref (ad a1), .int a2]) (n := 6) (Nat.le_of_ble_eq_true rfl)
  rw [lg_entry_eq]
  generalize (lg_sl ([.ref (ad t), .ref (ad a1), .int a2]) ++ List.replicate (6 - (lg_sl ([.ref (ad t), .ref (ad a1), .int a2])).length) Slot.unset).toArray = ls at hl ⊢
  have hl : lv_has ls 6 [(0, .ref (ad t)), (1, .ref (ad a1)), (2, .int a2)] := hl
  have in6 : ∀ w ∈ wsX60, w ∈ wsX4_fewestFor := by decide +kernel
  generalize hargs : ([.ref (ad t), .ref (ad a1), .int a2] : List Value).toArray = args at *
  generalize hAe : gA ad N s.heap.size = A
  have F : gF sa D ad cy N A p s m args cod cX4_fewestFor 6 wsX4_fewestFor RX4 := ⟨hx, hb, hml, hown, hts, hK, hI, by rw [← hAe]; exact gA_ad, by rw [← hAe]; exact gA_sz, by rw [← hAe]; exact hZ⟩
  have G : gW D ad cy N A s.heap c d0 s.heap [] := ⟨hP, va_S.rf⟩
  generalize hQ : MQ below (va_Qi (fun (z : Int32) (_ : Unit) => z = rZ) (fun _ U => gE D ad cy N cZ d0 U) A) args s 0 0 A = Q
  suffices hgen : ∀ (H : Heap) (locs : List Loc), gW D ad cy N A s.heap c d0 H locs → W p l e rmX4_fewestFor s m args below meth cod H locs 0 0 Q (F0 m 0 ls []) from hgen _ _ G
  clear G
  intro H locs G
  unfold m_X4_fewestFor at h
  refine lv_aload_n hx hb dX4_fewestFor_0 rfl (lv_at hl 0 rfl) ?_
  refine lv_aload_n hx hb dX4_fewestFor_1 rfl (lv_at hl 1 rfl) ?_
  obtain ⟨hk1, h⟩ := gc_s h
  have ht2 : t < N := Nat.lt_of_lt_of_le (gck_lt4 hk1) hN
  obtain ⟨c5, hc3, h⟩ := gb_s h
  refine gx_callv F G (va_runV (As := [.ref (ad a1)]) (rest := []) (gx_fix F) (c_X4_addUp l sa D ad cy N H.size hN hI c d0 hc3) (cwV 1 hts gX4_fewestFor_X4_addUp rfl rfl rfl (by decide +kernel) ⟨by decide, by decide⟩) (gx_rec F G ht2 (gwe_4 hk1) rfl) rfl rfl hl.1 rfl (lv_room (Nat.le_of_ble_eq_true rfl)) dX4_fewestFor_2 ⟨Nat.zero_le _, Nat.zero_le _⟩) (fun H locs G => ?_)
  refine lv_iconst (v := (-1)) hx hb dX4_fewestFor_5 (by decide) ?_
  refine lv_istore_n (lv' := [(3, .int (-1)), (0, .ref (ad t)), (1, .ref (ad a1)), (2, .int a2)]) hx hb dX4_fewestFor_6 rfl hl (by decide) rfl (fun ls hl => ?_)
  refine lv_iconst (v := 1) hx hb dX4_fewestFor_7 (by decide) ?_
  refine lv_istore (lv' := [(4, .int 1), (3, .int (-1)), (0, .ref (ad t)), (1, .ref (ad a1)), (2, .int a2)]) hx hb dX4_fewestFor_8 hl (by decide) rfl (fun ls hl => ?_)
  obtain ⟨b6, hb6, hK6⟩ := gb_s h
  have E6 : ∀ (z9 : Int32) (H : Heap) (locs : List Loc) (ls : Array Slot), (z9 : Int32) = b6 → gW D ad cy N A s.heap c5 d0 H locs → lv_has ls 6 [(3, .int z9)] → W p l e rmX4_fewestFor s m args below meth cod H locs 0 0 Q (F0 m 69 ls []) := by
    intro z9 H locs ls hq6 G hl
    subst hq6
    replace hK6 := hK6
    have h := hK6
    refine lv_iload_n hx hb dX4_fewestFor_69 rfl (lv_at hl 0 rfl) ?_
    cases h
    rw [← hQ]
    exact gx_iret F G hr hlocks dX4_fewestFor_70
  have L6 : ∀ (n9 : Nat) (y7 : Int32) (y8 : Int32) (H : Heap) (locs : List Loc) (ls : Array Slot), gloop (gu2 (fun (y7 : Int32) (y8 : Int32) => m_X4_fewestFor_L10 n t a1 a2 c5 y7 y8)) n9 (y7, y8) = some b6 → gW D ad cy N A s.heap c5 d0 H locs → lv_has ls 6 [(0, .ref (ad t)), (1, .ref (ad a1)), (2, .int a2), (3, .int y7), (4, .int y8)] → W p l e rmX4_fewestFor s m args below meth cod H locs 0 0 Q (F0 m 10 ls []) := by
    intro n9
    induction n9 with
    | zero => intro y7 y8 H locs ls h; exact (gloop_0 h).elim
    | succ n9 ih =>
      intro y7 y8 H locs ls h G hl
      have ih6 := ih
      obtain ⟨o6, h, hn6⟩ := gloop_s h
      replace h := gu2_s h
      unfold m_X4_fewestFor_L10 at h
      refine lv_iload hx hb dX4_fewestFor_10 (lv_at hl 4 rfl) ?_
      refine lv_iconst (v := 1) hx hb dX4_fewestFor_12 (by decide) ?_
      refine lv_aload_n hx hb dX4_fewestFor_13 rfl (lv_at hl 1 rfl) ?_
      obtain ⟨hk10, h⟩ := gc_s h
      have ht11 : a1 < N := Nat.lt_of_lt_of_le (gck_lt6 hk10) hN
      refine fg_6_things F G hk10 ht11 in6 (by decide +kernel) dX4_fewestFor_14 ?_
      refine lv_ishl hx hb dX4_fewestFor_17 ?_
      refine lv_icmp_ge (tgt := 69) hx hb dX4_fewestFor_18 (by decide) (fun q12 => ?_) (fun q12 => ?_)
      · replace h := gt_s q12 h
        cases h
        exact E6 _ _ _ _ (gnx_r hn6) G (lv_sub hl [3] rfl)
      · replace h := gf_s q12 h
        refine lv_iload_n hx hb dX4_fewestFor_21 rfl (lv_at hl 3 rfl) ?_
        refine lv_iconst (v := (-1)) hx hb dX4_fewestFor_22 (by decide) ?_
        obtain ⟨K14, eK14, h⟩ := gj_s h
        have JK14 : ∀ (v13 : Int32) (H : Heap) (locs : List Loc) (ls : Array Slot), K14 v13 = some o6 → gW D ad cy N A s.heap c5 d0 H locs → lv_has ls 6 [(0, .ref (ad t)), (1, .ref (ad a1)), (2, .int a2), (3, .int y7), (4, .int y8)] → W p l e rmX4_fewestFor s m args below meth cod H locs 0 0 Q (F0 m 43 ls [.int v13]) := by
          intro v13 H locs ls h G hl
          rw [eK14] at h
          refine lv_istore (lv' := [(5, .int v13), (0, .ref (ad t)), (1, .ref (ad a1)), (2, .int a2), (3, .int y7), (4, .int y8)]) hx hb dX4_fewestFor_43 hl (by decide) rfl (fun ls hl => ?_)
          refine lv_iload hx hb dX4_fewestFor_45 (lv_at hl 0 rfl) ?_
          obtain ⟨K16, eK16, h⟩ := gj_s h
          have JK16 : ∀ (v15 : Int32) (H : Heap) (locs : List Loc) (ls : Array Slot), K16 v15 = some o6 → gW D ad cy N A s.heap c5 d0 H locs → lv_has ls 6 [(0, .ref (ad t)), (1, .ref (ad a1)), (2, .int a2), (3, .int v15), (4, .int y8)] → W p l e rmX4_fewestFor s m args below meth cod H locs 0 0 Q (F0 m 63 ls []) := by
            intro v15 H locs ls h G hl
            rw [eK16] at h
            obtain ⟨x17, ex17⟩ : ∃ z : Int32, z = y8 + 1 := ⟨_, rfl⟩
            replace h := gv_s h x17 ex17
            refine lv_iinc (v := x17) (lv' := [(4, .int x17), (0, .ref (ad t)), (1, .ref (ad a1)), (2, .int a2), (3, .int v15)]) hx hb dX4_fewestFor_63 hl (k := 4) rfl (by rw [ex17]; rfl) (by decide) rfl (fun ls hl => ?_)
            refine lv_goto (tgt := 10) hx hb dX4_fewestFor_66 (by decide) ?_
            cases h
            exact ih6 _ _ _ _ _ hn6 G (lv_sub hl [1, 2, 3, 4, 0] rfl)
          refine lv_if_eq (tgt := 63) hx hb dX4_fewestFor_47 (by decide) (fun q18 => ?_) (fun q18 => ?_)
          · replace h := gt_s q18 h
            exact JK16 _ _ _ _ h G (lv_sub hl [1, 2, 3, 4, 5] rfl)
          · replace h := gf_s q18 h
            refine lv_aload_n hx hb dX4_fewestFor_50 rfl (lv_at hl 1 rfl) ?_
            refine lv_iload hx hb dX4_fewestFor_51 (lv_at hl 5 rfl) ?_
            refine lv_iload_n hx hb dX4_fewestFor_53 rfl (lv_at hl 3 rfl) ?_
            obtain ⟨r20, hc19, h⟩ := gb_s h
            refine gx_calli F G (va_runV (As := [.int y8, .int a2]) (rest := []) (gx_fix F) (c_X4_makes l sa D ad cy N H.size hN hI c5 d0 hc19) (cwV 2 hts gX4_fewestFor_X4_makes rfl rfl rfl (by decide +kernel) ⟨by decide, by decide⟩) (gx_rec F G ht2 (gwe_4 hk1) rfl) rfl rfl hl.1 rfl (lv_room (Nat.le_of_ble_eq_true rfl)) dX4_fewestFor_54 ⟨Nat.zero_le _, Nat.zero_le _⟩) (fun H locs G => ?_)
            refine lv_if_eq (tgt := 63) hx hb dX4_fewestFor_57 (by decide) (fun q21 => ?_) (fun q21 => ?_)
            · replace h := gt_s q21 h
              exact JK16 _ _ _ _ h G (lv_sub hl [1, 2, 3, 4, 5] rfl)
            · replace h := gf_s q21 h
              refine lv_iload hx hb dX4_fewestFor_60 (lv_at hl 5 rfl) ?_
              refine lv_istore_n (lv' := [(3, .int y8), (5, .int v13), (0, .ref (ad t)), (1, .ref (ad a1)), (2, .int a2), (4, .int y8)]) hx hb dX4_fewestFor_62 rfl hl (by decide) rfl (fun ls hl => ?_)
              exact JK16 _ _ _ _ h G (lv_sub hl [2, 3, 4, 0, 5] rfl)
        obtain ⟨K22, eK22, h⟩ := gj_s h
        have JK22 : ∀ (H : Heap) (locs : List Loc) (ls : Array Slot), K22 () = some o6 → gW D ad cy N A s.heap c5 d0 H locs → lv_has ls 6 [(0, .ref (ad t)), (1, .ref (ad a1)), (2, .int a2), (3, .int y7), (4, .int y8)] → W p l e rmX4_fewestFor s m args below meth cod H locs 0 0 Q (F0 m 38 ls []) := by
          intro  H locs ls h G hl
          rw [eK22] at h
          refine lv_iconst (v := 1) hx hb dX4_fewestFor_38 (by decide) ?_
          refine lv_goto (tgt := 43) hx hb dX4_fewestFor_39 (by decide) ?_
          exact JK14 _ _ _ _ h G hl
        refine lv_icmp_eq (tgt := 38) hx hb dX4_fewestFor_23 (by decide) (fun q23 => ?_) (fun q23 => ?_)
        · replace h := gt_s q23 h
          exact JK22  _ _ _ h G hl
        · replace h := gf_s q23 h
          refine lv_iload hx hb dX4_fewestFor_26 (lv_at hl 4 rfl) ?_
          obtain ⟨r25, hc24, h⟩ := gb_s h
          refine gx_calli F G (va_runS (As := [.int y8]) (rest := []) (gx_fix F) (c_J6_bitCount_0f7a4 l sa D ad cy N H.size hN hI c5 d0 hc24) (va_cwS 1 hts gX4_fewestFor_J6_bitCount_0f7a4 rfl rfl rfl (by decide +kernel) ⟨by decide, by decide⟩) (gx_pre F G) rfl rfl hl.1 rfl (lv_room (Nat.le_of_ble_eq_true rfl)) dX4_fewestFor_28 ⟨Nat.zero_le _, Nat.zero_le _⟩) (fun H locs G => ?_)
          refine lv_iload_n hx hb dX4_fewestFor_31 rfl (lv_at hl 3 rfl) ?_
          obtain ⟨r27, hc26, h⟩ := gb_s h
          refine gx_calli F G (va_runS (As := [.int y7]) (rest := [.int r25]) (gx_fix F) (c_J6_bitCount_0f7a4 l sa D ad cy N H.size hN hI c5 d0 hc26) (va_cwS 1 hts gX4_fewestFor_J6_bitCount_0f7a4 rfl rfl rfl (by decide +kernel) ⟨by decide, by decide⟩) (gx_pre F G) rfl rfl hl.1 rfl (lv_room (Nat.le_of_ble_eq_true rfl)) dX4_fewestFor_32 ⟨Nat.zero_le _, Nat.zero_le _⟩) (fun H locs G => ?_)
          refine lv_icmp_ge (tgt := 42) hx hb dX4_fewestFor_35 (by decide) (fun q28 => ?_) (fun q28 => ?_)
          · replace h := gt_s q28 h
            refine lv_iconst (v := 0) hx hb dX4_fewestFor_42 (by decide) ?_
            exact JK14 _ _ _ _ h G hl
          · replace h := gf_s q28 h
            exact JK22  _ _ _ h G hl
  exact L6 n _ _ _ _ _ hb6 G (lv_sub hl [2, 3, 4, 1, 0] rfl)
def m_X4_layLevel_L23 (t : Nat) (a2 : Int32) (x8 : Int32) (y10 : Int32) (c11 : gm) : Option ((Int32 × gm) ⊕ (gm)) :=
  (if y10 ≤ 0 then some (.inr c11) else gb (m_X4_sumOf t y10 c11) (fun (r15 : Int32) => gb (m_X4_sumOf t a2 c11) (fun (r17 : Int32) => gv (if 0 ≤ ((2 * r15) - r17) then ((2 * r15) - r17) else 0 - ((2 * r15) - r17)) (fun (x18 : Int32) => gj (fun (c19 : gm) => gv ((y10 - 1) &&& a2) (fun (x21 : Int32) => some (.inl (x21, c19)))) (fun K20 => (if (y10 &&& x8) = 0 then K20 c11 else gj (fun (_ : Unit) => gv (gm_r c11 t (upd (c11.1 t) 2 x18)) (fun (c24 : gm) => gv (gm_r c24 t (upd (c24.1 t) 3 y10)) (fun (c25 : gm) => K20 c25))) (fun K23 => (if (c11.1 t 3) = 0 then K23 () else (if (c11.1 t 2) < x18 then K20 c11 else K23 ())))))))))
def m_X4_layLevel (n : Nat) (t : Nat) (a1 : Nat) (a2 : Int32) (c : gm) : Option (gm) :=
  gc (gck t = 4) (gb (m_X4_addUp n t a1 c) (fun (c5 : gm) => gv (gm_r c5 t (upd (c5.1 t) 2 0)) (fun (c6 : gm) => gv (gm_r c6 t (upd (c6.1 t) 3 0)) (fun (c7 : gm) => gv (a2 &&& (-a2)) (fun (x8 : Int32) => gb (gloop (gu2 (fun (y10 : Int32) (c11 : gm) => m_X4_layLevel_L23 t a2 x8 y10 c11)) n (a2, c7)) (fun (c12 : gm) => some c12))))))
abbrev rmX4_layLevel : Room := { frames := 3, cells := 0, slots := 0, locals := 65 }
set_option maxHeartbeats 4000000 in
set_option maxRecDepth 100000 in
theorem c_X4_layLevel (l : Launch) (sa : gSa) (D : va_G) (ad : Nat → Nat) (cy : Nat → ClassId) (N sz : Nat) (hN : 55 ≤ N) (hI : gI ad N) (c d0 : gm) {n : Nat} {t : Nat} {a1 : Nat} {a2 : Int32} {cZ : gm} (h : m_X4_layLevel n t a1 a2 c = some cZ) : Met l yX4_layLevel wsX4_layLevel rmX4_layLevel (va_Pc [.ref (ad t), .ref (ad a1), .int a2] (gP sa D ad cy N sz c d0)) (va_Qv (fun (_ : Unit) => True) (fun _ U => gE D ad cy N cZ d0 U) (gA ad N sz)) 0 0 (gA ad N sz) := by
  refine Met.ofW (cc := cX4_layLevel) (maxL := 6) (ret := none) (by decide) rfl ?_
  intro p e s m args below meth cod s₁ B hml hv
  obtain ⟨rfl, hsz, hP, hK, hZ⟩ := hv
  have hx := B.exec
  have hb := B.bytes
  have hr := B.returns
  have hts := atoms_spec (ws := wsX4_layLevel) B.pre
  have hown : s.vm.findClass RX4 = some m.cls := findClass_of_methodNamed B.named
  have hlocks := B.notSynchronized
  subst hsz
  have hl := lv_entry ([.ref (ad t), .ref (ad a1), .int a2]) (n := 6) (Nat.le_of_ble_eq_true rfl)
  rw [lg_entry_eq]
  generalize (lg_sl ([.ref (ad t), .ref (ad a1), .int a2]) ++ List.replicate (6 - (lg_sl ([.ref (ad t), .ref (ad a1), .int a2])).length) Slot.unset).toArray = ls at hl ⊢
  have hl : lv_has ls 6 [(0, .ref (ad t)), (1, .ref (ad a1)), (2, .int a2)] := hl
  have in4 : ∀ w ∈ wsX40, w ∈ wsX4_layLevel := by decide +kernel
  generalize hargs : ([.ref (ad t), .ref (ad a1), .int a2] : List Value).toArray = args at *
  generalize hAe : gA ad N s.heap.size = A
  have F : gF sa D ad cy N A p s m args cod cX4_layLevel 6 wsX4_layLevel RX4 := ⟨hx, hb, hml, hown, hts, hK, hI, by rw [← hAe]; exact gA_ad, by rw [← hAe]; exact gA_sz, by rw [← hAe]; exact hZ⟩
  have G : gW D ad cy N A s.heap c d0 s.heap [] := ⟨hP, va_S.rf⟩
  generalize hQ : MQ below (va_Qv (fun (_ : Unit) => True) (fun _ U => gE D ad cy N cZ d0 U) A) args s 0 0 A = Q
  suffices hgen : ∀ (H : Heap) (locs : List Loc), gW D ad cy N A s.heap c d0 H locs → W p l e rmX4_layLevel s m args below meth cod H locs 0 0 Q (F0 m 0 ls []) from hgen _ _ G
  clear G
  intro H locs G
  unfold m_X4_layLevel at h
  refine lv_aload_n hx hb dX4_layLevel_0 rfl (lv_at hl 0 rfl) ?_
  refine lv_aload_n hx hb dX4_layLevel_1 rfl (lv_at hl 1 rfl) ?_
  obtain ⟨hk1, h⟩ := gc_s h
  have ht2 : t < N := Nat.lt_of_lt_of_le (gck_lt4 hk1) hN
  obtain ⟨c5, hc3, h⟩ := gb_s h
  refine gx_callv F G (va_runV (As := [.ref (ad a1)]) (rest := []) (gx_fix F) (c_X4_addUp l sa D ad cy N H.size hN hI c d0 hc3) (cwV 1 hts gX4_layLevel_X4_addUp rfl rfl rfl (by decide +kernel) ⟨by decide, by decide⟩) (gx_rec F G ht2 (gwe_4 hk1) rfl) rfl rfl hl.1 rfl (lv_room (Nat.le_of_ble_eq_true rfl)) dX4_layLevel_2 ⟨Nat.zero_le _, Nat.zero_le _⟩) (fun H locs G => ?_)
  refine lv_aload_n hx hb dX4_layLevel_5 rfl (lv_at hl 0 rfl) ?_
  refine lv_iconst (v := 0) hx hb dX4_layLevel_6 (by decide) ?_
  refine fp_4_apart F G hk1 ht2 in4 (by decide +kernel) dX4_layLevel_7 (fun H locs G => ?_)
  obtain ⟨c6, ec6⟩ : ∃ z, z = gm_r c5 t (upd (c5.1 t) 2 0) := ⟨_, rfl⟩
  rw [← ec6] at G
  replace h := gv_s h c6 ec6
  refine lv_aload_n hx hb dX4_layLevel_10 rfl (lv_at hl 0 rfl) ?_
  refine lv_iconst (v := 0) hx hb dX4_layLevel_11 (by decide) ?_
  refine fp_4_pan F G hk1 ht2 in4 (by decide +kernel) dX4_layLevel_12 (fun H locs G => ?_)
  obtain ⟨c7, ec7⟩ : ∃ z, z = gm_r c6 t (upd (c6.1 t) 3 0) := ⟨_, rfl⟩
  rw [← ec7] at G
  replace h := gv_s h c7 ec7
  refine lv_iload_n hx hb dX4_layLevel_15 rfl (lv_at hl 2 rfl) ?_
  refine lv_iload_n hx hb dX4_layLevel_16 rfl (lv_at hl 2 rfl) ?_
  refine lv_ineg hx hb dX4_layLevel_17 ?_
  refine lv_iand hx hb dX4_layLevel_18 ?_
  refine lv_topi (fun x8 ex8 => ?_)
  replace h := gv_s h x8 ex8
  refine lv_istore_n (lv' := [(3, .int x8), (0, .ref (ad t)), (1, .ref (ad a1)), (2, .int a2)]) hx hb dX4_layLevel_19 rfl hl (by decide) rfl (fun ls hl => ?_)
  refine lv_iload_n hx hb dX4_layLevel_20 rfl (lv_at hl 3 rfl) ?_
  refine lv_istore (lv' := [(4, .int a2), (3, .int x8), (0, .ref (ad t)), (1, .ref (ad a1)), (2, .int a2)]) hx hb dX4_layLevel_21 hl (by decide) rfl (fun ls hl => ?_)
  obtain ⟨b9, hb9, hK9⟩ := gb_s h
  have E9 : ∀ (c12 : gm) (H : Heap) (locs : List Loc) (ls : Array Slot), (c12 : gm) = b9 → gW D ad cy N A s.heap c12 d0 H locs → lv_has ls 6 [] → W p l e rmX4_layLevel s m args below meth cod H locs 0 0 Q (F0 m 93 ls []) := by
    intro c12 H locs ls hq9 G hl
    subst hq9
    replace hK9 := hK9
    have h := hK9
    cases h
    rw [← hQ]
    exact gx_vret F G hr hlocks dX4_layLevel_93
  have L9 : ∀ (n9 : Nat) (y10 : Int32) (c11 : gm) (H : Heap) (locs : List Loc) (ls : Array Slot), gloop (gu2 (fun (y10 : Int32) (c11 : gm) => m_X4_layLevel_L23 t a2 x8 y10 c11)) n9 (y10, c11) = some b9 → gW D ad cy N A s.heap c11 d0 H locs → lv_has ls 6 [(0, .ref (ad t)), (2, .int a2), (3, .int x8), (4, .int y10)] → W p l e rmX4_layLevel s m args below meth cod H locs 0 0 Q (F0 m 23 ls []) := by
    intro n9
    induction n9 with
    | zero => intro y10 c11 H locs ls h; exact (gloop_0 h).elim
    | succ n9 ih =>
      intro y10 c11 H locs ls h G hl
      have ih9 := ih
      obtain ⟨o9, h, hn9⟩ := gloop_s h
      replace h := gu2_s h
      unfold m_X4_layLevel_L23 at h
      refine lv_iload hx hb dX4_layLevel_23 (lv_at hl 3 rfl) ?_
      refine lv_if_le (tgt := 93) hx hb dX4_layLevel_25 (by decide) (fun q13 => ?_) (fun q13 => ?_)
      · replace h := gt_s q13 h
        cases h
        exact E9 _ _ _ _ (gnx_r hn9) G (lv_sub hl [] rfl)
      · replace h := gf_s q13 h
        refine lv_iconst (v := 2) hx hb dX4_layLevel_28 (by decide) ?_
        refine lv_aload_n hx hb dX4_layLevel_29 rfl (lv_at hl 0 rfl) ?_
        refine lv_iload hx hb dX4_layLevel_30 (lv_at hl 3 rfl) ?_
        obtain ⟨r15, hc14, h⟩ := gb_s h
        refine gx_calli F G (va_runV (As := [.int y10]) (rest := [.int 2]) (gx_fix F) (c_X4_sumOf l sa D ad cy N H.size hN hI c11 d0 hc14) (cwV 1 hts gX4_layLevel_X4_sumOf rfl rfl rfl (by decide +kernel) ⟨by decide, by decide⟩) (gx_rec F G ht2 (gwe_4 hk1) rfl) rfl rfl hl.1 rfl (lv_room (Nat.le_of_ble_eq_true rfl)) dX4_layLevel_32 ⟨Nat.zero_le _, Nat.zero_le _⟩) (fun H locs G => ?_)
        refine lv_imul hx hb dX4_layLevel_35 ?_
        refine lv_aload_n hx hb dX4_layLevel_36 rfl (lv_at hl 0 rfl) ?_
        refine lv_iload_n hx hb dX4_layLevel_37 rfl (lv_at hl 1 rfl) ?_
        obtain ⟨r17, hc16, h⟩ := gb_s h
        refine gx_calli F G (va_runV (As := [.int a2]) (rest := [.int (2 * r15)]) (gx_fix F) (c_X4_sumOf l sa D ad cy N H.size hN hI c11 d0 hc16) (cwV 1 hts gX4_layLevel_X4_sumOf rfl rfl rfl (by decide +kernel) ⟨by decide, by decide⟩) (gx_rec F G ht2 (gwe_4 hk1) rfl) rfl rfl hl.1 rfl (lv_room (Nat.le_of_ble_eq_true rfl)) dX4_layLevel_38 ⟨Nat.zero_le _, Nat.zero_le _⟩) (fun H locs G => ?_)
        refine lv_isub hx hb dX4_layLevel_41 ?_
        refine va_mabs hx hb (hml.trans hl.1.symm) hown (hts (.methodLink RX4 51 Lib.Math.abs.name) (by decide +kernel)) (hts (.static Lib.Math.abs.name) (by decide +kernel)) (hts (.initialized "java/lang/Math") (by decide +kernel)) (hts (.code Lib.Math.abs.name Lib.Math.abs.code 1 (some .int)) (by decide +kernel)) (Nat.le_of_ble_eq_true rfl) (Nat.le_of_ble_eq_true rfl) (Nat.zero_le _) (Nat.zero_le _) dX4_layLevel_42 ?_
        refine lv_topi (fun x18 ex18 => ?_)
        replace h := gv_s h x18 ex18
        refine lv_istore (lv' := [(5, .int x18), (0, .ref (ad t)), (2, .int a2), (3, .int x8), (4, .int y10)]) hx hb dX4_layLevel_45 hl (by decide) rfl (fun ls hl => ?_)
        refine lv_iload hx hb dX4_layLevel_47 (lv_at hl 4 rfl) ?_
        refine lv_iload_n hx hb dX4_layLevel_49 rfl (lv_at hl 3 rfl) ?_
        refine lv_iand hx hb dX4_layLevel_50 ?_
        obtain ⟨K20, eK20, h⟩ := gj_s h
        have JK20 : ∀ (c19 : gm) (H : Heap) (locs : List Loc) (ls : Array Slot), K20 c19 = some o9 → gW D ad cy N A s.heap c19 d0 H locs → lv_has ls 6 [(0, .ref (ad t)), (2, .int a2), (3, .int x8), (4, .int y10)] → W p l e rmX4_layLevel s m args below meth cod H locs 0 0 Q (F0 m 82 ls []) := by
          intro c19 H locs ls h G hl
          rw [eK20] at h
          refine lv_iload hx hb dX4_layLevel_82 (lv_at hl 3 rfl) ?_
          refine lv_iconst (v := 1) hx hb dX4_layLevel_84 (by decide) ?_
          refine lv_isub hx hb dX4_layLevel_85 ?_
          refine lv_iload_n hx hb dX4_layLevel_86 rfl (lv_at hl 1 rfl) ?_
          refine lv_iand hx hb dX4_layLevel_87 ?_
          refine lv_topi (fun x21 ex21 => ?_)
          replace h := gv_s h x21 ex21
          refine lv_istore (lv' := [(4, .int x21), (0, .ref (ad t)), (2, .int a2), (3, .int x8)]) hx hb dX4_layLevel_88 hl (by decide) rfl (fun ls hl => ?_)
          refine lv_goto (tgt := 23) hx hb dX4_layLevel_90 (by decide) ?_
          cases h
          exact ih9 _ _ _ _ _ hn9 G (lv_sub hl [1, 2, 3, 0] rfl)
        refine lv_if_eq (tgt := 82) hx hb dX4_layLevel_51 (by decide) (fun q22 => ?_) (fun q22 => ?_)
        · replace h := gt_s q22 h
          exact JK20 _ _ _ _ h G (lv_sub hl [1, 2, 3, 4] rfl)
        · replace h := gf_s q22 h
          refine lv_aload_n hx hb dX4_layLevel_54 rfl (lv_at hl 1 rfl) ?_
          refine fg_4_pan F G hk1 ht2 in4 (by decide +kernel) dX4_layLevel_55 ?_
          obtain ⟨K23, eK23, h⟩ := gj_s h
          have JK23 : ∀ (H : Heap) (locs : List Loc) (ls : Array Slot), K23 () = some o9 → gW D ad cy N A s.heap c11 d0 H locs → lv_has ls 6 [(0, .ref (ad t)), (2, .int a2), (3, .int x8), (4, .int y10), (5, .int x18)] → W p l e rmX4_layLevel s m args below meth cod H locs 0 0 Q (F0 m 70 ls []) := by
            intro  H locs ls h G hl
            rw [eK23] at h
            refine lv_aload_n hx hb dX4_layLevel_70 rfl (lv_at hl 0 rfl) ?_
            refine lv_iload hx hb dX4_layLevel_71 (lv_at hl 4 rfl) ?_
            refine fp_4_apart F G hk1 ht2 in4 (by decide +kernel) dX4_layLevel_73 (fun H locs G => ?_)
            obtain ⟨c24, ec24⟩ : ∃ z, z = gm_r c11 t (upd (c11.1 t) 2 x18) := ⟨_, rfl⟩
            rw [← ec24] at G
            replace h := gv_s h c24 ec24
            refine lv_aload_n hx hb dX4_layLevel_76 rfl (lv_at hl 0 rfl) ?_
            refine lv_iload hx hb dX4_layLevel_77 (lv_at hl 3 rfl) ?_
            refine fp_4_pan F G hk1 ht2 in4 (by decide +kernel) dX4_layLevel_79 (fun H locs G => ?_)
            obtain ⟨c25, ec25⟩ : ∃ z, z = gm_r c24 t (upd (c24.1 t) 3 y10) := ⟨_, rfl⟩
            rw [← ec25] at G
            replace h := gv_s h c25 ec25
            exact JK20 _ _ _ _ h G (lv_sub hl [0, 1, 2, 3] rfl)
          refine lv_if_eq (tgt := 70) hx hb dX4_layLevel_58 (by decide) (fun q26 => ?_) (fun q26 => ?_)
          · replace h := gt_s q26 h
            exact JK23  _ _ _ h G (lv_sub hl [1, 2, 3, 4, 0] rfl)
          · replace h := gf_s q26 h
            refine lv_iload hx hb dX4_layLevel_61 (lv_at hl 0 rfl) ?_
            refine lv_aload_n hx hb dX4_layLevel_63 rfl (lv_at hl 1 rfl) ?_
            refine fg_4_apart F G hk1 ht2 in4 (by decide +kernel) dX4_layLevel_64 ?_
            refine lv_icmp_gt (tgt := 82) hx hb dX4_layLevel_67 (by decide) (fun q27 => ?_) (fun q27 => ?_)
            · replace h := gt_s q27 h
              exact JK20 _ _ _ _ h G (lv_sub hl [1, 2, 3, 4] rfl)
            · replace h := gf_s q27 h
              exact JK23  _ _ _ h G (lv_sub hl [1, 2, 3, 4, 0] rfl)
  exact L9 n _ _ _ _ _ hb9 G (lv_sub hl [2, 4, 1, 0] rfl)
def m_X4_givenBy_L5 (a1 : Nat) (a2 : Int32) (a3 : Int32) (c : gm) (y2 : Int32) (y3 : Int32) : Option ((Int32 × Int32) ⊕ (Int32)) :=
  gc (gck a1 = 6) ((if (c.1 a1 5) ≤ y3 then some (.inr y2) else gj (fun (v8 : Int32) => gv (y2 + v8) (fun (x10 : Int32) => gv (y3 + 1) (fun (x11 : Int32) => some (.inl (x10, x11))))) (fun K9 => (if ((a2 >>> (y3 &&& 31)) &&& 1) = 0 then K9 0 else gb (m_X6_weightOf a1 y3 c) (fun (r14 : Int32) => K9 (if a3 < r14 then a3 else r14))))))
def m_X4_givenBy (n : Nat) (a1 : Nat) (a2 : Int32) (a3 : Int32) (c : gm) : Option (Int32) :=
  gb (gloop (gu2 (fun (y2 : Int32) (y3 : Int32) => m_X4_givenBy_L5 a1 a2 a3 c y2 y3)) n (0, 0)) (fun (z4 : Int32) => some z4)
abbrev rmX4_givenBy : Room := { frames := 2, cells := 0, slots := 0, locals := 42 }
set_option maxHeartbeats 4000000 in
set_option maxRecDepth 100000 in
theorem c_X4_givenBy (l : Launch) (sa : gSa) (D : va_G) (ad : Nat → Nat) (cy : Nat → ClassId) (N sz : Nat) (hN : 55 ≤ N) (hI : gI ad N) (c d0 : gm) {n : Nat} {a1 : Nat} {a2 : Int32} {a3 : Int32} {rZ : Int32} (h : m_X4_givenBy n a1 a2 a3 c = some rZ) : Met l yX4_givenBy wsX4_givenBy rmX4_givenBy (va_Pc [.ref (ad a1), .int a2, .int a3] (gP sa D ad cy N sz c d0)) (va_Qi (fun (z : Int32) (_ : Unit) => z = rZ) (fun _ U => gE D ad cy N c d0 U) (gA ad N sz)) 0 0 (gA ad N sz) := by
  refine Met.ofW (cc := cX4_givenBy) (maxL := 5) (ret := (some .int)) (by decide) rfl ?_
  intro p e s m args below meth cod s₁ B hml hv
  obtain ⟨rfl, hsz, hP, hK, hZ⟩ := hv
  have hx := B.exec
  have hb := B.bytes
  have hr := B.returns
  have hts := atoms_spec (ws := wsX4_givenBy) B.pre
  have hown : s.vm.findClass RX4 = some m.cls := findClass_of_methodNamed B.named
  have hlocks := B.notSynchronized
  subst hsz
  have hl := lv_entry ([.ref (ad a1), .int a2, .int a3]) (n := 5) (Nat.le_of_ble_eq_true rfl)
  rw [lg_entry_eq]
  generalize (lg_sl ([.ref (ad a1), .int a2, .int a3]) ++ List.replicate (5 - (lg_sl ([.ref (ad a1), .int a2, .int a3])).length) Slot.unset).toArray = ls at hl ⊢
  have hl : lv_has ls 5 [(0, .ref (ad a1)), (1, .int a2), (2, .int a3)] := hl
  have in6 : ∀ w ∈ wsX60, w ∈ wsX4_givenBy := by decide +kernel
  generalize hargs : ([.ref (ad a1), .int a2, .int a3] : List Value).toArray = args at *
  generalize hAe : gA ad N s.heap.size = A
  have F : gF sa D ad cy N A p s m args cod cX4_givenBy 5 wsX4_givenBy RX4 := ⟨hx, hb, hml, hown, hts, hK, hI, by rw [← hAe]; exact gA_ad, by rw [← hAe]; exact gA_sz, by rw [← hAe]; exact hZ⟩
  have G : gW D ad cy N A s.heap c d0 s.heap [] := ⟨hP, va_S.rf⟩
  generalize hQ : MQ below (va_Qi (fun (z : Int32) (_ : Unit) => z = rZ) (fun _ U => gE D ad cy N c d0 U) A) args s 0 0 A = Q
  suffices hgen : ∀ (H : Heap) (locs : List Loc), gW D ad cy N A s.heap c d0 H locs → W p l e rmX4_givenBy s m args below meth cod H locs 0 0 Q (F0 m 0 ls []) from hgen _ _ G
  clear G
  intro H locs G
  unfold m_X4_givenBy at h
  refine lv_iconst (v := 0) hx hb dX4_givenBy_0 (by decide) ?_
  refine lv_istore_n (lv' := [(3, .int 0), (0, .ref (ad a1)), (1, .int a2), (2, .int a3)]) hx hb dX4_givenBy_1 rfl hl (by decide) rfl (fun ls hl => ?_)
  refine lv_iconst (v := 0) hx hb dX4_givenBy_2 (by decide) ?_
  refine lv_istore (lv' := [(4, .int 0), (3, .int 0), (0, .ref (ad a1)), (1, .int a2), (2, .int a3)]) hx hb dX4_givenBy_3 hl (by decide) rfl (fun ls hl => ?_)
  obtain ⟨b1, hb1, hK1⟩ := gb_s h
  have E1 : ∀ (z4 : Int32) (H : Heap) (locs : List Loc) (ls : Array Slot), (z4 : Int32) = b1 → gW D ad cy N A s.heap c d0 H locs → lv_has ls 5 [(3, .int z4)] → W p l e rmX4_givenBy s m args below meth cod H locs 0 0 Q (F0 m 46 ls []) := by
    intro z4 H locs ls hq1 G hl
    subst hq1
    replace hK1 := hK1
    have h := hK1
    refine lv_iload_n hx hb dX4_givenBy_46 rfl (lv_at hl 0 rfl) ?_
    cases h
    rw [← hQ]
    exact gx_iret F G hr hlocks dX4_givenBy_47
  have L1 : ∀ (n9 : Nat) (y2 : Int32) (y3 : Int32) (H : Heap) (locs : List Loc) (ls : Array Slot), gloop (gu2 (fun (y2 : Int32) (y3 : Int32) => m_X4_givenBy_L5 a1 a2 a3 c y2 y3)) n9 (y2, y3) = some b1 → gW D ad cy N A s.heap c d0 H locs → lv_has ls 5 [(0, .ref (ad a1)), (1, .int a2), (2, .int a3), (3, .int y2), (4, .int y3)] → W p l e rmX4_givenBy s m args below meth cod H locs 0 0 Q (F0 m 5 ls []) := by
    intro n9
    induction n9 with
    | zero => intro y2 y3 H locs ls h; exact (gloop_0 h).elim
    | succ n9 ih =>
      intro y2 y3 H locs ls h G hl
      have ih1 := ih
      obtain ⟨o1, h, hn1⟩ := gloop_s h
      replace h := gu2_s h
      unfold m_X4_givenBy_L5 at h
      refine lv_iload hx hb dX4_givenBy_5 (lv_at hl 4 rfl) ?_
      refine lv_aload_n hx hb dX4_givenBy_7 rfl (lv_at hl 0 rfl) ?_
      obtain ⟨hk5, h⟩ := gc_s h
      have ht6 : a1 < N := Nat.lt_of_lt_of_le (gck_lt6 hk5) hN
      refine fg_6_things F G hk5 ht6 in6 (by decide +kernel) dX4_givenBy_8 ?_
      refine lv_icmp_ge (tgt := 46) hx hb dX4_givenBy_11 (by decide) (fun q7 => ?_) (fun q7 => ?_)
      · replace h := gt_s q7 h
        cases h
        exact E1 _ _ _ _ (gnx_r hn1) G (lv_sub hl [3] rfl)
      · replace h := gf_s q7 h
        refine lv_iload_n hx hb dX4_givenBy_14 rfl (lv_at hl 3 rfl) ?_
        refine lv_iload_n hx hb dX4_givenBy_15 rfl (lv_at hl 1 rfl) ?_
        refine lv_iload hx hb dX4_givenBy_16 (lv_at hl 4 rfl) ?_
        refine lv_ishr hx hb dX4_givenBy_18 ?_
        refine lv_iconst (v := 1) hx hb dX4_givenBy_19 (by decide) ?_
        refine lv_iand hx hb dX4_givenBy_20 ?_
        obtain ⟨K9, eK9, h⟩ := gj_s h
        have JK9 : ∀ (v8 : Int32) (H : Heap) (locs : List Loc) (ls : Array Slot), K9 v8 = some o1 → gW D ad cy N A s.heap c d0 H locs → lv_has ls 5 [(0, .ref (ad a1)), (1, .int a2), (2, .int a3), (4, .int y3)] → W p l e rmX4_givenBy s m args below meth cod H locs 0 0 Q (F0 m 38 ls [.int v8, .int y2]) := by
          intro v8 H locs ls h G hl
          rw [eK9] at h
          refine lv_iadd hx hb dX4_givenBy_38 ?_
          refine lv_topi (fun x10 ex10 => ?_)
          replace h := gv_s h x10 ex10
          refine lv_istore_n (lv' := [(3, .int x10), (0, .ref (ad a1)), (1, .int a2), (2, .int a3), (4, .int y3)]) hx hb dX4_givenBy_39 rfl hl (by decide) rfl (fun ls hl => ?_)
          obtain ⟨x11, ex11⟩ : ∃ z : Int32, z = y3 + 1 := ⟨_, rfl⟩
          replace h := gv_s h x11 ex11
          refine lv_iinc (v := x11) (lv' := [(4, .int x11), (3, .int x10), (0, .ref (ad a1)), (1, .int a2), (2, .int a3)]) hx hb dX4_givenBy_40 hl (k := 4) rfl (by rw [ex11]; rfl) (by decide) rfl (fun ls hl => ?_)
          refine lv_goto (tgt := 5) hx hb dX4_givenBy_43 (by decide) ?_
          cases h
          exact ih1 _ _ _ _ _ hn1 G (lv_sub hl [2, 3, 4, 1, 0] rfl)
        refine lv_if_eq (tgt := 37) hx hb dX4_givenBy_21 (by decide) (fun q12 => ?_) (fun q12 => ?_)
        · replace h := gt_s q12 h
          refine lv_iconst (v := 0) hx hb dX4_givenBy_37 (by decide) ?_
          exact JK9 _ _ _ _ h G (lv_sub hl [0, 1, 2, 4] rfl)
        · replace h := gf_s q12 h
          refine lv_aload_n hx hb dX4_givenBy_24 rfl (lv_at hl 0 rfl) ?_
          refine lv_iload hx hb dX4_givenBy_25 (lv_at hl 4 rfl) ?_
          obtain ⟨r14, hc13, h⟩ := gb_s h
          refine gx_calli F G (va_runV (As := [.int y3]) (rest := [.int y2]) (gx_fix F) (c_X6_weightOf l sa D ad cy N H.size hN hI c d0 hc13) (cwV 1 hts gX4_givenBy_X6_weightOf rfl rfl rfl (by decide +kernel) ⟨by decide, by decide⟩) (gx_rec F G ht6 (gwe_6 hk5) rfl) rfl rfl hl.1 rfl (lv_room (Nat.le_of_ble_eq_true rfl)) dX4_givenBy_27 ⟨Nat.zero_le _, Nat.zero_le _⟩) (fun H locs G => ?_)
          refine lv_iload_n hx hb dX4_givenBy_30 rfl (lv_at hl 2 rfl) ?_
          refine va_mmin hx hb (hml.trans hl.1.symm) hown (hts (.methodLink RX4 60 Lib.Math.min.name) (by decide +kernel)) (hts (.static Lib.Math.min.name) (by decide +kernel)) (hts (.initialized "java/lang/Math") (by decide +kernel)) (hts (.code Lib.Math.min.name Lib.Math.min.code 2 (some .int)) (by decide +kernel)) (Nat.le_of_ble_eq_true rfl) (Nat.le_of_ble_eq_true rfl) (Nat.zero_le _) (Nat.zero_le _) dX4_givenBy_31 ?_
          refine lv_goto (tgt := 38) hx hb dX4_givenBy_34 (by decide) ?_
          exact JK9 _ _ _ _ h G (lv_sub hl [0, 1, 2, 4] rfl)
  exact L1 n _ _ _ _ _ hb1 G (lv_sub hl [2, 3, 4, 1, 0] rfl)
def m_X4_shareBound_L6 (n : Nat) (a1 : Nat) (a2 : Int32) (a3 : Int32) (c : gm) (y2 : Int32) (y3 : Int32) : Option ((Int32 × Int32) ⊕ (Int32)) :=
  (if 60 < y3 then some (.inr y2) else gb (m_X4_givenBy n a1 a2 y3 c) (fun (r7 : Int32) => gj (fun (v8 : Int32) => gv (y3 + 1) (fun (x10 : Int32) => some (.inl (v8, x10)))) (fun K9 => (if a3 < r7 then K9 y2 else K9 y3))))
def m_X4_shareBound (n : Nat) (t : Nat) (a1 : Nat) (a2 : Int32) (a3 : Int32) (c : gm) : Option (Int32) :=
  gb (gloop (gu2 (fun (y2 : Int32) (y3 : Int32) => m_X4_shareBound_L6 n a1 a2 a3 c y2 y3)) n (0, 1)) (fun (z4 : Int32) => some z4)
abbrev rmX4_shareBound : Room := { frames := 3, cells := 0, slots := 0, locals := 66 }
set_option maxHeartbeats 4000000 in
set_option maxRecDepth 100000 in
theorem c_X4_shareBound (l : Launch) (sa : gSa) (D : va_G) (ad : Nat → Nat) (cy : Nat → ClassId) (N sz : Nat) (hN : 55 ≤ N) (hI : gI ad N) (c d0 : gm) {n : Nat} {t : Nat} {a1 : Nat} {a2 : Int32} {a3 : Int32} {rZ : Int32} (h : m_X4_shareBound n t a1 a2 a3 c = some rZ) : Met l yX4_shareBound wsX4_shareBound rmX4_shareBound (va_Pc [.ref (ad t), .ref (ad a1), .int a2, .int a3] (gP sa D ad cy N sz c d0)) (va_Qi (fun (z : Int32) (_ : Unit) => z = rZ) (fun _ U => gE D ad cy N c d0 U) (gA ad N sz)) 0 0 (gA ad N sz) := by
  refine Met.ofW (cc := cX4_shareBound) (maxL := 6) (ret := (some .int)) (by decide) rfl ?_
  intro p e s m args below meth cod s₁ B hml hv
  obtain ⟨rfl, hsz, hP, hK, hZ⟩ := hv
  have hx := B.exec
  have hb := B.bytes
  have hr := B.returns
  have hts := atoms_spec (ws := wsX4_shareBound) B.pre
  have hown : s.vm.findClass RX4 = some m.cls := findClass_of_methodNamed B.named
  have hlocks := B.notSynchronized
  subst hsz
  have hl := lv_entry ([.ref (ad t), .ref (ad a1), .int a2, .int a3]) (n := 6) (Nat.le_of_ble_eq_true rfl)
  rw [lg_entry_eq]
  generalize (lg_sl ([.ref (ad t), .ref (ad a1), .int a2, .int a3]) ++ List.replicate (6 - (lg_sl ([.ref (ad t), .ref (ad a1), .int a2, .int a3])).length) Slot.unset).toArray = ls at hl ⊢
  have hl : lv_has ls 6 [(0, .ref (ad t)), (1, .ref (ad a1)), (2, .int a2), (3, .int a3)] := hl
  generalize hargs : ([.ref (ad t), .ref (ad a1), .int a2, .int a3] : List Value).toArray = args at *
  generalize hAe : gA ad N s.heap.size = A
  have F : gF sa D ad cy N A p s m args cod cX4_shareBound 6 wsX4_shareBound RX4 := ⟨hx, hb, hml, hown, hts, hK, hI, by rw [← hAe]; exact gA_ad, by rw [← hAe]; exact gA_sz, by rw [← hAe]; exact hZ⟩
  have G : gW D ad cy N A s.heap c d0 s.heap [] := ⟨hP, va_S.rf⟩
  generalize hQ : MQ below (va_Qi (fun (z : Int32) (_ : Unit) => z = rZ) (fun _ U => gE D ad cy N c d0 U) A) args s 0 0 A = Q
  suffices hgen : ∀ (H : Heap) (locs : List Loc), gW D ad cy N A s.heap c d0 H locs → W p l e rmX4_shareBound s m args below meth cod H locs 0 0 Q (F0 m 0 ls []) from hgen _ _ G
  clear G
  intro H locs G
  unfold m_X4_shareBound at h
  refine lv_iconst (v := 0) hx hb dX4_shareBound_0 (by decide) ?_
  refine lv_istore (lv' := [(4, .int 0), (0, .ref (ad t)), (1, .ref (ad a1)), (2, .int a2), (3, .int a3)]) hx hb dX4_shareBound_1 hl (by decide) rfl (fun ls hl => ?_)
  refine lv_iconst (v := 1) hx hb dX4_shareBound_3 (by decide) ?_
  refine lv_istore (lv' := [(5, .int 1), (4, .int 0), (0, .ref (ad t)), (1, .ref (ad a1)), (2, .int a2), (3, .int a3)]) hx hb dX4_shareBound_4 hl (by decide) rfl (fun ls hl => ?_)
  obtain ⟨b1, hb1, hK1⟩ := gb_s h
  have E1 : ∀ (z4 : Int32) (H : Heap) (locs : List Loc) (ls : Array Slot), (z4 : Int32) = b1 → gW D ad cy N A s.heap c d0 H locs → lv_has ls 6 [(4, .int z4)] → W p l e rmX4_shareBound s m args below meth cod H locs 0 0 Q (F0 m 39 ls []) := by
    intro z4 H locs ls hq1 G hl
    subst hq1
    replace hK1 := hK1
    have h := hK1
    refine lv_iload hx hb dX4_shareBound_39 (lv_at hl 0 rfl) ?_
    cases h
    rw [← hQ]
    exact gx_iret F G hr hlocks dX4_shareBound_41
  have L1 : ∀ (n9 : Nat) (y2 : Int32) (y3 : Int32) (H : Heap) (locs : List Loc) (ls : Array Slot), gloop (gu2 (fun (y2 : Int32) (y3 : Int32) => m_X4_shareBound_L6 n a1 a2 a3 c y2 y3)) n9 (y2, y3) = some b1 → gW D ad cy N A s.heap c d0 H locs → lv_has ls 6 [(1, .ref (ad a1)), (2, .int a2), (3, .int a3), (4, .int y2), (5, .int y3)] → W p l e rmX4_shareBound s m args below meth cod H locs 0 0 Q (F0 m 6 ls []) := by
    intro n9
    induction n9 with
    | zero => intro y2 y3 H locs ls h; exact (gloop_0 h).elim
    | succ n9 ih =>
      intro y2 y3 H locs ls h G hl
      have ih1 := ih
      obtain ⟨o1, h, hn1⟩ := gloop_s h
      replace h := gu2_s h
      unfold m_X4_shareBound_L6 at h
      refine lv_iload hx hb dX4_shareBound_6 (lv_at hl 4 rfl) ?_
      refine lv_bipush (v := 60) hx hb dX4_shareBound_8 (by decide) ?_
      refine lv_icmp_gt (tgt := 39) hx hb dX4_shareBound_10 (by decide) (fun q5 => ?_) (fun q5 => ?_)
      · replace h := gt_s q5 h
        cases h
        exact E1 _ _ _ _ (gnx_r hn1) G (lv_sub hl [3] rfl)
      · replace h := gf_s q5 h
        refine lv_aload_n hx hb dX4_shareBound_13 rfl (lv_at hl 0 rfl) ?_
        refine lv_iload_n hx hb dX4_shareBound_14 rfl (lv_at hl 1 rfl) ?_
        refine lv_iload hx hb dX4_shareBound_15 (lv_at hl 4 rfl) ?_
        obtain ⟨r7, hc6, h⟩ := gb_s h
        refine gx_calli F G (va_runS (As := [.ref (ad a1), .int a2, .int y3]) (rest := []) (gx_fix F) (c_X4_givenBy l sa D ad cy N H.size hN hI c d0 hc6) (va_cwS 3 hts gX4_shareBound_X4_givenBy rfl rfl rfl (by decide +kernel) ⟨by decide, by decide⟩) (gx_pre F G) rfl rfl hl.1 rfl (lv_room (Nat.le_of_ble_eq_true rfl)) dX4_shareBound_17 ⟨Nat.zero_le _, Nat.zero_le _⟩) (fun H locs G => ?_)
        refine lv_iload_n hx hb dX4_shareBound_20 rfl (lv_at hl 2 rfl) ?_
        obtain ⟨K9, eK9, h⟩ := gj_s h
        have JK9 : ∀ (v8 : Int32) (H : Heap) (locs : List Loc) (ls : Array Slot), K9 v8 = some o1 → gW D ad cy N A s.heap c d0 H locs → lv_has ls 6 [(1, .ref (ad a1)), (2, .int a2), (3, .int a3), (5, .int y3)] → W p l e rmX4_shareBound s m args below meth cod H locs 0 0 Q (F0 m 31 ls [.int v8]) := by
          intro v8 H locs ls h G hl
          rw [eK9] at h
          refine lv_istore (lv' := [(4, .int v8), (1, .ref (ad a1)), (2, .int a2), (3, .int a3), (5, .int y3)]) hx hb dX4_shareBound_31 hl (by decide) rfl (fun ls hl => ?_)
          obtain ⟨x10, ex10⟩ : ∃ z : Int32, z = y3 + 1 := ⟨_, rfl⟩
          replace h := gv_s h x10 ex10
          refine lv_iinc (v := x10) (lv' := [(5, .int x10), (4, .int v8), (1, .ref (ad a1)), (2, .int a2), (3, .int a3)]) hx hb dX4_shareBound_33 hl (k := 4) rfl (by rw [ex10]; rfl) (by decide) rfl (fun ls hl => ?_)
          refine lv_goto (tgt := 6) hx hb dX4_shareBound_36 (by decide) ?_
          cases h
          exact ih1 _ _ _ _ _ hn1 G (lv_sub hl [2, 3, 4, 1, 0] rfl)
        refine lv_icmp_gt (tgt := 29) hx hb dX4_shareBound_21 (by decide) (fun q11 => ?_) (fun q11 => ?_)
        · replace h := gt_s q11 h
          refine lv_iload hx hb dX4_shareBound_29 (lv_at hl 3 rfl) ?_
          exact JK9 _ _ _ _ h G (lv_sub hl [0, 1, 2, 4] rfl)
        · replace h := gf_s q11 h
          refine lv_iload hx hb dX4_shareBound_24 (lv_at hl 4 rfl) ?_
          refine lv_goto (tgt := 31) hx hb dX4_shareBound_26 (by decide) ?_
          exact JK9 _ _ _ _ h G (lv_sub hl [0, 1, 2, 4] rfl)
  exact L1 n _ _ _ _ _ hb1 G (lv_sub hl [3, 4, 5, 1, 0] rfl)
def m_X5_forget (t : Nat) (c : gm) : Option (gm) :=
  gc (gck t = 5) (gv (gm_r c t (upd (c.1 t) 3 0)) (fun (c3 : gm) => gv (gm_r c3 t (upd (c3.1 t) 4 0)) (fun (c4 : gm) => some c4)))
abbrev rmX5_forget : Room := { frames := 0, cells := 0, slots := 0, locals := 0 }
set_option maxHeartbeats 4000000 in
set_option maxRecDepth 100000 in
theorem c_X5_forget (l : Launch) (sa : gSa) (D : va_G) (ad : Nat → Nat) (cy : Nat → ClassId) (N sz : Nat) (hN : 55 ≤ N) (hI : gI ad N) (c d0 : gm) {t : Nat} {cZ : gm} (h : m_X5_forget t c = some cZ) : Met l yX5_forget wsX5_forget rmX5_forget (va_Pc [.ref (ad t)] (gP sa D ad cy N sz c d0)) (va_Qv (fun (_ : Unit) => True) (fun _ U => gE D ad cy N cZ d0 U) (gA ad N sz)) 0 0 (gA ad N sz) := by
  refine Met.ofW (cc := cX5_forget) (maxL := 1) (ret := none) (by decide) rfl ?_
  intro p e s m args below meth cod s₁ B hml hv
  obtain ⟨rfl, hsz, hP, hK, hZ⟩ := hv
  have hx := B.exec
  have hb := B.bytes
  have hr := B.returns
  have hts := atoms_spec (ws := wsX5_forget) B.pre
  have hown : s.vm.findClass RX5 = some m.cls := findClass_of_methodNamed B.named
  have hlocks := B.notSynchronized
  subst hsz
  have hl := lv_entry ([.ref (ad t)]) (n := 1) (Nat.le_of_ble_eq_true rfl)
  rw [lg_entry_eq]
  generalize (lg_sl ([.ref (ad t)]) ++ List.replicate (1 - (lg_sl ([.ref (ad t)])).length) Slot.unset).toArray = ls at hl ⊢
  have hl : lv_has ls 1 [(0, .ref (ad t))] := hl
  have in5 : ∀ w ∈ wsX50, w ∈ wsX5_forget := by decide +kernel
  generalize hargs : ([.ref (ad t)] : List Value).toArray = args at *
  generalize hAe : gA ad N s.heap.size = A
  have F : gF sa D ad cy N A p s m args cod cX5_forget 1 wsX5_forget RX5 := ⟨hx, hb, hml, hown, hts, hK, hI, by rw [← hAe]; exact gA_ad, by rw [← hAe]; exact gA_sz, by rw [← hAe]; exact hZ⟩
  have G : gW D ad cy N A s.heap c d0 s.heap [] := ⟨hP, va_S.rf⟩
  generalize hQ : MQ below (va_Qv (fun (_ : Unit) => True) (fun _ U => gE D ad cy N cZ d0 U) A) args s 0 0 A = Q
  suffices hgen : ∀ (H : Heap) (locs : List Loc), gW D ad cy N A s.heap c d0 H locs → W p l e rmX5_forget s m args below meth cod H locs 0 0 Q (F0 m 0 ls []) from hgen _ _ G
  clear G
  intro H locs G
  unfold m_X5_forget at h
  refine lv_aload_n hx hb dX5_forget_0 rfl (lv_at hl 0 rfl) ?_
  refine lv_iconst (v := 0) hx hb dX5_forget_1 (by decide) ?_
  obtain ⟨hk1, h⟩ := gc_s h
  have ht2 : t < N := Nat.lt_of_lt_of_le (gck_lt5 hk1) hN
  refine fp_5_works F G hk1 ht2 in5 (by decide +kernel) dX5_forget_2 (fun H locs G => ?_)
  obtain ⟨c3, ec3⟩ : ∃ z, z = gm_r c t (upd (c.1 t) 3 0) := ⟨_, rfl⟩
  rw [← ec3] at G
  replace h := gv_s h c3 ec3
  refine lv_aload_n hx hb dX5_forget_5 rfl (lv_at hl 0 rfl) ?_
  refine lv_iconst (v := 0) hx hb dX5_forget_6 (by decide) ?_
  refine fp_5_images F G hk1 ht2 in5 (by decide +kernel) dX5_forget_7 (fun H locs G => ?_)
  obtain ⟨c4, ec4⟩ : ∃ z, z = gm_r c3 t (upd (c3.1 t) 4 0) := ⟨_, rfl⟩
  rw [← ec4] at G
  replace h := gv_s h c4 ec4
  cases h
  rw [← hQ]
  exact gx_vret F G hr hlocks dX5_forget_10
