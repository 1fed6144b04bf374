-- X1_arrive X1_walk X1_seekChain X1_seekRings X9_commonMeasure X1_bestPart X1_isOneOrMore X1_breaksAll X1_fewestGone X6_copyFrom X2_draw X6_standingOf X6_addCry X6_addNewCry X6_weigh X6_tip X2_dealOnce X6_criesWith X6_weighedOf
def m_X1_arrive (t : Nat) (a1 : Int32) (a2 : Int64) (a3 : Int64) (c : gm) : Option (gm) :=
  gc (gck t = 1) (gj (fun (c3 : gm) => (if (lg_cmp a2 a3) ≤ 0 then some c3 else (if (nI 1024) ≤ (c3.1 t 1) then some c3 else gc (0 ≤ (c3.1 t 1).toInt ∧ (c3.1 t 1).toInt < 1024) (gv (gm_r c3 (t + 1) (upd (c3.1 (t + 1)) (c3.1 t 1).toNatClampNeg a1)) (fun (c11 : gm) => gv (gm_r c11 t (upd (c11.1 t) 1 ((c11.1 t 1) + 1))) (fun (c12 : gm) => gb (m_J6_bitCount_0f7a4 a1) (fun (r14 : Int32) => gj (fun (v15 : Int32) => gv (gm_r c12 t (upd (c12.1 t) 2 v15)) (fun (c17 : gm) => some c17)) (fun K16 => (if (c12.1 t 2) = (-1) then K16 r14 else K16 (if r14 < (c12.1 t 2) then r14 else (c12.1 t 2))))))))))) (fun K4 => (if (lg_cmp (a2 * (c.2.1 t 5)) ((c.2.1 t 4) * a3)) ≤ 0 then K4 c else gv (gm_l c t (vp_updL (c.2.1 t) 4 a2)) (fun (c20 : gm) => gv (gm_l c20 t (vp_updL (c20.2.1 t) 5 a3)) (fun (c21 : gm) => K4 c21)))))
abbrev rmX1_arrive : Room := { frames := 1, cells := 0, slots := 0, locals := 40 }
set_option maxHeartbeats 4000000 in
set_option maxRecDepth 100000 in
theorem c_X1_arrive (l : Launch) (sa : gSa) (D : va_G) (ad : Nat → Nat) (cy : Nat → ClassId) (N sz : Nat) (hN : 55 ≤ N) (hI : gI ad N) (c d0 : gm) {t : Nat} {a1 : Int32} {a2 : Int64} {a3 : Int64} {cZ : gm} (h : m_X1_arrive t a1 a2 a3 c = some cZ) : Met l yX1_arrive wsX1_arrive rmX1_arrive (va_Pc [.ref (ad t), .int a1, .long a2, .long a3] (gP sa D ad cy N sz c d0)) (va_Qv (fun (_ : Unit) => True) (fun _ U => gE D ad cy N cZ d0 U) (gA ad N sz)) 0 0 (gA ad N sz) := by
  refine Met.ofW (cc := cX1_arrive) (maxL := 7) (ret := none) (by decide) rfl ?_
  intro p e s m args below meth cod s₁ B hml hv
  obtain ⟨rfl, hsz, hP, hK, hZ⟩ := hv
  have hx := B.exec
  have hb := B.bytes
  have hr := B.returns
  have hts := atoms_spec (ws := wsX1_arrive) B.pre
  have hown : s.vm.findClass RX1 = some m.cls := findClass_of_methodNamed B.named
  have hlocks := B.notSynchronized
  subst hsz
  have hl := lv_entry ([.ref (ad t), .int a1, .long a2, .long a3]) (n := 7) (Nat.le_of_ble_eq_true rfl)
  rw [lg_entry_eq]
  generalize (lg_sl ([.ref (ad t), .int a1, .long a2, .long a3]) ++ List.replicate (7 - (lg_sl ([.ref (ad t), .int a1, .long a2, .long a3])).length) Slot.unset).toArray = ls at hl ⊢
  have hl : lv_has ls 7 [(0, .ref (ad t)), (1, .int a1), (2, .long a2), (4, .long a3)] := hl
  have in1 : ∀ w ∈ wsX10, w ∈ wsX1_arrive := by decide +kernel
  generalize hargs : ([.ref (ad t), .int a1, .long a2, .long a3] : List Value).toArray = args at *
  generalize hAe : gA ad N s.heap.size = A
  have F : gF sa D ad cy N A p s m args cod cX1_arrive 7 wsX1_arrive RX1 := ⟨hx, hb, hml, hown, hts, hK, hI, by rw [← hAe]; exact gA_ad, by rw [← hAe]; exact gA_sz, by rw [← hAe]; exact hZ⟩
  have G : gW D ad cy N A s.heap c d0 s.heap [] := ⟨hP, va_S.rf⟩
  generalize hQ : MQ below (va_Qv (fun (_ : Unit) => True) (fun _ U => gE D ad cy N cZ d0 U) A) args s 0 0 A = Q
  suffices hgen : ∀ (H : Heap) (locs : List Loc), gW D ad cy N A s.heap c d0 H locs → W p l e rmX1_arrive s m args below meth cod H locs 0 0 Q (F0 m 0 ls []) from hgen _ _ G
  clear G
  intro H locs G
  unfold m_X1_arrive at h
  refine lv_lload_n hx hb dX1_arrive_0 rfl (lv_at hl 2 rfl) ?_
  refine lv_aload_n hx hb dX1_arrive_1 rfl (lv_at hl 0 rfl) ?_
  obtain ⟨hk1, h⟩ := gc_s h
  have ht2 : t < N := Nat.lt_of_lt_of_le (gck_lt1 hk1) hN
  refine fg_1_bestDown F G hk1 ht2 in1 (by decide +kernel) dX1_arrive_2 ?_
  refine lv_lmul hx hb dX1_arrive_5 ?_
  refine lv_aload_n hx hb dX1_arrive_6 rfl (lv_at hl 0 rfl) ?_
  refine fg_1_bestUp F G hk1 ht2 in1 (by decide +kernel) dX1_arrive_7 ?_
  refine lv_lload hx hb dX1_arrive_10 (lv_at hl 3 rfl) ?_
  refine lv_lmul hx hb dX1_arrive_12 ?_
  refine W.lcmp hx hb dX1_arrive_13 ?_
  obtain ⟨K4, eK4, h⟩ := gj_s h
  have JK4 : ∀ (c3 : gm) (H : Heap) (locs : List Loc) (ls : Array Slot), K4 c3 = some cZ → gW D ad cy N A s.heap c3 d0 H locs → lv_has ls 7 [(0, .ref (ad t)), (1, .int a1), (2, .long a2), (4, .long a3)] → W p l e rmX1_arrive s m args below meth cod H locs 0 0 Q (F0 m 28 ls []) := by
    intro c3 H locs ls h G hl
    rw [eK4] at h
    refine lv_lload_n hx hb dX1_arrive_28 rfl (lv_at hl 2 rfl) ?_
    refine lv_lload hx hb dX1_arrive_29 (lv_at hl 3 rfl) ?_
    refine W.lcmp hx hb dX1_arrive_31 ?_
    refine lv_if_le (tgt := 99) hx hb dX1_arrive_32 (by decide) (fun q5 => ?_) (fun q5 => ?_)
    · replace h := gt_s q5 h
      cases h
      rw [← hQ]
      exact gx_vret F G hr hlocks dX1_arrive_99
    · replace h := gf_s q5 h
      refine lv_aload_n hx hb dX1_arrive_35 rfl (lv_at hl 0 rfl) ?_
      refine fg_1_fatCount F G hk1 ht2 in1 (by decide +kernel) dX1_arrive_36 ?_
      refine lv_aload_n hx hb dX1_arrive_39 rfl (lv_at hl 0 rfl) ?_
      refine fg_1_fatRings F G hk1 ht2 in1 (by decide +kernel) dX1_arrive_40 ?_
      obtain ⟨hk6, hn8⟩ := gka_1_fatRings hk1
      have ht7 : (t + 1) < N := Nat.lt_of_lt_of_le (gck_lt12 hk6) hN
      refine gx_ial F G hk6 ht7 hn8 dX1_arrive_43 ?_
      refine lv_icmp_ge (tgt := 99) hx hb dX1_arrive_44 (by decide) (fun q9 => ?_) (fun q9 => ?_)
      · replace h := gt_s q9 h
        cases h
        rw [← hQ]
        exact gx_vret F G hr hlocks dX1_arrive_99
      · replace h := gf_s q9 h
        refine lv_aload_n hx hb dX1_arrive_47 rfl (lv_at hl 0 rfl) ?_
        refine fg_1_fatRings F G hk1 ht2 in1 (by decide +kernel) dX1_arrive_48 ?_
        refine lv_aload_n hx hb dX1_arrive_51 rfl (lv_at hl 0 rfl) ?_
        refine fg_1_fatCount F G hk1 ht2 in1 (by decide +kernel) dX1_arrive_52 ?_
        refine lv_iload_n hx hb dX1_arrive_55 rfl (lv_at hl 1 rfl) ?_
        obtain ⟨hi10, h⟩ := gc_s h
        refine gx_is F G hk6 ht7 hn8 hi10 dX1_arrive_56 (fun H locs G => ?_)
        obtain ⟨c11, ec11⟩ : ∃ z, z = gm_r c3 (t + 1) (upd (c3.1 (t + 1)) (c3.1 t 1).toNatClampNeg a1) := ⟨_, rfl⟩
        rw [← ec11] at G
        replace h := gv_s h c11 ec11
        refine lv_aload_n hx hb dX1_arrive_57 rfl (lv_at hl 0 rfl) ?_
        refine lv_dup hx hb dX1_arrive_58 rfl ?_
        refine fg_1_fatCount F G hk1 ht2 in1 (by decide +kernel) dX1_arrive_59 ?_
        refine lv_iconst (v := 1) hx hb dX1_arrive_62 (by decide) ?_
        refine lv_iadd hx hb dX1_arrive_63 ?_
        refine fp_1_fatCount F G hk1 ht2 in1 (by decide +kernel) dX1_arrive_64 (fun H locs G => ?_)
        obtain ⟨c12, ec12⟩ : ∃ z, z = gm_r c11 t (upd (c11.1 t) 1 ((c11.1 t 1) + 1)) := ⟨_, rfl⟩
        rw [← ec12] at G
        replace h := gv_s h c12 ec12
        refine lv_iload_n hx hb dX1_arrive_67 rfl (lv_at hl 1 rfl) ?_
        obtain ⟨r14, hc13, h⟩ := gb_s h
        refine gx_calli F G (va_runS (As := [.int a1]) (rest := []) (gx_fix F) (c_J6_bitCount_0f7a4 l sa D ad cy N H.size hN hI c12 d0 hc13) (va_cwS 1 hts gX1_arrive_J6_bitCount_0f7a4 rfl rfl rfl (by decide +kernel) ⟨by decide, by decide⟩) (gx_pre F G) rfl rfl hl.1 rfl (lv_room (Nat.le_of_ble_eq_true rfl)) dX1_arrive_68 ⟨Nat.zero_le _, Nat.zero_le _⟩) (fun H locs G => ?_)
        refine lv_istore (lv' := [(6, .int r14), (0, .ref (ad t)), (1, .int a1), (2, .long a2), (4, .long a3)]) hx hb dX1_arrive_71 hl (by decide) rfl (fun ls hl => ?_)
        refine lv_aload_n hx hb dX1_arrive_73 rfl (lv_at hl 1 rfl) ?_
        refine lv_aload_n hx hb dX1_arrive_74 rfl (lv_at hl 1 rfl) ?_
        refine fg_1_shortestFat F G hk1 ht2 in1 (by decide +kernel) dX1_arrive_75 ?_
        refine lv_iconst (v := (-1)) hx hb dX1_arrive_78 (by decide) ?_
        obtain ⟨K16, eK16, h⟩ := gj_s h
        have JK16 : ∀ (v15 : Int32) (H : Heap) (locs : List Loc) (ls : Array Slot), K16 v15 = some cZ → gW D ad cy N A s.heap c12 d0 H locs → lv_has ls 7 [] → W p l e rmX1_arrive s m args below meth cod H locs 0 0 Q (F0 m 96 ls [.int v15, .ref (ad t)]) := by
          intro v15 H locs ls h G hl
          rw [eK16] at h
          refine fp_1_shortestFat F G hk1 ht2 in1 (by decide +kernel) dX1_arrive_96 (fun H locs G => ?_)
          obtain ⟨c17, ec17⟩ : ∃ z, z = gm_r c12 t (upd (c12.1 t) 2 v15) := ⟨_, rfl⟩
          rw [← ec17] at G
          replace h := gv_s h c17 ec17
          cases h
          rw [← hQ]
          exact gx_vret F G hr hlocks dX1_arrive_99
        refine lv_icmp_ne (tgt := 87) hx hb dX1_arrive_79 (by decide) (fun q18 => ?_) (fun q18 => ?_)
        · replace h := gf_s q18 h
          refine lv_aload_n hx hb dX1_arrive_87 rfl (lv_at hl 1 rfl) ?_
          refine fg_1_shortestFat F G hk1 ht2 in1 (by decide +kernel) dX1_arrive_88 ?_
          refine lv_iload hx hb dX1_arrive_91 (lv_at hl 0 rfl) ?_
          refine va_mmin hx hb (hml.trans hl.1.symm) hown (hts (.methodLink RX1 61 Lib.Math.min.name) (by decide +kernel)) (hts (.static Lib.Math.min.name) (by decide +kernel)) (hts (.initialized "java/lang/Math") (by decide +kernel)) (hts (.code Lib.Math.min.name Lib.Math.min.code 2 (some .int)) (by decide +kernel)) (Nat.le_of_ble_eq_true rfl) (Nat.le_of_ble_eq_true rfl) (Nat.zero_le _) (Nat.zero_le _) dX1_arrive_93 ?_
          exact JK16 _ _ _ _ h G (lv_sub hl [] rfl)
        · replace h := gt_s q18 h
          refine lv_iload hx hb dX1_arrive_82 (lv_at hl 0 rfl) ?_
          refine lv_goto (tgt := 96) hx hb dX1_arrive_84 (by decide) ?_
          exact JK16 _ _ _ _ h G (lv_sub hl [] rfl)
  refine lv_if_le (tgt := 28) hx hb dX1_arrive_14 (by decide) (fun q19 => ?_) (fun q19 => ?_)
  · replace h := gt_s q19 h
    exact JK4 _ _ _ _ h G hl
  · replace h := gf_s q19 h
    refine lv_aload_n hx hb dX1_arrive_17 rfl (lv_at hl 0 rfl) ?_
    refine lv_lload_n hx hb dX1_arrive_18 rfl (lv_at hl 2 rfl) ?_
    refine fp_1_bestUp F G hk1 ht2 in1 (by decide +kernel) dX1_arrive_19 (fun H locs G => ?_)
    obtain ⟨c20, ec20⟩ : ∃ z, z = gm_l c t (vp_updL (c.2.1 t) 4 a2) := ⟨_, rfl⟩
    rw [← ec20] at G
    replace h := gv_s h c20 ec20
    refine lv_aload_n hx hb dX1_arrive_22 rfl (lv_at hl 0 rfl) ?_
    refine lv_lload hx hb dX1_arrive_23 (lv_at hl 3 rfl) ?_
    refine fp_1_bestDown F G hk1 ht2 in1 (by decide +kernel) dX1_arrive_25 (fun H locs G => ?_)
    obtain ⟨c21, ec21⟩ : ∃ z, z = gm_l c20 t (vp_updL (c20.2.1 t) 5 a3) := ⟨_, rfl⟩
    rw [← ec21] at G
    replace h := gv_s h c21 ec21
    exact JK4 _ _ _ _ h G hl
def m_X1_walk_L3 (rs : (Nat → Nat → Nat → Int32 → Int32 → Int32 → Int64 → Int64 → gm → Option (gm))) (n : Nat) (t : Nat) (a1 : Nat) (a2 : Int32) (a3 : Int32) (a4 : Int32) (a5 : Int64) (a6 : Int64) (y2 : Int32) (c3 : gm) : Option ((Int32 × gm) ⊕ (gm)) :=
  gc (gck a1 = 6) ((if (c3.1 a1 6) ≤ y2 then some (.inr c3) else gb (m_X6_cryPart a1 y2 2 c3) (fun (r9 : Int32) => gb (m_X6_cryPart a1 y2 0 c3) (fun (r11 : Int32) => gj (fun (c12 : gm) => gv (y2 + 1) (fun (x14 : Int32) => some (.inl (x14, c12)))) (fun K13 => (if r11 = a2 then gv (a4 ||| ((1 : Int32) <<< (y2 &&& 31))) (fun (x16 : Int32) => gb (m_X6_cryPart a1 y2 3 c3) (fun (r18 : Int32) => gv (a5 * (Int32.toInt64 r18)) (fun (x19 : Int64) => gb (m_X6_cryPart a1 y2 1 c3) (fun (r21 : Int32) => gv (a6 * (Int32.toInt64 r21)) (fun (x22 : Int64) => gc (gck t = 1) ((if r9 = (c3.1 t 3) then gb (m_X1_arrive t x16 x19 x22 c3) (fun (c32 : gm) => K13 c32) else (if ((a3 >>> (r9 &&& 31)) &&& 1) = 0 then gb (rs n t a1 r9 (a3 ||| ((1 : Int32) <<< (r9 &&& 31))) x16 x19 x22 c3) (fun (c29 : gm) => K13 c29) else K13 c3)))))))) else K13 c3))))))
def m_X1_walk_b (rs : (Nat → Nat → Nat → Int32 → Int32 → Int32 → Int64 → Int64 → gm → Option (gm))) (n : Nat) (t : Nat) (a1 : Nat) (a2 : Int32) (a3 : Int32) (a4 : Int32) (a5 : Int64) (a6 : Int64) (c : gm) : Option (gm) :=
  gb (gloop (gu2 (fun (y2 : Int32) (c3 : gm) => m_X1_walk_L3 rs n t a1 a2 a3 a4 a5 a6 y2 c3)) n (0, c)) (fun (c4 : gm) => some c4)
abbrev rmX1_walk (dd : Nat) : Room := { frames := 1 * dd + 2, cells := 0, slots := 0, locals := 35 * dd + 66 }
set_option maxHeartbeats 4000000 in
set_option maxRecDepth 100000 in
theorem c_X1_walk_b (l : Launch) (sa : gSa) (D : va_G) (ad : Nat → Nat) (cy : Nat → ClassId) (N sz : Nat) (hN : 55 ≤ N) (hI : gI ad N) (c d0 : gm) (rs : (Nat → Nat → Nat → Int32 → Int32 → Int32 → Int64 → Int64 → gm → Option (gm))) (dd : Nat) (hrs : ∀ (sz : Nat) (c d0 : gm) {n : Nat} {t : Nat} {a1 : Nat} {a2 : Int32} {a3 : Int32} {a4 : Int32} {a5 : Int64} {a6 : Int64} {cZ : gm}, rs n t a1 a2 a3 a4 a5 a6 c = some cZ → Met l yX1_walk wsX1_walk (rmX1_walk dd) (va_Pc [.ref (ad t), .ref (ad a1), .int a2, .int a3, .int a4, .long a5, .long a6] (gP sa D ad cy N sz c d0)) (va_Qv (fun (_ : Unit) => True) (fun _ U => gE D ad cy N cZ d0 U) (gA ad N sz)) 0 0 (gA ad N sz)) {n : Nat} {t : Nat} {a1 : Nat} {a2 : Int32} {a3 : Int32} {a4 : Int32} {a5 : Int64} {a6 : Int64} {cZ : gm} (h : m_X1_walk_b rs n t a1 a2 a3 a4 a5 a6 c = some cZ) : Met l yX1_walk wsX1_walk (rmX1_walk (dd + 1)) (va_Pc [.ref (ad t), .ref (ad a1), .int a2, .int a3, .int a4, .long a5, .long a6] (gP sa D ad cy N sz c d0)) (va_Qv (fun (_ : Unit) => True) (fun _ U => gE D ad cy N cZ d0 U) (gA ad N sz)) 0 0 (gA ad N sz) := by
  refine Met.ofW (cc := cX1_walk) (maxL := 16) (ret := none) (by decide) rfl ?_
  intro p e s m args below meth cod s₁ B hml hv
  obtain ⟨rfl, hsz, hP, hK, hZ⟩ := hv
  have hx := B.exec
  have hb := B.bytes
  have hr := B.returns
  have hts := atoms_spec (ws := wsX1_walk) B.pre
  have hown : s.vm.findClass RX1 = some m.cls := findClass_of_methodNamed B.named
  have hlocks := B.notSynchronized
  subst hsz
  have hl := lv_entry ([.ref (ad t), .ref (ad a1), .int a2, .int a3, .int a4, .long a5, .long a6]) (n := 16) (Nat.le_of_ble_eq_true rfl)
  rw [lg_entry_eq]
  generalize (lg_sl ([.ref (ad t), .ref (ad a1), .int a2, .int a3, .int a4, .long a5, .long a6]) ++ List.replicate (16 - (lg_sl ([.ref (ad t), .ref (ad a1), .int a2, .int a3, .int a4, .long a5, .long a6])).length) Slot.unset).toArray = ls at hl ⊢
  have hl : lv_has ls 16 [(0, .ref (ad t)), (1, .ref (ad a1)), (2, .int a2), (3, .int a3), (4, .int a4), (5, .long a5), (7, .long a6)] := hl
  have in1 : ∀ w ∈ wsX10, w ∈ wsX1_walk := by decide +kernel
  have in6 : ∀ w ∈ wsX60, w ∈ wsX1_walk := by decide +kernel
  generalize hargs : ([.ref (ad t), .ref (ad a1), .int a2, .int a3, .int a4, .long a5, .long a6] : List Value).toArray = args at *
  generalize hAe : gA ad N s.heap.size = A
  have F : gF sa D ad cy N A p s m args cod cX1_walk 16 wsX1_walk RX1 := ⟨hx, hb, hml, hown, hts, hK, hI, by rw [← hAe]; exact gA_ad, by rw [← hAe]; exact gA_sz, by rw [← hAe]; exact hZ⟩
  have G : gW D ad cy N A s.heap c d0 s.heap [] := ⟨hP, va_S.rf⟩
  generalize hQ : MQ below (va_Qv (fun (_ : Unit) => True) (fun _ U => gE D ad cy N cZ d0 U) A) args s 0 0 A = Q
  suffices hgen : ∀ (H : Heap) (locs : List Loc), gW D ad cy N A s.heap c d0 H locs → W p l e (rmX1_walk (dd + 1)) s m args below meth cod H locs 0 0 Q (F0 m 0 ls []) from hgen _ _ G
  clear G
  intro H locs G
  unfold m_X1_walk_b at h
  refine lv_iconst (v := 0) hx hb dX1_walk_0 (by decide) ?_
  refine lv_istore (lv' := [(9, .int 0), (0, .ref (ad t)), (1, .ref (ad a1)), (2, .int a2), (3, .int a3), (4, .int a4), (5, .long a5), (7, .long a6)]) hx hb dX1_walk_1 hl (by decide) rfl (fun ls hl => ?_)
  obtain ⟨b1, hb1, hK1⟩ := gb_s h
  have E1 : ∀ (c4 : gm) (H : Heap) (locs : List Loc) (ls : Array Slot), (c4 : gm) = b1 → gW D ad cy N A s.heap c4 d0 H locs → lv_has ls 16 [] → W p l e (rmX1_walk (dd + 1)) s m args below meth cod H locs 0 0 Q (F0 m 126 ls []) := by
    intro c4 H locs ls hq1 G hl
    subst hq1
    replace hK1 := hK1
    have h := hK1
    cases h
    rw [← hQ]
    exact gx_vret F G hr hlocks dX1_walk_126
  have L1 : ∀ (n9 : Nat) (y2 : Int32) (c3 : gm) (H : Heap) (locs : List Loc) (ls : Array Slot), gloop (gu2 (fun (y2 : Int32) (c3 : gm) => m_X1_walk_L3 rs n t a1 a2 a3 a4 a5 a6 y2 c3)) n9 (y2, c3) = some b1 → gW D ad cy N A s.heap c3 d0 H locs → lv_has ls 16 [(0, .ref (ad t)), (1, .ref (ad a1)), (2, .int a2), (3, .int a3), (4, .int a4), (5, .long a5), (7, .long a6), (9, .int y2)] → W p l e (rmX1_walk (dd + 1)) s m args below meth cod H locs 0 0 Q (F0 m 3 ls []) := by
    intro n9
    induction n9 with
    | zero => intro y2 c3 H locs ls h; exact (gloop_0 h).elim
    | succ n9 ih =>
      intro y2 c3 H locs ls h G hl
      have ih1 := ih
      obtain ⟨o1, h, hn1⟩ := gloop_s h
      replace h := gu2_s h
      unfold m_X1_walk_L3 at h
      refine lv_iload hx hb dX1_walk_3 (lv_at hl 7 rfl) ?_
      refine lv_aload_n hx hb dX1_walk_5 rfl (lv_at hl 1 rfl) ?_
      obtain ⟨hk5, h⟩ := gc_s h
      have ht6 : a1 < N := Nat.lt_of_lt_of_le (gck_lt6 hk5) hN
      refine fg_6_cries F G hk5 ht6 in6 (by decide +kernel) dX1_walk_6 ?_
      refine lv_icmp_ge (tgt := 126) hx hb dX1_walk_9 (by decide) (fun q7 => ?_) (fun q7 => ?_)
      · replace h := gt_s q7 h
        cases h
        exact E1 _ _ _ _ (gnx_r hn1) G (lv_sub hl [] rfl)
      · replace h := gf_s q7 h
        refine lv_aload_n hx hb dX1_walk_12 rfl (lv_at hl 1 rfl) ?_
        refine lv_iload hx hb dX1_walk_13 (lv_at hl 7 rfl) ?_
        refine lv_iconst (v := 2) hx hb dX1_walk_15 (by decide) ?_
        obtain ⟨r9, hc8, h⟩ := gb_s h
        refine gx_calli F G (va_runV (As := [.int y2, .int 2]) (rest := []) (gx_fix F) (c_X6_cryPart l sa D ad cy N H.size hN hI c3 d0 hc8) (cwV 2 hts gX1_walk_X6_cryPart rfl rfl rfl (by decide +kernel) ⟨by simp only [rmX1_walk, rmX6_cryPart]; omega, by simp only [rmX1_walk, rmX6_cryPart]; omega⟩) (gx_rec F G ht6 (gwe_6 hk5) rfl) rfl rfl hl.1 rfl (lv_room (Nat.le_of_ble_eq_true rfl)) dX1_walk_16 ⟨Nat.zero_le _, Nat.zero_le _⟩) (fun H locs G => ?_)
        refine lv_istore (lv' := [(10, .int r9), (0, .ref (ad t)), (1, .ref (ad a1)), (2, .int a2), (3, .int a3), (4, .int a4), (5, .long a5), (7, .long a6), (9, .int y2)]) hx hb dX1_walk_19 hl (by decide) rfl (fun ls hl => ?_)
        refine lv_aload_n hx hb dX1_walk_21 rfl (lv_at hl 2 rfl) ?_
        refine lv_iload hx hb dX1_walk_22 (lv_at hl 8 rfl) ?_
        refine lv_iconst (v := 0) hx hb dX1_walk_24 (by decide) ?_
        obtain ⟨r11, hc10, h⟩ := gb_s h
        refine gx_calli F G (va_runV (As := [.int y2, .int 0]) (rest := []) (gx_fix F) (c_X6_cryPart l sa D ad cy N H.size hN hI c3 d0 hc10) (cwV 2 hts gX1_walk_X6_cryPart rfl rfl rfl (by decide +kernel) ⟨by simp only [rmX1_walk, rmX6_cryPart]; omega, by simp only [rmX1_walk, rmX6_cryPart]; omega⟩) (gx_rec F G ht6 (gwe_6 hk5) rfl) rfl rfl hl.1 rfl (lv_room (Nat.le_of_ble_eq_true rfl)) dX1_walk_25 ⟨Nat.zero_le _, Nat.zero_le _⟩) (fun H locs G => ?_)
        refine lv_iload_n hx hb dX1_walk_28 rfl (lv_at hl 3 rfl) ?_
        obtain ⟨K13, eK13, h⟩ := gj_s h
        have JK13 : ∀ (c12 : gm) (H : Heap) (locs : List Loc) (ls : Array Slot), K13 c12 = some o1 → gW D ad cy N A s.heap c12 d0 H locs → lv_has ls 16 [(0, .ref (ad t)), (1, .ref (ad a1)), (2, .int a2), (3, .int a3), (4, .int a4), (5, .long a5), (7, .long a6), (9, .int y2)] → W p l e (rmX1_walk (dd + 1)) s m args below meth cod H locs 0 0 Q (F0 m 120 ls []) := by
          intro c12 H locs ls h G hl
          rw [eK13] at h
          obtain ⟨x14, ex14⟩ : ∃ z : Int32, z = y2 + 1 := ⟨_, rfl⟩
          replace h := gv_s h x14 ex14
          refine lv_iinc (v := x14) (lv' := [(9, .int x14), (0, .ref (ad t)), (1, .ref (ad a1)), (2, .int a2), (3, .int a3), (4, .int a4), (5, .long a5), (7, .long a6)]) hx hb dX1_walk_120 hl (k := 7) rfl (by rw [ex14]; rfl) (by decide) rfl (fun ls hl => ?_)
          refine lv_goto (tgt := 3) hx hb dX1_walk_123 (by decide) ?_
          cases h
          exact ih1 _ _ _ _ _ hn1 G (lv_sub hl [1, 2, 3, 4, 5, 6, 7, 0] rfl)
        refine lv_icmp_eq (tgt := 35) hx hb dX1_walk_29 (by decide) (fun q15 => ?_) (fun q15 => ?_)
        · replace h := gt_s q15 h
          refine lv_iload hx hb dX1_walk_35 (lv_at hl 5 rfl) ?_
          refine lv_iconst (v := 1) hx hb dX1_walk_37 (by decide) ?_
          refine lv_iload hx hb dX1_walk_38 (lv_at hl 8 rfl) ?_
          refine lv_ishl hx hb dX1_walk_40 ?_
          refine lv_ior hx hb dX1_walk_41 ?_
          refine lv_topi (fun x16 ex16 => ?_)
          replace h := gv_s h x16 ex16
          refine lv_istore (lv' := [(11, .int x16), (10, .int r9), (0, .ref (ad t)), (1, .ref (ad a1)), (2, .int a2), (3, .int a3), (4, .int a4), (5, .long a5), (7, .long a6), (9, .int y2)]) hx hb dX1_walk_42 hl (by decide) rfl (fun ls hl => ?_)
          refine lv_lload hx hb dX1_walk_44 (lv_at hl 7 rfl) ?_
          refine lv_aload_n hx hb dX1_walk_46 rfl (lv_at hl 3 rfl) ?_
          refine lv_iload hx hb dX1_walk_47 (lv_at hl 9 rfl) ?_
          refine lv_iconst (v := 3) hx hb dX1_walk_49 (by decide) ?_
          obtain ⟨r18, hc17, h⟩ := gb_s h
          refine gx_calli F G (va_runV (As := [.int y2, .int 3]) (rest := [.long a5]) (gx_fix F) (c_X6_cryPart l sa D ad cy N H.size hN hI c3 d0 hc17) (cwV 2 hts gX1_walk_X6_cryPart rfl rfl rfl (by decide +kernel) ⟨by simp only [rmX1_walk, rmX6_cryPart]; omega, by simp only [rmX1_walk, rmX6_cryPart]; omega⟩) (gx_rec F G ht6 (gwe_6 hk5) rfl) rfl rfl hl.1 rfl (lv_room (Nat.le_of_ble_eq_true rfl)) dX1_walk_50 ⟨Nat.zero_le _, Nat.zero_le _⟩) (fun H locs G => ?_)
          refine lv_i2l hx hb dX1_walk_53 rfl ?_
          refine lv_lmul hx hb dX1_walk_54 ?_
          refine lv_topl (fun x19 ex19 => ?_)
          replace h := gv_s h x19 ex19
          refine lv_lstore (lv' := [(12, .long x19), (11, .int x16), (10, .int r9), (0, .ref (ad t)), (1, .ref (ad a1)), (2, .int a2), (3, .int a3), (4, .int a4), (5, .long a5), (7, .long a6), (9, .int y2)]) hx hb dX1_walk_55 hl (by decide) rfl (fun ls hl => ?_)
          refine lv_lload hx hb dX1_walk_57 (lv_at hl 9 rfl) ?_
          refine lv_aload_n hx hb dX1_walk_59 rfl (lv_at hl 4 rfl) ?_
          refine lv_iload hx hb dX1_walk_60 (lv_at hl 10 rfl) ?_
          refine lv_iconst (v := 1) hx hb dX1_walk_62 (by decide) ?_
          obtain ⟨r21, hc20, h⟩ := gb_s h
          refine gx_calli F G (va_runV (As := [.int y2, .int 1]) (rest := [.long a6]) (gx_fix F) (c_X6_cryPart l sa D ad cy N H.size hN hI c3 d0 hc20) (cwV 2 hts gX1_walk_X6_cryPart rfl rfl rfl (by decide +kernel) ⟨by simp only [rmX1_walk, rmX6_cryPart]; omega, by simp only [rmX1_walk, rmX6_cryPart]; omega⟩) (gx_rec F G ht6 (gwe_6 hk5) rfl) rfl rfl hl.1 rfl (lv_room (Nat.le_of_ble_eq_true rfl)) dX1_walk_63 ⟨Nat.zero_le _, Nat.zero_le _⟩) (fun H locs G => ?_)
          refine lv_i2l hx hb dX1_walk_66 rfl ?_
          refine lv_lmul hx hb dX1_walk_67 ?_
          refine lv_topl (fun x22 ex22 => ?_)
          replace h := gv_s h x22 ex22
          refine lv_lstore (lv' := [(14, .long x22), (12, .long x19), (11, .int x16), (10, .int r9), (0, .ref (ad t)), (1, .ref (ad a1)), (2, .int a2), (3, .int a3), (4, .int a4), (5, .long a5), (7, .long a6), (9, .int y2)]) hx hb dX1_walk_68 hl (by decide) rfl (fun ls hl => ?_)
          refine lv_iload hx hb dX1_walk_70 (lv_at hl 3 rfl) ?_
          refine lv_aload_n hx hb dX1_walk_72 rfl (lv_at hl 4 rfl) ?_
          obtain ⟨hk23, h⟩ := gc_s h
          have ht24 : t < N := Nat.lt_of_lt_of_le (gck_lt1 hk23) hN
          refine fg_1_goal F G hk23 ht24 in1 (by decide +kernel) dX1_walk_73 ?_
          refine lv_icmp_ne (tgt := 92) hx hb dX1_walk_76 (by decide) (fun q25 => ?_) (fun q25 => ?_)
          · replace h := gf_s q25 h
            refine lv_iload_n hx hb dX1_walk_92 rfl (lv_at hl 7 rfl) ?_
            refine lv_iload hx hb dX1_walk_93 (lv_at hl 3 rfl) ?_
            refine lv_ishr hx hb dX1_walk_95 ?_
            refine lv_iconst (v := 1) hx hb dX1_walk_96 (by decide) ?_
            refine lv_iand hx hb dX1_walk_97 ?_
            refine lv_if_ne (tgt := 120) hx hb dX1_walk_98 (by decide) (fun q26 => ?_) (fun q26 => ?_)
            · replace h := gf_s q26 h
              exact JK13 _ _ _ _ h G (lv_sub hl [4, 5, 6, 7, 8, 9, 10, 11] rfl)
            · replace h := gt_s q26 h
              refine lv_aload_n hx hb dX1_walk_101 rfl (lv_at hl 4 rfl) ?_
              refine lv_aload_n hx hb dX1_walk_102 rfl (lv_at hl 5 rfl) ?_
              refine lv_iload hx hb dX1_walk_103 (lv_at hl 3 rfl) ?_
              refine lv_iload_n hx hb dX1_walk_105 rfl (lv_at hl 7 rfl) ?_
              refine lv_iconst (v := 1) hx hb dX1_walk_106 (by decide) ?_
              refine lv_iload hx hb dX1_walk_107 (lv_at hl 3 rfl) ?_
              refine lv_ishl hx hb dX1_walk_109 ?_
              refine lv_ior hx hb dX1_walk_110 ?_
              refine lv_iload hx hb dX1_walk_111 (lv_at hl 2 rfl) ?_
              refine lv_lload hx hb dX1_walk_113 (lv_at hl 1 rfl) ?_
              refine lv_lload hx hb dX1_walk_115 (lv_at hl 0 rfl) ?_
              obtain ⟨c29, hc27, h⟩ := gb_s h
              refine gx_callv F G (va_runV (As := [.ref (ad a1), .int r9, .int (a3 ||| ((1 : Int32) <<< (r9 &&& 31))), .int x16, .long x19, .long x22]) (rest := []) (gx_fix F) (hrs H.size c3 d0 hc27) (cwV 6 hts gX1_walk_X1_walk rfl rfl rfl (by decide +kernel) ⟨by simp only [rmX1_walk]; omega, by simp only [rmX1_walk]; omega⟩) (gx_rec F G ht24 (gwe_1 hk23) rfl) rfl rfl hl.1 rfl (lv_room (Nat.le_of_ble_eq_true rfl)) dX1_walk_117 ⟨Nat.zero_le _, Nat.zero_le _⟩) (fun H locs G => ?_)
              exact JK13 _ _ _ _ h G (lv_sub hl [4, 5, 6, 7, 8, 9, 10, 11] rfl)
          · replace h := gt_s q25 h
            refine lv_aload_n hx hb dX1_walk_79 rfl (lv_at hl 4 rfl) ?_
            refine lv_iload hx hb dX1_walk_80 (lv_at hl 2 rfl) ?_
            refine lv_lload hx hb dX1_walk_82 (lv_at hl 1 rfl) ?_
            refine lv_lload hx hb dX1_walk_84 (lv_at hl 0 rfl) ?_
            obtain ⟨c32, hc30, h⟩ := gb_s h
            refine gx_callv F G (va_runV (As := [.int x16, .long x19, .long x22]) (rest := []) (gx_fix F) (c_X1_arrive l sa D ad cy N H.size hN hI c3 d0 hc30) (cwV 3 hts gX1_walk_X1_arrive rfl rfl rfl (by decide +kernel) ⟨by simp only [rmX1_walk, rmX1_arrive]; omega, by simp only [rmX1_walk, rmX1_arrive]; omega⟩) (gx_rec F G ht24 (gwe_1 hk23) rfl) rfl rfl hl.1 rfl (lv_room (Nat.le_of_ble_eq_true rfl)) dX1_walk_86 ⟨Nat.zero_le _, Nat.zero_le _⟩) (fun H locs G => ?_)
            refine lv_goto (tgt := 120) hx hb dX1_walk_89 (by decide) ?_
            exact JK13 _ _ _ _ h G (lv_sub hl [4, 5, 6, 7, 8, 9, 10, 11] rfl)
        · replace h := gf_s q15 h
          refine lv_goto (tgt := 120) hx hb dX1_walk_32 (by decide) ?_
          exact JK13 _ _ _ _ h G (lv_sub hl [1, 2, 3, 4, 5, 6, 7, 8] rfl)
  exact L1 n _ _ _ _ _ hb1 G (lv_sub hl [1, 2, 3, 4, 5, 6, 7, 0] rfl)
def m_X1_walk : Nat → (Nat → Nat → Nat → Int32 → Int32 → Int32 → Int64 → Int64 → gm → Option (gm))
  | 0 => fun _ _ _ _ _ _ _ _ _ => none
  | dd + 1 => m_X1_walk_b (m_X1_walk dd)
theorem c_X1_walk (l : Launch) (sa : gSa) (D : va_G) (ad : Nat → Nat) (cy : Nat → ClassId) (N : Nat) (hN : 55 ≤ N) (hI : gI ad N) (dd : Nat) : ∀ (sz : Nat) (c d0 : gm) {n : Nat} {t : Nat} {a1 : Nat} {a2 : Int32} {a3 : Int32} {a4 : Int32} {a5 : Int64} {a6 : Int64} {cZ : gm}, m_X1_walk dd n t a1 a2 a3 a4 a5 a6 c = some cZ → Met l yX1_walk wsX1_walk (rmX1_walk dd) (va_Pc [.ref (ad t), .ref (ad a1), .int a2, .int a3, .int a4, .long a5, .long a6] (gP sa D ad cy N sz c d0)) (va_Qv (fun (_ : Unit) => True) (fun _ U => gE D ad cy N cZ d0 U) (gA ad N sz)) 0 0 (gA ad N sz) := by
  induction dd with
  | zero => intro _ _ _ _ _ _ _ _ _ _ _ _ h; have h2 : none = some _ := h; cases h2
  | succ dd ih => intro sz c d0 _ _ _ _ _ _ _ _ _ h; exact c_X1_walk_b l sa D ad cy N sz hN hI c d0 (m_X1_walk dd) dd (fun sz c d0 _ _ _ _ _ _ _ _ _ h => ih sz c d0 h) h

def m_X1_seekChain (n : Nat) (t : Nat) (a1 : Nat) (a2 : Int32) (a3 : Int32) (c : gm) : Option (gm) :=
  gc (gck t = 1) (gb (m_X1_begin t c) (fun (c5 : gm) => gv (gm_r c5 t (upd (c5.1 t) 3 a3)) (fun (c6 : gm) => gb (m_X1_walk 12 n t a1 a2 ((1 : Int32) <<< (a2 &&& 31)) 0 (1 : Int64) (1 : Int64) c6) (fun (c9 : gm) => some c9))))
abbrev rmX1_seekChain : Room := { frames := 15, cells := 0, slots := 0, locals := 521 }
set_option maxHeartbeats 4000000 in
set_option maxRecDepth 100000 in
theorem c_X1_seekChain (l : Launch) (sa : gSa) (D : va_G) (ad : Nat → Nat) (cy : Nat → ClassId) (N sz : Nat) (hN : 55 ≤ N) (hI : gI ad N) (c d0 : gm) {n : Nat} {t : Nat} {a1 : Nat} {a2 : Int32} {a3 : Int32} {cZ : gm} (h : m_X1_seekChain n t a1 a2 a3 c = some cZ) : Met l yX1_seekChain wsX1_seekChain rmX1_seekChain (va_Pc [.ref (ad t), .ref (ad a1), .int a2, .int a3] (gP sa D ad cy N sz c d0)) (va_Qv (fun (_ : Unit) => True) (fun _ U => gE D ad cy N cZ d0 U) (gA ad N sz)) 0 0 (gA ad N sz) := by
  refine Met.ofW (cc := cX1_seekChain) (maxL := 4) (ret := none) (by decide) rfl ?_
  intro p e s m args below meth cod s₁ B hml hv
  obtain ⟨rfl, hsz, hP, hK, hZ⟩ := hv
  have hx := B.exec
  have hb := B.bytes
  have hr := B.returns
  have hts := atoms_spec (ws := wsX1_seekChain) B.pre
  have hown : s.vm.findClass RX1 = some m.cls := findClass_of_methodNamed B.named
  have hlocks := B.notSynchronized
  subst hsz
  have hl := lv_entry ([.ref (ad t), .ref (ad a1), .int a2, .int a3]) (n := 4) (Nat.le_of_ble_eq_true rfl)
  rw [lg_entry_eq]
  generalize (lg_sl ([.ref (ad t), .ref (ad a1), .int a2, .int a3]) ++ List.replicate (4 - (lg_sl ([.ref (ad t), .ref (ad a1), .int a2, .int a3])).length) Slot.unset).toArray = ls at hl ⊢
  have hl : lv_has ls 4 [(0, .ref (ad t)), (1, .ref (ad a1)), (2, .int a2), (3, .int a3)] := hl
  have in1 : ∀ w ∈ wsX10, w ∈ wsX1_seekChain := by decide +kernel
  generalize hargs : ([.ref (ad t), .ref (ad a1), .int a2, .int a3] : List Value).toArray = args at *
  generalize hAe : gA ad N s.heap.size = A
  have F : gF sa D ad cy N A p s m args cod cX1_seekChain 4 wsX1_seekChain RX1 := ⟨hx, hb, hml, hown, hts, hK, hI, by rw [← hAe]; exact gA_ad, by rw [← hAe]; exact gA_sz, by rw [← hAe]; exact hZ⟩
  have G : gW D ad cy N A s.heap c d0 s.heap [] := ⟨hP, va_S.rf⟩
  generalize hQ : MQ below (va_Qv (fun (_ : Unit) => True) (fun _ U => gE D ad cy N cZ d0 U) A) args s 0 0 A = Q
  suffices hgen : ∀ (H : Heap) (locs : List Loc), gW D ad cy N A s.heap c d0 H locs → W p l e rmX1_seekChain s m args below meth cod H locs 0 0 Q (F0 m 0 ls []) from hgen _ _ G
  clear G
  intro H locs G
  unfold m_X1_seekChain at h
  refine lv_aload_n hx hb dX1_seekChain_0 rfl (lv_at hl 0 rfl) ?_
  obtain ⟨hk1, h⟩ := gc_s h
  have ht2 : t < N := Nat.lt_of_lt_of_le (gck_lt1 hk1) hN
  obtain ⟨c5, hc3, h⟩ := gb_s h
  refine gx_callv F G (va_runV (As := []) (rest := []) (gx_fix F) (c_X1_begin l sa D ad cy N H.size hN hI c d0 hc3) (cwV 0 hts gX1_seekChain_X1_begin rfl rfl rfl (by decide +kernel) ⟨by decide, by decide⟩) (gx_rec F G ht2 (gwe_1 hk1) rfl) rfl rfl hl.1 rfl (lv_room (Nat.le_of_ble_eq_true rfl)) dX1_seekChain_1 ⟨Nat.zero_le _, Nat.zero_le _⟩) (fun H locs G => ?_)
  refine lv_aload_n hx hb dX1_seekChain_4 rfl (lv_at hl 0 rfl) ?_
  refine lv_iload_n hx hb dX1_seekChain_5 rfl (lv_at hl 3 rfl) ?_
  refine fp_1_goal F G hk1 ht2 in1 (by decide +kernel) dX1_seekChain_6 (fun H locs G => ?_)
  obtain ⟨c6, ec6⟩ : ∃ z, z = gm_r c5 t (upd (c5.1 t) 3 a3) := ⟨_, rfl⟩
  rw [← ec6] at G
  replace h := gv_s h c6 ec6
  refine lv_aload_n hx hb dX1_seekChain_9 rfl (lv_at hl 0 rfl) ?_
  refine lv_aload_n hx hb dX1_seekChain_10 rfl (lv_at hl 1 rfl) ?_
  refine lv_iload_n hx hb dX1_seekChain_11 rfl (lv_at hl 2 rfl) ?_
  refine lv_iconst (v := 1) hx hb dX1_seekChain_12 (by decide) ?_
  refine lv_iload_n hx hb dX1_seekChain_13 rfl (lv_at hl 2 rfl) ?_
  refine lv_ishl hx hb dX1_seekChain_14 ?_
  refine lv_iconst (v := 0) hx hb dX1_seekChain_15 (by decide) ?_
  refine lv_lconst (v := 1) hx hb dX1_seekChain_16 (by decide) ?_
  refine lv_lconst (v := 1) hx hb dX1_seekChain_17 (by decide) ?_
  obtain ⟨c9, hc7, h⟩ := gb_s h
  refine gx_callv F G (va_runV (As := [.ref (ad a1), .int a2, .int ((1 : Int32) <<< (a2 &&& 31)), .int 0, .long (1 : Int64), .long (1 : Int64)]) (rest := []) (gx_fix F) (c_X1_walk l sa D ad cy N hN hI 12 H.size c6 d0 hc7) (cwV 6 hts gX1_seekChain_X1_walk rfl rfl rfl (by decide +kernel) ⟨by decide, by decide⟩) (gx_rec F G ht2 (gwe_1 hk1) rfl) rfl rfl hl.1 rfl (lv_room (Nat.le_of_ble_eq_true rfl)) dX1_seekChain_18 ⟨Nat.zero_le _, Nat.zero_le _⟩) (fun H locs G => ?_)
  cases h
  rw [← hQ]
  exact gx_vret F G hr hlocks dX1_seekChain_21
def m_X1_seekRings_L6 (n : Nat) (t : Nat) (a1 : Nat) (y7 : Int32) (c8 : gm) : Option ((Int32 × gm) ⊕ (gm)) :=
  gc (gck a1 = 6) ((if (c8.1 a1 5) ≤ y7 then some (.inr c8) else gv (gm_r c8 t (upd (c8.1 t) 3 y7)) (fun (c13 : gm) => gb (m_X1_walk 12 n t a1 y7 (((2 : Int32) <<< (y7 &&& 31)) - 1) 0 (1 : Int64) (1 : Int64) c13) (fun (c16 : gm) => gv (y7 + 1) (fun (x17 : Int32) => some (.inl (x17, c16)))))))
def m_X1_seekRings (n : Nat) (t : Nat) (a1 : Nat) (c : gm) : Option (gm) :=
  gc (gck t = 1) (gb (m_X1_begin t c) (fun (c5 : gm) => gb (gloop (gu2 (fun (y7 : Int32) (c8 : gm) => m_X1_seekRings_L6 n t a1 y7 c8)) n (0, c5)) (fun (c9 : gm) => some c9)))
abbrev rmX1_seekRings : Room := { frames := 15, cells := 0, slots := 0, locals := 521 }
set_option maxHeartbeats 4000000 in
set_option maxRecDepth 100000 in
theorem c_X1_seekRings (l : Launch) (sa : gSa) (D : va_G) (ad : Nat → Nat) (cy : Nat → ClassId) (N sz : Nat) (hN : 55 ≤ N) (hI : gI ad N) (c d0 : gm) {n : Nat} {t : Nat} {a1 : Nat} {cZ : gm} (h : m_X1_seekRings n t a1 c = some cZ) : Met l yX1_seekRings wsX1_seekRings rmX1_seekRings (va_Pc [.ref (ad t), .ref (ad a1)] (gP sa D ad cy N sz c d0)) (va_Qv (fun (_ : Unit) => True) (fun _ U => gE D ad cy N cZ d0 U) (gA ad N sz)) 0 0 (gA ad N sz) := by
  refine Met.ofW (cc := cX1_seekRings) (maxL := 3) (ret := none) (by decide) rfl ?_
  intro p e s m args below meth cod s₁ B hml hv
  obtain ⟨rfl, hsz, hP, hK, hZ⟩ := hv
  have hx := B.exec
  have hb := B.bytes
  have hr := B.returns
  have hts := atoms_spec (ws := wsX1_seekRings) B.pre
  have hown : s.vm.findClass RX1 = some m.cls := findClass_of_methodNamed B.named
  have hlocks := B.notSynchronized
  subst hsz
  have hl := lv_entry ([.ref (ad t), .ref (ad a1)]) (n := 3) (Nat.le_of_ble_eq_true rfl)
  rw [lg_entry_eq]
  generalize (lg_sl ([.ref (ad t), .ref (ad a1)]) ++ List.replicate (3 - (lg_sl ([.ref (ad t), .ref (ad a1)])).length) Slot.unset).toArray = ls at hl ⊢
  have hl : lv_has ls 3 [(0, .ref (ad t)), (1, .ref (ad a1))] := hl
  have in1 : ∀ w ∈ wsX10, w ∈ wsX1_seekRings := by decide +kernel
  have in6 : ∀ w ∈ wsX60, w ∈ wsX1_seekRings := by decide +kernel
  generalize hargs : ([.ref (ad t), .ref (ad a1)] : List Value).toArray = args at *
  generalize hAe : gA ad N s.heap.size = A
  have F : gF sa D ad cy N A p s m args cod cX1_seekRings 3 wsX1_seekRings RX1 := ⟨hx, hb, hml, hown, hts, hK, hI, by rw [← hAe]; exact gA_ad, by rw [← hAe]; exact gA_sz, by rw [← hAe]; exact hZ⟩
  have G : gW D ad cy N A s.heap c d0 s.heap [] := ⟨hP, va_S.rf⟩
  generalize hQ : MQ below (va_Qv (fun (_ : Unit) => True) (fun _ U => gE D ad cy N cZ d0 U) A) args s 0 0 A = Q
  suffices hgen : ∀ (H : Heap) (locs : List Loc), gW D ad cy N A s.heap c d0 H locs → W p l e rmX1_seekRings s m args below meth cod H locs 0 0 Q (F0 m 0 ls []) from hgen _ _ G
  clear G
  intro H locs G
  unfold m_X1_seekRings at h
  refine lv_aload_n hx hb dX1_seekRings_0 rfl (lv_at hl 0 rfl) ?_
  obtain ⟨hk1, h⟩ := gc_s h
  have ht2 : t < N := Nat.lt_of_lt_of_le (gck_lt1 hk1) hN
  obtain ⟨c5, hc3, h⟩ := gb_s h
  refine gx_callv F G (va_runV (As := []) (rest := []) (gx_fix F) (c_X1_begin l sa D ad cy N H.size hN hI c d0 hc3) (cwV 0 hts gX1_seekRings_X1_begin rfl rfl rfl (by decide +kernel) ⟨by decide, by decide⟩) (gx_rec F G ht2 (gwe_1 hk1) rfl) rfl rfl hl.1 rfl (lv_room (Nat.le_of_ble_eq_true rfl)) dX1_seekRings_1 ⟨Nat.zero_le _, Nat.zero_le _⟩) (fun H locs G => ?_)
  refine lv_iconst (v := 0) hx hb dX1_seekRings_4 (by decide) ?_
  refine lv_istore_n (lv' := [(2, .int 0), (0, .ref (ad t)), (1, .ref (ad a1))]) hx hb dX1_seekRings_5 rfl hl (by decide) rfl (fun ls hl => ?_)
  obtain ⟨b6, hb6, hK6⟩ := gb_s h
  have E6 : ∀ (c9 : gm) (H : Heap) (locs : List Loc) (ls : Array Slot), (c9 : gm) = b6 → gW D ad cy N A s.heap c9 d0 H locs → lv_has ls 3 [] → W p l e rmX1_seekRings s m args below meth cod H locs 0 0 Q (F0 m 39 ls []) := by
    intro c9 H locs ls hq6 G hl
    subst hq6
    replace hK6 := hK6
    have h := hK6
    cases h
    rw [← hQ]
    exact gx_vret F G hr hlocks dX1_seekRings_39
  have L6 : ∀ (n9 : Nat) (y7 : Int32) (c8 : gm) (H : Heap) (locs : List Loc) (ls : Array Slot), gloop (gu2 (fun (y7 : Int32) (c8 : gm) => m_X1_seekRings_L6 n t a1 y7 c8)) n9 (y7, c8) = some b6 → gW D ad cy N A s.heap c8 d0 H locs → lv_has ls 3 [(0, .ref (ad t)), (1, .ref (ad a1)), (2, .int y7)] → W p l e rmX1_seekRings s m args below meth cod H locs 0 0 Q (F0 m 6 ls []) := by
    intro n9
    induction n9 with
    | zero => intro y7 c8 H locs ls h; exact (gloop_0 h).elim
    | succ n9 ih =>
      intro y7 c8 H locs ls h G hl
      have ih6 := ih
      obtain ⟨o6, h, hn6⟩ := gloop_s h
      replace h := gu2_s h
      unfold m_X1_seekRings_L6 at h
      refine lv_iload_n hx hb dX1_seekRings_6 rfl (lv_at hl 2 rfl) ?_
      refine lv_aload_n hx hb dX1_seekRings_7 rfl (lv_at hl 1 rfl) ?_
      obtain ⟨hk10, h⟩ := gc_s h
      have ht11 : a1 < N := Nat.lt_of_lt_of_le (gck_lt6 hk10) hN
      refine fg_6_things F G hk10 ht11 in6 (by decide +kernel) dX1_seekRings_8 ?_
      refine lv_icmp_ge (tgt := 39) hx hb dX1_seekRings_11 (by decide) (fun q12 => ?_) (fun q12 => ?_)
      · replace h := gt_s q12 h
        cases h
        exact E6 _ _ _ _ (gnx_r hn6) G (lv_sub hl [] rfl)
      · replace h := gf_s q12 h
        refine lv_aload_n hx hb dX1_seekRings_14 rfl (lv_at hl 0 rfl) ?_
        refine lv_iload_n hx hb dX1_seekRings_15 rfl (lv_at hl 2 rfl) ?_
        refine fp_1_goal F G hk1 ht2 in1 (by decide +kernel) dX1_seekRings_16 (fun H locs G => ?_)
        obtain ⟨c13, ec13⟩ : ∃ z, z = gm_r c8 t (upd (c8.1 t) 3 y7) := ⟨_, rfl⟩
        rw [← ec13] at G
        replace h := gv_s h c13 ec13
        refine lv_aload_n hx hb dX1_seekRings_19 rfl (lv_at hl 0 rfl) ?_
        refine lv_aload_n hx hb dX1_seekRings_20 rfl (lv_at hl 1 rfl) ?_
        refine lv_iload_n hx hb dX1_seekRings_21 rfl (lv_at hl 2 rfl) ?_
        refine lv_iconst (v := 2) hx hb dX1_seekRings_22 (by decide) ?_
        refine lv_iload_n hx hb dX1_seekRings_23 rfl (lv_at hl 2 rfl) ?_
        refine lv_ishl hx hb dX1_seekRings_24 ?_
        refine lv_iconst (v := 1) hx hb dX1_seekRings_25 (by decide) ?_
        refine lv_isub hx hb dX1_seekRings_26 ?_
        refine lv_iconst (v := 0) hx hb dX1_seekRings_27 (by decide) ?_
        refine lv_lconst (v := 1) hx hb dX1_seekRings_28 (by decide) ?_
        refine lv_lconst (v := 1) hx hb dX1_seekRings_29 (by decide) ?_
        obtain ⟨c16, hc14, h⟩ := gb_s h
        refine gx_callv F G (va_runV (As := [.ref (ad a1), .int y7, .int (((2 : Int32) <<< (y7 &&& 31)) - 1), .int 0, .long (1 : Int64), .long (1 : Int64)]) (rest := []) (gx_fix F) (c_X1_walk l sa D ad cy N hN hI 12 H.size c13 d0 hc14) (cwV 6 hts gX1_seekRings_X1_walk rfl rfl rfl (by decide +kernel) ⟨by decide, by decide⟩) (gx_rec F G ht2 (gwe_1 hk1) rfl) rfl rfl hl.1 rfl (lv_room (Nat.le_of_ble_eq_true rfl)) dX1_seekRings_30 ⟨Nat.zero_le _, Nat.zero_le _⟩) (fun H locs G => ?_)
        obtain ⟨x17, ex17⟩ : ∃ z : Int32, z = y7 + 1 := ⟨_, rfl⟩
        replace h := gv_s h x17 ex17
        refine lv_iinc (v := x17) (lv' := [(2, .int x17), (0, .ref (ad t)), (1, .ref (ad a1))]) hx hb dX1_seekRings_33 hl (k := 2) rfl (by rw [ex17]; rfl) (by decide) rfl (fun ls hl => ?_)
        refine lv_goto (tgt := 6) hx hb dX1_seekRings_36 (by decide) ?_
        cases h
        exact ih6 _ _ _ _ _ hn6 G (lv_sub hl [1, 2, 0] rfl)
  exact L6 n _ _ _ _ _ hb6 G (lv_sub hl [1, 2, 0] rfl)
def m_X9_commonMeasure_L9 (y2 : Int64) (y3 : Int64) (y4 : Int32) : Option ((Int64 × Int64 × Int32) ⊕ (Int64)) :=
  (if 200 ≤ y4 then some (.inr y2) else (if (lg_cmp y3 (0 : Int64)) = 0 then some (.inr y2) else gc (¬ y3 = 0) (gv (y2 - y2 / y3 * y3) (fun (x10 : Int64) => gv (y4 + 1) (fun (x11 : Int32) => some (.inl (y3, x10, x11)))))))
def m_X9_commonMeasure (n : Nat) (a1 : Int64) (a2 : Int64) : Option (Int64) :=
  gb (gloop (gu2 (fun (y2 : Int64) => gu2 (fun (y3 : Int64) (y4 : Int32) => m_X9_commonMeasure_L9 y2 y3 y4))) n (a1, a2, 0)) (fun (z5 : Int64) => (if (lg_cmp z5 (1 : Int64)) ≤ 0 then some (1 : Int64) else some z5))
abbrev rmX9_commonMeasure : Room := { frames := 0, cells := 0, slots := 0, locals := 0 }
set_option maxHeartbeats 4000000 in
set_option maxRecDepth 100000 in
theorem c_X9_commonMeasure (l : Launch) (sa : gSa) (D : va_G) (ad : Nat → Nat) (cy : Nat → ClassId) (N sz : Nat) (hN : 55 ≤ N) (hI : gI ad N) (c d0 : gm) {n : Nat} {a1 : Int64} {a2 : Int64} {rZ : Int64} (h : m_X9_commonMeasure n a1 a2 = some rZ) : Met l yX9_commonMeasure wsX9_commonMeasure rmX9_commonMeasure (va_Pc [.long a1, .long a2] (gP sa D ad cy N sz c d0)) (va_Ql (fun (z : Int64) (_ : Unit) => z = rZ) (fun _ U => gE D ad cy N c d0 U) (gA ad N sz)) 0 0 (gA ad N sz) := by
  refine Met.ofW (cc := cX9_commonMeasure) (maxL := 11) (ret := (some .long)) (by decide) rfl ?_
  intro p e s m args below meth cod s₁ B hml hv
  obtain ⟨rfl, hsz, hP, hK, hZ⟩ := hv
  have hx := B.exec
  have hb := B.bytes
  have hr := B.returns
  have hts := atoms_spec (ws := wsX9_commonMeasure) B.pre
  have hown : s.vm.findClass RX9 = some m.cls := findClass_of_methodNamed B.named
  have hlocks := B.notSynchronized
  subst hsz
  have hl := lv_entry ([.long a1, .long a2]) (n := 11) (Nat.le_of_ble_eq_true rfl)
  rw [lg_entry_eq]
  generalize (lg_sl ([.long a1, .long a2]) ++ List.replicate (11 - (lg_sl ([.long a1, .long a2])).length) Slot.unset).toArray = ls at hl ⊢
  have hl : lv_has ls 11 [(0, .long a1), (2, .long a2)] := hl
  generalize hargs : ([.long a1, .long a2] : List Value).toArray = args at *
  generalize hAe : gA ad N s.heap.size = A
  have F : gF sa D ad cy N A p s m args cod cX9_commonMeasure 11 wsX9_commonMeasure RX9 := ⟨hx, hb, hml, hown, hts, hK, hI, by rw [← hAe]; exact gA_ad, by rw [← hAe]; exact gA_sz, by rw [← hAe]; exact hZ⟩
  have G : gW D ad cy N A s.heap c d0 s.heap [] := ⟨hP, va_S.rf⟩
  generalize hQ : MQ below (va_Ql (fun (z : Int64) (_ : Unit) => z = rZ) (fun _ U => gE D ad cy N c d0 U) A) args s 0 0 A = Q
  suffices hgen : ∀ (H : Heap) (locs : List Loc), gW D ad cy N A s.heap c d0 H locs → W p l e rmX9_commonMeasure s m args below meth cod H locs 0 0 Q (F0 m 0 ls []) from hgen _ _ G
  clear G
  intro H locs G
  unfold m_X9_commonMeasure at h
  refine lv_lload_n hx hb dX9_commonMeasure_0 rfl (lv_at hl 0 rfl) ?_
  refine lv_lstore (lv' := [(4, .long a1), (0, .long a1), (2, .long a2)]) hx hb dX9_commonMeasure_1 hl (by decide) rfl (fun ls hl => ?_)
  refine lv_lload_n hx hb dX9_commonMeasure_3 rfl (lv_at hl 2 rfl) ?_
  refine lv_lstore (lv' := [(6, .long a2), (4, .long a1), (0, .long a1), (2, .long a2)]) hx hb dX9_commonMeasure_4 hl (by decide) rfl (fun ls hl => ?_)
  refine lv_iconst (v := 0) hx hb dX9_commonMeasure_6 (by decide) ?_
  refine lv_istore (lv' := [(8, .int 0), (6, .long a2), (4, .long a1), (0, .long a1), (2, .long a2)]) hx hb dX9_commonMeasure_7 hl (by decide) rfl (fun ls hl => ?_)
  obtain ⟨b1, hb1, hK1⟩ := gb_s h
  have E1 : ∀ (z5 : Int64) (H : Heap) (locs : List Loc) (ls : Array Slot), (z5 : Int64) = b1 → gW D ad cy N A s.heap c d0 H locs → lv_has ls 11 [(4, .long z5)] → W p l e rmX9_commonMeasure s m args below meth cod H locs 0 0 Q (F0 m 45 ls []) := by
    intro z5 H locs ls hq1 G hl
    subst hq1
    replace hK1 := hK1
    have h := hK1
    refine lv_lload hx hb dX9_commonMeasure_45 (lv_at hl 0 rfl) ?_
    refine lv_lconst (v := 1) hx hb dX9_commonMeasure_47 (by decide) ?_
    refine W.lcmp hx hb dX9_commonMeasure_48 ?_
    refine lv_if_le (tgt := 57) hx hb dX9_commonMeasure_49 (by decide) (fun q6 => ?_) (fun q6 => ?_)
    · replace h := gt_s q6 h
      refine lv_lconst (v := 1) hx hb dX9_commonMeasure_57 (by decide) ?_
      cases h
      rw [← hQ]
      exact gx_lret F G hr hlocks dX9_commonMeasure_58
    · replace h := gf_s q6 h
      refine lv_lload hx hb dX9_commonMeasure_52 (lv_at hl 0 rfl) ?_
      refine lv_goto (tgt := 58) hx hb dX9_commonMeasure_54 (by decide) ?_
      cases h
      rw [← hQ]
      exact gx_lret F G hr hlocks dX9_commonMeasure_58
  have L1 : ∀ (n9 : Nat) (y2 : Int64) (y3 : Int64) (y4 : Int32) (H : Heap) (locs : List Loc) (ls : Array Slot), gloop (gu2 (fun (y2 : Int64) => gu2 (fun (y3 : Int64) (y4 : Int32) => m_X9_commonMeasure_L9 y2 y3 y4))) n9 (y2, y3, y4) = some b1 → gW D ad cy N A s.heap c d0 H locs → lv_has ls 11 [(4, .long y2), (6, .long y3), (8, .int y4)] → W p l e rmX9_commonMeasure s m args below meth cod H locs 0 0 Q (F0 m 9 ls []) := by
    intro n9
    induction n9 with
    | zero => intro y2 y3 y4 H locs ls h; exact (gloop_0 h).elim
    | succ n9 ih =>
      intro y2 y3 y4 H locs ls h G hl
      have ih1 := ih
      obtain ⟨o1, h, hn1⟩ := gloop_s h
      replace h := gu2_s h
      replace h := gu2_s h
      unfold m_X9_commonMeasure_L9 at h
      refine lv_iload hx hb dX9_commonMeasure_9 (lv_at hl 2 rfl) ?_
      refine lv_sipush (v := 200) hx hb dX9_commonMeasure_11 (by decide) ?_
      refine lv_icmp_ge (tgt := 45) hx hb dX9_commonMeasure_14 (by decide) (fun q7 => ?_) (fun q7 => ?_)
      · replace h := gt_s q7 h
        cases h
        exact E1 _ _ _ _ (gnx_r hn1) G (lv_sub hl [0] rfl)
      · replace h := gf_s q7 h
        refine lv_lload hx hb dX9_commonMeasure_17 (lv_at hl 1 rfl) ?_
        refine lv_lconst (v := 0) hx hb dX9_commonMeasure_19 (by decide) ?_
        refine W.lcmp hx hb dX9_commonMeasure_20 ?_
        refine lv_if_eq (tgt := 45) hx hb dX9_commonMeasure_21 (by decide) (fun q8 => ?_) (fun q8 => ?_)
        · replace h := gt_s q8 h
          cases h
          exact E1 _ _ _ _ (gnx_r hn1) G (lv_sub hl [0] rfl)
        · replace h := gf_s q8 h
          refine lv_lload hx hb dX9_commonMeasure_24 (lv_at hl 0 rfl) ?_
          refine lv_lload hx hb dX9_commonMeasure_26 (lv_at hl 1 rfl) ?_
          obtain ⟨hz9, h⟩ := gc_s h
          refine lv_lrem hx hb dX9_commonMeasure_28 hz9 ?_
          refine lv_topl (fun x10 ex10 => ?_)
          replace h := gv_s h x10 ex10
          refine lv_lstore (lv' := [(9, .long x10), (4, .long y2), (6, .long y3), (8, .int y4)]) hx hb dX9_commonMeasure_29 hl (by decide) rfl (fun ls hl => ?_)
          refine lv_lload hx hb dX9_commonMeasure_31 (lv_at hl 2 rfl) ?_
          refine lv_lstore (lv' := [(4, .long y3), (9, .long x10), (6, .long y3), (8, .int y4)]) hx hb dX9_commonMeasure_33 hl (by decide) rfl (fun ls hl => ?_)
          refine lv_lload hx hb dX9_commonMeasure_35 (lv_at hl 1 rfl) ?_
          refine lv_lstore (lv' := [(6, .long x10), (4, .long y3), (9, .long x10), (8, .int y4)]) hx hb dX9_commonMeasure_37 hl (by decide) rfl (fun ls hl => ?_)
          obtain ⟨x11, ex11⟩ : ∃ z : Int32, z = y4 + 1 := ⟨_, rfl⟩
          replace h := gv_s h x11 ex11
          refine lv_iinc (v := x11) (lv' := [(8, .int x11), (6, .long x10), (4, .long y3), (9, .long x10)]) hx hb dX9_commonMeasure_39 hl (k := 3) rfl (by rw [ex11]; rfl) (by decide) rfl (fun ls hl => ?_)
          refine lv_goto (tgt := 9) hx hb dX9_commonMeasure_42 (by decide) ?_
          cases h
          exact ih1 _ _ _ _ _ _ hn1 G (lv_sub hl [2, 1, 0] rfl)
  exact L1 n _ _ _ _ _ _ hb1 G (lv_sub hl [2, 1, 0] rfl)
def m_X1_bestPart (n : Nat) (t : Nat) (a1 : Int32) (c : gm) : Option (Int64) :=
  gj (fun (v1 : Int64) => gc (gck t = 1) (gb (m_X9_commonMeasure n (c.2.1 t 4) (c.2.1 t 5)) (fun (r6 : Int64) => gc (¬ r6 = 0) (some (v1 / r6))))) (fun K2 => (if a1 = 0 then gc (gck t = 1) (K2 (c.2.1 t 4)) else gc (gck t = 1) (K2 (c.2.1 t 5))))
abbrev rmX1_bestPart : Room := { frames := 1, cells := 0, slots := 0, locals := 30 }
set_option maxHeartbeats 4000000 in
set_option maxRecDepth 100000 in
theorem c_X1_bestPart (l : Launch) (sa : gSa) (D : va_G) (ad : Nat → Nat) (cy : Nat → ClassId) (N sz : Nat) (hN : 55 ≤ N) (hI : gI ad N) (c d0 : gm) {n : Nat} {t : Nat} {a1 : Int32} {rZ : Int64} (h : m_X1_bestPart n t a1 c = some rZ) : Met l yX1_bestPart wsX1_bestPart rmX1_bestPart (va_Pc [.ref (ad t), .int a1] (gP sa D ad cy N sz c d0)) (va_Ql (fun (z : Int64) (_ : Unit) => z = rZ) (fun _ U => gE D ad cy N c d0 U) (gA ad N sz)) 0 0 (gA ad N sz) := by
  refine Met.ofW (cc := cX1_bestPart) (maxL := 2) (ret := (some .long)) (by decide) rfl ?_
  intro p e s m args below meth cod s₁ B hml hv
  obtain ⟨rfl, hsz, hP, hK, hZ⟩ := hv
  have hx := B.exec
  have hb := B.bytes
  have hr := B.returns
  have hts := atoms_spec (ws := wsX1_bestPart) B.pre
  have hown : s.vm.findClass RX1 = some m.cls := findClass_of_methodNamed B.named
  have hlocks := B.notSynchronized
  subst hsz
  have hl := lv_entry ([.ref (ad t), .int a1]) (n := 2) (Nat.le_of_ble_eq_true rfl)
  rw [lg_entry_eq]
  generalize (lg_sl ([.ref (ad t), .int a1]) ++ List.replicate (2 - (lg_sl ([.ref (ad t), .int a1])).length) Slot.unset).toArray = ls at hl ⊢
  have hl : lv_has ls 2 [(0, .ref (ad t)), (1, .int a1)] := hl
  have in1 : ∀ w ∈ wsX10, w ∈ wsX1_bestPart := by decide +kernel
  generalize hargs : ([.ref (ad t), .int a1] : List Value).toArray = args at *
  generalize hAe : gA ad N s.heap.size = A
  have F : gF sa D ad cy N A p s m args cod cX1_bestPart 2 wsX1_bestPart RX1 := ⟨hx, hb, hml, hown, hts, hK, hI, by rw [← hAe]; exact gA_ad, by rw [← hAe]; exact gA_sz, by rw [← hAe]; exact hZ⟩
  have G : gW D ad cy N A s.heap c d0 s.heap [] := ⟨hP, va_S.rf⟩
  generalize hQ : MQ below (va_Ql (fun (z : Int64) (_ : Unit) => z = rZ) (fun _ U => gE D ad cy N c d0 U) A) args s 0 0 A = Q
  suffices hgen : ∀ (H : Heap) (locs : List Loc), gW D ad cy N A s.heap c d0 H locs → W p l e rmX1_bestPart s m args below meth cod H locs 0 0 Q (F0 m 0 ls []) from hgen _ _ G
  clear G
  intro H locs G
  unfold m_X1_bestPart at h
  refine lv_iload_n hx hb dX1_bestPart_0 rfl (lv_at hl 1 rfl) ?_
  obtain ⟨K2, eK2, h⟩ := gj_s h
  have JK2 : ∀ (v1 : Int64) (H : Heap) (locs : List Loc) (ls : Array Slot), K2 v1 = some rZ → gW D ad cy N A s.heap c d0 H locs → lv_has ls 2 [(0, .ref (ad t))] → W p l e rmX1_bestPart s m args below meth cod H locs 0 0 Q (F0 m 15 ls [.long v1]) := by
    intro v1 H locs ls h G hl
    rw [eK2] at h
    refine lv_aload_n hx hb dX1_bestPart_15 rfl (lv_at hl 0 rfl) ?_
    obtain ⟨hk3, h⟩ := gc_s h
    have ht4 : t < N := Nat.lt_of_lt_of_le (gck_lt1 hk3) hN
    refine fg_1_bestUp F G hk3 ht4 in1 (by decide +kernel) dX1_bestPart_16 ?_
    refine lv_aload_n hx hb dX1_bestPart_19 rfl (lv_at hl 0 rfl) ?_
    refine fg_1_bestDown F G hk3 ht4 in1 (by decide +kernel) dX1_bestPart_20 ?_
    obtain ⟨r6, hc5, h⟩ := gb_s h
    refine gx_calll F G (va_runSN (As := [.long (c.2.1 t 4), .long (c.2.1 t 5)]) (rest := [.long v1]) (gx_fix F) (c_X9_commonMeasure l sa D ad cy N H.size hN hI c d0 hc5) ⟨va_cnB 2 hts gX1_bestPart_X9_commonMeasure_n66 rfl rfl rfl F.2.2.2.2.2.2.2.2.2.2.2.2.2.1 (hts (.initialized RX9) (by decide +kernel)) (by decide +kernel) ⟨by decide, by decide⟩, hts (.static yX9_commonMeasure) (by decide +kernel), trivial⟩ (gx_pre F G) rfl rfl hl.1 rfl (lv_room (Nat.le_of_ble_eq_true rfl)) dX1_bestPart_23 ⟨Nat.zero_le _, Nat.zero_le _⟩) (fun H locs G => ?_)
    obtain ⟨hz7, h⟩ := gc_s h
    refine lv_ldiv hx hb dX1_bestPart_26 hz7 ?_
    cases h
    rw [← hQ]
    exact gx_lret F G hr hlocks dX1_bestPart_27
  refine lv_if_ne (tgt := 11) hx hb dX1_bestPart_1 (by decide) (fun q8 => ?_) (fun q8 => ?_)
  · replace h := gf_s q8 h
    refine lv_aload_n hx hb dX1_bestPart_11 rfl (lv_at hl 0 rfl) ?_
    obtain ⟨hk9, h⟩ := gc_s h
    have ht10 : t < N := Nat.lt_of_lt_of_le (gck_lt1 hk9) hN
    refine fg_1_bestDown F G hk9 ht10 in1 (by decide +kernel) dX1_bestPart_12 ?_
    exact JK2 _ _ _ _ h G (lv_sub hl [0] rfl)
  · replace h := gt_s q8 h
    refine lv_aload_n hx hb dX1_bestPart_4 rfl (lv_at hl 0 rfl) ?_
    obtain ⟨hk11, h⟩ := gc_s h
    have ht12 : t < N := Nat.lt_of_lt_of_le (gck_lt1 hk11) hN
    refine fg_1_bestUp F G hk11 ht12 in1 (by decide +kernel) dX1_bestPart_5 ?_
    refine lv_goto (tgt := 15) hx hb dX1_bestPart_8 (by decide) ?_
    exact JK2 _ _ _ _ h G (lv_sub hl [0] rfl)
def m_X1_isOneOrMore (t : Nat) (c : gm) : Option (Int32) :=
  gc (gck t = 1) ((if (lg_cmp (c.2.1 t 4) (c.2.1 t 5)) < 0 then some 0 else some 1))
abbrev rmX1_isOneOrMore : Room := { frames := 0, cells := 0, slots := 0, locals := 0 }
set_option maxHeartbeats 4000000 in
set_option maxRecDepth 100000 in
theorem c_X1_isOneOrMore (l : Launch) (sa : gSa) (D : va_G) (ad : Nat → Nat) (cy : Nat → ClassId) (N sz : Nat) (hN : 55 ≤ N) (hI : gI ad N) (c d0 : gm) {t : Nat} {rZ : Int32} (h : m_X1_isOneOrMore t c = some rZ) : Met l yX1_isOneOrMore wsX1_isOneOrMore rmX1_isOneOrMore (va_Pc [.ref (ad t)] (gP sa D ad cy N sz c d0)) (va_Qi (fun (z : Int32) (_ : Unit) => z = rZ) (fun _ U => gE D ad cy N c d0 U) (gA ad N sz)) 0 0 (gA ad N sz) := by
  refine Met.ofW (cc := cX1_isOneOrMore) (maxL := 1) (ret := (some .boolean)) (by decide) rfl ?_
  intro p e s m args below meth cod s₁ B hml hv
  obtain ⟨rfl, hsz, hP, hK, hZ⟩ := hv
  have hx := B.exec
  have hb := B.bytes
  have hr := B.returns
  have hts := atoms_spec (ws := wsX1_isOneOrMore) B.pre
  have hown : s.vm.findClass RX1 = some m.cls := findClass_of_methodNamed B.named
  have hlocks := B.notSynchronized
  subst hsz
  have hl := lv_entry ([.ref (ad t)]) (n := 1) (Nat.le_of_ble_eq_true rfl)
  rw [lg_entry_eq]
  generalize (lg_sl ([.ref (ad t)]) ++ List.replicate (1 - (lg_sl ([.ref (ad t)])).length) Slot.unset).toArray = ls at hl ⊢
  have hl : lv_has ls 1 [(0, .ref (ad t))] := hl
  have in1 : ∀ w ∈ wsX10, w ∈ wsX1_isOneOrMore := by decide +kernel
  generalize hargs : ([.ref (ad t)] : List Value).toArray = args at *
  generalize hAe : gA ad N s.heap.size = A
  have F : gF sa D ad cy N A p s m args cod cX1_isOneOrMore 1 wsX1_isOneOrMore RX1 := ⟨hx, hb, hml, hown, hts, hK, hI, by rw [← hAe]; exact gA_ad, by rw [← hAe]; exact gA_sz, by rw [← hAe]; exact hZ⟩
  have G : gW D ad cy N A s.heap c d0 s.heap [] := ⟨hP, va_S.rf⟩
  generalize hQ : MQ below (va_Qi (fun (z : Int32) (_ : Unit) => z = rZ) (fun _ U => gE D ad cy N c d0 U) A) args s 0 0 A = Q
  suffices hgen : ∀ (H : Heap) (locs : List Loc), gW D ad cy N A s.heap c d0 H locs → W p l e rmX1_isOneOrMore s m args below meth cod H locs 0 0 Q (F0 m 0 ls []) from hgen _ _ G
  clear G
  intro H locs G
  unfold m_X1_isOneOrMore at h
  refine lv_aload_n hx hb dX1_isOneOrMore_0 rfl (lv_at hl 0 rfl) ?_
  obtain ⟨hk1, h⟩ := gc_s h
  have ht2 : t < N := Nat.lt_of_lt_of_le (gck_lt1 hk1) hN
  refine fg_1_bestUp F G hk1 ht2 in1 (by decide +kernel) dX1_isOneOrMore_1 ?_
  refine lv_aload_n hx hb dX1_isOneOrMore_4 rfl (lv_at hl 0 rfl) ?_
  refine fg_1_bestDown F G hk1 ht2 in1 (by decide +kernel) dX1_isOneOrMore_5 ?_
  refine W.lcmp hx hb dX1_isOneOrMore_8 ?_
  refine lv_if_lt (tgt := 16) hx hb dX1_isOneOrMore_9 (by decide) (fun q3 => ?_) (fun q3 => ?_)
  · replace h := gt_s q3 h
    refine lv_iconst (v := 0) hx hb dX1_isOneOrMore_16 (by decide) ?_
    cases h
    rw [← hQ]
    exact gx_zret F G hr hlocks rfl dX1_isOneOrMore_17
  · replace h := gf_s q3 h
    refine lv_iconst (v := 1) hx hb dX1_isOneOrMore_12 (by decide) ?_
    refine lv_goto (tgt := 17) hx hb dX1_isOneOrMore_13 (by decide) ?_
    cases h
    rw [← hQ]
    exact gx_zret F G hr hlocks rfl dX1_isOneOrMore_17
def m_X1_breaksAll_L2 (t : Nat) (a1 : Int32) (c : gm) (y2 : Int32) : Option ((Int32) ⊕ ((Int32) ⊕ (Unit))) :=
  gc (gck t = 1) ((if (c.1 t 1) ≤ y2 then some (.inr (.inr ())) else (if (nI 1024) ≤ y2 then some (.inr (.inr ())) else gc (0 ≤ y2.toInt ∧ y2.toInt < 1024) ((if ((c.1 (t + 1) y2.toNatClampNeg) &&& a1) = 0 then some (.inr (.inl 0)) else gv (y2 + 1) (fun (x12 : Int32) => some (.inl x12)))))))
def m_X1_breaksAll (n : Nat) (t : Nat) (a1 : Int32) (c : gm) : Option (Int32) :=
  gb (gloop (fun (y2 : Int32) => m_X1_breaksAll_L2 t a1 c y2) n 0) (gsm (fun (_ : Unit) => some 1))
abbrev rmX1_breaksAll : Room := { frames := 0, cells := 0, slots := 0, locals := 0 }
set_option maxHeartbeats 4000000 in
set_option maxRecDepth 100000 in
theorem c_X1_breaksAll (l : Launch) (sa : gSa) (D : va_G) (ad : Nat → Nat) (cy : Nat → ClassId) (N sz : Nat) (hN : 55 ≤ N) (hI : gI ad N) (c d0 : gm) {n : Nat} {t : Nat} {a1 : Int32} {rZ : Int32} (h : m_X1_breaksAll n t a1 c = some rZ) : Met l yX1_breaksAll wsX1_breaksAll rmX1_breaksAll (va_Pc [.ref (ad t), .int a1] (gP sa D ad cy N sz c d0)) (va_Qi (fun (z : Int32) (_ : Unit) => z = rZ) (fun _ U => gE D ad cy N c d0 U) (gA ad N sz)) 0 0 (gA ad N sz) := by
  refine Met.ofW (cc := cX1_breaksAll) (maxL := 3) (ret := (some .boolean)) (by decide) rfl ?_
  intro p e s m args below meth cod s₁ B hml hv
  obtain ⟨rfl, hsz, hP, hK, hZ⟩ := hv
  have hx := B.exec
  have hb := B.bytes
  have hr := B.returns
  have hts := atoms_spec (ws := wsX1_breaksAll) B.pre
  have hown : s.vm.findClass RX1 = some m.cls := findClass_of_methodNamed B.named
  have hlocks := B.notSynchronized
  subst hsz
  have hl := lv_entry ([.ref (ad t), .int a1]) (n := 3) (Nat.le_of_ble_eq_true rfl)
  rw [lg_entry_eq]
  generalize (lg_sl ([.ref (ad t), .int a1]) ++ List.replicate (3 - (lg_sl ([.ref (ad t), .int a1])).length) Slot.unset).toArray = ls at hl ⊢
  have hl : lv_has ls 3 [(0, .ref (ad t)), (1, .int a1)] := hl
  have in1 : ∀ w ∈ wsX10, w ∈ wsX1_breaksAll := by decide +kernel
  generalize hargs : ([.ref (ad t), .int a1] : List Value).toArray = args at *
  generalize hAe : gA ad N s.heap.size = A
  have F : gF sa D ad cy N A p s m args cod cX1_breaksAll 3 wsX1_breaksAll RX1 := ⟨hx, hb, hml, hown, hts, hK, hI, by rw [← hAe]; exact gA_ad, by rw [← hAe]; exact gA_sz, by rw [← hAe]; exact hZ⟩
  have G : gW D ad cy N A s.heap c d0 s.heap [] := ⟨hP, va_S.rf⟩
  generalize hQ : MQ below (va_Qi (fun (z : Int32) (_ : Unit) => z = rZ) (fun _ U => gE D ad cy N c d0 U) A) args s 0 0 A = Q
  suffices hgen : ∀ (H : Heap) (locs : List Loc), gW D ad cy N A s.heap c d0 H locs → W p l e rmX1_breaksAll s m args below meth cod H locs 0 0 Q (F0 m 0 ls []) from hgen _ _ G
  clear G
  intro H locs G
  unfold m_X1_breaksAll at h
  refine lv_iconst (v := 0) hx hb dX1_breaksAll_0 (by decide) ?_
  refine lv_istore_n (lv' := [(2, .int 0), (0, .ref (ad t)), (1, .int a1)]) hx hb dX1_breaksAll_1 rfl hl (by decide) rfl (fun ls hl => ?_)
  obtain ⟨b1, hb1, hK1⟩ := gb_s h
  have E1 : ∀ (H : Heap) (locs : List Loc) (ls : Array Slot), (Sum.inr () : (Int32) ⊕ (Unit)) = b1 → gW D ad cy N A s.heap c d0 H locs → lv_has ls 3 [] → W p l e rmX1_breaksAll s m args below meth cod H locs 0 0 Q (F0 m 38 ls []) := by
    intro  H locs ls hq1 G hl
    subst hq1
    replace hK1 := gsm_r hK1
    have h := hK1
    refine lv_iconst (v := 1) hx hb dX1_breaksAll_38 (by decide) ?_
    cases h
    rw [← hQ]
    exact gx_zret F G hr hlocks rfl dX1_breaksAll_39
  have L1 : ∀ (n9 : Nat) (y2 : Int32) (H : Heap) (locs : List Loc) (ls : Array Slot), gloop (fun (y2 : Int32) => m_X1_breaksAll_L2 t a1 c y2) n9 y2 = some b1 → gW D ad cy N A s.heap c d0 H locs → lv_has ls 3 [(0, .ref (ad t)), (1, .int a1), (2, .int y2)] → W p l e rmX1_breaksAll s m args below meth cod H locs 0 0 Q (F0 m 2 ls []) := by
    intro n9
    induction n9 with
    | zero => intro y2 H locs ls h; exact (gloop_0 h).elim
    | succ n9 ih =>
      intro y2 H locs ls h G hl
      have ih1 := ih
      obtain ⟨o1, h, hn1⟩ := gloop_s h
      unfold m_X1_breaksAll_L2 at h
      refine lv_iload_n hx hb dX1_breaksAll_2 rfl (lv_at hl 2 rfl) ?_
      refine lv_aload_n hx hb dX1_breaksAll_3 rfl (lv_at hl 0 rfl) ?_
      obtain ⟨hk3, h⟩ := gc_s h
      have ht4 : t < N := Nat.lt_of_lt_of_le (gck_lt1 hk3) hN
      refine fg_1_fatCount F G hk3 ht4 in1 (by decide +kernel) dX1_breaksAll_4 ?_
      refine lv_icmp_ge (tgt := 38) hx hb dX1_breaksAll_7 (by decide) (fun q5 => ?_) (fun q5 => ?_)
      · replace h := gt_s q5 h
        cases h
        exact E1  _ _ _ (gnx_r hn1) G (lv_sub hl [] rfl)
      · replace h := gf_s q5 h
        refine lv_iload_n hx hb dX1_breaksAll_10 rfl (lv_at hl 2 rfl) ?_
        refine lv_aload_n hx hb dX1_breaksAll_11 rfl (lv_at hl 0 rfl) ?_
        refine fg_1_fatRings F G hk3 ht4 in1 (by decide +kernel) dX1_breaksAll_12 ?_
        obtain ⟨hk6, hn8⟩ := gka_1_fatRings hk3
        have ht7 : (t + 1) < N := Nat.lt_of_lt_of_le (gck_lt12 hk6) hN
        refine gx_ial F G hk6 ht7 hn8 dX1_breaksAll_15 ?_
        refine lv_icmp_ge (tgt := 38) hx hb dX1_breaksAll_16 (by decide) (fun q9 => ?_) (fun q9 => ?_)
        · replace h := gt_s q9 h
          cases h
          exact E1  _ _ _ (gnx_r hn1) G (lv_sub hl [] rfl)
        · replace h := gf_s q9 h
          refine lv_aload_n hx hb dX1_breaksAll_19 rfl (lv_at hl 0 rfl) ?_
          refine fg_1_fatRings F G hk3 ht4 in1 (by decide +kernel) dX1_breaksAll_20 ?_
          refine lv_iload_n hx hb dX1_breaksAll_23 rfl (lv_at hl 2 rfl) ?_
          obtain ⟨hi10, h⟩ := gc_s h
          refine gx_ia F G hk6 ht7 hn8 hi10 dX1_breaksAll_24 ?_
          refine lv_iload_n hx hb dX1_breaksAll_25 rfl (lv_at hl 1 rfl) ?_
          refine lv_iand hx hb dX1_breaksAll_26 ?_
          refine lv_if_ne (tgt := 32) hx hb dX1_breaksAll_27 (by decide) (fun q11 => ?_) (fun q11 => ?_)
          · replace h := gf_s q11 h
            obtain ⟨x12, ex12⟩ : ∃ z : Int32, z = y2 + 1 := ⟨_, rfl⟩
            replace h := gv_s h x12 ex12
            refine lv_iinc (v := x12) (lv' := [(2, .int x12), (0, .ref (ad t)), (1, .int a1)]) hx hb dX1_breaksAll_32 hl (k := 2) rfl (by rw [ex12]; rfl) (by decide) rfl (fun ls hl => ?_)
            refine lv_goto (tgt := 2) hx hb dX1_breaksAll_35 (by decide) ?_
            cases h
            exact ih1 _ _ _ _ hn1 G (lv_sub hl [1, 2, 0] rfl)
          · replace h := gt_s q11 h
            refine lv_iconst (v := 0) hx hb dX1_breaksAll_30 (by decide) ?_
            cases h
            cases gnx_r hn1
            cases gsm_l hK1
            rw [← hQ]
            exact gx_zret F G hr hlocks rfl dX1_breaksAll_31
  exact L1 n _ _ _ _ hb1 G (lv_sub hl [1, 2, 0] rfl)
def m_X1_fewestGone_L8 (n : Nat) (t : Nat) (a1 : Int32) (c : gm) (y3 : Int32) (y4 : Int32) : Option ((Int32 × Int32) ⊕ (Int32)) :=
  (if ((1 : Int32) <<< (a1 &&& 31)) ≤ y4 then some (.inr y3) else gb (m_J6_bitCount_0f7a4 y4) (fun (r8 : Int32) => gb (m_J6_bitCount_0f7a4 y3) (fun (r10 : Int32) => gj (fun (v11 : Int32) => gv (y4 + 1) (fun (x13 : Int32) => some (.inl (v11, x13)))) (fun K12 => (if r10 ≤ r8 then K12 y3 else gc (gck t = 1) (gb (m_X1_breaksAll n t y4 c) (fun (r18 : Int32) => (if r18 = 0 then K12 y3 else K12 y4))))))))
def m_X1_fewestGone (n : Nat) (t : Nat) (a1 : Int32) (c : gm) : Option (Int32) :=
  gv (((1 : Int32) <<< (a1 &&& 31)) - 1) (fun (x1 : Int32) => gb (gloop (gu2 (fun (y3 : Int32) (y4 : Int32) => m_X1_fewestGone_L8 n t a1 c y3 y4)) n (x1, 0)) (fun (z5 : Int32) => some z5))
abbrev rmX1_fewestGone : Room := { frames := 1, cells := 0, slots := 0, locals := 22 }
set_option maxHeartbeats 4000000 in
set_option maxRecDepth 100000 in
theorem c_X1_fewestGone (l : Launch) (sa : gSa) (D : va_G) (ad : Nat → Nat) (cy : Nat → ClassId) (N sz : Nat) (hN : 55 ≤ N) (hI : gI ad N) (c d0 : gm) {n : Nat} {t : Nat} {a1 : Int32} {rZ : Int32} (h : m_X1_fewestGone n t a1 c = some rZ) : Met l yX1_fewestGone wsX1_fewestGone rmX1_fewestGone (va_Pc [.ref (ad t), .int a1] (gP sa D ad cy N sz c d0)) (va_Qi (fun (z : Int32) (_ : Unit) => z = rZ) (fun _ U => gE D ad cy N c d0 U) (gA ad N sz)) 0 0 (gA ad N sz) := by
  refine Met.ofW (cc := cX1_fewestGone) (maxL := 4) (ret := (some .int)) (by decide) rfl ?_
  intro p e s m args below meth cod s₁ B hml hv
  obtain ⟨rfl, hsz, hP, hK, hZ⟩ := hv
  have hx := B.exec
  have hb := B.bytes
  have hr := B.returns
  have hts := atoms_spec (ws := wsX1_fewestGone) B.pre
  have hown : s.vm.findClass RX1 = some m.cls := findClass_of_methodNamed B.named
  have hlocks := B.notSynchronized
  subst hsz
  have hl := lv_entry ([.ref (ad t), .int a1]) (n := 4) (Nat.le_of_ble_eq_true rfl)
  rw [lg_entry_eq]
  generalize (lg_sl ([.ref (ad t), .int a1]) ++ List.replicate (4 - (lg_sl ([.ref (ad t), .int a1])).length) Slot.unset).toArray = ls at hl ⊢
  have hl : lv_has ls 4 [(0, .ref (ad t)), (1, .int a1)] := hl
  generalize hargs : ([.ref (ad t), .int a1] : List Value).toArray = args at *
  generalize hAe : gA ad N s.heap.size = A
  have F : gF sa D ad cy N A p s m args cod cX1_fewestGone 4 wsX1_fewestGone RX1 := ⟨hx, hb, hml, hown, hts, hK, hI, by rw [← hAe]; exact gA_ad, by rw [← hAe]; exact gA_sz, by rw [← hAe]; exact hZ⟩
  have G : gW D ad cy N A s.heap c d0 s.heap [] := ⟨hP, va_S.rf⟩
  generalize hQ : MQ below (va_Qi (fun (z : Int32) (_ : Unit) => z = rZ) (fun _ U => gE D ad cy N c d0 U) A) args s 0 0 A = Q
  suffices hgen : ∀ (H : Heap) (locs : List Loc), gW D ad cy N A s.heap c d0 H locs → W p l e rmX1_fewestGone s m args below meth cod H locs 0 0 Q (F0 m 0 ls []) from hgen _ _ G
  clear G
  intro H locs G
  unfold m_X1_fewestGone at h
  refine lv_iconst (v := 1) hx hb dX1_fewestGone_0 (by decide) ?_
  refine lv_iload_n hx hb dX1_fewestGone_1 rfl (lv_at hl 1 rfl) ?_
  refine lv_ishl hx hb dX1_fewestGone_2 ?_
  refine lv_iconst (v := 1) hx hb dX1_fewestGone_3 (by decide) ?_
  refine lv_isub hx hb dX1_fewestGone_4 ?_
  refine lv_topi (fun x1 ex1 => ?_)
  replace h := gv_s h x1 ex1
  refine lv_istore_n (lv' := [(2, .int x1), (0, .ref (ad t)), (1, .int a1)]) hx hb dX1_fewestGone_5 rfl hl (by decide) rfl (fun ls hl => ?_)
  refine lv_iconst (v := 0) hx hb dX1_fewestGone_6 (by decide) ?_
  refine lv_istore_n (lv' := [(3, .int 0), (2, .int x1), (0, .ref (ad t)), (1, .int a1)]) hx hb dX1_fewestGone_7 rfl hl (by decide) rfl (fun ls hl => ?_)
  obtain ⟨b2, hb2, hK2⟩ := gb_s h
  have E2 : ∀ (z5 : Int32) (H : Heap) (locs : List Loc) (ls : Array Slot), (z5 : Int32) = b2 → gW D ad cy N A s.heap c d0 H locs → lv_has ls 4 [(2, .int z5)] → W p l e rmX1_fewestGone s m args below meth cod H locs 0 0 Q (F0 m 42 ls []) := by
    intro z5 H locs ls hq2 G hl
    subst hq2
    replace hK2 := hK2
    have h := hK2
    refine lv_iload_n hx hb dX1_fewestGone_42 rfl (lv_at hl 0 rfl) ?_
    cases h
    rw [← hQ]
    exact gx_iret F G hr hlocks dX1_fewestGone_43
  have L2 : ∀ (n9 : Nat) (y3 : Int32) (y4 : Int32) (H : Heap) (locs : List Loc) (ls : Array Slot), gloop (gu2 (fun (y3 : Int32) (y4 : Int32) => m_X1_fewestGone_L8 n t a1 c y3 y4)) n9 (y3, y4) = some b2 → gW D ad cy N A s.heap c d0 H locs → lv_has ls 4 [(0, .ref (ad t)), (1, .int a1), (2, .int y3), (3, .int y4)] → W p l e rmX1_fewestGone s m args below meth cod H locs 0 0 Q (F0 m 8 ls []) := by
    intro n9
    induction n9 with
    | zero => intro y3 y4 H locs ls h; exact (gloop_0 h).elim
    | succ n9 ih =>
      intro y3 y4 H locs ls h G hl
      have ih2 := ih
      obtain ⟨o2, h, hn2⟩ := gloop_s h
      replace h := gu2_s h
      unfold m_X1_fewestGone_L8 at h
      refine lv_iload_n hx hb dX1_fewestGone_8 rfl (lv_at hl 3 rfl) ?_
      refine lv_iconst (v := 1) hx hb dX1_fewestGone_9 (by decide) ?_
      refine lv_iload_n hx hb dX1_fewestGone_10 rfl (lv_at hl 1 rfl) ?_
      refine lv_ishl hx hb dX1_fewestGone_11 ?_
      refine lv_icmp_ge (tgt := 42) hx hb dX1_fewestGone_12 (by decide) (fun q6 => ?_) (fun q6 => ?_)
      · replace h := gt_s q6 h
        cases h
        exact E2 _ _ _ _ (gnx_r hn2) G (lv_sub hl [2] rfl)
      · replace h := gf_s q6 h
        refine lv_iload_n hx hb dX1_fewestGone_15 rfl (lv_at hl 3 rfl) ?_
        obtain ⟨r8, hc7, h⟩ := gb_s h
        refine gx_calli F G (va_runS (As := [.int y4]) (rest := []) (gx_fix F) (c_J6_bitCount_0f7a4 l sa D ad cy N H.size hN hI c d0 hc7) (va_cwS 1 hts gX1_fewestGone_J6_bitCount_0f7a4 rfl rfl rfl (by decide +kernel) ⟨by decide, by decide⟩) (gx_pre F G) rfl rfl hl.1 rfl (lv_room (Nat.le_of_ble_eq_true rfl)) dX1_fewestGone_16 ⟨Nat.zero_le _, Nat.zero_le _⟩) (fun H locs G => ?_)
        refine lv_iload_n hx hb dX1_fewestGone_19 rfl (lv_at hl 2 rfl) ?_
        obtain ⟨r10, hc9, h⟩ := gb_s h
        refine gx_calli F G (va_runS (As := [.int y3]) (rest := [.int r8]) (gx_fix F) (c_J6_bitCount_0f7a4 l sa D ad cy N H.size hN hI c d0 hc9) (va_cwS 1 hts gX1_fewestGone_J6_bitCount_0f7a4 rfl rfl rfl (by decide +kernel) ⟨by decide, by decide⟩) (gx_pre F G) rfl rfl hl.1 rfl (lv_room (Nat.le_of_ble_eq_true rfl)) dX1_fewestGone_20 ⟨Nat.zero_le _, Nat.zero_le _⟩) (fun H locs G => ?_)
        obtain ⟨K12, eK12, h⟩ := gj_s h
        have JK12 : ∀ (v11 : Int32) (H : Heap) (locs : List Loc) (ls : Array Slot), K12 v11 = some o2 → gW D ad cy N A s.heap c d0 H locs → lv_has ls 4 [(0, .ref (ad t)), (1, .int a1), (2, .int v11), (3, .int y4)] → W p l e rmX1_fewestGone s m args below meth cod H locs 0 0 Q (F0 m 36 ls []) := by
          intro v11 H locs ls h G hl
          rw [eK12] at h
          obtain ⟨x13, ex13⟩ : ∃ z : Int32, z = y4 + 1 := ⟨_, rfl⟩
          replace h := gv_s h x13 ex13
          refine lv_iinc (v := x13) (lv' := [(3, .int x13), (0, .ref (ad t)), (1, .int a1), (2, .int v11)]) hx hb dX1_fewestGone_36 hl (k := 3) rfl (by rw [ex13]; rfl) (by decide) rfl (fun ls hl => ?_)
          refine lv_goto (tgt := 8) hx hb dX1_fewestGone_39 (by decide) ?_
          cases h
          exact ih2 _ _ _ _ _ hn2 G (lv_sub hl [1, 2, 3, 0] rfl)
        refine lv_icmp_ge (tgt := 36) hx hb dX1_fewestGone_23 (by decide) (fun q14 => ?_) (fun q14 => ?_)
        · replace h := gt_s q14 h
          exact JK12 _ _ _ _ h G hl
        · replace h := gf_s q14 h
          refine lv_aload_n hx hb dX1_fewestGone_26 rfl (lv_at hl 0 rfl) ?_
          refine lv_iload_n hx hb dX1_fewestGone_27 rfl (lv_at hl 3 rfl) ?_
          obtain ⟨hk15, h⟩ := gc_s h
          have ht16 : t < N := Nat.lt_of_lt_of_le (gck_lt1 hk15) hN
          obtain ⟨r18, hc17, h⟩ := gb_s h
          refine gx_calli F G (va_runV (As := [.int y4]) (rest := []) (gx_fix F) (c_X1_breaksAll l sa D ad cy N H.size hN hI c d0 hc17) (cwV 1 hts gX1_fewestGone_X1_breaksAll rfl rfl rfl (by decide +kernel) ⟨by decide, by decide⟩) (gx_rec F G ht16 (gwe_1 hk15) rfl) rfl rfl hl.1 rfl (lv_room (Nat.le_of_ble_eq_true rfl)) dX1_fewestGone_28 ⟨Nat.zero_le _, Nat.zero_le _⟩) (fun H locs G => ?_)
          refine lv_if_eq (tgt := 36) hx hb dX1_fewestGone_31 (by decide) (fun q19 => ?_) (fun q19 => ?_)
          · replace h := gt_s q19 h
            exact JK12 _ _ _ _ h G hl
          · replace h := gf_s q19 h
            refine lv_iload_n hx hb dX1_fewestGone_34 rfl (lv_at hl 3 rfl) ?_
            refine lv_istore_n (lv' := [(2, .int y4), (0, .ref (ad t)), (1, .int a1), (3, .int y4)]) hx hb dX1_fewestGone_35 rfl hl (by decide) rfl (fun ls hl => ?_)
            exact JK12 _ _ _ _ h G (lv_sub hl [1, 2, 0, 3] rfl)
  exact L2 n _ _ _ _ _ hb2 G (lv_sub hl [2, 3, 1, 0] rfl)
def m_X6_copyFrom (t : Nat) (a1 : Nat) (c : gm) : Option (gm) :=
  gc (gck a1 = 6) (gc (gck t = 6) (gc (0 ≤ (0 : Int32).toInt ∧ 0 ≤ (0 : Int32).toInt ∧ 0 ≤ (8 : Int32).toInt ∧ (0 : Int32).toInt + (8 : Int32).toInt ≤ 8 ∧ (0 : Int32).toInt + (8 : Int32).toInt ≤ 8) (gv (gm_r c (t + 1) (va_cpy (c.1 (a1 + 1)) (c.1 (t + 1)) (0 : Int32).toNatClampNeg (0 : Int32).toNatClampNeg (8 : Int32).toNatClampNeg)) (fun (c12 : gm) => gc (0 ≤ (0 : Int32).toInt ∧ 0 ≤ (0 : Int32).toInt ∧ 0 ≤ (8 : Int32).toInt ∧ (0 : Int32).toInt + (8 : Int32).toInt ≤ 8 ∧ (0 : Int32).toInt + (8 : Int32).toInt ≤ 8) (gv (gm_r c12 (t + 2) (va_cpy (c12.1 (a1 + 2)) (c12.1 (t + 2)) (0 : Int32).toNatClampNeg (0 : Int32).toNatClampNeg (8 : Int32).toNatClampNeg)) (fun (c20 : gm) => gc (0 ≤ (0 : Int32).toInt ∧ 0 ≤ (0 : Int32).toInt ∧ 0 ≤ (8 : Int32).toInt ∧ (0 : Int32).toInt + (8 : Int32).toInt ≤ 8 ∧ (0 : Int32).toInt + (8 : Int32).toInt ≤ 8) (gv (gm_r c20 (t + 3) (va_cpy (c20.1 (a1 + 3)) (c20.1 (t + 3)) (0 : Int32).toNatClampNeg (0 : Int32).toNatClampNeg (8 : Int32).toNatClampNeg)) (fun (c28 : gm) => gc (0 ≤ (0 : Int32).toInt ∧ 0 ≤ (0 : Int32).toInt ∧ 0 ≤ (40 : Int32).toInt ∧ (0 : Int32).toInt + (40 : Int32).toInt ≤ 40 ∧ (0 : Int32).toInt + (40 : Int32).toInt ≤ 40) (gv (gm_r c28 (t + 5) (va_cpy (c28.1 (a1 + 5)) (c28.1 (t + 5)) (0 : Int32).toNatClampNeg (0 : Int32).toNatClampNeg (40 : Int32).toNatClampNeg)) (fun (c36 : gm) => gv (gm_r c36 t (upd (c36.1 t) 5 (c36.1 a1 5))) (fun (c37 : gm) => gv (gm_r c37 t (upd (c37.1 t) 6 (c37.1 a1 6))) (fun (c38 : gm) => gv (gm_r c38 t (upd (c38.1 t) 7 (c38.1 a1 7))) (fun (c39 : gm) => gv (gm_r c39 t (upd (c39.1 t) 8 (c39.1 a1 8))) (fun (c40 : gm) => gv (gm_r c40 t (upd (c40.1 t) 9 (c40.1 a1 9))) (fun (c41 : gm) => gv (gm_r c41 t (upd (c41.1 t) 10 (c41.1 a1 10))) (fun (c42 : gm) => some c42))))))))))))))))
abbrev rmX6_copyFrom : Room := { frames := 1, cells := 0, slots := 0, locals := 60 }
set_option maxHeartbeats 4000000 in
set_option maxRecDepth 100000 in
theorem c_X6_copyFrom (l : Launch) (sa : gSa) (D : va_G) (ad : Nat → Nat) (cy : Nat → ClassId) (N sz : Nat) (hN : 55 ≤ N) (hI : gI ad N) (c d0 : gm) {t : Nat} {a1 : Nat} {cZ : gm} (h : m_X6_copyFrom t a1 c = some cZ) : Met l yX6_copyFrom wsX6_copyFrom rmX6_copyFrom (va_Pc [.ref (ad t), .ref (ad a1)] (gP sa D ad cy N sz c d0)) (va_Qv (fun (_ : Unit) => True) (fun _ U => gE D ad cy N cZ d0 U) (gA ad N sz)) 0 0 (gA ad N sz) := by
  refine Met.ofW (cc := cX6_copyFrom) (maxL := 2) (ret := none) (by decide) rfl ?_
  intro p e s m args below meth cod s₁ B hml hv
  obtain ⟨rfl, hsz, hP, hK, hZ⟩ := hv
  have hx := B.exec
  have hb := B.bytes
  have hr := B.returns
  have hts := atoms_spec (ws := wsX6_copyFrom) B.pre
  have hown : s.vm.findClass RX6 = some m.cls := findClass_of_methodNamed B.named
  have hlocks := B.notSynchronized
  subst hsz
  have hl := lv_entry ([.ref (ad t), .ref (ad a1)]) (n := 2) (Nat.le_of_ble_eq_true rfl)
  rw [lg_entry_eq]
  generalize (lg_sl ([.ref (ad t), .ref (ad a1)]) ++ List.replicate (2 - (lg_sl ([.ref (ad t), .ref (ad a1)])).length) Slot.unset).toArray = ls at hl ⊢
  have hl : lv_has ls 2 [(0, .ref (ad t)), (1, .ref (ad a1))] := hl
  have in6 : ∀ w ∈ wsX60, w ∈ wsX6_copyFrom := by decide +kernel
  generalize hargs : ([.ref (ad t), .ref (ad a1)] : List Value).toArray = args at *
  generalize hAe : gA ad N s.heap.size = A
  have F : gF sa D ad cy N A p s m args cod cX6_copyFrom 2 wsX6_copyFrom RX6 := ⟨hx, hb, hml, hown, hts, hK, hI, by rw [← hAe]; exact gA_ad, by rw [← hAe]; exact gA_sz, by rw [← hAe]; exact hZ⟩
  have G : gW D ad cy N A s.heap c d0 s.heap [] := ⟨hP, va_S.rf⟩
  generalize hQ : MQ below (va_Qv (fun (_ : Unit) => True) (fun _ U => gE D ad cy N cZ d0 U) A) args s 0 0 A = Q
  suffices hgen : ∀ (H : Heap) (locs : List Loc), gW D ad cy N A s.heap c d0 H locs → W p l e rmX6_copyFrom s m args below meth cod H locs 0 0 Q (F0 m 0 ls []) from hgen _ _ G
  clear G
  intro H locs G
  unfold m_X6_copyFrom at h
  refine lv_aload_n hx hb dX6_copyFrom_0 rfl (lv_at hl 1 rfl) ?_
  obtain ⟨hk1, h⟩ := gc_s h
  have ht2 : a1 < N := Nat.lt_of_lt_of_le (gck_lt6 hk1) hN
  refine fg_6_told F G hk1 ht2 in6 (by decide +kernel) dX6_copyFrom_1 ?_
  obtain ⟨hk3, hn5⟩ := gka_6_told hk1
  have ht4 : (a1 + 1) < N := Nat.lt_of_lt_of_le (gck_lt12 hk3) hN
  refine lv_iconst (v := 0) hx hb dX6_copyFrom_4 (by decide) ?_
  refine lv_aload_n hx hb dX6_copyFrom_5 rfl (lv_at hl 0 rfl) ?_
  obtain ⟨hk6, h⟩ := gc_s h
  have ht7 : t < N := Nat.lt_of_lt_of_le (gck_lt6 hk6) hN
  refine fg_6_told F G hk6 ht7 in6 (by decide +kernel) dX6_copyFrom_6 ?_
  obtain ⟨hk8, hn10⟩ := gka_6_told hk6
  have ht9 : (t + 1) < N := Nat.lt_of_lt_of_le (gck_lt12 hk8) hN
  refine lv_iconst (v := 0) hx hb dX6_copyFrom_9 (by decide) ?_
  refine lv_bipush (v := 8) hx hb dX6_copyFrom_10 (by decide) ?_
  obtain ⟨hi11, h⟩ := gc_s h
  refine gx_copy F G hl.1 (by decide +kernel) (by decide +kernel) (by decide +kernel) (by decide +kernel) hk3 ht4 hn5 hk8 ht9 hn10 hi11 (Nat.le_of_ble_eq_true rfl) (Nat.le_of_ble_eq_true rfl) dX6_copyFrom_12 (fun H locs G => ?_)
  obtain ⟨c12, ec12⟩ : ∃ z, z = gm_r c (t + 1) (va_cpy (c.1 (a1 + 1)) (c.1 (t + 1)) (0 : Int32).toNatClampNeg (0 : Int32).toNatClampNeg (8 : Int32).toNatClampNeg) := ⟨_, rfl⟩
  rw [← ec12] at G
  replace h := gv_s h c12 ec12
  refine lv_aload_n hx hb dX6_copyFrom_15 rfl (lv_at hl 1 rfl) ?_
  refine fg_6_weight F G hk1 ht2 in6 (by decide +kernel) dX6_copyFrom_16 ?_
  obtain ⟨hk13, hn15⟩ := gka_6_weight hk1
  have ht14 : (a1 + 2) < N := Nat.lt_of_lt_of_le (gck_lt12 hk13) hN
  refine lv_iconst (v := 0) hx hb dX6_copyFrom_19 (by decide) ?_
  refine lv_aload_n hx hb dX6_copyFrom_20 rfl (lv_at hl 0 rfl) ?_
  refine fg_6_weight F G hk6 ht7 in6 (by decide +kernel) dX6_copyFrom_21 ?_
  obtain ⟨hk16, hn18⟩ := gka_6_weight hk6
  have ht17 : (t + 2) < N := Nat.lt_of_lt_of_le (gck_lt12 hk16) hN
  refine lv_iconst (v := 0) hx hb dX6_copyFrom_24 (by decide) ?_
  refine lv_bipush (v := 8) hx hb dX6_copyFrom_25 (by decide) ?_
  obtain ⟨hi19, h⟩ := gc_s h
  refine gx_copy F G hl.1 (by decide +kernel) (by decide +kernel) (by decide +kernel) (by decide +kernel) hk13 ht14 hn15 hk16 ht17 hn18 hi19 (Nat.le_of_ble_eq_true rfl) (Nat.le_of_ble_eq_true rfl) dX6_copyFrom_27 (fun H locs G => ?_)
  obtain ⟨c20, ec20⟩ : ∃ z, z = gm_r c12 (t + 2) (va_cpy (c12.1 (a1 + 2)) (c12.1 (t + 2)) (0 : Int32).toNatClampNeg (0 : Int32).toNatClampNeg (8 : Int32).toNatClampNeg) := ⟨_, rfl⟩
  rw [← ec20] at G
  replace h := gv_s h c20 ec20
  refine lv_aload_n hx hb dX6_copyFrom_30 rfl (lv_at hl 1 rfl) ?_
  refine fg_6_weighed F G hk1 ht2 in6 (by decide +kernel) dX6_copyFrom_31 ?_
  obtain ⟨hk21, hn23⟩ := gka_6_weighed hk1
  have ht22 : (a1 + 3) < N := Nat.lt_of_lt_of_le (gck_lt12 hk21) hN
  refine lv_iconst (v := 0) hx hb dX6_copyFrom_34 (by decide) ?_
  refine lv_aload_n hx hb dX6_copyFrom_35 rfl (lv_at hl 0 rfl) ?_
  refine fg_6_weighed F G hk6 ht7 in6 (by decide +kernel) dX6_copyFrom_36 ?_
  obtain ⟨hk24, hn26⟩ := gka_6_weighed hk6
  have ht25 : (t + 3) < N := Nat.lt_of_lt_of_le (gck_lt12 hk24) hN
  refine lv_iconst (v := 0) hx hb dX6_copyFrom_39 (by decide) ?_
  refine lv_bipush (v := 8) hx hb dX6_copyFrom_40 (by decide) ?_
  obtain ⟨hi27, h⟩ := gc_s h
  refine gx_copy F G hl.1 (by decide +kernel) (by decide +kernel) (by decide +kernel) (by decide +kernel) hk21 ht22 hn23 hk24 ht25 hn26 hi27 (Nat.le_of_ble_eq_true rfl) (Nat.le_of_ble_eq_true rfl) dX6_copyFrom_42 (fun H locs G => ?_)
  obtain ⟨c28, ec28⟩ : ∃ z, z = gm_r c20 (t + 3) (va_cpy (c20.1 (a1 + 3)) (c20.1 (t + 3)) (0 : Int32).toNatClampNeg (0 : Int32).toNatClampNeg (8 : Int32).toNatClampNeg) := ⟨_, rfl⟩
  rw [← ec28] at G
  replace h := gv_s h c28 ec28
  refine lv_aload_n hx hb dX6_copyFrom_45 rfl (lv_at hl 1 rfl) ?_
  refine fg_6_cryParts F G hk1 ht2 in6 (by decide +kernel) dX6_copyFrom_46 ?_
  obtain ⟨hk29, hn31⟩ := gka_6_cryParts hk1
  have ht30 : (a1 + 5) < N := Nat.lt_of_lt_of_le (gck_lt12 hk29) hN
  refine lv_iconst (v := 0) hx hb dX6_copyFrom_49 (by decide) ?_
  refine lv_aload_n hx hb dX6_copyFrom_50 rfl (lv_at hl 0 rfl) ?_
  refine fg_6_cryParts F G hk6 ht7 in6 (by decide +kernel) dX6_copyFrom_51 ?_
  obtain ⟨hk32, hn34⟩ := gka_6_cryParts hk6
  have ht33 : (t + 5) < N := Nat.lt_of_lt_of_le (gck_lt12 hk32) hN
  refine lv_iconst (v := 0) hx hb dX6_copyFrom_54 (by decide) ?_
  refine lv_bipush (v := 40) hx hb dX6_copyFrom_55 (by decide) ?_
  obtain ⟨hi35, h⟩ := gc_s h
  refine gx_copy F G hl.1 (by decide +kernel) (by decide +kernel) (by decide +kernel) (by decide +kernel) hk29 ht30 hn31 hk32 ht33 hn34 hi35 (Nat.le_of_ble_eq_true rfl) (Nat.le_of_ble_eq_true rfl) dX6_copyFrom_57 (fun H locs G => ?_)
  obtain ⟨c36, ec36⟩ : ∃ z, z = gm_r c28 (t + 5) (va_cpy (c28.1 (a1 + 5)) (c28.1 (t + 5)) (0 : Int32).toNatClampNeg (0 : Int32).toNatClampNeg (40 : Int32).toNatClampNeg) := ⟨_, rfl⟩
  rw [← ec36] at G
  replace h := gv_s h c36 ec36
  refine lv_aload_n hx hb dX6_copyFrom_60 rfl (lv_at hl 0 rfl) ?_
  refine lv_aload_n hx hb dX6_copyFrom_61 rfl (lv_at hl 1 rfl) ?_
  refine fg_6_things F G hk1 ht2 in6 (by decide +kernel) dX6_copyFrom_62 ?_
  refine fp_6_things F G hk6 ht7 in6 (by decide +kernel) dX6_copyFrom_65 (fun H locs G => ?_)
  obtain ⟨c37, ec37⟩ : ∃ z, z = gm_r c36 t (upd (c36.1 t) 5 (c36.1 a1 5)) := ⟨_, rfl⟩
  rw [← ec37] at G
  replace h := gv_s h c37 ec37
  refine lv_aload_n hx hb dX6_copyFrom_68 rfl (lv_at hl 0 rfl) ?_
  refine lv_aload_n hx hb dX6_copyFrom_69 rfl (lv_at hl 1 rfl) ?_
  refine fg_6_cries F G hk1 ht2 in6 (by decide +kernel) dX6_copyFrom_70 ?_
  refine fp_6_cries F G hk6 ht7 in6 (by decide +kernel) dX6_copyFrom_73 (fun H locs G => ?_)
  obtain ⟨c38, ec38⟩ : ∃ z, z = gm_r c37 t (upd (c37.1 t) 6 (c37.1 a1 6)) := ⟨_, rfl⟩
  rw [← ec38] at G
  replace h := gv_s h c38 ec38
  refine lv_aload_n hx hb dX6_copyFrom_76 rfl (lv_at hl 0 rfl) ?_
  refine lv_aload_n hx hb dX6_copyFrom_77 rfl (lv_at hl 1 rfl) ?_
  refine fg_6_lean F G hk1 ht2 in6 (by decide +kernel) dX6_copyFrom_78 ?_
  refine fp_6_lean F G hk6 ht7 in6 (by decide +kernel) dX6_copyFrom_81 (fun H locs G => ?_)
  obtain ⟨c39, ec39⟩ : ∃ z, z = gm_r c38 t (upd (c38.1 t) 7 (c38.1 a1 7)) := ⟨_, rfl⟩
  rw [← ec39] at G
  replace h := gv_s h c39 ec39
  refine lv_aload_n hx hb dX6_copyFrom_84 rfl (lv_at hl 0 rfl) ?_
  refine lv_aload_n hx hb dX6_copyFrom_85 rfl (lv_at hl 1 rfl) ?_
  refine fg_6_play F G hk1 ht2 in6 (by decide +kernel) dX6_copyFrom_86 ?_
  refine fp_6_play F G hk6 ht7 in6 (by decide +kernel) dX6_copyFrom_89 (fun H locs G => ?_)
  obtain ⟨c40, ec40⟩ : ∃ z, z = gm_r c39 t (upd (c39.1 t) 8 (c39.1 a1 8)) := ⟨_, rfl⟩
  rw [← ec40] at G
  replace h := gv_s h c40 ec40
  refine lv_aload_n hx hb dX6_copyFrom_92 rfl (lv_at hl 0 rfl) ?_
  refine lv_aload_n hx hb dX6_copyFrom_93 rfl (lv_at hl 1 rfl) ?_
  refine fg_6_day F G hk1 ht2 in6 (by decide +kernel) dX6_copyFrom_94 ?_
  refine fp_6_day F G hk6 ht7 in6 (by decide +kernel) dX6_copyFrom_97 (fun H locs G => ?_)
  obtain ⟨c41, ec41⟩ : ∃ z, z = gm_r c40 t (upd (c40.1 t) 9 (c40.1 a1 9)) := ⟨_, rfl⟩
  rw [← ec41] at G
  replace h := gv_s h c41 ec41
  refine lv_aload_n hx hb dX6_copyFrom_100 rfl (lv_at hl 0 rfl) ?_
  refine lv_aload_n hx hb dX6_copyFrom_101 rfl (lv_at hl 1 rfl) ?_
  refine fg_6_weighings F G hk1 ht2 in6 (by decide +kernel) dX6_copyFrom_102 ?_
  refine fp_6_weighings F G hk6 ht7 in6 (by decide +kernel) dX6_copyFrom_105 (fun H locs G => ?_)
  obtain ⟨c42, ec42⟩ : ∃ z, z = gm_r c41 t (upd (c41.1 t) 10 (c41.1 a1 10)) := ⟨_, rfl⟩
  rw [← ec42] at G
  replace h := gv_s h c42 ec42
  cases h
  rw [← hQ]
  exact gx_vret F G hr hlocks dX6_copyFrom_108
def m_X2_draw (t : Nat) (a1 : Int32) (c : gm) : Option (Int32 × gm) :=
  gc (gck t = 2) (gv (gm_r c t (upd (c.1 t) 1 (((c.1 t 1) * 1103515245) + 12345))) (fun (c3 : gm) => (if a1 ≤ 0 then some (0, c3) else gc (¬ a1 = 0) (some (((((c3.1 t 1).toUInt32 >>> (Int32.toUInt32 16 &&& Int32.toUInt32 31)).toInt32 &&& 32767) - (((c3.1 t 1).toUInt32 >>> (Int32.toUInt32 16 &&& Int32.toUInt32 31)).toInt32 &&& 32767) / a1 * a1), c3)))))
abbrev rmX2_draw : Room := { frames := 0, cells := 0, slots := 0, locals := 0 }
set_option maxHeartbeats 4000000 in
set_option maxRecDepth 100000 in
theorem c_X2_draw (l : Launch) (sa : gSa) (D : va_G) (ad : Nat → Nat) (cy : Nat → ClassId) (N sz : Nat) (hN : 55 ≤ N) (hI : gI ad N) (c d0 : gm) {t : Nat} {a1 : Int32} {rZ : Int32} {cZ : gm} (h : m_X2_draw t a1 c = some (rZ, cZ)) : Met l yX2_draw wsX2_draw rmX2_draw (va_Pc [.ref (ad t), .int a1] (gP sa D ad cy N sz c d0)) (va_Qi (fun (z : Int32) (_ : Unit) => z = rZ) (fun _ U => gE D ad cy N cZ d0 U) (gA ad N sz)) 0 0 (gA ad N sz) := by
  refine Met.ofW (cc := cX2_draw) (maxL := 2) (ret := (some .int)) (by decide) rfl ?_
  intro p e s m args below meth cod s₁ B hml hv
  obtain ⟨rfl, hsz, hP, hK, hZ⟩ := hv
  have hx := B.exec
  have hb := B.bytes
  have hr := B.returns
  have hts := atoms_spec (ws := wsX2_draw) B.pre
  have hown : s.vm.findClass RX2 = some m.cls := findClass_of_methodNamed B.named
  have hlocks := B.notSynchronized
  subst hsz
  have hl := lv_entry ([.ref (ad t), .int a1]) (n := 2) (Nat.le_of_ble_eq_true rfl)
  rw [lg_entry_eq]
  generalize (lg_sl ([.ref (ad t), .int a1]) ++ List.replicate (2 - (lg_sl ([.ref (ad t), .int a1])).length) Slot.unset).toArray = ls at hl ⊢
  have hl : lv_has ls 2 [(0, .ref (ad t)), (1, .int a1)] := hl
  have in2 : ∀ w ∈ wsX20, w ∈ wsX2_draw := by decide +kernel
  generalize hargs : ([.ref (ad t), .int a1] : List Value).toArray = args at *
  generalize hAe : gA ad N s.heap.size = A
  have F : gF sa D ad cy N A p s m args cod cX2_draw 2 wsX2_draw RX2 := ⟨hx, hb, hml, hown, hts, hK, hI, by rw [← hAe]; exact gA_ad, by rw [← hAe]; exact gA_sz, by rw [← hAe]; exact hZ⟩
  have G : gW D ad cy N A s.heap c d0 s.heap [] := ⟨hP, va_S.rf⟩
  generalize hQ : MQ below (va_Qi (fun (z : Int32) (_ : Unit) => z = rZ) (fun _ U => gE D ad cy N cZ d0 U) A) args s 0 0 A = Q
  suffices hgen : ∀ (H : Heap) (locs : List Loc), gW D ad cy N A s.heap c d0 H locs → W p l e rmX2_draw s m args below meth cod H locs 0 0 Q (F0 m 0 ls []) from hgen _ _ G
  clear G
  intro H locs G
  unfold m_X2_draw at h
  refine lv_aload_n hx hb dX2_draw_0 rfl (lv_at hl 0 rfl) ?_
  refine lv_aload_n hx hb dX2_draw_1 rfl (lv_at hl 0 rfl) ?_
  obtain ⟨hk1, h⟩ := gc_s h
  have ht2 : t < N := Nat.lt_of_lt_of_le (gck_lt2 hk1) hN
  refine fg_2_seed F G hk1 ht2 in2 (by decide +kernel) dX2_draw_2 ?_
  refine lv_ldc (v := 1103515245) hx hb hown (hts (.constant RX2 47 (1103515245)) (by decide +kernel)) dX2_draw_5 ?_
  refine lv_imul hx hb dX2_draw_7 ?_
  refine lv_sipush (v := 12345) hx hb dX2_draw_8 (by decide) ?_
  refine lv_iadd hx hb dX2_draw_11 ?_
  refine fp_2_seed F G hk1 ht2 in2 (by decide +kernel) dX2_draw_12 (fun H locs G => ?_)
  obtain ⟨c3, ec3⟩ : ∃ z, z = gm_r c t (upd (c.1 t) 1 (((c.1 t 1) * 1103515245) + 12345)) := ⟨_, rfl⟩
  rw [← ec3] at G
  replace h := gv_s h c3 ec3
  refine lv_iload_n hx hb dX2_draw_15 rfl (lv_at hl 1 rfl) ?_
  refine lv_if_le (tgt := 35) hx hb dX2_draw_16 (by decide) (fun q4 => ?_) (fun q4 => ?_)
  · replace h := gt_s q4 h
    refine lv_iconst (v := 0) hx hb dX2_draw_35 (by decide) ?_
    cases h
    rw [← hQ]
    exact gx_iret F G hr hlocks dX2_draw_36
  · replace h := gf_s q4 h
    refine lv_aload_n hx hb dX2_draw_19 rfl (lv_at hl 0 rfl) ?_
    refine fg_2_seed F G hk1 ht2 in2 (by decide +kernel) dX2_draw_20 ?_
    refine lv_bipush (v := 16) hx hb dX2_draw_23 (by decide) ?_
    refine lv_iushr hx hb dX2_draw_25 rfl ?_
    refine lv_sipush (v := 32767) hx hb dX2_draw_26 (by decide) ?_
    refine lv_iand hx hb dX2_draw_29 ?_
    refine lv_iload_n hx hb dX2_draw_30 rfl (lv_at hl 1 rfl) ?_
    obtain ⟨hz5, h⟩ := gc_s h
    refine lv_irem hx hb dX2_draw_31 hz5 ?_
    refine lv_goto (tgt := 36) hx hb dX2_draw_32 (by decide) ?_
    cases h
    rw [← hQ]
    exact gx_iret F G hr hlocks dX2_draw_36
def m_X6_standingOf (t : Nat) (a1 : Int32) (a2 : Int32) (a3 : Int32) (a4 : Int32) (c : gm) : Option (Int32) :=
  gc (gck t = 6) (gb (m_X6_weightOf t a1 c) (fun (r4 : Int32) => gb (m_X6_weightOf t a3 c) (fun (r6 : Int32) => gb (m_X6_standing (r4 * a2) (r6 * a4) (c.1 t 7) (c.1 t 8)) (fun (r8 : Int32) => some r8))))
abbrev rmX6_standingOf : Room := { frames := 2, cells := 0, slots := 0, locals := 42 }
set_option maxHeartbeats 4000000 in
set_option maxRecDepth 100000 in
theorem c_X6_standingOf (l : Launch) (sa : gSa) (D : va_G) (ad : Nat → Nat) (cy : Nat → ClassId) (N sz : Nat) (hN : 55 ≤ N) (hI : gI ad N) (c d0 : gm) {t : Nat} {a1 : Int32} {a2 : Int32} {a3 : Int32} {a4 : Int32} {rZ : Int32} (h : m_X6_standingOf t a1 a2 a3 a4 c = some rZ) : Met l yX6_standingOf wsX6_standingOf rmX6_standingOf (va_Pc [.ref (ad t), .int a1, .int a2, .int a3, .int a4] (gP sa D ad cy N sz c d0)) (va_Qi (fun (z : Int32) (_ : Unit) => z = rZ) (fun _ U => gE D ad cy N c d0 U) (gA ad N sz)) 0 0 (gA ad N sz) := by
  refine Met.ofW (cc := cX6_standingOf) (maxL := 5) (ret := (some .int)) (by decide) rfl ?_
  intro p e s m args below meth cod s₁ B hml hv
  obtain ⟨rfl, hsz, hP, hK, hZ⟩ := hv
  have hx := B.exec
  have hb := B.bytes
  have hr := B.returns
  have hts := atoms_spec (ws := wsX6_standingOf) B.pre
  have hown : s.vm.findClass RX6 = some m.cls := findClass_of_methodNamed B.named
  have hlocks := B.notSynchronized
  subst hsz
  have hl := lv_entry ([.ref (ad t), .int a1, .int a2, .int a3, .int a4]) (n := 5) (Nat.le_of_ble_eq_true rfl)
  rw [lg_entry_eq]
  generalize (lg_sl ([.ref (ad t), .int a1, .int a2, .int a3, .int a4]) ++ List.replicate (5 - (lg_sl ([.ref (ad t), .int a1, .int a2, .int a3, .int a4])).length) Slot.unset).toArray = ls at hl ⊢
  have hl : lv_has ls 5 [(0, .ref (ad t)), (1, .int a1), (2, .int a2), (3, .int a3), (4, .int a4)] := hl
  have in6 : ∀ w ∈ wsX60, w ∈ wsX6_standingOf := by decide +kernel
  generalize hargs : ([.ref (ad t), .int a1, .int a2, .int a3, .int a4] : List Value).toArray = args at *
  generalize hAe : gA ad N s.heap.size = A
  have F : gF sa D ad cy N A p s m args cod cX6_standingOf 5 wsX6_standingOf RX6 := ⟨hx, hb, hml, hown, hts, hK, hI, by rw [← hAe]; exact gA_ad, by rw [← hAe]; exact gA_sz, by rw [← hAe]; exact hZ⟩
  have G : gW D ad cy N A s.heap c d0 s.heap [] := ⟨hP, va_S.rf⟩
  generalize hQ : MQ below (va_Qi (fun (z : Int32) (_ : Unit) => z = rZ) (fun _ U => gE D ad cy N c d0 U) A) args s 0 0 A = Q
  suffices hgen : ∀ (H : Heap) (locs : List Loc), gW D ad cy N A s.heap c d0 H locs → W p l e rmX6_standingOf s m args below meth cod H locs 0 0 Q (F0 m 0 ls []) from hgen _ _ G
  clear G
  intro H locs G
  unfold m_X6_standingOf at h
  refine lv_aload_n hx hb dX6_standingOf_0 rfl (lv_at hl 0 rfl) ?_
  refine lv_iload_n hx hb dX6_standingOf_1 rfl (lv_at hl 1 rfl) ?_
  obtain ⟨hk1, h⟩ := gc_s h
  have ht2 : t < N := Nat.lt_of_lt_of_le (gck_lt6 hk1) hN
  obtain ⟨r4, hc3, h⟩ := gb_s h
  refine gx_calli F G (va_runV (As := [.int a1]) (rest := []) (gx_fix F) (c_X6_weightOf l sa D ad cy N H.size hN hI c d0 hc3) (cwV 1 hts gX6_standingOf_X6_weightOf rfl rfl rfl (by decide +kernel) ⟨by decide, by decide⟩) (gx_rec F G ht2 (gwe_6 hk1) rfl) rfl rfl hl.1 rfl (lv_room (Nat.le_of_ble_eq_true rfl)) dX6_standingOf_2 ⟨Nat.zero_le _, Nat.zero_le _⟩) (fun H locs G => ?_)
  refine lv_iload_n hx hb dX6_standingOf_5 rfl (lv_at hl 2 rfl) ?_
  refine lv_imul hx hb dX6_standingOf_6 ?_
  refine lv_aload_n hx hb dX6_standingOf_7 rfl (lv_at hl 0 rfl) ?_
  refine lv_iload_n hx hb dX6_standingOf_8 rfl (lv_at hl 3 rfl) ?_
  obtain ⟨r6, hc5, h⟩ := gb_s h
  refine gx_calli F G (va_runV (As := [.int a3]) (rest := [.int (r4 * a2)]) (gx_fix F) (c_X6_weightOf l sa D ad cy N H.size hN hI c d0 hc5) (cwV 1 hts gX6_standingOf_X6_weightOf rfl rfl rfl (by decide +kernel) ⟨by decide, by decide⟩) (gx_rec F G ht2 (gwe_6 hk1) rfl) rfl rfl hl.1 rfl (lv_room (Nat.le_of_ble_eq_true rfl)) dX6_standingOf_9 ⟨Nat.zero_le _, Nat.zero_le _⟩) (fun H locs G => ?_)
  refine lv_iload hx hb dX6_standingOf_12 (lv_at hl 4 rfl) ?_
  refine lv_imul hx hb dX6_standingOf_14 ?_
  refine lv_aload_n hx hb dX6_standingOf_15 rfl (lv_at hl 0 rfl) ?_
  refine fg_6_lean F G hk1 ht2 in6 (by decide +kernel) dX6_standingOf_16 ?_
  refine lv_aload_n hx hb dX6_standingOf_19 rfl (lv_at hl 0 rfl) ?_
  refine fg_6_play F G hk1 ht2 in6 (by decide +kernel) dX6_standingOf_20 ?_
  obtain ⟨r8, hc7, h⟩ := gb_s h
  refine gx_calli F G (va_runS (As := [.int (r4 * a2), .int (r6 * a4), .int (c.1 t 7), .int (c.1 t 8)]) (rest := []) (gx_fix F) (c_X6_standing l sa D ad cy N H.size hN hI c d0 hc7) (va_cwS 4 hts gX6_standingOf_X6_standing rfl rfl rfl (by decide +kernel) ⟨by decide, by decide⟩) (gx_pre F G) rfl rfl hl.1 rfl (lv_room (Nat.le_of_ble_eq_true rfl)) dX6_standingOf_23 ⟨Nat.zero_le _, Nat.zero_le _⟩) (fun H locs G => ?_)
  cases h
  rw [← hQ]
  exact gx_iret F G hr hlocks dX6_standingOf_26
def m_X6_addCry (t : Nat) (a1 : Int32) (a2 : Int32) (a3 : Int32) (a4 : Int32) (c : gm) : Option (gm) :=
  gc (gck t = 6) ((if (c.1 t 6) < 0 then some c else (if (c.1 t 6) < 10 then gc (0 ≤ ((4 * (c.1 t 6)) + 0).toInt ∧ ((4 * (c.1 t 6)) + 0).toInt < 40) (gv (gm_r c (t + 5) (upd (c.1 (t + 5)) ((4 * (c.1 t 6)) + 0).toNatClampNeg a1)) (fun (c9 : gm) => gc (0 ≤ ((4 * (c9.1 t 6)) + 1).toInt ∧ ((4 * (c9.1 t 6)) + 1).toInt < 40) (gv (gm_r c9 (t + 5) (upd (c9.1 (t + 5)) ((4 * (c9.1 t 6)) + 1).toNatClampNeg a2)) (fun (c11 : gm) => gc (0 ≤ ((4 * (c11.1 t 6)) + 2).toInt ∧ ((4 * (c11.1 t 6)) + 2).toInt < 40) (gv (gm_r c11 (t + 5) (upd (c11.1 (t + 5)) ((4 * (c11.1 t 6)) + 2).toNatClampNeg a3)) (fun (c13 : gm) => gc (0 ≤ ((4 * (c13.1 t 6)) + 3).toInt ∧ ((4 * (c13.1 t 6)) + 3).toInt < 40) (gv (gm_r c13 (t + 5) (upd (c13.1 (t + 5)) ((4 * (c13.1 t 6)) + 3).toNatClampNeg a4)) (fun (c15 : gm) => gv (gm_r c15 t (upd (c15.1 t) 6 ((c15.1 t 6) + 1))) (fun (c16 : gm) => some c16))))))))) else some c)))
abbrev rmX6_addCry : Room := { frames := 0, cells := 0, slots := 0, locals := 0 }
set_option maxHeartbeats 4000000 in
set_option maxRecDepth 100000 in
theorem c_X6_addCry (l : Launch) (sa : gSa) (D : va_G) (ad : Nat → Nat) (cy : Nat → ClassId) (N sz : Nat) (hN : 55 ≤ N) (hI : gI ad N) (c d0 : gm) {t : Nat} {a1 : Int32} {a2 : Int32} {a3 : Int32} {a4 : Int32} {cZ : gm} (h : m_X6_addCry t a1 a2 a3 a4 c = some cZ) : Met l yX6_addCry wsX6_addCry rmX6_addCry (va_Pc [.ref (ad t), .int a1, .int a2, .int a3, .int a4] (gP sa D ad cy N sz c d0)) (va_Qv (fun (_ : Unit) => True) (fun _ U => gE D ad cy N cZ d0 U) (gA ad N sz)) 0 0 (gA ad N sz) := by
  refine Met.ofW (cc := cX6_addCry) (maxL := 5) (ret := none) (by decide) rfl ?_
  intro p e s m args below meth cod s₁ B hml hv
  obtain ⟨rfl, hsz, hP, hK, hZ⟩ := hv
  have hx := B.exec
  have hb := B.bytes
  have hr := B.returns
  have hts := atoms_spec (ws := wsX6_addCry) B.pre
  have hown : s.vm.findClass RX6 = some m.cls := findClass_of_methodNamed B.named
  have hlocks := B.notSynchronized
  subst hsz
  have hl := lv_entry ([.ref (ad t), .int a1, .int a2, .int a3, .int a4]) (n := 5) (Nat.le_of_ble_eq_true rfl)
  rw [lg_entry_eq]
  generalize (lg_sl ([.ref (ad t), .int a1, .int a2, .int a3, .int a4]) ++ List.replicate (5 - (lg_sl ([.ref (ad t), .int a1, .int a2, .int a3, .int a4])).length) Slot.unset).toArray = ls at hl ⊢
  have hl : lv_has ls 5 [(0, .ref (ad t)), (1, .int a1), (2, .int a2), (3, .int a3), (4, .int a4)] := hl
  have in6 : ∀ w ∈ wsX60, w ∈ wsX6_addCry := by decide +kernel
  generalize hargs : ([.ref (ad t), .int a1, .int a2, .int a3, .int a4] : List Value).toArray = args at *
  generalize hAe : gA ad N s.heap.size = A
  have F : gF sa D ad cy N A p s m args cod cX6_addCry 5 wsX6_addCry RX6 := ⟨hx, hb, hml, hown, hts, hK, hI, by rw [← hAe]; exact gA_ad, by rw [← hAe]; exact gA_sz, by rw [← hAe]; exact hZ⟩
  have G : gW D ad cy N A s.heap c d0 s.heap [] := ⟨hP, va_S.rf⟩
  generalize hQ : MQ below (va_Qv (fun (_ : Unit) => True) (fun _ U => gE D ad cy N cZ d0 U) A) args s 0 0 A = Q
  suffices hgen : ∀ (H : Heap) (locs : List Loc), gW D ad cy N A s.heap c d0 H locs → W p l e rmX6_addCry s m args below meth cod H locs 0 0 Q (F0 m 0 ls []) from hgen _ _ G
  clear G
  intro H locs G
  unfold m_X6_addCry at h
  refine lv_aload_n hx hb dX6_addCry_0 rfl (lv_at hl 0 rfl) ?_
  obtain ⟨hk1, h⟩ := gc_s h
  have ht2 : t < N := Nat.lt_of_lt_of_le (gck_lt6 hk1) hN
  refine fg_6_cries F G hk1 ht2 in6 (by decide +kernel) dX6_addCry_1 ?_
  refine lv_if_lt (tgt := 16) hx hb dX6_addCry_4 (by decide) (fun q3 => ?_) (fun q3 => ?_)
  · replace h := gt_s q3 h
    cases h
    rw [← hQ]
    exact gx_vret F G hr hlocks dX6_addCry_16
  · replace h := gf_s q3 h
    refine lv_aload_n hx hb dX6_addCry_7 rfl (lv_at hl 0 rfl) ?_
    refine fg_6_cries F G hk1 ht2 in6 (by decide +kernel) dX6_addCry_8 ?_
    refine lv_bipush (v := 10) hx hb dX6_addCry_11 (by decide) ?_
    refine lv_icmp_lt (tgt := 17) hx hb dX6_addCry_13 (by decide) (fun q4 => ?_) (fun q4 => ?_)
    · replace h := gt_s q4 h
      refine lv_aload_n hx hb dX6_addCry_17 rfl (lv_at hl 0 rfl) ?_
      refine fg_6_cryParts F G hk1 ht2 in6 (by decide +kernel) dX6_addCry_18 ?_
      obtain ⟨hk5, hn7⟩ := gka_6_cryParts hk1
      have ht6 : (t + 5) < N := Nat.lt_of_lt_of_le (gck_lt12 hk5) hN
      refine lv_iconst (v := 4) hx hb dX6_addCry_21 (by decide) ?_
      refine lv_aload_n hx hb dX6_addCry_22 rfl (lv_at hl 0 rfl) ?_
      refine fg_6_cries F G hk1 ht2 in6 (by decide +kernel) dX6_addCry_23 ?_
      refine lv_imul hx hb dX6_addCry_26 ?_
      refine lv_iconst (v := 0) hx hb dX6_addCry_27 (by decide) ?_
      refine lv_iadd hx hb dX6_addCry_28 ?_
      refine lv_iload_n hx hb dX6_addCry_29 rfl (lv_at hl 1 rfl) ?_
      obtain ⟨hi8, h⟩ := gc_s h
      refine gx_is F G hk5 ht6 hn7 hi8 dX6_addCry_30 (fun H locs G => ?_)
      obtain ⟨c9, ec9⟩ : ∃ z, z = gm_r c (t + 5) (upd (c.1 (t + 5)) ((4 * (c.1 t 6)) + 0).toNatClampNeg a1) := ⟨_, rfl⟩
      rw [← ec9] at G
      replace h := gv_s h c9 ec9
      refine lv_aload_n hx hb dX6_addCry_31 rfl (lv_at hl 0 rfl) ?_
      refine fg_6_cryParts F G hk1 ht2 in6 (by decide +kernel) dX6_addCry_32 ?_
      refine lv_iconst (v := 4) hx hb dX6_addCry_35 (by decide) ?_
      refine lv_aload_n hx hb dX6_addCry_36 rfl (lv_at hl 0 rfl) ?_
      refine fg_6_cries F G hk1 ht2 in6 (by decide +kernel) dX6_addCry_37 ?_
      refine lv_imul hx hb dX6_addCry_40 ?_
      refine lv_iconst (v := 1) hx hb dX6_addCry_41 (by decide) ?_
      refine lv_iadd hx hb dX6_addCry_42 ?_
      refine lv_iload_n hx hb dX6_addCry_43 rfl (lv_at hl 2 rfl) ?_
      obtain ⟨hi10, h⟩ := gc_s h
      refine gx_is F G hk5 ht6 hn7 hi10 dX6_addCry_44 (fun H locs G => ?_)
      obtain ⟨c11, ec11⟩ : ∃ z, z = gm_r c9 (t + 5) (upd (c9.1 (t + 5)) ((4 * (c9.1 t 6)) + 1).toNatClampNeg a2) := ⟨_, rfl⟩
      rw [← ec11] at G
      replace h := gv_s h c11 ec11
      refine lv_aload_n hx hb dX6_addCry_45 rfl (lv_at hl 0 rfl) ?_
      refine fg_6_cryParts F G hk1 ht2 in6 (by decide +kernel) dX6_addCry_46 ?_
      refine lv_iconst (v := 4) hx hb dX6_addCry_49 (by decide) ?_
      refine lv_aload_n hx hb dX6_addCry_50 rfl (lv_at hl 0 rfl) ?_
      refine fg_6_cries F G hk1 ht2 in6 (by decide +kernel) dX6_addCry_51 ?_
      refine lv_imul hx hb dX6_addCry_54 ?_
      refine lv_iconst (v := 2) hx hb dX6_addCry_55 (by decide) ?_
      refine lv_iadd hx hb dX6_addCry_56 ?_
      refine lv_iload_n hx hb dX6_addCry_57 rfl (lv_at hl 3 rfl) ?_
      obtain ⟨hi12, h⟩ := gc_s h
      refine gx_is F G hk5 ht6 hn7 hi12 dX6_addCry_58 (fun H locs G => ?_)
      obtain ⟨c13, ec13⟩ : ∃ z, z = gm_r c11 (t + 5) (upd (c11.1 (t + 5)) ((4 * (c11.1 t 6)) + 2).toNatClampNeg a3) := ⟨_, rfl⟩
      rw [← ec13] at G
      replace h := gv_s h c13 ec13
      refine lv_aload_n hx hb dX6_addCry_59 rfl (lv_at hl 0 rfl) ?_
      refine fg_6_cryParts F G hk1 ht2 in6 (by decide +kernel) dX6_addCry_60 ?_
      refine lv_iconst (v := 4) hx hb dX6_addCry_63 (by decide) ?_
      refine lv_aload_n hx hb dX6_addCry_64 rfl (lv_at hl 0 rfl) ?_
      refine fg_6_cries F G hk1 ht2 in6 (by decide +kernel) dX6_addCry_65 ?_
      refine lv_imul hx hb dX6_addCry_68 ?_
      refine lv_iconst (v := 3) hx hb dX6_addCry_69 (by decide) ?_
      refine lv_iadd hx hb dX6_addCry_70 ?_
      refine lv_iload hx hb dX6_addCry_71 (lv_at hl 4 rfl) ?_
      obtain ⟨hi14, h⟩ := gc_s h
      refine gx_is F G hk5 ht6 hn7 hi14 dX6_addCry_73 (fun H locs G => ?_)
      obtain ⟨c15, ec15⟩ : ∃ z, z = gm_r c13 (t + 5) (upd (c13.1 (t + 5)) ((4 * (c13.1 t 6)) + 3).toNatClampNeg a4) := ⟨_, rfl⟩
      rw [← ec15] at G
      replace h := gv_s h c15 ec15
      refine lv_aload_n hx hb dX6_addCry_74 rfl (lv_at hl 0 rfl) ?_
      refine lv_dup hx hb dX6_addCry_75 rfl ?_
      refine fg_6_cries F G hk1 ht2 in6 (by decide +kernel) dX6_addCry_76 ?_
      refine lv_iconst (v := 1) hx hb dX6_addCry_79 (by decide) ?_
      refine lv_iadd hx hb dX6_addCry_80 ?_
      refine fp_6_cries F G hk1 ht2 in6 (by decide +kernel) dX6_addCry_81 (fun H locs G => ?_)
      obtain ⟨c16, ec16⟩ : ∃ z, z = gm_r c15 t (upd (c15.1 t) 6 ((c15.1 t 6) + 1)) := ⟨_, rfl⟩
      rw [← ec16] at G
      replace h := gv_s h c16 ec16
      cases h
      rw [← hQ]
      exact gx_vret F G hr hlocks dX6_addCry_84
    · replace h := gf_s q4 h
      cases h
      rw [← hQ]
      exact gx_vret F G hr hlocks dX6_addCry_16
def m_X6_addNewCry_L3 (t : Nat) (a1 : Int32) (a2 : Int32) (a3 : Int32) (a4 : Int32) (c : gm) (y2 : Int32) : Option ((Int32) ⊕ ((Int32 × gm) ⊕ (Unit))) :=
  gc (gck t = 6) ((if (c.1 t 6) ≤ y2 then some (.inr (.inr ())) else gb (m_X6_cryPart t y2 0 c) (fun (r12 : Int32) => gj (fun (_ : Unit) => gv (y2 + 1) (fun (x14 : Int32) => some (.inl x14))) (fun K13 => (if r12 = a1 then gb (m_X6_cryPart t y2 1 c) (fun (r17 : Int32) => (if r17 = a2 then gb (m_X6_cryPart t y2 2 c) (fun (r20 : Int32) => (if r20 = a3 then gb (m_X6_cryPart t y2 3 c) (fun (r23 : Int32) => (if r23 = a4 then some (.inr (.inl (0, c))) else K13 ())) else K13 ())) else K13 ())) else K13 ())))))
def m_X6_addNewCry (n : Nat) (t : Nat) (a1 : Int32) (a2 : Int32) (a3 : Int32) (a4 : Int32) (c : gm) : Option (Int32 × gm) :=
  gb (gloop (fun (y2 : Int32) => m_X6_addNewCry_L3 t a1 a2 a3 a4 c y2) n 0) (gsm (fun (_ : Unit) => gc (gck t = 6) (gb (m_X6_addCry t a1 a2 a3 a4 c) (fun (c7 : gm) => some (1, c7)))))
abbrev rmX6_addNewCry : Room := { frames := 1, cells := 0, slots := 0, locals := 24 }
set_option maxHeartbeats 4000000 in
set_option maxRecDepth 100000 in
theorem c_X6_addNewCry (l : Launch) (sa : gSa) (D : va_G) (ad : Nat → Nat) (cy : Nat → ClassId) (N sz : Nat) (hN : 55 ≤ N) (hI : gI ad N) (c d0 : gm) {n : Nat} {t : Nat} {a1 : Int32} {a2 : Int32} {a3 : Int32} {a4 : Int32} {rZ : Int32} {cZ : gm} (h : m_X6_addNewCry n t a1 a2 a3 a4 c = some (rZ, cZ)) : Met l yX6_addNewCry wsX6_addNewCry rmX6_addNewCry (va_Pc [.ref (ad t), .int a1, .int a2, .int a3, .int a4] (gP sa D ad cy N sz c d0)) (va_Qi (fun (z : Int32) (_ : Unit) => z = rZ) (fun _ U => gE D ad cy N cZ d0 U) (gA ad N sz)) 0 0 (gA ad N sz) := by
  refine Met.ofW (cc := cX6_addNewCry) (maxL := 6) (ret := (some .boolean)) (by decide) rfl ?_
  intro p e s m args below meth cod s₁ B hml hv
  obtain ⟨rfl, hsz, hP, hK, hZ⟩ := hv
  have hx := B.exec
  have hb := B.bytes
  have hr := B.returns
  have hts := atoms_spec (ws := wsX6_addNewCry) B.pre
  have hown : s.vm.findClass RX6 = some m.cls := findClass_of_methodNamed B.named
  have hlocks := B.notSynchronized
  subst hsz
  have hl := lv_entry ([.ref (ad t), .int a1, .int a2, .int a3, .int a4]) (n := 6) (Nat.le_of_ble_eq_true rfl)
  rw [lg_entry_eq]
  generalize (lg_sl ([.ref (ad t), .int a1, .int a2, .int a3, .int a4]) ++ List.replicate (6 - (lg_sl ([.ref (ad t), .int a1, .int a2, .int a3, .int a4])).length) Slot.unset).toArray = ls at hl ⊢
  have hl : lv_has ls 6 [(0, .ref (ad t)), (1, .int a1), (2, .int a2), (3, .int a3), (4, .int a4)] := hl
  have in6 : ∀ w ∈ wsX60, w ∈ wsX6_addNewCry := by decide +kernel
  generalize hargs : ([.ref (ad t), .int a1, .int a2, .int a3, .int a4] : List Value).toArray = args at *
  generalize hAe : gA ad N s.heap.size = A
  have F : gF sa D ad cy N A p s m args cod cX6_addNewCry 6 wsX6_addNewCry RX6 := ⟨hx, hb, hml, hown, hts, hK, hI, by rw [← hAe]; exact gA_ad, by rw [← hAe]; exact gA_sz, by rw [← hAe]; exact hZ⟩
  have G : gW D ad cy N A s.heap c d0 s.heap [] := ⟨hP, va_S.rf⟩
  generalize hQ : MQ below (va_Qi (fun (z : Int32) (_ : Unit) => z = rZ) (fun _ U => gE D ad cy N cZ d0 U) A) args s 0 0 A = Q
  suffices hgen : ∀ (H : Heap) (locs : List Loc), gW D ad cy N A s.heap c d0 H locs → W p l e rmX6_addNewCry s m args below meth cod H locs 0 0 Q (F0 m 0 ls []) from hgen _ _ G
  clear G
  intro H locs G
  unfold m_X6_addNewCry at h
  refine lv_iconst (v := 0) hx hb dX6_addNewCry_0 (by decide) ?_
  refine lv_istore (lv' := [(5, .int 0), (0, .ref (ad t)), (1, .int a1), (2, .int a2), (3, .int a3), (4, .int a4)]) hx hb dX6_addNewCry_1 hl (by decide) rfl (fun ls hl => ?_)
  obtain ⟨b1, hb1, hK1⟩ := gb_s h
  have E1 : ∀ (H : Heap) (locs : List Loc) (ls : Array Slot), (Sum.inr () : (Int32 × gm) ⊕ (Unit)) = b1 → gW D ad cy N A s.heap c d0 H locs → lv_has ls 6 [(0, .ref (ad t)), (1, .int a1), (2, .int a2), (3, .int a3), (4, .int a4)] → W p l e rmX6_addNewCry s m args below meth cod H locs 0 0 Q (F0 m 65 ls []) := by
    intro  H locs ls hq1 G hl
    subst hq1
    replace hK1 := gsm_r hK1
    have h := hK1
    refine lv_aload_n hx hb dX6_addNewCry_65 rfl (lv_at hl 0 rfl) ?_
    refine lv_iload_n hx hb dX6_addNewCry_66 rfl (lv_at hl 1 rfl) ?_
    refine lv_iload_n hx hb dX6_addNewCry_67 rfl (lv_at hl 2 rfl) ?_
    refine lv_iload_n hx hb dX6_addNewCry_68 rfl (lv_at hl 3 rfl) ?_
    refine lv_iload hx hb dX6_addNewCry_69 (lv_at hl 4 rfl) ?_
    obtain ⟨hk3, h⟩ := gc_s h
    have ht4 : t < N := Nat.lt_of_lt_of_le (gck_lt6 hk3) hN
    obtain ⟨c7, hc5, h⟩ := gb_s h
    refine gx_callv F G (va_runV (As := [.int a1, .int a2, .int a3, .int a4]) (rest := []) (gx_fix F) (c_X6_addCry l sa D ad cy N H.size hN hI c d0 hc5) (cwV 4 hts gX6_addNewCry_X6_addCry rfl rfl rfl (by decide +kernel) ⟨by decide, by decide⟩) (gx_rec F G ht4 (gwe_6 hk3) rfl) rfl rfl hl.1 rfl (lv_room (Nat.le_of_ble_eq_true rfl)) dX6_addNewCry_71 ⟨Nat.zero_le _, Nat.zero_le _⟩) (fun H locs G => ?_)
    refine lv_iconst (v := 1) hx hb dX6_addNewCry_74 (by decide) ?_
    cases h
    rw [← hQ]
    exact gx_zret F G hr hlocks rfl dX6_addNewCry_75
  have L1 : ∀ (n9 : Nat) (y2 : Int32) (H : Heap) (locs : List Loc) (ls : Array Slot), gloop (fun (y2 : Int32) => m_X6_addNewCry_L3 t a1 a2 a3 a4 c y2) n9 y2 = some b1 → gW D ad cy N A s.heap c d0 H locs → lv_has ls 6 [(0, .ref (ad t)), (1, .int a1), (2, .int a2), (3, .int a3), (4, .int a4), (5, .int y2)] → W p l e rmX6_addNewCry s m args below meth cod H locs 0 0 Q (F0 m 3 ls []) := by
    intro n9
    induction n9 with
    | zero => intro y2 H locs ls h; exact (gloop_0 h).elim
    | succ n9 ih =>
      intro y2 H locs ls h G hl
      have ih1 := ih
      obtain ⟨o1, h, hn1⟩ := gloop_s h
      unfold m_X6_addNewCry_L3 at h
      refine lv_iload hx hb dX6_addNewCry_3 (lv_at hl 5 rfl) ?_
      refine lv_aload_n hx hb dX6_addNewCry_5 rfl (lv_at hl 0 rfl) ?_
      obtain ⟨hk8, h⟩ := gc_s h
      have ht9 : t < N := Nat.lt_of_lt_of_le (gck_lt6 hk8) hN
      refine fg_6_cries F G hk8 ht9 in6 (by decide +kernel) dX6_addNewCry_6 ?_
      refine lv_icmp_ge (tgt := 65) hx hb dX6_addNewCry_9 (by decide) (fun q10 => ?_) (fun q10 => ?_)
      · replace h := gt_s q10 h
        cases h
        exact E1  _ _ _ (gnx_r hn1) G (lv_sub hl [0, 1, 2, 3, 4] rfl)
      · replace h := gf_s q10 h
        refine lv_aload_n hx hb dX6_addNewCry_12 rfl (lv_at hl 0 rfl) ?_
        refine lv_iload hx hb dX6_addNewCry_13 (lv_at hl 5 rfl) ?_
        refine lv_iconst (v := 0) hx hb dX6_addNewCry_15 (by decide) ?_
        obtain ⟨r12, hc11, h⟩ := gb_s h
        refine gx_calli F G (va_runV (As := [.int y2, .int 0]) (rest := []) (gx_fix F) (c_X6_cryPart l sa D ad cy N H.size hN hI c d0 hc11) (cwV 2 hts gX6_addNewCry_X6_cryPart rfl rfl rfl (by decide +kernel) ⟨by decide, by decide⟩) (gx_rec F G ht9 (gwe_6 hk8) rfl) rfl rfl hl.1 rfl (lv_room (Nat.le_of_ble_eq_true rfl)) dX6_addNewCry_16 ⟨Nat.zero_le _, Nat.zero_le _⟩) (fun H locs G => ?_)
        refine lv_iload_n hx hb dX6_addNewCry_19 rfl (lv_at hl 1 rfl) ?_
        obtain ⟨K13, eK13, h⟩ := gj_s h
        have JK13 : ∀ (H : Heap) (locs : List Loc) (ls : Array Slot), K13 () = some o1 → gW D ad cy N A s.heap c d0 H locs → lv_has ls 6 [(0, .ref (ad t)), (1, .int a1), (2, .int a2), (3, .int a3), (4, .int a4), (5, .int y2)] → W p l e rmX6_addNewCry s m args below meth cod H locs 0 0 Q (F0 m 59 ls []) := by
          intro  H locs ls h G hl
          rw [eK13] at h
          obtain ⟨x14, ex14⟩ : ∃ z : Int32, z = y2 + 1 := ⟨_, rfl⟩
          replace h := gv_s h x14 ex14
          refine lv_iinc (v := x14) (lv' := [(5, .int x14), (0, .ref (ad t)), (1, .int a1), (2, .int a2), (3, .int a3), (4, .int a4)]) hx hb dX6_addNewCry_59 hl (k := 5) rfl (by rw [ex14]; rfl) (by decide) rfl (fun ls hl => ?_)
          refine lv_goto (tgt := 3) hx hb dX6_addNewCry_62 (by decide) ?_
          cases h
          exact ih1 _ _ _ _ hn1 G (lv_sub hl [1, 2, 3, 4, 5, 0] rfl)
        refine lv_icmp_ne (tgt := 59) hx hb dX6_addNewCry_20 (by decide) (fun q15 => ?_) (fun q15 => ?_)
        · replace h := gf_s q15 h
          exact JK13  _ _ _ h G hl
        · replace h := gt_s q15 h
          refine lv_aload_n hx hb dX6_addNewCry_23 rfl (lv_at hl 0 rfl) ?_
          refine lv_iload hx hb dX6_addNewCry_24 (lv_at hl 5 rfl) ?_
          refine lv_iconst (v := 1) hx hb dX6_addNewCry_26 (by decide) ?_
          obtain ⟨r17, hc16, h⟩ := gb_s h
          refine gx_calli F G (va_runV (As := [.int y2, .int 1]) (rest := []) (gx_fix F) (c_X6_cryPart l sa D ad cy N H.size hN hI c d0 hc16) (cwV 2 hts gX6_addNewCry_X6_cryPart rfl rfl rfl (by decide +kernel) ⟨by decide, by decide⟩) (gx_rec F G ht9 (gwe_6 hk8) rfl) rfl rfl hl.1 rfl (lv_room (Nat.le_of_ble_eq_true rfl)) dX6_addNewCry_27 ⟨Nat.zero_le _, Nat.zero_le _⟩) (fun H locs G => ?_)
          refine lv_iload_n hx hb dX6_addNewCry_30 rfl (lv_at hl 2 rfl) ?_
          refine lv_icmp_ne (tgt := 59) hx hb dX6_addNewCry_31 (by decide) (fun q18 => ?_) (fun q18 => ?_)
          · replace h := gf_s q18 h
            exact JK13  _ _ _ h G hl
          · replace h := gt_s q18 h
            refine lv_aload_n hx hb dX6_addNewCry_34 rfl (lv_at hl 0 rfl) ?_
            refine lv_iload hx hb dX6_addNewCry_35 (lv_at hl 5 rfl) ?_
            refine lv_iconst (v := 2) hx hb dX6_addNewCry_37 (by decide) ?_
            obtain ⟨r20, hc19, h⟩ := gb_s h
            refine gx_calli F G (va_runV (As := [.int y2, .int 2]) (rest := []) (gx_fix F) (c_X6_cryPart l sa D ad cy N H.size hN hI c d0 hc19) (cwV 2 hts gX6_addNewCry_X6_cryPart rfl rfl rfl (by decide +kernel) ⟨by decide, by decide⟩) (gx_rec F G ht9 (gwe_6 hk8) rfl) rfl rfl hl.1 rfl (lv_room (Nat.le_of_ble_eq_true rfl)) dX6_addNewCry_38 ⟨Nat.zero_le _, Nat.zero_le _⟩) (fun H locs G => ?_)
            refine lv_iload_n hx hb dX6_addNewCry_41 rfl (lv_at hl 3 rfl) ?_
            refine lv_icmp_ne (tgt := 59) hx hb dX6_addNewCry_42 (by decide) (fun q21 => ?_) (fun q21 => ?_)
            · replace h := gf_s q21 h
              exact JK13  _ _ _ h G hl
            · replace h := gt_s q21 h
              refine lv_aload_n hx hb dX6_addNewCry_45 rfl (lv_at hl 0 rfl) ?_
              refine lv_iload hx hb dX6_addNewCry_46 (lv_at hl 5 rfl) ?_
              refine lv_iconst (v := 3) hx hb dX6_addNewCry_48 (by decide) ?_
              obtain ⟨r23, hc22, h⟩ := gb_s h
              refine gx_calli F G (va_runV (As := [.int y2, .int 3]) (rest := []) (gx_fix F) (c_X6_cryPart l sa D ad cy N H.size hN hI c d0 hc22) (cwV 2 hts gX6_addNewCry_X6_cryPart rfl rfl rfl (by decide +kernel) ⟨by decide, by decide⟩) (gx_rec F G ht9 (gwe_6 hk8) rfl) rfl rfl hl.1 rfl (lv_room (Nat.le_of_ble_eq_true rfl)) dX6_addNewCry_49 ⟨Nat.zero_le _, Nat.zero_le _⟩) (fun H locs G => ?_)
              refine lv_iload hx hb dX6_addNewCry_52 (lv_at hl 4 rfl) ?_
              refine lv_icmp_ne (tgt := 59) hx hb dX6_addNewCry_54 (by decide) (fun q24 => ?_) (fun q24 => ?_)
              · replace h := gf_s q24 h
                exact JK13  _ _ _ h G hl
              · replace h := gt_s q24 h
                refine lv_iconst (v := 0) hx hb dX6_addNewCry_57 (by decide) ?_
                cases h
                cases gnx_r hn1
                cases gsm_l hK1
                rw [← hQ]
                exact gx_zret F G hr hlocks rfl dX6_addNewCry_58
  exact L1 n _ _ _ _ hb1 G (lv_sub hl [1, 2, 3, 4, 5, 0] rfl)
def m_X6_weigh (n : Nat) (t : Nat) (a1 : Int32) (a2 : Int32) (a3 : Int32) (a4 : Int32) (c : gm) : Option (Int32 × gm) :=
  gc (gck t = 6) (gb (m_X6_isThing t a1 c) (fun (r4 : Int32) => (if r4 = 0 then some (0, c) else gb (m_X6_isThing t a3 c) (fun (r7 : Int32) => (if r7 = 0 then some (0, c) else (if a1 = a3 then some (0, c) else (if (c.1 t 6) < 10 then gb (m_X6_standingOf t a1 a2 a3 a4 c) (fun (r12 : Int32) => gj (fun (c13 : gm) => gj (fun (c15 : gm) => gc (0 ≤ a1.toInt ∧ a1.toInt < 8) (gc (0 ≤ a1.toInt ∧ a1.toInt < 8) (gv (gm_r c15 (t + 3) (upd (c15.1 (t + 3)) a1.toNatClampNeg ((c15.1 (t + 3) a1.toNatClampNeg) + 1))) (fun (c22 : gm) => gc (0 ≤ a3.toInt ∧ a3.toInt < 8) (gc (0 ≤ a3.toInt ∧ a3.toInt < 8) (gv (gm_r c22 (t + 3) (upd (c22.1 (t + 3)) a3.toNatClampNeg ((c22.1 (t + 3) a3.toNatClampNeg) + 1))) (fun (c25 : gm) => gv (gm_r c25 t (upd (c25.1 t) 10 ((c25.1 t 10) + 1))) (fun (c26 : gm) => some (1, c26))))))))) (fun K16 => (if r12 = 2 then gb2 (m_X6_addNewCry n t a3 a4 a1 a2 c13) (fun (r29 : Int32) (c30 : gm) => (if r29 = 0 then some (0, c30) else K16 c30)) else K16 c13))) (fun K14 => (if r12 = 1 then gb2 (m_X6_addNewCry n t a1 a2 a3 a4 c) (fun (r34 : Int32) (c35 : gm) => (if r34 = 0 then some (0, c35) else K14 c35)) else K14 c))) else some (0, c))))))))
abbrev rmX6_weigh : Room := { frames := 3, cells := 0, slots := 0, locals := 66 }
set_option maxHeartbeats 4000000 in
set_option maxRecDepth 100000 in
theorem c_X6_weigh (l : Launch) (sa : gSa) (D : va_G) (ad : Nat → Nat) (cy : Nat → ClassId) (N sz : Nat) (hN : 55 ≤ N) (hI : gI ad N) (c d0 : gm) {n : Nat} {t : Nat} {a1 : Int32} {a2 : Int32} {a3 : Int32} {a4 : Int32} {rZ : Int32} {cZ : gm} (h : m_X6_weigh n t a1 a2 a3 a4 c = some (rZ, cZ)) : Met l yX6_weigh wsX6_weigh rmX6_weigh (va_Pc [.ref (ad t), .int a1, .int a2, .int a3, .int a4] (gP sa D ad cy N sz c d0)) (va_Qi (fun (z : Int32) (_ : Unit) => z = rZ) (fun _ U => gE D ad cy N cZ d0 U) (gA ad N sz)) 0 0 (gA ad N sz) := by
  refine Met.ofW (cc := cX6_weigh) (maxL := 6) (ret := (some .boolean)) (by decide) rfl ?_
  intro p e s m args below meth cod s₁ B hml hv
  obtain ⟨rfl, hsz, hP, hK, hZ⟩ := hv
  have hx := B.exec
  have hb := B.bytes
  have hr := B.returns
  have hts := atoms_spec (ws := wsX6_weigh) B.pre
  have hown : s.vm.findClass RX6 = some m.cls := findClass_of_methodNamed B.named
  have hlocks := B.notSynchronized
  subst hsz
  have hl := lv_entry ([.ref (ad t), .int a1, .int a2, .int a3, .int a4]) (n := 6) (Nat.le_of_ble_eq_true rfl)
  rw [lg_entry_eq]
  generalize (lg_sl ([.ref (ad t), .int a1, .int a2, .int a3, .int a4]) ++ List.replicate (6 - (lg_sl ([.ref (ad t), .int a1, .int a2, .int a3, .int a4])).length) Slot.unset).toArray = ls at hl ⊢
  have hl : lv_has ls 6 [(0, .ref (ad t)), (1, .int a1), (2, .int a2), (3, .int a3), (4, .int a4)] := hl
  have in6 : ∀ w ∈ wsX60, w ∈ wsX6_weigh := by decide +kernel
  generalize hargs : ([.ref (ad t), .int a1, .int a2, .int a3, .int a4] : List Value).toArray = args at *
  generalize hAe : gA ad N s.heap.size = A
  have F : gF sa D ad cy N A p s m args cod cX6_weigh 6 wsX6_weigh RX6 := ⟨hx, hb, hml, hown, hts, hK, hI, by rw [← hAe]; exact gA_ad, by rw [← hAe]; exact gA_sz, by rw [← hAe]; exact hZ⟩
  have G : gW D ad cy N A s.heap c d0 s.heap [] := ⟨hP, va_S.rf⟩
  generalize hQ : MQ below (va_Qi (fun (z : Int32) (_ : Unit) => z = rZ) (fun _ U => gE D ad cy N cZ d0 U) A) args s 0 0 A = Q
  suffices hgen : ∀ (H : Heap) (locs : List Loc), gW D ad cy N A s.heap c d0 H locs → W p l e rmX6_weigh s m args below meth cod H locs 0 0 Q (F0 m 0 ls []) from hgen _ _ G
  clear G
  intro H locs G
  unfold m_X6_weigh at h
  refine lv_aload_n hx hb dX6_weigh_0 rfl (lv_at hl 0 rfl) ?_
  refine lv_iload_n hx hb dX6_weigh_1 rfl (lv_at hl 1 rfl) ?_
  obtain ⟨hk1, h⟩ := gc_s h
  have ht2 : t < N := Nat.lt_of_lt_of_le (gck_lt6 hk1) hN
  obtain ⟨r4, hc3, h⟩ := gb_s h
  refine gx_calli F G (va_runV (As := [.int a1]) (rest := []) (gx_fix F) (c_X6_isThing l sa D ad cy N H.size hN hI c d0 hc3) (cwV 1 hts gX6_weigh_X6_isThing rfl rfl rfl (by decide +kernel) ⟨by decide, by decide⟩) (gx_rec F G ht2 (gwe_6 hk1) rfl) rfl rfl hl.1 rfl (lv_room (Nat.le_of_ble_eq_true rfl)) dX6_weigh_2 ⟨Nat.zero_le _, Nat.zero_le _⟩) (fun H locs G => ?_)
  refine lv_if_eq (tgt := 30) hx hb dX6_weigh_5 (by decide) (fun q5 => ?_) (fun q5 => ?_)
  · replace h := gt_s q5 h
    refine lv_iconst (v := 0) hx hb dX6_weigh_30 (by decide) ?_
    cases h
    rw [← hQ]
    exact gx_zret F G hr hlocks rfl dX6_weigh_31
  · replace h := gf_s q5 h
    refine lv_aload_n hx hb dX6_weigh_8 rfl (lv_at hl 0 rfl) ?_
    refine lv_iload_n hx hb dX6_weigh_9 rfl (lv_at hl 3 rfl) ?_
    obtain ⟨r7, hc6, h⟩ := gb_s h
    refine gx_calli F G (va_runV (As := [.int a3]) (rest := []) (gx_fix F) (c_X6_isThing l sa D ad cy N H.size hN hI c d0 hc6) (cwV 1 hts gX6_weigh_X6_isThing rfl rfl rfl (by decide +kernel) ⟨by decide, by decide⟩) (gx_rec F G ht2 (gwe_6 hk1) rfl) rfl rfl hl.1 rfl (lv_room (Nat.le_of_ble_eq_true rfl)) dX6_weigh_10 ⟨Nat.zero_le _, Nat.zero_le _⟩) (fun H locs G => ?_)
    refine lv_if_eq (tgt := 30) hx hb dX6_weigh_13 (by decide) (fun q8 => ?_) (fun q8 => ?_)
    · replace h := gt_s q8 h
      refine lv_iconst (v := 0) hx hb dX6_weigh_30 (by decide) ?_
      cases h
      rw [← hQ]
      exact gx_zret F G hr hlocks rfl dX6_weigh_31
    · replace h := gf_s q8 h
      refine lv_iload_n hx hb dX6_weigh_16 rfl (lv_at hl 1 rfl) ?_
      refine lv_iload_n hx hb dX6_weigh_17 rfl (lv_at hl 3 rfl) ?_
      refine lv_icmp_eq (tgt := 30) hx hb dX6_weigh_18 (by decide) (fun q9 => ?_) (fun q9 => ?_)
      · replace h := gt_s q9 h
        refine lv_iconst (v := 0) hx hb dX6_weigh_30 (by decide) ?_
        cases h
        rw [← hQ]
        exact gx_zret F G hr hlocks rfl dX6_weigh_31
      · replace h := gf_s q9 h
        refine lv_aload_n hx hb dX6_weigh_21 rfl (lv_at hl 0 rfl) ?_
        refine fg_6_cries F G hk1 ht2 in6 (by decide +kernel) dX6_weigh_22 ?_
        refine lv_bipush (v := 10) hx hb dX6_weigh_25 (by decide) ?_
        refine lv_icmp_lt (tgt := 32) hx hb dX6_weigh_27 (by decide) (fun q10 => ?_) (fun q10 => ?_)
        · replace h := gt_s q10 h
          refine lv_aload_n hx hb dX6_weigh_32 rfl (lv_at hl 0 rfl) ?_
          refine lv_iload_n hx hb dX6_weigh_33 rfl (lv_at hl 1 rfl) ?_
          refine lv_iload_n hx hb dX6_weigh_34 rfl (lv_at hl 2 rfl) ?_
          refine lv_iload_n hx hb dX6_weigh_35 rfl (lv_at hl 3 rfl) ?_
          refine lv_iload hx hb dX6_weigh_36 (lv_at hl 4 rfl) ?_
          obtain ⟨r12, hc11, h⟩ := gb_s h
          refine gx_calli F G (va_runV (As := [.int a1, .int a2, .int a3, .int a4]) (rest := []) (gx_fix F) (c_X6_standingOf l sa D ad cy N H.size hN hI c d0 hc11) (cwV 4 hts gX6_weigh_X6_standingOf rfl rfl rfl (by decide +kernel) ⟨by decide, by decide⟩) (gx_rec F G ht2 (gwe_6 hk1) rfl) rfl rfl hl.1 rfl (lv_room (Nat.le_of_ble_eq_true rfl)) dX6_weigh_38 ⟨Nat.zero_le _, Nat.zero_le _⟩) (fun H locs G => ?_)
          refine lv_istore (lv' := [(5, .int r12), (0, .ref (ad t)), (1, .int a1), (2, .int a2), (3, .int a3), (4, .int a4)]) hx hb dX6_weigh_41 hl (by decide) rfl (fun ls hl => ?_)
          refine lv_iload hx hb dX6_weigh_43 (lv_at hl 0 rfl) ?_
          refine lv_iconst (v := 1) hx hb dX6_weigh_45 (by decide) ?_
          obtain ⟨K14, eK14, h⟩ := gj_s h
          have JK14 : ∀ (c13 : gm) (H : Heap) (locs : List Loc) (ls : Array Slot), K14 c13 = some (rZ, cZ) → gW D ad cy N A s.heap c13 d0 H locs → lv_has ls 6 [(0, .ref (ad t)), (1, .int a1), (2, .int a2), (3, .int a3), (4, .int a4), (5, .int r12)] → W p l e rmX6_weigh s m args below meth cod H locs 0 0 Q (F0 m 61 ls []) := by
            intro c13 H locs ls h G hl
            rw [eK14] at h
            refine lv_iload hx hb dX6_weigh_61 (lv_at hl 5 rfl) ?_
            refine lv_iconst (v := 2) hx hb dX6_weigh_63 (by decide) ?_
            obtain ⟨K16, eK16, h⟩ := gj_s h
            have JK16 : ∀ (c15 : gm) (H : Heap) (locs : List Loc) (ls : Array Slot), K16 c15 = some (rZ, cZ) → gW D ad cy N A s.heap c15 d0 H locs → lv_has ls 6 [(0, .ref (ad t)), (1, .int a1), (3, .int a3)] → W p l e rmX6_weigh s m args below meth cod H locs 0 0 Q (F0 m 81 ls []) := by
              intro c15 H locs ls h G hl
              rw [eK16] at h
              refine lv_aload_n hx hb dX6_weigh_81 rfl (lv_at hl 0 rfl) ?_
              refine fg_6_weighed F G hk1 ht2 in6 (by decide +kernel) dX6_weigh_82 ?_
              obtain ⟨hk17, hn19⟩ := gka_6_weighed hk1
              have ht18 : (t + 3) < N := Nat.lt_of_lt_of_le (gck_lt12 hk17) hN
              refine lv_iload_n hx hb dX6_weigh_85 rfl (lv_at hl 1 rfl) ?_
              refine lv_dup2_11 hx hb dX6_weigh_86 rfl rfl ?_
              obtain ⟨hi20, h⟩ := gc_s h
              refine gx_ia F G hk17 ht18 hn19 hi20 dX6_weigh_87 ?_
              refine lv_iconst (v := 1) hx hb dX6_weigh_88 (by decide) ?_
              refine lv_iadd hx hb dX6_weigh_89 ?_
              obtain ⟨hi21, h⟩ := gc_s h
              refine gx_is F G hk17 ht18 hn19 hi21 dX6_weigh_90 (fun H locs G => ?_)
              obtain ⟨c22, ec22⟩ : ∃ z, z = gm_r c15 (t + 3) (upd (c15.1 (t + 3)) a1.toNatClampNeg ((c15.1 (t + 3) a1.toNatClampNeg) + 1)) := ⟨_, rfl⟩
              rw [← ec22] at G
              replace h := gv_s h c22 ec22
              refine lv_aload_n hx hb dX6_weigh_91 rfl (lv_at hl 0 rfl) ?_
              refine fg_6_weighed F G hk1 ht2 in6 (by decide +kernel) dX6_weigh_92 ?_
              refine lv_iload_n hx hb dX6_weigh_95 rfl (lv_at hl 2 rfl) ?_
              refine lv_dup2_11 hx hb dX6_weigh_96 rfl rfl ?_
              obtain ⟨hi23, h⟩ := gc_s h
              refine gx_ia F G hk17 ht18 hn19 hi23 dX6_weigh_97 ?_
              refine lv_iconst (v := 1) hx hb dX6_weigh_98 (by decide) ?_
              refine lv_iadd hx hb dX6_weigh_99 ?_
              obtain ⟨hi24, h⟩ := gc_s h
              refine gx_is F G hk17 ht18 hn19 hi24 dX6_weigh_100 (fun H locs G => ?_)
              obtain ⟨c25, ec25⟩ : ∃ z, z = gm_r c22 (t + 3) (upd (c22.1 (t + 3)) a3.toNatClampNeg ((c22.1 (t + 3) a3.toNatClampNeg) + 1)) := ⟨_, rfl⟩
              rw [← ec25] at G
              replace h := gv_s h c25 ec25
              refine lv_aload_n hx hb dX6_weigh_101 rfl (lv_at hl 0 rfl) ?_
              refine lv_dup hx hb dX6_weigh_102 rfl ?_
              refine fg_6_weighings F G hk1 ht2 in6 (by decide +kernel) dX6_weigh_103 ?_
              refine lv_iconst (v := 1) hx hb dX6_weigh_106 (by decide) ?_
              refine lv_iadd hx hb dX6_weigh_107 ?_
              refine fp_6_weighings F G hk1 ht2 in6 (by decide +kernel) dX6_weigh_108 (fun H locs G => ?_)
              obtain ⟨c26, ec26⟩ : ∃ z, z = gm_r c25 t (upd (c25.1 t) 10 ((c25.1 t 10) + 1)) := ⟨_, rfl⟩
              rw [← ec26] at G
              replace h := gv_s h c26 ec26
              refine lv_iconst (v := 1) hx hb dX6_weigh_111 (by decide) ?_
              cases h
              rw [← hQ]
              exact gx_zret F G hr hlocks rfl dX6_weigh_112
            refine lv_icmp_ne (tgt := 81) hx hb dX6_weigh_64 (by decide) (fun q27 => ?_) (fun q27 => ?_)
            · replace h := gf_s q27 h
              exact JK16 _ _ _ _ h G (lv_sub hl [0, 1, 3] rfl)
            · replace h := gt_s q27 h
              refine lv_aload_n hx hb dX6_weigh_67 rfl (lv_at hl 0 rfl) ?_
              refine lv_iload_n hx hb dX6_weigh_68 rfl (lv_at hl 3 rfl) ?_
              refine lv_iload hx hb dX6_weigh_69 (lv_at hl 4 rfl) ?_
              refine lv_iload_n hx hb dX6_weigh_71 rfl (lv_at hl 1 rfl) ?_
              refine lv_iload_n hx hb dX6_weigh_72 rfl (lv_at hl 2 rfl) ?_
              obtain ⟨r29, c30, hc28, h⟩ := gb2_s h
              refine gx_calli F G (va_runV (As := [.int a3, .int a4, .int a1, .int a2]) (rest := []) (gx_fix F) (c_X6_addNewCry l sa D ad cy N H.size hN hI c13 d0 hc28) (cwV 4 hts gX6_weigh_X6_addNewCry rfl rfl rfl (by decide +kernel) ⟨by decide, by decide⟩) (gx_rec F G ht2 (gwe_6 hk1) rfl) rfl rfl hl.1 rfl (lv_room (Nat.le_of_ble_eq_true rfl)) dX6_weigh_73 ⟨Nat.zero_le _, Nat.zero_le _⟩) (fun H locs G => ?_)
              refine lv_if_ne (tgt := 81) hx hb dX6_weigh_76 (by decide) (fun q31 => ?_) (fun q31 => ?_)
              · replace h := gf_s q31 h
                exact JK16 _ _ _ _ h G (lv_sub hl [0, 1, 3] rfl)
              · replace h := gt_s q31 h
                refine lv_iconst (v := 0) hx hb dX6_weigh_79 (by decide) ?_
                cases h
                rw [← hQ]
                exact gx_zret F G hr hlocks rfl dX6_weigh_80
          refine lv_icmp_ne (tgt := 61) hx hb dX6_weigh_46 (by decide) (fun q32 => ?_) (fun q32 => ?_)
          · replace h := gf_s q32 h
            exact JK14 _ _ _ _ h G (lv_sub hl [1, 2, 3, 4, 5, 0] rfl)
          · replace h := gt_s q32 h
            refine lv_aload_n hx hb dX6_weigh_49 rfl (lv_at hl 1 rfl) ?_
            refine lv_iload_n hx hb dX6_weigh_50 rfl (lv_at hl 2 rfl) ?_
            refine lv_iload_n hx hb dX6_weigh_51 rfl (lv_at hl 3 rfl) ?_
            refine lv_iload_n hx hb dX6_weigh_52 rfl (lv_at hl 4 rfl) ?_
            refine lv_iload hx hb dX6_weigh_53 (lv_at hl 5 rfl) ?_
            obtain ⟨r34, c35, hc33, h⟩ := gb2_s h
            refine gx_calli F G (va_runV (As := [.int a1, .int a2, .int a3, .int a4]) (rest := []) (gx_fix F) (c_X6_addNewCry l sa D ad cy N H.size hN hI c d0 hc33) (cwV 4 hts gX6_weigh_X6_addNewCry rfl rfl rfl (by decide +kernel) ⟨by decide, by decide⟩) (gx_rec F G ht2 (gwe_6 hk1) rfl) rfl rfl hl.1 rfl (lv_room (Nat.le_of_ble_eq_true rfl)) dX6_weigh_55 ⟨Nat.zero_le _, Nat.zero_le _⟩) (fun H locs G => ?_)
            refine lv_if_eq (tgt := 79) hx hb dX6_weigh_58 (by decide) (fun q36 => ?_) (fun q36 => ?_)
            · replace h := gt_s q36 h
              refine lv_iconst (v := 0) hx hb dX6_weigh_79 (by decide) ?_
              cases h
              rw [← hQ]
              exact gx_zret F G hr hlocks rfl dX6_weigh_80
            · replace h := gf_s q36 h
              exact JK14 _ _ _ _ h G (lv_sub hl [1, 2, 3, 4, 5, 0] rfl)
        · replace h := gf_s q10 h
          refine lv_iconst (v := 0) hx hb dX6_weigh_30 (by decide) ?_
          cases h
          rw [← hQ]
          exact gx_zret F G hr hlocks rfl dX6_weigh_31
def m_X6_tip (t : Nat) (a1 : Int32) (c : gm) : Option (Int32 × gm) :=
  (if a1 < 0 then some (0, c) else gc (gck t = 6) ((if (c.1 t 6) ≤ a1 then some (0, c) else (if (c.1 t 6) ≤ 10 then gc (0 ≤ (4 * (a1 + 1)).toInt ∧ 0 ≤ (4 * a1).toInt ∧ 0 ≤ (4 * (((c.1 t 6) - a1) - 1)).toInt ∧ (4 * (a1 + 1)).toInt + (4 * (((c.1 t 6) - a1) - 1)).toInt ≤ 40 ∧ (4 * a1).toInt + (4 * (((c.1 t 6) - a1) - 1)).toInt ≤ 40) (gv (gm_r c (t + 5) (va_cpy (c.1 (t + 5)) (c.1 (t + 5)) (4 * (a1 + 1)).toNatClampNeg (4 * a1).toNatClampNeg (4 * (((c.1 t 6) - a1) - 1)).toNatClampNeg)) (fun (c10 : gm) => gv (gm_r c10 t (upd (c10.1 t) 6 ((c10.1 t 6) - 1))) (fun (c11 : gm) => some (1, c11)))) else some (0, c)))))
abbrev rmX6_tip : Room := { frames := 1, cells := 0, slots := 0, locals := 60 }
set_option maxHeartbeats 4000000 in
set_option maxRecDepth 100000 in
theorem c_X6_tip (l : Launch) (sa : gSa) (D : va_G) (ad : Nat → Nat) (cy : Nat → ClassId) (N sz : Nat) (hN : 55 ≤ N) (hI : gI ad N) (c d0 : gm) {t : Nat} {a1 : Int32} {rZ : Int32} {cZ : gm} (h : m_X6_tip t a1 c = some (rZ, cZ)) : Met l yX6_tip wsX6_tip rmX6_tip (va_Pc [.ref (ad t), .int a1] (gP sa D ad cy N sz c d0)) (va_Qi (fun (z : Int32) (_ : Unit) => z = rZ) (fun _ U => gE D ad cy N cZ d0 U) (gA ad N sz)) 0 0 (gA ad N sz) := by
  refine Met.ofW (cc := cX6_tip) (maxL := 2) (ret := (some .boolean)) (by decide) rfl ?_
  intro p e s m args below meth cod s₁ B hml hv
  obtain ⟨rfl, hsz, hP, hK, hZ⟩ := hv
  have hx := B.exec
  have hb := B.bytes
  have hr := B.returns
  have hts := atoms_spec (ws := wsX6_tip) B.pre
  have hown : s.vm.findClass RX6 = some m.cls := findClass_of_methodNamed B.named
  have hlocks := B.notSynchronized
  subst hsz
  have hl := lv_entry ([.ref (ad t), .int a1]) (n := 2) (Nat.le_of_ble_eq_true rfl)
  rw [lg_entry_eq]
  generalize (lg_sl ([.ref (ad t), .int a1]) ++ List.replicate (2 - (lg_sl ([.ref (ad t), .int a1])).length) Slot.unset).toArray = ls at hl ⊢
  have hl : lv_has ls 2 [(0, .ref (ad t)), (1, .int a1)] := hl
  have in6 : ∀ w ∈ wsX60, w ∈ wsX6_tip := by decide +kernel
  generalize hargs : ([.ref (ad t), .int a1] : List Value).toArray = args at *
  generalize hAe : gA ad N s.heap.size = A
  have F : gF sa D ad cy N A p s m args cod cX6_tip 2 wsX6_tip RX6 := ⟨hx, hb, hml, hown, hts, hK, hI, by rw [← hAe]; exact gA_ad, by rw [← hAe]; exact gA_sz, by rw [← hAe]; exact hZ⟩
  have G : gW D ad cy N A s.heap c d0 s.heap [] := ⟨hP, va_S.rf⟩
  generalize hQ : MQ below (va_Qi (fun (z : Int32) (_ : Unit) => z = rZ) (fun _ U => gE D ad cy N cZ d0 U) A) args s 0 0 A = Q
  suffices hgen : ∀ (H : Heap) (locs : List Loc), gW D ad cy N A s.heap c d0 H locs → W p l e rmX6_tip s m args below meth cod H locs 0 0 Q (F0 m 0 ls []) from hgen _ _ G
  clear G
  intro H locs G
  unfold m_X6_tip at h
  refine lv_iload_n hx hb dX6_tip_0 rfl (lv_at hl 1 rfl) ?_
  refine lv_if_lt (tgt := 21) hx hb dX6_tip_1 (by decide) (fun q1 => ?_) (fun q1 => ?_)
  · replace h := gt_s q1 h
    refine lv_iconst (v := 0) hx hb dX6_tip_21 (by decide) ?_
    cases h
    rw [← hQ]
    exact gx_zret F G hr hlocks rfl dX6_tip_22
  · replace h := gf_s q1 h
    refine lv_iload_n hx hb dX6_tip_4 rfl (lv_at hl 1 rfl) ?_
    refine lv_aload_n hx hb dX6_tip_5 rfl (lv_at hl 0 rfl) ?_
    obtain ⟨hk2, h⟩ := gc_s h
    have ht3 : t < N := Nat.lt_of_lt_of_le (gck_lt6 hk2) hN
    refine fg_6_cries F G hk2 ht3 in6 (by decide +kernel) dX6_tip_6 ?_
    refine lv_icmp_ge (tgt := 21) hx hb dX6_tip_9 (by decide) (fun q4 => ?_) (fun q4 => ?_)
    · replace h := gt_s q4 h
      refine lv_iconst (v := 0) hx hb dX6_tip_21 (by decide) ?_
      cases h
      rw [← hQ]
      exact gx_zret F G hr hlocks rfl dX6_tip_22
    · replace h := gf_s q4 h
      refine lv_aload_n hx hb dX6_tip_12 rfl (lv_at hl 0 rfl) ?_
      refine fg_6_cries F G hk2 ht3 in6 (by decide +kernel) dX6_tip_13 ?_
      refine lv_bipush (v := 10) hx hb dX6_tip_16 (by decide) ?_
      refine lv_icmp_le (tgt := 23) hx hb dX6_tip_18 (by decide) (fun q5 => ?_) (fun q5 => ?_)
      · replace h := gt_s q5 h
        refine lv_aload_n hx hb dX6_tip_23 rfl (lv_at hl 0 rfl) ?_
        refine fg_6_cryParts F G hk2 ht3 in6 (by decide +kernel) dX6_tip_24 ?_
        obtain ⟨hk6, hn8⟩ := gka_6_cryParts hk2
        have ht7 : (t + 5) < N := Nat.lt_of_lt_of_le (gck_lt12 hk6) hN
        refine lv_iconst (v := 4) hx hb dX6_tip_27 (by decide) ?_
        refine lv_iload_n hx hb dX6_tip_28 rfl (lv_at hl 1 rfl) ?_
        refine lv_iconst (v := 1) hx hb dX6_tip_29 (by decide) ?_
        refine lv_iadd hx hb dX6_tip_30 ?_
        refine lv_imul hx hb dX6_tip_31 ?_
        refine lv_aload_n hx hb dX6_tip_32 rfl (lv_at hl 0 rfl) ?_
        refine fg_6_cryParts F G hk2 ht3 in6 (by decide +kernel) dX6_tip_33 ?_
        refine lv_iconst (v := 4) hx hb dX6_tip_36 (by decide) ?_
        refine lv_iload_n hx hb dX6_tip_37 rfl (lv_at hl 1 rfl) ?_
        refine lv_imul hx hb dX6_tip_38 ?_
        refine lv_iconst (v := 4) hx hb dX6_tip_39 (by decide) ?_
        refine lv_aload_n hx hb dX6_tip_40 rfl (lv_at hl 0 rfl) ?_
        refine fg_6_cries F G hk2 ht3 in6 (by decide +kernel) dX6_tip_41 ?_
        refine lv_iload_n hx hb dX6_tip_44 rfl (lv_at hl 1 rfl) ?_
        refine lv_isub hx hb dX6_tip_45 ?_
        refine lv_iconst (v := 1) hx hb dX6_tip_46 (by decide) ?_
        refine lv_isub hx hb dX6_tip_47 ?_
        refine lv_imul hx hb dX6_tip_48 ?_
        obtain ⟨hi9, h⟩ := gc_s h
        refine gx_copy F G hl.1 (by decide +kernel) (by decide +kernel) (by decide +kernel) (by decide +kernel) hk6 ht7 hn8 hk6 ht7 hn8 hi9 (Nat.le_of_ble_eq_true rfl) (Nat.le_of_ble_eq_true rfl) dX6_tip_49 (fun H locs G => ?_)
        obtain ⟨c10, ec10⟩ : ∃ z, z = gm_r c (t + 5) (va_cpy (c.1 (t + 5)) (c.1 (t + 5)) (4 * (a1 + 1)).toNatClampNeg (4 * a1).toNatClampNeg (4 * (((c.1 t 6) - a1) - 1)).toNatClampNeg) := ⟨_, rfl⟩
        rw [← ec10] at G
        replace h := gv_s h c10 ec10
        refine lv_aload_n hx hb dX6_tip_52 rfl (lv_at hl 0 rfl) ?_
        refine lv_dup hx hb dX6_tip_53 rfl ?_
        refine fg_6_cries F G hk2 ht3 in6 (by decide +kernel) dX6_tip_54 ?_
        refine lv_iconst (v := 1) hx hb dX6_tip_57 (by decide) ?_
        refine lv_isub hx hb dX6_tip_58 ?_
        refine fp_6_cries F G hk2 ht3 in6 (by decide +kernel) dX6_tip_59 (fun H locs G => ?_)
        obtain ⟨c11, ec11⟩ : ∃ z, z = gm_r c10 t (upd (c10.1 t) 6 ((c10.1 t 6) - 1)) := ⟨_, rfl⟩
        rw [← ec11] at G
        replace h := gv_s h c11 ec11
        refine lv_iconst (v := 1) hx hb dX6_tip_62 (by decide) ?_
        cases h
        rw [← hQ]
        exact gx_zret F G hr hlocks rfl dX6_tip_63
      · replace h := gf_s q5 h
        refine lv_iconst (v := 0) hx hb dX6_tip_21 (by decide) ?_
        cases h
        rw [← hQ]
        exact gx_zret F G hr hlocks rfl dX6_tip_22
def m_X2_dealOnce (n : Nat) (t : Nat) (a1 : Int32) (c : gm) : Option (gm) :=
  gc (gck t = 2) (gb2 (m_X2_draw t (c.1 (t + 1) 5) c) (fun (r6 : Int32) (c7 : gm) => gb2 (m_X2_draw t (c7.1 (t + 1) 5) c7) (fun (r9 : Int32) (c10 : gm) => gb2 (m_X2_draw t 3 c10) (fun (r12 : Int32) (c13 : gm) => gv (r12 + 1) (fun (x14 : Int32) => gb2 (m_X6_weigh n (t + 1) r6 x14 r9 1 c13) (fun (r16 : Int32) (c17 : gm) => gb2 (m_X2_draw t 16 c17) (fun (r19 : Int32) (c20 : gm) => (if a1 ≤ r19 then some c20 else gb2 (m_X6_tip (t + 1) 0 c20) (fun (r23 : Int32) (c24 : gm) => some c24)))))))))
abbrev rmX2_dealOnce : Room := { frames := 4, cells := 0, slots := 0, locals := 91 }
set_option maxHeartbeats 4000000 in
set_option maxRecDepth 100000 in
theorem c_X2_dealOnce (l : Launch) (sa : gSa) (D : va_G) (ad : Nat → Nat) (cy : Nat → ClassId) (N sz : Nat) (hN : 55 ≤ N) (hI : gI ad N) (c d0 : gm) {n : Nat} {t : Nat} {a1 : Int32} {cZ : gm} (h : m_X2_dealOnce n t a1 c = some cZ) : Met l yX2_dealOnce wsX2_dealOnce rmX2_dealOnce (va_Pc [.ref (ad t), .int a1] (gP sa D ad cy N sz c d0)) (va_Qv (fun (_ : Unit) => True) (fun _ U => gE D ad cy N cZ d0 U) (gA ad N sz)) 0 0 (gA ad N sz) := by
  refine Met.ofW (cc := cX2_dealOnce) (maxL := 5) (ret := none) (by decide) rfl ?_
  intro p e s m args below meth cod s₁ B hml hv
  obtain ⟨rfl, hsz, hP, hK, hZ⟩ := hv
  have hx := B.exec
  have hb := B.bytes
  have hr := B.returns
  have hts := atoms_spec (ws := wsX2_dealOnce) B.pre
  have hown : s.vm.findClass RX2 = some m.cls := findClass_of_methodNamed B.named
  have hlocks := B.notSynchronized
  subst hsz
  have hl := lv_entry ([.ref (ad t), .int a1]) (n := 5) (Nat.le_of_ble_eq_true rfl)
  rw [lg_entry_eq]
  generalize (lg_sl ([.ref (ad t), .int a1]) ++ List.replicate (5 - (lg_sl ([.ref (ad t), .int a1])).length) Slot.unset).toArray = ls at hl ⊢
  have hl : lv_has ls 5 [(0, .ref (ad t)), (1, .int a1)] := hl
  have in2 : ∀ w ∈ wsX20, w ∈ wsX2_dealOnce := by decide +kernel
  have in6 : ∀ w ∈ wsX60, w ∈ wsX2_dealOnce := by decide +kernel
  generalize hargs : ([.ref (ad t), .int a1] : List Value).toArray = args at *
  generalize hAe : gA ad N s.heap.size = A
  have F : gF sa D ad cy N A p s m args cod cX2_dealOnce 5 wsX2_dealOnce RX2 := ⟨hx, hb, hml, hown, hts, hK, hI, by rw [← hAe]; exact gA_ad, by rw [← hAe]; exact gA_sz, by rw [← hAe]; exact hZ⟩
  have G : gW D ad cy N A s.heap c d0 s.heap [] := ⟨hP, va_S.rf⟩
  generalize hQ : MQ below (va_Qv (fun (_ : Unit) => True) (fun _ U => gE D ad cy N cZ d0 U) A) args s 0 0 A = Q
  suffices hgen : ∀ (H : Heap) (locs : List Loc), gW D ad cy N A s.heap c d0 H locs → W p l e rmX2_dealOnce s m args below meth cod H locs 0 0 Q (F0 m 0 ls []) from hgen _ _ G
  clear G
  intro H locs G
  unfold m_X2_dealOnce at h
  refine lv_aload_n hx hb dX2_dealOnce_0 rfl (lv_at hl 0 rfl) ?_
  refine lv_aload_n hx hb dX2_dealOnce_1 rfl (lv_at hl 0 rfl) ?_
  obtain ⟨hk1, h⟩ := gc_s h
  have ht2 : t < N := Nat.lt_of_lt_of_le (gck_lt2 hk1) hN
  refine fg_2_end F G hk1 ht2 in2 (by decide +kernel) dX2_dealOnce_2 ?_
  have hk3 := gka_2_end hk1
  have ht4 : (t + 1) < N := Nat.lt_of_lt_of_le (gck_lt6 hk3) hN
  refine fg_6_things F G hk3 ht4 in6 (by decide +kernel) dX2_dealOnce_5 ?_
  obtain ⟨r6, c7, hc5, h⟩ := gb2_s h
  refine gx_calli F G (va_runV (As := [.int (c.1 (t + 1) 5)]) (rest := []) (gx_fix F) (c_X2_draw l sa D ad cy N H.size hN hI c d0 hc5) (cwV 1 hts gX2_dealOnce_X2_draw rfl rfl rfl (by decide +kernel) ⟨by decide, by decide⟩) (gx_rec F G ht2 (gwe_2 hk1) rfl) rfl rfl hl.1 rfl (lv_room (Nat.le_of_ble_eq_true rfl)) dX2_dealOnce_8 ⟨Nat.zero_le _, Nat.zero_le _⟩) (fun H locs G => ?_)
  refine lv_istore_n (lv' := [(2, .int r6), (0, .ref (ad t)), (1, .int a1)]) hx hb dX2_dealOnce_11 rfl hl (by decide) rfl (fun ls hl => ?_)
  refine lv_aload_n hx hb dX2_dealOnce_12 rfl (lv_at hl 1 rfl) ?_
  refine lv_aload_n hx hb dX2_dealOnce_13 rfl (lv_at hl 1 rfl) ?_
  refine fg_2_end F G hk1 ht2 in2 (by decide +kernel) dX2_dealOnce_14 ?_
  refine fg_6_things F G hk3 ht4 in6 (by decide +kernel) dX2_dealOnce_17 ?_
  obtain ⟨r9, c10, hc8, h⟩ := gb2_s h
  refine gx_calli F G (va_runV (As := [.int (c7.1 (t + 1) 5)]) (rest := []) (gx_fix F) (c_X2_draw l sa D ad cy N H.size hN hI c7 d0 hc8) (cwV 1 hts gX2_dealOnce_X2_draw rfl rfl rfl (by decide +kernel) ⟨by decide, by decide⟩) (gx_rec F G ht2 (gwe_2 hk1) rfl) rfl rfl hl.1 rfl (lv_room (Nat.le_of_ble_eq_true rfl)) dX2_dealOnce_20 ⟨Nat.zero_le _, Nat.zero_le _⟩) (fun H locs G => ?_)
  refine lv_istore_n (lv' := [(3, .int r9), (2, .int r6), (0, .ref (ad t)), (1, .int a1)]) hx hb dX2_dealOnce_23 rfl hl (by decide) rfl (fun ls hl => ?_)
  refine lv_aload_n hx hb dX2_dealOnce_24 rfl (lv_at hl 2 rfl) ?_
  refine lv_iconst (v := 3) hx hb dX2_dealOnce_25 (by decide) ?_
  obtain ⟨r12, c13, hc11, h⟩ := gb2_s h
  refine gx_calli F G (va_runV (As := [.int 3]) (rest := []) (gx_fix F) (c_X2_draw l sa D ad cy N H.size hN hI c10 d0 hc11) (cwV 1 hts gX2_dealOnce_X2_draw rfl rfl rfl (by decide +kernel) ⟨by decide, by decide⟩) (gx_rec F G ht2 (gwe_2 hk1) rfl) rfl rfl hl.1 rfl (lv_room (Nat.le_of_ble_eq_true rfl)) dX2_dealOnce_26 ⟨Nat.zero_le _, Nat.zero_le _⟩) (fun H locs G => ?_)
  refine lv_iconst (v := 1) hx hb dX2_dealOnce_29 (by decide) ?_
  refine lv_iadd hx hb dX2_dealOnce_30 ?_
  refine lv_topi (fun x14 ex14 => ?_)
  replace h := gv_s h x14 ex14
  refine lv_istore (lv' := [(4, .int x14), (3, .int r9), (2, .int r6), (0, .ref (ad t)), (1, .int a1)]) hx hb dX2_dealOnce_31 hl (by decide) rfl (fun ls hl => ?_)
  refine lv_aload_n hx hb dX2_dealOnce_33 rfl (lv_at hl 3 rfl) ?_
  refine fg_2_end F G hk1 ht2 in2 (by decide +kernel) dX2_dealOnce_34 ?_
  refine lv_iload_n hx hb dX2_dealOnce_37 rfl (lv_at hl 2 rfl) ?_
  refine lv_iload hx hb dX2_dealOnce_38 (lv_at hl 0 rfl) ?_
  refine lv_iload_n hx hb dX2_dealOnce_40 rfl (lv_at hl 1 rfl) ?_
  refine lv_iconst (v := 1) hx hb dX2_dealOnce_41 (by decide) ?_
  obtain ⟨r16, c17, hc15, h⟩ := gb2_s h
  refine gx_calli F G (va_runV (As := [.int r6, .int x14, .int r9, .int 1]) (rest := []) (gx_fix F) (c_X6_weigh l sa D ad cy N H.size hN hI c13 d0 hc15) (cwV 4 hts gX2_dealOnce_X6_weigh rfl rfl rfl (by decide +kernel) ⟨by decide, by decide⟩) (gx_rec F G ht4 (gwe_6 hk3) rfl) rfl rfl hl.1 rfl (lv_room (Nat.le_of_ble_eq_true rfl)) dX2_dealOnce_42 ⟨Nat.zero_le _, Nat.zero_le _⟩) (fun H locs G => ?_)
  refine lv_pop hx hb dX2_dealOnce_45 rfl ?_
  refine lv_aload_n hx hb dX2_dealOnce_46 rfl (lv_at hl 3 rfl) ?_
  refine lv_bipush (v := 16) hx hb dX2_dealOnce_47 (by decide) ?_
  obtain ⟨r19, c20, hc18, h⟩ := gb2_s h
  refine gx_calli F G (va_runV (As := [.int 16]) (rest := []) (gx_fix F) (c_X2_draw l sa D ad cy N H.size hN hI c17 d0 hc18) (cwV 1 hts gX2_dealOnce_X2_draw rfl rfl rfl (by decide +kernel) ⟨by decide, by decide⟩) (gx_rec F G ht2 (gwe_2 hk1) rfl) rfl rfl hl.1 rfl (lv_room (Nat.le_of_ble_eq_true rfl)) dX2_dealOnce_49 ⟨Nat.zero_le _, Nat.zero_le _⟩) (fun H locs G => ?_)
  refine lv_iload_n hx hb dX2_dealOnce_52 rfl (lv_at hl 4 rfl) ?_
  refine lv_icmp_ge (tgt := 65) hx hb dX2_dealOnce_53 (by decide) (fun q21 => ?_) (fun q21 => ?_)
  · replace h := gt_s q21 h
    cases h
    rw [← hQ]
    exact gx_vret F G hr hlocks dX2_dealOnce_65
  · replace h := gf_s q21 h
    refine lv_aload_n hx hb dX2_dealOnce_56 rfl (lv_at hl 3 rfl) ?_
    refine fg_2_end F G hk1 ht2 in2 (by decide +kernel) dX2_dealOnce_57 ?_
    refine lv_iconst (v := 0) hx hb dX2_dealOnce_60 (by decide) ?_
    obtain ⟨r23, c24, hc22, h⟩ := gb2_s h
    refine gx_calli F G (va_runV (As := [.int 0]) (rest := []) (gx_fix F) (c_X6_tip l sa D ad cy N H.size hN hI c20 d0 hc22) (cwV 1 hts gX2_dealOnce_X6_tip rfl rfl rfl (by decide +kernel) ⟨by decide, by decide⟩) (gx_rec F G ht4 (gwe_6 hk3) rfl) rfl rfl hl.1 rfl (lv_room (Nat.le_of_ble_eq_true rfl)) dX2_dealOnce_61 ⟨Nat.zero_le _, Nat.zero_le _⟩) (fun H locs G => ?_)
    refine lv_pop hx hb dX2_dealOnce_64 rfl ?_
    cases h
    rw [← hQ]
    exact gx_vret F G hr hlocks dX2_dealOnce_65
def m_X6_criesWith_L4 (t : Nat) (a1 : Int32) (c : gm) (y2 : Int32) (y3 : Int32) : Option ((Int32 × Int32) ⊕ (Int32)) :=
  gc (gck t = 6) ((if (c.1 t 6) ≤ y3 then some (.inr y2) else (if 10 ≤ y3 then some (.inr y2) else gc (0 ≤ ((4 * y3) + 0).toInt ∧ ((4 * y3) + 0).toInt < 40) (gj (fun (v13 : Int32) => gv (y3 + 1) (fun (x15 : Int32) => some (.inl (v13, x15)))) (fun K14 => gj (fun (_ : Unit) => gv (y2 ||| ((1 : Int32) <<< (y3 &&& 31))) (fun (x17 : Int32) => K14 x17)) (fun K16 => (if (c.1 (t + 5) ((4 * y3) + 0).toNatClampNeg) = a1 then K16 () else gc (0 ≤ ((4 * y3) + 2).toInt ∧ ((4 * y3) + 2).toInt < 40) ((if (c.1 (t + 5) ((4 * y3) + 2).toNatClampNeg) = a1 then K16 () else K14 y2)))))))))
def m_X6_criesWith (n : Nat) (t : Nat) (a1 : Int32) (c : gm) : Option (Int32) :=
  gb (gloop (gu2 (fun (y2 : Int32) (y3 : Int32) => m_X6_criesWith_L4 t a1 c y2 y3)) n (0, 0)) (fun (z4 : Int32) => some z4)
abbrev rmX6_criesWith : Room := { frames := 0, cells := 0, slots := 0, locals := 0 }
set_option maxHeartbeats 4000000 in
set_option maxRecDepth 100000 in
theorem c_X6_criesWith (l : Launch) (sa : gSa) (D : va_G) (ad : Nat → Nat) (cy : Nat → ClassId) (N sz : Nat) (hN : 55 ≤ N) (hI : gI ad N) (c d0 : gm) {n : Nat} {t : Nat} {a1 : Int32} {rZ : Int32} (h : m_X6_criesWith n t a1 c = some rZ) : Met l yX6_criesWith wsX6_criesWith rmX6_criesWith (va_Pc [.ref (ad t), .int a1] (gP sa D ad cy N sz c d0)) (va_Qi (fun (z : Int32) (_ : Unit) => z = rZ) (fun _ U => gE D ad cy N c d0 U) (gA ad N sz)) 0 0 (gA ad N sz) := by
  refine Met.ofW (cc := cX6_criesWith) (maxL := 4) (ret := (some .int)) (by decide) rfl ?_
  intro p e s m args below meth cod s₁ B hml hv
  obtain ⟨rfl, hsz, hP, hK, hZ⟩ := hv
  have hx := B.exec
  have hb := B.bytes
  have hr := B.returns
  have hts := atoms_spec (ws := wsX6_criesWith) B.pre
  have hown : s.vm.findClass RX6 = some m.cls := findClass_of_methodNamed B.named
  have hlocks := B.notSynchronized
  subst hsz
  have hl := lv_entry ([.ref (ad t), .int a1]) (n := 4) (Nat.le_of_ble_eq_true rfl)
  rw [lg_entry_eq]
  generalize (lg_sl ([.ref (ad t), .int a1]) ++ List.replicate (4 - (lg_sl ([.ref (ad t), .int a1])).length) Slot.unset).toArray = ls at hl ⊢
  have hl : lv_has ls 4 [(0, .ref (ad t)), (1, .int a1)] := hl
  have in6 : ∀ w ∈ wsX60, w ∈ wsX6_criesWith := by decide +kernel
  generalize hargs : ([.ref (ad t), .int a1] : List Value).toArray = args at *
  generalize hAe : gA ad N s.heap.size = A
  have F : gF sa D ad cy N A p s m args cod cX6_criesWith 4 wsX6_criesWith RX6 := ⟨hx, hb, hml, hown, hts, hK, hI, by rw [← hAe]; exact gA_ad, by rw [← hAe]; exact gA_sz, by rw [← hAe]; exact hZ⟩
  have G : gW D ad cy N A s.heap c d0 s.heap [] := ⟨hP, va_S.rf⟩
  generalize hQ : MQ below (va_Qi (fun (z : Int32) (_ : Unit) => z = rZ) (fun _ U => gE D ad cy N c d0 U) A) args s 0 0 A = Q
  suffices hgen : ∀ (H : Heap) (locs : List Loc), gW D ad cy N A s.heap c d0 H locs → W p l e rmX6_criesWith s m args below meth cod H locs 0 0 Q (F0 m 0 ls []) from hgen _ _ G
  clear G
  intro H locs G
  unfold m_X6_criesWith at h
  refine lv_iconst (v := 0) hx hb dX6_criesWith_0 (by decide) ?_
  refine lv_istore_n (lv' := [(2, .int 0), (0, .ref (ad t)), (1, .int a1)]) hx hb dX6_criesWith_1 rfl hl (by decide) rfl (fun ls hl => ?_)
  refine lv_iconst (v := 0) hx hb dX6_criesWith_2 (by decide) ?_
  refine lv_istore_n (lv' := [(3, .int 0), (2, .int 0), (0, .ref (ad t)), (1, .int a1)]) hx hb dX6_criesWith_3 rfl hl (by decide) rfl (fun ls hl => ?_)
  obtain ⟨b1, hb1, hK1⟩ := gb_s h
  have E1 : ∀ (z4 : Int32) (H : Heap) (locs : List Loc) (ls : Array Slot), (z4 : Int32) = b1 → gW D ad cy N A s.heap c d0 H locs → lv_has ls 4 [(2, .int z4)] → W p l e rmX6_criesWith s m args below meth cod H locs 0 0 Q (F0 m 58 ls []) := by
    intro z4 H locs ls hq1 G hl
    subst hq1
    replace hK1 := hK1
    have h := hK1
    refine lv_iload_n hx hb dX6_criesWith_58 rfl (lv_at hl 0 rfl) ?_
    cases h
    rw [← hQ]
    exact gx_iret F G hr hlocks dX6_criesWith_59
  have L1 : ∀ (n9 : Nat) (y2 : Int32) (y3 : Int32) (H : Heap) (locs : List Loc) (ls : Array Slot), gloop (gu2 (fun (y2 : Int32) (y3 : Int32) => m_X6_criesWith_L4 t a1 c y2 y3)) n9 (y2, y3) = some b1 → gW D ad cy N A s.heap c d0 H locs → lv_has ls 4 [(0, .ref (ad t)), (1, .int a1), (2, .int y2), (3, .int y3)] → W p l e rmX6_criesWith s m args below meth cod H locs 0 0 Q (F0 m 4 ls []) := by
    intro n9
    induction n9 with
    | zero => intro y2 y3 H locs ls h; exact (gloop_0 h).elim
    | succ n9 ih =>
      intro y2 y3 H locs ls h G hl
      have ih1 := ih
      obtain ⟨o1, h, hn1⟩ := gloop_s h
      replace h := gu2_s h
      unfold m_X6_criesWith_L4 at h
      refine lv_iload_n hx hb dX6_criesWith_4 rfl (lv_at hl 3 rfl) ?_
      refine lv_aload_n hx hb dX6_criesWith_5 rfl (lv_at hl 0 rfl) ?_
      obtain ⟨hk5, h⟩ := gc_s h
      have ht6 : t < N := Nat.lt_of_lt_of_le (gck_lt6 hk5) hN
      refine fg_6_cries F G hk5 ht6 in6 (by decide +kernel) dX6_criesWith_6 ?_
      refine lv_icmp_ge (tgt := 58) hx hb dX6_criesWith_9 (by decide) (fun q7 => ?_) (fun q7 => ?_)
      · replace h := gt_s q7 h
        cases h
        exact E1 _ _ _ _ (gnx_r hn1) G (lv_sub hl [2] rfl)
      · replace h := gf_s q7 h
        refine lv_iload_n hx hb dX6_criesWith_12 rfl (lv_at hl 3 rfl) ?_
        refine lv_bipush (v := 10) hx hb dX6_criesWith_13 (by decide) ?_
        refine lv_icmp_ge (tgt := 58) hx hb dX6_criesWith_15 (by decide) (fun q8 => ?_) (fun q8 => ?_)
        · replace h := gt_s q8 h
          cases h
          exact E1 _ _ _ _ (gnx_r hn1) G (lv_sub hl [2] rfl)
        · replace h := gf_s q8 h
          refine lv_aload_n hx hb dX6_criesWith_18 rfl (lv_at hl 0 rfl) ?_
          refine fg_6_cryParts F G hk5 ht6 in6 (by decide +kernel) dX6_criesWith_19 ?_
          obtain ⟨hk9, hn11⟩ := gka_6_cryParts hk5
          have ht10 : (t + 5) < N := Nat.lt_of_lt_of_le (gck_lt12 hk9) hN
          refine lv_iconst (v := 4) hx hb dX6_criesWith_22 (by decide) ?_
          refine lv_iload_n hx hb dX6_criesWith_23 rfl (lv_at hl 3 rfl) ?_
          refine lv_imul hx hb dX6_criesWith_24 ?_
          refine lv_iconst (v := 0) hx hb dX6_criesWith_25 (by decide) ?_
          refine lv_iadd hx hb dX6_criesWith_26 ?_
          obtain ⟨hi12, h⟩ := gc_s h
          refine gx_ia F G hk9 ht10 hn11 hi12 dX6_criesWith_27 ?_
          refine lv_iload_n hx hb dX6_criesWith_28 rfl (lv_at hl 1 rfl) ?_
          obtain ⟨K14, eK14, h⟩ := gj_s h
          have JK14 : ∀ (v13 : Int32) (H : Heap) (locs : List Loc) (ls : Array Slot), K14 v13 = some o1 → gW D ad cy N A s.heap c d0 H locs → lv_has ls 4 [(0, .ref (ad t)), (1, .int a1), (2, .int v13), (3, .int y3)] → W p l e rmX6_criesWith s m args below meth cod H locs 0 0 Q (F0 m 52 ls []) := by
            intro v13 H locs ls h G hl
            rw [eK14] at h
            obtain ⟨x15, ex15⟩ : ∃ z : Int32, z = y3 + 1 := ⟨_, rfl⟩
            replace h := gv_s h x15 ex15
            refine lv_iinc (v := x15) (lv' := [(3, .int x15), (0, .ref (ad t)), (1, .int a1), (2, .int v13)]) hx hb dX6_criesWith_52 hl (k := 3) rfl (by rw [ex15]; rfl) (by decide) rfl (fun ls hl => ?_)
            refine lv_goto (tgt := 4) hx hb dX6_criesWith_55 (by decide) ?_
            cases h
            exact ih1 _ _ _ _ _ hn1 G (lv_sub hl [1, 2, 3, 0] rfl)
          obtain ⟨K16, eK16, h⟩ := gj_s h
          have JK16 : ∀ (H : Heap) (locs : List Loc) (ls : Array Slot), K16 () = some o1 → gW D ad cy N A s.heap c d0 H locs → lv_has ls 4 [(0, .ref (ad t)), (1, .int a1), (2, .int y2), (3, .int y3)] → W p l e rmX6_criesWith s m args below meth cod H locs 0 0 Q (F0 m 46 ls []) := by
            intro  H locs ls h G hl
            rw [eK16] at h
            refine lv_iload_n hx hb dX6_criesWith_46 rfl (lv_at hl 2 rfl) ?_
            refine lv_iconst (v := 1) hx hb dX6_criesWith_47 (by decide) ?_
            refine lv_iload_n hx hb dX6_criesWith_48 rfl (lv_at hl 3 rfl) ?_
            refine lv_ishl hx hb dX6_criesWith_49 ?_
            refine lv_ior hx hb dX6_criesWith_50 ?_
            refine lv_topi (fun x17 ex17 => ?_)
            replace h := gv_s h x17 ex17
            refine lv_istore_n (lv' := [(2, .int x17), (0, .ref (ad t)), (1, .int a1), (3, .int y3)]) hx hb dX6_criesWith_51 rfl hl (by decide) rfl (fun ls hl => ?_)
            exact JK14 _ _ _ _ h G (lv_sub hl [1, 2, 0, 3] rfl)
          refine lv_icmp_eq (tgt := 46) hx hb dX6_criesWith_29 (by decide) (fun q18 => ?_) (fun q18 => ?_)
          · replace h := gt_s q18 h
            exact JK16  _ _ _ h G hl
          · replace h := gf_s q18 h
            refine lv_aload_n hx hb dX6_criesWith_32 rfl (lv_at hl 0 rfl) ?_
            refine fg_6_cryParts F G hk5 ht6 in6 (by decide +kernel) dX6_criesWith_33 ?_
            refine lv_iconst (v := 4) hx hb dX6_criesWith_36 (by decide) ?_
            refine lv_iload_n hx hb dX6_criesWith_37 rfl (lv_at hl 3 rfl) ?_
            refine lv_imul hx hb dX6_criesWith_38 ?_
            refine lv_iconst (v := 2) hx hb dX6_criesWith_39 (by decide) ?_
            refine lv_iadd hx hb dX6_criesWith_40 ?_
            obtain ⟨hi19, h⟩ := gc_s h
            refine gx_ia F G hk9 ht10 hn11 hi19 dX6_criesWith_41 ?_
            refine lv_iload_n hx hb dX6_criesWith_42 rfl (lv_at hl 1 rfl) ?_
            refine lv_icmp_ne (tgt := 52) hx hb dX6_criesWith_43 (by decide) (fun q20 => ?_) (fun q20 => ?_)
            · replace h := gf_s q20 h
              exact JK14 _ _ _ _ h G hl
            · replace h := gt_s q20 h
              exact JK16  _ _ _ h G hl
  exact L1 n _ _ _ _ _ hb1 G (lv_sub hl [2, 3, 1, 0] rfl)
def m_X6_weighedOf (t : Nat) (a1 : Int32) (c : gm) : Option (Int32) :=
  gc (gck t = 6) (gb (m_X6_isThing t a1 c) (fun (r4 : Int32) => (if r4 = 0 then some 0 else gc (0 ≤ a1.toInt ∧ a1.toInt < 8) (some (c.1 (t + 3) a1.toNatClampNeg)))))
abbrev rmX6_weighedOf : Room := { frames := 1, cells := 0, slots := 0, locals := 21 }
set_option maxHeartbeats 4000000 in
set_option maxRecDepth 100000 in
theorem c_X6_weighedOf (l : Launch) (sa : gSa) (D : va_G) (ad : Nat → Nat) (cy : Nat → ClassId) (N sz : Nat) (hN : 55 ≤ N) (hI : gI ad N) (c d0 : gm) {t : Nat} {a1 : Int32} {rZ : Int32} (h : m_X6_weighedOf t a1 c = some rZ) : Met l yX6_weighedOf wsX6_weighedOf rmX6_weighedOf (va_Pc [.ref (ad t), .int a1] (gP sa D ad cy N sz c d0)) (va_Qi (fun (z : Int32) (_ : Unit) => z = rZ) (fun _ U => gE D ad cy N c d0 U) (gA ad N sz)) 0 0 (gA ad N sz) := by
  refine Met.ofW (cc := cX6_weighedOf) (maxL := 2) (ret := (some .int)) (by decide) rfl ?_
  intro p e s m args below meth cod s₁ B hml hv
  obtain ⟨rfl, hsz, hP, hK, hZ⟩ := hv
  have hx := B.exec
  have hb := B.bytes
  have hr := B.returns
  have hts := atoms_spec (ws := wsX6_weighedOf) B.pre
  have hown : s.vm.findClass RX6 = some m.cls := findClass_of_methodNamed B.named
  have hlocks := B.notSynchronized
  subst hsz
  have hl := lv_entry ([.ref (ad t), .int a1]) (n := 2) (Nat.le_of_ble_eq_true rfl)
  rw [lg_entry_eq]
  generalize (lg_sl ([.ref (ad t), .int a1]) ++ List.replicate (2 - (lg_sl ([.ref (ad t), .int a1])).length) Slot.unset).toArray = ls at hl ⊢
  have hl : lv_has ls 2 [(0, .ref (ad t)), (1, .int a1)] := hl
  have in6 : ∀ w ∈ wsX60, w ∈ wsX6_weighedOf := by decide +kernel
  generalize hargs : ([.ref (ad t), .int a1] : List Value).toArray = args at *
  generalize hAe : gA ad N s.heap.size = A
  have F : gF sa D ad cy N A p s m args cod cX6_weighedOf 2 wsX6_weighedOf RX6 := ⟨hx, hb, hml, hown, hts, hK, hI, by rw [← hAe]; exact gA_ad, by rw [← hAe]; exact gA_sz, by rw [← hAe]; exact hZ⟩
  have G : gW D ad cy N A s.heap c d0 s.heap [] := ⟨hP, va_S.rf⟩
  generalize hQ : MQ below (va_Qi (fun (z : Int32) (_ : Unit) => z = rZ) (fun _ U => gE D ad cy N c d0 U) A) args s 0 0 A = Q
  suffices hgen : ∀ (H : Heap) (locs : List Loc), gW D ad cy N A s.heap c d0 H locs → W p l e rmX6_weighedOf s m args below meth cod H locs 0 0 Q (F0 m 0 ls []) from hgen _ _ G
  clear G
  intro H locs G
  unfold m_X6_weighedOf at h
  refine lv_aload_n hx hb dX6_weighedOf_0 rfl (lv_at hl 0 rfl) ?_
  refine lv_iload_n hx hb dX6_weighedOf_1 rfl (lv_at hl 1 rfl) ?_
  obtain ⟨hk1, h⟩ := gc_s h
  have ht2 : t < N := Nat.lt_of_lt_of_le (gck_lt6 hk1) hN
  obtain ⟨r4, hc3, h⟩ := gb_s h
  refine gx_calli F G (va_runV (As := [.int a1]) (rest := []) (gx_fix F) (c_X6_isThing l sa D ad cy N H.size hN hI c d0 hc3) (cwV 1 hts gX6_weighedOf_X6_isThing rfl rfl rfl (by decide +kernel) ⟨by decide, by decide⟩) (gx_rec F G ht2 (gwe_6 hk1) rfl) rfl rfl hl.1 rfl (lv_room (Nat.le_of_ble_eq_true rfl)) dX6_weighedOf_2 ⟨Nat.zero_le _, Nat.zero_le _⟩) (fun H locs G => ?_)
  refine lv_if_eq (tgt := 17) hx hb dX6_weighedOf_5 (by decide) (fun q5 => ?_) (fun q5 => ?_)
  · replace h := gt_s q5 h
    refine lv_iconst (v := 0) hx hb dX6_weighedOf_17 (by decide) ?_
    cases h
    rw [← hQ]
    exact gx_iret F G hr hlocks dX6_weighedOf_18
  · replace h := gf_s q5 h
    refine lv_aload_n hx hb dX6_weighedOf_8 rfl (lv_at hl 0 rfl) ?_
    refine fg_6_weighed F G hk1 ht2 in6 (by decide +kernel) dX6_weighedOf_9 ?_
    obtain ⟨hk6, hn8⟩ := gka_6_weighed hk1
    have ht7 : (t + 3) < N := Nat.lt_of_lt_of_le (gck_lt12 hk6) hN
    refine lv_iload_n hx hb dX6_weighedOf_12 rfl (lv_at hl 1 rfl) ?_
    obtain ⟨hi9, h⟩ := gc_s h
    refine gx_ia F G hk6 ht7 hn8 hi9 dX6_weighedOf_13 ?_
    refine lv_goto (tgt := 18) hx hb dX6_weighedOf_14 (by decide) ?_
    cases h
    rw [← hQ]
    exact gx_iret F G hr hlocks dX6_weighedOf_18
