-- X6_write X5_keep X6_read X5_takeBack X5_takeImage X5_goBackToImage X6_becomeEmpty X6_readThing X6_readCry X6_readBeam X6_readClause X6_readFrom X6_toldOf X6_weightOfAll X6_heaviestThing X6_criesNotSo X6_thingsCried X6_fatten X6_turnBeam X7_put
def m_X6_write (t : Nat) (a1 : Nat) (a2 : Int32) (c : gm) : Option (gm) :=
  (if a2 < 0 then some c else gc (gck a1 = 12) ((if a2 ≤ ((nI (gal a1)) - 60) then gc (gck t = 6) (gc (0 ≤ (0 : Int32).toInt ∧ 0 ≤ a2.toInt ∧ 0 ≤ (8 : Int32).toInt ∧ (0 : Int32).toInt + (8 : Int32).toInt ≤ 8 ∧ a2.toInt + (8 : Int32).toInt ≤ ((gal a1) : Nat)) (gv (gm_r c a1 (va_cpy (c.1 (t + 2)) (c.1 a1) (0 : Int32).toNatClampNeg a2.toNatClampNeg (8 : Int32).toNatClampNeg)) (fun (c11 : gm) => gc (0 ≤ (0 : Int32).toInt ∧ 0 ≤ (a2 + 8).toInt ∧ 0 ≤ (8 : Int32).toInt ∧ (0 : Int32).toInt + (8 : Int32).toInt ≤ 8 ∧ (a2 + 8).toInt + (8 : Int32).toInt ≤ ((gal a1) : Nat)) (gv (gm_r c11 a1 (va_cpy (c11.1 (t + 3)) (c11.1 a1) (0 : Int32).toNatClampNeg (a2 + 8).toNatClampNeg (8 : Int32).toNatClampNeg)) (fun (c16 : gm) => gc (0 ≤ (0 : Int32).toInt ∧ 0 ≤ (a2 + 16).toInt ∧ 0 ≤ (40 : Int32).toInt ∧ (0 : Int32).toInt + (40 : Int32).toInt ≤ 40 ∧ (a2 + 16).toInt + (40 : Int32).toInt ≤ ((gal a1) : Nat)) (gv (gm_r c16 a1 (va_cpy (c16.1 (t + 5)) (c16.1 a1) (0 : Int32).toNatClampNeg (a2 + 16).toNatClampNeg (40 : Int32).toNatClampNeg)) (fun (c21 : gm) => gc (0 ≤ ((a2 + 60) - 4).toInt ∧ ((a2 + 60) - 4).toInt < ((gal a1) : Nat)) (gv (gm_r c21 a1 (upd (c21.1 a1) ((a2 + 60) - 4).toNatClampNeg (c21.1 t 6))) (fun (c23 : gm) => gc (0 ≤ ((a2 + 60) - 3).toInt ∧ ((a2 + 60) - 3).toInt < ((gal a1) : Nat)) (gv (gm_r c23 a1 (upd (c23.1 a1) ((a2 + 60) - 3).toNatClampNeg (c23.1 t 7))) (fun (c25 : gm) => gc (0 ≤ ((a2 + 60) - 2).toInt ∧ ((a2 + 60) - 2).toInt < ((gal a1) : Nat)) (gv (gm_r c25 a1 (upd (c25.1 a1) ((a2 + 60) - 2).toNatClampNeg (c25.1 t 9))) (fun (c27 : gm) => gc (0 ≤ ((a2 + 60) - 1).toInt ∧ ((a2 + 60) - 1).toInt < ((gal a1) : Nat)) (gv (gm_r c27 a1 (upd (c27.1 a1) ((a2 + 60) - 1).toNatClampNeg (c27.1 t 10))) (fun (c29 : gm) => some c29))))))))))))))) else some c)))
abbrev rmX6_write : Room := { frames := 1, cells := 0, slots := 0, locals := 60 }
set_option maxHeartbeats 4000000 in
set_option maxRecDepth 100000 in
theorem c_X6_write (l : Launch) (sa : gSa) (D : va_G) (ad : Nat → Nat) (cy : Nat → ClassId) (N sz : Nat) (hN : 55 ≤ N) (hI : gI ad N) (c d0 : gm) {t : Nat} {a1 : Nat} {a2 : Int32} {cZ : gm} (h : m_X6_write t a1 a2 c = some cZ) : Met l yX6_write wsX6_write rmX6_write (va_Pc [.ref (ad t), .ref (ad a1), .int a2] (gP sa D ad cy N sz c d0)) (va_Qv (fun (_ : Unit) => True) (fun _ U => gE D ad cy N cZ d0 U) (gA ad N sz)) 0 0 (gA ad N sz) := by
  refine Met.ofW (cc := cX6_write) (maxL := 3) (ret := none) (by decide) rfl ?_
  intro p e s m args below meth cod s₁ B hml hv
  obtain ⟨rfl, hsz, hP, hK, hZ⟩ := hv
  have hx := B.exec
  have hb := B.bytes
  have hr := B.returns
  have hts := atoms_spec (ws := wsX6_write) B.pre
  have hown : s.vm.findClass RX6 = some m.cls := findClass_of_methodNamed B.named
  have hlocks := B.notSynchronized
  subst hsz
  have hl := lv_entry ([.ref (ad t), .ref (ad a1), .int a2]) (n := 3) (Nat.le_of_ble_eq_true rfl)
  rw [lg_entry_eq]
  generalize (lg_sl ([.ref (ad t), .ref (ad a1), .int a2]) ++ List.replicate (3 - (lg_sl ([.ref (ad t), .ref (ad a1), .int a2])).length) Slot.unset).toArray = ls at hl ⊢
  have hl : lv_has ls 3 [(0, .ref (ad t)), (1, .ref (ad a1)), (2, .int a2)] := hl
  have in6 : ∀ w ∈ wsX60, w ∈ wsX6_write := by decide +kernel
  generalize hargs : ([.ref (ad t), .ref (ad a1), .int a2] : List Value).toArray = args at *
  generalize hAe : gA ad N s.heap.size = A
  have F : gF sa D ad cy N A p s m args cod cX6_write 3 wsX6_write RX6 := ⟨hx, hb, hml, hown, hts, hK, hI, by rw [← hAe]; exact gA_ad, by rw [← hAe]; exact gA_sz, by rw [← hAe]; exact hZ⟩
  have G : gW D ad cy N A s.heap c d0 s.heap [] := ⟨hP, va_S.rf⟩
  generalize hQ : MQ below (va_Qv (fun (_ : Unit) => True) (fun _ U => gE D ad cy N cZ d0 U) A) args s 0 0 A = Q
  suffices hgen : ∀ (H : Heap) (locs : List Loc), gW D ad cy N A s.heap c d0 H locs → W p l e rmX6_write s m args below meth cod H locs 0 0 Q (F0 m 0 ls []) from hgen _ _ G
  clear G
  intro H locs G
  unfold m_X6_write at h
  refine lv_iload_n hx hb dX6_write_0 rfl (lv_at hl 2 rfl) ?_
  refine lv_if_lt (tgt := 13) hx hb dX6_write_1 (by decide) (fun q1 => ?_) (fun q1 => ?_)
  · replace h := gt_s q1 h
    cases h
    rw [← hQ]
    exact gx_vret F G hr hlocks dX6_write_13
  · replace h := gf_s q1 h
    refine lv_iload_n hx hb dX6_write_4 rfl (lv_at hl 2 rfl) ?_
    refine lv_aload_n hx hb dX6_write_5 rfl (lv_at hl 1 rfl) ?_
    obtain ⟨hk2, h⟩ := gc_s h
    have ht3 : a1 < N := Nat.lt_of_lt_of_le (gck_lt12 hk2) hN
    refine gx_ial F G hk2 ht3 rfl dX6_write_6 ?_
    refine lv_bipush (v := 60) hx hb dX6_write_7 (by decide) ?_
    refine lv_isub hx hb dX6_write_9 ?_
    refine lv_icmp_le (tgt := 14) hx hb dX6_write_10 (by decide) (fun q4 => ?_) (fun q4 => ?_)
    · replace h := gt_s q4 h
      refine lv_aload_n hx hb dX6_write_14 rfl (lv_at hl 0 rfl) ?_
      obtain ⟨hk5, h⟩ := gc_s h
      have ht6 : t < N := Nat.lt_of_lt_of_le (gck_lt6 hk5) hN
      refine fg_6_weight F G hk5 ht6 in6 (by decide +kernel) dX6_write_15 ?_
      obtain ⟨hk7, hn9⟩ := gka_6_weight hk5
      have ht8 : (t + 2) < N := Nat.lt_of_lt_of_le (gck_lt12 hk7) hN
      refine lv_iconst (v := 0) hx hb dX6_write_18 (by decide) ?_
      refine lv_aload_n hx hb dX6_write_19 rfl (lv_at hl 1 rfl) ?_
      refine lv_iload_n hx hb dX6_write_20 rfl (lv_at hl 2 rfl) ?_
      refine lv_bipush (v := 8) hx hb dX6_write_21 (by decide) ?_
      obtain ⟨hi10, h⟩ := gc_s h
      refine gx_copy F G hl.1 (by decide +kernel) (by decide +kernel) (by decide +kernel) (by decide +kernel) hk7 ht8 hn9 hk2 ht3 rfl hi10 (Nat.le_of_ble_eq_true rfl) (Nat.le_of_ble_eq_true rfl) dX6_write_23 (fun H locs G => ?_)
      obtain ⟨c11, ec11⟩ : ∃ z, z = gm_r c a1 (va_cpy (c.1 (t + 2)) (c.1 a1) (0 : Int32).toNatClampNeg a2.toNatClampNeg (8 : Int32).toNatClampNeg) := ⟨_, rfl⟩
      rw [← ec11] at G
      replace h := gv_s h c11 ec11
      refine lv_aload_n hx hb dX6_write_26 rfl (lv_at hl 0 rfl) ?_
      refine fg_6_weighed F G hk5 ht6 in6 (by decide +kernel) dX6_write_27 ?_
      obtain ⟨hk12, hn14⟩ := gka_6_weighed hk5
      have ht13 : (t + 3) < N := Nat.lt_of_lt_of_le (gck_lt12 hk12) hN
      refine lv_iconst (v := 0) hx hb dX6_write_30 (by decide) ?_
      refine lv_aload_n hx hb dX6_write_31 rfl (lv_at hl 1 rfl) ?_
      refine lv_iload_n hx hb dX6_write_32 rfl (lv_at hl 2 rfl) ?_
      refine lv_bipush (v := 8) hx hb dX6_write_33 (by decide) ?_
      refine lv_iadd hx hb dX6_write_35 ?_
      refine lv_bipush (v := 8) hx hb dX6_write_36 (by decide) ?_
      obtain ⟨hi15, h⟩ := gc_s h
      refine gx_copy F G hl.1 (by decide +kernel) (by decide +kernel) (by decide +kernel) (by decide +kernel) hk12 ht13 hn14 hk2 ht3 rfl hi15 (Nat.le_of_ble_eq_true rfl) (Nat.le_of_ble_eq_true rfl) dX6_write_38 (fun H locs G => ?_)
      obtain ⟨c16, ec16⟩ : ∃ z, z = gm_r c11 a1 (va_cpy (c11.1 (t + 3)) (c11.1 a1) (0 : Int32).toNatClampNeg (a2 + 8).toNatClampNeg (8 : Int32).toNatClampNeg) := ⟨_, rfl⟩
      rw [← ec16] at G
      replace h := gv_s h c16 ec16
      refine lv_aload_n hx hb dX6_write_41 rfl (lv_at hl 0 rfl) ?_
      refine fg_6_cryParts F G hk5 ht6 in6 (by decide +kernel) dX6_write_42 ?_
      obtain ⟨hk17, hn19⟩ := gka_6_cryParts hk5
      have ht18 : (t + 5) < N := Nat.lt_of_lt_of_le (gck_lt12 hk17) hN
      refine lv_iconst (v := 0) hx hb dX6_write_45 (by decide) ?_
      refine lv_aload_n hx hb dX6_write_46 rfl (lv_at hl 1 rfl) ?_
      refine lv_iload_n hx hb dX6_write_47 rfl (lv_at hl 2 rfl) ?_
      refine lv_bipush (v := 16) hx hb dX6_write_48 (by decide) ?_
      refine lv_iadd hx hb dX6_write_50 ?_
      refine lv_bipush (v := 40) hx hb dX6_write_51 (by decide) ?_
      obtain ⟨hi20, h⟩ := gc_s h
      refine gx_copy F G hl.1 (by decide +kernel) (by decide +kernel) (by decide +kernel) (by decide +kernel) hk17 ht18 hn19 hk2 ht3 rfl hi20 (Nat.le_of_ble_eq_true rfl) (Nat.le_of_ble_eq_true rfl) dX6_write_53 (fun H locs G => ?_)
      obtain ⟨c21, ec21⟩ : ∃ z, z = gm_r c16 a1 (va_cpy (c16.1 (t + 5)) (c16.1 a1) (0 : Int32).toNatClampNeg (a2 + 16).toNatClampNeg (40 : Int32).toNatClampNeg) := ⟨_, rfl⟩
      rw [← ec21] at G
      replace h := gv_s h c21 ec21
      refine lv_aload_n hx hb dX6_write_56 rfl (lv_at hl 1 rfl) ?_
      refine lv_iload_n hx hb dX6_write_57 rfl (lv_at hl 2 rfl) ?_
      refine lv_bipush (v := 60) hx hb dX6_write_58 (by decide) ?_
      refine lv_iadd hx hb dX6_write_60 ?_
      refine lv_iconst (v := 4) hx hb dX6_write_61 (by decide) ?_
      refine lv_isub hx hb dX6_write_62 ?_
      refine lv_aload_n hx hb dX6_write_63 rfl (lv_at hl 0 rfl) ?_
      refine fg_6_cries F G hk5 ht6 in6 (by decide +kernel) dX6_write_64 ?_
      obtain ⟨hi22, h⟩ := gc_s h
      refine gx_is F G hk2 ht3 rfl hi22 dX6_write_67 (fun H locs G => ?_)
      obtain ⟨c23, ec23⟩ : ∃ z, z = gm_r c21 a1 (upd (c21.1 a1) ((a2 + 60) - 4).toNatClampNeg (c21.1 t 6)) := ⟨_, rfl⟩
      rw [← ec23] at G
      replace h := gv_s h c23 ec23
      refine lv_aload_n hx hb dX6_write_68 rfl (lv_at hl 1 rfl) ?_
      refine lv_iload_n hx hb dX6_write_69 rfl (lv_at hl 2 rfl) ?_
      refine lv_bipush (v := 60) hx hb dX6_write_70 (by decide) ?_
      refine lv_iadd hx hb dX6_write_72 ?_
      refine lv_iconst (v := 3) hx hb dX6_write_73 (by decide) ?_
      refine lv_isub hx hb dX6_write_74 ?_
      refine lv_aload_n hx hb dX6_write_75 rfl (lv_at hl 0 rfl) ?_
      refine fg_6_lean F G hk5 ht6 in6 (by decide +kernel) dX6_write_76 ?_
      obtain ⟨hi24, h⟩ := gc_s h
      refine gx_is F G hk2 ht3 rfl hi24 dX6_write_79 (fun H locs G => ?_)
      obtain ⟨c25, ec25⟩ : ∃ z, z = gm_r c23 a1 (upd (c23.1 a1) ((a2 + 60) - 3).toNatClampNeg (c23.1 t 7)) := ⟨_, rfl⟩
      rw [← ec25] at G
      replace h := gv_s h c25 ec25
      refine lv_aload_n hx hb dX6_write_80 rfl (lv_at hl 1 rfl) ?_
      refine lv_iload_n hx hb dX6_write_81 rfl (lv_at hl 2 rfl) ?_
      refine lv_bipush (v := 60) hx hb dX6_write_82 (by decide) ?_
      refine lv_iadd hx hb dX6_write_84 ?_
      refine lv_iconst (v := 2) hx hb dX6_write_85 (by decide) ?_
      refine lv_isub hx hb dX6_write_86 ?_
      refine lv_aload_n hx hb dX6_write_87 rfl (lv_at hl 0 rfl) ?_
      refine fg_6_day F G hk5 ht6 in6 (by decide +kernel) dX6_write_88 ?_
      obtain ⟨hi26, h⟩ := gc_s h
      refine gx_is F G hk2 ht3 rfl hi26 dX6_write_91 (fun H locs G => ?_)
      obtain ⟨c27, ec27⟩ : ∃ z, z = gm_r c25 a1 (upd (c25.1 a1) ((a2 + 60) - 2).toNatClampNeg (c25.1 t 9)) := ⟨_, rfl⟩
      rw [← ec27] at G
      replace h := gv_s h c27 ec27
      refine lv_aload_n hx hb dX6_write_92 rfl (lv_at hl 1 rfl) ?_
      refine lv_iload_n hx hb dX6_write_93 rfl (lv_at hl 2 rfl) ?_
      refine lv_bipush (v := 60) hx hb dX6_write_94 (by decide) ?_
      refine lv_iadd hx hb dX6_write_96 ?_
      refine lv_iconst (v := 1) hx hb dX6_write_97 (by decide) ?_
      refine lv_isub hx hb dX6_write_98 ?_
      refine lv_aload_n hx hb dX6_write_99 rfl (lv_at hl 0 rfl) ?_
      refine fg_6_weighings F G hk5 ht6 in6 (by decide +kernel) dX6_write_100 ?_
      obtain ⟨hi28, h⟩ := gc_s h
      refine gx_is F G hk2 ht3 rfl hi28 dX6_write_103 (fun H locs G => ?_)
      obtain ⟨c29, ec29⟩ : ∃ z, z = gm_r c27 a1 (upd (c27.1 a1) ((a2 + 60) - 1).toNatClampNeg (c27.1 t 10)) := ⟨_, rfl⟩
      rw [← ec29] at G
      replace h := gv_s h c29 ec29
      cases h
      rw [← hQ]
      exact gx_vret F G hr hlocks dX6_write_104
    · replace h := gf_s q4 h
      cases h
      rw [← hQ]
      exact gx_vret F G hr hlocks dX6_write_13
def m_X5_keep (t : Nat) (a1 : Nat) (c : gm) : Option (gm) :=
  gc (gck t = 5) ((if (c.1 t 3) < 0 then some c else (if 16 ≤ (c.1 t 3) then some c else gc (gck a1 = 6) (gb (m_X6_write a1 (t + 1) ((c.1 t 3) * 60) c) (fun (c12 : gm) => gv (gm_r c12 t (upd (c12.1 t) 3 ((c12.1 t 3) + 1))) (fun (c13 : gm) => some c13))))))
abbrev rmX5_keep : Room := { frames := 2, cells := 0, slots := 0, locals := 82 }
set_option maxHeartbeats 4000000 in
set_option maxRecDepth 100000 in
theorem c_X5_keep (l : Launch) (sa : gSa) (D : va_G) (ad : Nat → Nat) (cy : Nat → ClassId) (N sz : Nat) (hN : 55 ≤ N) (hI : gI ad N) (c d0 : gm) {t : Nat} {a1 : Nat} {cZ : gm} (h : m_X5_keep t a1 c = some cZ) : Met l yX5_keep wsX5_keep rmX5_keep (va_Pc [.ref (ad t), .ref (ad a1)] (gP sa D ad cy N sz c d0)) (va_Qv (fun (_ : Unit) => True) (fun _ U => gE D ad cy N cZ d0 U) (gA ad N sz)) 0 0 (gA ad N sz) := by
  refine Met.ofW (cc := cX5_keep) (maxL := 2) (ret := none) (by decide) rfl ?_
  intro p e s m args below meth cod s₁ B hml hv
  obtain ⟨rfl, hsz, hP, hK, hZ⟩ := hv
  have hx := B.exec
  have hb := B.bytes
  have hr := B.returns
  have hts := atoms_spec (ws := wsX5_keep) B.pre
  have hown : s.vm.findClass RX5 = some m.cls := findClass_of_methodNamed B.named
  have hlocks := B.notSynchronized
  subst hsz
  have hl := lv_entry ([.ref (ad t), .ref (ad a1)]) (n := 2) (Nat.le_of_ble_eq_true rfl)
  rw [lg_entry_eq]
  generalize (lg_sl ([.ref (ad t), .ref (ad a1)]) ++ List.replicate (2 - (lg_sl ([.ref (ad t), .ref (ad a1)])).length) Slot.unset).toArray = ls at hl ⊢
  have hl : lv_has ls 2 [(0, .ref (ad t)), (1, .ref (ad a1))] := hl
  have in5 : ∀ w ∈ wsX50, w ∈ wsX5_keep := by decide +kernel
  generalize hargs : ([.ref (ad t), .ref (ad a1)] : List Value).toArray = args at *
  generalize hAe : gA ad N s.heap.size = A
  have F : gF sa D ad cy N A p s m args cod cX5_keep 2 wsX5_keep RX5 := ⟨hx, hb, hml, hown, hts, hK, hI, by rw [← hAe]; exact gA_ad, by rw [← hAe]; exact gA_sz, by rw [← hAe]; exact hZ⟩
  have G : gW D ad cy N A s.heap c d0 s.heap [] := ⟨hP, va_S.rf⟩
  generalize hQ : MQ below (va_Qv (fun (_ : Unit) => True) (fun _ U => gE D ad cy N cZ d0 U) A) args s 0 0 A = Q
  suffices hgen : ∀ (H : Heap) (locs : List Loc), gW D ad cy N A s.heap c d0 H locs → W p l e rmX5_keep s m args below meth cod H locs 0 0 Q (F0 m 0 ls []) from hgen _ _ G
  clear G
  intro H locs G
  unfold m_X5_keep at h
  refine lv_aload_n hx hb dX5_keep_0 rfl (lv_at hl 0 rfl) ?_
  obtain ⟨hk1, h⟩ := gc_s h
  have ht2 : t < N := Nat.lt_of_lt_of_le (gck_lt5 hk1) hN
  refine fg_5_works F G hk1 ht2 in5 (by decide +kernel) dX5_keep_1 ?_
  refine lv_if_lt (tgt := 41) hx hb dX5_keep_4 (by decide) (fun q3 => ?_) (fun q3 => ?_)
  · replace h := gt_s q3 h
    cases h
    rw [← hQ]
    exact gx_vret F G hr hlocks dX5_keep_41
  · replace h := gf_s q3 h
    refine lv_aload_n hx hb dX5_keep_7 rfl (lv_at hl 0 rfl) ?_
    refine fg_5_works F G hk1 ht2 in5 (by decide +kernel) dX5_keep_8 ?_
    refine lv_bipush (v := 16) hx hb dX5_keep_11 (by decide) ?_
    refine lv_icmp_ge (tgt := 41) hx hb dX5_keep_13 (by decide) (fun q4 => ?_) (fun q4 => ?_)
    · replace h := gt_s q4 h
      cases h
      rw [← hQ]
      exact gx_vret F G hr hlocks dX5_keep_41
    · replace h := gf_s q4 h
      refine lv_aload_n hx hb dX5_keep_16 rfl (lv_at hl 1 rfl) ?_
      refine lv_aload_n hx hb dX5_keep_17 rfl (lv_at hl 0 rfl) ?_
      refine fg_5_workRows F G hk1 ht2 in5 (by decide +kernel) dX5_keep_18 ?_
      obtain ⟨hk5, hn7⟩ := gka_5_workRows hk1
      have ht6 : (t + 1) < N := Nat.lt_of_lt_of_le (gck_lt12 hk5) hN
      refine lv_aload_n hx hb dX5_keep_21 rfl (lv_at hl 0 rfl) ?_
      refine fg_5_works F G hk1 ht2 in5 (by decide +kernel) dX5_keep_22 ?_
      refine lv_bipush (v := 60) hx hb dX5_keep_25 (by decide) ?_
      refine lv_imul hx hb dX5_keep_27 ?_
      obtain ⟨hk8, h⟩ := gc_s h
      have ht9 : a1 < N := Nat.lt_of_lt_of_le (gck_lt6 hk8) hN
      obtain ⟨c12, hc10, h⟩ := gb_s h
      refine gx_callv F G (va_runV (As := [.ref (ad (t + 1)), .int ((c.1 t 3) * 60)]) (rest := []) (gx_fix F) (c_X6_write l sa D ad cy N H.size hN hI c d0 hc10) (cwV 2 hts gX5_keep_X6_write rfl rfl rfl (by decide +kernel) ⟨by decide, by decide⟩) (gx_rec F G ht9 (gwe_6 hk8) rfl) rfl rfl hl.1 rfl (lv_room (Nat.le_of_ble_eq_true rfl)) dX5_keep_28 ⟨Nat.zero_le _, Nat.zero_le _⟩) (fun H locs G => ?_)
      refine lv_aload_n hx hb dX5_keep_31 rfl (lv_at hl 0 rfl) ?_
      refine lv_dup hx hb dX5_keep_32 rfl ?_
      refine fg_5_works F G hk1 ht2 in5 (by decide +kernel) dX5_keep_33 ?_
      refine lv_iconst (v := 1) hx hb dX5_keep_36 (by decide) ?_
      refine lv_iadd hx hb dX5_keep_37 ?_
      refine fp_5_works F G hk1 ht2 in5 (by decide +kernel) dX5_keep_38 (fun H locs G => ?_)
      obtain ⟨c13, ec13⟩ : ∃ z, z = gm_r c12 t (upd (c12.1 t) 3 ((c12.1 t 3) + 1)) := ⟨_, rfl⟩
      rw [← ec13] at G
      replace h := gv_s h c13 ec13
      cases h
      rw [← hQ]
      exact gx_vret F G hr hlocks dX5_keep_41
def m_X6_read (t : Nat) (a1 : Nat) (a2 : Int32) (c : gm) : Option (gm) :=
  (if a2 < 0 then some c else gc (gck a1 = 12) ((if a2 ≤ ((nI (gal a1)) - 60) then gc (gck t = 6) (gc (0 ≤ a2.toInt ∧ 0 ≤ (0 : Int32).toInt ∧ 0 ≤ (8 : Int32).toInt ∧ a2.toInt + (8 : Int32).toInt ≤ ((gal a1) : Nat) ∧ (0 : Int32).toInt + (8 : Int32).toInt ≤ 8) (gv (gm_r c (t + 2) (va_cpy (c.1 a1) (c.1 (t + 2)) a2.toNatClampNeg (0 : Int32).toNatClampNeg (8 : Int32).toNatClampNeg)) (fun (c11 : gm) => gc (0 ≤ (a2 + 8).toInt ∧ 0 ≤ (0 : Int32).toInt ∧ 0 ≤ (8 : Int32).toInt ∧ (a2 + 8).toInt + (8 : Int32).toInt ≤ ((gal a1) : Nat) ∧ (0 : Int32).toInt + (8 : Int32).toInt ≤ 8) (gv (gm_r c11 (t + 3) (va_cpy (c11.1 a1) (c11.1 (t + 3)) (a2 + 8).toNatClampNeg (0 : Int32).toNatClampNeg (8 : Int32).toNatClampNeg)) (fun (c16 : gm) => gc (0 ≤ (a2 + 16).toInt ∧ 0 ≤ (0 : Int32).toInt ∧ 0 ≤ (40 : Int32).toInt ∧ (a2 + 16).toInt + (40 : Int32).toInt ≤ ((gal a1) : Nat) ∧ (0 : Int32).toInt + (40 : Int32).toInt ≤ 40) (gv (gm_r c16 (t + 5) (va_cpy (c16.1 a1) (c16.1 (t + 5)) (a2 + 16).toNatClampNeg (0 : Int32).toNatClampNeg (40 : Int32).toNatClampNeg)) (fun (c21 : gm) => gc (0 ≤ ((a2 + 60) - 4).toInt ∧ ((a2 + 60) - 4).toInt < ((gal a1) : Nat)) (gv (gm_r c21 t (upd (c21.1 t) 6 (c21.1 a1 ((a2 + 60) - 4).toNatClampNeg))) (fun (c23 : gm) => gc (0 ≤ ((a2 + 60) - 3).toInt ∧ ((a2 + 60) - 3).toInt < ((gal a1) : Nat)) (gv (gm_r c23 t (upd (c23.1 t) 7 (c23.1 a1 ((a2 + 60) - 3).toNatClampNeg))) (fun (c25 : gm) => gc (0 ≤ ((a2 + 60) - 2).toInt ∧ ((a2 + 60) - 2).toInt < ((gal a1) : Nat)) (gv (gm_r c25 t (upd (c25.1 t) 9 (c25.1 a1 ((a2 + 60) - 2).toNatClampNeg))) (fun (c27 : gm) => gc (0 ≤ ((a2 + 60) - 1).toInt ∧ ((a2 + 60) - 1).toInt < ((gal a1) : Nat)) (gv (gm_r c27 t (upd (c27.1 t) 10 (c27.1 a1 ((a2 + 60) - 1).toNatClampNeg))) (fun (c29 : gm) => some c29))))))))))))))) else some c)))
abbrev rmX6_read : Room := { frames := 1, cells := 0, slots := 0, locals := 60 }
set_option maxHeartbeats 4000000 in
set_option maxRecDepth 100000 in
theorem c_X6_read (l : Launch) (sa : gSa) (D : va_G) (ad : Nat → Nat) (cy : Nat → ClassId) (N sz : Nat) (hN : 55 ≤ N) (hI : gI ad N) (c d0 : gm) {t : Nat} {a1 : Nat} {a2 : Int32} {cZ : gm} (h : m_X6_read t a1 a2 c = some cZ) : Met l yX6_read wsX6_read rmX6_read (va_Pc [.ref (ad t), .ref (ad a1), .int a2] (gP sa D ad cy N sz c d0)) (va_Qv (fun (_ : Unit) => True) (fun _ U => gE D ad cy N cZ d0 U) (gA ad N sz)) 0 0 (gA ad N sz) := by
  refine Met.ofW (cc := cX6_read) (maxL := 3) (ret := none) (by decide) rfl ?_
  intro p e s m args below meth cod s₁ B hml hv
  obtain ⟨rfl, hsz, hP, hK, hZ⟩ := hv
  have hx := B.exec
  have hb := B.bytes
  have hr := B.returns
  have hts := atoms_spec (ws := wsX6_read) B.pre
  have hown : s.vm.findClass RX6 = some m.cls := findClass_of_methodNamed B.named
  have hlocks := B.notSynchronized
  subst hsz
  have hl := lv_entry ([.ref (ad t), .ref (ad a1), .int a2]) (n := 3) (Nat.le_of_ble_eq_true rfl)
  rw [lg_entry_eq]
  generalize (lg_sl ([.ref (ad t), .ref (ad a1), .int a2]) ++ List.replicate (3 - (lg_sl ([.ref (ad t), .ref (ad a1), .int a2])).length) Slot.unset).toArray = ls at hl ⊢
  have hl : lv_has ls 3 [(0, .ref (ad t)), (1, .ref (ad a1)), (2, .int a2)] := hl
  have in6 : ∀ w ∈ wsX60, w ∈ wsX6_read := by decide +kernel
  generalize hargs : ([.ref (ad t), .ref (ad a1), .int a2] : List Value).toArray = args at *
  generalize hAe : gA ad N s.heap.size = A
  have F : gF sa D ad cy N A p s m args cod cX6_read 3 wsX6_read RX6 := ⟨hx, hb, hml, hown, hts, hK, hI, by rw [← hAe]; exact gA_ad, by rw [← hAe]; exact gA_sz, by rw [← hAe]; exact hZ⟩
  have G : gW D ad cy N A s.heap c d0 s.heap [] := ⟨hP, va_S.rf⟩
  generalize hQ : MQ below (va_Qv (fun (_ : Unit) => True) (fun _ U => gE D ad cy N cZ d0 U) A) args s 0 0 A = Q
  suffices hgen : ∀ (H : Heap) (locs : List Loc), gW D ad cy N A s.heap c d0 H locs → W p l e rmX6_read s m args below meth cod H locs 0 0 Q (F0 m 0 ls []) from hgen _ _ G
  clear G
  intro H locs G
  unfold m_X6_read at h
  refine lv_iload_n hx hb dX6_read_0 rfl (lv_at hl 2 rfl) ?_
  refine lv_if_lt (tgt := 13) hx hb dX6_read_1 (by decide) (fun q1 => ?_) (fun q1 => ?_)
  · replace h := gt_s q1 h
    cases h
    rw [← hQ]
    exact gx_vret F G hr hlocks dX6_read_13
  · replace h := gf_s q1 h
    refine lv_iload_n hx hb dX6_read_4 rfl (lv_at hl 2 rfl) ?_
    refine lv_aload_n hx hb dX6_read_5 rfl (lv_at hl 1 rfl) ?_
    obtain ⟨hk2, h⟩ := gc_s h
    have ht3 : a1 < N := Nat.lt_of_lt_of_le (gck_lt12 hk2) hN
    refine gx_ial F G hk2 ht3 rfl dX6_read_6 ?_
    refine lv_bipush (v := 60) hx hb dX6_read_7 (by decide) ?_
    refine lv_isub hx hb dX6_read_9 ?_
    refine lv_icmp_le (tgt := 14) hx hb dX6_read_10 (by decide) (fun q4 => ?_) (fun q4 => ?_)
    · replace h := gt_s q4 h
      refine lv_aload_n hx hb dX6_read_14 rfl (lv_at hl 1 rfl) ?_
      refine lv_iload_n hx hb dX6_read_15 rfl (lv_at hl 2 rfl) ?_
      refine lv_aload_n hx hb dX6_read_16 rfl (lv_at hl 0 rfl) ?_
      obtain ⟨hk5, h⟩ := gc_s h
      have ht6 : t < N := Nat.lt_of_lt_of_le (gck_lt6 hk5) hN
      refine fg_6_weight F G hk5 ht6 in6 (by decide +kernel) dX6_read_17 ?_
      obtain ⟨hk7, hn9⟩ := gka_6_weight hk5
      have ht8 : (t + 2) < N := Nat.lt_of_lt_of_le (gck_lt12 hk7) hN
      refine lv_iconst (v := 0) hx hb dX6_read_20 (by decide) ?_
      refine lv_bipush (v := 8) hx hb dX6_read_21 (by decide) ?_
      obtain ⟨hi10, h⟩ := gc_s h
      refine gx_copy F G hl.1 (by decide +kernel) (by decide +kernel) (by decide +kernel) (by decide +kernel) hk2 ht3 rfl hk7 ht8 hn9 hi10 (Nat.le_of_ble_eq_true rfl) (Nat.le_of_ble_eq_true rfl) dX6_read_23 (fun H locs G => ?_)
      obtain ⟨c11, ec11⟩ : ∃ z, z = gm_r c (t + 2) (va_cpy (c.1 a1) (c.1 (t + 2)) a2.toNatClampNeg (0 : Int32).toNatClampNeg (8 : Int32).toNatClampNeg) := ⟨_, rfl⟩
      rw [← ec11] at G
      replace h := gv_s h c11 ec11
      refine lv_aload_n hx hb dX6_read_26 rfl (lv_at hl 1 rfl) ?_
      refine lv_iload_n hx hb dX6_read_27 rfl (lv_at hl 2 rfl) ?_
      refine lv_bipush (v := 8) hx hb dX6_read_28 (by decide) ?_
      refine lv_iadd hx hb dX6_read_30 ?_
      refine lv_aload_n hx hb dX6_read_31 rfl (lv_at hl 0 rfl) ?_
      refine fg_6_weighed F G hk5 ht6 in6 (by decide +kernel) dX6_read_32 ?_
      obtain ⟨hk12, hn14⟩ := gka_6_weighed hk5
      have ht13 : (t + 3) < N := Nat.lt_of_lt_of_le (gck_lt12 hk12) hN
      refine lv_iconst (v := 0) hx hb dX6_read_35 (by decide) ?_
      refine lv_bipush (v := 8) hx hb dX6_read_36 (by decide) ?_
      obtain ⟨hi15, h⟩ := gc_s h
      refine gx_copy F G hl.1 (by decide +kernel) (by decide +kernel) (by decide +kernel) (by decide +kernel) hk2 ht3 rfl hk12 ht13 hn14 hi15 (Nat.le_of_ble_eq_true rfl) (Nat.le_of_ble_eq_true rfl) dX6_read_38 (fun H locs G => ?_)
      obtain ⟨c16, ec16⟩ : ∃ z, z = gm_r c11 (t + 3) (va_cpy (c11.1 a1) (c11.1 (t + 3)) (a2 + 8).toNatClampNeg (0 : Int32).toNatClampNeg (8 : Int32).toNatClampNeg) := ⟨_, rfl⟩
      rw [← ec16] at G
      replace h := gv_s h c16 ec16
      refine lv_aload_n hx hb dX6_read_41 rfl (lv_at hl 1 rfl) ?_
      refine lv_iload_n hx hb dX6_read_42 rfl (lv_at hl 2 rfl) ?_
      refine lv_bipush (v := 16) hx hb dX6_read_43 (by decide) ?_
      refine lv_iadd hx hb dX6_read_45 ?_
      refine lv_aload_n hx hb dX6_read_46 rfl (lv_at hl 0 rfl) ?_
      refine fg_6_cryParts F G hk5 ht6 in6 (by decide +kernel) dX6_read_47 ?_
      obtain ⟨hk17, hn19⟩ := gka_6_cryParts hk5
      have ht18 : (t + 5) < N := Nat.lt_of_lt_of_le (gck_lt12 hk17) hN
      refine lv_iconst (v := 0) hx hb dX6_read_50 (by decide) ?_
      refine lv_bipush (v := 40) hx hb dX6_read_51 (by decide) ?_
      obtain ⟨hi20, h⟩ := gc_s h
      refine gx_copy F G hl.1 (by decide +kernel) (by decide +kernel) (by decide +kernel) (by decide +kernel) hk2 ht3 rfl hk17 ht18 hn19 hi20 (Nat.le_of_ble_eq_true rfl) (Nat.le_of_ble_eq_true rfl) dX6_read_53 (fun H locs G => ?_)
      obtain ⟨c21, ec21⟩ : ∃ z, z = gm_r c16 (t + 5) (va_cpy (c16.1 a1) (c16.1 (t + 5)) (a2 + 16).toNatClampNeg (0 : Int32).toNatClampNeg (40 : Int32).toNatClampNeg) := ⟨_, rfl⟩
      rw [← ec21] at G
      replace h := gv_s h c21 ec21
      refine lv_aload_n hx hb dX6_read_56 rfl (lv_at hl 0 rfl) ?_
      refine lv_aload_n hx hb dX6_read_57 rfl (lv_at hl 1 rfl) ?_
      refine lv_iload_n hx hb dX6_read_58 rfl (lv_at hl 2 rfl) ?_
      refine lv_bipush (v := 60) hx hb dX6_read_59 (by decide) ?_
      refine lv_iadd hx hb dX6_read_61 ?_
      refine lv_iconst (v := 4) hx hb dX6_read_62 (by decide) ?_
      refine lv_isub hx hb dX6_read_63 ?_
      obtain ⟨hi22, h⟩ := gc_s h
      refine gx_ia F G hk2 ht3 rfl hi22 dX6_read_64 ?_
      refine fp_6_cries F G hk5 ht6 in6 (by decide +kernel) dX6_read_65 (fun H locs G => ?_)
      obtain ⟨c23, ec23⟩ : ∃ z, z = gm_r c21 t (upd (c21.1 t) 6 (c21.1 a1 ((a2 + 60) - 4).toNatClampNeg)) := ⟨_, rfl⟩
      rw [← ec23] at G
      replace h := gv_s h c23 ec23
      refine lv_aload_n hx hb dX6_read_68 rfl (lv_at hl 0 rfl) ?_
      refine lv_aload_n hx hb dX6_read_69 rfl (lv_at hl 1 rfl) ?_
      refine lv_iload_n hx hb dX6_read_70 rfl (lv_at hl 2 rfl) ?_
      refine lv_bipush (v := 60) hx hb dX6_read_71 (by decide) ?_
      refine lv_iadd hx hb dX6_read_73 ?_
      refine lv_iconst (v := 3) hx hb dX6_read_74 (by decide) ?_
      refine lv_isub hx hb dX6_read_75 ?_
      obtain ⟨hi24, h⟩ := gc_s h
      refine gx_ia F G hk2 ht3 rfl hi24 dX6_read_76 ?_
      refine fp_6_lean F G hk5 ht6 in6 (by decide +kernel) dX6_read_77 (fun H locs G => ?_)
      obtain ⟨c25, ec25⟩ : ∃ z, z = gm_r c23 t (upd (c23.1 t) 7 (c23.1 a1 ((a2 + 60) - 3).toNatClampNeg)) := ⟨_, rfl⟩
      rw [← ec25] at G
      replace h := gv_s h c25 ec25
      refine lv_aload_n hx hb dX6_read_80 rfl (lv_at hl 0 rfl) ?_
      refine lv_aload_n hx hb dX6_read_81 rfl (lv_at hl 1 rfl) ?_
      refine lv_iload_n hx hb dX6_read_82 rfl (lv_at hl 2 rfl) ?_
      refine lv_bipush (v := 60) hx hb dX6_read_83 (by decide) ?_
      refine lv_iadd hx hb dX6_read_85 ?_
      refine lv_iconst (v := 2) hx hb dX6_read_86 (by decide) ?_
      refine lv_isub hx hb dX6_read_87 ?_
      obtain ⟨hi26, h⟩ := gc_s h
      refine gx_ia F G hk2 ht3 rfl hi26 dX6_read_88 ?_
      refine fp_6_day F G hk5 ht6 in6 (by decide +kernel) dX6_read_89 (fun H locs G => ?_)
      obtain ⟨c27, ec27⟩ : ∃ z, z = gm_r c25 t (upd (c25.1 t) 9 (c25.1 a1 ((a2 + 60) - 2).toNatClampNeg)) := ⟨_, rfl⟩
      rw [← ec27] at G
      replace h := gv_s h c27 ec27
      refine lv_aload_n hx hb dX6_read_92 rfl (lv_at hl 0 rfl) ?_
      refine lv_aload_n hx hb dX6_read_93 rfl (lv_at hl 1 rfl) ?_
      refine lv_iload_n hx hb dX6_read_94 rfl (lv_at hl 2 rfl) ?_
      refine lv_bipush (v := 60) hx hb dX6_read_95 (by decide) ?_
      refine lv_iadd hx hb dX6_read_97 ?_
      refine lv_iconst (v := 1) hx hb dX6_read_98 (by decide) ?_
      refine lv_isub hx hb dX6_read_99 ?_
      obtain ⟨hi28, h⟩ := gc_s h
      refine gx_ia F G hk2 ht3 rfl hi28 dX6_read_100 ?_
      refine fp_6_weighings F G hk5 ht6 in6 (by decide +kernel) dX6_read_101 (fun H locs G => ?_)
      obtain ⟨c29, ec29⟩ : ∃ z, z = gm_r c27 t (upd (c27.1 t) 10 (c27.1 a1 ((a2 + 60) - 1).toNatClampNeg)) := ⟨_, rfl⟩
      rw [← ec29] at G
      replace h := gv_s h c29 ec29
      cases h
      rw [← hQ]
      exact gx_vret F G hr hlocks dX6_read_104
    · replace h := gf_s q4 h
      cases h
      rw [← hQ]
      exact gx_vret F G hr hlocks dX6_read_13
def m_X5_takeBack (t : Nat) (a1 : Nat) (c : gm) : Option (gm) :=
  gc (gck t = 5) ((if (c.1 t 3) ≤ 0 then some c else (if 16 < (c.1 t 3) then some c else gv (gm_r c t (upd (c.1 t) 3 ((c.1 t 3) - 1))) (fun (c5 : gm) => gc (gck a1 = 6) (gb (m_X6_read a1 (t + 1) ((c5.1 t 3) * 60) c5) (fun (c13 : gm) => some c13))))))
abbrev rmX5_takeBack : Room := { frames := 2, cells := 0, slots := 0, locals := 82 }
set_option maxHeartbeats 4000000 in
set_option maxRecDepth 100000 in
theorem c_X5_takeBack (l : Launch) (sa : gSa) (D : va_G) (ad : Nat → Nat) (cy : Nat → ClassId) (N sz : Nat) (hN : 55 ≤ N) (hI : gI ad N) (c d0 : gm) {t : Nat} {a1 : Nat} {cZ : gm} (h : m_X5_takeBack t a1 c = some cZ) : Met l yX5_takeBack wsX5_takeBack rmX5_takeBack (va_Pc [.ref (ad t), .ref (ad a1)] (gP sa D ad cy N sz c d0)) (va_Qv (fun (_ : Unit) => True) (fun _ U => gE D ad cy N cZ d0 U) (gA ad N sz)) 0 0 (gA ad N sz) := by
  refine Met.ofW (cc := cX5_takeBack) (maxL := 2) (ret := none) (by decide) rfl ?_
  intro p e s m args below meth cod s₁ B hml hv
  obtain ⟨rfl, hsz, hP, hK, hZ⟩ := hv
  have hx := B.exec
  have hb := B.bytes
  have hr := B.returns
  have hts := atoms_spec (ws := wsX5_takeBack) B.pre
  have hown : s.vm.findClass RX5 = some m.cls := findClass_of_methodNamed B.named
  have hlocks := B.notSynchronized
  subst hsz
  have hl := lv_entry ([.ref (ad t), .ref (ad a1)]) (n := 2) (Nat.le_of_ble_eq_true rfl)
  rw [lg_entry_eq]
  generalize (lg_sl ([.ref (ad t), .ref (ad a1)]) ++ List.replicate (2 - (lg_sl ([.ref (ad t), .ref (ad a1)])).length) Slot.unset).toArray = ls at hl ⊢
  have hl : lv_has ls 2 [(0, .ref (ad t)), (1, .ref (ad a1))] := hl
  have in5 : ∀ w ∈ wsX50, w ∈ wsX5_takeBack := by decide +kernel
  generalize hargs : ([.ref (ad t), .ref (ad a1)] : List Value).toArray = args at *
  generalize hAe : gA ad N s.heap.size = A
  have F : gF sa D ad cy N A p s m args cod cX5_takeBack 2 wsX5_takeBack RX5 := ⟨hx, hb, hml, hown, hts, hK, hI, by rw [← hAe]; exact gA_ad, by rw [← hAe]; exact gA_sz, by rw [← hAe]; exact hZ⟩
  have G : gW D ad cy N A s.heap c d0 s.heap [] := ⟨hP, va_S.rf⟩
  generalize hQ : MQ below (va_Qv (fun (_ : Unit) => True) (fun _ U => gE D ad cy N cZ d0 U) A) args s 0 0 A = Q
  suffices hgen : ∀ (H : Heap) (locs : List Loc), gW D ad cy N A s.heap c d0 H locs → W p l e rmX5_takeBack s m args below meth cod H locs 0 0 Q (F0 m 0 ls []) from hgen _ _ G
  clear G
  intro H locs G
  unfold m_X5_takeBack at h
  refine lv_aload_n hx hb dX5_takeBack_0 rfl (lv_at hl 0 rfl) ?_
  obtain ⟨hk1, h⟩ := gc_s h
  have ht2 : t < N := Nat.lt_of_lt_of_le (gck_lt5 hk1) hN
  refine fg_5_works F G hk1 ht2 in5 (by decide +kernel) dX5_takeBack_1 ?_
  refine lv_if_le (tgt := 41) hx hb dX5_takeBack_4 (by decide) (fun q3 => ?_) (fun q3 => ?_)
  · replace h := gt_s q3 h
    cases h
    rw [← hQ]
    exact gx_vret F G hr hlocks dX5_takeBack_41
  · replace h := gf_s q3 h
    refine lv_aload_n hx hb dX5_takeBack_7 rfl (lv_at hl 0 rfl) ?_
    refine fg_5_works F G hk1 ht2 in5 (by decide +kernel) dX5_takeBack_8 ?_
    refine lv_bipush (v := 16) hx hb dX5_takeBack_11 (by decide) ?_
    refine lv_icmp_gt (tgt := 41) hx hb dX5_takeBack_13 (by decide) (fun q4 => ?_) (fun q4 => ?_)
    · replace h := gt_s q4 h
      cases h
      rw [← hQ]
      exact gx_vret F G hr hlocks dX5_takeBack_41
    · replace h := gf_s q4 h
      refine lv_aload_n hx hb dX5_takeBack_16 rfl (lv_at hl 0 rfl) ?_
      refine lv_dup hx hb dX5_takeBack_17 rfl ?_
      refine fg_5_works F G hk1 ht2 in5 (by decide +kernel) dX5_takeBack_18 ?_
      refine lv_iconst (v := 1) hx hb dX5_takeBack_21 (by decide) ?_
      refine lv_isub hx hb dX5_takeBack_22 ?_
      refine fp_5_works F G hk1 ht2 in5 (by decide +kernel) dX5_takeBack_23 (fun H locs G => ?_)
      obtain ⟨c5, ec5⟩ : ∃ z, z = gm_r c t (upd (c.1 t) 3 ((c.1 t 3) - 1)) := ⟨_, rfl⟩
      rw [← ec5] at G
      replace h := gv_s h c5 ec5
      refine lv_aload_n hx hb dX5_takeBack_26 rfl (lv_at hl 1 rfl) ?_
      refine lv_aload_n hx hb dX5_takeBack_27 rfl (lv_at hl 0 rfl) ?_
      refine fg_5_workRows F G hk1 ht2 in5 (by decide +kernel) dX5_takeBack_28 ?_
      obtain ⟨hk6, hn8⟩ := gka_5_workRows hk1
      have ht7 : (t + 1) < N := Nat.lt_of_lt_of_le (gck_lt12 hk6) hN
      refine lv_aload_n hx hb dX5_takeBack_31 rfl (lv_at hl 0 rfl) ?_
      refine fg_5_works F G hk1 ht2 in5 (by decide +kernel) dX5_takeBack_32 ?_
      refine lv_bipush (v := 60) hx hb dX5_takeBack_35 (by decide) ?_
      refine lv_imul hx hb dX5_takeBack_37 ?_
      obtain ⟨hk9, h⟩ := gc_s h
      have ht10 : a1 < N := Nat.lt_of_lt_of_le (gck_lt6 hk9) hN
      obtain ⟨c13, hc11, h⟩ := gb_s h
      refine gx_callv F G (va_runV (As := [.ref (ad (t + 1)), .int ((c5.1 t 3) * 60)]) (rest := []) (gx_fix F) (c_X6_read l sa D ad cy N H.size hN hI c5 d0 hc11) (cwV 2 hts gX5_takeBack_X6_read rfl rfl rfl (by decide +kernel) ⟨by decide, by decide⟩) (gx_rec F G ht10 (gwe_6 hk9) rfl) rfl rfl hl.1 rfl (lv_room (Nat.le_of_ble_eq_true rfl)) dX5_takeBack_38 ⟨Nat.zero_le _, Nat.zero_le _⟩) (fun H locs G => ?_)
      cases h
      rw [← hQ]
      exact gx_vret F G hr hlocks dX5_takeBack_41
def m_X5_takeImage (t : Nat) (a1 : Nat) (c : gm) : Option (gm) :=
  gc (gck t = 5) ((if (c.1 t 4) < 0 then some c else (if 3 ≤ (c.1 t 4) then some c else gc (0 ≤ (0 : Int32).toInt ∧ 0 ≤ ((c.1 t 4) * 1020).toInt ∧ 0 ≤ (960 : Int32).toInt ∧ (0 : Int32).toInt + (960 : Int32).toInt ≤ 960 ∧ ((c.1 t 4) * 1020).toInt + (960 : Int32).toInt ≤ 3060) (gv (gm_r c (t + 2) (va_cpy (c.1 (t + 1)) (c.1 (t + 2)) (0 : Int32).toNatClampNeg ((c.1 t 4) * 1020).toNatClampNeg (960 : Int32).toNatClampNeg)) (fun (c12 : gm) => gc (gck a1 = 6) (gb (m_X6_write a1 (t + 2) (((c12.1 t 4) * 1020) + 960) c12) (fun (c17 : gm) => gc (0 ≤ (c17.1 t 4).toInt ∧ (c17.1 t 4).toInt < 3) (gv (gm_r c17 (t + 3) (upd (c17.1 (t + 3)) (c17.1 t 4).toNatClampNeg (c17.1 t 3))) (fun (c22 : gm) => gv (gm_r c22 t (upd (c22.1 t) 4 ((c22.1 t 4) + 1))) (fun (c23 : gm) => some c23))))))))))
abbrev rmX5_takeImage : Room := { frames := 2, cells := 0, slots := 0, locals := 82 }
set_option maxHeartbeats 4000000 in
set_option maxRecDepth 100000 in
theorem c_X5_takeImage (l : Launch) (sa : gSa) (D : va_G) (ad : Nat → Nat) (cy : Nat → ClassId) (N sz : Nat) (hN : 55 ≤ N) (hI : gI ad N) (c d0 : gm) {t : Nat} {a1 : Nat} {cZ : gm} (h : m_X5_takeImage t a1 c = some cZ) : Met l yX5_takeImage wsX5_takeImage rmX5_takeImage (va_Pc [.ref (ad t), .ref (ad a1)] (gP sa D ad cy N sz c d0)) (va_Qv (fun (_ : Unit) => True) (fun _ U => gE D ad cy N cZ d0 U) (gA ad N sz)) 0 0 (gA ad N sz) := by
  refine Met.ofW (cc := cX5_takeImage) (maxL := 2) (ret := none) (by decide) rfl ?_
  intro p e s m args below meth cod s₁ B hml hv
  obtain ⟨rfl, hsz, hP, hK, hZ⟩ := hv
  have hx := B.exec
  have hb := B.bytes
  have hr := B.returns
  have hts := atoms_spec (ws := wsX5_takeImage) B.pre
  have hown : s.vm.findClass RX5 = some m.cls := findClass_of_methodNamed B.named
  have hlocks := B.notSynchronized
  subst hsz
  have hl := lv_entry ([.ref (ad t), .ref (ad a1)]) (n := 2) (Nat.le_of_ble_eq_true rfl)
  rw [lg_entry_eq]
  generalize (lg_sl ([.ref (ad t), .ref (ad a1)]) ++ List.replicate (2 - (lg_sl ([.ref (ad t), .ref (ad a1)])).length) Slot.unset).toArray = ls at hl ⊢
  have hl : lv_has ls 2 [(0, .ref (ad t)), (1, .ref (ad a1))] := hl
  have in5 : ∀ w ∈ wsX50, w ∈ wsX5_takeImage := by decide +kernel
  generalize hargs : ([.ref (ad t), .ref (ad a1)] : List Value).toArray = args at *
  generalize hAe : gA ad N s.heap.size = A
  have F : gF sa D ad cy N A p s m args cod cX5_takeImage 2 wsX5_takeImage RX5 := ⟨hx, hb, hml, hown, hts, hK, hI, by rw [← hAe]; exact gA_ad, by rw [← hAe]; exact gA_sz, by rw [← hAe]; exact hZ⟩
  have G : gW D ad cy N A s.heap c d0 s.heap [] := ⟨hP, va_S.rf⟩
  generalize hQ : MQ below (va_Qv (fun (_ : Unit) => True) (fun _ U => gE D ad cy N cZ d0 U) A) args s 0 0 A = Q
  suffices hgen : ∀ (H : Heap) (locs : List Loc), gW D ad cy N A s.heap c d0 H locs → W p l e rmX5_takeImage s m args below meth cod H locs 0 0 Q (F0 m 0 ls []) from hgen _ _ G
  clear G
  intro H locs G
  unfold m_X5_takeImage at h
  refine lv_aload_n hx hb dX5_takeImage_0 rfl (lv_at hl 0 rfl) ?_
  obtain ⟨hk1, h⟩ := gc_s h
  have ht2 : t < N := Nat.lt_of_lt_of_le (gck_lt5 hk1) hN
  refine fg_5_images F G hk1 ht2 in5 (by decide +kernel) dX5_takeImage_1 ?_
  refine lv_if_lt (tgt := 81) hx hb dX5_takeImage_4 (by decide) (fun q3 => ?_) (fun q3 => ?_)
  · replace h := gt_s q3 h
    cases h
    rw [← hQ]
    exact gx_vret F G hr hlocks dX5_takeImage_81
  · replace h := gf_s q3 h
    refine lv_aload_n hx hb dX5_takeImage_7 rfl (lv_at hl 0 rfl) ?_
    refine fg_5_images F G hk1 ht2 in5 (by decide +kernel) dX5_takeImage_8 ?_
    refine lv_iconst (v := 3) hx hb dX5_takeImage_11 (by decide) ?_
    refine lv_icmp_ge (tgt := 81) hx hb dX5_takeImage_12 (by decide) (fun q4 => ?_) (fun q4 => ?_)
    · replace h := gt_s q4 h
      cases h
      rw [← hQ]
      exact gx_vret F G hr hlocks dX5_takeImage_81
    · replace h := gf_s q4 h
      refine lv_aload_n hx hb dX5_takeImage_15 rfl (lv_at hl 0 rfl) ?_
      refine fg_5_workRows F G hk1 ht2 in5 (by decide +kernel) dX5_takeImage_16 ?_
      obtain ⟨hk5, hn7⟩ := gka_5_workRows hk1
      have ht6 : (t + 1) < N := Nat.lt_of_lt_of_le (gck_lt12 hk5) hN
      refine lv_iconst (v := 0) hx hb dX5_takeImage_19 (by decide) ?_
      refine lv_aload_n hx hb dX5_takeImage_20 rfl (lv_at hl 0 rfl) ?_
      refine fg_5_imageRows F G hk1 ht2 in5 (by decide +kernel) dX5_takeImage_21 ?_
      obtain ⟨hk8, hn10⟩ := gka_5_imageRows hk1
      have ht9 : (t + 2) < N := Nat.lt_of_lt_of_le (gck_lt12 hk8) hN
      refine lv_aload_n hx hb dX5_takeImage_24 rfl (lv_at hl 0 rfl) ?_
      refine fg_5_images F G hk1 ht2 in5 (by decide +kernel) dX5_takeImage_25 ?_
      refine lv_sipush (v := 1020) hx hb dX5_takeImage_28 (by decide) ?_
      refine lv_imul hx hb dX5_takeImage_31 ?_
      refine lv_sipush (v := 960) hx hb dX5_takeImage_32 (by decide) ?_
      obtain ⟨hi11, h⟩ := gc_s h
      refine gx_copy F G hl.1 (by decide +kernel) (by decide +kernel) (by decide +kernel) (by decide +kernel) hk5 ht6 hn7 hk8 ht9 hn10 hi11 (Nat.le_of_ble_eq_true rfl) (Nat.le_of_ble_eq_true rfl) dX5_takeImage_35 (fun H locs G => ?_)
      obtain ⟨c12, ec12⟩ : ∃ z, z = gm_r c (t + 2) (va_cpy (c.1 (t + 1)) (c.1 (t + 2)) (0 : Int32).toNatClampNeg ((c.1 t 4) * 1020).toNatClampNeg (960 : Int32).toNatClampNeg) := ⟨_, rfl⟩
      rw [← ec12] at G
      replace h := gv_s h c12 ec12
      refine lv_aload_n hx hb dX5_takeImage_38 rfl (lv_at hl 1 rfl) ?_
      refine lv_aload_n hx hb dX5_takeImage_39 rfl (lv_at hl 0 rfl) ?_
      refine fg_5_imageRows F G hk1 ht2 in5 (by decide +kernel) dX5_takeImage_40 ?_
      refine lv_aload_n hx hb dX5_takeImage_43 rfl (lv_at hl 0 rfl) ?_
      refine fg_5_images F G hk1 ht2 in5 (by decide +kernel) dX5_takeImage_44 ?_
      refine lv_sipush (v := 1020) hx hb dX5_takeImage_47 (by decide) ?_
      refine lv_imul hx hb dX5_takeImage_50 ?_
      refine lv_sipush (v := 960) hx hb dX5_takeImage_51 (by decide) ?_
      refine lv_iadd hx hb dX5_takeImage_54 ?_
      obtain ⟨hk13, h⟩ := gc_s h
      have ht14 : a1 < N := Nat.lt_of_lt_of_le (gck_lt6 hk13) hN
      obtain ⟨c17, hc15, h⟩ := gb_s h
      refine gx_callv F G (va_runV (As := [.ref (ad (t + 2)), .int (((c12.1 t 4) * 1020) + 960)]) (rest := []) (gx_fix F) (c_X6_write l sa D ad cy N H.size hN hI c12 d0 hc15) (cwV 2 hts gX5_takeImage_X6_write rfl rfl rfl (by decide +kernel) ⟨by decide, by decide⟩) (gx_rec F G ht14 (gwe_6 hk13) rfl) rfl rfl hl.1 rfl (lv_room (Nat.le_of_ble_eq_true rfl)) dX5_takeImage_55 ⟨Nat.zero_le _, Nat.zero_le _⟩) (fun H locs G => ?_)
      refine lv_aload_n hx hb dX5_takeImage_58 rfl (lv_at hl 0 rfl) ?_
      refine fg_5_imageWorks F G hk1 ht2 in5 (by decide +kernel) dX5_takeImage_59 ?_
      obtain ⟨hk18, hn20⟩ := gka_5_imageWorks hk1
      have ht19 : (t + 3) < N := Nat.lt_of_lt_of_le (gck_lt12 hk18) hN
      refine lv_aload_n hx hb dX5_takeImage_62 rfl (lv_at hl 0 rfl) ?_
      refine fg_5_images F G hk1 ht2 in5 (by decide +kernel) dX5_takeImage_63 ?_
      refine lv_aload_n hx hb dX5_takeImage_66 rfl (lv_at hl 0 rfl) ?_
      refine fg_5_works F G hk1 ht2 in5 (by decide +kernel) dX5_takeImage_67 ?_
      obtain ⟨hi21, h⟩ := gc_s h
      refine gx_is F G hk18 ht19 hn20 hi21 dX5_takeImage_70 (fun H locs G => ?_)
      obtain ⟨c22, ec22⟩ : ∃ z, z = gm_r c17 (t + 3) (upd (c17.1 (t + 3)) (c17.1 t 4).toNatClampNeg (c17.1 t 3)) := ⟨_, rfl⟩
      rw [← ec22] at G
      replace h := gv_s h c22 ec22
      refine lv_aload_n hx hb dX5_takeImage_71 rfl (lv_at hl 0 rfl) ?_
      refine lv_dup hx hb dX5_takeImage_72 rfl ?_
      refine fg_5_images F G hk1 ht2 in5 (by decide +kernel) dX5_takeImage_73 ?_
      refine lv_iconst (v := 1) hx hb dX5_takeImage_76 (by decide) ?_
      refine lv_iadd hx hb dX5_takeImage_77 ?_
      refine fp_5_images F G hk1 ht2 in5 (by decide +kernel) dX5_takeImage_78 (fun H locs G => ?_)
      obtain ⟨c23, ec23⟩ : ∃ z, z = gm_r c22 t (upd (c22.1 t) 4 ((c22.1 t 4) + 1)) := ⟨_, rfl⟩
      rw [← ec23] at G
      replace h := gv_s h c23 ec23
      cases h
      rw [← hQ]
      exact gx_vret F G hr hlocks dX5_takeImage_81
def m_X5_goBackToImage (t : Nat) (a1 : Nat) (c : gm) : Option (gm) :=
  gc (gck t = 5) ((if (c.1 t 4) ≤ 0 then some c else (if 3 < (c.1 t 4) then some c else gv (gm_r c t (upd (c.1 t) 4 ((c.1 t 4) - 1))) (fun (c5 : gm) => gc (0 ≤ ((c5.1 t 4) * 1020).toInt ∧ 0 ≤ (0 : Int32).toInt ∧ 0 ≤ (960 : Int32).toInt ∧ ((c5.1 t 4) * 1020).toInt + (960 : Int32).toInt ≤ 3060 ∧ (0 : Int32).toInt + (960 : Int32).toInt ≤ 960) (gv (gm_r c5 (t + 1) (va_cpy (c5.1 (t + 2)) (c5.1 (t + 1)) ((c5.1 t 4) * 1020).toNatClampNeg (0 : Int32).toNatClampNeg (960 : Int32).toNatClampNeg)) (fun (c13 : gm) => gc (gck a1 = 6) (gb (m_X6_read a1 (t + 2) (((c13.1 t 4) * 1020) + 960) c13) (fun (c18 : gm) => gc (0 ≤ (c18.1 t 4).toInt ∧ (c18.1 t 4).toInt < 3) (gv (gm_r c18 t (upd (c18.1 t) 3 (c18.1 (t + 3) (c18.1 t 4).toNatClampNeg))) (fun (c23 : gm) => some c23))))))))))
abbrev rmX5_goBackToImage : Room := { frames := 2, cells := 0, slots := 0, locals := 82 }
set_option maxHeartbeats 4000000 in
set_option maxRecDepth 100000 in
theorem c_X5_goBackToImage (l : Launch) (sa : gSa) (D : va_G) (ad : Nat → Nat) (cy : Nat → ClassId) (N sz : Nat) (hN : 55 ≤ N) (hI : gI ad N) (c d0 : gm) {t : Nat} {a1 : Nat} {cZ : gm} (h : m_X5_goBackToImage t a1 c = some cZ) : Met l yX5_goBackToImage wsX5_goBackToImage rmX5_goBackToImage (va_Pc [.ref (ad t), .ref (ad a1)] (gP sa D ad cy N sz c d0)) (va_Qv (fun (_ : Unit) => True) (fun _ U => gE D ad cy N cZ d0 U) (gA ad N sz)) 0 0 (gA ad N sz) := by
  refine Met.ofW (cc := cX5_goBackToImage) (maxL := 2) (ret := none) (by decide) rfl ?_
  intro p e s m args below meth cod s₁ B hml hv
  obtain ⟨rfl, hsz, hP, hK, hZ⟩ := hv
  have hx := B.exec
  have hb := B.bytes
  have hr := B.returns
  have hts := atoms_spec (ws := wsX5_goBackToImage) B.pre
  have hown : s.vm.findClass RX5 = some m.cls := findClass_of_methodNamed B.named
  have hlocks := B.notSynchronized
  subst hsz
  have hl := lv_entry ([.ref (ad t), .ref (ad a1)]) (n := 2) (Nat.le_of_ble_eq_true rfl)
  rw [lg_entry_eq]
  generalize (lg_sl ([.ref (ad t), .ref (ad a1)]) ++ List.replicate (2 - (lg_sl ([.ref (ad t), .ref (ad a1)])).length) Slot.unset).toArray = ls at hl ⊢
  have hl : lv_has ls 2 [(0, .ref (ad t)), (1, .ref (ad a1))] := hl
  have in5 : ∀ w ∈ wsX50, w ∈ wsX5_goBackToImage := by decide +kernel
  generalize hargs : ([.ref (ad t), .ref (ad a1)] : List Value).toArray = args at *
  generalize hAe : gA ad N s.heap.size = A
  have F : gF sa D ad cy N A p s m args cod cX5_goBackToImage 2 wsX5_goBackToImage RX5 := ⟨hx, hb, hml, hown, hts, hK, hI, by rw [← hAe]; exact gA_ad, by rw [← hAe]; exact gA_sz, by rw [← hAe]; exact hZ⟩
  have G : gW D ad cy N A s.heap c d0 s.heap [] := ⟨hP, va_S.rf⟩
  generalize hQ : MQ below (va_Qv (fun (_ : Unit) => True) (fun _ U => gE D ad cy N cZ d0 U) A) args s 0 0 A = Q
  suffices hgen : ∀ (H : Heap) (locs : List Loc), gW D ad cy N A s.heap c d0 H locs → W p l e rmX5_goBackToImage s m args below meth cod H locs 0 0 Q (F0 m 0 ls []) from hgen _ _ G
  clear G
  intro H locs G
  unfold m_X5_goBackToImage at h
  refine lv_aload_n hx hb dX5_goBackToImage_0 rfl (lv_at hl 0 rfl) ?_
  obtain ⟨hk1, h⟩ := gc_s h
  have ht2 : t < N := Nat.lt_of_lt_of_le (gck_lt5 hk1) hN
  refine fg_5_images F G hk1 ht2 in5 (by decide +kernel) dX5_goBackToImage_1 ?_
  refine lv_if_le (tgt := 81) hx hb dX5_goBackToImage_4 (by decide) (fun q3 => ?_) (fun q3 => ?_)
  · replace h := gt_s q3 h
    cases h
    rw [← hQ]
    exact gx_vret F G hr hlocks dX5_goBackToImage_81
  · replace h := gf_s q3 h
    refine lv_aload_n hx hb dX5_goBackToImage_7 rfl (lv_at hl 0 rfl) ?_
    refine fg_5_images F G hk1 ht2 in5 (by decide +kernel) dX5_goBackToImage_8 ?_
    refine lv_iconst (v := 3) hx hb dX5_goBackToImage_11 (by decide) ?_
    refine lv_icmp_gt (tgt := 81) hx hb dX5_goBackToImage_12 (by decide) (fun q4 => ?_) (fun q4 => ?_)
    · replace h := gt_s q4 h
      cases h
      rw [← hQ]
      exact gx_vret F G hr hlocks dX5_goBackToImage_81
    · replace h := gf_s q4 h
      refine lv_aload_n hx hb dX5_goBackToImage_15 rfl (lv_at hl 0 rfl) ?_
      refine lv_dup hx hb dX5_goBackToImage_16 rfl ?_
      refine fg_5_images F G hk1 ht2 in5 (by decide +kernel) dX5_goBackToImage_17 ?_
      refine lv_iconst (v := 1) hx hb dX5_goBackToImage_20 (by decide) ?_
      refine lv_isub hx hb dX5_goBackToImage_21 ?_
      refine fp_5_images F G hk1 ht2 in5 (by decide +kernel) dX5_goBackToImage_22 (fun H locs G => ?_)
      obtain ⟨c5, ec5⟩ : ∃ z, z = gm_r c t (upd (c.1 t) 4 ((c.1 t 4) - 1)) := ⟨_, rfl⟩
      rw [← ec5] at G
      replace h := gv_s h c5 ec5
      refine lv_aload_n hx hb dX5_goBackToImage_25 rfl (lv_at hl 0 rfl) ?_
      refine fg_5_imageRows F G hk1 ht2 in5 (by decide +kernel) dX5_goBackToImage_26 ?_
      obtain ⟨hk6, hn8⟩ := gka_5_imageRows hk1
      have ht7 : (t + 2) < N := Nat.lt_of_lt_of_le (gck_lt12 hk6) hN
      refine lv_aload_n hx hb dX5_goBackToImage_29 rfl (lv_at hl 0 rfl) ?_
      refine fg_5_images F G hk1 ht2 in5 (by decide +kernel) dX5_goBackToImage_30 ?_
      refine lv_sipush (v := 1020) hx hb dX5_goBackToImage_33 (by decide) ?_
      refine lv_imul hx hb dX5_goBackToImage_36 ?_
      refine lv_aload_n hx hb dX5_goBackToImage_37 rfl (lv_at hl 0 rfl) ?_
      refine fg_5_workRows F G hk1 ht2 in5 (by decide +kernel) dX5_goBackToImage_38 ?_
      obtain ⟨hk9, hn11⟩ := gka_5_workRows hk1
      have ht10 : (t + 1) < N := Nat.lt_of_lt_of_le (gck_lt12 hk9) hN
      refine lv_iconst (v := 0) hx hb dX5_goBackToImage_41 (by decide) ?_
      refine lv_sipush (v := 960) hx hb dX5_goBackToImage_42 (by decide) ?_
      obtain ⟨hi12, h⟩ := gc_s h
      refine gx_copy F G hl.1 (by decide +kernel) (by decide +kernel) (by decide +kernel) (by decide +kernel) hk6 ht7 hn8 hk9 ht10 hn11 hi12 (Nat.le_of_ble_eq_true rfl) (Nat.le_of_ble_eq_true rfl) dX5_goBackToImage_45 (fun H locs G => ?_)
      obtain ⟨c13, ec13⟩ : ∃ z, z = gm_r c5 (t + 1) (va_cpy (c5.1 (t + 2)) (c5.1 (t + 1)) ((c5.1 t 4) * 1020).toNatClampNeg (0 : Int32).toNatClampNeg (960 : Int32).toNatClampNeg) := ⟨_, rfl⟩
      rw [← ec13] at G
      replace h := gv_s h c13 ec13
      refine lv_aload_n hx hb dX5_goBackToImage_48 rfl (lv_at hl 1 rfl) ?_
      refine lv_aload_n hx hb dX5_goBackToImage_49 rfl (lv_at hl 0 rfl) ?_
      refine fg_5_imageRows F G hk1 ht2 in5 (by decide +kernel) dX5_goBackToImage_50 ?_
      refine lv_aload_n hx hb dX5_goBackToImage_53 rfl (lv_at hl 0 rfl) ?_
      refine fg_5_images F G hk1 ht2 in5 (by decide +kernel) dX5_goBackToImage_54 ?_
      refine lv_sipush (v := 1020) hx hb dX5_goBackToImage_57 (by decide) ?_
      refine lv_imul hx hb dX5_goBackToImage_60 ?_
      refine lv_sipush (v := 960) hx hb dX5_goBackToImage_61 (by decide) ?_
      refine lv_iadd hx hb dX5_goBackToImage_64 ?_
      obtain ⟨hk14, h⟩ := gc_s h
      have ht15 : a1 < N := Nat.lt_of_lt_of_le (gck_lt6 hk14) hN
      obtain ⟨c18, hc16, h⟩ := gb_s h
      refine gx_callv F G (va_runV (As := [.ref (ad (t + 2)), .int (((c13.1 t 4) * 1020) + 960)]) (rest := []) (gx_fix F) (c_X6_read l sa D ad cy N H.size hN hI c13 d0 hc16) (cwV 2 hts gX5_goBackToImage_X6_read rfl rfl rfl (by decide +kernel) ⟨by decide, by decide⟩) (gx_rec F G ht15 (gwe_6 hk14) rfl) rfl rfl hl.1 rfl (lv_room (Nat.le_of_ble_eq_true rfl)) dX5_goBackToImage_65 ⟨Nat.zero_le _, Nat.zero_le _⟩) (fun H locs G => ?_)
      refine lv_aload_n hx hb dX5_goBackToImage_68 rfl (lv_at hl 0 rfl) ?_
      refine lv_aload_n hx hb dX5_goBackToImage_69 rfl (lv_at hl 0 rfl) ?_
      refine fg_5_imageWorks F G hk1 ht2 in5 (by decide +kernel) dX5_goBackToImage_70 ?_
      obtain ⟨hk19, hn21⟩ := gka_5_imageWorks hk1
      have ht20 : (t + 3) < N := Nat.lt_of_lt_of_le (gck_lt12 hk19) hN
      refine lv_aload_n hx hb dX5_goBackToImage_73 rfl (lv_at hl 0 rfl) ?_
      refine fg_5_images F G hk1 ht2 in5 (by decide +kernel) dX5_goBackToImage_74 ?_
      obtain ⟨hi22, h⟩ := gc_s h
      refine gx_ia F G hk19 ht20 hn21 hi22 dX5_goBackToImage_77 ?_
      refine fp_5_works F G hk1 ht2 in5 (by decide +kernel) dX5_goBackToImage_78 (fun H locs G => ?_)
      obtain ⟨c23, ec23⟩ : ∃ z, z = gm_r c18 t (upd (c18.1 t) 3 (c18.1 (t + 3) (c18.1 t 4).toNatClampNeg)) := ⟨_, rfl⟩
      rw [← ec23] at G
      replace h := gv_s h c23 ec23
      cases h
      rw [← hQ]
      exact gx_vret F G hr hlocks dX5_goBackToImage_81
def m_X6_becomeEmpty (n : Nat) (t : Nat) (c : gm) : Option (gm) :=
  gc (gck t = 6) (gb (m_J7_fill_53178 n (t + 1) 0 c) (fun (c8 : gm) => gb (m_J7_fill_53178 n (t + 2) 0 c8) (fun (c14 : gm) => gb (m_J7_fill_53178 n (t + 3) 0 c14) (fun (c20 : gm) => gv (gm_r c20 t (upd (c20.1 t) 5 0)) (fun (c21 : gm) => gv (gm_r c21 t (upd (c21.1 t) 6 0)) (fun (c22 : gm) => gv (gm_r c22 t (upd (c22.1 t) 7 9)) (fun (c23 : gm) => gv (gm_r c23 t (upd (c23.1 t) 8 0)) (fun (c24 : gm) => gv (gm_r c24 t (upd (c24.1 t) 9 0)) (fun (c25 : gm) => gv (gm_r c25 t (upd (c25.1 t) 10 0)) (fun (c26 : gm) => some c26))))))))))
abbrev rmX6_becomeEmpty : Room := { frames := 1, cells := 0, slots := 0, locals := 23 }
set_option maxHeartbeats 4000000 in
set_option maxRecDepth 100000 in
theorem c_X6_becomeEmpty (l : Launch) (sa : gSa) (D : va_G) (ad : Nat → Nat) (cy : Nat → ClassId) (N sz : Nat) (hN : 55 ≤ N) (hI : gI ad N) (c d0 : gm) {n : Nat} {t : Nat} {cZ : gm} (h : m_X6_becomeEmpty n t c = some cZ) : Met l yX6_becomeEmpty wsX6_becomeEmpty rmX6_becomeEmpty (va_Pc [.ref (ad t)] (gP sa D ad cy N sz c d0)) (va_Qv (fun (_ : Unit) => True) (fun _ U => gE D ad cy N cZ d0 U) (gA ad N sz)) 0 0 (gA ad N sz) := by
  refine Met.ofW (cc := cX6_becomeEmpty) (maxL := 1) (ret := none) (by decide) rfl ?_
  intro p e s m args below meth cod s₁ B hml hv
  obtain ⟨rfl, hsz, hP, hK, hZ⟩ := hv
  have hx := B.exec
  have hb := B.bytes
  have hr := B.returns
  have hts := atoms_spec (ws := wsX6_becomeEmpty) B.pre
  have hown : s.vm.findClass RX6 = some m.cls := findClass_of_methodNamed B.named
  have hlocks := B.notSynchronized
  subst hsz
  have hl := lv_entry ([.ref (ad t)]) (n := 1) (Nat.le_of_ble_eq_true rfl)
  rw [lg_entry_eq]
  generalize (lg_sl ([.ref (ad t)]) ++ List.replicate (1 - (lg_sl ([.ref (ad t)])).length) Slot.unset).toArray = ls at hl ⊢
  have hl : lv_has ls 1 [(0, .ref (ad t))] := hl
  have in6 : ∀ w ∈ wsX60, w ∈ wsX6_becomeEmpty := by decide +kernel
  generalize hargs : ([.ref (ad t)] : List Value).toArray = args at *
  generalize hAe : gA ad N s.heap.size = A
  have F : gF sa D ad cy N A p s m args cod cX6_becomeEmpty 1 wsX6_becomeEmpty RX6 := ⟨hx, hb, hml, hown, hts, hK, hI, by rw [← hAe]; exact gA_ad, by rw [← hAe]; exact gA_sz, by rw [← hAe]; exact hZ⟩
  have G : gW D ad cy N A s.heap c d0 s.heap [] := ⟨hP, va_S.rf⟩
  generalize hQ : MQ below (va_Qv (fun (_ : Unit) => True) (fun _ U => gE D ad cy N cZ d0 U) A) args s 0 0 A = Q
  suffices hgen : ∀ (H : Heap) (locs : List Loc), gW D ad cy N A s.heap c d0 H locs → W p l e rmX6_becomeEmpty s m args below meth cod H locs 0 0 Q (F0 m 0 ls []) from hgen _ _ G
  clear G
  intro H locs G
  unfold m_X6_becomeEmpty at h
  refine lv_aload_n hx hb dX6_becomeEmpty_0 rfl (lv_at hl 0 rfl) ?_
  obtain ⟨hk1, h⟩ := gc_s h
  have ht2 : t < N := Nat.lt_of_lt_of_le (gck_lt6 hk1) hN
  refine fg_6_told F G hk1 ht2 in6 (by decide +kernel) dX6_becomeEmpty_1 ?_
  obtain ⟨hk3, hn5⟩ := gka_6_told hk1
  have ht4 : (t + 1) < N := Nat.lt_of_lt_of_le (gck_lt12 hk3) hN
  refine lv_iconst (v := 0) hx hb dX6_becomeEmpty_4 (by decide) ?_
  obtain ⟨c8, hc6, h⟩ := gb_s h
  refine gx_callv F G (va_runS (As := [.ref (ad (t + 1)), .int 0]) (rest := []) (gx_fix F) (c_J7_fill_53178 l sa D ad cy N H.size hN hI c d0 hc6) (va_cwS 2 hts gX6_becomeEmpty_J7_fill_53178 rfl rfl rfl (by decide +kernel) ⟨by decide, by decide⟩) (gx_pre F G) rfl rfl hl.1 rfl (lv_room (Nat.le_of_ble_eq_true rfl)) dX6_becomeEmpty_5 ⟨Nat.zero_le _, Nat.zero_le _⟩) (fun H locs G => ?_)
  refine lv_aload_n hx hb dX6_becomeEmpty_8 rfl (lv_at hl 0 rfl) ?_
  refine fg_6_weight F G hk1 ht2 in6 (by decide +kernel) dX6_becomeEmpty_9 ?_
  obtain ⟨hk9, hn11⟩ := gka_6_weight hk1
  have ht10 : (t + 2) < N := Nat.lt_of_lt_of_le (gck_lt12 hk9) hN
  refine lv_iconst (v := 0) hx hb dX6_becomeEmpty_12 (by decide) ?_
  obtain ⟨c14, hc12, h⟩ := gb_s h
  refine gx_callv F G (va_runS (As := [.ref (ad (t + 2)), .int 0]) (rest := []) (gx_fix F) (c_J7_fill_53178 l sa D ad cy N H.size hN hI c8 d0 hc12) (va_cwS 2 hts gX6_becomeEmpty_J7_fill_53178 rfl rfl rfl (by decide +kernel) ⟨by decide, by decide⟩) (gx_pre F G) rfl rfl hl.1 rfl (lv_room (Nat.le_of_ble_eq_true rfl)) dX6_becomeEmpty_13 ⟨Nat.zero_le _, Nat.zero_le _⟩) (fun H locs G => ?_)
  refine lv_aload_n hx hb dX6_becomeEmpty_16 rfl (lv_at hl 0 rfl) ?_
  refine fg_6_weighed F G hk1 ht2 in6 (by decide +kernel) dX6_becomeEmpty_17 ?_
  obtain ⟨hk15, hn17⟩ := gka_6_weighed hk1
  have ht16 : (t + 3) < N := Nat.lt_of_lt_of_le (gck_lt12 hk15) hN
  refine lv_iconst (v := 0) hx hb dX6_becomeEmpty_20 (by decide) ?_
  obtain ⟨c20, hc18, h⟩ := gb_s h
  refine gx_callv F G (va_runS (As := [.ref (ad (t + 3)), .int 0]) (rest := []) (gx_fix F) (c_J7_fill_53178 l sa D ad cy N H.size hN hI c14 d0 hc18) (va_cwS 2 hts gX6_becomeEmpty_J7_fill_53178 rfl rfl rfl (by decide +kernel) ⟨by decide, by decide⟩) (gx_pre F G) rfl rfl hl.1 rfl (lv_room (Nat.le_of_ble_eq_true rfl)) dX6_becomeEmpty_21 ⟨Nat.zero_le _, Nat.zero_le _⟩) (fun H locs G => ?_)
  refine lv_aload_n hx hb dX6_becomeEmpty_24 rfl (lv_at hl 0 rfl) ?_
  refine lv_iconst (v := 0) hx hb dX6_becomeEmpty_25 (by decide) ?_
  refine fp_6_things F G hk1 ht2 in6 (by decide +kernel) dX6_becomeEmpty_26 (fun H locs G => ?_)
  obtain ⟨c21, ec21⟩ : ∃ z, z = gm_r c20 t (upd (c20.1 t) 5 0) := ⟨_, rfl⟩
  rw [← ec21] at G
  replace h := gv_s h c21 ec21
  refine lv_aload_n hx hb dX6_becomeEmpty_29 rfl (lv_at hl 0 rfl) ?_
  refine lv_iconst (v := 0) hx hb dX6_becomeEmpty_30 (by decide) ?_
  refine fp_6_cries F G hk1 ht2 in6 (by decide +kernel) dX6_becomeEmpty_31 (fun H locs G => ?_)
  obtain ⟨c22, ec22⟩ : ∃ z, z = gm_r c21 t (upd (c21.1 t) 6 0) := ⟨_, rfl⟩
  rw [← ec22] at G
  replace h := gv_s h c22 ec22
  refine lv_aload_n hx hb dX6_becomeEmpty_34 rfl (lv_at hl 0 rfl) ?_
  refine lv_bipush (v := 9) hx hb dX6_becomeEmpty_35 (by decide) ?_
  refine fp_6_lean F G hk1 ht2 in6 (by decide +kernel) dX6_becomeEmpty_37 (fun H locs G => ?_)
  obtain ⟨c23, ec23⟩ : ∃ z, z = gm_r c22 t (upd (c22.1 t) 7 9) := ⟨_, rfl⟩
  rw [← ec23] at G
  replace h := gv_s h c23 ec23
  refine lv_aload_n hx hb dX6_becomeEmpty_40 rfl (lv_at hl 0 rfl) ?_
  refine lv_iconst (v := 0) hx hb dX6_becomeEmpty_41 (by decide) ?_
  refine fp_6_play F G hk1 ht2 in6 (by decide +kernel) dX6_becomeEmpty_42 (fun H locs G => ?_)
  obtain ⟨c24, ec24⟩ : ∃ z, z = gm_r c23 t (upd (c23.1 t) 8 0) := ⟨_, rfl⟩
  rw [← ec24] at G
  replace h := gv_s h c24 ec24
  refine lv_aload_n hx hb dX6_becomeEmpty_45 rfl (lv_at hl 0 rfl) ?_
  refine lv_iconst (v := 0) hx hb dX6_becomeEmpty_46 (by decide) ?_
  refine fp_6_day F G hk1 ht2 in6 (by decide +kernel) dX6_becomeEmpty_47 (fun H locs G => ?_)
  obtain ⟨c25, ec25⟩ : ∃ z, z = gm_r c24 t (upd (c24.1 t) 9 0) := ⟨_, rfl⟩
  rw [← ec25] at G
  replace h := gv_s h c25 ec25
  refine lv_aload_n hx hb dX6_becomeEmpty_50 rfl (lv_at hl 0 rfl) ?_
  refine lv_iconst (v := 0) hx hb dX6_becomeEmpty_51 (by decide) ?_
  refine fp_6_weighings F G hk1 ht2 in6 (by decide +kernel) dX6_becomeEmpty_52 (fun H locs G => ?_)
  obtain ⟨c26, ec26⟩ : ∃ z, z = gm_r c25 t (upd (c25.1 t) 10 0) := ⟨_, rfl⟩
  rw [← ec26] at G
  replace h := gv_s h c26 ec26
  cases h
  rw [← hQ]
  exact gx_vret F G hr hlocks dX6_becomeEmpty_55
def m_X6_readThing (n : Nat) (t : Nat) (a1 : Nat) (c : gm) : Option (Int32 × gm) :=
  gc (gck a1 = 7) (gb2 (m_X7_takeNumber n a1 1 60 c) (fun (r4 : Int32) (c5 : gm) => (if r4 = 0 then some (0, c5) else gc (gck t = 6) ((if (c5.1 t 5) < 8 then gc (0 ≤ (c5.1 t 5).toInt ∧ (c5.1 t 5).toInt < 8) (gv (gm_r c5 (t + 1) (upd (c5.1 (t + 1)) (c5.1 t 5).toNatClampNeg (c5.1 a1 5))) (fun (c14 : gm) => gc (0 ≤ (c14.1 t 5).toInt ∧ (c14.1 t 5).toInt < 8) (gv (gm_r c14 (t + 2) (upd (c14.1 (t + 2)) (c14.1 t 5).toNatClampNeg (c14.1 a1 5))) (fun (c19 : gm) => gv (gm_r c19 t (upd (c19.1 t) 5 ((c19.1 t 5) + 1))) (fun (c20 : gm) => some (1, c20)))))) else some (0, c5))))))
abbrev rmX6_readThing : Room := { frames := 2, cells := 0, slots := 0, locals := 62 }
set_option maxHeartbeats 4000000 in
set_option maxRecDepth 100000 in
theorem c_X6_readThing (l : Launch) (sa : gSa) (D : va_G) (ad : Nat → Nat) (cy : Nat → ClassId) (N sz : Nat) (hN : 55 ≤ N) (hI : gI ad N) (c d0 : gm) {n : Nat} {t : Nat} {a1 : Nat} {rZ : Int32} {cZ : gm} (h : m_X6_readThing n t a1 c = some (rZ, cZ)) : Met l yX6_readThing wsX6_readThing rmX6_readThing (va_Pc [.ref (ad t), .ref (ad a1)] (gP sa D ad cy N sz c d0)) (va_Qi (fun (z : Int32) (_ : Unit) => z = rZ) (fun _ U => gE D ad cy N cZ d0 U) (gA ad N sz)) 0 0 (gA ad N sz) := by
  refine Met.ofW (cc := cX6_readThing) (maxL := 2) (ret := (some .boolean)) (by decide) rfl ?_
  intro p e s m args below meth cod s₁ B hml hv
  obtain ⟨rfl, hsz, hP, hK, hZ⟩ := hv
  have hx := B.exec
  have hb := B.bytes
  have hr := B.returns
  have hts := atoms_spec (ws := wsX6_readThing) B.pre
  have hown : s.vm.findClass RX6 = some m.cls := findClass_of_methodNamed B.named
  have hlocks := B.notSynchronized
  subst hsz
  have hl := lv_entry ([.ref (ad t), .ref (ad a1)]) (n := 2) (Nat.le_of_ble_eq_true rfl)
  rw [lg_entry_eq]
  generalize (lg_sl ([.ref (ad t), .ref (ad a1)]) ++ List.replicate (2 - (lg_sl ([.ref (ad t), .ref (ad a1)])).length) Slot.unset).toArray = ls at hl ⊢
  have hl : lv_has ls 2 [(0, .ref (ad t)), (1, .ref (ad a1))] := hl
  have in6 : ∀ w ∈ wsX60, w ∈ wsX6_readThing := by decide +kernel
  have in7 : ∀ w ∈ wsX70, w ∈ wsX6_readThing := by decide +kernel
  generalize hargs : ([.ref (ad t), .ref (ad a1)] : List Value).toArray = args at *
  generalize hAe : gA ad N s.heap.size = A
  have F : gF sa D ad cy N A p s m args cod cX6_readThing 2 wsX6_readThing RX6 := ⟨hx, hb, hml, hown, hts, hK, hI, by rw [← hAe]; exact gA_ad, by rw [← hAe]; exact gA_sz, by rw [← hAe]; exact hZ⟩
  have G : gW D ad cy N A s.heap c d0 s.heap [] := ⟨hP, va_S.rf⟩
  generalize hQ : MQ below (va_Qi (fun (z : Int32) (_ : Unit) => z = rZ) (fun _ U => gE D ad cy N cZ d0 U) A) args s 0 0 A = Q
  suffices hgen : ∀ (H : Heap) (locs : List Loc), gW D ad cy N A s.heap c d0 H locs → W p l e rmX6_readThing s m args below meth cod H locs 0 0 Q (F0 m 0 ls []) from hgen _ _ G
  clear G
  intro H locs G
  unfold m_X6_readThing at h
  refine lv_aload_n hx hb dX6_readThing_0 rfl (lv_at hl 1 rfl) ?_
  refine lv_iconst (v := 1) hx hb dX6_readThing_1 (by decide) ?_
  refine lv_bipush (v := 60) hx hb dX6_readThing_2 (by decide) ?_
  obtain ⟨hk1, h⟩ := gc_s h
  have ht2 : a1 < N := Nat.lt_of_lt_of_le (gck_lt7 hk1) hN
  obtain ⟨r4, c5, hc3, h⟩ := gb2_s h
  refine gx_calli F G (va_runV (As := [.int 1, .int 60]) (rest := []) (gx_fix F) (c_X7_takeNumber l sa D ad cy N H.size hN hI c d0 hc3) (cwV 2 hts gX6_readThing_X7_takeNumber rfl rfl rfl (by decide +kernel) ⟨by decide, by decide⟩) (gx_rec F G ht2 (gwe_7 hk1) rfl) rfl rfl hl.1 rfl (lv_room (Nat.le_of_ble_eq_true rfl)) dX6_readThing_4 ⟨Nat.zero_le _, Nat.zero_le _⟩) (fun H locs G => ?_)
  refine lv_if_eq (tgt := 19) hx hb dX6_readThing_7 (by decide) (fun q6 => ?_) (fun q6 => ?_)
  · replace h := gt_s q6 h
    refine lv_iconst (v := 0) hx hb dX6_readThing_19 (by decide) ?_
    cases h
    rw [← hQ]
    exact gx_zret F G hr hlocks rfl dX6_readThing_20
  · replace h := gf_s q6 h
    refine lv_aload_n hx hb dX6_readThing_10 rfl (lv_at hl 0 rfl) ?_
    obtain ⟨hk7, h⟩ := gc_s h
    have ht8 : t < N := Nat.lt_of_lt_of_le (gck_lt6 hk7) hN
    refine fg_6_things F G hk7 ht8 in6 (by decide +kernel) dX6_readThing_11 ?_
    refine lv_bipush (v := 8) hx hb dX6_readThing_14 (by decide) ?_
    refine lv_icmp_lt (tgt := 21) hx hb dX6_readThing_16 (by decide) (fun q9 => ?_) (fun q9 => ?_)
    · replace h := gt_s q9 h
      refine lv_aload_n hx hb dX6_readThing_21 rfl (lv_at hl 0 rfl) ?_
      refine fg_6_told F G hk7 ht8 in6 (by decide +kernel) dX6_readThing_22 ?_
      obtain ⟨hk10, hn12⟩ := gka_6_told hk7
      have ht11 : (t + 1) < N := Nat.lt_of_lt_of_le (gck_lt12 hk10) hN
      refine lv_aload_n hx hb dX6_readThing_25 rfl (lv_at hl 0 rfl) ?_
      refine fg_6_things F G hk7 ht8 in6 (by decide +kernel) dX6_readThing_26 ?_
      refine lv_aload_n hx hb dX6_readThing_29 rfl (lv_at hl 1 rfl) ?_
      refine fg_7_value F G hk1 ht2 in7 (by decide +kernel) dX6_readThing_30 ?_
      obtain ⟨hi13, h⟩ := gc_s h
      refine gx_is F G hk10 ht11 hn12 hi13 dX6_readThing_33 (fun H locs G => ?_)
      obtain ⟨c14, ec14⟩ : ∃ z, z = gm_r c5 (t + 1) (upd (c5.1 (t + 1)) (c5.1 t 5).toNatClampNeg (c5.1 a1 5)) := ⟨_, rfl⟩
      rw [← ec14] at G
      replace h := gv_s h c14 ec14
      refine lv_aload_n hx hb dX6_readThing_34 rfl (lv_at hl 0 rfl) ?_
      refine fg_6_weight F G hk7 ht8 in6 (by decide +kernel) dX6_readThing_35 ?_
      obtain ⟨hk15, hn17⟩ := gka_6_weight hk7
      have ht16 : (t + 2) < N := Nat.lt_of_lt_of_le (gck_lt12 hk15) hN
      refine lv_aload_n hx hb dX6_readThing_38 rfl (lv_at hl 0 rfl) ?_
      refine fg_6_things F G hk7 ht8 in6 (by decide +kernel) dX6_readThing_39 ?_
      refine lv_aload_n hx hb dX6_readThing_42 rfl (lv_at hl 1 rfl) ?_
      refine fg_7_value F G hk1 ht2 in7 (by decide +kernel) dX6_readThing_43 ?_
      obtain ⟨hi18, h⟩ := gc_s h
      refine gx_is F G hk15 ht16 hn17 hi18 dX6_readThing_46 (fun H locs G => ?_)
      obtain ⟨c19, ec19⟩ : ∃ z, z = gm_r c14 (t + 2) (upd (c14.1 (t + 2)) (c14.1 t 5).toNatClampNeg (c14.1 a1 5)) := ⟨_, rfl⟩
      rw [← ec19] at G
      replace h := gv_s h c19 ec19
      refine lv_aload_n hx hb dX6_readThing_47 rfl (lv_at hl 0 rfl) ?_
      refine lv_dup hx hb dX6_readThing_48 rfl ?_
      refine fg_6_things F G hk7 ht8 in6 (by decide +kernel) dX6_readThing_49 ?_
      refine lv_iconst (v := 1) hx hb dX6_readThing_52 (by decide) ?_
      refine lv_iadd hx hb dX6_readThing_53 ?_
      refine fp_6_things F G hk7 ht8 in6 (by decide +kernel) dX6_readThing_54 (fun H locs G => ?_)
      obtain ⟨c20, ec20⟩ : ∃ z, z = gm_r c19 t (upd (c19.1 t) 5 ((c19.1 t 5) + 1)) := ⟨_, rfl⟩
      rw [← ec20] at G
      replace h := gv_s h c20 ec20
      refine lv_iconst (v := 1) hx hb dX6_readThing_57 (by decide) ?_
      cases h
      rw [← hQ]
      exact gx_zret F G hr hlocks rfl dX6_readThing_58
    · replace h := gf_s q9 h
      refine lv_iconst (v := 0) hx hb dX6_readThing_19 (by decide) ?_
      cases h
      rw [← hQ]
      exact gx_zret F G hr hlocks rfl dX6_readThing_20
def m_X6_readCry (n : Nat) (t : Nat) (a1 : Nat) (c : gm) : Option (Int32 × gm) :=
  gc (gck t = 6) (gc (gck a1 = 7) (gb2 (m_X7_takeNumber n a1 0 ((c.1 t 5) - 1) c) (fun (r6 : Int32) (c7 : gm) => (if r6 = 0 then some (0, c7) else gv (c7.1 a1 5) (fun (x9 : Int32) => gb2 (m_X7_takeNumber n a1 1 9 c7) (fun (r11 : Int32) (c12 : gm) => (if r11 = 0 then some (0, c12) else gv (c12.1 a1 5) (fun (x14 : Int32) => gb2 (m_X7_takeOther n a1 (c12.1 t 5) x9 c12) (fun (r16 : Int32) (c17 : gm) => (if r16 = 0 then some (0, c17) else gv (c17.1 a1 5) (fun (x19 : Int32) => gb2 (m_X7_takeNumber n a1 1 9 c17) (fun (r21 : Int32) (c22 : gm) => (if r21 = 0 then some (0, c22) else gb (m_X6_addCry t x9 x14 x19 (c22.1 a1 5) c22) (fun (c26 : gm) => some (1, c26)))))))))))))))
abbrev rmX6_readCry : Room := { frames := 3, cells := 0, slots := 0, locals := 84 }
set_option maxHeartbeats 4000000 in
set_option maxRecDepth 100000 in
theorem c_X6_readCry (l : Launch) (sa : gSa) (D : va_G) (ad : Nat → Nat) (cy : Nat → ClassId) (N sz : Nat) (hN : 55 ≤ N) (hI : gI ad N) (c d0 : gm) {n : Nat} {t : Nat} {a1 : Nat} {rZ : Int32} {cZ : gm} (h : m_X6_readCry n t a1 c = some (rZ, cZ)) : Met l yX6_readCry wsX6_readCry rmX6_readCry (va_Pc [.ref (ad t), .ref (ad a1)] (gP sa D ad cy N sz c d0)) (va_Qi (fun (z : Int32) (_ : Unit) => z = rZ) (fun _ U => gE D ad cy N cZ d0 U) (gA ad N sz)) 0 0 (gA ad N sz) := by
  refine Met.ofW (cc := cX6_readCry) (maxL := 5) (ret := (some .boolean)) (by decide) rfl ?_
  intro p e s m args below meth cod s₁ B hml hv
  obtain ⟨rfl, hsz, hP, hK, hZ⟩ := hv
  have hx := B.exec
  have hb := B.bytes
  have hr := B.returns
  have hts := atoms_spec (ws := wsX6_readCry) B.pre
  have hown : s.vm.findClass RX6 = some m.cls := findClass_of_methodNamed B.named
  have hlocks := B.notSynchronized
  subst hsz
  have hl := lv_entry ([.ref (ad t), .ref (ad a1)]) (n := 5) (Nat.le_of_ble_eq_true rfl)
  rw [lg_entry_eq]
  generalize (lg_sl ([.ref (ad t), .ref (ad a1)]) ++ List.replicate (5 - (lg_sl ([.ref (ad t), .ref (ad a1)])).length) Slot.unset).toArray = ls at hl ⊢
  have hl : lv_has ls 5 [(0, .ref (ad t)), (1, .ref (ad a1))] := hl
  have in6 : ∀ w ∈ wsX60, w ∈ wsX6_readCry := by decide +kernel
  have in7 : ∀ w ∈ wsX70, w ∈ wsX6_readCry := by decide +kernel
  generalize hargs : ([.ref (ad t), .ref (ad a1)] : List Value).toArray = args at *
  generalize hAe : gA ad N s.heap.size = A
  have F : gF sa D ad cy N A p s m args cod cX6_readCry 5 wsX6_readCry RX6 := ⟨hx, hb, hml, hown, hts, hK, hI, by rw [← hAe]; exact gA_ad, by rw [← hAe]; exact gA_sz, by rw [← hAe]; exact hZ⟩
  have G : gW D ad cy N A s.heap c d0 s.heap [] := ⟨hP, va_S.rf⟩
  generalize hQ : MQ below (va_Qi (fun (z : Int32) (_ : Unit) => z = rZ) (fun _ U => gE D ad cy N cZ d0 U) A) args s 0 0 A = Q
  suffices hgen : ∀ (H : Heap) (locs : List Loc), gW D ad cy N A s.heap c d0 H locs → W p l e rmX6_readCry s m args below meth cod H locs 0 0 Q (F0 m 0 ls []) from hgen _ _ G
  clear G
  intro H locs G
  unfold m_X6_readCry at h
  refine lv_aload_n hx hb dX6_readCry_0 rfl (lv_at hl 1 rfl) ?_
  refine lv_iconst (v := 0) hx hb dX6_readCry_1 (by decide) ?_
  refine lv_aload_n hx hb dX6_readCry_2 rfl (lv_at hl 0 rfl) ?_
  obtain ⟨hk1, h⟩ := gc_s h
  have ht2 : t < N := Nat.lt_of_lt_of_le (gck_lt6 hk1) hN
  refine fg_6_things F G hk1 ht2 in6 (by decide +kernel) dX6_readCry_3 ?_
  refine lv_iconst (v := 1) hx hb dX6_readCry_6 (by decide) ?_
  refine lv_isub hx hb dX6_readCry_7 ?_
  obtain ⟨hk3, h⟩ := gc_s h
  have ht4 : a1 < N := Nat.lt_of_lt_of_le (gck_lt7 hk3) hN
  obtain ⟨r6, c7, hc5, h⟩ := gb2_s h
  refine gx_calli F G (va_runV (As := [.int 0, .int ((c.1 t 5) - 1)]) (rest := []) (gx_fix F) (c_X7_takeNumber l sa D ad cy N H.size hN hI c d0 hc5) (cwV 2 hts gX6_readCry_X7_takeNumber rfl rfl rfl (by decide +kernel) ⟨by decide, by decide⟩) (gx_rec F G ht4 (gwe_7 hk3) rfl) rfl rfl hl.1 rfl (lv_room (Nat.le_of_ble_eq_true rfl)) dX6_readCry_8 ⟨Nat.zero_le _, Nat.zero_le _⟩) (fun H locs G => ?_)
  refine lv_if_ne (tgt := 16) hx hb dX6_readCry_11 (by decide) (fun q8 => ?_) (fun q8 => ?_)
  · replace h := gf_s q8 h
    refine lv_aload_n hx hb dX6_readCry_16 rfl (lv_at hl 1 rfl) ?_
    refine fg_7_value F G hk3 ht4 in7 (by decide +kernel) dX6_readCry_17 ?_
    refine lv_topi (fun x9 ex9 => ?_)
    replace h := gv_s h x9 ex9
    refine lv_istore_n (lv' := [(2, .int x9), (0, .ref (ad t)), (1, .ref (ad a1))]) hx hb dX6_readCry_20 rfl hl (by decide) rfl (fun ls hl => ?_)
    refine lv_aload_n hx hb dX6_readCry_21 rfl (lv_at hl 2 rfl) ?_
    refine lv_iconst (v := 1) hx hb dX6_readCry_22 (by decide) ?_
    refine lv_bipush (v := 9) hx hb dX6_readCry_23 (by decide) ?_
    obtain ⟨r11, c12, hc10, h⟩ := gb2_s h
    refine gx_calli F G (va_runV (As := [.int 1, .int 9]) (rest := []) (gx_fix F) (c_X7_takeNumber l sa D ad cy N H.size hN hI c7 d0 hc10) (cwV 2 hts gX6_readCry_X7_takeNumber rfl rfl rfl (by decide +kernel) ⟨by decide, by decide⟩) (gx_rec F G ht4 (gwe_7 hk3) rfl) rfl rfl hl.1 rfl (lv_room (Nat.le_of_ble_eq_true rfl)) dX6_readCry_25 ⟨Nat.zero_le _, Nat.zero_le _⟩) (fun H locs G => ?_)
    refine lv_if_ne (tgt := 33) hx hb dX6_readCry_28 (by decide) (fun q13 => ?_) (fun q13 => ?_)
    · replace h := gf_s q13 h
      refine lv_aload_n hx hb dX6_readCry_33 rfl (lv_at hl 2 rfl) ?_
      refine fg_7_value F G hk3 ht4 in7 (by decide +kernel) dX6_readCry_34 ?_
      refine lv_topi (fun x14 ex14 => ?_)
      replace h := gv_s h x14 ex14
      refine lv_istore_n (lv' := [(3, .int x14), (2, .int x9), (0, .ref (ad t)), (1, .ref (ad a1))]) hx hb dX6_readCry_37 rfl hl (by decide) rfl (fun ls hl => ?_)
      refine lv_aload_n hx hb dX6_readCry_38 rfl (lv_at hl 3 rfl) ?_
      refine lv_aload_n hx hb dX6_readCry_39 rfl (lv_at hl 2 rfl) ?_
      refine fg_6_things F G hk1 ht2 in6 (by decide +kernel) dX6_readCry_40 ?_
      refine lv_iload_n hx hb dX6_readCry_43 rfl (lv_at hl 1 rfl) ?_
      obtain ⟨r16, c17, hc15, h⟩ := gb2_s h
      refine gx_calli F G (va_runV (As := [.int (c12.1 t 5), .int x9]) (rest := []) (gx_fix F) (c_X7_takeOther l sa D ad cy N H.size hN hI c12 d0 hc15) (cwV 2 hts gX6_readCry_X7_takeOther rfl rfl rfl (by decide +kernel) ⟨by decide, by decide⟩) (gx_rec F G ht4 (gwe_7 hk3) rfl) rfl rfl hl.1 rfl (lv_room (Nat.le_of_ble_eq_true rfl)) dX6_readCry_44 ⟨Nat.zero_le _, Nat.zero_le _⟩) (fun H locs G => ?_)
      refine lv_if_ne (tgt := 52) hx hb dX6_readCry_47 (by decide) (fun q18 => ?_) (fun q18 => ?_)
      · replace h := gf_s q18 h
        refine lv_aload_n hx hb dX6_readCry_52 rfl (lv_at hl 3 rfl) ?_
        refine fg_7_value F G hk3 ht4 in7 (by decide +kernel) dX6_readCry_53 ?_
        refine lv_topi (fun x19 ex19 => ?_)
        replace h := gv_s h x19 ex19
        refine lv_istore (lv' := [(4, .int x19), (3, .int x14), (2, .int x9), (0, .ref (ad t)), (1, .ref (ad a1))]) hx hb dX6_readCry_56 hl (by decide) rfl (fun ls hl => ?_)
        refine lv_aload_n hx hb dX6_readCry_58 rfl (lv_at hl 4 rfl) ?_
        refine lv_iconst (v := 1) hx hb dX6_readCry_59 (by decide) ?_
        refine lv_bipush (v := 9) hx hb dX6_readCry_60 (by decide) ?_
        obtain ⟨r21, c22, hc20, h⟩ := gb2_s h
        refine gx_calli F G (va_runV (As := [.int 1, .int 9]) (rest := []) (gx_fix F) (c_X7_takeNumber l sa D ad cy N H.size hN hI c17 d0 hc20) (cwV 2 hts gX6_readCry_X7_takeNumber rfl rfl rfl (by decide +kernel) ⟨by decide, by decide⟩) (gx_rec F G ht4 (gwe_7 hk3) rfl) rfl rfl hl.1 rfl (lv_room (Nat.le_of_ble_eq_true rfl)) dX6_readCry_62 ⟨Nat.zero_le _, Nat.zero_le _⟩) (fun H locs G => ?_)
        refine lv_if_ne (tgt := 70) hx hb dX6_readCry_65 (by decide) (fun q23 => ?_) (fun q23 => ?_)
        · replace h := gf_s q23 h
          refine lv_aload_n hx hb dX6_readCry_70 rfl (lv_at hl 3 rfl) ?_
          refine lv_iload_n hx hb dX6_readCry_71 rfl (lv_at hl 2 rfl) ?_
          refine lv_iload_n hx hb dX6_readCry_72 rfl (lv_at hl 1 rfl) ?_
          refine lv_iload hx hb dX6_readCry_73 (lv_at hl 0 rfl) ?_
          refine lv_aload_n hx hb dX6_readCry_75 rfl (lv_at hl 4 rfl) ?_
          refine fg_7_value F G hk3 ht4 in7 (by decide +kernel) dX6_readCry_76 ?_
          obtain ⟨c26, hc24, h⟩ := gb_s h
          refine gx_callv F G (va_runV (As := [.int x9, .int x14, .int x19, .int (c22.1 a1 5)]) (rest := []) (gx_fix F) (c_X6_addCry l sa D ad cy N H.size hN hI c22 d0 hc24) (cwV 4 hts gX6_readCry_X6_addCry rfl rfl rfl (by decide +kernel) ⟨by decide, by decide⟩) (gx_rec F G ht2 (gwe_6 hk1) rfl) rfl rfl hl.1 rfl (lv_room (Nat.le_of_ble_eq_true rfl)) dX6_readCry_79 ⟨Nat.zero_le _, Nat.zero_le _⟩) (fun H locs G => ?_)
          refine lv_iconst (v := 1) hx hb dX6_readCry_82 (by decide) ?_
          cases h
          rw [← hQ]
          exact gx_zret F G hr hlocks rfl dX6_readCry_83
        · replace h := gt_s q23 h
          refine lv_iconst (v := 0) hx hb dX6_readCry_68 (by decide) ?_
          cases h
          rw [← hQ]
          exact gx_zret F G hr hlocks rfl dX6_readCry_69
      · replace h := gt_s q18 h
        refine lv_iconst (v := 0) hx hb dX6_readCry_50 (by decide) ?_
        cases h
        rw [← hQ]
        exact gx_zret F G hr hlocks rfl dX6_readCry_51
    · replace h := gt_s q13 h
      refine lv_iconst (v := 0) hx hb dX6_readCry_31 (by decide) ?_
      cases h
      rw [← hQ]
      exact gx_zret F G hr hlocks rfl dX6_readCry_32
  · replace h := gt_s q8 h
    refine lv_iconst (v := 0) hx hb dX6_readCry_14 (by decide) ?_
    cases h
    rw [← hQ]
    exact gx_zret F G hr hlocks rfl dX6_readCry_15
def m_X6_readBeam (n : Nat) (t : Nat) (a1 : Nat) (c : gm) : Option (Int32 × gm) :=
  gc (gck a1 = 7) (gb2 (m_X7_takeNumber n a1 0 18 c) (fun (r4 : Int32) (c5 : gm) => (if r4 = 0 then some (0, c5) else gc (gck t = 6) (gv (gm_r c5 t (upd (c5.1 t) 7 (c5.1 a1 5))) (fun (c9 : gm) => gb2 (m_X7_takeNumber n a1 0 9 c9) (fun (r11 : Int32) (c12 : gm) => (if r11 = 0 then some (0, c12) else gv (gm_r c12 t (upd (c12.1 t) 8 (c12.1 a1 5))) (fun (c14 : gm) => some (1, c14)))))))))
abbrev rmX6_readBeam : Room := { frames := 2, cells := 0, slots := 0, locals := 62 }
set_option maxHeartbeats 4000000 in
set_option maxRecDepth 100000 in
theorem c_X6_readBeam (l : Launch) (sa : gSa) (D : va_G) (ad : Nat → Nat) (cy : Nat → ClassId) (N sz : Nat) (hN : 55 ≤ N) (hI : gI ad N) (c d0 : gm) {n : Nat} {t : Nat} {a1 : Nat} {rZ : Int32} {cZ : gm} (h : m_X6_readBeam n t a1 c = some (rZ, cZ)) : Met l yX6_readBeam wsX6_readBeam rmX6_readBeam (va_Pc [.ref (ad t), .ref (ad a1)] (gP sa D ad cy N sz c d0)) (va_Qi (fun (z : Int32) (_ : Unit) => z = rZ) (fun _ U => gE D ad cy N cZ d0 U) (gA ad N sz)) 0 0 (gA ad N sz) := by
  refine Met.ofW (cc := cX6_readBeam) (maxL := 2) (ret := (some .boolean)) (by decide) rfl ?_
  intro p e s m args below meth cod s₁ B hml hv
  obtain ⟨rfl, hsz, hP, hK, hZ⟩ := hv
  have hx := B.exec
  have hb := B.bytes
  have hr := B.returns
  have hts := atoms_spec (ws := wsX6_readBeam) B.pre
  have hown : s.vm.findClass RX6 = some m.cls := findClass_of_methodNamed B.named
  have hlocks := B.notSynchronized
  subst hsz
  have hl := lv_entry ([.ref (ad t), .ref (ad a1)]) (n := 2) (Nat.le_of_ble_eq_true rfl)
  rw [lg_entry_eq]
  generalize (lg_sl ([.ref (ad t), .ref (ad a1)]) ++ List.replicate (2 - (lg_sl ([.ref (ad t), .ref (ad a1)])).length) Slot.unset).toArray = ls at hl ⊢
  have hl : lv_has ls 2 [(0, .ref (ad t)), (1, .ref (ad a1))] := hl
  have in6 : ∀ w ∈ wsX60, w ∈ wsX6_readBeam := by decide +kernel
  have in7 : ∀ w ∈ wsX70, w ∈ wsX6_readBeam := by decide +kernel
  generalize hargs : ([.ref (ad t), .ref (ad a1)] : List Value).toArray = args at *
  generalize hAe : gA ad N s.heap.size = A
  have F : gF sa D ad cy N A p s m args cod cX6_readBeam 2 wsX6_readBeam RX6 := ⟨hx, hb, hml, hown, hts, hK, hI, by rw [← hAe]; exact gA_ad, by rw [← hAe]; exact gA_sz, by rw [← hAe]; exact hZ⟩
  have G : gW D ad cy N A s.heap c d0 s.heap [] := ⟨hP, va_S.rf⟩
  generalize hQ : MQ below (va_Qi (fun (z : Int32) (_ : Unit) => z = rZ) (fun _ U => gE D ad cy N cZ d0 U) A) args s 0 0 A = Q
  suffices hgen : ∀ (H : Heap) (locs : List Loc), gW D ad cy N A s.heap c d0 H locs → W p l e rmX6_readBeam s m args below meth cod H locs 0 0 Q (F0 m 0 ls []) from hgen _ _ G
  clear G
  intro H locs G
  unfold m_X6_readBeam at h
  refine lv_aload_n hx hb dX6_readBeam_0 rfl (lv_at hl 1 rfl) ?_
  refine lv_iconst (v := 0) hx hb dX6_readBeam_1 (by decide) ?_
  refine lv_bipush (v := 18) hx hb dX6_readBeam_2 (by decide) ?_
  obtain ⟨hk1, h⟩ := gc_s h
  have ht2 : a1 < N := Nat.lt_of_lt_of_le (gck_lt7 hk1) hN
  obtain ⟨r4, c5, hc3, h⟩ := gb2_s h
  refine gx_calli F G (va_runV (As := [.int 0, .int 18]) (rest := []) (gx_fix F) (c_X7_takeNumber l sa D ad cy N H.size hN hI c d0 hc3) (cwV 2 hts gX6_readBeam_X7_takeNumber rfl rfl rfl (by decide +kernel) ⟨by decide, by decide⟩) (gx_rec F G ht2 (gwe_7 hk1) rfl) rfl rfl hl.1 rfl (lv_room (Nat.le_of_ble_eq_true rfl)) dX6_readBeam_4 ⟨Nat.zero_le _, Nat.zero_le _⟩) (fun H locs G => ?_)
  refine lv_if_ne (tgt := 12) hx hb dX6_readBeam_7 (by decide) (fun q6 => ?_) (fun q6 => ?_)
  · replace h := gf_s q6 h
    refine lv_aload_n hx hb dX6_readBeam_12 rfl (lv_at hl 0 rfl) ?_
    refine lv_aload_n hx hb dX6_readBeam_13 rfl (lv_at hl 1 rfl) ?_
    refine fg_7_value F G hk1 ht2 in7 (by decide +kernel) dX6_readBeam_14 ?_
    obtain ⟨hk7, h⟩ := gc_s h
    have ht8 : t < N := Nat.lt_of_lt_of_le (gck_lt6 hk7) hN
    refine fp_6_lean F G hk7 ht8 in6 (by decide +kernel) dX6_readBeam_17 (fun H locs G => ?_)
    obtain ⟨c9, ec9⟩ : ∃ z, z = gm_r c5 t (upd (c5.1 t) 7 (c5.1 a1 5)) := ⟨_, rfl⟩
    rw [← ec9] at G
    replace h := gv_s h c9 ec9
    refine lv_aload_n hx hb dX6_readBeam_20 rfl (lv_at hl 1 rfl) ?_
    refine lv_iconst (v := 0) hx hb dX6_readBeam_21 (by decide) ?_
    refine lv_bipush (v := 9) hx hb dX6_readBeam_22 (by decide) ?_
    obtain ⟨r11, c12, hc10, h⟩ := gb2_s h
    refine gx_calli F G (va_runV (As := [.int 0, .int 9]) (rest := []) (gx_fix F) (c_X7_takeNumber l sa D ad cy N H.size hN hI c9 d0 hc10) (cwV 2 hts gX6_readBeam_X7_takeNumber rfl rfl rfl (by decide +kernel) ⟨by decide, by decide⟩) (gx_rec F G ht2 (gwe_7 hk1) rfl) rfl rfl hl.1 rfl (lv_room (Nat.le_of_ble_eq_true rfl)) dX6_readBeam_24 ⟨Nat.zero_le _, Nat.zero_le _⟩) (fun H locs G => ?_)
    refine lv_if_ne (tgt := 32) hx hb dX6_readBeam_27 (by decide) (fun q13 => ?_) (fun q13 => ?_)
    · replace h := gf_s q13 h
      refine lv_aload_n hx hb dX6_readBeam_32 rfl (lv_at hl 0 rfl) ?_
      refine lv_aload_n hx hb dX6_readBeam_33 rfl (lv_at hl 1 rfl) ?_
      refine fg_7_value F G hk1 ht2 in7 (by decide +kernel) dX6_readBeam_34 ?_
      refine fp_6_play F G hk7 ht8 in6 (by decide +kernel) dX6_readBeam_37 (fun H locs G => ?_)
      obtain ⟨c14, ec14⟩ : ∃ z, z = gm_r c12 t (upd (c12.1 t) 8 (c12.1 a1 5)) := ⟨_, rfl⟩
      rw [← ec14] at G
      replace h := gv_s h c14 ec14
      refine lv_iconst (v := 1) hx hb dX6_readBeam_40 (by decide) ?_
      cases h
      rw [← hQ]
      exact gx_zret F G hr hlocks rfl dX6_readBeam_41
    · replace h := gt_s q13 h
      refine lv_iconst (v := 0) hx hb dX6_readBeam_30 (by decide) ?_
      cases h
      rw [← hQ]
      exact gx_zret F G hr hlocks rfl dX6_readBeam_31
  · replace h := gt_s q6 h
    refine lv_iconst (v := 0) hx hb dX6_readBeam_10 (by decide) ?_
    cases h
    rw [← hQ]
    exact gx_zret F G hr hlocks rfl dX6_readBeam_11
def m_X6_readClause (n : Nat) (t : Nat) (a1 : Nat) (a2 : Int32) (c : gm) : Option (Int32 × gm) :=
  gc (gck a1 = 7) (gb2 (m_X7_takeWord n a1 c) (fun (r4 : Int32) (c5 : gm) => (if r4 = 0 then some (0, c5) else gj (fun (v7 : Int32) => gb (m_X7_wordIs n a1 3 c5) (fun (r10 : Int32) => (if r10 = 0 then gb (m_X7_wordIs n a1 9 c5) (fun (r13 : Int32) => (if r13 = 0 then gb (m_X7_wordIs n a1 10 c5) (fun (r16 : Int32) => (if r16 = 0 then gb2 (m_X7_fail a1 1 (c5.1 a1 4) c5) (fun (r19 : Int32) (c20 : gm) => gc (r19 = 0 ∨ r19 = 1) (some (r19, c20))) else (if v7 = 0 then gc (gck t = 6) (gb2 (m_X6_readBeam n t a1 c5) (fun (r26 : Int32) (c27 : gm) => gc (r26 = 0 ∨ r26 = 1) (some (r26, c27)))) else gb2 (m_X7_fail a1 3 (c5.1 a1 4) c5) (fun (r30 : Int32) (c31 : gm) => gc (r30 = 0 ∨ r30 = 1) (some (r30, c31)))))) else gj (fun (_ : Unit) => gb2 (m_X7_fail a1 3 (c5.1 a1 4) c5) (fun (r35 : Int32) (c36 : gm) => gc (r35 = 0 ∨ r35 = 1) (some (r35, c36)))) (fun K33 => (if v7 = 0 then gc (gck t = 6) ((if (c5.1 t 6) < 10 then gb2 (m_X6_readCry n t a1 c5) (fun (r43 : Int32) (c44 : gm) => gc (r43 = 0 ∨ r43 = 1) (some (r43, c44))) else K33 ())) else K33 ())))) else gj (fun (_ : Unit) => gb2 (m_X7_fail a1 3 (c5.1 a1 4) c5) (fun (r48 : Int32) (c49 : gm) => gc (r48 = 0 ∨ r48 = 1) (some (r48, c49)))) (fun K46 => (if v7 = 0 then gc (gck t = 6) ((if (c5.1 t 5) < 8 then gb2 (m_X6_readThing n t a1 c5) (fun (r56 : Int32) (c57 : gm) => gc (r56 = 0 ∨ r56 = 1) (some (r56, c57))) else K46 ())) else K46 ()))))) (fun K8 => (if a2 < 60 then K8 0 else K8 1)))))
abbrev rmX6_readClause : Room := { frames := 6, cells := 0, slots := 0, locals := 128 }
set_option maxHeartbeats 4000000 in
set_option maxRecDepth 100000 in
theorem c_X6_readClause (l : Launch) (sa : gSa) (D : va_G) (ad : Nat → Nat) (cy : Nat → ClassId) (N sz : Nat) (hN : 55 ≤ N) (hI : gI ad N) (c d0 : gm) {n : Nat} {t : Nat} {a1 : Nat} {a2 : Int32} {rZ : Int32} {cZ : gm} (h : m_X6_readClause n t a1 a2 c = some (rZ, cZ)) : Met l yX6_readClause wsX6_readClause rmX6_readClause (va_Pc [.ref (ad t), .ref (ad a1), .int a2] (gP sa D ad cy N sz c d0)) (va_Qi (fun (z : Int32) (_ : Unit) => z = rZ) (fun _ U => gE D ad cy N cZ d0 U) (gA ad N sz)) 0 0 (gA ad N sz) := by
  refine Met.ofW (cc := cX6_readClause) (maxL := 4) (ret := (some .boolean)) (by decide) rfl ?_
  intro p e s m args below meth cod s₁ B hml hv
  obtain ⟨rfl, hsz, hP, hK, hZ⟩ := hv
  have hx := B.exec
  have hb := B.bytes
  have hr := B.returns
  have hts := atoms_spec (ws := wsX6_readClause) B.pre
  have hown : s.vm.findClass RX6 = some m.cls := findClass_of_methodNamed B.named
  have hlocks := B.notSynchronized
  subst hsz
  have hl := lv_entry ([.ref (ad t), .ref (ad a1), .int a2]) (n := 4) (Nat.le_of_ble_eq_true rfl)
  rw [lg_entry_eq]
  generalize (lg_sl ([.ref (ad t), .ref (ad a1), .int a2]) ++ List.replicate (4 - (lg_sl ([.ref (ad t), .ref (ad a1), .int a2])).length) Slot.unset).toArray = ls at hl ⊢
  have hl : lv_has ls 4 [(0, .ref (ad t)), (1, .ref (ad a1)), (2, .int a2)] := hl
  have in6 : ∀ w ∈ wsX60, w ∈ wsX6_readClause := by decide +kernel
  have in7 : ∀ w ∈ wsX70, w ∈ wsX6_readClause := by decide +kernel
  generalize hargs : ([.ref (ad t), .ref (ad a1), .int a2] : List Value).toArray = args at *
  generalize hAe : gA ad N s.heap.size = A
  have F : gF sa D ad cy N A p s m args cod cX6_readClause 4 wsX6_readClause RX6 := ⟨hx, hb, hml, hown, hts, hK, hI, by rw [← hAe]; exact gA_ad, by rw [← hAe]; exact gA_sz, by rw [← hAe]; exact hZ⟩
  have G : gW D ad cy N A s.heap c d0 s.heap [] := ⟨hP, va_S.rf⟩
  generalize hQ : MQ below (va_Qi (fun (z : Int32) (_ : Unit) => z = rZ) (fun _ U => gE D ad cy N cZ d0 U) A) args s 0 0 A = Q
  suffices hgen : ∀ (H : Heap) (locs : List Loc), gW D ad cy N A s.heap c d0 H locs → W p l e rmX6_readClause s m args below meth cod H locs 0 0 Q (F0 m 0 ls []) from hgen _ _ G
  clear G
  intro H locs G
  unfold m_X6_readClause at h
  refine lv_aload_n hx hb dX6_readClause_0 rfl (lv_at hl 1 rfl) ?_
  obtain ⟨hk1, h⟩ := gc_s h
  have ht2 : a1 < N := Nat.lt_of_lt_of_le (gck_lt7 hk1) hN
  obtain ⟨r4, c5, hc3, h⟩ := gb2_s h
  refine gx_calli F G (va_runV (As := []) (rest := []) (gx_fix F) (c_X7_takeWord l sa D ad cy N H.size hN hI c d0 hc3) (cwV 0 hts gX6_readClause_X7_takeWord rfl rfl rfl (by decide +kernel) ⟨by decide, by decide⟩) (gx_rec F G ht2 (gwe_7 hk1) rfl) rfl rfl hl.1 rfl (lv_room (Nat.le_of_ble_eq_true rfl)) dX6_readClause_1 ⟨Nat.zero_le _, Nat.zero_le _⟩) (fun H locs G => ?_)
  refine lv_if_ne (tgt := 9) hx hb dX6_readClause_4 (by decide) (fun q6 => ?_) (fun q6 => ?_)
  · replace h := gf_s q6 h
    refine lv_iload_n hx hb dX6_readClause_9 rfl (lv_at hl 2 rfl) ?_
    refine lv_bipush (v := 60) hx hb dX6_readClause_10 (by decide) ?_
    obtain ⟨K8, eK8, h⟩ := gj_s h
    have JK8 : ∀ (v7 : Int32) (H : Heap) (locs : List Loc) (ls : Array Slot), K8 v7 = some (rZ, cZ) → gW D ad cy N A s.heap c5 d0 H locs → lv_has ls 4 [(0, .ref (ad t)), (1, .ref (ad a1))] → W p l e rmX6_readClause s m args below meth cod H locs 0 0 Q (F0 m 20 ls [.int v7]) := by
      intro v7 H locs ls h G hl
      rw [eK8] at h
      refine lv_istore_n (lv' := [(3, .int v7), (0, .ref (ad t)), (1, .ref (ad a1))]) hx hb dX6_readClause_20 rfl hl (by decide) rfl (fun ls hl => ?_)
      refine lv_aload_n hx hb dX6_readClause_21 rfl (lv_at hl 2 rfl) ?_
      refine gx_ldcS F (w := 3) (tx := "thing") (by decide) dX6_readClause_22 ?_
      obtain ⟨r10, hc9, h⟩ := gb_s h
      refine gx_calli F G (va_runV (As := [.ref (sa.1 3)]) (rest := []) (gx_fix F) (c_X7_wordIs l sa D ad cy N H.size hN hI c5 d0 hc9) (cwV 1 hts gX6_readClause_X7_wordIs rfl rfl rfl (by decide +kernel) ⟨by decide, by decide⟩) (gx_rec F G ht2 (gwe_7 hk1) rfl) rfl rfl hl.1 rfl (lv_room (Nat.le_of_ble_eq_true rfl)) dX6_readClause_24 ⟨Nat.zero_le _, Nat.zero_le _⟩) (fun H locs G => ?_)
      refine lv_if_eq (tgt := 61) hx hb dX6_readClause_27 (by decide) (fun q11 => ?_) (fun q11 => ?_)
      · replace h := gt_s q11 h
        refine lv_aload_n hx hb dX6_readClause_61 rfl (lv_at hl 2 rfl) ?_
        refine gx_ldcS F (w := 9) (tx := "cry") (by decide) dX6_readClause_62 ?_
        obtain ⟨r13, hc12, h⟩ := gb_s h
        refine gx_calli F G (va_runV (As := [.ref (sa.1 9)]) (rest := []) (gx_fix F) (c_X7_wordIs l sa D ad cy N H.size hN hI c5 d0 hc12) (cwV 1 hts gX6_readClause_X7_wordIs rfl rfl rfl (by decide +kernel) ⟨by decide, by decide⟩) (gx_rec F G ht2 (gwe_7 hk1) rfl) rfl rfl hl.1 rfl (lv_room (Nat.le_of_ble_eq_true rfl)) dX6_readClause_64 ⟨Nat.zero_le _, Nat.zero_le _⟩) (fun H locs G => ?_)
        refine lv_if_eq (tgt := 101) hx hb dX6_readClause_67 (by decide) (fun q14 => ?_) (fun q14 => ?_)
        · replace h := gt_s q14 h
          refine lv_aload_n hx hb dX6_readClause_101 rfl (lv_at hl 2 rfl) ?_
          refine gx_ldcS F (w := 10) (tx := "beam") (by decide) dX6_readClause_102 ?_
          obtain ⟨r16, hc15, h⟩ := gb_s h
          refine gx_calli F G (va_runV (As := [.ref (sa.1 10)]) (rest := []) (gx_fix F) (c_X7_wordIs l sa D ad cy N H.size hN hI c5 d0 hc15) (cwV 1 hts gX6_readClause_X7_wordIs rfl rfl rfl (by decide +kernel) ⟨by decide, by decide⟩) (gx_rec F G ht2 (gwe_7 hk1) rfl) rfl rfl hl.1 rfl (lv_room (Nat.le_of_ble_eq_true rfl)) dX6_readClause_104 ⟨Nat.zero_le _, Nat.zero_le _⟩) (fun H locs G => ?_)
          refine lv_if_eq (tgt := 132) hx hb dX6_readClause_107 (by decide) (fun q17 => ?_) (fun q17 => ?_)
          · replace h := gt_s q17 h
            refine lv_aload_n hx hb dX6_readClause_132 rfl (lv_at hl 2 rfl) ?_
            refine lv_iconst (v := 1) hx hb dX6_readClause_133 (by decide) ?_
            refine lv_aload_n hx hb dX6_readClause_134 rfl (lv_at hl 2 rfl) ?_
            refine fg_7_mark F G hk1 ht2 in7 (by decide +kernel) dX6_readClause_135 ?_
            obtain ⟨r19, c20, hc18, h⟩ := gb2_s h
            refine gx_calli F G (va_runV (As := [.int 1, .int (c5.1 a1 4)]) (rest := []) (gx_fix F) (c_X7_fail l sa D ad cy N H.size hN hI c5 d0 hc18) (cwV 2 hts gX6_readClause_X7_fail rfl rfl rfl (by decide +kernel) ⟨by decide, by decide⟩) (gx_rec F G ht2 (gwe_7 hk1) rfl) rfl rfl hl.1 rfl (lv_room (Nat.le_of_ble_eq_true rfl)) dX6_readClause_138 ⟨Nat.zero_le _, Nat.zero_le _⟩) (fun H locs G => ?_)
            obtain ⟨hz21, h⟩ := gc_s h
            cases h
            rw [← hQ]
            exact gx_zret F G hr hlocks (gnb hz21) dX6_readClause_141
          · replace h := gf_s q17 h
            refine lv_iload_n hx hb dX6_readClause_110 rfl (lv_at hl 0 rfl) ?_
            refine lv_if_eq (tgt := 126) hx hb dX6_readClause_111 (by decide) (fun q22 => ?_) (fun q22 => ?_)
            · replace h := gt_s q22 h
              refine lv_aload_n hx hb dX6_readClause_126 rfl (lv_at hl 1 rfl) ?_
              refine lv_aload_n hx hb dX6_readClause_127 rfl (lv_at hl 2 rfl) ?_
              obtain ⟨hk23, h⟩ := gc_s h
              have ht24 : t < N := Nat.lt_of_lt_of_le (gck_lt6 hk23) hN
              obtain ⟨r26, c27, hc25, h⟩ := gb2_s h
              refine gx_calli F G (va_runV (As := [.ref (ad a1)]) (rest := []) (gx_fix F) (c_X6_readBeam l sa D ad cy N H.size hN hI c5 d0 hc25) (cwV 1 hts gX6_readClause_X6_readBeam rfl rfl rfl (by decide +kernel) ⟨by decide, by decide⟩) (gx_rec F G ht24 (gwe_6 hk23) rfl) rfl rfl hl.1 rfl (lv_room (Nat.le_of_ble_eq_true rfl)) dX6_readClause_128 ⟨Nat.zero_le _, Nat.zero_le _⟩) (fun H locs G => ?_)
              obtain ⟨hz28, h⟩ := gc_s h
              cases h
              rw [← hQ]
              exact gx_zret F G hr hlocks (gnb hz28) dX6_readClause_131
            · replace h := gf_s q22 h
              refine lv_aload_n hx hb dX6_readClause_114 rfl (lv_at hl 2 rfl) ?_
              refine lv_iconst (v := 3) hx hb dX6_readClause_115 (by decide) ?_
              refine lv_aload_n hx hb dX6_readClause_116 rfl (lv_at hl 2 rfl) ?_
              refine fg_7_mark F G hk1 ht2 in7 (by decide +kernel) dX6_readClause_117 ?_
              obtain ⟨r30, c31, hc29, h⟩ := gb2_s h
              refine gx_calli F G (va_runV (As := [.int 3, .int (c5.1 a1 4)]) (rest := []) (gx_fix F) (c_X7_fail l sa D ad cy N H.size hN hI c5 d0 hc29) (cwV 2 hts gX6_readClause_X7_fail rfl rfl rfl (by decide +kernel) ⟨by decide, by decide⟩) (gx_rec F G ht2 (gwe_7 hk1) rfl) rfl rfl hl.1 rfl (lv_room (Nat.le_of_ble_eq_true rfl)) dX6_readClause_120 ⟨Nat.zero_le _, Nat.zero_le _⟩) (fun H locs G => ?_)
              refine lv_goto (tgt := 131) hx hb dX6_readClause_123 (by decide) ?_
              obtain ⟨hz32, h⟩ := gc_s h
              cases h
              rw [← hQ]
              exact gx_zret F G hr hlocks (gnb hz32) dX6_readClause_131
        · replace h := gf_s q14 h
          refine lv_iload_n hx hb dX6_readClause_70 rfl (lv_at hl 0 rfl) ?_
          obtain ⟨K33, eK33, h⟩ := gj_s h
          have JK33 : ∀ (H : Heap) (locs : List Loc) (ls : Array Slot), K33 () = some (rZ, cZ) → gW D ad cy N A s.heap c5 d0 H locs → lv_has ls 4 [(1, .ref (ad a1))] → W p l e rmX6_readClause s m args below meth cod H locs 0 0 Q (F0 m 83 ls []) := by
            intro  H locs ls h G hl
            rw [eK33] at h
            refine lv_aload_n hx hb dX6_readClause_83 rfl (lv_at hl 0 rfl) ?_
            refine lv_iconst (v := 3) hx hb dX6_readClause_84 (by decide) ?_
            refine lv_aload_n hx hb dX6_readClause_85 rfl (lv_at hl 0 rfl) ?_
            refine fg_7_mark F G hk1 ht2 in7 (by decide +kernel) dX6_readClause_86 ?_
            obtain ⟨r35, c36, hc34, h⟩ := gb2_s h
            refine gx_calli F G (va_runV (As := [.int 3, .int (c5.1 a1 4)]) (rest := []) (gx_fix F) (c_X7_fail l sa D ad cy N H.size hN hI c5 d0 hc34) (cwV 2 hts gX6_readClause_X7_fail rfl rfl rfl (by decide +kernel) ⟨by decide, by decide⟩) (gx_rec F G ht2 (gwe_7 hk1) rfl) rfl rfl hl.1 rfl (lv_room (Nat.le_of_ble_eq_true rfl)) dX6_readClause_89 ⟨Nat.zero_le _, Nat.zero_le _⟩) (fun H locs G => ?_)
            refine lv_goto (tgt := 100) hx hb dX6_readClause_92 (by decide) ?_
            obtain ⟨hz37, h⟩ := gc_s h
            cases h
            rw [← hQ]
            exact gx_zret F G hr hlocks (gnb hz37) dX6_readClause_100
          refine lv_if_ne (tgt := 83) hx hb dX6_readClause_71 (by decide) (fun q38 => ?_) (fun q38 => ?_)
          · replace h := gf_s q38 h
            exact JK33  _ _ _ h G (lv_sub hl [2] rfl)
          · replace h := gt_s q38 h
            refine lv_aload_n hx hb dX6_readClause_74 rfl (lv_at hl 1 rfl) ?_
            obtain ⟨hk39, h⟩ := gc_s h
            have ht40 : t < N := Nat.lt_of_lt_of_le (gck_lt6 hk39) hN
            refine fg_6_cries F G hk39 ht40 in6 (by decide +kernel) dX6_readClause_75 ?_
            refine lv_bipush (v := 10) hx hb dX6_readClause_78 (by decide) ?_
            refine lv_icmp_lt (tgt := 95) hx hb dX6_readClause_80 (by decide) (fun q41 => ?_) (fun q41 => ?_)
            · replace h := gt_s q41 h
              refine lv_aload_n hx hb dX6_readClause_95 rfl (lv_at hl 1 rfl) ?_
              refine lv_aload_n hx hb dX6_readClause_96 rfl (lv_at hl 2 rfl) ?_
              obtain ⟨r43, c44, hc42, h⟩ := gb2_s h
              refine gx_calli F G (va_runV (As := [.ref (ad a1)]) (rest := []) (gx_fix F) (c_X6_readCry l sa D ad cy N H.size hN hI c5 d0 hc42) (cwV 1 hts gX6_readClause_X6_readCry rfl rfl rfl (by decide +kernel) ⟨by decide, by decide⟩) (gx_rec F G ht40 (gwe_6 hk39) rfl) rfl rfl hl.1 rfl (lv_room (Nat.le_of_ble_eq_true rfl)) dX6_readClause_97 ⟨Nat.zero_le _, Nat.zero_le _⟩) (fun H locs G => ?_)
              obtain ⟨hz45, h⟩ := gc_s h
              cases h
              rw [← hQ]
              exact gx_zret F G hr hlocks (gnb hz45) dX6_readClause_100
            · replace h := gf_s q41 h
              exact JK33  _ _ _ h G (lv_sub hl [2] rfl)
      · replace h := gf_s q11 h
        refine lv_iload_n hx hb dX6_readClause_30 rfl (lv_at hl 0 rfl) ?_
        obtain ⟨K46, eK46, h⟩ := gj_s h
        have JK46 : ∀ (H : Heap) (locs : List Loc) (ls : Array Slot), K46 () = some (rZ, cZ) → gW D ad cy N A s.heap c5 d0 H locs → lv_has ls 4 [(1, .ref (ad a1))] → W p l e rmX6_readClause s m args below meth cod H locs 0 0 Q (F0 m 43 ls []) := by
          intro  H locs ls h G hl
          rw [eK46] at h
          refine lv_aload_n hx hb dX6_readClause_43 rfl (lv_at hl 0 rfl) ?_
          refine lv_iconst (v := 3) hx hb dX6_readClause_44 (by decide) ?_
          refine lv_aload_n hx hb dX6_readClause_45 rfl (lv_at hl 0 rfl) ?_
          refine fg_7_mark F G hk1 ht2 in7 (by decide +kernel) dX6_readClause_46 ?_
          obtain ⟨r48, c49, hc47, h⟩ := gb2_s h
          refine gx_calli F G (va_runV (As := [.int 3, .int (c5.1 a1 4)]) (rest := []) (gx_fix F) (c_X7_fail l sa D ad cy N H.size hN hI c5 d0 hc47) (cwV 2 hts gX6_readClause_X7_fail rfl rfl rfl (by decide +kernel) ⟨by decide, by decide⟩) (gx_rec F G ht2 (gwe_7 hk1) rfl) rfl rfl hl.1 rfl (lv_room (Nat.le_of_ble_eq_true rfl)) dX6_readClause_49 ⟨Nat.zero_le _, Nat.zero_le _⟩) (fun H locs G => ?_)
          refine lv_goto (tgt := 60) hx hb dX6_readClause_52 (by decide) ?_
          obtain ⟨hz50, h⟩ := gc_s h
          cases h
          rw [← hQ]
          exact gx_zret F G hr hlocks (gnb hz50) dX6_readClause_60
        refine lv_if_ne (tgt := 43) hx hb dX6_readClause_31 (by decide) (fun q51 => ?_) (fun q51 => ?_)
        · replace h := gf_s q51 h
          exact JK46  _ _ _ h G (lv_sub hl [2] rfl)
        · replace h := gt_s q51 h
          refine lv_aload_n hx hb dX6_readClause_34 rfl (lv_at hl 1 rfl) ?_
          obtain ⟨hk52, h⟩ := gc_s h
          have ht53 : t < N := Nat.lt_of_lt_of_le (gck_lt6 hk52) hN
          refine fg_6_things F G hk52 ht53 in6 (by decide +kernel) dX6_readClause_35 ?_
          refine lv_bipush (v := 8) hx hb dX6_readClause_38 (by decide) ?_
          refine lv_icmp_lt (tgt := 55) hx hb dX6_readClause_40 (by decide) (fun q54 => ?_) (fun q54 => ?_)
          · replace h := gt_s q54 h
            refine lv_aload_n hx hb dX6_readClause_55 rfl (lv_at hl 1 rfl) ?_
            refine lv_aload_n hx hb dX6_readClause_56 rfl (lv_at hl 2 rfl) ?_
            obtain ⟨r56, c57, hc55, h⟩ := gb2_s h
            refine gx_calli F G (va_runV (As := [.ref (ad a1)]) (rest := []) (gx_fix F) (c_X6_readThing l sa D ad cy N H.size hN hI c5 d0 hc55) (cwV 1 hts gX6_readClause_X6_readThing rfl rfl rfl (by decide +kernel) ⟨by decide, by decide⟩) (gx_rec F G ht53 (gwe_6 hk52) rfl) rfl rfl hl.1 rfl (lv_room (Nat.le_of_ble_eq_true rfl)) dX6_readClause_57 ⟨Nat.zero_le _, Nat.zero_le _⟩) (fun H locs G => ?_)
            obtain ⟨hz58, h⟩ := gc_s h
            cases h
            rw [← hQ]
            exact gx_zret F G hr hlocks (gnb hz58) dX6_readClause_60
          · replace h := gf_s q54 h
            exact JK46  _ _ _ h G (lv_sub hl [2] rfl)
    refine lv_icmp_lt (tgt := 19) hx hb dX6_readClause_12 (by decide) (fun q59 => ?_) (fun q59 => ?_)
    · replace h := gt_s q59 h
      refine lv_iconst (v := 0) hx hb dX6_readClause_19 (by decide) ?_
      exact JK8 _ _ _ _ h G (lv_sub hl [0, 1] rfl)
    · replace h := gf_s q59 h
      refine lv_iconst (v := 1) hx hb dX6_readClause_15 (by decide) ?_
      refine lv_goto (tgt := 20) hx hb dX6_readClause_16 (by decide) ?_
      exact JK8 _ _ _ _ h G (lv_sub hl [0, 1] rfl)
  · replace h := gt_s q6 h
    refine lv_iconst (v := 0) hx hb dX6_readClause_7 (by decide) ?_
    cases h
    rw [← hQ]
    exact gx_zret F G hr hlocks rfl dX6_readClause_8
def m_X6_readFrom_L6 (n : Nat) (t : Nat) (a1 : Nat) (y7 : Int32) (c8 : gm) : Option ((Int32 × gm) ⊕ ((Int32 × gm) ⊕ (gm))) :=
  (if 60 < y7 then some (.inr (.inr c8)) else gc (gck a1 = 7) (gb2 (m_X7_hasMore n a1 c8) (fun (r14 : Int32) (c15 : gm) => (if r14 = 0 then some (.inr (.inr c15)) else gb2 (m_X6_readClause n t a1 y7 c15) (fun (r18 : Int32) (c19 : gm) => (if r18 = 0 then some (.inr (.inl (0, c19))) else gb2 (m_X7_takeSign n a1 59 c19) (fun (r22 : Int32) (c23 : gm) => (if r22 = 0 then some (.inr (.inl (0, c23))) else gv (y7 + 1) (fun (x25 : Int32) => some (.inl (x25, c23)))))))))))
def m_X6_readFrom (n : Nat) (t : Nat) (a1 : Nat) (c : gm) : Option (Int32 × gm) :=
  gc (gck t = 6) (gb (m_X6_becomeEmpty n t c) (fun (c5 : gm) => gb (gloop (gu2 (fun (y7 : Int32) (c8 : gm) => m_X6_readFrom_L6 n t a1 y7 c8)) n (0, c5)) (gsm (fun (c9 : gm) => some (1, c9)))))
abbrev rmX6_readFrom : Room := { frames := 7, cells := 0, slots := 0, locals := 151 }
set_option maxHeartbeats 4000000 in
set_option maxRecDepth 100000 in
theorem c_X6_readFrom (l : Launch) (sa : gSa) (D : va_G) (ad : Nat → Nat) (cy : Nat → ClassId) (N sz : Nat) (hN : 55 ≤ N) (hI : gI ad N) (c d0 : gm) {n : Nat} {t : Nat} {a1 : Nat} {rZ : Int32} {cZ : gm} (h : m_X6_readFrom n t a1 c = some (rZ, cZ)) : Met l yX6_readFrom wsX6_readFrom rmX6_readFrom (va_Pc [.ref (ad t), .ref (ad a1)] (gP sa D ad cy N sz c d0)) (va_Qi (fun (z : Int32) (_ : Unit) => z = rZ) (fun _ U => gE D ad cy N cZ d0 U) (gA ad N sz)) 0 0 (gA ad N sz) := by
  refine Met.ofW (cc := cX6_readFrom) (maxL := 3) (ret := (some .boolean)) (by decide) rfl ?_
  intro p e s m args below meth cod s₁ B hml hv
  obtain ⟨rfl, hsz, hP, hK, hZ⟩ := hv
  have hx := B.exec
  have hb := B.bytes
  have hr := B.returns
  have hts := atoms_spec (ws := wsX6_readFrom) B.pre
  have hown : s.vm.findClass RX6 = some m.cls := findClass_of_methodNamed B.named
  have hlocks := B.notSynchronized
  subst hsz
  have hl := lv_entry ([.ref (ad t), .ref (ad a1)]) (n := 3) (Nat.le_of_ble_eq_true rfl)
  rw [lg_entry_eq]
  generalize (lg_sl ([.ref (ad t), .ref (ad a1)]) ++ List.replicate (3 - (lg_sl ([.ref (ad t), .ref (ad a1)])).length) Slot.unset).toArray = ls at hl ⊢
  have hl : lv_has ls 3 [(0, .ref (ad t)), (1, .ref (ad a1))] := hl
  generalize hargs : ([.ref (ad t), .ref (ad a1)] : List Value).toArray = args at *
  generalize hAe : gA ad N s.heap.size = A
  have F : gF sa D ad cy N A p s m args cod cX6_readFrom 3 wsX6_readFrom RX6 := ⟨hx, hb, hml, hown, hts, hK, hI, by rw [← hAe]; exact gA_ad, by rw [← hAe]; exact gA_sz, by rw [← hAe]; exact hZ⟩
  have G : gW D ad cy N A s.heap c d0 s.heap [] := ⟨hP, va_S.rf⟩
  generalize hQ : MQ below (va_Qi (fun (z : Int32) (_ : Unit) => z = rZ) (fun _ U => gE D ad cy N cZ d0 U) A) args s 0 0 A = Q
  suffices hgen : ∀ (H : Heap) (locs : List Loc), gW D ad cy N A s.heap c d0 H locs → W p l e rmX6_readFrom s m args below meth cod H locs 0 0 Q (F0 m 0 ls []) from hgen _ _ G
  clear G
  intro H locs G
  unfold m_X6_readFrom at h
  refine lv_aload_n hx hb dX6_readFrom_0 rfl (lv_at hl 0 rfl) ?_
  obtain ⟨hk1, h⟩ := gc_s h
  have ht2 : t < N := Nat.lt_of_lt_of_le (gck_lt6 hk1) hN
  obtain ⟨c5, hc3, h⟩ := gb_s h
  refine gx_callv F G (va_runV (As := []) (rest := []) (gx_fix F) (c_X6_becomeEmpty l sa D ad cy N H.size hN hI c d0 hc3) (cwV 0 hts gX6_readFrom_X6_becomeEmpty rfl rfl rfl (by decide +kernel) ⟨by decide, by decide⟩) (gx_rec F G ht2 (gwe_6 hk1) rfl) rfl rfl hl.1 rfl (lv_room (Nat.le_of_ble_eq_true rfl)) dX6_readFrom_1 ⟨Nat.zero_le _, Nat.zero_le _⟩) (fun H locs G => ?_)
  refine lv_iconst (v := 0) hx hb dX6_readFrom_4 (by decide) ?_
  refine lv_istore_n (lv' := [(2, .int 0), (0, .ref (ad t)), (1, .ref (ad a1))]) hx hb dX6_readFrom_5 rfl hl (by decide) rfl (fun ls hl => ?_)
  obtain ⟨b6, hb6, hK6⟩ := gb_s h
  have E6 : ∀ (c9 : gm) (H : Heap) (locs : List Loc) (ls : Array Slot), (Sum.inr c9 : (Int32 × gm) ⊕ (gm)) = b6 → gW D ad cy N A s.heap c9 d0 H locs → lv_has ls 3 [] → W p l e rmX6_readFrom s m args below meth cod H locs 0 0 Q (F0 m 45 ls []) := by
    intro c9 H locs ls hq6 G hl
    subst hq6
    replace hK6 := gsm_r hK6
    have h := hK6
    refine lv_iconst (v := 1) hx hb dX6_readFrom_45 (by decide) ?_
    cases h
    rw [← hQ]
    exact gx_zret F G hr hlocks rfl dX6_readFrom_46
  have L6 : ∀ (n9 : Nat) (y7 : Int32) (c8 : gm) (H : Heap) (locs : List Loc) (ls : Array Slot), gloop (gu2 (fun (y7 : Int32) (c8 : gm) => m_X6_readFrom_L6 n t a1 y7 c8)) n9 (y7, c8) = some b6 → gW D ad cy N A s.heap c8 d0 H locs → lv_has ls 3 [(0, .ref (ad t)), (1, .ref (ad a1)), (2, .int y7)] → W p l e rmX6_readFrom s m args below meth cod H locs 0 0 Q (F0 m 6 ls []) := by
    intro n9
    induction n9 with
    | zero => intro y7 c8 H locs ls h; exact (gloop_0 h).elim
    | succ n9 ih =>
      intro y7 c8 H locs ls h G hl
      have ih6 := ih
      obtain ⟨o6, h, hn6⟩ := gloop_s h
      replace h := gu2_s h
      unfold m_X6_readFrom_L6 at h
      refine lv_iload_n hx hb dX6_readFrom_6 rfl (lv_at hl 2 rfl) ?_
      refine lv_bipush (v := 60) hx hb dX6_readFrom_7 (by decide) ?_
      refine lv_icmp_gt (tgt := 45) hx hb dX6_readFrom_9 (by decide) (fun q10 => ?_) (fun q10 => ?_)
      · replace h := gt_s q10 h
        cases h
        exact E6 _ _ _ _ (gnx_r hn6) G (lv_sub hl [] rfl)
      · replace h := gf_s q10 h
        refine lv_aload_n hx hb dX6_readFrom_12 rfl (lv_at hl 1 rfl) ?_
        obtain ⟨hk11, h⟩ := gc_s h
        have ht12 : a1 < N := Nat.lt_of_lt_of_le (gck_lt7 hk11) hN
        obtain ⟨r14, c15, hc13, h⟩ := gb2_s h
        refine gx_calli F G (va_runV (As := []) (rest := []) (gx_fix F) (c_X7_hasMore l sa D ad cy N H.size hN hI c8 d0 hc13) (cwV 0 hts gX6_readFrom_X7_hasMore rfl rfl rfl (by decide +kernel) ⟨by decide, by decide⟩) (gx_rec F G ht12 (gwe_7 hk11) rfl) rfl rfl hl.1 rfl (lv_room (Nat.le_of_ble_eq_true rfl)) dX6_readFrom_13 ⟨Nat.zero_le _, Nat.zero_le _⟩) (fun H locs G => ?_)
        refine lv_if_eq (tgt := 45) hx hb dX6_readFrom_16 (by decide) (fun q16 => ?_) (fun q16 => ?_)
        · replace h := gt_s q16 h
          cases h
          exact E6 _ _ _ _ (gnx_r hn6) G (lv_sub hl [] rfl)
        · replace h := gf_s q16 h
          refine lv_aload_n hx hb dX6_readFrom_19 rfl (lv_at hl 0 rfl) ?_
          refine lv_aload_n hx hb dX6_readFrom_20 rfl (lv_at hl 1 rfl) ?_
          refine lv_iload_n hx hb dX6_readFrom_21 rfl (lv_at hl 2 rfl) ?_
          obtain ⟨r18, c19, hc17, h⟩ := gb2_s h
          refine gx_calli F G (va_runV (As := [.ref (ad a1), .int y7]) (rest := []) (gx_fix F) (c_X6_readClause l sa D ad cy N H.size hN hI c15 d0 hc17) (cwV 2 hts gX6_readFrom_X6_readClause rfl rfl rfl (by decide +kernel) ⟨by decide, by decide⟩) (gx_rec F G ht2 (gwe_6 hk1) rfl) rfl rfl hl.1 rfl (lv_room (Nat.le_of_ble_eq_true rfl)) dX6_readFrom_22 ⟨Nat.zero_le _, Nat.zero_le _⟩) (fun H locs G => ?_)
          refine lv_if_eq (tgt := 37) hx hb dX6_readFrom_25 (by decide) (fun q20 => ?_) (fun q20 => ?_)
          · replace h := gt_s q20 h
            refine lv_iconst (v := 0) hx hb dX6_readFrom_37 (by decide) ?_
            cases h
            cases gnx_r hn6
            cases gsm_l hK6
            rw [← hQ]
            exact gx_zret F G hr hlocks rfl dX6_readFrom_38
          · replace h := gf_s q20 h
            refine lv_aload_n hx hb dX6_readFrom_28 rfl (lv_at hl 1 rfl) ?_
            refine lv_bipush (v := 59) hx hb dX6_readFrom_29 (by decide) ?_
            obtain ⟨r22, c23, hc21, h⟩ := gb2_s h
            refine gx_calli F G (va_runV (As := [.int 59]) (rest := []) (gx_fix F) (c_X7_takeSign l sa D ad cy N H.size hN hI c19 d0 hc21) (cwV 1 hts gX6_readFrom_X7_takeSign rfl rfl rfl (by decide +kernel) ⟨by decide, by decide⟩) (gx_rec F G ht12 (gwe_7 hk11) rfl) rfl rfl hl.1 rfl (lv_room (Nat.le_of_ble_eq_true rfl)) dX6_readFrom_31 ⟨Nat.zero_le _, Nat.zero_le _⟩) (fun H locs G => ?_)
            refine lv_if_ne (tgt := 39) hx hb dX6_readFrom_34 (by decide) (fun q24 => ?_) (fun q24 => ?_)
            · replace h := gf_s q24 h
              obtain ⟨x25, ex25⟩ : ∃ z : Int32, z = y7 + 1 := ⟨_, rfl⟩
              replace h := gv_s h x25 ex25
              refine lv_iinc (v := x25) (lv' := [(2, .int x25), (0, .ref (ad t)), (1, .ref (ad a1))]) hx hb dX6_readFrom_39 hl (k := 2) rfl (by rw [ex25]; rfl) (by decide) rfl (fun ls hl => ?_)
              refine lv_goto (tgt := 6) hx hb dX6_readFrom_42 (by decide) ?_
              cases h
              exact ih6 _ _ _ _ _ hn6 G (lv_sub hl [1, 2, 0] rfl)
            · replace h := gt_s q24 h
              refine lv_iconst (v := 0) hx hb dX6_readFrom_37 (by decide) ?_
              cases h
              cases gnx_r hn6
              cases gsm_l hK6
              rw [← hQ]
              exact gx_zret F G hr hlocks rfl dX6_readFrom_38
  exact L6 n _ _ _ _ _ hb6 G (lv_sub hl [1, 2, 0] rfl)
def m_X6_toldOf (t : Nat) (a1 : Int32) (c : gm) : Option (Int32) :=
  gc (gck t = 6) (gb (m_X6_isThing t a1 c) (fun (r4 : Int32) => (if r4 = 0 then some 0 else gc (0 ≤ a1.toInt ∧ a1.toInt < 8) (some (c.1 (t + 1) a1.toNatClampNeg)))))
abbrev rmX6_toldOf : Room := { frames := 1, cells := 0, slots := 0, locals := 21 }
set_option maxHeartbeats 4000000 in
set_option maxRecDepth 100000 in
theorem c_X6_toldOf (l : Launch) (sa : gSa) (D : va_G) (ad : Nat → Nat) (cy : Nat → ClassId) (N sz : Nat) (hN : 55 ≤ N) (hI : gI ad N) (c d0 : gm) {t : Nat} {a1 : Int32} {rZ : Int32} (h : m_X6_toldOf t a1 c = some rZ) : Met l yX6_toldOf wsX6_toldOf rmX6_toldOf (va_Pc [.ref (ad t), .int a1] (gP sa D ad cy N sz c d0)) (va_Qi (fun (z : Int32) (_ : Unit) => z = rZ) (fun _ U => gE D ad cy N c d0 U) (gA ad N sz)) 0 0 (gA ad N sz) := by
  refine Met.ofW (cc := cX6_toldOf) (maxL := 2) (ret := (some .int)) (by decide) rfl ?_
  intro p e s m args below meth cod s₁ B hml hv
  obtain ⟨rfl, hsz, hP, hK, hZ⟩ := hv
  have hx := B.exec
  have hb := B.bytes
  have hr := B.returns
  have hts := atoms_spec (ws := wsX6_toldOf) B.pre
  have hown : s.vm.findClass RX6 = some m.cls := findClass_of_methodNamed B.named
  have hlocks := B.notSynchronized
  subst hsz
  have hl := lv_entry ([.ref (ad t), .int a1]) (n := 2) (Nat.le_of_ble_eq_true rfl)
  rw [lg_entry_eq]
  generalize (lg_sl ([.ref (ad t), .int a1]) ++ List.replicate (2 - (lg_sl ([.ref (ad t), .int a1])).length) Slot.unset).toArray = ls at hl ⊢
  have hl : lv_has ls 2 [(0, .ref (ad t)), (1, .int a1)] := hl
  have in6 : ∀ w ∈ wsX60, w ∈ wsX6_toldOf := by decide +kernel
  generalize hargs : ([.ref (ad t), .int a1] : List Value).toArray = args at *
  generalize hAe : gA ad N s.heap.size = A
  have F : gF sa D ad cy N A p s m args cod cX6_toldOf 2 wsX6_toldOf RX6 := ⟨hx, hb, hml, hown, hts, hK, hI, by rw [← hAe]; exact gA_ad, by rw [← hAe]; exact gA_sz, by rw [← hAe]; exact hZ⟩
  have G : gW D ad cy N A s.heap c d0 s.heap [] := ⟨hP, va_S.rf⟩
  generalize hQ : MQ below (va_Qi (fun (z : Int32) (_ : Unit) => z = rZ) (fun _ U => gE D ad cy N c d0 U) A) args s 0 0 A = Q
  suffices hgen : ∀ (H : Heap) (locs : List Loc), gW D ad cy N A s.heap c d0 H locs → W p l e rmX6_toldOf s m args below meth cod H locs 0 0 Q (F0 m 0 ls []) from hgen _ _ G
  clear G
  intro H locs G
  unfold m_X6_toldOf at h
  refine lv_aload_n hx hb dX6_toldOf_0 rfl (lv_at hl 0 rfl) ?_
  refine lv_iload_n hx hb dX6_toldOf_1 rfl (lv_at hl 1 rfl) ?_
  obtain ⟨hk1, h⟩ := gc_s h
  have ht2 : t < N := Nat.lt_of_lt_of_le (gck_lt6 hk1) hN
  obtain ⟨r4, hc3, h⟩ := gb_s h
  refine gx_calli F G (va_runV (As := [.int a1]) (rest := []) (gx_fix F) (c_X6_isThing l sa D ad cy N H.size hN hI c d0 hc3) (cwV 1 hts gX6_toldOf_X6_isThing rfl rfl rfl (by decide +kernel) ⟨by decide, by decide⟩) (gx_rec F G ht2 (gwe_6 hk1) rfl) rfl rfl hl.1 rfl (lv_room (Nat.le_of_ble_eq_true rfl)) dX6_toldOf_2 ⟨Nat.zero_le _, Nat.zero_le _⟩) (fun H locs G => ?_)
  refine lv_if_eq (tgt := 17) hx hb dX6_toldOf_5 (by decide) (fun q5 => ?_) (fun q5 => ?_)
  · replace h := gt_s q5 h
    refine lv_iconst (v := 0) hx hb dX6_toldOf_17 (by decide) ?_
    cases h
    rw [← hQ]
    exact gx_iret F G hr hlocks dX6_toldOf_18
  · replace h := gf_s q5 h
    refine lv_aload_n hx hb dX6_toldOf_8 rfl (lv_at hl 0 rfl) ?_
    refine fg_6_told F G hk1 ht2 in6 (by decide +kernel) dX6_toldOf_9 ?_
    obtain ⟨hk6, hn8⟩ := gka_6_told hk1
    have ht7 : (t + 1) < N := Nat.lt_of_lt_of_le (gck_lt12 hk6) hN
    refine lv_iload_n hx hb dX6_toldOf_12 rfl (lv_at hl 1 rfl) ?_
    obtain ⟨hi9, h⟩ := gc_s h
    refine gx_ia F G hk6 ht7 hn8 hi9 dX6_toldOf_13 ?_
    refine lv_goto (tgt := 18) hx hb dX6_toldOf_14 (by decide) ?_
    cases h
    rw [← hQ]
    exact gx_iret F G hr hlocks dX6_toldOf_18
def m_X6_weightOfAll_L4 (t : Nat) (c : gm) (y2 : Int32) (y3 : Int32) : Option ((Int32 × Int32) ⊕ (Int32)) :=
  gc (gck t = 6) ((if (c.1 t 5) ≤ y3 then some (.inr y2) else gb (m_X6_weightOf t y3 c) (fun (r9 : Int32) => gv (y2 + r9) (fun (x10 : Int32) => gv (y3 + 1) (fun (x11 : Int32) => some (.inl (x10, x11)))))))
def m_X6_weightOfAll (n : Nat) (t : Nat) (c : gm) : Option (Int32) :=
  gb (gloop (gu2 (fun (y2 : Int32) (y3 : Int32) => m_X6_weightOfAll_L4 t c y2 y3)) n (0, 0)) (fun (z4 : Int32) => some z4)
abbrev rmX6_weightOfAll : Room := { frames := 2, cells := 0, slots := 0, locals := 42 }
set_option maxHeartbeats 4000000 in
set_option maxRecDepth 100000 in
theorem c_X6_weightOfAll (l : Launch) (sa : gSa) (D : va_G) (ad : Nat → Nat) (cy : Nat → ClassId) (N sz : Nat) (hN : 55 ≤ N) (hI : gI ad N) (c d0 : gm) {n : Nat} {t : Nat} {rZ : Int32} (h : m_X6_weightOfAll n t c = some rZ) : Met l yX6_weightOfAll wsX6_weightOfAll rmX6_weightOfAll (va_Pc [.ref (ad t)] (gP sa D ad cy N sz c d0)) (va_Qi (fun (z : Int32) (_ : Unit) => z = rZ) (fun _ U => gE D ad cy N c d0 U) (gA ad N sz)) 0 0 (gA ad N sz) := by
  refine Met.ofW (cc := cX6_weightOfAll) (maxL := 3) (ret := (some .int)) (by decide) rfl ?_
  intro p e s m args below meth cod s₁ B hml hv
  obtain ⟨rfl, hsz, hP, hK, hZ⟩ := hv
  have hx := B.exec
  have hb := B.bytes
  have hr := B.returns
  have hts := atoms_spec (ws := wsX6_weightOfAll) B.pre
  have hown : s.vm.findClass RX6 = some m.cls := findClass_of_methodNamed B.named
  have hlocks := B.notSynchronized
  subst hsz
  have hl := lv_entry ([.ref (ad t)]) (n := 3) (Nat.le_of_ble_eq_true rfl)
  rw [lg_entry_eq]
  generalize (lg_sl ([.ref (ad t)]) ++ List.replicate (3 - (lg_sl ([.ref (ad t)])).length) Slot.unset).toArray = ls at hl ⊢
  have hl : lv_has ls 3 [(0, .ref (ad t))] := hl
  have in6 : ∀ w ∈ wsX60, w ∈ wsX6_weightOfAll := by decide +kernel
  generalize hargs : ([.ref (ad t)] : List Value).toArray = args at *
  generalize hAe : gA ad N s.heap.size = A
  have F : gF sa D ad cy N A p s m args cod cX6_weightOfAll 3 wsX6_weightOfAll RX6 := ⟨hx, hb, hml, hown, hts, hK, hI, by rw [← hAe]; exact gA_ad, by rw [← hAe]; exact gA_sz, by rw [← hAe]; exact hZ⟩
  have G : gW D ad cy N A s.heap c d0 s.heap [] := ⟨hP, va_S.rf⟩
  generalize hQ : MQ below (va_Qi (fun (z : Int32) (_ : Unit) => z = rZ) (fun _ U => gE D ad cy N c d0 U) A) args s 0 0 A = Q
  suffices hgen : ∀ (H : Heap) (locs : List Loc), gW D ad cy N A s.heap c d0 H locs → W p l e rmX6_weightOfAll s m args below meth cod H locs 0 0 Q (F0 m 0 ls []) from hgen _ _ G
  clear G
  intro H locs G
  unfold m_X6_weightOfAll at h
  refine lv_iconst (v := 0) hx hb dX6_weightOfAll_0 (by decide) ?_
  refine lv_istore_n (lv' := [(1, .int 0), (0, .ref (ad t))]) hx hb dX6_weightOfAll_1 rfl hl (by decide) rfl (fun ls hl => ?_)
  refine lv_iconst (v := 0) hx hb dX6_weightOfAll_2 (by decide) ?_
  refine lv_istore_n (lv' := [(2, .int 0), (1, .int 0), (0, .ref (ad t))]) hx hb dX6_weightOfAll_3 rfl hl (by decide) rfl (fun ls hl => ?_)
  obtain ⟨b1, hb1, hK1⟩ := gb_s h
  have E1 : ∀ (z4 : Int32) (H : Heap) (locs : List Loc) (ls : Array Slot), (z4 : Int32) = b1 → gW D ad cy N A s.heap c d0 H locs → lv_has ls 3 [(1, .int z4)] → W p l e rmX6_weightOfAll s m args below meth cod H locs 0 0 Q (F0 m 26 ls []) := by
    intro z4 H locs ls hq1 G hl
    subst hq1
    replace hK1 := hK1
    have h := hK1
    refine lv_iload_n hx hb dX6_weightOfAll_26 rfl (lv_at hl 0 rfl) ?_
    cases h
    rw [← hQ]
    exact gx_iret F G hr hlocks dX6_weightOfAll_27
  have L1 : ∀ (n9 : Nat) (y2 : Int32) (y3 : Int32) (H : Heap) (locs : List Loc) (ls : Array Slot), gloop (gu2 (fun (y2 : Int32) (y3 : Int32) => m_X6_weightOfAll_L4 t c y2 y3)) n9 (y2, y3) = some b1 → gW D ad cy N A s.heap c d0 H locs → lv_has ls 3 [(0, .ref (ad t)), (1, .int y2), (2, .int y3)] → W p l e rmX6_weightOfAll s m args below meth cod H locs 0 0 Q (F0 m 4 ls []) := by
    intro n9
    induction n9 with
    | zero => intro y2 y3 H locs ls h; exact (gloop_0 h).elim
    | succ n9 ih =>
      intro y2 y3 H locs ls h G hl
      have ih1 := ih
      obtain ⟨o1, h, hn1⟩ := gloop_s h
      replace h := gu2_s h
      unfold m_X6_weightOfAll_L4 at h
      refine lv_iload_n hx hb dX6_weightOfAll_4 rfl (lv_at hl 2 rfl) ?_
      refine lv_aload_n hx hb dX6_weightOfAll_5 rfl (lv_at hl 0 rfl) ?_
      obtain ⟨hk5, h⟩ := gc_s h
      have ht6 : t < N := Nat.lt_of_lt_of_le (gck_lt6 hk5) hN
      refine fg_6_things F G hk5 ht6 in6 (by decide +kernel) dX6_weightOfAll_6 ?_
      refine lv_icmp_ge (tgt := 26) hx hb dX6_weightOfAll_9 (by decide) (fun q7 => ?_) (fun q7 => ?_)
      · replace h := gt_s q7 h
        cases h
        exact E1 _ _ _ _ (gnx_r hn1) G (lv_sub hl [1] rfl)
      · replace h := gf_s q7 h
        refine lv_iload_n hx hb dX6_weightOfAll_12 rfl (lv_at hl 1 rfl) ?_
        refine lv_aload_n hx hb dX6_weightOfAll_13 rfl (lv_at hl 0 rfl) ?_
        refine lv_iload_n hx hb dX6_weightOfAll_14 rfl (lv_at hl 2 rfl) ?_
        obtain ⟨r9, hc8, h⟩ := gb_s h
        refine gx_calli F G (va_runV (As := [.int y3]) (rest := [.int y2]) (gx_fix F) (c_X6_weightOf l sa D ad cy N H.size hN hI c d0 hc8) (cwV 1 hts gX6_weightOfAll_X6_weightOf rfl rfl rfl (by decide +kernel) ⟨by decide, by decide⟩) (gx_rec F G ht6 (gwe_6 hk5) rfl) rfl rfl hl.1 rfl (lv_room (Nat.le_of_ble_eq_true rfl)) dX6_weightOfAll_15 ⟨Nat.zero_le _, Nat.zero_le _⟩) (fun H locs G => ?_)
        refine lv_iadd hx hb dX6_weightOfAll_18 ?_
        refine lv_topi (fun x10 ex10 => ?_)
        replace h := gv_s h x10 ex10
        refine lv_istore_n (lv' := [(1, .int x10), (0, .ref (ad t)), (2, .int y3)]) hx hb dX6_weightOfAll_19 rfl hl (by decide) rfl (fun ls hl => ?_)
        obtain ⟨x11, ex11⟩ : ∃ z : Int32, z = y3 + 1 := ⟨_, rfl⟩
        replace h := gv_s h x11 ex11
        refine lv_iinc (v := x11) (lv' := [(2, .int x11), (1, .int x10), (0, .ref (ad t))]) hx hb dX6_weightOfAll_20 hl (k := 2) rfl (by rw [ex11]; rfl) (by decide) rfl (fun ls hl => ?_)
        refine lv_goto (tgt := 4) hx hb dX6_weightOfAll_23 (by decide) ?_
        cases h
        exact ih1 _ _ _ _ _ hn1 G (lv_sub hl [2, 1, 0] rfl)
  exact L1 n _ _ _ _ _ hb1 G (lv_sub hl [2, 1, 0] rfl)
def m_X6_heaviestThing_L4 (t : Nat) (c : gm) (y2 : Int32) (y3 : Int32) : Option ((Int32 × Int32) ⊕ (Int32)) :=
  gc (gck t = 6) ((if (c.1 t 5) ≤ y3 then some (.inr y2) else gj (fun (v8 : Int32) => gv (y3 + 1) (fun (x10 : Int32) => some (.inl (v8, x10)))) (fun K9 => gj (fun (_ : Unit) => K9 y3) (fun K11 => (if y2 = (-1) then K11 () else gb (m_X6_weightOf t y3 c) (fun (r14 : Int32) => gb (m_X6_weightOf t y2 c) (fun (r16 : Int32) => (if r14 ≤ r16 then K9 y2 else K11 ()))))))))
def m_X6_heaviestThing (n : Nat) (t : Nat) (c : gm) : Option (Int32) :=
  gb (gloop (gu2 (fun (y2 : Int32) (y3 : Int32) => m_X6_heaviestThing_L4 t c y2 y3)) n ((-1), 0)) (fun (z4 : Int32) => some z4)
abbrev rmX6_heaviestThing : Room := { frames := 2, cells := 0, slots := 0, locals := 42 }
set_option maxHeartbeats 4000000 in
set_option maxRecDepth 100000 in
theorem c_X6_heaviestThing (l : Launch) (sa : gSa) (D : va_G) (ad : Nat → Nat) (cy : Nat → ClassId) (N sz : Nat) (hN : 55 ≤ N) (hI : gI ad N) (c d0 : gm) {n : Nat} {t : Nat} {rZ : Int32} (h : m_X6_heaviestThing n t c = some rZ) : Met l yX6_heaviestThing wsX6_heaviestThing rmX6_heaviestThing (va_Pc [.ref (ad t)] (gP sa D ad cy N sz c d0)) (va_Qi (fun (z : Int32) (_ : Unit) => z = rZ) (fun _ U => gE D ad cy N c d0 U) (gA ad N sz)) 0 0 (gA ad N sz) := by
  refine Met.ofW (cc := cX6_heaviestThing) (maxL := 3) (ret := (some .int)) (by decide) rfl ?_
  intro p e s m args below meth cod s₁ B hml hv
  obtain ⟨rfl, hsz, hP, hK, hZ⟩ := hv
  have hx := B.exec
  have hb := B.bytes
  have hr := B.returns
  have hts := atoms_spec (ws := wsX6_heaviestThing) B.pre
  have hown : s.vm.findClass RX6 = some m.cls := findClass_of_methodNamed B.named
  have hlocks := B.notSynchronized
  subst hsz
  have hl := lv_entry ([.ref (ad t)]) (n := 3) (Nat.le_of_ble_eq_true rfl)
  rw [lg_entry_eq]
  generalize (lg_sl ([.ref (ad t)]) ++ List.replicate (3 - (lg_sl ([.ref (ad t)])).length) Slot.unset).toArray = ls at hl ⊢
  have hl : lv_has ls 3 [(0, .ref (ad t))] := hl
  have in6 : ∀ w ∈ wsX60, w ∈ wsX6_heaviestThing := by decide +kernel
  generalize hargs : ([.ref (ad t)] : List Value).toArray = args at *
  generalize hAe : gA ad N s.heap.size = A
  have F : gF sa D ad cy N A p s m args cod cX6_heaviestThing 3 wsX6_heaviestThing RX6 := ⟨hx, hb, hml, hown, hts, hK, hI, by rw [← hAe]; exact gA_ad, by rw [← hAe]; exact gA_sz, by rw [← hAe]; exact hZ⟩
  have G : gW D ad cy N A s.heap c d0 s.heap [] := ⟨hP, va_S.rf⟩
  generalize hQ : MQ below (va_Qi (fun (z : Int32) (_ : Unit) => z = rZ) (fun _ U => gE D ad cy N c d0 U) A) args s 0 0 A = Q
  suffices hgen : ∀ (H : Heap) (locs : List Loc), gW D ad cy N A s.heap c d0 H locs → W p l e rmX6_heaviestThing s m args below meth cod H locs 0 0 Q (F0 m 0 ls []) from hgen _ _ G
  clear G
  intro H locs G
  unfold m_X6_heaviestThing at h
  refine lv_iconst (v := (-1)) hx hb dX6_heaviestThing_0 (by decide) ?_
  refine lv_istore_n (lv' := [(1, .int (-1)), (0, .ref (ad t))]) hx hb dX6_heaviestThing_1 rfl hl (by decide) rfl (fun ls hl => ?_)
  refine lv_iconst (v := 0) hx hb dX6_heaviestThing_2 (by decide) ?_
  refine lv_istore_n (lv' := [(2, .int 0), (1, .int (-1)), (0, .ref (ad t))]) hx hb dX6_heaviestThing_3 rfl hl (by decide) rfl (fun ls hl => ?_)
  obtain ⟨b1, hb1, hK1⟩ := gb_s h
  have E1 : ∀ (z4 : Int32) (H : Heap) (locs : List Loc) (ls : Array Slot), (z4 : Int32) = b1 → gW D ad cy N A s.heap c d0 H locs → lv_has ls 3 [(1, .int z4)] → W p l e rmX6_heaviestThing s m args below meth cod H locs 0 0 Q (F0 m 38 ls []) := by
    intro z4 H locs ls hq1 G hl
    subst hq1
    replace hK1 := hK1
    have h := hK1
    refine lv_iload_n hx hb dX6_heaviestThing_38 rfl (lv_at hl 0 rfl) ?_
    cases h
    rw [← hQ]
    exact gx_iret F G hr hlocks dX6_heaviestThing_39
  have L1 : ∀ (n9 : Nat) (y2 : Int32) (y3 : Int32) (H : Heap) (locs : List Loc) (ls : Array Slot), gloop (gu2 (fun (y2 : Int32) (y3 : Int32) => m_X6_heaviestThing_L4 t c y2 y3)) n9 (y2, y3) = some b1 → gW D ad cy N A s.heap c d0 H locs → lv_has ls 3 [(0, .ref (ad t)), (1, .int y2), (2, .int y3)] → W p l e rmX6_heaviestThing s m args below meth cod H locs 0 0 Q (F0 m 4 ls []) := by
    intro n9
    induction n9 with
    | zero => intro y2 y3 H locs ls h; exact (gloop_0 h).elim
    | succ n9 ih =>
      intro y2 y3 H locs ls h G hl
      have ih1 := ih
      obtain ⟨o1, h, hn1⟩ := gloop_s h
      replace h := gu2_s h
      unfold m_X6_heaviestThing_L4 at h
      refine lv_iload_n hx hb dX6_heaviestThing_4 rfl (lv_at hl 2 rfl) ?_
      refine lv_aload_n hx hb dX6_heaviestThing_5 rfl (lv_at hl 0 rfl) ?_
      obtain ⟨hk5, h⟩ := gc_s h
      have ht6 : t < N := Nat.lt_of_lt_of_le (gck_lt6 hk5) hN
      refine fg_6_things F G hk5 ht6 in6 (by decide +kernel) dX6_heaviestThing_6 ?_
      refine lv_icmp_ge (tgt := 38) hx hb dX6_heaviestThing_9 (by decide) (fun q7 => ?_) (fun q7 => ?_)
      · replace h := gt_s q7 h
        cases h
        exact E1 _ _ _ _ (gnx_r hn1) G (lv_sub hl [1] rfl)
      · replace h := gf_s q7 h
        refine lv_iload_n hx hb dX6_heaviestThing_12 rfl (lv_at hl 1 rfl) ?_
        refine lv_iconst (v := (-1)) hx hb dX6_heaviestThing_13 (by decide) ?_
        obtain ⟨K9, eK9, h⟩ := gj_s h
        have JK9 : ∀ (v8 : Int32) (H : Heap) (locs : List Loc) (ls : Array Slot), K9 v8 = some o1 → gW D ad cy N A s.heap c d0 H locs → lv_has ls 3 [(0, .ref (ad t)), (1, .int v8), (2, .int y3)] → W p l e rmX6_heaviestThing s m args below meth cod H locs 0 0 Q (F0 m 32 ls []) := by
          intro v8 H locs ls h G hl
          rw [eK9] at h
          obtain ⟨x10, ex10⟩ : ∃ z : Int32, z = y3 + 1 := ⟨_, rfl⟩
          replace h := gv_s h x10 ex10
          refine lv_iinc (v := x10) (lv' := [(2, .int x10), (0, .ref (ad t)), (1, .int v8)]) hx hb dX6_heaviestThing_32 hl (k := 2) rfl (by rw [ex10]; rfl) (by decide) rfl (fun ls hl => ?_)
          refine lv_goto (tgt := 4) hx hb dX6_heaviestThing_35 (by decide) ?_
          cases h
          exact ih1 _ _ _ _ _ hn1 G (lv_sub hl [1, 2, 0] rfl)
        obtain ⟨K11, eK11, h⟩ := gj_s h
        have JK11 : ∀ (H : Heap) (locs : List Loc) (ls : Array Slot), K11 () = some o1 → gW D ad cy N A s.heap c d0 H locs → lv_has ls 3 [(0, .ref (ad t)), (2, .int y3)] → W p l e rmX6_heaviestThing s m args below meth cod H locs 0 0 Q (F0 m 30 ls []) := by
          intro  H locs ls h G hl
          rw [eK11] at h
          refine lv_iload_n hx hb dX6_heaviestThing_30 rfl (lv_at hl 1 rfl) ?_
          refine lv_istore_n (lv' := [(1, .int y3), (0, .ref (ad t)), (2, .int y3)]) hx hb dX6_heaviestThing_31 rfl hl (by decide) rfl (fun ls hl => ?_)
          exact JK9 _ _ _ _ h G (lv_sub hl [1, 0, 2] rfl)
        refine lv_icmp_eq (tgt := 30) hx hb dX6_heaviestThing_14 (by decide) (fun q12 => ?_) (fun q12 => ?_)
        · replace h := gt_s q12 h
          exact JK11  _ _ _ h G (lv_sub hl [0, 2] rfl)
        · replace h := gf_s q12 h
          refine lv_aload_n hx hb dX6_heaviestThing_17 rfl (lv_at hl 0 rfl) ?_
          refine lv_iload_n hx hb dX6_heaviestThing_18 rfl (lv_at hl 2 rfl) ?_
          obtain ⟨r14, hc13, h⟩ := gb_s h
          refine gx_calli F G (va_runV (As := [.int y3]) (rest := []) (gx_fix F) (c_X6_weightOf l sa D ad cy N H.size hN hI c d0 hc13) (cwV 1 hts gX6_heaviestThing_X6_weightOf rfl rfl rfl (by decide +kernel) ⟨by decide, by decide⟩) (gx_rec F G ht6 (gwe_6 hk5) rfl) rfl rfl hl.1 rfl (lv_room (Nat.le_of_ble_eq_true rfl)) dX6_heaviestThing_19 ⟨Nat.zero_le _, Nat.zero_le _⟩) (fun H locs G => ?_)
          refine lv_aload_n hx hb dX6_heaviestThing_22 rfl (lv_at hl 0 rfl) ?_
          refine lv_iload_n hx hb dX6_heaviestThing_23 rfl (lv_at hl 1 rfl) ?_
          obtain ⟨r16, hc15, h⟩ := gb_s h
          refine gx_calli F G (va_runV (As := [.int y2]) (rest := [.int r14]) (gx_fix F) (c_X6_weightOf l sa D ad cy N H.size hN hI c d0 hc15) (cwV 1 hts gX6_heaviestThing_X6_weightOf rfl rfl rfl (by decide +kernel) ⟨by decide, by decide⟩) (gx_rec F G ht6 (gwe_6 hk5) rfl) rfl rfl hl.1 rfl (lv_room (Nat.le_of_ble_eq_true rfl)) dX6_heaviestThing_24 ⟨Nat.zero_le _, Nat.zero_le _⟩) (fun H locs G => ?_)
          refine lv_icmp_le (tgt := 32) hx hb dX6_heaviestThing_27 (by decide) (fun q17 => ?_) (fun q17 => ?_)
          · replace h := gt_s q17 h
            exact JK9 _ _ _ _ h G hl
          · replace h := gf_s q17 h
            exact JK11  _ _ _ h G (lv_sub hl [0, 2] rfl)
  exact L1 n _ _ _ _ _ hb1 G (lv_sub hl [2, 1, 0] rfl)
def m_X6_criesNotSo_L4 (t : Nat) (c : gm) (y2 : Int32) (y3 : Int32) : Option ((Int32 × Int32) ⊕ (Int32)) :=
  gc (gck t = 6) ((if (c.1 t 6) ≤ y3 then some (.inr y2) else gb (m_X6_cryPart t y3 0 c) (fun (r9 : Int32) => gb (m_X6_weightOf t r9 c) (fun (r11 : Int32) => gb (m_X6_cryPart t y3 1 c) (fun (r13 : Int32) => gv (r11 * r13) (fun (x14 : Int32) => gb (m_X6_cryPart t y3 2 c) (fun (r16 : Int32) => gb (m_X6_weightOf t r16 c) (fun (r18 : Int32) => gb (m_X6_cryPart t y3 3 c) (fun (r20 : Int32) => gv (r18 * r20) (fun (x21 : Int32) => gj (fun (v22 : Int32) => gv (y2 ||| v22) (fun (x24 : Int32) => gv (y3 + 1) (fun (x25 : Int32) => some (.inl (x24, x25))))) (fun K23 => (if x21 ≤ x14 then K23 0 else K23 ((1 : Int32) <<< (y3 &&& 31))))))))))))))
def m_X6_criesNotSo (n : Nat) (t : Nat) (c : gm) : Option (Int32) :=
  gb (gloop (gu2 (fun (y2 : Int32) (y3 : Int32) => m_X6_criesNotSo_L4 t c y2 y3)) n (0, 0)) (fun (z4 : Int32) => some z4)
abbrev rmX6_criesNotSo : Room := { frames := 2, cells := 0, slots := 0, locals := 42 }
set_option maxHeartbeats 4000000 in
set_option maxRecDepth 100000 in
theorem c_X6_criesNotSo (l : Launch) (sa : gSa) (D : va_G) (ad : Nat → Nat) (cy : Nat → ClassId) (N sz : Nat) (hN : 55 ≤ N) (hI : gI ad N) (c d0 : gm) {n : Nat} {t : Nat} {rZ : Int32} (h : m_X6_criesNotSo n t c = some rZ) : Met l yX6_criesNotSo wsX6_criesNotSo rmX6_criesNotSo (va_Pc [.ref (ad t)] (gP sa D ad cy N sz c d0)) (va_Qi (fun (z : Int32) (_ : Unit) => z = rZ) (fun _ U => gE D ad cy N c d0 U) (gA ad N sz)) 0 0 (gA ad N sz) := by
  refine Met.ofW (cc := cX6_criesNotSo) (maxL := 5) (ret := (some .int)) (by decide) rfl ?_
  intro p e s m args below meth cod s₁ B hml hv
  obtain ⟨rfl, hsz, hP, hK, hZ⟩ := hv
  have hx := B.exec
  have hb := B.bytes
  have hr := B.returns
  have hts := atoms_spec (ws := wsX6_criesNotSo) B.pre
  have hown : s.vm.findClass RX6 = some m.cls := findClass_of_methodNamed B.named
  have hlocks := B.notSynchronized
  subst hsz
  have hl := lv_entry ([.ref (ad t)]) (n := 5) (Nat.le_of_ble_eq_true rfl)
  rw [lg_entry_eq]
  generalize (lg_sl ([.ref (ad t)]) ++ List.replicate (5 - (lg_sl ([.ref (ad t)])).length) Slot.unset).toArray = ls at hl ⊢
  have hl : lv_has ls 5 [(0, .ref (ad t))] := hl
  have in6 : ∀ w ∈ wsX60, w ∈ wsX6_criesNotSo := by decide +kernel
  generalize hargs : ([.ref (ad t)] : List Value).toArray = args at *
  generalize hAe : gA ad N s.heap.size = A
  have F : gF sa D ad cy N A p s m args cod cX6_criesNotSo 5 wsX6_criesNotSo RX6 := ⟨hx, hb, hml, hown, hts, hK, hI, by rw [← hAe]; exact gA_ad, by rw [← hAe]; exact gA_sz, by rw [← hAe]; exact hZ⟩
  have G : gW D ad cy N A s.heap c d0 s.heap [] := ⟨hP, va_S.rf⟩
  generalize hQ : MQ below (va_Qi (fun (z : Int32) (_ : Unit) => z = rZ) (fun _ U => gE D ad cy N c d0 U) A) args s 0 0 A = Q
  suffices hgen : ∀ (H : Heap) (locs : List Loc), gW D ad cy N A s.heap c d0 H locs → W p l e rmX6_criesNotSo s m args below meth cod H locs 0 0 Q (F0 m 0 ls []) from hgen _ _ G
  clear G
  intro H locs G
  unfold m_X6_criesNotSo at h
  refine lv_iconst (v := 0) hx hb dX6_criesNotSo_0 (by decide) ?_
  refine lv_istore_n (lv' := [(1, .int 0), (0, .ref (ad t))]) hx hb dX6_criesNotSo_1 rfl hl (by decide) rfl (fun ls hl => ?_)
  refine lv_iconst (v := 0) hx hb dX6_criesNotSo_2 (by decide) ?_
  refine lv_istore_n (lv' := [(2, .int 0), (1, .int 0), (0, .ref (ad t))]) hx hb dX6_criesNotSo_3 rfl hl (by decide) rfl (fun ls hl => ?_)
  obtain ⟨b1, hb1, hK1⟩ := gb_s h
  have E1 : ∀ (z4 : Int32) (H : Heap) (locs : List Loc) (ls : Array Slot), (z4 : Int32) = b1 → gW D ad cy N A s.heap c d0 H locs → lv_has ls 5 [(1, .int z4)] → W p l e rmX6_criesNotSo s m args below meth cod H locs 0 0 Q (F0 m 71 ls []) := by
    intro z4 H locs ls hq1 G hl
    subst hq1
    replace hK1 := hK1
    have h := hK1
    refine lv_iload_n hx hb dX6_criesNotSo_71 rfl (lv_at hl 0 rfl) ?_
    cases h
    rw [← hQ]
    exact gx_iret F G hr hlocks dX6_criesNotSo_72
  have L1 : ∀ (n9 : Nat) (y2 : Int32) (y3 : Int32) (H : Heap) (locs : List Loc) (ls : Array Slot), gloop (gu2 (fun (y2 : Int32) (y3 : Int32) => m_X6_criesNotSo_L4 t c y2 y3)) n9 (y2, y3) = some b1 → gW D ad cy N A s.heap c d0 H locs → lv_has ls 5 [(0, .ref (ad t)), (1, .int y2), (2, .int y3)] → W p l e rmX6_criesNotSo s m args below meth cod H locs 0 0 Q (F0 m 4 ls []) := by
    intro n9
    induction n9 with
    | zero => intro y2 y3 H locs ls h; exact (gloop_0 h).elim
    | succ n9 ih =>
      intro y2 y3 H locs ls h G hl
      have ih1 := ih
      obtain ⟨o1, h, hn1⟩ := gloop_s h
      replace h := gu2_s h
      unfold m_X6_criesNotSo_L4 at h
      refine lv_iload_n hx hb dX6_criesNotSo_4 rfl (lv_at hl 2 rfl) ?_
      refine lv_aload_n hx hb dX6_criesNotSo_5 rfl (lv_at hl 0 rfl) ?_
      obtain ⟨hk5, h⟩ := gc_s h
      have ht6 : t < N := Nat.lt_of_lt_of_le (gck_lt6 hk5) hN
      refine fg_6_cries F G hk5 ht6 in6 (by decide +kernel) dX6_criesNotSo_6 ?_
      refine lv_icmp_ge (tgt := 71) hx hb dX6_criesNotSo_9 (by decide) (fun q7 => ?_) (fun q7 => ?_)
      · replace h := gt_s q7 h
        cases h
        exact E1 _ _ _ _ (gnx_r hn1) G (lv_sub hl [1] rfl)
      · replace h := gf_s q7 h
        refine lv_aload_n hx hb dX6_criesNotSo_12 rfl (lv_at hl 0 rfl) ?_
        refine lv_aload_n hx hb dX6_criesNotSo_13 rfl (lv_at hl 0 rfl) ?_
        refine lv_iload_n hx hb dX6_criesNotSo_14 rfl (lv_at hl 2 rfl) ?_
        refine lv_iconst (v := 0) hx hb dX6_criesNotSo_15 (by decide) ?_
        obtain ⟨r9, hc8, h⟩ := gb_s h
        refine gx_calli F G (va_runV (As := [.int y3, .int 0]) (rest := [.ref (ad t)]) (gx_fix F) (c_X6_cryPart l sa D ad cy N H.size hN hI c d0 hc8) (cwV 2 hts gX6_criesNotSo_X6_cryPart rfl rfl rfl (by decide +kernel) ⟨by decide, by decide⟩) (gx_rec F G ht6 (gwe_6 hk5) rfl) rfl rfl hl.1 rfl (lv_room (Nat.le_of_ble_eq_true rfl)) dX6_criesNotSo_16 ⟨Nat.zero_le _, Nat.zero_le _⟩) (fun H locs G => ?_)
        obtain ⟨r11, hc10, h⟩ := gb_s h
        refine gx_calli F G (va_runV (As := [.int r9]) (rest := []) (gx_fix F) (c_X6_weightOf l sa D ad cy N H.size hN hI c d0 hc10) (cwV 1 hts gX6_criesNotSo_X6_weightOf rfl rfl rfl (by decide +kernel) ⟨by decide, by decide⟩) (gx_rec F G ht6 (gwe_6 hk5) rfl) rfl rfl hl.1 rfl (lv_room (Nat.le_of_ble_eq_true rfl)) dX6_criesNotSo_19 ⟨Nat.zero_le _, Nat.zero_le _⟩) (fun H locs G => ?_)
        refine lv_aload_n hx hb dX6_criesNotSo_22 rfl (lv_at hl 0 rfl) ?_
        refine lv_iload_n hx hb dX6_criesNotSo_23 rfl (lv_at hl 2 rfl) ?_
        refine lv_iconst (v := 1) hx hb dX6_criesNotSo_24 (by decide) ?_
        obtain ⟨r13, hc12, h⟩ := gb_s h
        refine gx_calli F G (va_runV (As := [.int y3, .int 1]) (rest := [.int r11]) (gx_fix F) (c_X6_cryPart l sa D ad cy N H.size hN hI c d0 hc12) (cwV 2 hts gX6_criesNotSo_X6_cryPart rfl rfl rfl (by decide +kernel) ⟨by decide, by decide⟩) (gx_rec F G ht6 (gwe_6 hk5) rfl) rfl rfl hl.1 rfl (lv_room (Nat.le_of_ble_eq_true rfl)) dX6_criesNotSo_25 ⟨Nat.zero_le _, Nat.zero_le _⟩) (fun H locs G => ?_)
        refine lv_imul hx hb dX6_criesNotSo_28 ?_
        refine lv_topi (fun x14 ex14 => ?_)
        replace h := gv_s h x14 ex14
        refine lv_istore_n (lv' := [(3, .int x14), (0, .ref (ad t)), (1, .int y2), (2, .int y3)]) hx hb dX6_criesNotSo_29 rfl hl (by decide) rfl (fun ls hl => ?_)
        refine lv_aload_n hx hb dX6_criesNotSo_30 rfl (lv_at hl 1 rfl) ?_
        refine lv_aload_n hx hb dX6_criesNotSo_31 rfl (lv_at hl 1 rfl) ?_
        refine lv_iload_n hx hb dX6_criesNotSo_32 rfl (lv_at hl 3 rfl) ?_
        refine lv_iconst (v := 2) hx hb dX6_criesNotSo_33 (by decide) ?_
        obtain ⟨r16, hc15, h⟩ := gb_s h
        refine gx_calli F G (va_runV (As := [.int y3, .int 2]) (rest := [.ref (ad t)]) (gx_fix F) (c_X6_cryPart l sa D ad cy N H.size hN hI c d0 hc15) (cwV 2 hts gX6_criesNotSo_X6_cryPart rfl rfl rfl (by decide +kernel) ⟨by decide, by decide⟩) (gx_rec F G ht6 (gwe_6 hk5) rfl) rfl rfl hl.1 rfl (lv_room (Nat.le_of_ble_eq_true rfl)) dX6_criesNotSo_34 ⟨Nat.zero_le _, Nat.zero_le _⟩) (fun H locs G => ?_)
        obtain ⟨r18, hc17, h⟩ := gb_s h
        refine gx_calli F G (va_runV (As := [.int r16]) (rest := []) (gx_fix F) (c_X6_weightOf l sa D ad cy N H.size hN hI c d0 hc17) (cwV 1 hts gX6_criesNotSo_X6_weightOf rfl rfl rfl (by decide +kernel) ⟨by decide, by decide⟩) (gx_rec F G ht6 (gwe_6 hk5) rfl) rfl rfl hl.1 rfl (lv_room (Nat.le_of_ble_eq_true rfl)) dX6_criesNotSo_37 ⟨Nat.zero_le _, Nat.zero_le _⟩) (fun H locs G => ?_)
        refine lv_aload_n hx hb dX6_criesNotSo_40 rfl (lv_at hl 1 rfl) ?_
        refine lv_iload_n hx hb dX6_criesNotSo_41 rfl (lv_at hl 3 rfl) ?_
        refine lv_iconst (v := 3) hx hb dX6_criesNotSo_42 (by decide) ?_
        obtain ⟨r20, hc19, h⟩ := gb_s h
        refine gx_calli F G (va_runV (As := [.int y3, .int 3]) (rest := [.int r18]) (gx_fix F) (c_X6_cryPart l sa D ad cy N H.size hN hI c d0 hc19) (cwV 2 hts gX6_criesNotSo_X6_cryPart rfl rfl rfl (by decide +kernel) ⟨by decide, by decide⟩) (gx_rec F G ht6 (gwe_6 hk5) rfl) rfl rfl hl.1 rfl (lv_room (Nat.le_of_ble_eq_true rfl)) dX6_criesNotSo_43 ⟨Nat.zero_le _, Nat.zero_le _⟩) (fun H locs G => ?_)
        refine lv_imul hx hb dX6_criesNotSo_46 ?_
        refine lv_topi (fun x21 ex21 => ?_)
        replace h := gv_s h x21 ex21
        refine lv_istore (lv' := [(4, .int x21), (3, .int x14), (0, .ref (ad t)), (1, .int y2), (2, .int y3)]) hx hb dX6_criesNotSo_47 hl (by decide) rfl (fun ls hl => ?_)
        refine lv_iload_n hx hb dX6_criesNotSo_49 rfl (lv_at hl 3 rfl) ?_
        refine lv_iload_n hx hb dX6_criesNotSo_50 rfl (lv_at hl 1 rfl) ?_
        refine lv_iload hx hb dX6_criesNotSo_51 (lv_at hl 0 rfl) ?_
        obtain ⟨K23, eK23, h⟩ := gj_s h
        have JK23 : ∀ (v22 : Int32) (H : Heap) (locs : List Loc) (ls : Array Slot), K23 v22 = some o1 → gW D ad cy N A s.heap c d0 H locs → lv_has ls 5 [(0, .ref (ad t)), (2, .int y3)] → W p l e rmX6_criesNotSo s m args below meth cod H locs 0 0 Q (F0 m 63 ls [.int v22, .int y2]) := by
          intro v22 H locs ls h G hl
          rw [eK23] at h
          refine lv_ior hx hb dX6_criesNotSo_63 ?_
          refine lv_topi (fun x24 ex24 => ?_)
          replace h := gv_s h x24 ex24
          refine lv_istore_n (lv' := [(1, .int x24), (0, .ref (ad t)), (2, .int y3)]) hx hb dX6_criesNotSo_64 rfl hl (by decide) rfl (fun ls hl => ?_)
          obtain ⟨x25, ex25⟩ : ∃ z : Int32, z = y3 + 1 := ⟨_, rfl⟩
          replace h := gv_s h x25 ex25
          refine lv_iinc (v := x25) (lv' := [(2, .int x25), (1, .int x24), (0, .ref (ad t))]) hx hb dX6_criesNotSo_65 hl (k := 2) rfl (by rw [ex25]; rfl) (by decide) rfl (fun ls hl => ?_)
          refine lv_goto (tgt := 4) hx hb dX6_criesNotSo_68 (by decide) ?_
          cases h
          exact ih1 _ _ _ _ _ hn1 G (lv_sub hl [2, 1, 0] rfl)
        refine lv_icmp_ge (tgt := 62) hx hb dX6_criesNotSo_53 (by decide) (fun q26 => ?_) (fun q26 => ?_)
        · replace h := gt_s q26 h
          refine lv_iconst (v := 0) hx hb dX6_criesNotSo_62 (by decide) ?_
          exact JK23 _ _ _ _ h G (lv_sub hl [2, 4] rfl)
        · replace h := gf_s q26 h
          refine lv_iconst (v := 1) hx hb dX6_criesNotSo_56 (by decide) ?_
          refine lv_iload_n hx hb dX6_criesNotSo_57 rfl (lv_at hl 4 rfl) ?_
          refine lv_ishl hx hb dX6_criesNotSo_58 ?_
          refine lv_goto (tgt := 63) hx hb dX6_criesNotSo_59 (by decide) ?_
          exact JK23 _ _ _ _ h G (lv_sub hl [2, 4] rfl)
  exact L1 n _ _ _ _ _ hb1 G (lv_sub hl [2, 1, 0] rfl)
def m_X6_thingsCried_L4 (t : Nat) (c : gm) (y2 : Int32) (y3 : Int32) : Option ((Int32 × Int32) ⊕ (Int32)) :=
  gc (gck t = 6) ((if (c.1 t 6) ≤ y3 then some (.inr y2) else gb (m_X6_cryPart t y3 0 c) (fun (r9 : Int32) => gb (m_X6_cryPart t y3 2 c) (fun (r11 : Int32) => gv (y2 ||| (((1 : Int32) <<< (r9 &&& 31)) ||| ((1 : Int32) <<< (r11 &&& 31)))) (fun (x12 : Int32) => gv (y3 + 1) (fun (x13 : Int32) => some (.inl (x12, x13))))))))
def m_X6_thingsCried (n : Nat) (t : Nat) (c : gm) : Option (Int32) :=
  gb (gloop (gu2 (fun (y2 : Int32) (y3 : Int32) => m_X6_thingsCried_L4 t c y2 y3)) n (0, 0)) (fun (z4 : Int32) => some z4)
abbrev rmX6_thingsCried : Room := { frames := 1, cells := 0, slots := 0, locals := 23 }
set_option maxHeartbeats 4000000 in
set_option maxRecDepth 100000 in
theorem c_X6_thingsCried (l : Launch) (sa : gSa) (D : va_G) (ad : Nat → Nat) (cy : Nat → ClassId) (N sz : Nat) (hN : 55 ≤ N) (hI : gI ad N) (c d0 : gm) {n : Nat} {t : Nat} {rZ : Int32} (h : m_X6_thingsCried n t c = some rZ) : Met l yX6_thingsCried wsX6_thingsCried rmX6_thingsCried (va_Pc [.ref (ad t)] (gP sa D ad cy N sz c d0)) (va_Qi (fun (z : Int32) (_ : Unit) => z = rZ) (fun _ U => gE D ad cy N c d0 U) (gA ad N sz)) 0 0 (gA ad N sz) := by
  refine Met.ofW (cc := cX6_thingsCried) (maxL := 3) (ret := (some .int)) (by decide) rfl ?_
  intro p e s m args below meth cod s₁ B hml hv
  obtain ⟨rfl, hsz, hP, hK, hZ⟩ := hv
  have hx := B.exec
  have hb := B.bytes
  have hr := B.returns
  have hts := atoms_spec (ws := wsX6_thingsCried) B.pre
  have hown : s.vm.findClass RX6 = some m.cls := findClass_of_methodNamed B.named
  have hlocks := B.notSynchronized
  subst hsz
  have hl := lv_entry ([.ref (ad t)]) (n := 3) (Nat.le_of_ble_eq_true rfl)
  rw [lg_entry_eq]
  generalize (lg_sl ([.ref (ad t)]) ++ List.replicate (3 - (lg_sl ([.ref (ad t)])).length) Slot.unset).toArray = ls at hl ⊢
  have hl : lv_has ls 3 [(0, .ref (ad t))] := hl
  have in6 : ∀ w ∈ wsX60, w ∈ wsX6_thingsCried := by decide +kernel
  generalize hargs : ([.ref (ad t)] : List Value).toArray = args at *
  generalize hAe : gA ad N s.heap.size = A
  have F : gF sa D ad cy N A p s m args cod cX6_thingsCried 3 wsX6_thingsCried RX6 := ⟨hx, hb, hml, hown, hts, hK, hI, by rw [← hAe]; exact gA_ad, by rw [← hAe]; exact gA_sz, by rw [← hAe]; exact hZ⟩
  have G : gW D ad cy N A s.heap c d0 s.heap [] := ⟨hP, va_S.rf⟩
  generalize hQ : MQ below (va_Qi (fun (z : Int32) (_ : Unit) => z = rZ) (fun _ U => gE D ad cy N c d0 U) A) args s 0 0 A = Q
  suffices hgen : ∀ (H : Heap) (locs : List Loc), gW D ad cy N A s.heap c d0 H locs → W p l e rmX6_thingsCried s m args below meth cod H locs 0 0 Q (F0 m 0 ls []) from hgen _ _ G
  clear G
  intro H locs G
  unfold m_X6_thingsCried at h
  refine lv_iconst (v := 0) hx hb dX6_thingsCried_0 (by decide) ?_
  refine lv_istore_n (lv' := [(1, .int 0), (0, .ref (ad t))]) hx hb dX6_thingsCried_1 rfl hl (by decide) rfl (fun ls hl => ?_)
  refine lv_iconst (v := 0) hx hb dX6_thingsCried_2 (by decide) ?_
  refine lv_istore_n (lv' := [(2, .int 0), (1, .int 0), (0, .ref (ad t))]) hx hb dX6_thingsCried_3 rfl hl (by decide) rfl (fun ls hl => ?_)
  obtain ⟨b1, hb1, hK1⟩ := gb_s h
  have E1 : ∀ (z4 : Int32) (H : Heap) (locs : List Loc) (ls : Array Slot), (z4 : Int32) = b1 → gW D ad cy N A s.heap c d0 H locs → lv_has ls 3 [(1, .int z4)] → W p l e rmX6_thingsCried s m args below meth cod H locs 0 0 Q (F0 m 38 ls []) := by
    intro z4 H locs ls hq1 G hl
    subst hq1
    replace hK1 := hK1
    have h := hK1
    refine lv_iload_n hx hb dX6_thingsCried_38 rfl (lv_at hl 0 rfl) ?_
    cases h
    rw [← hQ]
    exact gx_iret F G hr hlocks dX6_thingsCried_39
  have L1 : ∀ (n9 : Nat) (y2 : Int32) (y3 : Int32) (H : Heap) (locs : List Loc) (ls : Array Slot), gloop (gu2 (fun (y2 : Int32) (y3 : Int32) => m_X6_thingsCried_L4 t c y2 y3)) n9 (y2, y3) = some b1 → gW D ad cy N A s.heap c d0 H locs → lv_has ls 3 [(0, .ref (ad t)), (1, .int y2), (2, .int y3)] → W p l e rmX6_thingsCried s m args below meth cod H locs 0 0 Q (F0 m 4 ls []) := by
    intro n9
    induction n9 with
    | zero => intro y2 y3 H locs ls h; exact (gloop_0 h).elim
    | succ n9 ih =>
      intro y2 y3 H locs ls h G hl
      have ih1 := ih
      obtain ⟨o1, h, hn1⟩ := gloop_s h
      replace h := gu2_s h
      unfold m_X6_thingsCried_L4 at h
      refine lv_iload_n hx hb dX6_thingsCried_4 rfl (lv_at hl 2 rfl) ?_
      refine lv_aload_n hx hb dX6_thingsCried_5 rfl (lv_at hl 0 rfl) ?_
      obtain ⟨hk5, h⟩ := gc_s h
      have ht6 : t < N := Nat.lt_of_lt_of_le (gck_lt6 hk5) hN
      refine fg_6_cries F G hk5 ht6 in6 (by decide +kernel) dX6_thingsCried_6 ?_
      refine lv_icmp_ge (tgt := 38) hx hb dX6_thingsCried_9 (by decide) (fun q7 => ?_) (fun q7 => ?_)
      · replace h := gt_s q7 h
        cases h
        exact E1 _ _ _ _ (gnx_r hn1) G (lv_sub hl [1] rfl)
      · replace h := gf_s q7 h
        refine lv_iload_n hx hb dX6_thingsCried_12 rfl (lv_at hl 1 rfl) ?_
        refine lv_iconst (v := 1) hx hb dX6_thingsCried_13 (by decide) ?_
        refine lv_aload_n hx hb dX6_thingsCried_14 rfl (lv_at hl 0 rfl) ?_
        refine lv_iload_n hx hb dX6_thingsCried_15 rfl (lv_at hl 2 rfl) ?_
        refine lv_iconst (v := 0) hx hb dX6_thingsCried_16 (by decide) ?_
        obtain ⟨r9, hc8, h⟩ := gb_s h
        refine gx_calli F G (va_runV (As := [.int y3, .int 0]) (rest := [.int 1, .int y2]) (gx_fix F) (c_X6_cryPart l sa D ad cy N H.size hN hI c d0 hc8) (cwV 2 hts gX6_thingsCried_X6_cryPart rfl rfl rfl (by decide +kernel) ⟨by decide, by decide⟩) (gx_rec F G ht6 (gwe_6 hk5) rfl) rfl rfl hl.1 rfl (lv_room (Nat.le_of_ble_eq_true rfl)) dX6_thingsCried_17 ⟨Nat.zero_le _, Nat.zero_le _⟩) (fun H locs G => ?_)
        refine lv_ishl hx hb dX6_thingsCried_20 ?_
        refine lv_iconst (v := 1) hx hb dX6_thingsCried_21 (by decide) ?_
        refine lv_aload_n hx hb dX6_thingsCried_22 rfl (lv_at hl 0 rfl) ?_
        refine lv_iload_n hx hb dX6_thingsCried_23 rfl (lv_at hl 2 rfl) ?_
        refine lv_iconst (v := 2) hx hb dX6_thingsCried_24 (by decide) ?_
        obtain ⟨r11, hc10, h⟩ := gb_s h
        refine gx_calli F G (va_runV (As := [.int y3, .int 2]) (rest := [.int 1, .int ((1 : Int32) <<< (r9 &&& 31)), .int y2]) (gx_fix F) (c_X6_cryPart l sa D ad cy N H.size hN hI c d0 hc10) (cwV 2 hts gX6_thingsCried_X6_cryPart rfl rfl rfl (by decide +kernel) ⟨by decide, by decide⟩) (gx_rec F G ht6 (gwe_6 hk5) rfl) rfl rfl hl.1 rfl (lv_room (Nat.le_of_ble_eq_true rfl)) dX6_thingsCried_25 ⟨Nat.zero_le _, Nat.zero_le _⟩) (fun H locs G => ?_)
        refine lv_ishl hx hb dX6_thingsCried_28 ?_
        refine lv_ior hx hb dX6_thingsCried_29 ?_
        refine lv_ior hx hb dX6_thingsCried_30 ?_
        refine lv_topi (fun x12 ex12 => ?_)
        replace h := gv_s h x12 ex12
        refine lv_istore_n (lv' := [(1, .int x12), (0, .ref (ad t)), (2, .int y3)]) hx hb dX6_thingsCried_31 rfl hl (by decide) rfl (fun ls hl => ?_)
        obtain ⟨x13, ex13⟩ : ∃ z : Int32, z = y3 + 1 := ⟨_, rfl⟩
        replace h := gv_s h x13 ex13
        refine lv_iinc (v := x13) (lv' := [(2, .int x13), (1, .int x12), (0, .ref (ad t))]) hx hb dX6_thingsCried_32 hl (k := 2) rfl (by rw [ex13]; rfl) (by decide) rfl (fun ls hl => ?_)
        refine lv_goto (tgt := 4) hx hb dX6_thingsCried_35 (by decide) ?_
        cases h
        exact ih1 _ _ _ _ _ hn1 G (lv_sub hl [2, 1, 0] rfl)
  exact L1 n _ _ _ _ _ hb1 G (lv_sub hl [2, 1, 0] rfl)
def m_X6_fatten (t : Nat) (a1 : Int32) (a2 : Int32) (c : gm) : Option (Int32 × gm) :=
  gc (gck t = 6) (gb (m_X6_isThing t a1 c) (fun (r4 : Int32) => (if r4 = 0 then some (0, c) else gc (0 ≤ a1.toInt ∧ a1.toInt < 8) ((if (c.1 (t + 2) a1.toNatClampNeg) < 60 then gc (0 ≤ a1.toInt ∧ a1.toInt < 8) (gc (0 ≤ a1.toInt ∧ a1.toInt < 8) (gv (gm_r c (t + 2) (upd (c.1 (t + 2)) a1.toNatClampNeg (if 60 < ((c.1 (t + 2) a1.toNatClampNeg) + a2) then 60 else ((c.1 (t + 2) a1.toNatClampNeg) + a2)))) (fun (c13 : gm) => some (1, c13)))) else some (0, c))))))
abbrev rmX6_fatten : Room := { frames := 1, cells := 0, slots := 0, locals := 40 }
set_option maxHeartbeats 4000000 in
set_option maxRecDepth 100000 in
theorem c_X6_fatten (l : Launch) (sa : gSa) (D : va_G) (ad : Nat → Nat) (cy : Nat → ClassId) (N sz : Nat) (hN : 55 ≤ N) (hI : gI ad N) (c d0 : gm) {t : Nat} {a1 : Int32} {a2 : Int32} {rZ : Int32} {cZ : gm} (h : m_X6_fatten t a1 a2 c = some (rZ, cZ)) : Met l yX6_fatten wsX6_fatten rmX6_fatten (va_Pc [.ref (ad t), .int a1, .int a2] (gP sa D ad cy N sz c d0)) (va_Qi (fun (z : Int32) (_ : Unit) => z = rZ) (fun _ U => gE D ad cy N cZ d0 U) (gA ad N sz)) 0 0 (gA ad N sz) := by
  refine Met.ofW (cc := cX6_fatten) (maxL := 3) (ret := (some .boolean)) (by decide) rfl ?_
  intro p e s m args below meth cod s₁ B hml hv
  obtain ⟨rfl, hsz, hP, hK, hZ⟩ := hv
  have hx := B.exec
  have hb := B.bytes
  have hr := B.returns
  have hts := atoms_spec (ws := wsX6_fatten) B.pre
  have hown : s.vm.findClass RX6 = some m.cls := findClass_of_methodNamed B.named
  have hlocks := B.notSynchronized
  subst hsz
  have hl := lv_entry ([.ref (ad t), .int a1, .int a2]) (n := 3) (Nat.le_of_ble_eq_true rfl)
  rw [lg_entry_eq]
  generalize (lg_sl ([.ref (ad t), .int a1, .int a2]) ++ List.replicate (3 - (lg_sl ([.ref (ad t), .int a1, .int a2])).length) Slot.unset).toArray = ls at hl ⊢
  have hl : lv_has ls 3 [(0, .ref (ad t)), (1, .int a1), (2, .int a2)] := hl
  have in6 : ∀ w ∈ wsX60, w ∈ wsX6_fatten := by decide +kernel
  generalize hargs : ([.ref (ad t), .int a1, .int a2] : List Value).toArray = args at *
  generalize hAe : gA ad N s.heap.size = A
  have F : gF sa D ad cy N A p s m args cod cX6_fatten 3 wsX6_fatten RX6 := ⟨hx, hb, hml, hown, hts, hK, hI, by rw [← hAe]; exact gA_ad, by rw [← hAe]; exact gA_sz, by rw [← hAe]; exact hZ⟩
  have G : gW D ad cy N A s.heap c d0 s.heap [] := ⟨hP, va_S.rf⟩
  generalize hQ : MQ below (va_Qi (fun (z : Int32) (_ : Unit) => z = rZ) (fun _ U => gE D ad cy N cZ d0 U) A) args s 0 0 A = Q
  suffices hgen : ∀ (H : Heap) (locs : List Loc), gW D ad cy N A s.heap c d0 H locs → W p l e rmX6_fatten s m args below meth cod H locs 0 0 Q (F0 m 0 ls []) from hgen _ _ G
  clear G
  intro H locs G
  unfold m_X6_fatten at h
  refine lv_aload_n hx hb dX6_fatten_0 rfl (lv_at hl 0 rfl) ?_
  refine lv_iload_n hx hb dX6_fatten_1 rfl (lv_at hl 1 rfl) ?_
  obtain ⟨hk1, h⟩ := gc_s h
  have ht2 : t < N := Nat.lt_of_lt_of_le (gck_lt6 hk1) hN
  obtain ⟨r4, hc3, h⟩ := gb_s h
  refine gx_calli F G (va_runV (As := [.int a1]) (rest := []) (gx_fix F) (c_X6_isThing l sa D ad cy N H.size hN hI c d0 hc3) (cwV 1 hts gX6_fatten_X6_isThing rfl rfl rfl (by decide +kernel) ⟨by decide, by decide⟩) (gx_rec F G ht2 (gwe_6 hk1) rfl) rfl rfl hl.1 rfl (lv_room (Nat.le_of_ble_eq_true rfl)) dX6_fatten_2 ⟨Nat.zero_le _, Nat.zero_le _⟩) (fun H locs G => ?_)
  refine lv_if_eq (tgt := 19) hx hb dX6_fatten_5 (by decide) (fun q5 => ?_) (fun q5 => ?_)
  · replace h := gt_s q5 h
    refine lv_iconst (v := 0) hx hb dX6_fatten_19 (by decide) ?_
    cases h
    rw [← hQ]
    exact gx_zret F G hr hlocks rfl dX6_fatten_20
  · replace h := gf_s q5 h
    refine lv_aload_n hx hb dX6_fatten_8 rfl (lv_at hl 0 rfl) ?_
    refine fg_6_weight F G hk1 ht2 in6 (by decide +kernel) dX6_fatten_9 ?_
    obtain ⟨hk6, hn8⟩ := gka_6_weight hk1
    have ht7 : (t + 2) < N := Nat.lt_of_lt_of_le (gck_lt12 hk6) hN
    refine lv_iload_n hx hb dX6_fatten_12 rfl (lv_at hl 1 rfl) ?_
    obtain ⟨hi9, h⟩ := gc_s h
    refine gx_ia F G hk6 ht7 hn8 hi9 dX6_fatten_13 ?_
    refine lv_bipush (v := 60) hx hb dX6_fatten_14 (by decide) ?_
    refine lv_icmp_lt (tgt := 21) hx hb dX6_fatten_16 (by decide) (fun q10 => ?_) (fun q10 => ?_)
    · replace h := gt_s q10 h
      refine lv_aload_n hx hb dX6_fatten_21 rfl (lv_at hl 0 rfl) ?_
      refine fg_6_weight F G hk1 ht2 in6 (by decide +kernel) dX6_fatten_22 ?_
      refine lv_iload_n hx hb dX6_fatten_25 rfl (lv_at hl 1 rfl) ?_
      refine lv_aload_n hx hb dX6_fatten_26 rfl (lv_at hl 0 rfl) ?_
      refine fg_6_weight F G hk1 ht2 in6 (by decide +kernel) dX6_fatten_27 ?_
      refine lv_iload_n hx hb dX6_fatten_30 rfl (lv_at hl 1 rfl) ?_
      obtain ⟨hi11, h⟩ := gc_s h
      refine gx_ia F G hk6 ht7 hn8 hi11 dX6_fatten_31 ?_
      refine lv_iload_n hx hb dX6_fatten_32 rfl (lv_at hl 2 rfl) ?_
      refine lv_iadd hx hb dX6_fatten_33 ?_
      refine lv_bipush (v := 60) hx hb dX6_fatten_34 (by decide) ?_
      refine va_mmin hx hb (hml.trans hl.1.symm) hown (hts (.methodLink RX6 156 Lib.Math.min.name) (by decide +kernel)) (hts (.static Lib.Math.min.name) (by decide +kernel)) (hts (.initialized "java/lang/Math") (by decide +kernel)) (hts (.code Lib.Math.min.name Lib.Math.min.code 2 (some .int)) (by decide +kernel)) (Nat.le_of_ble_eq_true rfl) (Nat.le_of_ble_eq_true rfl) (Nat.zero_le _) (Nat.zero_le _) dX6_fatten_36 ?_
      obtain ⟨hi12, h⟩ := gc_s h
      refine gx_is F G hk6 ht7 hn8 hi12 dX6_fatten_39 (fun H locs G => ?_)
      obtain ⟨c13, ec13⟩ : ∃ z, z = gm_r c (t + 2) (upd (c.1 (t + 2)) a1.toNatClampNeg (if 60 < ((c.1 (t + 2) a1.toNatClampNeg) + a2) then 60 else ((c.1 (t + 2) a1.toNatClampNeg) + a2))) := ⟨_, rfl⟩
      rw [← ec13] at G
      replace h := gv_s h c13 ec13
      refine lv_iconst (v := 1) hx hb dX6_fatten_40 (by decide) ?_
      cases h
      rw [← hQ]
      exact gx_zret F G hr hlocks rfl dX6_fatten_41
    · replace h := gf_s q10 h
      refine lv_iconst (v := 0) hx hb dX6_fatten_19 (by decide) ?_
      cases h
      rw [← hQ]
      exact gx_zret F G hr hlocks rfl dX6_fatten_20
def m_X6_turnBeam (t : Nat) (c : gm) : Option (Int32 × gm) :=
  gc (gck t = 6) ((if (c.1 t 7) = 9 then some (0, c) else gv (gm_r c t (upd (c.1 t) 7 (18 - (c.1 t 7)))) (fun (c4 : gm) => some (1, c4))))
abbrev rmX6_turnBeam : Room := { frames := 0, cells := 0, slots := 0, locals := 0 }
set_option maxHeartbeats 4000000 in
set_option maxRecDepth 100000 in
theorem c_X6_turnBeam (l : Launch) (sa : gSa) (D : va_G) (ad : Nat → Nat) (cy : Nat → ClassId) (N sz : Nat) (hN : 55 ≤ N) (hI : gI ad N) (c d0 : gm) {t : Nat} {rZ : Int32} {cZ : gm} (h : m_X6_turnBeam t c = some (rZ, cZ)) : Met l yX6_turnBeam wsX6_turnBeam rmX6_turnBeam (va_Pc [.ref (ad t)] (gP sa D ad cy N sz c d0)) (va_Qi (fun (z : Int32) (_ : Unit) => z = rZ) (fun _ U => gE D ad cy N cZ d0 U) (gA ad N sz)) 0 0 (gA ad N sz) := by
  refine Met.ofW (cc := cX6_turnBeam) (maxL := 1) (ret := (some .boolean)) (by decide) rfl ?_
  intro p e s m args below meth cod s₁ B hml hv
  obtain ⟨rfl, hsz, hP, hK, hZ⟩ := hv
  have hx := B.exec
  have hb := B.bytes
  have hr := B.returns
  have hts := atoms_spec (ws := wsX6_turnBeam) B.pre
  have hown : s.vm.findClass RX6 = some m.cls := findClass_of_methodNamed B.named
  have hlocks := B.notSynchronized
  subst hsz
  have hl := lv_entry ([.ref (ad t)]) (n := 1) (Nat.le_of_ble_eq_true rfl)
  rw [lg_entry_eq]
  generalize (lg_sl ([.ref (ad t)]) ++ List.replicate (1 - (lg_sl ([.ref (ad t)])).length) Slot.unset).toArray = ls at hl ⊢
  have hl : lv_has ls 1 [(0, .ref (ad t))] := hl
  have in6 : ∀ w ∈ wsX60, w ∈ wsX6_turnBeam := by decide +kernel
  generalize hargs : ([.ref (ad t)] : List Value).toArray = args at *
  generalize hAe : gA ad N s.heap.size = A
  have F : gF sa D ad cy N A p s m args cod cX6_turnBeam 1 wsX6_turnBeam RX6 := ⟨hx, hb, hml, hown, hts, hK, hI, by rw [← hAe]; exact gA_ad, by rw [← hAe]; exact gA_sz, by rw [← hAe]; exact hZ⟩
  have G : gW D ad cy N A s.heap c d0 s.heap [] := ⟨hP, va_S.rf⟩
  generalize hQ : MQ below (va_Qi (fun (z : Int32) (_ : Unit) => z = rZ) (fun _ U => gE D ad cy N cZ d0 U) A) args s 0 0 A = Q
  suffices hgen : ∀ (H : Heap) (locs : List Loc), gW D ad cy N A s.heap c d0 H locs → W p l e rmX6_turnBeam s m args below meth cod H locs 0 0 Q (F0 m 0 ls []) from hgen _ _ G
  clear G
  intro H locs G
  unfold m_X6_turnBeam at h
  refine lv_aload_n hx hb dX6_turnBeam_0 rfl (lv_at hl 0 rfl) ?_
  obtain ⟨hk1, h⟩ := gc_s h
  have ht2 : t < N := Nat.lt_of_lt_of_le (gck_lt6 hk1) hN
  refine fg_6_lean F G hk1 ht2 in6 (by decide +kernel) dX6_turnBeam_1 ?_
  refine lv_bipush (v := 9) hx hb dX6_turnBeam_4 (by decide) ?_
  refine lv_icmp_ne (tgt := 11) hx hb dX6_turnBeam_6 (by decide) (fun q3 => ?_) (fun q3 => ?_)
  · replace h := gf_s q3 h
    refine lv_aload_n hx hb dX6_turnBeam_11 rfl (lv_at hl 0 rfl) ?_
    refine lv_bipush (v := 18) hx hb dX6_turnBeam_12 (by decide) ?_
    refine lv_aload_n hx hb dX6_turnBeam_14 rfl (lv_at hl 0 rfl) ?_
    refine fg_6_lean F G hk1 ht2 in6 (by decide +kernel) dX6_turnBeam_15 ?_
    refine lv_isub hx hb dX6_turnBeam_18 ?_
    refine fp_6_lean F G hk1 ht2 in6 (by decide +kernel) dX6_turnBeam_19 (fun H locs G => ?_)
    obtain ⟨c4, ec4⟩ : ∃ z, z = gm_r c t (upd (c.1 t) 7 (18 - (c.1 t 7))) := ⟨_, rfl⟩
    rw [← ec4] at G
    replace h := gv_s h c4 ec4
    refine lv_iconst (v := 1) hx hb dX6_turnBeam_22 (by decide) ?_
    cases h
    rw [← hQ]
    exact gx_zret F G hr hlocks rfl dX6_turnBeam_23
  · replace h := gt_s q3 h
    refine lv_iconst (v := 0) hx hb dX6_turnBeam_9 (by decide) ?_
    cases h
    rw [← hQ]
    exact gx_zret F G hr hlocks rfl dX6_turnBeam_10
def m_X7_put_L3 (t : Nat) (a1 : Int32) (y2 : Int32) (c3 : gm) : Option ((Int32 × gm) ⊕ (gm)) :=
  (if y2 < 0 then some (.inr c3) else gc (gck t = 7) (gj (fun (c8 : gm) => gv (y2 + (-8)) (fun (x10 : Int32) => some (.inl (x10, c8)))) (fun K9 => (if (c3.1 t 1) < 0 then K9 c3 else (if (nI 600) ≤ (c3.1 t 1) then K9 c3 else gc (0 ≤ (c3.1 t 1).toInt ∧ (c3.1 t 1).toInt < 600) (gv (gm_r c3 (t + 1) (upd (c3.1 (t + 1)) (c3.1 t 1).toNatClampNeg (vp_nar .byte ((Int32.toInt8 (a1 >>> (y2 &&& 31))).toInt32)))) (fun (c17 : gm) => gv (gm_r c17 t (upd (c17.1 t) 1 ((c17.1 t 1) + 1))) (fun (c18 : gm) => K9 c18))))))))
def m_X7_put (n : Nat) (t : Nat) (a1 : Int32) (c : gm) : Option (gm) :=
  gb (gloop (gu2 (fun (y2 : Int32) (c3 : gm) => m_X7_put_L3 t a1 y2 c3)) n (24, c)) (fun (c4 : gm) => some c4)
abbrev rmX7_put : Room := { frames := 0, cells := 0, slots := 0, locals := 0 }
set_option maxHeartbeats 4000000 in
set_option maxRecDepth 100000 in
theorem c_X7_put (l : Launch) (sa : gSa) (D : va_G) (ad : Nat → Nat) (cy : Nat → ClassId) (N sz : Nat) (hN : 55 ≤ N) (hI : gI ad N) (c d0 : gm) {n : Nat} {t : Nat} {a1 : Int32} {cZ : gm} (h : m_X7_put n t a1 c = some cZ) : Met l yX7_put wsX7_put rmX7_put (va_Pc [.ref (ad t), .int a1] (gP sa D ad cy N sz c d0)) (va_Qv (fun (_ : Unit) => True) (fun _ U => gE D ad cy N cZ d0 U) (gA ad N sz)) 0 0 (gA ad N sz) := by
  refine Met.ofW (cc := cX7_put) (maxL := 3) (ret := none) (by decide) rfl ?_
  intro p e s m args below meth cod s₁ B hml hv
  obtain ⟨rfl, hsz, hP, hK, hZ⟩ := hv
  have hx := B.exec
  have hb := B.bytes
  have hr := B.returns
  have hts := atoms_spec (ws := wsX7_put) B.pre
  have hown : s.vm.findClass RX7 = some m.cls := findClass_of_methodNamed B.named
  have hlocks := B.notSynchronized
  subst hsz
  have hl := lv_entry ([.ref (ad t), .int a1]) (n := 3) (Nat.le_of_ble_eq_true rfl)
  rw [lg_entry_eq]
  generalize (lg_sl ([.ref (ad t), .int a1]) ++ List.replicate (3 - (lg_sl ([.ref (ad t), .int a1])).length) Slot.unset).toArray = ls at hl ⊢
  have hl : lv_has ls 3 [(0, .ref (ad t)), (1, .int a1)] := hl
  have in7 : ∀ w ∈ wsX70, w ∈ wsX7_put := by decide +kernel
  generalize hargs : ([.ref (ad t), .int a1] : List Value).toArray = args at *
  generalize hAe : gA ad N s.heap.size = A
  have F : gF sa D ad cy N A p s m args cod cX7_put 3 wsX7_put RX7 := ⟨hx, hb, hml, hown, hts, hK, hI, by rw [← hAe]; exact gA_ad, by rw [← hAe]; exact gA_sz, by rw [← hAe]; exact hZ⟩
  have G : gW D ad cy N A s.heap c d0 s.heap [] := ⟨hP, va_S.rf⟩
  generalize hQ : MQ below (va_Qv (fun (_ : Unit) => True) (fun _ U => gE D ad cy N cZ d0 U) A) args s 0 0 A = Q
  suffices hgen : ∀ (H : Heap) (locs : List Loc), gW D ad cy N A s.heap c d0 H locs → W p l e rmX7_put s m args below meth cod H locs 0 0 Q (F0 m 0 ls []) from hgen _ _ G
  clear G
  intro H locs G
  unfold m_X7_put at h
  refine lv_bipush (v := 24) hx hb dX7_put_0 (by decide) ?_
  refine lv_istore_n (lv' := [(2, .int 24), (0, .ref (ad t)), (1, .int a1)]) hx hb dX7_put_2 rfl hl (by decide) rfl (fun ls hl => ?_)
  obtain ⟨b1, hb1, hK1⟩ := gb_s h
  have E1 : ∀ (c4 : gm) (H : Heap) (locs : List Loc) (ls : Array Slot), (c4 : gm) = b1 → gW D ad cy N A s.heap c4 d0 H locs → lv_has ls 3 [] → W p l e rmX7_put s m args below meth cod H locs 0 0 Q (F0 m 55 ls []) := by
    intro c4 H locs ls hq1 G hl
    subst hq1
    replace hK1 := hK1
    have h := hK1
    cases h
    rw [← hQ]
    exact gx_vret F G hr hlocks dX7_put_55
  have L1 : ∀ (n9 : Nat) (y2 : Int32) (c3 : gm) (H : Heap) (locs : List Loc) (ls : Array Slot), gloop (gu2 (fun (y2 : Int32) (c3 : gm) => m_X7_put_L3 t a1 y2 c3)) n9 (y2, c3) = some b1 → gW D ad cy N A s.heap c3 d0 H locs → lv_has ls 3 [(0, .ref (ad t)), (1, .int a1), (2, .int y2)] → W p l e rmX7_put s m args below meth cod H locs 0 0 Q (F0 m 3 ls []) := by
    intro n9
    induction n9 with
    | zero => intro y2 c3 H locs ls h; exact (gloop_0 h).elim
    | succ n9 ih =>
      intro y2 c3 H locs ls h G hl
      have ih1 := ih
      obtain ⟨o1, h, hn1⟩ := gloop_s h
      replace h := gu2_s h
      unfold m_X7_put_L3 at h
      refine lv_iload_n hx hb dX7_put_3 rfl (lv_at hl 2 rfl) ?_
      refine lv_if_lt (tgt := 55) hx hb dX7_put_4 (by decide) (fun q5 => ?_) (fun q5 => ?_)
      · replace h := gt_s q5 h
        cases h
        exact E1 _ _ _ _ (gnx_r hn1) G (lv_sub hl [] rfl)
      · replace h := gf_s q5 h
        refine lv_aload_n hx hb dX7_put_7 rfl (lv_at hl 0 rfl) ?_
        obtain ⟨hk6, h⟩ := gc_s h
        have ht7 : t < N := Nat.lt_of_lt_of_le (gck_lt7 hk6) hN
        refine fg_7_held F G hk6 ht7 in7 (by decide +kernel) dX7_put_8 ?_
        obtain ⟨K9, eK9, h⟩ := gj_s h
        have JK9 : ∀ (c8 : gm) (H : Heap) (locs : List Loc) (ls : Array Slot), K9 c8 = some o1 → gW D ad cy N A s.heap c8 d0 H locs → lv_has ls 3 [(0, .ref (ad t)), (1, .int a1), (2, .int y2)] → W p l e rmX7_put s m args below meth cod H locs 0 0 Q (F0 m 49 ls []) := by
          intro c8 H locs ls h G hl
          rw [eK9] at h
          obtain ⟨x10, ex10⟩ : ∃ z : Int32, z = y2 + (-8) := ⟨_, rfl⟩
          replace h := gv_s h x10 ex10
          refine lv_iinc (v := x10) (lv' := [(2, .int x10), (0, .ref (ad t)), (1, .int a1)]) hx hb dX7_put_49 hl (k := 2) rfl (by rw [ex10]; rfl) (by decide) rfl (fun ls hl => ?_)
          refine lv_goto (tgt := 3) hx hb dX7_put_52 (by decide) ?_
          cases h
          exact ih1 _ _ _ _ _ hn1 G (lv_sub hl [1, 2, 0] rfl)
        refine lv_if_lt (tgt := 49) hx hb dX7_put_11 (by decide) (fun q11 => ?_) (fun q11 => ?_)
        · replace h := gt_s q11 h
          exact JK9 _ _ _ _ h G hl
        · replace h := gf_s q11 h
          refine lv_aload_n hx hb dX7_put_14 rfl (lv_at hl 0 rfl) ?_
          refine fg_7_held F G hk6 ht7 in7 (by decide +kernel) dX7_put_15 ?_
          refine lv_aload_n hx hb dX7_put_18 rfl (lv_at hl 0 rfl) ?_
          refine fg_7_bytes F G hk6 ht7 in7 (by decide +kernel) dX7_put_19 ?_
          obtain ⟨hk12, hn14⟩ := gka_7_bytes hk6
          have ht13 : (t + 1) < N := Nat.lt_of_lt_of_le (gck_lt13 hk12) hN
          refine gx_bal F G hk12 ht13 hn14 dX7_put_22 ?_
          refine lv_icmp_ge (tgt := 49) hx hb dX7_put_23 (by decide) (fun q15 => ?_) (fun q15 => ?_)
          · replace h := gt_s q15 h
            exact JK9 _ _ _ _ h G hl
          · replace h := gf_s q15 h
            refine lv_aload_n hx hb dX7_put_26 rfl (lv_at hl 0 rfl) ?_
            refine fg_7_bytes F G hk6 ht7 in7 (by decide +kernel) dX7_put_27 ?_
            refine lv_aload_n hx hb dX7_put_30 rfl (lv_at hl 0 rfl) ?_
            refine fg_7_held F G hk6 ht7 in7 (by decide +kernel) dX7_put_31 ?_
            refine lv_iload_n hx hb dX7_put_34 rfl (lv_at hl 1 rfl) ?_
            refine lv_iload_n hx hb dX7_put_35 rfl (lv_at hl 2 rfl) ?_
            refine lv_ishr hx hb dX7_put_36 ?_
            refine lv_i2b hx hb dX7_put_37 rfl ?_
            obtain ⟨hi16, h⟩ := gc_s h
            refine gx_bs F G hk12 ht13 hn14 hi16 dX7_put_38 (fun H locs G => ?_)
            obtain ⟨c17, ec17⟩ : ∃ z, z = gm_r c3 (t + 1) (upd (c3.1 (t + 1)) (c3.1 t 1).toNatClampNeg (vp_nar .byte ((Int32.toInt8 (a1 >>> (y2 &&& 31))).toInt32))) := ⟨_, rfl⟩
            rw [← ec17] at G
            replace h := gv_s h c17 ec17
            refine lv_aload_n hx hb dX7_put_39 rfl (lv_at hl 0 rfl) ?_
            refine lv_dup hx hb dX7_put_40 rfl ?_
            refine fg_7_held F G hk6 ht7 in7 (by decide +kernel) dX7_put_41 ?_
            refine lv_iconst (v := 1) hx hb dX7_put_44 (by decide) ?_
            refine lv_iadd hx hb dX7_put_45 ?_
            refine fp_7_held F G hk6 ht7 in7 (by decide +kernel) dX7_put_46 (fun H locs G => ?_)
            obtain ⟨c18, ec18⟩ : ∃ z, z = gm_r c17 t (upd (c17.1 t) 1 ((c17.1 t 1) + 1)) := ⟨_, rfl⟩
            rw [← ec18] at G
            replace h := gv_s h c18 ec18
            exact JK9 _ _ _ _ h G hl
  exact L1 n _ _ _ _ _ hb1 G (lv_sub hl [1, 2, 0] rfl)
