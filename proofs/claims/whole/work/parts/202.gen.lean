-- X3_joined X3_wear X6_wearOf X6_passDay X2_hold X3_add X3_becomeUsual X3_readBraced X7_isLetter X7_takeWord J0_coder_7d493 J0_length_8abf5 J0_isLatin1_aae02 J3_checkIndex_8e157 J0_checkIndex_df160 J1_charAt_3b067 J0_charAt_5068e X7_wordIs X3_readPair X3_nameOf
def m_X3_joined (a1 : Int32) (a2 : Int32) (a3 : Int32) : Option (Int32) :=
  (if a1 = 2 then some (a2 + a3) else (if a1 = 3 then some (a2 - a3) else (if a1 = 4 then some (a2 * a3) else (if a1 = 5 then (if a3 = 0 then some 0 else gc (¬ a3 = 0) (some (a2 / a3))) else (if a1 = 6 then (if a3 = 0 then some 0 else gc (¬ a3 = 0) (some (a2 - a2 / a3 * a3))) else (if a1 = 7 then (if a3 ≤ a2 then some a3 else some a2) else (if a2 ≤ a3 then some a3 else some a2)))))))
abbrev rmX3_joined : Room := { frames := 0, cells := 0, slots := 0, locals := 0 }
set_option maxHeartbeats 4000000 in
set_option maxRecDepth 100000 in
theorem c_X3_joined (l : Launch) (sa : gSa) (D : va_G) (ad : Nat → Nat) (cy : Nat → ClassId) (N sz : Nat) (hN : 55 ≤ N) (hI : gI ad N) (c d0 : gm) {a1 : Int32} {a2 : Int32} {a3 : Int32} {rZ : Int32} (h : m_X3_joined a1 a2 a3 = some rZ) : Met l yX3_joined wsX3_joined rmX3_joined (va_Pc [.int a1, .int a2, .int a3] (gP sa D ad cy N sz c d0)) (va_Qi (fun (z : Int32) (_ : Unit) => z = rZ) (fun _ U => gE D ad cy N c d0 U) (gA ad N sz)) 0 0 (gA ad N sz) := by
  refine Met.ofW (cc := cX3_joined) (maxL := 3) (ret := (some .int)) (by decide) rfl ?_
  intro p e s m args below meth cod s₁ B hml hv
  obtain ⟨rfl, hsz, hP, hK, hZ⟩ := hv
  have hx := B.exec
  have hb := B.bytes
  have hr := B.returns
  have hts := atoms_spec (ws := wsX3_joined) B.pre
  have hown : s.vm.findClass RX3 = some m.cls := findClass_of_methodNamed B.named
  have hlocks := B.notSynchronized
  subst hsz
  have hl := lv_entry ([.int a1, .int a2, .int a3]) (n := 3) (Nat.le_of_ble_eq_true rfl)
  rw [lg_entry_eq]
  generalize (lg_sl ([.int a1, .int a2, .int a3]) ++ List.replicate (3 - (lg_sl ([.int a1, .int a2, .int a3])).length) Slot.unset).toArray = ls at hl ⊢
  have hl : lv_has ls 3 [(0, .int a1), (1, .int a2), (2, .int a3)] := hl
  generalize hargs : ([.int a1, .int a2, .int a3] : List Value).toArray = args at *
  generalize hAe : gA ad N s.heap.size = A
  have F : gF sa D ad cy N A p s m args cod cX3_joined 3 wsX3_joined RX3 := ⟨hx, hb, hml, hown, hts, hK, hI, by rw [← hAe]; exact gA_ad, by rw [← hAe]; exact gA_sz, by rw [← hAe]; exact hZ⟩
  have G : gW D ad cy N A s.heap c d0 s.heap [] := ⟨hP, va_S.rf⟩
  generalize hQ : MQ below (va_Qi (fun (z : Int32) (_ : Unit) => z = rZ) (fun _ U => gE D ad cy N c d0 U) A) args s 0 0 A = Q
  suffices hgen : ∀ (H : Heap) (locs : List Loc), gW D ad cy N A s.heap c d0 H locs → W p l e rmX3_joined s m args below meth cod H locs 0 0 Q (F0 m 0 ls []) from hgen _ _ G
  clear G
  intro H locs G
  unfold m_X3_joined at h
  refine lv_iload_n hx hb dX3_joined_0 rfl (lv_at hl 0 rfl) ?_
  by_cases q1 : a1 = 2
  · replace h := gt_s q1 h
    refine lv_tableIn (tgt := 40) hx hb dX3_joined_1 (by rw [q1]; decide) (by rw [q1]; decide) (off := 39) (by rw [q1]; decide) (by decide) ?_
    refine lv_iload_n hx hb dX3_joined_40 rfl (lv_at hl 1 rfl) ?_
    refine lv_iload_n hx hb dX3_joined_41 rfl (lv_at hl 2 rfl) ?_
    refine lv_iadd hx hb dX3_joined_42 ?_
    cases h
    rw [← hQ]
    exact gx_iret F G hr hlocks dX3_joined_43
  replace h := gf_s q1 h
  by_cases q2 : a1 = 3
  · replace h := gt_s q2 h
    refine lv_tableIn (tgt := 44) hx hb dX3_joined_1 (by rw [q2]; decide) (by rw [q2]; decide) (off := 43) (by rw [q2]; decide) (by decide) ?_
    refine lv_iload_n hx hb dX3_joined_44 rfl (lv_at hl 1 rfl) ?_
    refine lv_iload_n hx hb dX3_joined_45 rfl (lv_at hl 2 rfl) ?_
    refine lv_isub hx hb dX3_joined_46 ?_
    cases h
    rw [← hQ]
    exact gx_iret F G hr hlocks dX3_joined_47
  replace h := gf_s q2 h
  by_cases q3 : a1 = 4
  · replace h := gt_s q3 h
    refine lv_tableIn (tgt := 48) hx hb dX3_joined_1 (by rw [q3]; decide) (by rw [q3]; decide) (off := 47) (by rw [q3]; decide) (by decide) ?_
    refine lv_iload_n hx hb dX3_joined_48 rfl (lv_at hl 1 rfl) ?_
    refine lv_iload_n hx hb dX3_joined_49 rfl (lv_at hl 2 rfl) ?_
    refine lv_imul hx hb dX3_joined_50 ?_
    cases h
    rw [← hQ]
    exact gx_iret F G hr hlocks dX3_joined_51
  replace h := gf_s q3 h
  by_cases q4 : a1 = 5
  · replace h := gt_s q4 h
    refine lv_tableIn (tgt := 52) hx hb dX3_joined_1 (by rw [q4]; decide) (by rw [q4]; decide) (off := 51) (by rw [q4]; decide) (by decide) ?_
    refine lv_iload_n hx hb dX3_joined_52 rfl (lv_at hl 2 rfl) ?_
    refine lv_if_ne (tgt := 60) hx hb dX3_joined_53 (by decide) (fun q5 => ?_) (fun q5 => ?_)
    · replace h := gf_s q5 h
      refine lv_iload_n hx hb dX3_joined_60 rfl (lv_at hl 1 rfl) ?_
      refine lv_iload_n hx hb dX3_joined_61 rfl (lv_at hl 2 rfl) ?_
      obtain ⟨hz6, h⟩ := gc_s h
      refine lv_idiv hx hb dX3_joined_62 hz6 ?_
      cases h
      rw [← hQ]
      exact gx_iret F G hr hlocks dX3_joined_63
    · replace h := gt_s q5 h
      refine lv_iconst (v := 0) hx hb dX3_joined_56 (by decide) ?_
      refine lv_goto (tgt := 63) hx hb dX3_joined_57 (by decide) ?_
      cases h
      rw [← hQ]
      exact gx_iret F G hr hlocks dX3_joined_63
  replace h := gf_s q4 h
  by_cases q7 : a1 = 6
  · replace h := gt_s q7 h
    refine lv_tableIn (tgt := 64) hx hb dX3_joined_1 (by rw [q7]; decide) (by rw [q7]; decide) (off := 63) (by rw [q7]; decide) (by decide) ?_
    refine lv_iload_n hx hb dX3_joined_64 rfl (lv_at hl 2 rfl) ?_
    refine lv_if_ne (tgt := 72) hx hb dX3_joined_65 (by decide) (fun q8 => ?_) (fun q8 => ?_)
    · replace h := gf_s q8 h
      refine lv_iload_n hx hb dX3_joined_72 rfl (lv_at hl 1 rfl) ?_
      refine lv_iload_n hx hb dX3_joined_73 rfl (lv_at hl 2 rfl) ?_
      obtain ⟨hz9, h⟩ := gc_s h
      refine lv_irem hx hb dX3_joined_74 hz9 ?_
      cases h
      rw [← hQ]
      exact gx_iret F G hr hlocks dX3_joined_75
    · replace h := gt_s q8 h
      refine lv_iconst (v := 0) hx hb dX3_joined_68 (by decide) ?_
      refine lv_goto (tgt := 75) hx hb dX3_joined_69 (by decide) ?_
      cases h
      rw [← hQ]
      exact gx_iret F G hr hlocks dX3_joined_75
  replace h := gf_s q7 h
  by_cases q10 : a1 = 7
  · replace h := gt_s q10 h
    refine lv_tableIn (tgt := 76) hx hb dX3_joined_1 (by rw [q10]; decide) (by rw [q10]; decide) (off := 75) (by rw [q10]; decide) (by decide) ?_
    refine lv_iload_n hx hb dX3_joined_76 rfl (lv_at hl 1 rfl) ?_
    refine lv_iload_n hx hb dX3_joined_77 rfl (lv_at hl 2 rfl) ?_
    refine lv_icmp_ge (tgt := 85) hx hb dX3_joined_78 (by decide) (fun q11 => ?_) (fun q11 => ?_)
    · replace h := gt_s q11 h
      refine lv_iload_n hx hb dX3_joined_85 rfl (lv_at hl 2 rfl) ?_
      cases h
      rw [← hQ]
      exact gx_iret F G hr hlocks dX3_joined_86
    · replace h := gf_s q11 h
      refine lv_iload_n hx hb dX3_joined_81 rfl (lv_at hl 1 rfl) ?_
      refine lv_goto (tgt := 86) hx hb dX3_joined_82 (by decide) ?_
      cases h
      rw [← hQ]
      exact gx_iret F G hr hlocks dX3_joined_86
  replace h := gf_s q10 h
  have nn12 := lv_neT q1 (show (2 : Int32).toInt = 2 by decide)
  have nn13 := lv_neT q2 (show (3 : Int32).toInt = 3 by decide)
  have nn14 := lv_neT q3 (show (4 : Int32).toInt = 4 by decide)
  have nn15 := lv_neT q4 (show (5 : Int32).toInt = 5 by decide)
  have nn16 := lv_neT q7 (show (6 : Int32).toInt = 6 by decide)
  have nn17 := lv_neT q10 (show (7 : Int32).toInt = 7 by decide)
  refine lv_tableOut (tgt := 87) hx hb dX3_joined_1 (by omega) (by decide) ?_
  refine lv_iload_n hx hb dX3_joined_87 rfl (lv_at hl 1 rfl) ?_
  refine lv_iload_n hx hb dX3_joined_88 rfl (lv_at hl 2 rfl) ?_
  refine lv_icmp_le (tgt := 96) hx hb dX3_joined_89 (by decide) (fun q18 => ?_) (fun q18 => ?_)
  · replace h := gt_s q18 h
    refine lv_iload_n hx hb dX3_joined_96 rfl (lv_at hl 2 rfl) ?_
    cases h
    rw [← hQ]
    exact gx_iret F G hr hlocks dX3_joined_97
  · replace h := gf_s q18 h
    refine lv_iload_n hx hb dX3_joined_92 rfl (lv_at hl 1 rfl) ?_
    refine lv_goto (tgt := 97) hx hb dX3_joined_93 (by decide) ?_
    cases h
    rw [← hQ]
    exact gx_iret F G hr hlocks dX3_joined_97
def m_X3_wear_L60 (t : Nat) (y21 : Int32) (y22 : Int32) (c23 : gm) : Option ((Int32 × Int32 × gm) ⊕ (Int32 × gm)) :=
  (if (c23.1 t 4) ≤ y22 then some (.inr (y21, c23)) else (if 150 ≤ y22 then some (.inr (y21, c23)) else gc (0 ≤ y22.toInt ∧ y22.toInt < 150) (gv (c23.1 (t + 2) y22.toNatClampNeg) (fun (x41 : Int32) => gc (0 ≤ y22.toInt ∧ y22.toInt < 150) (gj (gu2 (fun (v46 : Int32) (c47 : gm) => gv (y22 + 1) (fun (x49 : Int32) => some (.inl (v46, x49, c47))))) (fun K48 => gj (fun (_ : Unit) => gc (0 ≤ y22.toInt ∧ y22.toInt < 150) (gj (fun (_ : Unit) => (if y21 < 2 then K48 (y21, c23) else gv (y21 + (-1)) (fun (x54 : Int32) => gc (0 ≤ y22.toInt ∧ y22.toInt < 150) (gc (0 ≤ (x54 - 1).toInt ∧ (x54 - 1).toInt < 24) (gc (0 ≤ x54.toInt ∧ x54.toInt < 24) (gb (m_X3_joined (c23.1 (t + 1) y22.toNatClampNeg) (c23.1 (t + 4) (x54 - 1).toNatClampNeg) (c23.1 (t + 4) x54.toNatClampNeg)) (fun (r62 : Int32) => gc (0 ≤ (x54 - 1).toInt ∧ (x54 - 1).toInt < 24) (gv (gm_r c23 (t + 4) (upd (c23.1 (t + 4)) (x54 - 1).toNatClampNeg r62)) (fun (c64 : gm) => K48 (x54, c64)))))))))) (fun K52 => (if (c23.1 (t + 1) y22.toNatClampNeg) = 1 then (if 24 ≤ y21 then K52 () else (if x41 < 0 then K52 () else (if 7 ≤ x41 then K52 () else gc (0 ≤ x41.toInt ∧ x41.toInt < 7) (gc (0 ≤ y21.toInt ∧ y21.toInt < 24) (gv (gm_r c23 (t + 4) (upd (c23.1 (t + 4)) y21.toNatClampNeg (c23.1 (t + 3) x41.toNatClampNeg))) (fun (c74 : gm) => gv (y21 + 1) (fun (x75 : Int32) => K48 (x75, c74)))))))) else K52 ())))) (fun K50 => (if (c23.1 (t + 1) y22.toNatClampNeg) = 0 then (if 24 ≤ y21 then K50 () else gc (0 ≤ y21.toInt ∧ y21.toInt < 24) (gv (gm_r c23 (t + 4) (upd (c23.1 (t + 4)) y21.toNatClampNeg x41)) (fun (c82 : gm) => gv (y21 + 1) (fun (x83 : Int32) => K48 (x83, c82))))) else K50 ()))))))))
def m_X3_wear (n : Nat) (t : Nat) (a1 : Int32) (a2 : Int32) (a3 : Int32) (a4 : Int32) (a5 : Int32) (a6 : Int32) (a7 : Int32) (c : gm) : Option (Int32 × gm) :=
  gc (gck t = 3) (gv (gm_r c (t + 3) (upd (c.1 (t + 3)) (0 : Int32).toNatClampNeg a1)) (fun (c7 : gm) => gv (gm_r c7 (t + 3) (upd (c7.1 (t + 3)) (1 : Int32).toNatClampNeg a2)) (fun (c9 : gm) => gv (gm_r c9 (t + 3) (upd (c9.1 (t + 3)) (2 : Int32).toNatClampNeg a3)) (fun (c11 : gm) => gv (gm_r c11 (t + 3) (upd (c11.1 (t + 3)) (3 : Int32).toNatClampNeg a4)) (fun (c13 : gm) => gv (gm_r c13 (t + 3) (upd (c13.1 (t + 3)) (4 : Int32).toNatClampNeg a5)) (fun (c15 : gm) => gv (gm_r c15 (t + 3) (upd (c15.1 (t + 3)) (5 : Int32).toNatClampNeg a6)) (fun (c17 : gm) => gv (gm_r c17 (t + 3) (upd (c17.1 (t + 3)) (6 : Int32).toNatClampNeg a7)) (fun (c19 : gm) => gb (gloop (gu2 (fun (y21 : Int32) => gu2 (fun (y22 : Int32) (c23 : gm) => m_X3_wear_L60 t y21 y22 c23))) n (0, 0, c19)) (gu2 (fun (z24 : Int32) (c25 : gm) => gj (fun (v26 : Int32) => (if 0 ≤ v26 then (if v26 ≤ 20 then some (v26, c25) else some (20, c25)) else some (0, c25))) (fun K27 => (if z24 ≤ 0 then K27 0 else K27 (c25.1 (t + 4) (0 : Int32).toNatClampNeg)))))))))))))
abbrev rmX3_wear : Room := { frames := 1, cells := 0, slots := 0, locals := 22 }
set_option maxHeartbeats 4000000 in
set_option maxRecDepth 100000 in
theorem c_X3_wear (l : Launch) (sa : gSa) (D : va_G) (ad : Nat → Nat) (cy : Nat → ClassId) (N sz : Nat) (hN : 55 ≤ N) (hI : gI ad N) (c d0 : gm) {n : Nat} {t : Nat} {a1 : Int32} {a2 : Int32} {a3 : Int32} {a4 : Int32} {a5 : Int32} {a6 : Int32} {a7 : Int32} {rZ : Int32} {cZ : gm} (h : m_X3_wear n t a1 a2 a3 a4 a5 a6 a7 c = some (rZ, cZ)) : Met l yX3_wear wsX3_wear rmX3_wear (va_Pc [.ref (ad t), .int a1, .int a2, .int a3, .int a4, .int a5, .int a6, .int a7] (gP sa D ad cy N sz c d0)) (va_Qi (fun (z : Int32) (_ : Unit) => z = rZ) (fun _ U => gE D ad cy N cZ d0 U) (gA ad N sz)) 0 0 (gA ad N sz) := by
  refine Met.ofW (cc := cX3_wear) (maxL := 11) (ret := (some .int)) (by decide) rfl ?_
  intro p e s m args below meth cod s₁ B hml hv
  obtain ⟨rfl, hsz, hP, hK, hZ⟩ := hv
  have hx := B.exec
  have hb := B.bytes
  have hr := B.returns
  have hts := atoms_spec (ws := wsX3_wear) B.pre
  have hown : s.vm.findClass RX3 = some m.cls := findClass_of_methodNamed B.named
  have hlocks := B.notSynchronized
  subst hsz
  have hl := lv_entry ([.ref (ad t), .int a1, .int a2, .int a3, .int a4, .int a5, .int a6, .int a7]) (n := 11) (Nat.le_of_ble_eq_true rfl)
  rw [lg_entry_eq]
  generalize (lg_sl ([.ref (ad t), .int a1, .int a2, .int a3, .int a4, .int a5, .int a6, .int a7]) ++ List.replicate (11 - (lg_sl ([.ref (ad t), .int a1, .int a2, .int a3, .int a4, .int a5, .int a6, .int a7])).length) Slot.unset).toArray = ls at hl ⊢
  have hl : lv_has ls 11 [(0, .ref (ad t)), (1, .int a1), (2, .int a2), (3, .int a3), (4, .int a4), (5, .int a5), (6, .int a6), (7, .int a7)] := hl
  have in3 : ∀ w ∈ wsX30, w ∈ wsX3_wear := by decide +kernel
  generalize hargs : ([.ref (ad t), .int a1, .int a2, .int a3, .int a4, .int a5, .int a6, .int a7] : List Value).toArray = args at *
  generalize hAe : gA ad N s.heap.size = A
  have F : gF sa D ad cy N A p s m args cod cX3_wear 11 wsX3_wear RX3 := ⟨hx, hb, hml, hown, hts, hK, hI, by rw [← hAe]; exact gA_ad, by rw [← hAe]; exact gA_sz, by rw [← hAe]; exact hZ⟩
  have G : gW D ad cy N A s.heap c d0 s.heap [] := ⟨hP, va_S.rf⟩
  generalize hQ : MQ below (va_Qi (fun (z : Int32) (_ : Unit) => z = rZ) (fun _ U => gE D ad cy N cZ d0 U) A) args s 0 0 A = Q
  suffices hgen : ∀ (H : Heap) (locs : List Loc), gW D ad cy N A s.heap c d0 H locs → W p l e rmX3_wear s m args below meth cod H locs 0 0 Q (F0 m 0 ls []) from hgen _ _ G
  clear G
  intro H locs G
  unfold m_X3_wear at h
  refine lv_aload_n hx hb dX3_wear_0 rfl (lv_at hl 0 rfl) ?_
  obtain ⟨hk1, h⟩ := gc_s h
  have ht2 : t < N := Nat.lt_of_lt_of_le (gck_lt3 hk1) hN
  refine fg_3_values F G hk1 ht2 in3 (by decide +kernel) dX3_wear_1 ?_
  obtain ⟨hk3, hn5⟩ := gka_3_values hk1
  have ht4 : (t + 3) < N := Nat.lt_of_lt_of_le (gck_lt12 hk3) hN
  refine lv_iconst (v := 0) hx hb dX3_wear_4 (by decide) ?_
  refine lv_iload_n hx hb dX3_wear_5 rfl (lv_at hl 1 rfl) ?_
  refine gx_is F G hk3 ht4 hn5 (by decide) dX3_wear_6 (fun H locs G => ?_)
  obtain ⟨c7, ec7⟩ : ∃ z, z = gm_r c (t + 3) (upd (c.1 (t + 3)) (0 : Int32).toNatClampNeg a1) := ⟨_, rfl⟩
  rw [← ec7] at G
  replace h := gv_s h c7 ec7
  refine lv_aload_n hx hb dX3_wear_7 rfl (lv_at hl 0 rfl) ?_
  refine fg_3_values F G hk1 ht2 in3 (by decide +kernel) dX3_wear_8 ?_
  refine lv_iconst (v := 1) hx hb dX3_wear_11 (by decide) ?_
  refine lv_iload_n hx hb dX3_wear_12 rfl (lv_at hl 2 rfl) ?_
  refine gx_is F G hk3 ht4 hn5 (by decide) dX3_wear_13 (fun H locs G => ?_)
  obtain ⟨c9, ec9⟩ : ∃ z, z = gm_r c7 (t + 3) (upd (c7.1 (t + 3)) (1 : Int32).toNatClampNeg a2) := ⟨_, rfl⟩
  rw [← ec9] at G
  replace h := gv_s h c9 ec9
  refine lv_aload_n hx hb dX3_wear_14 rfl (lv_at hl 0 rfl) ?_
  refine fg_3_values F G hk1 ht2 in3 (by decide +kernel) dX3_wear_15 ?_
  refine lv_iconst (v := 2) hx hb dX3_wear_18 (by decide) ?_
  refine lv_iload_n hx hb dX3_wear_19 rfl (lv_at hl 3 rfl) ?_
  refine gx_is F G hk3 ht4 hn5 (by decide) dX3_wear_20 (fun H locs G => ?_)
  obtain ⟨c11, ec11⟩ : ∃ z, z = gm_r c9 (t + 3) (upd (c9.1 (t + 3)) (2 : Int32).toNatClampNeg a3) := ⟨_, rfl⟩
  rw [← ec11] at G
  replace h := gv_s h c11 ec11
  refine lv_aload_n hx hb dX3_wear_21 rfl (lv_at hl 0 rfl) ?_
  refine fg_3_values F G hk1 ht2 in3 (by decide +kernel) dX3_wear_22 ?_
  refine lv_iconst (v := 3) hx hb dX3_wear_25 (by decide) ?_
  refine lv_iload hx hb dX3_wear_26 (lv_at hl 4 rfl) ?_
  refine gx_is F G hk3 ht4 hn5 (by decide) dX3_wear_28 (fun H locs G => ?_)
  obtain ⟨c13, ec13⟩ : ∃ z, z = gm_r c11 (t + 3) (upd (c11.1 (t + 3)) (3 : Int32).toNatClampNeg a4) := ⟨_, rfl⟩
  rw [← ec13] at G
  replace h := gv_s h c13 ec13
  refine lv_aload_n hx hb dX3_wear_29 rfl (lv_at hl 0 rfl) ?_
  refine fg_3_values F G hk1 ht2 in3 (by decide +kernel) dX3_wear_30 ?_
  refine lv_iconst (v := 4) hx hb dX3_wear_33 (by decide) ?_
  refine lv_iload hx hb dX3_wear_34 (lv_at hl 5 rfl) ?_
  refine gx_is F G hk3 ht4 hn5 (by decide) dX3_wear_36 (fun H locs G => ?_)
  obtain ⟨c15, ec15⟩ : ∃ z, z = gm_r c13 (t + 3) (upd (c13.1 (t + 3)) (4 : Int32).toNatClampNeg a5) := ⟨_, rfl⟩
  rw [← ec15] at G
  replace h := gv_s h c15 ec15
  refine lv_aload_n hx hb dX3_wear_37 rfl (lv_at hl 0 rfl) ?_
  refine fg_3_values F G hk1 ht2 in3 (by decide +kernel) dX3_wear_38 ?_
  refine lv_iconst (v := 5) hx hb dX3_wear_41 (by decide) ?_
  refine lv_iload hx hb dX3_wear_42 (lv_at hl 6 rfl) ?_
  refine gx_is F G hk3 ht4 hn5 (by decide) dX3_wear_44 (fun H locs G => ?_)
  obtain ⟨c17, ec17⟩ : ∃ z, z = gm_r c15 (t + 3) (upd (c15.1 (t + 3)) (5 : Int32).toNatClampNeg a6) := ⟨_, rfl⟩
  rw [← ec17] at G
  replace h := gv_s h c17 ec17
  refine lv_aload_n hx hb dX3_wear_45 rfl (lv_at hl 0 rfl) ?_
  refine fg_3_values F G hk1 ht2 in3 (by decide +kernel) dX3_wear_46 ?_
  refine lv_bipush (v := 6) hx hb dX3_wear_49 (by decide) ?_
  refine lv_iload hx hb dX3_wear_51 (lv_at hl 7 rfl) ?_
  refine gx_is F G hk3 ht4 hn5 (by decide) dX3_wear_53 (fun H locs G => ?_)
  obtain ⟨c19, ec19⟩ : ∃ z, z = gm_r c17 (t + 3) (upd (c17.1 (t + 3)) (6 : Int32).toNatClampNeg a7) := ⟨_, rfl⟩
  rw [← ec19] at G
  replace h := gv_s h c19 ec19
  refine lv_iconst (v := 0) hx hb dX3_wear_54 (by decide) ?_
  refine lv_istore (lv' := [(8, .int 0), (0, .ref (ad t)), (1, .int a1), (2, .int a2), (3, .int a3), (4, .int a4), (5, .int a5), (6, .int a6), (7, .int a7)]) hx hb dX3_wear_55 hl (by decide) rfl (fun ls hl => ?_)
  refine lv_iconst (v := 0) hx hb dX3_wear_57 (by decide) ?_
  refine lv_istore (lv' := [(9, .int 0), (8, .int 0), (0, .ref (ad t)), (1, .int a1), (2, .int a2), (3, .int a3), (4, .int a4), (5, .int a5), (6, .int a6), (7, .int a7)]) hx hb dX3_wear_58 hl (by decide) rfl (fun ls hl => ?_)
  obtain ⟨b20, hb20, hK20⟩ := gb_s h
  have E20 : ∀ (z24 : Int32) (c25 : gm) (H : Heap) (locs : List Loc) (ls : Array Slot), ((z24, c25) : Int32 × gm) = b20 → gW D ad cy N A s.heap c25 d0 H locs → lv_has ls 11 [(0, .ref (ad t)), (8, .int z24)] → W p l e rmX3_wear s m args below meth cod H locs 0 0 Q (F0 m 218 ls []) := by
    intro z24 c25 H locs ls hq20 G hl
    subst hq20
    replace hK20 := hK20
    replace hK20 := gu2_s hK20
    have h := hK20
    refine lv_iload hx hb dX3_wear_218 (lv_at hl 1 rfl) ?_
    obtain ⟨K27, eK27, h⟩ := gj_s h
    have JK27 : ∀ (v26 : Int32) (H : Heap) (locs : List Loc) (ls : Array Slot), K27 v26 = some (rZ, cZ) → gW D ad cy N A s.heap c25 d0 H locs → lv_has ls 11 [] → W p l e rmX3_wear s m args below meth cod H locs 0 0 Q (F0 m 233 ls [.int v26]) := by
      intro v26 H locs ls h G hl
      rw [eK27] at h
      refine lv_istore (lv' := [(9, .int v26)]) hx hb dX3_wear_233 hl (by decide) rfl (fun ls hl => ?_)
      refine lv_iload hx hb dX3_wear_235 (lv_at hl 0 rfl) ?_
      refine lv_if_ge (tgt := 244) hx hb dX3_wear_237 (by decide) (fun q28 => ?_) (fun q28 => ?_)
      · replace h := gt_s q28 h
        refine lv_iload hx hb dX3_wear_244 (lv_at hl 0 rfl) ?_
        refine lv_bipush (v := 20) hx hb dX3_wear_246 (by decide) ?_
        refine lv_icmp_le (tgt := 256) hx hb dX3_wear_248 (by decide) (fun q29 => ?_) (fun q29 => ?_)
        · replace h := gt_s q29 h
          refine lv_iload hx hb dX3_wear_256 (lv_at hl 0 rfl) ?_
          cases h
          rw [← hQ]
          exact gx_iret F G hr hlocks dX3_wear_258
        · replace h := gf_s q29 h
          refine lv_bipush (v := 20) hx hb dX3_wear_251 (by decide) ?_
          refine lv_goto (tgt := 258) hx hb dX3_wear_253 (by decide) ?_
          cases h
          rw [← hQ]
          exact gx_iret F G hr hlocks dX3_wear_258
      · replace h := gf_s q28 h
        refine lv_iconst (v := 0) hx hb dX3_wear_240 (by decide) ?_
        refine lv_goto (tgt := 258) hx hb dX3_wear_241 (by decide) ?_
        cases h
        rw [← hQ]
        exact gx_iret F G hr hlocks dX3_wear_258
    refine lv_if_le (tgt := 232) hx hb dX3_wear_220 (by decide) (fun q30 => ?_) (fun q30 => ?_)
    · replace h := gt_s q30 h
      refine lv_iconst (v := 0) hx hb dX3_wear_232 (by decide) ?_
      exact JK27 _ _ _ _ h G (lv_sub hl [] rfl)
    · replace h := gf_s q30 h
      refine lv_aload_n hx hb dX3_wear_223 rfl (lv_at hl 0 rfl) ?_
      refine fg_3_stack F G hk1 ht2 in3 (by decide +kernel) dX3_wear_224 ?_
      obtain ⟨hk31, hn33⟩ := gka_3_stack hk1
      have ht32 : (t + 4) < N := Nat.lt_of_lt_of_le (gck_lt12 hk31) hN
      refine lv_iconst (v := 0) hx hb dX3_wear_227 (by decide) ?_
      refine gx_ia F G hk31 ht32 hn33 (by decide) dX3_wear_228 ?_
      refine lv_goto (tgt := 233) hx hb dX3_wear_229 (by decide) ?_
      exact JK27 _ _ _ _ h G (lv_sub hl [] rfl)
  have L20 : ∀ (n9 : Nat) (y21 : Int32) (y22 : Int32) (c23 : gm) (H : Heap) (locs : List Loc) (ls : Array Slot), gloop (gu2 (fun (y21 : Int32) => gu2 (fun (y22 : Int32) (c23 : gm) => m_X3_wear_L60 t y21 y22 c23))) n9 (y21, y22, c23) = some b20 → gW D ad cy N A s.heap c23 d0 H locs → lv_has ls 11 [(0, .ref (ad t)), (8, .int y21), (9, .int y22)] → W p l e rmX3_wear s m args below meth cod H locs 0 0 Q (F0 m 60 ls []) := by
    intro n9
    induction n9 with
    | zero => intro y21 y22 c23 H locs ls h; exact (gloop_0 h).elim
    | succ n9 ih =>
      intro y21 y22 c23 H locs ls h G hl
      have ih20 := ih
      obtain ⟨o20, h, hn20⟩ := gloop_s h
      replace h := gu2_s h
      replace h := gu2_s h
      unfold m_X3_wear_L60 at h
      refine lv_iload hx hb dX3_wear_60 (lv_at hl 2 rfl) ?_
      refine lv_aload_n hx hb dX3_wear_62 rfl (lv_at hl 0 rfl) ?_
      refine fg_3_size F G hk1 ht2 in3 (by decide +kernel) dX3_wear_63 ?_
      refine lv_icmp_ge (tgt := 218) hx hb dX3_wear_66 (by decide) (fun q35 => ?_) (fun q35 => ?_)
      · replace h := gt_s q35 h
        cases h
        exact E20 _ _ _ _ _ (gnx_r hn20) G (lv_sub hl [0, 1] rfl)
      · replace h := gf_s q35 h
        refine lv_iload hx hb dX3_wear_69 (lv_at hl 2 rfl) ?_
        refine lv_sipush (v := 150) hx hb dX3_wear_71 (by decide) ?_
        refine lv_icmp_ge (tgt := 218) hx hb dX3_wear_74 (by decide) (fun q36 => ?_) (fun q36 => ?_)
        · replace h := gt_s q36 h
          cases h
          exact E20 _ _ _ _ _ (gnx_r hn20) G (lv_sub hl [0, 1] rfl)
        · replace h := gf_s q36 h
          refine lv_aload_n hx hb dX3_wear_77 rfl (lv_at hl 0 rfl) ?_
          refine fg_3_operands F G hk1 ht2 in3 (by decide +kernel) dX3_wear_78 ?_
          obtain ⟨hk37, hn39⟩ := gka_3_operands hk1
          have ht38 : (t + 2) < N := Nat.lt_of_lt_of_le (gck_lt12 hk37) hN
          refine lv_iload hx hb dX3_wear_81 (lv_at hl 2 rfl) ?_
          obtain ⟨hi40, h⟩ := gc_s h
          refine gx_ia F G hk37 ht38 hn39 hi40 dX3_wear_83 ?_
          refine lv_topi (fun x41 ex41 => ?_)
          replace h := gv_s h x41 ex41
          refine lv_istore (lv' := [(10, .int x41), (0, .ref (ad t)), (8, .int y21), (9, .int y22)]) hx hb dX3_wear_84 hl (by decide) rfl (fun ls hl => ?_)
          refine lv_aload_n hx hb dX3_wear_86 rfl (lv_at hl 1 rfl) ?_
          refine fg_3_marks F G hk1 ht2 in3 (by decide +kernel) dX3_wear_87 ?_
          obtain ⟨hk42, hn44⟩ := gka_3_marks hk1
          have ht43 : (t + 1) < N := Nat.lt_of_lt_of_le (gck_lt12 hk42) hN
          refine lv_iload hx hb dX3_wear_90 (lv_at hl 3 rfl) ?_
          obtain ⟨hi45, h⟩ := gc_s h
          refine gx_ia F G hk42 ht43 hn44 hi45 dX3_wear_92 ?_
          obtain ⟨K48, eK48, h⟩ := gj_s h
          have JK48 : ∀ (v46 : Int32) (c47 : gm) (H : Heap) (locs : List Loc) (ls : Array Slot), K48 (v46, c47) = some o20 → gW D ad cy N A s.heap c47 d0 H locs → lv_has ls 11 [(0, .ref (ad t)), (8, .int v46), (9, .int y22)] → W p l e rmX3_wear s m args below meth cod H locs 0 0 Q (F0 m 212 ls []) := by
            intro v46 c47 H locs ls h G hl
            rw [eK48] at h
            replace h := gu2_s h
            obtain ⟨x49, ex49⟩ : ∃ z : Int32, z = y22 + 1 := ⟨_, rfl⟩
            replace h := gv_s h x49 ex49
            refine lv_iinc (v := x49) (lv' := [(9, .int x49), (0, .ref (ad t)), (8, .int v46)]) hx hb dX3_wear_212 hl (k := 2) rfl (by rw [ex49]; rfl) (by decide) rfl (fun ls hl => ?_)
            refine lv_goto (tgt := 60) hx hb dX3_wear_215 (by decide) ?_
            cases h
            exact ih20 _ _ _ _ _ _ hn20 G (lv_sub hl [1, 2, 0] rfl)
          obtain ⟨K50, eK50, h⟩ := gj_s h
          have JK50 : ∀ (H : Heap) (locs : List Loc) (ls : Array Slot), K50 () = some o20 → gW D ad cy N A s.heap c23 d0 H locs → lv_has ls 11 [(0, .ref (ad t)), (8, .int y21), (9, .int y22), (10, .int x41)] → W p l e rmX3_wear s m args below meth cod H locs 0 0 Q (F0 m 118 ls []) := by
            intro  H locs ls h G hl
            rw [eK50] at h
            refine lv_aload_n hx hb dX3_wear_118 rfl (lv_at hl 0 rfl) ?_
            refine fg_3_marks F G hk1 ht2 in3 (by decide +kernel) dX3_wear_119 ?_
            refine lv_iload hx hb dX3_wear_122 (lv_at hl 2 rfl) ?_
            obtain ⟨hi51, h⟩ := gc_s h
            refine gx_ia F G hk42 ht43 hn44 hi51 dX3_wear_124 ?_
            refine lv_iconst (v := 1) hx hb dX3_wear_125 (by decide) ?_
            obtain ⟨K52, eK52, h⟩ := gj_s h
            have JK52 : ∀ (H : Heap) (locs : List Loc) (ls : Array Slot), K52 () = some o20 → gW D ad cy N A s.heap c23 d0 H locs → lv_has ls 11 [(0, .ref (ad t)), (8, .int y21), (9, .int y22)] → W p l e rmX3_wear s m args below meth cod H locs 0 0 Q (F0 m 168 ls []) := by
              intro  H locs ls h G hl
              rw [eK52] at h
              refine lv_iload hx hb dX3_wear_168 (lv_at hl 1 rfl) ?_
              refine lv_iconst (v := 2) hx hb dX3_wear_170 (by decide) ?_
              refine lv_icmp_lt (tgt := 212) hx hb dX3_wear_171 (by decide) (fun q53 => ?_) (fun q53 => ?_)
              · replace h := gt_s q53 h
                exact JK48 _ _ _ _ _ h G hl
              · replace h := gf_s q53 h
                obtain ⟨x54, ex54⟩ : ∃ z : Int32, z = y21 + (-1) := ⟨_, rfl⟩
                replace h := gv_s h x54 ex54
                refine lv_iinc (v := x54) (lv' := [(8, .int x54), (0, .ref (ad t)), (9, .int y22)]) hx hb dX3_wear_174 hl (k := 1) rfl (by rw [ex54]; rfl) (by decide) rfl (fun ls hl => ?_)
                refine lv_aload_n hx hb dX3_wear_177 rfl (lv_at hl 1 rfl) ?_
                refine fg_3_stack F G hk1 ht2 in3 (by decide +kernel) dX3_wear_178 ?_
                obtain ⟨hk55, hn57⟩ := gka_3_stack hk1
                have ht56 : (t + 4) < N := Nat.lt_of_lt_of_le (gck_lt12 hk55) hN
                refine lv_iload hx hb dX3_wear_181 (lv_at hl 0 rfl) ?_
                refine lv_iconst (v := 1) hx hb dX3_wear_183 (by decide) ?_
                refine lv_isub hx hb dX3_wear_184 ?_
                refine lv_aload_n hx hb dX3_wear_185 rfl (lv_at hl 1 rfl) ?_
                refine fg_3_marks F G hk1 ht2 in3 (by decide +kernel) dX3_wear_186 ?_
                refine lv_iload hx hb dX3_wear_189 (lv_at hl 2 rfl) ?_
                obtain ⟨hi58, h⟩ := gc_s h
                refine gx_ia F G hk42 ht43 hn44 hi58 dX3_wear_191 ?_
                refine lv_aload_n hx hb dX3_wear_192 rfl (lv_at hl 1 rfl) ?_
                refine fg_3_stack F G hk1 ht2 in3 (by decide +kernel) dX3_wear_193 ?_
                refine lv_iload hx hb dX3_wear_196 (lv_at hl 0 rfl) ?_
                refine lv_iconst (v := 1) hx hb dX3_wear_198 (by decide) ?_
                refine lv_isub hx hb dX3_wear_199 ?_
                obtain ⟨hi59, h⟩ := gc_s h
                refine gx_ia F G hk55 ht56 hn57 hi59 dX3_wear_200 ?_
                refine lv_aload_n hx hb dX3_wear_201 rfl (lv_at hl 1 rfl) ?_
                refine fg_3_stack F G hk1 ht2 in3 (by decide +kernel) dX3_wear_202 ?_
                refine lv_iload hx hb dX3_wear_205 (lv_at hl 0 rfl) ?_
                obtain ⟨hi60, h⟩ := gc_s h
                refine gx_ia F G hk55 ht56 hn57 hi60 dX3_wear_207 ?_
                obtain ⟨r62, hc61, h⟩ := gb_s h
                refine gx_calli F G (va_runS (As := [.int (c23.1 (t + 1) y22.toNatClampNeg), .int (c23.1 (t + 4) (x54 - 1).toNatClampNeg), .int (c23.1 (t + 4) x54.toNatClampNeg)]) (rest := [.int (x54 - 1), .ref (ad (t + 4))]) (gx_fix F) (c_X3_joined l sa D ad cy N H.size hN hI c23 d0 hc61) (va_cwS 3 hts gX3_wear_X3_joined rfl rfl rfl (by decide +kernel) ⟨by decide, by decide⟩) (gx_pre F G) rfl rfl hl.1 rfl (lv_room (Nat.le_of_ble_eq_true rfl)) dX3_wear_208 ⟨Nat.zero_le _, Nat.zero_le _⟩) (fun H locs G => ?_)
                obtain ⟨hi63, h⟩ := gc_s h
                refine gx_is F G hk55 ht56 hn57 hi63 dX3_wear_211 (fun H locs G => ?_)
                obtain ⟨c64, ec64⟩ : ∃ z, z = gm_r c23 (t + 4) (upd (c23.1 (t + 4)) (x54 - 1).toNatClampNeg r62) := ⟨_, rfl⟩
                rw [← ec64] at G
                replace h := gv_s h c64 ec64
                exact JK48 _ _ _ _ _ h G (lv_sub hl [1, 0, 2] rfl)
            refine lv_icmp_ne (tgt := 168) hx hb dX3_wear_126 (by decide) (fun q65 => ?_) (fun q65 => ?_)
            · replace h := gf_s q65 h
              exact JK52  _ _ _ h G (lv_sub hl [0, 1, 2] rfl)
            · replace h := gt_s q65 h
              refine lv_iload hx hb dX3_wear_129 (lv_at hl 1 rfl) ?_
              refine lv_bipush (v := 24) hx hb dX3_wear_131 (by decide) ?_
              refine lv_icmp_ge (tgt := 168) hx hb dX3_wear_133 (by decide) (fun q66 => ?_) (fun q66 => ?_)
              · replace h := gt_s q66 h
                exact JK52  _ _ _ h G (lv_sub hl [0, 1, 2] rfl)
              · replace h := gf_s q66 h
                refine lv_iload hx hb dX3_wear_136 (lv_at hl 3 rfl) ?_
                refine lv_if_lt (tgt := 168) hx hb dX3_wear_138 (by decide) (fun q67 => ?_) (fun q67 => ?_)
                · replace h := gt_s q67 h
                  exact JK52  _ _ _ h G (lv_sub hl [0, 1, 2] rfl)
                · replace h := gf_s q67 h
                  refine lv_iload hx hb dX3_wear_141 (lv_at hl 3 rfl) ?_
                  refine lv_bipush (v := 7) hx hb dX3_wear_143 (by decide) ?_
                  refine lv_icmp_ge (tgt := 168) hx hb dX3_wear_145 (by decide) (fun q68 => ?_) (fun q68 => ?_)
                  · replace h := gt_s q68 h
                    exact JK52  _ _ _ h G (lv_sub hl [0, 1, 2] rfl)
                  · replace h := gf_s q68 h
                    refine lv_aload_n hx hb dX3_wear_148 rfl (lv_at hl 0 rfl) ?_
                    refine fg_3_stack F G hk1 ht2 in3 (by decide +kernel) dX3_wear_149 ?_
                    obtain ⟨hk69, hn71⟩ := gka_3_stack hk1
                    have ht70 : (t + 4) < N := Nat.lt_of_lt_of_le (gck_lt12 hk69) hN
                    refine lv_iload hx hb dX3_wear_152 (lv_at hl 1 rfl) ?_
                    refine lv_aload_n hx hb dX3_wear_154 rfl (lv_at hl 0 rfl) ?_
                    refine fg_3_values F G hk1 ht2 in3 (by decide +kernel) dX3_wear_155 ?_
                    refine lv_iload hx hb dX3_wear_158 (lv_at hl 3 rfl) ?_
                    obtain ⟨hi72, h⟩ := gc_s h
                    refine gx_ia F G hk3 ht4 hn5 hi72 dX3_wear_160 ?_
                    obtain ⟨hi73, h⟩ := gc_s h
                    refine gx_is F G hk69 ht70 hn71 hi73 dX3_wear_161 (fun H locs G => ?_)
                    obtain ⟨c74, ec74⟩ : ∃ z, z = gm_r c23 (t + 4) (upd (c23.1 (t + 4)) y21.toNatClampNeg (c23.1 (t + 3) x41.toNatClampNeg)) := ⟨_, rfl⟩
                    rw [← ec74] at G
                    replace h := gv_s h c74 ec74
                    obtain ⟨x75, ex75⟩ : ∃ z : Int32, z = y21 + 1 := ⟨_, rfl⟩
                    replace h := gv_s h x75 ex75
                    refine lv_iinc (v := x75) (lv' := [(8, .int x75), (0, .ref (ad t)), (9, .int y22), (10, .int x41)]) hx hb dX3_wear_162 hl (k := 1) rfl (by rw [ex75]; rfl) (by decide) rfl (fun ls hl => ?_)
                    refine lv_goto (tgt := 212) hx hb dX3_wear_165 (by decide) ?_
                    exact JK48 _ _ _ _ _ h G (lv_sub hl [1, 0, 2] rfl)
          refine lv_if_ne (tgt := 118) hx hb dX3_wear_93 (by decide) (fun q76 => ?_) (fun q76 => ?_)
          · replace h := gf_s q76 h
            exact JK50  _ _ _ h G (lv_sub hl [1, 2, 3, 0] rfl)
          · replace h := gt_s q76 h
            refine lv_iload hx hb dX3_wear_96 (lv_at hl 2 rfl) ?_
            refine lv_bipush (v := 24) hx hb dX3_wear_98 (by decide) ?_
            refine lv_icmp_ge (tgt := 118) hx hb dX3_wear_100 (by decide) (fun q77 => ?_) (fun q77 => ?_)
            · replace h := gt_s q77 h
              exact JK50  _ _ _ h G (lv_sub hl [1, 2, 3, 0] rfl)
            · replace h := gf_s q77 h
              refine lv_aload_n hx hb dX3_wear_103 rfl (lv_at hl 1 rfl) ?_
              refine fg_3_stack F G hk1 ht2 in3 (by decide +kernel) dX3_wear_104 ?_
              obtain ⟨hk78, hn80⟩ := gka_3_stack hk1
              have ht79 : (t + 4) < N := Nat.lt_of_lt_of_le (gck_lt12 hk78) hN
              refine lv_iload hx hb dX3_wear_107 (lv_at hl 2 rfl) ?_
              refine lv_iload hx hb dX3_wear_109 (lv_at hl 0 rfl) ?_
              obtain ⟨hi81, h⟩ := gc_s h
              refine gx_is F G hk78 ht79 hn80 hi81 dX3_wear_111 (fun H locs G => ?_)
              obtain ⟨c82, ec82⟩ : ∃ z, z = gm_r c23 (t + 4) (upd (c23.1 (t + 4)) y21.toNatClampNeg x41) := ⟨_, rfl⟩
              rw [← ec82] at G
              replace h := gv_s h c82 ec82
              obtain ⟨x83, ex83⟩ : ∃ z : Int32, z = y21 + 1 := ⟨_, rfl⟩
              replace h := gv_s h x83 ex83
              refine lv_iinc (v := x83) (lv' := [(8, .int x83), (10, .int x41), (0, .ref (ad t)), (9, .int y22)]) hx hb dX3_wear_112 hl (k := 2) rfl (by rw [ex83]; rfl) (by decide) rfl (fun ls hl => ?_)
              refine lv_goto (tgt := 212) hx hb dX3_wear_115 (by decide) ?_
              exact JK48 _ _ _ _ _ h G (lv_sub hl [2, 0, 3] rfl)
  exact L20 n _ _ _ _ _ _ hb20 G (lv_sub hl [2, 1, 0] rfl)
def m_X6_wearOf (n : Nat) (t : Nat) (a1 : Int32) (a2 : Nat) (c : gm) : Option (Int32 × gm) :=
  gc (gck t = 6) (gb (m_X6_criesWith n t a1 c) (fun (r4 : Int32) => gb (m_J6_bitCount_0f7a4 r4) (fun (r6 : Int32) => gb (m_X6_weightOf t a1 c) (fun (r8 : Int32) => gb (m_X6_weighedOf t a1 c) (fun (r10 : Int32) => gc (gck a2 = 3) (gb2 (m_X3_wear n a2 r8 r10 r6 a1 (c.1 t 9) (c.1 t 7) (c.1 t 8) c) (fun (r14 : Int32) (c15 : gm) => some (r14, c15))))))))
abbrev rmX6_wearOf : Room := { frames := 2, cells := 0, slots := 0, locals := 52 }
set_option maxHeartbeats 4000000 in
set_option maxRecDepth 100000 in
theorem c_X6_wearOf (l : Launch) (sa : gSa) (D : va_G) (ad : Nat → Nat) (cy : Nat → ClassId) (N sz : Nat) (hN : 55 ≤ N) (hI : gI ad N) (c d0 : gm) {n : Nat} {t : Nat} {a1 : Int32} {a2 : Nat} {rZ : Int32} {cZ : gm} (h : m_X6_wearOf n t a1 a2 c = some (rZ, cZ)) : Met l yX6_wearOf wsX6_wearOf rmX6_wearOf (va_Pc [.ref (ad t), .int a1, .ref (ad a2)] (gP sa D ad cy N sz c d0)) (va_Qi (fun (z : Int32) (_ : Unit) => z = rZ) (fun _ U => gE D ad cy N cZ d0 U) (gA ad N sz)) 0 0 (gA ad N sz) := by
  refine Met.ofW (cc := cX6_wearOf) (maxL := 4) (ret := (some .int)) (by decide) rfl ?_
  intro p e s m args below meth cod s₁ B hml hv
  obtain ⟨rfl, hsz, hP, hK, hZ⟩ := hv
  have hx := B.exec
  have hb := B.bytes
  have hr := B.returns
  have hts := atoms_spec (ws := wsX6_wearOf) B.pre
  have hown : s.vm.findClass RX6 = some m.cls := findClass_of_methodNamed B.named
  have hlocks := B.notSynchronized
  subst hsz
  have hl := lv_entry ([.ref (ad t), .int a1, .ref (ad a2)]) (n := 4) (Nat.le_of_ble_eq_true rfl)
  rw [lg_entry_eq]
  generalize (lg_sl ([.ref (ad t), .int a1, .ref (ad a2)]) ++ List.replicate (4 - (lg_sl ([.ref (ad t), .int a1, .ref (ad a2)])).length) Slot.unset).toArray = ls at hl ⊢
  have hl : lv_has ls 4 [(0, .ref (ad t)), (1, .int a1), (2, .ref (ad a2))] := hl
  have in6 : ∀ w ∈ wsX60, w ∈ wsX6_wearOf := by decide +kernel
  generalize hargs : ([.ref (ad t), .int a1, .ref (ad a2)] : List Value).toArray = args at *
  generalize hAe : gA ad N s.heap.size = A
  have F : gF sa D ad cy N A p s m args cod cX6_wearOf 4 wsX6_wearOf RX6 := ⟨hx, hb, hml, hown, hts, hK, hI, by rw [← hAe]; exact gA_ad, by rw [← hAe]; exact gA_sz, by rw [← hAe]; exact hZ⟩
  have G : gW D ad cy N A s.heap c d0 s.heap [] := ⟨hP, va_S.rf⟩
  generalize hQ : MQ below (va_Qi (fun (z : Int32) (_ : Unit) => z = rZ) (fun _ U => gE D ad cy N cZ d0 U) A) args s 0 0 A = Q
  suffices hgen : ∀ (H : Heap) (locs : List Loc), gW D ad cy N A s.heap c d0 H locs → W p l e rmX6_wearOf s m args below meth cod H locs 0 0 Q (F0 m 0 ls []) from hgen _ _ G
  clear G
  intro H locs G
  unfold m_X6_wearOf at h
  refine lv_aload_n hx hb dX6_wearOf_0 rfl (lv_at hl 0 rfl) ?_
  refine lv_iload_n hx hb dX6_wearOf_1 rfl (lv_at hl 1 rfl) ?_
  obtain ⟨hk1, h⟩ := gc_s h
  have ht2 : t < N := Nat.lt_of_lt_of_le (gck_lt6 hk1) hN
  obtain ⟨r4, hc3, h⟩ := gb_s h
  refine gx_calli F G (va_runV (As := [.int a1]) (rest := []) (gx_fix F) (c_X6_criesWith l sa D ad cy N H.size hN hI c d0 hc3) (cwV 1 hts gX6_wearOf_X6_criesWith rfl rfl rfl (by decide +kernel) ⟨by decide, by decide⟩) (gx_rec F G ht2 (gwe_6 hk1) rfl) rfl rfl hl.1 rfl (lv_room (Nat.le_of_ble_eq_true rfl)) dX6_wearOf_2 ⟨Nat.zero_le _, Nat.zero_le _⟩) (fun H locs G => ?_)
  obtain ⟨r6, hc5, h⟩ := gb_s h
  refine gx_calli F G (va_runS (As := [.int r4]) (rest := []) (gx_fix F) (c_J6_bitCount_0f7a4 l sa D ad cy N H.size hN hI c d0 hc5) (va_cwS 1 hts gX6_wearOf_J6_bitCount_0f7a4 rfl rfl rfl (by decide +kernel) ⟨by decide, by decide⟩) (gx_pre F G) rfl rfl hl.1 rfl (lv_room (Nat.le_of_ble_eq_true rfl)) dX6_wearOf_5 ⟨Nat.zero_le _, Nat.zero_le _⟩) (fun H locs G => ?_)
  refine lv_istore_n (lv' := [(3, .int r6), (0, .ref (ad t)), (1, .int a1), (2, .ref (ad a2))]) hx hb dX6_wearOf_8 rfl hl (by decide) rfl (fun ls hl => ?_)
  refine lv_aload_n hx hb dX6_wearOf_9 rfl (lv_at hl 3 rfl) ?_
  refine lv_aload_n hx hb dX6_wearOf_10 rfl (lv_at hl 1 rfl) ?_
  refine lv_iload_n hx hb dX6_wearOf_11 rfl (lv_at hl 2 rfl) ?_
  obtain ⟨r8, hc7, h⟩ := gb_s h
  refine gx_calli F G (va_runV (As := [.int a1]) (rest := [.ref (ad a2)]) (gx_fix F) (c_X6_weightOf l sa D ad cy N H.size hN hI c d0 hc7) (cwV 1 hts gX6_wearOf_X6_weightOf rfl rfl rfl (by decide +kernel) ⟨by decide, by decide⟩) (gx_rec F G ht2 (gwe_6 hk1) rfl) rfl rfl hl.1 rfl (lv_room (Nat.le_of_ble_eq_true rfl)) dX6_wearOf_12 ⟨Nat.zero_le _, Nat.zero_le _⟩) (fun H locs G => ?_)
  refine lv_aload_n hx hb dX6_wearOf_15 rfl (lv_at hl 1 rfl) ?_
  refine lv_iload_n hx hb dX6_wearOf_16 rfl (lv_at hl 2 rfl) ?_
  obtain ⟨r10, hc9, h⟩ := gb_s h
  refine gx_calli F G (va_runV (As := [.int a1]) (rest := [.int r8, .ref (ad a2)]) (gx_fix F) (c_X6_weighedOf l sa D ad cy N H.size hN hI c d0 hc9) (cwV 1 hts gX6_wearOf_X6_weighedOf rfl rfl rfl (by decide +kernel) ⟨by decide, by decide⟩) (gx_rec F G ht2 (gwe_6 hk1) rfl) rfl rfl hl.1 rfl (lv_room (Nat.le_of_ble_eq_true rfl)) dX6_wearOf_17 ⟨Nat.zero_le _, Nat.zero_le _⟩) (fun H locs G => ?_)
  refine lv_iload_n hx hb dX6_wearOf_20 rfl (lv_at hl 0 rfl) ?_
  refine lv_iload_n hx hb dX6_wearOf_21 rfl (lv_at hl 2 rfl) ?_
  refine lv_aload_n hx hb dX6_wearOf_22 rfl (lv_at hl 1 rfl) ?_
  refine fg_6_day F G hk1 ht2 in6 (by decide +kernel) dX6_wearOf_23 ?_
  refine lv_aload_n hx hb dX6_wearOf_26 rfl (lv_at hl 1 rfl) ?_
  refine fg_6_lean F G hk1 ht2 in6 (by decide +kernel) dX6_wearOf_27 ?_
  refine lv_aload_n hx hb dX6_wearOf_30 rfl (lv_at hl 1 rfl) ?_
  refine fg_6_play F G hk1 ht2 in6 (by decide +kernel) dX6_wearOf_31 ?_
  obtain ⟨hk11, h⟩ := gc_s h
  have ht12 : a2 < N := Nat.lt_of_lt_of_le (gck_lt3 hk11) hN
  obtain ⟨r14, c15, hc13, h⟩ := gb2_s h
  refine gx_calli F G (va_runV (As := [.int r8, .int r10, .int r6, .int a1, .int (c.1 t 9), .int (c.1 t 7), .int (c.1 t 8)]) (rest := []) (gx_fix F) (c_X3_wear l sa D ad cy N H.size hN hI c d0 hc13) (cwV 7 hts gX6_wearOf_X3_wear rfl rfl rfl (by decide +kernel) ⟨by decide, by decide⟩) (gx_rec F G ht12 (gwe_3 hk11) rfl) rfl rfl hl.1 rfl (lv_room (Nat.le_of_ble_eq_true rfl)) dX6_wearOf_34 ⟨Nat.zero_le _, Nat.zero_le _⟩) (fun H locs G => ?_)
  cases h
  rw [← hQ]
  exact gx_iret F G hr hlocks dX6_wearOf_37
def m_X6_passDay_L36 (t : Nat) (y6 : Int32) (c7 : gm) : Option ((Int32 × gm) ⊕ (gm)) :=
  gc (gck t = 6) ((if (c7.1 t 5) ≤ y6 then some (.inr c7) else (if 8 ≤ y6 then some (.inr c7) else gc (0 ≤ y6.toInt ∧ y6.toInt < 8) (gc (0 ≤ y6.toInt ∧ y6.toInt < 8) (gc (0 ≤ y6.toInt ∧ y6.toInt < 8) (gv (gm_r c7 (t + 2) (upd (c7.1 (t + 2)) y6.toNatClampNeg (if ((c7.1 (t + 2) y6.toNatClampNeg) - (c7.1 (t + 4) y6.toNatClampNeg)) < 1 then 1 else ((c7.1 (t + 2) y6.toNatClampNeg) - (c7.1 (t + 4) y6.toNatClampNeg))))) (fun (c25 : gm) => gv (y6 + 1) (fun (x26 : Int32) => some (.inl (x26, c25))))))))))
def m_X6_passDay_L2 (n : Nat) (t : Nat) (a1 : Nat) (y2 : Int32) (c3 : gm) : Option ((Int32 × gm) ⊕ (gm)) :=
  gc (gck t = 6) ((if (c3.1 t 5) ≤ y2 then some (.inr c3) else (if 8 ≤ y2 then some (.inr c3) else gb2 (m_X6_wearOf n t y2 a1 c3) (fun (r35 : Int32) (c36 : gm) => gc (0 ≤ y2.toInt ∧ y2.toInt < 8) (gv (gm_r c36 (t + 4) (upd (c36.1 (t + 4)) y2.toNatClampNeg r35)) (fun (c38 : gm) => gv (y2 + 1) (fun (x39 : Int32) => some (.inl (x39, c38)))))))))
def m_X6_passDay (n : Nat) (t : Nat) (a1 : Nat) (c : gm) : Option (Int32 × gm) :=
  gb (gloop (gu2 (fun (y2 : Int32) (c3 : gm) => m_X6_passDay_L2 n t a1 y2 c3)) n (0, c)) (fun (c4 : gm) => gb (gloop (gu2 (fun (y6 : Int32) (c7 : gm) => m_X6_passDay_L36 t y6 c7)) n (0, c4)) (fun (c8 : gm) => gc (gck t = 6) (gv (gm_r c8 t (upd (c8.1 t) 9 ((c8.1 t 9) + 1))) (fun (c11 : gm) => some (1, c11)))))
abbrev rmX6_passDay : Room := { frames := 3, cells := 0, slots := 0, locals := 75 }
set_option maxHeartbeats 4000000 in
set_option maxRecDepth 100000 in
theorem c_X6_passDay (l : Launch) (sa : gSa) (D : va_G) (ad : Nat → Nat) (cy : Nat → ClassId) (N sz : Nat) (hN : 55 ≤ N) (hI : gI ad N) (c d0 : gm) {n : Nat} {t : Nat} {a1 : Nat} {rZ : Int32} {cZ : gm} (h : m_X6_passDay n t a1 c = some (rZ, cZ)) : Met l yX6_passDay wsX6_passDay rmX6_passDay (va_Pc [.ref (ad t), .ref (ad a1)] (gP sa D ad cy N sz c d0)) (va_Qi (fun (z : Int32) (_ : Unit) => z = rZ) (fun _ U => gE D ad cy N cZ d0 U) (gA ad N sz)) 0 0 (gA ad N sz) := by
  refine Met.ofW (cc := cX6_passDay) (maxL := 3) (ret := (some .boolean)) (by decide) rfl ?_
  intro p e s m args below meth cod s₁ B hml hv
  obtain ⟨rfl, hsz, hP, hK, hZ⟩ := hv
  have hx := B.exec
  have hb := B.bytes
  have hr := B.returns
  have hts := atoms_spec (ws := wsX6_passDay) B.pre
  have hown : s.vm.findClass RX6 = some m.cls := findClass_of_methodNamed B.named
  have hlocks := B.notSynchronized
  subst hsz
  have hl := lv_entry ([.ref (ad t), .ref (ad a1)]) (n := 3) (Nat.le_of_ble_eq_true rfl)
  rw [lg_entry_eq]
  generalize (lg_sl ([.ref (ad t), .ref (ad a1)]) ++ List.replicate (3 - (lg_sl ([.ref (ad t), .ref (ad a1)])).length) Slot.unset).toArray = ls at hl ⊢
  have hl : lv_has ls 3 [(0, .ref (ad t)), (1, .ref (ad a1))] := hl
  have in6 : ∀ w ∈ wsX60, w ∈ wsX6_passDay := by decide +kernel
  generalize hargs : ([.ref (ad t), .ref (ad a1)] : List Value).toArray = args at *
  generalize hAe : gA ad N s.heap.size = A
  have F : gF sa D ad cy N A p s m args cod cX6_passDay 3 wsX6_passDay RX6 := ⟨hx, hb, hml, hown, hts, hK, hI, by rw [← hAe]; exact gA_ad, by rw [← hAe]; exact gA_sz, by rw [← hAe]; exact hZ⟩
  have G : gW D ad cy N A s.heap c d0 s.heap [] := ⟨hP, va_S.rf⟩
  generalize hQ : MQ below (va_Qi (fun (z : Int32) (_ : Unit) => z = rZ) (fun _ U => gE D ad cy N cZ d0 U) A) args s 0 0 A = Q
  suffices hgen : ∀ (H : Heap) (locs : List Loc), gW D ad cy N A s.heap c d0 H locs → W p l e rmX6_passDay s m args below meth cod H locs 0 0 Q (F0 m 0 ls []) from hgen _ _ G
  clear G
  intro H locs G
  unfold m_X6_passDay at h
  refine lv_iconst (v := 0) hx hb dX6_passDay_0 (by decide) ?_
  refine lv_istore_n (lv' := [(2, .int 0), (0, .ref (ad t)), (1, .ref (ad a1))]) hx hb dX6_passDay_1 rfl hl (by decide) rfl (fun ls hl => ?_)
  obtain ⟨b1, hb1, hK1⟩ := gb_s h
  have E1 : ∀ (c4 : gm) (H : Heap) (locs : List Loc) (ls : Array Slot), (c4 : gm) = b1 → gW D ad cy N A s.heap c4 d0 H locs → lv_has ls 3 [(0, .ref (ad t))] → W p l e rmX6_passDay s m args below meth cod H locs 0 0 Q (F0 m 34 ls []) := by
    intro c4 H locs ls hq1 G hl
    subst hq1
    replace hK1 := hK1
    have h := hK1
    refine lv_iconst (v := 0) hx hb dX6_passDay_34 (by decide) ?_
    refine lv_istore_n (lv' := [(2, .int 0), (0, .ref (ad t))]) hx hb dX6_passDay_35 rfl hl (by decide) rfl (fun ls hl => ?_)
    obtain ⟨b5, hb5, hK5⟩ := gb_s h
    have E5 : ∀ (c8 : gm) (H : Heap) (locs : List Loc) (ls : Array Slot), (c8 : gm) = b5 → gW D ad cy N A s.heap c8 d0 H locs → lv_has ls 3 [(0, .ref (ad t))] → W p l e rmX6_passDay s m args below meth cod H locs 0 0 Q (F0 m 79 ls []) := by
      intro c8 H locs ls hq5 G hl
      subst hq5
      replace hK5 := hK5
      have h := hK5
      refine lv_aload_n hx hb dX6_passDay_79 rfl (lv_at hl 0 rfl) ?_
      refine lv_dup hx hb dX6_passDay_80 rfl ?_
      obtain ⟨hk9, h⟩ := gc_s h
      have ht10 : t < N := Nat.lt_of_lt_of_le (gck_lt6 hk9) hN
      refine fg_6_day F G hk9 ht10 in6 (by decide +kernel) dX6_passDay_81 ?_
      refine lv_iconst (v := 1) hx hb dX6_passDay_84 (by decide) ?_
      refine lv_iadd hx hb dX6_passDay_85 ?_
      refine fp_6_day F G hk9 ht10 in6 (by decide +kernel) dX6_passDay_86 (fun H locs G => ?_)
      obtain ⟨c11, ec11⟩ : ∃ z, z = gm_r c8 t (upd (c8.1 t) 9 ((c8.1 t 9) + 1)) := ⟨_, rfl⟩
      rw [← ec11] at G
      replace h := gv_s h c11 ec11
      refine lv_iconst (v := 1) hx hb dX6_passDay_89 (by decide) ?_
      cases h
      rw [← hQ]
      exact gx_zret F G hr hlocks rfl dX6_passDay_90
    have L5 : ∀ (n9 : Nat) (y6 : Int32) (c7 : gm) (H : Heap) (locs : List Loc) (ls : Array Slot), gloop (gu2 (fun (y6 : Int32) (c7 : gm) => m_X6_passDay_L36 t y6 c7)) n9 (y6, c7) = some b5 → gW D ad cy N A s.heap c7 d0 H locs → lv_has ls 3 [(0, .ref (ad t)), (2, .int y6)] → W p l e rmX6_passDay s m args below meth cod H locs 0 0 Q (F0 m 36 ls []) := by
      intro n9
      induction n9 with
      | zero => intro y6 c7 H locs ls h; exact (gloop_0 h).elim
      | succ n9 ih =>
        intro y6 c7 H locs ls h G hl
        have ih5 := ih
        obtain ⟨o5, h, hn5⟩ := gloop_s h
        replace h := gu2_s h
        unfold m_X6_passDay_L36 at h
        refine lv_iload_n hx hb dX6_passDay_36 rfl (lv_at hl 1 rfl) ?_
        refine lv_aload_n hx hb dX6_passDay_37 rfl (lv_at hl 0 rfl) ?_
        obtain ⟨hk12, h⟩ := gc_s h
        have ht13 : t < N := Nat.lt_of_lt_of_le (gck_lt6 hk12) hN
        refine fg_6_things F G hk12 ht13 in6 (by decide +kernel) dX6_passDay_38 ?_
        refine lv_icmp_ge (tgt := 79) hx hb dX6_passDay_41 (by decide) (fun q14 => ?_) (fun q14 => ?_)
        · replace h := gt_s q14 h
          cases h
          exact E5 _ _ _ _ (gnx_r hn5) G (lv_sub hl [0] rfl)
        · replace h := gf_s q14 h
          refine lv_iload_n hx hb dX6_passDay_44 rfl (lv_at hl 1 rfl) ?_
          refine lv_bipush (v := 8) hx hb dX6_passDay_45 (by decide) ?_
          refine lv_icmp_ge (tgt := 79) hx hb dX6_passDay_47 (by decide) (fun q15 => ?_) (fun q15 => ?_)
          · replace h := gt_s q15 h
            cases h
            exact E5 _ _ _ _ (gnx_r hn5) G (lv_sub hl [0] rfl)
          · replace h := gf_s q15 h
            refine lv_aload_n hx hb dX6_passDay_50 rfl (lv_at hl 0 rfl) ?_
            refine fg_6_weight F G hk12 ht13 in6 (by decide +kernel) dX6_passDay_51 ?_
            obtain ⟨hk16, hn18⟩ := gka_6_weight hk12
            have ht17 : (t + 2) < N := Nat.lt_of_lt_of_le (gck_lt12 hk16) hN
            refine lv_iload_n hx hb dX6_passDay_54 rfl (lv_at hl 1 rfl) ?_
            refine lv_aload_n hx hb dX6_passDay_55 rfl (lv_at hl 0 rfl) ?_
            refine fg_6_weight F G hk12 ht13 in6 (by decide +kernel) dX6_passDay_56 ?_
            refine lv_iload_n hx hb dX6_passDay_59 rfl (lv_at hl 1 rfl) ?_
            obtain ⟨hi19, h⟩ := gc_s h
            refine gx_ia F G hk16 ht17 hn18 hi19 dX6_passDay_60 ?_
            refine lv_aload_n hx hb dX6_passDay_61 rfl (lv_at hl 0 rfl) ?_
            refine fg_6_wear F G hk12 ht13 in6 (by decide +kernel) dX6_passDay_62 ?_
            obtain ⟨hk20, hn22⟩ := gka_6_wear hk12
            have ht21 : (t + 4) < N := Nat.lt_of_lt_of_le (gck_lt12 hk20) hN
            refine lv_iload_n hx hb dX6_passDay_65 rfl (lv_at hl 1 rfl) ?_
            obtain ⟨hi23, h⟩ := gc_s h
            refine gx_ia F G hk20 ht21 hn22 hi23 dX6_passDay_66 ?_
            refine lv_isub hx hb dX6_passDay_67 ?_
            refine lv_iconst (v := 1) hx hb dX6_passDay_68 (by decide) ?_
            refine va_mmax hx hb (hml.trans hl.1.symm) hown (hts (.methodLink RX6 165 Lib.Math.max.name) (by decide +kernel)) (hts (.static Lib.Math.max.name) (by decide +kernel)) (hts (.initialized "java/lang/Math") (by decide +kernel)) (hts (.code Lib.Math.max.name Lib.Math.max.code 2 (some .int)) (by decide +kernel)) (Nat.le_of_ble_eq_true rfl) (Nat.le_of_ble_eq_true rfl) (Nat.zero_le _) (Nat.zero_le _) dX6_passDay_69 ?_
            obtain ⟨hi24, h⟩ := gc_s h
            refine gx_is F G hk16 ht17 hn18 hi24 dX6_passDay_72 (fun H locs G => ?_)
            obtain ⟨c25, ec25⟩ : ∃ z, z = gm_r c7 (t + 2) (upd (c7.1 (t + 2)) y6.toNatClampNeg (if ((c7.1 (t + 2) y6.toNatClampNeg) - (c7.1 (t + 4) y6.toNatClampNeg)) < 1 then 1 else ((c7.1 (t + 2) y6.toNatClampNeg) - (c7.1 (t + 4) y6.toNatClampNeg)))) := ⟨_, rfl⟩
            rw [← ec25] at G
            replace h := gv_s h c25 ec25
            obtain ⟨x26, ex26⟩ : ∃ z : Int32, z = y6 + 1 := ⟨_, rfl⟩
            replace h := gv_s h x26 ex26
            refine lv_iinc (v := x26) (lv' := [(2, .int x26), (0, .ref (ad t))]) hx hb dX6_passDay_73 hl (k := 1) rfl (by rw [ex26]; rfl) (by decide) rfl (fun ls hl => ?_)
            refine lv_goto (tgt := 36) hx hb dX6_passDay_76 (by decide) ?_
            cases h
            exact ih5 _ _ _ _ _ hn5 G (lv_sub hl [1, 0] rfl)
    exact L5 n _ _ _ _ _ hb5 G (lv_sub hl [1, 0] rfl)
  have L1 : ∀ (n9 : Nat) (y2 : Int32) (c3 : gm) (H : Heap) (locs : List Loc) (ls : Array Slot), gloop (gu2 (fun (y2 : Int32) (c3 : gm) => m_X6_passDay_L2 n t a1 y2 c3)) n9 (y2, c3) = some b1 → gW D ad cy N A s.heap c3 d0 H locs → lv_has ls 3 [(0, .ref (ad t)), (1, .ref (ad a1)), (2, .int y2)] → W p l e rmX6_passDay s m args below meth cod H locs 0 0 Q (F0 m 2 ls []) := by
    intro n9
    induction n9 with
    | zero => intro y2 c3 H locs ls h; exact (gloop_0 h).elim
    | succ n9 ih =>
      intro y2 c3 H locs ls h G hl
      have ih1 := ih
      obtain ⟨o1, h, hn1⟩ := gloop_s h
      replace h := gu2_s h
      unfold m_X6_passDay_L2 at h
      refine lv_iload_n hx hb dX6_passDay_2 rfl (lv_at hl 2 rfl) ?_
      refine lv_aload_n hx hb dX6_passDay_3 rfl (lv_at hl 0 rfl) ?_
      obtain ⟨hk27, h⟩ := gc_s h
      have ht28 : t < N := Nat.lt_of_lt_of_le (gck_lt6 hk27) hN
      refine fg_6_things F G hk27 ht28 in6 (by decide +kernel) dX6_passDay_4 ?_
      refine lv_icmp_ge (tgt := 34) hx hb dX6_passDay_7 (by decide) (fun q29 => ?_) (fun q29 => ?_)
      · replace h := gt_s q29 h
        cases h
        exact E1 _ _ _ _ (gnx_r hn1) G (lv_sub hl [0] rfl)
      · replace h := gf_s q29 h
        refine lv_iload_n hx hb dX6_passDay_10 rfl (lv_at hl 2 rfl) ?_
        refine lv_bipush (v := 8) hx hb dX6_passDay_11 (by decide) ?_
        refine lv_icmp_ge (tgt := 34) hx hb dX6_passDay_13 (by decide) (fun q30 => ?_) (fun q30 => ?_)
        · replace h := gt_s q30 h
          cases h
          exact E1 _ _ _ _ (gnx_r hn1) G (lv_sub hl [0] rfl)
        · replace h := gf_s q30 h
          refine lv_aload_n hx hb dX6_passDay_16 rfl (lv_at hl 0 rfl) ?_
          refine fg_6_wear F G hk27 ht28 in6 (by decide +kernel) dX6_passDay_17 ?_
          obtain ⟨hk31, hn33⟩ := gka_6_wear hk27
          have ht32 : (t + 4) < N := Nat.lt_of_lt_of_le (gck_lt12 hk31) hN
          refine lv_iload_n hx hb dX6_passDay_20 rfl (lv_at hl 2 rfl) ?_
          refine lv_aload_n hx hb dX6_passDay_21 rfl (lv_at hl 0 rfl) ?_
          refine lv_iload_n hx hb dX6_passDay_22 rfl (lv_at hl 2 rfl) ?_
          refine lv_aload_n hx hb dX6_passDay_23 rfl (lv_at hl 1 rfl) ?_
          obtain ⟨r35, c36, hc34, h⟩ := gb2_s h
          refine gx_calli F G (va_runV (As := [.int y2, .ref (ad a1)]) (rest := [.int y2, .ref (ad (t + 4))]) (gx_fix F) (c_X6_wearOf l sa D ad cy N H.size hN hI c3 d0 hc34) (cwV 2 hts gX6_passDay_X6_wearOf rfl rfl rfl (by decide +kernel) ⟨by decide, by decide⟩) (gx_rec F G ht28 (gwe_6 hk27) rfl) rfl rfl hl.1 rfl (lv_room (Nat.le_of_ble_eq_true rfl)) dX6_passDay_24 ⟨Nat.zero_le _, Nat.zero_le _⟩) (fun H locs G => ?_)
          obtain ⟨hi37, h⟩ := gc_s h
          refine gx_is F G hk31 ht32 hn33 hi37 dX6_passDay_27 (fun H locs G => ?_)
          obtain ⟨c38, ec38⟩ : ∃ z, z = gm_r c36 (t + 4) (upd (c36.1 (t + 4)) y2.toNatClampNeg r35) := ⟨_, rfl⟩
          rw [← ec38] at G
          replace h := gv_s h c38 ec38
          obtain ⟨x39, ex39⟩ : ∃ z : Int32, z = y2 + 1 := ⟨_, rfl⟩
          replace h := gv_s h x39 ex39
          refine lv_iinc (v := x39) (lv' := [(2, .int x39), (0, .ref (ad t)), (1, .ref (ad a1))]) hx hb dX6_passDay_28 hl (k := 2) rfl (by rw [ex39]; rfl) (by decide) rfl (fun ls hl => ?_)
          refine lv_goto (tgt := 2) hx hb dX6_passDay_31 (by decide) ?_
          cases h
          exact ih1 _ _ _ _ _ hn1 G (lv_sub hl [1, 2, 0] rfl)
  exact L1 n _ _ _ _ _ hb1 G (lv_sub hl [1, 2, 0] rfl)
def m_X2_hold_L16 (n : Nat) (t : Nat) (a2 : Nat) (a4 : Int32) (a5 : Int32) (y10 : Int32) (c11 : gm) : Option ((Int32 × gm) ⊕ (gm)) :=
  (if a4 ≤ y10 then some (.inr c11) else gj (fun (c14 : gm) => gb2 (m_X6_passDay n (t + 1) a2 c14) (fun (r17 : Int32) (c18 : gm) => gv (y10 + 1) (fun (x19 : Int32) => some (.inl (x19, c18))))) (fun K15 => (if (c11.1 (t + 1) 5) ≤ 0 then K15 c11 else gb (m_X2_dealOnce n t a5 c11) (fun (c23 : gm) => K15 c23))))
def m_X2_hold (n : Nat) (t : Nat) (a1 : Nat) (a2 : Nat) (a3 : Int32) (a4 : Int32) (a5 : Int32) (c : gm) : Option (gm) :=
  gc (gck t = 2) (gb (m_X6_copyFrom (t + 1) a1 c) (fun (c7 : gm) => gv (gm_r c7 t (upd (c7.1 t) 1 a3)) (fun (c8 : gm) => gb (gloop (gu2 (fun (y10 : Int32) (c11 : gm) => m_X2_hold_L16 n t a2 a4 a5 y10 c11)) n (0, c8)) (fun (c12 : gm) => some c12))))
abbrev rmX2_hold : Room := { frames := 5, cells := 0, slots := 0, locals := 115 }
set_option maxHeartbeats 4000000 in
set_option maxRecDepth 100000 in
theorem c_X2_hold (l : Launch) (sa : gSa) (D : va_G) (ad : Nat → Nat) (cy : Nat → ClassId) (N sz : Nat) (hN : 55 ≤ N) (hI : gI ad N) (c d0 : gm) {n : Nat} {t : Nat} {a1 : Nat} {a2 : Nat} {a3 : Int32} {a4 : Int32} {a5 : Int32} {cZ : gm} (h : m_X2_hold n t a1 a2 a3 a4 a5 c = some cZ) : Met l yX2_hold wsX2_hold rmX2_hold (va_Pc [.ref (ad t), .ref (ad a1), .ref (ad a2), .int a3, .int a4, .int a5] (gP sa D ad cy N sz c d0)) (va_Qv (fun (_ : Unit) => True) (fun _ U => gE D ad cy N cZ d0 U) (gA ad N sz)) 0 0 (gA ad N sz) := by
  refine Met.ofW (cc := cX2_hold) (maxL := 7) (ret := none) (by decide) rfl ?_
  intro p e s m args below meth cod s₁ B hml hv
  obtain ⟨rfl, hsz, hP, hK, hZ⟩ := hv
  have hx := B.exec
  have hb := B.bytes
  have hr := B.returns
  have hts := atoms_spec (ws := wsX2_hold) B.pre
  have hown : s.vm.findClass RX2 = some m.cls := findClass_of_methodNamed B.named
  have hlocks := B.notSynchronized
  subst hsz
  have hl := lv_entry ([.ref (ad t), .ref (ad a1), .ref (ad a2), .int a3, .int a4, .int a5]) (n := 7) (Nat.le_of_ble_eq_true rfl)
  rw [lg_entry_eq]
  generalize (lg_sl ([.ref (ad t), .ref (ad a1), .ref (ad a2), .int a3, .int a4, .int a5]) ++ List.replicate (7 - (lg_sl ([.ref (ad t), .ref (ad a1), .ref (ad a2), .int a3, .int a4, .int a5])).length) Slot.unset).toArray = ls at hl ⊢
  have hl : lv_has ls 7 [(0, .ref (ad t)), (1, .ref (ad a1)), (2, .ref (ad a2)), (3, .int a3), (4, .int a4), (5, .int a5)] := hl
  have in2 : ∀ w ∈ wsX20, w ∈ wsX2_hold := by decide +kernel
  have in6 : ∀ w ∈ wsX60, w ∈ wsX2_hold := by decide +kernel
  generalize hargs : ([.ref (ad t), .ref (ad a1), .ref (ad a2), .int a3, .int a4, .int a5] : List Value).toArray = args at *
  generalize hAe : gA ad N s.heap.size = A
  have F : gF sa D ad cy N A p s m args cod cX2_hold 7 wsX2_hold RX2 := ⟨hx, hb, hml, hown, hts, hK, hI, by rw [← hAe]; exact gA_ad, by rw [← hAe]; exact gA_sz, by rw [← hAe]; exact hZ⟩
  have G : gW D ad cy N A s.heap c d0 s.heap [] := ⟨hP, va_S.rf⟩
  generalize hQ : MQ below (va_Qv (fun (_ : Unit) => True) (fun _ U => gE D ad cy N cZ d0 U) A) args s 0 0 A = Q
  suffices hgen : ∀ (H : Heap) (locs : List Loc), gW D ad cy N A s.heap c d0 H locs → W p l e rmX2_hold s m args below meth cod H locs 0 0 Q (F0 m 0 ls []) from hgen _ _ G
  clear G
  intro H locs G
  unfold m_X2_hold at h
  refine lv_aload_n hx hb dX2_hold_0 rfl (lv_at hl 0 rfl) ?_
  obtain ⟨hk1, h⟩ := gc_s h
  have ht2 : t < N := Nat.lt_of_lt_of_le (gck_lt2 hk1) hN
  refine fg_2_end F G hk1 ht2 in2 (by decide +kernel) dX2_hold_1 ?_
  have hk3 := gka_2_end hk1
  have ht4 : (t + 1) < N := Nat.lt_of_lt_of_le (gck_lt6 hk3) hN
  refine lv_aload_n hx hb dX2_hold_4 rfl (lv_at hl 1 rfl) ?_
  obtain ⟨c7, hc5, h⟩ := gb_s h
  refine gx_callv F G (va_runV (As := [.ref (ad a1)]) (rest := []) (gx_fix F) (c_X6_copyFrom l sa D ad cy N H.size hN hI c d0 hc5) (cwV 1 hts gX2_hold_X6_copyFrom rfl rfl rfl (by decide +kernel) ⟨by decide, by decide⟩) (gx_rec F G ht4 (gwe_6 hk3) rfl) rfl rfl hl.1 rfl (lv_room (Nat.le_of_ble_eq_true rfl)) dX2_hold_5 ⟨Nat.zero_le _, Nat.zero_le _⟩) (fun H locs G => ?_)
  refine lv_aload_n hx hb dX2_hold_8 rfl (lv_at hl 0 rfl) ?_
  refine lv_iload_n hx hb dX2_hold_9 rfl (lv_at hl 3 rfl) ?_
  refine fp_2_seed F G hk1 ht2 in2 (by decide +kernel) dX2_hold_10 (fun H locs G => ?_)
  obtain ⟨c8, ec8⟩ : ∃ z, z = gm_r c7 t (upd (c7.1 t) 1 a3) := ⟨_, rfl⟩
  rw [← ec8] at G
  replace h := gv_s h c8 ec8
  refine lv_iconst (v := 0) hx hb dX2_hold_13 (by decide) ?_
  refine lv_istore (lv' := [(6, .int 0), (0, .ref (ad t)), (1, .ref (ad a1)), (2, .ref (ad a2)), (3, .int a3), (4, .int a4), (5, .int a5)]) hx hb dX2_hold_14 hl (by decide) rfl (fun ls hl => ?_)
  obtain ⟨b9, hb9, hK9⟩ := gb_s h
  have E9 : ∀ (c12 : gm) (H : Heap) (locs : List Loc) (ls : Array Slot), (c12 : gm) = b9 → gW D ad cy N A s.heap c12 d0 H locs → lv_has ls 7 [] → W p l e rmX2_hold s m args below meth cod H locs 0 0 Q (F0 m 54 ls []) := by
    intro c12 H locs ls hq9 G hl
    subst hq9
    replace hK9 := hK9
    have h := hK9
    cases h
    rw [← hQ]
    exact gx_vret F G hr hlocks dX2_hold_54
  have L9 : ∀ (n9 : Nat) (y10 : Int32) (c11 : gm) (H : Heap) (locs : List Loc) (ls : Array Slot), gloop (gu2 (fun (y10 : Int32) (c11 : gm) => m_X2_hold_L16 n t a2 a4 a5 y10 c11)) n9 (y10, c11) = some b9 → gW D ad cy N A s.heap c11 d0 H locs → lv_has ls 7 [(0, .ref (ad t)), (2, .ref (ad a2)), (4, .int a4), (5, .int a5), (6, .int y10)] → W p l e rmX2_hold s m args below meth cod H locs 0 0 Q (F0 m 16 ls []) := by
    intro n9
    induction n9 with
    | zero => intro y10 c11 H locs ls h; exact (gloop_0 h).elim
    | succ n9 ih =>
      intro y10 c11 H locs ls h G hl
      have ih9 := ih
      obtain ⟨o9, h, hn9⟩ := gloop_s h
      replace h := gu2_s h
      unfold m_X2_hold_L16 at h
      refine lv_iload hx hb dX2_hold_16 (lv_at hl 4 rfl) ?_
      refine lv_iload hx hb dX2_hold_18 (lv_at hl 2 rfl) ?_
      refine lv_icmp_ge (tgt := 54) hx hb dX2_hold_20 (by decide) (fun q13 => ?_) (fun q13 => ?_)
      · replace h := gt_s q13 h
        cases h
        exact E9 _ _ _ _ (gnx_r hn9) G (lv_sub hl [] rfl)
      · replace h := gf_s q13 h
        refine lv_aload_n hx hb dX2_hold_23 rfl (lv_at hl 0 rfl) ?_
        refine fg_2_end F G hk1 ht2 in2 (by decide +kernel) dX2_hold_24 ?_
        refine fg_6_things F G hk3 ht4 in6 (by decide +kernel) dX2_hold_27 ?_
        obtain ⟨K15, eK15, h⟩ := gj_s h
        have JK15 : ∀ (c14 : gm) (H : Heap) (locs : List Loc) (ls : Array Slot), K15 c14 = some o9 → gW D ad cy N A s.heap c14 d0 H locs → lv_has ls 7 [(0, .ref (ad t)), (2, .ref (ad a2)), (4, .int a4), (5, .int a5), (6, .int y10)] → W p l e rmX2_hold s m args below meth cod H locs 0 0 Q (F0 m 39 ls []) := by
          intro c14 H locs ls h G hl
          rw [eK15] at h
          refine lv_aload_n hx hb dX2_hold_39 rfl (lv_at hl 0 rfl) ?_
          refine fg_2_end F G hk1 ht2 in2 (by decide +kernel) dX2_hold_40 ?_
          refine lv_aload_n hx hb dX2_hold_43 rfl (lv_at hl 1 rfl) ?_
          obtain ⟨r17, c18, hc16, h⟩ := gb2_s h
          refine gx_calli F G (va_runV (As := [.ref (ad a2)]) (rest := []) (gx_fix F) (c_X6_passDay l sa D ad cy N H.size hN hI c14 d0 hc16) (cwV 1 hts gX2_hold_X6_passDay rfl rfl rfl (by decide +kernel) ⟨by decide, by decide⟩) (gx_rec F G ht4 (gwe_6 hk3) rfl) rfl rfl hl.1 rfl (lv_room (Nat.le_of_ble_eq_true rfl)) dX2_hold_44 ⟨Nat.zero_le _, Nat.zero_le _⟩) (fun H locs G => ?_)
          refine lv_pop hx hb dX2_hold_47 rfl ?_
          obtain ⟨x19, ex19⟩ : ∃ z : Int32, z = y10 + 1 := ⟨_, rfl⟩
          replace h := gv_s h x19 ex19
          refine lv_iinc (v := x19) (lv' := [(6, .int x19), (0, .ref (ad t)), (2, .ref (ad a2)), (4, .int a4), (5, .int a5)]) hx hb dX2_hold_48 hl (k := 4) rfl (by rw [ex19]; rfl) (by decide) rfl (fun ls hl => ?_)
          refine lv_goto (tgt := 16) hx hb dX2_hold_51 (by decide) ?_
          cases h
          exact ih9 _ _ _ _ _ hn9 G (lv_sub hl [1, 2, 3, 4, 0] rfl)
        refine lv_if_le (tgt := 39) hx hb dX2_hold_30 (by decide) (fun q20 => ?_) (fun q20 => ?_)
        · replace h := gt_s q20 h
          exact JK15 _ _ _ _ h G hl
        · replace h := gf_s q20 h
          refine lv_aload_n hx hb dX2_hold_33 rfl (lv_at hl 0 rfl) ?_
          refine lv_iload hx hb dX2_hold_34 (lv_at hl 3 rfl) ?_
          obtain ⟨c23, hc21, h⟩ := gb_s h
          refine gx_callv F G (va_runV (As := [.int a5]) (rest := []) (gx_fix F) (c_X2_dealOnce l sa D ad cy N H.size hN hI c11 d0 hc21) (cwV 1 hts gX2_hold_X2_dealOnce rfl rfl rfl (by decide +kernel) ⟨by decide, by decide⟩) (gx_rec F G ht2 (gwe_2 hk1) rfl) rfl rfl hl.1 rfl (lv_room (Nat.le_of_ble_eq_true rfl)) dX2_hold_36 ⟨Nat.zero_le _, Nat.zero_le _⟩) (fun H locs G => ?_)
          exact JK15 _ _ _ _ h G hl
  exact L9 n _ _ _ _ _ hb9 G (lv_sub hl [1, 3, 5, 6, 0] rfl)
def m_X3_add (t : Nat) (a1 : Int32) (a2 : Int32) (c : gm) : Option (gm) :=
  gc (gck t = 3) ((if (c.1 t 4) < 0 then some c else (if 150 ≤ (c.1 t 4) then some c else gc (0 ≤ (c.1 t 4).toInt ∧ (c.1 t 4).toInt < 150) (gv (gm_r c (t + 1) (upd (c.1 (t + 1)) (c.1 t 4).toNatClampNeg a1)) (fun (c9 : gm) => gc (0 ≤ (c9.1 t 4).toInt ∧ (c9.1 t 4).toInt < 150) (gv (gm_r c9 (t + 2) (upd (c9.1 (t + 2)) (c9.1 t 4).toNatClampNeg a2)) (fun (c14 : gm) => gv (gm_r c14 t (upd (c14.1 t) 4 ((c14.1 t 4) + 1))) (fun (c15 : gm) => some c15))))))))
abbrev rmX3_add : Room := { frames := 0, cells := 0, slots := 0, locals := 0 }
set_option maxHeartbeats 4000000 in
set_option maxRecDepth 100000 in
theorem c_X3_add (l : Launch) (sa : gSa) (D : va_G) (ad : Nat → Nat) (cy : Nat → ClassId) (N sz : Nat) (hN : 55 ≤ N) (hI : gI ad N) (c d0 : gm) {t : Nat} {a1 : Int32} {a2 : Int32} {cZ : gm} (h : m_X3_add t a1 a2 c = some cZ) : Met l yX3_add wsX3_add rmX3_add (va_Pc [.ref (ad t), .int a1, .int a2] (gP sa D ad cy N sz c d0)) (va_Qv (fun (_ : Unit) => True) (fun _ U => gE D ad cy N cZ d0 U) (gA ad N sz)) 0 0 (gA ad N sz) := by
  refine Met.ofW (cc := cX3_add) (maxL := 3) (ret := none) (by decide) rfl ?_
  intro p e s m args below meth cod s₁ B hml hv
  obtain ⟨rfl, hsz, hP, hK, hZ⟩ := hv
  have hx := B.exec
  have hb := B.bytes
  have hr := B.returns
  have hts := atoms_spec (ws := wsX3_add) B.pre
  have hown : s.vm.findClass RX3 = some m.cls := findClass_of_methodNamed B.named
  have hlocks := B.notSynchronized
  subst hsz
  have hl := lv_entry ([.ref (ad t), .int a1, .int a2]) (n := 3) (Nat.le_of_ble_eq_true rfl)
  rw [lg_entry_eq]
  generalize (lg_sl ([.ref (ad t), .int a1, .int a2]) ++ List.replicate (3 - (lg_sl ([.ref (ad t), .int a1, .int a2])).length) Slot.unset).toArray = ls at hl ⊢
  have hl : lv_has ls 3 [(0, .ref (ad t)), (1, .int a1), (2, .int a2)] := hl
  have in3 : ∀ w ∈ wsX30, w ∈ wsX3_add := by decide +kernel
  generalize hargs : ([.ref (ad t), .int a1, .int a2] : List Value).toArray = args at *
  generalize hAe : gA ad N s.heap.size = A
  have F : gF sa D ad cy N A p s m args cod cX3_add 3 wsX3_add RX3 := ⟨hx, hb, hml, hown, hts, hK, hI, by rw [← hAe]; exact gA_ad, by rw [← hAe]; exact gA_sz, by rw [← hAe]; exact hZ⟩
  have G : gW D ad cy N A s.heap c d0 s.heap [] := ⟨hP, va_S.rf⟩
  generalize hQ : MQ below (va_Qv (fun (_ : Unit) => True) (fun _ U => gE D ad cy N cZ d0 U) A) args s 0 0 A = Q
  suffices hgen : ∀ (H : Heap) (locs : List Loc), gW D ad cy N A s.heap c d0 H locs → W p l e rmX3_add s m args below meth cod H locs 0 0 Q (F0 m 0 ls []) from hgen _ _ G
  clear G
  intro H locs G
  unfold m_X3_add at h
  refine lv_aload_n hx hb dX3_add_0 rfl (lv_at hl 0 rfl) ?_
  obtain ⟨hk1, h⟩ := gc_s h
  have ht2 : t < N := Nat.lt_of_lt_of_le (gck_lt3 hk1) hN
  refine fg_3_size F G hk1 ht2 in3 (by decide +kernel) dX3_add_1 ?_
  refine lv_if_lt (tgt := 47) hx hb dX3_add_4 (by decide) (fun q3 => ?_) (fun q3 => ?_)
  · replace h := gt_s q3 h
    cases h
    rw [← hQ]
    exact gx_vret F G hr hlocks dX3_add_47
  · replace h := gf_s q3 h
    refine lv_aload_n hx hb dX3_add_7 rfl (lv_at hl 0 rfl) ?_
    refine fg_3_size F G hk1 ht2 in3 (by decide +kernel) dX3_add_8 ?_
    refine lv_sipush (v := 150) hx hb dX3_add_11 (by decide) ?_
    refine lv_icmp_ge (tgt := 47) hx hb dX3_add_14 (by decide) (fun q4 => ?_) (fun q4 => ?_)
    · replace h := gt_s q4 h
      cases h
      rw [← hQ]
      exact gx_vret F G hr hlocks dX3_add_47
    · replace h := gf_s q4 h
      refine lv_aload_n hx hb dX3_add_17 rfl (lv_at hl 0 rfl) ?_
      refine fg_3_marks F G hk1 ht2 in3 (by decide +kernel) dX3_add_18 ?_
      obtain ⟨hk5, hn7⟩ := gka_3_marks hk1
      have ht6 : (t + 1) < N := Nat.lt_of_lt_of_le (gck_lt12 hk5) hN
      refine lv_aload_n hx hb dX3_add_21 rfl (lv_at hl 0 rfl) ?_
      refine fg_3_size F G hk1 ht2 in3 (by decide +kernel) dX3_add_22 ?_
      refine lv_iload_n hx hb dX3_add_25 rfl (lv_at hl 1 rfl) ?_
      obtain ⟨hi8, h⟩ := gc_s h
      refine gx_is F G hk5 ht6 hn7 hi8 dX3_add_26 (fun H locs G => ?_)
      obtain ⟨c9, ec9⟩ : ∃ z, z = gm_r c (t + 1) (upd (c.1 (t + 1)) (c.1 t 4).toNatClampNeg a1) := ⟨_, rfl⟩
      rw [← ec9] at G
      replace h := gv_s h c9 ec9
      refine lv_aload_n hx hb dX3_add_27 rfl (lv_at hl 0 rfl) ?_
      refine fg_3_operands F G hk1 ht2 in3 (by decide +kernel) dX3_add_28 ?_
      obtain ⟨hk10, hn12⟩ := gka_3_operands hk1
      have ht11 : (t + 2) < N := Nat.lt_of_lt_of_le (gck_lt12 hk10) hN
      refine lv_aload_n hx hb dX3_add_31 rfl (lv_at hl 0 rfl) ?_
      refine fg_3_size F G hk1 ht2 in3 (by decide +kernel) dX3_add_32 ?_
      refine lv_iload_n hx hb dX3_add_35 rfl (lv_at hl 2 rfl) ?_
      obtain ⟨hi13, h⟩ := gc_s h
      refine gx_is F G hk10 ht11 hn12 hi13 dX3_add_36 (fun H locs G => ?_)
      obtain ⟨c14, ec14⟩ : ∃ z, z = gm_r c9 (t + 2) (upd (c9.1 (t + 2)) (c9.1 t 4).toNatClampNeg a2) := ⟨_, rfl⟩
      rw [← ec14] at G
      replace h := gv_s h c14 ec14
      refine lv_aload_n hx hb dX3_add_37 rfl (lv_at hl 0 rfl) ?_
      refine lv_dup hx hb dX3_add_38 rfl ?_
      refine fg_3_size F G hk1 ht2 in3 (by decide +kernel) dX3_add_39 ?_
      refine lv_iconst (v := 1) hx hb dX3_add_42 (by decide) ?_
      refine lv_iadd hx hb dX3_add_43 ?_
      refine fp_3_size F G hk1 ht2 in3 (by decide +kernel) dX3_add_44 (fun H locs G => ?_)
      obtain ⟨c15, ec15⟩ : ∃ z, z = gm_r c14 t (upd (c14.1 t) 4 ((c14.1 t 4) + 1)) := ⟨_, rfl⟩
      rw [← ec15] at G
      replace h := gv_s h c15 ec15
      cases h
      rw [← hQ]
      exact gx_vret F G hr hlocks dX3_add_47
def m_X3_becomeUsual (t : Nat) (c : gm) : Option (gm) :=
  gc (gck t = 3) (gv (gm_r c t (upd (c.1 t) 4 0)) (fun (c3 : gm) => gb (m_X3_add t 1 1 c3) (fun (c6 : gm) => gb (m_X3_add t 0 4 c6) (fun (c9 : gm) => gb (m_X3_add t 5 0 c9) (fun (c12 : gm) => some c12)))))
abbrev rmX3_becomeUsual : Room := { frames := 1, cells := 0, slots := 0, locals := 22 }
set_option maxHeartbeats 4000000 in
set_option maxRecDepth 100000 in
theorem c_X3_becomeUsual (l : Launch) (sa : gSa) (D : va_G) (ad : Nat → Nat) (cy : Nat → ClassId) (N sz : Nat) (hN : 55 ≤ N) (hI : gI ad N) (c d0 : gm) {t : Nat} {cZ : gm} (h : m_X3_becomeUsual t c = some cZ) : Met l yX3_becomeUsual wsX3_becomeUsual rmX3_becomeUsual (va_Pc [.ref (ad t)] (gP sa D ad cy N sz c d0)) (va_Qv (fun (_ : Unit) => True) (fun _ U => gE D ad cy N cZ d0 U) (gA ad N sz)) 0 0 (gA ad N sz) := by
  refine Met.ofW (cc := cX3_becomeUsual) (maxL := 1) (ret := none) (by decide) rfl ?_
  intro p e s m args below meth cod s₁ B hml hv
  obtain ⟨rfl, hsz, hP, hK, hZ⟩ := hv
  have hx := B.exec
  have hb := B.bytes
  have hr := B.returns
  have hts := atoms_spec (ws := wsX3_becomeUsual) B.pre
  have hown : s.vm.findClass RX3 = some m.cls := findClass_of_methodNamed B.named
  have hlocks := B.notSynchronized
  subst hsz
  have hl := lv_entry ([.ref (ad t)]) (n := 1) (Nat.le_of_ble_eq_true rfl)
  rw [lg_entry_eq]
  generalize (lg_sl ([.ref (ad t)]) ++ List.replicate (1 - (lg_sl ([.ref (ad t)])).length) Slot.unset).toArray = ls at hl ⊢
  have hl : lv_has ls 1 [(0, .ref (ad t))] := hl
  have in3 : ∀ w ∈ wsX30, w ∈ wsX3_becomeUsual := by decide +kernel
  generalize hargs : ([.ref (ad t)] : List Value).toArray = args at *
  generalize hAe : gA ad N s.heap.size = A
  have F : gF sa D ad cy N A p s m args cod cX3_becomeUsual 1 wsX3_becomeUsual RX3 := ⟨hx, hb, hml, hown, hts, hK, hI, by rw [← hAe]; exact gA_ad, by rw [← hAe]; exact gA_sz, by rw [← hAe]; exact hZ⟩
  have G : gW D ad cy N A s.heap c d0 s.heap [] := ⟨hP, va_S.rf⟩
  generalize hQ : MQ below (va_Qv (fun (_ : Unit) => True) (fun _ U => gE D ad cy N cZ d0 U) A) args s 0 0 A = Q
  suffices hgen : ∀ (H : Heap) (locs : List Loc), gW D ad cy N A s.heap c d0 H locs → W p l e rmX3_becomeUsual s m args below meth cod H locs 0 0 Q (F0 m 0 ls []) from hgen _ _ G
  clear G
  intro H locs G
  unfold m_X3_becomeUsual at h
  refine lv_aload_n hx hb dX3_becomeUsual_0 rfl (lv_at hl 0 rfl) ?_
  refine lv_iconst (v := 0) hx hb dX3_becomeUsual_1 (by decide) ?_
  obtain ⟨hk1, h⟩ := gc_s h
  have ht2 : t < N := Nat.lt_of_lt_of_le (gck_lt3 hk1) hN
  refine fp_3_size F G hk1 ht2 in3 (by decide +kernel) dX3_becomeUsual_2 (fun H locs G => ?_)
  obtain ⟨c3, ec3⟩ : ∃ z, z = gm_r c t (upd (c.1 t) 4 0) := ⟨_, rfl⟩
  rw [← ec3] at G
  replace h := gv_s h c3 ec3
  refine lv_aload_n hx hb dX3_becomeUsual_5 rfl (lv_at hl 0 rfl) ?_
  refine lv_iconst (v := 1) hx hb dX3_becomeUsual_6 (by decide) ?_
  refine lv_iconst (v := 1) hx hb dX3_becomeUsual_7 (by decide) ?_
  obtain ⟨c6, hc4, h⟩ := gb_s h
  refine gx_callv F G (va_runV (As := [.int 1, .int 1]) (rest := []) (gx_fix F) (c_X3_add l sa D ad cy N H.size hN hI c3 d0 hc4) (cwV 2 hts gX3_becomeUsual_X3_add rfl rfl rfl (by decide +kernel) ⟨by decide, by decide⟩) (gx_rec F G ht2 (gwe_3 hk1) rfl) rfl rfl hl.1 rfl (lv_room (Nat.le_of_ble_eq_true rfl)) dX3_becomeUsual_8 ⟨Nat.zero_le _, Nat.zero_le _⟩) (fun H locs G => ?_)
  refine lv_aload_n hx hb dX3_becomeUsual_11 rfl (lv_at hl 0 rfl) ?_
  refine lv_iconst (v := 0) hx hb dX3_becomeUsual_12 (by decide) ?_
  refine lv_iconst (v := 4) hx hb dX3_becomeUsual_13 (by decide) ?_
  obtain ⟨c9, hc7, h⟩ := gb_s h
  refine gx_callv F G (va_runV (As := [.int 0, .int 4]) (rest := []) (gx_fix F) (c_X3_add l sa D ad cy N H.size hN hI c6 d0 hc7) (cwV 2 hts gX3_becomeUsual_X3_add rfl rfl rfl (by decide +kernel) ⟨by decide, by decide⟩) (gx_rec F G ht2 (gwe_3 hk1) rfl) rfl rfl hl.1 rfl (lv_room (Nat.le_of_ble_eq_true rfl)) dX3_becomeUsual_14 ⟨Nat.zero_le _, Nat.zero_le _⟩) (fun H locs G => ?_)
  refine lv_aload_n hx hb dX3_becomeUsual_17 rfl (lv_at hl 0 rfl) ?_
  refine lv_iconst (v := 5) hx hb dX3_becomeUsual_18 (by decide) ?_
  refine lv_iconst (v := 0) hx hb dX3_becomeUsual_19 (by decide) ?_
  obtain ⟨c12, hc10, h⟩ := gb_s h
  refine gx_callv F G (va_runV (As := [.int 5, .int 0]) (rest := []) (gx_fix F) (c_X3_add l sa D ad cy N H.size hN hI c9 d0 hc10) (cwV 2 hts gX3_becomeUsual_X3_add rfl rfl rfl (by decide +kernel) ⟨by decide, by decide⟩) (gx_rec F G ht2 (gwe_3 hk1) rfl) rfl rfl hl.1 rfl (lv_room (Nat.le_of_ble_eq_true rfl)) dX3_becomeUsual_20 ⟨Nat.zero_le _, Nat.zero_le _⟩) (fun H locs G => ?_)
  cases h
  rw [← hQ]
  exact gx_vret F G hr hlocks dX3_becomeUsual_23
def m_X3_readBraced (rs : (Nat → Nat → Nat → Int32 → gm → Option (Int32 × gm))) (n : Nat) (t : Nat) (a1 : Nat) (a2 : Int32) (c : gm) : Option (Int32 × gm) :=
  (if a2 < 6 then gc (gck a1 = 7) (gb2 (m_X7_takeSign n a1 40 c) (fun (r5 : Int32) (c6 : gm) => (if r5 = 0 then some (0, c6) else gc (gck t = 3) (gb2 (rs n t a1 (a2 + 1) c6) (fun (r11 : Int32) (c12 : gm) => (if r11 = 0 then some (0, c12) else gb2 (m_X7_takeSign n a1 41 c12) (fun (r15 : Int32) (c16 : gm) => (if r15 = 0 then some (0, c16) else some (1, c16))))))))) else gc (gck a1 = 7) (gb2 (m_X7_fail a1 3 (c.1 a1 4) c) (fun (r21 : Int32) (c22 : gm) => gc (r21 = 0 ∨ r21 = 1) (some (r21, c22)))))
abbrev rmX3_readSum (dd : Nat) : Room := { frames := 4 * dd + 7, cells := 0, slots := 0, locals := 96 * dd + 148 }
abbrev rmX3_readBraced (dd : Nat) : Room := { frames := 4 * dd + 8, cells := 0, slots := 0, locals := 96 * dd + 172 }
set_option maxHeartbeats 4000000 in
set_option maxRecDepth 100000 in
theorem c_X3_readBraced (l : Launch) (sa : gSa) (D : va_G) (ad : Nat → Nat) (cy : Nat → ClassId) (N sz : Nat) (hN : 55 ≤ N) (hI : gI ad N) (c d0 : gm) (rs : (Nat → Nat → Nat → Int32 → gm → Option (Int32 × gm))) (dd : Nat) (hrs : ∀ (sz : Nat) (c d0 : gm) {n : Nat} {t : Nat} {a1 : Nat} {a2 : Int32} {rZ : Int32} {cZ : gm}, rs n t a1 a2 c = some (rZ, cZ) → Met l yX3_readSum wsX3_readSum (rmX3_readSum dd) (va_Pc [.ref (ad t), .ref (ad a1), .int a2] (gP sa D ad cy N sz c d0)) (va_Qi (fun (z : Int32) (_ : Unit) => z = rZ) (fun _ U => gE D ad cy N cZ d0 U) (gA ad N sz)) 0 0 (gA ad N sz)) {n : Nat} {t : Nat} {a1 : Nat} {a2 : Int32} {rZ : Int32} {cZ : gm} (h : m_X3_readBraced rs n t a1 a2 c = some (rZ, cZ)) : Met l yX3_readBraced wsX3_readBraced (rmX3_readBraced dd) (va_Pc [.ref (ad t), .ref (ad a1), .int a2] (gP sa D ad cy N sz c d0)) (va_Qi (fun (z : Int32) (_ : Unit) => z = rZ) (fun _ U => gE D ad cy N cZ d0 U) (gA ad N sz)) 0 0 (gA ad N sz) := by
  refine Met.ofW (cc := cX3_readBraced) (maxL := 3) (ret := (some .boolean)) (by decide) rfl ?_
  intro p e s m args below meth cod s₁ B hml hv
  obtain ⟨rfl, hsz, hP, hK, hZ⟩ := hv
  have hx := B.exec
  have hb := B.bytes
  have hr := B.returns
  have hts := atoms_spec (ws := wsX3_readBraced) B.pre
  have hown : s.vm.findClass RX3 = some m.cls := findClass_of_methodNamed B.named
  have hlocks := B.notSynchronized
  subst hsz
  have hl := lv_entry ([.ref (ad t), .ref (ad a1), .int a2]) (n := 3) (Nat.le_of_ble_eq_true rfl)
  rw [lg_entry_eq]
  generalize (lg_sl ([.ref (ad t), .ref (ad a1), .int a2]) ++ List.replicate (3 - (lg_sl ([.ref (ad t), .ref (ad a1), .int a2])).length) Slot.unset).toArray = ls at hl ⊢
  have hl : lv_has ls 3 [(0, .ref (ad t)), (1, .ref (ad a1)), (2, .int a2)] := hl
  have in7 : ∀ w ∈ wsX70, w ∈ wsX3_readBraced := by decide +kernel
  generalize hargs : ([.ref (ad t), .ref (ad a1), .int a2] : List Value).toArray = args at *
  generalize hAe : gA ad N s.heap.size = A
  have F : gF sa D ad cy N A p s m args cod cX3_readBraced 3 wsX3_readBraced RX3 := ⟨hx, hb, hml, hown, hts, hK, hI, by rw [← hAe]; exact gA_ad, by rw [← hAe]; exact gA_sz, by rw [← hAe]; exact hZ⟩
  have G : gW D ad cy N A s.heap c d0 s.heap [] := ⟨hP, va_S.rf⟩
  generalize hQ : MQ below (va_Qi (fun (z : Int32) (_ : Unit) => z = rZ) (fun _ U => gE D ad cy N cZ d0 U) A) args s 0 0 A = Q
  suffices hgen : ∀ (H : Heap) (locs : List Loc), gW D ad cy N A s.heap c d0 H locs → W p l e (rmX3_readBraced dd) s m args below meth cod H locs 0 0 Q (F0 m 0 ls []) from hgen _ _ G
  clear G
  intro H locs G
  unfold m_X3_readBraced at h
  refine lv_iload_n hx hb dX3_readBraced_0 rfl (lv_at hl 2 rfl) ?_
  refine lv_bipush (v := 6) hx hb dX3_readBraced_1 (by decide) ?_
  refine lv_icmp_lt (tgt := 16) hx hb dX3_readBraced_3 (by decide) (fun q1 => ?_) (fun q1 => ?_)
  · replace h := gt_s q1 h
    refine lv_aload_n hx hb dX3_readBraced_16 rfl (lv_at hl 1 rfl) ?_
    refine lv_bipush (v := 40) hx hb dX3_readBraced_17 (by decide) ?_
    obtain ⟨hk2, h⟩ := gc_s h
    have ht3 : a1 < N := Nat.lt_of_lt_of_le (gck_lt7 hk2) hN
    obtain ⟨r5, c6, hc4, h⟩ := gb2_s h
    refine gx_calli F G (va_runV (As := [.int 40]) (rest := []) (gx_fix F) (c_X7_takeSign l sa D ad cy N H.size hN hI c d0 hc4) (cwV 1 hts gX3_readBraced_X7_takeSign rfl rfl rfl (by decide +kernel) ⟨by simp only [rmX3_readBraced, rmX7_takeSign]; omega, by simp only [rmX3_readBraced, rmX7_takeSign]; omega⟩) (gx_rec F G ht3 (gwe_7 hk2) rfl) rfl rfl hl.1 rfl (lv_room (Nat.le_of_ble_eq_true rfl)) dX3_readBraced_19 ⟨Nat.zero_le _, Nat.zero_le _⟩) (fun H locs G => ?_)
    refine lv_if_eq (tgt := 49) hx hb dX3_readBraced_22 (by decide) (fun q7 => ?_) (fun q7 => ?_)
    · replace h := gt_s q7 h
      refine lv_iconst (v := 0) hx hb dX3_readBraced_49 (by decide) ?_
      cases h
      rw [← hQ]
      exact gx_zret F G hr hlocks rfl dX3_readBraced_50
    · replace h := gf_s q7 h
      refine lv_aload_n hx hb dX3_readBraced_25 rfl (lv_at hl 0 rfl) ?_
      refine lv_aload_n hx hb dX3_readBraced_26 rfl (lv_at hl 1 rfl) ?_
      refine lv_iload_n hx hb dX3_readBraced_27 rfl (lv_at hl 2 rfl) ?_
      refine lv_iconst (v := 1) hx hb dX3_readBraced_28 (by decide) ?_
      refine lv_iadd hx hb dX3_readBraced_29 ?_
      obtain ⟨hk8, h⟩ := gc_s h
      have ht9 : t < N := Nat.lt_of_lt_of_le (gck_lt3 hk8) hN
      obtain ⟨r11, c12, hc10, h⟩ := gb2_s h
      refine gx_calli F G (va_runV (As := [.ref (ad a1), .int (a2 + 1)]) (rest := []) (gx_fix F) (hrs H.size c6 d0 hc10) (cwV 2 hts gX3_readBraced_X3_readSum rfl rfl rfl (by decide +kernel) ⟨by simp only [rmX3_readBraced, rmX3_readSum]; omega, by simp only [rmX3_readBraced, rmX3_readSum]; omega⟩) (gx_rec F G ht9 (gwe_3 hk8) rfl) rfl rfl hl.1 rfl (lv_room (Nat.le_of_ble_eq_true rfl)) dX3_readBraced_30 ⟨Nat.zero_le _, Nat.zero_le _⟩) (fun H locs G => ?_)
      refine lv_if_eq (tgt := 49) hx hb dX3_readBraced_33 (by decide) (fun q13 => ?_) (fun q13 => ?_)
      · replace h := gt_s q13 h
        refine lv_iconst (v := 0) hx hb dX3_readBraced_49 (by decide) ?_
        cases h
        rw [← hQ]
        exact gx_zret F G hr hlocks rfl dX3_readBraced_50
      · replace h := gf_s q13 h
        refine lv_aload_n hx hb dX3_readBraced_36 rfl (lv_at hl 1 rfl) ?_
        refine lv_bipush (v := 41) hx hb dX3_readBraced_37 (by decide) ?_
        obtain ⟨r15, c16, hc14, h⟩ := gb2_s h
        refine gx_calli F G (va_runV (As := [.int 41]) (rest := []) (gx_fix F) (c_X7_takeSign l sa D ad cy N H.size hN hI c12 d0 hc14) (cwV 1 hts gX3_readBraced_X7_takeSign rfl rfl rfl (by decide +kernel) ⟨by simp only [rmX3_readBraced, rmX7_takeSign]; omega, by simp only [rmX3_readBraced, rmX7_takeSign]; omega⟩) (gx_rec F G ht3 (gwe_7 hk2) rfl) rfl rfl hl.1 rfl (lv_room (Nat.le_of_ble_eq_true rfl)) dX3_readBraced_39 ⟨Nat.zero_le _, Nat.zero_le _⟩) (fun H locs G => ?_)
        refine lv_if_eq (tgt := 49) hx hb dX3_readBraced_42 (by decide) (fun q17 => ?_) (fun q17 => ?_)
        · replace h := gt_s q17 h
          refine lv_iconst (v := 0) hx hb dX3_readBraced_49 (by decide) ?_
          cases h
          rw [← hQ]
          exact gx_zret F G hr hlocks rfl dX3_readBraced_50
        · replace h := gf_s q17 h
          refine lv_iconst (v := 1) hx hb dX3_readBraced_45 (by decide) ?_
          refine lv_goto (tgt := 50) hx hb dX3_readBraced_46 (by decide) ?_
          cases h
          rw [← hQ]
          exact gx_zret F G hr hlocks rfl dX3_readBraced_50
  · replace h := gf_s q1 h
    refine lv_aload_n hx hb dX3_readBraced_6 rfl (lv_at hl 1 rfl) ?_
    refine lv_iconst (v := 3) hx hb dX3_readBraced_7 (by decide) ?_
    refine lv_aload_n hx hb dX3_readBraced_8 rfl (lv_at hl 1 rfl) ?_
    obtain ⟨hk18, h⟩ := gc_s h
    have ht19 : a1 < N := Nat.lt_of_lt_of_le (gck_lt7 hk18) hN
    refine fg_7_mark F G hk18 ht19 in7 (by decide +kernel) dX3_readBraced_9 ?_
    obtain ⟨r21, c22, hc20, h⟩ := gb2_s h
    refine gx_calli F G (va_runV (As := [.int 3, .int (c.1 a1 4)]) (rest := []) (gx_fix F) (c_X7_fail l sa D ad cy N H.size hN hI c d0 hc20) (cwV 2 hts gX3_readBraced_X7_fail rfl rfl rfl (by decide +kernel) ⟨by simp only [rmX3_readBraced, rmX7_fail]; omega, by simp only [rmX3_readBraced, rmX7_fail]; omega⟩) (gx_rec F G ht19 (gwe_7 hk18) rfl) rfl rfl hl.1 rfl (lv_room (Nat.le_of_ble_eq_true rfl)) dX3_readBraced_12 ⟨Nat.zero_le _, Nat.zero_le _⟩) (fun H locs G => ?_)
    obtain ⟨hz23, h⟩ := gc_s h
    cases h
    rw [← hQ]
    exact gx_zret F G hr hlocks (gnb hz23) dX3_readBraced_15
def m_X7_isLetter (a1 : Int32) : Option (Int32) :=
  (if a1 < 97 then some 0 else (if 122 < a1 then some 0 else some 1))
abbrev rmX7_isLetter : Room := { frames := 0, cells := 0, slots := 0, locals := 0 }
set_option maxHeartbeats 4000000 in
set_option maxRecDepth 100000 in
theorem c_X7_isLetter (l : Launch) (sa : gSa) (D : va_G) (ad : Nat → Nat) (cy : Nat → ClassId) (N sz : Nat) (hN : 55 ≤ N) (hI : gI ad N) (c d0 : gm) {a1 : Int32} {rZ : Int32} (h : m_X7_isLetter a1 = some rZ) : Met l yX7_isLetter wsX7_isLetter rmX7_isLetter (va_Pc [.int a1] (gP sa D ad cy N sz c d0)) (va_Qi (fun (z : Int32) (_ : Unit) => z = rZ) (fun _ U => gE D ad cy N c d0 U) (gA ad N sz)) 0 0 (gA ad N sz) := by
  refine Met.ofW (cc := cX7_isLetter) (maxL := 1) (ret := (some .boolean)) (by decide) rfl ?_
  intro p e s m args below meth cod s₁ B hml hv
  obtain ⟨rfl, hsz, hP, hK, hZ⟩ := hv
  have hx := B.exec
  have hb := B.bytes
  have hr := B.returns
  have hts := atoms_spec (ws := wsX7_isLetter) B.pre
  have hown : s.vm.findClass RX7 = some m.cls := findClass_of_methodNamed B.named
  have hlocks := B.notSynchronized
  subst hsz
  have hl := lv_entry ([.int a1]) (n := 1) (Nat.le_of_ble_eq_true rfl)
  rw [lg_entry_eq]
  generalize (lg_sl ([.int a1]) ++ List.replicate (1 - (lg_sl ([.int a1])).length) Slot.unset).toArray = ls at hl ⊢
  have hl : lv_has ls 1 [(0, .int a1)] := hl
  generalize hargs : ([.int a1] : List Value).toArray = args at *
  generalize hAe : gA ad N s.heap.size = A
  have F : gF sa D ad cy N A p s m args cod cX7_isLetter 1 wsX7_isLetter RX7 := ⟨hx, hb, hml, hown, hts, hK, hI, by rw [← hAe]; exact gA_ad, by rw [← hAe]; exact gA_sz, by rw [← hAe]; exact hZ⟩
  have G : gW D ad cy N A s.heap c d0 s.heap [] := ⟨hP, va_S.rf⟩
  generalize hQ : MQ below (va_Qi (fun (z : Int32) (_ : Unit) => z = rZ) (fun _ U => gE D ad cy N c d0 U) A) args s 0 0 A = Q
  suffices hgen : ∀ (H : Heap) (locs : List Loc), gW D ad cy N A s.heap c d0 H locs → W p l e rmX7_isLetter s m args below meth cod H locs 0 0 Q (F0 m 0 ls []) from hgen _ _ G
  clear G
  intro H locs G
  unfold m_X7_isLetter at h
  refine lv_iload_n hx hb dX7_isLetter_0 rfl (lv_at hl 0 rfl) ?_
  refine lv_bipush (v := 97) hx hb dX7_isLetter_1 (by decide) ?_
  refine lv_icmp_lt (tgt := 16) hx hb dX7_isLetter_3 (by decide) (fun q1 => ?_) (fun q1 => ?_)
  · replace h := gt_s q1 h
    refine lv_iconst (v := 0) hx hb dX7_isLetter_16 (by decide) ?_
    cases h
    rw [← hQ]
    exact gx_zret F G hr hlocks rfl dX7_isLetter_17
  · replace h := gf_s q1 h
    refine lv_iload_n hx hb dX7_isLetter_6 rfl (lv_at hl 0 rfl) ?_
    refine lv_bipush (v := 122) hx hb dX7_isLetter_7 (by decide) ?_
    refine lv_icmp_gt (tgt := 16) hx hb dX7_isLetter_9 (by decide) (fun q2 => ?_) (fun q2 => ?_)
    · replace h := gt_s q2 h
      refine lv_iconst (v := 0) hx hb dX7_isLetter_16 (by decide) ?_
      cases h
      rw [← hQ]
      exact gx_zret F G hr hlocks rfl dX7_isLetter_17
    · replace h := gf_s q2 h
      refine lv_iconst (v := 1) hx hb dX7_isLetter_12 (by decide) ?_
      refine lv_goto (tgt := 17) hx hb dX7_isLetter_13 (by decide) ?_
      cases h
      rw [← hQ]
      exact gx_zret F G hr hlocks rfl dX7_isLetter_17
def m_X7_takeWord_L5 (t : Nat) (c7 : gm) : Option ((gm) ⊕ (gm)) :=
  (if (c7.1 t 2) ≤ (c7.1 t 3) then some (.inr c7) else gb (m_X7_byteAt t (c7.1 t 3) c7) (fun (r16 : Int32) => gb (m_X7_isLetter r16) (fun (r18 : Int32) => (if r18 = 0 then some (.inr c7) else gv (gm_r c7 t (upd (c7.1 t) 3 ((c7.1 t 3) + 1))) (fun (c20 : gm) => some (.inl c20))))))
def m_X7_takeWord (n : Nat) (t : Nat) (c : gm) : Option (Int32 × gm) :=
  gc (gck t = 7) (gb2 (m_X7_peek n t c) (fun (r4 : Int32) (c5 : gm) => gb (gloop (fun (c7 : gm) => m_X7_takeWord_L5 t c7) n c5) (fun (c8 : gm) => (if (c8.1 t 4) < (c8.1 t 3) then some (1, c8) else gb2 (m_X7_fail t 1 (c8.1 t 4) c8) (fun (r11 : Int32) (c12 : gm) => (if r11 = 0 then some (0, c12) else some (1, c12)))))))
abbrev rmX7_takeWord : Room := { frames := 1, cells := 0, slots := 0, locals := 22 }
set_option maxHeartbeats 4000000 in
set_option maxRecDepth 100000 in
theorem c_X7_takeWord (l : Launch) (sa : gSa) (D : va_G) (ad : Nat → Nat) (cy : Nat → ClassId) (N sz : Nat) (hN : 55 ≤ N) (hI : gI ad N) (c d0 : gm) {n : Nat} {t : Nat} {rZ : Int32} {cZ : gm} (h : m_X7_takeWord n t c = some (rZ, cZ)) : Met l yX7_takeWord wsX7_takeWord rmX7_takeWord (va_Pc [.ref (ad t)] (gP sa D ad cy N sz c d0)) (va_Qi (fun (z : Int32) (_ : Unit) => z = rZ) (fun _ U => gE D ad cy N cZ d0 U) (gA ad N sz)) 0 0 (gA ad N sz) := by
  refine Met.ofW (cc := cX7_takeWord) (maxL := 1) (ret := (some .boolean)) (by decide) rfl ?_
  intro p e s m args below meth cod s₁ B hml hv
  obtain ⟨rfl, hsz, hP, hK, hZ⟩ := hv
  have hx := B.exec
  have hb := B.bytes
  have hr := B.returns
  have hts := atoms_spec (ws := wsX7_takeWord) B.pre
  have hown : s.vm.findClass RX7 = some m.cls := findClass_of_methodNamed B.named
  have hlocks := B.notSynchronized
  subst hsz
  have hl := lv_entry ([.ref (ad t)]) (n := 1) (Nat.le_of_ble_eq_true rfl)
  rw [lg_entry_eq]
  generalize (lg_sl ([.ref (ad t)]) ++ List.replicate (1 - (lg_sl ([.ref (ad t)])).length) Slot.unset).toArray = ls at hl ⊢
  have hl : lv_has ls 1 [(0, .ref (ad t))] := hl
  have in7 : ∀ w ∈ wsX70, w ∈ wsX7_takeWord := by decide +kernel
  generalize hargs : ([.ref (ad t)] : List Value).toArray = args at *
  generalize hAe : gA ad N s.heap.size = A
  have F : gF sa D ad cy N A p s m args cod cX7_takeWord 1 wsX7_takeWord RX7 := ⟨hx, hb, hml, hown, hts, hK, hI, by rw [← hAe]; exact gA_ad, by rw [← hAe]; exact gA_sz, by rw [← hAe]; exact hZ⟩
  have G : gW D ad cy N A s.heap c d0 s.heap [] := ⟨hP, va_S.rf⟩
  generalize hQ : MQ below (va_Qi (fun (z : Int32) (_ : Unit) => z = rZ) (fun _ U => gE D ad cy N cZ d0 U) A) args s 0 0 A = Q
  suffices hgen : ∀ (H : Heap) (locs : List Loc), gW D ad cy N A s.heap c d0 H locs → W p l e rmX7_takeWord s m args below meth cod H locs 0 0 Q (F0 m 0 ls []) from hgen _ _ G
  clear G
  intro H locs G
  unfold m_X7_takeWord at h
  refine lv_aload_n hx hb dX7_takeWord_0 rfl (lv_at hl 0 rfl) ?_
  obtain ⟨hk1, h⟩ := gc_s h
  have ht2 : t < N := Nat.lt_of_lt_of_le (gck_lt7 hk1) hN
  obtain ⟨r4, c5, hc3, h⟩ := gb2_s h
  refine gx_calli F G (va_runV (As := []) (rest := []) (gx_fix F) (c_X7_peek l sa D ad cy N H.size hN hI c d0 hc3) (cwV 0 hts gX7_takeWord_X7_peek rfl rfl rfl (by decide +kernel) ⟨by decide, by decide⟩) (gx_rec F G ht2 (gwe_7 hk1) rfl) rfl rfl hl.1 rfl (lv_room (Nat.le_of_ble_eq_true rfl)) dX7_takeWord_1 ⟨Nat.zero_le _, Nat.zero_le _⟩) (fun H locs G => ?_)
  refine lv_pop hx hb dX7_takeWord_4 rfl ?_
  obtain ⟨b6, hb6, hK6⟩ := gb_s h
  have E6 : ∀ (c8 : gm) (H : Heap) (locs : List Loc) (ls : Array Slot), (c8 : gm) = b6 → gW D ad cy N A s.heap c8 d0 H locs → lv_has ls 1 [(0, .ref (ad t))] → W p l e rmX7_takeWord s m args below meth cod H locs 0 0 Q (F0 m 43 ls []) := by
    intro c8 H locs ls hq6 G hl
    subst hq6
    replace hK6 := hK6
    have h := hK6
    refine lv_aload_n hx hb dX7_takeWord_43 rfl (lv_at hl 0 rfl) ?_
    refine fg_7_at F G hk1 ht2 in7 (by decide +kernel) dX7_takeWord_44 ?_
    refine lv_aload_n hx hb dX7_takeWord_47 rfl (lv_at hl 0 rfl) ?_
    refine fg_7_mark F G hk1 ht2 in7 (by decide +kernel) dX7_takeWord_48 ?_
    refine lv_icmp_gt (tgt := 66) hx hb dX7_takeWord_51 (by decide) (fun q9 => ?_) (fun q9 => ?_)
    · replace h := gt_s q9 h
      refine lv_iconst (v := 1) hx hb dX7_takeWord_66 (by decide) ?_
      refine lv_goto (tgt := 71) hx hb dX7_takeWord_67 (by decide) ?_
      cases h
      rw [← hQ]
      exact gx_zret F G hr hlocks rfl dX7_takeWord_71
    · replace h := gf_s q9 h
      refine lv_aload_n hx hb dX7_takeWord_54 rfl (lv_at hl 0 rfl) ?_
      refine lv_iconst (v := 1) hx hb dX7_takeWord_55 (by decide) ?_
      refine lv_aload_n hx hb dX7_takeWord_56 rfl (lv_at hl 0 rfl) ?_
      refine fg_7_mark F G hk1 ht2 in7 (by decide +kernel) dX7_takeWord_57 ?_
      obtain ⟨r11, c12, hc10, h⟩ := gb2_s h
      refine gx_calli F G (va_runV (As := [.int 1, .int (c8.1 t 4)]) (rest := []) (gx_fix F) (c_X7_fail l sa D ad cy N H.size hN hI c8 d0 hc10) (cwV 2 hts gX7_takeWord_X7_fail rfl rfl rfl (by decide +kernel) ⟨by decide, by decide⟩) (gx_rec F G ht2 (gwe_7 hk1) rfl) rfl rfl hl.1 rfl (lv_room (Nat.le_of_ble_eq_true rfl)) dX7_takeWord_60 ⟨Nat.zero_le _, Nat.zero_le _⟩) (fun H locs G => ?_)
      refine lv_if_eq (tgt := 70) hx hb dX7_takeWord_63 (by decide) (fun q13 => ?_) (fun q13 => ?_)
      · replace h := gt_s q13 h
        refine lv_iconst (v := 0) hx hb dX7_takeWord_70 (by decide) ?_
        cases h
        rw [← hQ]
        exact gx_zret F G hr hlocks rfl dX7_takeWord_71
      · replace h := gf_s q13 h
        refine lv_iconst (v := 1) hx hb dX7_takeWord_66 (by decide) ?_
        refine lv_goto (tgt := 71) hx hb dX7_takeWord_67 (by decide) ?_
        cases h
        rw [← hQ]
        exact gx_zret F G hr hlocks rfl dX7_takeWord_71
  have L6 : ∀ (n9 : Nat) (c7 : gm) (H : Heap) (locs : List Loc) (ls : Array Slot), gloop (fun (c7 : gm) => m_X7_takeWord_L5 t c7) n9 c7 = some b6 → gW D ad cy N A s.heap c7 d0 H locs → lv_has ls 1 [(0, .ref (ad t))] → W p l e rmX7_takeWord s m args below meth cod H locs 0 0 Q (F0 m 5 ls []) := by
    intro n9
    induction n9 with
    | zero => intro c7 H locs ls h; exact (gloop_0 h).elim
    | succ n9 ih =>
      intro c7 H locs ls h G hl
      have ih6 := ih
      obtain ⟨o6, h, hn6⟩ := gloop_s h
      unfold m_X7_takeWord_L5 at h
      refine lv_aload_n hx hb dX7_takeWord_5 rfl (lv_at hl 0 rfl) ?_
      refine fg_7_at F G hk1 ht2 in7 (by decide +kernel) dX7_takeWord_6 ?_
      refine lv_aload_n hx hb dX7_takeWord_9 rfl (lv_at hl 0 rfl) ?_
      refine fg_7_length F G hk1 ht2 in7 (by decide +kernel) dX7_takeWord_10 ?_
      refine lv_icmp_ge (tgt := 43) hx hb dX7_takeWord_13 (by decide) (fun q14 => ?_) (fun q14 => ?_)
      · replace h := gt_s q14 h
        cases h
        exact E6 _ _ _ _ (gnx_r hn6) G hl
      · replace h := gf_s q14 h
        refine lv_aload_n hx hb dX7_takeWord_16 rfl (lv_at hl 0 rfl) ?_
        refine lv_aload_n hx hb dX7_takeWord_17 rfl (lv_at hl 0 rfl) ?_
        refine fg_7_at F G hk1 ht2 in7 (by decide +kernel) dX7_takeWord_18 ?_
        obtain ⟨r16, hc15, h⟩ := gb_s h
        refine gx_calli F G (va_runV (As := [.int (c7.1 t 3)]) (rest := []) (gx_fix F) (c_X7_byteAt l sa D ad cy N H.size hN hI c7 d0 hc15) (cwV 1 hts gX7_takeWord_X7_byteAt rfl rfl rfl (by decide +kernel) ⟨by decide, by decide⟩) (gx_rec F G ht2 (gwe_7 hk1) rfl) rfl rfl hl.1 rfl (lv_room (Nat.le_of_ble_eq_true rfl)) dX7_takeWord_21 ⟨Nat.zero_le _, Nat.zero_le _⟩) (fun H locs G => ?_)
        obtain ⟨r18, hc17, h⟩ := gb_s h
        refine gx_calli F G (va_runS (As := [.int r16]) (rest := []) (gx_fix F) (c_X7_isLetter l sa D ad cy N H.size hN hI c7 d0 hc17) (va_cwS 1 hts gX7_takeWord_X7_isLetter rfl rfl rfl (by decide +kernel) ⟨by decide, by decide⟩) (gx_pre F G) rfl rfl hl.1 rfl (lv_room (Nat.le_of_ble_eq_true rfl)) dX7_takeWord_24 ⟨Nat.zero_le _, Nat.zero_le _⟩) (fun H locs G => ?_)
        refine lv_if_eq (tgt := 43) hx hb dX7_takeWord_27 (by decide) (fun q19 => ?_) (fun q19 => ?_)
        · replace h := gt_s q19 h
          cases h
          exact E6 _ _ _ _ (gnx_r hn6) G hl
        · replace h := gf_s q19 h
          refine lv_aload_n hx hb dX7_takeWord_30 rfl (lv_at hl 0 rfl) ?_
          refine lv_dup hx hb dX7_takeWord_31 rfl ?_
          refine fg_7_at F G hk1 ht2 in7 (by decide +kernel) dX7_takeWord_32 ?_
          refine lv_iconst (v := 1) hx hb dX7_takeWord_35 (by decide) ?_
          refine lv_iadd hx hb dX7_takeWord_36 ?_
          refine fp_7_at F G hk1 ht2 in7 (by decide +kernel) dX7_takeWord_37 (fun H locs G => ?_)
          obtain ⟨c20, ec20⟩ : ∃ z, z = gm_r c7 t (upd (c7.1 t) 3 ((c7.1 t 3) + 1)) := ⟨_, rfl⟩
          rw [← ec20] at G
          replace h := gv_s h c20 ec20
          refine lv_goto (tgt := 5) hx hb dX7_takeWord_40 (by decide) ?_
          cases h
          exact ih6 _ _ _ _ hn6 G hl
  exact L6 n _ _ _ _ hb6 G hl
def m_J0_coder_7d493 (t : Nat) (c : gm) : Option (Int32) :=
  (if (1 : Int32) = 0 then some 1 else gc (t < 18) (some 0))
abbrev rmJ0_coder_7d493 : Room := { frames := 0, cells := 0, slots := 0, locals := 0 }
set_option maxHeartbeats 4000000 in
set_option maxRecDepth 100000 in
theorem c_J0_coder_7d493 (l : Launch) (sa : gSa) (D : va_G) (ad : Nat → Nat) (cy : Nat → ClassId) (N sz : Nat) (hN : 55 ≤ N) (hI : gI ad N) (c d0 : gm) {t : Nat} {rZ : Int32} (h : m_J0_coder_7d493 t c = some rZ) : Met l yJ0_coder_7d493 wsJ0_coder_7d493 rmJ0_coder_7d493 (va_Pc [.ref (sa.1 t)] (gP sa D ad cy N sz c d0)) (va_Qi (fun (z : Int32) (_ : Unit) => z = rZ) (fun _ U => gE D ad cy N c d0 U) (gA ad N sz)) 0 0 (gA ad N sz) := by
  refine Met.ofW (cc := cJ0_coder_7d493) (maxL := 1) (ret := (some .byte)) (by decide) rfl ?_
  intro p e s m args below meth cod s₁ B hml hv
  obtain ⟨rfl, hsz, hP, hK, hZ⟩ := hv
  have hx := B.exec
  have hb := B.bytes
  have hr := B.returns
  have hts := atoms_spec (ws := wsJ0_coder_7d493) B.pre
  have hown : s.vm.findClass RJ0 = some m.cls := findClass_of_methodNamed B.named
  have hlocks := B.notSynchronized
  subst hsz
  have hl := lv_entry ([.ref (sa.1 t)]) (n := 1) (Nat.le_of_ble_eq_true rfl)
  rw [lg_entry_eq]
  generalize (lg_sl ([.ref (sa.1 t)]) ++ List.replicate (1 - (lg_sl ([.ref (sa.1 t)])).length) Slot.unset).toArray = ls at hl ⊢
  have hl : lv_has ls 1 [(0, .ref (sa.1 t))] := hl
  generalize hargs : ([.ref (sa.1 t)] : List Value).toArray = args at *
  generalize hAe : gA ad N s.heap.size = A
  have F : gF sa D ad cy N A p s m args cod cJ0_coder_7d493 1 wsJ0_coder_7d493 RJ0 := ⟨hx, hb, hml, hown, hts, hK, hI, by rw [← hAe]; exact gA_ad, by rw [← hAe]; exact gA_sz, by rw [← hAe]; exact hZ⟩
  have G : gW D ad cy N A s.heap c d0 s.heap [] := ⟨hP, va_S.rf⟩
  generalize hQ : MQ below (va_Qi (fun (z : Int32) (_ : Unit) => z = rZ) (fun _ U => gE D ad cy N c d0 U) A) args s 0 0 A = Q
  suffices hgen : ∀ (H : Heap) (locs : List Loc), gW D ad cy N A s.heap c d0 H locs → W p l e rmJ0_coder_7d493 s m args below meth cod H locs 0 0 Q (F0 m 0 ls []) from hgen _ _ G
  clear G
  intro H locs G
  unfold m_J0_coder_7d493 at h
  refine gx_comp F G (by decide +kernel) dJ0_coder_7d493_0 ?_
  refine lv_if_eq (tgt := 13) hx hb dJ0_coder_7d493_3 (by decide) (fun q1 => ?_) (fun q1 => ?_)
  · replace h := gt_s q1 h
    refine lv_iconst (v := 1) hx hb dJ0_coder_7d493_13 (by decide) ?_
    cases h
    rw [← hQ]
    exact gx_zret F G hr hlocks rfl dJ0_coder_7d493_14
  · replace h := gf_s q1 h
    refine lv_aload_n hx hb dJ0_coder_7d493_6 rfl (lv_at hl 0 rfl) ?_
    obtain ⟨hw2, h⟩ := gc_s h
    refine gx_scod F G hw2 (by decide +kernel) dJ0_coder_7d493_7 ?_
    refine lv_goto (tgt := 14) hx hb dJ0_coder_7d493_10 (by decide) ?_
    cases h
    rw [← hQ]
    exact gx_zret F G hr hlocks rfl dJ0_coder_7d493_14
def m_J0_length_8abf5 (t : Nat) (c : gm) : Option (Int32) :=
  gc (t < 18) (gb (m_J0_coder_7d493 t c) (fun (r3 : Int32) => some ((nI (gsn t)) >>> (r3 &&& 31))))
abbrev rmJ0_length_8abf5 : Room := { frames := 1, cells := 0, slots := 0, locals := 20 }
set_option maxHeartbeats 4000000 in
set_option maxRecDepth 100000 in
theorem c_J0_length_8abf5 (l : Launch) (sa : gSa) (D : va_G) (ad : Nat → Nat) (cy : Nat → ClassId) (N sz : Nat) (hN : 55 ≤ N) (hI : gI ad N) (c d0 : gm) {t : Nat} {rZ : Int32} (h : m_J0_length_8abf5 t c = some rZ) : Met l yJ0_length_8abf5 wsJ0_length_8abf5 rmJ0_length_8abf5 (va_Pc [.ref (sa.1 t)] (gP sa D ad cy N sz c d0)) (va_Qi (fun (z : Int32) (_ : Unit) => z = rZ) (fun _ U => gE D ad cy N c d0 U) (gA ad N sz)) 0 0 (gA ad N sz) := by
  refine Met.ofW (cc := cJ0_length_8abf5) (maxL := 1) (ret := (some .int)) (by decide) rfl ?_
  intro p e s m args below meth cod s₁ B hml hv
  obtain ⟨rfl, hsz, hP, hK, hZ⟩ := hv
  have hx := B.exec
  have hb := B.bytes
  have hr := B.returns
  have hts := atoms_spec (ws := wsJ0_length_8abf5) B.pre
  have hown : s.vm.findClass RJ0 = some m.cls := findClass_of_methodNamed B.named
  have hlocks := B.notSynchronized
  subst hsz
  have hl := lv_entry ([.ref (sa.1 t)]) (n := 1) (Nat.le_of_ble_eq_true rfl)
  rw [lg_entry_eq]
  generalize (lg_sl ([.ref (sa.1 t)]) ++ List.replicate (1 - (lg_sl ([.ref (sa.1 t)])).length) Slot.unset).toArray = ls at hl ⊢
  have hl : lv_has ls 1 [(0, .ref (sa.1 t))] := hl
  generalize hargs : ([.ref (sa.1 t)] : List Value).toArray = args at *
  generalize hAe : gA ad N s.heap.size = A
  have F : gF sa D ad cy N A p s m args cod cJ0_length_8abf5 1 wsJ0_length_8abf5 RJ0 := ⟨hx, hb, hml, hown, hts, hK, hI, by rw [← hAe]; exact gA_ad, by rw [← hAe]; exact gA_sz, by rw [← hAe]; exact hZ⟩
  have G : gW D ad cy N A s.heap c d0 s.heap [] := ⟨hP, va_S.rf⟩
  generalize hQ : MQ below (va_Qi (fun (z : Int32) (_ : Unit) => z = rZ) (fun _ U => gE D ad cy N c d0 U) A) args s 0 0 A = Q
  suffices hgen : ∀ (H : Heap) (locs : List Loc), gW D ad cy N A s.heap c d0 H locs → W p l e rmJ0_length_8abf5 s m args below meth cod H locs 0 0 Q (F0 m 0 ls []) from hgen _ _ G
  clear G
  intro H locs G
  unfold m_J0_length_8abf5 at h
  refine lv_aload_n hx hb dJ0_length_8abf5_0 rfl (lv_at hl 0 rfl) ?_
  obtain ⟨hw1, h⟩ := gc_s h
  refine gx_sval F G hw1 (by decide +kernel) dJ0_length_8abf5_1 ?_
  refine gx_slen F G hw1 dJ0_length_8abf5_4 ?_
  refine lv_aload_n hx hb dJ0_length_8abf5_5 rfl (lv_at hl 0 rfl) ?_
  obtain ⟨r3, hc2, h⟩ := gb_s h
  refine gx_calli F G (va_runV (As := []) (rest := [.int (nI (gsn t))]) (gx_fix F) (c_J0_coder_7d493 l sa D ad cy N H.size hN hI c d0 hc2) (cwV 0 hts gJ0_length_8abf5_J0_coder_7d493 rfl rfl rfl (by decide +kernel) ⟨by decide, by decide⟩) (gx_srec F G hw1) rfl rfl hl.1 rfl (lv_room (Nat.le_of_ble_eq_true rfl)) dJ0_length_8abf5_6 ⟨Nat.zero_le _, Nat.zero_le _⟩) (fun H locs G => ?_)
  refine lv_ishr hx hb dJ0_length_8abf5_9 ?_
  cases h
  rw [← hQ]
  exact gx_iret F G hr hlocks dJ0_length_8abf5_10
def m_J0_isLatin1_aae02 (t : Nat) (c : gm) : Option (Int32) :=
  (if (1 : Int32) = 0 then some 0 else gc (t < 18) ((if (0 : Int32) = 0 then some 1 else some 0)))
abbrev rmJ0_isLatin1_aae02 : Room := { frames := 0, cells := 0, slots := 0, locals := 0 }
set_option maxHeartbeats 4000000 in
set_option maxRecDepth 100000 in
theorem c_J0_isLatin1_aae02 (l : Launch) (sa : gSa) (D : va_G) (ad : Nat → Nat) (cy : Nat → ClassId) (N sz : Nat) (hN : 55 ≤ N) (hI : gI ad N) (c d0 : gm) {t : Nat} {rZ : Int32} (h : m_J0_isLatin1_aae02 t c = some rZ) : Met l yJ0_isLatin1_aae02 wsJ0_isLatin1_aae02 rmJ0_isLatin1_aae02 (va_Pc [.ref (sa.1 t)] (gP sa D ad cy N sz c d0)) (va_Qi (fun (z : Int32) (_ : Unit) => z = rZ) (fun _ U => gE D ad cy N c d0 U) (gA ad N sz)) 0 0 (gA ad N sz) := by
  refine Met.ofW (cc := cJ0_isLatin1_aae02) (maxL := 1) (ret := (some .boolean)) (by decide) rfl ?_
  intro p e s m args below meth cod s₁ B hml hv
  obtain ⟨rfl, hsz, hP, hK, hZ⟩ := hv
  have hx := B.exec
  have hb := B.bytes
  have hr := B.returns
  have hts := atoms_spec (ws := wsJ0_isLatin1_aae02) B.pre
  have hown : s.vm.findClass RJ0 = some m.cls := findClass_of_methodNamed B.named
  have hlocks := B.notSynchronized
  subst hsz
  have hl := lv_entry ([.ref (sa.1 t)]) (n := 1) (Nat.le_of_ble_eq_true rfl)
  rw [lg_entry_eq]
  generalize (lg_sl ([.ref (sa.1 t)]) ++ List.replicate (1 - (lg_sl ([.ref (sa.1 t)])).length) Slot.unset).toArray = ls at hl ⊢
  have hl : lv_has ls 1 [(0, .ref (sa.1 t))] := hl
  generalize hargs : ([.ref (sa.1 t)] : List Value).toArray = args at *
  generalize hAe : gA ad N s.heap.size = A
  have F : gF sa D ad cy N A p s m args cod cJ0_isLatin1_aae02 1 wsJ0_isLatin1_aae02 RJ0 := ⟨hx, hb, hml, hown, hts, hK, hI, by rw [← hAe]; exact gA_ad, by rw [← hAe]; exact gA_sz, by rw [← hAe]; exact hZ⟩
  have G : gW D ad cy N A s.heap c d0 s.heap [] := ⟨hP, va_S.rf⟩
  generalize hQ : MQ below (va_Qi (fun (z : Int32) (_ : Unit) => z = rZ) (fun _ U => gE D ad cy N c d0 U) A) args s 0 0 A = Q
  suffices hgen : ∀ (H : Heap) (locs : List Loc), gW D ad cy N A s.heap c d0 H locs → W p l e rmJ0_isLatin1_aae02 s m args below meth cod H locs 0 0 Q (F0 m 0 ls []) from hgen _ _ G
  clear G
  intro H locs G
  unfold m_J0_isLatin1_aae02 at h
  refine gx_comp F G (by decide +kernel) dJ0_isLatin1_aae02_0 ?_
  refine lv_if_eq (tgt := 17) hx hb dJ0_isLatin1_aae02_3 (by decide) (fun q1 => ?_) (fun q1 => ?_)
  · replace h := gt_s q1 h
    refine lv_iconst (v := 0) hx hb dJ0_isLatin1_aae02_17 (by decide) ?_
    cases h
    rw [← hQ]
    exact gx_zret F G hr hlocks rfl dJ0_isLatin1_aae02_18
  · replace h := gf_s q1 h
    refine lv_aload_n hx hb dJ0_isLatin1_aae02_6 rfl (lv_at hl 0 rfl) ?_
    obtain ⟨hw2, h⟩ := gc_s h
    refine gx_scod F G hw2 (by decide +kernel) dJ0_isLatin1_aae02_7 ?_
    refine lv_if_ne (tgt := 17) hx hb dJ0_isLatin1_aae02_10 (by decide) (fun q3 => ?_) (fun q3 => ?_)
    · replace h := gf_s q3 h
      refine lv_iconst (v := 0) hx hb dJ0_isLatin1_aae02_17 (by decide) ?_
      cases h
      rw [← hQ]
      exact gx_zret F G hr hlocks rfl dJ0_isLatin1_aae02_18
    · replace h := gt_s q3 h
      refine lv_iconst (v := 1) hx hb dJ0_isLatin1_aae02_13 (by decide) ?_
      refine lv_goto (tgt := 18) hx hb dJ0_isLatin1_aae02_14 (by decide) ?_
      cases h
      rw [← hQ]
      exact gx_zret F G hr hlocks rfl dJ0_isLatin1_aae02_18
def m_J3_checkIndex_8e157 (a1 : Int32) (a2 : Int32) : Option (Int32) :=
  gj (fun (_ : Unit) => none) (fun K1 => (if a1 < 0 then K1 () else (if a1 < a2 then some a1 else K1 ())))
abbrev rmJ3_checkIndex_8e157 : Room := { frames := 0, cells := 0, slots := 0, locals := 0 }
set_option maxHeartbeats 4000000 in
set_option maxRecDepth 100000 in
theorem c_J3_checkIndex_8e157 (l : Launch) (sa : gSa) (D : va_G) (ad : Nat → Nat) (cy : Nat → ClassId) (N sz : Nat) (hN : 55 ≤ N) (hI : gI ad N) (c d0 : gm) {a1 : Int32} {a2 : Int32} {a3 : Nat} {rZ : Int32} (h : m_J3_checkIndex_8e157 a1 a2 = some rZ) : Met l yJ3_checkIndex_8e157 wsJ3_checkIndex_8e157 rmJ3_checkIndex_8e157 (va_Pc [.int a1, .int a2, .ref a3] (gP sa D ad cy N sz c d0)) (va_Qi (fun (z : Int32) (_ : Unit) => z = rZ) (fun _ U => gE D ad cy N c d0 U) (gA ad N sz)) 0 0 (gA ad N sz) := by
  refine Met.ofW (cc := cJ3_checkIndex_8e157) (maxL := 3) (ret := (some .int)) (by decide) rfl ?_
  intro p e s m args below meth cod s₁ B hml hv
  obtain ⟨rfl, hsz, hP, hK, hZ⟩ := hv
  have hx := B.exec
  have hb := B.bytes
  have hr := B.returns
  have hts := atoms_spec (ws := wsJ3_checkIndex_8e157) B.pre
  have hown : s.vm.findClass RJ3 = some m.cls := findClass_of_methodNamed B.named
  have hlocks := B.notSynchronized
  subst hsz
  have hl := lv_entry ([.int a1, .int a2, .ref a3]) (n := 3) (Nat.le_of_ble_eq_true rfl)
  rw [lg_entry_eq]
  generalize (lg_sl ([.int a1, .int a2, .ref a3]) ++ List.replicate (3 - (lg_sl ([.int a1, .int a2, .ref a3])).length) Slot.unset).toArray = ls at hl ⊢
  have hl : lv_has ls 3 [(0, .int a1), (1, .int a2), (2, .ref a3)] := hl
  generalize hargs : ([.int a1, .int a2, .ref a3] : List Value).toArray = args at *
  generalize hAe : gA ad N s.heap.size = A
  have F : gF sa D ad cy N A p s m args cod cJ3_checkIndex_8e157 3 wsJ3_checkIndex_8e157 RJ3 := ⟨hx, hb, hml, hown, hts, hK, hI, by rw [← hAe]; exact gA_ad, by rw [← hAe]; exact gA_sz, by rw [← hAe]; exact hZ⟩
  have G : gW D ad cy N A s.heap c d0 s.heap [] := ⟨hP, va_S.rf⟩
  generalize hQ : MQ below (va_Qi (fun (z : Int32) (_ : Unit) => z = rZ) (fun _ U => gE D ad cy N c d0 U) A) args s 0 0 A = Q
  suffices hgen : ∀ (H : Heap) (locs : List Loc), gW D ad cy N A s.heap c d0 H locs → W p l e rmJ3_checkIndex_8e157 s m args below meth cod H locs 0 0 Q (F0 m 0 ls []) from hgen _ _ G
  clear G
  intro H locs G
  unfold m_J3_checkIndex_8e157 at h
  refine lv_iload_n hx hb dJ3_checkIndex_8e157_0 rfl (lv_at hl 0 rfl) ?_
  obtain ⟨K1, eK1, h⟩ := gj_s h
  have JK1 : ∀ (H : Heap) (locs : List Loc) (ls : Array Slot), K1 () = some rZ → gW D ad cy N A s.heap c d0 H locs → lv_has ls 3 [(0, .int a1), (1, .int a2), (2, .ref a3)] → W p l e rmJ3_checkIndex_8e157 s m args below meth cod H locs 0 0 Q (F0 m 9 ls []) := by
    intro  H locs ls h G hl
    rw [eK1] at h
    refine lv_aload_n hx hb dJ3_checkIndex_8e157_9 rfl (lv_at hl 2 rfl) ?_
    refine lv_iload_n hx hb dJ3_checkIndex_8e157_10 rfl (lv_at hl 0 rfl) ?_
    refine lv_iload_n hx hb dJ3_checkIndex_8e157_11 rfl (lv_at hl 1 rfl) ?_
    cases h
  refine lv_if_lt (tgt := 9) hx hb dJ3_checkIndex_8e157_1 (by decide) (fun q2 => ?_) (fun q2 => ?_)
  · replace h := gt_s q2 h
    exact JK1  _ _ _ h G hl
  · replace h := gf_s q2 h
    refine lv_iload_n hx hb dJ3_checkIndex_8e157_4 rfl (lv_at hl 0 rfl) ?_
    refine lv_iload_n hx hb dJ3_checkIndex_8e157_5 rfl (lv_at hl 1 rfl) ?_
    refine lv_icmp_lt (tgt := 16) hx hb dJ3_checkIndex_8e157_6 (by decide) (fun q3 => ?_) (fun q3 => ?_)
    · replace h := gt_s q3 h
      refine lv_iload_n hx hb dJ3_checkIndex_8e157_16 rfl (lv_at hl 0 rfl) ?_
      cases h
      rw [← hQ]
      exact gx_iret F G hr hlocks dJ3_checkIndex_8e157_17
    · replace h := gf_s q3 h
      exact JK1  _ _ _ h G hl
set_option maxHeartbeats 4000000 in
set_option maxRecDepth 100000 in
theorem c_J3_checkIndex_8e157z (l : Launch) (sa : gSa) (D : va_G) (ad : Nat → Nat) (cy : Nat → ClassId) (N sz : Nat) (hN : 55 ≤ N) (hI : gI ad N) (c d0 : gm) {a1 : Int32} {a2 : Int32} {rZ : Int32} (h : m_J3_checkIndex_8e157 a1 a2 = some rZ) : Met l yJ3_checkIndex_8e157 wsJ3_checkIndex_8e157 rmJ3_checkIndex_8e157 (va_Pc [.int a1, .int a2, .null] (gP sa D ad cy N sz c d0)) (va_Qi (fun (z : Int32) (_ : Unit) => z = rZ) (fun _ U => gE D ad cy N c d0 U) (gA ad N sz)) 0 0 (gA ad N sz) := by
  refine Met.ofW (cc := cJ3_checkIndex_8e157) (maxL := 3) (ret := (some .int)) (by decide) rfl ?_
  intro p e s m args below meth cod s₁ B hml hv
  obtain ⟨rfl, hsz, hP, hK, hZ⟩ := hv
  have hx := B.exec
  have hb := B.bytes
  have hr := B.returns
  have hts := atoms_spec (ws := wsJ3_checkIndex_8e157) B.pre
  have hown : s.vm.findClass RJ3 = some m.cls := findClass_of_methodNamed B.named
  have hlocks := B.notSynchronized
  subst hsz
  have hl := lv_entry ([.int a1, .int a2, .null]) (n := 3) (Nat.le_of_ble_eq_true rfl)
  rw [lg_entry_eq]
  generalize (lg_sl ([.int a1, .int a2, .null]) ++ List.replicate (3 - (lg_sl ([.int a1, .int a2, .null])).length) Slot.unset).toArray = ls at hl ⊢
  have hl : lv_has ls 3 [(0, .int a1), (1, .int a2), (2, .null)] := hl
  generalize hargs : ([.int a1, .int a2, .null] : List Value).toArray = args at *
  generalize hAe : gA ad N s.heap.size = A
  have F : gF sa D ad cy N A p s m args cod cJ3_checkIndex_8e157 3 wsJ3_checkIndex_8e157 RJ3 := ⟨hx, hb, hml, hown, hts, hK, hI, by rw [← hAe]; exact gA_ad, by rw [← hAe]; exact gA_sz, by rw [← hAe]; exact hZ⟩
  have G : gW D ad cy N A s.heap c d0 s.heap [] := ⟨hP, va_S.rf⟩
  generalize hQ : MQ below (va_Qi (fun (z : Int32) (_ : Unit) => z = rZ) (fun _ U => gE D ad cy N c d0 U) A) args s 0 0 A = Q
  suffices hgen : ∀ (H : Heap) (locs : List Loc), gW D ad cy N A s.heap c d0 H locs → W p l e rmJ3_checkIndex_8e157 s m args below meth cod H locs 0 0 Q (F0 m 0 ls []) from hgen _ _ G
  clear G
  intro H locs G
  unfold m_J3_checkIndex_8e157 at h
  refine lv_iload_n hx hb dJ3_checkIndex_8e157_0 rfl (lv_at hl 0 rfl) ?_
  obtain ⟨K1, eK1, h⟩ := gj_s h
  have JK1 : ∀ (H : Heap) (locs : List Loc) (ls : Array Slot), K1 () = some rZ → gW D ad cy N A s.heap c d0 H locs → lv_has ls 3 [(0, .int a1), (1, .int a2), (2, .null)] → W p l e rmJ3_checkIndex_8e157 s m args below meth cod H locs 0 0 Q (F0 m 9 ls []) := by
    intro  H locs ls h G hl
    rw [eK1] at h
    refine lv_aload_nN hx hb dJ3_checkIndex_8e157_9 rfl (lv_at hl 2 rfl) ?_
    refine lv_iload_n hx hb dJ3_checkIndex_8e157_10 rfl (lv_at hl 0 rfl) ?_
    refine lv_iload_n hx hb dJ3_checkIndex_8e157_11 rfl (lv_at hl 1 rfl) ?_
    cases h
  refine lv_if_lt (tgt := 9) hx hb dJ3_checkIndex_8e157_1 (by decide) (fun q2 => ?_) (fun q2 => ?_)
  · replace h := gt_s q2 h
    exact JK1  _ _ _ h G hl
  · replace h := gf_s q2 h
    refine lv_iload_n hx hb dJ3_checkIndex_8e157_4 rfl (lv_at hl 0 rfl) ?_
    refine lv_iload_n hx hb dJ3_checkIndex_8e157_5 rfl (lv_at hl 1 rfl) ?_
    refine lv_icmp_lt (tgt := 16) hx hb dJ3_checkIndex_8e157_6 (by decide) (fun q3 => ?_) (fun q3 => ?_)
    · replace h := gt_s q3 h
      refine lv_iload_n hx hb dJ3_checkIndex_8e157_16 rfl (lv_at hl 0 rfl) ?_
      cases h
      rw [← hQ]
      exact gx_iret F G hr hlocks dJ3_checkIndex_8e157_17
    · replace h := gf_s q3 h
      exact JK1  _ _ _ h G hl
def m_J0_checkIndex_df160 (a1 : Int32) (a2 : Int32) : Option (Unit) :=
  gb (m_J3_checkIndex_8e157 a1 a2) (fun (r2 : Int32) => some ())
abbrev rmJ0_checkIndex_df160 : Room := { frames := 1, cells := 0, slots := 0, locals := 22 }
set_option maxHeartbeats 4000000 in
set_option maxRecDepth 100000 in
theorem c_J0_checkIndex_df160 (l : Launch) (sa : gSa) (D : va_G) (ad : Nat → Nat) (cy : Nat → ClassId) (N sz : Nat) (hN : 55 ≤ N) (hI : gI ad N) (c d0 : gm) {a1 : Int32} {a2 : Int32} (h : m_J0_checkIndex_df160 a1 a2 = some ()) : Met l yJ0_checkIndex_df160 wsJ0_checkIndex_df160 rmJ0_checkIndex_df160 (va_Pc [.int a1, .int a2] (gP sa D ad cy N sz c d0)) (va_Qv (fun (_ : Unit) => True) (fun _ U => gE D ad cy N c d0 U) (gA ad N sz)) 0 0 (gA ad N sz) := by
  refine Met.ofW (cc := cJ0_checkIndex_df160) (maxL := 2) (ret := none) (by decide) rfl ?_
  intro p e s m args below meth cod s₁ B hml hv
  obtain ⟨rfl, hsz, hP, hK, hZ⟩ := hv
  have hx := B.exec
  have hb := B.bytes
  have hr := B.returns
  have hts := atoms_spec (ws := wsJ0_checkIndex_df160) B.pre
  have hown : s.vm.findClass RJ0 = some m.cls := findClass_of_methodNamed B.named
  have hlocks := B.notSynchronized
  subst hsz
  have hl := lv_entry ([.int a1, .int a2]) (n := 2) (Nat.le_of_ble_eq_true rfl)
  rw [lg_entry_eq]
  generalize (lg_sl ([.int a1, .int a2]) ++ List.replicate (2 - (lg_sl ([.int a1, .int a2])).length) Slot.unset).toArray = ls at hl ⊢
  have hl : lv_has ls 2 [(0, .int a1), (1, .int a2)] := hl
  generalize hargs : ([.int a1, .int a2] : List Value).toArray = args at *
  generalize hAe : gA ad N s.heap.size = A
  have F : gF sa D ad cy N A p s m args cod cJ0_checkIndex_df160 2 wsJ0_checkIndex_df160 RJ0 := ⟨hx, hb, hml, hown, hts, hK, hI, by rw [← hAe]; exact gA_ad, by rw [← hAe]; exact gA_sz, by rw [← hAe]; exact hZ⟩
  have G : gW D ad cy N A s.heap c d0 s.heap [] := ⟨hP, va_S.rf⟩
  generalize hQ : MQ below (va_Qv (fun (_ : Unit) => True) (fun _ U => gE D ad cy N c d0 U) A) args s 0 0 A = Q
  suffices hgen : ∀ (H : Heap) (locs : List Loc), gW D ad cy N A s.heap c d0 H locs → W p l e rmJ0_checkIndex_df160 s m args below meth cod H locs 0 0 Q (F0 m 0 ls []) from hgen _ _ G
  clear G
  intro H locs G
  unfold m_J0_checkIndex_df160 at h
  refine lv_iload_n hx hb dJ0_checkIndex_df160_0 rfl (lv_at hl 0 rfl) ?_
  refine lv_iload_n hx hb dJ0_checkIndex_df160_1 rfl (lv_at hl 1 rfl) ?_
  refine gx_fmt F G (by decide +kernel) dJ0_checkIndex_df160_2 (fun v9 hv9 => ?_)
  rcases hv9 with rfl | ⟨q9, rfl⟩
  · skip
    obtain ⟨r2, hc1, h⟩ := gb_s h
    refine gx_calli F G (va_runS (As := [.int a1, .int a2, .null]) (rest := []) (gx_fix F) (c_J3_checkIndex_8e157z l sa D ad cy N H.size hN hI c d0 hc1) (va_cwS 3 hts gJ0_checkIndex_df160_J3_checkIndex_8e157 rfl rfl rfl (by decide +kernel) ⟨by decide, by decide⟩) (gx_pre F G) rfl rfl hl.1 rfl (lv_room (Nat.le_of_ble_eq_true rfl)) dJ0_checkIndex_df160_5 ⟨Nat.zero_le _, Nat.zero_le _⟩) (fun H locs G => ?_)
    refine lv_pop hx hb dJ0_checkIndex_df160_8 rfl ?_
    cases h
    rw [← hQ]
    exact gx_vret F G hr hlocks dJ0_checkIndex_df160_9
  · skip
    obtain ⟨r2, hc1, h⟩ := gb_s h
    refine gx_calli F G (va_runS (As := [.int a1, .int a2, .ref q9]) (rest := []) (gx_fix F) (c_J3_checkIndex_8e157 l sa D ad cy N H.size hN hI c d0 hc1) (va_cwS 3 hts gJ0_checkIndex_df160_J3_checkIndex_8e157 rfl rfl rfl (by decide +kernel) ⟨by decide, by decide⟩) (gx_pre F G) rfl rfl hl.1 rfl (lv_room (Nat.le_of_ble_eq_true rfl)) dJ0_checkIndex_df160_5 ⟨Nat.zero_le _, Nat.zero_le _⟩) (fun H locs G => ?_)
    refine lv_pop hx hb dJ0_checkIndex_df160_8 rfl ?_
    cases h
    rw [← hQ]
    exact gx_vret F G hr hlocks dJ0_checkIndex_df160_9
def m_J1_charAt_3b067 (a1 : Nat) (a2 : Int32) (c : gm) : Option (Int32) :=
  gc (a1 < 18) (gb (m_J0_checkIndex_df160 a2 (nI (gsn a1))) (fun (_ : Unit) => gc (0 ≤ a2.toInt ∧ a2.toInt < (gsn a1 : Nat)) (gc ((Int32.toUInt32 ((Int32.toUInt32 ((gsb a1 a2.toNatClampNeg) &&& 255) % 65536).toInt32) % 65536).toInt32 = (Int32.toUInt32 ((gsb a1 a2.toNatClampNeg) &&& 255) % 65536).toInt32) (some ((Int32.toUInt32 ((gsb a1 a2.toNatClampNeg) &&& 255) % 65536).toInt32)))))
abbrev rmJ1_charAt_3b067 : Room := { frames := 2, cells := 0, slots := 0, locals := 43 }
set_option maxHeartbeats 4000000 in
set_option maxRecDepth 100000 in
theorem c_J1_charAt_3b067 (l : Launch) (sa : gSa) (D : va_G) (ad : Nat → Nat) (cy : Nat → ClassId) (N sz : Nat) (hN : 55 ≤ N) (hI : gI ad N) (c d0 : gm) {a1 : Nat} {a2 : Int32} {rZ : Int32} (h : m_J1_charAt_3b067 a1 a2 c = some rZ) : Met l yJ1_charAt_3b067 wsJ1_charAt_3b067 rmJ1_charAt_3b067 (va_Pc [.ref (sa.2 a1), .int a2] (gP sa D ad cy N sz c d0)) (va_Qi (fun (z : Int32) (_ : Unit) => z = rZ) (fun _ U => gE D ad cy N c d0 U) (gA ad N sz)) 0 0 (gA ad N sz) := by
  refine Met.ofW (cc := cJ1_charAt_3b067) (maxL := 2) (ret := (some .char)) (by decide) rfl ?_
  intro p e s m args below meth cod s₁ B hml hv
  obtain ⟨rfl, hsz, hP, hK, hZ⟩ := hv
  have hx := B.exec
  have hb := B.bytes
  have hr := B.returns
  have hts := atoms_spec (ws := wsJ1_charAt_3b067) B.pre
  have hown : s.vm.findClass RJ1 = some m.cls := findClass_of_methodNamed B.named
  have hlocks := B.notSynchronized
  subst hsz
  have hl := lv_entry ([.ref (sa.2 a1), .int a2]) (n := 2) (Nat.le_of_ble_eq_true rfl)
  rw [lg_entry_eq]
  generalize (lg_sl ([.ref (sa.2 a1), .int a2]) ++ List.replicate (2 - (lg_sl ([.ref (sa.2 a1), .int a2])).length) Slot.unset).toArray = ls at hl ⊢
  have hl : lv_has ls 2 [(0, .ref (sa.2 a1)), (1, .int a2)] := hl
  generalize hargs : ([.ref (sa.2 a1), .int a2] : List Value).toArray = args at *
  generalize hAe : gA ad N s.heap.size = A
  have F : gF sa D ad cy N A p s m args cod cJ1_charAt_3b067 2 wsJ1_charAt_3b067 RJ1 := ⟨hx, hb, hml, hown, hts, hK, hI, by rw [← hAe]; exact gA_ad, by rw [← hAe]; exact gA_sz, by rw [← hAe]; exact hZ⟩
  have G : gW D ad cy N A s.heap c d0 s.heap [] := ⟨hP, va_S.rf⟩
  generalize hQ : MQ below (va_Qi (fun (z : Int32) (_ : Unit) => z = rZ) (fun _ U => gE D ad cy N c d0 U) A) args s 0 0 A = Q
  suffices hgen : ∀ (H : Heap) (locs : List Loc), gW D ad cy N A s.heap c d0 H locs → W p l e rmJ1_charAt_3b067 s m args below meth cod H locs 0 0 Q (F0 m 0 ls []) from hgen _ _ G
  clear G
  intro H locs G
  unfold m_J1_charAt_3b067 at h
  refine lv_iload_n hx hb dJ1_charAt_3b067_0 rfl (lv_at hl 1 rfl) ?_
  refine lv_aload_n hx hb dJ1_charAt_3b067_1 rfl (lv_at hl 0 rfl) ?_
  obtain ⟨hw1, h⟩ := gc_s h
  refine gx_slen F G hw1 dJ1_charAt_3b067_2 ?_
  obtain ⟨_, hc2, h⟩ := gb_s h
  refine gx_callv F G (va_runS (As := [.int a2, .int (nI (gsn a1))]) (rest := []) (gx_fix F) (c_J0_checkIndex_df160 l sa D ad cy N H.size hN hI c d0 hc2) (va_cwS 2 hts gJ1_charAt_3b067_J0_checkIndex_df160 rfl rfl rfl (by decide +kernel) ⟨by decide, by decide⟩) (gx_pre F G) rfl rfl hl.1 rfl (lv_room (Nat.le_of_ble_eq_true rfl)) dJ1_charAt_3b067_3 ⟨Nat.zero_le _, Nat.zero_le _⟩) (fun H locs G => ?_)
  refine lv_aload_n hx hb dJ1_charAt_3b067_6 rfl (lv_at hl 0 rfl) ?_
  refine lv_iload_n hx hb dJ1_charAt_3b067_7 rfl (lv_at hl 1 rfl) ?_
  obtain ⟨hi4, h⟩ := gc_s h
  refine gx_sb F G hw1 hi4 dJ1_charAt_3b067_8 ?_
  refine lv_sipush (v := 255) hx hb dJ1_charAt_3b067_9 (by decide) ?_
  refine lv_iand hx hb dJ1_charAt_3b067_12 ?_
  refine lv_i2c hx hb dJ1_charAt_3b067_13 rfl ?_
  obtain ⟨hz5, h⟩ := gc_s h
  cases h
  rw [← hQ]
  exact gx_zret F G hr hlocks (gnc hz5) dJ1_charAt_3b067_14
def m_J0_charAt_5068e (t : Nat) (a1 : Int32) (c : gm) : Option (Int32) :=
  gc (t < 18) (gb (m_J0_isLatin1_aae02 t c) (fun (r3 : Int32) => (if r3 = 0 then none else gb (m_J1_charAt_3b067 t a1 c) (fun (r6 : Int32) => gc ((Int32.toUInt32 r6 % 65536).toInt32 = r6) (some r6)))))
abbrev rmJ0_charAt_5068e : Room := { frames := 4, cells := 0, slots := 0, locals := 85 }
set_option maxHeartbeats 4000000 in
set_option maxRecDepth 100000 in
theorem c_J0_charAt_5068e (l : Launch) (sa : gSa) (D : va_G) (ad : Nat → Nat) (cy : Nat → ClassId) (N sz : Nat) (hN : 55 ≤ N) (hI : gI ad N) (c d0 : gm) {t : Nat} {a1 : Int32} {rZ : Int32} (h : m_J0_charAt_5068e t a1 c = some rZ) : Met l yJ0_charAt_5068e wsJ0_charAt_5068e rmJ0_charAt_5068e (va_Pc [.ref (sa.1 t), .int a1] (gP sa D ad cy N sz c d0)) (va_Qi (fun (z : Int32) (_ : Unit) => z = rZ) (fun _ U => gE D ad cy N c d0 U) (gA ad N sz)) 0 0 (gA ad N sz) := by
  refine Met.ofW (cc := cJ0_charAt_5068e) (maxL := 2) (ret := (some .char)) (by decide) rfl ?_
  intro p e s m args below meth cod s₁ B hml hv
  obtain ⟨rfl, hsz, hP, hK, hZ⟩ := hv
  have hx := B.exec
  have hb := B.bytes
  have hr := B.returns
  have hts := atoms_spec (ws := wsJ0_charAt_5068e) B.pre
  have hown : s.vm.findClass RJ0 = some m.cls := findClass_of_methodNamed B.named
  have hlocks := B.notSynchronized
  subst hsz
  have hl := lv_entry ([.ref (sa.1 t), .int a1]) (n := 2) (Nat.le_of_ble_eq_true rfl)
  rw [lg_entry_eq]
  generalize (lg_sl ([.ref (sa.1 t), .int a1]) ++ List.replicate (2 - (lg_sl ([.ref (sa.1 t), .int a1])).length) Slot.unset).toArray = ls at hl ⊢
  have hl : lv_has ls 2 [(0, .ref (sa.1 t)), (1, .int a1)] := hl
  generalize hargs : ([.ref (sa.1 t), .int a1] : List Value).toArray = args at *
  generalize hAe : gA ad N s.heap.size = A
  have F : gF sa D ad cy N A p s m args cod cJ0_charAt_5068e 2 wsJ0_charAt_5068e RJ0 := ⟨hx, hb, hml, hown, hts, hK, hI, by rw [← hAe]; exact gA_ad, by rw [← hAe]; exact gA_sz, by rw [← hAe]; exact hZ⟩
  have G : gW D ad cy N A s.heap c d0 s.heap [] := ⟨hP, va_S.rf⟩
  generalize hQ : MQ below (va_Qi (fun (z : Int32) (_ : Unit) => z = rZ) (fun _ U => gE D ad cy N c d0 U) A) args s 0 0 A = Q
  suffices hgen : ∀ (H : Heap) (locs : List Loc), gW D ad cy N A s.heap c d0 H locs → W p l e rmJ0_charAt_5068e s m args below meth cod H locs 0 0 Q (F0 m 0 ls []) from hgen _ _ G
  clear G
  intro H locs G
  unfold m_J0_charAt_5068e at h
  refine lv_aload_n hx hb dJ0_charAt_5068e_0 rfl (lv_at hl 0 rfl) ?_
  obtain ⟨hw1, h⟩ := gc_s h
  obtain ⟨r3, hc2, h⟩ := gb_s h
  refine gx_calli F G (va_runV (As := []) (rest := []) (gx_fix F) (c_J0_isLatin1_aae02 l sa D ad cy N H.size hN hI c d0 hc2) (cwV 0 hts gJ0_charAt_5068e_J0_isLatin1_aae02 rfl rfl rfl (by decide +kernel) ⟨by decide, by decide⟩) (gx_srec F G hw1) rfl rfl hl.1 rfl (lv_room (Nat.le_of_ble_eq_true rfl)) dJ0_charAt_5068e_1 ⟨Nat.zero_le _, Nat.zero_le _⟩) (fun H locs G => ?_)
  refine lv_if_eq (tgt := 16) hx hb dJ0_charAt_5068e_4 (by decide) (fun q4 => ?_) (fun q4 => ?_)
  · replace h := gt_s q4 h
    refine lv_aload_n hx hb dJ0_charAt_5068e_16 rfl (lv_at hl 0 rfl) ?_
    refine gx_sval F G hw1 (by decide +kernel) dJ0_charAt_5068e_17 ?_
    refine lv_iload_n hx hb dJ0_charAt_5068e_20 rfl (lv_at hl 1 rfl) ?_
    cases h
  · replace h := gf_s q4 h
    refine lv_aload_n hx hb dJ0_charAt_5068e_7 rfl (lv_at hl 0 rfl) ?_
    refine gx_sval F G hw1 (by decide +kernel) dJ0_charAt_5068e_8 ?_
    refine lv_iload_n hx hb dJ0_charAt_5068e_11 rfl (lv_at hl 1 rfl) ?_
    obtain ⟨r6, hc5, h⟩ := gb_s h
    refine gx_calli F G (va_runS (As := [.ref (sa.2 t), .int a1]) (rest := []) (gx_fix F) (c_J1_charAt_3b067 l sa D ad cy N H.size hN hI c d0 hc5) (va_cwS 2 hts gJ0_charAt_5068e_J1_charAt_3b067 rfl rfl rfl (by decide +kernel) ⟨by decide, by decide⟩) (gx_pre F G) rfl rfl hl.1 rfl (lv_room (Nat.le_of_ble_eq_true rfl)) dJ0_charAt_5068e_12 ⟨Nat.zero_le _, Nat.zero_le _⟩) (fun H locs G => ?_)
    obtain ⟨hz7, h⟩ := gc_s h
    cases h
    rw [← hQ]
    exact gx_zret F G hr hlocks (gnc hz7) dJ0_charAt_5068e_15
def m_X7_wordIs_L20 (t : Nat) (a1 : Nat) (c : gm) (y8 : Int32) : Option ((Int32) ⊕ ((Int32) ⊕ (Unit))) :=
  gb (m_J0_length_8abf5 a1 c) (fun (r10 : Int32) => (if r10 ≤ y8 then some (.inr (.inr ())) else gb (m_X7_byteAt t ((c.1 t 4) + y8) c) (fun (r13 : Int32) => gb (m_J0_charAt_5068e a1 y8 c) (fun (r15 : Int32) => (if r13 = r15 then gv (y8 + 1) (fun (x17 : Int32) => some (.inl x17)) else some (.inr (.inl 0)))))))
def m_X7_wordIs (n : Nat) (t : Nat) (a1 : Nat) (c : gm) : Option (Int32) :=
  gc (gck t = 7) (gc (a1 < 18) (gb (m_J0_length_8abf5 a1 c) (fun (r5 : Int32) => (if ((c.1 t 3) - (c.1 t 4)) = r5 then gb (gloop (fun (y8 : Int32) => m_X7_wordIs_L20 t a1 c y8) n 0) (gsm (fun (_ : Unit) => some 1)) else some 0))))
abbrev rmX7_wordIs : Room := { frames := 5, cells := 0, slots := 0, locals := 106 }
set_option maxHeartbeats 4000000 in
set_option maxRecDepth 100000 in
theorem c_X7_wordIs (l : Launch) (sa : gSa) (D : va_G) (ad : Nat → Nat) (cy : Nat → ClassId) (N sz : Nat) (hN : 55 ≤ N) (hI : gI ad N) (c d0 : gm) {n : Nat} {t : Nat} {a1 : Nat} {rZ : Int32} (h : m_X7_wordIs n t a1 c = some rZ) : Met l yX7_wordIs wsX7_wordIs rmX7_wordIs (va_Pc [.ref (ad t), .ref (sa.1 a1)] (gP sa D ad cy N sz c d0)) (va_Qi (fun (z : Int32) (_ : Unit) => z = rZ) (fun _ U => gE D ad cy N c d0 U) (gA ad N sz)) 0 0 (gA ad N sz) := by
  refine Met.ofW (cc := cX7_wordIs) (maxL := 3) (ret := (some .boolean)) (by decide) rfl ?_
  intro p e s m args below meth cod s₁ B hml hv
  obtain ⟨rfl, hsz, hP, hK, hZ⟩ := hv
  have hx := B.exec
  have hb := B.bytes
  have hr := B.returns
  have hts := atoms_spec (ws := wsX7_wordIs) B.pre
  have hown : s.vm.findClass RX7 = some m.cls := findClass_of_methodNamed B.named
  have hlocks := B.notSynchronized
  subst hsz
  have hl := lv_entry ([.ref (ad t), .ref (sa.1 a1)]) (n := 3) (Nat.le_of_ble_eq_true rfl)
  rw [lg_entry_eq]
  generalize (lg_sl ([.ref (ad t), .ref (sa.1 a1)]) ++ List.replicate (3 - (lg_sl ([.ref (ad t), .ref (sa.1 a1)])).length) Slot.unset).toArray = ls at hl ⊢
  have hl : lv_has ls 3 [(0, .ref (ad t)), (1, .ref (sa.1 a1))] := hl
  have in7 : ∀ w ∈ wsX70, w ∈ wsX7_wordIs := by decide +kernel
  generalize hargs : ([.ref (ad t), .ref (sa.1 a1)] : List Value).toArray = args at *
  generalize hAe : gA ad N s.heap.size = A
  have F : gF sa D ad cy N A p s m args cod cX7_wordIs 3 wsX7_wordIs RX7 := ⟨hx, hb, hml, hown, hts, hK, hI, by rw [← hAe]; exact gA_ad, by rw [← hAe]; exact gA_sz, by rw [← hAe]; exact hZ⟩
  have G : gW D ad cy N A s.heap c d0 s.heap [] := ⟨hP, va_S.rf⟩
  generalize hQ : MQ below (va_Qi (fun (z : Int32) (_ : Unit) => z = rZ) (fun _ U => gE D ad cy N c d0 U) A) args s 0 0 A = Q
  suffices hgen : ∀ (H : Heap) (locs : List Loc), gW D ad cy N A s.heap c d0 H locs → W p l e rmX7_wordIs s m args below meth cod H locs 0 0 Q (F0 m 0 ls []) from hgen _ _ G
  clear G
  intro H locs G
  unfold m_X7_wordIs at h
  refine lv_aload_n hx hb dX7_wordIs_0 rfl (lv_at hl 0 rfl) ?_
  obtain ⟨hk1, h⟩ := gc_s h
  have ht2 : t < N := Nat.lt_of_lt_of_le (gck_lt7 hk1) hN
  refine fg_7_at F G hk1 ht2 in7 (by decide +kernel) dX7_wordIs_1 ?_
  refine lv_aload_n hx hb dX7_wordIs_4 rfl (lv_at hl 0 rfl) ?_
  refine fg_7_mark F G hk1 ht2 in7 (by decide +kernel) dX7_wordIs_5 ?_
  refine lv_isub hx hb dX7_wordIs_8 ?_
  refine lv_aload_n hx hb dX7_wordIs_9 rfl (lv_at hl 1 rfl) ?_
  obtain ⟨hw3, h⟩ := gc_s h
  obtain ⟨r5, hc4, h⟩ := gb_s h
  refine gx_calli F G (va_runV (As := []) (rest := [.int ((c.1 t 3) - (c.1 t 4))]) (gx_fix F) (c_J0_length_8abf5 l sa D ad cy N H.size hN hI c d0 hc4) (cwV 0 hts gX7_wordIs_J0_length_8abf5 rfl rfl rfl (by decide +kernel) ⟨by decide, by decide⟩) (gx_srec F G hw3) rfl rfl hl.1 rfl (lv_room (Nat.le_of_ble_eq_true rfl)) dX7_wordIs_10 ⟨Nat.zero_le _, Nat.zero_le _⟩) (fun H locs G => ?_)
  refine lv_icmp_eq (tgt := 18) hx hb dX7_wordIs_13 (by decide) (fun q6 => ?_) (fun q6 => ?_)
  · replace h := gt_s q6 h
    refine lv_iconst (v := 0) hx hb dX7_wordIs_18 (by decide) ?_
    refine lv_istore_n (lv' := [(2, .int 0), (0, .ref (ad t)), (1, .ref (sa.1 a1))]) hx hb dX7_wordIs_19 rfl hl (by decide) rfl (fun ls hl => ?_)
    obtain ⟨b7, hb7, hK7⟩ := gb_s h
    have E7 : ∀ (H : Heap) (locs : List Loc) (ls : Array Slot), (Sum.inr () : (Int32) ⊕ (Unit)) = b7 → gW D ad cy N A s.heap c d0 H locs → lv_has ls 3 [] → W p l e rmX7_wordIs s m args below meth cod H locs 0 0 Q (F0 m 54 ls []) := by
      intro  H locs ls hq7 G hl
      subst hq7
      replace hK7 := gsm_r hK7
      have h := hK7
      refine lv_iconst (v := 1) hx hb dX7_wordIs_54 (by decide) ?_
      cases h
      rw [← hQ]
      exact gx_zret F G hr hlocks rfl dX7_wordIs_55
    have L7 : ∀ (n9 : Nat) (y8 : Int32) (H : Heap) (locs : List Loc) (ls : Array Slot), gloop (fun (y8 : Int32) => m_X7_wordIs_L20 t a1 c y8) n9 y8 = some b7 → gW D ad cy N A s.heap c d0 H locs → lv_has ls 3 [(0, .ref (ad t)), (1, .ref (sa.1 a1)), (2, .int y8)] → W p l e rmX7_wordIs s m args below meth cod H locs 0 0 Q (F0 m 20 ls []) := by
      intro n9
      induction n9 with
      | zero => intro y8 H locs ls h; exact (gloop_0 h).elim
      | succ n9 ih =>
        intro y8 H locs ls h G hl
        have ih7 := ih
        obtain ⟨o7, h, hn7⟩ := gloop_s h
        unfold m_X7_wordIs_L20 at h
        refine lv_iload_n hx hb dX7_wordIs_20 rfl (lv_at hl 2 rfl) ?_
        refine lv_aload_n hx hb dX7_wordIs_21 rfl (lv_at hl 1 rfl) ?_
        obtain ⟨r10, hc9, h⟩ := gb_s h
        refine gx_calli F G (va_runV (As := []) (rest := [.int y8]) (gx_fix F) (c_J0_length_8abf5 l sa D ad cy N H.size hN hI c d0 hc9) (cwV 0 hts gX7_wordIs_J0_length_8abf5 rfl rfl rfl (by decide +kernel) ⟨by decide, by decide⟩) (gx_srec F G hw3) rfl rfl hl.1 rfl (lv_room (Nat.le_of_ble_eq_true rfl)) dX7_wordIs_22 ⟨Nat.zero_le _, Nat.zero_le _⟩) (fun H locs G => ?_)
        refine lv_icmp_ge (tgt := 54) hx hb dX7_wordIs_25 (by decide) (fun q11 => ?_) (fun q11 => ?_)
        · replace h := gt_s q11 h
          cases h
          exact E7  _ _ _ (gnx_r hn7) G (lv_sub hl [] rfl)
        · replace h := gf_s q11 h
          refine lv_aload_n hx hb dX7_wordIs_28 rfl (lv_at hl 0 rfl) ?_
          refine lv_aload_n hx hb dX7_wordIs_29 rfl (lv_at hl 0 rfl) ?_
          refine fg_7_mark F G hk1 ht2 in7 (by decide +kernel) dX7_wordIs_30 ?_
          refine lv_iload_n hx hb dX7_wordIs_33 rfl (lv_at hl 2 rfl) ?_
          refine lv_iadd hx hb dX7_wordIs_34 ?_
          obtain ⟨r13, hc12, h⟩ := gb_s h
          refine gx_calli F G (va_runV (As := [.int ((c.1 t 4) + y8)]) (rest := []) (gx_fix F) (c_X7_byteAt l sa D ad cy N H.size hN hI c d0 hc12) (cwV 1 hts gX7_wordIs_X7_byteAt rfl rfl rfl (by decide +kernel) ⟨by decide, by decide⟩) (gx_rec F G ht2 (gwe_7 hk1) rfl) rfl rfl hl.1 rfl (lv_room (Nat.le_of_ble_eq_true rfl)) dX7_wordIs_35 ⟨Nat.zero_le _, Nat.zero_le _⟩) (fun H locs G => ?_)
          refine lv_aload_n hx hb dX7_wordIs_38 rfl (lv_at hl 1 rfl) ?_
          refine lv_iload_n hx hb dX7_wordIs_39 rfl (lv_at hl 2 rfl) ?_
          obtain ⟨r15, hc14, h⟩ := gb_s h
          refine gx_calli F G (va_runV (As := [.int y8]) (rest := [.int r13]) (gx_fix F) (c_J0_charAt_5068e l sa D ad cy N H.size hN hI c d0 hc14) (cwV 1 hts gX7_wordIs_J0_charAt_5068e rfl rfl rfl (by decide +kernel) ⟨by decide, by decide⟩) (gx_srec F G hw3) rfl rfl hl.1 rfl (lv_room (Nat.le_of_ble_eq_true rfl)) dX7_wordIs_40 ⟨Nat.zero_le _, Nat.zero_le _⟩) (fun H locs G => ?_)
          refine lv_icmp_eq (tgt := 48) hx hb dX7_wordIs_43 (by decide) (fun q16 => ?_) (fun q16 => ?_)
          · replace h := gt_s q16 h
            obtain ⟨x17, ex17⟩ : ∃ z : Int32, z = y8 + 1 := ⟨_, rfl⟩
            replace h := gv_s h x17 ex17
            refine lv_iinc (v := x17) (lv' := [(2, .int x17), (0, .ref (ad t)), (1, .ref (sa.1 a1))]) hx hb dX7_wordIs_48 hl (k := 2) rfl (by rw [ex17]; rfl) (by decide) rfl (fun ls hl => ?_)
            refine lv_goto (tgt := 20) hx hb dX7_wordIs_51 (by decide) ?_
            cases h
            exact ih7 _ _ _ _ hn7 G (lv_sub hl [1, 2, 0] rfl)
          · replace h := gf_s q16 h
            refine lv_iconst (v := 0) hx hb dX7_wordIs_46 (by decide) ?_
            cases h
            cases gnx_r hn7
            cases gsm_l hK7
            rw [← hQ]
            exact gx_zret F G hr hlocks rfl dX7_wordIs_47
    exact L7 n _ _ _ _ hb7 G (lv_sub hl [1, 2, 0] rfl)
  · replace h := gf_s q6 h
    refine lv_iconst (v := 0) hx hb dX7_wordIs_16 (by decide) ?_
    cases h
    rw [← hQ]
    exact gx_zret F G hr hlocks rfl dX7_wordIs_17
def m_X3_readPair (rs : (Nat → Nat → Nat → Int32 → gm → Option (Int32 × gm))) (n : Nat) (t : Nat) (a1 : Nat) (a2 : Int32) (a3 : Int32) (c : gm) : Option (Int32 × gm) :=
  (if a2 < 6 then gc (gck a1 = 7) (gb2 (m_X7_takeSign n a1 91 c) (fun (r5 : Int32) (c6 : gm) => gj (gu2 (fun (v7 : Int32) (c8 : gm) => (if v7 = 0 then gc (v7 = 0 ∨ v7 = 1) (some (v7, c8)) else gc (gck t = 3) (gb (m_X3_add t a3 0 c8) (fun (c16 : gm) => gc (v7 = 0 ∨ v7 = 1) (some (v7, c16))))))) (fun K9 => gj (fun (c18 : gm) => K9 (0, c18)) (fun K19 => (if r5 = 0 then K19 c6 else gc (gck t = 3) (gb2 (rs n t a1 (a2 + 1) c6) (fun (r24 : Int32) (c25 : gm) => (if r24 = 0 then K19 c25 else gb2 (m_X7_takeSign n a1 44 c25) (fun (r28 : Int32) (c29 : gm) => (if r28 = 0 then K19 c29 else gb2 (rs n t a1 (a2 + 1) c29) (fun (r32 : Int32) (c33 : gm) => (if r32 = 0 then K19 c33 else gb2 (m_X7_takeSign n a1 93 c33) (fun (r36 : Int32) (c37 : gm) => (if r36 = 0 then K19 c37 else K9 (1, c37))))))))))))))) else gc (gck a1 = 7) (gb2 (m_X7_fail a1 3 (c.1 a1 4) c) (fun (r42 : Int32) (c43 : gm) => gc (r42 = 0 ∨ r42 = 1) (some (r42, c43)))))
abbrev rmX3_readPair (dd : Nat) : Room := { frames := 4 * dd + 8, cells := 0, slots := 0, locals := 96 * dd + 172 }
set_option maxHeartbeats 4000000 in
set_option maxRecDepth 100000 in
theorem c_X3_readPair (l : Launch) (sa : gSa) (D : va_G) (ad : Nat → Nat) (cy : Nat → ClassId) (N sz : Nat) (hN : 55 ≤ N) (hI : gI ad N) (c d0 : gm) (rs : (Nat → Nat → Nat → Int32 → gm → Option (Int32 × gm))) (dd : Nat) (hrs : ∀ (sz : Nat) (c d0 : gm) {n : Nat} {t : Nat} {a1 : Nat} {a2 : Int32} {rZ : Int32} {cZ : gm}, rs n t a1 a2 c = some (rZ, cZ) → Met l yX3_readSum wsX3_readSum (rmX3_readSum dd) (va_Pc [.ref (ad t), .ref (ad a1), .int a2] (gP sa D ad cy N sz c d0)) (va_Qi (fun (z : Int32) (_ : Unit) => z = rZ) (fun _ U => gE D ad cy N cZ d0 U) (gA ad N sz)) 0 0 (gA ad N sz)) {n : Nat} {t : Nat} {a1 : Nat} {a2 : Int32} {a3 : Int32} {rZ : Int32} {cZ : gm} (h : m_X3_readPair rs n t a1 a2 a3 c = some (rZ, cZ)) : Met l yX3_readPair wsX3_readPair (rmX3_readPair dd) (va_Pc [.ref (ad t), .ref (ad a1), .int a2, .int a3] (gP sa D ad cy N sz c d0)) (va_Qi (fun (z : Int32) (_ : Unit) => z = rZ) (fun _ U => gE D ad cy N cZ d0 U) (gA ad N sz)) 0 0 (gA ad N sz) := by
  refine Met.ofW (cc := cX3_readPair) (maxL := 5) (ret := (some .boolean)) (by decide) rfl ?_
  intro p e s m args below meth cod s₁ B hml hv
  obtain ⟨rfl, hsz, hP, hK, hZ⟩ := hv
  have hx := B.exec
  have hb := B.bytes
  have hr := B.returns
  have hts := atoms_spec (ws := wsX3_readPair) B.pre
  have hown : s.vm.findClass RX3 = some m.cls := findClass_of_methodNamed B.named
  have hlocks := B.notSynchronized
  subst hsz
  have hl := lv_entry ([.ref (ad t), .ref (ad a1), .int a2, .int a3]) (n := 5) (Nat.le_of_ble_eq_true rfl)
  rw [lg_entry_eq]
  generalize (lg_sl ([.ref (ad t), .ref (ad a1), .int a2, .int a3]) ++ List.replicate (5 - (lg_sl ([.ref (ad t), .ref (ad a1), .int a2, .int a3])).length) Slot.unset).toArray = ls at hl ⊢
  have hl : lv_has ls 5 [(0, .ref (ad t)), (1, .ref (ad a1)), (2, .int a2), (3, .int a3)] := hl
  have in7 : ∀ w ∈ wsX70, w ∈ wsX3_readPair := by decide +kernel
  generalize hargs : ([.ref (ad t), .ref (ad a1), .int a2, .int a3] : List Value).toArray = args at *
  generalize hAe : gA ad N s.heap.size = A
  have F : gF sa D ad cy N A p s m args cod cX3_readPair 5 wsX3_readPair RX3 := ⟨hx, hb, hml, hown, hts, hK, hI, by rw [← hAe]; exact gA_ad, by rw [← hAe]; exact gA_sz, by rw [← hAe]; exact hZ⟩
  have G : gW D ad cy N A s.heap c d0 s.heap [] := ⟨hP, va_S.rf⟩
  generalize hQ : MQ below (va_Qi (fun (z : Int32) (_ : Unit) => z = rZ) (fun _ U => gE D ad cy N cZ d0 U) A) args s 0 0 A = Q
  suffices hgen : ∀ (H : Heap) (locs : List Loc), gW D ad cy N A s.heap c d0 H locs → W p l e (rmX3_readPair dd) s m args below meth cod H locs 0 0 Q (F0 m 0 ls []) from hgen _ _ G
  clear G
  intro H locs G
  unfold m_X3_readPair at h
  refine lv_iload_n hx hb dX3_readPair_0 rfl (lv_at hl 2 rfl) ?_
  refine lv_bipush (v := 6) hx hb dX3_readPair_1 (by decide) ?_
  refine lv_icmp_lt (tgt := 16) hx hb dX3_readPair_3 (by decide) (fun q1 => ?_) (fun q1 => ?_)
  · replace h := gt_s q1 h
    refine lv_aload_n hx hb dX3_readPair_16 rfl (lv_at hl 1 rfl) ?_
    refine lv_bipush (v := 91) hx hb dX3_readPair_17 (by decide) ?_
    obtain ⟨hk2, h⟩ := gc_s h
    have ht3 : a1 < N := Nat.lt_of_lt_of_le (gck_lt7 hk2) hN
    obtain ⟨r5, c6, hc4, h⟩ := gb2_s h
    refine gx_calli F G (va_runV (As := [.int 91]) (rest := []) (gx_fix F) (c_X7_takeSign l sa D ad cy N H.size hN hI c d0 hc4) (cwV 1 hts gX3_readPair_X7_takeSign rfl rfl rfl (by decide +kernel) ⟨by simp only [rmX3_readPair, rmX7_takeSign]; omega, by simp only [rmX3_readPair, rmX7_takeSign]; omega⟩) (gx_rec F G ht3 (gwe_7 hk2) rfl) rfl rfl hl.1 rfl (lv_room (Nat.le_of_ble_eq_true rfl)) dX3_readPair_19 ⟨Nat.zero_le _, Nat.zero_le _⟩) (fun H locs G => ?_)
    obtain ⟨K9, eK9, h⟩ := gj_s h
    have JK9 : ∀ (v7 : Int32) (c8 : gm) (H : Heap) (locs : List Loc) (ls : Array Slot), K9 (v7, c8) = some (rZ, cZ) → gW D ad cy N A s.heap c8 d0 H locs → lv_has ls 5 [(0, .ref (ad t)), (3, .int a3)] → W p l e (rmX3_readPair dd) s m args below meth cod H locs 0 0 Q (F0 m 70 ls [.int v7]) := by
      intro v7 c8 H locs ls h G hl
      rw [eK9] at h
      replace h := gu2_s h
      refine lv_istore (lv' := [(4, .int v7), (0, .ref (ad t)), (3, .int a3)]) hx hb dX3_readPair_70 hl (by decide) rfl (fun ls hl => ?_)
      refine lv_iload hx hb dX3_readPair_72 (lv_at hl 0 rfl) ?_
      refine lv_if_eq (tgt := 83) hx hb dX3_readPair_74 (by decide) (fun q10 => ?_) (fun q10 => ?_)
      · replace h := gt_s q10 h
        refine lv_iload hx hb dX3_readPair_83 (lv_at hl 0 rfl) ?_
        obtain ⟨hz11, h⟩ := gc_s h
        cases h
        rw [← hQ]
        exact gx_zret F G hr hlocks (gnb hz11) dX3_readPair_85
      · replace h := gf_s q10 h
        refine lv_aload_n hx hb dX3_readPair_77 rfl (lv_at hl 1 rfl) ?_
        refine lv_iload_n hx hb dX3_readPair_78 rfl (lv_at hl 2 rfl) ?_
        refine lv_iconst (v := 0) hx hb dX3_readPair_79 (by decide) ?_
        obtain ⟨hk12, h⟩ := gc_s h
        have ht13 : t < N := Nat.lt_of_lt_of_le (gck_lt3 hk12) hN
        obtain ⟨c16, hc14, h⟩ := gb_s h
        refine gx_callv F G (va_runV (As := [.int a3, .int 0]) (rest := []) (gx_fix F) (c_X3_add l sa D ad cy N H.size hN hI c8 d0 hc14) (cwV 2 hts gX3_readPair_X3_add rfl rfl rfl (by decide +kernel) ⟨by simp only [rmX3_readPair, rmX3_add]; omega, by simp only [rmX3_readPair, rmX3_add]; omega⟩) (gx_rec F G ht13 (gwe_3 hk12) rfl) rfl rfl hl.1 rfl (lv_room (Nat.le_of_ble_eq_true rfl)) dX3_readPair_80 ⟨Nat.zero_le _, Nat.zero_le _⟩) (fun H locs G => ?_)
        refine lv_iload hx hb dX3_readPair_83 (lv_at hl 0 rfl) ?_
        obtain ⟨hz17, h⟩ := gc_s h
        cases h
        rw [← hQ]
        exact gx_zret F G hr hlocks (gnb hz17) dX3_readPair_85
    obtain ⟨K19, eK19, h⟩ := gj_s h
    have JK19 : ∀ (c18 : gm) (H : Heap) (locs : List Loc) (ls : Array Slot), K19 c18 = some (rZ, cZ) → gW D ad cy N A s.heap c18 d0 H locs → lv_has ls 5 [(0, .ref (ad t)), (3, .int a3)] → W p l e (rmX3_readPair dd) s m args below meth cod H locs 0 0 Q (F0 m 69 ls []) := by
      intro c18 H locs ls h G hl
      rw [eK19] at h
      refine lv_iconst (v := 0) hx hb dX3_readPair_69 (by decide) ?_
      exact JK9 _ _ _ _ _ h G hl
    refine lv_if_eq (tgt := 69) hx hb dX3_readPair_22 (by decide) (fun q20 => ?_) (fun q20 => ?_)
    · replace h := gt_s q20 h
      exact JK19 _ _ _ _ h G (lv_sub hl [0, 3] rfl)
    · replace h := gf_s q20 h
      refine lv_aload_n hx hb dX3_readPair_25 rfl (lv_at hl 0 rfl) ?_
      refine lv_aload_n hx hb dX3_readPair_26 rfl (lv_at hl 1 rfl) ?_
      refine lv_iload_n hx hb dX3_readPair_27 rfl (lv_at hl 2 rfl) ?_
      refine lv_iconst (v := 1) hx hb dX3_readPair_28 (by decide) ?_
      refine lv_iadd hx hb dX3_readPair_29 ?_
      obtain ⟨hk21, h⟩ := gc_s h
      have ht22 : t < N := Nat.lt_of_lt_of_le (gck_lt3 hk21) hN
      obtain ⟨r24, c25, hc23, h⟩ := gb2_s h
      refine gx_calli F G (va_runV (As := [.ref (ad a1), .int (a2 + 1)]) (rest := []) (gx_fix F) (hrs H.size c6 d0 hc23) (cwV 2 hts gX3_readPair_X3_readSum rfl rfl rfl (by decide +kernel) ⟨by simp only [rmX3_readPair, rmX3_readSum]; omega, by simp only [rmX3_readPair, rmX3_readSum]; omega⟩) (gx_rec F G ht22 (gwe_3 hk21) rfl) rfl rfl hl.1 rfl (lv_room (Nat.le_of_ble_eq_true rfl)) dX3_readPair_30 ⟨Nat.zero_le _, Nat.zero_le _⟩) (fun H locs G => ?_)
      refine lv_if_eq (tgt := 69) hx hb dX3_readPair_33 (by decide) (fun q26 => ?_) (fun q26 => ?_)
      · replace h := gt_s q26 h
        exact JK19 _ _ _ _ h G (lv_sub hl [0, 3] rfl)
      · replace h := gf_s q26 h
        refine lv_aload_n hx hb dX3_readPair_36 rfl (lv_at hl 1 rfl) ?_
        refine lv_bipush (v := 44) hx hb dX3_readPair_37 (by decide) ?_
        obtain ⟨r28, c29, hc27, h⟩ := gb2_s h
        refine gx_calli F G (va_runV (As := [.int 44]) (rest := []) (gx_fix F) (c_X7_takeSign l sa D ad cy N H.size hN hI c25 d0 hc27) (cwV 1 hts gX3_readPair_X7_takeSign rfl rfl rfl (by decide +kernel) ⟨by simp only [rmX3_readPair, rmX7_takeSign]; omega, by simp only [rmX3_readPair, rmX7_takeSign]; omega⟩) (gx_rec F G ht3 (gwe_7 hk2) rfl) rfl rfl hl.1 rfl (lv_room (Nat.le_of_ble_eq_true rfl)) dX3_readPair_39 ⟨Nat.zero_le _, Nat.zero_le _⟩) (fun H locs G => ?_)
        refine lv_if_eq (tgt := 69) hx hb dX3_readPair_42 (by decide) (fun q30 => ?_) (fun q30 => ?_)
        · replace h := gt_s q30 h
          exact JK19 _ _ _ _ h G (lv_sub hl [0, 3] rfl)
        · replace h := gf_s q30 h
          refine lv_aload_n hx hb dX3_readPair_45 rfl (lv_at hl 0 rfl) ?_
          refine lv_aload_n hx hb dX3_readPair_46 rfl (lv_at hl 1 rfl) ?_
          refine lv_iload_n hx hb dX3_readPair_47 rfl (lv_at hl 2 rfl) ?_
          refine lv_iconst (v := 1) hx hb dX3_readPair_48 (by decide) ?_
          refine lv_iadd hx hb dX3_readPair_49 ?_
          obtain ⟨r32, c33, hc31, h⟩ := gb2_s h
          refine gx_calli F G (va_runV (As := [.ref (ad a1), .int (a2 + 1)]) (rest := []) (gx_fix F) (hrs H.size c29 d0 hc31) (cwV 2 hts gX3_readPair_X3_readSum rfl rfl rfl (by decide +kernel) ⟨by simp only [rmX3_readPair, rmX3_readSum]; omega, by simp only [rmX3_readPair, rmX3_readSum]; omega⟩) (gx_rec F G ht22 (gwe_3 hk21) rfl) rfl rfl hl.1 rfl (lv_room (Nat.le_of_ble_eq_true rfl)) dX3_readPair_50 ⟨Nat.zero_le _, Nat.zero_le _⟩) (fun H locs G => ?_)
          refine lv_if_eq (tgt := 69) hx hb dX3_readPair_53 (by decide) (fun q34 => ?_) (fun q34 => ?_)
          · replace h := gt_s q34 h
            exact JK19 _ _ _ _ h G (lv_sub hl [0, 3] rfl)
          · replace h := gf_s q34 h
            refine lv_aload_n hx hb dX3_readPair_56 rfl (lv_at hl 1 rfl) ?_
            refine lv_bipush (v := 93) hx hb dX3_readPair_57 (by decide) ?_
            obtain ⟨r36, c37, hc35, h⟩ := gb2_s h
            refine gx_calli F G (va_runV (As := [.int 93]) (rest := []) (gx_fix F) (c_X7_takeSign l sa D ad cy N H.size hN hI c33 d0 hc35) (cwV 1 hts gX3_readPair_X7_takeSign rfl rfl rfl (by decide +kernel) ⟨by simp only [rmX3_readPair, rmX7_takeSign]; omega, by simp only [rmX3_readPair, rmX7_takeSign]; omega⟩) (gx_rec F G ht3 (gwe_7 hk2) rfl) rfl rfl hl.1 rfl (lv_room (Nat.le_of_ble_eq_true rfl)) dX3_readPair_59 ⟨Nat.zero_le _, Nat.zero_le _⟩) (fun H locs G => ?_)
            refine lv_if_eq (tgt := 69) hx hb dX3_readPair_62 (by decide) (fun q38 => ?_) (fun q38 => ?_)
            · replace h := gt_s q38 h
              exact JK19 _ _ _ _ h G (lv_sub hl [0, 3] rfl)
            · replace h := gf_s q38 h
              refine lv_iconst (v := 1) hx hb dX3_readPair_65 (by decide) ?_
              refine lv_goto (tgt := 70) hx hb dX3_readPair_66 (by decide) ?_
              exact JK9 _ _ _ _ _ h G (lv_sub hl [0, 3] rfl)
  · replace h := gf_s q1 h
    refine lv_aload_n hx hb dX3_readPair_6 rfl (lv_at hl 1 rfl) ?_
    refine lv_iconst (v := 3) hx hb dX3_readPair_7 (by decide) ?_
    refine lv_aload_n hx hb dX3_readPair_8 rfl (lv_at hl 1 rfl) ?_
    obtain ⟨hk39, h⟩ := gc_s h
    have ht40 : a1 < N := Nat.lt_of_lt_of_le (gck_lt7 hk39) hN
    refine fg_7_mark F G hk39 ht40 in7 (by decide +kernel) dX3_readPair_9 ?_
    obtain ⟨r42, c43, hc41, h⟩ := gb2_s h
    refine gx_calli F G (va_runV (As := [.int 3, .int (c.1 a1 4)]) (rest := []) (gx_fix F) (c_X7_fail l sa D ad cy N H.size hN hI c d0 hc41) (cwV 2 hts gX3_readPair_X7_fail rfl rfl rfl (by decide +kernel) ⟨by simp only [rmX3_readPair, rmX7_fail]; omega, by simp only [rmX3_readPair, rmX7_fail]; omega⟩) (gx_rec F G ht40 (gwe_7 hk39) rfl) rfl rfl hl.1 rfl (lv_room (Nat.le_of_ble_eq_true rfl)) dX3_readPair_12 ⟨Nat.zero_le _, Nat.zero_le _⟩) (fun H locs G => ?_)
    obtain ⟨hz44, h⟩ := gc_s h
    cases h
    rw [← hQ]
    exact gx_zret F G hr hlocks (gnb hz44) dX3_readPair_15
def m_X3_nameOf (n : Nat) (a1 : Nat) (c : gm) : Option (Int32) :=
  gc (gck a1 = 7) (gb (m_X7_wordIs n a1 0 c) (fun (r4 : Int32) => (if r4 = 0 then gb (m_X7_wordIs n a1 1 c) (fun (r7 : Int32) => (if r7 = 0 then gb (m_X7_wordIs n a1 2 c) (fun (r10 : Int32) => (if r10 = 0 then gb (m_X7_wordIs n a1 3 c) (fun (r13 : Int32) => (if r13 = 0 then gb (m_X7_wordIs n a1 4 c) (fun (r16 : Int32) => (if r16 = 0 then gb (m_X7_wordIs n a1 5 c) (fun (r19 : Int32) => (if r19 = 0 then gb (m_X7_wordIs n a1 6 c) (fun (r22 : Int32) => (if r22 = 0 then some (-1) else some 6)) else some 5)) else some 4)) else some 3)) else some 2)) else some 1)) else some 0)))
abbrev rmX3_nameOf : Room := { frames := 6, cells := 0, slots := 0, locals := 128 }
set_option maxHeartbeats 4000000 in
set_option maxRecDepth 100000 in
theorem c_X3_nameOf (l : Launch) (sa : gSa) (D : va_G) (ad : Nat → Nat) (cy : Nat → ClassId) (N sz : Nat) (hN : 55 ≤ N) (hI : gI ad N) (c d0 : gm) {n : Nat} {a1 : Nat} {rZ : Int32} (h : m_X3_nameOf n a1 c = some rZ) : Met l yX3_nameOf wsX3_nameOf rmX3_nameOf (va_Pc [.ref (ad a1)] (gP sa D ad cy N sz c d0)) (va_Qi (fun (z : Int32) (_ : Unit) => z = rZ) (fun _ U => gE D ad cy N c d0 U) (gA ad N sz)) 0 0 (gA ad N sz) := by
  refine Met.ofW (cc := cX3_nameOf) (maxL := 1) (ret := (some .int)) (by decide) rfl ?_
  intro p e s m args below meth cod s₁ B hml hv
  obtain ⟨rfl, hsz, hP, hK, hZ⟩ := hv
  have hx := B.exec
  have hb := B.bytes
  have hr := B.returns
  have hts := atoms_spec (ws := wsX3_nameOf) B.pre
  have hown : s.vm.findClass RX3 = some m.cls := findClass_of_methodNamed B.named
  have hlocks := B.notSynchronized
  subst hsz
  have hl := lv_entry ([.ref (ad a1)]) (n := 1) (Nat.le_of_ble_eq_true rfl)
  rw [lg_entry_eq]
  generalize (lg_sl ([.ref (ad a1)]) ++ List.replicate (1 - (lg_sl ([.ref (ad a1)])).length) Slot.unset).toArray = ls at hl ⊢
  have hl : lv_has ls 1 [(0, .ref (ad a1))] := hl
  generalize hargs : ([.ref (ad a1)] : List Value).toArray = args at *
  generalize hAe : gA ad N s.heap.size = A
  have F : gF sa D ad cy N A p s m args cod cX3_nameOf 1 wsX3_nameOf RX3 := ⟨hx, hb, hml, hown, hts, hK, hI, by rw [← hAe]; exact gA_ad, by rw [← hAe]; exact gA_sz, by rw [← hAe]; exact hZ⟩
  have G : gW D ad cy N A s.heap c d0 s.heap [] := ⟨hP, va_S.rf⟩
  generalize hQ : MQ below (va_Qi (fun (z : Int32) (_ : Unit) => z = rZ) (fun _ U => gE D ad cy N c d0 U) A) args s 0 0 A = Q
  suffices hgen : ∀ (H : Heap) (locs : List Loc), gW D ad cy N A s.heap c d0 H locs → W p l e rmX3_nameOf s m args below meth cod H locs 0 0 Q (F0 m 0 ls []) from hgen _ _ G
  clear G
  intro H locs G
  unfold m_X3_nameOf at h
  refine lv_aload_n hx hb dX3_nameOf_0 rfl (lv_at hl 0 rfl) ?_
  refine gx_ldcS F (w := 0) (tx := "weight") (by decide) dX3_nameOf_1 ?_
  obtain ⟨hk1, h⟩ := gc_s h
  have ht2 : a1 < N := Nat.lt_of_lt_of_le (gck_lt7 hk1) hN
  obtain ⟨r4, hc3, h⟩ := gb_s h
  refine gx_calli F G (va_runV (As := [.ref (sa.1 0)]) (rest := []) (gx_fix F) (c_X7_wordIs l sa D ad cy N H.size hN hI c d0 hc3) (cwV 1 hts gX3_nameOf_X7_wordIs rfl rfl rfl (by decide +kernel) ⟨by decide, by decide⟩) (gx_rec F G ht2 (gwe_7 hk1) rfl) rfl rfl hl.1 rfl (lv_room (Nat.le_of_ble_eq_true rfl)) dX3_nameOf_3 ⟨Nat.zero_le _, Nat.zero_le _⟩) (fun H locs G => ?_)
  refine lv_if_eq (tgt := 13) hx hb dX3_nameOf_6 (by decide) (fun q5 => ?_) (fun q5 => ?_)
  · replace h := gt_s q5 h
    refine lv_aload_n hx hb dX3_nameOf_13 rfl (lv_at hl 0 rfl) ?_
    refine gx_ldcS F (w := 1) (tx := "weighed") (by decide) dX3_nameOf_14 ?_
    obtain ⟨r7, hc6, h⟩ := gb_s h
    refine gx_calli F G (va_runV (As := [.ref (sa.1 1)]) (rest := []) (gx_fix F) (c_X7_wordIs l sa D ad cy N H.size hN hI c d0 hc6) (cwV 1 hts gX3_nameOf_X7_wordIs rfl rfl rfl (by decide +kernel) ⟨by decide, by decide⟩) (gx_rec F G ht2 (gwe_7 hk1) rfl) rfl rfl hl.1 rfl (lv_room (Nat.le_of_ble_eq_true rfl)) dX3_nameOf_16 ⟨Nat.zero_le _, Nat.zero_le _⟩) (fun H locs G => ?_)
    refine lv_if_eq (tgt := 26) hx hb dX3_nameOf_19 (by decide) (fun q8 => ?_) (fun q8 => ?_)
    · replace h := gt_s q8 h
      refine lv_aload_n hx hb dX3_nameOf_26 rfl (lv_at hl 0 rfl) ?_
      refine gx_ldcS F (w := 2) (tx := "cried") (by decide) dX3_nameOf_27 ?_
      obtain ⟨r10, hc9, h⟩ := gb_s h
      refine gx_calli F G (va_runV (As := [.ref (sa.1 2)]) (rest := []) (gx_fix F) (c_X7_wordIs l sa D ad cy N H.size hN hI c d0 hc9) (cwV 1 hts gX3_nameOf_X7_wordIs rfl rfl rfl (by decide +kernel) ⟨by decide, by decide⟩) (gx_rec F G ht2 (gwe_7 hk1) rfl) rfl rfl hl.1 rfl (lv_room (Nat.le_of_ble_eq_true rfl)) dX3_nameOf_29 ⟨Nat.zero_le _, Nat.zero_le _⟩) (fun H locs G => ?_)
      refine lv_if_eq (tgt := 39) hx hb dX3_nameOf_32 (by decide) (fun q11 => ?_) (fun q11 => ?_)
      · replace h := gt_s q11 h
        refine lv_aload_n hx hb dX3_nameOf_39 rfl (lv_at hl 0 rfl) ?_
        refine gx_ldcS F (w := 3) (tx := "thing") (by decide) dX3_nameOf_40 ?_
        obtain ⟨r13, hc12, h⟩ := gb_s h
        refine gx_calli F G (va_runV (As := [.ref (sa.1 3)]) (rest := []) (gx_fix F) (c_X7_wordIs l sa D ad cy N H.size hN hI c d0 hc12) (cwV 1 hts gX3_nameOf_X7_wordIs rfl rfl rfl (by decide +kernel) ⟨by decide, by decide⟩) (gx_rec F G ht2 (gwe_7 hk1) rfl) rfl rfl hl.1 rfl (lv_room (Nat.le_of_ble_eq_true rfl)) dX3_nameOf_42 ⟨Nat.zero_le _, Nat.zero_le _⟩) (fun H locs G => ?_)
        refine lv_if_eq (tgt := 52) hx hb dX3_nameOf_45 (by decide) (fun q14 => ?_) (fun q14 => ?_)
        · replace h := gt_s q14 h
          refine lv_aload_n hx hb dX3_nameOf_52 rfl (lv_at hl 0 rfl) ?_
          refine gx_ldcS F (w := 4) (tx := "day") (by decide) dX3_nameOf_53 ?_
          obtain ⟨r16, hc15, h⟩ := gb_s h
          refine gx_calli F G (va_runV (As := [.ref (sa.1 4)]) (rest := []) (gx_fix F) (c_X7_wordIs l sa D ad cy N H.size hN hI c d0 hc15) (cwV 1 hts gX3_nameOf_X7_wordIs rfl rfl rfl (by decide +kernel) ⟨by decide, by decide⟩) (gx_rec F G ht2 (gwe_7 hk1) rfl) rfl rfl hl.1 rfl (lv_room (Nat.le_of_ble_eq_true rfl)) dX3_nameOf_55 ⟨Nat.zero_le _, Nat.zero_le _⟩) (fun H locs G => ?_)
          refine lv_if_eq (tgt := 65) hx hb dX3_nameOf_58 (by decide) (fun q17 => ?_) (fun q17 => ?_)
          · replace h := gt_s q17 h
            refine lv_aload_n hx hb dX3_nameOf_65 rfl (lv_at hl 0 rfl) ?_
            refine gx_ldcS F (w := 5) (tx := "lean") (by decide) dX3_nameOf_66 ?_
            obtain ⟨r19, hc18, h⟩ := gb_s h
            refine gx_calli F G (va_runV (As := [.ref (sa.1 5)]) (rest := []) (gx_fix F) (c_X7_wordIs l sa D ad cy N H.size hN hI c d0 hc18) (cwV 1 hts gX3_nameOf_X7_wordIs rfl rfl rfl (by decide +kernel) ⟨by decide, by decide⟩) (gx_rec F G ht2 (gwe_7 hk1) rfl) rfl rfl hl.1 rfl (lv_room (Nat.le_of_ble_eq_true rfl)) dX3_nameOf_68 ⟨Nat.zero_le _, Nat.zero_le _⟩) (fun H locs G => ?_)
            refine lv_if_eq (tgt := 78) hx hb dX3_nameOf_71 (by decide) (fun q20 => ?_) (fun q20 => ?_)
            · replace h := gt_s q20 h
              refine lv_aload_n hx hb dX3_nameOf_78 rfl (lv_at hl 0 rfl) ?_
              refine gx_ldcS F (w := 6) (tx := "play") (by decide) dX3_nameOf_79 ?_
              obtain ⟨r22, hc21, h⟩ := gb_s h
              refine gx_calli F G (va_runV (As := [.ref (sa.1 6)]) (rest := []) (gx_fix F) (c_X7_wordIs l sa D ad cy N H.size hN hI c d0 hc21) (cwV 1 hts gX3_nameOf_X7_wordIs rfl rfl rfl (by decide +kernel) ⟨by decide, by decide⟩) (gx_rec F G ht2 (gwe_7 hk1) rfl) rfl rfl hl.1 rfl (lv_room (Nat.le_of_ble_eq_true rfl)) dX3_nameOf_81 ⟨Nat.zero_le _, Nat.zero_le _⟩) (fun H locs G => ?_)
              refine lv_if_eq (tgt := 92) hx hb dX3_nameOf_84 (by decide) (fun q23 => ?_) (fun q23 => ?_)
              · replace h := gt_s q23 h
                refine lv_iconst (v := (-1)) hx hb dX3_nameOf_92 (by decide) ?_
                cases h
                rw [← hQ]
                exact gx_iret F G hr hlocks dX3_nameOf_93
              · replace h := gf_s q23 h
                refine lv_bipush (v := 6) hx hb dX3_nameOf_87 (by decide) ?_
                refine lv_goto (tgt := 93) hx hb dX3_nameOf_89 (by decide) ?_
                cases h
                rw [← hQ]
                exact gx_iret F G hr hlocks dX3_nameOf_93
            · replace h := gf_s q20 h
              refine lv_iconst (v := 5) hx hb dX3_nameOf_74 (by decide) ?_
              refine lv_goto (tgt := 93) hx hb dX3_nameOf_75 (by decide) ?_
              cases h
              rw [← hQ]
              exact gx_iret F G hr hlocks dX3_nameOf_93
          · replace h := gf_s q17 h
            refine lv_iconst (v := 4) hx hb dX3_nameOf_61 (by decide) ?_
            refine lv_goto (tgt := 93) hx hb dX3_nameOf_62 (by decide) ?_
            cases h
            rw [← hQ]
            exact gx_iret F G hr hlocks dX3_nameOf_93
        · replace h := gf_s q14 h
          refine lv_iconst (v := 3) hx hb dX3_nameOf_48 (by decide) ?_
          refine lv_goto (tgt := 93) hx hb dX3_nameOf_49 (by decide) ?_
          cases h
          rw [← hQ]
          exact gx_iret F G hr hlocks dX3_nameOf_93
      · replace h := gf_s q11 h
        refine lv_iconst (v := 2) hx hb dX3_nameOf_35 (by decide) ?_
        refine lv_goto (tgt := 93) hx hb dX3_nameOf_36 (by decide) ?_
        cases h
        rw [← hQ]
        exact gx_iret F G hr hlocks dX3_nameOf_93
    · replace h := gf_s q8 h
      refine lv_iconst (v := 1) hx hb dX3_nameOf_22 (by decide) ?_
      refine lv_goto (tgt := 93) hx hb dX3_nameOf_23 (by decide) ?_
      cases h
      rw [← hQ]
      exact gx_iret F G hr hlocks dX3_nameOf_93
  · replace h := gf_s q5 h
    refine lv_iconst (v := 0) hx hb dX3_nameOf_9 (by decide) ?_
    refine lv_goto (tgt := 93) hx hb dX3_nameOf_10 (by decide) ?_
    cases h
    rw [← hQ]
    exact gx_iret F G hr hlocks dX3_nameOf_93
