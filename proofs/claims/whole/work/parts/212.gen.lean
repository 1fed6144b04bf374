-- X10_stepHere X10_readsStep X10_book X10_fault X10_wearBy X10_ones X10_criesOf X10_wearOf X10_standsBy X10_standsIn X10_isCry X10_cries X10_weighs
def m_X10_stepHere (n : Nat) (t : Nat) (c : gm) : Option (Int32 × gm) :=
  gc (gck t = 10) (gb2 (m_X10_isWord n t 23 5 9 7 8 0 c) (fun (r4 : Int32) (c5 : gm) => (if r4 = 0 then gb2 (m_X10_isWord n t 20 9 16 0 0 0 c5) (fun (r8 : Int32) (c9 : gm) => (if r8 = 0 then gb2 (m_X10_isWord n t 6 5 5 4 0 0 c9) (fun (r12 : Int32) (c13 : gm) => (if r12 = 0 then gb2 (m_X10_isWord n t 20 21 18 14 0 0 c13) (fun (r16 : Int32) (c17 : gm) => (if r16 = 0 then gb2 (m_X10_isWord n t 4 1 25 0 0 0 c17) (fun (r20 : Int32) (c21 : gm) => (if r20 = 0 then gb2 (m_X10_isWord n t 1 7 1 9 14 0 c21) (fun (r24 : Int32) (c25 : gm) => (if r24 = 0 then some ((-1), c25) else some (5, c25))) else some (4, c21))) else some (3, c17))) else some (2, c13))) else some (1, c9))) else some (0, c5))))
abbrev rmX10_stepHere : Room := { frames := 4, cells := 0, slots := 0, locals := 89 }
set_option maxHeartbeats 4000000 in
set_option maxRecDepth 100000 in
theorem c_X10_stepHere (l : Launch) (sa : gSa) (D : va_G) (ad : Nat → Nat) (cy : Nat → ClassId) (N sz : Nat) (hN : 530 ≤ N) (hI : gI ad N) (c0 c : gm) {n : Nat} {t : Nat} {rZ : Int32} {cZ : gm} (h : m_X10_stepHere n t c = some (rZ, cZ)) : Met l yX10_stepHere wsX10_stepHere rmX10_stepHere (va_Pc [.ref (ad t)] (gP sa D ad cy N sz c0 c)) (va_Qi (fun (z : Int32) (_ : Unit) => z = rZ) (fun _ U => gE D ad cy N c0 cZ U) (gA ad N sz)) 0 0 (gA ad N sz) := by
  refine Met.ofW (cc := cX10_stepHere) (maxL := 1) (ret := (some .int)) (by decide) rfl ?_
  intro p e s m args below meth cod s₁ B hml hv
  obtain ⟨rfl, hsz, hP, hK, hZ⟩ := hv
  have hx := B.exec
  have hb := B.bytes
  have hr := B.returns
  have hts := atoms_spec (ws := wsX10_stepHere) B.pre
  have hown : s.vm.findClass RX10 = some m.cls := findClass_of_methodNamed B.named
  have hlocks := B.notSynchronized
  subst hsz
  have hl := lv_entry ([.ref (ad t)]) (n := 1) (Nat.le_of_ble_eq_true rfl)
  rw [lg_entry_eq]
  generalize (lg_sl ([.ref (ad t)]) ++ List.replicate (1 - (lg_sl ([.ref (ad t)])).length) Slot.unset).toArray = ls at hl ⊢
  have hl : lv_has ls 1 [(0, .ref (ad t))] := hl
  generalize hargs : ([.ref (ad t)] : List Value).toArray = args at *
  generalize hAe : gA ad N s.heap.size = A
  have F : gF sa D ad cy N A p s m args cod cX10_stepHere 1 wsX10_stepHere RX10 := ⟨hx, hb, hml, hown, hts, hK, hI, by rw [← hAe]; exact gA_ad, by rw [← hAe]; exact gA_sz, by rw [← hAe]; exact hZ⟩
  have G : gW D ad cy N A s.heap c0 c s.heap [] := ⟨hP, va_S.rf⟩
  generalize hQ : MQ below (va_Qi (fun (z : Int32) (_ : Unit) => z = rZ) (fun _ U => gE D ad cy N c0 cZ U) A) args s 0 0 A = Q
  suffices hgen : ∀ (H : Heap) (locs : List Loc), gW D ad cy N A s.heap c0 c H locs → W p l e rmX10_stepHere s m args below meth cod H locs 0 0 Q (F0 m 0 ls []) from hgen _ _ G
  clear G
  intro H locs G
  unfold m_X10_stepHere at h
  refine lv_aload_n hx hb dX10_stepHere_0 rfl (lv_at hl 0 rfl) ?_
  refine lv_bipush (v := 23) hx hb dX10_stepHere_1 (by decide) ?_
  refine lv_iconst (v := 5) hx hb dX10_stepHere_3 (by decide) ?_
  refine lv_bipush (v := 9) hx hb dX10_stepHere_4 (by decide) ?_
  refine lv_bipush (v := 7) hx hb dX10_stepHere_6 (by decide) ?_
  refine lv_bipush (v := 8) hx hb dX10_stepHere_8 (by decide) ?_
  refine lv_iconst (v := 0) hx hb dX10_stepHere_10 (by decide) ?_
  obtain ⟨hk1, h⟩ := gc_s h
  have ht2 : t < N := Nat.lt_of_lt_of_le (gck_lt10 hk1) hN
  obtain ⟨r4, c5, hc3, h⟩ := gb2_s h
  refine gx_calli F G (va_runV (As := [.int 23, .int 5, .int 9, .int 7, .int 8, .int 0]) (rest := []) (gx_fix F) (c_X10_isWord l sa D ad cy N H.size hN hI c0 c hc3) (cwV 6 hts gX10_stepHere_X10_isWord rfl rfl rfl (by decide +kernel) ⟨by decide, by decide⟩) (gx_rec F G ht2 (gwe_10 hk1) rfl) rfl rfl hl.1 rfl (lv_room (Nat.le_of_ble_eq_true rfl)) dX10_stepHere_11 ⟨Nat.zero_le _, Nat.zero_le _⟩) (fun H locs G => ?_)
  refine lv_if_eq (tgt := 19) hx hb dX10_stepHere_14 (by decide) (fun q6 => ?_) (fun q6 => ?_)
  · replace h := gt_s q6 h
    refine lv_aload_n hx hb dX10_stepHere_19 rfl (lv_at hl 0 rfl) ?_
    refine lv_bipush (v := 20) hx hb dX10_stepHere_20 (by decide) ?_
    refine lv_bipush (v := 9) hx hb dX10_stepHere_22 (by decide) ?_
    refine lv_bipush (v := 16) hx hb dX10_stepHere_24 (by decide) ?_
    refine lv_iconst (v := 0) hx hb dX10_stepHere_26 (by decide) ?_
    refine lv_iconst (v := 0) hx hb dX10_stepHere_27 (by decide) ?_
    refine lv_iconst (v := 0) hx hb dX10_stepHere_28 (by decide) ?_
    obtain ⟨r8, c9, hc7, h⟩ := gb2_s h
    refine gx_calli F G (va_runV (As := [.int 20, .int 9, .int 16, .int 0, .int 0, .int 0]) (rest := []) (gx_fix F) (c_X10_isWord l sa D ad cy N H.size hN hI c0 c5 hc7) (cwV 6 hts gX10_stepHere_X10_isWord rfl rfl rfl (by decide +kernel) ⟨by decide, by decide⟩) (gx_rec F G ht2 (gwe_10 hk1) rfl) rfl rfl hl.1 rfl (lv_room (Nat.le_of_ble_eq_true rfl)) dX10_stepHere_29 ⟨Nat.zero_le _, Nat.zero_le _⟩) (fun H locs G => ?_)
    refine lv_if_eq (tgt := 37) hx hb dX10_stepHere_32 (by decide) (fun q10 => ?_) (fun q10 => ?_)
    · replace h := gt_s q10 h
      refine lv_aload_n hx hb dX10_stepHere_37 rfl (lv_at hl 0 rfl) ?_
      refine lv_bipush (v := 6) hx hb dX10_stepHere_38 (by decide) ?_
      refine lv_iconst (v := 5) hx hb dX10_stepHere_40 (by decide) ?_
      refine lv_iconst (v := 5) hx hb dX10_stepHere_41 (by decide) ?_
      refine lv_iconst (v := 4) hx hb dX10_stepHere_42 (by decide) ?_
      refine lv_iconst (v := 0) hx hb dX10_stepHere_43 (by decide) ?_
      refine lv_iconst (v := 0) hx hb dX10_stepHere_44 (by decide) ?_
      obtain ⟨r12, c13, hc11, h⟩ := gb2_s h
      refine gx_calli F G (va_runV (As := [.int 6, .int 5, .int 5, .int 4, .int 0, .int 0]) (rest := []) (gx_fix F) (c_X10_isWord l sa D ad cy N H.size hN hI c0 c9 hc11) (cwV 6 hts gX10_stepHere_X10_isWord rfl rfl rfl (by decide +kernel) ⟨by decide, by decide⟩) (gx_rec F G ht2 (gwe_10 hk1) rfl) rfl rfl hl.1 rfl (lv_room (Nat.le_of_ble_eq_true rfl)) dX10_stepHere_45 ⟨Nat.zero_le _, Nat.zero_le _⟩) (fun H locs G => ?_)
      refine lv_if_eq (tgt := 53) hx hb dX10_stepHere_48 (by decide) (fun q14 => ?_) (fun q14 => ?_)
      · replace h := gt_s q14 h
        refine lv_aload_n hx hb dX10_stepHere_53 rfl (lv_at hl 0 rfl) ?_
        refine lv_bipush (v := 20) hx hb dX10_stepHere_54 (by decide) ?_
        refine lv_bipush (v := 21) hx hb dX10_stepHere_56 (by decide) ?_
        refine lv_bipush (v := 18) hx hb dX10_stepHere_58 (by decide) ?_
        refine lv_bipush (v := 14) hx hb dX10_stepHere_60 (by decide) ?_
        refine lv_iconst (v := 0) hx hb dX10_stepHere_62 (by decide) ?_
        refine lv_iconst (v := 0) hx hb dX10_stepHere_63 (by decide) ?_
        obtain ⟨r16, c17, hc15, h⟩ := gb2_s h
        refine gx_calli F G (va_runV (As := [.int 20, .int 21, .int 18, .int 14, .int 0, .int 0]) (rest := []) (gx_fix F) (c_X10_isWord l sa D ad cy N H.size hN hI c0 c13 hc15) (cwV 6 hts gX10_stepHere_X10_isWord rfl rfl rfl (by decide +kernel) ⟨by decide, by decide⟩) (gx_rec F G ht2 (gwe_10 hk1) rfl) rfl rfl hl.1 rfl (lv_room (Nat.le_of_ble_eq_true rfl)) dX10_stepHere_64 ⟨Nat.zero_le _, Nat.zero_le _⟩) (fun H locs G => ?_)
        refine lv_if_eq (tgt := 72) hx hb dX10_stepHere_67 (by decide) (fun q18 => ?_) (fun q18 => ?_)
        · replace h := gt_s q18 h
          refine lv_aload_n hx hb dX10_stepHere_72 rfl (lv_at hl 0 rfl) ?_
          refine lv_iconst (v := 4) hx hb dX10_stepHere_73 (by decide) ?_
          refine lv_iconst (v := 1) hx hb dX10_stepHere_74 (by decide) ?_
          refine lv_bipush (v := 25) hx hb dX10_stepHere_75 (by decide) ?_
          refine lv_iconst (v := 0) hx hb dX10_stepHere_77 (by decide) ?_
          refine lv_iconst (v := 0) hx hb dX10_stepHere_78 (by decide) ?_
          refine lv_iconst (v := 0) hx hb dX10_stepHere_79 (by decide) ?_
          obtain ⟨r20, c21, hc19, h⟩ := gb2_s h
          refine gx_calli F G (va_runV (As := [.int 4, .int 1, .int 25, .int 0, .int 0, .int 0]) (rest := []) (gx_fix F) (c_X10_isWord l sa D ad cy N H.size hN hI c0 c17 hc19) (cwV 6 hts gX10_stepHere_X10_isWord rfl rfl rfl (by decide +kernel) ⟨by decide, by decide⟩) (gx_rec F G ht2 (gwe_10 hk1) rfl) rfl rfl hl.1 rfl (lv_room (Nat.le_of_ble_eq_true rfl)) dX10_stepHere_80 ⟨Nat.zero_le _, Nat.zero_le _⟩) (fun H locs G => ?_)
          refine lv_if_eq (tgt := 88) hx hb dX10_stepHere_83 (by decide) (fun q22 => ?_) (fun q22 => ?_)
          · replace h := gt_s q22 h
            refine lv_aload_n hx hb dX10_stepHere_88 rfl (lv_at hl 0 rfl) ?_
            refine lv_iconst (v := 1) hx hb dX10_stepHere_89 (by decide) ?_
            refine lv_bipush (v := 7) hx hb dX10_stepHere_90 (by decide) ?_
            refine lv_iconst (v := 1) hx hb dX10_stepHere_92 (by decide) ?_
            refine lv_bipush (v := 9) hx hb dX10_stepHere_93 (by decide) ?_
            refine lv_bipush (v := 14) hx hb dX10_stepHere_95 (by decide) ?_
            refine lv_iconst (v := 0) hx hb dX10_stepHere_97 (by decide) ?_
            obtain ⟨r24, c25, hc23, h⟩ := gb2_s h
            refine gx_calli F G (va_runV (As := [.int 1, .int 7, .int 1, .int 9, .int 14, .int 0]) (rest := []) (gx_fix F) (c_X10_isWord l sa D ad cy N H.size hN hI c0 c21 hc23) (cwV 6 hts gX10_stepHere_X10_isWord rfl rfl rfl (by decide +kernel) ⟨by decide, by decide⟩) (gx_rec F G ht2 (gwe_10 hk1) rfl) rfl rfl hl.1 rfl (lv_room (Nat.le_of_ble_eq_true rfl)) dX10_stepHere_98 ⟨Nat.zero_le _, Nat.zero_le _⟩) (fun H locs G => ?_)
            refine lv_if_eq (tgt := 108) hx hb dX10_stepHere_101 (by decide) (fun q26 => ?_) (fun q26 => ?_)
            · replace h := gt_s q26 h
              refine lv_iconst (v := (-1)) hx hb dX10_stepHere_108 (by decide) ?_
              cases h
              rw [← hQ]
              exact gx_iret F G hr hlocks dX10_stepHere_109
            · replace h := gf_s q26 h
              refine lv_iconst (v := 5) hx hb dX10_stepHere_104 (by decide) ?_
              refine lv_goto (tgt := 109) hx hb dX10_stepHere_105 (by decide) ?_
              cases h
              rw [← hQ]
              exact gx_iret F G hr hlocks dX10_stepHere_109
          · replace h := gf_s q22 h
            refine lv_iconst (v := 4) hx hb dX10_stepHere_86 (by decide) ?_
            cases h
            rw [← hQ]
            exact gx_iret F G hr hlocks dX10_stepHere_87
        · replace h := gf_s q18 h
          refine lv_iconst (v := 3) hx hb dX10_stepHere_70 (by decide) ?_
          cases h
          rw [← hQ]
          exact gx_iret F G hr hlocks dX10_stepHere_71
      · replace h := gf_s q14 h
        refine lv_iconst (v := 2) hx hb dX10_stepHere_51 (by decide) ?_
        cases h
        rw [← hQ]
        exact gx_iret F G hr hlocks dX10_stepHere_52
    · replace h := gf_s q10 h
      refine lv_iconst (v := 1) hx hb dX10_stepHere_35 (by decide) ?_
      cases h
      rw [← hQ]
      exact gx_iret F G hr hlocks dX10_stepHere_36
  · replace h := gf_s q6 h
    refine lv_iconst (v := 0) hx hb dX10_stepHere_17 (by decide) ?_
    cases h
    rw [← hQ]
    exact gx_iret F G hr hlocks dX10_stepHere_18
def m_X10_readsStep_L182 (rs : (Nat → Nat → gm → Option (gm))) (n : Nat) (t : Nat) (c49 : gm) : Option ((gm) ⊕ (gm)) :=
  (if (c49.1 t 5) = 0 then gb (m_X10_byteAt t (c49.1 t 4) c49) (fun (r57 : Int32) => (if r57 = 93 then some (.inr c49) else gb (rs n t c49) (fun (c61 : gm) => gb (m_X10_blanks n t c61) (fun (c64 : gm) => some (.inl c64))))) else some (.inr c49))
def m_X10_readsStep_b (rs : (Nat → Nat → gm → Option (gm))) (n : Nat) (t : Nat) (c : gm) : Option (gm) :=
  gc (gck t = 10) (gb2 (m_X10_stepHere n t c) (fun (r4 : Int32) (c5 : gm) => gj (fun (c6 : gm) => gj (fun (c8 : gm) => (if (c8.1 t 5) = 0 then gb (m_X10_skipWord n t c8) (fun (c13 : gm) => gc (0 ≤ (c13.1 t 26).toInt ∧ (c13.1 t 26).toInt < 80) (gv (gm_r c13 t (upd (c13.1 t) 26 ((c13.1 t 26) + 1))) (fun (c18 : gm) => gc (gck (422 + 1 + (c13.1 t 26).toNatClampNeg) = 22) (gc (0 ≤ (0 : Int32).toInt ∧ (0 : Int32).toInt < ((gal (422 + 1 + (c13.1 t 26).toNatClampNeg)) : Nat)) (gv (gm_r c18 (422 + 1 + (c13.1 t 26).toNatClampNeg) (upd (c18.1 (422 + 1 + (c13.1 t 26).toNatClampNeg)) (0 : Int32).toNatClampNeg r4)) (fun (c22 : gm) => gj (fun (c23 : gm) => gj (fun (c25 : gm) => gj (fun (c27 : gm) => gj (fun (c29 : gm) => gc (0 ≤ (5 : Int32).toInt ∧ (5 : Int32).toInt < ((gal (422 + 1 + (c13.1 t 26).toNatClampNeg)) : Nat)) (gv (gm_r c29 (422 + 1 + (c13.1 t 26).toNatClampNeg) (upd (c29.1 (422 + 1 + (c13.1 t 26).toNatClampNeg)) (5 : Int32).toNatClampNeg (c29.1 t 26))) (fun (c32 : gm) => gb (m_X10_sign n t 59 c32) (fun (c35 : gm) => some c35)))) (fun K30 => (if r4 = 5 then gb2 (m_X10_number n t 0 60 c27) (fun (r38 : Int32) (c39 : gm) => gc (0 ≤ (1 : Int32).toInt ∧ (1 : Int32).toInt < ((gal (422 + 1 + (c13.1 t 26).toNatClampNeg)) : Nat)) (gv (gm_r c39 (422 + 1 + (c13.1 t 26).toNatClampNeg) (upd (c39.1 (422 + 1 + (c13.1 t 26).toNatClampNeg)) (1 : Int32).toNatClampNeg r38)) (fun (c41 : gm) => gb (m_X10_sign n t 91 c41) (fun (c44 : gm) => gb (m_X10_blanks n t c44) (fun (c47 : gm) => gb (gloop (fun (c49 : gm) => m_X10_readsStep_L182 rs n t c49) n c47) (fun (c50 : gm) => gb (m_X10_sign n t 93 c50) (fun (c53 : gm) => gv (gm_r c53 t (upd (c53.1 t) 8 ((c53.1 t 8) - 1))) (fun (c54 : gm) => K30 c54)))))))) else K30 c27))) (fun K28 => (if r4 = 1 then gb2 (m_X10_number n t 0 9 c25) (fun (r67 : Int32) (c68 : gm) => gc (0 ≤ (1 : Int32).toInt ∧ (1 : Int32).toInt < ((gal (422 + 1 + (c13.1 t 26).toNatClampNeg)) : Nat)) (gv (gm_r c68 (422 + 1 + (c13.1 t 26).toNatClampNeg) (upd (c68.1 (422 + 1 + (c13.1 t 26).toNatClampNeg)) (1 : Int32).toNatClampNeg r67)) (fun (c70 : gm) => K28 c70))) else K28 c25))) (fun K26 => (if r4 = 0 then gc (0 ≤ (1 : Int32).toInt ∧ (1 : Int32).toInt < ((gal (422 + 1 + (c13.1 t 26).toNatClampNeg)) : Nat)) (gb2 (m_X10_otherThing n t (c23.1 (422 + 1 + (c13.1 t 26).toNatClampNeg) (1 : Int32).toNatClampNeg) (c23.1 59 (0 : Int32).toNatClampNeg) c23) (fun (r78 : Int32) (c79 : gm) => gc (0 ≤ (3 : Int32).toInt ∧ (3 : Int32).toInt < ((gal (422 + 1 + (c13.1 t 26).toNatClampNeg)) : Nat)) (gv (gm_r c79 (422 + 1 + (c13.1 t 26).toNatClampNeg) (upd (c79.1 (422 + 1 + (c13.1 t 26).toNatClampNeg)) (3 : Int32).toNatClampNeg r78)) (fun (c81 : gm) => gb2 (m_X10_number n t 1 9 c81) (fun (r83 : Int32) (c84 : gm) => gc (0 ≤ (4 : Int32).toInt ∧ (4 : Int32).toInt < ((gal (422 + 1 + (c13.1 t 26).toNatClampNeg)) : Nat)) (gv (gm_r c84 (422 + 1 + (c13.1 t 26).toNatClampNeg) (upd (c84.1 (422 + 1 + (c13.1 t 26).toNatClampNeg)) (4 : Int32).toNatClampNeg r83)) (fun (c86 : gm) => K26 c86))))))) else K26 c23))) (fun K24 => gj (fun (_ : Unit) => gb2 (m_X10_number n t 0 ((c22.1 59 (0 : Int32).toNatClampNeg) - 1) c22) (fun (r93 : Int32) (c94 : gm) => gc (0 ≤ (1 : Int32).toInt ∧ (1 : Int32).toInt < ((gal (422 + 1 + (c13.1 t 26).toNatClampNeg)) : Nat)) (gv (gm_r c94 (422 + 1 + (c13.1 t 26).toNatClampNeg) (upd (c94.1 (422 + 1 + (c13.1 t 26).toNatClampNeg)) (1 : Int32).toNatClampNeg r93)) (fun (c96 : gm) => gj (fun (v97 : Int32) => gb2 (m_X10_number n t 1 v97 c96) (fun (r100 : Int32) (c101 : gm) => gc (0 ≤ (2 : Int32).toInt ∧ (2 : Int32).toInt < ((gal (422 + 1 + (c13.1 t 26).toNatClampNeg)) : Nat)) (gv (gm_r c101 (422 + 1 + (c13.1 t 26).toNatClampNeg) (upd (c101.1 (422 + 1 + (c13.1 t 26).toNatClampNeg)) (2 : Int32).toNatClampNeg r100)) (fun (c103 : gm) => K24 c103)))) (fun K98 => (if r4 = 0 then K98 9 else K98 30)))))) (fun K87 => (if r4 = 0 then K87 () else (if r4 = 2 then K87 () else K24 c22)))))))))) else some c8)) (fun K9 => (if r4 = 5 then gb2 (m_X10_opensOne t c6) (fun (r109 : Int32) (c110 : gm) => (if r109 = 0 then some c110 else K9 c110)) else K9 c6))) (fun K7 => (if r4 = (-1) then gb (m_X10_wrong t 1 (c5.1 t 4) c5) (fun (c115 : gm) => K7 c115) else K7 c5))))
abbrev rmX10_readsStep (dd : Nat) : Room := { frames := 1 * dd + 5, cells := 0, slots := 0, locals := 22 * dd + 109 }
set_option maxHeartbeats 4000000 in
set_option maxRecDepth 100000 in
theorem c_X10_readsStep_b (l : Launch) (sa : gSa) (D : va_G) (ad : Nat → Nat) (cy : Nat → ClassId) (N sz : Nat) (hN : 530 ≤ N) (hI : gI ad N) (c0 c : gm) (rs : (Nat → Nat → gm → Option (gm))) (dd : Nat) (hrs : ∀ (sz : Nat) (c0 c : gm) {n : Nat} {t : Nat} {cZ : gm}, rs n t c = some cZ → Met l yX10_readsStep wsX10_readsStep (rmX10_readsStep dd) (va_Pc [.ref (ad t)] (gP sa D ad cy N sz c0 c)) (va_Qv (fun (_ : Unit) => True) (fun _ U => gE D ad cy N c0 cZ U) (gA ad N sz)) 0 0 (gA ad N sz)) {n : Nat} {t : Nat} {cZ : gm} (h : m_X10_readsStep_b rs n t c = some cZ) : Met l yX10_readsStep wsX10_readsStep (rmX10_readsStep (dd + 1)) (va_Pc [.ref (ad t)] (gP sa D ad cy N sz c0 c)) (va_Qv (fun (_ : Unit) => True) (fun _ U => gE D ad cy N c0 cZ U) (gA ad N sz)) 0 0 (gA ad N sz) := by
  refine Met.ofW (cc := cX10_readsStep) (maxL := 3) (ret := none) (by decide) rfl ?_
  intro p e s m args below meth cod s₁ B hml hv
  obtain ⟨rfl, hsz, hP, hK, hZ⟩ := hv
  have hx := B.exec
  have hb := B.bytes
  have hr := B.returns
  have hts := atoms_spec (ws := wsX10_readsStep) B.pre
  have hown : s.vm.findClass RX10 = some m.cls := findClass_of_methodNamed B.named
  have hlocks := B.notSynchronized
  subst hsz
  have hl := lv_entry ([.ref (ad t)]) (n := 3) (Nat.le_of_ble_eq_true rfl)
  rw [lg_entry_eq]
  generalize (lg_sl ([.ref (ad t)]) ++ List.replicate (3 - (lg_sl ([.ref (ad t)])).length) Slot.unset).toArray = ls at hl ⊢
  have hl : lv_has ls 3 [(0, .ref (ad t))] := hl
  have in10 : ∀ w ∈ wsX100, w ∈ wsX10_readsStep := by decide +kernel
  generalize hargs : ([.ref (ad t)] : List Value).toArray = args at *
  generalize hAe : gA ad N s.heap.size = A
  have F : gF sa D ad cy N A p s m args cod cX10_readsStep 3 wsX10_readsStep RX10 := ⟨hx, hb, hml, hown, hts, hK, hI, by rw [← hAe]; exact gA_ad, by rw [← hAe]; exact gA_sz, by rw [← hAe]; exact hZ⟩
  have G : gW D ad cy N A s.heap c0 c s.heap [] := ⟨hP, va_S.rf⟩
  generalize hQ : MQ below (va_Qv (fun (_ : Unit) => True) (fun _ U => gE D ad cy N c0 cZ U) A) args s 0 0 A = Q
  suffices hgen : ∀ (H : Heap) (locs : List Loc), gW D ad cy N A s.heap c0 c H locs → W p l e (rmX10_readsStep (dd + 1)) s m args below meth cod H locs 0 0 Q (F0 m 0 ls []) from hgen _ _ G
  clear G
  intro H locs G
  unfold m_X10_readsStep_b at h
  refine lv_aload_n hx hb dX10_readsStep_0 rfl (lv_at hl 0 rfl) ?_
  obtain ⟨hk1, h⟩ := gc_s h
  have ht2 : t < N := Nat.lt_of_lt_of_le (gck_lt10 hk1) hN
  obtain ⟨r4, c5, hc3, h⟩ := gb2_s h
  refine gx_calli F G (va_runV (As := []) (rest := []) (gx_fix F) (c_X10_stepHere l sa D ad cy N H.size hN hI c0 c hc3) (cwV 0 hts gX10_readsStep_X10_stepHere rfl rfl rfl (by decide +kernel) ⟨by simp only [rmX10_readsStep, rmX10_stepHere]; omega, by simp only [rmX10_readsStep, rmX10_stepHere]; omega⟩) (gx_rec F G ht2 (gwe_10 hk1) rfl) rfl rfl hl.1 rfl (lv_room (Nat.le_of_ble_eq_true rfl)) dX10_readsStep_1 ⟨Nat.zero_le _, Nat.zero_le _⟩) (fun H locs G => ?_)
  refine lv_istore_n (lv' := [(1, .int r4), (0, .ref (ad t))]) hx hb dX10_readsStep_4 rfl hl (by decide) rfl (fun ls hl => ?_)
  refine lv_iload_n hx hb dX10_readsStep_5 rfl (lv_at hl 0 rfl) ?_
  refine lv_iconst (v := (-1)) hx hb dX10_readsStep_6 (by decide) ?_
  obtain ⟨K7, eK7, h⟩ := gj_s h
  have JK7 : ∀ (c6 : gm) (H : Heap) (locs : List Loc) (ls : Array Slot), K7 c6 = some cZ → gW D ad cy N A s.heap c0 c6 H locs → lv_has ls 3 [(0, .ref (ad t)), (1, .int r4)] → W p l e (rmX10_readsStep (dd + 1)) s m args below meth cod H locs 0 0 Q (F0 m 19 ls []) := by
    intro c6 H locs ls h G hl
    rw [eK7] at h
    refine lv_iload_n hx hb dX10_readsStep_19 rfl (lv_at hl 1 rfl) ?_
    refine lv_iconst (v := 5) hx hb dX10_readsStep_20 (by decide) ?_
    obtain ⟨K9, eK9, h⟩ := gj_s h
    have JK9 : ∀ (c8 : gm) (H : Heap) (locs : List Loc) (ls : Array Slot), K9 c8 = some cZ → gW D ad cy N A s.heap c0 c8 H locs → lv_has ls 3 [(0, .ref (ad t)), (1, .int r4)] → W p l e (rmX10_readsStep (dd + 1)) s m args below meth cod H locs 0 0 Q (F0 m 32 ls []) := by
      intro c8 H locs ls h G hl
      rw [eK9] at h
      refine lv_aload_n hx hb dX10_readsStep_32 rfl (lv_at hl 0 rfl) ?_
      refine fg_10_fault F G hk1 ht2 in10 (by decide +kernel) dX10_readsStep_33 ?_
      refine lv_if_eq (tgt := 40) hx hb dX10_readsStep_36 (by decide) (fun q10 => ?_) (fun q10 => ?_)
      · replace h := gt_s q10 h
        refine lv_aload_n hx hb dX10_readsStep_40 rfl (lv_at hl 0 rfl) ?_
        obtain ⟨c13, hc11, h⟩ := gb_s h
        refine gx_callv F G (va_runV (As := []) (rest := []) (gx_fix F) (c_X10_skipWord l sa D ad cy N H.size hN hI c0 c8 hc11) (cwV 0 hts gX10_readsStep_X10_skipWord rfl rfl rfl (by decide +kernel) ⟨by simp only [rmX10_readsStep, rmX10_skipWord]; omega, by simp only [rmX10_readsStep, rmX10_skipWord]; omega⟩) (gx_rec F G ht2 (gwe_10 hk1) rfl) rfl rfl hl.1 rfl (lv_room (Nat.le_of_ble_eq_true rfl)) dX10_readsStep_41 ⟨Nat.zero_le _, Nat.zero_le _⟩) (fun H locs G => ?_)
        refine lv_aload_n hx hb dX10_readsStep_44 rfl (lv_at hl 0 rfl) ?_
        refine fg_10_step F G hk1 ht2 in10 (by decide +kernel) dX10_readsStep_45 ?_
        have hk14 : gck 422 = 25 := rfl
        have ht15 : 422 < N := Nat.lt_of_lt_of_le (by decide) hN
        have hn16 : gal 422 = 80 := rfl
        refine lv_aload_n hx hb dX10_readsStep_48 rfl (lv_at hl 0 rfl) ?_
        refine fg_10_steps F G hk1 ht2 in10 (by decide +kernel) dX10_readsStep_49 ?_
        obtain ⟨hi17, h⟩ := gc_s h
        refine gx_mga F G hk14 ht15 hn16 hi17 dX10_readsStep_52 ?_
        refine lv_astore_n (lv' := [(2, .ref (ad (422 + 1 + (c13.1 t 26).toNatClampNeg))), (0, .ref (ad t)), (1, .int r4)]) hx hb dX10_readsStep_53 rfl hl (by decide) rfl (fun ls hl => ?_)
        refine lv_aload_n hx hb dX10_readsStep_54 rfl (lv_at hl 1 rfl) ?_
        refine lv_dup hx hb dX10_readsStep_55 rfl ?_
        refine fg_10_steps F G hk1 ht2 in10 (by decide +kernel) dX10_readsStep_56 ?_
        refine lv_iconst (v := 1) hx hb dX10_readsStep_59 (by decide) ?_
        refine lv_iadd hx hb dX10_readsStep_60 ?_
        refine fp_10_steps F G hk1 ht2 in10 (by decide +kernel) dX10_readsStep_61 (fun H locs G => ?_)
        obtain ⟨c18, ec18⟩ : ∃ z, z = gm_r c13 t (upd (c13.1 t) 26 ((c13.1 t 26) + 1)) := ⟨_, rfl⟩
        rw [← ec18] at G
        replace h := gv_s h c18 ec18
        refine lv_aload_n hx hb dX10_readsStep_64 rfl (lv_at hl 0 rfl) ?_
        refine lv_iconst (v := 0) hx hb dX10_readsStep_65 (by decide) ?_
        refine lv_iload_n hx hb dX10_readsStep_66 rfl (lv_at hl 2 rfl) ?_
        obtain ⟨hk19, h⟩ := gc_s h
        have ht20 : (422 + 1 + (c13.1 t 26).toNatClampNeg) < N := Nat.lt_of_lt_of_le (gck_lt22 hk19) hN
        obtain ⟨hi21, h⟩ := gc_s h
        refine gx_mis F G hk19 ht20 rfl hi21 dX10_readsStep_67 (fun H locs G => ?_)
        obtain ⟨c22, ec22⟩ : ∃ z, z = gm_r c18 (422 + 1 + (c13.1 t 26).toNatClampNeg) (upd (c18.1 (422 + 1 + (c13.1 t 26).toNatClampNeg)) (0 : Int32).toNatClampNeg r4) := ⟨_, rfl⟩
        rw [← ec22] at G
        replace h := gv_s h c22 ec22
        refine lv_iload_n hx hb dX10_readsStep_68 rfl (lv_at hl 2 rfl) ?_
        obtain ⟨K24, eK24, h⟩ := gj_s h
        have JK24 : ∀ (c23 : gm) (H : Heap) (locs : List Loc) (ls : Array Slot), K24 c23 = some cZ → gW D ad cy N A s.heap c0 c23 H locs → lv_has ls 3 [(0, .ref (ad t)), (1, .int r4), (2, .ref (ad (422 + 1 + (c13.1 t 26).toNatClampNeg)))] → W p l e (rmX10_readsStep (dd + 1)) s m args below meth cod H locs 0 0 Q (F0 m 112 ls []) := by
          intro c23 H locs ls h G hl
          rw [eK24] at h
          refine lv_iload_n hx hb dX10_readsStep_112 rfl (lv_at hl 1 rfl) ?_
          obtain ⟨K26, eK26, h⟩ := gj_s h
          have JK26 : ∀ (c25 : gm) (H : Heap) (locs : List Loc) (ls : Array Slot), K26 c25 = some cZ → gW D ad cy N A s.heap c0 c25 H locs → lv_has ls 3 [(0, .ref (ad t)), (1, .int r4), (2, .ref (ad (422 + 1 + (c13.1 t 26).toNatClampNeg)))] → W p l e (rmX10_readsStep (dd + 1)) s m args below meth cod H locs 0 0 Q (F0 m 142 ls []) := by
            intro c25 H locs ls h G hl
            rw [eK26] at h
            refine lv_iload_n hx hb dX10_readsStep_142 rfl (lv_at hl 1 rfl) ?_
            refine lv_iconst (v := 1) hx hb dX10_readsStep_143 (by decide) ?_
            obtain ⟨K28, eK28, h⟩ := gj_s h
            have JK28 : ∀ (c27 : gm) (H : Heap) (locs : List Loc) (ls : Array Slot), K28 c27 = some cZ → gW D ad cy N A s.heap c0 c27 H locs → lv_has ls 3 [(0, .ref (ad t)), (1, .int r4), (2, .ref (ad (422 + 1 + (c13.1 t 26).toNatClampNeg)))] → W p l e (rmX10_readsStep (dd + 1)) s m args below meth cod H locs 0 0 Q (F0 m 157 ls []) := by
              intro c27 H locs ls h G hl
              rw [eK28] at h
              refine lv_iload_n hx hb dX10_readsStep_157 rfl (lv_at hl 1 rfl) ?_
              refine lv_iconst (v := 5) hx hb dX10_readsStep_158 (by decide) ?_
              obtain ⟨K30, eK30, h⟩ := gj_s h
              have JK30 : ∀ (c29 : gm) (H : Heap) (locs : List Loc) (ls : Array Slot), K30 c29 = some cZ → gW D ad cy N A s.heap c0 c29 H locs → lv_has ls 3 [(0, .ref (ad t)), (2, .ref (ad (422 + 1 + (c13.1 t 26).toNatClampNeg)))] → W p l e (rmX10_readsStep (dd + 1)) s m args below meth cod H locs 0 0 Q (F0 m 229 ls []) := by
                intro c29 H locs ls h G hl
                rw [eK30] at h
                refine lv_aload_n hx hb dX10_readsStep_229 rfl (lv_at hl 1 rfl) ?_
                refine lv_iconst (v := 5) hx hb dX10_readsStep_230 (by decide) ?_
                refine lv_aload_n hx hb dX10_readsStep_231 rfl (lv_at hl 0 rfl) ?_
                refine fg_10_steps F G hk1 ht2 in10 (by decide +kernel) dX10_readsStep_232 ?_
                obtain ⟨hi31, h⟩ := gc_s h
                refine gx_mis F G hk19 ht20 rfl hi31 dX10_readsStep_235 (fun H locs G => ?_)
                obtain ⟨c32, ec32⟩ : ∃ z, z = gm_r c29 (422 + 1 + (c13.1 t 26).toNatClampNeg) (upd (c29.1 (422 + 1 + (c13.1 t 26).toNatClampNeg)) (5 : Int32).toNatClampNeg (c29.1 t 26)) := ⟨_, rfl⟩
                rw [← ec32] at G
                replace h := gv_s h c32 ec32
                refine lv_aload_n hx hb dX10_readsStep_236 rfl (lv_at hl 0 rfl) ?_
                refine lv_bipush (v := 59) hx hb dX10_readsStep_237 (by decide) ?_
                obtain ⟨c35, hc33, h⟩ := gb_s h
                refine gx_callv F G (va_runV (As := [.int 59]) (rest := []) (gx_fix F) (c_X10_sign l sa D ad cy N H.size hN hI c0 c32 hc33) (cwV 1 hts gX10_readsStep_X10_sign rfl rfl rfl (by decide +kernel) ⟨by simp only [rmX10_readsStep, rmX10_sign]; omega, by simp only [rmX10_readsStep, rmX10_sign]; omega⟩) (gx_rec F G ht2 (gwe_10 hk1) rfl) rfl rfl hl.1 rfl (lv_room (Nat.le_of_ble_eq_true rfl)) dX10_readsStep_239 ⟨Nat.zero_le _, Nat.zero_le _⟩) (fun H locs G => ?_)
                cases h
                rw [← hQ]
                exact gx_vret F G hr hlocks dX10_readsStep_242
              refine lv_icmp_ne (tgt := 229) hx hb dX10_readsStep_159 (by decide) (fun q36 => ?_) (fun q36 => ?_)
              · replace h := gf_s q36 h
                exact JK30 _ _ _ _ h G (lv_sub hl [0, 2] rfl)
              · replace h := gt_s q36 h
                refine lv_aload_n hx hb dX10_readsStep_162 rfl (lv_at hl 2 rfl) ?_
                refine lv_iconst (v := 1) hx hb dX10_readsStep_163 (by decide) ?_
                refine lv_aload_n hx hb dX10_readsStep_164 rfl (lv_at hl 0 rfl) ?_
                refine lv_iconst (v := 0) hx hb dX10_readsStep_165 (by decide) ?_
                refine lv_bipush (v := 60) hx hb dX10_readsStep_166 (by decide) ?_
                obtain ⟨r38, c39, hc37, h⟩ := gb2_s h
                refine gx_calli F G (va_runV (As := [.int 0, .int 60]) (rest := [.int 1, .ref (ad (422 + 1 + (c13.1 t 26).toNatClampNeg))]) (gx_fix F) (c_X10_number l sa D ad cy N H.size hN hI c0 c27 hc37) (cwV 2 hts gX10_readsStep_X10_number rfl rfl rfl (by decide +kernel) ⟨by simp only [rmX10_readsStep, rmX10_number]; omega, by simp only [rmX10_readsStep, rmX10_number]; omega⟩) (gx_rec F G ht2 (gwe_10 hk1) rfl) rfl rfl hl.1 rfl (lv_room (Nat.le_of_ble_eq_true rfl)) dX10_readsStep_168 ⟨Nat.zero_le _, Nat.zero_le _⟩) (fun H locs G => ?_)
                obtain ⟨hi40, h⟩ := gc_s h
                refine gx_mis F G hk19 ht20 rfl hi40 dX10_readsStep_171 (fun H locs G => ?_)
                obtain ⟨c41, ec41⟩ : ∃ z, z = gm_r c39 (422 + 1 + (c13.1 t 26).toNatClampNeg) (upd (c39.1 (422 + 1 + (c13.1 t 26).toNatClampNeg)) (1 : Int32).toNatClampNeg r38) := ⟨_, rfl⟩
                rw [← ec41] at G
                replace h := gv_s h c41 ec41
                refine lv_aload_n hx hb dX10_readsStep_172 rfl (lv_at hl 0 rfl) ?_
                refine lv_bipush (v := 91) hx hb dX10_readsStep_173 (by decide) ?_
                obtain ⟨c44, hc42, h⟩ := gb_s h
                refine gx_callv F G (va_runV (As := [.int 91]) (rest := []) (gx_fix F) (c_X10_sign l sa D ad cy N H.size hN hI c0 c41 hc42) (cwV 1 hts gX10_readsStep_X10_sign rfl rfl rfl (by decide +kernel) ⟨by simp only [rmX10_readsStep, rmX10_sign]; omega, by simp only [rmX10_readsStep, rmX10_sign]; omega⟩) (gx_rec F G ht2 (gwe_10 hk1) rfl) rfl rfl hl.1 rfl (lv_room (Nat.le_of_ble_eq_true rfl)) dX10_readsStep_175 ⟨Nat.zero_le _, Nat.zero_le _⟩) (fun H locs G => ?_)
                refine lv_aload_n hx hb dX10_readsStep_178 rfl (lv_at hl 0 rfl) ?_
                obtain ⟨c47, hc45, h⟩ := gb_s h
                refine gx_callv F G (va_runV (As := []) (rest := []) (gx_fix F) (c_X10_blanks l sa D ad cy N H.size hN hI c0 c44 hc45) (cwV 0 hts gX10_readsStep_X10_blanks rfl rfl rfl (by decide +kernel) ⟨by simp only [rmX10_readsStep, rmX10_blanks]; omega, by simp only [rmX10_readsStep, rmX10_blanks]; omega⟩) (gx_rec F G ht2 (gwe_10 hk1) rfl) rfl rfl hl.1 rfl (lv_room (Nat.le_of_ble_eq_true rfl)) dX10_readsStep_179 ⟨Nat.zero_le _, Nat.zero_le _⟩) (fun H locs G => ?_)
                obtain ⟨b48, hb48, hK48⟩ := gb_s h
                have E48 : ∀ (c50 : gm) (H : Heap) (locs : List Loc) (ls : Array Slot), (c50 : gm) = b48 → gW D ad cy N A s.heap c0 c50 H locs → lv_has ls 3 [(0, .ref (ad t)), (2, .ref (ad (422 + 1 + (c13.1 t 26).toNatClampNeg)))] → W p l e (rmX10_readsStep (dd + 1)) s m args below meth cod H locs 0 0 Q (F0 m 213 ls []) := by
                  intro c50 H locs ls hq48 G hl
                  subst hq48
                  replace hK48 := hK48
                  have h := hK48
                  refine lv_aload_n hx hb dX10_readsStep_213 rfl (lv_at hl 0 rfl) ?_
                  refine lv_bipush (v := 93) hx hb dX10_readsStep_214 (by decide) ?_
                  obtain ⟨c53, hc51, h⟩ := gb_s h
                  refine gx_callv F G (va_runV (As := [.int 93]) (rest := []) (gx_fix F) (c_X10_sign l sa D ad cy N H.size hN hI c0 c50 hc51) (cwV 1 hts gX10_readsStep_X10_sign rfl rfl rfl (by decide +kernel) ⟨by simp only [rmX10_readsStep, rmX10_sign]; omega, by simp only [rmX10_readsStep, rmX10_sign]; omega⟩) (gx_rec F G ht2 (gwe_10 hk1) rfl) rfl rfl hl.1 rfl (lv_room (Nat.le_of_ble_eq_true rfl)) dX10_readsStep_216 ⟨Nat.zero_le _, Nat.zero_le _⟩) (fun H locs G => ?_)
                  refine lv_aload_n hx hb dX10_readsStep_219 rfl (lv_at hl 0 rfl) ?_
                  refine lv_dup hx hb dX10_readsStep_220 rfl ?_
                  refine fg_10_open F G hk1 ht2 in10 (by decide +kernel) dX10_readsStep_221 ?_
                  refine lv_iconst (v := 1) hx hb dX10_readsStep_224 (by decide) ?_
                  refine lv_isub hx hb dX10_readsStep_225 ?_
                  refine fp_10_open F G hk1 ht2 in10 (by decide +kernel) dX10_readsStep_226 (fun H locs G => ?_)
                  obtain ⟨c54, ec54⟩ : ∃ z, z = gm_r c53 t (upd (c53.1 t) 8 ((c53.1 t 8) - 1)) := ⟨_, rfl⟩
                  rw [← ec54] at G
                  replace h := gv_s h c54 ec54
                  exact JK30 _ _ _ _ h G hl
                have L48 : ∀ (n9 : Nat) (c49 : gm) (H : Heap) (locs : List Loc) (ls : Array Slot), gloop (fun (c49 : gm) => m_X10_readsStep_L182 rs n t c49) n9 c49 = some b48 → gW D ad cy N A s.heap c0 c49 H locs → lv_has ls 3 [(0, .ref (ad t)), (2, .ref (ad (422 + 1 + (c13.1 t 26).toNatClampNeg)))] → W p l e (rmX10_readsStep (dd + 1)) s m args below meth cod H locs 0 0 Q (F0 m 182 ls []) := by
                  intro n9
                  induction n9 with
                  | zero => intro c49 H locs ls h; exact (gloop_0 h).elim
                  | succ n9 ih =>
                    intro c49 H locs ls h G hl
                    have ih48 := ih
                    obtain ⟨o48, h, hn48⟩ := gloop_s h
                    unfold m_X10_readsStep_L182 at h
                    refine lv_aload_n hx hb dX10_readsStep_182 rfl (lv_at hl 0 rfl) ?_
                    refine fg_10_fault F G hk1 ht2 in10 (by decide +kernel) dX10_readsStep_183 ?_
                    refine lv_if_ne (tgt := 213) hx hb dX10_readsStep_186 (by decide) (fun q55 => ?_) (fun q55 => ?_)
                    · replace h := gf_s q55 h
                      cases h
                      exact E48 _ _ _ _ (gnx_r hn48) G hl
                    · replace h := gt_s q55 h
                      refine lv_aload_n hx hb dX10_readsStep_189 rfl (lv_at hl 0 rfl) ?_
                      refine lv_aload_n hx hb dX10_readsStep_190 rfl (lv_at hl 0 rfl) ?_
                      refine fg_10_at F G hk1 ht2 in10 (by decide +kernel) dX10_readsStep_191 ?_
                      obtain ⟨r57, hc56, h⟩ := gb_s h
                      refine gx_calli F G (va_runV (As := [.int (c49.1 t 4)]) (rest := []) (gx_fix F) (c_X10_byteAt l sa D ad cy N H.size hN hI c0 c49 hc56) (cwV 1 hts gX10_readsStep_X10_byteAt rfl rfl rfl (by decide +kernel) ⟨by simp only [rmX10_readsStep, rmX10_byteAt]; omega, by simp only [rmX10_readsStep, rmX10_byteAt]; omega⟩) (gx_rec F G ht2 (gwe_10 hk1) rfl) rfl rfl hl.1 rfl (lv_room (Nat.le_of_ble_eq_true rfl)) dX10_readsStep_194 ⟨Nat.zero_le _, Nat.zero_le _⟩) (fun H locs G => ?_)
                      refine lv_bipush (v := 93) hx hb dX10_readsStep_197 (by decide) ?_
                      refine lv_icmp_eq (tgt := 213) hx hb dX10_readsStep_199 (by decide) (fun q58 => ?_) (fun q58 => ?_)
                      · replace h := gt_s q58 h
                        cases h
                        exact E48 _ _ _ _ (gnx_r hn48) G hl
                      · replace h := gf_s q58 h
                        refine lv_aload_n hx hb dX10_readsStep_202 rfl (lv_at hl 0 rfl) ?_
                        obtain ⟨c61, hc59, h⟩ := gb_s h
                        refine gx_callv F G (va_runV (As := []) (rest := []) (gx_fix F) (hrs H.size c0 c49 hc59) (cwV 0 hts gX10_readsStep_X10_readsStep rfl rfl rfl (by decide +kernel) ⟨by simp only [rmX10_readsStep]; omega, by simp only [rmX10_readsStep]; omega⟩) (gx_rec F G ht2 (gwe_10 hk1) rfl) rfl rfl hl.1 rfl (lv_room (Nat.le_of_ble_eq_true rfl)) dX10_readsStep_203 ⟨Nat.zero_le _, Nat.zero_le _⟩) (fun H locs G => ?_)
                        refine lv_aload_n hx hb dX10_readsStep_206 rfl (lv_at hl 0 rfl) ?_
                        obtain ⟨c64, hc62, h⟩ := gb_s h
                        refine gx_callv F G (va_runV (As := []) (rest := []) (gx_fix F) (c_X10_blanks l sa D ad cy N H.size hN hI c0 c61 hc62) (cwV 0 hts gX10_readsStep_X10_blanks rfl rfl rfl (by decide +kernel) ⟨by simp only [rmX10_readsStep, rmX10_blanks]; omega, by simp only [rmX10_readsStep, rmX10_blanks]; omega⟩) (gx_rec F G ht2 (gwe_10 hk1) rfl) rfl rfl hl.1 rfl (lv_room (Nat.le_of_ble_eq_true rfl)) dX10_readsStep_207 ⟨Nat.zero_le _, Nat.zero_le _⟩) (fun H locs G => ?_)
                        refine lv_goto (tgt := 182) hx hb dX10_readsStep_210 (by decide) ?_
                        cases h
                        exact ih48 _ _ _ _ hn48 G hl
                exact L48 n _ _ _ _ hb48 G (lv_sub hl [0, 2] rfl)
            refine lv_icmp_ne (tgt := 157) hx hb dX10_readsStep_144 (by decide) (fun q65 => ?_) (fun q65 => ?_)
            · replace h := gf_s q65 h
              exact JK28 _ _ _ _ h G hl
            · replace h := gt_s q65 h
              refine lv_aload_n hx hb dX10_readsStep_147 rfl (lv_at hl 2 rfl) ?_
              refine lv_iconst (v := 1) hx hb dX10_readsStep_148 (by decide) ?_
              refine lv_aload_n hx hb dX10_readsStep_149 rfl (lv_at hl 0 rfl) ?_
              refine lv_iconst (v := 0) hx hb dX10_readsStep_150 (by decide) ?_
              refine lv_bipush (v := 9) hx hb dX10_readsStep_151 (by decide) ?_
              obtain ⟨r67, c68, hc66, h⟩ := gb2_s h
              refine gx_calli F G (va_runV (As := [.int 0, .int 9]) (rest := [.int 1, .ref (ad (422 + 1 + (c13.1 t 26).toNatClampNeg))]) (gx_fix F) (c_X10_number l sa D ad cy N H.size hN hI c0 c25 hc66) (cwV 2 hts gX10_readsStep_X10_number rfl rfl rfl (by decide +kernel) ⟨by simp only [rmX10_readsStep, rmX10_number]; omega, by simp only [rmX10_readsStep, rmX10_number]; omega⟩) (gx_rec F G ht2 (gwe_10 hk1) rfl) rfl rfl hl.1 rfl (lv_room (Nat.le_of_ble_eq_true rfl)) dX10_readsStep_153 ⟨Nat.zero_le _, Nat.zero_le _⟩) (fun H locs G => ?_)
              obtain ⟨hi69, h⟩ := gc_s h
              refine gx_mis F G hk19 ht20 rfl hi69 dX10_readsStep_156 (fun H locs G => ?_)
              obtain ⟨c70, ec70⟩ : ∃ z, z = gm_r c68 (422 + 1 + (c13.1 t 26).toNatClampNeg) (upd (c68.1 (422 + 1 + (c13.1 t 26).toNatClampNeg)) (1 : Int32).toNatClampNeg r67) := ⟨_, rfl⟩
              rw [← ec70] at G
              replace h := gv_s h c70 ec70
              exact JK28 _ _ _ _ h G hl
          refine lv_if_ne (tgt := 142) hx hb dX10_readsStep_113 (by decide) (fun q71 => ?_) (fun q71 => ?_)
          · replace h := gf_s q71 h
            exact JK26 _ _ _ _ h G hl
          · replace h := gt_s q71 h
            refine lv_aload_n hx hb dX10_readsStep_116 rfl (lv_at hl 2 rfl) ?_
            refine lv_iconst (v := 3) hx hb dX10_readsStep_117 (by decide) ?_
            refine lv_aload_n hx hb dX10_readsStep_118 rfl (lv_at hl 0 rfl) ?_
            refine lv_aload_n hx hb dX10_readsStep_119 rfl (lv_at hl 2 rfl) ?_
            refine lv_iconst (v := 1) hx hb dX10_readsStep_120 (by decide) ?_
            obtain ⟨hi72, h⟩ := gc_s h
            refine gx_mia F G hk19 ht20 rfl hi72 dX10_readsStep_121 ?_
            refine lv_aload_n hx hb dX10_readsStep_122 rfl (lv_at hl 0 rfl) ?_
            refine fg_10_told F G hk1 ht2 in10 (by decide +kernel) dX10_readsStep_123 ?_
            have hk73 : gck 59 = 22 := rfl
            have ht74 : 59 < N := Nat.lt_of_lt_of_le (by decide) hN
            have hn75 : gal 59 = 4 := rfl
            refine lv_iconst (v := 0) hx hb dX10_readsStep_126 (by decide) ?_
            refine gx_mia F G hk73 ht74 hn75 (by decide) dX10_readsStep_127 ?_
            obtain ⟨r78, c79, hc77, h⟩ := gb2_s h
            refine gx_calli F G (va_runV (As := [.int (c23.1 (422 + 1 + (c13.1 t 26).toNatClampNeg) (1 : Int32).toNatClampNeg), .int (c23.1 59 (0 : Int32).toNatClampNeg)]) (rest := [.int 3, .ref (ad (422 + 1 + (c13.1 t 26).toNatClampNeg))]) (gx_fix F) (c_X10_otherThing l sa D ad cy N H.size hN hI c0 c23 hc77) (cwV 2 hts gX10_readsStep_X10_otherThing rfl rfl rfl (by decide +kernel) ⟨by simp only [rmX10_readsStep, rmX10_otherThing]; omega, by simp only [rmX10_readsStep, rmX10_otherThing]; omega⟩) (gx_rec F G ht2 (gwe_10 hk1) rfl) rfl rfl hl.1 rfl (lv_room (Nat.le_of_ble_eq_true rfl)) dX10_readsStep_128 ⟨Nat.zero_le _, Nat.zero_le _⟩) (fun H locs G => ?_)
            obtain ⟨hi80, h⟩ := gc_s h
            refine gx_mis F G hk19 ht20 rfl hi80 dX10_readsStep_131 (fun H locs G => ?_)
            obtain ⟨c81, ec81⟩ : ∃ z, z = gm_r c79 (422 + 1 + (c13.1 t 26).toNatClampNeg) (upd (c79.1 (422 + 1 + (c13.1 t 26).toNatClampNeg)) (3 : Int32).toNatClampNeg r78) := ⟨_, rfl⟩
            rw [← ec81] at G
            replace h := gv_s h c81 ec81
            refine lv_aload_n hx hb dX10_readsStep_132 rfl (lv_at hl 2 rfl) ?_
            refine lv_iconst (v := 4) hx hb dX10_readsStep_133 (by decide) ?_
            refine lv_aload_n hx hb dX10_readsStep_134 rfl (lv_at hl 0 rfl) ?_
            refine lv_iconst (v := 1) hx hb dX10_readsStep_135 (by decide) ?_
            refine lv_bipush (v := 9) hx hb dX10_readsStep_136 (by decide) ?_
            obtain ⟨r83, c84, hc82, h⟩ := gb2_s h
            refine gx_calli F G (va_runV (As := [.int 1, .int 9]) (rest := [.int 4, .ref (ad (422 + 1 + (c13.1 t 26).toNatClampNeg))]) (gx_fix F) (c_X10_number l sa D ad cy N H.size hN hI c0 c81 hc82) (cwV 2 hts gX10_readsStep_X10_number rfl rfl rfl (by decide +kernel) ⟨by simp only [rmX10_readsStep, rmX10_number]; omega, by simp only [rmX10_readsStep, rmX10_number]; omega⟩) (gx_rec F G ht2 (gwe_10 hk1) rfl) rfl rfl hl.1 rfl (lv_room (Nat.le_of_ble_eq_true rfl)) dX10_readsStep_138 ⟨Nat.zero_le _, Nat.zero_le _⟩) (fun H locs G => ?_)
            obtain ⟨hi85, h⟩ := gc_s h
            refine gx_mis F G hk19 ht20 rfl hi85 dX10_readsStep_141 (fun H locs G => ?_)
            obtain ⟨c86, ec86⟩ : ∃ z, z = gm_r c84 (422 + 1 + (c13.1 t 26).toNatClampNeg) (upd (c84.1 (422 + 1 + (c13.1 t 26).toNatClampNeg)) (4 : Int32).toNatClampNeg r83) := ⟨_, rfl⟩
            rw [← ec86] at G
            replace h := gv_s h c86 ec86
            exact JK26 _ _ _ _ h G hl
        obtain ⟨K87, eK87, h⟩ := gj_s h
        have JK87 : ∀ (H : Heap) (locs : List Loc) (ls : Array Slot), K87 () = some cZ → gW D ad cy N A s.heap c0 c22 H locs → lv_has ls 3 [(0, .ref (ad t)), (1, .int r4), (2, .ref (ad (422 + 1 + (c13.1 t 26).toNatClampNeg)))] → W p l e (rmX10_readsStep (dd + 1)) s m args below meth cod H locs 0 0 Q (F0 m 77 ls []) := by
          intro  H locs ls h G hl
          rw [eK87] at h
          refine lv_aload_n hx hb dX10_readsStep_77 rfl (lv_at hl 2 rfl) ?_
          refine lv_iconst (v := 1) hx hb dX10_readsStep_78 (by decide) ?_
          refine lv_aload_n hx hb dX10_readsStep_79 rfl (lv_at hl 0 rfl) ?_
          refine lv_iconst (v := 0) hx hb dX10_readsStep_80 (by decide) ?_
          refine lv_aload_n hx hb dX10_readsStep_81 rfl (lv_at hl 0 rfl) ?_
          refine fg_10_told F G hk1 ht2 in10 (by decide +kernel) dX10_readsStep_82 ?_
          have hk88 : gck 59 = 22 := rfl
          have ht89 : 59 < N := Nat.lt_of_lt_of_le (by decide) hN
          have hn90 : gal 59 = 4 := rfl
          refine lv_iconst (v := 0) hx hb dX10_readsStep_85 (by decide) ?_
          refine gx_mia F G hk88 ht89 hn90 (by decide) dX10_readsStep_86 ?_
          refine lv_iconst (v := 1) hx hb dX10_readsStep_87 (by decide) ?_
          refine lv_isub hx hb dX10_readsStep_88 ?_
          obtain ⟨r93, c94, hc92, h⟩ := gb2_s h
          refine gx_calli F G (va_runV (As := [.int 0, .int ((c22.1 59 (0 : Int32).toNatClampNeg) - 1)]) (rest := [.int 1, .ref (ad (422 + 1 + (c13.1 t 26).toNatClampNeg))]) (gx_fix F) (c_X10_number l sa D ad cy N H.size hN hI c0 c22 hc92) (cwV 2 hts gX10_readsStep_X10_number rfl rfl rfl (by decide +kernel) ⟨by simp only [rmX10_readsStep, rmX10_number]; omega, by simp only [rmX10_readsStep, rmX10_number]; omega⟩) (gx_rec F G ht2 (gwe_10 hk1) rfl) rfl rfl hl.1 rfl (lv_room (Nat.le_of_ble_eq_true rfl)) dX10_readsStep_89 ⟨Nat.zero_le _, Nat.zero_le _⟩) (fun H locs G => ?_)
          obtain ⟨hi95, h⟩ := gc_s h
          refine gx_mis F G hk19 ht20 rfl hi95 dX10_readsStep_92 (fun H locs G => ?_)
          obtain ⟨c96, ec96⟩ : ∃ z, z = gm_r c94 (422 + 1 + (c13.1 t 26).toNatClampNeg) (upd (c94.1 (422 + 1 + (c13.1 t 26).toNatClampNeg)) (1 : Int32).toNatClampNeg r93) := ⟨_, rfl⟩
          rw [← ec96] at G
          replace h := gv_s h c96 ec96
          refine lv_aload_n hx hb dX10_readsStep_93 rfl (lv_at hl 2 rfl) ?_
          refine lv_iconst (v := 2) hx hb dX10_readsStep_94 (by decide) ?_
          refine lv_aload_n hx hb dX10_readsStep_95 rfl (lv_at hl 0 rfl) ?_
          refine lv_iconst (v := 1) hx hb dX10_readsStep_96 (by decide) ?_
          refine lv_iload_n hx hb dX10_readsStep_97 rfl (lv_at hl 1 rfl) ?_
          obtain ⟨K98, eK98, h⟩ := gj_s h
          have JK98 : ∀ (v97 : Int32) (H : Heap) (locs : List Loc) (ls : Array Slot), K98 v97 = some cZ → gW D ad cy N A s.heap c0 c96 H locs → lv_has ls 3 [(0, .ref (ad t)), (1, .int r4), (2, .ref (ad (422 + 1 + (c13.1 t 26).toNatClampNeg)))] → W p l e (rmX10_readsStep (dd + 1)) s m args below meth cod H locs 0 0 Q (F0 m 108 ls [.int v97, .int 1, .ref (ad t), .int 2, .ref (ad (422 + 1 + (c13.1 t 26).toNatClampNeg))]) := by
            intro v97 H locs ls h G hl
            rw [eK98] at h
            obtain ⟨r100, c101, hc99, h⟩ := gb2_s h
            refine gx_calli F G (va_runV (As := [.int 1, .int v97]) (rest := [.int 2, .ref (ad (422 + 1 + (c13.1 t 26).toNatClampNeg))]) (gx_fix F) (c_X10_number l sa D ad cy N H.size hN hI c0 c96 hc99) (cwV 2 hts gX10_readsStep_X10_number rfl rfl rfl (by decide +kernel) ⟨by simp only [rmX10_readsStep, rmX10_number]; omega, by simp only [rmX10_readsStep, rmX10_number]; omega⟩) (gx_rec F G ht2 (gwe_10 hk1) rfl) rfl rfl hl.1 rfl (lv_room (Nat.le_of_ble_eq_true rfl)) dX10_readsStep_108 ⟨Nat.zero_le _, Nat.zero_le _⟩) (fun H locs G => ?_)
            obtain ⟨hi102, h⟩ := gc_s h
            refine gx_mis F G hk19 ht20 rfl hi102 dX10_readsStep_111 (fun H locs G => ?_)
            obtain ⟨c103, ec103⟩ : ∃ z, z = gm_r c101 (422 + 1 + (c13.1 t 26).toNatClampNeg) (upd (c101.1 (422 + 1 + (c13.1 t 26).toNatClampNeg)) (2 : Int32).toNatClampNeg r100) := ⟨_, rfl⟩
            rw [← ec103] at G
            replace h := gv_s h c103 ec103
            exact JK24 _ _ _ _ h G hl
          refine lv_if_ne (tgt := 106) hx hb dX10_readsStep_98 (by decide) (fun q104 => ?_) (fun q104 => ?_)
          · replace h := gf_s q104 h
            refine lv_bipush (v := 30) hx hb dX10_readsStep_106 (by decide) ?_
            exact JK98 _ _ _ _ h G hl
          · replace h := gt_s q104 h
            refine lv_bipush (v := 9) hx hb dX10_readsStep_101 (by decide) ?_
            refine lv_goto (tgt := 108) hx hb dX10_readsStep_103 (by decide) ?_
            exact JK98 _ _ _ _ h G hl
        refine lv_if_eq (tgt := 77) hx hb dX10_readsStep_69 (by decide) (fun q105 => ?_) (fun q105 => ?_)
        · replace h := gt_s q105 h
          exact JK87  _ _ _ h G (lv_sub hl [1, 2, 0] rfl)
        · replace h := gf_s q105 h
          refine lv_iload_n hx hb dX10_readsStep_72 rfl (lv_at hl 2 rfl) ?_
          refine lv_iconst (v := 2) hx hb dX10_readsStep_73 (by decide) ?_
          refine lv_icmp_ne (tgt := 112) hx hb dX10_readsStep_74 (by decide) (fun q106 => ?_) (fun q106 => ?_)
          · replace h := gf_s q106 h
            exact JK24 _ _ _ _ h G (lv_sub hl [1, 2, 0] rfl)
          · replace h := gt_s q106 h
            exact JK87  _ _ _ h G (lv_sub hl [1, 2, 0] rfl)
      · replace h := gf_s q10 h
        cases h
        rw [← hQ]
        exact gx_vret F G hr hlocks dX10_readsStep_39
    refine lv_icmp_ne (tgt := 32) hx hb dX10_readsStep_21 (by decide) (fun q107 => ?_) (fun q107 => ?_)
    · replace h := gf_s q107 h
      exact JK9 _ _ _ _ h G hl
    · replace h := gt_s q107 h
      refine lv_aload_n hx hb dX10_readsStep_24 rfl (lv_at hl 0 rfl) ?_
      obtain ⟨r109, c110, hc108, h⟩ := gb2_s h
      refine gx_calli F G (va_runV (As := []) (rest := []) (gx_fix F) (c_X10_opensOne l sa D ad cy N H.size hN hI c0 c6 hc108) (cwV 0 hts gX10_readsStep_X10_opensOne rfl rfl rfl (by decide +kernel) ⟨by simp only [rmX10_readsStep, rmX10_opensOne]; omega, by simp only [rmX10_readsStep, rmX10_opensOne]; omega⟩) (gx_rec F G ht2 (gwe_10 hk1) rfl) rfl rfl hl.1 rfl (lv_room (Nat.le_of_ble_eq_true rfl)) dX10_readsStep_25 ⟨Nat.zero_le _, Nat.zero_le _⟩) (fun H locs G => ?_)
      refine lv_if_ne (tgt := 32) hx hb dX10_readsStep_28 (by decide) (fun q111 => ?_) (fun q111 => ?_)
      · replace h := gf_s q111 h
        exact JK9 _ _ _ _ h G hl
      · replace h := gt_s q111 h
        cases h
        rw [← hQ]
        exact gx_vret F G hr hlocks dX10_readsStep_31
  refine lv_icmp_ne (tgt := 19) hx hb dX10_readsStep_7 (by decide) (fun q112 => ?_) (fun q112 => ?_)
  · replace h := gf_s q112 h
    exact JK7 _ _ _ _ h G (lv_sub hl [1, 0] rfl)
  · replace h := gt_s q112 h
    refine lv_aload_n hx hb dX10_readsStep_10 rfl (lv_at hl 1 rfl) ?_
    refine lv_iconst (v := 1) hx hb dX10_readsStep_11 (by decide) ?_
    refine lv_aload_n hx hb dX10_readsStep_12 rfl (lv_at hl 1 rfl) ?_
    refine fg_10_at F G hk1 ht2 in10 (by decide +kernel) dX10_readsStep_13 ?_
    obtain ⟨c115, hc113, h⟩ := gb_s h
    refine gx_callv F G (va_runV (As := [.int 1, .int (c5.1 t 4)]) (rest := []) (gx_fix F) (c_X10_wrong l sa D ad cy N H.size hN hI c0 c5 hc113) (cwV 2 hts gX10_readsStep_X10_wrong rfl rfl rfl (by decide +kernel) ⟨by simp only [rmX10_readsStep, rmX10_wrong]; omega, by simp only [rmX10_readsStep, rmX10_wrong]; omega⟩) (gx_rec F G ht2 (gwe_10 hk1) rfl) rfl rfl hl.1 rfl (lv_room (Nat.le_of_ble_eq_true rfl)) dX10_readsStep_16 ⟨Nat.zero_le _, Nat.zero_le _⟩) (fun H locs G => ?_)
    exact JK7 _ _ _ _ h G (lv_sub hl [1, 0] rfl)
def m_X10_readsStep : Nat → (Nat → Nat → gm → Option (gm))
  | 0 => fun _ _ _ => none
  | dd + 1 => m_X10_readsStep_b (m_X10_readsStep dd)
theorem c_X10_readsStep (l : Launch) (sa : gSa) (D : va_G) (ad : Nat → Nat) (cy : Nat → ClassId) (N : Nat) (hN : 530 ≤ N) (hI : gI ad N) (dd : Nat) : ∀ (sz : Nat) (c0 c : gm) {n : Nat} {t : Nat} {cZ : gm}, m_X10_readsStep dd n t c = some cZ → Met l yX10_readsStep wsX10_readsStep (rmX10_readsStep dd) (va_Pc [.ref (ad t)] (gP sa D ad cy N sz c0 c)) (va_Qv (fun (_ : Unit) => True) (fun _ U => gE D ad cy N c0 cZ U) (gA ad N sz)) 0 0 (gA ad N sz) := by
  induction dd with
  | zero => intro _ _ _ _ _ _ h; have h2 : none = some _ := h; cases h2
  | succ dd ih => intro sz c d0 _ _ _ h; exact c_X10_readsStep_b l sa D ad cy N sz hN hI c d0 (m_X10_readsStep dd) dd (fun sz c d0 _ _ _ h => ih sz c d0 h) h

def m_X10_book_L46 (n : Nat) (t : Nat) (y16 : Int32) (c17 : gm) : Option ((Int32 × gm) ⊕ (Int32 × gm)) :=
  (if (c17.1 t 5) = 0 then (if (c17.1 t 2) ≤ (c17.1 t 4) then some (.inr (y16, c17)) else gv (c17.1 t 4) (fun (x37 : Int32) => gb2 (m_X10_number n t 0 ((c17.1 59 (0 : Int32).toNatClampNeg) - 1) c17) (fun (r43 : Int32) (c44 : gm) => gj (fun (c45 : gm) => gb2 (m_X10_otherThing n t r43 (c45.1 59 (0 : Int32).toNatClampNeg) c45) (fun (r49 : Int32) (c50 : gm) => gb2 (m_X10_number n t 0 2 c50) (fun (r52 : Int32) (c53 : gm) => gb (m_X10_sign n t 59 c53) (fun (c56 : gm) => gj (gu2 (fun (v57 : Int32) (c58 : gm) => gb (m_X10_blanks n t c58) (fun (c62 : gm) => some (.inl (v57, c62))))) (fun K59 => (if (c56.1 t 5) = 0 then gc (0 ≤ y16.toInt ∧ y16.toInt < 6) (gc (gck (413 + 1 + y16.toNatClampNeg) = 22) (gc (0 ≤ (0 : Int32).toInt ∧ (0 : Int32).toInt < ((gal (413 + 1 + y16.toNatClampNeg)) : Nat)) (gv (gm_r c56 (413 + 1 + y16.toNatClampNeg) (upd (c56.1 (413 + 1 + y16.toNatClampNeg)) (0 : Int32).toNatClampNeg r43)) (fun (c71 : gm) => gc (0 ≤ y16.toInt ∧ y16.toInt < 6) (gc (0 ≤ (1 : Int32).toInt ∧ (1 : Int32).toInt < ((gal (413 + 1 + y16.toNatClampNeg)) : Nat)) (gv (gm_r c71 (413 + 1 + y16.toNatClampNeg) (upd (c71.1 (413 + 1 + y16.toNatClampNeg)) (1 : Int32).toNatClampNeg r49)) (fun (c74 : gm) => gc (0 ≤ y16.toInt ∧ y16.toInt < 6) (gc (0 ≤ (2 : Int32).toInt ∧ (2 : Int32).toInt < ((gal (413 + 1 + y16.toNatClampNeg)) : Nat)) (gv (gm_r c74 (413 + 1 + y16.toNatClampNeg) (upd (c74.1 (413 + 1 + y16.toNatClampNeg)) (2 : Int32).toNatClampNeg r52)) (fun (c77 : gm) => gv (y16 + 1) (fun (x78 : Int32) => K59 (x78, c77)))))))))))) else K59 (y16, c56))))))) (fun K46 => (if (c44.1 t 5) = 0 then (if y16 = 6 then gb (m_X10_wrong t 3 x37 c44) (fun (c83 : gm) => K46 c83) else K46 c44) else K46 c44))))) else some (.inr (y16, c17)))
def m_X10_book (n : Nat) (t : Nat) (a1 : Int32) (c : gm) : Option (Int32 × gm) :=
  gc (gck t = 10) (gv (gm_r c t (upd (c.1 t) 0 0)) (fun (c3 : gm) => gb (m_X10_in a1 0 (c3.1 t 1)) (fun (r5 : Int32) => gj (fun (v6 : Int32) => gb2 (m_X10_bad t v6 1 1 c3) (fun (r9 : Int32) (c10 : gm) => (if r9 = 0 then gb (m_X10_starts n t a1 c10) (fun (c14 : gm) => gb (gloop (gu2 (fun (y16 : Int32) (c17 : gm) => m_X10_book_L46 n t y16 c17)) n (0, c14)) (gu2 (fun (z18 : Int32) (c19 : gm) => (if (c19.1 t 5) = 0 then gv (gm_r c19 t (upd (c19.1 t) 3 (-1))) (fun (c21 : gm) => gv (gm_r c21 t (upd (c21.1 t) 32 z18)) (fun (c22 : gm) => gb (m_X10_lays n 413 406 z18 c22) (fun (c31 : gm) => some (z18, c31)))) else gb2 (m_X10_ends t c19) (fun (r33 : Int32) (c34 : gm) => some (r33, c34)))))) else some (0, c10)))) (fun K7 => gj (fun (_ : Unit) => K7 1) (fun K84 => (if r5 = 0 then K84 () else (if a1 ≤ 60 then K7 0 else K84 ())))))))
abbrev rmX10_book : Room := { frames := 4, cells := 0, slots := 0, locals := 89 }
set_option maxHeartbeats 4000000 in
set_option maxRecDepth 100000 in
theorem c_X10_book (l : Launch) (sa : gSa) (D : va_G) (ad : Nat → Nat) (cy : Nat → ClassId) (N sz : Nat) (hN : 530 ≤ N) (hI : gI ad N) (c0 c : gm) {n : Nat} {t : Nat} {a1 : Int32} {rZ : Int32} {cZ : gm} (h : m_X10_book n t a1 c = some (rZ, cZ)) : Met l yX10_book wsX10_book rmX10_book (va_Pc [.ref (ad t), .int a1] (gP sa D ad cy N sz c0 c)) (va_Qi (fun (z : Int32) (_ : Unit) => z = rZ) (fun _ U => gE D ad cy N c0 cZ U) (gA ad N sz)) 0 0 (gA ad N sz) := by
  refine Met.ofW (cc := cX10_book) (maxL := 7) (ret := (some .int)) (by decide) rfl ?_
  intro p e s m args below meth cod s₁ B hml hv
  obtain ⟨rfl, hsz, hP, hK, hZ⟩ := hv
  have hx := B.exec
  have hb := B.bytes
  have hr := B.returns
  have hts := atoms_spec (ws := wsX10_book) B.pre
  have hown : s.vm.findClass RX10 = some m.cls := findClass_of_methodNamed B.named
  have hlocks := B.notSynchronized
  subst hsz
  have hl := lv_entry ([.ref (ad t), .int a1]) (n := 7) (Nat.le_of_ble_eq_true rfl)
  rw [lg_entry_eq]
  generalize (lg_sl ([.ref (ad t), .int a1]) ++ List.replicate (7 - (lg_sl ([.ref (ad t), .int a1])).length) Slot.unset).toArray = ls at hl ⊢
  have hl : lv_has ls 7 [(0, .ref (ad t)), (1, .int a1)] := hl
  have in10 : ∀ w ∈ wsX100, w ∈ wsX10_book := by decide +kernel
  generalize hargs : ([.ref (ad t), .int a1] : List Value).toArray = args at *
  generalize hAe : gA ad N s.heap.size = A
  have F : gF sa D ad cy N A p s m args cod cX10_book 7 wsX10_book RX10 := ⟨hx, hb, hml, hown, hts, hK, hI, by rw [← hAe]; exact gA_ad, by rw [← hAe]; exact gA_sz, by rw [← hAe]; exact hZ⟩
  have G : gW D ad cy N A s.heap c0 c s.heap [] := ⟨hP, va_S.rf⟩
  generalize hQ : MQ below (va_Qi (fun (z : Int32) (_ : Unit) => z = rZ) (fun _ U => gE D ad cy N c0 cZ U) A) args s 0 0 A = Q
  suffices hgen : ∀ (H : Heap) (locs : List Loc), gW D ad cy N A s.heap c0 c H locs → W p l e rmX10_book s m args below meth cod H locs 0 0 Q (F0 m 0 ls []) from hgen _ _ G
  clear G
  intro H locs G
  unfold m_X10_book at h
  refine lv_aload_n hx hb dX10_book_0 rfl (lv_at hl 0 rfl) ?_
  refine lv_iconst (v := 0) hx hb dX10_book_1 (by decide) ?_
  obtain ⟨hk1, h⟩ := gc_s h
  have ht2 : t < N := Nat.lt_of_lt_of_le (gck_lt10 hk1) hN
  refine fp_10_thrown F G hk1 ht2 in10 (by decide +kernel) dX10_book_2 (fun H locs G => ?_)
  obtain ⟨c3, ec3⟩ : ∃ z, z = gm_r c t (upd (c.1 t) 0 0) := ⟨_, rfl⟩
  rw [← ec3] at G
  replace h := gv_s h c3 ec3
  refine lv_aload_n hx hb dX10_book_5 rfl (lv_at hl 0 rfl) ?_
  refine lv_iload_n hx hb dX10_book_6 rfl (lv_at hl 1 rfl) ?_
  refine lv_iconst (v := 0) hx hb dX10_book_7 (by decide) ?_
  refine lv_aload_n hx hb dX10_book_8 rfl (lv_at hl 0 rfl) ?_
  refine fg_10_tape F G hk1 ht2 in10 (by decide +kernel) dX10_book_9 ?_
  obtain ⟨r5, hc4, h⟩ := gb_s h
  refine gx_calli F G (va_runS (As := [.int a1, .int 0, .int (c3.1 t 1)]) (rest := [.ref (ad t)]) (gx_fix F) (c_X10_in l sa D ad cy N H.size hN hI c0 c3 hc4) (va_cwS 3 hts gX10_book_X10_in rfl rfl rfl (by decide +kernel) ⟨by decide, by decide⟩) (gx_pre F G) rfl rfl hl.1 rfl (lv_room (Nat.le_of_ble_eq_true rfl)) dX10_book_12 ⟨Nat.zero_le _, Nat.zero_le _⟩) (fun H locs G => ?_)
  obtain ⟨K7, eK7, h⟩ := gj_s h
  have JK7 : ∀ (v6 : Int32) (H : Heap) (locs : List Loc) (ls : Array Slot), K7 v6 = some (rZ, cZ) → gW D ad cy N A s.heap c0 c3 H locs → lv_has ls 7 [(0, .ref (ad t)), (1, .int a1)] → W p l e rmX10_book s m args below meth cod H locs 0 0 Q (F0 m 29 ls [.int v6, .ref (ad t)]) := by
    intro v6 H locs ls h G hl
    rw [eK7] at h
    refine lv_iconst (v := 1) hx hb dX10_book_29 (by decide) ?_
    refine lv_iconst (v := 1) hx hb dX10_book_30 (by decide) ?_
    obtain ⟨r9, c10, hc8, h⟩ := gb2_s h
    refine gx_calli F G (va_runV (As := [.int v6, .int 1, .int 1]) (rest := []) (gx_fix F) (c_X10_bad l sa D ad cy N H.size hN hI c0 c3 hc8) (cwV 3 hts gX10_book_X10_bad rfl rfl rfl (by decide +kernel) ⟨by decide, by decide⟩) (gx_rec F G ht2 (gwe_10 hk1) rfl) rfl rfl hl.1 rfl (lv_room (Nat.le_of_ble_eq_true rfl)) dX10_book_31 ⟨Nat.zero_le _, Nat.zero_le _⟩) (fun H locs G => ?_)
    refine lv_if_eq (tgt := 39) hx hb dX10_book_34 (by decide) (fun q11 => ?_) (fun q11 => ?_)
    · replace h := gt_s q11 h
      refine lv_aload_n hx hb dX10_book_39 rfl (lv_at hl 0 rfl) ?_
      refine lv_iload_n hx hb dX10_book_40 rfl (lv_at hl 1 rfl) ?_
      obtain ⟨c14, hc12, h⟩ := gb_s h
      refine gx_callv F G (va_runV (As := [.int a1]) (rest := []) (gx_fix F) (c_X10_starts l sa D ad cy N H.size hN hI c0 c10 hc12) (cwV 1 hts gX10_book_X10_starts rfl rfl rfl (by decide +kernel) ⟨by decide, by decide⟩) (gx_rec F G ht2 (gwe_10 hk1) rfl) rfl rfl hl.1 rfl (lv_room (Nat.le_of_ble_eq_true rfl)) dX10_book_41 ⟨Nat.zero_le _, Nat.zero_le _⟩) (fun H locs G => ?_)
      refine lv_iconst (v := 0) hx hb dX10_book_44 (by decide) ?_
      refine lv_istore_n (lv' := [(2, .int 0), (0, .ref (ad t)), (1, .int a1)]) hx hb dX10_book_45 rfl hl (by decide) rfl (fun ls hl => ?_)
      obtain ⟨b15, hb15, hK15⟩ := gb_s h
      have E15 : ∀ (z18 : Int32) (c19 : gm) (H : Heap) (locs : List Loc) (ls : Array Slot), ((z18, c19) : Int32 × gm) = b15 → gW D ad cy N A s.heap c0 c19 H locs → lv_has ls 7 [(0, .ref (ad t)), (2, .int z18)] → W p l e rmX10_book s m args below meth cod H locs 0 0 Q (F0 m 178 ls []) := by
        intro z18 c19 H locs ls hq15 G hl
        subst hq15
        replace hK15 := hK15
        replace hK15 := gu2_s hK15
        have h := hK15
        refine lv_aload_n hx hb dX10_book_178 rfl (lv_at hl 0 rfl) ?_
        refine fg_10_fault F G hk1 ht2 in10 (by decide +kernel) dX10_book_179 ?_
        refine lv_if_eq (tgt := 190) hx hb dX10_book_182 (by decide) (fun q20 => ?_) (fun q20 => ?_)
        · replace h := gt_s q20 h
          refine lv_aload_n hx hb dX10_book_190 rfl (lv_at hl 0 rfl) ?_
          refine lv_iconst (v := (-1)) hx hb dX10_book_191 (by decide) ?_
          refine fp_10_place F G hk1 ht2 in10 (by decide +kernel) dX10_book_192 (fun H locs G => ?_)
          obtain ⟨c21, ec21⟩ : ∃ z, z = gm_r c19 t (upd (c19.1 t) 3 (-1)) := ⟨_, rfl⟩
          rw [← ec21] at G
          replace h := gv_s h c21 ec21
          refine lv_aload_n hx hb dX10_book_195 rfl (lv_at hl 0 rfl) ?_
          refine lv_iload_n hx hb dX10_book_196 rfl (lv_at hl 1 rfl) ?_
          refine fp_10_lines F G hk1 ht2 in10 (by decide +kernel) dX10_book_197 (fun H locs G => ?_)
          obtain ⟨c22, ec22⟩ : ∃ z, z = gm_r c21 t (upd (c21.1 t) 32 z18) := ⟨_, rfl⟩
          rw [← ec22] at G
          replace h := gv_s h c22 ec22
          refine lv_aload_n hx hb dX10_book_200 rfl (lv_at hl 0 rfl) ?_
          refine fg_10_readLine F G hk1 ht2 in10 (by decide +kernel) dX10_book_201 ?_
          have hk23 : gck 413 = 25 := rfl
          have ht24 : 413 < N := Nat.lt_of_lt_of_le (by decide) hN
          have hn25 : gal 413 = 6 := rfl
          refine lv_aload_n hx hb dX10_book_204 rfl (lv_at hl 0 rfl) ?_
          refine fg_10_line F G hk1 ht2 in10 (by decide +kernel) dX10_book_205 ?_
          have hk26 : gck 406 = 25 := rfl
          have ht27 : 406 < N := Nat.lt_of_lt_of_le (by decide) hN
          have hn28 : gal 406 = 6 := rfl
          refine lv_iload_n hx hb dX10_book_208 rfl (lv_at hl 1 rfl) ?_
          obtain ⟨c31, hc29, h⟩ := gb_s h
          refine gx_callv F G (va_runS (As := [.ref (ad 413), .ref (ad 406), .int z18]) (rest := []) (gx_fix F) (c_X10_lays l sa D ad cy N H.size hN hI c0 c22 hc29) (va_cwS 3 hts gX10_book_X10_lays rfl rfl rfl (by decide +kernel) ⟨by decide, by decide⟩) (gx_pre F G) rfl rfl hl.1 rfl (lv_room (Nat.le_of_ble_eq_true rfl)) dX10_book_209 ⟨Nat.zero_le _, Nat.zero_le _⟩) (fun H locs G => ?_)
          refine lv_iload_n hx hb dX10_book_212 rfl (lv_at hl 1 rfl) ?_
          cases h
          rw [← hQ]
          exact gx_iret F G hr hlocks dX10_book_213
        · replace h := gf_s q20 h
          refine lv_aload_n hx hb dX10_book_185 rfl (lv_at hl 0 rfl) ?_
          obtain ⟨r33, c34, hc32, h⟩ := gb2_s h
          refine gx_calli F G (va_runV (As := []) (rest := []) (gx_fix F) (c_X10_ends l sa D ad cy N H.size hN hI c0 c19 hc32) (cwV 0 hts gX10_book_X10_ends rfl rfl rfl (by decide +kernel) ⟨by decide, by decide⟩) (gx_rec F G ht2 (gwe_10 hk1) rfl) rfl rfl hl.1 rfl (lv_room (Nat.le_of_ble_eq_true rfl)) dX10_book_186 ⟨Nat.zero_le _, Nat.zero_le _⟩) (fun H locs G => ?_)
          cases h
          rw [← hQ]
          exact gx_iret F G hr hlocks dX10_book_189
      have L15 : ∀ (n9 : Nat) (y16 : Int32) (c17 : gm) (H : Heap) (locs : List Loc) (ls : Array Slot), gloop (gu2 (fun (y16 : Int32) (c17 : gm) => m_X10_book_L46 n t y16 c17)) n9 (y16, c17) = some b15 → gW D ad cy N A s.heap c0 c17 H locs → lv_has ls 7 [(0, .ref (ad t)), (2, .int y16)] → W p l e rmX10_book s m args below meth cod H locs 0 0 Q (F0 m 46 ls []) := by
        intro n9
        induction n9 with
        | zero => intro y16 c17 H locs ls h; exact (gloop_0 h).elim
        | succ n9 ih =>
          intro y16 c17 H locs ls h G hl
          have ih15 := ih
          obtain ⟨o15, h, hn15⟩ := gloop_s h
          replace h := gu2_s h
          unfold m_X10_book_L46 at h
          refine lv_aload_n hx hb dX10_book_46 rfl (lv_at hl 0 rfl) ?_
          refine fg_10_fault F G hk1 ht2 in10 (by decide +kernel) dX10_book_47 ?_
          refine lv_if_ne (tgt := 178) hx hb dX10_book_50 (by decide) (fun q35 => ?_) (fun q35 => ?_)
          · replace h := gf_s q35 h
            cases h
            exact E15 _ _ _ _ _ (gnx_r hn15) G hl
          · replace h := gt_s q35 h
            refine lv_aload_n hx hb dX10_book_53 rfl (lv_at hl 0 rfl) ?_
            refine fg_10_at F G hk1 ht2 in10 (by decide +kernel) dX10_book_54 ?_
            refine lv_aload_n hx hb dX10_book_57 rfl (lv_at hl 0 rfl) ?_
            refine fg_10_size F G hk1 ht2 in10 (by decide +kernel) dX10_book_58 ?_
            refine lv_icmp_ge (tgt := 178) hx hb dX10_book_61 (by decide) (fun q36 => ?_) (fun q36 => ?_)
            · replace h := gt_s q36 h
              cases h
              exact E15 _ _ _ _ _ (gnx_r hn15) G hl
            · replace h := gf_s q36 h
              refine lv_aload_n hx hb dX10_book_64 rfl (lv_at hl 0 rfl) ?_
              refine fg_10_at F G hk1 ht2 in10 (by decide +kernel) dX10_book_65 ?_
              refine lv_topi (fun x37 ex37 => ?_)
              replace h := gv_s h x37 ex37
              refine lv_istore_n (lv' := [(3, .int x37), (0, .ref (ad t)), (2, .int y16)]) hx hb dX10_book_68 rfl hl (by decide) rfl (fun ls hl => ?_)
              refine lv_aload_n hx hb dX10_book_69 rfl (lv_at hl 1 rfl) ?_
              refine lv_iconst (v := 0) hx hb dX10_book_70 (by decide) ?_
              refine lv_aload_n hx hb dX10_book_71 rfl (lv_at hl 1 rfl) ?_
              refine fg_10_told F G hk1 ht2 in10 (by decide +kernel) dX10_book_72 ?_
              have hk38 : gck 59 = 22 := rfl
              have ht39 : 59 < N := Nat.lt_of_lt_of_le (by decide) hN
              have hn40 : gal 59 = 4 := rfl
              refine lv_iconst (v := 0) hx hb dX10_book_75 (by decide) ?_
              refine gx_mia F G hk38 ht39 hn40 (by decide) dX10_book_76 ?_
              refine lv_iconst (v := 1) hx hb dX10_book_77 (by decide) ?_
              refine lv_isub hx hb dX10_book_78 ?_
              obtain ⟨r43, c44, hc42, h⟩ := gb2_s h
              refine gx_calli F G (va_runV (As := [.int 0, .int ((c17.1 59 (0 : Int32).toNatClampNeg) - 1)]) (rest := []) (gx_fix F) (c_X10_number l sa D ad cy N H.size hN hI c0 c17 hc42) (cwV 2 hts gX10_book_X10_number rfl rfl rfl (by decide +kernel) ⟨by decide, by decide⟩) (gx_rec F G ht2 (gwe_10 hk1) rfl) rfl rfl hl.1 rfl (lv_room (Nat.le_of_ble_eq_true rfl)) dX10_book_79 ⟨Nat.zero_le _, Nat.zero_le _⟩) (fun H locs G => ?_)
              refine lv_istore (lv' := [(4, .int r43), (3, .int x37), (0, .ref (ad t)), (2, .int y16)]) hx hb dX10_book_82 hl (by decide) rfl (fun ls hl => ?_)
              refine lv_aload_n hx hb dX10_book_84 rfl (lv_at hl 2 rfl) ?_
              refine fg_10_fault F G hk1 ht2 in10 (by decide +kernel) dX10_book_85 ?_
              obtain ⟨K46, eK46, h⟩ := gj_s h
              have JK46 : ∀ (c45 : gm) (H : Heap) (locs : List Loc) (ls : Array Slot), K46 c45 = some o15 → gW D ad cy N A s.heap c0 c45 H locs → lv_has ls 7 [(0, .ref (ad t)), (2, .int y16), (4, .int r43)] → W p l e rmX10_book s m args below meth cod H locs 0 0 Q (F0 m 103 ls []) := by
                intro c45 H locs ls h G hl
                rw [eK46] at h
                refine lv_aload_n hx hb dX10_book_103 rfl (lv_at hl 0 rfl) ?_
                refine lv_iload hx hb dX10_book_104 (lv_at hl 2 rfl) ?_
                refine lv_aload_n hx hb dX10_book_106 rfl (lv_at hl 0 rfl) ?_
                refine fg_10_told F G hk1 ht2 in10 (by decide +kernel) dX10_book_107 ?_
                refine lv_iconst (v := 0) hx hb dX10_book_110 (by decide) ?_
                refine gx_mia F G hk38 ht39 hn40 (by decide) dX10_book_111 ?_
                obtain ⟨r49, c50, hc48, h⟩ := gb2_s h
                refine gx_calli F G (va_runV (As := [.int r43, .int (c45.1 59 (0 : Int32).toNatClampNeg)]) (rest := []) (gx_fix F) (c_X10_otherThing l sa D ad cy N H.size hN hI c0 c45 hc48) (cwV 2 hts gX10_book_X10_otherThing rfl rfl rfl (by decide +kernel) ⟨by decide, by decide⟩) (gx_rec F G ht2 (gwe_10 hk1) rfl) rfl rfl hl.1 rfl (lv_room (Nat.le_of_ble_eq_true rfl)) dX10_book_112 ⟨Nat.zero_le _, Nat.zero_le _⟩) (fun H locs G => ?_)
                refine lv_istore (lv' := [(5, .int r49), (0, .ref (ad t)), (2, .int y16), (4, .int r43)]) hx hb dX10_book_115 hl (by decide) rfl (fun ls hl => ?_)
                refine lv_aload_n hx hb dX10_book_117 rfl (lv_at hl 1 rfl) ?_
                refine lv_iconst (v := 0) hx hb dX10_book_118 (by decide) ?_
                refine lv_iconst (v := 2) hx hb dX10_book_119 (by decide) ?_
                obtain ⟨r52, c53, hc51, h⟩ := gb2_s h
                refine gx_calli F G (va_runV (As := [.int 0, .int 2]) (rest := []) (gx_fix F) (c_X10_number l sa D ad cy N H.size hN hI c0 c50 hc51) (cwV 2 hts gX10_book_X10_number rfl rfl rfl (by decide +kernel) ⟨by decide, by decide⟩) (gx_rec F G ht2 (gwe_10 hk1) rfl) rfl rfl hl.1 rfl (lv_room (Nat.le_of_ble_eq_true rfl)) dX10_book_120 ⟨Nat.zero_le _, Nat.zero_le _⟩) (fun H locs G => ?_)
                refine lv_istore (lv' := [(6, .int r52), (5, .int r49), (0, .ref (ad t)), (2, .int y16), (4, .int r43)]) hx hb dX10_book_123 hl (by decide) rfl (fun ls hl => ?_)
                refine lv_aload_n hx hb dX10_book_125 rfl (lv_at hl 2 rfl) ?_
                refine lv_bipush (v := 59) hx hb dX10_book_126 (by decide) ?_
                obtain ⟨c56, hc54, h⟩ := gb_s h
                refine gx_callv F G (va_runV (As := [.int 59]) (rest := []) (gx_fix F) (c_X10_sign l sa D ad cy N H.size hN hI c0 c53 hc54) (cwV 1 hts gX10_book_X10_sign rfl rfl rfl (by decide +kernel) ⟨by decide, by decide⟩) (gx_rec F G ht2 (gwe_10 hk1) rfl) rfl rfl hl.1 rfl (lv_room (Nat.le_of_ble_eq_true rfl)) dX10_book_128 ⟨Nat.zero_le _, Nat.zero_le _⟩) (fun H locs G => ?_)
                refine lv_aload_n hx hb dX10_book_131 rfl (lv_at hl 2 rfl) ?_
                refine fg_10_fault F G hk1 ht2 in10 (by decide +kernel) dX10_book_132 ?_
                obtain ⟨K59, eK59, h⟩ := gj_s h
                have JK59 : ∀ (v57 : Int32) (c58 : gm) (H : Heap) (locs : List Loc) (ls : Array Slot), K59 (v57, c58) = some o15 → gW D ad cy N A s.heap c0 c58 H locs → lv_has ls 7 [(0, .ref (ad t)), (2, .int v57)] → W p l e rmX10_book s m args below meth cod H locs 0 0 Q (F0 m 171 ls []) := by
                  intro v57 c58 H locs ls h G hl
                  rw [eK59] at h
                  replace h := gu2_s h
                  refine lv_aload_n hx hb dX10_book_171 rfl (lv_at hl 0 rfl) ?_
                  obtain ⟨c62, hc60, h⟩ := gb_s h
                  refine gx_callv F G (va_runV (As := []) (rest := []) (gx_fix F) (c_X10_blanks l sa D ad cy N H.size hN hI c0 c58 hc60) (cwV 0 hts gX10_book_X10_blanks rfl rfl rfl (by decide +kernel) ⟨by decide, by decide⟩) (gx_rec F G ht2 (gwe_10 hk1) rfl) rfl rfl hl.1 rfl (lv_room (Nat.le_of_ble_eq_true rfl)) dX10_book_172 ⟨Nat.zero_le _, Nat.zero_le _⟩) (fun H locs G => ?_)
                  refine lv_goto (tgt := 46) hx hb dX10_book_175 (by decide) ?_
                  cases h
                  exact ih15 _ _ _ _ _ hn15 G hl
                refine lv_if_ne (tgt := 171) hx hb dX10_book_135 (by decide) (fun q63 => ?_) (fun q63 => ?_)
                · replace h := gf_s q63 h
                  exact JK59 _ _ _ _ _ h G (lv_sub hl [2, 3] rfl)
                · replace h := gt_s q63 h
                  refine lv_aload_n hx hb dX10_book_138 rfl (lv_at hl 2 rfl) ?_
                  refine fg_10_readLine F G hk1 ht2 in10 (by decide +kernel) dX10_book_139 ?_
                  have hk64 : gck 413 = 25 := rfl
                  have ht65 : 413 < N := Nat.lt_of_lt_of_le (by decide) hN
                  have hn66 : gal 413 = 6 := rfl
                  refine lv_iload_n hx hb dX10_book_142 rfl (lv_at hl 3 rfl) ?_
                  obtain ⟨hi67, h⟩ := gc_s h
                  refine gx_mga F G hk64 ht65 hn66 hi67 dX10_book_143 ?_
                  refine lv_iconst (v := 0) hx hb dX10_book_144 (by decide) ?_
                  refine lv_iload hx hb dX10_book_145 (lv_at hl 4 rfl) ?_
                  obtain ⟨hk68, h⟩ := gc_s h
                  have ht69 : (413 + 1 + y16.toNatClampNeg) < N := Nat.lt_of_lt_of_le (gck_lt22 hk68) hN
                  obtain ⟨hi70, h⟩ := gc_s h
                  refine gx_mis F G hk68 ht69 rfl hi70 dX10_book_147 (fun H locs G => ?_)
                  obtain ⟨c71, ec71⟩ : ∃ z, z = gm_r c56 (413 + 1 + y16.toNatClampNeg) (upd (c56.1 (413 + 1 + y16.toNatClampNeg)) (0 : Int32).toNatClampNeg r43) := ⟨_, rfl⟩
                  rw [← ec71] at G
                  replace h := gv_s h c71 ec71
                  refine lv_aload_n hx hb dX10_book_148 rfl (lv_at hl 2 rfl) ?_
                  refine fg_10_readLine F G hk1 ht2 in10 (by decide +kernel) dX10_book_149 ?_
                  refine lv_iload_n hx hb dX10_book_152 rfl (lv_at hl 3 rfl) ?_
                  obtain ⟨hi72, h⟩ := gc_s h
                  refine gx_mga F G hk64 ht65 hn66 hi72 dX10_book_153 ?_
                  refine lv_iconst (v := 1) hx hb dX10_book_154 (by decide) ?_
                  refine lv_iload hx hb dX10_book_155 (lv_at hl 1 rfl) ?_
                  obtain ⟨hi73, h⟩ := gc_s h
                  refine gx_mis F G hk68 ht69 rfl hi73 dX10_book_157 (fun H locs G => ?_)
                  obtain ⟨c74, ec74⟩ : ∃ z, z = gm_r c71 (413 + 1 + y16.toNatClampNeg) (upd (c71.1 (413 + 1 + y16.toNatClampNeg)) (1 : Int32).toNatClampNeg r49) := ⟨_, rfl⟩
                  rw [← ec74] at G
                  replace h := gv_s h c74 ec74
                  refine lv_aload_n hx hb dX10_book_158 rfl (lv_at hl 2 rfl) ?_
                  refine fg_10_readLine F G hk1 ht2 in10 (by decide +kernel) dX10_book_159 ?_
                  refine lv_iload_n hx hb dX10_book_162 rfl (lv_at hl 3 rfl) ?_
                  obtain ⟨hi75, h⟩ := gc_s h
                  refine gx_mga F G hk64 ht65 hn66 hi75 dX10_book_163 ?_
                  refine lv_iconst (v := 2) hx hb dX10_book_164 (by decide) ?_
                  refine lv_iload hx hb dX10_book_165 (lv_at hl 0 rfl) ?_
                  obtain ⟨hi76, h⟩ := gc_s h
                  refine gx_mis F G hk68 ht69 rfl hi76 dX10_book_167 (fun H locs G => ?_)
                  obtain ⟨c77, ec77⟩ : ∃ z, z = gm_r c74 (413 + 1 + y16.toNatClampNeg) (upd (c74.1 (413 + 1 + y16.toNatClampNeg)) (2 : Int32).toNatClampNeg r52) := ⟨_, rfl⟩
                  rw [← ec77] at G
                  replace h := gv_s h c77 ec77
                  obtain ⟨x78, ex78⟩ : ∃ z : Int32, z = y16 + 1 := ⟨_, rfl⟩
                  replace h := gv_s h x78 ex78
                  refine lv_iinc (v := x78) (lv' := [(2, .int x78), (6, .int r52), (5, .int r49), (0, .ref (ad t)), (4, .int r43)]) hx hb dX10_book_168 hl (k := 3) rfl (by rw [ex78]; rfl) (by decide) rfl (fun ls hl => ?_)
                  exact JK59 _ _ _ _ _ h G (lv_sub hl [3, 0] rfl)
              refine lv_if_ne (tgt := 103) hx hb dX10_book_88 (by decide) (fun q79 => ?_) (fun q79 => ?_)
              · replace h := gf_s q79 h
                exact JK46 _ _ _ _ h G (lv_sub hl [2, 3, 0] rfl)
              · replace h := gt_s q79 h
                refine lv_iload_n hx hb dX10_book_91 rfl (lv_at hl 3 rfl) ?_
                refine lv_bipush (v := 6) hx hb dX10_book_92 (by decide) ?_
                refine lv_icmp_ne (tgt := 103) hx hb dX10_book_94 (by decide) (fun q80 => ?_) (fun q80 => ?_)
                · replace h := gf_s q80 h
                  exact JK46 _ _ _ _ h G (lv_sub hl [2, 3, 0] rfl)
                · replace h := gt_s q80 h
                  refine lv_aload_n hx hb dX10_book_97 rfl (lv_at hl 2 rfl) ?_
                  refine lv_iconst (v := 3) hx hb dX10_book_98 (by decide) ?_
                  refine lv_iload_n hx hb dX10_book_99 rfl (lv_at hl 1 rfl) ?_
                  obtain ⟨c83, hc81, h⟩ := gb_s h
                  refine gx_callv F G (va_runV (As := [.int 3, .int x37]) (rest := []) (gx_fix F) (c_X10_wrong l sa D ad cy N H.size hN hI c0 c44 hc81) (cwV 2 hts gX10_book_X10_wrong rfl rfl rfl (by decide +kernel) ⟨by decide, by decide⟩) (gx_rec F G ht2 (gwe_10 hk1) rfl) rfl rfl hl.1 rfl (lv_room (Nat.le_of_ble_eq_true rfl)) dX10_book_100 ⟨Nat.zero_le _, Nat.zero_le _⟩) (fun H locs G => ?_)
                  exact JK46 _ _ _ _ h G (lv_sub hl [2, 3, 0] rfl)
      exact L15 n _ _ _ _ _ hb15 G (lv_sub hl [1, 0] rfl)
    · replace h := gf_s q11 h
      refine lv_iconst (v := 0) hx hb dX10_book_37 (by decide) ?_
      cases h
      rw [← hQ]
      exact gx_iret F G hr hlocks dX10_book_38
  obtain ⟨K84, eK84, h⟩ := gj_s h
  have JK84 : ∀ (H : Heap) (locs : List Loc) (ls : Array Slot), K84 () = some (rZ, cZ) → gW D ad cy N A s.heap c0 c3 H locs → lv_has ls 7 [(0, .ref (ad t)), (1, .int a1)] → W p l e rmX10_book s m args below meth cod H locs 0 0 Q (F0 m 24 ls [.ref (ad t)]) := by
    intro  H locs ls h G hl
    rw [eK84] at h
    refine lv_iconst (v := 1) hx hb dX10_book_24 (by decide) ?_
    refine lv_goto (tgt := 29) hx hb dX10_book_25 (by decide) ?_
    exact JK7 _ _ _ _ h G hl
  refine lv_if_eq (tgt := 24) hx hb dX10_book_15 (by decide) (fun q85 => ?_) (fun q85 => ?_)
  · replace h := gt_s q85 h
    exact JK84  _ _ _ h G hl
  · replace h := gf_s q85 h
    refine lv_iload_n hx hb dX10_book_18 rfl (lv_at hl 1 rfl) ?_
    refine lv_bipush (v := 60) hx hb dX10_book_19 (by decide) ?_
    refine lv_icmp_le (tgt := 28) hx hb dX10_book_21 (by decide) (fun q86 => ?_) (fun q86 => ?_)
    · replace h := gt_s q86 h
      refine lv_iconst (v := 0) hx hb dX10_book_28 (by decide) ?_
      exact JK7 _ _ _ _ h G hl
    · replace h := gf_s q86 h
      exact JK84  _ _ _ h G hl
def m_X10_fault (t : Nat) (c : gm) : Option (Int32 × gm) :=
  gc (gck t = 10) (gv (gm_r c t (upd (c.1 t) 0 0)) (fun (c3 : gm) => some ((c3.1 t 3), c3)))
abbrev rmX10_fault : Room := { frames := 0, cells := 0, slots := 0, locals := 0 }
set_option maxHeartbeats 4000000 in
set_option maxRecDepth 100000 in
theorem c_X10_fault (l : Launch) (sa : gSa) (D : va_G) (ad : Nat → Nat) (cy : Nat → ClassId) (N sz : Nat) (hN : 530 ≤ N) (hI : gI ad N) (c0 c : gm) {t : Nat} {rZ : Int32} {cZ : gm} (h : m_X10_fault t c = some (rZ, cZ)) : Met l yX10_fault wsX10_fault rmX10_fault (va_Pc [.ref (ad t)] (gP sa D ad cy N sz c0 c)) (va_Qi (fun (z : Int32) (_ : Unit) => z = rZ) (fun _ U => gE D ad cy N c0 cZ U) (gA ad N sz)) 0 0 (gA ad N sz) := by
  refine Met.ofW (cc := cX10_fault) (maxL := 1) (ret := (some .int)) (by decide) rfl ?_
  intro p e s m args below meth cod s₁ B hml hv
  obtain ⟨rfl, hsz, hP, hK, hZ⟩ := hv
  have hx := B.exec
  have hb := B.bytes
  have hr := B.returns
  have hts := atoms_spec (ws := wsX10_fault) B.pre
  have hown : s.vm.findClass RX10 = some m.cls := findClass_of_methodNamed B.named
  have hlocks := B.notSynchronized
  subst hsz
  have hl := lv_entry ([.ref (ad t)]) (n := 1) (Nat.le_of_ble_eq_true rfl)
  rw [lg_entry_eq]
  generalize (lg_sl ([.ref (ad t)]) ++ List.replicate (1 - (lg_sl ([.ref (ad t)])).length) Slot.unset).toArray = ls at hl ⊢
  have hl : lv_has ls 1 [(0, .ref (ad t))] := hl
  have in10 : ∀ w ∈ wsX100, w ∈ wsX10_fault := by decide +kernel
  generalize hargs : ([.ref (ad t)] : List Value).toArray = args at *
  generalize hAe : gA ad N s.heap.size = A
  have F : gF sa D ad cy N A p s m args cod cX10_fault 1 wsX10_fault RX10 := ⟨hx, hb, hml, hown, hts, hK, hI, by rw [← hAe]; exact gA_ad, by rw [← hAe]; exact gA_sz, by rw [← hAe]; exact hZ⟩
  have G : gW D ad cy N A s.heap c0 c s.heap [] := ⟨hP, va_S.rf⟩
  generalize hQ : MQ below (va_Qi (fun (z : Int32) (_ : Unit) => z = rZ) (fun _ U => gE D ad cy N c0 cZ U) A) args s 0 0 A = Q
  suffices hgen : ∀ (H : Heap) (locs : List Loc), gW D ad cy N A s.heap c0 c H locs → W p l e rmX10_fault s m args below meth cod H locs 0 0 Q (F0 m 0 ls []) from hgen _ _ G
  clear G
  intro H locs G
  unfold m_X10_fault at h
  refine lv_aload_n hx hb dX10_fault_0 rfl (lv_at hl 0 rfl) ?_
  refine lv_iconst (v := 0) hx hb dX10_fault_1 (by decide) ?_
  obtain ⟨hk1, h⟩ := gc_s h
  have ht2 : t < N := Nat.lt_of_lt_of_le (gck_lt10 hk1) hN
  refine fp_10_thrown F G hk1 ht2 in10 (by decide +kernel) dX10_fault_2 (fun H locs G => ?_)
  obtain ⟨c3, ec3⟩ : ∃ z, z = gm_r c t (upd (c.1 t) 0 0) := ⟨_, rfl⟩
  rw [← ec3] at G
  replace h := gv_s h c3 ec3
  refine lv_aload_n hx hb dX10_fault_5 rfl (lv_at hl 0 rfl) ?_
  refine fg_10_place F G hk1 ht2 in10 (by decide +kernel) dX10_fault_6 ?_
  cases h
  rw [← hQ]
  exact gx_iret F G hr hlocks dX10_fault_9
def m_X10_wearBy (n : Nat) (t : Nat) (a1 : Int32) (a2 : Int32) (a3 : Int32) (a4 : Int32) (a5 : Int32) (a6 : Int32) (a7 : Int32) (c : gm) : Option (Int32 × gm) :=
  gc (gck t = 10) (gv (gm_r c 421 (upd (c.1 421) (0 : Int32).toNatClampNeg a1)) (fun (c7 : gm) => gv (gm_r c7 421 (upd (c7.1 421) (1 : Int32).toNatClampNeg a2)) (fun (c9 : gm) => gv (gm_r c9 421 (upd (c9.1 421) (2 : Int32).toNatClampNeg a3)) (fun (c11 : gm) => gv (gm_r c11 421 (upd (c11.1 421) (3 : Int32).toNatClampNeg a4)) (fun (c13 : gm) => gv (gm_r c13 421 (upd (c13.1 421) (4 : Int32).toNatClampNeg a5)) (fun (c15 : gm) => gv (gm_r c15 421 (upd (c15.1 421) (5 : Int32).toNatClampNeg a6)) (fun (c17 : gm) => gv (gm_r c17 421 (upd (c17.1 421) (6 : Int32).toNatClampNeg a7)) (fun (c19 : gm) => gb2 (m_X10_byLaw n t c19) (fun (r21 : Int32) (c22 : gm) => some (r21, c22))))))))))
abbrev rmX10_wearBy : Room := { frames := 3, cells := 0, slots := 0, locals := 65 }
set_option maxHeartbeats 4000000 in
set_option maxRecDepth 100000 in
theorem c_X10_wearBy (l : Launch) (sa : gSa) (D : va_G) (ad : Nat → Nat) (cy : Nat → ClassId) (N sz : Nat) (hN : 530 ≤ N) (hI : gI ad N) (c0 c : gm) {n : Nat} {t : Nat} {a1 : Int32} {a2 : Int32} {a3 : Int32} {a4 : Int32} {a5 : Int32} {a6 : Int32} {a7 : Int32} {rZ : Int32} {cZ : gm} (h : m_X10_wearBy n t a1 a2 a3 a4 a5 a6 a7 c = some (rZ, cZ)) : Met l yX10_wearBy wsX10_wearBy rmX10_wearBy (va_Pc [.ref (ad t), .int a1, .int a2, .int a3, .int a4, .int a5, .int a6, .int a7] (gP sa D ad cy N sz c0 c)) (va_Qi (fun (z : Int32) (_ : Unit) => z = rZ) (fun _ U => gE D ad cy N c0 cZ U) (gA ad N sz)) 0 0 (gA ad N sz) := by
  refine Met.ofW (cc := cX10_wearBy) (maxL := 8) (ret := (some .int)) (by decide) rfl ?_
  intro p e s m args below meth cod s₁ B hml hv
  obtain ⟨rfl, hsz, hP, hK, hZ⟩ := hv
  have hx := B.exec
  have hb := B.bytes
  have hr := B.returns
  have hts := atoms_spec (ws := wsX10_wearBy) B.pre
  have hown : s.vm.findClass RX10 = some m.cls := findClass_of_methodNamed B.named
  have hlocks := B.notSynchronized
  subst hsz
  have hl := lv_entry ([.ref (ad t), .int a1, .int a2, .int a3, .int a4, .int a5, .int a6, .int a7]) (n := 8) (Nat.le_of_ble_eq_true rfl)
  rw [lg_entry_eq]
  generalize (lg_sl ([.ref (ad t), .int a1, .int a2, .int a3, .int a4, .int a5, .int a6, .int a7]) ++ List.replicate (8 - (lg_sl ([.ref (ad t), .int a1, .int a2, .int a3, .int a4, .int a5, .int a6, .int a7])).length) Slot.unset).toArray = ls at hl ⊢
  have hl : lv_has ls 8 [(0, .ref (ad t)), (1, .int a1), (2, .int a2), (3, .int a3), (4, .int a4), (5, .int a5), (6, .int a6), (7, .int a7)] := hl
  have in10 : ∀ w ∈ wsX100, w ∈ wsX10_wearBy := by decide +kernel
  generalize hargs : ([.ref (ad t), .int a1, .int a2, .int a3, .int a4, .int a5, .int a6, .int a7] : List Value).toArray = args at *
  generalize hAe : gA ad N s.heap.size = A
  have F : gF sa D ad cy N A p s m args cod cX10_wearBy 8 wsX10_wearBy RX10 := ⟨hx, hb, hml, hown, hts, hK, hI, by rw [← hAe]; exact gA_ad, by rw [← hAe]; exact gA_sz, by rw [← hAe]; exact hZ⟩
  have G : gW D ad cy N A s.heap c0 c s.heap [] := ⟨hP, va_S.rf⟩
  generalize hQ : MQ below (va_Qi (fun (z : Int32) (_ : Unit) => z = rZ) (fun _ U => gE D ad cy N c0 cZ U) A) args s 0 0 A = Q
  suffices hgen : ∀ (H : Heap) (locs : List Loc), gW D ad cy N A s.heap c0 c H locs → W p l e rmX10_wearBy s m args below meth cod H locs 0 0 Q (F0 m 0 ls []) from hgen _ _ G
  clear G
  intro H locs G
  unfold m_X10_wearBy at h
  refine lv_aload_n hx hb dX10_wearBy_0 rfl (lv_at hl 0 rfl) ?_
  obtain ⟨hk1, h⟩ := gc_s h
  have ht2 : t < N := Nat.lt_of_lt_of_le (gck_lt10 hk1) hN
  refine fg_10_known F G hk1 ht2 in10 (by decide +kernel) dX10_wearBy_1 ?_
  have hk3 : gck 421 = 22 := rfl
  have ht4 : 421 < N := Nat.lt_of_lt_of_le (by decide) hN
  have hn5 : gal 421 = 7 := rfl
  refine lv_iconst (v := 0) hx hb dX10_wearBy_4 (by decide) ?_
  refine lv_iload_n hx hb dX10_wearBy_5 rfl (lv_at hl 1 rfl) ?_
  refine gx_mis F G hk3 ht4 hn5 (by decide) dX10_wearBy_6 (fun H locs G => ?_)
  obtain ⟨c7, ec7⟩ : ∃ z, z = gm_r c 421 (upd (c.1 421) (0 : Int32).toNatClampNeg a1) := ⟨_, rfl⟩
  rw [← ec7] at G
  replace h := gv_s h c7 ec7
  refine lv_aload_n hx hb dX10_wearBy_7 rfl (lv_at hl 0 rfl) ?_
  refine fg_10_known F G hk1 ht2 in10 (by decide +kernel) dX10_wearBy_8 ?_
  refine lv_iconst (v := 1) hx hb dX10_wearBy_11 (by decide) ?_
  refine lv_iload_n hx hb dX10_wearBy_12 rfl (lv_at hl 2 rfl) ?_
  refine gx_mis F G hk3 ht4 hn5 (by decide) dX10_wearBy_13 (fun H locs G => ?_)
  obtain ⟨c9, ec9⟩ : ∃ z, z = gm_r c7 421 (upd (c7.1 421) (1 : Int32).toNatClampNeg a2) := ⟨_, rfl⟩
  rw [← ec9] at G
  replace h := gv_s h c9 ec9
  refine lv_aload_n hx hb dX10_wearBy_14 rfl (lv_at hl 0 rfl) ?_
  refine fg_10_known F G hk1 ht2 in10 (by decide +kernel) dX10_wearBy_15 ?_
  refine lv_iconst (v := 2) hx hb dX10_wearBy_18 (by decide) ?_
  refine lv_iload_n hx hb dX10_wearBy_19 rfl (lv_at hl 3 rfl) ?_
  refine gx_mis F G hk3 ht4 hn5 (by decide) dX10_wearBy_20 (fun H locs G => ?_)
  obtain ⟨c11, ec11⟩ : ∃ z, z = gm_r c9 421 (upd (c9.1 421) (2 : Int32).toNatClampNeg a3) := ⟨_, rfl⟩
  rw [← ec11] at G
  replace h := gv_s h c11 ec11
  refine lv_aload_n hx hb dX10_wearBy_21 rfl (lv_at hl 0 rfl) ?_
  refine fg_10_known F G hk1 ht2 in10 (by decide +kernel) dX10_wearBy_22 ?_
  refine lv_iconst (v := 3) hx hb dX10_wearBy_25 (by decide) ?_
  refine lv_iload hx hb dX10_wearBy_26 (lv_at hl 4 rfl) ?_
  refine gx_mis F G hk3 ht4 hn5 (by decide) dX10_wearBy_28 (fun H locs G => ?_)
  obtain ⟨c13, ec13⟩ : ∃ z, z = gm_r c11 421 (upd (c11.1 421) (3 : Int32).toNatClampNeg a4) := ⟨_, rfl⟩
  rw [← ec13] at G
  replace h := gv_s h c13 ec13
  refine lv_aload_n hx hb dX10_wearBy_29 rfl (lv_at hl 0 rfl) ?_
  refine fg_10_known F G hk1 ht2 in10 (by decide +kernel) dX10_wearBy_30 ?_
  refine lv_iconst (v := 4) hx hb dX10_wearBy_33 (by decide) ?_
  refine lv_iload hx hb dX10_wearBy_34 (lv_at hl 5 rfl) ?_
  refine gx_mis F G hk3 ht4 hn5 (by decide) dX10_wearBy_36 (fun H locs G => ?_)
  obtain ⟨c15, ec15⟩ : ∃ z, z = gm_r c13 421 (upd (c13.1 421) (4 : Int32).toNatClampNeg a5) := ⟨_, rfl⟩
  rw [← ec15] at G
  replace h := gv_s h c15 ec15
  refine lv_aload_n hx hb dX10_wearBy_37 rfl (lv_at hl 0 rfl) ?_
  refine fg_10_known F G hk1 ht2 in10 (by decide +kernel) dX10_wearBy_38 ?_
  refine lv_iconst (v := 5) hx hb dX10_wearBy_41 (by decide) ?_
  refine lv_iload hx hb dX10_wearBy_42 (lv_at hl 6 rfl) ?_
  refine gx_mis F G hk3 ht4 hn5 (by decide) dX10_wearBy_44 (fun H locs G => ?_)
  obtain ⟨c17, ec17⟩ : ∃ z, z = gm_r c15 421 (upd (c15.1 421) (5 : Int32).toNatClampNeg a6) := ⟨_, rfl⟩
  rw [← ec17] at G
  replace h := gv_s h c17 ec17
  refine lv_aload_n hx hb dX10_wearBy_45 rfl (lv_at hl 0 rfl) ?_
  refine fg_10_known F G hk1 ht2 in10 (by decide +kernel) dX10_wearBy_46 ?_
  refine lv_bipush (v := 6) hx hb dX10_wearBy_49 (by decide) ?_
  refine lv_iload hx hb dX10_wearBy_51 (lv_at hl 7 rfl) ?_
  refine gx_mis F G hk3 ht4 hn5 (by decide) dX10_wearBy_53 (fun H locs G => ?_)
  obtain ⟨c19, ec19⟩ : ∃ z, z = gm_r c17 421 (upd (c17.1 421) (6 : Int32).toNatClampNeg a7) := ⟨_, rfl⟩
  rw [← ec19] at G
  replace h := gv_s h c19 ec19
  refine lv_aload_n hx hb dX10_wearBy_54 rfl (lv_at hl 0 rfl) ?_
  obtain ⟨r21, c22, hc20, h⟩ := gb2_s h
  refine gx_calli F G (va_runV (As := []) (rest := []) (gx_fix F) (c_X10_byLaw l sa D ad cy N H.size hN hI c0 c19 hc20) (cwV 0 hts gX10_wearBy_X10_byLaw rfl rfl rfl (by decide +kernel) ⟨by decide, by decide⟩) (gx_rec F G ht2 (gwe_10 hk1) rfl) rfl rfl hl.1 rfl (lv_room (Nat.le_of_ble_eq_true rfl)) dX10_wearBy_55 ⟨Nat.zero_le _, Nat.zero_le _⟩) (fun H locs G => ?_)
  cases h
  rw [← hQ]
  exact gx_iret F G hr hlocks dX10_wearBy_58
def m_X10_ones_L4 (a1 : Int32) (y2 : Int32) (y3 : Int32) : Option ((Int32 × Int32) ⊕ (Int32)) :=
  (if 10 ≤ y3 then some (.inr y2) else gv (y2 + ((a1 >>> (y3 &&& 31)) &&& 1)) (fun (x6 : Int32) => gv (y3 + 1) (fun (x7 : Int32) => some (.inl (x6, x7)))))
def m_X10_ones (n : Nat) (a1 : Int32) : Option (Int32) :=
  gb (gloop (gu2 (fun (y2 : Int32) (y3 : Int32) => m_X10_ones_L4 a1 y2 y3)) n (0, 0)) (fun (z4 : Int32) => some z4)
abbrev rmX10_ones : Room := { frames := 0, cells := 0, slots := 0, locals := 0 }
set_option maxHeartbeats 4000000 in
set_option maxRecDepth 100000 in
theorem c_X10_ones (l : Launch) (sa : gSa) (D : va_G) (ad : Nat → Nat) (cy : Nat → ClassId) (N sz : Nat) (hN : 530 ≤ N) (hI : gI ad N) (c0 c : gm) {n : Nat} {a1 : Int32} {rZ : Int32} (h : m_X10_ones n a1 = some rZ) : Met l yX10_ones wsX10_ones rmX10_ones (va_Pc [.int a1] (gP sa D ad cy N sz c0 c)) (va_Qi (fun (z : Int32) (_ : Unit) => z = rZ) (fun _ U => gE D ad cy N c0 c U) (gA ad N sz)) 0 0 (gA ad N sz) := by
  refine Met.ofW (cc := cX10_ones) (maxL := 3) (ret := (some .int)) (by decide) rfl ?_
  intro p e s m args below meth cod s₁ B hml hv
  obtain ⟨rfl, hsz, hP, hK, hZ⟩ := hv
  have hx := B.exec
  have hb := B.bytes
  have hr := B.returns
  have hts := atoms_spec (ws := wsX10_ones) B.pre
  have hown : s.vm.findClass RX10 = some m.cls := findClass_of_methodNamed B.named
  have hlocks := B.notSynchronized
  subst hsz
  have hl := lv_entry ([.int a1]) (n := 3) (Nat.le_of_ble_eq_true rfl)
  rw [lg_entry_eq]
  generalize (lg_sl ([.int a1]) ++ List.replicate (3 - (lg_sl ([.int a1])).length) Slot.unset).toArray = ls at hl ⊢
  have hl : lv_has ls 3 [(0, .int a1)] := hl
  generalize hargs : ([.int a1] : List Value).toArray = args at *
  generalize hAe : gA ad N s.heap.size = A
  have F : gF sa D ad cy N A p s m args cod cX10_ones 3 wsX10_ones RX10 := ⟨hx, hb, hml, hown, hts, hK, hI, by rw [← hAe]; exact gA_ad, by rw [← hAe]; exact gA_sz, by rw [← hAe]; exact hZ⟩
  have G : gW D ad cy N A s.heap c0 c s.heap [] := ⟨hP, va_S.rf⟩
  generalize hQ : MQ below (va_Qi (fun (z : Int32) (_ : Unit) => z = rZ) (fun _ U => gE D ad cy N c0 c U) A) args s 0 0 A = Q
  suffices hgen : ∀ (H : Heap) (locs : List Loc), gW D ad cy N A s.heap c0 c H locs → W p l e rmX10_ones s m args below meth cod H locs 0 0 Q (F0 m 0 ls []) from hgen _ _ G
  clear G
  intro H locs G
  unfold m_X10_ones at h
  refine lv_iconst (v := 0) hx hb dX10_ones_0 (by decide) ?_
  refine lv_istore_n (lv' := [(1, .int 0), (0, .int a1)]) hx hb dX10_ones_1 rfl hl (by decide) rfl (fun ls hl => ?_)
  refine lv_iconst (v := 0) hx hb dX10_ones_2 (by decide) ?_
  refine lv_istore_n (lv' := [(2, .int 0), (1, .int 0), (0, .int a1)]) hx hb dX10_ones_3 rfl hl (by decide) rfl (fun ls hl => ?_)
  obtain ⟨b1, hb1, hK1⟩ := gb_s h
  have E1 : ∀ (z4 : Int32) (H : Heap) (locs : List Loc) (ls : Array Slot), (z4 : Int32) = b1 → gW D ad cy N A s.heap c0 c H locs → lv_has ls 3 [(1, .int z4)] → W p l e rmX10_ones s m args below meth cod H locs 0 0 Q (F0 m 24 ls []) := by
    intro z4 H locs ls hq1 G hl
    subst hq1
    replace hK1 := hK1
    have h := hK1
    refine lv_iload_n hx hb dX10_ones_24 rfl (lv_at hl 0 rfl) ?_
    cases h
    rw [← hQ]
    exact gx_iret F G hr hlocks dX10_ones_25
  have L1 : ∀ (n9 : Nat) (y2 : Int32) (y3 : Int32) (H : Heap) (locs : List Loc) (ls : Array Slot), gloop (gu2 (fun (y2 : Int32) (y3 : Int32) => m_X10_ones_L4 a1 y2 y3)) n9 (y2, y3) = some b1 → gW D ad cy N A s.heap c0 c H locs → lv_has ls 3 [(0, .int a1), (1, .int y2), (2, .int y3)] → W p l e rmX10_ones s m args below meth cod H locs 0 0 Q (F0 m 4 ls []) := by
    intro n9
    induction n9 with
    | zero => intro y2 y3 H locs ls h; exact (gloop_0 h).elim
    | succ n9 ih =>
      intro y2 y3 H locs ls h G hl
      have ih1 := ih
      obtain ⟨o1, h, hn1⟩ := gloop_s h
      replace h := gu2_s h
      unfold m_X10_ones_L4 at h
      refine lv_iload_n hx hb dX10_ones_4 rfl (lv_at hl 2 rfl) ?_
      refine lv_bipush (v := 10) hx hb dX10_ones_5 (by decide) ?_
      refine lv_icmp_ge (tgt := 24) hx hb dX10_ones_7 (by decide) (fun q5 => ?_) (fun q5 => ?_)
      · replace h := gt_s q5 h
        cases h
        exact E1 _ _ _ _ (gnx_r hn1) G (lv_sub hl [1] rfl)
      · replace h := gf_s q5 h
        refine lv_iload_n hx hb dX10_ones_10 rfl (lv_at hl 1 rfl) ?_
        refine lv_iload_n hx hb dX10_ones_11 rfl (lv_at hl 0 rfl) ?_
        refine lv_iload_n hx hb dX10_ones_12 rfl (lv_at hl 2 rfl) ?_
        refine lv_ishr hx hb dX10_ones_13 ?_
        refine lv_iconst (v := 1) hx hb dX10_ones_14 (by decide) ?_
        refine lv_iand hx hb dX10_ones_15 ?_
        refine lv_iadd hx hb dX10_ones_16 ?_
        refine lv_topi (fun x6 ex6 => ?_)
        replace h := gv_s h x6 ex6
        refine lv_istore_n (lv' := [(1, .int x6), (0, .int a1), (2, .int y3)]) hx hb dX10_ones_17 rfl hl (by decide) rfl (fun ls hl => ?_)
        obtain ⟨x7, ex7⟩ : ∃ z : Int32, z = y3 + 1 := ⟨_, rfl⟩
        replace h := gv_s h x7 ex7
        refine lv_iinc (v := x7) (lv' := [(2, .int x7), (1, .int x6), (0, .int a1)]) hx hb dX10_ones_18 hl (k := 2) rfl (by rw [ex7]; rfl) (by decide) rfl (fun ls hl => ?_)
        refine lv_goto (tgt := 4) hx hb dX10_ones_21 (by decide) ?_
        cases h
        exact ih1 _ _ _ _ _ hn1 G (lv_sub hl [2, 1, 0] rfl)
  exact L1 n _ _ _ _ _ hb1 G (lv_sub hl [2, 1, 0] rfl)
def m_X10_criesOf_L4 (a1 : Nat) (a2 : Int32) (c : gm) (y2 : Int32) (y3 : Int32) : Option ((Int32 × Int32) ⊕ (Int32)) :=
  gc (gck a1 = 22) (gc (0 ≤ (56 : Int32).toInt ∧ (56 : Int32).toInt < ((gal a1) : Nat)) ((if (c.1 a1 (56 : Int32).toNatClampNeg) ≤ y3 then some (.inr y2) else gc (0 ≤ (16 + (4 * y3)).toInt ∧ (16 + (4 * y3)).toInt < ((gal a1) : Nat)) (gj (fun (v10 : Int32) => gv (y2 ||| v10) (fun (x12 : Int32) => gv (y3 + 1) (fun (x13 : Int32) => some (.inl (x12, x13))))) (fun K11 => gj (fun (_ : Unit) => K11 ((1 : Int32) <<< (y3 &&& 31))) (fun K14 => (if (c.1 a1 (16 + (4 * y3)).toNatClampNeg) = a2 then K14 () else gc (0 ≤ ((16 + (4 * y3)) + 2).toInt ∧ ((16 + (4 * y3)) + 2).toInt < ((gal a1) : Nat)) ((if (c.1 a1 ((16 + (4 * y3)) + 2).toNatClampNeg) = a2 then K14 () else K11 0)))))))))
def m_X10_criesOf (n : Nat) (a1 : Nat) (a2 : Int32) (c : gm) : Option (Int32) :=
  gb (gloop (gu2 (fun (y2 : Int32) (y3 : Int32) => m_X10_criesOf_L4 a1 a2 c y2 y3)) n (0, 0)) (fun (z4 : Int32) => some z4)
abbrev rmX10_criesOf : Room := { frames := 0, cells := 0, slots := 0, locals := 0 }
set_option maxHeartbeats 4000000 in
set_option maxRecDepth 100000 in
theorem c_X10_criesOf (l : Launch) (sa : gSa) (D : va_G) (ad : Nat → Nat) (cy : Nat → ClassId) (N sz : Nat) (hN : 530 ≤ N) (hI : gI ad N) (c0 c : gm) {n : Nat} {a1 : Nat} {a2 : Int32} {rZ : Int32} (h : m_X10_criesOf n a1 a2 c = some rZ) : Met l yX10_criesOf wsX10_criesOf rmX10_criesOf (va_Pc [.ref (ad a1), .int a2] (gP sa D ad cy N sz c0 c)) (va_Qi (fun (z : Int32) (_ : Unit) => z = rZ) (fun _ U => gE D ad cy N c0 c U) (gA ad N sz)) 0 0 (gA ad N sz) := by
  refine Met.ofW (cc := cX10_criesOf) (maxL := 4) (ret := (some .int)) (by decide) rfl ?_
  intro p e s m args below meth cod s₁ B hml hv
  obtain ⟨rfl, hsz, hP, hK, hZ⟩ := hv
  have hx := B.exec
  have hb := B.bytes
  have hr := B.returns
  have hts := atoms_spec (ws := wsX10_criesOf) B.pre
  have hown : s.vm.findClass RX10 = some m.cls := findClass_of_methodNamed B.named
  have hlocks := B.notSynchronized
  subst hsz
  have hl := lv_entry ([.ref (ad a1), .int a2]) (n := 4) (Nat.le_of_ble_eq_true rfl)
  rw [lg_entry_eq]
  generalize (lg_sl ([.ref (ad a1), .int a2]) ++ List.replicate (4 - (lg_sl ([.ref (ad a1), .int a2])).length) Slot.unset).toArray = ls at hl ⊢
  have hl : lv_has ls 4 [(0, .ref (ad a1)), (1, .int a2)] := hl
  generalize hargs : ([.ref (ad a1), .int a2] : List Value).toArray = args at *
  generalize hAe : gA ad N s.heap.size = A
  have F : gF sa D ad cy N A p s m args cod cX10_criesOf 4 wsX10_criesOf RX10 := ⟨hx, hb, hml, hown, hts, hK, hI, by rw [← hAe]; exact gA_ad, by rw [← hAe]; exact gA_sz, by rw [← hAe]; exact hZ⟩
  have G : gW D ad cy N A s.heap c0 c s.heap [] := ⟨hP, va_S.rf⟩
  generalize hQ : MQ below (va_Qi (fun (z : Int32) (_ : Unit) => z = rZ) (fun _ U => gE D ad cy N c0 c U) A) args s 0 0 A = Q
  suffices hgen : ∀ (H : Heap) (locs : List Loc), gW D ad cy N A s.heap c0 c H locs → W p l e rmX10_criesOf s m args below meth cod H locs 0 0 Q (F0 m 0 ls []) from hgen _ _ G
  clear G
  intro H locs G
  unfold m_X10_criesOf at h
  refine lv_iconst (v := 0) hx hb dX10_criesOf_0 (by decide) ?_
  refine lv_istore_n (lv' := [(2, .int 0), (0, .ref (ad a1)), (1, .int a2)]) hx hb dX10_criesOf_1 rfl hl (by decide) rfl (fun ls hl => ?_)
  refine lv_iconst (v := 0) hx hb dX10_criesOf_2 (by decide) ?_
  refine lv_istore_n (lv' := [(3, .int 0), (2, .int 0), (0, .ref (ad a1)), (1, .int a2)]) hx hb dX10_criesOf_3 rfl hl (by decide) rfl (fun ls hl => ?_)
  obtain ⟨b1, hb1, hK1⟩ := gb_s h
  have E1 : ∀ (z4 : Int32) (H : Heap) (locs : List Loc) (ls : Array Slot), (z4 : Int32) = b1 → gW D ad cy N A s.heap c0 c H locs → lv_has ls 4 [(2, .int z4)] → W p l e rmX10_criesOf s m args below meth cod H locs 0 0 Q (F0 m 54 ls []) := by
    intro z4 H locs ls hq1 G hl
    subst hq1
    replace hK1 := hK1
    have h := hK1
    refine lv_iload_n hx hb dX10_criesOf_54 rfl (lv_at hl 0 rfl) ?_
    cases h
    rw [← hQ]
    exact gx_iret F G hr hlocks dX10_criesOf_55
  have L1 : ∀ (n9 : Nat) (y2 : Int32) (y3 : Int32) (H : Heap) (locs : List Loc) (ls : Array Slot), gloop (gu2 (fun (y2 : Int32) (y3 : Int32) => m_X10_criesOf_L4 a1 a2 c y2 y3)) n9 (y2, y3) = some b1 → gW D ad cy N A s.heap c0 c H locs → lv_has ls 4 [(0, .ref (ad a1)), (1, .int a2), (2, .int y2), (3, .int y3)] → W p l e rmX10_criesOf s m args below meth cod H locs 0 0 Q (F0 m 4 ls []) := by
    intro n9
    induction n9 with
    | zero => intro y2 y3 H locs ls h; exact (gloop_0 h).elim
    | succ n9 ih =>
      intro y2 y3 H locs ls h G hl
      have ih1 := ih
      obtain ⟨o1, h, hn1⟩ := gloop_s h
      replace h := gu2_s h
      unfold m_X10_criesOf_L4 at h
      refine lv_iload_n hx hb dX10_criesOf_4 rfl (lv_at hl 3 rfl) ?_
      refine lv_aload_n hx hb dX10_criesOf_5 rfl (lv_at hl 0 rfl) ?_
      refine lv_bipush (v := 56) hx hb dX10_criesOf_6 (by decide) ?_
      obtain ⟨hk5, h⟩ := gc_s h
      have ht6 : a1 < N := Nat.lt_of_lt_of_le (gck_lt22 hk5) hN
      obtain ⟨hi7, h⟩ := gc_s h
      refine gx_mia F G hk5 ht6 rfl hi7 dX10_criesOf_8 ?_
      refine lv_icmp_ge (tgt := 54) hx hb dX10_criesOf_9 (by decide) (fun q8 => ?_) (fun q8 => ?_)
      · replace h := gt_s q8 h
        cases h
        exact E1 _ _ _ _ (gnx_r hn1) G (lv_sub hl [2] rfl)
      · replace h := gf_s q8 h
        refine lv_iload_n hx hb dX10_criesOf_12 rfl (lv_at hl 2 rfl) ?_
        refine lv_aload_n hx hb dX10_criesOf_13 rfl (lv_at hl 0 rfl) ?_
        refine lv_bipush (v := 16) hx hb dX10_criesOf_14 (by decide) ?_
        refine lv_iconst (v := 4) hx hb dX10_criesOf_16 (by decide) ?_
        refine lv_iload_n hx hb dX10_criesOf_17 rfl (lv_at hl 3 rfl) ?_
        refine lv_imul hx hb dX10_criesOf_18 ?_
        refine lv_iadd hx hb dX10_criesOf_19 ?_
        obtain ⟨hi9, h⟩ := gc_s h
        refine gx_mia F G hk5 ht6 rfl hi9 dX10_criesOf_20 ?_
        refine lv_iload_n hx hb dX10_criesOf_21 rfl (lv_at hl 1 rfl) ?_
        obtain ⟨K11, eK11, h⟩ := gj_s h
        have JK11 : ∀ (v10 : Int32) (H : Heap) (locs : List Loc) (ls : Array Slot), K11 v10 = some o1 → gW D ad cy N A s.heap c0 c H locs → lv_has ls 4 [(0, .ref (ad a1)), (1, .int a2), (3, .int y3)] → W p l e rmX10_criesOf s m args below meth cod H locs 0 0 Q (F0 m 46 ls [.int v10, .int y2]) := by
          intro v10 H locs ls h G hl
          rw [eK11] at h
          refine lv_ior hx hb dX10_criesOf_46 ?_
          refine lv_topi (fun x12 ex12 => ?_)
          replace h := gv_s h x12 ex12
          refine lv_istore_n (lv' := [(2, .int x12), (0, .ref (ad a1)), (1, .int a2), (3, .int y3)]) hx hb dX10_criesOf_47 rfl hl (by decide) rfl (fun ls hl => ?_)
          obtain ⟨x13, ex13⟩ : ∃ z : Int32, z = y3 + 1 := ⟨_, rfl⟩
          replace h := gv_s h x13 ex13
          refine lv_iinc (v := x13) (lv' := [(3, .int x13), (2, .int x12), (0, .ref (ad a1)), (1, .int a2)]) hx hb dX10_criesOf_48 hl (k := 3) rfl (by rw [ex13]; rfl) (by decide) rfl (fun ls hl => ?_)
          refine lv_goto (tgt := 4) hx hb dX10_criesOf_51 (by decide) ?_
          cases h
          exact ih1 _ _ _ _ _ hn1 G (lv_sub hl [2, 3, 1, 0] rfl)
        obtain ⟨K14, eK14, h⟩ := gj_s h
        have JK14 : ∀ (H : Heap) (locs : List Loc) (ls : Array Slot), K14 () = some o1 → gW D ad cy N A s.heap c0 c H locs → lv_has ls 4 [(0, .ref (ad a1)), (1, .int a2), (3, .int y3)] → W p l e rmX10_criesOf s m args below meth cod H locs 0 0 Q (F0 m 39 ls [.int y2]) := by
          intro  H locs ls h G hl
          rw [eK14] at h
          refine lv_iconst (v := 1) hx hb dX10_criesOf_39 (by decide) ?_
          refine lv_iload_n hx hb dX10_criesOf_40 rfl (lv_at hl 2 rfl) ?_
          refine lv_ishl hx hb dX10_criesOf_41 ?_
          refine lv_goto (tgt := 46) hx hb dX10_criesOf_42 (by decide) ?_
          exact JK11 _ _ _ _ h G hl
        refine lv_icmp_eq (tgt := 39) hx hb dX10_criesOf_22 (by decide) (fun q15 => ?_) (fun q15 => ?_)
        · replace h := gt_s q15 h
          exact JK14  _ _ _ h G (lv_sub hl [0, 1, 3] rfl)
        · replace h := gf_s q15 h
          refine lv_aload_n hx hb dX10_criesOf_25 rfl (lv_at hl 0 rfl) ?_
          refine lv_bipush (v := 16) hx hb dX10_criesOf_26 (by decide) ?_
          refine lv_iconst (v := 4) hx hb dX10_criesOf_28 (by decide) ?_
          refine lv_iload_n hx hb dX10_criesOf_29 rfl (lv_at hl 3 rfl) ?_
          refine lv_imul hx hb dX10_criesOf_30 ?_
          refine lv_iadd hx hb dX10_criesOf_31 ?_
          refine lv_iconst (v := 2) hx hb dX10_criesOf_32 (by decide) ?_
          refine lv_iadd hx hb dX10_criesOf_33 ?_
          obtain ⟨hi16, h⟩ := gc_s h
          refine gx_mia F G hk5 ht6 rfl hi16 dX10_criesOf_34 ?_
          refine lv_iload_n hx hb dX10_criesOf_35 rfl (lv_at hl 1 rfl) ?_
          refine lv_icmp_ne (tgt := 45) hx hb dX10_criesOf_36 (by decide) (fun q17 => ?_) (fun q17 => ?_)
          · replace h := gf_s q17 h
            refine lv_iconst (v := 0) hx hb dX10_criesOf_45 (by decide) ?_
            exact JK11 _ _ _ _ h G (lv_sub hl [0, 1, 3] rfl)
          · replace h := gt_s q17 h
            exact JK14  _ _ _ h G (lv_sub hl [0, 1, 3] rfl)
  exact L1 n _ _ _ _ _ hb1 G (lv_sub hl [2, 3, 1, 0] rfl)
def m_X10_wearOf (n : Nat) (t : Nat) (a1 : Nat) (a2 : Int32) (c : gm) : Option (Int32 × gm) :=
  gc (gck a1 = 22) (gc (0 ≤ (0 + a2).toInt ∧ (0 + a2).toInt < ((gal a1) : Nat)) (gc (0 ≤ (8 + a2).toInt ∧ (8 + a2).toInt < ((gal a1) : Nat)) (gb (m_X10_criesOf n a1 a2 c) (fun (r6 : Int32) => gb (m_X10_ones n r6) (fun (r8 : Int32) => gc (0 ≤ (59 : Int32).toInt ∧ (59 : Int32).toInt < ((gal a1) : Nat)) (gc (0 ≤ (57 : Int32).toInt ∧ (57 : Int32).toInt < ((gal a1) : Nat)) (gc (gck t = 10) (gb2 (m_X10_wearBy n t (c.1 a1 (0 + a2).toNatClampNeg) (c.1 a1 (8 + a2).toNatClampNeg) r8 a2 (c.1 a1 (59 : Int32).toNatClampNeg) (c.1 a1 (57 : Int32).toNatClampNeg) (c.1 59 (3 : Int32).toNatClampNeg) c) (fun (r18 : Int32) (c19 : gm) => some (r18, c19))))))))))
abbrev rmX10_wearOf : Room := { frames := 4, cells := 0, slots := 0, locals := 92 }
set_option maxHeartbeats 4000000 in
set_option maxRecDepth 100000 in
theorem c_X10_wearOf (l : Launch) (sa : gSa) (D : va_G) (ad : Nat → Nat) (cy : Nat → ClassId) (N sz : Nat) (hN : 530 ≤ N) (hI : gI ad N) (c0 c : gm) {n : Nat} {t : Nat} {a1 : Nat} {a2 : Int32} {rZ : Int32} {cZ : gm} (h : m_X10_wearOf n t a1 a2 c = some (rZ, cZ)) : Met l yX10_wearOf wsX10_wearOf rmX10_wearOf (va_Pc [.ref (ad t), .ref (ad a1), .int a2] (gP sa D ad cy N sz c0 c)) (va_Qi (fun (z : Int32) (_ : Unit) => z = rZ) (fun _ U => gE D ad cy N c0 cZ U) (gA ad N sz)) 0 0 (gA ad N sz) := by
  refine Met.ofW (cc := cX10_wearOf) (maxL := 3) (ret := (some .int)) (by decide) rfl ?_
  intro p e s m args below meth cod s₁ B hml hv
  obtain ⟨rfl, hsz, hP, hK, hZ⟩ := hv
  have hx := B.exec
  have hb := B.bytes
  have hr := B.returns
  have hts := atoms_spec (ws := wsX10_wearOf) B.pre
  have hown : s.vm.findClass RX10 = some m.cls := findClass_of_methodNamed B.named
  have hlocks := B.notSynchronized
  subst hsz
  have hl := lv_entry ([.ref (ad t), .ref (ad a1), .int a2]) (n := 3) (Nat.le_of_ble_eq_true rfl)
  rw [lg_entry_eq]
  generalize (lg_sl ([.ref (ad t), .ref (ad a1), .int a2]) ++ List.replicate (3 - (lg_sl ([.ref (ad t), .ref (ad a1), .int a2])).length) Slot.unset).toArray = ls at hl ⊢
  have hl : lv_has ls 3 [(0, .ref (ad t)), (1, .ref (ad a1)), (2, .int a2)] := hl
  have in10 : ∀ w ∈ wsX100, w ∈ wsX10_wearOf := by decide +kernel
  generalize hargs : ([.ref (ad t), .ref (ad a1), .int a2] : List Value).toArray = args at *
  generalize hAe : gA ad N s.heap.size = A
  have F : gF sa D ad cy N A p s m args cod cX10_wearOf 3 wsX10_wearOf RX10 := ⟨hx, hb, hml, hown, hts, hK, hI, by rw [← hAe]; exact gA_ad, by rw [← hAe]; exact gA_sz, by rw [← hAe]; exact hZ⟩
  have G : gW D ad cy N A s.heap c0 c s.heap [] := ⟨hP, va_S.rf⟩
  generalize hQ : MQ below (va_Qi (fun (z : Int32) (_ : Unit) => z = rZ) (fun _ U => gE D ad cy N c0 cZ U) A) args s 0 0 A = Q
  suffices hgen : ∀ (H : Heap) (locs : List Loc), gW D ad cy N A s.heap c0 c H locs → W p l e rmX10_wearOf s m args below meth cod H locs 0 0 Q (F0 m 0 ls []) from hgen _ _ G
  clear G
  intro H locs G
  unfold m_X10_wearOf at h
  refine lv_aload_n hx hb dX10_wearOf_0 rfl (lv_at hl 0 rfl) ?_
  refine lv_aload_n hx hb dX10_wearOf_1 rfl (lv_at hl 1 rfl) ?_
  refine lv_iconst (v := 0) hx hb dX10_wearOf_2 (by decide) ?_
  refine lv_iload_n hx hb dX10_wearOf_3 rfl (lv_at hl 2 rfl) ?_
  refine lv_iadd hx hb dX10_wearOf_4 ?_
  obtain ⟨hk1, h⟩ := gc_s h
  have ht2 : a1 < N := Nat.lt_of_lt_of_le (gck_lt22 hk1) hN
  obtain ⟨hi3, h⟩ := gc_s h
  refine gx_mia F G hk1 ht2 rfl hi3 dX10_wearOf_5 ?_
  refine lv_aload_n hx hb dX10_wearOf_6 rfl (lv_at hl 1 rfl) ?_
  refine lv_bipush (v := 8) hx hb dX10_wearOf_7 (by decide) ?_
  refine lv_iload_n hx hb dX10_wearOf_9 rfl (lv_at hl 2 rfl) ?_
  refine lv_iadd hx hb dX10_wearOf_10 ?_
  obtain ⟨hi4, h⟩ := gc_s h
  refine gx_mia F G hk1 ht2 rfl hi4 dX10_wearOf_11 ?_
  refine lv_aload_n hx hb dX10_wearOf_12 rfl (lv_at hl 1 rfl) ?_
  refine lv_iload_n hx hb dX10_wearOf_13 rfl (lv_at hl 2 rfl) ?_
  obtain ⟨r6, hc5, h⟩ := gb_s h
  refine gx_calli F G (va_runS (As := [.ref (ad a1), .int a2]) (rest := [.int (c.1 a1 (8 + a2).toNatClampNeg), .int (c.1 a1 (0 + a2).toNatClampNeg), .ref (ad t)]) (gx_fix F) (c_X10_criesOf l sa D ad cy N H.size hN hI c0 c hc5) (va_cwS 2 hts gX10_wearOf_X10_criesOf rfl rfl rfl (by decide +kernel) ⟨by decide, by decide⟩) (gx_pre F G) rfl rfl hl.1 rfl (lv_room (Nat.le_of_ble_eq_true rfl)) dX10_wearOf_14 ⟨Nat.zero_le _, Nat.zero_le _⟩) (fun H locs G => ?_)
  obtain ⟨r8, hc7, h⟩ := gb_s h
  refine gx_calli F G (va_runS (As := [.int r6]) (rest := [.int (c.1 a1 (8 + a2).toNatClampNeg), .int (c.1 a1 (0 + a2).toNatClampNeg), .ref (ad t)]) (gx_fix F) (c_X10_ones l sa D ad cy N H.size hN hI c0 c hc7) (va_cwS 1 hts gX10_wearOf_X10_ones rfl rfl rfl (by decide +kernel) ⟨by decide, by decide⟩) (gx_pre F G) rfl rfl hl.1 rfl (lv_room (Nat.le_of_ble_eq_true rfl)) dX10_wearOf_17 ⟨Nat.zero_le _, Nat.zero_le _⟩) (fun H locs G => ?_)
  refine lv_iload_n hx hb dX10_wearOf_20 rfl (lv_at hl 2 rfl) ?_
  refine lv_aload_n hx hb dX10_wearOf_21 rfl (lv_at hl 1 rfl) ?_
  refine lv_bipush (v := 59) hx hb dX10_wearOf_22 (by decide) ?_
  obtain ⟨hi9, h⟩ := gc_s h
  refine gx_mia F G hk1 ht2 rfl hi9 dX10_wearOf_24 ?_
  refine lv_aload_n hx hb dX10_wearOf_25 rfl (lv_at hl 1 rfl) ?_
  refine lv_bipush (v := 57) hx hb dX10_wearOf_26 (by decide) ?_
  obtain ⟨hi10, h⟩ := gc_s h
  refine gx_mia F G hk1 ht2 rfl hi10 dX10_wearOf_28 ?_
  refine lv_aload_n hx hb dX10_wearOf_29 rfl (lv_at hl 0 rfl) ?_
  obtain ⟨hk11, h⟩ := gc_s h
  have ht12 : t < N := Nat.lt_of_lt_of_le (gck_lt10 hk11) hN
  refine fg_10_told F G hk11 ht12 in10 (by decide +kernel) dX10_wearOf_30 ?_
  have hk13 : gck 59 = 22 := rfl
  have ht14 : 59 < N := Nat.lt_of_lt_of_le (by decide) hN
  have hn15 : gal 59 = 4 := rfl
  refine lv_iconst (v := 3) hx hb dX10_wearOf_33 (by decide) ?_
  refine gx_mia F G hk13 ht14 hn15 (by decide) dX10_wearOf_34 ?_
  obtain ⟨r18, c19, hc17, h⟩ := gb2_s h
  refine gx_calli F G (va_runV (As := [.int (c.1 a1 (0 + a2).toNatClampNeg), .int (c.1 a1 (8 + a2).toNatClampNeg), .int r8, .int a2, .int (c.1 a1 (59 : Int32).toNatClampNeg), .int (c.1 a1 (57 : Int32).toNatClampNeg), .int (c.1 59 (3 : Int32).toNatClampNeg)]) (rest := []) (gx_fix F) (c_X10_wearBy l sa D ad cy N H.size hN hI c0 c hc17) (cwV 7 hts gX10_wearOf_X10_wearBy rfl rfl rfl (by decide +kernel) ⟨by decide, by decide⟩) (gx_rec F G ht12 (gwe_10 hk11) rfl) rfl rfl hl.1 rfl (lv_room (Nat.le_of_ble_eq_true rfl)) dX10_wearOf_35 ⟨Nat.zero_le _, Nat.zero_le _⟩) (fun H locs G => ?_)
  cases h
  rw [← hQ]
  exact gx_iret F G hr hlocks dX10_wearOf_38
def m_X10_standsBy (a1 : Int32) (a2 : Int32) (a3 : Int32) (a4 : Int32) : Option (Int32) :=
  gv (((a1 + a3) - 9) - a2) (fun (x1 : Int32) => (if x1 ≤ a4 then (if (-x1) ≤ a4 then some 0 else some 2) else some 1))
abbrev rmX10_standsBy : Room := { frames := 0, cells := 0, slots := 0, locals := 0 }
set_option maxHeartbeats 4000000 in
set_option maxRecDepth 100000 in
theorem c_X10_standsBy (l : Launch) (sa : gSa) (D : va_G) (ad : Nat → Nat) (cy : Nat → ClassId) (N sz : Nat) (hN : 530 ≤ N) (hI : gI ad N) (c0 c : gm) {a1 : Int32} {a2 : Int32} {a3 : Int32} {a4 : Int32} {rZ : Int32} (h : m_X10_standsBy a1 a2 a3 a4 = some rZ) : Met l yX10_standsBy wsX10_standsBy rmX10_standsBy (va_Pc [.int a1, .int a2, .int a3, .int a4] (gP sa D ad cy N sz c0 c)) (va_Qi (fun (z : Int32) (_ : Unit) => z = rZ) (fun _ U => gE D ad cy N c0 c U) (gA ad N sz)) 0 0 (gA ad N sz) := by
  refine Met.ofW (cc := cX10_standsBy) (maxL := 5) (ret := (some .int)) (by decide) rfl ?_
  intro p e s m args below meth cod s₁ B hml hv
  obtain ⟨rfl, hsz, hP, hK, hZ⟩ := hv
  have hx := B.exec
  have hb := B.bytes
  have hr := B.returns
  have hts := atoms_spec (ws := wsX10_standsBy) B.pre
  have hown : s.vm.findClass RX10 = some m.cls := findClass_of_methodNamed B.named
  have hlocks := B.notSynchronized
  subst hsz
  have hl := lv_entry ([.int a1, .int a2, .int a3, .int a4]) (n := 5) (Nat.le_of_ble_eq_true rfl)
  rw [lg_entry_eq]
  generalize (lg_sl ([.int a1, .int a2, .int a3, .int a4]) ++ List.replicate (5 - (lg_sl ([.int a1, .int a2, .int a3, .int a4])).length) Slot.unset).toArray = ls at hl ⊢
  have hl : lv_has ls 5 [(0, .int a1), (1, .int a2), (2, .int a3), (3, .int a4)] := hl
  generalize hargs : ([.int a1, .int a2, .int a3, .int a4] : List Value).toArray = args at *
  generalize hAe : gA ad N s.heap.size = A
  have F : gF sa D ad cy N A p s m args cod cX10_standsBy 5 wsX10_standsBy RX10 := ⟨hx, hb, hml, hown, hts, hK, hI, by rw [← hAe]; exact gA_ad, by rw [← hAe]; exact gA_sz, by rw [← hAe]; exact hZ⟩
  have G : gW D ad cy N A s.heap c0 c s.heap [] := ⟨hP, va_S.rf⟩
  generalize hQ : MQ below (va_Qi (fun (z : Int32) (_ : Unit) => z = rZ) (fun _ U => gE D ad cy N c0 c U) A) args s 0 0 A = Q
  suffices hgen : ∀ (H : Heap) (locs : List Loc), gW D ad cy N A s.heap c0 c H locs → W p l e rmX10_standsBy s m args below meth cod H locs 0 0 Q (F0 m 0 ls []) from hgen _ _ G
  clear G
  intro H locs G
  unfold m_X10_standsBy at h
  refine lv_iload_n hx hb dX10_standsBy_0 rfl (lv_at hl 0 rfl) ?_
  refine lv_iload_n hx hb dX10_standsBy_1 rfl (lv_at hl 2 rfl) ?_
  refine lv_iadd hx hb dX10_standsBy_2 ?_
  refine lv_bipush (v := 9) hx hb dX10_standsBy_3 (by decide) ?_
  refine lv_isub hx hb dX10_standsBy_5 ?_
  refine lv_iload_n hx hb dX10_standsBy_6 rfl (lv_at hl 1 rfl) ?_
  refine lv_isub hx hb dX10_standsBy_7 ?_
  refine lv_topi (fun x1 ex1 => ?_)
  replace h := gv_s h x1 ex1
  refine lv_istore (lv' := [(4, .int x1), (0, .int a1), (1, .int a2), (2, .int a3), (3, .int a4)]) hx hb dX10_standsBy_8 hl (by decide) rfl (fun ls hl => ?_)
  refine lv_iload hx hb dX10_standsBy_10 (lv_at hl 0 rfl) ?_
  refine lv_iload_n hx hb dX10_standsBy_12 rfl (lv_at hl 4 rfl) ?_
  refine lv_icmp_le (tgt := 20) hx hb dX10_standsBy_13 (by decide) (fun q2 => ?_) (fun q2 => ?_)
  · replace h := gt_s q2 h
    refine lv_iload hx hb dX10_standsBy_20 (lv_at hl 0 rfl) ?_
    refine lv_ineg hx hb dX10_standsBy_22 ?_
    refine lv_iload_n hx hb dX10_standsBy_23 rfl (lv_at hl 4 rfl) ?_
    refine lv_icmp_le (tgt := 31) hx hb dX10_standsBy_24 (by decide) (fun q3 => ?_) (fun q3 => ?_)
    · replace h := gt_s q3 h
      refine lv_iconst (v := 0) hx hb dX10_standsBy_31 (by decide) ?_
      cases h
      rw [← hQ]
      exact gx_iret F G hr hlocks dX10_standsBy_32
    · replace h := gf_s q3 h
      refine lv_iconst (v := 2) hx hb dX10_standsBy_27 (by decide) ?_
      refine lv_goto (tgt := 32) hx hb dX10_standsBy_28 (by decide) ?_
      cases h
      rw [← hQ]
      exact gx_iret F G hr hlocks dX10_standsBy_32
  · replace h := gf_s q2 h
    refine lv_iconst (v := 1) hx hb dX10_standsBy_16 (by decide) ?_
    refine lv_goto (tgt := 32) hx hb dX10_standsBy_17 (by decide) ?_
    cases h
    rw [← hQ]
    exact gx_iret F G hr hlocks dX10_standsBy_32
def m_X10_standsIn (t : Nat) (a1 : Nat) (a2 : Int32) (a3 : Int32) (a4 : Int32) (a5 : Int32) (c : gm) : Option (Int32) :=
  gc (gck a1 = 22) (gc (0 ≤ (0 + a2).toInt ∧ (0 + a2).toInt < ((gal a1) : Nat)) (gc (0 ≤ (0 + a4).toInt ∧ (0 + a4).toInt < ((gal a1) : Nat)) (gc (0 ≤ (57 : Int32).toInt ∧ (57 : Int32).toInt < ((gal a1) : Nat)) (gc (gck t = 10) (gb (m_X10_standsBy ((c.1 a1 (0 + a2).toNatClampNeg) * a3) ((c.1 a1 (0 + a4).toNatClampNeg) * a5) (c.1 a1 (57 : Int32).toNatClampNeg) (c.1 59 (3 : Int32).toNatClampNeg)) (fun (r13 : Int32) => some r13))))))
abbrev rmX10_standsIn : Room := { frames := 1, cells := 0, slots := 0, locals := 24 }
set_option maxHeartbeats 4000000 in
set_option maxRecDepth 100000 in
theorem c_X10_standsIn (l : Launch) (sa : gSa) (D : va_G) (ad : Nat → Nat) (cy : Nat → ClassId) (N sz : Nat) (hN : 530 ≤ N) (hI : gI ad N) (c0 c : gm) {t : Nat} {a1 : Nat} {a2 : Int32} {a3 : Int32} {a4 : Int32} {a5 : Int32} {rZ : Int32} (h : m_X10_standsIn t a1 a2 a3 a4 a5 c = some rZ) : Met l yX10_standsIn wsX10_standsIn rmX10_standsIn (va_Pc [.ref (ad t), .ref (ad a1), .int a2, .int a3, .int a4, .int a5] (gP sa D ad cy N sz c0 c)) (va_Qi (fun (z : Int32) (_ : Unit) => z = rZ) (fun _ U => gE D ad cy N c0 c U) (gA ad N sz)) 0 0 (gA ad N sz) := by
  refine Met.ofW (cc := cX10_standsIn) (maxL := 6) (ret := (some .int)) (by decide) rfl ?_
  intro p e s m args below meth cod s₁ B hml hv
  obtain ⟨rfl, hsz, hP, hK, hZ⟩ := hv
  have hx := B.exec
  have hb := B.bytes
  have hr := B.returns
  have hts := atoms_spec (ws := wsX10_standsIn) B.pre
  have hown : s.vm.findClass RX10 = some m.cls := findClass_of_methodNamed B.named
  have hlocks := B.notSynchronized
  subst hsz
  have hl := lv_entry ([.ref (ad t), .ref (ad a1), .int a2, .int a3, .int a4, .int a5]) (n := 6) (Nat.le_of_ble_eq_true rfl)
  rw [lg_entry_eq]
  generalize (lg_sl ([.ref (ad t), .ref (ad a1), .int a2, .int a3, .int a4, .int a5]) ++ List.replicate (6 - (lg_sl ([.ref (ad t), .ref (ad a1), .int a2, .int a3, .int a4, .int a5])).length) Slot.unset).toArray = ls at hl ⊢
  have hl : lv_has ls 6 [(0, .ref (ad t)), (1, .ref (ad a1)), (2, .int a2), (3, .int a3), (4, .int a4), (5, .int a5)] := hl
  have in10 : ∀ w ∈ wsX100, w ∈ wsX10_standsIn := by decide +kernel
  generalize hargs : ([.ref (ad t), .ref (ad a1), .int a2, .int a3, .int a4, .int a5] : List Value).toArray = args at *
  generalize hAe : gA ad N s.heap.size = A
  have F : gF sa D ad cy N A p s m args cod cX10_standsIn 6 wsX10_standsIn RX10 := ⟨hx, hb, hml, hown, hts, hK, hI, by rw [← hAe]; exact gA_ad, by rw [← hAe]; exact gA_sz, by rw [← hAe]; exact hZ⟩
  have G : gW D ad cy N A s.heap c0 c s.heap [] := ⟨hP, va_S.rf⟩
  generalize hQ : MQ below (va_Qi (fun (z : Int32) (_ : Unit) => z = rZ) (fun _ U => gE D ad cy N c0 c U) A) args s 0 0 A = Q
  suffices hgen : ∀ (H : Heap) (locs : List Loc), gW D ad cy N A s.heap c0 c H locs → W p l e rmX10_standsIn s m args below meth cod H locs 0 0 Q (F0 m 0 ls []) from hgen _ _ G
  clear G
  intro H locs G
  unfold m_X10_standsIn at h
  refine lv_aload_n hx hb dX10_standsIn_0 rfl (lv_at hl 1 rfl) ?_
  refine lv_iconst (v := 0) hx hb dX10_standsIn_1 (by decide) ?_
  refine lv_iload_n hx hb dX10_standsIn_2 rfl (lv_at hl 2 rfl) ?_
  refine lv_iadd hx hb dX10_standsIn_3 ?_
  obtain ⟨hk1, h⟩ := gc_s h
  have ht2 : a1 < N := Nat.lt_of_lt_of_le (gck_lt22 hk1) hN
  obtain ⟨hi3, h⟩ := gc_s h
  refine gx_mia F G hk1 ht2 rfl hi3 dX10_standsIn_4 ?_
  refine lv_iload_n hx hb dX10_standsIn_5 rfl (lv_at hl 3 rfl) ?_
  refine lv_imul hx hb dX10_standsIn_6 ?_
  refine lv_aload_n hx hb dX10_standsIn_7 rfl (lv_at hl 1 rfl) ?_
  refine lv_iconst (v := 0) hx hb dX10_standsIn_8 (by decide) ?_
  refine lv_iload hx hb dX10_standsIn_9 (lv_at hl 4 rfl) ?_
  refine lv_iadd hx hb dX10_standsIn_11 ?_
  obtain ⟨hi4, h⟩ := gc_s h
  refine gx_mia F G hk1 ht2 rfl hi4 dX10_standsIn_12 ?_
  refine lv_iload hx hb dX10_standsIn_13 (lv_at hl 5 rfl) ?_
  refine lv_imul hx hb dX10_standsIn_15 ?_
  refine lv_aload_n hx hb dX10_standsIn_16 rfl (lv_at hl 1 rfl) ?_
  refine lv_bipush (v := 57) hx hb dX10_standsIn_17 (by decide) ?_
  obtain ⟨hi5, h⟩ := gc_s h
  refine gx_mia F G hk1 ht2 rfl hi5 dX10_standsIn_19 ?_
  refine lv_aload_n hx hb dX10_standsIn_20 rfl (lv_at hl 0 rfl) ?_
  obtain ⟨hk6, h⟩ := gc_s h
  have ht7 : t < N := Nat.lt_of_lt_of_le (gck_lt10 hk6) hN
  refine fg_10_told F G hk6 ht7 in10 (by decide +kernel) dX10_standsIn_21 ?_
  have hk8 : gck 59 = 22 := rfl
  have ht9 : 59 < N := Nat.lt_of_lt_of_le (by decide) hN
  have hn10 : gal 59 = 4 := rfl
  refine lv_iconst (v := 3) hx hb dX10_standsIn_24 (by decide) ?_
  refine gx_mia F G hk8 ht9 hn10 (by decide) dX10_standsIn_25 ?_
  obtain ⟨r13, hc12, h⟩ := gb_s h
  refine gx_calli F G (va_runS (As := [.int ((c.1 a1 (0 + a2).toNatClampNeg) * a3), .int ((c.1 a1 (0 + a4).toNatClampNeg) * a5), .int (c.1 a1 (57 : Int32).toNatClampNeg), .int (c.1 59 (3 : Int32).toNatClampNeg)]) (rest := []) (gx_fix F) (c_X10_standsBy l sa D ad cy N H.size hN hI c0 c hc12) (va_cwS 4 hts gX10_standsIn_X10_standsBy rfl rfl rfl (by decide +kernel) ⟨by decide, by decide⟩) (gx_pre F G) rfl rfl hl.1 rfl (lv_room (Nat.le_of_ble_eq_true rfl)) dX10_standsIn_26 ⟨Nat.zero_le _, Nat.zero_le _⟩) (fun H locs G => ?_)
  cases h
  rw [← hQ]
  exact gx_iret F G hr hlocks dX10_standsIn_29
def m_X10_isCry_L3 (a1 : Nat) (a2 : Int32) (a3 : Int32) (a4 : Int32) (a5 : Int32) (c : gm) (y2 : Int32) : Option ((Int32) ⊕ ((Int32) ⊕ (Unit))) :=
  gc (gck a1 = 22) (gc (0 ≤ (56 : Int32).toInt ∧ (56 : Int32).toInt < ((gal a1) : Nat)) ((if (c.1 a1 (56 : Int32).toNatClampNeg) ≤ y2 then some (.inr (.inr ())) else gc (0 ≤ (16 + (4 * y2)).toInt ∧ (16 + (4 * y2)).toInt < ((gal a1) : Nat)) (gj (fun (_ : Unit) => gv (y2 + 1) (fun (x9 : Int32) => some (.inl x9))) (fun K8 => (if (c.1 a1 (16 + (4 * y2)).toNatClampNeg) = a2 then gc (0 ≤ ((16 + (4 * y2)) + 1).toInt ∧ ((16 + (4 * y2)) + 1).toInt < ((gal a1) : Nat)) ((if (c.1 a1 ((16 + (4 * y2)) + 1).toNatClampNeg) = a3 then gc (0 ≤ ((16 + (4 * y2)) + 2).toInt ∧ ((16 + (4 * y2)) + 2).toInt < ((gal a1) : Nat)) ((if (c.1 a1 ((16 + (4 * y2)) + 2).toNatClampNeg) = a4 then gc (0 ≤ ((16 + (4 * y2)) + 3).toInt ∧ ((16 + (4 * y2)) + 3).toInt < ((gal a1) : Nat)) ((if (c.1 a1 ((16 + (4 * y2)) + 3).toNatClampNeg) = a5 then some (.inr (.inl 1)) else K8 ())) else K8 ())) else K8 ())) else K8 ()))))))
def m_X10_isCry (n : Nat) (a1 : Nat) (a2 : Int32) (a3 : Int32) (a4 : Int32) (a5 : Int32) (c : gm) : Option (Int32) :=
  gb (gloop (fun (y2 : Int32) => m_X10_isCry_L3 a1 a2 a3 a4 a5 c y2) n 0) (gsm (fun (_ : Unit) => some 0))
abbrev rmX10_isCry : Room := { frames := 0, cells := 0, slots := 0, locals := 0 }
set_option maxHeartbeats 4000000 in
set_option maxRecDepth 100000 in
theorem c_X10_isCry (l : Launch) (sa : gSa) (D : va_G) (ad : Nat → Nat) (cy : Nat → ClassId) (N sz : Nat) (hN : 530 ≤ N) (hI : gI ad N) (c0 c : gm) {n : Nat} {a1 : Nat} {a2 : Int32} {a3 : Int32} {a4 : Int32} {a5 : Int32} {rZ : Int32} (h : m_X10_isCry n a1 a2 a3 a4 a5 c = some rZ) : Met l yX10_isCry wsX10_isCry rmX10_isCry (va_Pc [.ref (ad a1), .int a2, .int a3, .int a4, .int a5] (gP sa D ad cy N sz c0 c)) (va_Qi (fun (z : Int32) (_ : Unit) => z = rZ) (fun _ U => gE D ad cy N c0 c U) (gA ad N sz)) 0 0 (gA ad N sz) := by
  refine Met.ofW (cc := cX10_isCry) (maxL := 6) (ret := (some .boolean)) (by decide) rfl ?_
  intro p e s m args below meth cod s₁ B hml hv
  obtain ⟨rfl, hsz, hP, hK, hZ⟩ := hv
  have hx := B.exec
  have hb := B.bytes
  have hr := B.returns
  have hts := atoms_spec (ws := wsX10_isCry) B.pre
  have hown : s.vm.findClass RX10 = some m.cls := findClass_of_methodNamed B.named
  have hlocks := B.notSynchronized
  subst hsz
  have hl := lv_entry ([.ref (ad a1), .int a2, .int a3, .int a4, .int a5]) (n := 6) (Nat.le_of_ble_eq_true rfl)
  rw [lg_entry_eq]
  generalize (lg_sl ([.ref (ad a1), .int a2, .int a3, .int a4, .int a5]) ++ List.replicate (6 - (lg_sl ([.ref (ad a1), .int a2, .int a3, .int a4, .int a5])).length) Slot.unset).toArray = ls at hl ⊢
  have hl : lv_has ls 6 [(0, .ref (ad a1)), (1, .int a2), (2, .int a3), (3, .int a4), (4, .int a5)] := hl
  generalize hargs : ([.ref (ad a1), .int a2, .int a3, .int a4, .int a5] : List Value).toArray = args at *
  generalize hAe : gA ad N s.heap.size = A
  have F : gF sa D ad cy N A p s m args cod cX10_isCry 6 wsX10_isCry RX10 := ⟨hx, hb, hml, hown, hts, hK, hI, by rw [← hAe]; exact gA_ad, by rw [← hAe]; exact gA_sz, by rw [← hAe]; exact hZ⟩
  have G : gW D ad cy N A s.heap c0 c s.heap [] := ⟨hP, va_S.rf⟩
  generalize hQ : MQ below (va_Qi (fun (z : Int32) (_ : Unit) => z = rZ) (fun _ U => gE D ad cy N c0 c U) A) args s 0 0 A = Q
  suffices hgen : ∀ (H : Heap) (locs : List Loc), gW D ad cy N A s.heap c0 c H locs → W p l e rmX10_isCry s m args below meth cod H locs 0 0 Q (F0 m 0 ls []) from hgen _ _ G
  clear G
  intro H locs G
  unfold m_X10_isCry at h
  refine lv_iconst (v := 0) hx hb dX10_isCry_0 (by decide) ?_
  refine lv_istore (lv' := [(5, .int 0), (0, .ref (ad a1)), (1, .int a2), (2, .int a3), (3, .int a4), (4, .int a5)]) hx hb dX10_isCry_1 hl (by decide) rfl (fun ls hl => ?_)
  obtain ⟨b1, hb1, hK1⟩ := gb_s h
  have E1 : ∀ (H : Heap) (locs : List Loc) (ls : Array Slot), (Sum.inr () : (Int32) ⊕ (Unit)) = b1 → gW D ad cy N A s.heap c0 c H locs → lv_has ls 6 [] → W p l e rmX10_isCry s m args below meth cod H locs 0 0 Q (F0 m 79 ls []) := by
    intro  H locs ls hq1 G hl
    subst hq1
    replace hK1 := gsm_r hK1
    have h := hK1
    refine lv_iconst (v := 0) hx hb dX10_isCry_79 (by decide) ?_
    cases h
    rw [← hQ]
    exact gx_zret F G hr hlocks rfl dX10_isCry_80
  have L1 : ∀ (n9 : Nat) (y2 : Int32) (H : Heap) (locs : List Loc) (ls : Array Slot), gloop (fun (y2 : Int32) => m_X10_isCry_L3 a1 a2 a3 a4 a5 c y2) n9 y2 = some b1 → gW D ad cy N A s.heap c0 c H locs → lv_has ls 6 [(0, .ref (ad a1)), (1, .int a2), (2, .int a3), (3, .int a4), (4, .int a5), (5, .int y2)] → W p l e rmX10_isCry s m args below meth cod H locs 0 0 Q (F0 m 3 ls []) := by
    intro n9
    induction n9 with
    | zero => intro y2 H locs ls h; exact (gloop_0 h).elim
    | succ n9 ih =>
      intro y2 H locs ls h G hl
      have ih1 := ih
      obtain ⟨o1, h, hn1⟩ := gloop_s h
      unfold m_X10_isCry_L3 at h
      refine lv_iload hx hb dX10_isCry_3 (lv_at hl 5 rfl) ?_
      refine lv_aload_n hx hb dX10_isCry_5 rfl (lv_at hl 0 rfl) ?_
      refine lv_bipush (v := 56) hx hb dX10_isCry_6 (by decide) ?_
      obtain ⟨hk3, h⟩ := gc_s h
      have ht4 : a1 < N := Nat.lt_of_lt_of_le (gck_lt22 hk3) hN
      obtain ⟨hi5, h⟩ := gc_s h
      refine gx_mia F G hk3 ht4 rfl hi5 dX10_isCry_8 ?_
      refine lv_icmp_ge (tgt := 79) hx hb dX10_isCry_9 (by decide) (fun q6 => ?_) (fun q6 => ?_)
      · replace h := gt_s q6 h
        cases h
        exact E1  _ _ _ (gnx_r hn1) G (lv_sub hl [] rfl)
      · replace h := gf_s q6 h
        refine lv_aload_n hx hb dX10_isCry_12 rfl (lv_at hl 0 rfl) ?_
        refine lv_bipush (v := 16) hx hb dX10_isCry_13 (by decide) ?_
        refine lv_iconst (v := 4) hx hb dX10_isCry_15 (by decide) ?_
        refine lv_iload hx hb dX10_isCry_16 (lv_at hl 5 rfl) ?_
        refine lv_imul hx hb dX10_isCry_18 ?_
        refine lv_iadd hx hb dX10_isCry_19 ?_
        obtain ⟨hi7, h⟩ := gc_s h
        refine gx_mia F G hk3 ht4 rfl hi7 dX10_isCry_20 ?_
        refine lv_iload_n hx hb dX10_isCry_21 rfl (lv_at hl 1 rfl) ?_
        obtain ⟨K8, eK8, h⟩ := gj_s h
        have JK8 : ∀ (H : Heap) (locs : List Loc) (ls : Array Slot), K8 () = some o1 → gW D ad cy N A s.heap c0 c H locs → lv_has ls 6 [(0, .ref (ad a1)), (1, .int a2), (2, .int a3), (3, .int a4), (4, .int a5), (5, .int y2)] → W p l e rmX10_isCry s m args below meth cod H locs 0 0 Q (F0 m 73 ls []) := by
          intro  H locs ls h G hl
          rw [eK8] at h
          obtain ⟨x9, ex9⟩ : ∃ z : Int32, z = y2 + 1 := ⟨_, rfl⟩
          replace h := gv_s h x9 ex9
          refine lv_iinc (v := x9) (lv' := [(5, .int x9), (0, .ref (ad a1)), (1, .int a2), (2, .int a3), (3, .int a4), (4, .int a5)]) hx hb dX10_isCry_73 hl (k := 5) rfl (by rw [ex9]; rfl) (by decide) rfl (fun ls hl => ?_)
          refine lv_goto (tgt := 3) hx hb dX10_isCry_76 (by decide) ?_
          cases h
          exact ih1 _ _ _ _ hn1 G (lv_sub hl [1, 2, 3, 4, 5, 0] rfl)
        refine lv_icmp_ne (tgt := 73) hx hb dX10_isCry_22 (by decide) (fun q10 => ?_) (fun q10 => ?_)
        · replace h := gf_s q10 h
          exact JK8  _ _ _ h G hl
        · replace h := gt_s q10 h
          refine lv_aload_n hx hb dX10_isCry_25 rfl (lv_at hl 0 rfl) ?_
          refine lv_bipush (v := 16) hx hb dX10_isCry_26 (by decide) ?_
          refine lv_iconst (v := 4) hx hb dX10_isCry_28 (by decide) ?_
          refine lv_iload hx hb dX10_isCry_29 (lv_at hl 5 rfl) ?_
          refine lv_imul hx hb dX10_isCry_31 ?_
          refine lv_iadd hx hb dX10_isCry_32 ?_
          refine lv_iconst (v := 1) hx hb dX10_isCry_33 (by decide) ?_
          refine lv_iadd hx hb dX10_isCry_34 ?_
          obtain ⟨hi11, h⟩ := gc_s h
          refine gx_mia F G hk3 ht4 rfl hi11 dX10_isCry_35 ?_
          refine lv_iload_n hx hb dX10_isCry_36 rfl (lv_at hl 2 rfl) ?_
          refine lv_icmp_ne (tgt := 73) hx hb dX10_isCry_37 (by decide) (fun q12 => ?_) (fun q12 => ?_)
          · replace h := gf_s q12 h
            exact JK8  _ _ _ h G hl
          · replace h := gt_s q12 h
            refine lv_aload_n hx hb dX10_isCry_40 rfl (lv_at hl 0 rfl) ?_
            refine lv_bipush (v := 16) hx hb dX10_isCry_41 (by decide) ?_
            refine lv_iconst (v := 4) hx hb dX10_isCry_43 (by decide) ?_
            refine lv_iload hx hb dX10_isCry_44 (lv_at hl 5 rfl) ?_
            refine lv_imul hx hb dX10_isCry_46 ?_
            refine lv_iadd hx hb dX10_isCry_47 ?_
            refine lv_iconst (v := 2) hx hb dX10_isCry_48 (by decide) ?_
            refine lv_iadd hx hb dX10_isCry_49 ?_
            obtain ⟨hi13, h⟩ := gc_s h
            refine gx_mia F G hk3 ht4 rfl hi13 dX10_isCry_50 ?_
            refine lv_iload_n hx hb dX10_isCry_51 rfl (lv_at hl 3 rfl) ?_
            refine lv_icmp_ne (tgt := 73) hx hb dX10_isCry_52 (by decide) (fun q14 => ?_) (fun q14 => ?_)
            · replace h := gf_s q14 h
              exact JK8  _ _ _ h G hl
            · replace h := gt_s q14 h
              refine lv_aload_n hx hb dX10_isCry_55 rfl (lv_at hl 0 rfl) ?_
              refine lv_bipush (v := 16) hx hb dX10_isCry_56 (by decide) ?_
              refine lv_iconst (v := 4) hx hb dX10_isCry_58 (by decide) ?_
              refine lv_iload hx hb dX10_isCry_59 (lv_at hl 5 rfl) ?_
              refine lv_imul hx hb dX10_isCry_61 ?_
              refine lv_iadd hx hb dX10_isCry_62 ?_
              refine lv_iconst (v := 3) hx hb dX10_isCry_63 (by decide) ?_
              refine lv_iadd hx hb dX10_isCry_64 ?_
              obtain ⟨hi15, h⟩ := gc_s h
              refine gx_mia F G hk3 ht4 rfl hi15 dX10_isCry_65 ?_
              refine lv_iload hx hb dX10_isCry_66 (lv_at hl 4 rfl) ?_
              refine lv_icmp_ne (tgt := 73) hx hb dX10_isCry_68 (by decide) (fun q16 => ?_) (fun q16 => ?_)
              · replace h := gf_s q16 h
                exact JK8  _ _ _ h G hl
              · replace h := gt_s q16 h
                refine lv_iconst (v := 1) hx hb dX10_isCry_71 (by decide) ?_
                cases h
                cases gnx_r hn1
                cases gsm_l hK1
                rw [← hQ]
                exact gx_zret F G hr hlocks rfl dX10_isCry_72
  exact L1 n _ _ _ _ hb1 G (lv_sub hl [1, 2, 3, 4, 5, 0] rfl)
def m_X10_cries (a1 : Nat) (a2 : Int32) (a3 : Int32) (a4 : Int32) (a5 : Int32) (c : gm) : Option (gm) :=
  gc (gck a1 = 22) (gc (0 ≤ (56 : Int32).toInt ∧ (56 : Int32).toInt < ((gal a1) : Nat)) (gv (16 + (4 * (c.1 a1 (56 : Int32).toNatClampNeg))) (fun (x4 : Int32) => gc (0 ≤ x4.toInt ∧ x4.toInt < ((gal a1) : Nat)) (gv (gm_r c a1 (upd (c.1 a1) x4.toNatClampNeg a2)) (fun (c6 : gm) => gc (0 ≤ (x4 + 1).toInt ∧ (x4 + 1).toInt < ((gal a1) : Nat)) (gv (gm_r c6 a1 (upd (c6.1 a1) (x4 + 1).toNatClampNeg a3)) (fun (c8 : gm) => gc (0 ≤ (x4 + 2).toInt ∧ (x4 + 2).toInt < ((gal a1) : Nat)) (gv (gm_r c8 a1 (upd (c8.1 a1) (x4 + 2).toNatClampNeg a4)) (fun (c10 : gm) => gc (0 ≤ (x4 + 3).toInt ∧ (x4 + 3).toInt < ((gal a1) : Nat)) (gv (gm_r c10 a1 (upd (c10.1 a1) (x4 + 3).toNatClampNeg a5)) (fun (c12 : gm) => gc (0 ≤ (56 : Int32).toInt ∧ (56 : Int32).toInt < ((gal a1) : Nat)) (gc (0 ≤ (56 : Int32).toInt ∧ (56 : Int32).toInt < ((gal a1) : Nat)) (gv (gm_r c12 a1 (upd (c12.1 a1) (56 : Int32).toNatClampNeg ((c12.1 a1 (56 : Int32).toNatClampNeg) + 1))) (fun (c15 : gm) => some c15))))))))))))))
abbrev rmX10_cries : Room := { frames := 0, cells := 0, slots := 0, locals := 0 }
set_option maxHeartbeats 4000000 in
set_option maxRecDepth 100000 in
theorem c_X10_cries (l : Launch) (sa : gSa) (D : va_G) (ad : Nat → Nat) (cy : Nat → ClassId) (N sz : Nat) (hN : 530 ≤ N) (hI : gI ad N) (c0 c : gm) {a1 : Nat} {a2 : Int32} {a3 : Int32} {a4 : Int32} {a5 : Int32} {cZ : gm} (h : m_X10_cries a1 a2 a3 a4 a5 c = some cZ) : Met l yX10_cries wsX10_cries rmX10_cries (va_Pc [.ref (ad a1), .int a2, .int a3, .int a4, .int a5] (gP sa D ad cy N sz c0 c)) (va_Qv (fun (_ : Unit) => True) (fun _ U => gE D ad cy N c0 cZ U) (gA ad N sz)) 0 0 (gA ad N sz) := by
  refine Met.ofW (cc := cX10_cries) (maxL := 6) (ret := none) (by decide) rfl ?_
  intro p e s m args below meth cod s₁ B hml hv
  obtain ⟨rfl, hsz, hP, hK, hZ⟩ := hv
  have hx := B.exec
  have hb := B.bytes
  have hr := B.returns
  have hts := atoms_spec (ws := wsX10_cries) B.pre
  have hown : s.vm.findClass RX10 = some m.cls := findClass_of_methodNamed B.named
  have hlocks := B.notSynchronized
  subst hsz
  have hl := lv_entry ([.ref (ad a1), .int a2, .int a3, .int a4, .int a5]) (n := 6) (Nat.le_of_ble_eq_true rfl)
  rw [lg_entry_eq]
  generalize (lg_sl ([.ref (ad a1), .int a2, .int a3, .int a4, .int a5]) ++ List.replicate (6 - (lg_sl ([.ref (ad a1), .int a2, .int a3, .int a4, .int a5])).length) Slot.unset).toArray = ls at hl ⊢
  have hl : lv_has ls 6 [(0, .ref (ad a1)), (1, .int a2), (2, .int a3), (3, .int a4), (4, .int a5)] := hl
  generalize hargs : ([.ref (ad a1), .int a2, .int a3, .int a4, .int a5] : List Value).toArray = args at *
  generalize hAe : gA ad N s.heap.size = A
  have F : gF sa D ad cy N A p s m args cod cX10_cries 6 wsX10_cries RX10 := ⟨hx, hb, hml, hown, hts, hK, hI, by rw [← hAe]; exact gA_ad, by rw [← hAe]; exact gA_sz, by rw [← hAe]; exact hZ⟩
  have G : gW D ad cy N A s.heap c0 c s.heap [] := ⟨hP, va_S.rf⟩
  generalize hQ : MQ below (va_Qv (fun (_ : Unit) => True) (fun _ U => gE D ad cy N c0 cZ U) A) args s 0 0 A = Q
  suffices hgen : ∀ (H : Heap) (locs : List Loc), gW D ad cy N A s.heap c0 c H locs → W p l e rmX10_cries s m args below meth cod H locs 0 0 Q (F0 m 0 ls []) from hgen _ _ G
  clear G
  intro H locs G
  unfold m_X10_cries at h
  refine lv_bipush (v := 16) hx hb dX10_cries_0 (by decide) ?_
  refine lv_iconst (v := 4) hx hb dX10_cries_2 (by decide) ?_
  refine lv_aload_n hx hb dX10_cries_3 rfl (lv_at hl 0 rfl) ?_
  refine lv_bipush (v := 56) hx hb dX10_cries_4 (by decide) ?_
  obtain ⟨hk1, h⟩ := gc_s h
  have ht2 : a1 < N := Nat.lt_of_lt_of_le (gck_lt22 hk1) hN
  obtain ⟨hi3, h⟩ := gc_s h
  refine gx_mia F G hk1 ht2 rfl hi3 dX10_cries_6 ?_
  refine lv_imul hx hb dX10_cries_7 ?_
  refine lv_iadd hx hb dX10_cries_8 ?_
  refine lv_topi (fun x4 ex4 => ?_)
  replace h := gv_s h x4 ex4
  refine lv_istore (lv' := [(5, .int x4), (0, .ref (ad a1)), (1, .int a2), (2, .int a3), (3, .int a4), (4, .int a5)]) hx hb dX10_cries_9 hl (by decide) rfl (fun ls hl => ?_)
  refine lv_aload_n hx hb dX10_cries_11 rfl (lv_at hl 1 rfl) ?_
  refine lv_iload hx hb dX10_cries_12 (lv_at hl 0 rfl) ?_
  refine lv_iload_n hx hb dX10_cries_14 rfl (lv_at hl 2 rfl) ?_
  obtain ⟨hi5, h⟩ := gc_s h
  refine gx_mis F G hk1 ht2 rfl hi5 dX10_cries_15 (fun H locs G => ?_)
  obtain ⟨c6, ec6⟩ : ∃ z, z = gm_r c a1 (upd (c.1 a1) x4.toNatClampNeg a2) := ⟨_, rfl⟩
  rw [← ec6] at G
  replace h := gv_s h c6 ec6
  refine lv_aload_n hx hb dX10_cries_16 rfl (lv_at hl 1 rfl) ?_
  refine lv_iload hx hb dX10_cries_17 (lv_at hl 0 rfl) ?_
  refine lv_iconst (v := 1) hx hb dX10_cries_19 (by decide) ?_
  refine lv_iadd hx hb dX10_cries_20 ?_
  refine lv_iload_n hx hb dX10_cries_21 rfl (lv_at hl 3 rfl) ?_
  obtain ⟨hi7, h⟩ := gc_s h
  refine gx_mis F G hk1 ht2 rfl hi7 dX10_cries_22 (fun H locs G => ?_)
  obtain ⟨c8, ec8⟩ : ∃ z, z = gm_r c6 a1 (upd (c6.1 a1) (x4 + 1).toNatClampNeg a3) := ⟨_, rfl⟩
  rw [← ec8] at G
  replace h := gv_s h c8 ec8
  refine lv_aload_n hx hb dX10_cries_23 rfl (lv_at hl 1 rfl) ?_
  refine lv_iload hx hb dX10_cries_24 (lv_at hl 0 rfl) ?_
  refine lv_iconst (v := 2) hx hb dX10_cries_26 (by decide) ?_
  refine lv_iadd hx hb dX10_cries_27 ?_
  refine lv_iload_n hx hb dX10_cries_28 rfl (lv_at hl 4 rfl) ?_
  obtain ⟨hi9, h⟩ := gc_s h
  refine gx_mis F G hk1 ht2 rfl hi9 dX10_cries_29 (fun H locs G => ?_)
  obtain ⟨c10, ec10⟩ : ∃ z, z = gm_r c8 a1 (upd (c8.1 a1) (x4 + 2).toNatClampNeg a4) := ⟨_, rfl⟩
  rw [← ec10] at G
  replace h := gv_s h c10 ec10
  refine lv_aload_n hx hb dX10_cries_30 rfl (lv_at hl 1 rfl) ?_
  refine lv_iload hx hb dX10_cries_31 (lv_at hl 0 rfl) ?_
  refine lv_iconst (v := 3) hx hb dX10_cries_33 (by decide) ?_
  refine lv_iadd hx hb dX10_cries_34 ?_
  refine lv_iload hx hb dX10_cries_35 (lv_at hl 5 rfl) ?_
  obtain ⟨hi11, h⟩ := gc_s h
  refine gx_mis F G hk1 ht2 rfl hi11 dX10_cries_37 (fun H locs G => ?_)
  obtain ⟨c12, ec12⟩ : ∃ z, z = gm_r c10 a1 (upd (c10.1 a1) (x4 + 3).toNatClampNeg a5) := ⟨_, rfl⟩
  rw [← ec12] at G
  replace h := gv_s h c12 ec12
  refine lv_aload_n hx hb dX10_cries_38 rfl (lv_at hl 1 rfl) ?_
  refine lv_bipush (v := 56) hx hb dX10_cries_39 (by decide) ?_
  refine lv_dup2_11 hx hb dX10_cries_41 rfl rfl ?_
  obtain ⟨hi13, h⟩ := gc_s h
  refine gx_mia F G hk1 ht2 rfl hi13 dX10_cries_42 ?_
  refine lv_iconst (v := 1) hx hb dX10_cries_43 (by decide) ?_
  refine lv_iadd hx hb dX10_cries_44 ?_
  obtain ⟨hi14, h⟩ := gc_s h
  refine gx_mis F G hk1 ht2 rfl hi14 dX10_cries_45 (fun H locs G => ?_)
  obtain ⟨c15, ec15⟩ : ∃ z, z = gm_r c12 a1 (upd (c12.1 a1) (56 : Int32).toNatClampNeg ((c12.1 a1 (56 : Int32).toNatClampNeg) + 1)) := ⟨_, rfl⟩
  rw [← ec15] at G
  replace h := gv_s h c15 ec15
  cases h
  rw [← hQ]
  exact gx_vret F G hr hlocks dX10_cries_46
def m_X10_weighs (n : Nat) (t : Nat) (a1 : Nat) (a2 : Int32) (a3 : Int32) (a4 : Int32) (a5 : Int32) (c : gm) : Option (Int32 × gm) :=
  gc (gck t = 10) (gb (m_X10_standsIn t a1 a2 a3 a4 a5 c) (fun (r4 : Int32) => (if a2 = a4 then some (0, c) else gc (gck a1 = 22) (gc (0 ≤ (56 : Int32).toInt ∧ (56 : Int32).toInt < ((gal a1) : Nat)) ((if (c.1 a1 (56 : Int32).toNatClampNeg) = 10 then some (0, c) else gj (fun (_ : Unit) => gj (fun (_ : Unit) => gc (0 ≤ (8 + a2).toInt ∧ (8 + a2).toInt < ((gal a1) : Nat)) (gc (0 ≤ (8 + a2).toInt ∧ (8 + a2).toInt < ((gal a1) : Nat)) (gv (gm_r c a1 (upd (c.1 a1) (8 + a2).toNatClampNeg ((c.1 a1 (8 + a2).toNatClampNeg) + 1))) (fun (c14 : gm) => gc (0 ≤ (8 + a4).toInt ∧ (8 + a4).toInt < ((gal a1) : Nat)) (gc (0 ≤ (8 + a4).toInt ∧ (8 + a4).toInt < ((gal a1) : Nat)) (gv (gm_r c14 a1 (upd (c14.1 a1) (8 + a4).toNatClampNeg ((c14.1 a1 (8 + a4).toNatClampNeg) + 1))) (fun (c17 : gm) => gc (0 ≤ (58 : Int32).toInt ∧ (58 : Int32).toInt < ((gal a1) : Nat)) (gc (0 ≤ (58 : Int32).toInt ∧ (58 : Int32).toInt < ((gal a1) : Nat)) (gv (gm_r c17 a1 (upd (c17.1 a1) (58 : Int32).toNatClampNeg ((c17.1 a1 (58 : Int32).toNatClampNeg) + 1))) (fun (c20 : gm) => gj (fun (c21 : gm) => (if r4 = 2 then gb (m_X10_cries a1 a4 a5 a2 a3 c21) (fun (c26 : gm) => some (1, c26)) else some (1, c21))) (fun K22 => (if r4 = 1 then gb (m_X10_cries a1 a2 a3 a4 a5 c20) (fun (c30 : gm) => K22 c30) else K22 c20)))))))))))) (fun K11 => (if r4 = 2 then gb (m_X10_isCry n a1 a4 a5 a2 a3 c) (fun (r33 : Int32) => (if r33 = 0 then K11 () else some (0, c))) else K11 ()))) (fun K10 => (if r4 = 1 then gb (m_X10_isCry n a1 a2 a3 a4 a5 c) (fun (r37 : Int32) => (if r37 = 0 then K10 () else some (0, c))) else K10 ()))))))))
abbrev rmX10_weighs : Room := { frames := 2, cells := 0, slots := 0, locals := 49 }
set_option maxHeartbeats 4000000 in
set_option maxRecDepth 100000 in
theorem c_X10_weighs (l : Launch) (sa : gSa) (D : va_G) (ad : Nat → Nat) (cy : Nat → ClassId) (N sz : Nat) (hN : 530 ≤ N) (hI : gI ad N) (c0 c : gm) {n : Nat} {t : Nat} {a1 : Nat} {a2 : Int32} {a3 : Int32} {a4 : Int32} {a5 : Int32} {rZ : Int32} {cZ : gm} (h : m_X10_weighs n t a1 a2 a3 a4 a5 c = some (rZ, cZ)) : Met l yX10_weighs wsX10_weighs rmX10_weighs (va_Pc [.ref (ad t), .ref (ad a1), .int a2, .int a3, .int a4, .int a5] (gP sa D ad cy N sz c0 c)) (va_Qi (fun (z : Int32) (_ : Unit) => z = rZ) (fun _ U => gE D ad cy N c0 cZ U) (gA ad N sz)) 0 0 (gA ad N sz) := by
  refine Met.ofW (cc := cX10_weighs) (maxL := 7) (ret := (some .boolean)) (by decide) rfl ?_
  intro p e s m args below meth cod s₁ B hml hv
  obtain ⟨rfl, hsz, hP, hK, hZ⟩ := hv
  have hx := B.exec
  have hb := B.bytes
  have hr := B.returns
  have hts := atoms_spec (ws := wsX10_weighs) B.pre
  have hown : s.vm.findClass RX10 = some m.cls := findClass_of_methodNamed B.named
  have hlocks := B.notSynchronized
  subst hsz
  have hl := lv_entry ([.ref (ad t), .ref (ad a1), .int a2, .int a3, .int a4, .int a5]) (n := 7) (Nat.le_of_ble_eq_true rfl)
  rw [lg_entry_eq]
  generalize (lg_sl ([.ref (ad t), .ref (ad a1), .int a2, .int a3, .int a4, .int a5]) ++ List.replicate (7 - (lg_sl ([.ref (ad t), .ref (ad a1), .int a2, .int a3, .int a4, .int a5])).length) Slot.unset).toArray = ls at hl ⊢
  have hl : lv_has ls 7 [(0, .ref (ad t)), (1, .ref (ad a1)), (2, .int a2), (3, .int a3), (4, .int a4), (5, .int a5)] := hl
  generalize hargs : ([.ref (ad t), .ref (ad a1), .int a2, .int a3, .int a4, .int a5] : List Value).toArray = args at *
  generalize hAe : gA ad N s.heap.size = A
  have F : gF sa D ad cy N A p s m args cod cX10_weighs 7 wsX10_weighs RX10 := ⟨hx, hb, hml, hown, hts, hK, hI, by rw [← hAe]; exact gA_ad, by rw [← hAe]; exact gA_sz, by rw [← hAe]; exact hZ⟩
  have G : gW D ad cy N A s.heap c0 c s.heap [] := ⟨hP, va_S.rf⟩
  generalize hQ : MQ below (va_Qi (fun (z : Int32) (_ : Unit) => z = rZ) (fun _ U => gE D ad cy N c0 cZ U) A) args s 0 0 A = Q
  suffices hgen : ∀ (H : Heap) (locs : List Loc), gW D ad cy N A s.heap c0 c H locs → W p l e rmX10_weighs s m args below meth cod H locs 0 0 Q (F0 m 0 ls []) from hgen _ _ G
  clear G
  intro H locs G
  unfold m_X10_weighs at h
  refine lv_aload_n hx hb dX10_weighs_0 rfl (lv_at hl 0 rfl) ?_
  refine lv_aload_n hx hb dX10_weighs_1 rfl (lv_at hl 1 rfl) ?_
  refine lv_iload_n hx hb dX10_weighs_2 rfl (lv_at hl 2 rfl) ?_
  refine lv_iload_n hx hb dX10_weighs_3 rfl (lv_at hl 3 rfl) ?_
  refine lv_iload hx hb dX10_weighs_4 (lv_at hl 4 rfl) ?_
  refine lv_iload hx hb dX10_weighs_6 (lv_at hl 5 rfl) ?_
  obtain ⟨hk1, h⟩ := gc_s h
  have ht2 : t < N := Nat.lt_of_lt_of_le (gck_lt10 hk1) hN
  obtain ⟨r4, hc3, h⟩ := gb_s h
  refine gx_calli F G (va_runV (As := [.ref (ad a1), .int a2, .int a3, .int a4, .int a5]) (rest := []) (gx_fix F) (c_X10_standsIn l sa D ad cy N H.size hN hI c0 c hc3) (cwV 5 hts gX10_weighs_X10_standsIn rfl rfl rfl (by decide +kernel) ⟨by decide, by decide⟩) (gx_rec F G ht2 (gwe_10 hk1) rfl) rfl rfl hl.1 rfl (lv_room (Nat.le_of_ble_eq_true rfl)) dX10_weighs_8 ⟨Nat.zero_le _, Nat.zero_le _⟩) (fun H locs G => ?_)
  refine lv_istore (lv' := [(6, .int r4), (0, .ref (ad t)), (1, .ref (ad a1)), (2, .int a2), (3, .int a3), (4, .int a4), (5, .int a5)]) hx hb dX10_weighs_11 hl (by decide) rfl (fun ls hl => ?_)
  refine lv_iload_n hx hb dX10_weighs_13 rfl (lv_at hl 3 rfl) ?_
  refine lv_iload hx hb dX10_weighs_14 (lv_at hl 5 rfl) ?_
  refine lv_icmp_eq (tgt := 66) hx hb dX10_weighs_16 (by decide) (fun q5 => ?_) (fun q5 => ?_)
  · replace h := gt_s q5 h
    refine lv_iconst (v := 0) hx hb dX10_weighs_66 (by decide) ?_
    cases h
    rw [← hQ]
    exact gx_zret F G hr hlocks rfl dX10_weighs_67
  · replace h := gf_s q5 h
    refine lv_aload_n hx hb dX10_weighs_19 rfl (lv_at hl 2 rfl) ?_
    refine lv_bipush (v := 56) hx hb dX10_weighs_20 (by decide) ?_
    obtain ⟨hk6, h⟩ := gc_s h
    have ht7 : a1 < N := Nat.lt_of_lt_of_le (gck_lt22 hk6) hN
    obtain ⟨hi8, h⟩ := gc_s h
    refine gx_mia F G hk6 ht7 rfl hi8 dX10_weighs_22 ?_
    refine lv_bipush (v := 10) hx hb dX10_weighs_23 (by decide) ?_
    refine lv_icmp_eq (tgt := 66) hx hb dX10_weighs_25 (by decide) (fun q9 => ?_) (fun q9 => ?_)
    · replace h := gt_s q9 h
      refine lv_iconst (v := 0) hx hb dX10_weighs_66 (by decide) ?_
      cases h
      rw [← hQ]
      exact gx_zret F G hr hlocks rfl dX10_weighs_67
    · replace h := gf_s q9 h
      refine lv_iload hx hb dX10_weighs_28 (lv_at hl 0 rfl) ?_
      refine lv_iconst (v := 1) hx hb dX10_weighs_30 (by decide) ?_
      obtain ⟨K10, eK10, h⟩ := gj_s h
      have JK10 : ∀ (H : Heap) (locs : List Loc) (ls : Array Slot), K10 () = some (rZ, cZ) → gW D ad cy N A s.heap c0 c H locs → lv_has ls 7 [(1, .ref (ad a1)), (2, .int a2), (3, .int a3), (4, .int a4), (5, .int a5), (6, .int r4)] → W p l e rmX10_weighs s m args below meth cod H locs 0 0 Q (F0 m 47 ls []) := by
        intro  H locs ls h G hl
        rw [eK10] at h
        refine lv_iload hx hb dX10_weighs_47 (lv_at hl 5 rfl) ?_
        refine lv_iconst (v := 2) hx hb dX10_weighs_49 (by decide) ?_
        obtain ⟨K11, eK11, h⟩ := gj_s h
        have JK11 : ∀ (H : Heap) (locs : List Loc) (ls : Array Slot), K11 () = some (rZ, cZ) → gW D ad cy N A s.heap c0 c H locs → lv_has ls 7 [(1, .ref (ad a1)), (2, .int a2), (3, .int a3), (4, .int a4), (5, .int a5), (6, .int r4)] → W p l e rmX10_weighs s m args below meth cod H locs 0 0 Q (F0 m 68 ls []) := by
          intro  H locs ls h G hl
          rw [eK11] at h
          refine lv_aload_n hx hb dX10_weighs_68 rfl (lv_at hl 0 rfl) ?_
          refine lv_bipush (v := 8) hx hb dX10_weighs_69 (by decide) ?_
          refine lv_iload_n hx hb dX10_weighs_71 rfl (lv_at hl 1 rfl) ?_
          refine lv_iadd hx hb dX10_weighs_72 ?_
          refine lv_dup2_11 hx hb dX10_weighs_73 rfl rfl ?_
          obtain ⟨hi12, h⟩ := gc_s h
          refine gx_mia F G hk6 ht7 rfl hi12 dX10_weighs_74 ?_
          refine lv_iconst (v := 1) hx hb dX10_weighs_75 (by decide) ?_
          refine lv_iadd hx hb dX10_weighs_76 ?_
          obtain ⟨hi13, h⟩ := gc_s h
          refine gx_mis F G hk6 ht7 rfl hi13 dX10_weighs_77 (fun H locs G => ?_)
          obtain ⟨c14, ec14⟩ : ∃ z, z = gm_r c a1 (upd (c.1 a1) (8 + a2).toNatClampNeg ((c.1 a1 (8 + a2).toNatClampNeg) + 1)) := ⟨_, rfl⟩
          rw [← ec14] at G
          replace h := gv_s h c14 ec14
          refine lv_aload_n hx hb dX10_weighs_78 rfl (lv_at hl 0 rfl) ?_
          refine lv_bipush (v := 8) hx hb dX10_weighs_79 (by decide) ?_
          refine lv_iload hx hb dX10_weighs_81 (lv_at hl 3 rfl) ?_
          refine lv_iadd hx hb dX10_weighs_83 ?_
          refine lv_dup2_11 hx hb dX10_weighs_84 rfl rfl ?_
          obtain ⟨hi15, h⟩ := gc_s h
          refine gx_mia F G hk6 ht7 rfl hi15 dX10_weighs_85 ?_
          refine lv_iconst (v := 1) hx hb dX10_weighs_86 (by decide) ?_
          refine lv_iadd hx hb dX10_weighs_87 ?_
          obtain ⟨hi16, h⟩ := gc_s h
          refine gx_mis F G hk6 ht7 rfl hi16 dX10_weighs_88 (fun H locs G => ?_)
          obtain ⟨c17, ec17⟩ : ∃ z, z = gm_r c14 a1 (upd (c14.1 a1) (8 + a4).toNatClampNeg ((c14.1 a1 (8 + a4).toNatClampNeg) + 1)) := ⟨_, rfl⟩
          rw [← ec17] at G
          replace h := gv_s h c17 ec17
          refine lv_aload_n hx hb dX10_weighs_89 rfl (lv_at hl 0 rfl) ?_
          refine lv_bipush (v := 58) hx hb dX10_weighs_90 (by decide) ?_
          refine lv_dup2_11 hx hb dX10_weighs_92 rfl rfl ?_
          obtain ⟨hi18, h⟩ := gc_s h
          refine gx_mia F G hk6 ht7 rfl hi18 dX10_weighs_93 ?_
          refine lv_iconst (v := 1) hx hb dX10_weighs_94 (by decide) ?_
          refine lv_iadd hx hb dX10_weighs_95 ?_
          obtain ⟨hi19, h⟩ := gc_s h
          refine gx_mis F G hk6 ht7 rfl hi19 dX10_weighs_96 (fun H locs G => ?_)
          obtain ⟨c20, ec20⟩ : ∃ z, z = gm_r c17 a1 (upd (c17.1 a1) (58 : Int32).toNatClampNeg ((c17.1 a1 (58 : Int32).toNatClampNeg) + 1)) := ⟨_, rfl⟩
          rw [← ec20] at G
          replace h := gv_s h c20 ec20
          refine lv_iload hx hb dX10_weighs_97 (lv_at hl 5 rfl) ?_
          refine lv_iconst (v := 1) hx hb dX10_weighs_99 (by decide) ?_
          obtain ⟨K22, eK22, h⟩ := gj_s h
          have JK22 : ∀ (c21 : gm) (H : Heap) (locs : List Loc) (ls : Array Slot), K22 c21 = some (rZ, cZ) → gW D ad cy N A s.heap c0 c21 H locs → lv_has ls 7 [(1, .ref (ad a1)), (2, .int a2), (3, .int a3), (4, .int a4), (5, .int a5), (6, .int r4)] → W p l e rmX10_weighs s m args below meth cod H locs 0 0 Q (F0 m 113 ls []) := by
            intro c21 H locs ls h G hl
            rw [eK22] at h
            refine lv_iload hx hb dX10_weighs_113 (lv_at hl 5 rfl) ?_
            refine lv_iconst (v := 2) hx hb dX10_weighs_115 (by decide) ?_
            refine lv_icmp_ne (tgt := 129) hx hb dX10_weighs_116 (by decide) (fun q23 => ?_) (fun q23 => ?_)
            · replace h := gf_s q23 h
              refine lv_iconst (v := 1) hx hb dX10_weighs_129 (by decide) ?_
              cases h
              rw [← hQ]
              exact gx_zret F G hr hlocks rfl dX10_weighs_130
            · replace h := gt_s q23 h
              refine lv_aload_n hx hb dX10_weighs_119 rfl (lv_at hl 0 rfl) ?_
              refine lv_iload hx hb dX10_weighs_120 (lv_at hl 3 rfl) ?_
              refine lv_iload hx hb dX10_weighs_122 (lv_at hl 4 rfl) ?_
              refine lv_iload_n hx hb dX10_weighs_124 rfl (lv_at hl 1 rfl) ?_
              refine lv_iload_n hx hb dX10_weighs_125 rfl (lv_at hl 2 rfl) ?_
              obtain ⟨c26, hc24, h⟩ := gb_s h
              refine gx_callv F G (va_runS (As := [.ref (ad a1), .int a4, .int a5, .int a2, .int a3]) (rest := []) (gx_fix F) (c_X10_cries l sa D ad cy N H.size hN hI c0 c21 hc24) (va_cwS 5 hts gX10_weighs_X10_cries rfl rfl rfl (by decide +kernel) ⟨by decide, by decide⟩) (gx_pre F G) rfl rfl hl.1 rfl (lv_room (Nat.le_of_ble_eq_true rfl)) dX10_weighs_126 ⟨Nat.zero_le _, Nat.zero_le _⟩) (fun H locs G => ?_)
              refine lv_iconst (v := 1) hx hb dX10_weighs_129 (by decide) ?_
              cases h
              rw [← hQ]
              exact gx_zret F G hr hlocks rfl dX10_weighs_130
          refine lv_icmp_ne (tgt := 113) hx hb dX10_weighs_100 (by decide) (fun q27 => ?_) (fun q27 => ?_)
          · replace h := gf_s q27 h
            exact JK22 _ _ _ _ h G hl
          · replace h := gt_s q27 h
            refine lv_aload_n hx hb dX10_weighs_103 rfl (lv_at hl 0 rfl) ?_
            refine lv_iload_n hx hb dX10_weighs_104 rfl (lv_at hl 1 rfl) ?_
            refine lv_iload_n hx hb dX10_weighs_105 rfl (lv_at hl 2 rfl) ?_
            refine lv_iload hx hb dX10_weighs_106 (lv_at hl 3 rfl) ?_
            refine lv_iload hx hb dX10_weighs_108 (lv_at hl 4 rfl) ?_
            obtain ⟨c30, hc28, h⟩ := gb_s h
            refine gx_callv F G (va_runS (As := [.ref (ad a1), .int a2, .int a3, .int a4, .int a5]) (rest := []) (gx_fix F) (c_X10_cries l sa D ad cy N H.size hN hI c0 c20 hc28) (va_cwS 5 hts gX10_weighs_X10_cries rfl rfl rfl (by decide +kernel) ⟨by decide, by decide⟩) (gx_pre F G) rfl rfl hl.1 rfl (lv_room (Nat.le_of_ble_eq_true rfl)) dX10_weighs_110 ⟨Nat.zero_le _, Nat.zero_le _⟩) (fun H locs G => ?_)
            exact JK22 _ _ _ _ h G hl
        refine lv_icmp_ne (tgt := 68) hx hb dX10_weighs_50 (by decide) (fun q31 => ?_) (fun q31 => ?_)
        · replace h := gf_s q31 h
          exact JK11  _ _ _ h G hl
        · replace h := gt_s q31 h
          refine lv_aload_n hx hb dX10_weighs_53 rfl (lv_at hl 0 rfl) ?_
          refine lv_iload hx hb dX10_weighs_54 (lv_at hl 3 rfl) ?_
          refine lv_iload hx hb dX10_weighs_56 (lv_at hl 4 rfl) ?_
          refine lv_iload_n hx hb dX10_weighs_58 rfl (lv_at hl 1 rfl) ?_
          refine lv_iload_n hx hb dX10_weighs_59 rfl (lv_at hl 2 rfl) ?_
          obtain ⟨r33, hc32, h⟩ := gb_s h
          refine gx_calli F G (va_runS (As := [.ref (ad a1), .int a4, .int a5, .int a2, .int a3]) (rest := []) (gx_fix F) (c_X10_isCry l sa D ad cy N H.size hN hI c0 c hc32) (va_cwS 5 hts gX10_weighs_X10_isCry rfl rfl rfl (by decide +kernel) ⟨by decide, by decide⟩) (gx_pre F G) rfl rfl hl.1 rfl (lv_room (Nat.le_of_ble_eq_true rfl)) dX10_weighs_60 ⟨Nat.zero_le _, Nat.zero_le _⟩) (fun H locs G => ?_)
          refine lv_if_eq (tgt := 68) hx hb dX10_weighs_63 (by decide) (fun q34 => ?_) (fun q34 => ?_)
          · replace h := gt_s q34 h
            exact JK11  _ _ _ h G hl
          · replace h := gf_s q34 h
            refine lv_iconst (v := 0) hx hb dX10_weighs_66 (by decide) ?_
            cases h
            rw [← hQ]
            exact gx_zret F G hr hlocks rfl dX10_weighs_67
      refine lv_icmp_ne (tgt := 47) hx hb dX10_weighs_31 (by decide) (fun q35 => ?_) (fun q35 => ?_)
      · replace h := gf_s q35 h
        exact JK10  _ _ _ h G (lv_sub hl [2, 3, 4, 5, 6, 0] rfl)
      · replace h := gt_s q35 h
        refine lv_aload_n hx hb dX10_weighs_34 rfl (lv_at hl 2 rfl) ?_
        refine lv_iload_n hx hb dX10_weighs_35 rfl (lv_at hl 3 rfl) ?_
        refine lv_iload_n hx hb dX10_weighs_36 rfl (lv_at hl 4 rfl) ?_
        refine lv_iload hx hb dX10_weighs_37 (lv_at hl 5 rfl) ?_
        refine lv_iload hx hb dX10_weighs_39 (lv_at hl 6 rfl) ?_
        obtain ⟨r37, hc36, h⟩ := gb_s h
        refine gx_calli F G (va_runS (As := [.ref (ad a1), .int a2, .int a3, .int a4, .int a5]) (rest := []) (gx_fix F) (c_X10_isCry l sa D ad cy N H.size hN hI c0 c hc36) (va_cwS 5 hts gX10_weighs_X10_isCry rfl rfl rfl (by decide +kernel) ⟨by decide, by decide⟩) (gx_pre F G) rfl rfl hl.1 rfl (lv_room (Nat.le_of_ble_eq_true rfl)) dX10_weighs_41 ⟨Nat.zero_le _, Nat.zero_le _⟩) (fun H locs G => ?_)
        refine lv_if_ne (tgt := 66) hx hb dX10_weighs_44 (by decide) (fun q38 => ?_) (fun q38 => ?_)
        · replace h := gf_s q38 h
          refine lv_iconst (v := 0) hx hb dX10_weighs_66 (by decide) ?_
          cases h
          rw [← hQ]
          exact gx_zret F G hr hlocks rfl dX10_weighs_67
        · replace h := gt_s q38 h
          exact JK10  _ _ _ h G (lv_sub hl [2, 3, 4, 5, 6, 0] rfl)
