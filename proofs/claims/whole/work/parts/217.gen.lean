-- X10_span X10_puts X10_putsAll X10_image X10_restore X10_status X10_count
def m_X10_span_L71 (n : Nat) (t : Nat) (a1 : Int32) (a2 : Int32) (a3 : Int32) (a4 : Int32) (a6 : Int32) (y13 : Int32) (y14 : Int32) (y15 : Int32) (y16 : Int32) (c17 : gm) : Option ((Int32 × Int32 × Int32 × Int32 × gm) ⊕ (Int32 × Int32 × Int32 × gm)) :=
  (if a2 ≤ y16 then some (.inr (y13, y14, y15, c17)) else gb (m_X10_fairBy n t (a1 + y16) a3 a4 c17) (fun (c27 : gm) => gb (m_X10_weightIn n t 504 c27) (fun (r32 : Int32) => gj (fun (v33 : Int32) => gb (m_X10_more y14 r32) (fun (r36 : Int32) => gb (m_X10_criesOf n 504 a6 c27) (fun (r38 : Int32) => gj (fun (v39 : Int32) => gv (y15 + v39) (fun (x41 : Int32) => gv (y16 + 1) (fun (x42 : Int32) => some (.inl (v33, r36, x41, x42, c27))))) (fun K40 => (if r38 = 0 then K40 0 else K40 1))))) (fun K34 => (if y13 = (-1) then K34 r32 else gb (m_X10_less y13 r32) (fun (r46 : Int32) => K34 r46))))))
def m_X10_span (n : Nat) (t : Nat) (a1 : Int32) (a2 : Int32) (a3 : Int32) (a4 : Int32) (a5 : Int32) (a6 : Int32) (c : gm) : Option (Int32 × gm) :=
  gc (gck t = 10) (gv (gm_r c t (upd (c.1 t) 0 0)) (fun (c3 : gm) => gb (m_X10_in a2 1 20) (fun (r5 : Int32) => gj (fun (v6 : Int32) => gb2 (m_X10_bad t v6 1 1 c3) (fun (r9 : Int32) (c10 : gm) => (if r9 = 0 then gb (gloop (gu2 (fun (y13 : Int32) => gu2 (fun (y14 : Int32) => gu2 (fun (y15 : Int32) => gu2 (fun (y16 : Int32) (c17 : gm) => m_X10_span_L71 n t a1 a2 a3 a4 a6 y13 y14 y15 y16 c17))))) n ((-1), 0, 0, 0, c10)) (gu2 (fun (z18 : Int32) => gu2 (fun (z19 : Int32) => gu2 (fun (z20 : Int32) (c21 : gm) => (if a5 = 0 then some (z18, c21) else (if a5 = 1 then some (z19, c21) else some (z20, c21))))))) else some (0, c10)))) (fun K7 => gj (fun (_ : Unit) => K7 1) (fun K47 => (if r5 = 0 then K47 () else gb (m_X10_isFair a3 a4) (fun (r50 : Int32) => (if r50 = 0 then K47 () else gb (m_X10_in a5 0 2) (fun (r53 : Int32) => (if r53 = 0 then K47 () else gb (m_X10_isThing t a6 c3) (fun (r56 : Int32) => (if r56 = 0 then K47 () else K7 0))))))))))))
abbrev rmX10_span : Room := { frames := 7, cells := 0, slots := 0, locals := 162 }
set_option maxHeartbeats 4000000 in
set_option maxRecDepth 100000 in
theorem c_X10_span (l : Launch) (sa : gSa) (D : va_G) (ad : Nat → Nat) (cy : Nat → ClassId) (N sz : Nat) (hN : 530 ≤ N) (hI : gI ad N) (c0 c : gm) {n : Nat} {t : Nat} {a1 : Int32} {a2 : Int32} {a3 : Int32} {a4 : Int32} {a5 : Int32} {a6 : Int32} {rZ : Int32} {cZ : gm} (h : m_X10_span n t a1 a2 a3 a4 a5 a6 c = some (rZ, cZ)) : Met l yX10_span wsX10_span rmX10_span (va_Pc [.ref (ad t), .int a1, .int a2, .int a3, .int a4, .int a5, .int a6] (gP sa D ad cy N sz c0 c)) (va_Qi (fun (z : Int32) (_ : Unit) => z = rZ) (fun _ U => gE D ad cy N c0 cZ U) (gA ad N sz)) 0 0 (gA ad N sz) := by
  refine Met.ofW (cc := cX10_span) (maxL := 12) (ret := (some .int)) (by decide) rfl ?_
  intro p e s m args below meth cod s₁ B hml hv
  obtain ⟨rfl, hsz, hP, hK, hZ⟩ := hv
  have hx := B.exec
  have hb := B.bytes
  have hr := B.returns
  have hts := atoms_spec (ws := wsX10_span) B.pre
  have hown : s.vm.findClass RX10 = some m.cls := findClass_of_methodNamed B.named
  have hlocks := B.notSynchronized
  subst hsz
  have hl := lv_entry ([.ref (ad t), .int a1, .int a2, .int a3, .int a4, .int a5, .int a6]) (n := 12) (Nat.le_of_ble_eq_true rfl)
  rw [lg_entry_eq]
  generalize (lg_sl ([.ref (ad t), .int a1, .int a2, .int a3, .int a4, .int a5, .int a6]) ++ List.replicate (12 - (lg_sl ([.ref (ad t), .int a1, .int a2, .int a3, .int a4, .int a5, .int a6])).length) Slot.unset).toArray = ls at hl ⊢
  have hl : lv_has ls 12 [(0, .ref (ad t)), (1, .int a1), (2, .int a2), (3, .int a3), (4, .int a4), (5, .int a5), (6, .int a6)] := hl
  have in10 : ∀ w ∈ wsX100, w ∈ wsX10_span := by decide +kernel
  generalize hargs : ([.ref (ad t), .int a1, .int a2, .int a3, .int a4, .int a5, .int a6] : List Value).toArray = args at *
  generalize hAe : gA ad N s.heap.size = A
  have F : gF sa D ad cy N A p s m args cod cX10_span 12 wsX10_span RX10 := ⟨hx, hb, hml, hown, hts, hK, hI, by rw [← hAe]; exact gA_ad, by rw [← hAe]; exact gA_sz, by rw [← hAe]; exact hZ⟩
  have G : gW D ad cy N A s.heap c0 c s.heap [] := ⟨hP, va_S.rf⟩
  generalize hQ : MQ below (va_Qi (fun (z : Int32) (_ : Unit) => z = rZ) (fun _ U => gE D ad cy N c0 cZ U) A) args s 0 0 A = Q
  suffices hgen : ∀ (H : Heap) (locs : List Loc), gW D ad cy N A s.heap c0 c H locs → W p l e rmX10_span s m args below meth cod H locs 0 0 Q (F0 m 0 ls []) from hgen _ _ G
  clear G
  intro H locs G
  unfold m_X10_span at h
  refine lv_aload_n hx hb dX10_span_0 rfl (lv_at hl 0 rfl) ?_
  refine lv_iconst (v := 0) hx hb dX10_span_1 (by decide) ?_
  obtain ⟨hk1, h⟩ := gc_s h
  have ht2 : t < N := Nat.lt_of_lt_of_le (gck_lt10 hk1) hN
  refine fp_10_thrown F G hk1 ht2 in10 (by decide +kernel) dX10_span_2 (fun H locs G => ?_)
  obtain ⟨c3, ec3⟩ : ∃ z, z = gm_r c t (upd (c.1 t) 0 0) := ⟨_, rfl⟩
  rw [← ec3] at G
  replace h := gv_s h c3 ec3
  refine lv_aload_n hx hb dX10_span_5 rfl (lv_at hl 0 rfl) ?_
  refine lv_iload_n hx hb dX10_span_6 rfl (lv_at hl 2 rfl) ?_
  refine lv_iconst (v := 1) hx hb dX10_span_7 (by decide) ?_
  refine lv_bipush (v := 20) hx hb dX10_span_8 (by decide) ?_
  obtain ⟨r5, hc4, h⟩ := gb_s h
  refine gx_calli F G (va_runS (As := [.int a2, .int 1, .int 20]) (rest := [.ref (ad t)]) (gx_fix F) (c_X10_in l sa D ad cy N H.size hN hI c0 c3 hc4) (va_cwS 3 hts gX10_span_X10_in rfl rfl rfl (by decide +kernel) ⟨by decide, by decide⟩) (gx_pre F G) rfl rfl hl.1 rfl (lv_room (Nat.le_of_ble_eq_true rfl)) dX10_span_10 ⟨Nat.zero_le _, Nat.zero_le _⟩) (fun H locs G => ?_)
  obtain ⟨K7, eK7, h⟩ := gj_s h
  have JK7 : ∀ (v6 : Int32) (H : Heap) (locs : List Loc) (ls : Array Slot), K7 v6 = some (rZ, cZ) → gW D ad cy N A s.heap c0 c3 H locs → lv_has ls 12 [(0, .ref (ad t)), (1, .int a1), (2, .int a2), (3, .int a3), (4, .int a4), (5, .int a5), (6, .int a6)] → W p l e rmX10_span s m args below meth cod H locs 0 0 Q (F0 m 49 ls [.int v6, .ref (ad t)]) := by
    intro v6 H locs ls h G hl
    rw [eK7] at h
    refine lv_iconst (v := 1) hx hb dX10_span_49 (by decide) ?_
    refine lv_iconst (v := 1) hx hb dX10_span_50 (by decide) ?_
    obtain ⟨r9, c10, hc8, h⟩ := gb2_s h
    refine gx_calli F G (va_runV (As := [.int v6, .int 1, .int 1]) (rest := []) (gx_fix F) (c_X10_bad l sa D ad cy N H.size hN hI c0 c3 hc8) (cwV 3 hts gX10_span_X10_bad rfl rfl rfl (by decide +kernel) ⟨by decide, by decide⟩) (gx_rec F G ht2 (gwe_10 hk1) rfl) rfl rfl hl.1 rfl (lv_room (Nat.le_of_ble_eq_true rfl)) dX10_span_51 ⟨Nat.zero_le _, Nat.zero_le _⟩) (fun H locs G => ?_)
    refine lv_if_eq (tgt := 59) hx hb dX10_span_54 (by decide) (fun q11 => ?_) (fun q11 => ?_)
    · replace h := gt_s q11 h
      refine lv_iconst (v := (-1)) hx hb dX10_span_59 (by decide) ?_
      refine lv_istore (lv' := [(7, .int (-1)), (0, .ref (ad t)), (1, .int a1), (2, .int a2), (3, .int a3), (4, .int a4), (5, .int a5), (6, .int a6)]) hx hb dX10_span_60 hl (by decide) rfl (fun ls hl => ?_)
      refine lv_iconst (v := 0) hx hb dX10_span_62 (by decide) ?_
      refine lv_istore (lv' := [(8, .int 0), (7, .int (-1)), (0, .ref (ad t)), (1, .int a1), (2, .int a2), (3, .int a3), (4, .int a4), (5, .int a5), (6, .int a6)]) hx hb dX10_span_63 hl (by decide) rfl (fun ls hl => ?_)
      refine lv_iconst (v := 0) hx hb dX10_span_65 (by decide) ?_
      refine lv_istore (lv' := [(9, .int 0), (8, .int 0), (7, .int (-1)), (0, .ref (ad t)), (1, .int a1), (2, .int a2), (3, .int a3), (4, .int a4), (5, .int a5), (6, .int a6)]) hx hb dX10_span_66 hl (by decide) rfl (fun ls hl => ?_)
      refine lv_iconst (v := 0) hx hb dX10_span_68 (by decide) ?_
      refine lv_istore (lv' := [(10, .int 0), (9, .int 0), (8, .int 0), (7, .int (-1)), (0, .ref (ad t)), (1, .int a1), (2, .int a2), (3, .int a3), (4, .int a4), (5, .int a5), (6, .int a6)]) hx hb dX10_span_69 hl (by decide) rfl (fun ls hl => ?_)
      obtain ⟨b12, hb12, hK12⟩ := gb_s h
      have E12 : ∀ (z18 : Int32) (z19 : Int32) (z20 : Int32) (c21 : gm) (H : Heap) (locs : List Loc) (ls : Array Slot), ((z18, z19, z20, c21) : Int32 × Int32 × Int32 × gm) = b12 → gW D ad cy N A s.heap c0 c21 H locs → lv_has ls 12 [(5, .int a5), (7, .int z18), (8, .int z19), (9, .int z20)] → W p l e rmX10_span s m args below meth cod H locs 0 0 Q (F0 m 155 ls []) := by
        intro z18 z19 z20 c21 H locs ls hq12 G hl
        subst hq12
        replace hK12 := hK12
        replace hK12 := gu2_s hK12
        replace hK12 := gu2_s hK12
        replace hK12 := gu2_s hK12
        have h := hK12
        refine lv_iload hx hb dX10_span_155 (lv_at hl 0 rfl) ?_
        refine lv_if_ne (tgt := 165) hx hb dX10_span_157 (by decide) (fun q22 => ?_) (fun q22 => ?_)
        · replace h := gf_s q22 h
          refine lv_iload hx hb dX10_span_165 (lv_at hl 0 rfl) ?_
          refine lv_iconst (v := 1) hx hb dX10_span_167 (by decide) ?_
          refine lv_icmp_ne (tgt := 176) hx hb dX10_span_168 (by decide) (fun q23 => ?_) (fun q23 => ?_)
          · replace h := gf_s q23 h
            refine lv_iload hx hb dX10_span_176 (lv_at hl 3 rfl) ?_
            cases h
            rw [← hQ]
            exact gx_iret F G hr hlocks dX10_span_178
          · replace h := gt_s q23 h
            refine lv_iload hx hb dX10_span_171 (lv_at hl 2 rfl) ?_
            refine lv_goto (tgt := 178) hx hb dX10_span_173 (by decide) ?_
            cases h
            rw [← hQ]
            exact gx_iret F G hr hlocks dX10_span_178
        · replace h := gt_s q22 h
          refine lv_iload hx hb dX10_span_160 (lv_at hl 1 rfl) ?_
          refine lv_goto (tgt := 178) hx hb dX10_span_162 (by decide) ?_
          cases h
          rw [← hQ]
          exact gx_iret F G hr hlocks dX10_span_178
      have L12 : ∀ (n9 : Nat) (y13 : Int32) (y14 : Int32) (y15 : Int32) (y16 : Int32) (c17 : gm) (H : Heap) (locs : List Loc) (ls : Array Slot), gloop (gu2 (fun (y13 : Int32) => gu2 (fun (y14 : Int32) => gu2 (fun (y15 : Int32) => gu2 (fun (y16 : Int32) (c17 : gm) => m_X10_span_L71 n t a1 a2 a3 a4 a6 y13 y14 y15 y16 c17))))) n9 (y13, y14, y15, y16, c17) = some b12 → gW D ad cy N A s.heap c0 c17 H locs → lv_has ls 12 [(0, .ref (ad t)), (1, .int a1), (2, .int a2), (3, .int a3), (4, .int a4), (5, .int a5), (6, .int a6), (7, .int y13), (8, .int y14), (9, .int y15), (10, .int y16)] → W p l e rmX10_span s m args below meth cod H locs 0 0 Q (F0 m 71 ls []) := by
        intro n9
        induction n9 with
        | zero => intro y13 y14 y15 y16 c17 H locs ls h; exact (gloop_0 h).elim
        | succ n9 ih =>
          intro y13 y14 y15 y16 c17 H locs ls h G hl
          have ih12 := ih
          obtain ⟨o12, h, hn12⟩ := gloop_s h
          replace h := gu2_s h
          replace h := gu2_s h
          replace h := gu2_s h
          replace h := gu2_s h
          unfold m_X10_span_L71 at h
          refine lv_iload hx hb dX10_span_71 (lv_at hl 10 rfl) ?_
          refine lv_iload_n hx hb dX10_span_73 rfl (lv_at hl 2 rfl) ?_
          refine lv_icmp_ge (tgt := 155) hx hb dX10_span_74 (by decide) (fun q24 => ?_) (fun q24 => ?_)
          · replace h := gt_s q24 h
            cases h
            exact E12 _ _ _ _ _ _ _ (gnx_r hn12) G (lv_sub hl [5, 7, 8, 9] rfl)
          · replace h := gf_s q24 h
            refine lv_aload_n hx hb dX10_span_77 rfl (lv_at hl 0 rfl) ?_
            refine lv_iload_n hx hb dX10_span_78 rfl (lv_at hl 1 rfl) ?_
            refine lv_iload hx hb dX10_span_79 (lv_at hl 10 rfl) ?_
            refine lv_iadd hx hb dX10_span_81 ?_
            refine lv_iload_n hx hb dX10_span_82 rfl (lv_at hl 3 rfl) ?_
            refine lv_iload hx hb dX10_span_83 (lv_at hl 4 rfl) ?_
            obtain ⟨c27, hc25, h⟩ := gb_s h
            refine gx_callv F G (va_runV (As := [.int (a1 + y16), .int a3, .int a4]) (rest := []) (gx_fix F) (c_X10_fairBy l sa D ad cy N H.size hN hI c0 c17 hc25) (cwV 3 hts gX10_span_X10_fairBy rfl rfl rfl (by decide +kernel) ⟨by decide, by decide⟩) (gx_rec F G ht2 (gwe_10 hk1) rfl) rfl rfl hl.1 rfl (lv_room (Nat.le_of_ble_eq_true rfl)) dX10_span_85 ⟨Nat.zero_le _, Nat.zero_le _⟩) (fun H locs G => ?_)
            refine lv_aload_n hx hb dX10_span_88 rfl (lv_at hl 0 rfl) ?_
            refine lv_aload_n hx hb dX10_span_89 rfl (lv_at hl 0 rfl) ?_
            refine fg_10_trial F G hk1 ht2 in10 (by decide +kernel) dX10_span_90 ?_
            have hk28 : gck 504 = 22 := rfl
            have ht29 : 504 < N := Nat.lt_of_lt_of_le (by decide) hN
            have hn30 : gal 504 = 60 := rfl
            obtain ⟨r32, hc31, h⟩ := gb_s h
            refine gx_calli F G (va_runV (As := [.ref (ad 504)]) (rest := []) (gx_fix F) (c_X10_weightIn l sa D ad cy N H.size hN hI c0 c27 hc31) (cwV 1 hts gX10_span_X10_weightIn rfl rfl rfl (by decide +kernel) ⟨by decide, by decide⟩) (gx_rec F G ht2 (gwe_10 hk1) rfl) rfl rfl hl.1 rfl (lv_room (Nat.le_of_ble_eq_true rfl)) dX10_span_93 ⟨Nat.zero_le _, Nat.zero_le _⟩) (fun H locs G => ?_)
            refine lv_istore (lv' := [(11, .int r32), (0, .ref (ad t)), (1, .int a1), (2, .int a2), (3, .int a3), (4, .int a4), (5, .int a5), (6, .int a6), (7, .int y13), (8, .int y14), (9, .int y15), (10, .int y16)]) hx hb dX10_span_96 hl (by decide) rfl (fun ls hl => ?_)
            refine lv_iload hx hb dX10_span_98 (lv_at hl 8 rfl) ?_
            refine lv_iconst (v := (-1)) hx hb dX10_span_100 (by decide) ?_
            obtain ⟨K34, eK34, h⟩ := gj_s h
            have JK34 : ∀ (v33 : Int32) (H : Heap) (locs : List Loc) (ls : Array Slot), K34 v33 = some o12 → gW D ad cy N A s.heap c0 c27 H locs → lv_has ls 12 [(0, .ref (ad t)), (1, .int a1), (2, .int a2), (3, .int a3), (4, .int a4), (5, .int a5), (6, .int a6), (8, .int y14), (9, .int y15), (10, .int y16), (11, .int r32)] → W p l e rmX10_span s m args below meth cod H locs 0 0 Q (F0 m 116 ls [.int v33]) := by
              intro v33 H locs ls h G hl
              rw [eK34] at h
              refine lv_istore (lv' := [(7, .int v33), (0, .ref (ad t)), (1, .int a1), (2, .int a2), (3, .int a3), (4, .int a4), (5, .int a5), (6, .int a6), (8, .int y14), (9, .int y15), (10, .int y16), (11, .int r32)]) hx hb dX10_span_116 hl (by decide) rfl (fun ls hl => ?_)
              refine lv_iload hx hb dX10_span_118 (lv_at hl 8 rfl) ?_
              refine lv_iload hx hb dX10_span_120 (lv_at hl 11 rfl) ?_
              obtain ⟨r36, hc35, h⟩ := gb_s h
              refine gx_calli F G (va_runS (As := [.int y14, .int r32]) (rest := []) (gx_fix F) (c_X10_more l sa D ad cy N H.size hN hI c0 c27 hc35) (va_cwS 2 hts gX10_span_X10_more rfl rfl rfl (by decide +kernel) ⟨by decide, by decide⟩) (gx_pre F G) rfl rfl hl.1 rfl (lv_room (Nat.le_of_ble_eq_true rfl)) dX10_span_122 ⟨Nat.zero_le _, Nat.zero_le _⟩) (fun H locs G => ?_)
              refine lv_istore (lv' := [(8, .int r36), (7, .int v33), (0, .ref (ad t)), (1, .int a1), (2, .int a2), (3, .int a3), (4, .int a4), (5, .int a5), (6, .int a6), (9, .int y15), (10, .int y16), (11, .int r32)]) hx hb dX10_span_125 hl (by decide) rfl (fun ls hl => ?_)
              refine lv_iload hx hb dX10_span_127 (lv_at hl 9 rfl) ?_
              refine lv_aload_n hx hb dX10_span_129 rfl (lv_at hl 2 rfl) ?_
              refine fg_10_trial F G hk1 ht2 in10 (by decide +kernel) dX10_span_130 ?_
              refine lv_iload hx hb dX10_span_133 (lv_at hl 8 rfl) ?_
              obtain ⟨r38, hc37, h⟩ := gb_s h
              refine gx_calli F G (va_runS (As := [.ref (ad 504), .int a6]) (rest := [.int y15]) (gx_fix F) (c_X10_criesOf l sa D ad cy N H.size hN hI c0 c27 hc37) (va_cwS 2 hts gX10_span_X10_criesOf rfl rfl rfl (by decide +kernel) ⟨by decide, by decide⟩) (gx_pre F G) rfl rfl hl.1 rfl (lv_room (Nat.le_of_ble_eq_true rfl)) dX10_span_135 ⟨Nat.zero_le _, Nat.zero_le _⟩) (fun H locs G => ?_)
              obtain ⟨K40, eK40, h⟩ := gj_s h
              have JK40 : ∀ (v39 : Int32) (H : Heap) (locs : List Loc) (ls : Array Slot), K40 v39 = some o12 → gW D ad cy N A s.heap c0 c27 H locs → lv_has ls 12 [(0, .ref (ad t)), (1, .int a1), (2, .int a2), (3, .int a3), (4, .int a4), (5, .int a5), (6, .int a6), (7, .int v33), (8, .int r36), (10, .int y16)] → W p l e rmX10_span s m args below meth cod H locs 0 0 Q (F0 m 146 ls [.int v39, .int y15]) := by
                intro v39 H locs ls h G hl
                rw [eK40] at h
                refine lv_iadd hx hb dX10_span_146 ?_
                refine lv_topi (fun x41 ex41 => ?_)
                replace h := gv_s h x41 ex41
                refine lv_istore (lv' := [(9, .int x41), (0, .ref (ad t)), (1, .int a1), (2, .int a2), (3, .int a3), (4, .int a4), (5, .int a5), (6, .int a6), (7, .int v33), (8, .int r36), (10, .int y16)]) hx hb dX10_span_147 hl (by decide) rfl (fun ls hl => ?_)
                obtain ⟨x42, ex42⟩ : ∃ z : Int32, z = y16 + 1 := ⟨_, rfl⟩
                replace h := gv_s h x42 ex42
                refine lv_iinc (v := x42) (lv' := [(10, .int x42), (9, .int x41), (0, .ref (ad t)), (1, .int a1), (2, .int a2), (3, .int a3), (4, .int a4), (5, .int a5), (6, .int a6), (7, .int v33), (8, .int r36)]) hx hb dX10_span_149 hl (k := 10) rfl (by rw [ex42]; rfl) (by decide) rfl (fun ls hl => ?_)
                refine lv_goto (tgt := 71) hx hb dX10_span_152 (by decide) ?_
                cases h
                exact ih12 _ _ _ _ _ _ _ _ hn12 G (lv_sub hl [2, 3, 4, 5, 6, 7, 8, 9, 10, 1, 0] rfl)
              refine lv_if_ne (tgt := 145) hx hb dX10_span_138 (by decide) (fun q43 => ?_) (fun q43 => ?_)
              · replace h := gf_s q43 h
                refine lv_iconst (v := 1) hx hb dX10_span_145 (by decide) ?_
                exact JK40 _ _ _ _ h G (lv_sub hl [2, 3, 4, 5, 6, 7, 8, 1, 0, 10] rfl)
              · replace h := gt_s q43 h
                refine lv_iconst (v := 0) hx hb dX10_span_141 (by decide) ?_
                refine lv_goto (tgt := 146) hx hb dX10_span_142 (by decide) ?_
                exact JK40 _ _ _ _ h G (lv_sub hl [2, 3, 4, 5, 6, 7, 8, 1, 0, 10] rfl)
            refine lv_icmp_ne (tgt := 109) hx hb dX10_span_101 (by decide) (fun q44 => ?_) (fun q44 => ?_)
            · replace h := gf_s q44 h
              refine lv_iload hx hb dX10_span_109 (lv_at hl 8 rfl) ?_
              refine lv_iload hx hb dX10_span_111 (lv_at hl 0 rfl) ?_
              obtain ⟨r46, hc45, h⟩ := gb_s h
              refine gx_calli F G (va_runS (As := [.int y13, .int r32]) (rest := []) (gx_fix F) (c_X10_less l sa D ad cy N H.size hN hI c0 c27 hc45) (va_cwS 2 hts gX10_span_X10_less rfl rfl rfl (by decide +kernel) ⟨by decide, by decide⟩) (gx_pre F G) rfl rfl hl.1 rfl (lv_room (Nat.le_of_ble_eq_true rfl)) dX10_span_113 ⟨Nat.zero_le _, Nat.zero_le _⟩) (fun H locs G => ?_)
              exact JK34 _ _ _ _ h G (lv_sub hl [1, 2, 3, 4, 5, 6, 7, 9, 10, 11, 0] rfl)
            · replace h := gt_s q44 h
              refine lv_iload hx hb dX10_span_104 (lv_at hl 0 rfl) ?_
              refine lv_goto (tgt := 116) hx hb dX10_span_106 (by decide) ?_
              exact JK34 _ _ _ _ h G (lv_sub hl [1, 2, 3, 4, 5, 6, 7, 9, 10, 11, 0] rfl)
      exact L12 n _ _ _ _ _ _ _ _ hb12 G (lv_sub hl [4, 5, 6, 7, 8, 9, 10, 3, 2, 1, 0] rfl)
    · replace h := gf_s q11 h
      refine lv_iconst (v := 0) hx hb dX10_span_57 (by decide) ?_
      cases h
      rw [← hQ]
      exact gx_iret F G hr hlocks dX10_span_58
  obtain ⟨K47, eK47, h⟩ := gj_s h
  have JK47 : ∀ (H : Heap) (locs : List Loc) (ls : Array Slot), K47 () = some (rZ, cZ) → gW D ad cy N A s.heap c0 c3 H locs → lv_has ls 12 [(0, .ref (ad t)), (1, .int a1), (2, .int a2), (3, .int a3), (4, .int a4), (5, .int a5), (6, .int a6)] → W p l e rmX10_span s m args below meth cod H locs 0 0 Q (F0 m 44 ls [.ref (ad t)]) := by
    intro  H locs ls h G hl
    rw [eK47] at h
    refine lv_iconst (v := 1) hx hb dX10_span_44 (by decide) ?_
    refine lv_goto (tgt := 49) hx hb dX10_span_45 (by decide) ?_
    exact JK7 _ _ _ _ h G hl
  refine lv_if_eq (tgt := 44) hx hb dX10_span_13 (by decide) (fun q48 => ?_) (fun q48 => ?_)
  · replace h := gt_s q48 h
    exact JK47  _ _ _ h G hl
  · replace h := gf_s q48 h
    refine lv_iload_n hx hb dX10_span_16 rfl (lv_at hl 3 rfl) ?_
    refine lv_iload hx hb dX10_span_17 (lv_at hl 4 rfl) ?_
    obtain ⟨r50, hc49, h⟩ := gb_s h
    refine gx_calli F G (va_runS (As := [.int a3, .int a4]) (rest := [.ref (ad t)]) (gx_fix F) (c_X10_isFair l sa D ad cy N H.size hN hI c0 c3 hc49) (va_cwS 2 hts gX10_span_X10_isFair rfl rfl rfl (by decide +kernel) ⟨by decide, by decide⟩) (gx_pre F G) rfl rfl hl.1 rfl (lv_room (Nat.le_of_ble_eq_true rfl)) dX10_span_19 ⟨Nat.zero_le _, Nat.zero_le _⟩) (fun H locs G => ?_)
    refine lv_if_eq (tgt := 44) hx hb dX10_span_22 (by decide) (fun q51 => ?_) (fun q51 => ?_)
    · replace h := gt_s q51 h
      exact JK47  _ _ _ h G hl
    · replace h := gf_s q51 h
      refine lv_iload hx hb dX10_span_25 (lv_at hl 5 rfl) ?_
      refine lv_iconst (v := 0) hx hb dX10_span_27 (by decide) ?_
      refine lv_iconst (v := 2) hx hb dX10_span_28 (by decide) ?_
      obtain ⟨r53, hc52, h⟩ := gb_s h
      refine gx_calli F G (va_runS (As := [.int a5, .int 0, .int 2]) (rest := [.ref (ad t)]) (gx_fix F) (c_X10_in l sa D ad cy N H.size hN hI c0 c3 hc52) (va_cwS 3 hts gX10_span_X10_in rfl rfl rfl (by decide +kernel) ⟨by decide, by decide⟩) (gx_pre F G) rfl rfl hl.1 rfl (lv_room (Nat.le_of_ble_eq_true rfl)) dX10_span_29 ⟨Nat.zero_le _, Nat.zero_le _⟩) (fun H locs G => ?_)
      refine lv_if_eq (tgt := 44) hx hb dX10_span_32 (by decide) (fun q54 => ?_) (fun q54 => ?_)
      · replace h := gt_s q54 h
        exact JK47  _ _ _ h G hl
      · replace h := gf_s q54 h
        refine lv_aload_n hx hb dX10_span_35 rfl (lv_at hl 0 rfl) ?_
        refine lv_iload hx hb dX10_span_36 (lv_at hl 6 rfl) ?_
        obtain ⟨r56, hc55, h⟩ := gb_s h
        refine gx_calli F G (va_runV (As := [.int a6]) (rest := [.ref (ad t)]) (gx_fix F) (c_X10_isThing l sa D ad cy N H.size hN hI c0 c3 hc55) (cwV 1 hts gX10_span_X10_isThing rfl rfl rfl (by decide +kernel) ⟨by decide, by decide⟩) (gx_rec F G ht2 (gwe_10 hk1) rfl) rfl rfl hl.1 rfl (lv_room (Nat.le_of_ble_eq_true rfl)) dX10_span_38 ⟨Nat.zero_le _, Nat.zero_le _⟩) (fun H locs G => ?_)
        refine lv_if_ne (tgt := 48) hx hb dX10_span_41 (by decide) (fun q57 => ?_) (fun q57 => ?_)
        · replace h := gf_s q57 h
          refine lv_iconst (v := 0) hx hb dX10_span_48 (by decide) ?_
          exact JK7 _ _ _ _ h G hl
        · replace h := gt_s q57 h
          exact JK47  _ _ _ h G hl
def m_X10_puts (t : Nat) (a1 : Nat) (a2 : Int32) (a3 : Int32) (c : gm) : Option (Int32 × gm) :=
  gj (fun (c1 : gm) => gc (gck t = 10) (gv (gm_r c1 t (upd (c1.1 t) 36 ((c1.1 t 36) + 1))) (fun (c5 : gm) => gc (gck a1 = 22) (gc (0 ≤ ((c5.1 t 36) - 1).toInt ∧ ((c5.1 t 36) - 1).toInt < ((gal a1) : Nat)) (some ((c5.1 a1 ((c5.1 t 36) - 1).toNatClampNeg), c5)))))) (fun K2 => (if a3 = 0 then gc (gck t = 10) (gc (gck a1 = 22) (gc (0 ≤ (c.1 t 36).toInt ∧ (c.1 t 36).toInt < ((gal a1) : Nat)) (gv (gm_r c a1 (upd (c.1 a1) (c.1 t 36).toNatClampNeg a2)) (fun (c15 : gm) => K2 c15)))) else K2 c))
abbrev rmX10_puts : Room := { frames := 0, cells := 0, slots := 0, locals := 0 }
set_option maxHeartbeats 4000000 in
set_option maxRecDepth 100000 in
theorem c_X10_puts (l : Launch) (sa : gSa) (D : va_G) (ad : Nat → Nat) (cy : Nat → ClassId) (N sz : Nat) (hN : 530 ≤ N) (hI : gI ad N) (c0 c : gm) {t : Nat} {a1 : Nat} {a2 : Int32} {a3 : Int32} {rZ : Int32} {cZ : gm} (h : m_X10_puts t a1 a2 a3 c = some (rZ, cZ)) : Met l yX10_puts wsX10_puts rmX10_puts (va_Pc [.ref (ad t), .ref (ad a1), .int a2, .int a3] (gP sa D ad cy N sz c0 c)) (va_Qi (fun (z : Int32) (_ : Unit) => z = rZ) (fun _ U => gE D ad cy N c0 cZ U) (gA ad N sz)) 0 0 (gA ad N sz) := by
  refine Met.ofW (cc := cX10_puts) (maxL := 4) (ret := (some .int)) (by decide) rfl ?_
  intro p e s m args below meth cod s₁ B hml hv
  obtain ⟨rfl, hsz, hP, hK, hZ⟩ := hv
  have hx := B.exec
  have hb := B.bytes
  have hr := B.returns
  have hts := atoms_spec (ws := wsX10_puts) B.pre
  have hown : s.vm.findClass RX10 = some m.cls := findClass_of_methodNamed B.named
  have hlocks := B.notSynchronized
  subst hsz
  have hl := lv_entry ([.ref (ad t), .ref (ad a1), .int a2, .int a3]) (n := 4) (Nat.le_of_ble_eq_true rfl)
  rw [lg_entry_eq]
  generalize (lg_sl ([.ref (ad t), .ref (ad a1), .int a2, .int a3]) ++ List.replicate (4 - (lg_sl ([.ref (ad t), .ref (ad a1), .int a2, .int a3])).length) Slot.unset).toArray = ls at hl ⊢
  have hl : lv_has ls 4 [(0, .ref (ad t)), (1, .ref (ad a1)), (2, .int a2), (3, .int a3)] := hl
  have in10 : ∀ w ∈ wsX100, w ∈ wsX10_puts := by decide +kernel
  generalize hargs : ([.ref (ad t), .ref (ad a1), .int a2, .int a3] : List Value).toArray = args at *
  generalize hAe : gA ad N s.heap.size = A
  have F : gF sa D ad cy N A p s m args cod cX10_puts 4 wsX10_puts RX10 := ⟨hx, hb, hml, hown, hts, hK, hI, by rw [← hAe]; exact gA_ad, by rw [← hAe]; exact gA_sz, by rw [← hAe]; exact hZ⟩
  have G : gW D ad cy N A s.heap c0 c s.heap [] := ⟨hP, va_S.rf⟩
  generalize hQ : MQ below (va_Qi (fun (z : Int32) (_ : Unit) => z = rZ) (fun _ U => gE D ad cy N c0 cZ U) A) args s 0 0 A = Q
  suffices hgen : ∀ (H : Heap) (locs : List Loc), gW D ad cy N A s.heap c0 c H locs → W p l e rmX10_puts s m args below meth cod H locs 0 0 Q (F0 m 0 ls []) from hgen _ _ G
  clear G
  intro H locs G
  unfold m_X10_puts at h
  refine lv_iload_n hx hb dX10_puts_0 rfl (lv_at hl 3 rfl) ?_
  obtain ⟨K2, eK2, h⟩ := gj_s h
  have JK2 : ∀ (c1 : gm) (H : Heap) (locs : List Loc) (ls : Array Slot), K2 c1 = some (rZ, cZ) → gW D ad cy N A s.heap c0 c1 H locs → lv_has ls 4 [(0, .ref (ad t)), (1, .ref (ad a1))] → W p l e rmX10_puts s m args below meth cod H locs 0 0 Q (F0 m 11 ls []) := by
    intro c1 H locs ls h G hl
    rw [eK2] at h
    refine lv_aload_n hx hb dX10_puts_11 rfl (lv_at hl 0 rfl) ?_
    refine lv_dup hx hb dX10_puts_12 rfl ?_
    obtain ⟨hk3, h⟩ := gc_s h
    have ht4 : t < N := Nat.lt_of_lt_of_le (gck_lt10 hk3) hN
    refine fg_10_spot F G hk3 ht4 in10 (by decide +kernel) dX10_puts_13 ?_
    refine lv_iconst (v := 1) hx hb dX10_puts_16 (by decide) ?_
    refine lv_iadd hx hb dX10_puts_17 ?_
    refine fp_10_spot F G hk3 ht4 in10 (by decide +kernel) dX10_puts_18 (fun H locs G => ?_)
    obtain ⟨c5, ec5⟩ : ∃ z, z = gm_r c1 t (upd (c1.1 t) 36 ((c1.1 t 36) + 1)) := ⟨_, rfl⟩
    rw [← ec5] at G
    replace h := gv_s h c5 ec5
    refine lv_aload_n hx hb dX10_puts_21 rfl (lv_at hl 1 rfl) ?_
    refine lv_aload_n hx hb dX10_puts_22 rfl (lv_at hl 0 rfl) ?_
    refine fg_10_spot F G hk3 ht4 in10 (by decide +kernel) dX10_puts_23 ?_
    refine lv_iconst (v := 1) hx hb dX10_puts_26 (by decide) ?_
    refine lv_isub hx hb dX10_puts_27 ?_
    obtain ⟨hk6, h⟩ := gc_s h
    have ht7 : a1 < N := Nat.lt_of_lt_of_le (gck_lt22 hk6) hN
    obtain ⟨hi8, h⟩ := gc_s h
    refine gx_mia F G hk6 ht7 rfl hi8 dX10_puts_28 ?_
    cases h
    rw [← hQ]
    exact gx_iret F G hr hlocks dX10_puts_29
  refine lv_if_ne (tgt := 11) hx hb dX10_puts_1 (by decide) (fun q9 => ?_) (fun q9 => ?_)
  · replace h := gf_s q9 h
    exact JK2 _ _ _ _ h G (lv_sub hl [0, 1] rfl)
  · replace h := gt_s q9 h
    refine lv_aload_n hx hb dX10_puts_4 rfl (lv_at hl 1 rfl) ?_
    refine lv_aload_n hx hb dX10_puts_5 rfl (lv_at hl 0 rfl) ?_
    obtain ⟨hk10, h⟩ := gc_s h
    have ht11 : t < N := Nat.lt_of_lt_of_le (gck_lt10 hk10) hN
    refine fg_10_spot F G hk10 ht11 in10 (by decide +kernel) dX10_puts_6 ?_
    refine lv_iload_n hx hb dX10_puts_9 rfl (lv_at hl 2 rfl) ?_
    obtain ⟨hk12, h⟩ := gc_s h
    have ht13 : a1 < N := Nat.lt_of_lt_of_le (gck_lt22 hk12) hN
    obtain ⟨hi14, h⟩ := gc_s h
    refine gx_mis F G hk12 ht13 rfl hi14 dX10_puts_10 (fun H locs G => ?_)
    obtain ⟨c15, ec15⟩ : ∃ z, z = gm_r c a1 (upd (c.1 a1) (c.1 t 36).toNatClampNeg a2) := ⟨_, rfl⟩
    rw [← ec15] at G
    replace h := gv_s h c15 ec15
    exact JK2 _ _ _ _ h G (lv_sub hl [0, 1] rfl)
def m_X10_putsAll_L62 (t : Nat) (a1 : Nat) (a2 : Int32) (y13 : Int32) (y18 : Int32) (c19 : gm) : Option ((Int32 × gm) ⊕ (gm)) :=
  (if 60 ≤ y18 then some (.inr c19) else gc (0 ≤ y13.toInt ∧ y13.toInt < 16) (gc (0 ≤ y13.toInt ∧ y13.toInt < 16) (gc (gck (506 + 1 + y13.toNatClampNeg) = 22) (gc (0 ≤ y18.toInt ∧ y18.toInt < ((gal (506 + 1 + y13.toNatClampNeg)) : Nat)) (gb2 (m_X10_puts t a1 (c19.1 (506 + 1 + y13.toNatClampNeg) y18.toNatClampNeg) a2 c19) (fun (r32 : Int32) (c33 : gm) => gc (0 ≤ y18.toInt ∧ y18.toInt < ((gal (506 + 1 + y13.toNatClampNeg)) : Nat)) (gv (gm_r c33 (506 + 1 + y13.toNatClampNeg) (upd (c33.1 (506 + 1 + y13.toNatClampNeg)) y18.toNatClampNeg r32)) (fun (c35 : gm) => gv (y18 + 1) (fun (x36 : Int32) => some (.inl (x36, c35)))))))))))
def m_X10_putsAll_L53 (n : Nat) (t : Nat) (a1 : Nat) (a2 : Int32) (y13 : Int32) (c14 : gm) : Option ((Int32 × gm) ⊕ (gm)) :=
  (if 16 ≤ y13 then some (.inr c14) else gb (gloop (gu2 (fun (y18 : Int32) (c19 : gm) => m_X10_putsAll_L62 t a1 a2 y13 y18 c19)) n (0, c14)) (fun (c20 : gm) => gv (y13 + 1) (fun (x21 : Int32) => some (.inl (x21, c20)))))
def m_X10_putsAll_L21 (t : Nat) (a1 : Nat) (a2 : Int32) (y9 : Int32) (c10 : gm) : Option ((Int32 × gm) ⊕ (gm)) :=
  (if 60 ≤ y9 then some (.inr c10) else gc (0 ≤ y9.toInt ∧ y9.toInt < 60) (gb2 (m_X10_puts t a1 (c10.1 503 y9.toNatClampNeg) a2 c10) (fun (r43 : Int32) (c44 : gm) => gc (0 ≤ y9.toInt ∧ y9.toInt < 60) (gv (gm_r c44 503 (upd (c44.1 503) y9.toNatClampNeg r43)) (fun (c46 : gm) => gv (y9 + 1) (fun (x47 : Int32) => some (.inl (x47, c46))))))))
def m_X10_putsAll (n : Nat) (t : Nat) (a1 : Nat) (a2 : Int32) (c : gm) : Option (gm) :=
  gc (gck t = 10) (gv (gm_r c t (upd (c.1 t) 36 0)) (fun (c3 : gm) => gb2 (m_X10_puts t a1 (c3.1 t 33) a2 c3) (fun (r5 : Int32) (c6 : gm) => gv (gm_r c6 t (upd (c6.1 t) 33 r5)) (fun (c7 : gm) => gb (gloop (gu2 (fun (y9 : Int32) (c10 : gm) => m_X10_putsAll_L21 t a1 a2 y9 c10)) n (0, c7)) (fun (c11 : gm) => gb (gloop (gu2 (fun (y13 : Int32) (c14 : gm) => m_X10_putsAll_L53 n t a1 a2 y13 c14)) n (0, c11)) (fun (c15 : gm) => some c15))))))
abbrev rmX10_putsAll : Room := { frames := 1, cells := 0, slots := 0, locals := 23 }
set_option maxHeartbeats 4000000 in
set_option maxRecDepth 100000 in
theorem c_X10_putsAll (l : Launch) (sa : gSa) (D : va_G) (ad : Nat → Nat) (cy : Nat → ClassId) (N sz : Nat) (hN : 530 ≤ N) (hI : gI ad N) (c0 c : gm) {n : Nat} {t : Nat} {a1 : Nat} {a2 : Int32} {cZ : gm} (h : m_X10_putsAll n t a1 a2 c = some cZ) : Met l yX10_putsAll wsX10_putsAll rmX10_putsAll (va_Pc [.ref (ad t), .ref (ad a1), .int a2] (gP sa D ad cy N sz c0 c)) (va_Qv (fun (_ : Unit) => True) (fun _ U => gE D ad cy N c0 cZ U) (gA ad N sz)) 0 0 (gA ad N sz) := by
  refine Met.ofW (cc := cX10_putsAll) (maxL := 5) (ret := none) (by decide) rfl ?_
  intro p e s m args below meth cod s₁ B hml hv
  obtain ⟨rfl, hsz, hP, hK, hZ⟩ := hv
  have hx := B.exec
  have hb := B.bytes
  have hr := B.returns
  have hts := atoms_spec (ws := wsX10_putsAll) B.pre
  have hown : s.vm.findClass RX10 = some m.cls := findClass_of_methodNamed B.named
  have hlocks := B.notSynchronized
  subst hsz
  have hl := lv_entry ([.ref (ad t), .ref (ad a1), .int a2]) (n := 5) (Nat.le_of_ble_eq_true rfl)
  rw [lg_entry_eq]
  generalize (lg_sl ([.ref (ad t), .ref (ad a1), .int a2]) ++ List.replicate (5 - (lg_sl ([.ref (ad t), .ref (ad a1), .int a2])).length) Slot.unset).toArray = ls at hl ⊢
  have hl : lv_has ls 5 [(0, .ref (ad t)), (1, .ref (ad a1)), (2, .int a2)] := hl
  have in10 : ∀ w ∈ wsX100, w ∈ wsX10_putsAll := by decide +kernel
  generalize hargs : ([.ref (ad t), .ref (ad a1), .int a2] : List Value).toArray = args at *
  generalize hAe : gA ad N s.heap.size = A
  have F : gF sa D ad cy N A p s m args cod cX10_putsAll 5 wsX10_putsAll RX10 := ⟨hx, hb, hml, hown, hts, hK, hI, by rw [← hAe]; exact gA_ad, by rw [← hAe]; exact gA_sz, by rw [← hAe]; exact hZ⟩
  have G : gW D ad cy N A s.heap c0 c s.heap [] := ⟨hP, va_S.rf⟩
  generalize hQ : MQ below (va_Qv (fun (_ : Unit) => True) (fun _ U => gE D ad cy N c0 cZ U) A) args s 0 0 A = Q
  suffices hgen : ∀ (H : Heap) (locs : List Loc), gW D ad cy N A s.heap c0 c H locs → W p l e rmX10_putsAll s m args below meth cod H locs 0 0 Q (F0 m 0 ls []) from hgen _ _ G
  clear G
  intro H locs G
  unfold m_X10_putsAll at h
  refine lv_aload_n hx hb dX10_putsAll_0 rfl (lv_at hl 0 rfl) ?_
  refine lv_iconst (v := 0) hx hb dX10_putsAll_1 (by decide) ?_
  obtain ⟨hk1, h⟩ := gc_s h
  have ht2 : t < N := Nat.lt_of_lt_of_le (gck_lt10 hk1) hN
  refine fp_10_spot F G hk1 ht2 in10 (by decide +kernel) dX10_putsAll_2 (fun H locs G => ?_)
  obtain ⟨c3, ec3⟩ : ∃ z, z = gm_r c t (upd (c.1 t) 36 0) := ⟨_, rfl⟩
  rw [← ec3] at G
  replace h := gv_s h c3 ec3
  refine lv_aload_n hx hb dX10_putsAll_5 rfl (lv_at hl 0 rfl) ?_
  refine lv_aload_n hx hb dX10_putsAll_6 rfl (lv_at hl 0 rfl) ?_
  refine lv_aload_n hx hb dX10_putsAll_7 rfl (lv_at hl 1 rfl) ?_
  refine lv_aload_n hx hb dX10_putsAll_8 rfl (lv_at hl 0 rfl) ?_
  refine fg_10_works F G hk1 ht2 in10 (by decide +kernel) dX10_putsAll_9 ?_
  refine lv_iload_n hx hb dX10_putsAll_12 rfl (lv_at hl 2 rfl) ?_
  obtain ⟨r5, c6, hc4, h⟩ := gb2_s h
  refine gx_calli F G (va_runV (As := [.ref (ad a1), .int (c3.1 t 33), .int a2]) (rest := [.ref (ad t)]) (gx_fix F) (c_X10_puts l sa D ad cy N H.size hN hI c0 c3 hc4) (cwV 3 hts gX10_putsAll_X10_puts rfl rfl rfl (by decide +kernel) ⟨by decide, by decide⟩) (gx_rec F G ht2 (gwe_10 hk1) rfl) rfl rfl hl.1 rfl (lv_room (Nat.le_of_ble_eq_true rfl)) dX10_putsAll_13 ⟨Nat.zero_le _, Nat.zero_le _⟩) (fun H locs G => ?_)
  refine fp_10_works F G hk1 ht2 in10 (by decide +kernel) dX10_putsAll_16 (fun H locs G => ?_)
  obtain ⟨c7, ec7⟩ : ∃ z, z = gm_r c6 t (upd (c6.1 t) 33 r5) := ⟨_, rfl⟩
  rw [← ec7] at G
  replace h := gv_s h c7 ec7
  refine lv_iconst (v := 0) hx hb dX10_putsAll_19 (by decide) ?_
  refine lv_istore_n (lv' := [(3, .int 0), (0, .ref (ad t)), (1, .ref (ad a1)), (2, .int a2)]) hx hb dX10_putsAll_20 rfl hl (by decide) rfl (fun ls hl => ?_)
  obtain ⟨b8, hb8, hK8⟩ := gb_s h
  have E8 : ∀ (c11 : gm) (H : Heap) (locs : List Loc) (ls : Array Slot), (c11 : gm) = b8 → gW D ad cy N A s.heap c0 c11 H locs → lv_has ls 5 [(0, .ref (ad t)), (1, .ref (ad a1)), (2, .int a2)] → W p l e rmX10_putsAll s m args below meth cod H locs 0 0 Q (F0 m 51 ls []) := by
    intro c11 H locs ls hq8 G hl
    subst hq8
    replace hK8 := hK8
    have h := hK8
    refine lv_iconst (v := 0) hx hb dX10_putsAll_51 (by decide) ?_
    refine lv_istore_n (lv' := [(3, .int 0), (0, .ref (ad t)), (1, .ref (ad a1)), (2, .int a2)]) hx hb dX10_putsAll_52 rfl hl (by decide) rfl (fun ls hl => ?_)
    obtain ⟨b12, hb12, hK12⟩ := gb_s h
    have E12 : ∀ (c15 : gm) (H : Heap) (locs : List Loc) (ls : Array Slot), (c15 : gm) = b12 → gW D ad cy N A s.heap c0 c15 H locs → lv_has ls 5 [] → W p l e rmX10_putsAll s m args below meth cod H locs 0 0 Q (F0 m 105 ls []) := by
      intro c15 H locs ls hq12 G hl
      subst hq12
      replace hK12 := hK12
      have h := hK12
      cases h
      rw [← hQ]
      exact gx_vret F G hr hlocks dX10_putsAll_105
    have L12 : ∀ (n9 : Nat) (y13 : Int32) (c14 : gm) (H : Heap) (locs : List Loc) (ls : Array Slot), gloop (gu2 (fun (y13 : Int32) (c14 : gm) => m_X10_putsAll_L53 n t a1 a2 y13 c14)) n9 (y13, c14) = some b12 → gW D ad cy N A s.heap c0 c14 H locs → lv_has ls 5 [(0, .ref (ad t)), (1, .ref (ad a1)), (2, .int a2), (3, .int y13)] → W p l e rmX10_putsAll s m args below meth cod H locs 0 0 Q (F0 m 53 ls []) := by
      intro n9
      induction n9 with
      | zero => intro y13 c14 H locs ls h; exact (gloop_0 h).elim
      | succ n9 ih =>
        intro y13 c14 H locs ls h G hl
        have ih12 := ih
        obtain ⟨o12, h, hn12⟩ := gloop_s h
        replace h := gu2_s h
        unfold m_X10_putsAll_L53 at h
        refine lv_iload_n hx hb dX10_putsAll_53 rfl (lv_at hl 3 rfl) ?_
        refine lv_bipush (v := 16) hx hb dX10_putsAll_54 (by decide) ?_
        refine lv_icmp_ge (tgt := 105) hx hb dX10_putsAll_56 (by decide) (fun q16 => ?_) (fun q16 => ?_)
        · replace h := gt_s q16 h
          cases h
          exact E12 _ _ _ _ (gnx_r hn12) G (lv_sub hl [] rfl)
        · replace h := gf_s q16 h
          refine lv_iconst (v := 0) hx hb dX10_putsAll_59 (by decide) ?_
          refine lv_istore (lv' := [(4, .int 0), (0, .ref (ad t)), (1, .ref (ad a1)), (2, .int a2), (3, .int y13)]) hx hb dX10_putsAll_60 hl (by decide) rfl (fun ls hl => ?_)
          obtain ⟨b17, hb17, hK17⟩ := gb_s h
          have E17 : ∀ (c20 : gm) (H : Heap) (locs : List Loc) (ls : Array Slot), (c20 : gm) = b17 → gW D ad cy N A s.heap c0 c20 H locs → lv_has ls 5 [(0, .ref (ad t)), (1, .ref (ad a1)), (2, .int a2), (3, .int y13)] → W p l e rmX10_putsAll s m args below meth cod H locs 0 0 Q (F0 m 99 ls []) := by
            intro c20 H locs ls hq17 G hl
            subst hq17
            replace hK17 := hK17
            have h := hK17
            obtain ⟨x21, ex21⟩ : ∃ z : Int32, z = y13 + 1 := ⟨_, rfl⟩
            replace h := gv_s h x21 ex21
            refine lv_iinc (v := x21) (lv' := [(3, .int x21), (0, .ref (ad t)), (1, .ref (ad a1)), (2, .int a2)]) hx hb dX10_putsAll_99 hl (k := 3) rfl (by rw [ex21]; rfl) (by decide) rfl (fun ls hl => ?_)
            refine lv_goto (tgt := 53) hx hb dX10_putsAll_102 (by decide) ?_
            cases h
            exact ih12 _ _ _ _ _ hn12 G (lv_sub hl [1, 2, 3, 0] rfl)
          have L17 : ∀ (n9 : Nat) (y18 : Int32) (c19 : gm) (H : Heap) (locs : List Loc) (ls : Array Slot), gloop (gu2 (fun (y18 : Int32) (c19 : gm) => m_X10_putsAll_L62 t a1 a2 y13 y18 c19)) n9 (y18, c19) = some b17 → gW D ad cy N A s.heap c0 c19 H locs → lv_has ls 5 [(0, .ref (ad t)), (1, .ref (ad a1)), (2, .int a2), (3, .int y13), (4, .int y18)] → W p l e rmX10_putsAll s m args below meth cod H locs 0 0 Q (F0 m 62 ls []) := by
            intro n9
            induction n9 with
            | zero => intro y18 c19 H locs ls h; exact (gloop_0 h).elim
            | succ n9 ih =>
              intro y18 c19 H locs ls h G hl
              have ih17 := ih
              obtain ⟨o17, h, hn17⟩ := gloop_s h
              replace h := gu2_s h
              unfold m_X10_putsAll_L62 at h
              refine lv_iload hx hb dX10_putsAll_62 (lv_at hl 4 rfl) ?_
              refine lv_bipush (v := 60) hx hb dX10_putsAll_64 (by decide) ?_
              refine lv_icmp_ge (tgt := 99) hx hb dX10_putsAll_66 (by decide) (fun q22 => ?_) (fun q22 => ?_)
              · replace h := gt_s q22 h
                cases h
                exact E17 _ _ _ _ (gnx_r hn17) G (lv_sub hl [0, 1, 2, 3] rfl)
              · replace h := gf_s q22 h
                refine lv_aload_n hx hb dX10_putsAll_69 rfl (lv_at hl 0 rfl) ?_
                refine fg_10_before F G hk1 ht2 in10 (by decide +kernel) dX10_putsAll_70 ?_
                have hk23 : gck 506 = 25 := rfl
                have ht24 : 506 < N := Nat.lt_of_lt_of_le (by decide) hN
                have hn25 : gal 506 = 16 := rfl
                refine lv_iload_n hx hb dX10_putsAll_73 rfl (lv_at hl 3 rfl) ?_
                obtain ⟨hi26, h⟩ := gc_s h
                refine gx_mga F G hk23 ht24 hn25 hi26 dX10_putsAll_74 ?_
                refine lv_iload hx hb dX10_putsAll_75 (lv_at hl 4 rfl) ?_
                refine lv_aload_n hx hb dX10_putsAll_77 rfl (lv_at hl 0 rfl) ?_
                refine lv_aload_n hx hb dX10_putsAll_78 rfl (lv_at hl 1 rfl) ?_
                refine lv_aload_n hx hb dX10_putsAll_79 rfl (lv_at hl 0 rfl) ?_
                refine fg_10_before F G hk1 ht2 in10 (by decide +kernel) dX10_putsAll_80 ?_
                refine lv_iload_n hx hb dX10_putsAll_83 rfl (lv_at hl 3 rfl) ?_
                obtain ⟨hi27, h⟩ := gc_s h
                refine gx_mga F G hk23 ht24 hn25 hi27 dX10_putsAll_84 ?_
                refine lv_iload hx hb dX10_putsAll_85 (lv_at hl 4 rfl) ?_
                obtain ⟨hk28, h⟩ := gc_s h
                have ht29 : (506 + 1 + y13.toNatClampNeg) < N := Nat.lt_of_lt_of_le (gck_lt22 hk28) hN
                obtain ⟨hi30, h⟩ := gc_s h
                refine gx_mia F G hk28 ht29 rfl hi30 dX10_putsAll_87 ?_
                refine lv_iload_n hx hb dX10_putsAll_88 rfl (lv_at hl 2 rfl) ?_
                obtain ⟨r32, c33, hc31, h⟩ := gb2_s h
                refine gx_calli F G (va_runV (As := [.ref (ad a1), .int (c19.1 (506 + 1 + y13.toNatClampNeg) y18.toNatClampNeg), .int a2]) (rest := [.int y18, .ref (ad (506 + 1 + y13.toNatClampNeg))]) (gx_fix F) (c_X10_puts l sa D ad cy N H.size hN hI c0 c19 hc31) (cwV 3 hts gX10_putsAll_X10_puts rfl rfl rfl (by decide +kernel) ⟨by decide, by decide⟩) (gx_rec F G ht2 (gwe_10 hk1) rfl) rfl rfl hl.1 rfl (lv_room (Nat.le_of_ble_eq_true rfl)) dX10_putsAll_89 ⟨Nat.zero_le _, Nat.zero_le _⟩) (fun H locs G => ?_)
                obtain ⟨hi34, h⟩ := gc_s h
                refine gx_mis F G hk28 ht29 rfl hi34 dX10_putsAll_92 (fun H locs G => ?_)
                obtain ⟨c35, ec35⟩ : ∃ z, z = gm_r c33 (506 + 1 + y13.toNatClampNeg) (upd (c33.1 (506 + 1 + y13.toNatClampNeg)) y18.toNatClampNeg r32) := ⟨_, rfl⟩
                rw [← ec35] at G
                replace h := gv_s h c35 ec35
                obtain ⟨x36, ex36⟩ : ∃ z : Int32, z = y18 + 1 := ⟨_, rfl⟩
                replace h := gv_s h x36 ex36
                refine lv_iinc (v := x36) (lv' := [(4, .int x36), (0, .ref (ad t)), (1, .ref (ad a1)), (2, .int a2), (3, .int y13)]) hx hb dX10_putsAll_93 hl (k := 4) rfl (by rw [ex36]; rfl) (by decide) rfl (fun ls hl => ?_)
                refine lv_goto (tgt := 62) hx hb dX10_putsAll_96 (by decide) ?_
                cases h
                exact ih17 _ _ _ _ _ hn17 G (lv_sub hl [1, 2, 3, 4, 0] rfl)
          exact L17 n _ _ _ _ _ hb17 G (lv_sub hl [1, 2, 3, 4, 0] rfl)
    exact L12 n _ _ _ _ _ hb12 G (lv_sub hl [1, 2, 3, 0] rfl)
  have L8 : ∀ (n9 : Nat) (y9 : Int32) (c10 : gm) (H : Heap) (locs : List Loc) (ls : Array Slot), gloop (gu2 (fun (y9 : Int32) (c10 : gm) => m_X10_putsAll_L21 t a1 a2 y9 c10)) n9 (y9, c10) = some b8 → gW D ad cy N A s.heap c0 c10 H locs → lv_has ls 5 [(0, .ref (ad t)), (1, .ref (ad a1)), (2, .int a2), (3, .int y9)] → W p l e rmX10_putsAll s m args below meth cod H locs 0 0 Q (F0 m 21 ls []) := by
    intro n9
    induction n9 with
    | zero => intro y9 c10 H locs ls h; exact (gloop_0 h).elim
    | succ n9 ih =>
      intro y9 c10 H locs ls h G hl
      have ih8 := ih
      obtain ⟨o8, h, hn8⟩ := gloop_s h
      replace h := gu2_s h
      unfold m_X10_putsAll_L21 at h
      refine lv_iload_n hx hb dX10_putsAll_21 rfl (lv_at hl 3 rfl) ?_
      refine lv_bipush (v := 60) hx hb dX10_putsAll_22 (by decide) ?_
      refine lv_icmp_ge (tgt := 51) hx hb dX10_putsAll_24 (by decide) (fun q37 => ?_) (fun q37 => ?_)
      · replace h := gt_s q37 h
        cases h
        exact E8 _ _ _ _ (gnx_r hn8) G (lv_sub hl [0, 1, 2] rfl)
      · replace h := gf_s q37 h
        refine lv_aload_n hx hb dX10_putsAll_27 rfl (lv_at hl 0 rfl) ?_
        refine fg_10_now F G hk1 ht2 in10 (by decide +kernel) dX10_putsAll_28 ?_
        have hk38 : gck 503 = 22 := rfl
        have ht39 : 503 < N := Nat.lt_of_lt_of_le (by decide) hN
        have hn40 : gal 503 = 60 := rfl
        refine lv_iload_n hx hb dX10_putsAll_31 rfl (lv_at hl 3 rfl) ?_
        refine lv_aload_n hx hb dX10_putsAll_32 rfl (lv_at hl 0 rfl) ?_
        refine lv_aload_n hx hb dX10_putsAll_33 rfl (lv_at hl 1 rfl) ?_
        refine lv_aload_n hx hb dX10_putsAll_34 rfl (lv_at hl 0 rfl) ?_
        refine fg_10_now F G hk1 ht2 in10 (by decide +kernel) dX10_putsAll_35 ?_
        refine lv_iload_n hx hb dX10_putsAll_38 rfl (lv_at hl 3 rfl) ?_
        obtain ⟨hi41, h⟩ := gc_s h
        refine gx_mia F G hk38 ht39 hn40 hi41 dX10_putsAll_39 ?_
        refine lv_iload_n hx hb dX10_putsAll_40 rfl (lv_at hl 2 rfl) ?_
        obtain ⟨r43, c44, hc42, h⟩ := gb2_s h
        refine gx_calli F G (va_runV (As := [.ref (ad a1), .int (c10.1 503 y9.toNatClampNeg), .int a2]) (rest := [.int y9, .ref (ad 503)]) (gx_fix F) (c_X10_puts l sa D ad cy N H.size hN hI c0 c10 hc42) (cwV 3 hts gX10_putsAll_X10_puts rfl rfl rfl (by decide +kernel) ⟨by decide, by decide⟩) (gx_rec F G ht2 (gwe_10 hk1) rfl) rfl rfl hl.1 rfl (lv_room (Nat.le_of_ble_eq_true rfl)) dX10_putsAll_41 ⟨Nat.zero_le _, Nat.zero_le _⟩) (fun H locs G => ?_)
        obtain ⟨hi45, h⟩ := gc_s h
        refine gx_mis F G hk38 ht39 hn40 hi45 dX10_putsAll_44 (fun H locs G => ?_)
        obtain ⟨c46, ec46⟩ : ∃ z, z = gm_r c44 503 (upd (c44.1 503) y9.toNatClampNeg r43) := ⟨_, rfl⟩
        rw [← ec46] at G
        replace h := gv_s h c46 ec46
        obtain ⟨x47, ex47⟩ : ∃ z : Int32, z = y9 + 1 := ⟨_, rfl⟩
        replace h := gv_s h x47 ex47
        refine lv_iinc (v := x47) (lv' := [(3, .int x47), (0, .ref (ad t)), (1, .ref (ad a1)), (2, .int a2)]) hx hb dX10_putsAll_45 hl (k := 3) rfl (by rw [ex47]; rfl) (by decide) rfl (fun ls hl => ?_)
        refine lv_goto (tgt := 21) hx hb dX10_putsAll_48 (by decide) ?_
        cases h
        exact ih8 _ _ _ _ _ hn8 G (lv_sub hl [1, 2, 3, 0] rfl)
  exact L8 n _ _ _ _ _ hb8 G (lv_sub hl [1, 2, 3, 0] rfl)
def m_X10_image (n : Nat) (t : Nat) (c : gm) : Option (Int32 × gm) :=
  gc (gck t = 10) (gv (gm_r c t (upd (c.1 t) 0 0)) (fun (c3 : gm) => (if (c3.1 t 35) = 3 then some ((-1), c3) else gc (0 ≤ (c3.1 t 35).toInt ∧ (c3.1 t 35).toInt < 3) (gb (m_X10_putsAll n t (523 + 1 + (c3.1 t 35).toNatClampNeg) 0 c3) (fun (c11 : gm) => gv (gm_r c11 t (upd (c11.1 t) 35 ((c11.1 t 35) + 1))) (fun (c12 : gm) => some ((c12.1 t 35), c12)))))))
abbrev rmX10_image : Room := { frames := 2, cells := 0, slots := 0, locals := 47 }
set_option maxHeartbeats 4000000 in
set_option maxRecDepth 100000 in
theorem c_X10_image (l : Launch) (sa : gSa) (D : va_G) (ad : Nat → Nat) (cy : Nat → ClassId) (N sz : Nat) (hN : 530 ≤ N) (hI : gI ad N) (c0 c : gm) {n : Nat} {t : Nat} {rZ : Int32} {cZ : gm} (h : m_X10_image n t c = some (rZ, cZ)) : Met l yX10_image wsX10_image rmX10_image (va_Pc [.ref (ad t)] (gP sa D ad cy N sz c0 c)) (va_Qi (fun (z : Int32) (_ : Unit) => z = rZ) (fun _ U => gE D ad cy N c0 cZ U) (gA ad N sz)) 0 0 (gA ad N sz) := by
  refine Met.ofW (cc := cX10_image) (maxL := 1) (ret := (some .int)) (by decide) rfl ?_
  intro p e s m args below meth cod s₁ B hml hv
  obtain ⟨rfl, hsz, hP, hK, hZ⟩ := hv
  have hx := B.exec
  have hb := B.bytes
  have hr := B.returns
  have hts := atoms_spec (ws := wsX10_image) B.pre
  have hown : s.vm.findClass RX10 = some m.cls := findClass_of_methodNamed B.named
  have hlocks := B.notSynchronized
  subst hsz
  have hl := lv_entry ([.ref (ad t)]) (n := 1) (Nat.le_of_ble_eq_true rfl)
  rw [lg_entry_eq]
  generalize (lg_sl ([.ref (ad t)]) ++ List.replicate (1 - (lg_sl ([.ref (ad t)])).length) Slot.unset).toArray = ls at hl ⊢
  have hl : lv_has ls 1 [(0, .ref (ad t))] := hl
  have in10 : ∀ w ∈ wsX100, w ∈ wsX10_image := by decide +kernel
  generalize hargs : ([.ref (ad t)] : List Value).toArray = args at *
  generalize hAe : gA ad N s.heap.size = A
  have F : gF sa D ad cy N A p s m args cod cX10_image 1 wsX10_image RX10 := ⟨hx, hb, hml, hown, hts, hK, hI, by rw [← hAe]; exact gA_ad, by rw [← hAe]; exact gA_sz, by rw [← hAe]; exact hZ⟩
  have G : gW D ad cy N A s.heap c0 c s.heap [] := ⟨hP, va_S.rf⟩
  generalize hQ : MQ below (va_Qi (fun (z : Int32) (_ : Unit) => z = rZ) (fun _ U => gE D ad cy N c0 cZ U) A) args s 0 0 A = Q
  suffices hgen : ∀ (H : Heap) (locs : List Loc), gW D ad cy N A s.heap c0 c H locs → W p l e rmX10_image s m args below meth cod H locs 0 0 Q (F0 m 0 ls []) from hgen _ _ G
  clear G
  intro H locs G
  unfold m_X10_image at h
  refine lv_aload_n hx hb dX10_image_0 rfl (lv_at hl 0 rfl) ?_
  refine lv_iconst (v := 0) hx hb dX10_image_1 (by decide) ?_
  obtain ⟨hk1, h⟩ := gc_s h
  have ht2 : t < N := Nat.lt_of_lt_of_le (gck_lt10 hk1) hN
  refine fp_10_thrown F G hk1 ht2 in10 (by decide +kernel) dX10_image_2 (fun H locs G => ?_)
  obtain ⟨c3, ec3⟩ : ∃ z, z = gm_r c t (upd (c.1 t) 0 0) := ⟨_, rfl⟩
  rw [← ec3] at G
  replace h := gv_s h c3 ec3
  refine lv_aload_n hx hb dX10_image_5 rfl (lv_at hl 0 rfl) ?_
  refine fg_10_images F G hk1 ht2 in10 (by decide +kernel) dX10_image_6 ?_
  refine lv_iconst (v := 3) hx hb dX10_image_9 (by decide) ?_
  refine lv_icmp_ne (tgt := 15) hx hb dX10_image_10 (by decide) (fun q4 => ?_) (fun q4 => ?_)
  · replace h := gf_s q4 h
    refine lv_aload_n hx hb dX10_image_15 rfl (lv_at hl 0 rfl) ?_
    refine lv_aload_n hx hb dX10_image_16 rfl (lv_at hl 0 rfl) ?_
    refine fg_10_kept F G hk1 ht2 in10 (by decide +kernel) dX10_image_17 ?_
    have hk5 : gck 523 = 25 := rfl
    have ht6 : 523 < N := Nat.lt_of_lt_of_le (by decide) hN
    have hn7 : gal 523 = 3 := rfl
    refine lv_aload_n hx hb dX10_image_20 rfl (lv_at hl 0 rfl) ?_
    refine fg_10_images F G hk1 ht2 in10 (by decide +kernel) dX10_image_21 ?_
    obtain ⟨hi8, h⟩ := gc_s h
    refine gx_mga F G hk5 ht6 hn7 hi8 dX10_image_24 ?_
    refine lv_iconst (v := 0) hx hb dX10_image_25 (by decide) ?_
    obtain ⟨c11, hc9, h⟩ := gb_s h
    refine gx_callv F G (va_runV (As := [.ref (ad (523 + 1 + (c3.1 t 35).toNatClampNeg)), .int 0]) (rest := []) (gx_fix F) (c_X10_putsAll l sa D ad cy N H.size hN hI c0 c3 hc9) (cwV 2 hts gX10_image_X10_putsAll rfl rfl rfl (by decide +kernel) ⟨by decide, by decide⟩) (gx_rec F G ht2 (gwe_10 hk1) rfl) rfl rfl hl.1 rfl (lv_room (Nat.le_of_ble_eq_true rfl)) dX10_image_26 ⟨Nat.zero_le _, Nat.zero_le _⟩) (fun H locs G => ?_)
    refine lv_aload_n hx hb dX10_image_29 rfl (lv_at hl 0 rfl) ?_
    refine lv_dup hx hb dX10_image_30 rfl ?_
    refine fg_10_images F G hk1 ht2 in10 (by decide +kernel) dX10_image_31 ?_
    refine lv_iconst (v := 1) hx hb dX10_image_34 (by decide) ?_
    refine lv_iadd hx hb dX10_image_35 ?_
    refine fp_10_images F G hk1 ht2 in10 (by decide +kernel) dX10_image_36 (fun H locs G => ?_)
    obtain ⟨c12, ec12⟩ : ∃ z, z = gm_r c11 t (upd (c11.1 t) 35 ((c11.1 t 35) + 1)) := ⟨_, rfl⟩
    rw [← ec12] at G
    replace h := gv_s h c12 ec12
    refine lv_aload_n hx hb dX10_image_39 rfl (lv_at hl 0 rfl) ?_
    refine fg_10_images F G hk1 ht2 in10 (by decide +kernel) dX10_image_40 ?_
    cases h
    rw [← hQ]
    exact gx_iret F G hr hlocks dX10_image_43
  · replace h := gt_s q4 h
    refine lv_iconst (v := (-1)) hx hb dX10_image_13 (by decide) ?_
    cases h
    rw [← hQ]
    exact gx_iret F G hr hlocks dX10_image_14
def m_X10_restore (n : Nat) (t : Nat) (c : gm) : Option (Int32 × gm) :=
  gc (gck t = 10) (gv (gm_r c t (upd (c.1 t) 0 0)) (fun (c3 : gm) => (if (c3.1 t 35) = 0 then some ((-1), c3) else gv (gm_r c3 t (upd (c3.1 t) 35 ((c3.1 t 35) - 1))) (fun (c5 : gm) => gc (0 ≤ (c5.1 t 35).toInt ∧ (c5.1 t 35).toInt < 3) (gb (m_X10_putsAll n t (523 + 1 + (c5.1 t 35).toNatClampNeg) 1 c5) (fun (c12 : gm) => gv (gm_r c12 t (upd (c12.1 t) 34 0)) (fun (c13 : gm) => some ((c13.1 t 35), c13))))))))
abbrev rmX10_restore : Room := { frames := 2, cells := 0, slots := 0, locals := 47 }
set_option maxHeartbeats 4000000 in
set_option maxRecDepth 100000 in
theorem c_X10_restore (l : Launch) (sa : gSa) (D : va_G) (ad : Nat → Nat) (cy : Nat → ClassId) (N sz : Nat) (hN : 530 ≤ N) (hI : gI ad N) (c0 c : gm) {n : Nat} {t : Nat} {rZ : Int32} {cZ : gm} (h : m_X10_restore n t c = some (rZ, cZ)) : Met l yX10_restore wsX10_restore rmX10_restore (va_Pc [.ref (ad t)] (gP sa D ad cy N sz c0 c)) (va_Qi (fun (z : Int32) (_ : Unit) => z = rZ) (fun _ U => gE D ad cy N c0 cZ U) (gA ad N sz)) 0 0 (gA ad N sz) := by
  refine Met.ofW (cc := cX10_restore) (maxL := 1) (ret := (some .int)) (by decide) rfl ?_
  intro p e s m args below meth cod s₁ B hml hv
  obtain ⟨rfl, hsz, hP, hK, hZ⟩ := hv
  have hx := B.exec
  have hb := B.bytes
  have hr := B.returns
  have hts := atoms_spec (ws := wsX10_restore) B.pre
  have hown : s.vm.findClass RX10 = some m.cls := findClass_of_methodNamed B.named
  have hlocks := B.notSynchronized
  subst hsz
  have hl := lv_entry ([.ref (ad t)]) (n := 1) (Nat.le_of_ble_eq_true rfl)
  rw [lg_entry_eq]
  generalize (lg_sl ([.ref (ad t)]) ++ List.replicate (1 - (lg_sl ([.ref (ad t)])).length) Slot.unset).toArray = ls at hl ⊢
  have hl : lv_has ls 1 [(0, .ref (ad t))] := hl
  have in10 : ∀ w ∈ wsX100, w ∈ wsX10_restore := by decide +kernel
  generalize hargs : ([.ref (ad t)] : List Value).toArray = args at *
  generalize hAe : gA ad N s.heap.size = A
  have F : gF sa D ad cy N A p s m args cod cX10_restore 1 wsX10_restore RX10 := ⟨hx, hb, hml, hown, hts, hK, hI, by rw [← hAe]; exact gA_ad, by rw [← hAe]; exact gA_sz, by rw [← hAe]; exact hZ⟩
  have G : gW D ad cy N A s.heap c0 c s.heap [] := ⟨hP, va_S.rf⟩
  generalize hQ : MQ below (va_Qi (fun (z : Int32) (_ : Unit) => z = rZ) (fun _ U => gE D ad cy N c0 cZ U) A) args s 0 0 A = Q
  suffices hgen : ∀ (H : Heap) (locs : List Loc), gW D ad cy N A s.heap c0 c H locs → W p l e rmX10_restore s m args below meth cod H locs 0 0 Q (F0 m 0 ls []) from hgen _ _ G
  clear G
  intro H locs G
  unfold m_X10_restore at h
  refine lv_aload_n hx hb dX10_restore_0 rfl (lv_at hl 0 rfl) ?_
  refine lv_iconst (v := 0) hx hb dX10_restore_1 (by decide) ?_
  obtain ⟨hk1, h⟩ := gc_s h
  have ht2 : t < N := Nat.lt_of_lt_of_le (gck_lt10 hk1) hN
  refine fp_10_thrown F G hk1 ht2 in10 (by decide +kernel) dX10_restore_2 (fun H locs G => ?_)
  obtain ⟨c3, ec3⟩ : ∃ z, z = gm_r c t (upd (c.1 t) 0 0) := ⟨_, rfl⟩
  rw [← ec3] at G
  replace h := gv_s h c3 ec3
  refine lv_aload_n hx hb dX10_restore_5 rfl (lv_at hl 0 rfl) ?_
  refine fg_10_images F G hk1 ht2 in10 (by decide +kernel) dX10_restore_6 ?_
  refine lv_if_ne (tgt := 14) hx hb dX10_restore_9 (by decide) (fun q4 => ?_) (fun q4 => ?_)
  · replace h := gf_s q4 h
    refine lv_aload_n hx hb dX10_restore_14 rfl (lv_at hl 0 rfl) ?_
    refine lv_dup hx hb dX10_restore_15 rfl ?_
    refine fg_10_images F G hk1 ht2 in10 (by decide +kernel) dX10_restore_16 ?_
    refine lv_iconst (v := 1) hx hb dX10_restore_19 (by decide) ?_
    refine lv_isub hx hb dX10_restore_20 ?_
    refine fp_10_images F G hk1 ht2 in10 (by decide +kernel) dX10_restore_21 (fun H locs G => ?_)
    obtain ⟨c5, ec5⟩ : ∃ z, z = gm_r c3 t (upd (c3.1 t) 35 ((c3.1 t 35) - 1)) := ⟨_, rfl⟩
    rw [← ec5] at G
    replace h := gv_s h c5 ec5
    refine lv_aload_n hx hb dX10_restore_24 rfl (lv_at hl 0 rfl) ?_
    refine lv_aload_n hx hb dX10_restore_25 rfl (lv_at hl 0 rfl) ?_
    refine fg_10_kept F G hk1 ht2 in10 (by decide +kernel) dX10_restore_26 ?_
    have hk6 : gck 523 = 25 := rfl
    have ht7 : 523 < N := Nat.lt_of_lt_of_le (by decide) hN
    have hn8 : gal 523 = 3 := rfl
    refine lv_aload_n hx hb dX10_restore_29 rfl (lv_at hl 0 rfl) ?_
    refine fg_10_images F G hk1 ht2 in10 (by decide +kernel) dX10_restore_30 ?_
    obtain ⟨hi9, h⟩ := gc_s h
    refine gx_mga F G hk6 ht7 hn8 hi9 dX10_restore_33 ?_
    refine lv_iconst (v := 1) hx hb dX10_restore_34 (by decide) ?_
    obtain ⟨c12, hc10, h⟩ := gb_s h
    refine gx_callv F G (va_runV (As := [.ref (ad (523 + 1 + (c5.1 t 35).toNatClampNeg)), .int 1]) (rest := []) (gx_fix F) (c_X10_putsAll l sa D ad cy N H.size hN hI c0 c5 hc10) (cwV 2 hts gX10_restore_X10_putsAll rfl rfl rfl (by decide +kernel) ⟨by decide, by decide⟩) (gx_rec F G ht2 (gwe_10 hk1) rfl) rfl rfl hl.1 rfl (lv_room (Nat.le_of_ble_eq_true rfl)) dX10_restore_35 ⟨Nat.zero_le _, Nat.zero_le _⟩) (fun H locs G => ?_)
    refine lv_aload_n hx hb dX10_restore_38 rfl (lv_at hl 0 rfl) ?_
    refine lv_iconst (v := 0) hx hb dX10_restore_39 (by decide) ?_
    refine fp_10_refusedSteps F G hk1 ht2 in10 (by decide +kernel) dX10_restore_40 (fun H locs G => ?_)
    obtain ⟨c13, ec13⟩ : ∃ z, z = gm_r c12 t (upd (c12.1 t) 34 0) := ⟨_, rfl⟩
    rw [← ec13] at G
    replace h := gv_s h c13 ec13
    refine lv_aload_n hx hb dX10_restore_43 rfl (lv_at hl 0 rfl) ?_
    refine fg_10_images F G hk1 ht2 in10 (by decide +kernel) dX10_restore_44 ?_
    cases h
    rw [← hQ]
    exact gx_iret F G hr hlocks dX10_restore_47
  · replace h := gt_s q4 h
    refine lv_iconst (v := (-1)) hx hb dX10_restore_12 (by decide) ?_
    cases h
    rw [← hQ]
    exact gx_iret F G hr hlocks dX10_restore_13
def m_X10_status (t : Nat) (a1 : Int32) (c : gm) : Option (Int32 × gm) :=
  gc (gck t = 10) (gv (gm_r c t (upd (c.1 t) 0 0)) (fun (c3 : gm) => gb (m_X10_in a1 0 1) (fun (r5 : Int32) => (if r5 = 0 then some ((-1), c3) else gc (0 ≤ a1.toInt ∧ a1.toInt < 2) (some ((c3.1 57 a1.toNatClampNeg), c3))))))
abbrev rmX10_status : Room := { frames := 1, cells := 0, slots := 0, locals := 22 }
set_option maxHeartbeats 4000000 in
set_option maxRecDepth 100000 in
theorem c_X10_status (l : Launch) (sa : gSa) (D : va_G) (ad : Nat → Nat) (cy : Nat → ClassId) (N sz : Nat) (hN : 530 ≤ N) (hI : gI ad N) (c0 c : gm) {t : Nat} {a1 : Int32} {rZ : Int32} {cZ : gm} (h : m_X10_status t a1 c = some (rZ, cZ)) : Met l yX10_status wsX10_status rmX10_status (va_Pc [.ref (ad t), .int a1] (gP sa D ad cy N sz c0 c)) (va_Qi (fun (z : Int32) (_ : Unit) => z = rZ) (fun _ U => gE D ad cy N c0 cZ U) (gA ad N sz)) 0 0 (gA ad N sz) := by
  refine Met.ofW (cc := cX10_status) (maxL := 2) (ret := (some .int)) (by decide) rfl ?_
  intro p e s m args below meth cod s₁ B hml hv
  obtain ⟨rfl, hsz, hP, hK, hZ⟩ := hv
  have hx := B.exec
  have hb := B.bytes
  have hr := B.returns
  have hts := atoms_spec (ws := wsX10_status) B.pre
  have hown : s.vm.findClass RX10 = some m.cls := findClass_of_methodNamed B.named
  have hlocks := B.notSynchronized
  subst hsz
  have hl := lv_entry ([.ref (ad t), .int a1]) (n := 2) (Nat.le_of_ble_eq_true rfl)
  rw [lg_entry_eq]
  generalize (lg_sl ([.ref (ad t), .int a1]) ++ List.replicate (2 - (lg_sl ([.ref (ad t), .int a1])).length) Slot.unset).toArray = ls at hl ⊢
  have hl : lv_has ls 2 [(0, .ref (ad t)), (1, .int a1)] := hl
  have in10 : ∀ w ∈ wsX100, w ∈ wsX10_status := by decide +kernel
  generalize hargs : ([.ref (ad t), .int a1] : List Value).toArray = args at *
  generalize hAe : gA ad N s.heap.size = A
  have F : gF sa D ad cy N A p s m args cod cX10_status 2 wsX10_status RX10 := ⟨hx, hb, hml, hown, hts, hK, hI, by rw [← hAe]; exact gA_ad, by rw [← hAe]; exact gA_sz, by rw [← hAe]; exact hZ⟩
  have G : gW D ad cy N A s.heap c0 c s.heap [] := ⟨hP, va_S.rf⟩
  generalize hQ : MQ below (va_Qi (fun (z : Int32) (_ : Unit) => z = rZ) (fun _ U => gE D ad cy N c0 cZ U) A) args s 0 0 A = Q
  suffices hgen : ∀ (H : Heap) (locs : List Loc), gW D ad cy N A s.heap c0 c H locs → W p l e rmX10_status s m args below meth cod H locs 0 0 Q (F0 m 0 ls []) from hgen _ _ G
  clear G
  intro H locs G
  unfold m_X10_status at h
  refine lv_aload_n hx hb dX10_status_0 rfl (lv_at hl 0 rfl) ?_
  refine lv_iconst (v := 0) hx hb dX10_status_1 (by decide) ?_
  obtain ⟨hk1, h⟩ := gc_s h
  have ht2 : t < N := Nat.lt_of_lt_of_le (gck_lt10 hk1) hN
  refine fp_10_thrown F G hk1 ht2 in10 (by decide +kernel) dX10_status_2 (fun H locs G => ?_)
  obtain ⟨c3, ec3⟩ : ∃ z, z = gm_r c t (upd (c.1 t) 0 0) := ⟨_, rfl⟩
  rw [← ec3] at G
  replace h := gv_s h c3 ec3
  refine lv_iload_n hx hb dX10_status_5 rfl (lv_at hl 1 rfl) ?_
  refine lv_iconst (v := 0) hx hb dX10_status_6 (by decide) ?_
  refine lv_iconst (v := 1) hx hb dX10_status_7 (by decide) ?_
  obtain ⟨r5, hc4, h⟩ := gb_s h
  refine gx_calli F G (va_runS (As := [.int a1, .int 0, .int 1]) (rest := []) (gx_fix F) (c_X10_in l sa D ad cy N H.size hN hI c0 c3 hc4) (va_cwS 3 hts gX10_status_X10_in rfl rfl rfl (by decide +kernel) ⟨by decide, by decide⟩) (gx_pre F G) rfl rfl hl.1 rfl (lv_room (Nat.le_of_ble_eq_true rfl)) dX10_status_8 ⟨Nat.zero_le _, Nat.zero_le _⟩) (fun H locs G => ?_)
  refine lv_if_eq (tgt := 23) hx hb dX10_status_11 (by decide) (fun q6 => ?_) (fun q6 => ?_)
  · replace h := gt_s q6 h
    refine lv_iconst (v := (-1)) hx hb dX10_status_23 (by decide) ?_
    cases h
    rw [← hQ]
    exact gx_iret F G hr hlocks dX10_status_24
  · replace h := gf_s q6 h
    refine lv_aload_n hx hb dX10_status_14 rfl (lv_at hl 0 rfl) ?_
    refine fg_10_refused F G hk1 ht2 in10 (by decide +kernel) dX10_status_15 ?_
    have hk7 : gck 57 = 22 := rfl
    have ht8 : 57 < N := Nat.lt_of_lt_of_le (by decide) hN
    have hn9 : gal 57 = 2 := rfl
    refine lv_iload_n hx hb dX10_status_18 rfl (lv_at hl 1 rfl) ?_
    obtain ⟨hi10, h⟩ := gc_s h
    refine gx_mia F G hk7 ht8 hn9 hi10 dX10_status_19 ?_
    refine lv_goto (tgt := 24) hx hb dX10_status_20 (by decide) ?_
    cases h
    rw [← hQ]
    exact gx_iret F G hr hlocks dX10_status_24
def m_X10_count (t : Nat) (a1 : Int32) (c : gm) : Option (Int32 × gm) :=
  gc (gck t = 10) (gv (gm_r c t (upd (c.1 t) 0 0)) (fun (c3 : gm) => (if a1 = 0 then some ((c3.1 t 35), c3) else (if a1 = 1 then some ((c3.1 t 1), c3) else (if a1 = 2 then some ((c3.1 t 33), c3) else some ((-1), c3))))))
abbrev rmX10_count : Room := { frames := 0, cells := 0, slots := 0, locals := 0 }
set_option maxHeartbeats 4000000 in
set_option maxRecDepth 100000 in
theorem c_X10_count (l : Launch) (sa : gSa) (D : va_G) (ad : Nat → Nat) (cy : Nat → ClassId) (N sz : Nat) (hN : 530 ≤ N) (hI : gI ad N) (c0 c : gm) {t : Nat} {a1 : Int32} {rZ : Int32} {cZ : gm} (h : m_X10_count t a1 c = some (rZ, cZ)) : Met l yX10_count wsX10_count rmX10_count (va_Pc [.ref (ad t), .int a1] (gP sa D ad cy N sz c0 c)) (va_Qi (fun (z : Int32) (_ : Unit) => z = rZ) (fun _ U => gE D ad cy N c0 cZ U) (gA ad N sz)) 0 0 (gA ad N sz) := by
  refine Met.ofW (cc := cX10_count) (maxL := 2) (ret := (some .int)) (by decide) rfl ?_
  intro p e s m args below meth cod s₁ B hml hv
  obtain ⟨rfl, hsz, hP, hK, hZ⟩ := hv
  have hx := B.exec
  have hb := B.bytes
  have hr := B.returns
  have hts := atoms_spec (ws := wsX10_count) B.pre
  have hown : s.vm.findClass RX10 = some m.cls := findClass_of_methodNamed B.named
  have hlocks := B.notSynchronized
  subst hsz
  have hl := lv_entry ([.ref (ad t), .int a1]) (n := 2) (Nat.le_of_ble_eq_true rfl)
  rw [lg_entry_eq]
  generalize (lg_sl ([.ref (ad t), .int a1]) ++ List.replicate (2 - (lg_sl ([.ref (ad t), .int a1])).length) Slot.unset).toArray = ls at hl ⊢
  have hl : lv_has ls 2 [(0, .ref (ad t)), (1, .int a1)] := hl
  have in10 : ∀ w ∈ wsX100, w ∈ wsX10_count := by decide +kernel
  generalize hargs : ([.ref (ad t), .int a1] : List Value).toArray = args at *
  generalize hAe : gA ad N s.heap.size = A
  have F : gF sa D ad cy N A p s m args cod cX10_count 2 wsX10_count RX10 := ⟨hx, hb, hml, hown, hts, hK, hI, by rw [← hAe]; exact gA_ad, by rw [← hAe]; exact gA_sz, by rw [← hAe]; exact hZ⟩
  have G : gW D ad cy N A s.heap c0 c s.heap [] := ⟨hP, va_S.rf⟩
  generalize hQ : MQ below (va_Qi (fun (z : Int32) (_ : Unit) => z = rZ) (fun _ U => gE D ad cy N c0 cZ U) A) args s 0 0 A = Q
  suffices hgen : ∀ (H : Heap) (locs : List Loc), gW D ad cy N A s.heap c0 c H locs → W p l e rmX10_count s m args below meth cod H locs 0 0 Q (F0 m 0 ls []) from hgen _ _ G
  clear G
  intro H locs G
  unfold m_X10_count at h
  refine lv_aload_n hx hb dX10_count_0 rfl (lv_at hl 0 rfl) ?_
  refine lv_iconst (v := 0) hx hb dX10_count_1 (by decide) ?_
  obtain ⟨hk1, h⟩ := gc_s h
  have ht2 : t < N := Nat.lt_of_lt_of_le (gck_lt10 hk1) hN
  refine fp_10_thrown F G hk1 ht2 in10 (by decide +kernel) dX10_count_2 (fun H locs G => ?_)
  obtain ⟨c3, ec3⟩ : ∃ z, z = gm_r c t (upd (c.1 t) 0 0) := ⟨_, rfl⟩
  rw [← ec3] at G
  replace h := gv_s h c3 ec3
  refine lv_iload_n hx hb dX10_count_5 rfl (lv_at hl 1 rfl) ?_
  refine lv_if_ne (tgt := 16) hx hb dX10_count_6 (by decide) (fun q4 => ?_) (fun q4 => ?_)
  · replace h := gf_s q4 h
    refine lv_iload_n hx hb dX10_count_16 rfl (lv_at hl 1 rfl) ?_
    refine lv_iconst (v := 1) hx hb dX10_count_17 (by decide) ?_
    refine lv_icmp_ne (tgt := 28) hx hb dX10_count_18 (by decide) (fun q5 => ?_) (fun q5 => ?_)
    · replace h := gf_s q5 h
      refine lv_iload_n hx hb dX10_count_28 rfl (lv_at hl 1 rfl) ?_
      refine lv_iconst (v := 2) hx hb dX10_count_29 (by decide) ?_
      refine lv_icmp_ne (tgt := 40) hx hb dX10_count_30 (by decide) (fun q6 => ?_) (fun q6 => ?_)
      · replace h := gf_s q6 h
        refine lv_iconst (v := (-1)) hx hb dX10_count_40 (by decide) ?_
        cases h
        rw [← hQ]
        exact gx_iret F G hr hlocks dX10_count_41
      · replace h := gt_s q6 h
        refine lv_aload_n hx hb dX10_count_33 rfl (lv_at hl 0 rfl) ?_
        refine fg_10_works F G hk1 ht2 in10 (by decide +kernel) dX10_count_34 ?_
        refine lv_goto (tgt := 41) hx hb dX10_count_37 (by decide) ?_
        cases h
        rw [← hQ]
        exact gx_iret F G hr hlocks dX10_count_41
    · replace h := gt_s q5 h
      refine lv_aload_n hx hb dX10_count_21 rfl (lv_at hl 0 rfl) ?_
      refine fg_10_tape F G hk1 ht2 in10 (by decide +kernel) dX10_count_22 ?_
      refine lv_goto (tgt := 41) hx hb dX10_count_25 (by decide) ?_
      cases h
      rw [← hQ]
      exact gx_iret F G hr hlocks dX10_count_41
  · replace h := gt_s q4 h
    refine lv_aload_n hx hb dX10_count_9 rfl (lv_at hl 0 rfl) ?_
    refine fg_10_images F G hk1 ht2 in10 (by decide +kernel) dX10_count_10 ?_
    refine lv_goto (tgt := 41) hx hb dX10_count_13 (by decide) ?_
    cases h
    rw [← hQ]
    exact gx_iret F G hr hlocks dX10_count_41
