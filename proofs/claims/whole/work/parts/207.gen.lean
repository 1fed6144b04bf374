-- X9_would X9_ahead X9_isPart X9_worth X9_fattest X9_fat X9_mend X9_demandBits X9_match X9_fewest X9_level X9_fits
def m_X9_would (n : Nat) (t : Nat) (a1 : Int32) (a2 : Int32) (a3 : Int32) (a4 : Int32) (a5 : Int32) (a6 : Int32) (a7 : Int32) (c : gm) : Option ((Int32 × gm) ⊕ (Nat × gm)) :=
  gj (fun (v1 : Int32) => gc (gck t = 9) (gbx (m_X9_demand t v1 c) (fun (c7 : gm) => gj (fun (v8 : Int32) => gbx (m_X9_demand t v8 c7) (fun (c12 : gm) => gj (fun (v13 : Int32) => gbx (m_X9_demand t v13 c12) (fun (c17 : gm) => gj (fun (v18 : Int32) => gbx (m_X9_demand t v18 c17) (fun (c22 : gm) => gj (fun (v23 : Int32) => gbx (m_X9_demand t v23 c22) (fun (c27 : gm) => gj (fun (v28 : Int32) => gbx (m_X9_demand t v28 c27) (fun (c32 : gm) => gj (fun (v33 : Int32) => gbx (m_X9_demand t v33 c32) (fun (c37 : gm) => gok (gc (gck (c37.2.2 0) = 3) (gb2 (m_X3_wear n (c37.2.2 0) a1 a2 a3 a4 a5 a6 a7 c37) (fun (r41 : Int32) (c42 : gm) => some (r41, c42)))))) (fun K34 => gj (fun (_ : Unit) => K34 0) (fun K43 => (if a7 < 0 then K43 () else (if 9 < a7 then K43 () else K34 1)))))) (fun K29 => gj (fun (_ : Unit) => K29 0) (fun K46 => (if a6 < 0 then K46 () else (if 18 < a6 then K46 () else K29 1)))))) (fun K24 => gj (fun (_ : Unit) => K24 0) (fun K49 => (if a5 < 0 then K49 () else (if 300 < a5 then K49 () else K24 1)))))) (fun K19 => gj (fun (_ : Unit) => K19 0) (fun K52 => (if a4 < 0 then K52 () else (if 8 ≤ a4 then K52 () else K19 1)))))) (fun K14 => gj (fun (_ : Unit) => K14 0) (fun K55 => (if a3 < 0 then K55 () else (if 10 < a3 then K55 () else K14 1)))))) (fun K9 => gj (fun (_ : Unit) => K9 0) (fun K58 => (if a2 < 0 then K58 () else (if 999 < a2 then K58 () else K9 1))))))) (fun K2 => gj (fun (_ : Unit) => K2 0) (fun K61 => (if a1 < 1 then K61 () else (if 60 < a1 then K61 () else K2 1))))
abbrev rmX9_would : Room := { frames := 7, cells := 0, slots := 0, locals := 111 }
abbrev rxX9_would : Room := { frames := 7, cells := 1, slots := 6, locals := 111 }
set_option maxHeartbeats 4000000 in
set_option maxRecDepth 100000 in
theorem c_X9_would (l : Launch) (sa : gSa) (D : va_G) (ad : Nat → Nat) (cy : Nat → ClassId) (N sz : Nat) (hN : 55 ≤ N) (hI : gI ad N) (c d0 : gm) {n : Nat} {t : Nat} {a1 : Int32} {a2 : Int32} {a3 : Int32} {a4 : Int32} {a5 : Int32} {a6 : Int32} {a7 : Int32} {rZ : Int32} {cZ : gm} (h : m_X9_would n t a1 a2 a3 a4 a5 a6 a7 c = some (.inl (rZ, cZ))) : Met l yX9_would wsX9_would rmX9_would (va_Pc [.ref (ad t), .int a1, .int a2, .int a3, .int a4, .int a5, .int a6, .int a7] (gP sa D ad cy N sz c d0)) (va_Qi (fun (z : Int32) (_ : Unit) => z = rZ) (fun _ U => gE D ad cy N cZ d0 U) (gA ad N sz)) 0 0 (gA ad N sz) := by
  refine Met.ofW (cc := cX9_would) (maxL := 8) (ret := (some .int)) (by decide) rfl ?_
  intro p e s m args below meth cod s₁ B hml hv
  obtain ⟨rfl, hsz, hP, hK, hZ⟩ := hv
  have hx := B.exec
  have hb := B.bytes
  have hr := B.returns
  have hts := atoms_spec (ws := wsX9_would) B.pre
  have hown : s.vm.findClass RX9 = some m.cls := findClass_of_methodNamed B.named
  have hlocks := B.notSynchronized
  subst hsz
  have hl := lv_entry ([.ref (ad t), .int a1, .int a2, .int a3, .int a4, .int a5, .int a6, .int a7]) (n := 8) (Nat.le_of_ble_eq_true rfl)
  rw [lg_entry_eq]
  generalize (lg_sl ([.ref (ad t), .int a1, .int a2, .int a3, .int a4, .int a5, .int a6, .int a7]) ++ List.replicate (8 - (lg_sl ([.ref (ad t), .int a1, .int a2, .int a3, .int a4, .int a5, .int a6, .int a7])).length) Slot.unset).toArray = ls at hl ⊢
  have hl : lv_has ls 8 [(0, .ref (ad t)), (1, .int a1), (2, .int a2), (3, .int a3), (4, .int a4), (5, .int a5), (6, .int a6), (7, .int a7)] := hl
  have in9 : ∀ w ∈ wsX90, w ∈ wsX9_would := by decide +kernel
  generalize hargs : ([.ref (ad t), .int a1, .int a2, .int a3, .int a4, .int a5, .int a6, .int a7] : List Value).toArray = args at *
  generalize hAe : gA ad N s.heap.size = A
  have F : gF sa D ad cy N A p s m args cod cX9_would 8 wsX9_would RX9 := ⟨hx, hb, hml, hown, hts, hK, hI, by rw [← hAe]; exact gA_ad, by rw [← hAe]; exact gA_sz, by rw [← hAe]; exact hZ⟩
  have G : gW D ad cy N A s.heap c d0 s.heap [] := ⟨hP, va_S.rf⟩
  generalize hQ : MQ below (va_Qi (fun (z : Int32) (_ : Unit) => z = rZ) (fun _ U => gE D ad cy N cZ d0 U) A) args s 0 0 A = Q
  suffices hgen : ∀ (H : Heap) (locs : List Loc), gW D ad cy N A s.heap c d0 H locs → W p l e rmX9_would s m args below meth cod H locs 0 0 Q (F0 m 0 ls []) from hgen _ _ G
  clear G
  intro H locs G
  unfold m_X9_would at h
  refine lv_aload_n hx hb dX9_would_0 rfl (lv_at hl 0 rfl) ?_
  refine lv_iload_n hx hb dX9_would_1 rfl (lv_at hl 1 rfl) ?_
  refine lv_iconst (v := 1) hx hb dX9_would_2 (by decide) ?_
  obtain ⟨K2, eK2, h⟩ := gj_s h
  have JK2 : ∀ (v1 : Int32) (H : Heap) (locs : List Loc) (ls : Array Slot), K2 v1 = some (.inl (rZ, cZ)) → gW D ad cy N A s.heap c d0 H locs → lv_has ls 8 [(0, .ref (ad t)), (1, .int a1), (2, .int a2), (3, .int a3), (4, .int a4), (5, .int a5), (6, .int a6), (7, .int a7)] → W p l e rmX9_would s m args below meth cod H locs 0 0 Q (F0 m 17 ls [.int v1, .ref (ad t)]) := by
    intro v1 H locs ls h G hl
    rw [eK2] at h
    obtain ⟨hk3, h⟩ := gc_s h
    have ht4 : t < N := Nat.lt_of_lt_of_le (gck_lt9 hk3) hN
    obtain ⟨c7, hc5, h⟩ := gbx_l h
    refine gx_callv F G (va_runV (As := [.int v1]) (rest := []) (gx_fix F) (c_X9_demand l sa D ad cy N H.size hN hI c d0 hc5) (cwV 1 hts gX9_would_X9_demand rfl rfl rfl (by decide +kernel) ⟨by decide, by decide⟩) (gx_rec F G ht4 (gwe_9 hk3) rfl) rfl rfl hl.1 rfl (lv_room (Nat.le_of_ble_eq_true rfl)) dX9_would_17 ⟨Nat.zero_le _, Nat.zero_le _⟩) (fun H locs G => ?_)
    refine lv_aload_n hx hb dX9_would_20 rfl (lv_at hl 0 rfl) ?_
    refine lv_iload_n hx hb dX9_would_21 rfl (lv_at hl 2 rfl) ?_
    obtain ⟨K9, eK9, h⟩ := gj_s h
    have JK9 : ∀ (v8 : Int32) (H : Heap) (locs : List Loc) (ls : Array Slot), K9 v8 = some (.inl (rZ, cZ)) → gW D ad cy N A s.heap c7 d0 H locs → lv_has ls 8 [(0, .ref (ad t)), (1, .int a1), (2, .int a2), (3, .int a3), (4, .int a4), (5, .int a5), (6, .int a6), (7, .int a7)] → W p l e rmX9_would s m args below meth cod H locs 0 0 Q (F0 m 37 ls [.int v8, .ref (ad t)]) := by
      intro v8 H locs ls h G hl
      rw [eK9] at h
      obtain ⟨c12, hc10, h⟩ := gbx_l h
      refine gx_callv F G (va_runV (As := [.int v8]) (rest := []) (gx_fix F) (c_X9_demand l sa D ad cy N H.size hN hI c7 d0 hc10) (cwV 1 hts gX9_would_X9_demand rfl rfl rfl (by decide +kernel) ⟨by decide, by decide⟩) (gx_rec F G ht4 (gwe_9 hk3) rfl) rfl rfl hl.1 rfl (lv_room (Nat.le_of_ble_eq_true rfl)) dX9_would_37 ⟨Nat.zero_le _, Nat.zero_le _⟩) (fun H locs G => ?_)
      refine lv_aload_n hx hb dX9_would_40 rfl (lv_at hl 0 rfl) ?_
      refine lv_iload_n hx hb dX9_would_41 rfl (lv_at hl 3 rfl) ?_
      obtain ⟨K14, eK14, h⟩ := gj_s h
      have JK14 : ∀ (v13 : Int32) (H : Heap) (locs : List Loc) (ls : Array Slot), K14 v13 = some (.inl (rZ, cZ)) → gW D ad cy N A s.heap c12 d0 H locs → lv_has ls 8 [(0, .ref (ad t)), (1, .int a1), (2, .int a2), (3, .int a3), (4, .int a4), (5, .int a5), (6, .int a6), (7, .int a7)] → W p l e rmX9_would s m args below meth cod H locs 0 0 Q (F0 m 56 ls [.int v13, .ref (ad t)]) := by
        intro v13 H locs ls h G hl
        rw [eK14] at h
        obtain ⟨c17, hc15, h⟩ := gbx_l h
        refine gx_callv F G (va_runV (As := [.int v13]) (rest := []) (gx_fix F) (c_X9_demand l sa D ad cy N H.size hN hI c12 d0 hc15) (cwV 1 hts gX9_would_X9_demand rfl rfl rfl (by decide +kernel) ⟨by decide, by decide⟩) (gx_rec F G ht4 (gwe_9 hk3) rfl) rfl rfl hl.1 rfl (lv_room (Nat.le_of_ble_eq_true rfl)) dX9_would_56 ⟨Nat.zero_le _, Nat.zero_le _⟩) (fun H locs G => ?_)
        refine lv_aload_n hx hb dX9_would_59 rfl (lv_at hl 0 rfl) ?_
        refine lv_iload hx hb dX9_would_60 (lv_at hl 4 rfl) ?_
        obtain ⟨K19, eK19, h⟩ := gj_s h
        have JK19 : ∀ (v18 : Int32) (H : Heap) (locs : List Loc) (ls : Array Slot), K19 v18 = some (.inl (rZ, cZ)) → gW D ad cy N A s.heap c17 d0 H locs → lv_has ls 8 [(0, .ref (ad t)), (1, .int a1), (2, .int a2), (3, .int a3), (4, .int a4), (5, .int a5), (6, .int a6), (7, .int a7)] → W p l e rmX9_would s m args below meth cod H locs 0 0 Q (F0 m 77 ls [.int v18, .ref (ad t)]) := by
          intro v18 H locs ls h G hl
          rw [eK19] at h
          obtain ⟨c22, hc20, h⟩ := gbx_l h
          refine gx_callv F G (va_runV (As := [.int v18]) (rest := []) (gx_fix F) (c_X9_demand l sa D ad cy N H.size hN hI c17 d0 hc20) (cwV 1 hts gX9_would_X9_demand rfl rfl rfl (by decide +kernel) ⟨by decide, by decide⟩) (gx_rec F G ht4 (gwe_9 hk3) rfl) rfl rfl hl.1 rfl (lv_room (Nat.le_of_ble_eq_true rfl)) dX9_would_77 ⟨Nat.zero_le _, Nat.zero_le _⟩) (fun H locs G => ?_)
          refine lv_aload_n hx hb dX9_would_80 rfl (lv_at hl 0 rfl) ?_
          refine lv_iload hx hb dX9_would_81 (lv_at hl 5 rfl) ?_
          obtain ⟨K24, eK24, h⟩ := gj_s h
          have JK24 : ∀ (v23 : Int32) (H : Heap) (locs : List Loc) (ls : Array Slot), K24 v23 = some (.inl (rZ, cZ)) → gW D ad cy N A s.heap c22 d0 H locs → lv_has ls 8 [(0, .ref (ad t)), (1, .int a1), (2, .int a2), (3, .int a3), (4, .int a4), (5, .int a5), (6, .int a6), (7, .int a7)] → W p l e rmX9_would s m args below meth cod H locs 0 0 Q (F0 m 99 ls [.int v23, .ref (ad t)]) := by
            intro v23 H locs ls h G hl
            rw [eK24] at h
            obtain ⟨c27, hc25, h⟩ := gbx_l h
            refine gx_callv F G (va_runV (As := [.int v23]) (rest := []) (gx_fix F) (c_X9_demand l sa D ad cy N H.size hN hI c22 d0 hc25) (cwV 1 hts gX9_would_X9_demand rfl rfl rfl (by decide +kernel) ⟨by decide, by decide⟩) (gx_rec F G ht4 (gwe_9 hk3) rfl) rfl rfl hl.1 rfl (lv_room (Nat.le_of_ble_eq_true rfl)) dX9_would_99 ⟨Nat.zero_le _, Nat.zero_le _⟩) (fun H locs G => ?_)
            refine lv_aload_n hx hb dX9_would_102 rfl (lv_at hl 0 rfl) ?_
            refine lv_iload hx hb dX9_would_103 (lv_at hl 6 rfl) ?_
            obtain ⟨K29, eK29, h⟩ := gj_s h
            have JK29 : ∀ (v28 : Int32) (H : Heap) (locs : List Loc) (ls : Array Slot), K29 v28 = some (.inl (rZ, cZ)) → gW D ad cy N A s.heap c27 d0 H locs → lv_has ls 8 [(0, .ref (ad t)), (1, .int a1), (2, .int a2), (3, .int a3), (4, .int a4), (5, .int a5), (6, .int a6), (7, .int a7)] → W p l e rmX9_would s m args below meth cod H locs 0 0 Q (F0 m 120 ls [.int v28, .ref (ad t)]) := by
              intro v28 H locs ls h G hl
              rw [eK29] at h
              obtain ⟨c32, hc30, h⟩ := gbx_l h
              refine gx_callv F G (va_runV (As := [.int v28]) (rest := []) (gx_fix F) (c_X9_demand l sa D ad cy N H.size hN hI c27 d0 hc30) (cwV 1 hts gX9_would_X9_demand rfl rfl rfl (by decide +kernel) ⟨by decide, by decide⟩) (gx_rec F G ht4 (gwe_9 hk3) rfl) rfl rfl hl.1 rfl (lv_room (Nat.le_of_ble_eq_true rfl)) dX9_would_120 ⟨Nat.zero_le _, Nat.zero_le _⟩) (fun H locs G => ?_)
              refine lv_aload_n hx hb dX9_would_123 rfl (lv_at hl 0 rfl) ?_
              refine lv_iload hx hb dX9_would_124 (lv_at hl 7 rfl) ?_
              obtain ⟨K34, eK34, h⟩ := gj_s h
              have JK34 : ∀ (v33 : Int32) (H : Heap) (locs : List Loc) (ls : Array Slot), K34 v33 = some (.inl (rZ, cZ)) → gW D ad cy N A s.heap c32 d0 H locs → lv_has ls 8 [(0, .ref (ad t)), (1, .int a1), (2, .int a2), (3, .int a3), (4, .int a4), (5, .int a5), (6, .int a6), (7, .int a7)] → W p l e rmX9_would s m args below meth cod H locs 0 0 Q (F0 m 141 ls [.int v33, .ref (ad t)]) := by
                intro v33 H locs ls h G hl
                rw [eK34] at h
                obtain ⟨c37, hc35, h⟩ := gbx_l h
                refine gx_callv F G (va_runV (As := [.int v33]) (rest := []) (gx_fix F) (c_X9_demand l sa D ad cy N H.size hN hI c32 d0 hc35) (cwV 1 hts gX9_would_X9_demand rfl rfl rfl (by decide +kernel) ⟨by decide, by decide⟩) (gx_rec F G ht4 (gwe_9 hk3) rfl) rfl rfl hl.1 rfl (lv_room (Nat.le_of_ble_eq_true rfl)) dX9_would_141 ⟨Nat.zero_le _, Nat.zero_le _⟩) (fun H locs G => ?_)
                replace h := gok_s h
                refine lv_aload_n hx hb dX9_would_144 rfl (lv_at hl 0 rfl) ?_
                refine fg_9_rule F G hk3 ht4 in9 (by decide +kernel) dX9_would_145 ?_
                refine lv_iload_n hx hb dX9_would_148 rfl (lv_at hl 1 rfl) ?_
                refine lv_iload_n hx hb dX9_would_149 rfl (lv_at hl 2 rfl) ?_
                refine lv_iload_n hx hb dX9_would_150 rfl (lv_at hl 3 rfl) ?_
                refine lv_iload hx hb dX9_would_151 (lv_at hl 4 rfl) ?_
                refine lv_iload hx hb dX9_would_153 (lv_at hl 5 rfl) ?_
                refine lv_iload hx hb dX9_would_155 (lv_at hl 6 rfl) ?_
                refine lv_iload hx hb dX9_would_157 (lv_at hl 7 rfl) ?_
                obtain ⟨hk38, h⟩ := gc_s h
                have ht39 : (c37.2.2 0) < N := Nat.lt_of_lt_of_le (gck_lt3 hk38) hN
                obtain ⟨r41, c42, hc40, h⟩ := gb2_s h
                refine gx_calli F G (va_runV (As := [.int a1, .int a2, .int a3, .int a4, .int a5, .int a6, .int a7]) (rest := []) (gx_fix F) (c_X3_wear l sa D ad cy N H.size hN hI c37 d0 hc40) (cwV 7 hts gX9_would_X3_wear rfl rfl rfl (by decide +kernel) ⟨by decide, by decide⟩) (gx_rec F G ht39 (gwe_3 hk38) rfl) rfl rfl hl.1 rfl (lv_room (Nat.le_of_ble_eq_true rfl)) dX9_would_159 ⟨Nat.zero_le _, Nat.zero_le _⟩) (fun H locs G => ?_)
                cases h
                rw [← hQ]
                exact gx_iret F G hr hlocks dX9_would_162
              obtain ⟨K43, eK43, h⟩ := gj_s h
              have JK43 : ∀ (H : Heap) (locs : List Loc) (ls : Array Slot), K43 () = some (.inl (rZ, cZ)) → gW D ad cy N A s.heap c32 d0 H locs → lv_has ls 8 [(0, .ref (ad t)), (1, .int a1), (2, .int a2), (3, .int a3), (4, .int a4), (5, .int a5), (6, .int a6), (7, .int a7)] → W p l e rmX9_would s m args below meth cod H locs 0 0 Q (F0 m 140 ls [.ref (ad t)]) := by
                intro  H locs ls h G hl
                rw [eK43] at h
                refine lv_iconst (v := 0) hx hb dX9_would_140 (by decide) ?_
                exact JK34 _ _ _ _ h G hl
              refine lv_if_lt (tgt := 140) hx hb dX9_would_126 (by decide) (fun q44 => ?_) (fun q44 => ?_)
              · replace h := gt_s q44 h
                exact JK43  _ _ _ h G hl
              · replace h := gf_s q44 h
                refine lv_iload hx hb dX9_would_129 (lv_at hl 7 rfl) ?_
                refine lv_bipush (v := 9) hx hb dX9_would_131 (by decide) ?_
                refine lv_icmp_gt (tgt := 140) hx hb dX9_would_133 (by decide) (fun q45 => ?_) (fun q45 => ?_)
                · replace h := gt_s q45 h
                  exact JK43  _ _ _ h G hl
                · replace h := gf_s q45 h
                  refine lv_iconst (v := 1) hx hb dX9_would_136 (by decide) ?_
                  refine lv_goto (tgt := 141) hx hb dX9_would_137 (by decide) ?_
                  exact JK34 _ _ _ _ h G hl
            obtain ⟨K46, eK46, h⟩ := gj_s h
            have JK46 : ∀ (H : Heap) (locs : List Loc) (ls : Array Slot), K46 () = some (.inl (rZ, cZ)) → gW D ad cy N A s.heap c27 d0 H locs → lv_has ls 8 [(0, .ref (ad t)), (1, .int a1), (2, .int a2), (3, .int a3), (4, .int a4), (5, .int a5), (6, .int a6), (7, .int a7)] → W p l e rmX9_would s m args below meth cod H locs 0 0 Q (F0 m 119 ls [.ref (ad t)]) := by
              intro  H locs ls h G hl
              rw [eK46] at h
              refine lv_iconst (v := 0) hx hb dX9_would_119 (by decide) ?_
              exact JK29 _ _ _ _ h G hl
            refine lv_if_lt (tgt := 119) hx hb dX9_would_105 (by decide) (fun q47 => ?_) (fun q47 => ?_)
            · replace h := gt_s q47 h
              exact JK46  _ _ _ h G hl
            · replace h := gf_s q47 h
              refine lv_iload hx hb dX9_would_108 (lv_at hl 6 rfl) ?_
              refine lv_bipush (v := 18) hx hb dX9_would_110 (by decide) ?_
              refine lv_icmp_gt (tgt := 119) hx hb dX9_would_112 (by decide) (fun q48 => ?_) (fun q48 => ?_)
              · replace h := gt_s q48 h
                exact JK46  _ _ _ h G hl
              · replace h := gf_s q48 h
                refine lv_iconst (v := 1) hx hb dX9_would_115 (by decide) ?_
                refine lv_goto (tgt := 120) hx hb dX9_would_116 (by decide) ?_
                exact JK29 _ _ _ _ h G hl
          obtain ⟨K49, eK49, h⟩ := gj_s h
          have JK49 : ∀ (H : Heap) (locs : List Loc) (ls : Array Slot), K49 () = some (.inl (rZ, cZ)) → gW D ad cy N A s.heap c22 d0 H locs → lv_has ls 8 [(0, .ref (ad t)), (1, .int a1), (2, .int a2), (3, .int a3), (4, .int a4), (5, .int a5), (6, .int a6), (7, .int a7)] → W p l e rmX9_would s m args below meth cod H locs 0 0 Q (F0 m 98 ls [.ref (ad t)]) := by
            intro  H locs ls h G hl
            rw [eK49] at h
            refine lv_iconst (v := 0) hx hb dX9_would_98 (by decide) ?_
            exact JK24 _ _ _ _ h G hl
          refine lv_if_lt (tgt := 98) hx hb dX9_would_83 (by decide) (fun q50 => ?_) (fun q50 => ?_)
          · replace h := gt_s q50 h
            exact JK49  _ _ _ h G hl
          · replace h := gf_s q50 h
            refine lv_iload hx hb dX9_would_86 (lv_at hl 5 rfl) ?_
            refine lv_sipush (v := 300) hx hb dX9_would_88 (by decide) ?_
            refine lv_icmp_gt (tgt := 98) hx hb dX9_would_91 (by decide) (fun q51 => ?_) (fun q51 => ?_)
            · replace h := gt_s q51 h
              exact JK49  _ _ _ h G hl
            · replace h := gf_s q51 h
              refine lv_iconst (v := 1) hx hb dX9_would_94 (by decide) ?_
              refine lv_goto (tgt := 99) hx hb dX9_would_95 (by decide) ?_
              exact JK24 _ _ _ _ h G hl
        obtain ⟨K52, eK52, h⟩ := gj_s h
        have JK52 : ∀ (H : Heap) (locs : List Loc) (ls : Array Slot), K52 () = some (.inl (rZ, cZ)) → gW D ad cy N A s.heap c17 d0 H locs → lv_has ls 8 [(0, .ref (ad t)), (1, .int a1), (2, .int a2), (3, .int a3), (4, .int a4), (5, .int a5), (6, .int a6), (7, .int a7)] → W p l e rmX9_would s m args below meth cod H locs 0 0 Q (F0 m 76 ls [.ref (ad t)]) := by
          intro  H locs ls h G hl
          rw [eK52] at h
          refine lv_iconst (v := 0) hx hb dX9_would_76 (by decide) ?_
          exact JK19 _ _ _ _ h G hl
        refine lv_if_lt (tgt := 76) hx hb dX9_would_62 (by decide) (fun q53 => ?_) (fun q53 => ?_)
        · replace h := gt_s q53 h
          exact JK52  _ _ _ h G hl
        · replace h := gf_s q53 h
          refine lv_iload hx hb dX9_would_65 (lv_at hl 4 rfl) ?_
          refine lv_bipush (v := 8) hx hb dX9_would_67 (by decide) ?_
          refine lv_icmp_ge (tgt := 76) hx hb dX9_would_69 (by decide) (fun q54 => ?_) (fun q54 => ?_)
          · replace h := gt_s q54 h
            exact JK52  _ _ _ h G hl
          · replace h := gf_s q54 h
            refine lv_iconst (v := 1) hx hb dX9_would_72 (by decide) ?_
            refine lv_goto (tgt := 77) hx hb dX9_would_73 (by decide) ?_
            exact JK19 _ _ _ _ h G hl
      obtain ⟨K55, eK55, h⟩ := gj_s h
      have JK55 : ∀ (H : Heap) (locs : List Loc) (ls : Array Slot), K55 () = some (.inl (rZ, cZ)) → gW D ad cy N A s.heap c12 d0 H locs → lv_has ls 8 [(0, .ref (ad t)), (1, .int a1), (2, .int a2), (3, .int a3), (4, .int a4), (5, .int a5), (6, .int a6), (7, .int a7)] → W p l e rmX9_would s m args below meth cod H locs 0 0 Q (F0 m 55 ls [.ref (ad t)]) := by
        intro  H locs ls h G hl
        rw [eK55] at h
        refine lv_iconst (v := 0) hx hb dX9_would_55 (by decide) ?_
        exact JK14 _ _ _ _ h G hl
      refine lv_if_lt (tgt := 55) hx hb dX9_would_42 (by decide) (fun q56 => ?_) (fun q56 => ?_)
      · replace h := gt_s q56 h
        exact JK55  _ _ _ h G hl
      · replace h := gf_s q56 h
        refine lv_iload_n hx hb dX9_would_45 rfl (lv_at hl 3 rfl) ?_
        refine lv_bipush (v := 10) hx hb dX9_would_46 (by decide) ?_
        refine lv_icmp_gt (tgt := 55) hx hb dX9_would_48 (by decide) (fun q57 => ?_) (fun q57 => ?_)
        · replace h := gt_s q57 h
          exact JK55  _ _ _ h G hl
        · replace h := gf_s q57 h
          refine lv_iconst (v := 1) hx hb dX9_would_51 (by decide) ?_
          refine lv_goto (tgt := 56) hx hb dX9_would_52 (by decide) ?_
          exact JK14 _ _ _ _ h G hl
    obtain ⟨K58, eK58, h⟩ := gj_s h
    have JK58 : ∀ (H : Heap) (locs : List Loc) (ls : Array Slot), K58 () = some (.inl (rZ, cZ)) → gW D ad cy N A s.heap c7 d0 H locs → lv_has ls 8 [(0, .ref (ad t)), (1, .int a1), (2, .int a2), (3, .int a3), (4, .int a4), (5, .int a5), (6, .int a6), (7, .int a7)] → W p l e rmX9_would s m args below meth cod H locs 0 0 Q (F0 m 36 ls [.ref (ad t)]) := by
      intro  H locs ls h G hl
      rw [eK58] at h
      refine lv_iconst (v := 0) hx hb dX9_would_36 (by decide) ?_
      exact JK9 _ _ _ _ h G hl
    refine lv_if_lt (tgt := 36) hx hb dX9_would_22 (by decide) (fun q59 => ?_) (fun q59 => ?_)
    · replace h := gt_s q59 h
      exact JK58  _ _ _ h G hl
    · replace h := gf_s q59 h
      refine lv_iload_n hx hb dX9_would_25 rfl (lv_at hl 2 rfl) ?_
      refine lv_sipush (v := 999) hx hb dX9_would_26 (by decide) ?_
      refine lv_icmp_gt (tgt := 36) hx hb dX9_would_29 (by decide) (fun q60 => ?_) (fun q60 => ?_)
      · replace h := gt_s q60 h
        exact JK58  _ _ _ h G hl
      · replace h := gf_s q60 h
        refine lv_iconst (v := 1) hx hb dX9_would_32 (by decide) ?_
        refine lv_goto (tgt := 37) hx hb dX9_would_33 (by decide) ?_
        exact JK9 _ _ _ _ h G hl
  obtain ⟨K61, eK61, h⟩ := gj_s h
  have JK61 : ∀ (H : Heap) (locs : List Loc) (ls : Array Slot), K61 () = some (.inl (rZ, cZ)) → gW D ad cy N A s.heap c d0 H locs → lv_has ls 8 [(0, .ref (ad t)), (1, .int a1), (2, .int a2), (3, .int a3), (4, .int a4), (5, .int a5), (6, .int a6), (7, .int a7)] → W p l e rmX9_would s m args below meth cod H locs 0 0 Q (F0 m 16 ls [.ref (ad t)]) := by
    intro  H locs ls h G hl
    rw [eK61] at h
    refine lv_iconst (v := 0) hx hb dX9_would_16 (by decide) ?_
    exact JK2 _ _ _ _ h G hl
  refine lv_icmp_lt (tgt := 16) hx hb dX9_would_3 (by decide) (fun q62 => ?_) (fun q62 => ?_)
  · replace h := gt_s q62 h
    exact JK61  _ _ _ h G hl
  · replace h := gf_s q62 h
    refine lv_iload_n hx hb dX9_would_6 rfl (lv_at hl 1 rfl) ?_
    refine lv_bipush (v := 60) hx hb dX9_would_7 (by decide) ?_
    refine lv_icmp_gt (tgt := 16) hx hb dX9_would_9 (by decide) (fun q63 => ?_) (fun q63 => ?_)
    · replace h := gt_s q63 h
      exact JK61  _ _ _ h G hl
    · replace h := gf_s q63 h
      refine lv_iconst (v := 1) hx hb dX9_would_12 (by decide) ?_
      refine lv_goto (tgt := 17) hx hb dX9_would_13 (by decide) ?_
      exact JK2 _ _ _ _ h G hl
set_option maxHeartbeats 4000000 in
set_option maxRecDepth 100000 in
theorem cx_X9_would (l : Launch) (hlt : l.stackTraces = false) (sa : gSa) (D : va_G) (ad : Nat → Nat) (cy : Nat → ClassId) (N sz : Nat) (hN : 55 ≤ N) (hI : gI ad N) (c d0 : gm) {n : Nat} {t : Nat} {a1 : Int32} {a2 : Int32} {a3 : Int32} {a4 : Int32} {a5 : Int32} {a6 : Int32} {a7 : Int32} {kZ : Nat} {cZ : gm} (h : m_X9_would n t a1 a2 a3 a4 a5 a6 a7 c = some (.inr (kZ, cZ))) : vx_Met l yX9_would wsX9_would rxX9_would (va_Pc [.ref (ad t), .int a1, .int a2, .int a3, .int a4, .int a5, .int a6, .int a7] (gP sa D ad cy N sz c d0)) (va_Qi (fun (_ : Int32) (_ : Unit) => False) (fun _ _ => True) (gA ad N sz)) (vx_X (fun (_ : Unit) => True) (fun E _ U => E = gxn kZ ∧ gE D ad cy N cZ d0 U) (gA ad N sz)) 1 6 (gA ad N sz) := by
  refine vx_ofW (cc := cX9_would) (maxL := 8) (ret := (some .int)) (by decide) rfl ?_
  intro p e s m args below meth cod s₁ B hml htab hv
  obtain ⟨rfl, hsz, hP, hK, hZ⟩ := hv
  have hx := B.exec
  have hb := B.bytes
  have hr := B.returns
  have hts := atoms_spec (ws := wsX9_would) B.pre
  have hown : s.vm.findClass RX9 = some m.cls := findClass_of_methodNamed B.named
  have hlocks := B.notSynchronized
  subst hsz
  have hl := lv_entry ([.ref (ad t), .int a1, .int a2, .int a3, .int a4, .int a5, .int a6, .int a7]) (n := 8) (Nat.le_of_ble_eq_true rfl)
  rw [lg_entry_eq]
  generalize (lg_sl ([.ref (ad t), .int a1, .int a2, .int a3, .int a4, .int a5, .int a6, .int a7]) ++ List.replicate (8 - (lg_sl ([.ref (ad t), .int a1, .int a2, .int a3, .int a4, .int a5, .int a6, .int a7])).length) Slot.unset).toArray = ls at hl ⊢
  have hl : lv_has ls 8 [(0, .ref (ad t)), (1, .int a1), (2, .int a2), (3, .int a3), (4, .int a4), (5, .int a5), (6, .int a6), (7, .int a7)] := hl
  generalize hargs : ([.ref (ad t), .int a1, .int a2, .int a3, .int a4, .int a5, .int a6, .int a7] : List Value).toArray = args at *
  generalize hAe : gA ad N s.heap.size = A
  have F : gF sa D ad cy N A p s m args cod cX9_would 8 wsX9_would RX9 := ⟨hx, hb, hml, hown, hts, hK, hI, by rw [← hAe]; exact gA_ad, by rw [← hAe]; exact gA_sz, by rw [← hAe]; exact hZ⟩
  have G : gW D ad cy N A s.heap c d0 s.heap [] := ⟨hP, va_S.rf⟩
  generalize hQ : vx_MQ below (va_Qi (fun (_ : Int32) (_ : Unit) => False) (fun _ _ => True) A) (vx_X (fun (_ : Unit) => True) (fun E _ U => E = gxn kZ ∧ gE D ad cy N cZ d0 U) A) args s 1 6 A = Q
  suffices hgen : ∀ (H : Heap) (locs : List Loc), gW D ad cy N A s.heap c d0 H locs → W p l e rxX9_would s m args below meth cod H locs 0 0 Q (F0 m 0 ls []) from hgen _ _ G
  clear G
  intro H locs G
  unfold m_X9_would at h
  refine lv_aload_n hx hb dX9_would_0 rfl (lv_at hl 0 rfl) ?_
  refine lv_iload_n hx hb dX9_would_1 rfl (lv_at hl 1 rfl) ?_
  refine lv_iconst (v := 1) hx hb dX9_would_2 (by decide) ?_
  obtain ⟨K2, eK2, h⟩ := gj_s h
  have JK2 : ∀ (v1 : Int32) (H : Heap) (locs : List Loc) (ls : Array Slot), K2 v1 = some (.inr (kZ, cZ)) → gW D ad cy N A s.heap c d0 H locs → lv_has ls 8 [(0, .ref (ad t)), (1, .int a1), (2, .int a2), (3, .int a3), (4, .int a4), (5, .int a5), (6, .int a6), (7, .int a7)] → W p l e rxX9_would s m args below meth cod H locs 0 0 Q (F0 m 17 ls [.int v1, .ref (ad t)]) := by
    intro v1 H locs ls h G hl
    rw [eK2] at h
    obtain ⟨hk3, h⟩ := gc_s h
    have ht4 : t < N := Nat.lt_of_lt_of_le (gck_lt9 hk3) hN
    rcases gbx_x h with hc5 | ⟨c7, hc5, h⟩
    · exact hQ ▸ gx_xv F G htab hlocks (vx_runV (As := [.int v1]) (rest := []) (gx_fix F) (cx_X9_demand l hlt sa D ad cy N H.size hN hI c d0 hc5) (cwV 1 hts gX9_would_X9_demand rfl rfl rfl (by decide +kernel) ⟨by decide, by decide⟩) (gx_rec F G ht4 (gwe_9 hk3) rfl) rfl rfl hl.1 rfl (lv_room (Nat.le_of_ble_eq_true rfl)) dX9_would_17 ⟨by decide, by decide⟩)
    · skip
      refine gx_callv F G (va_runV (As := [.int v1]) (rest := []) (gx_fix F) (c_X9_demand l sa D ad cy N H.size hN hI c d0 hc5) (cwV 1 hts gX9_would_X9_demand rfl rfl rfl (by decide +kernel) ⟨by decide, by decide⟩) (gx_rec F G ht4 (gwe_9 hk3) rfl) rfl rfl hl.1 rfl (lv_room (Nat.le_of_ble_eq_true rfl)) dX9_would_17 ⟨Nat.zero_le _, Nat.zero_le _⟩) (fun H locs G => ?_)
      refine lv_aload_n hx hb dX9_would_20 rfl (lv_at hl 0 rfl) ?_
      refine lv_iload_n hx hb dX9_would_21 rfl (lv_at hl 2 rfl) ?_
      obtain ⟨K9, eK9, h⟩ := gj_s h
      have JK9 : ∀ (v8 : Int32) (H : Heap) (locs : List Loc) (ls : Array Slot), K9 v8 = some (.inr (kZ, cZ)) → gW D ad cy N A s.heap c7 d0 H locs → lv_has ls 8 [(0, .ref (ad t)), (1, .int a1), (2, .int a2), (3, .int a3), (4, .int a4), (5, .int a5), (6, .int a6), (7, .int a7)] → W p l e rxX9_would s m args below meth cod H locs 0 0 Q (F0 m 37 ls [.int v8, .ref (ad t)]) := by
        intro v8 H locs ls h G hl
        rw [eK9] at h
        rcases gbx_x h with hc10 | ⟨c12, hc10, h⟩
        · exact hQ ▸ gx_xv F G htab hlocks (vx_runV (As := [.int v8]) (rest := []) (gx_fix F) (cx_X9_demand l hlt sa D ad cy N H.size hN hI c7 d0 hc10) (cwV 1 hts gX9_would_X9_demand rfl rfl rfl (by decide +kernel) ⟨by decide, by decide⟩) (gx_rec F G ht4 (gwe_9 hk3) rfl) rfl rfl hl.1 rfl (lv_room (Nat.le_of_ble_eq_true rfl)) dX9_would_37 ⟨by decide, by decide⟩)
        · skip
          refine gx_callv F G (va_runV (As := [.int v8]) (rest := []) (gx_fix F) (c_X9_demand l sa D ad cy N H.size hN hI c7 d0 hc10) (cwV 1 hts gX9_would_X9_demand rfl rfl rfl (by decide +kernel) ⟨by decide, by decide⟩) (gx_rec F G ht4 (gwe_9 hk3) rfl) rfl rfl hl.1 rfl (lv_room (Nat.le_of_ble_eq_true rfl)) dX9_would_37 ⟨Nat.zero_le _, Nat.zero_le _⟩) (fun H locs G => ?_)
          refine lv_aload_n hx hb dX9_would_40 rfl (lv_at hl 0 rfl) ?_
          refine lv_iload_n hx hb dX9_would_41 rfl (lv_at hl 3 rfl) ?_
          obtain ⟨K14, eK14, h⟩ := gj_s h
          have JK14 : ∀ (v13 : Int32) (H : Heap) (locs : List Loc) (ls : Array Slot), K14 v13 = some (.inr (kZ, cZ)) → gW D ad cy N A s.heap c12 d0 H locs → lv_has ls 8 [(0, .ref (ad t)), (1, .int a1), (2, .int a2), (3, .int a3), (4, .int a4), (5, .int a5), (6, .int a6), (7, .int a7)] → W p l e rxX9_would s m args below meth cod H locs 0 0 Q (F0 m 56 ls [.int v13, .ref (ad t)]) := by
            intro v13 H locs ls h G hl
            rw [eK14] at h
            rcases gbx_x h with hc15 | ⟨c17, hc15, h⟩
            · exact hQ ▸ gx_xv F G htab hlocks (vx_runV (As := [.int v13]) (rest := []) (gx_fix F) (cx_X9_demand l hlt sa D ad cy N H.size hN hI c12 d0 hc15) (cwV 1 hts gX9_would_X9_demand rfl rfl rfl (by decide +kernel) ⟨by decide, by decide⟩) (gx_rec F G ht4 (gwe_9 hk3) rfl) rfl rfl hl.1 rfl (lv_room (Nat.le_of_ble_eq_true rfl)) dX9_would_56 ⟨by decide, by decide⟩)
            · skip
              refine gx_callv F G (va_runV (As := [.int v13]) (rest := []) (gx_fix F) (c_X9_demand l sa D ad cy N H.size hN hI c12 d0 hc15) (cwV 1 hts gX9_would_X9_demand rfl rfl rfl (by decide +kernel) ⟨by decide, by decide⟩) (gx_rec F G ht4 (gwe_9 hk3) rfl) rfl rfl hl.1 rfl (lv_room (Nat.le_of_ble_eq_true rfl)) dX9_would_56 ⟨Nat.zero_le _, Nat.zero_le _⟩) (fun H locs G => ?_)
              refine lv_aload_n hx hb dX9_would_59 rfl (lv_at hl 0 rfl) ?_
              refine lv_iload hx hb dX9_would_60 (lv_at hl 4 rfl) ?_
              obtain ⟨K19, eK19, h⟩ := gj_s h
              have JK19 : ∀ (v18 : Int32) (H : Heap) (locs : List Loc) (ls : Array Slot), K19 v18 = some (.inr (kZ, cZ)) → gW D ad cy N A s.heap c17 d0 H locs → lv_has ls 8 [(0, .ref (ad t)), (1, .int a1), (2, .int a2), (3, .int a3), (4, .int a4), (5, .int a5), (6, .int a6), (7, .int a7)] → W p l e rxX9_would s m args below meth cod H locs 0 0 Q (F0 m 77 ls [.int v18, .ref (ad t)]) := by
                intro v18 H locs ls h G hl
                rw [eK19] at h
                rcases gbx_x h with hc20 | ⟨c22, hc20, h⟩
                · exact hQ ▸ gx_xv F G htab hlocks (vx_runV (As := [.int v18]) (rest := []) (gx_fix F) (cx_X9_demand l hlt sa D ad cy N H.size hN hI c17 d0 hc20) (cwV 1 hts gX9_would_X9_demand rfl rfl rfl (by decide +kernel) ⟨by decide, by decide⟩) (gx_rec F G ht4 (gwe_9 hk3) rfl) rfl rfl hl.1 rfl (lv_room (Nat.le_of_ble_eq_true rfl)) dX9_would_77 ⟨by decide, by decide⟩)
                · skip
                  refine gx_callv F G (va_runV (As := [.int v18]) (rest := []) (gx_fix F) (c_X9_demand l sa D ad cy N H.size hN hI c17 d0 hc20) (cwV 1 hts gX9_would_X9_demand rfl rfl rfl (by decide +kernel) ⟨by decide, by decide⟩) (gx_rec F G ht4 (gwe_9 hk3) rfl) rfl rfl hl.1 rfl (lv_room (Nat.le_of_ble_eq_true rfl)) dX9_would_77 ⟨Nat.zero_le _, Nat.zero_le _⟩) (fun H locs G => ?_)
                  refine lv_aload_n hx hb dX9_would_80 rfl (lv_at hl 0 rfl) ?_
                  refine lv_iload hx hb dX9_would_81 (lv_at hl 5 rfl) ?_
                  obtain ⟨K24, eK24, h⟩ := gj_s h
                  have JK24 : ∀ (v23 : Int32) (H : Heap) (locs : List Loc) (ls : Array Slot), K24 v23 = some (.inr (kZ, cZ)) → gW D ad cy N A s.heap c22 d0 H locs → lv_has ls 8 [(0, .ref (ad t)), (1, .int a1), (2, .int a2), (3, .int a3), (4, .int a4), (5, .int a5), (6, .int a6), (7, .int a7)] → W p l e rxX9_would s m args below meth cod H locs 0 0 Q (F0 m 99 ls [.int v23, .ref (ad t)]) := by
                    intro v23 H locs ls h G hl
                    rw [eK24] at h
                    rcases gbx_x h with hc25 | ⟨c27, hc25, h⟩
                    · exact hQ ▸ gx_xv F G htab hlocks (vx_runV (As := [.int v23]) (rest := []) (gx_fix F) (cx_X9_demand l hlt sa D ad cy N H.size hN hI c22 d0 hc25) (cwV 1 hts gX9_would_X9_demand rfl rfl rfl (by decide +kernel) ⟨by decide, by decide⟩) (gx_rec F G ht4 (gwe_9 hk3) rfl) rfl rfl hl.1 rfl (lv_room (Nat.le_of_ble_eq_true rfl)) dX9_would_99 ⟨by decide, by decide⟩)
                    · skip
                      refine gx_callv F G (va_runV (As := [.int v23]) (rest := []) (gx_fix F) (c_X9_demand l sa D ad cy N H.size hN hI c22 d0 hc25) (cwV 1 hts gX9_would_X9_demand rfl rfl rfl (by decide +kernel) ⟨by decide, by decide⟩) (gx_rec F G ht4 (gwe_9 hk3) rfl) rfl rfl hl.1 rfl (lv_room (Nat.le_of_ble_eq_true rfl)) dX9_would_99 ⟨Nat.zero_le _, Nat.zero_le _⟩) (fun H locs G => ?_)
                      refine lv_aload_n hx hb dX9_would_102 rfl (lv_at hl 0 rfl) ?_
                      refine lv_iload hx hb dX9_would_103 (lv_at hl 6 rfl) ?_
                      obtain ⟨K29, eK29, h⟩ := gj_s h
                      have JK29 : ∀ (v28 : Int32) (H : Heap) (locs : List Loc) (ls : Array Slot), K29 v28 = some (.inr (kZ, cZ)) → gW D ad cy N A s.heap c27 d0 H locs → lv_has ls 8 [(0, .ref (ad t)), (1, .int a1), (2, .int a2), (3, .int a3), (4, .int a4), (5, .int a5), (6, .int a6), (7, .int a7)] → W p l e rxX9_would s m args below meth cod H locs 0 0 Q (F0 m 120 ls [.int v28, .ref (ad t)]) := by
                        intro v28 H locs ls h G hl
                        rw [eK29] at h
                        rcases gbx_x h with hc30 | ⟨c32, hc30, h⟩
                        · exact hQ ▸ gx_xv F G htab hlocks (vx_runV (As := [.int v28]) (rest := []) (gx_fix F) (cx_X9_demand l hlt sa D ad cy N H.size hN hI c27 d0 hc30) (cwV 1 hts gX9_would_X9_demand rfl rfl rfl (by decide +kernel) ⟨by decide, by decide⟩) (gx_rec F G ht4 (gwe_9 hk3) rfl) rfl rfl hl.1 rfl (lv_room (Nat.le_of_ble_eq_true rfl)) dX9_would_120 ⟨by decide, by decide⟩)
                        · skip
                          refine gx_callv F G (va_runV (As := [.int v28]) (rest := []) (gx_fix F) (c_X9_demand l sa D ad cy N H.size hN hI c27 d0 hc30) (cwV 1 hts gX9_would_X9_demand rfl rfl rfl (by decide +kernel) ⟨by decide, by decide⟩) (gx_rec F G ht4 (gwe_9 hk3) rfl) rfl rfl hl.1 rfl (lv_room (Nat.le_of_ble_eq_true rfl)) dX9_would_120 ⟨Nat.zero_le _, Nat.zero_le _⟩) (fun H locs G => ?_)
                          refine lv_aload_n hx hb dX9_would_123 rfl (lv_at hl 0 rfl) ?_
                          refine lv_iload hx hb dX9_would_124 (lv_at hl 7 rfl) ?_
                          obtain ⟨K34, eK34, h⟩ := gj_s h
                          have JK34 : ∀ (v33 : Int32) (H : Heap) (locs : List Loc) (ls : Array Slot), K34 v33 = some (.inr (kZ, cZ)) → gW D ad cy N A s.heap c32 d0 H locs → lv_has ls 8 [(0, .ref (ad t)), (1, .int a1), (2, .int a2), (3, .int a3), (4, .int a4), (5, .int a5), (6, .int a6), (7, .int a7)] → W p l e rxX9_would s m args below meth cod H locs 0 0 Q (F0 m 141 ls [.int v33, .ref (ad t)]) := by
                            intro v33 H locs ls h G hl
                            rw [eK34] at h
                            rcases gbx_x h with hc35 | ⟨c37, hc35, h⟩
                            · exact hQ ▸ gx_xv F G htab hlocks (vx_runV (As := [.int v33]) (rest := []) (gx_fix F) (cx_X9_demand l hlt sa D ad cy N H.size hN hI c32 d0 hc35) (cwV 1 hts gX9_would_X9_demand rfl rfl rfl (by decide +kernel) ⟨by decide, by decide⟩) (gx_rec F G ht4 (gwe_9 hk3) rfl) rfl rfl hl.1 rfl (lv_room (Nat.le_of_ble_eq_true rfl)) dX9_would_141 ⟨by decide, by decide⟩)
                            · skip
                              refine gx_callv F G (va_runV (As := [.int v33]) (rest := []) (gx_fix F) (c_X9_demand l sa D ad cy N H.size hN hI c32 d0 hc35) (cwV 1 hts gX9_would_X9_demand rfl rfl rfl (by decide +kernel) ⟨by decide, by decide⟩) (gx_rec F G ht4 (gwe_9 hk3) rfl) rfl rfl hl.1 rfl (lv_room (Nat.le_of_ble_eq_true rfl)) dX9_would_141 ⟨Nat.zero_le _, Nat.zero_le _⟩) (fun H locs G => ?_)
                              exact (gok_no h).elim
                          obtain ⟨K38, eK38, h⟩ := gj_s h
                          have JK38 : ∀ (H : Heap) (locs : List Loc) (ls : Array Slot), K38 () = some (.inr (kZ, cZ)) → gW D ad cy N A s.heap c32 d0 H locs → lv_has ls 8 [(0, .ref (ad t)), (1, .int a1), (2, .int a2), (3, .int a3), (4, .int a4), (5, .int a5), (6, .int a6), (7, .int a7)] → W p l e rxX9_would s m args below meth cod H locs 0 0 Q (F0 m 140 ls [.ref (ad t)]) := by
                            intro  H locs ls h G hl
                            rw [eK38] at h
                            refine lv_iconst (v := 0) hx hb dX9_would_140 (by decide) ?_
                            exact JK34 _ _ _ _ h G hl
                          refine lv_if_lt (tgt := 140) hx hb dX9_would_126 (by decide) (fun q39 => ?_) (fun q39 => ?_)
                          · replace h := gt_s q39 h
                            exact JK38  _ _ _ h G hl
                          · replace h := gf_s q39 h
                            refine lv_iload hx hb dX9_would_129 (lv_at hl 7 rfl) ?_
                            refine lv_bipush (v := 9) hx hb dX9_would_131 (by decide) ?_
                            refine lv_icmp_gt (tgt := 140) hx hb dX9_would_133 (by decide) (fun q40 => ?_) (fun q40 => ?_)
                            · replace h := gt_s q40 h
                              exact JK38  _ _ _ h G hl
                            · replace h := gf_s q40 h
                              refine lv_iconst (v := 1) hx hb dX9_would_136 (by decide) ?_
                              refine lv_goto (tgt := 141) hx hb dX9_would_137 (by decide) ?_
                              exact JK34 _ _ _ _ h G hl
                      obtain ⟨K41, eK41, h⟩ := gj_s h
                      have JK41 : ∀ (H : Heap) (locs : List Loc) (ls : Array Slot), K41 () = some (.inr (kZ, cZ)) → gW D ad cy N A s.heap c27 d0 H locs → lv_has ls 8 [(0, .ref (ad t)), (1, .int a1), (2, .int a2), (3, .int a3), (4, .int a4), (5, .int a5), (6, .int a6), (7, .int a7)] → W p l e rxX9_would s m args below meth cod H locs 0 0 Q (F0 m 119 ls [.ref (ad t)]) := by
                        intro  H locs ls h G hl
                        rw [eK41] at h
                        refine lv_iconst (v := 0) hx hb dX9_would_119 (by decide) ?_
                        exact JK29 _ _ _ _ h G hl
                      refine lv_if_lt (tgt := 119) hx hb dX9_would_105 (by decide) (fun q42 => ?_) (fun q42 => ?_)
                      · replace h := gt_s q42 h
                        exact JK41  _ _ _ h G hl
                      · replace h := gf_s q42 h
                        refine lv_iload hx hb dX9_would_108 (lv_at hl 6 rfl) ?_
                        refine lv_bipush (v := 18) hx hb dX9_would_110 (by decide) ?_
                        refine lv_icmp_gt (tgt := 119) hx hb dX9_would_112 (by decide) (fun q43 => ?_) (fun q43 => ?_)
                        · replace h := gt_s q43 h
                          exact JK41  _ _ _ h G hl
                        · replace h := gf_s q43 h
                          refine lv_iconst (v := 1) hx hb dX9_would_115 (by decide) ?_
                          refine lv_goto (tgt := 120) hx hb dX9_would_116 (by decide) ?_
                          exact JK29 _ _ _ _ h G hl
                  obtain ⟨K44, eK44, h⟩ := gj_s h
                  have JK44 : ∀ (H : Heap) (locs : List Loc) (ls : Array Slot), K44 () = some (.inr (kZ, cZ)) → gW D ad cy N A s.heap c22 d0 H locs → lv_has ls 8 [(0, .ref (ad t)), (1, .int a1), (2, .int a2), (3, .int a3), (4, .int a4), (5, .int a5), (6, .int a6), (7, .int a7)] → W p l e rxX9_would s m args below meth cod H locs 0 0 Q (F0 m 98 ls [.ref (ad t)]) := by
                    intro  H locs ls h G hl
                    rw [eK44] at h
                    refine lv_iconst (v := 0) hx hb dX9_would_98 (by decide) ?_
                    exact JK24 _ _ _ _ h G hl
                  refine lv_if_lt (tgt := 98) hx hb dX9_would_83 (by decide) (fun q45 => ?_) (fun q45 => ?_)
                  · replace h := gt_s q45 h
                    exact JK44  _ _ _ h G hl
                  · replace h := gf_s q45 h
                    refine lv_iload hx hb dX9_would_86 (lv_at hl 5 rfl) ?_
                    refine lv_sipush (v := 300) hx hb dX9_would_88 (by decide) ?_
                    refine lv_icmp_gt (tgt := 98) hx hb dX9_would_91 (by decide) (fun q46 => ?_) (fun q46 => ?_)
                    · replace h := gt_s q46 h
                      exact JK44  _ _ _ h G hl
                    · replace h := gf_s q46 h
                      refine lv_iconst (v := 1) hx hb dX9_would_94 (by decide) ?_
                      refine lv_goto (tgt := 99) hx hb dX9_would_95 (by decide) ?_
                      exact JK24 _ _ _ _ h G hl
              obtain ⟨K47, eK47, h⟩ := gj_s h
              have JK47 : ∀ (H : Heap) (locs : List Loc) (ls : Array Slot), K47 () = some (.inr (kZ, cZ)) → gW D ad cy N A s.heap c17 d0 H locs → lv_has ls 8 [(0, .ref (ad t)), (1, .int a1), (2, .int a2), (3, .int a3), (4, .int a4), (5, .int a5), (6, .int a6), (7, .int a7)] → W p l e rxX9_would s m args below meth cod H locs 0 0 Q (F0 m 76 ls [.ref (ad t)]) := by
                intro  H locs ls h G hl
                rw [eK47] at h
                refine lv_iconst (v := 0) hx hb dX9_would_76 (by decide) ?_
                exact JK19 _ _ _ _ h G hl
              refine lv_if_lt (tgt := 76) hx hb dX9_would_62 (by decide) (fun q48 => ?_) (fun q48 => ?_)
              · replace h := gt_s q48 h
                exact JK47  _ _ _ h G hl
              · replace h := gf_s q48 h
                refine lv_iload hx hb dX9_would_65 (lv_at hl 4 rfl) ?_
                refine lv_bipush (v := 8) hx hb dX9_would_67 (by decide) ?_
                refine lv_icmp_ge (tgt := 76) hx hb dX9_would_69 (by decide) (fun q49 => ?_) (fun q49 => ?_)
                · replace h := gt_s q49 h
                  exact JK47  _ _ _ h G hl
                · replace h := gf_s q49 h
                  refine lv_iconst (v := 1) hx hb dX9_would_72 (by decide) ?_
                  refine lv_goto (tgt := 77) hx hb dX9_would_73 (by decide) ?_
                  exact JK19 _ _ _ _ h G hl
          obtain ⟨K50, eK50, h⟩ := gj_s h
          have JK50 : ∀ (H : Heap) (locs : List Loc) (ls : Array Slot), K50 () = some (.inr (kZ, cZ)) → gW D ad cy N A s.heap c12 d0 H locs → lv_has ls 8 [(0, .ref (ad t)), (1, .int a1), (2, .int a2), (3, .int a3), (4, .int a4), (5, .int a5), (6, .int a6), (7, .int a7)] → W p l e rxX9_would s m args below meth cod H locs 0 0 Q (F0 m 55 ls [.ref (ad t)]) := by
            intro  H locs ls h G hl
            rw [eK50] at h
            refine lv_iconst (v := 0) hx hb dX9_would_55 (by decide) ?_
            exact JK14 _ _ _ _ h G hl
          refine lv_if_lt (tgt := 55) hx hb dX9_would_42 (by decide) (fun q51 => ?_) (fun q51 => ?_)
          · replace h := gt_s q51 h
            exact JK50  _ _ _ h G hl
          · replace h := gf_s q51 h
            refine lv_iload_n hx hb dX9_would_45 rfl (lv_at hl 3 rfl) ?_
            refine lv_bipush (v := 10) hx hb dX9_would_46 (by decide) ?_
            refine lv_icmp_gt (tgt := 55) hx hb dX9_would_48 (by decide) (fun q52 => ?_) (fun q52 => ?_)
            · replace h := gt_s q52 h
              exact JK50  _ _ _ h G hl
            · replace h := gf_s q52 h
              refine lv_iconst (v := 1) hx hb dX9_would_51 (by decide) ?_
              refine lv_goto (tgt := 56) hx hb dX9_would_52 (by decide) ?_
              exact JK14 _ _ _ _ h G hl
      obtain ⟨K53, eK53, h⟩ := gj_s h
      have JK53 : ∀ (H : Heap) (locs : List Loc) (ls : Array Slot), K53 () = some (.inr (kZ, cZ)) → gW D ad cy N A s.heap c7 d0 H locs → lv_has ls 8 [(0, .ref (ad t)), (1, .int a1), (2, .int a2), (3, .int a3), (4, .int a4), (5, .int a5), (6, .int a6), (7, .int a7)] → W p l e rxX9_would s m args below meth cod H locs 0 0 Q (F0 m 36 ls [.ref (ad t)]) := by
        intro  H locs ls h G hl
        rw [eK53] at h
        refine lv_iconst (v := 0) hx hb dX9_would_36 (by decide) ?_
        exact JK9 _ _ _ _ h G hl
      refine lv_if_lt (tgt := 36) hx hb dX9_would_22 (by decide) (fun q54 => ?_) (fun q54 => ?_)
      · replace h := gt_s q54 h
        exact JK53  _ _ _ h G hl
      · replace h := gf_s q54 h
        refine lv_iload_n hx hb dX9_would_25 rfl (lv_at hl 2 rfl) ?_
        refine lv_sipush (v := 999) hx hb dX9_would_26 (by decide) ?_
        refine lv_icmp_gt (tgt := 36) hx hb dX9_would_29 (by decide) (fun q55 => ?_) (fun q55 => ?_)
        · replace h := gt_s q55 h
          exact JK53  _ _ _ h G hl
        · replace h := gf_s q55 h
          refine lv_iconst (v := 1) hx hb dX9_would_32 (by decide) ?_
          refine lv_goto (tgt := 37) hx hb dX9_would_33 (by decide) ?_
          exact JK9 _ _ _ _ h G hl
  obtain ⟨K56, eK56, h⟩ := gj_s h
  have JK56 : ∀ (H : Heap) (locs : List Loc) (ls : Array Slot), K56 () = some (.inr (kZ, cZ)) → gW D ad cy N A s.heap c d0 H locs → lv_has ls 8 [(0, .ref (ad t)), (1, .int a1), (2, .int a2), (3, .int a3), (4, .int a4), (5, .int a5), (6, .int a6), (7, .int a7)] → W p l e rxX9_would s m args below meth cod H locs 0 0 Q (F0 m 16 ls [.ref (ad t)]) := by
    intro  H locs ls h G hl
    rw [eK56] at h
    refine lv_iconst (v := 0) hx hb dX9_would_16 (by decide) ?_
    exact JK2 _ _ _ _ h G hl
  refine lv_icmp_lt (tgt := 16) hx hb dX9_would_3 (by decide) (fun q57 => ?_) (fun q57 => ?_)
  · replace h := gt_s q57 h
    exact JK56  _ _ _ h G hl
  · replace h := gf_s q57 h
    refine lv_iload_n hx hb dX9_would_6 rfl (lv_at hl 1 rfl) ?_
    refine lv_bipush (v := 60) hx hb dX9_would_7 (by decide) ?_
    refine lv_icmp_gt (tgt := 16) hx hb dX9_would_9 (by decide) (fun q58 => ?_) (fun q58 => ?_)
    · replace h := gt_s q58 h
      exact JK56  _ _ _ h G hl
    · replace h := gf_s q58 h
      refine lv_iconst (v := 1) hx hb dX9_would_12 (by decide) ?_
      refine lv_goto (tgt := 17) hx hb dX9_would_13 (by decide) ?_
      exact JK2 _ _ _ _ h G hl
def m_X9_ahead_L41 (n : Nat) (a1 : Int32) (y16 : Int32) (c17 : gm) : Option ((Int32 × gm) ⊕ (gm)) :=
  (if a1 ≤ y16 then some (.inr c17) else gb2 (m_X6_passDay n 9 (c17.2.2 0) c17) (fun (r31 : Int32) (c32 : gm) => gv (y16 + 1) (fun (x33 : Int32) => some (.inl (x33, c32)))))
def m_X9_ahead (n : Nat) (t : Nat) (a1 : Int32) (a2 : Int32) (c : gm) : Option ((Int32 × gm) ⊕ (Nat × gm)) :=
  gj (fun (v1 : Int32) => gc (gck t = 9) (gbx (m_X9_demand t v1 c) (fun (c7 : gm) => gok (gb (m_X6_copyFrom 9 3 c7) (fun (c14 : gm) => gb (gloop (gu2 (fun (y16 : Int32) (c17 : gm) => m_X9_ahead_L41 n a1 y16 c17)) n (0, c14)) (fun (c18 : gm) => (if a2 = 0 then gb (m_X6_weightOfAll n 9 c18) (fun (r21 : Int32) => some (r21, c18)) else (if a2 = 1 then gb (m_X6_heaviestThing n 9 c18) (fun (r24 : Int32) => some (r24, c18)) else gb (m_X6_criesNotSo n 9 c18) (fun (r28 : Int32) => some (r28, c18)))))))))) (fun K2 => gj (fun (_ : Unit) => K2 0) (fun K34 => (if a1 < 0 then K34 () else (if 99 < a1 then K34 () else (if a2 < 0 then K34 () else (if 2 < a2 then K34 () else K2 1))))))
abbrev rmX9_ahead : Room := { frames := 7, cells := 0, slots := 0, locals := 111 }
abbrev rxX9_ahead : Room := { frames := 7, cells := 1, slots := 6, locals := 111 }
set_option maxHeartbeats 4000000 in
set_option maxRecDepth 100000 in
theorem c_X9_ahead (l : Launch) (sa : gSa) (D : va_G) (ad : Nat → Nat) (cy : Nat → ClassId) (N sz : Nat) (hN : 55 ≤ N) (hI : gI ad N) (c d0 : gm) {n : Nat} {t : Nat} {a1 : Int32} {a2 : Int32} {rZ : Int32} {cZ : gm} (h : m_X9_ahead n t a1 a2 c = some (.inl (rZ, cZ))) : Met l yX9_ahead wsX9_ahead rmX9_ahead (va_Pc [.ref (ad t), .int a1, .int a2] (gP sa D ad cy N sz c d0)) (va_Qi (fun (z : Int32) (_ : Unit) => z = rZ) (fun _ U => gE D ad cy N cZ d0 U) (gA ad N sz)) 0 0 (gA ad N sz) := by
  refine Met.ofW (cc := cX9_ahead) (maxL := 4) (ret := (some .int)) (by decide) rfl ?_
  intro p e s m args below meth cod s₁ B hml hv
  obtain ⟨rfl, hsz, hP, hK, hZ⟩ := hv
  have hx := B.exec
  have hb := B.bytes
  have hr := B.returns
  have hts := atoms_spec (ws := wsX9_ahead) B.pre
  have hown : s.vm.findClass RX9 = some m.cls := findClass_of_methodNamed B.named
  have hlocks := B.notSynchronized
  subst hsz
  have hl := lv_entry ([.ref (ad t), .int a1, .int a2]) (n := 4) (Nat.le_of_ble_eq_true rfl)
  rw [lg_entry_eq]
  generalize (lg_sl ([.ref (ad t), .int a1, .int a2]) ++ List.replicate (4 - (lg_sl ([.ref (ad t), .int a1, .int a2])).length) Slot.unset).toArray = ls at hl ⊢
  have hl : lv_has ls 4 [(0, .ref (ad t)), (1, .int a1), (2, .int a2)] := hl
  have in9 : ∀ w ∈ wsX90, w ∈ wsX9_ahead := by decide +kernel
  generalize hargs : ([.ref (ad t), .int a1, .int a2] : List Value).toArray = args at *
  generalize hAe : gA ad N s.heap.size = A
  have F : gF sa D ad cy N A p s m args cod cX9_ahead 4 wsX9_ahead RX9 := ⟨hx, hb, hml, hown, hts, hK, hI, by rw [← hAe]; exact gA_ad, by rw [← hAe]; exact gA_sz, by rw [← hAe]; exact hZ⟩
  have G : gW D ad cy N A s.heap c d0 s.heap [] := ⟨hP, va_S.rf⟩
  generalize hQ : MQ below (va_Qi (fun (z : Int32) (_ : Unit) => z = rZ) (fun _ U => gE D ad cy N cZ d0 U) A) args s 0 0 A = Q
  suffices hgen : ∀ (H : Heap) (locs : List Loc), gW D ad cy N A s.heap c d0 H locs → W p l e rmX9_ahead s m args below meth cod H locs 0 0 Q (F0 m 0 ls []) from hgen _ _ G
  clear G
  intro H locs G
  unfold m_X9_ahead at h
  refine lv_aload_n hx hb dX9_ahead_0 rfl (lv_at hl 0 rfl) ?_
  refine lv_iload_n hx hb dX9_ahead_1 rfl (lv_at hl 1 rfl) ?_
  obtain ⟨K2, eK2, h⟩ := gj_s h
  have JK2 : ∀ (v1 : Int32) (H : Heap) (locs : List Loc) (ls : Array Slot), K2 v1 = some (.inl (rZ, cZ)) → gW D ad cy N A s.heap c d0 H locs → lv_has ls 4 [(0, .ref (ad t)), (1, .int a1), (2, .int a2)] → W p l e rmX9_ahead s m args below meth cod H locs 0 0 Q (F0 m 25 ls [.int v1, .ref (ad t)]) := by
    intro v1 H locs ls h G hl
    rw [eK2] at h
    obtain ⟨hk3, h⟩ := gc_s h
    have ht4 : t < N := Nat.lt_of_lt_of_le (gck_lt9 hk3) hN
    obtain ⟨c7, hc5, h⟩ := gbx_l h
    refine gx_callv F G (va_runV (As := [.int v1]) (rest := []) (gx_fix F) (c_X9_demand l sa D ad cy N H.size hN hI c d0 hc5) (cwV 1 hts gX9_ahead_X9_demand rfl rfl rfl (by decide +kernel) ⟨by decide, by decide⟩) (gx_rec F G ht4 (gwe_9 hk3) rfl) rfl rfl hl.1 rfl (lv_room (Nat.le_of_ble_eq_true rfl)) dX9_ahead_25 ⟨Nat.zero_le _, Nat.zero_le _⟩) (fun H locs G => ?_)
    replace h := gok_s h
    refine lv_aload_n hx hb dX9_ahead_28 rfl (lv_at hl 0 rfl) ?_
    refine fg_9_draft F G hk3 ht4 in9 (by decide +kernel) dX9_ahead_29 ?_
    have hk8 : gck 9 = 6 := rfl
    have ht9 : 9 < N := Nat.lt_of_lt_of_le (by decide) hN
    refine lv_aload_n hx hb dX9_ahead_32 rfl (lv_at hl 0 rfl) ?_
    refine fg_9_now F G hk3 ht4 in9 (by decide +kernel) dX9_ahead_33 ?_
    have hk10 : gck 3 = 6 := rfl
    have ht11 : 3 < N := Nat.lt_of_lt_of_le (by decide) hN
    obtain ⟨c14, hc12, h⟩ := gb_s h
    refine gx_callv F G (va_runV (As := [.ref (ad 3)]) (rest := []) (gx_fix F) (c_X6_copyFrom l sa D ad cy N H.size hN hI c7 d0 hc12) (cwV 1 hts gX9_ahead_X6_copyFrom rfl rfl rfl (by decide +kernel) ⟨by decide, by decide⟩) (gx_rec F G ht9 (gwe_6 hk8) rfl) rfl rfl hl.1 rfl (lv_room (Nat.le_of_ble_eq_true rfl)) dX9_ahead_36 ⟨Nat.zero_le _, Nat.zero_le _⟩) (fun H locs G => ?_)
    refine lv_iconst (v := 0) hx hb dX9_ahead_39 (by decide) ?_
    refine lv_istore_n (lv' := [(3, .int 0), (0, .ref (ad t)), (1, .int a1), (2, .int a2)]) hx hb dX9_ahead_40 rfl hl (by decide) rfl (fun ls hl => ?_)
    obtain ⟨b15, hb15, hK15⟩ := gb_s h
    have E15 : ∀ (c18 : gm) (H : Heap) (locs : List Loc) (ls : Array Slot), (c18 : gm) = b15 → gW D ad cy N A s.heap c18 d0 H locs → lv_has ls 4 [(0, .ref (ad t)), (2, .int a2)] → W p l e rmX9_ahead s m args below meth cod H locs 0 0 Q (F0 m 64 ls []) := by
      intro c18 H locs ls hq15 G hl
      subst hq15
      replace hK15 := hK15
      have h := hK15
      refine lv_iload_n hx hb dX9_ahead_64 rfl (lv_at hl 1 rfl) ?_
      by_cases q19 : a2 = 0
      · replace h := gt_s q19 h
        refine lv_lookup (tgt := 92) hx hb dX9_ahead_65 (by decide) (off := 27) (by rw [q19]; decide) (by decide) ?_
        refine lv_aload_n hx hb dX9_ahead_92 rfl (lv_at hl 0 rfl) ?_
        refine fg_9_draft F G hk3 ht4 in9 (by decide +kernel) dX9_ahead_93 ?_
        obtain ⟨r21, hc20, h⟩ := gb_s h
        refine gx_calli F G (va_runV (As := []) (rest := []) (gx_fix F) (c_X6_weightOfAll l sa D ad cy N H.size hN hI c18 d0 hc20) (cwV 0 hts gX9_ahead_X6_weightOfAll rfl rfl rfl (by decide +kernel) ⟨by decide, by decide⟩) (gx_rec F G ht9 (gwe_6 hk8) rfl) rfl rfl hl.1 rfl (lv_room (Nat.le_of_ble_eq_true rfl)) dX9_ahead_96 ⟨Nat.zero_le _, Nat.zero_le _⟩) (fun H locs G => ?_)
        cases h
        rw [← hQ]
        exact gx_iret F G hr hlocks dX9_ahead_99
      replace h := gf_s q19 h
      by_cases q22 : a2 = 1
      · replace h := gt_s q22 h
        refine lv_lookup (tgt := 100) hx hb dX9_ahead_65 (by decide) (off := 35) (by rw [q22]; decide) (by decide) ?_
        refine lv_aload_n hx hb dX9_ahead_100 rfl (lv_at hl 0 rfl) ?_
        refine fg_9_draft F G hk3 ht4 in9 (by decide +kernel) dX9_ahead_101 ?_
        obtain ⟨r24, hc23, h⟩ := gb_s h
        refine gx_calli F G (va_runV (As := []) (rest := []) (gx_fix F) (c_X6_heaviestThing l sa D ad cy N H.size hN hI c18 d0 hc23) (cwV 0 hts gX9_ahead_X6_heaviestThing rfl rfl rfl (by decide +kernel) ⟨by decide, by decide⟩) (gx_rec F G ht9 (gwe_6 hk8) rfl) rfl rfl hl.1 rfl (lv_room (Nat.le_of_ble_eq_true rfl)) dX9_ahead_104 ⟨Nat.zero_le _, Nat.zero_le _⟩) (fun H locs G => ?_)
        cases h
        rw [← hQ]
        exact gx_iret F G hr hlocks dX9_ahead_107
      replace h := gf_s q22 h
      have nn25 := lv_neT q19 (show (0 : Int32).toInt = 0 by decide)
      have nn26 := lv_neT q22 (show (1 : Int32).toInt = 1 by decide)
      refine lv_lookup (tgt := 108) hx hb dX9_ahead_65 (by decide) (off := 43) (by show Op.lookupswitch.offset [(0, 27), (1, 35)] 43 _ = _; rw [lv_osw q19 (show (0 : Int32).toInt = 0 by decide), lv_osw q22 (show (1 : Int32).toInt = 1 by decide)]; rfl) (by decide) ?_
      refine lv_aload_n hx hb dX9_ahead_108 rfl (lv_at hl 0 rfl) ?_
      refine fg_9_draft F G hk3 ht4 in9 (by decide +kernel) dX9_ahead_109 ?_
      obtain ⟨r28, hc27, h⟩ := gb_s h
      refine gx_calli F G (va_runV (As := []) (rest := []) (gx_fix F) (c_X6_criesNotSo l sa D ad cy N H.size hN hI c18 d0 hc27) (cwV 0 hts gX9_ahead_X6_criesNotSo rfl rfl rfl (by decide +kernel) ⟨by decide, by decide⟩) (gx_rec F G ht9 (gwe_6 hk8) rfl) rfl rfl hl.1 rfl (lv_room (Nat.le_of_ble_eq_true rfl)) dX9_ahead_112 ⟨Nat.zero_le _, Nat.zero_le _⟩) (fun H locs G => ?_)
      cases h
      rw [← hQ]
      exact gx_iret F G hr hlocks dX9_ahead_115
    have L15 : ∀ (n9 : Nat) (y16 : Int32) (c17 : gm) (H : Heap) (locs : List Loc) (ls : Array Slot), gloop (gu2 (fun (y16 : Int32) (c17 : gm) => m_X9_ahead_L41 n a1 y16 c17)) n9 (y16, c17) = some b15 → gW D ad cy N A s.heap c17 d0 H locs → lv_has ls 4 [(0, .ref (ad t)), (1, .int a1), (2, .int a2), (3, .int y16)] → W p l e rmX9_ahead s m args below meth cod H locs 0 0 Q (F0 m 41 ls []) := by
      intro n9
      induction n9 with
      | zero => intro y16 c17 H locs ls h; exact (gloop_0 h).elim
      | succ n9 ih =>
        intro y16 c17 H locs ls h G hl
        have ih15 := ih
        obtain ⟨o15, h, hn15⟩ := gloop_s h
        replace h := gu2_s h
        unfold m_X9_ahead_L41 at h
        refine lv_iload_n hx hb dX9_ahead_41 rfl (lv_at hl 3 rfl) ?_
        refine lv_iload_n hx hb dX9_ahead_42 rfl (lv_at hl 1 rfl) ?_
        refine lv_icmp_ge (tgt := 64) hx hb dX9_ahead_43 (by decide) (fun q29 => ?_) (fun q29 => ?_)
        · replace h := gt_s q29 h
          cases h
          exact E15 _ _ _ _ (gnx_r hn15) G (lv_sub hl [0, 2] rfl)
        · replace h := gf_s q29 h
          refine lv_aload_n hx hb dX9_ahead_46 rfl (lv_at hl 0 rfl) ?_
          refine fg_9_draft F G hk3 ht4 in9 (by decide +kernel) dX9_ahead_47 ?_
          refine lv_aload_n hx hb dX9_ahead_50 rfl (lv_at hl 0 rfl) ?_
          refine fg_9_rule F G hk3 ht4 in9 (by decide +kernel) dX9_ahead_51 ?_
          obtain ⟨r31, c32, hc30, h⟩ := gb2_s h
          refine gx_calli F G (va_runV (As := [.ref (ad (c17.2.2 0))]) (rest := []) (gx_fix F) (c_X6_passDay l sa D ad cy N H.size hN hI c17 d0 hc30) (cwV 1 hts gX9_ahead_X6_passDay rfl rfl rfl (by decide +kernel) ⟨by decide, by decide⟩) (gx_rec F G ht9 (gwe_6 hk8) rfl) rfl rfl hl.1 rfl (lv_room (Nat.le_of_ble_eq_true rfl)) dX9_ahead_54 ⟨Nat.zero_le _, Nat.zero_le _⟩) (fun H locs G => ?_)
          refine lv_pop hx hb dX9_ahead_57 rfl ?_
          obtain ⟨x33, ex33⟩ : ∃ z : Int32, z = y16 + 1 := ⟨_, rfl⟩
          replace h := gv_s h x33 ex33
          refine lv_iinc (v := x33) (lv' := [(3, .int x33), (0, .ref (ad t)), (1, .int a1), (2, .int a2)]) hx hb dX9_ahead_58 hl (k := 3) rfl (by rw [ex33]; rfl) (by decide) rfl (fun ls hl => ?_)
          refine lv_goto (tgt := 41) hx hb dX9_ahead_61 (by decide) ?_
          cases h
          exact ih15 _ _ _ _ _ hn15 G (lv_sub hl [1, 2, 3, 0] rfl)
    exact L15 n _ _ _ _ _ hb15 G (lv_sub hl [1, 2, 3, 0] rfl)
  obtain ⟨K34, eK34, h⟩ := gj_s h
  have JK34 : ∀ (H : Heap) (locs : List Loc) (ls : Array Slot), K34 () = some (.inl (rZ, cZ)) → gW D ad cy N A s.heap c d0 H locs → lv_has ls 4 [(0, .ref (ad t)), (1, .int a1), (2, .int a2)] → W p l e rmX9_ahead s m args below meth cod H locs 0 0 Q (F0 m 24 ls [.ref (ad t)]) := by
    intro  H locs ls h G hl
    rw [eK34] at h
    refine lv_iconst (v := 0) hx hb dX9_ahead_24 (by decide) ?_
    exact JK2 _ _ _ _ h G hl
  refine lv_if_lt (tgt := 24) hx hb dX9_ahead_2 (by decide) (fun q35 => ?_) (fun q35 => ?_)
  · replace h := gt_s q35 h
    exact JK34  _ _ _ h G hl
  · replace h := gf_s q35 h
    refine lv_iload_n hx hb dX9_ahead_5 rfl (lv_at hl 1 rfl) ?_
    refine lv_bipush (v := 99) hx hb dX9_ahead_6 (by decide) ?_
    refine lv_icmp_gt (tgt := 24) hx hb dX9_ahead_8 (by decide) (fun q36 => ?_) (fun q36 => ?_)
    · replace h := gt_s q36 h
      exact JK34  _ _ _ h G hl
    · replace h := gf_s q36 h
      refine lv_iload_n hx hb dX9_ahead_11 rfl (lv_at hl 2 rfl) ?_
      refine lv_if_lt (tgt := 24) hx hb dX9_ahead_12 (by decide) (fun q37 => ?_) (fun q37 => ?_)
      · replace h := gt_s q37 h
        exact JK34  _ _ _ h G hl
      · replace h := gf_s q37 h
        refine lv_iload_n hx hb dX9_ahead_15 rfl (lv_at hl 2 rfl) ?_
        refine lv_iconst (v := 2) hx hb dX9_ahead_16 (by decide) ?_
        refine lv_icmp_gt (tgt := 24) hx hb dX9_ahead_17 (by decide) (fun q38 => ?_) (fun q38 => ?_)
        · replace h := gt_s q38 h
          exact JK34  _ _ _ h G hl
        · replace h := gf_s q38 h
          refine lv_iconst (v := 1) hx hb dX9_ahead_20 (by decide) ?_
          refine lv_goto (tgt := 25) hx hb dX9_ahead_21 (by decide) ?_
          exact JK2 _ _ _ _ h G hl
set_option maxHeartbeats 4000000 in
set_option maxRecDepth 100000 in
theorem cx_X9_ahead (l : Launch) (hlt : l.stackTraces = false) (sa : gSa) (D : va_G) (ad : Nat → Nat) (cy : Nat → ClassId) (N sz : Nat) (hN : 55 ≤ N) (hI : gI ad N) (c d0 : gm) {n : Nat} {t : Nat} {a1 : Int32} {a2 : Int32} {kZ : Nat} {cZ : gm} (h : m_X9_ahead n t a1 a2 c = some (.inr (kZ, cZ))) : vx_Met l yX9_ahead wsX9_ahead rxX9_ahead (va_Pc [.ref (ad t), .int a1, .int a2] (gP sa D ad cy N sz c d0)) (va_Qi (fun (_ : Int32) (_ : Unit) => False) (fun _ _ => True) (gA ad N sz)) (vx_X (fun (_ : Unit) => True) (fun E _ U => E = gxn kZ ∧ gE D ad cy N cZ d0 U) (gA ad N sz)) 1 6 (gA ad N sz) := by
  refine vx_ofW (cc := cX9_ahead) (maxL := 4) (ret := (some .int)) (by decide) rfl ?_
  intro p e s m args below meth cod s₁ B hml htab hv
  obtain ⟨rfl, hsz, hP, hK, hZ⟩ := hv
  have hx := B.exec
  have hb := B.bytes
  have hr := B.returns
  have hts := atoms_spec (ws := wsX9_ahead) B.pre
  have hown : s.vm.findClass RX9 = some m.cls := findClass_of_methodNamed B.named
  have hlocks := B.notSynchronized
  subst hsz
  have hl := lv_entry ([.ref (ad t), .int a1, .int a2]) (n := 4) (Nat.le_of_ble_eq_true rfl)
  rw [lg_entry_eq]
  generalize (lg_sl ([.ref (ad t), .int a1, .int a2]) ++ List.replicate (4 - (lg_sl ([.ref (ad t), .int a1, .int a2])).length) Slot.unset).toArray = ls at hl ⊢
  have hl : lv_has ls 4 [(0, .ref (ad t)), (1, .int a1), (2, .int a2)] := hl
  generalize hargs : ([.ref (ad t), .int a1, .int a2] : List Value).toArray = args at *
  generalize hAe : gA ad N s.heap.size = A
  have F : gF sa D ad cy N A p s m args cod cX9_ahead 4 wsX9_ahead RX9 := ⟨hx, hb, hml, hown, hts, hK, hI, by rw [← hAe]; exact gA_ad, by rw [← hAe]; exact gA_sz, by rw [← hAe]; exact hZ⟩
  have G : gW D ad cy N A s.heap c d0 s.heap [] := ⟨hP, va_S.rf⟩
  generalize hQ : vx_MQ below (va_Qi (fun (_ : Int32) (_ : Unit) => False) (fun _ _ => True) A) (vx_X (fun (_ : Unit) => True) (fun E _ U => E = gxn kZ ∧ gE D ad cy N cZ d0 U) A) args s 1 6 A = Q
  suffices hgen : ∀ (H : Heap) (locs : List Loc), gW D ad cy N A s.heap c d0 H locs → W p l e rxX9_ahead s m args below meth cod H locs 0 0 Q (F0 m 0 ls []) from hgen _ _ G
  clear G
  intro H locs G
  unfold m_X9_ahead at h
  refine lv_aload_n hx hb dX9_ahead_0 rfl (lv_at hl 0 rfl) ?_
  refine lv_iload_n hx hb dX9_ahead_1 rfl (lv_at hl 1 rfl) ?_
  obtain ⟨K2, eK2, h⟩ := gj_s h
  have JK2 : ∀ (v1 : Int32) (H : Heap) (locs : List Loc) (ls : Array Slot), K2 v1 = some (.inr (kZ, cZ)) → gW D ad cy N A s.heap c d0 H locs → lv_has ls 4 [(0, .ref (ad t)), (1, .int a1), (2, .int a2)] → W p l e rxX9_ahead s m args below meth cod H locs 0 0 Q (F0 m 25 ls [.int v1, .ref (ad t)]) := by
    intro v1 H locs ls h G hl
    rw [eK2] at h
    obtain ⟨hk3, h⟩ := gc_s h
    have ht4 : t < N := Nat.lt_of_lt_of_le (gck_lt9 hk3) hN
    rcases gbx_x h with hc5 | ⟨c7, hc5, h⟩
    · exact hQ ▸ gx_xv F G htab hlocks (vx_runV (As := [.int v1]) (rest := []) (gx_fix F) (cx_X9_demand l hlt sa D ad cy N H.size hN hI c d0 hc5) (cwV 1 hts gX9_ahead_X9_demand rfl rfl rfl (by decide +kernel) ⟨by decide, by decide⟩) (gx_rec F G ht4 (gwe_9 hk3) rfl) rfl rfl hl.1 rfl (lv_room (Nat.le_of_ble_eq_true rfl)) dX9_ahead_25 ⟨by decide, by decide⟩)
    · skip
      refine gx_callv F G (va_runV (As := [.int v1]) (rest := []) (gx_fix F) (c_X9_demand l sa D ad cy N H.size hN hI c d0 hc5) (cwV 1 hts gX9_ahead_X9_demand rfl rfl rfl (by decide +kernel) ⟨by decide, by decide⟩) (gx_rec F G ht4 (gwe_9 hk3) rfl) rfl rfl hl.1 rfl (lv_room (Nat.le_of_ble_eq_true rfl)) dX9_ahead_25 ⟨Nat.zero_le _, Nat.zero_le _⟩) (fun H locs G => ?_)
      exact (gok_no h).elim
  obtain ⟨K8, eK8, h⟩ := gj_s h
  have JK8 : ∀ (H : Heap) (locs : List Loc) (ls : Array Slot), K8 () = some (.inr (kZ, cZ)) → gW D ad cy N A s.heap c d0 H locs → lv_has ls 4 [(0, .ref (ad t)), (1, .int a1), (2, .int a2)] → W p l e rxX9_ahead s m args below meth cod H locs 0 0 Q (F0 m 24 ls [.ref (ad t)]) := by
    intro  H locs ls h G hl
    rw [eK8] at h
    refine lv_iconst (v := 0) hx hb dX9_ahead_24 (by decide) ?_
    exact JK2 _ _ _ _ h G hl
  refine lv_if_lt (tgt := 24) hx hb dX9_ahead_2 (by decide) (fun q9 => ?_) (fun q9 => ?_)
  · replace h := gt_s q9 h
    exact JK8  _ _ _ h G hl
  · replace h := gf_s q9 h
    refine lv_iload_n hx hb dX9_ahead_5 rfl (lv_at hl 1 rfl) ?_
    refine lv_bipush (v := 99) hx hb dX9_ahead_6 (by decide) ?_
    refine lv_icmp_gt (tgt := 24) hx hb dX9_ahead_8 (by decide) (fun q10 => ?_) (fun q10 => ?_)
    · replace h := gt_s q10 h
      exact JK8  _ _ _ h G hl
    · replace h := gf_s q10 h
      refine lv_iload_n hx hb dX9_ahead_11 rfl (lv_at hl 2 rfl) ?_
      refine lv_if_lt (tgt := 24) hx hb dX9_ahead_12 (by decide) (fun q11 => ?_) (fun q11 => ?_)
      · replace h := gt_s q11 h
        exact JK8  _ _ _ h G hl
      · replace h := gf_s q11 h
        refine lv_iload_n hx hb dX9_ahead_15 rfl (lv_at hl 2 rfl) ?_
        refine lv_iconst (v := 2) hx hb dX9_ahead_16 (by decide) ?_
        refine lv_icmp_gt (tgt := 24) hx hb dX9_ahead_17 (by decide) (fun q12 => ?_) (fun q12 => ?_)
        · replace h := gt_s q12 h
          exact JK8  _ _ _ h G hl
        · replace h := gf_s q12 h
          refine lv_iconst (v := 1) hx hb dX9_ahead_20 (by decide) ?_
          refine lv_goto (tgt := 25) hx hb dX9_ahead_21 (by decide) ?_
          exact JK2 _ _ _ _ h G hl
def m_X9_isPart (a1 : Int32) : Option (Int32) :=
  (if a1 = 0 then some 1 else (if a1 = 1 then some 1 else some 0))
abbrev rmX9_isPart : Room := { frames := 0, cells := 0, slots := 0, locals := 0 }
set_option maxHeartbeats 4000000 in
set_option maxRecDepth 100000 in
theorem c_X9_isPart (l : Launch) (sa : gSa) (D : va_G) (ad : Nat → Nat) (cy : Nat → ClassId) (N sz : Nat) (hN : 55 ≤ N) (hI : gI ad N) (c d0 : gm) {a1 : Int32} {rZ : Int32} (h : m_X9_isPart a1 = some rZ) : Met l yX9_isPart wsX9_isPart rmX9_isPart (va_Pc [.int a1] (gP sa D ad cy N sz c d0)) (va_Qi (fun (z : Int32) (_ : Unit) => z = rZ) (fun _ U => gE D ad cy N c d0 U) (gA ad N sz)) 0 0 (gA ad N sz) := by
  refine Met.ofW (cc := cX9_isPart) (maxL := 1) (ret := (some .boolean)) (by decide) rfl ?_
  intro p e s m args below meth cod s₁ B hml hv
  obtain ⟨rfl, hsz, hP, hK, hZ⟩ := hv
  have hx := B.exec
  have hb := B.bytes
  have hr := B.returns
  have hts := atoms_spec (ws := wsX9_isPart) B.pre
  have hown : s.vm.findClass RX9 = some m.cls := findClass_of_methodNamed B.named
  have hlocks := B.notSynchronized
  subst hsz
  have hl := lv_entry ([.int a1]) (n := 1) (Nat.le_of_ble_eq_true rfl)
  rw [lg_entry_eq]
  generalize (lg_sl ([.int a1]) ++ List.replicate (1 - (lg_sl ([.int a1])).length) Slot.unset).toArray = ls at hl ⊢
  have hl : lv_has ls 1 [(0, .int a1)] := hl
  generalize hargs : ([.int a1] : List Value).toArray = args at *
  generalize hAe : gA ad N s.heap.size = A
  have F : gF sa D ad cy N A p s m args cod cX9_isPart 1 wsX9_isPart RX9 := ⟨hx, hb, hml, hown, hts, hK, hI, by rw [← hAe]; exact gA_ad, by rw [← hAe]; exact gA_sz, by rw [← hAe]; exact hZ⟩
  have G : gW D ad cy N A s.heap c d0 s.heap [] := ⟨hP, va_S.rf⟩
  generalize hQ : MQ below (va_Qi (fun (z : Int32) (_ : Unit) => z = rZ) (fun _ U => gE D ad cy N c d0 U) A) args s 0 0 A = Q
  suffices hgen : ∀ (H : Heap) (locs : List Loc), gW D ad cy N A s.heap c d0 H locs → W p l e rmX9_isPart s m args below meth cod H locs 0 0 Q (F0 m 0 ls []) from hgen _ _ G
  clear G
  intro H locs G
  unfold m_X9_isPart at h
  refine lv_iload_n hx hb dX9_isPart_0 rfl (lv_at hl 0 rfl) ?_
  refine lv_if_eq (tgt := 9) hx hb dX9_isPart_1 (by decide) (fun q1 => ?_) (fun q1 => ?_)
  · replace h := gt_s q1 h
    refine lv_iconst (v := 1) hx hb dX9_isPart_9 (by decide) ?_
    refine lv_goto (tgt := 14) hx hb dX9_isPart_10 (by decide) ?_
    cases h
    rw [← hQ]
    exact gx_zret F G hr hlocks rfl dX9_isPart_14
  · replace h := gf_s q1 h
    refine lv_iload_n hx hb dX9_isPart_4 rfl (lv_at hl 0 rfl) ?_
    refine lv_iconst (v := 1) hx hb dX9_isPart_5 (by decide) ?_
    refine lv_icmp_ne (tgt := 13) hx hb dX9_isPart_6 (by decide) (fun q2 => ?_) (fun q2 => ?_)
    · replace h := gf_s q2 h
      refine lv_iconst (v := 0) hx hb dX9_isPart_13 (by decide) ?_
      cases h
      rw [← hQ]
      exact gx_zret F G hr hlocks rfl dX9_isPart_14
    · replace h := gt_s q2 h
      refine lv_iconst (v := 1) hx hb dX9_isPart_9 (by decide) ?_
      refine lv_goto (tgt := 14) hx hb dX9_isPart_10 (by decide) ?_
      cases h
      rw [← hQ]
      exact gx_zret F G hr hlocks rfl dX9_isPart_14
def m_X9_worth (n : Nat) (t : Nat) (a1 : Int32) (a2 : Int32) (a3 : Int32) (c : gm) : Option ((Int64 × gm) ⊕ (Nat × gm)) :=
  gc (gck t = 9) (gbx (m_X9_demandThing t a1 c) (fun (c5 : gm) => gbx (m_X9_demandThing t a2 c5) (fun (c8 : gm) => gj (fun (v9 : Int32) => gbx (m_X9_demand t v9 c8) (fun (c13 : gm) => gok (gb (m_X1_seekChain n 21 3 a1 a2 c13) (fun (c20 : gm) => gb (m_X1_bestPart n 21 a3 c20) (fun (r22 : Int64) => some (r22, c20)))))) (fun K10 => gj (fun (_ : Unit) => K10 0) (fun K23 => (if a1 = a2 then K23 () else gb (m_X9_isPart a3) (fun (r26 : Int32) => (if r26 = 0 then K23 () else K10 1))))))))
abbrev rmX9_worth : Room := { frames := 16, cells := 0, slots := 0, locals := 544 }
abbrev rxX9_worth : Room := { frames := 16, cells := 1, slots := 6, locals := 544 }
set_option maxHeartbeats 4000000 in
set_option maxRecDepth 100000 in
theorem c_X9_worth (l : Launch) (sa : gSa) (D : va_G) (ad : Nat → Nat) (cy : Nat → ClassId) (N sz : Nat) (hN : 55 ≤ N) (hI : gI ad N) (c d0 : gm) {n : Nat} {t : Nat} {a1 : Int32} {a2 : Int32} {a3 : Int32} {rZ : Int64} {cZ : gm} (h : m_X9_worth n t a1 a2 a3 c = some (.inl (rZ, cZ))) : Met l yX9_worth wsX9_worth rmX9_worth (va_Pc [.ref (ad t), .int a1, .int a2, .int a3] (gP sa D ad cy N sz c d0)) (va_Ql (fun (z : Int64) (_ : Unit) => z = rZ) (fun _ U => gE D ad cy N cZ d0 U) (gA ad N sz)) 0 0 (gA ad N sz) := by
  refine Met.ofW (cc := cX9_worth) (maxL := 4) (ret := (some .long)) (by decide) rfl ?_
  intro p e s m args below meth cod s₁ B hml hv
  obtain ⟨rfl, hsz, hP, hK, hZ⟩ := hv
  have hx := B.exec
  have hb := B.bytes
  have hr := B.returns
  have hts := atoms_spec (ws := wsX9_worth) B.pre
  have hown : s.vm.findClass RX9 = some m.cls := findClass_of_methodNamed B.named
  have hlocks := B.notSynchronized
  subst hsz
  have hl := lv_entry ([.ref (ad t), .int a1, .int a2, .int a3]) (n := 4) (Nat.le_of_ble_eq_true rfl)
  rw [lg_entry_eq]
  generalize (lg_sl ([.ref (ad t), .int a1, .int a2, .int a3]) ++ List.replicate (4 - (lg_sl ([.ref (ad t), .int a1, .int a2, .int a3])).length) Slot.unset).toArray = ls at hl ⊢
  have hl : lv_has ls 4 [(0, .ref (ad t)), (1, .int a1), (2, .int a2), (3, .int a3)] := hl
  have in9 : ∀ w ∈ wsX90, w ∈ wsX9_worth := by decide +kernel
  generalize hargs : ([.ref (ad t), .int a1, .int a2, .int a3] : List Value).toArray = args at *
  generalize hAe : gA ad N s.heap.size = A
  have F : gF sa D ad cy N A p s m args cod cX9_worth 4 wsX9_worth RX9 := ⟨hx, hb, hml, hown, hts, hK, hI, by rw [← hAe]; exact gA_ad, by rw [← hAe]; exact gA_sz, by rw [← hAe]; exact hZ⟩
  have G : gW D ad cy N A s.heap c d0 s.heap [] := ⟨hP, va_S.rf⟩
  generalize hQ : MQ below (va_Ql (fun (z : Int64) (_ : Unit) => z = rZ) (fun _ U => gE D ad cy N cZ d0 U) A) args s 0 0 A = Q
  suffices hgen : ∀ (H : Heap) (locs : List Loc), gW D ad cy N A s.heap c d0 H locs → W p l e rmX9_worth s m args below meth cod H locs 0 0 Q (F0 m 0 ls []) from hgen _ _ G
  clear G
  intro H locs G
  unfold m_X9_worth at h
  refine lv_aload_n hx hb dX9_worth_0 rfl (lv_at hl 0 rfl) ?_
  refine lv_iload_n hx hb dX9_worth_1 rfl (lv_at hl 1 rfl) ?_
  obtain ⟨hk1, h⟩ := gc_s h
  have ht2 : t < N := Nat.lt_of_lt_of_le (gck_lt9 hk1) hN
  obtain ⟨c5, hc3, h⟩ := gbx_l h
  refine gx_callv F G (va_runV (As := [.int a1]) (rest := []) (gx_fix F) (c_X9_demandThing l sa D ad cy N H.size hN hI c d0 hc3) (cwV 1 hts gX9_worth_X9_demandThing rfl rfl rfl (by decide +kernel) ⟨by decide, by decide⟩) (gx_rec F G ht2 (gwe_9 hk1) rfl) rfl rfl hl.1 rfl (lv_room (Nat.le_of_ble_eq_true rfl)) dX9_worth_2 ⟨Nat.zero_le _, Nat.zero_le _⟩) (fun H locs G => ?_)
  refine lv_aload_n hx hb dX9_worth_5 rfl (lv_at hl 0 rfl) ?_
  refine lv_iload_n hx hb dX9_worth_6 rfl (lv_at hl 2 rfl) ?_
  obtain ⟨c8, hc6, h⟩ := gbx_l h
  refine gx_callv F G (va_runV (As := [.int a2]) (rest := []) (gx_fix F) (c_X9_demandThing l sa D ad cy N H.size hN hI c5 d0 hc6) (cwV 1 hts gX9_worth_X9_demandThing rfl rfl rfl (by decide +kernel) ⟨by decide, by decide⟩) (gx_rec F G ht2 (gwe_9 hk1) rfl) rfl rfl hl.1 rfl (lv_room (Nat.le_of_ble_eq_true rfl)) dX9_worth_7 ⟨Nat.zero_le _, Nat.zero_le _⟩) (fun H locs G => ?_)
  refine lv_aload_n hx hb dX9_worth_10 rfl (lv_at hl 0 rfl) ?_
  refine lv_iload_n hx hb dX9_worth_11 rfl (lv_at hl 1 rfl) ?_
  refine lv_iload_n hx hb dX9_worth_12 rfl (lv_at hl 2 rfl) ?_
  obtain ⟨K10, eK10, h⟩ := gj_s h
  have JK10 : ∀ (v9 : Int32) (H : Heap) (locs : List Loc) (ls : Array Slot), K10 v9 = some (.inl (rZ, cZ)) → gW D ad cy N A s.heap c8 d0 H locs → lv_has ls 4 [(0, .ref (ad t)), (1, .int a1), (2, .int a2), (3, .int a3)] → W p l e rmX9_worth s m args below meth cod H locs 0 0 Q (F0 m 28 ls [.int v9, .ref (ad t)]) := by
    intro v9 H locs ls h G hl
    rw [eK10] at h
    obtain ⟨c13, hc11, h⟩ := gbx_l h
    refine gx_callv F G (va_runV (As := [.int v9]) (rest := []) (gx_fix F) (c_X9_demand l sa D ad cy N H.size hN hI c8 d0 hc11) (cwV 1 hts gX9_worth_X9_demand rfl rfl rfl (by decide +kernel) ⟨by decide, by decide⟩) (gx_rec F G ht2 (gwe_9 hk1) rfl) rfl rfl hl.1 rfl (lv_room (Nat.le_of_ble_eq_true rfl)) dX9_worth_28 ⟨Nat.zero_le _, Nat.zero_le _⟩) (fun H locs G => ?_)
    replace h := gok_s h
    refine lv_aload_n hx hb dX9_worth_31 rfl (lv_at hl 0 rfl) ?_
    refine fg_9_chains F G hk1 ht2 in9 (by decide +kernel) dX9_worth_32 ?_
    have hk14 : gck 21 = 1 := rfl
    have ht15 : 21 < N := Nat.lt_of_lt_of_le (by decide) hN
    refine lv_aload_n hx hb dX9_worth_35 rfl (lv_at hl 0 rfl) ?_
    refine fg_9_now F G hk1 ht2 in9 (by decide +kernel) dX9_worth_36 ?_
    have hk16 : gck 3 = 6 := rfl
    have ht17 : 3 < N := Nat.lt_of_lt_of_le (by decide) hN
    refine lv_iload_n hx hb dX9_worth_39 rfl (lv_at hl 1 rfl) ?_
    refine lv_iload_n hx hb dX9_worth_40 rfl (lv_at hl 2 rfl) ?_
    obtain ⟨c20, hc18, h⟩ := gb_s h
    refine gx_callv F G (va_runV (As := [.ref (ad 3), .int a1, .int a2]) (rest := []) (gx_fix F) (c_X1_seekChain l sa D ad cy N H.size hN hI c13 d0 hc18) (cwV 3 hts gX9_worth_X1_seekChain rfl rfl rfl (by decide +kernel) ⟨by decide, by decide⟩) (gx_rec F G ht15 (gwe_1 hk14) rfl) rfl rfl hl.1 rfl (lv_room (Nat.le_of_ble_eq_true rfl)) dX9_worth_41 ⟨Nat.zero_le _, Nat.zero_le _⟩) (fun H locs G => ?_)
    refine lv_aload_n hx hb dX9_worth_44 rfl (lv_at hl 0 rfl) ?_
    refine fg_9_chains F G hk1 ht2 in9 (by decide +kernel) dX9_worth_45 ?_
    refine lv_iload_n hx hb dX9_worth_48 rfl (lv_at hl 3 rfl) ?_
    obtain ⟨r22, hc21, h⟩ := gb_s h
    refine gx_calll F G (va_runV (As := [.int a3]) (rest := []) (gx_fix F) (c_X1_bestPart l sa D ad cy N H.size hN hI c20 d0 hc21) (cwV 1 hts gX9_worth_X1_bestPart rfl rfl rfl (by decide +kernel) ⟨by decide, by decide⟩) (gx_rec F G ht15 (gwe_1 hk14) rfl) rfl rfl hl.1 rfl (lv_room (Nat.le_of_ble_eq_true rfl)) dX9_worth_49 ⟨Nat.zero_le _, Nat.zero_le _⟩) (fun H locs G => ?_)
    cases h
    rw [← hQ]
    exact gx_lret F G hr hlocks dX9_worth_52
  obtain ⟨K23, eK23, h⟩ := gj_s h
  have JK23 : ∀ (H : Heap) (locs : List Loc) (ls : Array Slot), K23 () = some (.inl (rZ, cZ)) → gW D ad cy N A s.heap c8 d0 H locs → lv_has ls 4 [(0, .ref (ad t)), (1, .int a1), (2, .int a2), (3, .int a3)] → W p l e rmX9_worth s m args below meth cod H locs 0 0 Q (F0 m 27 ls [.ref (ad t)]) := by
    intro  H locs ls h G hl
    rw [eK23] at h
    refine lv_iconst (v := 0) hx hb dX9_worth_27 (by decide) ?_
    exact JK10 _ _ _ _ h G hl
  refine lv_icmp_eq (tgt := 27) hx hb dX9_worth_13 (by decide) (fun q24 => ?_) (fun q24 => ?_)
  · replace h := gt_s q24 h
    exact JK23  _ _ _ h G hl
  · replace h := gf_s q24 h
    refine lv_iload_n hx hb dX9_worth_16 rfl (lv_at hl 3 rfl) ?_
    obtain ⟨r26, hc25, h⟩ := gb_s h
    refine gx_calli F G (va_runS (As := [.int a3]) (rest := [.ref (ad t)]) (gx_fix F) (c_X9_isPart l sa D ad cy N H.size hN hI c8 d0 hc25) (va_cwS 1 hts gX9_worth_X9_isPart rfl rfl rfl (by decide +kernel) ⟨by decide, by decide⟩) (gx_pre F G) rfl rfl hl.1 rfl (lv_room (Nat.le_of_ble_eq_true rfl)) dX9_worth_17 ⟨Nat.zero_le _, Nat.zero_le _⟩) (fun H locs G => ?_)
    refine lv_if_eq (tgt := 27) hx hb dX9_worth_20 (by decide) (fun q27 => ?_) (fun q27 => ?_)
    · replace h := gt_s q27 h
      exact JK23  _ _ _ h G hl
    · replace h := gf_s q27 h
      refine lv_iconst (v := 1) hx hb dX9_worth_23 (by decide) ?_
      refine lv_goto (tgt := 28) hx hb dX9_worth_24 (by decide) ?_
      exact JK10 _ _ _ _ h G hl
set_option maxHeartbeats 4000000 in
set_option maxRecDepth 100000 in
theorem cx_X9_worth (l : Launch) (hlt : l.stackTraces = false) (sa : gSa) (D : va_G) (ad : Nat → Nat) (cy : Nat → ClassId) (N sz : Nat) (hN : 55 ≤ N) (hI : gI ad N) (c d0 : gm) {n : Nat} {t : Nat} {a1 : Int32} {a2 : Int32} {a3 : Int32} {kZ : Nat} {cZ : gm} (h : m_X9_worth n t a1 a2 a3 c = some (.inr (kZ, cZ))) : vx_Met l yX9_worth wsX9_worth rxX9_worth (va_Pc [.ref (ad t), .int a1, .int a2, .int a3] (gP sa D ad cy N sz c d0)) (va_Ql (fun (_ : Int64) (_ : Unit) => False) (fun _ _ => True) (gA ad N sz)) (vx_X (fun (_ : Unit) => True) (fun E _ U => E = gxn kZ ∧ gE D ad cy N cZ d0 U) (gA ad N sz)) 1 6 (gA ad N sz) := by
  refine vx_ofW (cc := cX9_worth) (maxL := 4) (ret := (some .long)) (by decide) rfl ?_
  intro p e s m args below meth cod s₁ B hml htab hv
  obtain ⟨rfl, hsz, hP, hK, hZ⟩ := hv
  have hx := B.exec
  have hb := B.bytes
  have hr := B.returns
  have hts := atoms_spec (ws := wsX9_worth) B.pre
  have hown : s.vm.findClass RX9 = some m.cls := findClass_of_methodNamed B.named
  have hlocks := B.notSynchronized
  subst hsz
  have hl := lv_entry ([.ref (ad t), .int a1, .int a2, .int a3]) (n := 4) (Nat.le_of_ble_eq_true rfl)
  rw [lg_entry_eq]
  generalize (lg_sl ([.ref (ad t), .int a1, .int a2, .int a3]) ++ List.replicate (4 - (lg_sl ([.ref (ad t), .int a1, .int a2, .int a3])).length) Slot.unset).toArray = ls at hl ⊢
  have hl : lv_has ls 4 [(0, .ref (ad t)), (1, .int a1), (2, .int a2), (3, .int a3)] := hl
  generalize hargs : ([.ref (ad t), .int a1, .int a2, .int a3] : List Value).toArray = args at *
  generalize hAe : gA ad N s.heap.size = A
  have F : gF sa D ad cy N A p s m args cod cX9_worth 4 wsX9_worth RX9 := ⟨hx, hb, hml, hown, hts, hK, hI, by rw [← hAe]; exact gA_ad, by rw [← hAe]; exact gA_sz, by rw [← hAe]; exact hZ⟩
  have G : gW D ad cy N A s.heap c d0 s.heap [] := ⟨hP, va_S.rf⟩
  generalize hQ : vx_MQ below (va_Ql (fun (_ : Int64) (_ : Unit) => False) (fun _ _ => True) A) (vx_X (fun (_ : Unit) => True) (fun E _ U => E = gxn kZ ∧ gE D ad cy N cZ d0 U) A) args s 1 6 A = Q
  suffices hgen : ∀ (H : Heap) (locs : List Loc), gW D ad cy N A s.heap c d0 H locs → W p l e rxX9_worth s m args below meth cod H locs 0 0 Q (F0 m 0 ls []) from hgen _ _ G
  clear G
  intro H locs G
  unfold m_X9_worth at h
  refine lv_aload_n hx hb dX9_worth_0 rfl (lv_at hl 0 rfl) ?_
  refine lv_iload_n hx hb dX9_worth_1 rfl (lv_at hl 1 rfl) ?_
  obtain ⟨hk1, h⟩ := gc_s h
  have ht2 : t < N := Nat.lt_of_lt_of_le (gck_lt9 hk1) hN
  rcases gbx_x h with hc3 | ⟨c5, hc3, h⟩
  · exact hQ ▸ gx_xv F G htab hlocks (vx_runV (As := [.int a1]) (rest := []) (gx_fix F) (cx_X9_demandThing l hlt sa D ad cy N H.size hN hI c d0 hc3) (cwV 1 hts gX9_worth_X9_demandThing rfl rfl rfl (by decide +kernel) ⟨by decide, by decide⟩) (gx_rec F G ht2 (gwe_9 hk1) rfl) rfl rfl hl.1 rfl (lv_room (Nat.le_of_ble_eq_true rfl)) dX9_worth_2 ⟨by decide, by decide⟩)
  · skip
    refine gx_callv F G (va_runV (As := [.int a1]) (rest := []) (gx_fix F) (c_X9_demandThing l sa D ad cy N H.size hN hI c d0 hc3) (cwV 1 hts gX9_worth_X9_demandThing rfl rfl rfl (by decide +kernel) ⟨by decide, by decide⟩) (gx_rec F G ht2 (gwe_9 hk1) rfl) rfl rfl hl.1 rfl (lv_room (Nat.le_of_ble_eq_true rfl)) dX9_worth_2 ⟨Nat.zero_le _, Nat.zero_le _⟩) (fun H locs G => ?_)
    refine lv_aload_n hx hb dX9_worth_5 rfl (lv_at hl 0 rfl) ?_
    refine lv_iload_n hx hb dX9_worth_6 rfl (lv_at hl 2 rfl) ?_
    rcases gbx_x h with hc6 | ⟨c8, hc6, h⟩
    · exact hQ ▸ gx_xv F G htab hlocks (vx_runV (As := [.int a2]) (rest := []) (gx_fix F) (cx_X9_demandThing l hlt sa D ad cy N H.size hN hI c5 d0 hc6) (cwV 1 hts gX9_worth_X9_demandThing rfl rfl rfl (by decide +kernel) ⟨by decide, by decide⟩) (gx_rec F G ht2 (gwe_9 hk1) rfl) rfl rfl hl.1 rfl (lv_room (Nat.le_of_ble_eq_true rfl)) dX9_worth_7 ⟨by decide, by decide⟩)
    · skip
      refine gx_callv F G (va_runV (As := [.int a2]) (rest := []) (gx_fix F) (c_X9_demandThing l sa D ad cy N H.size hN hI c5 d0 hc6) (cwV 1 hts gX9_worth_X9_demandThing rfl rfl rfl (by decide +kernel) ⟨by decide, by decide⟩) (gx_rec F G ht2 (gwe_9 hk1) rfl) rfl rfl hl.1 rfl (lv_room (Nat.le_of_ble_eq_true rfl)) dX9_worth_7 ⟨Nat.zero_le _, Nat.zero_le _⟩) (fun H locs G => ?_)
      refine lv_aload_n hx hb dX9_worth_10 rfl (lv_at hl 0 rfl) ?_
      refine lv_iload_n hx hb dX9_worth_11 rfl (lv_at hl 1 rfl) ?_
      refine lv_iload_n hx hb dX9_worth_12 rfl (lv_at hl 2 rfl) ?_
      obtain ⟨K10, eK10, h⟩ := gj_s h
      have JK10 : ∀ (v9 : Int32) (H : Heap) (locs : List Loc) (ls : Array Slot), K10 v9 = some (.inr (kZ, cZ)) → gW D ad cy N A s.heap c8 d0 H locs → lv_has ls 4 [(0, .ref (ad t)), (1, .int a1), (2, .int a2), (3, .int a3)] → W p l e rxX9_worth s m args below meth cod H locs 0 0 Q (F0 m 28 ls [.int v9, .ref (ad t)]) := by
        intro v9 H locs ls h G hl
        rw [eK10] at h
        rcases gbx_x h with hc11 | ⟨c13, hc11, h⟩
        · exact hQ ▸ gx_xv F G htab hlocks (vx_runV (As := [.int v9]) (rest := []) (gx_fix F) (cx_X9_demand l hlt sa D ad cy N H.size hN hI c8 d0 hc11) (cwV 1 hts gX9_worth_X9_demand rfl rfl rfl (by decide +kernel) ⟨by decide, by decide⟩) (gx_rec F G ht2 (gwe_9 hk1) rfl) rfl rfl hl.1 rfl (lv_room (Nat.le_of_ble_eq_true rfl)) dX9_worth_28 ⟨by decide, by decide⟩)
        · skip
          refine gx_callv F G (va_runV (As := [.int v9]) (rest := []) (gx_fix F) (c_X9_demand l sa D ad cy N H.size hN hI c8 d0 hc11) (cwV 1 hts gX9_worth_X9_demand rfl rfl rfl (by decide +kernel) ⟨by decide, by decide⟩) (gx_rec F G ht2 (gwe_9 hk1) rfl) rfl rfl hl.1 rfl (lv_room (Nat.le_of_ble_eq_true rfl)) dX9_worth_28 ⟨Nat.zero_le _, Nat.zero_le _⟩) (fun H locs G => ?_)
          exact (gok_no h).elim
      obtain ⟨K14, eK14, h⟩ := gj_s h
      have JK14 : ∀ (H : Heap) (locs : List Loc) (ls : Array Slot), K14 () = some (.inr (kZ, cZ)) → gW D ad cy N A s.heap c8 d0 H locs → lv_has ls 4 [(0, .ref (ad t)), (1, .int a1), (2, .int a2), (3, .int a3)] → W p l e rxX9_worth s m args below meth cod H locs 0 0 Q (F0 m 27 ls [.ref (ad t)]) := by
        intro  H locs ls h G hl
        rw [eK14] at h
        refine lv_iconst (v := 0) hx hb dX9_worth_27 (by decide) ?_
        exact JK10 _ _ _ _ h G hl
      refine lv_icmp_eq (tgt := 27) hx hb dX9_worth_13 (by decide) (fun q15 => ?_) (fun q15 => ?_)
      · replace h := gt_s q15 h
        exact JK14  _ _ _ h G hl
      · replace h := gf_s q15 h
        refine lv_iload_n hx hb dX9_worth_16 rfl (lv_at hl 3 rfl) ?_
        obtain ⟨r17, hc16, h⟩ := gb_s h
        refine gx_calli F G (va_runS (As := [.int a3]) (rest := [.ref (ad t)]) (gx_fix F) (c_X9_isPart l sa D ad cy N H.size hN hI c8 d0 hc16) (va_cwS 1 hts gX9_worth_X9_isPart rfl rfl rfl (by decide +kernel) ⟨by decide, by decide⟩) (gx_pre F G) rfl rfl hl.1 rfl (lv_room (Nat.le_of_ble_eq_true rfl)) dX9_worth_17 ⟨Nat.zero_le _, Nat.zero_le _⟩) (fun H locs G => ?_)
        refine lv_if_eq (tgt := 27) hx hb dX9_worth_20 (by decide) (fun q18 => ?_) (fun q18 => ?_)
        · replace h := gt_s q18 h
          exact JK14  _ _ _ h G hl
        · replace h := gf_s q18 h
          refine lv_iconst (v := 1) hx hb dX9_worth_23 (by decide) ?_
          refine lv_goto (tgt := 28) hx hb dX9_worth_24 (by decide) ?_
          exact JK10 _ _ _ _ h G hl
def m_X9_fattest (n : Nat) (t : Nat) (a1 : Int32) (c : gm) : Option ((Int64 × gm) ⊕ (Nat × gm)) :=
  gb (m_X9_isPart a1) (fun (r2 : Int32) => gc (gck t = 9) (gbx (m_X9_demand t r2 c) (fun (c7 : gm) => gok (gb (m_X1_seekRings n 21 3 c7) (fun (c14 : gm) => gb (m_X1_bestPart n 21 a1 c14) (fun (r16 : Int64) => some (r16, c14)))))))
abbrev rmX9_fattest : Room := { frames := 16, cells := 0, slots := 0, locals := 543 }
abbrev rxX9_fattest : Room := { frames := 16, cells := 1, slots := 6, locals := 543 }
set_option maxHeartbeats 4000000 in
set_option maxRecDepth 100000 in
theorem c_X9_fattest (l : Launch) (sa : gSa) (D : va_G) (ad : Nat → Nat) (cy : Nat → ClassId) (N sz : Nat) (hN : 55 ≤ N) (hI : gI ad N) (c d0 : gm) {n : Nat} {t : Nat} {a1 : Int32} {rZ : Int64} {cZ : gm} (h : m_X9_fattest n t a1 c = some (.inl (rZ, cZ))) : Met l yX9_fattest wsX9_fattest rmX9_fattest (va_Pc [.ref (ad t), .int a1] (gP sa D ad cy N sz c d0)) (va_Ql (fun (z : Int64) (_ : Unit) => z = rZ) (fun _ U => gE D ad cy N cZ d0 U) (gA ad N sz)) 0 0 (gA ad N sz) := by
  refine Met.ofW (cc := cX9_fattest) (maxL := 2) (ret := (some .long)) (by decide) rfl ?_
  intro p e s m args below meth cod s₁ B hml hv
  obtain ⟨rfl, hsz, hP, hK, hZ⟩ := hv
  have hx := B.exec
  have hb := B.bytes
  have hr := B.returns
  have hts := atoms_spec (ws := wsX9_fattest) B.pre
  have hown : s.vm.findClass RX9 = some m.cls := findClass_of_methodNamed B.named
  have hlocks := B.notSynchronized
  subst hsz
  have hl := lv_entry ([.ref (ad t), .int a1]) (n := 2) (Nat.le_of_ble_eq_true rfl)
  rw [lg_entry_eq]
  generalize (lg_sl ([.ref (ad t), .int a1]) ++ List.replicate (2 - (lg_sl ([.ref (ad t), .int a1])).length) Slot.unset).toArray = ls at hl ⊢
  have hl : lv_has ls 2 [(0, .ref (ad t)), (1, .int a1)] := hl
  have in9 : ∀ w ∈ wsX90, w ∈ wsX9_fattest := by decide +kernel
  generalize hargs : ([.ref (ad t), .int a1] : List Value).toArray = args at *
  generalize hAe : gA ad N s.heap.size = A
  have F : gF sa D ad cy N A p s m args cod cX9_fattest 2 wsX9_fattest RX9 := ⟨hx, hb, hml, hown, hts, hK, hI, by rw [← hAe]; exact gA_ad, by rw [← hAe]; exact gA_sz, by rw [← hAe]; exact hZ⟩
  have G : gW D ad cy N A s.heap c d0 s.heap [] := ⟨hP, va_S.rf⟩
  generalize hQ : MQ below (va_Ql (fun (z : Int64) (_ : Unit) => z = rZ) (fun _ U => gE D ad cy N cZ d0 U) A) args s 0 0 A = Q
  suffices hgen : ∀ (H : Heap) (locs : List Loc), gW D ad cy N A s.heap c d0 H locs → W p l e rmX9_fattest s m args below meth cod H locs 0 0 Q (F0 m 0 ls []) from hgen _ _ G
  clear G
  intro H locs G
  unfold m_X9_fattest at h
  refine lv_aload_n hx hb dX9_fattest_0 rfl (lv_at hl 0 rfl) ?_
  refine lv_iload_n hx hb dX9_fattest_1 rfl (lv_at hl 1 rfl) ?_
  obtain ⟨r2, hc1, h⟩ := gb_s h
  refine gx_calli F G (va_runS (As := [.int a1]) (rest := [.ref (ad t)]) (gx_fix F) (c_X9_isPart l sa D ad cy N H.size hN hI c d0 hc1) (va_cwS 1 hts gX9_fattest_X9_isPart rfl rfl rfl (by decide +kernel) ⟨by decide, by decide⟩) (gx_pre F G) rfl rfl hl.1 rfl (lv_room (Nat.le_of_ble_eq_true rfl)) dX9_fattest_2 ⟨Nat.zero_le _, Nat.zero_le _⟩) (fun H locs G => ?_)
  obtain ⟨hk3, h⟩ := gc_s h
  have ht4 : t < N := Nat.lt_of_lt_of_le (gck_lt9 hk3) hN
  obtain ⟨c7, hc5, h⟩ := gbx_l h
  refine gx_callv F G (va_runV (As := [.int r2]) (rest := []) (gx_fix F) (c_X9_demand l sa D ad cy N H.size hN hI c d0 hc5) (cwV 1 hts gX9_fattest_X9_demand rfl rfl rfl (by decide +kernel) ⟨by decide, by decide⟩) (gx_rec F G ht4 (gwe_9 hk3) rfl) rfl rfl hl.1 rfl (lv_room (Nat.le_of_ble_eq_true rfl)) dX9_fattest_5 ⟨Nat.zero_le _, Nat.zero_le _⟩) (fun H locs G => ?_)
  replace h := gok_s h
  refine lv_aload_n hx hb dX9_fattest_8 rfl (lv_at hl 0 rfl) ?_
  refine fg_9_chains F G hk3 ht4 in9 (by decide +kernel) dX9_fattest_9 ?_
  have hk8 : gck 21 = 1 := rfl
  have ht9 : 21 < N := Nat.lt_of_lt_of_le (by decide) hN
  refine lv_aload_n hx hb dX9_fattest_12 rfl (lv_at hl 0 rfl) ?_
  refine fg_9_now F G hk3 ht4 in9 (by decide +kernel) dX9_fattest_13 ?_
  have hk10 : gck 3 = 6 := rfl
  have ht11 : 3 < N := Nat.lt_of_lt_of_le (by decide) hN
  obtain ⟨c14, hc12, h⟩ := gb_s h
  refine gx_callv F G (va_runV (As := [.ref (ad 3)]) (rest := []) (gx_fix F) (c_X1_seekRings l sa D ad cy N H.size hN hI c7 d0 hc12) (cwV 1 hts gX9_fattest_X1_seekRings rfl rfl rfl (by decide +kernel) ⟨by decide, by decide⟩) (gx_rec F G ht9 (gwe_1 hk8) rfl) rfl rfl hl.1 rfl (lv_room (Nat.le_of_ble_eq_true rfl)) dX9_fattest_16 ⟨Nat.zero_le _, Nat.zero_le _⟩) (fun H locs G => ?_)
  refine lv_aload_n hx hb dX9_fattest_19 rfl (lv_at hl 0 rfl) ?_
  refine fg_9_chains F G hk3 ht4 in9 (by decide +kernel) dX9_fattest_20 ?_
  refine lv_iload_n hx hb dX9_fattest_23 rfl (lv_at hl 1 rfl) ?_
  obtain ⟨r16, hc15, h⟩ := gb_s h
  refine gx_calll F G (va_runV (As := [.int a1]) (rest := []) (gx_fix F) (c_X1_bestPart l sa D ad cy N H.size hN hI c14 d0 hc15) (cwV 1 hts gX9_fattest_X1_bestPart rfl rfl rfl (by decide +kernel) ⟨by decide, by decide⟩) (gx_rec F G ht9 (gwe_1 hk8) rfl) rfl rfl hl.1 rfl (lv_room (Nat.le_of_ble_eq_true rfl)) dX9_fattest_24 ⟨Nat.zero_le _, Nat.zero_le _⟩) (fun H locs G => ?_)
  cases h
  rw [← hQ]
  exact gx_lret F G hr hlocks dX9_fattest_27
set_option maxHeartbeats 4000000 in
set_option maxRecDepth 100000 in
theorem cx_X9_fattest (l : Launch) (hlt : l.stackTraces = false) (sa : gSa) (D : va_G) (ad : Nat → Nat) (cy : Nat → ClassId) (N sz : Nat) (hN : 55 ≤ N) (hI : gI ad N) (c d0 : gm) {n : Nat} {t : Nat} {a1 : Int32} {kZ : Nat} {cZ : gm} (h : m_X9_fattest n t a1 c = some (.inr (kZ, cZ))) : vx_Met l yX9_fattest wsX9_fattest rxX9_fattest (va_Pc [.ref (ad t), .int a1] (gP sa D ad cy N sz c d0)) (va_Ql (fun (_ : Int64) (_ : Unit) => False) (fun _ _ => True) (gA ad N sz)) (vx_X (fun (_ : Unit) => True) (fun E _ U => E = gxn kZ ∧ gE D ad cy N cZ d0 U) (gA ad N sz)) 1 6 (gA ad N sz) := by
  refine vx_ofW (cc := cX9_fattest) (maxL := 2) (ret := (some .long)) (by decide) rfl ?_
  intro p e s m args below meth cod s₁ B hml htab hv
  obtain ⟨rfl, hsz, hP, hK, hZ⟩ := hv
  have hx := B.exec
  have hb := B.bytes
  have hr := B.returns
  have hts := atoms_spec (ws := wsX9_fattest) B.pre
  have hown : s.vm.findClass RX9 = some m.cls := findClass_of_methodNamed B.named
  have hlocks := B.notSynchronized
  subst hsz
  have hl := lv_entry ([.ref (ad t), .int a1]) (n := 2) (Nat.le_of_ble_eq_true rfl)
  rw [lg_entry_eq]
  generalize (lg_sl ([.ref (ad t), .int a1]) ++ List.replicate (2 - (lg_sl ([.ref (ad t), .int a1])).length) Slot.unset).toArray = ls at hl ⊢
  have hl : lv_has ls 2 [(0, .ref (ad t)), (1, .int a1)] := hl
  generalize hargs : ([.ref (ad t), .int a1] : List Value).toArray = args at *
  generalize hAe : gA ad N s.heap.size = A
  have F : gF sa D ad cy N A p s m args cod cX9_fattest 2 wsX9_fattest RX9 := ⟨hx, hb, hml, hown, hts, hK, hI, by rw [← hAe]; exact gA_ad, by rw [← hAe]; exact gA_sz, by rw [← hAe]; exact hZ⟩
  have G : gW D ad cy N A s.heap c d0 s.heap [] := ⟨hP, va_S.rf⟩
  generalize hQ : vx_MQ below (va_Ql (fun (_ : Int64) (_ : Unit) => False) (fun _ _ => True) A) (vx_X (fun (_ : Unit) => True) (fun E _ U => E = gxn kZ ∧ gE D ad cy N cZ d0 U) A) args s 1 6 A = Q
  suffices hgen : ∀ (H : Heap) (locs : List Loc), gW D ad cy N A s.heap c d0 H locs → W p l e rxX9_fattest s m args below meth cod H locs 0 0 Q (F0 m 0 ls []) from hgen _ _ G
  clear G
  intro H locs G
  unfold m_X9_fattest at h
  refine lv_aload_n hx hb dX9_fattest_0 rfl (lv_at hl 0 rfl) ?_
  refine lv_iload_n hx hb dX9_fattest_1 rfl (lv_at hl 1 rfl) ?_
  obtain ⟨r2, hc1, h⟩ := gb_s h
  refine gx_calli F G (va_runS (As := [.int a1]) (rest := [.ref (ad t)]) (gx_fix F) (c_X9_isPart l sa D ad cy N H.size hN hI c d0 hc1) (va_cwS 1 hts gX9_fattest_X9_isPart rfl rfl rfl (by decide +kernel) ⟨by decide, by decide⟩) (gx_pre F G) rfl rfl hl.1 rfl (lv_room (Nat.le_of_ble_eq_true rfl)) dX9_fattest_2 ⟨Nat.zero_le _, Nat.zero_le _⟩) (fun H locs G => ?_)
  obtain ⟨hk3, h⟩ := gc_s h
  have ht4 : t < N := Nat.lt_of_lt_of_le (gck_lt9 hk3) hN
  rcases gbx_x h with hc5 | ⟨c7, hc5, h⟩
  · exact hQ ▸ gx_xv F G htab hlocks (vx_runV (As := [.int r2]) (rest := []) (gx_fix F) (cx_X9_demand l hlt sa D ad cy N H.size hN hI c d0 hc5) (cwV 1 hts gX9_fattest_X9_demand rfl rfl rfl (by decide +kernel) ⟨by decide, by decide⟩) (gx_rec F G ht4 (gwe_9 hk3) rfl) rfl rfl hl.1 rfl (lv_room (Nat.le_of_ble_eq_true rfl)) dX9_fattest_5 ⟨by decide, by decide⟩)
  · skip
    refine gx_callv F G (va_runV (As := [.int r2]) (rest := []) (gx_fix F) (c_X9_demand l sa D ad cy N H.size hN hI c d0 hc5) (cwV 1 hts gX9_fattest_X9_demand rfl rfl rfl (by decide +kernel) ⟨by decide, by decide⟩) (gx_rec F G ht4 (gwe_9 hk3) rfl) rfl rfl hl.1 rfl (lv_room (Nat.le_of_ble_eq_true rfl)) dX9_fattest_5 ⟨Nat.zero_le _, Nat.zero_le _⟩) (fun H locs G => ?_)
    exact (gok_no h).elim
def m_X9_fat (n : Nat) (t : Nat) (c : gm) : Option (Int32 × gm) :=
  gc (gck t = 9) (gb (m_X1_seekRings n 21 3 c) (fun (c9 : gm) => some ((c9.1 21 2), c9)))
abbrev rmX9_fat : Room := { frames := 16, cells := 0, slots := 0, locals := 543 }
set_option maxHeartbeats 4000000 in
set_option maxRecDepth 100000 in
theorem c_X9_fat (l : Launch) (sa : gSa) (D : va_G) (ad : Nat → Nat) (cy : Nat → ClassId) (N sz : Nat) (hN : 55 ≤ N) (hI : gI ad N) (c d0 : gm) {n : Nat} {t : Nat} {rZ : Int32} {cZ : gm} (h : m_X9_fat n t c = some (rZ, cZ)) : Met l yX9_fat wsX9_fat rmX9_fat (va_Pc [.ref (ad t)] (gP sa D ad cy N sz c d0)) (va_Qi (fun (z : Int32) (_ : Unit) => z = rZ) (fun _ U => gE D ad cy N cZ d0 U) (gA ad N sz)) 0 0 (gA ad N sz) := by
  refine Met.ofW (cc := cX9_fat) (maxL := 1) (ret := (some .int)) (by decide) rfl ?_
  intro p e s m args below meth cod s₁ B hml hv
  obtain ⟨rfl, hsz, hP, hK, hZ⟩ := hv
  have hx := B.exec
  have hb := B.bytes
  have hr := B.returns
  have hts := atoms_spec (ws := wsX9_fat) B.pre
  have hown : s.vm.findClass RX9 = some m.cls := findClass_of_methodNamed B.named
  have hlocks := B.notSynchronized
  subst hsz
  have hl := lv_entry ([.ref (ad t)]) (n := 1) (Nat.le_of_ble_eq_true rfl)
  rw [lg_entry_eq]
  generalize (lg_sl ([.ref (ad t)]) ++ List.replicate (1 - (lg_sl ([.ref (ad t)])).length) Slot.unset).toArray = ls at hl ⊢
  have hl : lv_has ls 1 [(0, .ref (ad t))] := hl
  have in1 : ∀ w ∈ wsX10, w ∈ wsX9_fat := by decide +kernel
  have in9 : ∀ w ∈ wsX90, w ∈ wsX9_fat := by decide +kernel
  generalize hargs : ([.ref (ad t)] : List Value).toArray = args at *
  generalize hAe : gA ad N s.heap.size = A
  have F : gF sa D ad cy N A p s m args cod cX9_fat 1 wsX9_fat RX9 := ⟨hx, hb, hml, hown, hts, hK, hI, by rw [← hAe]; exact gA_ad, by rw [← hAe]; exact gA_sz, by rw [← hAe]; exact hZ⟩
  have G : gW D ad cy N A s.heap c d0 s.heap [] := ⟨hP, va_S.rf⟩
  generalize hQ : MQ below (va_Qi (fun (z : Int32) (_ : Unit) => z = rZ) (fun _ U => gE D ad cy N cZ d0 U) A) args s 0 0 A = Q
  suffices hgen : ∀ (H : Heap) (locs : List Loc), gW D ad cy N A s.heap c d0 H locs → W p l e rmX9_fat s m args below meth cod H locs 0 0 Q (F0 m 0 ls []) from hgen _ _ G
  clear G
  intro H locs G
  unfold m_X9_fat at h
  refine lv_aload_n hx hb dX9_fat_0 rfl (lv_at hl 0 rfl) ?_
  obtain ⟨hk1, h⟩ := gc_s h
  have ht2 : t < N := Nat.lt_of_lt_of_le (gck_lt9 hk1) hN
  refine fg_9_chains F G hk1 ht2 in9 (by decide +kernel) dX9_fat_1 ?_
  have hk3 : gck 21 = 1 := rfl
  have ht4 : 21 < N := Nat.lt_of_lt_of_le (by decide) hN
  refine lv_aload_n hx hb dX9_fat_4 rfl (lv_at hl 0 rfl) ?_
  refine fg_9_now F G hk1 ht2 in9 (by decide +kernel) dX9_fat_5 ?_
  have hk5 : gck 3 = 6 := rfl
  have ht6 : 3 < N := Nat.lt_of_lt_of_le (by decide) hN
  obtain ⟨c9, hc7, h⟩ := gb_s h
  refine gx_callv F G (va_runV (As := [.ref (ad 3)]) (rest := []) (gx_fix F) (c_X1_seekRings l sa D ad cy N H.size hN hI c d0 hc7) (cwV 1 hts gX9_fat_X1_seekRings rfl rfl rfl (by decide +kernel) ⟨by decide, by decide⟩) (gx_rec F G ht4 (gwe_1 hk3) rfl) rfl rfl hl.1 rfl (lv_room (Nat.le_of_ble_eq_true rfl)) dX9_fat_8 ⟨Nat.zero_le _, Nat.zero_le _⟩) (fun H locs G => ?_)
  refine lv_aload_n hx hb dX9_fat_11 rfl (lv_at hl 0 rfl) ?_
  refine fg_9_chains F G hk1 ht2 in9 (by decide +kernel) dX9_fat_12 ?_
  refine fg_1_shortestFat F G hk3 ht4 in1 (by decide +kernel) dX9_fat_15 ?_
  cases h
  rw [← hQ]
  exact gx_iret F G hr hlocks dX9_fat_18
def m_X9_mend (n : Nat) (t : Nat) (c : gm) : Option (Int32 × gm) :=
  gc (gck t = 9) (gb (m_X1_seekRings n 21 3 c) (fun (c9 : gm) => gb (m_X1_fewestGone n 21 (c9.1 3 6) c9) (fun (r11 : Int32) => some (r11, c9))))
abbrev rmX9_mend : Room := { frames := 16, cells := 0, slots := 0, locals := 543 }
set_option maxHeartbeats 4000000 in
set_option maxRecDepth 100000 in
theorem c_X9_mend (l : Launch) (sa : gSa) (D : va_G) (ad : Nat → Nat) (cy : Nat → ClassId) (N sz : Nat) (hN : 55 ≤ N) (hI : gI ad N) (c d0 : gm) {n : Nat} {t : Nat} {rZ : Int32} {cZ : gm} (h : m_X9_mend n t c = some (rZ, cZ)) : Met l yX9_mend wsX9_mend rmX9_mend (va_Pc [.ref (ad t)] (gP sa D ad cy N sz c d0)) (va_Qi (fun (z : Int32) (_ : Unit) => z = rZ) (fun _ U => gE D ad cy N cZ d0 U) (gA ad N sz)) 0 0 (gA ad N sz) := by
  refine Met.ofW (cc := cX9_mend) (maxL := 1) (ret := (some .int)) (by decide) rfl ?_
  intro p e s m args below meth cod s₁ B hml hv
  obtain ⟨rfl, hsz, hP, hK, hZ⟩ := hv
  have hx := B.exec
  have hb := B.bytes
  have hr := B.returns
  have hts := atoms_spec (ws := wsX9_mend) B.pre
  have hown : s.vm.findClass RX9 = some m.cls := findClass_of_methodNamed B.named
  have hlocks := B.notSynchronized
  subst hsz
  have hl := lv_entry ([.ref (ad t)]) (n := 1) (Nat.le_of_ble_eq_true rfl)
  rw [lg_entry_eq]
  generalize (lg_sl ([.ref (ad t)]) ++ List.replicate (1 - (lg_sl ([.ref (ad t)])).length) Slot.unset).toArray = ls at hl ⊢
  have hl : lv_has ls 1 [(0, .ref (ad t))] := hl
  have in6 : ∀ w ∈ wsX60, w ∈ wsX9_mend := by decide +kernel
  have in9 : ∀ w ∈ wsX90, w ∈ wsX9_mend := by decide +kernel
  generalize hargs : ([.ref (ad t)] : List Value).toArray = args at *
  generalize hAe : gA ad N s.heap.size = A
  have F : gF sa D ad cy N A p s m args cod cX9_mend 1 wsX9_mend RX9 := ⟨hx, hb, hml, hown, hts, hK, hI, by rw [← hAe]; exact gA_ad, by rw [← hAe]; exact gA_sz, by rw [← hAe]; exact hZ⟩
  have G : gW D ad cy N A s.heap c d0 s.heap [] := ⟨hP, va_S.rf⟩
  generalize hQ : MQ below (va_Qi (fun (z : Int32) (_ : Unit) => z = rZ) (fun _ U => gE D ad cy N cZ d0 U) A) args s 0 0 A = Q
  suffices hgen : ∀ (H : Heap) (locs : List Loc), gW D ad cy N A s.heap c d0 H locs → W p l e rmX9_mend s m args below meth cod H locs 0 0 Q (F0 m 0 ls []) from hgen _ _ G
  clear G
  intro H locs G
  unfold m_X9_mend at h
  refine lv_aload_n hx hb dX9_mend_0 rfl (lv_at hl 0 rfl) ?_
  obtain ⟨hk1, h⟩ := gc_s h
  have ht2 : t < N := Nat.lt_of_lt_of_le (gck_lt9 hk1) hN
  refine fg_9_chains F G hk1 ht2 in9 (by decide +kernel) dX9_mend_1 ?_
  have hk3 : gck 21 = 1 := rfl
  have ht4 : 21 < N := Nat.lt_of_lt_of_le (by decide) hN
  refine lv_aload_n hx hb dX9_mend_4 rfl (lv_at hl 0 rfl) ?_
  refine fg_9_now F G hk1 ht2 in9 (by decide +kernel) dX9_mend_5 ?_
  have hk5 : gck 3 = 6 := rfl
  have ht6 : 3 < N := Nat.lt_of_lt_of_le (by decide) hN
  obtain ⟨c9, hc7, h⟩ := gb_s h
  refine gx_callv F G (va_runV (As := [.ref (ad 3)]) (rest := []) (gx_fix F) (c_X1_seekRings l sa D ad cy N H.size hN hI c d0 hc7) (cwV 1 hts gX9_mend_X1_seekRings rfl rfl rfl (by decide +kernel) ⟨by decide, by decide⟩) (gx_rec F G ht4 (gwe_1 hk3) rfl) rfl rfl hl.1 rfl (lv_room (Nat.le_of_ble_eq_true rfl)) dX9_mend_8 ⟨Nat.zero_le _, Nat.zero_le _⟩) (fun H locs G => ?_)
  refine lv_aload_n hx hb dX9_mend_11 rfl (lv_at hl 0 rfl) ?_
  refine fg_9_chains F G hk1 ht2 in9 (by decide +kernel) dX9_mend_12 ?_
  refine lv_aload_n hx hb dX9_mend_15 rfl (lv_at hl 0 rfl) ?_
  refine fg_9_now F G hk1 ht2 in9 (by decide +kernel) dX9_mend_16 ?_
  refine fg_6_cries F G hk5 ht6 in6 (by decide +kernel) dX9_mend_19 ?_
  obtain ⟨r11, hc10, h⟩ := gb_s h
  refine gx_calli F G (va_runV (As := [.int (c9.1 3 6)]) (rest := []) (gx_fix F) (c_X1_fewestGone l sa D ad cy N H.size hN hI c9 d0 hc10) (cwV 1 hts gX9_mend_X1_fewestGone rfl rfl rfl (by decide +kernel) ⟨by decide, by decide⟩) (gx_rec F G ht4 (gwe_1 hk3) rfl) rfl rfl hl.1 rfl (lv_room (Nat.le_of_ble_eq_true rfl)) dX9_mend_22 ⟨Nat.zero_le _, Nat.zero_le _⟩) (fun H locs G => ?_)
  cases h
  rw [← hQ]
  exact gx_iret F G hr hlocks dX9_mend_25
def m_X9_demandBits (t : Nat) (a1 : Int32) (c : gm) : Option ((gm) ⊕ (Nat × gm)) :=
  gj (fun (v1 : Int32) => gc (gck t = 9) (gbx (m_X9_demand t v1 c) (fun (c7 : gm) => gok (some c7)))) (fun K2 => gj (fun (_ : Unit) => K2 0) (fun K8 => (if a1 < 0 then K8 () else gc (gck t = 9) ((if ((1 : Int32) <<< ((c.1 3 5) &&& 31)) ≤ a1 then K8 () else K2 1)))))
abbrev rmX9_demandBits : Room := { frames := 7, cells := 0, slots := 0, locals := 111 }
abbrev rxX9_demandBits : Room := { frames := 7, cells := 1, slots := 6, locals := 111 }
set_option maxHeartbeats 4000000 in
set_option maxRecDepth 100000 in
theorem c_X9_demandBits (l : Launch) (sa : gSa) (D : va_G) (ad : Nat → Nat) (cy : Nat → ClassId) (N sz : Nat) (hN : 55 ≤ N) (hI : gI ad N) (c d0 : gm) {t : Nat} {a1 : Int32} {cZ : gm} (h : m_X9_demandBits t a1 c = some (.inl cZ)) : Met l yX9_demandBits wsX9_demandBits rmX9_demandBits (va_Pc [.ref (ad t), .int a1] (gP sa D ad cy N sz c d0)) (va_Qv (fun (_ : Unit) => True) (fun _ U => gE D ad cy N cZ d0 U) (gA ad N sz)) 0 0 (gA ad N sz) := by
  refine Met.ofW (cc := cX9_demandBits) (maxL := 2) (ret := none) (by decide) rfl ?_
  intro p e s m args below meth cod s₁ B hml hv
  obtain ⟨rfl, hsz, hP, hK, hZ⟩ := hv
  have hx := B.exec
  have hb := B.bytes
  have hr := B.returns
  have hts := atoms_spec (ws := wsX9_demandBits) B.pre
  have hown : s.vm.findClass RX9 = some m.cls := findClass_of_methodNamed B.named
  have hlocks := B.notSynchronized
  subst hsz
  have hl := lv_entry ([.ref (ad t), .int a1]) (n := 2) (Nat.le_of_ble_eq_true rfl)
  rw [lg_entry_eq]
  generalize (lg_sl ([.ref (ad t), .int a1]) ++ List.replicate (2 - (lg_sl ([.ref (ad t), .int a1])).length) Slot.unset).toArray = ls at hl ⊢
  have hl : lv_has ls 2 [(0, .ref (ad t)), (1, .int a1)] := hl
  have in6 : ∀ w ∈ wsX60, w ∈ wsX9_demandBits := by decide +kernel
  have in9 : ∀ w ∈ wsX90, w ∈ wsX9_demandBits := by decide +kernel
  generalize hargs : ([.ref (ad t), .int a1] : List Value).toArray = args at *
  generalize hAe : gA ad N s.heap.size = A
  have F : gF sa D ad cy N A p s m args cod cX9_demandBits 2 wsX9_demandBits RX9 := ⟨hx, hb, hml, hown, hts, hK, hI, by rw [← hAe]; exact gA_ad, by rw [← hAe]; exact gA_sz, by rw [← hAe]; exact hZ⟩
  have G : gW D ad cy N A s.heap c d0 s.heap [] := ⟨hP, va_S.rf⟩
  generalize hQ : MQ below (va_Qv (fun (_ : Unit) => True) (fun _ U => gE D ad cy N cZ d0 U) A) args s 0 0 A = Q
  suffices hgen : ∀ (H : Heap) (locs : List Loc), gW D ad cy N A s.heap c d0 H locs → W p l e rmX9_demandBits s m args below meth cod H locs 0 0 Q (F0 m 0 ls []) from hgen _ _ G
  clear G
  intro H locs G
  unfold m_X9_demandBits at h
  refine lv_aload_n hx hb dX9_demandBits_0 rfl (lv_at hl 0 rfl) ?_
  refine lv_iload_n hx hb dX9_demandBits_1 rfl (lv_at hl 1 rfl) ?_
  obtain ⟨K2, eK2, h⟩ := gj_s h
  have JK2 : ∀ (v1 : Int32) (H : Heap) (locs : List Loc) (ls : Array Slot), K2 v1 = some (.inl cZ) → gW D ad cy N A s.heap c d0 H locs → lv_has ls 2 [] → W p l e rmX9_demandBits s m args below meth cod H locs 0 0 Q (F0 m 23 ls [.int v1, .ref (ad t)]) := by
    intro v1 H locs ls h G hl
    rw [eK2] at h
    obtain ⟨hk3, h⟩ := gc_s h
    have ht4 : t < N := Nat.lt_of_lt_of_le (gck_lt9 hk3) hN
    obtain ⟨c7, hc5, h⟩ := gbx_l h
    refine gx_callv F G (va_runV (As := [.int v1]) (rest := []) (gx_fix F) (c_X9_demand l sa D ad cy N H.size hN hI c d0 hc5) (cwV 1 hts gX9_demandBits_X9_demand rfl rfl rfl (by decide +kernel) ⟨by decide, by decide⟩) (gx_rec F G ht4 (gwe_9 hk3) rfl) rfl rfl hl.1 rfl (lv_room (Nat.le_of_ble_eq_true rfl)) dX9_demandBits_23 ⟨Nat.zero_le _, Nat.zero_le _⟩) (fun H locs G => ?_)
    replace h := gok_s h
    cases h
    rw [← hQ]
    exact gx_vret F G hr hlocks dX9_demandBits_26
  obtain ⟨K8, eK8, h⟩ := gj_s h
  have JK8 : ∀ (H : Heap) (locs : List Loc) (ls : Array Slot), K8 () = some (.inl cZ) → gW D ad cy N A s.heap c d0 H locs → lv_has ls 2 [] → W p l e rmX9_demandBits s m args below meth cod H locs 0 0 Q (F0 m 22 ls [.ref (ad t)]) := by
    intro  H locs ls h G hl
    rw [eK8] at h
    refine lv_iconst (v := 0) hx hb dX9_demandBits_22 (by decide) ?_
    exact JK2 _ _ _ _ h G hl
  refine lv_if_lt (tgt := 22) hx hb dX9_demandBits_2 (by decide) (fun q9 => ?_) (fun q9 => ?_)
  · replace h := gt_s q9 h
    exact JK8  _ _ _ h G (lv_sub hl [] rfl)
  · replace h := gf_s q9 h
    refine lv_iload_n hx hb dX9_demandBits_5 rfl (lv_at hl 1 rfl) ?_
    refine lv_iconst (v := 1) hx hb dX9_demandBits_6 (by decide) ?_
    refine lv_aload_n hx hb dX9_demandBits_7 rfl (lv_at hl 0 rfl) ?_
    obtain ⟨hk10, h⟩ := gc_s h
    have ht11 : t < N := Nat.lt_of_lt_of_le (gck_lt9 hk10) hN
    refine fg_9_now F G hk10 ht11 in9 (by decide +kernel) dX9_demandBits_8 ?_
    have hk12 : gck 3 = 6 := rfl
    have ht13 : 3 < N := Nat.lt_of_lt_of_le (by decide) hN
    refine fg_6_things F G hk12 ht13 in6 (by decide +kernel) dX9_demandBits_11 ?_
    refine lv_ishl hx hb dX9_demandBits_14 ?_
    refine lv_icmp_ge (tgt := 22) hx hb dX9_demandBits_15 (by decide) (fun q14 => ?_) (fun q14 => ?_)
    · replace h := gt_s q14 h
      exact JK8  _ _ _ h G (lv_sub hl [] rfl)
    · replace h := gf_s q14 h
      refine lv_iconst (v := 1) hx hb dX9_demandBits_18 (by decide) ?_
      refine lv_goto (tgt := 23) hx hb dX9_demandBits_19 (by decide) ?_
      exact JK2 _ _ _ _ h G (lv_sub hl [] rfl)
set_option maxHeartbeats 4000000 in
set_option maxRecDepth 100000 in
theorem cx_X9_demandBits (l : Launch) (hlt : l.stackTraces = false) (sa : gSa) (D : va_G) (ad : Nat → Nat) (cy : Nat → ClassId) (N sz : Nat) (hN : 55 ≤ N) (hI : gI ad N) (c d0 : gm) {t : Nat} {a1 : Int32} {kZ : Nat} {cZ : gm} (h : m_X9_demandBits t a1 c = some (.inr (kZ, cZ))) : vx_Met l yX9_demandBits wsX9_demandBits rxX9_demandBits (va_Pc [.ref (ad t), .int a1] (gP sa D ad cy N sz c d0)) (va_Qv (fun (_ : Unit) => False) (fun _ _ => True) (gA ad N sz)) (vx_X (fun (_ : Unit) => True) (fun E _ U => E = gxn kZ ∧ gE D ad cy N cZ d0 U) (gA ad N sz)) 1 6 (gA ad N sz) := by
  refine vx_ofW (cc := cX9_demandBits) (maxL := 2) (ret := none) (by decide) rfl ?_
  intro p e s m args below meth cod s₁ B hml htab hv
  obtain ⟨rfl, hsz, hP, hK, hZ⟩ := hv
  have hx := B.exec
  have hb := B.bytes
  have hr := B.returns
  have hts := atoms_spec (ws := wsX9_demandBits) B.pre
  have hown : s.vm.findClass RX9 = some m.cls := findClass_of_methodNamed B.named
  have hlocks := B.notSynchronized
  subst hsz
  have hl := lv_entry ([.ref (ad t), .int a1]) (n := 2) (Nat.le_of_ble_eq_true rfl)
  rw [lg_entry_eq]
  generalize (lg_sl ([.ref (ad t), .int a1]) ++ List.replicate (2 - (lg_sl ([.ref (ad t), .int a1])).length) Slot.unset).toArray = ls at hl ⊢
  have hl : lv_has ls 2 [(0, .ref (ad t)), (1, .int a1)] := hl
  have in6 : ∀ w ∈ wsX60, w ∈ wsX9_demandBits := by decide +kernel
  have in9 : ∀ w ∈ wsX90, w ∈ wsX9_demandBits := by decide +kernel
  generalize hargs : ([.ref (ad t), .int a1] : List Value).toArray = args at *
  generalize hAe : gA ad N s.heap.size = A
  have F : gF sa D ad cy N A p s m args cod cX9_demandBits 2 wsX9_demandBits RX9 := ⟨hx, hb, hml, hown, hts, hK, hI, by rw [← hAe]; exact gA_ad, by rw [← hAe]; exact gA_sz, by rw [← hAe]; exact hZ⟩
  have G : gW D ad cy N A s.heap c d0 s.heap [] := ⟨hP, va_S.rf⟩
  generalize hQ : vx_MQ below (va_Qv (fun (_ : Unit) => False) (fun _ _ => True) A) (vx_X (fun (_ : Unit) => True) (fun E _ U => E = gxn kZ ∧ gE D ad cy N cZ d0 U) A) args s 1 6 A = Q
  suffices hgen : ∀ (H : Heap) (locs : List Loc), gW D ad cy N A s.heap c d0 H locs → W p l e rxX9_demandBits s m args below meth cod H locs 0 0 Q (F0 m 0 ls []) from hgen _ _ G
  clear G
  intro H locs G
  unfold m_X9_demandBits at h
  refine lv_aload_n hx hb dX9_demandBits_0 rfl (lv_at hl 0 rfl) ?_
  refine lv_iload_n hx hb dX9_demandBits_1 rfl (lv_at hl 1 rfl) ?_
  obtain ⟨K2, eK2, h⟩ := gj_s h
  have JK2 : ∀ (v1 : Int32) (H : Heap) (locs : List Loc) (ls : Array Slot), K2 v1 = some (.inr (kZ, cZ)) → gW D ad cy N A s.heap c d0 H locs → lv_has ls 2 [] → W p l e rxX9_demandBits s m args below meth cod H locs 0 0 Q (F0 m 23 ls [.int v1, .ref (ad t)]) := by
    intro v1 H locs ls h G hl
    rw [eK2] at h
    obtain ⟨hk3, h⟩ := gc_s h
    have ht4 : t < N := Nat.lt_of_lt_of_le (gck_lt9 hk3) hN
    rcases gbx_x h with hc5 | ⟨c7, hc5, h⟩
    · exact hQ ▸ gx_xv F G htab hlocks (vx_runV (As := [.int v1]) (rest := []) (gx_fix F) (cx_X9_demand l hlt sa D ad cy N H.size hN hI c d0 hc5) (cwV 1 hts gX9_demandBits_X9_demand rfl rfl rfl (by decide +kernel) ⟨by decide, by decide⟩) (gx_rec F G ht4 (gwe_9 hk3) rfl) rfl rfl hl.1 rfl (lv_room (Nat.le_of_ble_eq_true rfl)) dX9_demandBits_23 ⟨by decide, by decide⟩)
    · skip
      refine gx_callv F G (va_runV (As := [.int v1]) (rest := []) (gx_fix F) (c_X9_demand l sa D ad cy N H.size hN hI c d0 hc5) (cwV 1 hts gX9_demandBits_X9_demand rfl rfl rfl (by decide +kernel) ⟨by decide, by decide⟩) (gx_rec F G ht4 (gwe_9 hk3) rfl) rfl rfl hl.1 rfl (lv_room (Nat.le_of_ble_eq_true rfl)) dX9_demandBits_23 ⟨Nat.zero_le _, Nat.zero_le _⟩) (fun H locs G => ?_)
      exact (gok_no h).elim
  obtain ⟨K8, eK8, h⟩ := gj_s h
  have JK8 : ∀ (H : Heap) (locs : List Loc) (ls : Array Slot), K8 () = some (.inr (kZ, cZ)) → gW D ad cy N A s.heap c d0 H locs → lv_has ls 2 [] → W p l e rxX9_demandBits s m args below meth cod H locs 0 0 Q (F0 m 22 ls [.ref (ad t)]) := by
    intro  H locs ls h G hl
    rw [eK8] at h
    refine lv_iconst (v := 0) hx hb dX9_demandBits_22 (by decide) ?_
    exact JK2 _ _ _ _ h G hl
  refine lv_if_lt (tgt := 22) hx hb dX9_demandBits_2 (by decide) (fun q9 => ?_) (fun q9 => ?_)
  · replace h := gt_s q9 h
    exact JK8  _ _ _ h G (lv_sub hl [] rfl)
  · replace h := gf_s q9 h
    refine lv_iload_n hx hb dX9_demandBits_5 rfl (lv_at hl 1 rfl) ?_
    refine lv_iconst (v := 1) hx hb dX9_demandBits_6 (by decide) ?_
    refine lv_aload_n hx hb dX9_demandBits_7 rfl (lv_at hl 0 rfl) ?_
    obtain ⟨hk10, h⟩ := gc_s h
    have ht11 : t < N := Nat.lt_of_lt_of_le (gck_lt9 hk10) hN
    refine fg_9_now F G hk10 ht11 in9 (by decide +kernel) dX9_demandBits_8 ?_
    have hk12 : gck 3 = 6 := rfl
    have ht13 : 3 < N := Nat.lt_of_lt_of_le (by decide) hN
    refine fg_6_things F G hk12 ht13 in6 (by decide +kernel) dX9_demandBits_11 ?_
    refine lv_ishl hx hb dX9_demandBits_14 ?_
    refine lv_icmp_ge (tgt := 22) hx hb dX9_demandBits_15 (by decide) (fun q14 => ?_) (fun q14 => ?_)
    · replace h := gt_s q14 h
      exact JK8  _ _ _ h G (lv_sub hl [] rfl)
    · replace h := gf_s q14 h
      refine lv_iconst (v := 1) hx hb dX9_demandBits_18 (by decide) ?_
      refine lv_goto (tgt := 23) hx hb dX9_demandBits_19 (by decide) ?_
      exact JK2 _ _ _ _ h G (lv_sub hl [] rfl)
def m_X9_match (n : Nat) (t : Nat) (a1 : Int32) (a2 : Int32) (c : gm) : Option ((Int32 × gm) ⊕ (Nat × gm)) :=
  gc (gck t = 9) (gbx (m_X9_demandBits t a1 c) (fun (c5 : gm) => gj (fun (v6 : Int32) => gbx (m_X9_demand t v6 c5) (fun (c10 : gm) => gok (gb (m_X4_seekAmounts n 23 3 a1 c10) (fun (c17 : gm) => (if a2 = 0 then gb (m_X4_amounts n 23 c17) (fun (r22 : Int32) => some (r22, c17)) else gb (m_X4_gap n 23 c17) (fun (r20 : Int32) => some (r20, c17))))))) (fun K7 => gj (fun (_ : Unit) => K7 1) (fun K23 => (if a2 = 0 then K23 () else (if a2 = 1 then K23 () else K7 0))))))
abbrev rmX9_match : Room := { frames := 8, cells := 0, slots := 0, locals := 132 }
abbrev rxX9_match : Room := { frames := 8, cells := 1, slots := 6, locals := 132 }
set_option maxHeartbeats 4000000 in
set_option maxRecDepth 100000 in
theorem c_X9_match (l : Launch) (sa : gSa) (D : va_G) (ad : Nat → Nat) (cy : Nat → ClassId) (N sz : Nat) (hN : 55 ≤ N) (hI : gI ad N) (c d0 : gm) {n : Nat} {t : Nat} {a1 : Int32} {a2 : Int32} {rZ : Int32} {cZ : gm} (h : m_X9_match n t a1 a2 c = some (.inl (rZ, cZ))) : Met l yX9_match wsX9_match rmX9_match (va_Pc [.ref (ad t), .int a1, .int a2] (gP sa D ad cy N sz c d0)) (va_Qi (fun (z : Int32) (_ : Unit) => z = rZ) (fun _ U => gE D ad cy N cZ d0 U) (gA ad N sz)) 0 0 (gA ad N sz) := by
  refine Met.ofW (cc := cX9_match) (maxL := 3) (ret := (some .int)) (by decide) rfl ?_
  intro p e s m args below meth cod s₁ B hml hv
  obtain ⟨rfl, hsz, hP, hK, hZ⟩ := hv
  have hx := B.exec
  have hb := B.bytes
  have hr := B.returns
  have hts := atoms_spec (ws := wsX9_match) B.pre
  have hown : s.vm.findClass RX9 = some m.cls := findClass_of_methodNamed B.named
  have hlocks := B.notSynchronized
  subst hsz
  have hl := lv_entry ([.ref (ad t), .int a1, .int a2]) (n := 3) (Nat.le_of_ble_eq_true rfl)
  rw [lg_entry_eq]
  generalize (lg_sl ([.ref (ad t), .int a1, .int a2]) ++ List.replicate (3 - (lg_sl ([.ref (ad t), .int a1, .int a2])).length) Slot.unset).toArray = ls at hl ⊢
  have hl : lv_has ls 3 [(0, .ref (ad t)), (1, .int a1), (2, .int a2)] := hl
  have in9 : ∀ w ∈ wsX90, w ∈ wsX9_match := by decide +kernel
  generalize hargs : ([.ref (ad t), .int a1, .int a2] : List Value).toArray = args at *
  generalize hAe : gA ad N s.heap.size = A
  have F : gF sa D ad cy N A p s m args cod cX9_match 3 wsX9_match RX9 := ⟨hx, hb, hml, hown, hts, hK, hI, by rw [← hAe]; exact gA_ad, by rw [← hAe]; exact gA_sz, by rw [← hAe]; exact hZ⟩
  have G : gW D ad cy N A s.heap c d0 s.heap [] := ⟨hP, va_S.rf⟩
  generalize hQ : MQ below (va_Qi (fun (z : Int32) (_ : Unit) => z = rZ) (fun _ U => gE D ad cy N cZ d0 U) A) args s 0 0 A = Q
  suffices hgen : ∀ (H : Heap) (locs : List Loc), gW D ad cy N A s.heap c d0 H locs → W p l e rmX9_match s m args below meth cod H locs 0 0 Q (F0 m 0 ls []) from hgen _ _ G
  clear G
  intro H locs G
  unfold m_X9_match at h
  refine lv_aload_n hx hb dX9_match_0 rfl (lv_at hl 0 rfl) ?_
  refine lv_iload_n hx hb dX9_match_1 rfl (lv_at hl 1 rfl) ?_
  obtain ⟨hk1, h⟩ := gc_s h
  have ht2 : t < N := Nat.lt_of_lt_of_le (gck_lt9 hk1) hN
  obtain ⟨c5, hc3, h⟩ := gbx_l h
  refine gx_callv F G (va_runV (As := [.int a1]) (rest := []) (gx_fix F) (c_X9_demandBits l sa D ad cy N H.size hN hI c d0 hc3) (cwV 1 hts gX9_match_X9_demandBits rfl rfl rfl (by decide +kernel) ⟨by decide, by decide⟩) (gx_rec F G ht2 (gwe_9 hk1) rfl) rfl rfl hl.1 rfl (lv_room (Nat.le_of_ble_eq_true rfl)) dX9_match_2 ⟨Nat.zero_le _, Nat.zero_le _⟩) (fun H locs G => ?_)
  refine lv_aload_n hx hb dX9_match_5 rfl (lv_at hl 0 rfl) ?_
  refine lv_iload_n hx hb dX9_match_6 rfl (lv_at hl 2 rfl) ?_
  obtain ⟨K7, eK7, h⟩ := gj_s h
  have JK7 : ∀ (v6 : Int32) (H : Heap) (locs : List Loc) (ls : Array Slot), K7 v6 = some (.inl (rZ, cZ)) → gW D ad cy N A s.heap c5 d0 H locs → lv_has ls 3 [(0, .ref (ad t)), (1, .int a1), (2, .int a2)] → W p l e rmX9_match s m args below meth cod H locs 0 0 Q (F0 m 20 ls [.int v6, .ref (ad t)]) := by
    intro v6 H locs ls h G hl
    rw [eK7] at h
    obtain ⟨c10, hc8, h⟩ := gbx_l h
    refine gx_callv F G (va_runV (As := [.int v6]) (rest := []) (gx_fix F) (c_X9_demand l sa D ad cy N H.size hN hI c5 d0 hc8) (cwV 1 hts gX9_match_X9_demand rfl rfl rfl (by decide +kernel) ⟨by decide, by decide⟩) (gx_rec F G ht2 (gwe_9 hk1) rfl) rfl rfl hl.1 rfl (lv_room (Nat.le_of_ble_eq_true rfl)) dX9_match_20 ⟨Nat.zero_le _, Nat.zero_le _⟩) (fun H locs G => ?_)
    replace h := gok_s h
    refine lv_aload_n hx hb dX9_match_23 rfl (lv_at hl 0 rfl) ?_
    refine fg_9_pans F G hk1 ht2 in9 (by decide +kernel) dX9_match_24 ?_
    have hk11 : gck 23 = 4 := rfl
    have ht12 : 23 < N := Nat.lt_of_lt_of_le (by decide) hN
    refine lv_aload_n hx hb dX9_match_27 rfl (lv_at hl 0 rfl) ?_
    refine fg_9_now F G hk1 ht2 in9 (by decide +kernel) dX9_match_28 ?_
    have hk13 : gck 3 = 6 := rfl
    have ht14 : 3 < N := Nat.lt_of_lt_of_le (by decide) hN
    refine lv_iload_n hx hb dX9_match_31 rfl (lv_at hl 1 rfl) ?_
    obtain ⟨c17, hc15, h⟩ := gb_s h
    refine gx_callv F G (va_runV (As := [.ref (ad 3), .int a1]) (rest := []) (gx_fix F) (c_X4_seekAmounts l sa D ad cy N H.size hN hI c10 d0 hc15) (cwV 2 hts gX9_match_X4_seekAmounts rfl rfl rfl (by decide +kernel) ⟨by decide, by decide⟩) (gx_rec F G ht12 (gwe_4 hk11) rfl) rfl rfl hl.1 rfl (lv_room (Nat.le_of_ble_eq_true rfl)) dX9_match_32 ⟨Nat.zero_le _, Nat.zero_le _⟩) (fun H locs G => ?_)
    refine lv_iload_n hx hb dX9_match_35 rfl (lv_at hl 2 rfl) ?_
    refine lv_if_ne (tgt := 49) hx hb dX9_match_36 (by decide) (fun q18 => ?_) (fun q18 => ?_)
    · replace h := gf_s q18 h
      refine lv_aload_n hx hb dX9_match_49 rfl (lv_at hl 0 rfl) ?_
      refine fg_9_pans F G hk1 ht2 in9 (by decide +kernel) dX9_match_50 ?_
      obtain ⟨r20, hc19, h⟩ := gb_s h
      refine gx_calli F G (va_runV (As := []) (rest := []) (gx_fix F) (c_X4_gap l sa D ad cy N H.size hN hI c17 d0 hc19) (cwV 0 hts gX9_match_X4_gap rfl rfl rfl (by decide +kernel) ⟨by decide, by decide⟩) (gx_rec F G ht12 (gwe_4 hk11) rfl) rfl rfl hl.1 rfl (lv_room (Nat.le_of_ble_eq_true rfl)) dX9_match_53 ⟨Nat.zero_le _, Nat.zero_le _⟩) (fun H locs G => ?_)
      cases h
      rw [← hQ]
      exact gx_iret F G hr hlocks dX9_match_56
    · replace h := gt_s q18 h
      refine lv_aload_n hx hb dX9_match_39 rfl (lv_at hl 0 rfl) ?_
      refine fg_9_pans F G hk1 ht2 in9 (by decide +kernel) dX9_match_40 ?_
      obtain ⟨r22, hc21, h⟩ := gb_s h
      refine gx_calli F G (va_runV (As := []) (rest := []) (gx_fix F) (c_X4_amounts l sa D ad cy N H.size hN hI c17 d0 hc21) (cwV 0 hts gX9_match_X4_amounts rfl rfl rfl (by decide +kernel) ⟨by decide, by decide⟩) (gx_rec F G ht12 (gwe_4 hk11) rfl) rfl rfl hl.1 rfl (lv_room (Nat.le_of_ble_eq_true rfl)) dX9_match_43 ⟨Nat.zero_le _, Nat.zero_le _⟩) (fun H locs G => ?_)
      refine lv_goto (tgt := 56) hx hb dX9_match_46 (by decide) ?_
      cases h
      rw [← hQ]
      exact gx_iret F G hr hlocks dX9_match_56
  obtain ⟨K23, eK23, h⟩ := gj_s h
  have JK23 : ∀ (H : Heap) (locs : List Loc) (ls : Array Slot), K23 () = some (.inl (rZ, cZ)) → gW D ad cy N A s.heap c5 d0 H locs → lv_has ls 3 [(0, .ref (ad t)), (1, .int a1), (2, .int a2)] → W p l e rmX9_match s m args below meth cod H locs 0 0 Q (F0 m 15 ls [.ref (ad t)]) := by
    intro  H locs ls h G hl
    rw [eK23] at h
    refine lv_iconst (v := 1) hx hb dX9_match_15 (by decide) ?_
    refine lv_goto (tgt := 20) hx hb dX9_match_16 (by decide) ?_
    exact JK7 _ _ _ _ h G hl
  refine lv_if_eq (tgt := 15) hx hb dX9_match_7 (by decide) (fun q24 => ?_) (fun q24 => ?_)
  · replace h := gt_s q24 h
    exact JK23  _ _ _ h G hl
  · replace h := gf_s q24 h
    refine lv_iload_n hx hb dX9_match_10 rfl (lv_at hl 2 rfl) ?_
    refine lv_iconst (v := 1) hx hb dX9_match_11 (by decide) ?_
    refine lv_icmp_ne (tgt := 19) hx hb dX9_match_12 (by decide) (fun q25 => ?_) (fun q25 => ?_)
    · replace h := gf_s q25 h
      refine lv_iconst (v := 0) hx hb dX9_match_19 (by decide) ?_
      exact JK7 _ _ _ _ h G hl
    · replace h := gt_s q25 h
      exact JK23  _ _ _ h G hl
set_option maxHeartbeats 4000000 in
set_option maxRecDepth 100000 in
theorem cx_X9_match (l : Launch) (hlt : l.stackTraces = false) (sa : gSa) (D : va_G) (ad : Nat → Nat) (cy : Nat → ClassId) (N sz : Nat) (hN : 55 ≤ N) (hI : gI ad N) (c d0 : gm) {n : Nat} {t : Nat} {a1 : Int32} {a2 : Int32} {kZ : Nat} {cZ : gm} (h : m_X9_match n t a1 a2 c = some (.inr (kZ, cZ))) : vx_Met l yX9_match wsX9_match rxX9_match (va_Pc [.ref (ad t), .int a1, .int a2] (gP sa D ad cy N sz c d0)) (va_Qi (fun (_ : Int32) (_ : Unit) => False) (fun _ _ => True) (gA ad N sz)) (vx_X (fun (_ : Unit) => True) (fun E _ U => E = gxn kZ ∧ gE D ad cy N cZ d0 U) (gA ad N sz)) 1 6 (gA ad N sz) := by
  refine vx_ofW (cc := cX9_match) (maxL := 3) (ret := (some .int)) (by decide) rfl ?_
  intro p e s m args below meth cod s₁ B hml htab hv
  obtain ⟨rfl, hsz, hP, hK, hZ⟩ := hv
  have hx := B.exec
  have hb := B.bytes
  have hr := B.returns
  have hts := atoms_spec (ws := wsX9_match) B.pre
  have hown : s.vm.findClass RX9 = some m.cls := findClass_of_methodNamed B.named
  have hlocks := B.notSynchronized
  subst hsz
  have hl := lv_entry ([.ref (ad t), .int a1, .int a2]) (n := 3) (Nat.le_of_ble_eq_true rfl)
  rw [lg_entry_eq]
  generalize (lg_sl ([.ref (ad t), .int a1, .int a2]) ++ List.replicate (3 - (lg_sl ([.ref (ad t), .int a1, .int a2])).length) Slot.unset).toArray = ls at hl ⊢
  have hl : lv_has ls 3 [(0, .ref (ad t)), (1, .int a1), (2, .int a2)] := hl
  generalize hargs : ([.ref (ad t), .int a1, .int a2] : List Value).toArray = args at *
  generalize hAe : gA ad N s.heap.size = A
  have F : gF sa D ad cy N A p s m args cod cX9_match 3 wsX9_match RX9 := ⟨hx, hb, hml, hown, hts, hK, hI, by rw [← hAe]; exact gA_ad, by rw [← hAe]; exact gA_sz, by rw [← hAe]; exact hZ⟩
  have G : gW D ad cy N A s.heap c d0 s.heap [] := ⟨hP, va_S.rf⟩
  generalize hQ : vx_MQ below (va_Qi (fun (_ : Int32) (_ : Unit) => False) (fun _ _ => True) A) (vx_X (fun (_ : Unit) => True) (fun E _ U => E = gxn kZ ∧ gE D ad cy N cZ d0 U) A) args s 1 6 A = Q
  suffices hgen : ∀ (H : Heap) (locs : List Loc), gW D ad cy N A s.heap c d0 H locs → W p l e rxX9_match s m args below meth cod H locs 0 0 Q (F0 m 0 ls []) from hgen _ _ G
  clear G
  intro H locs G
  unfold m_X9_match at h
  refine lv_aload_n hx hb dX9_match_0 rfl (lv_at hl 0 rfl) ?_
  refine lv_iload_n hx hb dX9_match_1 rfl (lv_at hl 1 rfl) ?_
  obtain ⟨hk1, h⟩ := gc_s h
  have ht2 : t < N := Nat.lt_of_lt_of_le (gck_lt9 hk1) hN
  rcases gbx_x h with hc3 | ⟨c5, hc3, h⟩
  · exact hQ ▸ gx_xv F G htab hlocks (vx_runV (As := [.int a1]) (rest := []) (gx_fix F) (cx_X9_demandBits l hlt sa D ad cy N H.size hN hI c d0 hc3) (cwV 1 hts gX9_match_X9_demandBits rfl rfl rfl (by decide +kernel) ⟨by decide, by decide⟩) (gx_rec F G ht2 (gwe_9 hk1) rfl) rfl rfl hl.1 rfl (lv_room (Nat.le_of_ble_eq_true rfl)) dX9_match_2 ⟨by decide, by decide⟩)
  · skip
    refine gx_callv F G (va_runV (As := [.int a1]) (rest := []) (gx_fix F) (c_X9_demandBits l sa D ad cy N H.size hN hI c d0 hc3) (cwV 1 hts gX9_match_X9_demandBits rfl rfl rfl (by decide +kernel) ⟨by decide, by decide⟩) (gx_rec F G ht2 (gwe_9 hk1) rfl) rfl rfl hl.1 rfl (lv_room (Nat.le_of_ble_eq_true rfl)) dX9_match_2 ⟨Nat.zero_le _, Nat.zero_le _⟩) (fun H locs G => ?_)
    refine lv_aload_n hx hb dX9_match_5 rfl (lv_at hl 0 rfl) ?_
    refine lv_iload_n hx hb dX9_match_6 rfl (lv_at hl 2 rfl) ?_
    obtain ⟨K7, eK7, h⟩ := gj_s h
    have JK7 : ∀ (v6 : Int32) (H : Heap) (locs : List Loc) (ls : Array Slot), K7 v6 = some (.inr (kZ, cZ)) → gW D ad cy N A s.heap c5 d0 H locs → lv_has ls 3 [(0, .ref (ad t)), (1, .int a1), (2, .int a2)] → W p l e rxX9_match s m args below meth cod H locs 0 0 Q (F0 m 20 ls [.int v6, .ref (ad t)]) := by
      intro v6 H locs ls h G hl
      rw [eK7] at h
      rcases gbx_x h with hc8 | ⟨c10, hc8, h⟩
      · exact hQ ▸ gx_xv F G htab hlocks (vx_runV (As := [.int v6]) (rest := []) (gx_fix F) (cx_X9_demand l hlt sa D ad cy N H.size hN hI c5 d0 hc8) (cwV 1 hts gX9_match_X9_demand rfl rfl rfl (by decide +kernel) ⟨by decide, by decide⟩) (gx_rec F G ht2 (gwe_9 hk1) rfl) rfl rfl hl.1 rfl (lv_room (Nat.le_of_ble_eq_true rfl)) dX9_match_20 ⟨by decide, by decide⟩)
      · skip
        refine gx_callv F G (va_runV (As := [.int v6]) (rest := []) (gx_fix F) (c_X9_demand l sa D ad cy N H.size hN hI c5 d0 hc8) (cwV 1 hts gX9_match_X9_demand rfl rfl rfl (by decide +kernel) ⟨by decide, by decide⟩) (gx_rec F G ht2 (gwe_9 hk1) rfl) rfl rfl hl.1 rfl (lv_room (Nat.le_of_ble_eq_true rfl)) dX9_match_20 ⟨Nat.zero_le _, Nat.zero_le _⟩) (fun H locs G => ?_)
        exact (gok_no h).elim
    obtain ⟨K11, eK11, h⟩ := gj_s h
    have JK11 : ∀ (H : Heap) (locs : List Loc) (ls : Array Slot), K11 () = some (.inr (kZ, cZ)) → gW D ad cy N A s.heap c5 d0 H locs → lv_has ls 3 [(0, .ref (ad t)), (1, .int a1), (2, .int a2)] → W p l e rxX9_match s m args below meth cod H locs 0 0 Q (F0 m 15 ls [.ref (ad t)]) := by
      intro  H locs ls h G hl
      rw [eK11] at h
      refine lv_iconst (v := 1) hx hb dX9_match_15 (by decide) ?_
      refine lv_goto (tgt := 20) hx hb dX9_match_16 (by decide) ?_
      exact JK7 _ _ _ _ h G hl
    refine lv_if_eq (tgt := 15) hx hb dX9_match_7 (by decide) (fun q12 => ?_) (fun q12 => ?_)
    · replace h := gt_s q12 h
      exact JK11  _ _ _ h G hl
    · replace h := gf_s q12 h
      refine lv_iload_n hx hb dX9_match_10 rfl (lv_at hl 2 rfl) ?_
      refine lv_iconst (v := 1) hx hb dX9_match_11 (by decide) ?_
      refine lv_icmp_ne (tgt := 19) hx hb dX9_match_12 (by decide) (fun q13 => ?_) (fun q13 => ?_)
      · replace h := gf_s q13 h
        refine lv_iconst (v := 0) hx hb dX9_match_19 (by decide) ?_
        exact JK7 _ _ _ _ h G hl
      · replace h := gt_s q13 h
        exact JK11  _ _ _ h G hl
def m_X9_fewest (n : Nat) (t : Nat) (a1 : Int32) (c : gm) : Option ((Int32 × gm) ⊕ (Nat × gm)) :=
  gj (fun (v1 : Int32) => gc (gck t = 9) (gbx (m_X9_demand t v1 c) (fun (c7 : gm) => gok (gb2 (m_X4_fewestFor n 23 3 a1 c7) (fun (r13 : Int32) (c14 : gm) => some (r13, c14)))))) (fun K2 => gj (fun (_ : Unit) => K2 0) (fun K15 => (if a1 < 1 then K15 () else (if 480 < a1 then K15 () else K2 1))))
abbrev rmX9_fewest : Room := { frames := 7, cells := 0, slots := 0, locals := 111 }
abbrev rxX9_fewest : Room := { frames := 7, cells := 1, slots := 6, locals := 111 }
set_option maxHeartbeats 4000000 in
set_option maxRecDepth 100000 in
theorem c_X9_fewest (l : Launch) (sa : gSa) (D : va_G) (ad : Nat → Nat) (cy : Nat → ClassId) (N sz : Nat) (hN : 55 ≤ N) (hI : gI ad N) (c d0 : gm) {n : Nat} {t : Nat} {a1 : Int32} {rZ : Int32} {cZ : gm} (h : m_X9_fewest n t a1 c = some (.inl (rZ, cZ))) : Met l yX9_fewest wsX9_fewest rmX9_fewest (va_Pc [.ref (ad t), .int a1] (gP sa D ad cy N sz c d0)) (va_Qi (fun (z : Int32) (_ : Unit) => z = rZ) (fun _ U => gE D ad cy N cZ d0 U) (gA ad N sz)) 0 0 (gA ad N sz) := by
  refine Met.ofW (cc := cX9_fewest) (maxL := 2) (ret := (some .int)) (by decide) rfl ?_
  intro p e s m args below meth cod s₁ B hml hv
  obtain ⟨rfl, hsz, hP, hK, hZ⟩ := hv
  have hx := B.exec
  have hb := B.bytes
  have hr := B.returns
  have hts := atoms_spec (ws := wsX9_fewest) B.pre
  have hown : s.vm.findClass RX9 = some m.cls := findClass_of_methodNamed B.named
  have hlocks := B.notSynchronized
  subst hsz
  have hl := lv_entry ([.ref (ad t), .int a1]) (n := 2) (Nat.le_of_ble_eq_true rfl)
  rw [lg_entry_eq]
  generalize (lg_sl ([.ref (ad t), .int a1]) ++ List.replicate (2 - (lg_sl ([.ref (ad t), .int a1])).length) Slot.unset).toArray = ls at hl ⊢
  have hl : lv_has ls 2 [(0, .ref (ad t)), (1, .int a1)] := hl
  have in9 : ∀ w ∈ wsX90, w ∈ wsX9_fewest := by decide +kernel
  generalize hargs : ([.ref (ad t), .int a1] : List Value).toArray = args at *
  generalize hAe : gA ad N s.heap.size = A
  have F : gF sa D ad cy N A p s m args cod cX9_fewest 2 wsX9_fewest RX9 := ⟨hx, hb, hml, hown, hts, hK, hI, by rw [← hAe]; exact gA_ad, by rw [← hAe]; exact gA_sz, by rw [← hAe]; exact hZ⟩
  have G : gW D ad cy N A s.heap c d0 s.heap [] := ⟨hP, va_S.rf⟩
  generalize hQ : MQ below (va_Qi (fun (z : Int32) (_ : Unit) => z = rZ) (fun _ U => gE D ad cy N cZ d0 U) A) args s 0 0 A = Q
  suffices hgen : ∀ (H : Heap) (locs : List Loc), gW D ad cy N A s.heap c d0 H locs → W p l e rmX9_fewest s m args below meth cod H locs 0 0 Q (F0 m 0 ls []) from hgen _ _ G
  clear G
  intro H locs G
  unfold m_X9_fewest at h
  refine lv_aload_n hx hb dX9_fewest_0 rfl (lv_at hl 0 rfl) ?_
  refine lv_iload_n hx hb dX9_fewest_1 rfl (lv_at hl 1 rfl) ?_
  refine lv_iconst (v := 1) hx hb dX9_fewest_2 (by decide) ?_
  obtain ⟨K2, eK2, h⟩ := gj_s h
  have JK2 : ∀ (v1 : Int32) (H : Heap) (locs : List Loc) (ls : Array Slot), K2 v1 = some (.inl (rZ, cZ)) → gW D ad cy N A s.heap c d0 H locs → lv_has ls 2 [(0, .ref (ad t)), (1, .int a1)] → W p l e rmX9_fewest s m args below meth cod H locs 0 0 Q (F0 m 18 ls [.int v1, .ref (ad t)]) := by
    intro v1 H locs ls h G hl
    rw [eK2] at h
    obtain ⟨hk3, h⟩ := gc_s h
    have ht4 : t < N := Nat.lt_of_lt_of_le (gck_lt9 hk3) hN
    obtain ⟨c7, hc5, h⟩ := gbx_l h
    refine gx_callv F G (va_runV (As := [.int v1]) (rest := []) (gx_fix F) (c_X9_demand l sa D ad cy N H.size hN hI c d0 hc5) (cwV 1 hts gX9_fewest_X9_demand rfl rfl rfl (by decide +kernel) ⟨by decide, by decide⟩) (gx_rec F G ht4 (gwe_9 hk3) rfl) rfl rfl hl.1 rfl (lv_room (Nat.le_of_ble_eq_true rfl)) dX9_fewest_18 ⟨Nat.zero_le _, Nat.zero_le _⟩) (fun H locs G => ?_)
    replace h := gok_s h
    refine lv_aload_n hx hb dX9_fewest_21 rfl (lv_at hl 0 rfl) ?_
    refine fg_9_pans F G hk3 ht4 in9 (by decide +kernel) dX9_fewest_22 ?_
    have hk8 : gck 23 = 4 := rfl
    have ht9 : 23 < N := Nat.lt_of_lt_of_le (by decide) hN
    refine lv_aload_n hx hb dX9_fewest_25 rfl (lv_at hl 0 rfl) ?_
    refine fg_9_now F G hk3 ht4 in9 (by decide +kernel) dX9_fewest_26 ?_
    have hk10 : gck 3 = 6 := rfl
    have ht11 : 3 < N := Nat.lt_of_lt_of_le (by decide) hN
    refine lv_iload_n hx hb dX9_fewest_29 rfl (lv_at hl 1 rfl) ?_
    obtain ⟨r13, c14, hc12, h⟩ := gb2_s h
    refine gx_calli F G (va_runV (As := [.ref (ad 3), .int a1]) (rest := []) (gx_fix F) (c_X4_fewestFor l sa D ad cy N H.size hN hI c7 d0 hc12) (cwV 2 hts gX9_fewest_X4_fewestFor rfl rfl rfl (by decide +kernel) ⟨by decide, by decide⟩) (gx_rec F G ht9 (gwe_4 hk8) rfl) rfl rfl hl.1 rfl (lv_room (Nat.le_of_ble_eq_true rfl)) dX9_fewest_30 ⟨Nat.zero_le _, Nat.zero_le _⟩) (fun H locs G => ?_)
    cases h
    rw [← hQ]
    exact gx_iret F G hr hlocks dX9_fewest_33
  obtain ⟨K15, eK15, h⟩ := gj_s h
  have JK15 : ∀ (H : Heap) (locs : List Loc) (ls : Array Slot), K15 () = some (.inl (rZ, cZ)) → gW D ad cy N A s.heap c d0 H locs → lv_has ls 2 [(0, .ref (ad t)), (1, .int a1)] → W p l e rmX9_fewest s m args below meth cod H locs 0 0 Q (F0 m 17 ls [.ref (ad t)]) := by
    intro  H locs ls h G hl
    rw [eK15] at h
    refine lv_iconst (v := 0) hx hb dX9_fewest_17 (by decide) ?_
    exact JK2 _ _ _ _ h G hl
  refine lv_icmp_lt (tgt := 17) hx hb dX9_fewest_3 (by decide) (fun q16 => ?_) (fun q16 => ?_)
  · replace h := gt_s q16 h
    exact JK15  _ _ _ h G hl
  · replace h := gf_s q16 h
    refine lv_iload_n hx hb dX9_fewest_6 rfl (lv_at hl 1 rfl) ?_
    refine lv_sipush (v := 480) hx hb dX9_fewest_7 (by decide) ?_
    refine lv_icmp_gt (tgt := 17) hx hb dX9_fewest_10 (by decide) (fun q17 => ?_) (fun q17 => ?_)
    · replace h := gt_s q17 h
      exact JK15  _ _ _ h G hl
    · replace h := gf_s q17 h
      refine lv_iconst (v := 1) hx hb dX9_fewest_13 (by decide) ?_
      refine lv_goto (tgt := 18) hx hb dX9_fewest_14 (by decide) ?_
      exact JK2 _ _ _ _ h G hl
set_option maxHeartbeats 4000000 in
set_option maxRecDepth 100000 in
theorem cx_X9_fewest (l : Launch) (hlt : l.stackTraces = false) (sa : gSa) (D : va_G) (ad : Nat → Nat) (cy : Nat → ClassId) (N sz : Nat) (hN : 55 ≤ N) (hI : gI ad N) (c d0 : gm) {n : Nat} {t : Nat} {a1 : Int32} {kZ : Nat} {cZ : gm} (h : m_X9_fewest n t a1 c = some (.inr (kZ, cZ))) : vx_Met l yX9_fewest wsX9_fewest rxX9_fewest (va_Pc [.ref (ad t), .int a1] (gP sa D ad cy N sz c d0)) (va_Qi (fun (_ : Int32) (_ : Unit) => False) (fun _ _ => True) (gA ad N sz)) (vx_X (fun (_ : Unit) => True) (fun E _ U => E = gxn kZ ∧ gE D ad cy N cZ d0 U) (gA ad N sz)) 1 6 (gA ad N sz) := by
  refine vx_ofW (cc := cX9_fewest) (maxL := 2) (ret := (some .int)) (by decide) rfl ?_
  intro p e s m args below meth cod s₁ B hml htab hv
  obtain ⟨rfl, hsz, hP, hK, hZ⟩ := hv
  have hx := B.exec
  have hb := B.bytes
  have hr := B.returns
  have hts := atoms_spec (ws := wsX9_fewest) B.pre
  have hown : s.vm.findClass RX9 = some m.cls := findClass_of_methodNamed B.named
  have hlocks := B.notSynchronized
  subst hsz
  have hl := lv_entry ([.ref (ad t), .int a1]) (n := 2) (Nat.le_of_ble_eq_true rfl)
  rw [lg_entry_eq]
  generalize (lg_sl ([.ref (ad t), .int a1]) ++ List.replicate (2 - (lg_sl ([.ref (ad t), .int a1])).length) Slot.unset).toArray = ls at hl ⊢
  have hl : lv_has ls 2 [(0, .ref (ad t)), (1, .int a1)] := hl
  generalize hargs : ([.ref (ad t), .int a1] : List Value).toArray = args at *
  generalize hAe : gA ad N s.heap.size = A
  have F : gF sa D ad cy N A p s m args cod cX9_fewest 2 wsX9_fewest RX9 := ⟨hx, hb, hml, hown, hts, hK, hI, by rw [← hAe]; exact gA_ad, by rw [← hAe]; exact gA_sz, by rw [← hAe]; exact hZ⟩
  have G : gW D ad cy N A s.heap c d0 s.heap [] := ⟨hP, va_S.rf⟩
  generalize hQ : vx_MQ below (va_Qi (fun (_ : Int32) (_ : Unit) => False) (fun _ _ => True) A) (vx_X (fun (_ : Unit) => True) (fun E _ U => E = gxn kZ ∧ gE D ad cy N cZ d0 U) A) args s 1 6 A = Q
  suffices hgen : ∀ (H : Heap) (locs : List Loc), gW D ad cy N A s.heap c d0 H locs → W p l e rxX9_fewest s m args below meth cod H locs 0 0 Q (F0 m 0 ls []) from hgen _ _ G
  clear G
  intro H locs G
  unfold m_X9_fewest at h
  refine lv_aload_n hx hb dX9_fewest_0 rfl (lv_at hl 0 rfl) ?_
  refine lv_iload_n hx hb dX9_fewest_1 rfl (lv_at hl 1 rfl) ?_
  refine lv_iconst (v := 1) hx hb dX9_fewest_2 (by decide) ?_
  obtain ⟨K2, eK2, h⟩ := gj_s h
  have JK2 : ∀ (v1 : Int32) (H : Heap) (locs : List Loc) (ls : Array Slot), K2 v1 = some (.inr (kZ, cZ)) → gW D ad cy N A s.heap c d0 H locs → lv_has ls 2 [(0, .ref (ad t)), (1, .int a1)] → W p l e rxX9_fewest s m args below meth cod H locs 0 0 Q (F0 m 18 ls [.int v1, .ref (ad t)]) := by
    intro v1 H locs ls h G hl
    rw [eK2] at h
    obtain ⟨hk3, h⟩ := gc_s h
    have ht4 : t < N := Nat.lt_of_lt_of_le (gck_lt9 hk3) hN
    rcases gbx_x h with hc5 | ⟨c7, hc5, h⟩
    · exact hQ ▸ gx_xv F G htab hlocks (vx_runV (As := [.int v1]) (rest := []) (gx_fix F) (cx_X9_demand l hlt sa D ad cy N H.size hN hI c d0 hc5) (cwV 1 hts gX9_fewest_X9_demand rfl rfl rfl (by decide +kernel) ⟨by decide, by decide⟩) (gx_rec F G ht4 (gwe_9 hk3) rfl) rfl rfl hl.1 rfl (lv_room (Nat.le_of_ble_eq_true rfl)) dX9_fewest_18 ⟨by decide, by decide⟩)
    · skip
      refine gx_callv F G (va_runV (As := [.int v1]) (rest := []) (gx_fix F) (c_X9_demand l sa D ad cy N H.size hN hI c d0 hc5) (cwV 1 hts gX9_fewest_X9_demand rfl rfl rfl (by decide +kernel) ⟨by decide, by decide⟩) (gx_rec F G ht4 (gwe_9 hk3) rfl) rfl rfl hl.1 rfl (lv_room (Nat.le_of_ble_eq_true rfl)) dX9_fewest_18 ⟨Nat.zero_le _, Nat.zero_le _⟩) (fun H locs G => ?_)
      exact (gok_no h).elim
  obtain ⟨K8, eK8, h⟩ := gj_s h
  have JK8 : ∀ (H : Heap) (locs : List Loc) (ls : Array Slot), K8 () = some (.inr (kZ, cZ)) → gW D ad cy N A s.heap c d0 H locs → lv_has ls 2 [(0, .ref (ad t)), (1, .int a1)] → W p l e rxX9_fewest s m args below meth cod H locs 0 0 Q (F0 m 17 ls [.ref (ad t)]) := by
    intro  H locs ls h G hl
    rw [eK8] at h
    refine lv_iconst (v := 0) hx hb dX9_fewest_17 (by decide) ?_
    exact JK2 _ _ _ _ h G hl
  refine lv_icmp_lt (tgt := 17) hx hb dX9_fewest_3 (by decide) (fun q9 => ?_) (fun q9 => ?_)
  · replace h := gt_s q9 h
    exact JK8  _ _ _ h G hl
  · replace h := gf_s q9 h
    refine lv_iload_n hx hb dX9_fewest_6 rfl (lv_at hl 1 rfl) ?_
    refine lv_sipush (v := 480) hx hb dX9_fewest_7 (by decide) ?_
    refine lv_icmp_gt (tgt := 17) hx hb dX9_fewest_10 (by decide) (fun q10 => ?_) (fun q10 => ?_)
    · replace h := gt_s q10 h
      exact JK8  _ _ _ h G hl
    · replace h := gf_s q10 h
      refine lv_iconst (v := 1) hx hb dX9_fewest_13 (by decide) ?_
      refine lv_goto (tgt := 18) hx hb dX9_fewest_14 (by decide) ?_
      exact JK2 _ _ _ _ h G hl
def m_X9_level (n : Nat) (t : Nat) (a1 : Int32) (a2 : Int32) (c : gm) : Option ((Int32 × gm) ⊕ (Nat × gm)) :=
  gc (gck t = 9) (gbx (m_X9_demandBits t a1 c) (fun (c5 : gm) => gj (fun (v6 : Int32) => gbx (m_X9_demand t v6 c5) (fun (c10 : gm) => gok (gb (m_X4_layLevel n 23 3 a1 c10) (fun (c17 : gm) => (if a2 = 0 then some ((c17.1 23 2), c17) else some ((c17.1 23 3), c17)))))) (fun K7 => gj (fun (_ : Unit) => K7 1) (fun K19 => (if a2 = 0 then K19 () else (if a2 = 1 then K19 () else K7 0))))))
abbrev rmX9_level : Room := { frames := 8, cells := 0, slots := 0, locals := 132 }
abbrev rxX9_level : Room := { frames := 8, cells := 1, slots := 6, locals := 132 }
set_option maxHeartbeats 4000000 in
set_option maxRecDepth 100000 in
theorem c_X9_level (l : Launch) (sa : gSa) (D : va_G) (ad : Nat → Nat) (cy : Nat → ClassId) (N sz : Nat) (hN : 55 ≤ N) (hI : gI ad N) (c d0 : gm) {n : Nat} {t : Nat} {a1 : Int32} {a2 : Int32} {rZ : Int32} {cZ : gm} (h : m_X9_level n t a1 a2 c = some (.inl (rZ, cZ))) : Met l yX9_level wsX9_level rmX9_level (va_Pc [.ref (ad t), .int a1, .int a2] (gP sa D ad cy N sz c d0)) (va_Qi (fun (z : Int32) (_ : Unit) => z = rZ) (fun _ U => gE D ad cy N cZ d0 U) (gA ad N sz)) 0 0 (gA ad N sz) := by
  refine Met.ofW (cc := cX9_level) (maxL := 3) (ret := (some .int)) (by decide) rfl ?_
  intro p e s m args below meth cod s₁ B hml hv
  obtain ⟨rfl, hsz, hP, hK, hZ⟩ := hv
  have hx := B.exec
  have hb := B.bytes
  have hr := B.returns
  have hts := atoms_spec (ws := wsX9_level) B.pre
  have hown : s.vm.findClass RX9 = some m.cls := findClass_of_methodNamed B.named
  have hlocks := B.notSynchronized
  subst hsz
  have hl := lv_entry ([.ref (ad t), .int a1, .int a2]) (n := 3) (Nat.le_of_ble_eq_true rfl)
  rw [lg_entry_eq]
  generalize (lg_sl ([.ref (ad t), .int a1, .int a2]) ++ List.replicate (3 - (lg_sl ([.ref (ad t), .int a1, .int a2])).length) Slot.unset).toArray = ls at hl ⊢
  have hl : lv_has ls 3 [(0, .ref (ad t)), (1, .int a1), (2, .int a2)] := hl
  have in4 : ∀ w ∈ wsX40, w ∈ wsX9_level := by decide +kernel
  have in9 : ∀ w ∈ wsX90, w ∈ wsX9_level := by decide +kernel
  generalize hargs : ([.ref (ad t), .int a1, .int a2] : List Value).toArray = args at *
  generalize hAe : gA ad N s.heap.size = A
  have F : gF sa D ad cy N A p s m args cod cX9_level 3 wsX9_level RX9 := ⟨hx, hb, hml, hown, hts, hK, hI, by rw [← hAe]; exact gA_ad, by rw [← hAe]; exact gA_sz, by rw [← hAe]; exact hZ⟩
  have G : gW D ad cy N A s.heap c d0 s.heap [] := ⟨hP, va_S.rf⟩
  generalize hQ : MQ below (va_Qi (fun (z : Int32) (_ : Unit) => z = rZ) (fun _ U => gE D ad cy N cZ d0 U) A) args s 0 0 A = Q
  suffices hgen : ∀ (H : Heap) (locs : List Loc), gW D ad cy N A s.heap c d0 H locs → W p l e rmX9_level s m args below meth cod H locs 0 0 Q (F0 m 0 ls []) from hgen _ _ G
  clear G
  intro H locs G
  unfold m_X9_level at h
  refine lv_aload_n hx hb dX9_level_0 rfl (lv_at hl 0 rfl) ?_
  refine lv_iload_n hx hb dX9_level_1 rfl (lv_at hl 1 rfl) ?_
  obtain ⟨hk1, h⟩ := gc_s h
  have ht2 : t < N := Nat.lt_of_lt_of_le (gck_lt9 hk1) hN
  obtain ⟨c5, hc3, h⟩ := gbx_l h
  refine gx_callv F G (va_runV (As := [.int a1]) (rest := []) (gx_fix F) (c_X9_demandBits l sa D ad cy N H.size hN hI c d0 hc3) (cwV 1 hts gX9_level_X9_demandBits rfl rfl rfl (by decide +kernel) ⟨by decide, by decide⟩) (gx_rec F G ht2 (gwe_9 hk1) rfl) rfl rfl hl.1 rfl (lv_room (Nat.le_of_ble_eq_true rfl)) dX9_level_2 ⟨Nat.zero_le _, Nat.zero_le _⟩) (fun H locs G => ?_)
  refine lv_aload_n hx hb dX9_level_5 rfl (lv_at hl 0 rfl) ?_
  refine lv_iload_n hx hb dX9_level_6 rfl (lv_at hl 2 rfl) ?_
  obtain ⟨K7, eK7, h⟩ := gj_s h
  have JK7 : ∀ (v6 : Int32) (H : Heap) (locs : List Loc) (ls : Array Slot), K7 v6 = some (.inl (rZ, cZ)) → gW D ad cy N A s.heap c5 d0 H locs → lv_has ls 3 [(0, .ref (ad t)), (1, .int a1), (2, .int a2)] → W p l e rmX9_level s m args below meth cod H locs 0 0 Q (F0 m 20 ls [.int v6, .ref (ad t)]) := by
    intro v6 H locs ls h G hl
    rw [eK7] at h
    obtain ⟨c10, hc8, h⟩ := gbx_l h
    refine gx_callv F G (va_runV (As := [.int v6]) (rest := []) (gx_fix F) (c_X9_demand l sa D ad cy N H.size hN hI c5 d0 hc8) (cwV 1 hts gX9_level_X9_demand rfl rfl rfl (by decide +kernel) ⟨by decide, by decide⟩) (gx_rec F G ht2 (gwe_9 hk1) rfl) rfl rfl hl.1 rfl (lv_room (Nat.le_of_ble_eq_true rfl)) dX9_level_20 ⟨Nat.zero_le _, Nat.zero_le _⟩) (fun H locs G => ?_)
    replace h := gok_s h
    refine lv_aload_n hx hb dX9_level_23 rfl (lv_at hl 0 rfl) ?_
    refine fg_9_pans F G hk1 ht2 in9 (by decide +kernel) dX9_level_24 ?_
    have hk11 : gck 23 = 4 := rfl
    have ht12 : 23 < N := Nat.lt_of_lt_of_le (by decide) hN
    refine lv_aload_n hx hb dX9_level_27 rfl (lv_at hl 0 rfl) ?_
    refine fg_9_now F G hk1 ht2 in9 (by decide +kernel) dX9_level_28 ?_
    have hk13 : gck 3 = 6 := rfl
    have ht14 : 3 < N := Nat.lt_of_lt_of_le (by decide) hN
    refine lv_iload_n hx hb dX9_level_31 rfl (lv_at hl 1 rfl) ?_
    obtain ⟨c17, hc15, h⟩ := gb_s h
    refine gx_callv F G (va_runV (As := [.ref (ad 3), .int a1]) (rest := []) (gx_fix F) (c_X4_layLevel l sa D ad cy N H.size hN hI c10 d0 hc15) (cwV 2 hts gX9_level_X4_layLevel rfl rfl rfl (by decide +kernel) ⟨by decide, by decide⟩) (gx_rec F G ht12 (gwe_4 hk11) rfl) rfl rfl hl.1 rfl (lv_room (Nat.le_of_ble_eq_true rfl)) dX9_level_32 ⟨Nat.zero_le _, Nat.zero_le _⟩) (fun H locs G => ?_)
    refine lv_iload_n hx hb dX9_level_35 rfl (lv_at hl 2 rfl) ?_
    refine lv_if_ne (tgt := 49) hx hb dX9_level_36 (by decide) (fun q18 => ?_) (fun q18 => ?_)
    · replace h := gf_s q18 h
      refine lv_aload_n hx hb dX9_level_49 rfl (lv_at hl 0 rfl) ?_
      refine fg_9_pans F G hk1 ht2 in9 (by decide +kernel) dX9_level_50 ?_
      refine fg_4_pan F G hk11 ht12 in4 (by decide +kernel) dX9_level_53 ?_
      cases h
      rw [← hQ]
      exact gx_iret F G hr hlocks dX9_level_56
    · replace h := gt_s q18 h
      refine lv_aload_n hx hb dX9_level_39 rfl (lv_at hl 0 rfl) ?_
      refine fg_9_pans F G hk1 ht2 in9 (by decide +kernel) dX9_level_40 ?_
      refine fg_4_apart F G hk11 ht12 in4 (by decide +kernel) dX9_level_43 ?_
      refine lv_goto (tgt := 56) hx hb dX9_level_46 (by decide) ?_
      cases h
      rw [← hQ]
      exact gx_iret F G hr hlocks dX9_level_56
  obtain ⟨K19, eK19, h⟩ := gj_s h
  have JK19 : ∀ (H : Heap) (locs : List Loc) (ls : Array Slot), K19 () = some (.inl (rZ, cZ)) → gW D ad cy N A s.heap c5 d0 H locs → lv_has ls 3 [(0, .ref (ad t)), (1, .int a1), (2, .int a2)] → W p l e rmX9_level s m args below meth cod H locs 0 0 Q (F0 m 15 ls [.ref (ad t)]) := by
    intro  H locs ls h G hl
    rw [eK19] at h
    refine lv_iconst (v := 1) hx hb dX9_level_15 (by decide) ?_
    refine lv_goto (tgt := 20) hx hb dX9_level_16 (by decide) ?_
    exact JK7 _ _ _ _ h G hl
  refine lv_if_eq (tgt := 15) hx hb dX9_level_7 (by decide) (fun q20 => ?_) (fun q20 => ?_)
  · replace h := gt_s q20 h
    exact JK19  _ _ _ h G hl
  · replace h := gf_s q20 h
    refine lv_iload_n hx hb dX9_level_10 rfl (lv_at hl 2 rfl) ?_
    refine lv_iconst (v := 1) hx hb dX9_level_11 (by decide) ?_
    refine lv_icmp_ne (tgt := 19) hx hb dX9_level_12 (by decide) (fun q21 => ?_) (fun q21 => ?_)
    · replace h := gf_s q21 h
      refine lv_iconst (v := 0) hx hb dX9_level_19 (by decide) ?_
      exact JK7 _ _ _ _ h G hl
    · replace h := gt_s q21 h
      exact JK19  _ _ _ h G hl
set_option maxHeartbeats 4000000 in
set_option maxRecDepth 100000 in
theorem cx_X9_level (l : Launch) (hlt : l.stackTraces = false) (sa : gSa) (D : va_G) (ad : Nat → Nat) (cy : Nat → ClassId) (N sz : Nat) (hN : 55 ≤ N) (hI : gI ad N) (c d0 : gm) {n : Nat} {t : Nat} {a1 : Int32} {a2 : Int32} {kZ : Nat} {cZ : gm} (h : m_X9_level n t a1 a2 c = some (.inr (kZ, cZ))) : vx_Met l yX9_level wsX9_level rxX9_level (va_Pc [.ref (ad t), .int a1, .int a2] (gP sa D ad cy N sz c d0)) (va_Qi (fun (_ : Int32) (_ : Unit) => False) (fun _ _ => True) (gA ad N sz)) (vx_X (fun (_ : Unit) => True) (fun E _ U => E = gxn kZ ∧ gE D ad cy N cZ d0 U) (gA ad N sz)) 1 6 (gA ad N sz) := by
  refine vx_ofW (cc := cX9_level) (maxL := 3) (ret := (some .int)) (by decide) rfl ?_
  intro p e s m args below meth cod s₁ B hml htab hv
  obtain ⟨rfl, hsz, hP, hK, hZ⟩ := hv
  have hx := B.exec
  have hb := B.bytes
  have hr := B.returns
  have hts := atoms_spec (ws := wsX9_level) B.pre
  have hown : s.vm.findClass RX9 = some m.cls := findClass_of_methodNamed B.named
  have hlocks := B.notSynchronized
  subst hsz
  have hl := lv_entry ([.ref (ad t), .int a1, .int a2]) (n := 3) (Nat.le_of_ble_eq_true rfl)
  rw [lg_entry_eq]
  generalize (lg_sl ([.ref (ad t), .int a1, .int a2]) ++ List.replicate (3 - (lg_sl ([.ref (ad t), .int a1, .int a2])).length) Slot.unset).toArray = ls at hl ⊢
  have hl : lv_has ls 3 [(0, .ref (ad t)), (1, .int a1), (2, .int a2)] := hl
  generalize hargs : ([.ref (ad t), .int a1, .int a2] : List Value).toArray = args at *
  generalize hAe : gA ad N s.heap.size = A
  have F : gF sa D ad cy N A p s m args cod cX9_level 3 wsX9_level RX9 := ⟨hx, hb, hml, hown, hts, hK, hI, by rw [← hAe]; exact gA_ad, by rw [← hAe]; exact gA_sz, by rw [← hAe]; exact hZ⟩
  have G : gW D ad cy N A s.heap c d0 s.heap [] := ⟨hP, va_S.rf⟩
  generalize hQ : vx_MQ below (va_Qi (fun (_ : Int32) (_ : Unit) => False) (fun _ _ => True) A) (vx_X (fun (_ : Unit) => True) (fun E _ U => E = gxn kZ ∧ gE D ad cy N cZ d0 U) A) args s 1 6 A = Q
  suffices hgen : ∀ (H : Heap) (locs : List Loc), gW D ad cy N A s.heap c d0 H locs → W p l e rxX9_level s m args below meth cod H locs 0 0 Q (F0 m 0 ls []) from hgen _ _ G
  clear G
  intro H locs G
  unfold m_X9_level at h
  refine lv_aload_n hx hb dX9_level_0 rfl (lv_at hl 0 rfl) ?_
  refine lv_iload_n hx hb dX9_level_1 rfl (lv_at hl 1 rfl) ?_
  obtain ⟨hk1, h⟩ := gc_s h
  have ht2 : t < N := Nat.lt_of_lt_of_le (gck_lt9 hk1) hN
  rcases gbx_x h with hc3 | ⟨c5, hc3, h⟩
  · exact hQ ▸ gx_xv F G htab hlocks (vx_runV (As := [.int a1]) (rest := []) (gx_fix F) (cx_X9_demandBits l hlt sa D ad cy N H.size hN hI c d0 hc3) (cwV 1 hts gX9_level_X9_demandBits rfl rfl rfl (by decide +kernel) ⟨by decide, by decide⟩) (gx_rec F G ht2 (gwe_9 hk1) rfl) rfl rfl hl.1 rfl (lv_room (Nat.le_of_ble_eq_true rfl)) dX9_level_2 ⟨by decide, by decide⟩)
  · skip
    refine gx_callv F G (va_runV (As := [.int a1]) (rest := []) (gx_fix F) (c_X9_demandBits l sa D ad cy N H.size hN hI c d0 hc3) (cwV 1 hts gX9_level_X9_demandBits rfl rfl rfl (by decide +kernel) ⟨by decide, by decide⟩) (gx_rec F G ht2 (gwe_9 hk1) rfl) rfl rfl hl.1 rfl (lv_room (Nat.le_of_ble_eq_true rfl)) dX9_level_2 ⟨Nat.zero_le _, Nat.zero_le _⟩) (fun H locs G => ?_)
    refine lv_aload_n hx hb dX9_level_5 rfl (lv_at hl 0 rfl) ?_
    refine lv_iload_n hx hb dX9_level_6 rfl (lv_at hl 2 rfl) ?_
    obtain ⟨K7, eK7, h⟩ := gj_s h
    have JK7 : ∀ (v6 : Int32) (H : Heap) (locs : List Loc) (ls : Array Slot), K7 v6 = some (.inr (kZ, cZ)) → gW D ad cy N A s.heap c5 d0 H locs → lv_has ls 3 [(0, .ref (ad t)), (1, .int a1), (2, .int a2)] → W p l e rxX9_level s m args below meth cod H locs 0 0 Q (F0 m 20 ls [.int v6, .ref (ad t)]) := by
      intro v6 H locs ls h G hl
      rw [eK7] at h
      rcases gbx_x h with hc8 | ⟨c10, hc8, h⟩
      · exact hQ ▸ gx_xv F G htab hlocks (vx_runV (As := [.int v6]) (rest := []) (gx_fix F) (cx_X9_demand l hlt sa D ad cy N H.size hN hI c5 d0 hc8) (cwV 1 hts gX9_level_X9_demand rfl rfl rfl (by decide +kernel) ⟨by decide, by decide⟩) (gx_rec F G ht2 (gwe_9 hk1) rfl) rfl rfl hl.1 rfl (lv_room (Nat.le_of_ble_eq_true rfl)) dX9_level_20 ⟨by decide, by decide⟩)
      · skip
        refine gx_callv F G (va_runV (As := [.int v6]) (rest := []) (gx_fix F) (c_X9_demand l sa D ad cy N H.size hN hI c5 d0 hc8) (cwV 1 hts gX9_level_X9_demand rfl rfl rfl (by decide +kernel) ⟨by decide, by decide⟩) (gx_rec F G ht2 (gwe_9 hk1) rfl) rfl rfl hl.1 rfl (lv_room (Nat.le_of_ble_eq_true rfl)) dX9_level_20 ⟨Nat.zero_le _, Nat.zero_le _⟩) (fun H locs G => ?_)
        exact (gok_no h).elim
    obtain ⟨K11, eK11, h⟩ := gj_s h
    have JK11 : ∀ (H : Heap) (locs : List Loc) (ls : Array Slot), K11 () = some (.inr (kZ, cZ)) → gW D ad cy N A s.heap c5 d0 H locs → lv_has ls 3 [(0, .ref (ad t)), (1, .int a1), (2, .int a2)] → W p l e rxX9_level s m args below meth cod H locs 0 0 Q (F0 m 15 ls [.ref (ad t)]) := by
      intro  H locs ls h G hl
      rw [eK11] at h
      refine lv_iconst (v := 1) hx hb dX9_level_15 (by decide) ?_
      refine lv_goto (tgt := 20) hx hb dX9_level_16 (by decide) ?_
      exact JK7 _ _ _ _ h G hl
    refine lv_if_eq (tgt := 15) hx hb dX9_level_7 (by decide) (fun q12 => ?_) (fun q12 => ?_)
    · replace h := gt_s q12 h
      exact JK11  _ _ _ h G hl
    · replace h := gf_s q12 h
      refine lv_iload_n hx hb dX9_level_10 rfl (lv_at hl 2 rfl) ?_
      refine lv_iconst (v := 1) hx hb dX9_level_11 (by decide) ?_
      refine lv_icmp_ne (tgt := 19) hx hb dX9_level_12 (by decide) (fun q13 => ?_) (fun q13 => ?_)
      · replace h := gf_s q13 h
        refine lv_iconst (v := 0) hx hb dX9_level_19 (by decide) ?_
        exact JK7 _ _ _ _ h G hl
      · replace h := gt_s q13 h
        exact JK11  _ _ _ h G hl
def m_X9_fits (n : Nat) (t : Nat) (a1 : Int32) (c : gm) : Option ((Int32 × gm) ⊕ (Nat × gm)) :=
  gj (fun (v1 : Int32) => gc (gck t = 9) (gbx (m_X9_demand t v1 c) (fun (c7 : gm) => gok (gc (gck (c7.2.2 2) = 0) (gb (m_X0_seekPairs n (c7.2.2 2) 3 c7) (fun (c14 : gm) => (if a1 = 0 then gc (gck (c14.2.2 2) = 0) (some ((c14.1 (c14.2.2 2) 6), c14)) else gc (gck (c14.2.2 2) = 0) (gb (m_X0_firstPair n (c14.2.2 2) c14) (fun (r19 : Int32) => some (r19, c14)))))))))) (fun K2 => gj (fun (_ : Unit) => K2 1) (fun K22 => (if a1 = 0 then K22 () else (if a1 = 1 then K22 () else K2 0))))
abbrev rmX9_fits : Room := { frames := 7, cells := 0, slots := 0, locals := 111 }
abbrev rxX9_fits : Room := { frames := 7, cells := 1, slots := 6, locals := 111 }
set_option maxHeartbeats 4000000 in
set_option maxRecDepth 100000 in
theorem c_X9_fits (l : Launch) (sa : gSa) (D : va_G) (ad : Nat → Nat) (cy : Nat → ClassId) (N sz : Nat) (hN : 55 ≤ N) (hI : gI ad N) (c d0 : gm) {n : Nat} {t : Nat} {a1 : Int32} {rZ : Int32} {cZ : gm} (h : m_X9_fits n t a1 c = some (.inl (rZ, cZ))) : Met l yX9_fits wsX9_fits rmX9_fits (va_Pc [.ref (ad t), .int a1] (gP sa D ad cy N sz c d0)) (va_Qi (fun (z : Int32) (_ : Unit) => z = rZ) (fun _ U => gE D ad cy N cZ d0 U) (gA ad N sz)) 0 0 (gA ad N sz) := by
  refine Met.ofW (cc := cX9_fits) (maxL := 2) (ret := (some .int)) (by decide) rfl ?_
  intro p e s m args below meth cod s₁ B hml hv
  obtain ⟨rfl, hsz, hP, hK, hZ⟩ := hv
  have hx := B.exec
  have hb := B.bytes
  have hr := B.returns
  have hts := atoms_spec (ws := wsX9_fits) B.pre
  have hown : s.vm.findClass RX9 = some m.cls := findClass_of_methodNamed B.named
  have hlocks := B.notSynchronized
  subst hsz
  have hl := lv_entry ([.ref (ad t), .int a1]) (n := 2) (Nat.le_of_ble_eq_true rfl)
  rw [lg_entry_eq]
  generalize (lg_sl ([.ref (ad t), .int a1]) ++ List.replicate (2 - (lg_sl ([.ref (ad t), .int a1])).length) Slot.unset).toArray = ls at hl ⊢
  have hl : lv_has ls 2 [(0, .ref (ad t)), (1, .int a1)] := hl
  have in0 : ∀ w ∈ wsX00, w ∈ wsX9_fits := by decide +kernel
  have in9 : ∀ w ∈ wsX90, w ∈ wsX9_fits := by decide +kernel
  generalize hargs : ([.ref (ad t), .int a1] : List Value).toArray = args at *
  generalize hAe : gA ad N s.heap.size = A
  have F : gF sa D ad cy N A p s m args cod cX9_fits 2 wsX9_fits RX9 := ⟨hx, hb, hml, hown, hts, hK, hI, by rw [← hAe]; exact gA_ad, by rw [← hAe]; exact gA_sz, by rw [← hAe]; exact hZ⟩
  have G : gW D ad cy N A s.heap c d0 s.heap [] := ⟨hP, va_S.rf⟩
  generalize hQ : MQ below (va_Qi (fun (z : Int32) (_ : Unit) => z = rZ) (fun _ U => gE D ad cy N cZ d0 U) A) args s 0 0 A = Q
  suffices hgen : ∀ (H : Heap) (locs : List Loc), gW D ad cy N A s.heap c d0 H locs → W p l e rmX9_fits s m args below meth cod H locs 0 0 Q (F0 m 0 ls []) from hgen _ _ G
  clear G
  intro H locs G
  unfold m_X9_fits at h
  refine lv_aload_n hx hb dX9_fits_0 rfl (lv_at hl 0 rfl) ?_
  refine lv_iload_n hx hb dX9_fits_1 rfl (lv_at hl 1 rfl) ?_
  obtain ⟨K2, eK2, h⟩ := gj_s h
  have JK2 : ∀ (v1 : Int32) (H : Heap) (locs : List Loc) (ls : Array Slot), K2 v1 = some (.inl (rZ, cZ)) → gW D ad cy N A s.heap c d0 H locs → lv_has ls 2 [(0, .ref (ad t)), (1, .int a1)] → W p l e rmX9_fits s m args below meth cod H locs 0 0 Q (F0 m 15 ls [.int v1, .ref (ad t)]) := by
    intro v1 H locs ls h G hl
    rw [eK2] at h
    obtain ⟨hk3, h⟩ := gc_s h
    have ht4 : t < N := Nat.lt_of_lt_of_le (gck_lt9 hk3) hN
    obtain ⟨c7, hc5, h⟩ := gbx_l h
    refine gx_callv F G (va_runV (As := [.int v1]) (rest := []) (gx_fix F) (c_X9_demand l sa D ad cy N H.size hN hI c d0 hc5) (cwV 1 hts gX9_fits_X9_demand rfl rfl rfl (by decide +kernel) ⟨by decide, by decide⟩) (gx_rec F G ht4 (gwe_9 hk3) rfl) rfl rfl hl.1 rfl (lv_room (Nat.le_of_ble_eq_true rfl)) dX9_fits_15 ⟨Nat.zero_le _, Nat.zero_le _⟩) (fun H locs G => ?_)
    replace h := gok_s h
    refine lv_aload_n hx hb dX9_fits_18 rfl (lv_at hl 0 rfl) ?_
    refine fg_9_lines F G hk3 ht4 in9 (by decide +kernel) dX9_fits_19 ?_
    refine lv_aload_n hx hb dX9_fits_22 rfl (lv_at hl 0 rfl) ?_
    refine fg_9_now F G hk3 ht4 in9 (by decide +kernel) dX9_fits_23 ?_
    have hk8 : gck 3 = 6 := rfl
    have ht9 : 3 < N := Nat.lt_of_lt_of_le (by decide) hN
    obtain ⟨hk10, h⟩ := gc_s h
    have ht11 : (c7.2.2 2) < N := Nat.lt_of_lt_of_le (gck_lt0 hk10) hN
    obtain ⟨c14, hc12, h⟩ := gb_s h
    refine gx_callv F G (va_runV (As := [.ref (ad 3)]) (rest := []) (gx_fix F) (c_X0_seekPairs l sa D ad cy N H.size hN hI c7 d0 hc12) (cwV 1 hts gX9_fits_X0_seekPairs rfl rfl rfl (by decide +kernel) ⟨by decide, by decide⟩) (gx_rec F G ht11 (gwe_0 hk10) rfl) rfl rfl hl.1 rfl (lv_room (Nat.le_of_ble_eq_true rfl)) dX9_fits_26 ⟨Nat.zero_le _, Nat.zero_le _⟩) (fun H locs G => ?_)
    refine lv_iload_n hx hb dX9_fits_29 rfl (lv_at hl 1 rfl) ?_
    refine lv_if_ne (tgt := 43) hx hb dX9_fits_30 (by decide) (fun q15 => ?_) (fun q15 => ?_)
    · replace h := gf_s q15 h
      refine lv_aload_n hx hb dX9_fits_43 rfl (lv_at hl 0 rfl) ?_
      refine fg_9_lines F G hk3 ht4 in9 (by decide +kernel) dX9_fits_44 ?_
      obtain ⟨hk16, h⟩ := gc_s h
      have ht17 : (c14.2.2 2) < N := Nat.lt_of_lt_of_le (gck_lt0 hk16) hN
      obtain ⟨r19, hc18, h⟩ := gb_s h
      refine gx_calli F G (va_runV (As := []) (rest := []) (gx_fix F) (c_X0_firstPair l sa D ad cy N H.size hN hI c14 d0 hc18) (cwV 0 hts gX9_fits_X0_firstPair rfl rfl rfl (by decide +kernel) ⟨by decide, by decide⟩) (gx_rec F G ht17 (gwe_0 hk16) rfl) rfl rfl hl.1 rfl (lv_room (Nat.le_of_ble_eq_true rfl)) dX9_fits_47 ⟨Nat.zero_le _, Nat.zero_le _⟩) (fun H locs G => ?_)
      cases h
      rw [← hQ]
      exact gx_iret F G hr hlocks dX9_fits_50
    · replace h := gt_s q15 h
      refine lv_aload_n hx hb dX9_fits_33 rfl (lv_at hl 0 rfl) ?_
      refine fg_9_lines F G hk3 ht4 in9 (by decide +kernel) dX9_fits_34 ?_
      obtain ⟨hk20, h⟩ := gc_s h
      have ht21 : (c14.2.2 2) < N := Nat.lt_of_lt_of_le (gck_lt0 hk20) hN
      refine fg_0_pairs F G hk20 ht21 in0 (by decide +kernel) dX9_fits_37 ?_
      refine lv_goto (tgt := 50) hx hb dX9_fits_40 (by decide) ?_
      cases h
      rw [← hQ]
      exact gx_iret F G hr hlocks dX9_fits_50
  obtain ⟨K22, eK22, h⟩ := gj_s h
  have JK22 : ∀ (H : Heap) (locs : List Loc) (ls : Array Slot), K22 () = some (.inl (rZ, cZ)) → gW D ad cy N A s.heap c d0 H locs → lv_has ls 2 [(0, .ref (ad t)), (1, .int a1)] → W p l e rmX9_fits s m args below meth cod H locs 0 0 Q (F0 m 10 ls [.ref (ad t)]) := by
    intro  H locs ls h G hl
    rw [eK22] at h
    refine lv_iconst (v := 1) hx hb dX9_fits_10 (by decide) ?_
    refine lv_goto (tgt := 15) hx hb dX9_fits_11 (by decide) ?_
    exact JK2 _ _ _ _ h G hl
  refine lv_if_eq (tgt := 10) hx hb dX9_fits_2 (by decide) (fun q23 => ?_) (fun q23 => ?_)
  · replace h := gt_s q23 h
    exact JK22  _ _ _ h G hl
  · replace h := gf_s q23 h
    refine lv_iload_n hx hb dX9_fits_5 rfl (lv_at hl 1 rfl) ?_
    refine lv_iconst (v := 1) hx hb dX9_fits_6 (by decide) ?_
    refine lv_icmp_ne (tgt := 14) hx hb dX9_fits_7 (by decide) (fun q24 => ?_) (fun q24 => ?_)
    · replace h := gf_s q24 h
      refine lv_iconst (v := 0) hx hb dX9_fits_14 (by decide) ?_
      exact JK2 _ _ _ _ h G hl
    · replace h := gt_s q24 h
      exact JK22  _ _ _ h G hl
set_option maxHeartbeats 4000000 in
set_option maxRecDepth 100000 in
theorem cx_X9_fits (l : Launch) (hlt : l.stackTraces = false) (sa : gSa) (D : va_G) (ad : Nat → Nat) (cy : Nat → ClassId) (N sz : Nat) (hN : 55 ≤ N) (hI : gI ad N) (c d0 : gm) {n : Nat} {t : Nat} {a1 : Int32} {kZ : Nat} {cZ : gm} (h : m_X9_fits n t a1 c = some (.inr (kZ, cZ))) : vx_Met l yX9_fits wsX9_fits rxX9_fits (va_Pc [.ref (ad t), .int a1] (gP sa D ad cy N sz c d0)) (va_Qi (fun (_ : Int32) (_ : Unit) => False) (fun _ _ => True) (gA ad N sz)) (vx_X (fun (_ : Unit) => True) (fun E _ U => E = gxn kZ ∧ gE D ad cy N cZ d0 U) (gA ad N sz)) 1 6 (gA ad N sz) := by
  refine vx_ofW (cc := cX9_fits) (maxL := 2) (ret := (some .int)) (by decide) rfl ?_
  intro p e s m args below meth cod s₁ B hml htab hv
  obtain ⟨rfl, hsz, hP, hK, hZ⟩ := hv
  have hx := B.exec
  have hb := B.bytes
  have hr := B.returns
  have hts := atoms_spec (ws := wsX9_fits) B.pre
  have hown : s.vm.findClass RX9 = some m.cls := findClass_of_methodNamed B.named
  have hlocks := B.notSynchronized
  subst hsz
  have hl := lv_entry ([.ref (ad t), .int a1]) (n := 2) (Nat.le_of_ble_eq_true rfl)
  rw [lg_entry_eq]
  generalize (lg_sl ([.ref (ad t), .int a1]) ++ List.replicate (2 - (lg_sl ([.ref (ad t), .int a1])).length) Slot.unset).toArray = ls at hl ⊢
  have hl : lv_has ls 2 [(0, .ref (ad t)), (1, .int a1)] := hl
  generalize hargs : ([.ref (ad t), .int a1] : List Value).toArray = args at *
  generalize hAe : gA ad N s.heap.size = A
  have F : gF sa D ad cy N A p s m args cod cX9_fits 2 wsX9_fits RX9 := ⟨hx, hb, hml, hown, hts, hK, hI, by rw [← hAe]; exact gA_ad, by rw [← hAe]; exact gA_sz, by rw [← hAe]; exact hZ⟩
  have G : gW D ad cy N A s.heap c d0 s.heap [] := ⟨hP, va_S.rf⟩
  generalize hQ : vx_MQ below (va_Qi (fun (_ : Int32) (_ : Unit) => False) (fun _ _ => True) A) (vx_X (fun (_ : Unit) => True) (fun E _ U => E = gxn kZ ∧ gE D ad cy N cZ d0 U) A) args s 1 6 A = Q
  suffices hgen : ∀ (H : Heap) (locs : List Loc), gW D ad cy N A s.heap c d0 H locs → W p l e rxX9_fits s m args below meth cod H locs 0 0 Q (F0 m 0 ls []) from hgen _ _ G
  clear G
  intro H locs G
  unfold m_X9_fits at h
  refine lv_aload_n hx hb dX9_fits_0 rfl (lv_at hl 0 rfl) ?_
  refine lv_iload_n hx hb dX9_fits_1 rfl (lv_at hl 1 rfl) ?_
  obtain ⟨K2, eK2, h⟩ := gj_s h
  have JK2 : ∀ (v1 : Int32) (H : Heap) (locs : List Loc) (ls : Array Slot), K2 v1 = some (.inr (kZ, cZ)) → gW D ad cy N A s.heap c d0 H locs → lv_has ls 2 [(0, .ref (ad t)), (1, .int a1)] → W p l e rxX9_fits s m args below meth cod H locs 0 0 Q (F0 m 15 ls [.int v1, .ref (ad t)]) := by
    intro v1 H locs ls h G hl
    rw [eK2] at h
    obtain ⟨hk3, h⟩ := gc_s h
    have ht4 : t < N := Nat.lt_of_lt_of_le (gck_lt9 hk3) hN
    rcases gbx_x h with hc5 | ⟨c7, hc5, h⟩
    · exact hQ ▸ gx_xv F G htab hlocks (vx_runV (As := [.int v1]) (rest := []) (gx_fix F) (cx_X9_demand l hlt sa D ad cy N H.size hN hI c d0 hc5) (cwV 1 hts gX9_fits_X9_demand rfl rfl rfl (by decide +kernel) ⟨by decide, by decide⟩) (gx_rec F G ht4 (gwe_9 hk3) rfl) rfl rfl hl.1 rfl (lv_room (Nat.le_of_ble_eq_true rfl)) dX9_fits_15 ⟨by decide, by decide⟩)
    · skip
      refine gx_callv F G (va_runV (As := [.int v1]) (rest := []) (gx_fix F) (c_X9_demand l sa D ad cy N H.size hN hI c d0 hc5) (cwV 1 hts gX9_fits_X9_demand rfl rfl rfl (by decide +kernel) ⟨by decide, by decide⟩) (gx_rec F G ht4 (gwe_9 hk3) rfl) rfl rfl hl.1 rfl (lv_room (Nat.le_of_ble_eq_true rfl)) dX9_fits_15 ⟨Nat.zero_le _, Nat.zero_le _⟩) (fun H locs G => ?_)
      exact (gok_no h).elim
  obtain ⟨K8, eK8, h⟩ := gj_s h
  have JK8 : ∀ (H : Heap) (locs : List Loc) (ls : Array Slot), K8 () = some (.inr (kZ, cZ)) → gW D ad cy N A s.heap c d0 H locs → lv_has ls 2 [(0, .ref (ad t)), (1, .int a1)] → W p l e rxX9_fits s m args below meth cod H locs 0 0 Q (F0 m 10 ls [.ref (ad t)]) := by
    intro  H locs ls h G hl
    rw [eK8] at h
    refine lv_iconst (v := 1) hx hb dX9_fits_10 (by decide) ?_
    refine lv_goto (tgt := 15) hx hb dX9_fits_11 (by decide) ?_
    exact JK2 _ _ _ _ h G hl
  refine lv_if_eq (tgt := 10) hx hb dX9_fits_2 (by decide) (fun q9 => ?_) (fun q9 => ?_)
  · replace h := gt_s q9 h
    exact JK8  _ _ _ h G hl
  · replace h := gf_s q9 h
    refine lv_iload_n hx hb dX9_fits_5 rfl (lv_at hl 1 rfl) ?_
    refine lv_iconst (v := 1) hx hb dX9_fits_6 (by decide) ?_
    refine lv_icmp_ne (tgt := 14) hx hb dX9_fits_7 (by decide) (fun q10 => ?_) (fun q10 => ?_)
    · replace h := gf_s q10 h
      refine lv_iconst (v := 0) hx hb dX9_fits_14 (by decide) ?_
      exact JK2 _ _ _ _ h G hl
    · replace h := gt_s q10 h
      exact JK8  _ _ _ h G hl
