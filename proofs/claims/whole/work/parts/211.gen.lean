-- X10_clause X10_market X10_copies X10_notes X10_opensOne X10_knownHere X10_one X10_product X10_sum X10_law X10_by X10_byLaw
def m_X10_clause (n : Nat) (t : Nat) (c : gm) : Option (gm) :=
  gc (gck t = 10) (gb2 (m_X10_kindHere n t c) (fun (r4 : Int32) (c5 : gm) => gj (fun (c6 : gm) => (if (c6.1 t 5) = 0 then gb (m_X10_skipWord n t c6) (fun (c11 : gm) => gv (gm_r c11 t (upd (c11.1 t) 7 ((c11.1 t 7) + 1))) (fun (c12 : gm) => gj (fun (v13 : Int32) => gj (fun (c15 : gm) => gb (m_X10_sign n t 59 c15) (fun (c19 : gm) => (if 2 ≤ r4 then some c19 else gc (0 ≤ r4.toInt ∧ r4.toInt < 4) (gj (fun (v25 : Int32) => gc (0 ≤ r4.toInt ∧ r4.toInt < 4) (gv (gm_r c19 58 (upd (c19.1 58) r4.toNatClampNeg ((c19.1 58 r4.toNatClampNeg) + v25))) (fun (c28 : gm) => some c28))) (fun K26 => (if (c19.1 t 5) = 0 then K26 1 else K26 0)))))) (fun K16 => (if r4 = 0 then gb2 (m_X10_number n t 1 60 c12) (fun (r35 : Int32) (c36 : gm) => gc (0 ≤ v13.toInt ∧ v13.toInt < 8) (gv (gm_r c36 60 (upd (c36.1 60) v13.toNatClampNeg r35)) (fun (c38 : gm) => K16 c38))) else (if r4 = 1 then gc (0 ≤ v13.toInt ∧ v13.toInt < 10) (gb2 (m_X10_number n t 0 ((c12.1 58 (0 : Int32).toNatClampNeg) - 1) c12) (fun (r49 : Int32) (c50 : gm) => gc (gck (62 + 1 + v13.toNatClampNeg) = 22) (gc (0 ≤ (0 : Int32).toInt ∧ (0 : Int32).toInt < ((gal (62 + 1 + v13.toNatClampNeg)) : Nat)) (gv (gm_r c50 (62 + 1 + v13.toNatClampNeg) (upd (c50.1 (62 + 1 + v13.toNatClampNeg)) (0 : Int32).toNatClampNeg r49)) (fun (c54 : gm) => gc (0 ≤ v13.toInt ∧ v13.toInt < 10) (gb2 (m_X10_number n t 1 9 c54) (fun (r57 : Int32) (c58 : gm) => gc (0 ≤ (1 : Int32).toInt ∧ (1 : Int32).toInt < ((gal (62 + 1 + v13.toNatClampNeg)) : Nat)) (gv (gm_r c58 (62 + 1 + v13.toNatClampNeg) (upd (c58.1 (62 + 1 + v13.toNatClampNeg)) (1 : Int32).toNatClampNeg r57)) (fun (c60 : gm) => gc (0 ≤ v13.toInt ∧ v13.toInt < 10) (gc (0 ≤ v13.toInt ∧ v13.toInt < 10) (gc (0 ≤ (0 : Int32).toInt ∧ (0 : Int32).toInt < ((gal (62 + 1 + v13.toNatClampNeg)) : Nat)) (gb2 (m_X10_otherThing n t (c60.1 (62 + 1 + v13.toNatClampNeg) (0 : Int32).toNatClampNeg) (c60.1 58 (0 : Int32).toNatClampNeg) c60) (fun (r66 : Int32) (c67 : gm) => gc (0 ≤ (2 : Int32).toInt ∧ (2 : Int32).toInt < ((gal (62 + 1 + v13.toNatClampNeg)) : Nat)) (gv (gm_r c67 (62 + 1 + v13.toNatClampNeg) (upd (c67.1 (62 + 1 + v13.toNatClampNeg)) (2 : Int32).toNatClampNeg r66)) (fun (c69 : gm) => gc (0 ≤ v13.toInt ∧ v13.toInt < 10) (gb2 (m_X10_number n t 1 9 c69) (fun (r72 : Int32) (c73 : gm) => gc (0 ≤ (3 : Int32).toInt ∧ (3 : Int32).toInt < ((gal (62 + 1 + v13.toNatClampNeg)) : Nat)) (gv (gm_r c73 (62 + 1 + v13.toNatClampNeg) (upd (c73.1 (62 + 1 + v13.toNatClampNeg)) (3 : Int32).toNatClampNeg r72)) (fun (c75 : gm) => K16 c75))))))))))))))))))) else gb2 (m_X10_number n t 0 18 c12) (fun (r79 : Int32) (c80 : gm) => gb2 (m_X10_number n t 0 9 c80) (fun (r82 : Int32) (c83 : gm) => (if (c83.1 t 5) = 0 then gv (gm_r c83 58 (upd (c83.1 58) (2 : Int32).toNatClampNeg r79)) (fun (c89 : gm) => gv (gm_r c89 58 (upd (c89.1 58) (3 : Int32).toNatClampNeg r82)) (fun (c91 : gm) => K16 c91)) else some c83))))))) (fun K14 => (if 2 ≤ r4 then K14 0 else gc (0 ≤ r4.toInt ∧ r4.toInt < 4) (K14 (c12.1 58 r4.toNatClampNeg)))))) else some c6)) (fun K7 => (if r4 = (-1) then gb (m_X10_wrong t 1 (c5.1 t 4) c5) (fun (c113 : gm) => K7 c113) else gj (fun (_ : Unit) => gb (m_X10_wrong t 3 (c5.1 t 4) c5) (fun (c101 : gm) => K7 c101)) (fun K98 => (if (c5.1 t 7) = 60 then K98 () else (if 2 ≤ r4 then K7 c5 else gc (0 ≤ r4.toInt ∧ r4.toInt < 4) (gb (m_X10_mostOf r4) (fun (r109 : Int32) => (if (c5.1 58 r4.toNatClampNeg) = r109 then K98 () else K7 c5))))))))))
abbrev rmX10_clause : Room := { frames := 5, cells := 0, slots := 0, locals := 109 }
set_option maxHeartbeats 4000000 in
set_option maxRecDepth 100000 in
theorem c_X10_clause (l : Launch) (sa : gSa) (D : va_G) (ad : Nat → Nat) (cy : Nat → ClassId) (N sz : Nat) (hN : 530 ≤ N) (hI : gI ad N) (c0 c : gm) {n : Nat} {t : Nat} {cZ : gm} (h : m_X10_clause n t c = some cZ) : Met l yX10_clause wsX10_clause rmX10_clause (va_Pc [.ref (ad t)] (gP sa D ad cy N sz c0 c)) (va_Qv (fun (_ : Unit) => True) (fun _ U => gE D ad cy N c0 cZ U) (gA ad N sz)) 0 0 (gA ad N sz) := by
  refine Met.ofW (cc := cX10_clause) (maxL := 5) (ret := none) (by decide) rfl ?_
  intro p e s m args below meth cod s₁ B hml hv
  obtain ⟨rfl, hsz, hP, hK, hZ⟩ := hv
  have hx := B.exec
  have hb := B.bytes
  have hr := B.returns
  have hts := atoms_spec (ws := wsX10_clause) B.pre
  have hown : s.vm.findClass RX10 = some m.cls := findClass_of_methodNamed B.named
  have hlocks := B.notSynchronized
  subst hsz
  have hl := lv_entry ([.ref (ad t)]) (n := 5) (Nat.le_of_ble_eq_true rfl)
  rw [lg_entry_eq]
  generalize (lg_sl ([.ref (ad t)]) ++ List.replicate (5 - (lg_sl ([.ref (ad t)])).length) Slot.unset).toArray = ls at hl ⊢
  have hl : lv_has ls 5 [(0, .ref (ad t))] := hl
  have in10 : ∀ w ∈ wsX100, w ∈ wsX10_clause := by decide +kernel
  generalize hargs : ([.ref (ad t)] : List Value).toArray = args at *
  generalize hAe : gA ad N s.heap.size = A
  have F : gF sa D ad cy N A p s m args cod cX10_clause 5 wsX10_clause RX10 := ⟨hx, hb, hml, hown, hts, hK, hI, by rw [← hAe]; exact gA_ad, by rw [← hAe]; exact gA_sz, by rw [← hAe]; exact hZ⟩
  have G : gW D ad cy N A s.heap c0 c s.heap [] := ⟨hP, va_S.rf⟩
  generalize hQ : MQ below (va_Qv (fun (_ : Unit) => True) (fun _ U => gE D ad cy N c0 cZ U) A) args s 0 0 A = Q
  suffices hgen : ∀ (H : Heap) (locs : List Loc), gW D ad cy N A s.heap c0 c H locs → W p l e rmX10_clause s m args below meth cod H locs 0 0 Q (F0 m 0 ls []) from hgen _ _ G
  clear G
  intro H locs G
  unfold m_X10_clause at h
  refine lv_aload_n hx hb dX10_clause_0 rfl (lv_at hl 0 rfl) ?_
  obtain ⟨hk1, h⟩ := gc_s h
  have ht2 : t < N := Nat.lt_of_lt_of_le (gck_lt10 hk1) hN
  obtain ⟨r4, c5, hc3, h⟩ := gb2_s h
  refine gx_calli F G (va_runV (As := []) (rest := []) (gx_fix F) (c_X10_kindHere l sa D ad cy N H.size hN hI c0 c hc3) (cwV 0 hts gX10_clause_X10_kindHere rfl rfl rfl (by decide +kernel) ⟨by decide, by decide⟩) (gx_rec F G ht2 (gwe_10 hk1) rfl) rfl rfl hl.1 rfl (lv_room (Nat.le_of_ble_eq_true rfl)) dX10_clause_1 ⟨Nat.zero_le _, Nat.zero_le _⟩) (fun H locs G => ?_)
  refine lv_istore_n (lv' := [(1, .int r4), (0, .ref (ad t))]) hx hb dX10_clause_4 rfl hl (by decide) rfl (fun ls hl => ?_)
  refine lv_iload_n hx hb dX10_clause_5 rfl (lv_at hl 0 rfl) ?_
  refine lv_iconst (v := (-1)) hx hb dX10_clause_6 (by decide) ?_
  obtain ⟨K7, eK7, h⟩ := gj_s h
  have JK7 : ∀ (c6 : gm) (H : Heap) (locs : List Loc) (ls : Array Slot), K7 c6 = some cZ → gW D ad cy N A s.heap c0 c6 H locs → lv_has ls 5 [(0, .ref (ad t)), (1, .int r4)] → W p l e rmX10_clause s m args below meth cod H locs 0 0 Q (F0 m 58 ls []) := by
    intro c6 H locs ls h G hl
    rw [eK7] at h
    refine lv_aload_n hx hb dX10_clause_58 rfl (lv_at hl 0 rfl) ?_
    refine fg_10_fault F G hk1 ht2 in10 (by decide +kernel) dX10_clause_59 ?_
    refine lv_if_eq (tgt := 66) hx hb dX10_clause_62 (by decide) (fun q8 => ?_) (fun q8 => ?_)
    · replace h := gt_s q8 h
      refine lv_aload_n hx hb dX10_clause_66 rfl (lv_at hl 0 rfl) ?_
      obtain ⟨c11, hc9, h⟩ := gb_s h
      refine gx_callv F G (va_runV (As := []) (rest := []) (gx_fix F) (c_X10_skipWord l sa D ad cy N H.size hN hI c0 c6 hc9) (cwV 0 hts gX10_clause_X10_skipWord rfl rfl rfl (by decide +kernel) ⟨by decide, by decide⟩) (gx_rec F G ht2 (gwe_10 hk1) rfl) rfl rfl hl.1 rfl (lv_room (Nat.le_of_ble_eq_true rfl)) dX10_clause_67 ⟨Nat.zero_le _, Nat.zero_le _⟩) (fun H locs G => ?_)
      refine lv_aload_n hx hb dX10_clause_70 rfl (lv_at hl 0 rfl) ?_
      refine lv_dup hx hb dX10_clause_71 rfl ?_
      refine fg_10_clauses F G hk1 ht2 in10 (by decide +kernel) dX10_clause_72 ?_
      refine lv_iconst (v := 1) hx hb dX10_clause_75 (by decide) ?_
      refine lv_iadd hx hb dX10_clause_76 ?_
      refine fp_10_clauses F G hk1 ht2 in10 (by decide +kernel) dX10_clause_77 (fun H locs G => ?_)
      obtain ⟨c12, ec12⟩ : ∃ z, z = gm_r c11 t (upd (c11.1 t) 7 ((c11.1 t 7) + 1)) := ⟨_, rfl⟩
      rw [← ec12] at G
      replace h := gv_s h c12 ec12
      refine lv_iload_n hx hb dX10_clause_80 rfl (lv_at hl 1 rfl) ?_
      refine lv_iconst (v := 2) hx hb dX10_clause_81 (by decide) ?_
      obtain ⟨K14, eK14, h⟩ := gj_s h
      have JK14 : ∀ (v13 : Int32) (H : Heap) (locs : List Loc) (ls : Array Slot), K14 v13 = some cZ → gW D ad cy N A s.heap c0 c12 H locs → lv_has ls 5 [(0, .ref (ad t)), (1, .int r4)] → W p l e rmX10_clause s m args below meth cod H locs 0 0 Q (F0 m 95 ls [.int v13]) := by
        intro v13 H locs ls h G hl
        rw [eK14] at h
        refine lv_istore_n (lv' := [(2, .int v13), (0, .ref (ad t)), (1, .int r4)]) hx hb dX10_clause_95 rfl hl (by decide) rfl (fun ls hl => ?_)
        refine lv_iload_n hx hb dX10_clause_96 rfl (lv_at hl 2 rfl) ?_
        obtain ⟨K16, eK16, h⟩ := gj_s h
        have JK16 : ∀ (c15 : gm) (H : Heap) (locs : List Loc) (ls : Array Slot), K16 c15 = some cZ → gW D ad cy N A s.heap c0 c15 H locs → lv_has ls 5 [(0, .ref (ad t)), (1, .int r4)] → W p l e rmX10_clause s m args below meth cod H locs 0 0 Q (F0 m 263 ls []) := by
          intro c15 H locs ls h G hl
          rw [eK16] at h
          refine lv_aload_n hx hb dX10_clause_263 rfl (lv_at hl 0 rfl) ?_
          refine lv_bipush (v := 59) hx hb dX10_clause_264 (by decide) ?_
          obtain ⟨c19, hc17, h⟩ := gb_s h
          refine gx_callv F G (va_runV (As := [.int 59]) (rest := []) (gx_fix F) (c_X10_sign l sa D ad cy N H.size hN hI c0 c15 hc17) (cwV 1 hts gX10_clause_X10_sign rfl rfl rfl (by decide +kernel) ⟨by decide, by decide⟩) (gx_rec F G ht2 (gwe_10 hk1) rfl) rfl rfl hl.1 rfl (lv_room (Nat.le_of_ble_eq_true rfl)) dX10_clause_266 ⟨Nat.zero_le _, Nat.zero_le _⟩) (fun H locs G => ?_)
          refine lv_iload_n hx hb dX10_clause_269 rfl (lv_at hl 1 rfl) ?_
          refine lv_iconst (v := 2) hx hb dX10_clause_270 (by decide) ?_
          refine lv_icmp_ge (tgt := 295) hx hb dX10_clause_271 (by decide) (fun q20 => ?_) (fun q20 => ?_)
          · replace h := gt_s q20 h
            cases h
            rw [← hQ]
            exact gx_vret F G hr hlocks dX10_clause_295
          · replace h := gf_s q20 h
            refine lv_aload_n hx hb dX10_clause_274 rfl (lv_at hl 0 rfl) ?_
            refine fg_10_readTold F G hk1 ht2 in10 (by decide +kernel) dX10_clause_275 ?_
            have hk21 : gck 58 = 22 := rfl
            have ht22 : 58 < N := Nat.lt_of_lt_of_le (by decide) hN
            have hn23 : gal 58 = 4 := rfl
            refine lv_iload_n hx hb dX10_clause_278 rfl (lv_at hl 1 rfl) ?_
            refine lv_dup2_11 hx hb dX10_clause_279 rfl rfl ?_
            obtain ⟨hi24, h⟩ := gc_s h
            refine gx_mia F G hk21 ht22 hn23 hi24 dX10_clause_280 ?_
            refine lv_aload_n hx hb dX10_clause_281 rfl (lv_at hl 0 rfl) ?_
            refine fg_10_fault F G hk1 ht2 in10 (by decide +kernel) dX10_clause_282 ?_
            obtain ⟨K26, eK26, h⟩ := gj_s h
            have JK26 : ∀ (v25 : Int32) (H : Heap) (locs : List Loc) (ls : Array Slot), K26 v25 = some cZ → gW D ad cy N A s.heap c0 c19 H locs → lv_has ls 5 [] → W p l e rmX10_clause s m args below meth cod H locs 0 0 Q (F0 m 293 ls [.int v25, .int (c19.1 58 r4.toNatClampNeg), .int r4, .ref (ad 58)]) := by
              intro v25 H locs ls h G hl
              rw [eK26] at h
              refine lv_iadd hx hb dX10_clause_293 ?_
              obtain ⟨hi27, h⟩ := gc_s h
              refine gx_mis F G hk21 ht22 hn23 hi27 dX10_clause_294 (fun H locs G => ?_)
              obtain ⟨c28, ec28⟩ : ∃ z, z = gm_r c19 58 (upd (c19.1 58) r4.toNatClampNeg ((c19.1 58 r4.toNatClampNeg) + v25)) := ⟨_, rfl⟩
              rw [← ec28] at G
              replace h := gv_s h c28 ec28
              cases h
              rw [← hQ]
              exact gx_vret F G hr hlocks dX10_clause_295
            refine lv_if_ne (tgt := 292) hx hb dX10_clause_285 (by decide) (fun q29 => ?_) (fun q29 => ?_)
            · replace h := gf_s q29 h
              refine lv_iconst (v := 0) hx hb dX10_clause_292 (by decide) ?_
              exact JK26 _ _ _ _ h G (lv_sub hl [] rfl)
            · replace h := gt_s q29 h
              refine lv_iconst (v := 1) hx hb dX10_clause_288 (by decide) ?_
              refine lv_goto (tgt := 293) hx hb dX10_clause_289 (by decide) ?_
              exact JK26 _ _ _ _ h G (lv_sub hl [] rfl)
        by_cases q30 : r4 = 0
        · replace h := gt_s q30 h
          refine lv_lookup (tgt := 124) hx hb dX10_clause_97 (by decide) (off := 27) (by rw [q30]; decide) (by decide) ?_
          refine lv_aload_n hx hb dX10_clause_124 rfl (lv_at hl 1 rfl) ?_
          refine fg_10_readWeight F G hk1 ht2 in10 (by decide +kernel) dX10_clause_125 ?_
          have hk31 : gck 60 = 22 := rfl
          have ht32 : 60 < N := Nat.lt_of_lt_of_le (by decide) hN
          have hn33 : gal 60 = 8 := rfl
          refine lv_iload_n hx hb dX10_clause_128 rfl (lv_at hl 0 rfl) ?_
          refine lv_aload_n hx hb dX10_clause_129 rfl (lv_at hl 1 rfl) ?_
          refine lv_iconst (v := 1) hx hb dX10_clause_130 (by decide) ?_
          refine lv_bipush (v := 60) hx hb dX10_clause_131 (by decide) ?_
          obtain ⟨r35, c36, hc34, h⟩ := gb2_s h
          refine gx_calli F G (va_runV (As := [.int 1, .int 60]) (rest := [.int v13, .ref (ad 60)]) (gx_fix F) (c_X10_number l sa D ad cy N H.size hN hI c0 c12 hc34) (cwV 2 hts gX10_clause_X10_number rfl rfl rfl (by decide +kernel) ⟨by decide, by decide⟩) (gx_rec F G ht2 (gwe_10 hk1) rfl) rfl rfl hl.1 rfl (lv_room (Nat.le_of_ble_eq_true rfl)) dX10_clause_133 ⟨Nat.zero_le _, Nat.zero_le _⟩) (fun H locs G => ?_)
          obtain ⟨hi37, h⟩ := gc_s h
          refine gx_mis F G hk31 ht32 hn33 hi37 dX10_clause_136 (fun H locs G => ?_)
          obtain ⟨c38, ec38⟩ : ∃ z, z = gm_r c36 60 (upd (c36.1 60) v13.toNatClampNeg r35) := ⟨_, rfl⟩
          rw [← ec38] at G
          replace h := gv_s h c38 ec38
          refine lv_goto (tgt := 263) hx hb dX10_clause_137 (by decide) ?_
          exact JK16 _ _ _ _ h G (lv_sub hl [1, 2] rfl)
        replace h := gf_s q30 h
        by_cases q39 : r4 = 1
        · replace h := gt_s q39 h
          refine lv_lookup (tgt := 140) hx hb dX10_clause_97 (by decide) (off := 43) (by rw [q39]; decide) (by decide) ?_
          refine lv_aload_n hx hb dX10_clause_140 rfl (lv_at hl 1 rfl) ?_
          refine fg_10_readCry F G hk1 ht2 in10 (by decide +kernel) dX10_clause_141 ?_
          have hk40 : gck 62 = 25 := rfl
          have ht41 : 62 < N := Nat.lt_of_lt_of_le (by decide) hN
          have hn42 : gal 62 = 10 := rfl
          refine lv_iload_n hx hb dX10_clause_144 rfl (lv_at hl 0 rfl) ?_
          obtain ⟨hi43, h⟩ := gc_s h
          refine gx_mga F G hk40 ht41 hn42 hi43 dX10_clause_145 ?_
          refine lv_iconst (v := 0) hx hb dX10_clause_146 (by decide) ?_
          refine lv_aload_n hx hb dX10_clause_147 rfl (lv_at hl 1 rfl) ?_
          refine lv_iconst (v := 0) hx hb dX10_clause_148 (by decide) ?_
          refine lv_aload_n hx hb dX10_clause_149 rfl (lv_at hl 1 rfl) ?_
          refine fg_10_readTold F G hk1 ht2 in10 (by decide +kernel) dX10_clause_150 ?_
          have hk44 : gck 58 = 22 := rfl
          have ht45 : 58 < N := Nat.lt_of_lt_of_le (by decide) hN
          have hn46 : gal 58 = 4 := rfl
          refine lv_iconst (v := 0) hx hb dX10_clause_153 (by decide) ?_
          refine gx_mia F G hk44 ht45 hn46 (by decide) dX10_clause_154 ?_
          refine lv_iconst (v := 1) hx hb dX10_clause_155 (by decide) ?_
          refine lv_isub hx hb dX10_clause_156 ?_
          obtain ⟨r49, c50, hc48, h⟩ := gb2_s h
          refine gx_calli F G (va_runV (As := [.int 0, .int ((c12.1 58 (0 : Int32).toNatClampNeg) - 1)]) (rest := [.int 0, .ref (ad (62 + 1 + v13.toNatClampNeg))]) (gx_fix F) (c_X10_number l sa D ad cy N H.size hN hI c0 c12 hc48) (cwV 2 hts gX10_clause_X10_number rfl rfl rfl (by decide +kernel) ⟨by decide, by decide⟩) (gx_rec F G ht2 (gwe_10 hk1) rfl) rfl rfl hl.1 rfl (lv_room (Nat.le_of_ble_eq_true rfl)) dX10_clause_157 ⟨Nat.zero_le _, Nat.zero_le _⟩) (fun H locs G => ?_)
          obtain ⟨hk51, h⟩ := gc_s h
          have ht52 : (62 + 1 + v13.toNatClampNeg) < N := Nat.lt_of_lt_of_le (gck_lt22 hk51) hN
          obtain ⟨hi53, h⟩ := gc_s h
          refine gx_mis F G hk51 ht52 rfl hi53 dX10_clause_160 (fun H locs G => ?_)
          obtain ⟨c54, ec54⟩ : ∃ z, z = gm_r c50 (62 + 1 + v13.toNatClampNeg) (upd (c50.1 (62 + 1 + v13.toNatClampNeg)) (0 : Int32).toNatClampNeg r49) := ⟨_, rfl⟩
          rw [← ec54] at G
          replace h := gv_s h c54 ec54
          refine lv_aload_n hx hb dX10_clause_161 rfl (lv_at hl 1 rfl) ?_
          refine fg_10_readCry F G hk1 ht2 in10 (by decide +kernel) dX10_clause_162 ?_
          refine lv_iload_n hx hb dX10_clause_165 rfl (lv_at hl 0 rfl) ?_
          obtain ⟨hi55, h⟩ := gc_s h
          refine gx_mga F G hk40 ht41 hn42 hi55 dX10_clause_166 ?_
          refine lv_iconst (v := 1) hx hb dX10_clause_167 (by decide) ?_
          refine lv_aload_n hx hb dX10_clause_168 rfl (lv_at hl 1 rfl) ?_
          refine lv_iconst (v := 1) hx hb dX10_clause_169 (by decide) ?_
          refine lv_bipush (v := 9) hx hb dX10_clause_170 (by decide) ?_
          obtain ⟨r57, c58, hc56, h⟩ := gb2_s h
          refine gx_calli F G (va_runV (As := [.int 1, .int 9]) (rest := [.int 1, .ref (ad (62 + 1 + v13.toNatClampNeg))]) (gx_fix F) (c_X10_number l sa D ad cy N H.size hN hI c0 c54 hc56) (cwV 2 hts gX10_clause_X10_number rfl rfl rfl (by decide +kernel) ⟨by decide, by decide⟩) (gx_rec F G ht2 (gwe_10 hk1) rfl) rfl rfl hl.1 rfl (lv_room (Nat.le_of_ble_eq_true rfl)) dX10_clause_172 ⟨Nat.zero_le _, Nat.zero_le _⟩) (fun H locs G => ?_)
          obtain ⟨hi59, h⟩ := gc_s h
          refine gx_mis F G hk51 ht52 rfl hi59 dX10_clause_175 (fun H locs G => ?_)
          obtain ⟨c60, ec60⟩ : ∃ z, z = gm_r c58 (62 + 1 + v13.toNatClampNeg) (upd (c58.1 (62 + 1 + v13.toNatClampNeg)) (1 : Int32).toNatClampNeg r57) := ⟨_, rfl⟩
          rw [← ec60] at G
          replace h := gv_s h c60 ec60
          refine lv_aload_n hx hb dX10_clause_176 rfl (lv_at hl 1 rfl) ?_
          refine fg_10_readCry F G hk1 ht2 in10 (by decide +kernel) dX10_clause_177 ?_
          refine lv_iload_n hx hb dX10_clause_180 rfl (lv_at hl 0 rfl) ?_
          obtain ⟨hi61, h⟩ := gc_s h
          refine gx_mga F G hk40 ht41 hn42 hi61 dX10_clause_181 ?_
          refine lv_iconst (v := 2) hx hb dX10_clause_182 (by decide) ?_
          refine lv_aload_n hx hb dX10_clause_183 rfl (lv_at hl 1 rfl) ?_
          refine lv_aload_n hx hb dX10_clause_184 rfl (lv_at hl 1 rfl) ?_
          refine fg_10_readCry F G hk1 ht2 in10 (by decide +kernel) dX10_clause_185 ?_
          refine lv_iload_n hx hb dX10_clause_188 rfl (lv_at hl 0 rfl) ?_
          obtain ⟨hi62, h⟩ := gc_s h
          refine gx_mga F G hk40 ht41 hn42 hi62 dX10_clause_189 ?_
          refine lv_iconst (v := 0) hx hb dX10_clause_190 (by decide) ?_
          obtain ⟨hi63, h⟩ := gc_s h
          refine gx_mia F G hk51 ht52 rfl hi63 dX10_clause_191 ?_
          refine lv_aload_n hx hb dX10_clause_192 rfl (lv_at hl 1 rfl) ?_
          refine fg_10_readTold F G hk1 ht2 in10 (by decide +kernel) dX10_clause_193 ?_
          refine lv_iconst (v := 0) hx hb dX10_clause_196 (by decide) ?_
          refine gx_mia F G hk44 ht45 hn46 (by decide) dX10_clause_197 ?_
          obtain ⟨r66, c67, hc65, h⟩ := gb2_s h
          refine gx_calli F G (va_runV (As := [.int (c60.1 (62 + 1 + v13.toNatClampNeg) (0 : Int32).toNatClampNeg), .int (c60.1 58 (0 : Int32).toNatClampNeg)]) (rest := [.int 2, .ref (ad (62 + 1 + v13.toNatClampNeg))]) (gx_fix F) (c_X10_otherThing l sa D ad cy N H.size hN hI c0 c60 hc65) (cwV 2 hts gX10_clause_X10_otherThing rfl rfl rfl (by decide +kernel) ⟨by decide, by decide⟩) (gx_rec F G ht2 (gwe_10 hk1) rfl) rfl rfl hl.1 rfl (lv_room (Nat.le_of_ble_eq_true rfl)) dX10_clause_198 ⟨Nat.zero_le _, Nat.zero_le _⟩) (fun H locs G => ?_)
          obtain ⟨hi68, h⟩ := gc_s h
          refine gx_mis F G hk51 ht52 rfl hi68 dX10_clause_201 (fun H locs G => ?_)
          obtain ⟨c69, ec69⟩ : ∃ z, z = gm_r c67 (62 + 1 + v13.toNatClampNeg) (upd (c67.1 (62 + 1 + v13.toNatClampNeg)) (2 : Int32).toNatClampNeg r66) := ⟨_, rfl⟩
          rw [← ec69] at G
          replace h := gv_s h c69 ec69
          refine lv_aload_n hx hb dX10_clause_202 rfl (lv_at hl 1 rfl) ?_
          refine fg_10_readCry F G hk1 ht2 in10 (by decide +kernel) dX10_clause_203 ?_
          refine lv_iload_n hx hb dX10_clause_206 rfl (lv_at hl 0 rfl) ?_
          obtain ⟨hi70, h⟩ := gc_s h
          refine gx_mga F G hk40 ht41 hn42 hi70 dX10_clause_207 ?_
          refine lv_iconst (v := 3) hx hb dX10_clause_208 (by decide) ?_
          refine lv_aload_n hx hb dX10_clause_209 rfl (lv_at hl 1 rfl) ?_
          refine lv_iconst (v := 1) hx hb dX10_clause_210 (by decide) ?_
          refine lv_bipush (v := 9) hx hb dX10_clause_211 (by decide) ?_
          obtain ⟨r72, c73, hc71, h⟩ := gb2_s h
          refine gx_calli F G (va_runV (As := [.int 1, .int 9]) (rest := [.int 3, .ref (ad (62 + 1 + v13.toNatClampNeg))]) (gx_fix F) (c_X10_number l sa D ad cy N H.size hN hI c0 c69 hc71) (cwV 2 hts gX10_clause_X10_number rfl rfl rfl (by decide +kernel) ⟨by decide, by decide⟩) (gx_rec F G ht2 (gwe_10 hk1) rfl) rfl rfl hl.1 rfl (lv_room (Nat.le_of_ble_eq_true rfl)) dX10_clause_213 ⟨Nat.zero_le _, Nat.zero_le _⟩) (fun H locs G => ?_)
          obtain ⟨hi74, h⟩ := gc_s h
          refine gx_mis F G hk51 ht52 rfl hi74 dX10_clause_216 (fun H locs G => ?_)
          obtain ⟨c75, ec75⟩ : ∃ z, z = gm_r c73 (62 + 1 + v13.toNatClampNeg) (upd (c73.1 (62 + 1 + v13.toNatClampNeg)) (3 : Int32).toNatClampNeg r72) := ⟨_, rfl⟩
          rw [← ec75] at G
          replace h := gv_s h c75 ec75
          refine lv_goto (tgt := 263) hx hb dX10_clause_217 (by decide) ?_
          exact JK16 _ _ _ _ h G (lv_sub hl [1, 2] rfl)
        replace h := gf_s q39 h
        have nn76 := lv_neT q30 (show (0 : Int32).toInt = 0 by decide)
        have nn77 := lv_neT q39 (show (1 : Int32).toInt = 1 by decide)
        refine lv_lookup (tgt := 220) hx hb dX10_clause_97 (by decide) (off := 123) (by show Op.lookupswitch.offset [(0, 27), (1, 43)] 123 _ = _; rw [lv_osw q30 (show (0 : Int32).toInt = 0 by decide), lv_osw q39 (show (1 : Int32).toInt = 1 by decide)]; rfl) (by decide) ?_
        refine lv_aload_n hx hb dX10_clause_220 rfl (lv_at hl 1 rfl) ?_
        refine lv_iconst (v := 0) hx hb dX10_clause_221 (by decide) ?_
        refine lv_bipush (v := 18) hx hb dX10_clause_222 (by decide) ?_
        obtain ⟨r79, c80, hc78, h⟩ := gb2_s h
        refine gx_calli F G (va_runV (As := [.int 0, .int 18]) (rest := []) (gx_fix F) (c_X10_number l sa D ad cy N H.size hN hI c0 c12 hc78) (cwV 2 hts gX10_clause_X10_number rfl rfl rfl (by decide +kernel) ⟨by decide, by decide⟩) (gx_rec F G ht2 (gwe_10 hk1) rfl) rfl rfl hl.1 rfl (lv_room (Nat.le_of_ble_eq_true rfl)) dX10_clause_224 ⟨Nat.zero_le _, Nat.zero_le _⟩) (fun H locs G => ?_)
        refine lv_istore_n (lv' := [(3, .int r79), (2, .int v13), (0, .ref (ad t)), (1, .int r4)]) hx hb dX10_clause_227 rfl hl (by decide) rfl (fun ls hl => ?_)
        refine lv_aload_n hx hb dX10_clause_228 rfl (lv_at hl 2 rfl) ?_
        refine lv_iconst (v := 0) hx hb dX10_clause_229 (by decide) ?_
        refine lv_bipush (v := 9) hx hb dX10_clause_230 (by decide) ?_
        obtain ⟨r82, c83, hc81, h⟩ := gb2_s h
        refine gx_calli F G (va_runV (As := [.int 0, .int 9]) (rest := []) (gx_fix F) (c_X10_number l sa D ad cy N H.size hN hI c0 c80 hc81) (cwV 2 hts gX10_clause_X10_number rfl rfl rfl (by decide +kernel) ⟨by decide, by decide⟩) (gx_rec F G ht2 (gwe_10 hk1) rfl) rfl rfl hl.1 rfl (lv_room (Nat.le_of_ble_eq_true rfl)) dX10_clause_232 ⟨Nat.zero_le _, Nat.zero_le _⟩) (fun H locs G => ?_)
        refine lv_istore (lv' := [(4, .int r82), (3, .int r79), (2, .int v13), (0, .ref (ad t)), (1, .int r4)]) hx hb dX10_clause_235 hl (by decide) rfl (fun ls hl => ?_)
        refine lv_aload_n hx hb dX10_clause_237 rfl (lv_at hl 3 rfl) ?_
        refine fg_10_fault F G hk1 ht2 in10 (by decide +kernel) dX10_clause_238 ?_
        refine lv_if_eq (tgt := 245) hx hb dX10_clause_241 (by decide) (fun q84 => ?_) (fun q84 => ?_)
        · replace h := gt_s q84 h
          refine lv_aload_n hx hb dX10_clause_245 rfl (lv_at hl 3 rfl) ?_
          refine fg_10_readTold F G hk1 ht2 in10 (by decide +kernel) dX10_clause_246 ?_
          have hk85 : gck 58 = 22 := rfl
          have ht86 : 58 < N := Nat.lt_of_lt_of_le (by decide) hN
          have hn87 : gal 58 = 4 := rfl
          refine lv_iconst (v := 2) hx hb dX10_clause_249 (by decide) ?_
          refine lv_iload_n hx hb dX10_clause_250 rfl (lv_at hl 1 rfl) ?_
          refine gx_mis F G hk85 ht86 hn87 (by decide) dX10_clause_251 (fun H locs G => ?_)
          obtain ⟨c89, ec89⟩ : ∃ z, z = gm_r c83 58 (upd (c83.1 58) (2 : Int32).toNatClampNeg r79) := ⟨_, rfl⟩
          rw [← ec89] at G
          replace h := gv_s h c89 ec89
          refine lv_aload_n hx hb dX10_clause_252 rfl (lv_at hl 3 rfl) ?_
          refine fg_10_readTold F G hk1 ht2 in10 (by decide +kernel) dX10_clause_253 ?_
          refine lv_iconst (v := 3) hx hb dX10_clause_256 (by decide) ?_
          refine lv_iload hx hb dX10_clause_257 (lv_at hl 0 rfl) ?_
          refine gx_mis F G hk85 ht86 hn87 (by decide) dX10_clause_259 (fun H locs G => ?_)
          obtain ⟨c91, ec91⟩ : ∃ z, z = gm_r c89 58 (upd (c89.1 58) (3 : Int32).toNatClampNeg r82) := ⟨_, rfl⟩
          rw [← ec91] at G
          replace h := gv_s h c91 ec91
          refine lv_goto (tgt := 263) hx hb dX10_clause_260 (by decide) ?_
          exact JK16 _ _ _ _ h G (lv_sub hl [3, 4] rfl)
        · replace h := gf_s q84 h
          cases h
          rw [← hQ]
          exact gx_vret F G hr hlocks dX10_clause_244
      refine lv_icmp_ge (tgt := 94) hx hb dX10_clause_82 (by decide) (fun q92 => ?_) (fun q92 => ?_)
      · replace h := gt_s q92 h
        refine lv_iconst (v := 0) hx hb dX10_clause_94 (by decide) ?_
        exact JK14 _ _ _ _ h G hl
      · replace h := gf_s q92 h
        refine lv_aload_n hx hb dX10_clause_85 rfl (lv_at hl 0 rfl) ?_
        refine fg_10_readTold F G hk1 ht2 in10 (by decide +kernel) dX10_clause_86 ?_
        have hk93 : gck 58 = 22 := rfl
        have ht94 : 58 < N := Nat.lt_of_lt_of_le (by decide) hN
        have hn95 : gal 58 = 4 := rfl
        refine lv_iload_n hx hb dX10_clause_89 rfl (lv_at hl 1 rfl) ?_
        obtain ⟨hi96, h⟩ := gc_s h
        refine gx_mia F G hk93 ht94 hn95 hi96 dX10_clause_90 ?_
        refine lv_goto (tgt := 95) hx hb dX10_clause_91 (by decide) ?_
        exact JK14 _ _ _ _ h G hl
    · replace h := gf_s q8 h
      cases h
      rw [← hQ]
      exact gx_vret F G hr hlocks dX10_clause_65
  refine lv_icmp_ne (tgt := 22) hx hb dX10_clause_7 (by decide) (fun q97 => ?_) (fun q97 => ?_)
  · replace h := gf_s q97 h
    refine lv_aload_n hx hb dX10_clause_22 rfl (lv_at hl 1 rfl) ?_
    refine fg_10_clauses F G hk1 ht2 in10 (by decide +kernel) dX10_clause_23 ?_
    refine lv_bipush (v := 60) hx hb dX10_clause_26 (by decide) ?_
    obtain ⟨K98, eK98, h⟩ := gj_s h
    have JK98 : ∀ (H : Heap) (locs : List Loc) (ls : Array Slot), K98 () = some cZ → gW D ad cy N A s.heap c0 c5 H locs → lv_has ls 5 [(0, .ref (ad t)), (1, .int r4)] → W p l e rmX10_clause s m args below meth cod H locs 0 0 Q (F0 m 49 ls []) := by
      intro  H locs ls h G hl
      rw [eK98] at h
      refine lv_aload_n hx hb dX10_clause_49 rfl (lv_at hl 0 rfl) ?_
      refine lv_iconst (v := 3) hx hb dX10_clause_50 (by decide) ?_
      refine lv_aload_n hx hb dX10_clause_51 rfl (lv_at hl 0 rfl) ?_
      refine fg_10_at F G hk1 ht2 in10 (by decide +kernel) dX10_clause_52 ?_
      obtain ⟨c101, hc99, h⟩ := gb_s h
      refine gx_callv F G (va_runV (As := [.int 3, .int (c5.1 t 4)]) (rest := []) (gx_fix F) (c_X10_wrong l sa D ad cy N H.size hN hI c0 c5 hc99) (cwV 2 hts gX10_clause_X10_wrong rfl rfl rfl (by decide +kernel) ⟨by decide, by decide⟩) (gx_rec F G ht2 (gwe_10 hk1) rfl) rfl rfl hl.1 rfl (lv_room (Nat.le_of_ble_eq_true rfl)) dX10_clause_55 ⟨Nat.zero_le _, Nat.zero_le _⟩) (fun H locs G => ?_)
      exact JK7 _ _ _ _ h G hl
    refine lv_icmp_eq (tgt := 49) hx hb dX10_clause_28 (by decide) (fun q102 => ?_) (fun q102 => ?_)
    · replace h := gt_s q102 h
      exact JK98  _ _ _ h G (lv_sub hl [1, 0] rfl)
    · replace h := gf_s q102 h
      refine lv_iload_n hx hb dX10_clause_31 rfl (lv_at hl 0 rfl) ?_
      refine lv_iconst (v := 2) hx hb dX10_clause_32 (by decide) ?_
      refine lv_icmp_ge (tgt := 58) hx hb dX10_clause_33 (by decide) (fun q103 => ?_) (fun q103 => ?_)
      · replace h := gt_s q103 h
        exact JK7 _ _ _ _ h G (lv_sub hl [1, 0] rfl)
      · replace h := gf_s q103 h
        refine lv_aload_n hx hb dX10_clause_36 rfl (lv_at hl 1 rfl) ?_
        refine fg_10_readTold F G hk1 ht2 in10 (by decide +kernel) dX10_clause_37 ?_
        have hk104 : gck 58 = 22 := rfl
        have ht105 : 58 < N := Nat.lt_of_lt_of_le (by decide) hN
        have hn106 : gal 58 = 4 := rfl
        refine lv_iload_n hx hb dX10_clause_40 rfl (lv_at hl 0 rfl) ?_
        obtain ⟨hi107, h⟩ := gc_s h
        refine gx_mia F G hk104 ht105 hn106 hi107 dX10_clause_41 ?_
        refine lv_iload_n hx hb dX10_clause_42 rfl (lv_at hl 0 rfl) ?_
        obtain ⟨r109, hc108, h⟩ := gb_s h
        refine gx_calli F G (va_runS (As := [.int r4]) (rest := [.int (c5.1 58 r4.toNatClampNeg)]) (gx_fix F) (c_X10_mostOf l sa D ad cy N H.size hN hI c0 c5 hc108) (va_cwS 1 hts gX10_clause_X10_mostOf rfl rfl rfl (by decide +kernel) ⟨by decide, by decide⟩) (gx_pre F G) rfl rfl hl.1 rfl (lv_room (Nat.le_of_ble_eq_true rfl)) dX10_clause_43 ⟨Nat.zero_le _, Nat.zero_le _⟩) (fun H locs G => ?_)
        refine lv_icmp_ne (tgt := 58) hx hb dX10_clause_46 (by decide) (fun q110 => ?_) (fun q110 => ?_)
        · replace h := gf_s q110 h
          exact JK7 _ _ _ _ h G (lv_sub hl [1, 0] rfl)
        · replace h := gt_s q110 h
          exact JK98  _ _ _ h G (lv_sub hl [1, 0] rfl)
  · replace h := gt_s q97 h
    refine lv_aload_n hx hb dX10_clause_10 rfl (lv_at hl 1 rfl) ?_
    refine lv_iconst (v := 1) hx hb dX10_clause_11 (by decide) ?_
    refine lv_aload_n hx hb dX10_clause_12 rfl (lv_at hl 1 rfl) ?_
    refine fg_10_at F G hk1 ht2 in10 (by decide +kernel) dX10_clause_13 ?_
    obtain ⟨c113, hc111, h⟩ := gb_s h
    refine gx_callv F G (va_runV (As := [.int 1, .int (c5.1 t 4)]) (rest := []) (gx_fix F) (c_X10_wrong l sa D ad cy N H.size hN hI c0 c5 hc111) (cwV 2 hts gX10_clause_X10_wrong rfl rfl rfl (by decide +kernel) ⟨by decide, by decide⟩) (gx_rec F G ht2 (gwe_10 hk1) rfl) rfl rfl hl.1 rfl (lv_room (Nat.le_of_ble_eq_true rfl)) dX10_clause_16 ⟨Nat.zero_le _, Nat.zero_le _⟩) (fun H locs G => ?_)
    refine lv_goto (tgt := 58) hx hb dX10_clause_19 (by decide) ?_
    exact JK7 _ _ _ _ h G (lv_sub hl [1, 0] rfl)
def m_X10_market_L42 (n : Nat) (t : Nat) (c19 : gm) : Option ((gm) ⊕ (gm)) :=
  (if (c19.1 t 5) = 0 then (if (c19.1 t 2) ≤ (c19.1 t 4) then some (.inr c19) else gb (m_X10_clause n t c19) (fun (c37 : gm) => gb (m_X10_blanks n t c37) (fun (c40 : gm) => some (.inl c40)))) else some (.inr c19))
def m_X10_market (n : Nat) (t : Nat) (a1 : Int32) (c : gm) : Option (Int32 × gm) :=
  gc (gck t = 10) (gv (gm_r c t (upd (c.1 t) 0 0)) (fun (c3 : gm) => gb (m_X10_in a1 0 (c3.1 t 1)) (fun (r5 : Int32) => gj (fun (v6 : Int32) => gb2 (m_X10_bad t v6 1 1 c3) (fun (r9 : Int32) (c10 : gm) => (if r9 = 0 then gb (m_X10_starts n t a1 c10) (fun (c14 : gm) => gb (m_X10_tellsNothing t c14) (fun (c17 : gm) => gb (gloop (fun (c19 : gm) => m_X10_market_L42 n t c19) n c17) (fun (c20 : gm) => (if (c20.1 t 5) = 0 then gv (gm_r c20 t (upd (c20.1 t) 3 (-1))) (fun (c22 : gm) => gb (m_X10_beginsAnew n t c22) (fun (c25 : gm) => some ((c25.1 59 (0 : Int32).toNatClampNeg), c25))) else gb2 (m_X10_ends t c20) (fun (r31 : Int32) (c32 : gm) => some (r31, c32)))))) else some (0, c10)))) (fun K7 => (if r5 = 0 then K7 1 else K7 0)))))
abbrev rmX10_market : Room := { frames := 6, cells := 0, slots := 0, locals := 133 }
set_option maxHeartbeats 4000000 in
set_option maxRecDepth 100000 in
theorem c_X10_market (l : Launch) (sa : gSa) (D : va_G) (ad : Nat → Nat) (cy : Nat → ClassId) (N sz : Nat) (hN : 530 ≤ N) (hI : gI ad N) (c0 c : gm) {n : Nat} {t : Nat} {a1 : Int32} {rZ : Int32} {cZ : gm} (h : m_X10_market n t a1 c = some (rZ, cZ)) : Met l yX10_market wsX10_market rmX10_market (va_Pc [.ref (ad t), .int a1] (gP sa D ad cy N sz c0 c)) (va_Qi (fun (z : Int32) (_ : Unit) => z = rZ) (fun _ U => gE D ad cy N c0 cZ U) (gA ad N sz)) 0 0 (gA ad N sz) := by
  refine Met.ofW (cc := cX10_market) (maxL := 2) (ret := (some .int)) (by decide) rfl ?_
  intro p e s m args below meth cod s₁ B hml hv
  obtain ⟨rfl, hsz, hP, hK, hZ⟩ := hv
  have hx := B.exec
  have hb := B.bytes
  have hr := B.returns
  have hts := atoms_spec (ws := wsX10_market) B.pre
  have hown : s.vm.findClass RX10 = some m.cls := findClass_of_methodNamed B.named
  have hlocks := B.notSynchronized
  subst hsz
  have hl := lv_entry ([.ref (ad t), .int a1]) (n := 2) (Nat.le_of_ble_eq_true rfl)
  rw [lg_entry_eq]
  generalize (lg_sl ([.ref (ad t), .int a1]) ++ List.replicate (2 - (lg_sl ([.ref (ad t), .int a1])).length) Slot.unset).toArray = ls at hl ⊢
  have hl : lv_has ls 2 [(0, .ref (ad t)), (1, .int a1)] := hl
  have in10 : ∀ w ∈ wsX100, w ∈ wsX10_market := by decide +kernel
  generalize hargs : ([.ref (ad t), .int a1] : List Value).toArray = args at *
  generalize hAe : gA ad N s.heap.size = A
  have F : gF sa D ad cy N A p s m args cod cX10_market 2 wsX10_market RX10 := ⟨hx, hb, hml, hown, hts, hK, hI, by rw [← hAe]; exact gA_ad, by rw [← hAe]; exact gA_sz, by rw [← hAe]; exact hZ⟩
  have G : gW D ad cy N A s.heap c0 c s.heap [] := ⟨hP, va_S.rf⟩
  generalize hQ : MQ below (va_Qi (fun (z : Int32) (_ : Unit) => z = rZ) (fun _ U => gE D ad cy N c0 cZ U) A) args s 0 0 A = Q
  suffices hgen : ∀ (H : Heap) (locs : List Loc), gW D ad cy N A s.heap c0 c H locs → W p l e rmX10_market s m args below meth cod H locs 0 0 Q (F0 m 0 ls []) from hgen _ _ G
  clear G
  intro H locs G
  unfold m_X10_market at h
  refine lv_aload_n hx hb dX10_market_0 rfl (lv_at hl 0 rfl) ?_
  refine lv_iconst (v := 0) hx hb dX10_market_1 (by decide) ?_
  obtain ⟨hk1, h⟩ := gc_s h
  have ht2 : t < N := Nat.lt_of_lt_of_le (gck_lt10 hk1) hN
  refine fp_10_thrown F G hk1 ht2 in10 (by decide +kernel) dX10_market_2 (fun H locs G => ?_)
  obtain ⟨c3, ec3⟩ : ∃ z, z = gm_r c t (upd (c.1 t) 0 0) := ⟨_, rfl⟩
  rw [← ec3] at G
  replace h := gv_s h c3 ec3
  refine lv_aload_n hx hb dX10_market_5 rfl (lv_at hl 0 rfl) ?_
  refine lv_iload_n hx hb dX10_market_6 rfl (lv_at hl 1 rfl) ?_
  refine lv_iconst (v := 0) hx hb dX10_market_7 (by decide) ?_
  refine lv_aload_n hx hb dX10_market_8 rfl (lv_at hl 0 rfl) ?_
  refine fg_10_tape F G hk1 ht2 in10 (by decide +kernel) dX10_market_9 ?_
  obtain ⟨r5, hc4, h⟩ := gb_s h
  refine gx_calli F G (va_runS (As := [.int a1, .int 0, .int (c3.1 t 1)]) (rest := [.ref (ad t)]) (gx_fix F) (c_X10_in l sa D ad cy N H.size hN hI c0 c3 hc4) (va_cwS 3 hts gX10_market_X10_in rfl rfl rfl (by decide +kernel) ⟨by decide, by decide⟩) (gx_pre F G) rfl rfl hl.1 rfl (lv_room (Nat.le_of_ble_eq_true rfl)) dX10_market_12 ⟨Nat.zero_le _, Nat.zero_le _⟩) (fun H locs G => ?_)
  obtain ⟨K7, eK7, h⟩ := gj_s h
  have JK7 : ∀ (v6 : Int32) (H : Heap) (locs : List Loc) (ls : Array Slot), K7 v6 = some (rZ, cZ) → gW D ad cy N A s.heap c0 c3 H locs → lv_has ls 2 [(0, .ref (ad t)), (1, .int a1)] → W p l e rmX10_market s m args below meth cod H locs 0 0 Q (F0 m 23 ls [.int v6, .ref (ad t)]) := by
    intro v6 H locs ls h G hl
    rw [eK7] at h
    refine lv_iconst (v := 1) hx hb dX10_market_23 (by decide) ?_
    refine lv_iconst (v := 1) hx hb dX10_market_24 (by decide) ?_
    obtain ⟨r9, c10, hc8, h⟩ := gb2_s h
    refine gx_calli F G (va_runV (As := [.int v6, .int 1, .int 1]) (rest := []) (gx_fix F) (c_X10_bad l sa D ad cy N H.size hN hI c0 c3 hc8) (cwV 3 hts gX10_market_X10_bad rfl rfl rfl (by decide +kernel) ⟨by decide, by decide⟩) (gx_rec F G ht2 (gwe_10 hk1) rfl) rfl rfl hl.1 rfl (lv_room (Nat.le_of_ble_eq_true rfl)) dX10_market_25 ⟨Nat.zero_le _, Nat.zero_le _⟩) (fun H locs G => ?_)
    refine lv_if_eq (tgt := 33) hx hb dX10_market_28 (by decide) (fun q11 => ?_) (fun q11 => ?_)
    · replace h := gt_s q11 h
      refine lv_aload_n hx hb dX10_market_33 rfl (lv_at hl 0 rfl) ?_
      refine lv_iload_n hx hb dX10_market_34 rfl (lv_at hl 1 rfl) ?_
      obtain ⟨c14, hc12, h⟩ := gb_s h
      refine gx_callv F G (va_runV (As := [.int a1]) (rest := []) (gx_fix F) (c_X10_starts l sa D ad cy N H.size hN hI c0 c10 hc12) (cwV 1 hts gX10_market_X10_starts rfl rfl rfl (by decide +kernel) ⟨by decide, by decide⟩) (gx_rec F G ht2 (gwe_10 hk1) rfl) rfl rfl hl.1 rfl (lv_room (Nat.le_of_ble_eq_true rfl)) dX10_market_35 ⟨Nat.zero_le _, Nat.zero_le _⟩) (fun H locs G => ?_)
      refine lv_aload_n hx hb dX10_market_38 rfl (lv_at hl 0 rfl) ?_
      obtain ⟨c17, hc15, h⟩ := gb_s h
      refine gx_callv F G (va_runV (As := []) (rest := []) (gx_fix F) (c_X10_tellsNothing l sa D ad cy N H.size hN hI c0 c14 hc15) (cwV 0 hts gX10_market_X10_tellsNothing rfl rfl rfl (by decide +kernel) ⟨by decide, by decide⟩) (gx_rec F G ht2 (gwe_10 hk1) rfl) rfl rfl hl.1 rfl (lv_room (Nat.le_of_ble_eq_true rfl)) dX10_market_39 ⟨Nat.zero_le _, Nat.zero_le _⟩) (fun H locs G => ?_)
      obtain ⟨b18, hb18, hK18⟩ := gb_s h
      have E18 : ∀ (c20 : gm) (H : Heap) (locs : List Loc) (ls : Array Slot), (c20 : gm) = b18 → gW D ad cy N A s.heap c0 c20 H locs → lv_has ls 2 [(0, .ref (ad t))] → W p l e rmX10_market s m args below meth cod H locs 0 0 Q (F0 m 71 ls []) := by
        intro c20 H locs ls hq18 G hl
        subst hq18
        replace hK18 := hK18
        have h := hK18
        refine lv_aload_n hx hb dX10_market_71 rfl (lv_at hl 0 rfl) ?_
        refine fg_10_fault F G hk1 ht2 in10 (by decide +kernel) dX10_market_72 ?_
        refine lv_if_eq (tgt := 83) hx hb dX10_market_75 (by decide) (fun q21 => ?_) (fun q21 => ?_)
        · replace h := gt_s q21 h
          refine lv_aload_n hx hb dX10_market_83 rfl (lv_at hl 0 rfl) ?_
          refine lv_iconst (v := (-1)) hx hb dX10_market_84 (by decide) ?_
          refine fp_10_place F G hk1 ht2 in10 (by decide +kernel) dX10_market_85 (fun H locs G => ?_)
          obtain ⟨c22, ec22⟩ : ∃ z, z = gm_r c20 t (upd (c20.1 t) 3 (-1)) := ⟨_, rfl⟩
          rw [← ec22] at G
          replace h := gv_s h c22 ec22
          refine lv_aload_n hx hb dX10_market_88 rfl (lv_at hl 0 rfl) ?_
          obtain ⟨c25, hc23, h⟩ := gb_s h
          refine gx_callv F G (va_runV (As := []) (rest := []) (gx_fix F) (c_X10_beginsAnew l sa D ad cy N H.size hN hI c0 c22 hc23) (cwV 0 hts gX10_market_X10_beginsAnew rfl rfl rfl (by decide +kernel) ⟨by decide, by decide⟩) (gx_rec F G ht2 (gwe_10 hk1) rfl) rfl rfl hl.1 rfl (lv_room (Nat.le_of_ble_eq_true rfl)) dX10_market_89 ⟨Nat.zero_le _, Nat.zero_le _⟩) (fun H locs G => ?_)
          refine lv_aload_n hx hb dX10_market_92 rfl (lv_at hl 0 rfl) ?_
          refine fg_10_told F G hk1 ht2 in10 (by decide +kernel) dX10_market_93 ?_
          have hk26 : gck 59 = 22 := rfl
          have ht27 : 59 < N := Nat.lt_of_lt_of_le (by decide) hN
          have hn28 : gal 59 = 4 := rfl
          refine lv_iconst (v := 0) hx hb dX10_market_96 (by decide) ?_
          refine gx_mia F G hk26 ht27 hn28 (by decide) dX10_market_97 ?_
          cases h
          rw [← hQ]
          exact gx_iret F G hr hlocks dX10_market_98
        · replace h := gf_s q21 h
          refine lv_aload_n hx hb dX10_market_78 rfl (lv_at hl 0 rfl) ?_
          obtain ⟨r31, c32, hc30, h⟩ := gb2_s h
          refine gx_calli F G (va_runV (As := []) (rest := []) (gx_fix F) (c_X10_ends l sa D ad cy N H.size hN hI c0 c20 hc30) (cwV 0 hts gX10_market_X10_ends rfl rfl rfl (by decide +kernel) ⟨by decide, by decide⟩) (gx_rec F G ht2 (gwe_10 hk1) rfl) rfl rfl hl.1 rfl (lv_room (Nat.le_of_ble_eq_true rfl)) dX10_market_79 ⟨Nat.zero_le _, Nat.zero_le _⟩) (fun H locs G => ?_)
          cases h
          rw [← hQ]
          exact gx_iret F G hr hlocks dX10_market_82
      have L18 : ∀ (n9 : Nat) (c19 : gm) (H : Heap) (locs : List Loc) (ls : Array Slot), gloop (fun (c19 : gm) => m_X10_market_L42 n t c19) n9 c19 = some b18 → gW D ad cy N A s.heap c0 c19 H locs → lv_has ls 2 [(0, .ref (ad t))] → W p l e rmX10_market s m args below meth cod H locs 0 0 Q (F0 m 42 ls []) := by
        intro n9
        induction n9 with
        | zero => intro c19 H locs ls h; exact (gloop_0 h).elim
        | succ n9 ih =>
          intro c19 H locs ls h G hl
          have ih18 := ih
          obtain ⟨o18, h, hn18⟩ := gloop_s h
          unfold m_X10_market_L42 at h
          refine lv_aload_n hx hb dX10_market_42 rfl (lv_at hl 0 rfl) ?_
          refine fg_10_fault F G hk1 ht2 in10 (by decide +kernel) dX10_market_43 ?_
          refine lv_if_ne (tgt := 71) hx hb dX10_market_46 (by decide) (fun q33 => ?_) (fun q33 => ?_)
          · replace h := gf_s q33 h
            cases h
            exact E18 _ _ _ _ (gnx_r hn18) G hl
          · replace h := gt_s q33 h
            refine lv_aload_n hx hb dX10_market_49 rfl (lv_at hl 0 rfl) ?_
            refine fg_10_at F G hk1 ht2 in10 (by decide +kernel) dX10_market_50 ?_
            refine lv_aload_n hx hb dX10_market_53 rfl (lv_at hl 0 rfl) ?_
            refine fg_10_size F G hk1 ht2 in10 (by decide +kernel) dX10_market_54 ?_
            refine lv_icmp_ge (tgt := 71) hx hb dX10_market_57 (by decide) (fun q34 => ?_) (fun q34 => ?_)
            · replace h := gt_s q34 h
              cases h
              exact E18 _ _ _ _ (gnx_r hn18) G hl
            · replace h := gf_s q34 h
              refine lv_aload_n hx hb dX10_market_60 rfl (lv_at hl 0 rfl) ?_
              obtain ⟨c37, hc35, h⟩ := gb_s h
              refine gx_callv F G (va_runV (As := []) (rest := []) (gx_fix F) (c_X10_clause l sa D ad cy N H.size hN hI c0 c19 hc35) (cwV 0 hts gX10_market_X10_clause rfl rfl rfl (by decide +kernel) ⟨by decide, by decide⟩) (gx_rec F G ht2 (gwe_10 hk1) rfl) rfl rfl hl.1 rfl (lv_room (Nat.le_of_ble_eq_true rfl)) dX10_market_61 ⟨Nat.zero_le _, Nat.zero_le _⟩) (fun H locs G => ?_)
              refine lv_aload_n hx hb dX10_market_64 rfl (lv_at hl 0 rfl) ?_
              obtain ⟨c40, hc38, h⟩ := gb_s h
              refine gx_callv F G (va_runV (As := []) (rest := []) (gx_fix F) (c_X10_blanks l sa D ad cy N H.size hN hI c0 c37 hc38) (cwV 0 hts gX10_market_X10_blanks rfl rfl rfl (by decide +kernel) ⟨by decide, by decide⟩) (gx_rec F G ht2 (gwe_10 hk1) rfl) rfl rfl hl.1 rfl (lv_room (Nat.le_of_ble_eq_true rfl)) dX10_market_65 ⟨Nat.zero_le _, Nat.zero_le _⟩) (fun H locs G => ?_)
              refine lv_goto (tgt := 42) hx hb dX10_market_68 (by decide) ?_
              cases h
              exact ih18 _ _ _ _ hn18 G hl
      exact L18 n _ _ _ _ hb18 G (lv_sub hl [0] rfl)
    · replace h := gf_s q11 h
      refine lv_iconst (v := 0) hx hb dX10_market_31 (by decide) ?_
      cases h
      rw [← hQ]
      exact gx_iret F G hr hlocks dX10_market_32
  refine lv_if_ne (tgt := 22) hx hb dX10_market_15 (by decide) (fun q41 => ?_) (fun q41 => ?_)
  · replace h := gf_s q41 h
    refine lv_iconst (v := 0) hx hb dX10_market_22 (by decide) ?_
    exact JK7 _ _ _ _ h G hl
  · replace h := gt_s q41 h
    refine lv_iconst (v := 1) hx hb dX10_market_18 (by decide) ?_
    refine lv_goto (tgt := 23) hx hb dX10_market_19 (by decide) ?_
    exact JK7 _ _ _ _ h G hl
def m_X10_copies_L2 (a1 : Nat) (a2 : Nat) (y2 : Int32) (c3 : gm) : Option ((Int32 × gm) ⊕ (gm)) :=
  (if 60 ≤ y2 then some (.inr c3) else gc (gck a1 = 22) (gc (0 ≤ y2.toInt ∧ y2.toInt < ((gal a1) : Nat)) (gc (gck a2 = 22) (gc (0 ≤ y2.toInt ∧ y2.toInt < ((gal a2) : Nat)) (gv (gm_r c3 a2 (upd (c3.1 a2) y2.toNatClampNeg (c3.1 a1 y2.toNatClampNeg))) (fun (c12 : gm) => gv (y2 + 1) (fun (x13 : Int32) => some (.inl (x13, c12)))))))))
def m_X10_copies (n : Nat) (a1 : Nat) (a2 : Nat) (c : gm) : Option (gm) :=
  gb (gloop (gu2 (fun (y2 : Int32) (c3 : gm) => m_X10_copies_L2 a1 a2 y2 c3)) n (0, c)) (fun (c4 : gm) => some c4)
abbrev rmX10_copies : Room := { frames := 0, cells := 0, slots := 0, locals := 0 }
set_option maxHeartbeats 4000000 in
set_option maxRecDepth 100000 in
theorem c_X10_copies (l : Launch) (sa : gSa) (D : va_G) (ad : Nat → Nat) (cy : Nat → ClassId) (N sz : Nat) (hN : 530 ≤ N) (hI : gI ad N) (c0 c : gm) {n : Nat} {a1 : Nat} {a2 : Nat} {cZ : gm} (h : m_X10_copies n a1 a2 c = some cZ) : Met l yX10_copies wsX10_copies rmX10_copies (va_Pc [.ref (ad a1), .ref (ad a2)] (gP sa D ad cy N sz c0 c)) (va_Qv (fun (_ : Unit) => True) (fun _ U => gE D ad cy N c0 cZ U) (gA ad N sz)) 0 0 (gA ad N sz) := by
  refine Met.ofW (cc := cX10_copies) (maxL := 3) (ret := none) (by decide) rfl ?_
  intro p e s m args below meth cod s₁ B hml hv
  obtain ⟨rfl, hsz, hP, hK, hZ⟩ := hv
  have hx := B.exec
  have hb := B.bytes
  have hr := B.returns
  have hts := atoms_spec (ws := wsX10_copies) B.pre
  have hown : s.vm.findClass RX10 = some m.cls := findClass_of_methodNamed B.named
  have hlocks := B.notSynchronized
  subst hsz
  have hl := lv_entry ([.ref (ad a1), .ref (ad a2)]) (n := 3) (Nat.le_of_ble_eq_true rfl)
  rw [lg_entry_eq]
  generalize (lg_sl ([.ref (ad a1), .ref (ad a2)]) ++ List.replicate (3 - (lg_sl ([.ref (ad a1), .ref (ad a2)])).length) Slot.unset).toArray = ls at hl ⊢
  have hl : lv_has ls 3 [(0, .ref (ad a1)), (1, .ref (ad a2))] := hl
  generalize hargs : ([.ref (ad a1), .ref (ad a2)] : List Value).toArray = args at *
  generalize hAe : gA ad N s.heap.size = A
  have F : gF sa D ad cy N A p s m args cod cX10_copies 3 wsX10_copies RX10 := ⟨hx, hb, hml, hown, hts, hK, hI, by rw [← hAe]; exact gA_ad, by rw [← hAe]; exact gA_sz, by rw [← hAe]; exact hZ⟩
  have G : gW D ad cy N A s.heap c0 c s.heap [] := ⟨hP, va_S.rf⟩
  generalize hQ : MQ below (va_Qv (fun (_ : Unit) => True) (fun _ U => gE D ad cy N c0 cZ U) A) args s 0 0 A = Q
  suffices hgen : ∀ (H : Heap) (locs : List Loc), gW D ad cy N A s.heap c0 c H locs → W p l e rmX10_copies s m args below meth cod H locs 0 0 Q (F0 m 0 ls []) from hgen _ _ G
  clear G
  intro H locs G
  unfold m_X10_copies at h
  refine lv_iconst (v := 0) hx hb dX10_copies_0 (by decide) ?_
  refine lv_istore_n (lv' := [(2, .int 0), (0, .ref (ad a1)), (1, .ref (ad a2))]) hx hb dX10_copies_1 rfl hl (by decide) rfl (fun ls hl => ?_)
  obtain ⟨b1, hb1, hK1⟩ := gb_s h
  have E1 : ∀ (c4 : gm) (H : Heap) (locs : List Loc) (ls : Array Slot), (c4 : gm) = b1 → gW D ad cy N A s.heap c0 c4 H locs → lv_has ls 3 [] → W p l e rmX10_copies s m args below meth cod H locs 0 0 Q (F0 m 20 ls []) := by
    intro c4 H locs ls hq1 G hl
    subst hq1
    replace hK1 := hK1
    have h := hK1
    cases h
    rw [← hQ]
    exact gx_vret F G hr hlocks dX10_copies_20
  have L1 : ∀ (n9 : Nat) (y2 : Int32) (c3 : gm) (H : Heap) (locs : List Loc) (ls : Array Slot), gloop (gu2 (fun (y2 : Int32) (c3 : gm) => m_X10_copies_L2 a1 a2 y2 c3)) n9 (y2, c3) = some b1 → gW D ad cy N A s.heap c0 c3 H locs → lv_has ls 3 [(0, .ref (ad a1)), (1, .ref (ad a2)), (2, .int y2)] → W p l e rmX10_copies s m args below meth cod H locs 0 0 Q (F0 m 2 ls []) := by
    intro n9
    induction n9 with
    | zero => intro y2 c3 H locs ls h; exact (gloop_0 h).elim
    | succ n9 ih =>
      intro y2 c3 H locs ls h G hl
      have ih1 := ih
      obtain ⟨o1, h, hn1⟩ := gloop_s h
      replace h := gu2_s h
      unfold m_X10_copies_L2 at h
      refine lv_iload_n hx hb dX10_copies_2 rfl (lv_at hl 2 rfl) ?_
      refine lv_bipush (v := 60) hx hb dX10_copies_3 (by decide) ?_
      refine lv_icmp_ge (tgt := 20) hx hb dX10_copies_5 (by decide) (fun q5 => ?_) (fun q5 => ?_)
      · replace h := gt_s q5 h
        cases h
        exact E1 _ _ _ _ (gnx_r hn1) G (lv_sub hl [] rfl)
      · replace h := gf_s q5 h
        refine lv_aload_n hx hb dX10_copies_8 rfl (lv_at hl 1 rfl) ?_
        refine lv_iload_n hx hb dX10_copies_9 rfl (lv_at hl 2 rfl) ?_
        refine lv_aload_n hx hb dX10_copies_10 rfl (lv_at hl 0 rfl) ?_
        refine lv_iload_n hx hb dX10_copies_11 rfl (lv_at hl 2 rfl) ?_
        obtain ⟨hk6, h⟩ := gc_s h
        have ht7 : a1 < N := Nat.lt_of_lt_of_le (gck_lt22 hk6) hN
        obtain ⟨hi8, h⟩ := gc_s h
        refine gx_mia F G hk6 ht7 rfl hi8 dX10_copies_12 ?_
        obtain ⟨hk9, h⟩ := gc_s h
        have ht10 : a2 < N := Nat.lt_of_lt_of_le (gck_lt22 hk9) hN
        obtain ⟨hi11, h⟩ := gc_s h
        refine gx_mis F G hk9 ht10 rfl hi11 dX10_copies_13 (fun H locs G => ?_)
        obtain ⟨c12, ec12⟩ : ∃ z, z = gm_r c3 a2 (upd (c3.1 a2) y2.toNatClampNeg (c3.1 a1 y2.toNatClampNeg)) := ⟨_, rfl⟩
        rw [← ec12] at G
        replace h := gv_s h c12 ec12
        obtain ⟨x13, ex13⟩ : ∃ z : Int32, z = y2 + 1 := ⟨_, rfl⟩
        replace h := gv_s h x13 ex13
        refine lv_iinc (v := x13) (lv' := [(2, .int x13), (0, .ref (ad a1)), (1, .ref (ad a2))]) hx hb dX10_copies_14 hl (k := 2) rfl (by rw [ex13]; rfl) (by decide) rfl (fun ls hl => ?_)
        refine lv_goto (tgt := 2) hx hb dX10_copies_17 (by decide) ?_
        cases h
        exact ih1 _ _ _ _ _ hn1 G (lv_sub hl [1, 2, 0] rfl)
  exact L1 n _ _ _ _ _ hb1 G (lv_sub hl [1, 2, 0] rfl)
def m_X10_notes (t : Nat) (a1 : Int32) (a2 : Int32) (c : gm) : Option (gm) :=
  gc (gck t = 10) ((if (c.1 t 5) = 0 then gc (0 ≤ (c.1 t 18).toInt ∧ (c.1 t 18).toInt < 160) (gc (gck (245 + 1 + (c.1 t 18).toNatClampNeg) = 22) (gc (0 ≤ (0 : Int32).toInt ∧ (0 : Int32).toInt < ((gal (245 + 1 + (c.1 t 18).toNatClampNeg)) : Nat)) (gv (gm_r c (245 + 1 + (c.1 t 18).toNatClampNeg) (upd (c.1 (245 + 1 + (c.1 t 18).toNatClampNeg)) (0 : Int32).toNatClampNeg a1)) (fun (c11 : gm) => gc (0 ≤ (c11.1 t 18).toInt ∧ (c11.1 t 18).toInt < 160) (gc (gck (245 + 1 + (c11.1 t 18).toNatClampNeg) = 22) (gc (0 ≤ (1 : Int32).toInt ∧ (1 : Int32).toInt < ((gal (245 + 1 + (c11.1 t 18).toNatClampNeg)) : Nat)) (gv (gm_r c11 (245 + 1 + (c11.1 t 18).toNatClampNeg) (upd (c11.1 (245 + 1 + (c11.1 t 18).toNatClampNeg)) (1 : Int32).toNatClampNeg a2)) (fun (c16 : gm) => gv (gm_r c16 t (upd (c16.1 t) 18 ((c16.1 t 18) + 1))) (fun (c17 : gm) => some c17))))))))) else some c))
abbrev rmX10_notes : Room := { frames := 0, cells := 0, slots := 0, locals := 0 }
set_option maxHeartbeats 4000000 in
set_option maxRecDepth 100000 in
theorem c_X10_notes (l : Launch) (sa : gSa) (D : va_G) (ad : Nat → Nat) (cy : Nat → ClassId) (N sz : Nat) (hN : 530 ≤ N) (hI : gI ad N) (c0 c : gm) {t : Nat} {a1 : Int32} {a2 : Int32} {cZ : gm} (h : m_X10_notes t a1 a2 c = some cZ) : Met l yX10_notes wsX10_notes rmX10_notes (va_Pc [.ref (ad t), .int a1, .int a2] (gP sa D ad cy N sz c0 c)) (va_Qv (fun (_ : Unit) => True) (fun _ U => gE D ad cy N c0 cZ U) (gA ad N sz)) 0 0 (gA ad N sz) := by
  refine Met.ofW (cc := cX10_notes) (maxL := 3) (ret := none) (by decide) rfl ?_
  intro p e s m args below meth cod s₁ B hml hv
  obtain ⟨rfl, hsz, hP, hK, hZ⟩ := hv
  have hx := B.exec
  have hb := B.bytes
  have hr := B.returns
  have hts := atoms_spec (ws := wsX10_notes) B.pre
  have hown : s.vm.findClass RX10 = some m.cls := findClass_of_methodNamed B.named
  have hlocks := B.notSynchronized
  subst hsz
  have hl := lv_entry ([.ref (ad t), .int a1, .int a2]) (n := 3) (Nat.le_of_ble_eq_true rfl)
  rw [lg_entry_eq]
  generalize (lg_sl ([.ref (ad t), .int a1, .int a2]) ++ List.replicate (3 - (lg_sl ([.ref (ad t), .int a1, .int a2])).length) Slot.unset).toArray = ls at hl ⊢
  have hl : lv_has ls 3 [(0, .ref (ad t)), (1, .int a1), (2, .int a2)] := hl
  have in10 : ∀ w ∈ wsX100, w ∈ wsX10_notes := by decide +kernel
  generalize hargs : ([.ref (ad t), .int a1, .int a2] : List Value).toArray = args at *
  generalize hAe : gA ad N s.heap.size = A
  have F : gF sa D ad cy N A p s m args cod cX10_notes 3 wsX10_notes RX10 := ⟨hx, hb, hml, hown, hts, hK, hI, by rw [← hAe]; exact gA_ad, by rw [← hAe]; exact gA_sz, by rw [← hAe]; exact hZ⟩
  have G : gW D ad cy N A s.heap c0 c s.heap [] := ⟨hP, va_S.rf⟩
  generalize hQ : MQ below (va_Qv (fun (_ : Unit) => True) (fun _ U => gE D ad cy N c0 cZ U) A) args s 0 0 A = Q
  suffices hgen : ∀ (H : Heap) (locs : List Loc), gW D ad cy N A s.heap c0 c H locs → W p l e rmX10_notes s m args below meth cod H locs 0 0 Q (F0 m 0 ls []) from hgen _ _ G
  clear G
  intro H locs G
  unfold m_X10_notes at h
  refine lv_aload_n hx hb dX10_notes_0 rfl (lv_at hl 0 rfl) ?_
  obtain ⟨hk1, h⟩ := gc_s h
  have ht2 : t < N := Nat.lt_of_lt_of_le (gck_lt10 hk1) hN
  refine fg_10_fault F G hk1 ht2 in10 (by decide +kernel) dX10_notes_1 ?_
  refine lv_if_eq (tgt := 8) hx hb dX10_notes_4 (by decide) (fun q3 => ?_) (fun q3 => ?_)
  · replace h := gt_s q3 h
    refine lv_aload_n hx hb dX10_notes_8 rfl (lv_at hl 0 rfl) ?_
    refine fg_10_readLaw F G hk1 ht2 in10 (by decide +kernel) dX10_notes_9 ?_
    have hk4 : gck 245 = 25 := rfl
    have ht5 : 245 < N := Nat.lt_of_lt_of_le (by decide) hN
    have hn6 : gal 245 = 160 := rfl
    refine lv_aload_n hx hb dX10_notes_12 rfl (lv_at hl 0 rfl) ?_
    refine fg_10_readLawMany F G hk1 ht2 in10 (by decide +kernel) dX10_notes_13 ?_
    obtain ⟨hi7, h⟩ := gc_s h
    refine gx_mga F G hk4 ht5 hn6 hi7 dX10_notes_16 ?_
    refine lv_iconst (v := 0) hx hb dX10_notes_17 (by decide) ?_
    refine lv_iload_n hx hb dX10_notes_18 rfl (lv_at hl 1 rfl) ?_
    obtain ⟨hk8, h⟩ := gc_s h
    have ht9 : (245 + 1 + (c.1 t 18).toNatClampNeg) < N := Nat.lt_of_lt_of_le (gck_lt22 hk8) hN
    obtain ⟨hi10, h⟩ := gc_s h
    refine gx_mis F G hk8 ht9 rfl hi10 dX10_notes_19 (fun H locs G => ?_)
    obtain ⟨c11, ec11⟩ : ∃ z, z = gm_r c (245 + 1 + (c.1 t 18).toNatClampNeg) (upd (c.1 (245 + 1 + (c.1 t 18).toNatClampNeg)) (0 : Int32).toNatClampNeg a1) := ⟨_, rfl⟩
    rw [← ec11] at G
    replace h := gv_s h c11 ec11
    refine lv_aload_n hx hb dX10_notes_20 rfl (lv_at hl 0 rfl) ?_
    refine fg_10_readLaw F G hk1 ht2 in10 (by decide +kernel) dX10_notes_21 ?_
    refine lv_aload_n hx hb dX10_notes_24 rfl (lv_at hl 0 rfl) ?_
    refine fg_10_readLawMany F G hk1 ht2 in10 (by decide +kernel) dX10_notes_25 ?_
    obtain ⟨hi12, h⟩ := gc_s h
    refine gx_mga F G hk4 ht5 hn6 hi12 dX10_notes_28 ?_
    refine lv_iconst (v := 1) hx hb dX10_notes_29 (by decide) ?_
    refine lv_iload_n hx hb dX10_notes_30 rfl (lv_at hl 2 rfl) ?_
    obtain ⟨hk13, h⟩ := gc_s h
    have ht14 : (245 + 1 + (c11.1 t 18).toNatClampNeg) < N := Nat.lt_of_lt_of_le (gck_lt22 hk13) hN
    obtain ⟨hi15, h⟩ := gc_s h
    refine gx_mis F G hk13 ht14 rfl hi15 dX10_notes_31 (fun H locs G => ?_)
    obtain ⟨c16, ec16⟩ : ∃ z, z = gm_r c11 (245 + 1 + (c11.1 t 18).toNatClampNeg) (upd (c11.1 (245 + 1 + (c11.1 t 18).toNatClampNeg)) (1 : Int32).toNatClampNeg a2) := ⟨_, rfl⟩
    rw [← ec16] at G
    replace h := gv_s h c16 ec16
    refine lv_aload_n hx hb dX10_notes_32 rfl (lv_at hl 0 rfl) ?_
    refine lv_dup hx hb dX10_notes_33 rfl ?_
    refine fg_10_readLawMany F G hk1 ht2 in10 (by decide +kernel) dX10_notes_34 ?_
    refine lv_iconst (v := 1) hx hb dX10_notes_37 (by decide) ?_
    refine lv_iadd hx hb dX10_notes_38 ?_
    refine fp_10_readLawMany F G hk1 ht2 in10 (by decide +kernel) dX10_notes_39 (fun H locs G => ?_)
    obtain ⟨c17, ec17⟩ : ∃ z, z = gm_r c16 t (upd (c16.1 t) 18 ((c16.1 t 18) + 1)) := ⟨_, rfl⟩
    rw [← ec17] at G
    replace h := gv_s h c17 ec17
    cases h
    rw [← hQ]
    exact gx_vret F G hr hlocks dX10_notes_42
  · replace h := gf_s q3 h
    cases h
    rw [← hQ]
    exact gx_vret F G hr hlocks dX10_notes_7
def m_X10_opensOne (t : Nat) (c : gm) : Option (Int32 × gm) :=
  gc (gck t = 10) (gj (fun (c3 : gm) => (if (c3.1 t 5) = 0 then some (1, c3) else some (0, c3))) (fun K4 => gj (fun (_ : Unit) => (if (c.1 t 5) = 0 then gv (gm_r c t (upd (c.1 t) 8 ((c.1 t 8) + 1))) (fun (c8 : gm) => K4 c8) else K4 c)) (fun K6 => (if (c.1 t 5) = 0 then (if (c.1 t 8) = 6 then gb (m_X10_wrong t 3 (c.1 t 4) c) (fun (c13 : gm) => K4 c13) else K6 ()) else K6 ()))))
abbrev rmX10_opensOne : Room := { frames := 1, cells := 0, slots := 0, locals := 22 }
set_option maxHeartbeats 4000000 in
set_option maxRecDepth 100000 in
theorem c_X10_opensOne (l : Launch) (sa : gSa) (D : va_G) (ad : Nat → Nat) (cy : Nat → ClassId) (N sz : Nat) (hN : 530 ≤ N) (hI : gI ad N) (c0 c : gm) {t : Nat} {rZ : Int32} {cZ : gm} (h : m_X10_opensOne t c = some (rZ, cZ)) : Met l yX10_opensOne wsX10_opensOne rmX10_opensOne (va_Pc [.ref (ad t)] (gP sa D ad cy N sz c0 c)) (va_Qi (fun (z : Int32) (_ : Unit) => z = rZ) (fun _ U => gE D ad cy N c0 cZ U) (gA ad N sz)) 0 0 (gA ad N sz) := by
  refine Met.ofW (cc := cX10_opensOne) (maxL := 1) (ret := (some .boolean)) (by decide) rfl ?_
  intro p e s m args below meth cod s₁ B hml hv
  obtain ⟨rfl, hsz, hP, hK, hZ⟩ := hv
  have hx := B.exec
  have hb := B.bytes
  have hr := B.returns
  have hts := atoms_spec (ws := wsX10_opensOne) B.pre
  have hown : s.vm.findClass RX10 = some m.cls := findClass_of_methodNamed B.named
  have hlocks := B.notSynchronized
  subst hsz
  have hl := lv_entry ([.ref (ad t)]) (n := 1) (Nat.le_of_ble_eq_true rfl)
  rw [lg_entry_eq]
  generalize (lg_sl ([.ref (ad t)]) ++ List.replicate (1 - (lg_sl ([.ref (ad t)])).length) Slot.unset).toArray = ls at hl ⊢
  have hl : lv_has ls 1 [(0, .ref (ad t))] := hl
  have in10 : ∀ w ∈ wsX100, w ∈ wsX10_opensOne := by decide +kernel
  generalize hargs : ([.ref (ad t)] : List Value).toArray = args at *
  generalize hAe : gA ad N s.heap.size = A
  have F : gF sa D ad cy N A p s m args cod cX10_opensOne 1 wsX10_opensOne RX10 := ⟨hx, hb, hml, hown, hts, hK, hI, by rw [← hAe]; exact gA_ad, by rw [← hAe]; exact gA_sz, by rw [← hAe]; exact hZ⟩
  have G : gW D ad cy N A s.heap c0 c s.heap [] := ⟨hP, va_S.rf⟩
  generalize hQ : MQ below (va_Qi (fun (z : Int32) (_ : Unit) => z = rZ) (fun _ U => gE D ad cy N c0 cZ U) A) args s 0 0 A = Q
  suffices hgen : ∀ (H : Heap) (locs : List Loc), gW D ad cy N A s.heap c0 c H locs → W p l e rmX10_opensOne s m args below meth cod H locs 0 0 Q (F0 m 0 ls []) from hgen _ _ G
  clear G
  intro H locs G
  unfold m_X10_opensOne at h
  refine lv_aload_n hx hb dX10_opensOne_0 rfl (lv_at hl 0 rfl) ?_
  obtain ⟨hk1, h⟩ := gc_s h
  have ht2 : t < N := Nat.lt_of_lt_of_le (gck_lt10 hk1) hN
  refine fg_10_fault F G hk1 ht2 in10 (by decide +kernel) dX10_opensOne_1 ?_
  obtain ⟨K4, eK4, h⟩ := gj_s h
  have JK4 : ∀ (c3 : gm) (H : Heap) (locs : List Loc) (ls : Array Slot), K4 c3 = some (rZ, cZ) → gW D ad cy N A s.heap c0 c3 H locs → lv_has ls 1 [(0, .ref (ad t))] → W p l e rmX10_opensOne s m args below meth cod H locs 0 0 Q (F0 m 45 ls []) := by
    intro c3 H locs ls h G hl
    rw [eK4] at h
    refine lv_aload_n hx hb dX10_opensOne_45 rfl (lv_at hl 0 rfl) ?_
    refine fg_10_fault F G hk1 ht2 in10 (by decide +kernel) dX10_opensOne_46 ?_
    refine lv_if_ne (tgt := 56) hx hb dX10_opensOne_49 (by decide) (fun q5 => ?_) (fun q5 => ?_)
    · replace h := gf_s q5 h
      refine lv_iconst (v := 0) hx hb dX10_opensOne_56 (by decide) ?_
      cases h
      rw [← hQ]
      exact gx_zret F G hr hlocks rfl dX10_opensOne_57
    · replace h := gt_s q5 h
      refine lv_iconst (v := 1) hx hb dX10_opensOne_52 (by decide) ?_
      refine lv_goto (tgt := 57) hx hb dX10_opensOne_53 (by decide) ?_
      cases h
      rw [← hQ]
      exact gx_zret F G hr hlocks rfl dX10_opensOne_57
  obtain ⟨K6, eK6, h⟩ := gj_s h
  have JK6 : ∀ (H : Heap) (locs : List Loc) (ls : Array Slot), K6 () = some (rZ, cZ) → gW D ad cy N A s.heap c0 c H locs → lv_has ls 1 [(0, .ref (ad t))] → W p l e rmX10_opensOne s m args below meth cod H locs 0 0 Q (F0 m 28 ls []) := by
    intro  H locs ls h G hl
    rw [eK6] at h
    refine lv_aload_n hx hb dX10_opensOne_28 rfl (lv_at hl 0 rfl) ?_
    refine fg_10_fault F G hk1 ht2 in10 (by decide +kernel) dX10_opensOne_29 ?_
    refine lv_if_ne (tgt := 45) hx hb dX10_opensOne_32 (by decide) (fun q7 => ?_) (fun q7 => ?_)
    · replace h := gf_s q7 h
      exact JK4 _ _ _ _ h G hl
    · replace h := gt_s q7 h
      refine lv_aload_n hx hb dX10_opensOne_35 rfl (lv_at hl 0 rfl) ?_
      refine lv_dup hx hb dX10_opensOne_36 rfl ?_
      refine fg_10_open F G hk1 ht2 in10 (by decide +kernel) dX10_opensOne_37 ?_
      refine lv_iconst (v := 1) hx hb dX10_opensOne_40 (by decide) ?_
      refine lv_iadd hx hb dX10_opensOne_41 ?_
      refine fp_10_open F G hk1 ht2 in10 (by decide +kernel) dX10_opensOne_42 (fun H locs G => ?_)
      obtain ⟨c8, ec8⟩ : ∃ z, z = gm_r c t (upd (c.1 t) 8 ((c.1 t 8) + 1)) := ⟨_, rfl⟩
      rw [← ec8] at G
      replace h := gv_s h c8 ec8
      exact JK4 _ _ _ _ h G hl
  refine lv_if_ne (tgt := 28) hx hb dX10_opensOne_4 (by decide) (fun q9 => ?_) (fun q9 => ?_)
  · replace h := gf_s q9 h
    exact JK6  _ _ _ h G hl
  · replace h := gt_s q9 h
    refine lv_aload_n hx hb dX10_opensOne_7 rfl (lv_at hl 0 rfl) ?_
    refine fg_10_open F G hk1 ht2 in10 (by decide +kernel) dX10_opensOne_8 ?_
    refine lv_bipush (v := 6) hx hb dX10_opensOne_11 (by decide) ?_
    refine lv_icmp_ne (tgt := 28) hx hb dX10_opensOne_13 (by decide) (fun q10 => ?_) (fun q10 => ?_)
    · replace h := gf_s q10 h
      exact JK6  _ _ _ h G hl
    · replace h := gt_s q10 h
      refine lv_aload_n hx hb dX10_opensOne_16 rfl (lv_at hl 0 rfl) ?_
      refine lv_iconst (v := 3) hx hb dX10_opensOne_17 (by decide) ?_
      refine lv_aload_n hx hb dX10_opensOne_18 rfl (lv_at hl 0 rfl) ?_
      refine fg_10_at F G hk1 ht2 in10 (by decide +kernel) dX10_opensOne_19 ?_
      obtain ⟨c13, hc11, h⟩ := gb_s h
      refine gx_callv F G (va_runV (As := [.int 3, .int (c.1 t 4)]) (rest := []) (gx_fix F) (c_X10_wrong l sa D ad cy N H.size hN hI c0 c hc11) (cwV 2 hts gX10_opensOne_X10_wrong rfl rfl rfl (by decide +kernel) ⟨by decide, by decide⟩) (gx_rec F G ht2 (gwe_10 hk1) rfl) rfl rfl hl.1 rfl (lv_room (Nat.le_of_ble_eq_true rfl)) dX10_opensOne_22 ⟨Nat.zero_le _, Nat.zero_le _⟩) (fun H locs G => ?_)
      refine lv_goto (tgt := 45) hx hb dX10_opensOne_25 (by decide) ?_
      exact JK4 _ _ _ _ h G hl
def m_X10_knownHere (n : Nat) (t : Nat) (c : gm) : Option (Int32 × gm) :=
  gc (gck t = 10) (gb2 (m_X10_takes n t 23 5 9 7 8 20 c) (fun (r4 : Int32) (c5 : gm) => (if r4 = 0 then gb (m_X10_six 23 5 9 7 8 5) (fun (r8 : Int32) => gb2 (m_X10_isSeven n t r8 100 c5) (fun (r10 : Int32) (c11 : gm) => (if r10 = 0 then gb2 (m_X10_takes n t 3 18 9 5 4 0 c11) (fun (r14 : Int32) (c15 : gm) => (if r14 = 0 then gb2 (m_X10_takes n t 20 8 9 14 7 0 c15) (fun (r18 : Int32) (c19 : gm) => (if r18 = 0 then gb2 (m_X10_takes n t 4 1 25 0 0 0 c19) (fun (r22 : Int32) (c23 : gm) => (if r22 = 0 then gb2 (m_X10_takes n t 12 5 1 14 0 0 c23) (fun (r26 : Int32) (c27 : gm) => (if r26 = 0 then gb2 (m_X10_takes n t 16 12 1 25 0 0 c27) (fun (r30 : Int32) (c31 : gm) => (if r30 = 0 then some ((-1), c31) else some (6, c31))) else some (5, c27))) else some (4, c23))) else some (3, c19))) else some (2, c15))) else some (1, c11)))) else some (0, c5))))
abbrev rmX10_knownHere : Room := { frames := 5, cells := 0, slots := 0, locals := 116 }
set_option maxHeartbeats 4000000 in
set_option maxRecDepth 100000 in
theorem c_X10_knownHere (l : Launch) (sa : gSa) (D : va_G) (ad : Nat → Nat) (cy : Nat → ClassId) (N sz : Nat) (hN : 530 ≤ N) (hI : gI ad N) (c0 c : gm) {n : Nat} {t : Nat} {rZ : Int32} {cZ : gm} (h : m_X10_knownHere n t c = some (rZ, cZ)) : Met l yX10_knownHere wsX10_knownHere rmX10_knownHere (va_Pc [.ref (ad t)] (gP sa D ad cy N sz c0 c)) (va_Qi (fun (z : Int32) (_ : Unit) => z = rZ) (fun _ U => gE D ad cy N c0 cZ U) (gA ad N sz)) 0 0 (gA ad N sz) := by
  refine Met.ofW (cc := cX10_knownHere) (maxL := 1) (ret := (some .int)) (by decide) rfl ?_
  intro p e s m args below meth cod s₁ B hml hv
  obtain ⟨rfl, hsz, hP, hK, hZ⟩ := hv
  have hx := B.exec
  have hb := B.bytes
  have hr := B.returns
  have hts := atoms_spec (ws := wsX10_knownHere) B.pre
  have hown : s.vm.findClass RX10 = some m.cls := findClass_of_methodNamed B.named
  have hlocks := B.notSynchronized
  subst hsz
  have hl := lv_entry ([.ref (ad t)]) (n := 1) (Nat.le_of_ble_eq_true rfl)
  rw [lg_entry_eq]
  generalize (lg_sl ([.ref (ad t)]) ++ List.replicate (1 - (lg_sl ([.ref (ad t)])).length) Slot.unset).toArray = ls at hl ⊢
  have hl : lv_has ls 1 [(0, .ref (ad t))] := hl
  generalize hargs : ([.ref (ad t)] : List Value).toArray = args at *
  generalize hAe : gA ad N s.heap.size = A
  have F : gF sa D ad cy N A p s m args cod cX10_knownHere 1 wsX10_knownHere RX10 := ⟨hx, hb, hml, hown, hts, hK, hI, by rw [← hAe]; exact gA_ad, by rw [← hAe]; exact gA_sz, by rw [← hAe]; exact hZ⟩
  have G : gW D ad cy N A s.heap c0 c s.heap [] := ⟨hP, va_S.rf⟩
  generalize hQ : MQ below (va_Qi (fun (z : Int32) (_ : Unit) => z = rZ) (fun _ U => gE D ad cy N c0 cZ U) A) args s 0 0 A = Q
  suffices hgen : ∀ (H : Heap) (locs : List Loc), gW D ad cy N A s.heap c0 c H locs → W p l e rmX10_knownHere s m args below meth cod H locs 0 0 Q (F0 m 0 ls []) from hgen _ _ G
  clear G
  intro H locs G
  unfold m_X10_knownHere at h
  refine lv_aload_n hx hb dX10_knownHere_0 rfl (lv_at hl 0 rfl) ?_
  refine lv_bipush (v := 23) hx hb dX10_knownHere_1 (by decide) ?_
  refine lv_iconst (v := 5) hx hb dX10_knownHere_3 (by decide) ?_
  refine lv_bipush (v := 9) hx hb dX10_knownHere_4 (by decide) ?_
  refine lv_bipush (v := 7) hx hb dX10_knownHere_6 (by decide) ?_
  refine lv_bipush (v := 8) hx hb dX10_knownHere_8 (by decide) ?_
  refine lv_bipush (v := 20) hx hb dX10_knownHere_10 (by decide) ?_
  obtain ⟨hk1, h⟩ := gc_s h
  have ht2 : t < N := Nat.lt_of_lt_of_le (gck_lt10 hk1) hN
  obtain ⟨r4, c5, hc3, h⟩ := gb2_s h
  refine gx_calli F G (va_runV (As := [.int 23, .int 5, .int 9, .int 7, .int 8, .int 20]) (rest := []) (gx_fix F) (c_X10_takes l sa D ad cy N H.size hN hI c0 c hc3) (cwV 6 hts gX10_knownHere_X10_takes rfl rfl rfl (by decide +kernel) ⟨by decide, by decide⟩) (gx_rec F G ht2 (gwe_10 hk1) rfl) rfl rfl hl.1 rfl (lv_room (Nat.le_of_ble_eq_true rfl)) dX10_knownHere_12 ⟨Nat.zero_le _, Nat.zero_le _⟩) (fun H locs G => ?_)
  refine lv_if_eq (tgt := 20) hx hb dX10_knownHere_15 (by decide) (fun q6 => ?_) (fun q6 => ?_)
  · replace h := gt_s q6 h
    refine lv_aload_n hx hb dX10_knownHere_20 rfl (lv_at hl 0 rfl) ?_
    refine lv_bipush (v := 23) hx hb dX10_knownHere_21 (by decide) ?_
    refine lv_iconst (v := 5) hx hb dX10_knownHere_23 (by decide) ?_
    refine lv_bipush (v := 9) hx hb dX10_knownHere_24 (by decide) ?_
    refine lv_bipush (v := 7) hx hb dX10_knownHere_26 (by decide) ?_
    refine lv_bipush (v := 8) hx hb dX10_knownHere_28 (by decide) ?_
    refine lv_iconst (v := 5) hx hb dX10_knownHere_30 (by decide) ?_
    obtain ⟨r8, hc7, h⟩ := gb_s h
    refine gx_calli F G (va_runS (As := [.int 23, .int 5, .int 9, .int 7, .int 8, .int 5]) (rest := [.ref (ad t)]) (gx_fix F) (c_X10_six l sa D ad cy N H.size hN hI c0 c5 hc7) (va_cwS 6 hts gX10_knownHere_X10_six rfl rfl rfl (by decide +kernel) ⟨by decide, by decide⟩) (gx_pre F G) rfl rfl hl.1 rfl (lv_room (Nat.le_of_ble_eq_true rfl)) dX10_knownHere_31 ⟨Nat.zero_le _, Nat.zero_le _⟩) (fun H locs G => ?_)
    refine lv_bipush (v := 100) hx hb dX10_knownHere_34 (by decide) ?_
    obtain ⟨r10, c11, hc9, h⟩ := gb2_s h
    refine gx_calli F G (va_runV (As := [.int r8, .int 100]) (rest := []) (gx_fix F) (c_X10_isSeven l sa D ad cy N H.size hN hI c0 c5 hc9) (cwV 2 hts gX10_knownHere_X10_isSeven rfl rfl rfl (by decide +kernel) ⟨by decide, by decide⟩) (gx_rec F G ht2 (gwe_10 hk1) rfl) rfl rfl hl.1 rfl (lv_room (Nat.le_of_ble_eq_true rfl)) dX10_knownHere_36 ⟨Nat.zero_le _, Nat.zero_le _⟩) (fun H locs G => ?_)
    refine lv_if_eq (tgt := 44) hx hb dX10_knownHere_39 (by decide) (fun q12 => ?_) (fun q12 => ?_)
    · replace h := gt_s q12 h
      refine lv_aload_n hx hb dX10_knownHere_44 rfl (lv_at hl 0 rfl) ?_
      refine lv_iconst (v := 3) hx hb dX10_knownHere_45 (by decide) ?_
      refine lv_bipush (v := 18) hx hb dX10_knownHere_46 (by decide) ?_
      refine lv_bipush (v := 9) hx hb dX10_knownHere_48 (by decide) ?_
      refine lv_iconst (v := 5) hx hb dX10_knownHere_50 (by decide) ?_
      refine lv_iconst (v := 4) hx hb dX10_knownHere_51 (by decide) ?_
      refine lv_iconst (v := 0) hx hb dX10_knownHere_52 (by decide) ?_
      obtain ⟨r14, c15, hc13, h⟩ := gb2_s h
      refine gx_calli F G (va_runV (As := [.int 3, .int 18, .int 9, .int 5, .int 4, .int 0]) (rest := []) (gx_fix F) (c_X10_takes l sa D ad cy N H.size hN hI c0 c11 hc13) (cwV 6 hts gX10_knownHere_X10_takes rfl rfl rfl (by decide +kernel) ⟨by decide, by decide⟩) (gx_rec F G ht2 (gwe_10 hk1) rfl) rfl rfl hl.1 rfl (lv_room (Nat.le_of_ble_eq_true rfl)) dX10_knownHere_53 ⟨Nat.zero_le _, Nat.zero_le _⟩) (fun H locs G => ?_)
      refine lv_if_eq (tgt := 61) hx hb dX10_knownHere_56 (by decide) (fun q16 => ?_) (fun q16 => ?_)
      · replace h := gt_s q16 h
        refine lv_aload_n hx hb dX10_knownHere_61 rfl (lv_at hl 0 rfl) ?_
        refine lv_bipush (v := 20) hx hb dX10_knownHere_62 (by decide) ?_
        refine lv_bipush (v := 8) hx hb dX10_knownHere_64 (by decide) ?_
        refine lv_bipush (v := 9) hx hb dX10_knownHere_66 (by decide) ?_
        refine lv_bipush (v := 14) hx hb dX10_knownHere_68 (by decide) ?_
        refine lv_bipush (v := 7) hx hb dX10_knownHere_70 (by decide) ?_
        refine lv_iconst (v := 0) hx hb dX10_knownHere_72 (by decide) ?_
        obtain ⟨r18, c19, hc17, h⟩ := gb2_s h
        refine gx_calli F G (va_runV (As := [.int 20, .int 8, .int 9, .int 14, .int 7, .int 0]) (rest := []) (gx_fix F) (c_X10_takes l sa D ad cy N H.size hN hI c0 c15 hc17) (cwV 6 hts gX10_knownHere_X10_takes rfl rfl rfl (by decide +kernel) ⟨by decide, by decide⟩) (gx_rec F G ht2 (gwe_10 hk1) rfl) rfl rfl hl.1 rfl (lv_room (Nat.le_of_ble_eq_true rfl)) dX10_knownHere_73 ⟨Nat.zero_le _, Nat.zero_le _⟩) (fun H locs G => ?_)
        refine lv_if_eq (tgt := 81) hx hb dX10_knownHere_76 (by decide) (fun q20 => ?_) (fun q20 => ?_)
        · replace h := gt_s q20 h
          refine lv_aload_n hx hb dX10_knownHere_81 rfl (lv_at hl 0 rfl) ?_
          refine lv_iconst (v := 4) hx hb dX10_knownHere_82 (by decide) ?_
          refine lv_iconst (v := 1) hx hb dX10_knownHere_83 (by decide) ?_
          refine lv_bipush (v := 25) hx hb dX10_knownHere_84 (by decide) ?_
          refine lv_iconst (v := 0) hx hb dX10_knownHere_86 (by decide) ?_
          refine lv_iconst (v := 0) hx hb dX10_knownHere_87 (by decide) ?_
          refine lv_iconst (v := 0) hx hb dX10_knownHere_88 (by decide) ?_
          obtain ⟨r22, c23, hc21, h⟩ := gb2_s h
          refine gx_calli F G (va_runV (As := [.int 4, .int 1, .int 25, .int 0, .int 0, .int 0]) (rest := []) (gx_fix F) (c_X10_takes l sa D ad cy N H.size hN hI c0 c19 hc21) (cwV 6 hts gX10_knownHere_X10_takes rfl rfl rfl (by decide +kernel) ⟨by decide, by decide⟩) (gx_rec F G ht2 (gwe_10 hk1) rfl) rfl rfl hl.1 rfl (lv_room (Nat.le_of_ble_eq_true rfl)) dX10_knownHere_89 ⟨Nat.zero_le _, Nat.zero_le _⟩) (fun H locs G => ?_)
          refine lv_if_eq (tgt := 97) hx hb dX10_knownHere_92 (by decide) (fun q24 => ?_) (fun q24 => ?_)
          · replace h := gt_s q24 h
            refine lv_aload_n hx hb dX10_knownHere_97 rfl (lv_at hl 0 rfl) ?_
            refine lv_bipush (v := 12) hx hb dX10_knownHere_98 (by decide) ?_
            refine lv_iconst (v := 5) hx hb dX10_knownHere_100 (by decide) ?_
            refine lv_iconst (v := 1) hx hb dX10_knownHere_101 (by decide) ?_
            refine lv_bipush (v := 14) hx hb dX10_knownHere_102 (by decide) ?_
            refine lv_iconst (v := 0) hx hb dX10_knownHere_104 (by decide) ?_
            refine lv_iconst (v := 0) hx hb dX10_knownHere_105 (by decide) ?_
            obtain ⟨r26, c27, hc25, h⟩ := gb2_s h
            refine gx_calli F G (va_runV (As := [.int 12, .int 5, .int 1, .int 14, .int 0, .int 0]) (rest := []) (gx_fix F) (c_X10_takes l sa D ad cy N H.size hN hI c0 c23 hc25) (cwV 6 hts gX10_knownHere_X10_takes rfl rfl rfl (by decide +kernel) ⟨by decide, by decide⟩) (gx_rec F G ht2 (gwe_10 hk1) rfl) rfl rfl hl.1 rfl (lv_room (Nat.le_of_ble_eq_true rfl)) dX10_knownHere_106 ⟨Nat.zero_le _, Nat.zero_le _⟩) (fun H locs G => ?_)
            refine lv_if_eq (tgt := 114) hx hb dX10_knownHere_109 (by decide) (fun q28 => ?_) (fun q28 => ?_)
            · replace h := gt_s q28 h
              refine lv_aload_n hx hb dX10_knownHere_114 rfl (lv_at hl 0 rfl) ?_
              refine lv_bipush (v := 16) hx hb dX10_knownHere_115 (by decide) ?_
              refine lv_bipush (v := 12) hx hb dX10_knownHere_117 (by decide) ?_
              refine lv_iconst (v := 1) hx hb dX10_knownHere_119 (by decide) ?_
              refine lv_bipush (v := 25) hx hb dX10_knownHere_120 (by decide) ?_
              refine lv_iconst (v := 0) hx hb dX10_knownHere_122 (by decide) ?_
              refine lv_iconst (v := 0) hx hb dX10_knownHere_123 (by decide) ?_
              obtain ⟨r30, c31, hc29, h⟩ := gb2_s h
              refine gx_calli F G (va_runV (As := [.int 16, .int 12, .int 1, .int 25, .int 0, .int 0]) (rest := []) (gx_fix F) (c_X10_takes l sa D ad cy N H.size hN hI c0 c27 hc29) (cwV 6 hts gX10_knownHere_X10_takes rfl rfl rfl (by decide +kernel) ⟨by decide, by decide⟩) (gx_rec F G ht2 (gwe_10 hk1) rfl) rfl rfl hl.1 rfl (lv_room (Nat.le_of_ble_eq_true rfl)) dX10_knownHere_124 ⟨Nat.zero_le _, Nat.zero_le _⟩) (fun H locs G => ?_)
              refine lv_if_eq (tgt := 135) hx hb dX10_knownHere_127 (by decide) (fun q32 => ?_) (fun q32 => ?_)
              · replace h := gt_s q32 h
                refine lv_iconst (v := (-1)) hx hb dX10_knownHere_135 (by decide) ?_
                cases h
                rw [← hQ]
                exact gx_iret F G hr hlocks dX10_knownHere_136
              · replace h := gf_s q32 h
                refine lv_bipush (v := 6) hx hb dX10_knownHere_130 (by decide) ?_
                refine lv_goto (tgt := 136) hx hb dX10_knownHere_132 (by decide) ?_
                cases h
                rw [← hQ]
                exact gx_iret F G hr hlocks dX10_knownHere_136
            · replace h := gf_s q28 h
              refine lv_iconst (v := 5) hx hb dX10_knownHere_112 (by decide) ?_
              cases h
              rw [← hQ]
              exact gx_iret F G hr hlocks dX10_knownHere_113
          · replace h := gf_s q24 h
            refine lv_iconst (v := 4) hx hb dX10_knownHere_95 (by decide) ?_
            cases h
            rw [← hQ]
            exact gx_iret F G hr hlocks dX10_knownHere_96
        · replace h := gf_s q20 h
          refine lv_iconst (v := 3) hx hb dX10_knownHere_79 (by decide) ?_
          cases h
          rw [← hQ]
          exact gx_iret F G hr hlocks dX10_knownHere_80
      · replace h := gf_s q16 h
        refine lv_iconst (v := 2) hx hb dX10_knownHere_59 (by decide) ?_
        cases h
        rw [← hQ]
        exact gx_iret F G hr hlocks dX10_knownHere_60
    · replace h := gf_s q12 h
      refine lv_iconst (v := 1) hx hb dX10_knownHere_42 (by decide) ?_
      cases h
      rw [← hQ]
      exact gx_iret F G hr hlocks dX10_knownHere_43
  · replace h := gf_s q6 h
    refine lv_iconst (v := 0) hx hb dX10_knownHere_18 (by decide) ?_
    cases h
    rw [← hQ]
    exact gx_iret F G hr hlocks dX10_knownHere_19
def m_X10_one (rs : (Nat → Nat → gm → Option (gm))) (n : Nat) (t : Nat) (c : gm) : Option (gm) :=
  gc (gck t = 10) ((if (c.1 t 5) = 0 then gb (m_X10_blanks n t c) (fun (c6 : gm) => gb2 (m_X10_isWord n t 12 5 1 19 20 0 c6) (fun (r8 : Int32) (c9 : gm) => gj (gu2 (fun (v10 : Int32) (c11 : gm) => (if v10 = (-1) then gb (m_X10_byteAt t (c11.1 t 4) c11) (fun (r15 : Int32) => (if r15 = 40 then gb2 (m_X10_opensOne t c11) (fun (r31 : Int32) (c32 : gm) => (if r31 = 0 then some c32 else gv (gm_r c32 t (upd (c32.1 t) 4 ((c32.1 t 4) + 1))) (fun (c34 : gm) => gb (rs n t c34) (fun (c37 : gm) => gb (m_X10_sign n t 41 c37) (fun (c40 : gm) => gv (gm_r c40 t (upd (c40.1 t) 8 ((c40.1 t 8) - 1))) (fun (c41 : gm) => some c41)))))) else gb2 (m_X10_knownHere n t c11) (fun (r18 : Int32) (c19 : gm) => (if r18 = (-1) then gb2 (m_X10_number n t 0 999 c19) (fun (r22 : Int32) (c23 : gm) => gb (m_X10_notes t 0 r22 c23) (fun (c26 : gm) => some c26)) else gb (m_X10_notes t 1 r18 c19) (fun (c29 : gm) => some c29))))) else gb2 (m_X10_opensOne t c11) (fun (r43 : Int32) (c44 : gm) => (if r43 = 0 then some c44 else gb (m_X10_skipWord n t c44) (fun (c48 : gm) => gb (m_X10_sign n t 91 c48) (fun (c51 : gm) => gb (rs n t c51) (fun (c54 : gm) => gb (m_X10_sign n t 44 c54) (fun (c57 : gm) => gb (rs n t c57) (fun (c60 : gm) => gb (m_X10_sign n t 93 c60) (fun (c63 : gm) => gb (m_X10_notes t v10 0 c63) (fun (c66 : gm) => gv (gm_r c66 t (upd (c66.1 t) 8 ((c66.1 t 8) - 1))) (fun (c67 : gm) => some c67))))))))))))) (fun K12 => (if r8 = 0 then gb2 (m_X10_isWord n t 13 15 19 20 0 0 c9) (fun (r70 : Int32) (c71 : gm) => (if r70 = 0 then K12 ((-1), c71) else K12 (8, c71))) else K12 (7, c9))))) else some c))
abbrev rmX10_sum (dd : Nat) : Room := { frames := 3 * dd + 6, cells := 0, slots := 0, locals := 64 * dd + 136 }
abbrev rmX10_one (dd : Nat) : Room := { frames := 3 * dd + 7, cells := 0, slots := 0, locals := 64 * dd + 157 }
set_option maxHeartbeats 4000000 in
set_option maxRecDepth 100000 in
theorem c_X10_one (l : Launch) (sa : gSa) (D : va_G) (ad : Nat → Nat) (cy : Nat → ClassId) (N sz : Nat) (hN : 530 ≤ N) (hI : gI ad N) (c0 c : gm) (rs : (Nat → Nat → gm → Option (gm))) (dd : Nat) (hrs : ∀ (sz : Nat) (c0 c : gm) {n : Nat} {t : Nat} {cZ : gm}, rs n t c = some cZ → Met l yX10_sum wsX10_sum (rmX10_sum dd) (va_Pc [.ref (ad t)] (gP sa D ad cy N sz c0 c)) (va_Qv (fun (_ : Unit) => True) (fun _ U => gE D ad cy N c0 cZ U) (gA ad N sz)) 0 0 (gA ad N sz)) {n : Nat} {t : Nat} {cZ : gm} (h : m_X10_one rs n t c = some cZ) : Met l yX10_one wsX10_one (rmX10_one dd) (va_Pc [.ref (ad t)] (gP sa D ad cy N sz c0 c)) (va_Qv (fun (_ : Unit) => True) (fun _ U => gE D ad cy N c0 cZ U) (gA ad N sz)) 0 0 (gA ad N sz) := by
  refine Met.ofW (cc := cX10_one) (maxL := 3) (ret := none) (by decide) rfl ?_
  intro p e s m args below meth cod s₁ B hml hv
  obtain ⟨rfl, hsz, hP, hK, hZ⟩ := hv
  have hx := B.exec
  have hb := B.bytes
  have hr := B.returns
  have hts := atoms_spec (ws := wsX10_one) B.pre
  have hown : s.vm.findClass RX10 = some m.cls := findClass_of_methodNamed B.named
  have hlocks := B.notSynchronized
  subst hsz
  have hl := lv_entry ([.ref (ad t)]) (n := 3) (Nat.le_of_ble_eq_true rfl)
  rw [lg_entry_eq]
  generalize (lg_sl ([.ref (ad t)]) ++ List.replicate (3 - (lg_sl ([.ref (ad t)])).length) Slot.unset).toArray = ls at hl ⊢
  have hl : lv_has ls 3 [(0, .ref (ad t))] := hl
  have in10 : ∀ w ∈ wsX100, w ∈ wsX10_one := by decide +kernel
  generalize hargs : ([.ref (ad t)] : List Value).toArray = args at *
  generalize hAe : gA ad N s.heap.size = A
  have F : gF sa D ad cy N A p s m args cod cX10_one 3 wsX10_one RX10 := ⟨hx, hb, hml, hown, hts, hK, hI, by rw [← hAe]; exact gA_ad, by rw [← hAe]; exact gA_sz, by rw [← hAe]; exact hZ⟩
  have G : gW D ad cy N A s.heap c0 c s.heap [] := ⟨hP, va_S.rf⟩
  generalize hQ : MQ below (va_Qv (fun (_ : Unit) => True) (fun _ U => gE D ad cy N c0 cZ U) A) args s 0 0 A = Q
  suffices hgen : ∀ (H : Heap) (locs : List Loc), gW D ad cy N A s.heap c0 c H locs → W p l e (rmX10_one dd) s m args below meth cod H locs 0 0 Q (F0 m 0 ls []) from hgen _ _ G
  clear G
  intro H locs G
  unfold m_X10_one at h
  refine lv_aload_n hx hb dX10_one_0 rfl (lv_at hl 0 rfl) ?_
  obtain ⟨hk1, h⟩ := gc_s h
  have ht2 : t < N := Nat.lt_of_lt_of_le (gck_lt10 hk1) hN
  refine fg_10_fault F G hk1 ht2 in10 (by decide +kernel) dX10_one_1 ?_
  refine lv_if_eq (tgt := 8) hx hb dX10_one_4 (by decide) (fun q3 => ?_) (fun q3 => ?_)
  · replace h := gt_s q3 h
    refine lv_aload_n hx hb dX10_one_8 rfl (lv_at hl 0 rfl) ?_
    obtain ⟨c6, hc4, h⟩ := gb_s h
    refine gx_callv F G (va_runV (As := []) (rest := []) (gx_fix F) (c_X10_blanks l sa D ad cy N H.size hN hI c0 c hc4) (cwV 0 hts gX10_one_X10_blanks rfl rfl rfl (by decide +kernel) ⟨by simp only [rmX10_one, rmX10_blanks]; omega, by simp only [rmX10_one, rmX10_blanks]; omega⟩) (gx_rec F G ht2 (gwe_10 hk1) rfl) rfl rfl hl.1 rfl (lv_room (Nat.le_of_ble_eq_true rfl)) dX10_one_9 ⟨Nat.zero_le _, Nat.zero_le _⟩) (fun H locs G => ?_)
    refine lv_aload_n hx hb dX10_one_12 rfl (lv_at hl 0 rfl) ?_
    refine lv_bipush (v := 12) hx hb dX10_one_13 (by decide) ?_
    refine lv_iconst (v := 5) hx hb dX10_one_15 (by decide) ?_
    refine lv_iconst (v := 1) hx hb dX10_one_16 (by decide) ?_
    refine lv_bipush (v := 19) hx hb dX10_one_17 (by decide) ?_
    refine lv_bipush (v := 20) hx hb dX10_one_19 (by decide) ?_
    refine lv_iconst (v := 0) hx hb dX10_one_21 (by decide) ?_
    obtain ⟨r8, c9, hc7, h⟩ := gb2_s h
    refine gx_calli F G (va_runV (As := [.int 12, .int 5, .int 1, .int 19, .int 20, .int 0]) (rest := []) (gx_fix F) (c_X10_isWord l sa D ad cy N H.size hN hI c0 c6 hc7) (cwV 6 hts gX10_one_X10_isWord rfl rfl rfl (by decide +kernel) ⟨by simp only [rmX10_one, rmX10_isWord]; omega, by simp only [rmX10_one, rmX10_isWord]; omega⟩) (gx_rec F G ht2 (gwe_10 hk1) rfl) rfl rfl hl.1 rfl (lv_room (Nat.le_of_ble_eq_true rfl)) dX10_one_22 ⟨Nat.zero_le _, Nat.zero_le _⟩) (fun H locs G => ?_)
    obtain ⟨K12, eK12, h⟩ := gj_s h
    have JK12 : ∀ (v10 : Int32) (c11 : gm) (H : Heap) (locs : List Loc) (ls : Array Slot), K12 (v10, c11) = some cZ → gW D ad cy N A s.heap c0 c11 H locs → lv_has ls 3 [(0, .ref (ad t))] → W p l e (rmX10_one dd) s m args below meth cod H locs 0 0 Q (F0 m 56 ls [.int v10]) := by
      intro v10 c11 H locs ls h G hl
      rw [eK12] at h
      replace h := gu2_s h
      refine lv_istore_n (lv' := [(1, .int v10), (0, .ref (ad t))]) hx hb dX10_one_56 rfl hl (by decide) rfl (fun ls hl => ?_)
      refine lv_iload_n hx hb dX10_one_57 rfl (lv_at hl 0 rfl) ?_
      refine lv_iconst (v := (-1)) hx hb dX10_one_58 (by decide) ?_
      refine lv_icmp_eq (tgt := 117) hx hb dX10_one_59 (by decide) (fun q13 => ?_) (fun q13 => ?_)
      · replace h := gt_s q13 h
        refine lv_aload_n hx hb dX10_one_117 rfl (lv_at hl 1 rfl) ?_
        refine lv_aload_n hx hb dX10_one_118 rfl (lv_at hl 1 rfl) ?_
        refine fg_10_at F G hk1 ht2 in10 (by decide +kernel) dX10_one_119 ?_
        obtain ⟨r15, hc14, h⟩ := gb_s h
        refine gx_calli F G (va_runV (As := [.int (c11.1 t 4)]) (rest := []) (gx_fix F) (c_X10_byteAt l sa D ad cy N H.size hN hI c0 c11 hc14) (cwV 1 hts gX10_one_X10_byteAt rfl rfl rfl (by decide +kernel) ⟨by simp only [rmX10_one, rmX10_byteAt]; omega, by simp only [rmX10_one, rmX10_byteAt]; omega⟩) (gx_rec F G ht2 (gwe_10 hk1) rfl) rfl rfl hl.1 rfl (lv_room (Nat.le_of_ble_eq_true rfl)) dX10_one_122 ⟨Nat.zero_le _, Nat.zero_le _⟩) (fun H locs G => ?_)
        refine lv_bipush (v := 40) hx hb dX10_one_125 (by decide) ?_
        refine lv_icmp_ne (tgt := 169) hx hb dX10_one_127 (by decide) (fun q16 => ?_) (fun q16 => ?_)
        · replace h := gf_s q16 h
          refine lv_aload_n hx hb dX10_one_169 rfl (lv_at hl 1 rfl) ?_
          obtain ⟨r18, c19, hc17, h⟩ := gb2_s h
          refine gx_calli F G (va_runV (As := []) (rest := []) (gx_fix F) (c_X10_knownHere l sa D ad cy N H.size hN hI c0 c11 hc17) (cwV 0 hts gX10_one_X10_knownHere rfl rfl rfl (by decide +kernel) ⟨by simp only [rmX10_one, rmX10_knownHere]; omega, by simp only [rmX10_one, rmX10_knownHere]; omega⟩) (gx_rec F G ht2 (gwe_10 hk1) rfl) rfl rfl hl.1 rfl (lv_room (Nat.le_of_ble_eq_true rfl)) dX10_one_170 ⟨Nat.zero_le _, Nat.zero_le _⟩) (fun H locs G => ?_)
          refine lv_istore_n (lv' := [(2, .int r18), (1, .int v10), (0, .ref (ad t))]) hx hb dX10_one_173 rfl hl (by decide) rfl (fun ls hl => ?_)
          refine lv_iload_n hx hb dX10_one_174 rfl (lv_at hl 0 rfl) ?_
          refine lv_iconst (v := (-1)) hx hb dX10_one_175 (by decide) ?_
          refine lv_icmp_eq (tgt := 188) hx hb dX10_one_176 (by decide) (fun q20 => ?_) (fun q20 => ?_)
          · replace h := gt_s q20 h
            refine lv_aload_n hx hb dX10_one_188 rfl (lv_at hl 2 rfl) ?_
            refine lv_iconst (v := 0) hx hb dX10_one_189 (by decide) ?_
            refine lv_aload_n hx hb dX10_one_190 rfl (lv_at hl 2 rfl) ?_
            refine lv_iconst (v := 0) hx hb dX10_one_191 (by decide) ?_
            refine lv_sipush (v := 999) hx hb dX10_one_192 (by decide) ?_
            obtain ⟨r22, c23, hc21, h⟩ := gb2_s h
            refine gx_calli F G (va_runV (As := [.int 0, .int 999]) (rest := [.int 0, .ref (ad t)]) (gx_fix F) (c_X10_number l sa D ad cy N H.size hN hI c0 c19 hc21) (cwV 2 hts gX10_one_X10_number rfl rfl rfl (by decide +kernel) ⟨by simp only [rmX10_one, rmX10_number]; omega, by simp only [rmX10_one, rmX10_number]; omega⟩) (gx_rec F G ht2 (gwe_10 hk1) rfl) rfl rfl hl.1 rfl (lv_room (Nat.le_of_ble_eq_true rfl)) dX10_one_195 ⟨Nat.zero_le _, Nat.zero_le _⟩) (fun H locs G => ?_)
            obtain ⟨c26, hc24, h⟩ := gb_s h
            refine gx_callv F G (va_runV (As := [.int 0, .int r22]) (rest := []) (gx_fix F) (c_X10_notes l sa D ad cy N H.size hN hI c0 c23 hc24) (cwV 2 hts gX10_one_X10_notes rfl rfl rfl (by decide +kernel) ⟨by simp only [rmX10_one, rmX10_notes]; omega, by simp only [rmX10_one, rmX10_notes]; omega⟩) (gx_rec F G ht2 (gwe_10 hk1) rfl) rfl rfl hl.1 rfl (lv_room (Nat.le_of_ble_eq_true rfl)) dX10_one_198 ⟨Nat.zero_le _, Nat.zero_le _⟩) (fun H locs G => ?_)
            cases h
            rw [← hQ]
            exact gx_vret F G hr hlocks dX10_one_201
          · replace h := gf_s q20 h
            refine lv_aload_n hx hb dX10_one_179 rfl (lv_at hl 2 rfl) ?_
            refine lv_iconst (v := 1) hx hb dX10_one_180 (by decide) ?_
            refine lv_iload_n hx hb dX10_one_181 rfl (lv_at hl 0 rfl) ?_
            obtain ⟨c29, hc27, h⟩ := gb_s h
            refine gx_callv F G (va_runV (As := [.int 1, .int r18]) (rest := []) (gx_fix F) (c_X10_notes l sa D ad cy N H.size hN hI c0 c19 hc27) (cwV 2 hts gX10_one_X10_notes rfl rfl rfl (by decide +kernel) ⟨by simp only [rmX10_one, rmX10_notes]; omega, by simp only [rmX10_one, rmX10_notes]; omega⟩) (gx_rec F G ht2 (gwe_10 hk1) rfl) rfl rfl hl.1 rfl (lv_room (Nat.le_of_ble_eq_true rfl)) dX10_one_182 ⟨Nat.zero_le _, Nat.zero_le _⟩) (fun H locs G => ?_)
            refine lv_goto (tgt := 201) hx hb dX10_one_185 (by decide) ?_
            cases h
            rw [← hQ]
            exact gx_vret F G hr hlocks dX10_one_201
        · replace h := gt_s q16 h
          refine lv_aload_n hx hb dX10_one_130 rfl (lv_at hl 1 rfl) ?_
          obtain ⟨r31, c32, hc30, h⟩ := gb2_s h
          refine gx_calli F G (va_runV (As := []) (rest := []) (gx_fix F) (c_X10_opensOne l sa D ad cy N H.size hN hI c0 c11 hc30) (cwV 0 hts gX10_one_X10_opensOne rfl rfl rfl (by decide +kernel) ⟨by simp only [rmX10_one, rmX10_opensOne]; omega, by simp only [rmX10_one, rmX10_opensOne]; omega⟩) (gx_rec F G ht2 (gwe_10 hk1) rfl) rfl rfl hl.1 rfl (lv_room (Nat.le_of_ble_eq_true rfl)) dX10_one_131 ⟨Nat.zero_le _, Nat.zero_le _⟩) (fun H locs G => ?_)
          refine lv_if_ne (tgt := 138) hx hb dX10_one_134 (by decide) (fun q33 => ?_) (fun q33 => ?_)
          · replace h := gf_s q33 h
            refine lv_aload_n hx hb dX10_one_138 rfl (lv_at hl 1 rfl) ?_
            refine lv_dup hx hb dX10_one_139 rfl ?_
            refine fg_10_at F G hk1 ht2 in10 (by decide +kernel) dX10_one_140 ?_
            refine lv_iconst (v := 1) hx hb dX10_one_143 (by decide) ?_
            refine lv_iadd hx hb dX10_one_144 ?_
            refine fp_10_at F G hk1 ht2 in10 (by decide +kernel) dX10_one_145 (fun H locs G => ?_)
            obtain ⟨c34, ec34⟩ : ∃ z, z = gm_r c32 t (upd (c32.1 t) 4 ((c32.1 t 4) + 1)) := ⟨_, rfl⟩
            rw [← ec34] at G
            replace h := gv_s h c34 ec34
            refine lv_aload_n hx hb dX10_one_148 rfl (lv_at hl 1 rfl) ?_
            obtain ⟨c37, hc35, h⟩ := gb_s h
            refine gx_callv F G (va_runV (As := []) (rest := []) (gx_fix F) (hrs H.size c0 c34 hc35) (cwV 0 hts gX10_one_X10_sum rfl rfl rfl (by decide +kernel) ⟨by simp only [rmX10_one, rmX10_sum]; omega, by simp only [rmX10_one, rmX10_sum]; omega⟩) (gx_rec F G ht2 (gwe_10 hk1) rfl) rfl rfl hl.1 rfl (lv_room (Nat.le_of_ble_eq_true rfl)) dX10_one_149 ⟨Nat.zero_le _, Nat.zero_le _⟩) (fun H locs G => ?_)
            refine lv_aload_n hx hb dX10_one_152 rfl (lv_at hl 1 rfl) ?_
            refine lv_bipush (v := 41) hx hb dX10_one_153 (by decide) ?_
            obtain ⟨c40, hc38, h⟩ := gb_s h
            refine gx_callv F G (va_runV (As := [.int 41]) (rest := []) (gx_fix F) (c_X10_sign l sa D ad cy N H.size hN hI c0 c37 hc38) (cwV 1 hts gX10_one_X10_sign rfl rfl rfl (by decide +kernel) ⟨by simp only [rmX10_one, rmX10_sign]; omega, by simp only [rmX10_one, rmX10_sign]; omega⟩) (gx_rec F G ht2 (gwe_10 hk1) rfl) rfl rfl hl.1 rfl (lv_room (Nat.le_of_ble_eq_true rfl)) dX10_one_155 ⟨Nat.zero_le _, Nat.zero_le _⟩) (fun H locs G => ?_)
            refine lv_aload_n hx hb dX10_one_158 rfl (lv_at hl 1 rfl) ?_
            refine lv_dup hx hb dX10_one_159 rfl ?_
            refine fg_10_open F G hk1 ht2 in10 (by decide +kernel) dX10_one_160 ?_
            refine lv_iconst (v := 1) hx hb dX10_one_163 (by decide) ?_
            refine lv_isub hx hb dX10_one_164 ?_
            refine fp_10_open F G hk1 ht2 in10 (by decide +kernel) dX10_one_165 (fun H locs G => ?_)
            obtain ⟨c41, ec41⟩ : ∃ z, z = gm_r c40 t (upd (c40.1 t) 8 ((c40.1 t 8) - 1)) := ⟨_, rfl⟩
            rw [← ec41] at G
            replace h := gv_s h c41 ec41
            cases h
            rw [← hQ]
            exact gx_vret F G hr hlocks dX10_one_168
          · replace h := gt_s q33 h
            cases h
            rw [← hQ]
            exact gx_vret F G hr hlocks dX10_one_137
      · replace h := gf_s q13 h
        refine lv_aload_n hx hb dX10_one_62 rfl (lv_at hl 1 rfl) ?_
        obtain ⟨r43, c44, hc42, h⟩ := gb2_s h
        refine gx_calli F G (va_runV (As := []) (rest := []) (gx_fix F) (c_X10_opensOne l sa D ad cy N H.size hN hI c0 c11 hc42) (cwV 0 hts gX10_one_X10_opensOne rfl rfl rfl (by decide +kernel) ⟨by simp only [rmX10_one, rmX10_opensOne]; omega, by simp only [rmX10_one, rmX10_opensOne]; omega⟩) (gx_rec F G ht2 (gwe_10 hk1) rfl) rfl rfl hl.1 rfl (lv_room (Nat.le_of_ble_eq_true rfl)) dX10_one_63 ⟨Nat.zero_le _, Nat.zero_le _⟩) (fun H locs G => ?_)
        refine lv_if_ne (tgt := 70) hx hb dX10_one_66 (by decide) (fun q45 => ?_) (fun q45 => ?_)
        · replace h := gf_s q45 h
          refine lv_aload_n hx hb dX10_one_70 rfl (lv_at hl 1 rfl) ?_
          obtain ⟨c48, hc46, h⟩ := gb_s h
          refine gx_callv F G (va_runV (As := []) (rest := []) (gx_fix F) (c_X10_skipWord l sa D ad cy N H.size hN hI c0 c44 hc46) (cwV 0 hts gX10_one_X10_skipWord rfl rfl rfl (by decide +kernel) ⟨by simp only [rmX10_one, rmX10_skipWord]; omega, by simp only [rmX10_one, rmX10_skipWord]; omega⟩) (gx_rec F G ht2 (gwe_10 hk1) rfl) rfl rfl hl.1 rfl (lv_room (Nat.le_of_ble_eq_true rfl)) dX10_one_71 ⟨Nat.zero_le _, Nat.zero_le _⟩) (fun H locs G => ?_)
          refine lv_aload_n hx hb dX10_one_74 rfl (lv_at hl 1 rfl) ?_
          refine lv_bipush (v := 91) hx hb dX10_one_75 (by decide) ?_
          obtain ⟨c51, hc49, h⟩ := gb_s h
          refine gx_callv F G (va_runV (As := [.int 91]) (rest := []) (gx_fix F) (c_X10_sign l sa D ad cy N H.size hN hI c0 c48 hc49) (cwV 1 hts gX10_one_X10_sign rfl rfl rfl (by decide +kernel) ⟨by simp only [rmX10_one, rmX10_sign]; omega, by simp only [rmX10_one, rmX10_sign]; omega⟩) (gx_rec F G ht2 (gwe_10 hk1) rfl) rfl rfl hl.1 rfl (lv_room (Nat.le_of_ble_eq_true rfl)) dX10_one_77 ⟨Nat.zero_le _, Nat.zero_le _⟩) (fun H locs G => ?_)
          refine lv_aload_n hx hb dX10_one_80 rfl (lv_at hl 1 rfl) ?_
          obtain ⟨c54, hc52, h⟩ := gb_s h
          refine gx_callv F G (va_runV (As := []) (rest := []) (gx_fix F) (hrs H.size c0 c51 hc52) (cwV 0 hts gX10_one_X10_sum rfl rfl rfl (by decide +kernel) ⟨by simp only [rmX10_one, rmX10_sum]; omega, by simp only [rmX10_one, rmX10_sum]; omega⟩) (gx_rec F G ht2 (gwe_10 hk1) rfl) rfl rfl hl.1 rfl (lv_room (Nat.le_of_ble_eq_true rfl)) dX10_one_81 ⟨Nat.zero_le _, Nat.zero_le _⟩) (fun H locs G => ?_)
          refine lv_aload_n hx hb dX10_one_84 rfl (lv_at hl 1 rfl) ?_
          refine lv_bipush (v := 44) hx hb dX10_one_85 (by decide) ?_
          obtain ⟨c57, hc55, h⟩ := gb_s h
          refine gx_callv F G (va_runV (As := [.int 44]) (rest := []) (gx_fix F) (c_X10_sign l sa D ad cy N H.size hN hI c0 c54 hc55) (cwV 1 hts gX10_one_X10_sign rfl rfl rfl (by decide +kernel) ⟨by simp only [rmX10_one, rmX10_sign]; omega, by simp only [rmX10_one, rmX10_sign]; omega⟩) (gx_rec F G ht2 (gwe_10 hk1) rfl) rfl rfl hl.1 rfl (lv_room (Nat.le_of_ble_eq_true rfl)) dX10_one_87 ⟨Nat.zero_le _, Nat.zero_le _⟩) (fun H locs G => ?_)
          refine lv_aload_n hx hb dX10_one_90 rfl (lv_at hl 1 rfl) ?_
          obtain ⟨c60, hc58, h⟩ := gb_s h
          refine gx_callv F G (va_runV (As := []) (rest := []) (gx_fix F) (hrs H.size c0 c57 hc58) (cwV 0 hts gX10_one_X10_sum rfl rfl rfl (by decide +kernel) ⟨by simp only [rmX10_one, rmX10_sum]; omega, by simp only [rmX10_one, rmX10_sum]; omega⟩) (gx_rec F G ht2 (gwe_10 hk1) rfl) rfl rfl hl.1 rfl (lv_room (Nat.le_of_ble_eq_true rfl)) dX10_one_91 ⟨Nat.zero_le _, Nat.zero_le _⟩) (fun H locs G => ?_)
          refine lv_aload_n hx hb dX10_one_94 rfl (lv_at hl 1 rfl) ?_
          refine lv_bipush (v := 93) hx hb dX10_one_95 (by decide) ?_
          obtain ⟨c63, hc61, h⟩ := gb_s h
          refine gx_callv F G (va_runV (As := [.int 93]) (rest := []) (gx_fix F) (c_X10_sign l sa D ad cy N H.size hN hI c0 c60 hc61) (cwV 1 hts gX10_one_X10_sign rfl rfl rfl (by decide +kernel) ⟨by simp only [rmX10_one, rmX10_sign]; omega, by simp only [rmX10_one, rmX10_sign]; omega⟩) (gx_rec F G ht2 (gwe_10 hk1) rfl) rfl rfl hl.1 rfl (lv_room (Nat.le_of_ble_eq_true rfl)) dX10_one_97 ⟨Nat.zero_le _, Nat.zero_le _⟩) (fun H locs G => ?_)
          refine lv_aload_n hx hb dX10_one_100 rfl (lv_at hl 1 rfl) ?_
          refine lv_iload_n hx hb dX10_one_101 rfl (lv_at hl 0 rfl) ?_
          refine lv_iconst (v := 0) hx hb dX10_one_102 (by decide) ?_
          obtain ⟨c66, hc64, h⟩ := gb_s h
          refine gx_callv F G (va_runV (As := [.int v10, .int 0]) (rest := []) (gx_fix F) (c_X10_notes l sa D ad cy N H.size hN hI c0 c63 hc64) (cwV 2 hts gX10_one_X10_notes rfl rfl rfl (by decide +kernel) ⟨by simp only [rmX10_one, rmX10_notes]; omega, by simp only [rmX10_one, rmX10_notes]; omega⟩) (gx_rec F G ht2 (gwe_10 hk1) rfl) rfl rfl hl.1 rfl (lv_room (Nat.le_of_ble_eq_true rfl)) dX10_one_103 ⟨Nat.zero_le _, Nat.zero_le _⟩) (fun H locs G => ?_)
          refine lv_aload_n hx hb dX10_one_106 rfl (lv_at hl 1 rfl) ?_
          refine lv_dup hx hb dX10_one_107 rfl ?_
          refine fg_10_open F G hk1 ht2 in10 (by decide +kernel) dX10_one_108 ?_
          refine lv_iconst (v := 1) hx hb dX10_one_111 (by decide) ?_
          refine lv_isub hx hb dX10_one_112 ?_
          refine fp_10_open F G hk1 ht2 in10 (by decide +kernel) dX10_one_113 (fun H locs G => ?_)
          obtain ⟨c67, ec67⟩ : ∃ z, z = gm_r c66 t (upd (c66.1 t) 8 ((c66.1 t 8) - 1)) := ⟨_, rfl⟩
          rw [← ec67] at G
          replace h := gv_s h c67 ec67
          cases h
          rw [← hQ]
          exact gx_vret F G hr hlocks dX10_one_116
        · replace h := gt_s q45 h
          cases h
          rw [← hQ]
          exact gx_vret F G hr hlocks dX10_one_69
    refine lv_if_eq (tgt := 33) hx hb dX10_one_25 (by decide) (fun q68 => ?_) (fun q68 => ?_)
    · replace h := gt_s q68 h
      refine lv_aload_n hx hb dX10_one_33 rfl (lv_at hl 0 rfl) ?_
      refine lv_bipush (v := 13) hx hb dX10_one_34 (by decide) ?_
      refine lv_bipush (v := 15) hx hb dX10_one_36 (by decide) ?_
      refine lv_bipush (v := 19) hx hb dX10_one_38 (by decide) ?_
      refine lv_bipush (v := 20) hx hb dX10_one_40 (by decide) ?_
      refine lv_iconst (v := 0) hx hb dX10_one_42 (by decide) ?_
      refine lv_iconst (v := 0) hx hb dX10_one_43 (by decide) ?_
      obtain ⟨r70, c71, hc69, h⟩ := gb2_s h
      refine gx_calli F G (va_runV (As := [.int 13, .int 15, .int 19, .int 20, .int 0, .int 0]) (rest := []) (gx_fix F) (c_X10_isWord l sa D ad cy N H.size hN hI c0 c9 hc69) (cwV 6 hts gX10_one_X10_isWord rfl rfl rfl (by decide +kernel) ⟨by simp only [rmX10_one, rmX10_isWord]; omega, by simp only [rmX10_one, rmX10_isWord]; omega⟩) (gx_rec F G ht2 (gwe_10 hk1) rfl) rfl rfl hl.1 rfl (lv_room (Nat.le_of_ble_eq_true rfl)) dX10_one_44 ⟨Nat.zero_le _, Nat.zero_le _⟩) (fun H locs G => ?_)
      refine lv_if_eq (tgt := 55) hx hb dX10_one_47 (by decide) (fun q72 => ?_) (fun q72 => ?_)
      · replace h := gt_s q72 h
        refine lv_iconst (v := (-1)) hx hb dX10_one_55 (by decide) ?_
        exact JK12 _ _ _ _ _ h G hl
      · replace h := gf_s q72 h
        refine lv_bipush (v := 8) hx hb dX10_one_50 (by decide) ?_
        refine lv_goto (tgt := 56) hx hb dX10_one_52 (by decide) ?_
        exact JK12 _ _ _ _ _ h G hl
    · replace h := gf_s q68 h
      refine lv_bipush (v := 7) hx hb dX10_one_28 (by decide) ?_
      refine lv_goto (tgt := 56) hx hb dX10_one_30 (by decide) ?_
      exact JK12 _ _ _ _ _ h G hl
  · replace h := gf_s q3 h
    cases h
    rw [← hQ]
    exact gx_vret F G hr hlocks dX10_one_7
def m_X10_product_L4 (rs : (Nat → Nat → gm → Option (gm))) (n : Nat) (t : Nat) (c7 : gm) : Option ((gm) ⊕ ((gm) ⊕ (gm))) :=
  (if (c7.1 t 5) = 0 then gb2 (m_X10_takesSign n t 42 c7) (fun (r11 : Int32) (c12 : gm) => gj (gu2 (fun (v13 : Int32) (c14 : gm) => (if v13 = (-1) then some (.inr (.inl c14)) else gb (m_X10_one rs n t c14) (fun (c19 : gm) => gb (m_X10_notes t v13 0 c19) (fun (c22 : gm) => some (.inl c22)))))) (fun K15 => (if r11 = 0 then gb2 (m_X10_takesSign n t 47 c12) (fun (r25 : Int32) (c26 : gm) => (if r25 = 0 then gb2 (m_X10_takesSign n t 37 c26) (fun (r29 : Int32) (c30 : gm) => (if r29 = 0 then K15 ((-1), c30) else K15 (6, c30))) else K15 (5, c26))) else K15 (4, c12)))) else some (.inr (.inr c7)))
def m_X10_product (rs : (Nat → Nat → gm → Option (gm))) (n : Nat) (t : Nat) (c : gm) : Option (gm) :=
  gc (gck t = 10) (gb (m_X10_one rs n t c) (fun (c5 : gm) => gb (gloop (fun (c7 : gm) => m_X10_product_L4 rs n t c7) n c5) (gsm (fun (c8 : gm) => some c8))))
abbrev rmX10_product (dd : Nat) : Room := { frames := 3 * dd + 8, cells := 0, slots := 0, locals := 64 * dd + 179 }
set_option maxHeartbeats 4000000 in
set_option maxRecDepth 100000 in
theorem c_X10_product (l : Launch) (sa : gSa) (D : va_G) (ad : Nat → Nat) (cy : Nat → ClassId) (N sz : Nat) (hN : 530 ≤ N) (hI : gI ad N) (c0 c : gm) (rs : (Nat → Nat → gm → Option (gm))) (dd : Nat) (hrs : ∀ (sz : Nat) (c0 c : gm) {n : Nat} {t : Nat} {cZ : gm}, rs n t c = some cZ → Met l yX10_sum wsX10_sum (rmX10_sum dd) (va_Pc [.ref (ad t)] (gP sa D ad cy N sz c0 c)) (va_Qv (fun (_ : Unit) => True) (fun _ U => gE D ad cy N c0 cZ U) (gA ad N sz)) 0 0 (gA ad N sz)) {n : Nat} {t : Nat} {cZ : gm} (h : m_X10_product rs n t c = some cZ) : Met l yX10_product wsX10_product (rmX10_product dd) (va_Pc [.ref (ad t)] (gP sa D ad cy N sz c0 c)) (va_Qv (fun (_ : Unit) => True) (fun _ U => gE D ad cy N c0 cZ U) (gA ad N sz)) 0 0 (gA ad N sz) := by
  refine Met.ofW (cc := cX10_product) (maxL := 2) (ret := none) (by decide) rfl ?_
  intro p e s m args below meth cod s₁ B hml hv
  obtain ⟨rfl, hsz, hP, hK, hZ⟩ := hv
  have hx := B.exec
  have hb := B.bytes
  have hr := B.returns
  have hts := atoms_spec (ws := wsX10_product) B.pre
  have hown : s.vm.findClass RX10 = some m.cls := findClass_of_methodNamed B.named
  have hlocks := B.notSynchronized
  subst hsz
  have hl := lv_entry ([.ref (ad t)]) (n := 2) (Nat.le_of_ble_eq_true rfl)
  rw [lg_entry_eq]
  generalize (lg_sl ([.ref (ad t)]) ++ List.replicate (2 - (lg_sl ([.ref (ad t)])).length) Slot.unset).toArray = ls at hl ⊢
  have hl : lv_has ls 2 [(0, .ref (ad t))] := hl
  have in10 : ∀ w ∈ wsX100, w ∈ wsX10_product := by decide +kernel
  generalize hargs : ([.ref (ad t)] : List Value).toArray = args at *
  generalize hAe : gA ad N s.heap.size = A
  have F : gF sa D ad cy N A p s m args cod cX10_product 2 wsX10_product RX10 := ⟨hx, hb, hml, hown, hts, hK, hI, by rw [← hAe]; exact gA_ad, by rw [← hAe]; exact gA_sz, by rw [← hAe]; exact hZ⟩
  have G : gW D ad cy N A s.heap c0 c s.heap [] := ⟨hP, va_S.rf⟩
  generalize hQ : MQ below (va_Qv (fun (_ : Unit) => True) (fun _ U => gE D ad cy N c0 cZ U) A) args s 0 0 A = Q
  suffices hgen : ∀ (H : Heap) (locs : List Loc), gW D ad cy N A s.heap c0 c H locs → W p l e (rmX10_product dd) s m args below meth cod H locs 0 0 Q (F0 m 0 ls []) from hgen _ _ G
  clear G
  intro H locs G
  unfold m_X10_product at h
  refine lv_aload_n hx hb dX10_product_0 rfl (lv_at hl 0 rfl) ?_
  obtain ⟨hk1, h⟩ := gc_s h
  have ht2 : t < N := Nat.lt_of_lt_of_le (gck_lt10 hk1) hN
  obtain ⟨c5, hc3, h⟩ := gb_s h
  refine gx_callv F G (va_runV (As := []) (rest := []) (gx_fix F) (c_X10_one l sa D ad cy N H.size hN hI c0 c rs dd hrs hc3) (cwV 0 hts gX10_product_X10_one rfl rfl rfl (by decide +kernel) ⟨by simp only [rmX10_product, rmX10_one]; omega, by simp only [rmX10_product, rmX10_one]; omega⟩) (gx_rec F G ht2 (gwe_10 hk1) rfl) rfl rfl hl.1 rfl (lv_room (Nat.le_of_ble_eq_true rfl)) dX10_product_1 ⟨Nat.zero_le _, Nat.zero_le _⟩) (fun H locs G => ?_)
  obtain ⟨b6, hb6, hK6⟩ := gb_s h
  have E6 : ∀ (c8 : gm) (H : Heap) (locs : List Loc) (ls : Array Slot), (Sum.inr c8 : (gm) ⊕ (gm)) = b6 → gW D ad cy N A s.heap c0 c8 H locs → lv_has ls 2 [] → W p l e (rmX10_product dd) s m args below meth cod H locs 0 0 Q (F0 m 72 ls []) := by
    intro c8 H locs ls hq6 G hl
    subst hq6
    replace hK6 := gsm_r hK6
    have h := hK6
    cases h
    rw [← hQ]
    exact gx_vret F G hr hlocks dX10_product_72
  have L6 : ∀ (n9 : Nat) (c7 : gm) (H : Heap) (locs : List Loc) (ls : Array Slot), gloop (fun (c7 : gm) => m_X10_product_L4 rs n t c7) n9 c7 = some b6 → gW D ad cy N A s.heap c0 c7 H locs → lv_has ls 2 [(0, .ref (ad t))] → W p l e (rmX10_product dd) s m args below meth cod H locs 0 0 Q (F0 m 4 ls []) := by
    intro n9
    induction n9 with
    | zero => intro c7 H locs ls h; exact (gloop_0 h).elim
    | succ n9 ih =>
      intro c7 H locs ls h G hl
      have ih6 := ih
      obtain ⟨o6, h, hn6⟩ := gloop_s h
      unfold m_X10_product_L4 at h
      refine lv_aload_n hx hb dX10_product_4 rfl (lv_at hl 0 rfl) ?_
      refine fg_10_fault F G hk1 ht2 in10 (by decide +kernel) dX10_product_5 ?_
      refine lv_if_ne (tgt := 72) hx hb dX10_product_8 (by decide) (fun q9 => ?_) (fun q9 => ?_)
      · replace h := gf_s q9 h
        cases h
        exact E6 _ _ _ _ (gnx_r hn6) G (lv_sub hl [] rfl)
      · replace h := gt_s q9 h
        refine lv_aload_n hx hb dX10_product_11 rfl (lv_at hl 0 rfl) ?_
        refine lv_bipush (v := 42) hx hb dX10_product_12 (by decide) ?_
        obtain ⟨r11, c12, hc10, h⟩ := gb2_s h
        refine gx_calli F G (va_runV (As := [.int 42]) (rest := []) (gx_fix F) (c_X10_takesSign l sa D ad cy N H.size hN hI c0 c7 hc10) (cwV 1 hts gX10_product_X10_takesSign rfl rfl rfl (by decide +kernel) ⟨by simp only [rmX10_product, rmX10_takesSign]; omega, by simp only [rmX10_product, rmX10_takesSign]; omega⟩) (gx_rec F G ht2 (gwe_10 hk1) rfl) rfl rfl hl.1 rfl (lv_room (Nat.le_of_ble_eq_true rfl)) dX10_product_14 ⟨Nat.zero_le _, Nat.zero_le _⟩) (fun H locs G => ?_)
        obtain ⟨K15, eK15, h⟩ := gj_s h
        have JK15 : ∀ (v13 : Int32) (c14 : gm) (H : Heap) (locs : List Loc) (ls : Array Slot), K15 (v13, c14) = some o6 → gW D ad cy N A s.heap c0 c14 H locs → lv_has ls 2 [(0, .ref (ad t))] → W p l e (rmX10_product dd) s m args below meth cod H locs 0 0 Q (F0 m 52 ls [.int v13]) := by
          intro v13 c14 H locs ls h G hl
          rw [eK15] at h
          replace h := gu2_s h
          refine lv_istore_n (lv' := [(1, .int v13), (0, .ref (ad t))]) hx hb dX10_product_52 rfl hl (by decide) rfl (fun ls hl => ?_)
          refine lv_iload_n hx hb dX10_product_53 rfl (lv_at hl 0 rfl) ?_
          refine lv_iconst (v := (-1)) hx hb dX10_product_54 (by decide) ?_
          refine lv_icmp_ne (tgt := 59) hx hb dX10_product_55 (by decide) (fun q16 => ?_) (fun q16 => ?_)
          · replace h := gf_s q16 h
            refine lv_aload_n hx hb dX10_product_59 rfl (lv_at hl 1 rfl) ?_
            obtain ⟨c19, hc17, h⟩ := gb_s h
            refine gx_callv F G (va_runV (As := []) (rest := []) (gx_fix F) (c_X10_one l sa D ad cy N H.size hN hI c0 c14 rs dd hrs hc17) (cwV 0 hts gX10_product_X10_one rfl rfl rfl (by decide +kernel) ⟨by simp only [rmX10_product, rmX10_one]; omega, by simp only [rmX10_product, rmX10_one]; omega⟩) (gx_rec F G ht2 (gwe_10 hk1) rfl) rfl rfl hl.1 rfl (lv_room (Nat.le_of_ble_eq_true rfl)) dX10_product_60 ⟨Nat.zero_le _, Nat.zero_le _⟩) (fun H locs G => ?_)
            refine lv_aload_n hx hb dX10_product_63 rfl (lv_at hl 1 rfl) ?_
            refine lv_iload_n hx hb dX10_product_64 rfl (lv_at hl 0 rfl) ?_
            refine lv_iconst (v := 0) hx hb dX10_product_65 (by decide) ?_
            obtain ⟨c22, hc20, h⟩ := gb_s h
            refine gx_callv F G (va_runV (As := [.int v13, .int 0]) (rest := []) (gx_fix F) (c_X10_notes l sa D ad cy N H.size hN hI c0 c19 hc20) (cwV 2 hts gX10_product_X10_notes rfl rfl rfl (by decide +kernel) ⟨by simp only [rmX10_product, rmX10_notes]; omega, by simp only [rmX10_product, rmX10_notes]; omega⟩) (gx_rec F G ht2 (gwe_10 hk1) rfl) rfl rfl hl.1 rfl (lv_room (Nat.le_of_ble_eq_true rfl)) dX10_product_66 ⟨Nat.zero_le _, Nat.zero_le _⟩) (fun H locs G => ?_)
            refine lv_goto (tgt := 4) hx hb dX10_product_69 (by decide) ?_
            cases h
            exact ih6 _ _ _ _ hn6 G (lv_sub hl [1] rfl)
          · replace h := gt_s q16 h
            cases h
            cases gnx_r hn6
            cases gsm_l hK6
            rw [← hQ]
            exact gx_vret F G hr hlocks dX10_product_58
        refine lv_if_eq (tgt := 24) hx hb dX10_product_17 (by decide) (fun q23 => ?_) (fun q23 => ?_)
        · replace h := gt_s q23 h
          refine lv_aload_n hx hb dX10_product_24 rfl (lv_at hl 0 rfl) ?_
          refine lv_bipush (v := 47) hx hb dX10_product_25 (by decide) ?_
          obtain ⟨r25, c26, hc24, h⟩ := gb2_s h
          refine gx_calli F G (va_runV (As := [.int 47]) (rest := []) (gx_fix F) (c_X10_takesSign l sa D ad cy N H.size hN hI c0 c12 hc24) (cwV 1 hts gX10_product_X10_takesSign rfl rfl rfl (by decide +kernel) ⟨by simp only [rmX10_product, rmX10_takesSign]; omega, by simp only [rmX10_product, rmX10_takesSign]; omega⟩) (gx_rec F G ht2 (gwe_10 hk1) rfl) rfl rfl hl.1 rfl (lv_room (Nat.le_of_ble_eq_true rfl)) dX10_product_27 ⟨Nat.zero_le _, Nat.zero_le _⟩) (fun H locs G => ?_)
          refine lv_if_eq (tgt := 37) hx hb dX10_product_30 (by decide) (fun q27 => ?_) (fun q27 => ?_)
          · replace h := gt_s q27 h
            refine lv_aload_n hx hb dX10_product_37 rfl (lv_at hl 0 rfl) ?_
            refine lv_bipush (v := 37) hx hb dX10_product_38 (by decide) ?_
            obtain ⟨r29, c30, hc28, h⟩ := gb2_s h
            refine gx_calli F G (va_runV (As := [.int 37]) (rest := []) (gx_fix F) (c_X10_takesSign l sa D ad cy N H.size hN hI c0 c26 hc28) (cwV 1 hts gX10_product_X10_takesSign rfl rfl rfl (by decide +kernel) ⟨by simp only [rmX10_product, rmX10_takesSign]; omega, by simp only [rmX10_product, rmX10_takesSign]; omega⟩) (gx_rec F G ht2 (gwe_10 hk1) rfl) rfl rfl hl.1 rfl (lv_room (Nat.le_of_ble_eq_true rfl)) dX10_product_40 ⟨Nat.zero_le _, Nat.zero_le _⟩) (fun H locs G => ?_)
            refine lv_if_eq (tgt := 51) hx hb dX10_product_43 (by decide) (fun q31 => ?_) (fun q31 => ?_)
            · replace h := gt_s q31 h
              refine lv_iconst (v := (-1)) hx hb dX10_product_51 (by decide) ?_
              exact JK15 _ _ _ _ _ h G hl
            · replace h := gf_s q31 h
              refine lv_bipush (v := 6) hx hb dX10_product_46 (by decide) ?_
              refine lv_goto (tgt := 52) hx hb dX10_product_48 (by decide) ?_
              exact JK15 _ _ _ _ _ h G hl
          · replace h := gf_s q27 h
            refine lv_iconst (v := 5) hx hb dX10_product_33 (by decide) ?_
            refine lv_goto (tgt := 52) hx hb dX10_product_34 (by decide) ?_
            exact JK15 _ _ _ _ _ h G hl
        · replace h := gf_s q23 h
          refine lv_iconst (v := 4) hx hb dX10_product_20 (by decide) ?_
          refine lv_goto (tgt := 52) hx hb dX10_product_21 (by decide) ?_
          exact JK15 _ _ _ _ _ h G hl
  exact L6 n _ _ _ _ hb6 G hl
def m_X10_sum_L4 (rs : (Nat → Nat → gm → Option (gm))) (n : Nat) (t : Nat) (c7 : gm) : Option ((gm) ⊕ ((gm) ⊕ (gm))) :=
  (if (c7.1 t 5) = 0 then gb2 (m_X10_takesSign n t 43 c7) (fun (r11 : Int32) (c12 : gm) => gj (gu2 (fun (v13 : Int32) (c14 : gm) => (if v13 = (-1) then some (.inr (.inl c14)) else gb (m_X10_product rs n t c14) (fun (c19 : gm) => gb (m_X10_notes t v13 0 c19) (fun (c22 : gm) => some (.inl c22)))))) (fun K15 => (if r11 = 0 then gb2 (m_X10_takesSign n t 45 c12) (fun (r25 : Int32) (c26 : gm) => (if r25 = 0 then K15 ((-1), c26) else K15 (3, c26))) else K15 (2, c12)))) else some (.inr (.inr c7)))
def m_X10_sum_b (rs : (Nat → Nat → gm → Option (gm))) (n : Nat) (t : Nat) (c : gm) : Option (gm) :=
  gc (gck t = 10) (gb (m_X10_product rs n t c) (fun (c5 : gm) => gb (gloop (fun (c7 : gm) => m_X10_sum_L4 rs n t c7) n c5) (gsm (fun (c8 : gm) => some c8))))

set_option maxHeartbeats 4000000 in
set_option maxRecDepth 100000 in
theorem c_X10_sum_b (l : Launch) (sa : gSa) (D : va_G) (ad : Nat → Nat) (cy : Nat → ClassId) (N sz : Nat) (hN : 530 ≤ N) (hI : gI ad N) (c0 c : gm) (rs : (Nat → Nat → gm → Option (gm))) (dd : Nat) (hrs : ∀ (sz : Nat) (c0 c : gm) {n : Nat} {t : Nat} {cZ : gm}, rs n t c = some cZ → Met l yX10_sum wsX10_sum (rmX10_sum dd) (va_Pc [.ref (ad t)] (gP sa D ad cy N sz c0 c)) (va_Qv (fun (_ : Unit) => True) (fun _ U => gE D ad cy N c0 cZ U) (gA ad N sz)) 0 0 (gA ad N sz)) {n : Nat} {t : Nat} {cZ : gm} (h : m_X10_sum_b rs n t c = some cZ) : Met l yX10_sum wsX10_sum (rmX10_sum (dd + 1)) (va_Pc [.ref (ad t)] (gP sa D ad cy N sz c0 c)) (va_Qv (fun (_ : Unit) => True) (fun _ U => gE D ad cy N c0 cZ U) (gA ad N sz)) 0 0 (gA ad N sz) := by
  refine Met.ofW (cc := cX10_sum) (maxL := 2) (ret := none) (by decide) rfl ?_
  intro p e s m args below meth cod s₁ B hml hv
  obtain ⟨rfl, hsz, hP, hK, hZ⟩ := hv
  have hx := B.exec
  have hb := B.bytes
  have hr := B.returns
  have hts := atoms_spec (ws := wsX10_sum) B.pre
  have hown : s.vm.findClass RX10 = some m.cls := findClass_of_methodNamed B.named
  have hlocks := B.notSynchronized
  subst hsz
  have hl := lv_entry ([.ref (ad t)]) (n := 2) (Nat.le_of_ble_eq_true rfl)
  rw [lg_entry_eq]
  generalize (lg_sl ([.ref (ad t)]) ++ List.replicate (2 - (lg_sl ([.ref (ad t)])).length) Slot.unset).toArray = ls at hl ⊢
  have hl : lv_has ls 2 [(0, .ref (ad t))] := hl
  have in10 : ∀ w ∈ wsX100, w ∈ wsX10_sum := by decide +kernel
  generalize hargs : ([.ref (ad t)] : List Value).toArray = args at *
  generalize hAe : gA ad N s.heap.size = A
  have F : gF sa D ad cy N A p s m args cod cX10_sum 2 wsX10_sum RX10 := ⟨hx, hb, hml, hown, hts, hK, hI, by rw [← hAe]; exact gA_ad, by rw [← hAe]; exact gA_sz, by rw [← hAe]; exact hZ⟩
  have G : gW D ad cy N A s.heap c0 c s.heap [] := ⟨hP, va_S.rf⟩
  generalize hQ : MQ below (va_Qv (fun (_ : Unit) => True) (fun _ U => gE D ad cy N c0 cZ U) A) args s 0 0 A = Q
  suffices hgen : ∀ (H : Heap) (locs : List Loc), gW D ad cy N A s.heap c0 c H locs → W p l e (rmX10_sum (dd + 1)) s m args below meth cod H locs 0 0 Q (F0 m 0 ls []) from hgen _ _ G
  clear G
  intro H locs G
  unfold m_X10_sum_b at h
  refine lv_aload_n hx hb dX10_sum_0 rfl (lv_at hl 0 rfl) ?_
  obtain ⟨hk1, h⟩ := gc_s h
  have ht2 : t < N := Nat.lt_of_lt_of_le (gck_lt10 hk1) hN
  obtain ⟨c5, hc3, h⟩ := gb_s h
  refine gx_callv F G (va_runV (As := []) (rest := []) (gx_fix F) (c_X10_product l sa D ad cy N H.size hN hI c0 c rs dd hrs hc3) (cwV 0 hts gX10_sum_X10_product rfl rfl rfl (by decide +kernel) ⟨by simp only [rmX10_sum, rmX10_product]; omega, by simp only [rmX10_sum, rmX10_product]; omega⟩) (gx_rec F G ht2 (gwe_10 hk1) rfl) rfl rfl hl.1 rfl (lv_room (Nat.le_of_ble_eq_true rfl)) dX10_sum_1 ⟨Nat.zero_le _, Nat.zero_le _⟩) (fun H locs G => ?_)
  obtain ⟨b6, hb6, hK6⟩ := gb_s h
  have E6 : ∀ (c8 : gm) (H : Heap) (locs : List Loc) (ls : Array Slot), (Sum.inr c8 : (gm) ⊕ (gm)) = b6 → gW D ad cy N A s.heap c0 c8 H locs → lv_has ls 2 [] → W p l e (rmX10_sum (dd + 1)) s m args below meth cod H locs 0 0 Q (F0 m 58 ls []) := by
    intro c8 H locs ls hq6 G hl
    subst hq6
    replace hK6 := gsm_r hK6
    have h := hK6
    cases h
    rw [← hQ]
    exact gx_vret F G hr hlocks dX10_sum_58
  have L6 : ∀ (n9 : Nat) (c7 : gm) (H : Heap) (locs : List Loc) (ls : Array Slot), gloop (fun (c7 : gm) => m_X10_sum_L4 rs n t c7) n9 c7 = some b6 → gW D ad cy N A s.heap c0 c7 H locs → lv_has ls 2 [(0, .ref (ad t))] → W p l e (rmX10_sum (dd + 1)) s m args below meth cod H locs 0 0 Q (F0 m 4 ls []) := by
    intro n9
    induction n9 with
    | zero => intro c7 H locs ls h; exact (gloop_0 h).elim
    | succ n9 ih =>
      intro c7 H locs ls h G hl
      have ih6 := ih
      obtain ⟨o6, h, hn6⟩ := gloop_s h
      unfold m_X10_sum_L4 at h
      refine lv_aload_n hx hb dX10_sum_4 rfl (lv_at hl 0 rfl) ?_
      refine fg_10_fault F G hk1 ht2 in10 (by decide +kernel) dX10_sum_5 ?_
      refine lv_if_ne (tgt := 58) hx hb dX10_sum_8 (by decide) (fun q9 => ?_) (fun q9 => ?_)
      · replace h := gf_s q9 h
        cases h
        exact E6 _ _ _ _ (gnx_r hn6) G (lv_sub hl [] rfl)
      · replace h := gt_s q9 h
        refine lv_aload_n hx hb dX10_sum_11 rfl (lv_at hl 0 rfl) ?_
        refine lv_bipush (v := 43) hx hb dX10_sum_12 (by decide) ?_
        obtain ⟨r11, c12, hc10, h⟩ := gb2_s h
        refine gx_calli F G (va_runV (As := [.int 43]) (rest := []) (gx_fix F) (c_X10_takesSign l sa D ad cy N H.size hN hI c0 c7 hc10) (cwV 1 hts gX10_sum_X10_takesSign rfl rfl rfl (by decide +kernel) ⟨by simp only [rmX10_sum, rmX10_takesSign]; omega, by simp only [rmX10_sum, rmX10_takesSign]; omega⟩) (gx_rec F G ht2 (gwe_10 hk1) rfl) rfl rfl hl.1 rfl (lv_room (Nat.le_of_ble_eq_true rfl)) dX10_sum_14 ⟨Nat.zero_le _, Nat.zero_le _⟩) (fun H locs G => ?_)
        obtain ⟨K15, eK15, h⟩ := gj_s h
        have JK15 : ∀ (v13 : Int32) (c14 : gm) (H : Heap) (locs : List Loc) (ls : Array Slot), K15 (v13, c14) = some o6 → gW D ad cy N A s.heap c0 c14 H locs → lv_has ls 2 [(0, .ref (ad t))] → W p l e (rmX10_sum (dd + 1)) s m args below meth cod H locs 0 0 Q (F0 m 38 ls [.int v13]) := by
          intro v13 c14 H locs ls h G hl
          rw [eK15] at h
          replace h := gu2_s h
          refine lv_istore_n (lv' := [(1, .int v13), (0, .ref (ad t))]) hx hb dX10_sum_38 rfl hl (by decide) rfl (fun ls hl => ?_)
          refine lv_iload_n hx hb dX10_sum_39 rfl (lv_at hl 0 rfl) ?_
          refine lv_iconst (v := (-1)) hx hb dX10_sum_40 (by decide) ?_
          refine lv_icmp_ne (tgt := 45) hx hb dX10_sum_41 (by decide) (fun q16 => ?_) (fun q16 => ?_)
          · replace h := gf_s q16 h
            refine lv_aload_n hx hb dX10_sum_45 rfl (lv_at hl 1 rfl) ?_
            obtain ⟨c19, hc17, h⟩ := gb_s h
            refine gx_callv F G (va_runV (As := []) (rest := []) (gx_fix F) (c_X10_product l sa D ad cy N H.size hN hI c0 c14 rs dd hrs hc17) (cwV 0 hts gX10_sum_X10_product rfl rfl rfl (by decide +kernel) ⟨by simp only [rmX10_sum, rmX10_product]; omega, by simp only [rmX10_sum, rmX10_product]; omega⟩) (gx_rec F G ht2 (gwe_10 hk1) rfl) rfl rfl hl.1 rfl (lv_room (Nat.le_of_ble_eq_true rfl)) dX10_sum_46 ⟨Nat.zero_le _, Nat.zero_le _⟩) (fun H locs G => ?_)
            refine lv_aload_n hx hb dX10_sum_49 rfl (lv_at hl 1 rfl) ?_
            refine lv_iload_n hx hb dX10_sum_50 rfl (lv_at hl 0 rfl) ?_
            refine lv_iconst (v := 0) hx hb dX10_sum_51 (by decide) ?_
            obtain ⟨c22, hc20, h⟩ := gb_s h
            refine gx_callv F G (va_runV (As := [.int v13, .int 0]) (rest := []) (gx_fix F) (c_X10_notes l sa D ad cy N H.size hN hI c0 c19 hc20) (cwV 2 hts gX10_sum_X10_notes rfl rfl rfl (by decide +kernel) ⟨by simp only [rmX10_sum, rmX10_notes]; omega, by simp only [rmX10_sum, rmX10_notes]; omega⟩) (gx_rec F G ht2 (gwe_10 hk1) rfl) rfl rfl hl.1 rfl (lv_room (Nat.le_of_ble_eq_true rfl)) dX10_sum_52 ⟨Nat.zero_le _, Nat.zero_le _⟩) (fun H locs G => ?_)
            refine lv_goto (tgt := 4) hx hb dX10_sum_55 (by decide) ?_
            cases h
            exact ih6 _ _ _ _ hn6 G (lv_sub hl [1] rfl)
          · replace h := gt_s q16 h
            cases h
            cases gnx_r hn6
            cases gsm_l hK6
            rw [← hQ]
            exact gx_vret F G hr hlocks dX10_sum_44
        refine lv_if_eq (tgt := 24) hx hb dX10_sum_17 (by decide) (fun q23 => ?_) (fun q23 => ?_)
        · replace h := gt_s q23 h
          refine lv_aload_n hx hb dX10_sum_24 rfl (lv_at hl 0 rfl) ?_
          refine lv_bipush (v := 45) hx hb dX10_sum_25 (by decide) ?_
          obtain ⟨r25, c26, hc24, h⟩ := gb2_s h
          refine gx_calli F G (va_runV (As := [.int 45]) (rest := []) (gx_fix F) (c_X10_takesSign l sa D ad cy N H.size hN hI c0 c12 hc24) (cwV 1 hts gX10_sum_X10_takesSign rfl rfl rfl (by decide +kernel) ⟨by simp only [rmX10_sum, rmX10_takesSign]; omega, by simp only [rmX10_sum, rmX10_takesSign]; omega⟩) (gx_rec F G ht2 (gwe_10 hk1) rfl) rfl rfl hl.1 rfl (lv_room (Nat.le_of_ble_eq_true rfl)) dX10_sum_27 ⟨Nat.zero_le _, Nat.zero_le _⟩) (fun H locs G => ?_)
          refine lv_if_eq (tgt := 37) hx hb dX10_sum_30 (by decide) (fun q27 => ?_) (fun q27 => ?_)
          · replace h := gt_s q27 h
            refine lv_iconst (v := (-1)) hx hb dX10_sum_37 (by decide) ?_
            exact JK15 _ _ _ _ _ h G hl
          · replace h := gf_s q27 h
            refine lv_iconst (v := 3) hx hb dX10_sum_33 (by decide) ?_
            refine lv_goto (tgt := 38) hx hb dX10_sum_34 (by decide) ?_
            exact JK15 _ _ _ _ _ h G hl
        · replace h := gf_s q23 h
          refine lv_iconst (v := 2) hx hb dX10_sum_20 (by decide) ?_
          refine lv_goto (tgt := 38) hx hb dX10_sum_21 (by decide) ?_
          exact JK15 _ _ _ _ _ h G hl
  exact L6 n _ _ _ _ hb6 G hl
def m_X10_sum : Nat → (Nat → Nat → gm → Option (gm))
  | 0 => fun _ _ _ => none
  | dd + 1 => m_X10_sum_b (m_X10_sum dd)
theorem c_X10_sum (l : Launch) (sa : gSa) (D : va_G) (ad : Nat → Nat) (cy : Nat → ClassId) (N : Nat) (hN : 530 ≤ N) (hI : gI ad N) (dd : Nat) : ∀ (sz : Nat) (c0 c : gm) {n : Nat} {t : Nat} {cZ : gm}, m_X10_sum dd n t c = some cZ → Met l yX10_sum wsX10_sum (rmX10_sum dd) (va_Pc [.ref (ad t)] (gP sa D ad cy N sz c0 c)) (va_Qv (fun (_ : Unit) => True) (fun _ U => gE D ad cy N c0 cZ U) (gA ad N sz)) 0 0 (gA ad N sz) := by
  induction dd with
  | zero => intro _ _ _ _ _ _ h; have h2 : none = some _ := h; cases h2
  | succ dd ih => intro sz c d0 _ _ _ h; exact c_X10_sum_b l sa D ad cy N sz hN hI c d0 (m_X10_sum dd) dd (fun sz c d0 _ _ _ h => ih sz c d0 h) h

def m_X10_law (n : Nat) (t : Nat) (a1 : Int32) (c : gm) : Option (Int32 × gm) :=
  gc (gck t = 10) (gv (gm_r c t (upd (c.1 t) 0 0)) (fun (c3 : gm) => gb (m_X10_in a1 0 (c3.1 t 1)) (fun (r5 : Int32) => gj (fun (v6 : Int32) => gb2 (m_X10_bad t v6 1 1 c3) (fun (r9 : Int32) (c10 : gm) => (if r9 = 0 then gb (m_X10_starts n t a1 c10) (fun (c14 : gm) => gv (gm_r c14 t (upd (c14.1 t) 18 0)) (fun (c15 : gm) => gb (m_X10_sum 12 n t c15) (fun (c18 : gm) => gb (m_X10_blanks n t c18) (fun (c21 : gm) => gj (fun (c22 : gm) => (if (c22.1 t 5) = 0 then gv (gm_r c22 t (upd (c22.1 t) 3 (-1))) (fun (c25 : gm) => gv (gm_r c25 t (upd (c25.1 t) 17 (c25.1 t 18))) (fun (c26 : gm) => gb (m_X10_lays n 245 84 (c26.1 t 17) c26) (fun (c35 : gm) => some (1, c35)))) else gb2 (m_X10_ends t c22) (fun (r37 : Int32) (c38 : gm) => some (r37, c38)))) (fun K23 => (if (c21.1 t 5) = 0 then (if (c21.1 t 2) ≤ (c21.1 t 4) then K23 c21 else gb (m_X10_wrong t 1 (c21.1 t 4) c21) (fun (c43 : gm) => K23 c43)) else K23 c21)))))) else some (0, c10)))) (fun K7 => gj (fun (_ : Unit) => K7 1) (fun K44 => (if r5 = 0 then K44 () else (if a1 ≤ 150 then K7 0 else K44 ())))))))
abbrev rmX10_law : Room := { frames := 43, cells := 0, slots := 0, locals := 925 }
set_option maxHeartbeats 4000000 in
set_option maxRecDepth 100000 in
theorem c_X10_law (l : Launch) (sa : gSa) (D : va_G) (ad : Nat → Nat) (cy : Nat → ClassId) (N sz : Nat) (hN : 530 ≤ N) (hI : gI ad N) (c0 c : gm) {n : Nat} {t : Nat} {a1 : Int32} {rZ : Int32} {cZ : gm} (h : m_X10_law n t a1 c = some (rZ, cZ)) : Met l yX10_law wsX10_law rmX10_law (va_Pc [.ref (ad t), .int a1] (gP sa D ad cy N sz c0 c)) (va_Qi (fun (z : Int32) (_ : Unit) => z = rZ) (fun _ U => gE D ad cy N c0 cZ U) (gA ad N sz)) 0 0 (gA ad N sz) := by
  refine Met.ofW (cc := cX10_law) (maxL := 2) (ret := (some .int)) (by decide) rfl ?_
  intro p e s m args below meth cod s₁ B hml hv
  obtain ⟨rfl, hsz, hP, hK, hZ⟩ := hv
  have hx := B.exec
  have hb := B.bytes
  have hr := B.returns
  have hts := atoms_spec (ws := wsX10_law) B.pre
  have hown : s.vm.findClass RX10 = some m.cls := findClass_of_methodNamed B.named
  have hlocks := B.notSynchronized
  subst hsz
  have hl := lv_entry ([.ref (ad t), .int a1]) (n := 2) (Nat.le_of_ble_eq_true rfl)
  rw [lg_entry_eq]
  generalize (lg_sl ([.ref (ad t), .int a1]) ++ List.replicate (2 - (lg_sl ([.ref (ad t), .int a1])).length) Slot.unset).toArray = ls at hl ⊢
  have hl : lv_has ls 2 [(0, .ref (ad t)), (1, .int a1)] := hl
  have in10 : ∀ w ∈ wsX100, w ∈ wsX10_law := by decide +kernel
  generalize hargs : ([.ref (ad t), .int a1] : List Value).toArray = args at *
  generalize hAe : gA ad N s.heap.size = A
  have F : gF sa D ad cy N A p s m args cod cX10_law 2 wsX10_law RX10 := ⟨hx, hb, hml, hown, hts, hK, hI, by rw [← hAe]; exact gA_ad, by rw [← hAe]; exact gA_sz, by rw [← hAe]; exact hZ⟩
  have G : gW D ad cy N A s.heap c0 c s.heap [] := ⟨hP, va_S.rf⟩
  generalize hQ : MQ below (va_Qi (fun (z : Int32) (_ : Unit) => z = rZ) (fun _ U => gE D ad cy N c0 cZ U) A) args s 0 0 A = Q
  suffices hgen : ∀ (H : Heap) (locs : List Loc), gW D ad cy N A s.heap c0 c H locs → W p l e rmX10_law s m args below meth cod H locs 0 0 Q (F0 m 0 ls []) from hgen _ _ G
  clear G
  intro H locs G
  unfold m_X10_law at h
  refine lv_aload_n hx hb dX10_law_0 rfl (lv_at hl 0 rfl) ?_
  refine lv_iconst (v := 0) hx hb dX10_law_1 (by decide) ?_
  obtain ⟨hk1, h⟩ := gc_s h
  have ht2 : t < N := Nat.lt_of_lt_of_le (gck_lt10 hk1) hN
  refine fp_10_thrown F G hk1 ht2 in10 (by decide +kernel) dX10_law_2 (fun H locs G => ?_)
  obtain ⟨c3, ec3⟩ : ∃ z, z = gm_r c t (upd (c.1 t) 0 0) := ⟨_, rfl⟩
  rw [← ec3] at G
  replace h := gv_s h c3 ec3
  refine lv_aload_n hx hb dX10_law_5 rfl (lv_at hl 0 rfl) ?_
  refine lv_iload_n hx hb dX10_law_6 rfl (lv_at hl 1 rfl) ?_
  refine lv_iconst (v := 0) hx hb dX10_law_7 (by decide) ?_
  refine lv_aload_n hx hb dX10_law_8 rfl (lv_at hl 0 rfl) ?_
  refine fg_10_tape F G hk1 ht2 in10 (by decide +kernel) dX10_law_9 ?_
  obtain ⟨r5, hc4, h⟩ := gb_s h
  refine gx_calli F G (va_runS (As := [.int a1, .int 0, .int (c3.1 t 1)]) (rest := [.ref (ad t)]) (gx_fix F) (c_X10_in l sa D ad cy N H.size hN hI c0 c3 hc4) (va_cwS 3 hts gX10_law_X10_in rfl rfl rfl (by decide +kernel) ⟨by decide, by decide⟩) (gx_pre F G) rfl rfl hl.1 rfl (lv_room (Nat.le_of_ble_eq_true rfl)) dX10_law_12 ⟨Nat.zero_le _, Nat.zero_le _⟩) (fun H locs G => ?_)
  obtain ⟨K7, eK7, h⟩ := gj_s h
  have JK7 : ∀ (v6 : Int32) (H : Heap) (locs : List Loc) (ls : Array Slot), K7 v6 = some (rZ, cZ) → gW D ad cy N A s.heap c0 c3 H locs → lv_has ls 2 [(0, .ref (ad t)), (1, .int a1)] → W p l e rmX10_law s m args below meth cod H locs 0 0 Q (F0 m 30 ls [.int v6, .ref (ad t)]) := by
    intro v6 H locs ls h G hl
    rw [eK7] at h
    refine lv_iconst (v := 1) hx hb dX10_law_30 (by decide) ?_
    refine lv_iconst (v := 1) hx hb dX10_law_31 (by decide) ?_
    obtain ⟨r9, c10, hc8, h⟩ := gb2_s h
    refine gx_calli F G (va_runV (As := [.int v6, .int 1, .int 1]) (rest := []) (gx_fix F) (c_X10_bad l sa D ad cy N H.size hN hI c0 c3 hc8) (cwV 3 hts gX10_law_X10_bad rfl rfl rfl (by decide +kernel) ⟨by decide, by decide⟩) (gx_rec F G ht2 (gwe_10 hk1) rfl) rfl rfl hl.1 rfl (lv_room (Nat.le_of_ble_eq_true rfl)) dX10_law_32 ⟨Nat.zero_le _, Nat.zero_le _⟩) (fun H locs G => ?_)
    refine lv_if_eq (tgt := 40) hx hb dX10_law_35 (by decide) (fun q11 => ?_) (fun q11 => ?_)
    · replace h := gt_s q11 h
      refine lv_aload_n hx hb dX10_law_40 rfl (lv_at hl 0 rfl) ?_
      refine lv_iload_n hx hb dX10_law_41 rfl (lv_at hl 1 rfl) ?_
      obtain ⟨c14, hc12, h⟩ := gb_s h
      refine gx_callv F G (va_runV (As := [.int a1]) (rest := []) (gx_fix F) (c_X10_starts l sa D ad cy N H.size hN hI c0 c10 hc12) (cwV 1 hts gX10_law_X10_starts rfl rfl rfl (by decide +kernel) ⟨by decide, by decide⟩) (gx_rec F G ht2 (gwe_10 hk1) rfl) rfl rfl hl.1 rfl (lv_room (Nat.le_of_ble_eq_true rfl)) dX10_law_42 ⟨Nat.zero_le _, Nat.zero_le _⟩) (fun H locs G => ?_)
      refine lv_aload_n hx hb dX10_law_45 rfl (lv_at hl 0 rfl) ?_
      refine lv_iconst (v := 0) hx hb dX10_law_46 (by decide) ?_
      refine fp_10_readLawMany F G hk1 ht2 in10 (by decide +kernel) dX10_law_47 (fun H locs G => ?_)
      obtain ⟨c15, ec15⟩ : ∃ z, z = gm_r c14 t (upd (c14.1 t) 18 0) := ⟨_, rfl⟩
      rw [← ec15] at G
      replace h := gv_s h c15 ec15
      refine lv_aload_n hx hb dX10_law_50 rfl (lv_at hl 0 rfl) ?_
      obtain ⟨c18, hc16, h⟩ := gb_s h
      refine gx_callv F G (va_runV (As := []) (rest := []) (gx_fix F) (c_X10_sum l sa D ad cy N hN hI 12 H.size c0 c15 hc16) (cwV 0 hts gX10_law_X10_sum rfl rfl rfl (by decide +kernel) ⟨by decide, by decide⟩) (gx_rec F G ht2 (gwe_10 hk1) rfl) rfl rfl hl.1 rfl (lv_room (Nat.le_of_ble_eq_true rfl)) dX10_law_51 ⟨Nat.zero_le _, Nat.zero_le _⟩) (fun H locs G => ?_)
      refine lv_aload_n hx hb dX10_law_54 rfl (lv_at hl 0 rfl) ?_
      obtain ⟨c21, hc19, h⟩ := gb_s h
      refine gx_callv F G (va_runV (As := []) (rest := []) (gx_fix F) (c_X10_blanks l sa D ad cy N H.size hN hI c0 c18 hc19) (cwV 0 hts gX10_law_X10_blanks rfl rfl rfl (by decide +kernel) ⟨by decide, by decide⟩) (gx_rec F G ht2 (gwe_10 hk1) rfl) rfl rfl hl.1 rfl (lv_room (Nat.le_of_ble_eq_true rfl)) dX10_law_55 ⟨Nat.zero_le _, Nat.zero_le _⟩) (fun H locs G => ?_)
      refine lv_aload_n hx hb dX10_law_58 rfl (lv_at hl 0 rfl) ?_
      refine fg_10_fault F G hk1 ht2 in10 (by decide +kernel) dX10_law_59 ?_
      obtain ⟨K23, eK23, h⟩ := gj_s h
      have JK23 : ∀ (c22 : gm) (H : Heap) (locs : List Loc) (ls : Array Slot), K23 c22 = some (rZ, cZ) → gW D ad cy N A s.heap c0 c22 H locs → lv_has ls 2 [(0, .ref (ad t))] → W p l e rmX10_law s m args below meth cod H locs 0 0 Q (F0 m 85 ls []) := by
        intro c22 H locs ls h G hl
        rw [eK23] at h
        refine lv_aload_n hx hb dX10_law_85 rfl (lv_at hl 0 rfl) ?_
        refine fg_10_fault F G hk1 ht2 in10 (by decide +kernel) dX10_law_86 ?_
        refine lv_if_eq (tgt := 97) hx hb dX10_law_89 (by decide) (fun q24 => ?_) (fun q24 => ?_)
        · replace h := gt_s q24 h
          refine lv_aload_n hx hb dX10_law_97 rfl (lv_at hl 0 rfl) ?_
          refine lv_iconst (v := (-1)) hx hb dX10_law_98 (by decide) ?_
          refine fp_10_place F G hk1 ht2 in10 (by decide +kernel) dX10_law_99 (fun H locs G => ?_)
          obtain ⟨c25, ec25⟩ : ∃ z, z = gm_r c22 t (upd (c22.1 t) 3 (-1)) := ⟨_, rfl⟩
          rw [← ec25] at G
          replace h := gv_s h c25 ec25
          refine lv_aload_n hx hb dX10_law_102 rfl (lv_at hl 0 rfl) ?_
          refine lv_aload_n hx hb dX10_law_103 rfl (lv_at hl 0 rfl) ?_
          refine fg_10_readLawMany F G hk1 ht2 in10 (by decide +kernel) dX10_law_104 ?_
          refine fp_10_lawMany F G hk1 ht2 in10 (by decide +kernel) dX10_law_107 (fun H locs G => ?_)
          obtain ⟨c26, ec26⟩ : ∃ z, z = gm_r c25 t (upd (c25.1 t) 17 (c25.1 t 18)) := ⟨_, rfl⟩
          rw [← ec26] at G
          replace h := gv_s h c26 ec26
          refine lv_aload_n hx hb dX10_law_110 rfl (lv_at hl 0 rfl) ?_
          refine fg_10_readLaw F G hk1 ht2 in10 (by decide +kernel) dX10_law_111 ?_
          have hk27 : gck 245 = 25 := rfl
          have ht28 : 245 < N := Nat.lt_of_lt_of_le (by decide) hN
          have hn29 : gal 245 = 160 := rfl
          refine lv_aload_n hx hb dX10_law_114 rfl (lv_at hl 0 rfl) ?_
          refine fg_10_law F G hk1 ht2 in10 (by decide +kernel) dX10_law_115 ?_
          have hk30 : gck 84 = 25 := rfl
          have ht31 : 84 < N := Nat.lt_of_lt_of_le (by decide) hN
          have hn32 : gal 84 = 160 := rfl
          refine lv_aload_n hx hb dX10_law_118 rfl (lv_at hl 0 rfl) ?_
          refine fg_10_lawMany F G hk1 ht2 in10 (by decide +kernel) dX10_law_119 ?_
          obtain ⟨c35, hc33, h⟩ := gb_s h
          refine gx_callv F G (va_runS (As := [.ref (ad 245), .ref (ad 84), .int (c26.1 t 17)]) (rest := []) (gx_fix F) (c_X10_lays l sa D ad cy N H.size hN hI c0 c26 hc33) (va_cwS 3 hts gX10_law_X10_lays rfl rfl rfl (by decide +kernel) ⟨by decide, by decide⟩) (gx_pre F G) rfl rfl hl.1 rfl (lv_room (Nat.le_of_ble_eq_true rfl)) dX10_law_122 ⟨Nat.zero_le _, Nat.zero_le _⟩) (fun H locs G => ?_)
          refine lv_iconst (v := 1) hx hb dX10_law_125 (by decide) ?_
          cases h
          rw [← hQ]
          exact gx_iret F G hr hlocks dX10_law_126
        · replace h := gf_s q24 h
          refine lv_aload_n hx hb dX10_law_92 rfl (lv_at hl 0 rfl) ?_
          obtain ⟨r37, c38, hc36, h⟩ := gb2_s h
          refine gx_calli F G (va_runV (As := []) (rest := []) (gx_fix F) (c_X10_ends l sa D ad cy N H.size hN hI c0 c22 hc36) (cwV 0 hts gX10_law_X10_ends rfl rfl rfl (by decide +kernel) ⟨by decide, by decide⟩) (gx_rec F G ht2 (gwe_10 hk1) rfl) rfl rfl hl.1 rfl (lv_room (Nat.le_of_ble_eq_true rfl)) dX10_law_93 ⟨Nat.zero_le _, Nat.zero_le _⟩) (fun H locs G => ?_)
          cases h
          rw [← hQ]
          exact gx_iret F G hr hlocks dX10_law_96
      refine lv_if_ne (tgt := 85) hx hb dX10_law_62 (by decide) (fun q39 => ?_) (fun q39 => ?_)
      · replace h := gf_s q39 h
        exact JK23 _ _ _ _ h G (lv_sub hl [0] rfl)
      · replace h := gt_s q39 h
        refine lv_aload_n hx hb dX10_law_65 rfl (lv_at hl 0 rfl) ?_
        refine fg_10_at F G hk1 ht2 in10 (by decide +kernel) dX10_law_66 ?_
        refine lv_aload_n hx hb dX10_law_69 rfl (lv_at hl 0 rfl) ?_
        refine fg_10_size F G hk1 ht2 in10 (by decide +kernel) dX10_law_70 ?_
        refine lv_icmp_ge (tgt := 85) hx hb dX10_law_73 (by decide) (fun q40 => ?_) (fun q40 => ?_)
        · replace h := gt_s q40 h
          exact JK23 _ _ _ _ h G (lv_sub hl [0] rfl)
        · replace h := gf_s q40 h
          refine lv_aload_n hx hb dX10_law_76 rfl (lv_at hl 0 rfl) ?_
          refine lv_iconst (v := 1) hx hb dX10_law_77 (by decide) ?_
          refine lv_aload_n hx hb dX10_law_78 rfl (lv_at hl 0 rfl) ?_
          refine fg_10_at F G hk1 ht2 in10 (by decide +kernel) dX10_law_79 ?_
          obtain ⟨c43, hc41, h⟩ := gb_s h
          refine gx_callv F G (va_runV (As := [.int 1, .int (c21.1 t 4)]) (rest := []) (gx_fix F) (c_X10_wrong l sa D ad cy N H.size hN hI c0 c21 hc41) (cwV 2 hts gX10_law_X10_wrong rfl rfl rfl (by decide +kernel) ⟨by decide, by decide⟩) (gx_rec F G ht2 (gwe_10 hk1) rfl) rfl rfl hl.1 rfl (lv_room (Nat.le_of_ble_eq_true rfl)) dX10_law_82 ⟨Nat.zero_le _, Nat.zero_le _⟩) (fun H locs G => ?_)
          exact JK23 _ _ _ _ h G (lv_sub hl [0] rfl)
    · replace h := gf_s q11 h
      refine lv_iconst (v := 0) hx hb dX10_law_38 (by decide) ?_
      cases h
      rw [← hQ]
      exact gx_iret F G hr hlocks dX10_law_39
  obtain ⟨K44, eK44, h⟩ := gj_s h
  have JK44 : ∀ (H : Heap) (locs : List Loc) (ls : Array Slot), K44 () = some (rZ, cZ) → gW D ad cy N A s.heap c0 c3 H locs → lv_has ls 2 [(0, .ref (ad t)), (1, .int a1)] → W p l e rmX10_law s m args below meth cod H locs 0 0 Q (F0 m 25 ls [.ref (ad t)]) := by
    intro  H locs ls h G hl
    rw [eK44] at h
    refine lv_iconst (v := 1) hx hb dX10_law_25 (by decide) ?_
    refine lv_goto (tgt := 30) hx hb dX10_law_26 (by decide) ?_
    exact JK7 _ _ _ _ h G hl
  refine lv_if_eq (tgt := 25) hx hb dX10_law_15 (by decide) (fun q45 => ?_) (fun q45 => ?_)
  · replace h := gt_s q45 h
    exact JK44  _ _ _ h G hl
  · replace h := gf_s q45 h
    refine lv_iload_n hx hb dX10_law_18 rfl (lv_at hl 1 rfl) ?_
    refine lv_sipush (v := 150) hx hb dX10_law_19 (by decide) ?_
    refine lv_icmp_le (tgt := 29) hx hb dX10_law_22 (by decide) (fun q46 => ?_) (fun q46 => ?_)
    · replace h := gt_s q46 h
      refine lv_iconst (v := 0) hx hb dX10_law_29 (by decide) ?_
      exact JK7 _ _ _ _ h G hl
    · replace h := gf_s q46 h
      exact JK44  _ _ _ h G hl
def m_X10_by (a1 : Int32) (a2 : Int32) (a3 : Int32) : Option (Int32) :=
  (if a1 = 2 then some (a2 + a3) else (if a1 = 3 then some (a2 - a3) else (if a1 = 4 then some (a2 * a3) else (if a1 = 5 then (if a3 = 0 then some 0 else (if a3 = (-1) then some (-a2) else gc (¬ a3 = 0) (some (a2 / a3)))) else (if a1 = 6 then (if a3 = 0 then some 0 else (if a3 = (-1) then some 0 else gc (¬ a3 = 0) (some (a2 - a2 / a3 * a3)))) else (if a1 = 7 then gb (m_X10_less a2 a3) (fun (r14 : Int32) => some r14) else gb (m_X10_more a2 a3) (fun (r22 : Int32) => some r22)))))))
abbrev rmX10_by : Room := { frames := 1, cells := 0, slots := 0, locals := 21 }
set_option maxHeartbeats 4000000 in
set_option maxRecDepth 100000 in
theorem c_X10_by (l : Launch) (sa : gSa) (D : va_G) (ad : Nat → Nat) (cy : Nat → ClassId) (N sz : Nat) (hN : 530 ≤ N) (hI : gI ad N) (c0 c : gm) {a1 : Int32} {a2 : Int32} {a3 : Int32} {rZ : Int32} (h : m_X10_by a1 a2 a3 = some rZ) : Met l yX10_by wsX10_by rmX10_by (va_Pc [.int a1, .int a2, .int a3] (gP sa D ad cy N sz c0 c)) (va_Qi (fun (z : Int32) (_ : Unit) => z = rZ) (fun _ U => gE D ad cy N c0 c U) (gA ad N sz)) 0 0 (gA ad N sz) := by
  refine Met.ofW (cc := cX10_by) (maxL := 3) (ret := (some .int)) (by decide) rfl ?_
  intro p e s m args below meth cod s₁ B hml hv
  obtain ⟨rfl, hsz, hP, hK, hZ⟩ := hv
  have hx := B.exec
  have hb := B.bytes
  have hr := B.returns
  have hts := atoms_spec (ws := wsX10_by) B.pre
  have hown : s.vm.findClass RX10 = some m.cls := findClass_of_methodNamed B.named
  have hlocks := B.notSynchronized
  subst hsz
  have hl := lv_entry ([.int a1, .int a2, .int a3]) (n := 3) (Nat.le_of_ble_eq_true rfl)
  rw [lg_entry_eq]
  generalize (lg_sl ([.int a1, .int a2, .int a3]) ++ List.replicate (3 - (lg_sl ([.int a1, .int a2, .int a3])).length) Slot.unset).toArray = ls at hl ⊢
  have hl : lv_has ls 3 [(0, .int a1), (1, .int a2), (2, .int a3)] := hl
  generalize hargs : ([.int a1, .int a2, .int a3] : List Value).toArray = args at *
  generalize hAe : gA ad N s.heap.size = A
  have F : gF sa D ad cy N A p s m args cod cX10_by 3 wsX10_by RX10 := ⟨hx, hb, hml, hown, hts, hK, hI, by rw [← hAe]; exact gA_ad, by rw [← hAe]; exact gA_sz, by rw [← hAe]; exact hZ⟩
  have G : gW D ad cy N A s.heap c0 c s.heap [] := ⟨hP, va_S.rf⟩
  generalize hQ : MQ below (va_Qi (fun (z : Int32) (_ : Unit) => z = rZ) (fun _ U => gE D ad cy N c0 c U) A) args s 0 0 A = Q
  suffices hgen : ∀ (H : Heap) (locs : List Loc), gW D ad cy N A s.heap c0 c H locs → W p l e rmX10_by s m args below meth cod H locs 0 0 Q (F0 m 0 ls []) from hgen _ _ G
  clear G
  intro H locs G
  unfold m_X10_by at h
  refine lv_iload_n hx hb dX10_by_0 rfl (lv_at hl 0 rfl) ?_
  by_cases q1 : a1 = 2
  · replace h := gt_s q1 h
    refine lv_tableIn (tgt := 40) hx hb dX10_by_1 (by rw [q1]; decide) (by rw [q1]; decide) (off := 39) (by rw [q1]; decide) (by decide) ?_
    refine lv_iload_n hx hb dX10_by_40 rfl (lv_at hl 1 rfl) ?_
    refine lv_iload_n hx hb dX10_by_41 rfl (lv_at hl 2 rfl) ?_
    refine lv_iadd hx hb dX10_by_42 ?_
    cases h
    rw [← hQ]
    exact gx_iret F G hr hlocks dX10_by_43
  replace h := gf_s q1 h
  by_cases q2 : a1 = 3
  · replace h := gt_s q2 h
    refine lv_tableIn (tgt := 44) hx hb dX10_by_1 (by rw [q2]; decide) (by rw [q2]; decide) (off := 43) (by rw [q2]; decide) (by decide) ?_
    refine lv_iload_n hx hb dX10_by_44 rfl (lv_at hl 1 rfl) ?_
    refine lv_iload_n hx hb dX10_by_45 rfl (lv_at hl 2 rfl) ?_
    refine lv_isub hx hb dX10_by_46 ?_
    cases h
    rw [← hQ]
    exact gx_iret F G hr hlocks dX10_by_47
  replace h := gf_s q2 h
  by_cases q3 : a1 = 4
  · replace h := gt_s q3 h
    refine lv_tableIn (tgt := 48) hx hb dX10_by_1 (by rw [q3]; decide) (by rw [q3]; decide) (off := 47) (by rw [q3]; decide) (by decide) ?_
    refine lv_iload_n hx hb dX10_by_48 rfl (lv_at hl 1 rfl) ?_
    refine lv_iload_n hx hb dX10_by_49 rfl (lv_at hl 2 rfl) ?_
    refine lv_imul hx hb dX10_by_50 ?_
    cases h
    rw [← hQ]
    exact gx_iret F G hr hlocks dX10_by_51
  replace h := gf_s q3 h
  by_cases q4 : a1 = 5
  · replace h := gt_s q4 h
    refine lv_tableIn (tgt := 52) hx hb dX10_by_1 (by rw [q4]; decide) (by rw [q4]; decide) (off := 51) (by rw [q4]; decide) (by decide) ?_
    refine lv_iload_n hx hb dX10_by_52 rfl (lv_at hl 2 rfl) ?_
    refine lv_if_ne (tgt := 60) hx hb dX10_by_53 (by decide) (fun q5 => ?_) (fun q5 => ?_)
    · replace h := gf_s q5 h
      refine lv_iload_n hx hb dX10_by_60 rfl (lv_at hl 2 rfl) ?_
      refine lv_iconst (v := (-1)) hx hb dX10_by_61 (by decide) ?_
      refine lv_icmp_ne (tgt := 70) hx hb dX10_by_62 (by decide) (fun q6 => ?_) (fun q6 => ?_)
      · replace h := gf_s q6 h
        refine lv_iload_n hx hb dX10_by_70 rfl (lv_at hl 1 rfl) ?_
        refine lv_iload_n hx hb dX10_by_71 rfl (lv_at hl 2 rfl) ?_
        obtain ⟨hz7, h⟩ := gc_s h
        refine lv_idiv hx hb dX10_by_72 hz7 ?_
        cases h
        rw [← hQ]
        exact gx_iret F G hr hlocks dX10_by_73
      · replace h := gt_s q6 h
        refine lv_iload_n hx hb dX10_by_65 rfl (lv_at hl 1 rfl) ?_
        refine lv_ineg hx hb dX10_by_66 ?_
        refine lv_goto (tgt := 73) hx hb dX10_by_67 (by decide) ?_
        cases h
        rw [← hQ]
        exact gx_iret F G hr hlocks dX10_by_73
    · replace h := gt_s q5 h
      refine lv_iconst (v := 0) hx hb dX10_by_56 (by decide) ?_
      refine lv_goto (tgt := 73) hx hb dX10_by_57 (by decide) ?_
      cases h
      rw [← hQ]
      exact gx_iret F G hr hlocks dX10_by_73
  replace h := gf_s q4 h
  by_cases q8 : a1 = 6
  · replace h := gt_s q8 h
    refine lv_tableIn (tgt := 74) hx hb dX10_by_1 (by rw [q8]; decide) (by rw [q8]; decide) (off := 73) (by rw [q8]; decide) (by decide) ?_
    refine lv_iload_n hx hb dX10_by_74 rfl (lv_at hl 2 rfl) ?_
    refine lv_if_eq (tgt := 83) hx hb dX10_by_75 (by decide) (fun q9 => ?_) (fun q9 => ?_)
    · replace h := gt_s q9 h
      refine lv_iconst (v := 0) hx hb dX10_by_83 (by decide) ?_
      refine lv_goto (tgt := 90) hx hb dX10_by_84 (by decide) ?_
      cases h
      rw [← hQ]
      exact gx_iret F G hr hlocks dX10_by_90
    · replace h := gf_s q9 h
      refine lv_iload_n hx hb dX10_by_78 rfl (lv_at hl 2 rfl) ?_
      refine lv_iconst (v := (-1)) hx hb dX10_by_79 (by decide) ?_
      refine lv_icmp_ne (tgt := 87) hx hb dX10_by_80 (by decide) (fun q10 => ?_) (fun q10 => ?_)
      · replace h := gf_s q10 h
        refine lv_iload_n hx hb dX10_by_87 rfl (lv_at hl 1 rfl) ?_
        refine lv_iload_n hx hb dX10_by_88 rfl (lv_at hl 2 rfl) ?_
        obtain ⟨hz11, h⟩ := gc_s h
        refine lv_irem hx hb dX10_by_89 hz11 ?_
        cases h
        rw [← hQ]
        exact gx_iret F G hr hlocks dX10_by_90
      · replace h := gt_s q10 h
        refine lv_iconst (v := 0) hx hb dX10_by_83 (by decide) ?_
        refine lv_goto (tgt := 90) hx hb dX10_by_84 (by decide) ?_
        cases h
        rw [← hQ]
        exact gx_iret F G hr hlocks dX10_by_90
  replace h := gf_s q8 h
  by_cases q12 : a1 = 7
  · replace h := gt_s q12 h
    refine lv_tableIn (tgt := 91) hx hb dX10_by_1 (by rw [q12]; decide) (by rw [q12]; decide) (off := 90) (by rw [q12]; decide) (by decide) ?_
    refine lv_iload_n hx hb dX10_by_91 rfl (lv_at hl 1 rfl) ?_
    refine lv_iload_n hx hb dX10_by_92 rfl (lv_at hl 2 rfl) ?_
    obtain ⟨r14, hc13, h⟩ := gb_s h
    refine gx_calli F G (va_runS (As := [.int a2, .int a3]) (rest := []) (gx_fix F) (c_X10_less l sa D ad cy N H.size hN hI c0 c hc13) (va_cwS 2 hts gX10_by_X10_less rfl rfl rfl (by decide +kernel) ⟨by decide, by decide⟩) (gx_pre F G) rfl rfl hl.1 rfl (lv_room (Nat.le_of_ble_eq_true rfl)) dX10_by_93 ⟨Nat.zero_le _, Nat.zero_le _⟩) (fun H locs G => ?_)
    cases h
    rw [← hQ]
    exact gx_iret F G hr hlocks dX10_by_96
  replace h := gf_s q12 h
  have nn15 := lv_neT q1 (show (2 : Int32).toInt = 2 by decide)
  have nn16 := lv_neT q2 (show (3 : Int32).toInt = 3 by decide)
  have nn17 := lv_neT q3 (show (4 : Int32).toInt = 4 by decide)
  have nn18 := lv_neT q4 (show (5 : Int32).toInt = 5 by decide)
  have nn19 := lv_neT q8 (show (6 : Int32).toInt = 6 by decide)
  have nn20 := lv_neT q12 (show (7 : Int32).toInt = 7 by decide)
  refine lv_tableOut (tgt := 97) hx hb dX10_by_1 (by omega) (by decide) ?_
  refine lv_iload_n hx hb dX10_by_97 rfl (lv_at hl 1 rfl) ?_
  refine lv_iload_n hx hb dX10_by_98 rfl (lv_at hl 2 rfl) ?_
  obtain ⟨r22, hc21, h⟩ := gb_s h
  refine gx_calli F G (va_runS (As := [.int a2, .int a3]) (rest := []) (gx_fix F) (c_X10_more l sa D ad cy N H.size hN hI c0 c hc21) (va_cwS 2 hts gX10_by_X10_more rfl rfl rfl (by decide +kernel) ⟨by decide, by decide⟩) (gx_pre F G) rfl rfl hl.1 rfl (lv_room (Nat.le_of_ble_eq_true rfl)) dX10_by_99 ⟨Nat.zero_le _, Nat.zero_le _⟩) (fun H locs G => ?_)
  cases h
  rw [← hQ]
  exact gx_iret F G hr hlocks dX10_by_102
def m_X10_byLaw_L18 (t : Nat) (y13 : Int32) (y14 : Int32) (c15 : gm) : Option ((Int32 × Int32 × gm) ⊕ (gm)) :=
  (if (c15.1 t 17) ≤ y14 then some (.inr c15) else gc (0 ≤ y14.toInt ∧ y14.toInt < 160) (gc (gck (84 + 1 + y14.toNatClampNeg) = 22) (gc (0 ≤ (0 : Int32).toInt ∧ (0 : Int32).toInt < ((gal (84 + 1 + y14.toNatClampNeg)) : Nat)) (gj (gu2 (fun (v30 : Int32) (c31 : gm) => gv (y14 + 1) (fun (x33 : Int32) => some (.inl (v30, x33, c31))))) (fun K32 => (if 2 ≤ (c15.1 (84 + 1 + y14.toNatClampNeg) (0 : Int32).toNatClampNeg) then gv (y13 + (-1)) (fun (x35 : Int32) => gc (0 ≤ y14.toInt ∧ y14.toInt < 160) (gc (0 ≤ (0 : Int32).toInt ∧ (0 : Int32).toInt < ((gal (84 + 1 + y14.toNatClampNeg)) : Nat)) (gc (0 ≤ (x35 - 1).toInt ∧ (x35 - 1).toInt < 160) (gc (0 ≤ x35.toInt ∧ x35.toInt < 160) (gb (m_X10_by (c15.1 (84 + 1 + y14.toNatClampNeg) (0 : Int32).toNatClampNeg) (c15.1 420 (x35 - 1).toNatClampNeg) (c15.1 420 x35.toNatClampNeg)) (fun (r41 : Int32) => gc (0 ≤ (x35 - 1).toInt ∧ (x35 - 1).toInt < 160) (gv (gm_r c15 420 (upd (c15.1 420) (x35 - 1).toNatClampNeg r41)) (fun (c43 : gm) => K32 (x35, c43))))))))) else gc (0 ≤ y14.toInt ∧ y14.toInt < 160) (gc (0 ≤ (0 : Int32).toInt ∧ (0 : Int32).toInt < ((gal (84 + 1 + y14.toNatClampNeg)) : Nat)) (gj (fun (v46 : Int32) => gc (0 ≤ y13.toInt ∧ y13.toInt < 160) (gv (gm_r c15 420 (upd (c15.1 420) y13.toNatClampNeg v46)) (fun (c49 : gm) => gv (y13 + 1) (fun (x50 : Int32) => K32 (x50, c49))))) (fun K47 => (if (c15.1 (84 + 1 + y14.toNatClampNeg) (0 : Int32).toNatClampNeg) = 0 then gc (0 ≤ y14.toInt ∧ y14.toInt < 160) (gc (0 ≤ (1 : Int32).toInt ∧ (1 : Int32).toInt < ((gal (84 + 1 + y14.toNatClampNeg)) : Nat)) (K47 (c15.1 (84 + 1 + y14.toNatClampNeg) (1 : Int32).toNatClampNeg))) else gc (0 ≤ y14.toInt ∧ y14.toInt < 160) (gc (0 ≤ (1 : Int32).toInt ∧ (1 : Int32).toInt < ((gal (84 + 1 + y14.toNatClampNeg)) : Nat)) (gc (0 ≤ (c15.1 (84 + 1 + y14.toNatClampNeg) (1 : Int32).toNatClampNeg).toInt ∧ (c15.1 (84 + 1 + y14.toNatClampNeg) (1 : Int32).toNatClampNeg).toInt < 7) (K47 (c15.1 421 (c15.1 (84 + 1 + y14.toNatClampNeg) (1 : Int32).toNatClampNeg).toNatClampNeg))))))))))))))
def m_X10_byLaw (n : Nat) (t : Nat) (c : gm) : Option (Int32 × gm) :=
  gc (gck t = 10) (gv (gm_r c 420 (upd (c.1 420) (0 : Int32).toNatClampNeg ((c.1 421 (1 : Int32).toNatClampNeg) / 4))) (fun (c11 : gm) => gb (gloop (gu2 (fun (y13 : Int32) => gu2 (fun (y14 : Int32) (c15 : gm) => m_X10_byLaw_L18 t y13 y14 c15))) n (0, 0, c11)) (fun (c16 : gm) => gb (m_X10_more 0 (c16.1 420 (0 : Int32).toNatClampNeg)) (fun (r19 : Int32) => gb (m_X10_less 20 r19) (fun (r21 : Int32) => some (r21, c16))))))
abbrev rmX10_byLaw : Room := { frames := 2, cells := 0, slots := 0, locals := 43 }
set_option maxHeartbeats 4000000 in
set_option maxRecDepth 100000 in
theorem c_X10_byLaw (l : Launch) (sa : gSa) (D : va_G) (ad : Nat → Nat) (cy : Nat → ClassId) (N sz : Nat) (hN : 530 ≤ N) (hI : gI ad N) (c0 c : gm) {n : Nat} {t : Nat} {rZ : Int32} {cZ : gm} (h : m_X10_byLaw n t c = some (rZ, cZ)) : Met l yX10_byLaw wsX10_byLaw rmX10_byLaw (va_Pc [.ref (ad t)] (gP sa D ad cy N sz c0 c)) (va_Qi (fun (z : Int32) (_ : Unit) => z = rZ) (fun _ U => gE D ad cy N c0 cZ U) (gA ad N sz)) 0 0 (gA ad N sz) := by
  refine Met.ofW (cc := cX10_byLaw) (maxL := 3) (ret := (some .int)) (by decide) rfl ?_
  intro p e s m args below meth cod s₁ B hml hv
  obtain ⟨rfl, hsz, hP, hK, hZ⟩ := hv
  have hx := B.exec
  have hb := B.bytes
  have hr := B.returns
  have hts := atoms_spec (ws := wsX10_byLaw) B.pre
  have hown : s.vm.findClass RX10 = some m.cls := findClass_of_methodNamed B.named
  have hlocks := B.notSynchronized
  subst hsz
  have hl := lv_entry ([.ref (ad t)]) (n := 3) (Nat.le_of_ble_eq_true rfl)
  rw [lg_entry_eq]
  generalize (lg_sl ([.ref (ad t)]) ++ List.replicate (3 - (lg_sl ([.ref (ad t)])).length) Slot.unset).toArray = ls at hl ⊢
  have hl : lv_has ls 3 [(0, .ref (ad t))] := hl
  have in10 : ∀ w ∈ wsX100, w ∈ wsX10_byLaw := by decide +kernel
  generalize hargs : ([.ref (ad t)] : List Value).toArray = args at *
  generalize hAe : gA ad N s.heap.size = A
  have F : gF sa D ad cy N A p s m args cod cX10_byLaw 3 wsX10_byLaw RX10 := ⟨hx, hb, hml, hown, hts, hK, hI, by rw [← hAe]; exact gA_ad, by rw [← hAe]; exact gA_sz, by rw [← hAe]; exact hZ⟩
  have G : gW D ad cy N A s.heap c0 c s.heap [] := ⟨hP, va_S.rf⟩
  generalize hQ : MQ below (va_Qi (fun (z : Int32) (_ : Unit) => z = rZ) (fun _ U => gE D ad cy N c0 cZ U) A) args s 0 0 A = Q
  suffices hgen : ∀ (H : Heap) (locs : List Loc), gW D ad cy N A s.heap c0 c H locs → W p l e rmX10_byLaw s m args below meth cod H locs 0 0 Q (F0 m 0 ls []) from hgen _ _ G
  clear G
  intro H locs G
  unfold m_X10_byLaw at h
  refine lv_iconst (v := 0) hx hb dX10_byLaw_0 (by decide) ?_
  refine lv_istore_n (lv' := [(1, .int 0), (0, .ref (ad t))]) hx hb dX10_byLaw_1 rfl hl (by decide) rfl (fun ls hl => ?_)
  refine lv_aload_n hx hb dX10_byLaw_2 rfl (lv_at hl 1 rfl) ?_
  obtain ⟨hk1, h⟩ := gc_s h
  have ht2 : t < N := Nat.lt_of_lt_of_le (gck_lt10 hk1) hN
  refine fg_10_stack F G hk1 ht2 in10 (by decide +kernel) dX10_byLaw_3 ?_
  have hk3 : gck 420 = 22 := rfl
  have ht4 : 420 < N := Nat.lt_of_lt_of_le (by decide) hN
  have hn5 : gal 420 = 160 := rfl
  refine lv_iconst (v := 0) hx hb dX10_byLaw_6 (by decide) ?_
  refine lv_aload_n hx hb dX10_byLaw_7 rfl (lv_at hl 1 rfl) ?_
  refine fg_10_known F G hk1 ht2 in10 (by decide +kernel) dX10_byLaw_8 ?_
  have hk6 : gck 421 = 22 := rfl
  have ht7 : 421 < N := Nat.lt_of_lt_of_le (by decide) hN
  have hn8 : gal 421 = 7 := rfl
  refine lv_iconst (v := 1) hx hb dX10_byLaw_11 (by decide) ?_
  refine gx_mia F G hk6 ht7 hn8 (by decide) dX10_byLaw_12 ?_
  refine lv_iconst (v := 4) hx hb dX10_byLaw_13 (by decide) ?_
  refine lv_idiv hx hb dX10_byLaw_14 (by decide) ?_
  refine gx_mis F G hk3 ht4 hn5 (by decide) dX10_byLaw_15 (fun H locs G => ?_)
  obtain ⟨c11, ec11⟩ : ∃ z, z = gm_r c 420 (upd (c.1 420) (0 : Int32).toNatClampNeg ((c.1 421 (1 : Int32).toNatClampNeg) / 4)) := ⟨_, rfl⟩
  rw [← ec11] at G
  replace h := gv_s h c11 ec11
  refine lv_iconst (v := 0) hx hb dX10_byLaw_16 (by decide) ?_
  refine lv_istore_n (lv' := [(2, .int 0), (1, .int 0), (0, .ref (ad t))]) hx hb dX10_byLaw_17 rfl hl (by decide) rfl (fun ls hl => ?_)
  obtain ⟨b12, hb12, hK12⟩ := gb_s h
  have E12 : ∀ (c16 : gm) (H : Heap) (locs : List Loc) (ls : Array Slot), (c16 : gm) = b12 → gW D ad cy N A s.heap c0 c16 H locs → lv_has ls 3 [(0, .ref (ad t))] → W p l e rmX10_byLaw s m args below meth cod H locs 0 0 Q (F0 m 127 ls []) := by
    intro c16 H locs ls hq12 G hl
    subst hq12
    replace hK12 := hK12
    have h := hK12
    refine lv_bipush (v := 20) hx hb dX10_byLaw_127 (by decide) ?_
    refine lv_iconst (v := 0) hx hb dX10_byLaw_129 (by decide) ?_
    refine lv_aload_n hx hb dX10_byLaw_130 rfl (lv_at hl 0 rfl) ?_
    refine fg_10_stack F G hk1 ht2 in10 (by decide +kernel) dX10_byLaw_131 ?_
    refine lv_iconst (v := 0) hx hb dX10_byLaw_134 (by decide) ?_
    refine gx_mia F G hk3 ht4 hn5 (by decide) dX10_byLaw_135 ?_
    obtain ⟨r19, hc18, h⟩ := gb_s h
    refine gx_calli F G (va_runS (As := [.int 0, .int (c16.1 420 (0 : Int32).toNatClampNeg)]) (rest := [.int 20]) (gx_fix F) (c_X10_more l sa D ad cy N H.size hN hI c0 c16 hc18) (va_cwS 2 hts gX10_byLaw_X10_more rfl rfl rfl (by decide +kernel) ⟨by decide, by decide⟩) (gx_pre F G) rfl rfl hl.1 rfl (lv_room (Nat.le_of_ble_eq_true rfl)) dX10_byLaw_136 ⟨Nat.zero_le _, Nat.zero_le _⟩) (fun H locs G => ?_)
    obtain ⟨r21, hc20, h⟩ := gb_s h
    refine gx_calli F G (va_runS (As := [.int 20, .int r19]) (rest := []) (gx_fix F) (c_X10_less l sa D ad cy N H.size hN hI c0 c16 hc20) (va_cwS 2 hts gX10_byLaw_X10_less rfl rfl rfl (by decide +kernel) ⟨by decide, by decide⟩) (gx_pre F G) rfl rfl hl.1 rfl (lv_room (Nat.le_of_ble_eq_true rfl)) dX10_byLaw_139 ⟨Nat.zero_le _, Nat.zero_le _⟩) (fun H locs G => ?_)
    cases h
    rw [← hQ]
    exact gx_iret F G hr hlocks dX10_byLaw_142
  have L12 : ∀ (n9 : Nat) (y13 : Int32) (y14 : Int32) (c15 : gm) (H : Heap) (locs : List Loc) (ls : Array Slot), gloop (gu2 (fun (y13 : Int32) => gu2 (fun (y14 : Int32) (c15 : gm) => m_X10_byLaw_L18 t y13 y14 c15))) n9 (y13, y14, c15) = some b12 → gW D ad cy N A s.heap c0 c15 H locs → lv_has ls 3 [(0, .ref (ad t)), (1, .int y13), (2, .int y14)] → W p l e rmX10_byLaw s m args below meth cod H locs 0 0 Q (F0 m 18 ls []) := by
    intro n9
    induction n9 with
    | zero => intro y13 y14 c15 H locs ls h; exact (gloop_0 h).elim
    | succ n9 ih =>
      intro y13 y14 c15 H locs ls h G hl
      have ih12 := ih
      obtain ⟨o12, h, hn12⟩ := gloop_s h
      replace h := gu2_s h
      replace h := gu2_s h
      unfold m_X10_byLaw_L18 at h
      refine lv_iload_n hx hb dX10_byLaw_18 rfl (lv_at hl 2 rfl) ?_
      refine lv_aload_n hx hb dX10_byLaw_19 rfl (lv_at hl 0 rfl) ?_
      refine fg_10_lawMany F G hk1 ht2 in10 (by decide +kernel) dX10_byLaw_20 ?_
      refine lv_icmp_ge (tgt := 127) hx hb dX10_byLaw_23 (by decide) (fun q22 => ?_) (fun q22 => ?_)
      · replace h := gt_s q22 h
        cases h
        exact E12 _ _ _ _ (gnx_r hn12) G (lv_sub hl [0] rfl)
      · replace h := gf_s q22 h
        refine lv_aload_n hx hb dX10_byLaw_26 rfl (lv_at hl 0 rfl) ?_
        refine fg_10_law F G hk1 ht2 in10 (by decide +kernel) dX10_byLaw_27 ?_
        have hk23 : gck 84 = 25 := rfl
        have ht24 : 84 < N := Nat.lt_of_lt_of_le (by decide) hN
        have hn25 : gal 84 = 160 := rfl
        refine lv_iload_n hx hb dX10_byLaw_30 rfl (lv_at hl 2 rfl) ?_
        obtain ⟨hi26, h⟩ := gc_s h
        refine gx_mga F G hk23 ht24 hn25 hi26 dX10_byLaw_31 ?_
        refine lv_iconst (v := 0) hx hb dX10_byLaw_32 (by decide) ?_
        obtain ⟨hk27, h⟩ := gc_s h
        have ht28 : (84 + 1 + y14.toNatClampNeg) < N := Nat.lt_of_lt_of_le (gck_lt22 hk27) hN
        obtain ⟨hi29, h⟩ := gc_s h
        refine gx_mia F G hk27 ht28 rfl hi29 dX10_byLaw_33 ?_
        refine lv_iconst (v := 2) hx hb dX10_byLaw_34 (by decide) ?_
        obtain ⟨K32, eK32, h⟩ := gj_s h
        have JK32 : ∀ (v30 : Int32) (c31 : gm) (H : Heap) (locs : List Loc) (ls : Array Slot), K32 (v30, c31) = some o12 → gW D ad cy N A s.heap c0 c31 H locs → lv_has ls 3 [(0, .ref (ad t)), (1, .int v30), (2, .int y14)] → W p l e rmX10_byLaw s m args below meth cod H locs 0 0 Q (F0 m 121 ls []) := by
          intro v30 c31 H locs ls h G hl
          rw [eK32] at h
          replace h := gu2_s h
          obtain ⟨x33, ex33⟩ : ∃ z : Int32, z = y14 + 1 := ⟨_, rfl⟩
          replace h := gv_s h x33 ex33
          refine lv_iinc (v := x33) (lv' := [(2, .int x33), (0, .ref (ad t)), (1, .int v30)]) hx hb dX10_byLaw_121 hl (k := 2) rfl (by rw [ex33]; rfl) (by decide) rfl (fun ls hl => ?_)
          refine lv_goto (tgt := 18) hx hb dX10_byLaw_124 (by decide) ?_
          cases h
          exact ih12 _ _ _ _ _ _ hn12 G (lv_sub hl [1, 2, 0] rfl)
        refine lv_icmp_ge (tgt := 85) hx hb dX10_byLaw_35 (by decide) (fun q34 => ?_) (fun q34 => ?_)
        · replace h := gt_s q34 h
          obtain ⟨x35, ex35⟩ : ∃ z : Int32, z = y13 + (-1) := ⟨_, rfl⟩
          replace h := gv_s h x35 ex35
          refine lv_iinc (v := x35) (lv' := [(1, .int x35), (0, .ref (ad t)), (2, .int y14)]) hx hb dX10_byLaw_85 hl (k := 1) rfl (by rw [ex35]; rfl) (by decide) rfl (fun ls hl => ?_)
          refine lv_aload_n hx hb dX10_byLaw_88 rfl (lv_at hl 1 rfl) ?_
          refine fg_10_stack F G hk1 ht2 in10 (by decide +kernel) dX10_byLaw_89 ?_
          refine lv_iload_n hx hb dX10_byLaw_92 rfl (lv_at hl 0 rfl) ?_
          refine lv_iconst (v := 1) hx hb dX10_byLaw_93 (by decide) ?_
          refine lv_isub hx hb dX10_byLaw_94 ?_
          refine lv_aload_n hx hb dX10_byLaw_95 rfl (lv_at hl 1 rfl) ?_
          refine fg_10_law F G hk1 ht2 in10 (by decide +kernel) dX10_byLaw_96 ?_
          refine lv_iload_n hx hb dX10_byLaw_99 rfl (lv_at hl 2 rfl) ?_
          obtain ⟨hi36, h⟩ := gc_s h
          refine gx_mga F G hk23 ht24 hn25 hi36 dX10_byLaw_100 ?_
          refine lv_iconst (v := 0) hx hb dX10_byLaw_101 (by decide) ?_
          obtain ⟨hi37, h⟩ := gc_s h
          refine gx_mia F G hk27 ht28 rfl hi37 dX10_byLaw_102 ?_
          refine lv_aload_n hx hb dX10_byLaw_103 rfl (lv_at hl 1 rfl) ?_
          refine fg_10_stack F G hk1 ht2 in10 (by decide +kernel) dX10_byLaw_104 ?_
          refine lv_iload_n hx hb dX10_byLaw_107 rfl (lv_at hl 0 rfl) ?_
          refine lv_iconst (v := 1) hx hb dX10_byLaw_108 (by decide) ?_
          refine lv_isub hx hb dX10_byLaw_109 ?_
          obtain ⟨hi38, h⟩ := gc_s h
          refine gx_mia F G hk3 ht4 hn5 hi38 dX10_byLaw_110 ?_
          refine lv_aload_n hx hb dX10_byLaw_111 rfl (lv_at hl 1 rfl) ?_
          refine fg_10_stack F G hk1 ht2 in10 (by decide +kernel) dX10_byLaw_112 ?_
          refine lv_iload_n hx hb dX10_byLaw_115 rfl (lv_at hl 0 rfl) ?_
          obtain ⟨hi39, h⟩ := gc_s h
          refine gx_mia F G hk3 ht4 hn5 hi39 dX10_byLaw_116 ?_
          obtain ⟨r41, hc40, h⟩ := gb_s h
          refine gx_calli F G (va_runS (As := [.int (c15.1 (84 + 1 + y14.toNatClampNeg) (0 : Int32).toNatClampNeg), .int (c15.1 420 (x35 - 1).toNatClampNeg), .int (c15.1 420 x35.toNatClampNeg)]) (rest := [.int (x35 - 1), .ref (ad 420)]) (gx_fix F) (c_X10_by l sa D ad cy N H.size hN hI c0 c15 hc40) (va_cwS 3 hts gX10_byLaw_X10_by rfl rfl rfl (by decide +kernel) ⟨by decide, by decide⟩) (gx_pre F G) rfl rfl hl.1 rfl (lv_room (Nat.le_of_ble_eq_true rfl)) dX10_byLaw_117 ⟨Nat.zero_le _, Nat.zero_le _⟩) (fun H locs G => ?_)
          obtain ⟨hi42, h⟩ := gc_s h
          refine gx_mis F G hk3 ht4 hn5 hi42 dX10_byLaw_120 (fun H locs G => ?_)
          obtain ⟨c43, ec43⟩ : ∃ z, z = gm_r c15 420 (upd (c15.1 420) (x35 - 1).toNatClampNeg r41) := ⟨_, rfl⟩
          rw [← ec43] at G
          replace h := gv_s h c43 ec43
          exact JK32 _ _ _ _ _ h G (lv_sub hl [1, 0, 2] rfl)
        · replace h := gf_s q34 h
          refine lv_aload_n hx hb dX10_byLaw_38 rfl (lv_at hl 0 rfl) ?_
          refine fg_10_stack F G hk1 ht2 in10 (by decide +kernel) dX10_byLaw_39 ?_
          refine lv_iload_n hx hb dX10_byLaw_42 rfl (lv_at hl 1 rfl) ?_
          refine lv_aload_n hx hb dX10_byLaw_43 rfl (lv_at hl 0 rfl) ?_
          refine fg_10_law F G hk1 ht2 in10 (by decide +kernel) dX10_byLaw_44 ?_
          refine lv_iload_n hx hb dX10_byLaw_47 rfl (lv_at hl 2 rfl) ?_
          obtain ⟨hi44, h⟩ := gc_s h
          refine gx_mga F G hk23 ht24 hn25 hi44 dX10_byLaw_48 ?_
          refine lv_iconst (v := 0) hx hb dX10_byLaw_49 (by decide) ?_
          obtain ⟨hi45, h⟩ := gc_s h
          refine gx_mia F G hk27 ht28 rfl hi45 dX10_byLaw_50 ?_
          obtain ⟨K47, eK47, h⟩ := gj_s h
          have JK47 : ∀ (v46 : Int32) (H : Heap) (locs : List Loc) (ls : Array Slot), K47 v46 = some o12 → gW D ad cy N A s.heap c0 c15 H locs → lv_has ls 3 [(0, .ref (ad t)), (1, .int y13), (2, .int y14)] → W p l e rmX10_byLaw s m args below meth cod H locs 0 0 Q (F0 m 78 ls [.int v46, .int y13, .ref (ad 420)]) := by
            intro v46 H locs ls h G hl
            rw [eK47] at h
            obtain ⟨hi48, h⟩ := gc_s h
            refine gx_mis F G hk3 ht4 hn5 hi48 dX10_byLaw_78 (fun H locs G => ?_)
            obtain ⟨c49, ec49⟩ : ∃ z, z = gm_r c15 420 (upd (c15.1 420) y13.toNatClampNeg v46) := ⟨_, rfl⟩
            rw [← ec49] at G
            replace h := gv_s h c49 ec49
            obtain ⟨x50, ex50⟩ : ∃ z : Int32, z = y13 + 1 := ⟨_, rfl⟩
            replace h := gv_s h x50 ex50
            refine lv_iinc (v := x50) (lv' := [(1, .int x50), (0, .ref (ad t)), (2, .int y14)]) hx hb dX10_byLaw_79 hl (k := 1) rfl (by rw [ex50]; rfl) (by decide) rfl (fun ls hl => ?_)
            refine lv_goto (tgt := 121) hx hb dX10_byLaw_82 (by decide) ?_
            exact JK32 _ _ _ _ _ h G (lv_sub hl [1, 0, 2] rfl)
          refine lv_if_ne (tgt := 65) hx hb dX10_byLaw_51 (by decide) (fun q51 => ?_) (fun q51 => ?_)
          · replace h := gf_s q51 h
            refine lv_aload_n hx hb dX10_byLaw_65 rfl (lv_at hl 0 rfl) ?_
            refine fg_10_known F G hk1 ht2 in10 (by decide +kernel) dX10_byLaw_66 ?_
            refine lv_aload_n hx hb dX10_byLaw_69 rfl (lv_at hl 0 rfl) ?_
            refine fg_10_law F G hk1 ht2 in10 (by decide +kernel) dX10_byLaw_70 ?_
            refine lv_iload_n hx hb dX10_byLaw_73 rfl (lv_at hl 2 rfl) ?_
            obtain ⟨hi52, h⟩ := gc_s h
            refine gx_mga F G hk23 ht24 hn25 hi52 dX10_byLaw_74 ?_
            refine lv_iconst (v := 1) hx hb dX10_byLaw_75 (by decide) ?_
            obtain ⟨hi53, h⟩ := gc_s h
            refine gx_mia F G hk27 ht28 rfl hi53 dX10_byLaw_76 ?_
            obtain ⟨hi54, h⟩ := gc_s h
            refine gx_mia F G hk6 ht7 hn8 hi54 dX10_byLaw_77 ?_
            exact JK47 _ _ _ _ h G hl
          · replace h := gt_s q51 h
            refine lv_aload_n hx hb dX10_byLaw_54 rfl (lv_at hl 0 rfl) ?_
            refine fg_10_law F G hk1 ht2 in10 (by decide +kernel) dX10_byLaw_55 ?_
            refine lv_iload_n hx hb dX10_byLaw_58 rfl (lv_at hl 2 rfl) ?_
            obtain ⟨hi55, h⟩ := gc_s h
            refine gx_mga F G hk23 ht24 hn25 hi55 dX10_byLaw_59 ?_
            refine lv_iconst (v := 1) hx hb dX10_byLaw_60 (by decide) ?_
            obtain ⟨hi56, h⟩ := gc_s h
            refine gx_mia F G hk27 ht28 rfl hi56 dX10_byLaw_61 ?_
            refine lv_goto (tgt := 78) hx hb dX10_byLaw_62 (by decide) ?_
            exact JK47 _ _ _ _ h G hl
  exact L12 n _ _ _ _ _ _ hb12 G (lv_sub hl [2, 1, 0] rfl)
