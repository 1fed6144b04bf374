-- X10_above X10_laysFrom X10_laysAmounts X10_everyThing X10_isSet X10_match X10_fewest X10_heavy X10_level X10_isBeam X10_fits X10_worstOf X10_look
def m_X10_above_L33 (n : Nat) (t : Nat) (a1 : Int32) (y13 : Int32) (y14 : Int32) (c15 : gm) : Option ((Int32 × Int32 × gm) ⊕ (Int32 × gm)) :=
  (if (c15.1 59 (0 : Int32).toNatClampNeg) ≤ y14 then some (.inr (y13, c15)) else gj (gu2 (fun (v23 : Int32) (c24 : gm) => gv (y14 + 1) (fun (x26 : Int32) => some (.inl (v23, x26, c24))))) (fun K25 => (if a1 = y14 then K25 (y13, c15) else gb (m_X10_worths n t y14 a1 c15) (fun (c30 : gm) => gj (fun (v31 : Int32) => gv (y13 ||| v31) (fun (x33 : Int32) => K25 (x33, c30))) (fun K32 => (if (lg_cmp (c30.2.1 t 39) (c30.2.1 t 40)) < 0 then K32 0 else K32 ((1 : Int32) <<< (y14 &&& 31))))))))
def m_X10_above (n : Nat) (t : Nat) (a1 : Int32) (c : gm) : Option (Int32 × gm) :=
  gc (gck t = 10) (gv (gm_r c t (upd (c.1 t) 0 0)) (fun (c3 : gm) => gb (m_X10_isThing t a1 c3) (fun (r5 : Int32) => gj (fun (v6 : Int32) => gb2 (m_X10_bad t v6 1 0 c3) (fun (r9 : Int32) (c10 : gm) => (if r9 = 0 then gb (gloop (gu2 (fun (y13 : Int32) => gu2 (fun (y14 : Int32) (c15 : gm) => m_X10_above_L33 n t a1 y13 y14 c15))) n (0, 0, c10)) (gu2 (fun (z16 : Int32) (c17 : gm) => some (z16, c17))) else some (0, c10)))) (fun K7 => (if r5 = 0 then K7 1 else K7 0)))))
abbrev rmX10_above : Room := { frames := 15, cells := 0, slots := 0, locals := 436 }
set_option maxHeartbeats 4000000 in
set_option maxRecDepth 100000 in
theorem c_X10_above (l : Launch) (sa : gSa) (D : va_G) (ad : Nat → Nat) (cy : Nat → ClassId) (N sz : Nat) (hN : 530 ≤ N) (hI : gI ad N) (c0 c : gm) {n : Nat} {t : Nat} {a1 : Int32} {rZ : Int32} {cZ : gm} (h : m_X10_above n t a1 c = some (rZ, cZ)) : Met l yX10_above wsX10_above rmX10_above (va_Pc [.ref (ad t), .int a1] (gP sa D ad cy N sz c0 c)) (va_Qi (fun (z : Int32) (_ : Unit) => z = rZ) (fun _ U => gE D ad cy N c0 cZ U) (gA ad N sz)) 0 0 (gA ad N sz) := by
  refine Met.ofW (cc := cX10_above) (maxL := 4) (ret := (some .int)) (by decide) rfl ?_
  intro p e s m args below meth cod s₁ B hml hv
  obtain ⟨rfl, hsz, hP, hK, hZ⟩ := hv
  have hx := B.exec
  have hb := B.bytes
  have hr := B.returns
  have hts := atoms_spec (ws := wsX10_above) B.pre
  have hown : s.vm.findClass RX10 = some m.cls := findClass_of_methodNamed B.named
  have hlocks := B.notSynchronized
  subst hsz
  have hl := lv_entry ([.ref (ad t), .int a1]) (n := 4) (Nat.le_of_ble_eq_true rfl)
  rw [lg_entry_eq]
  generalize (lg_sl ([.ref (ad t), .int a1]) ++ List.replicate (4 - (lg_sl ([.ref (ad t), .int a1])).length) Slot.unset).toArray = ls at hl ⊢
  have hl : lv_has ls 4 [(0, .ref (ad t)), (1, .int a1)] := hl
  have in10 : ∀ w ∈ wsX100, w ∈ wsX10_above := by decide +kernel
  generalize hargs : ([.ref (ad t), .int a1] : List Value).toArray = args at *
  generalize hAe : gA ad N s.heap.size = A
  have F : gF sa D ad cy N A p s m args cod cX10_above 4 wsX10_above RX10 := ⟨hx, hb, hml, hown, hts, hK, hI, by rw [← hAe]; exact gA_ad, by rw [← hAe]; exact gA_sz, by rw [← hAe]; exact hZ⟩
  have G : gW D ad cy N A s.heap c0 c s.heap [] := ⟨hP, va_S.rf⟩
  generalize hQ : MQ below (va_Qi (fun (z : Int32) (_ : Unit) => z = rZ) (fun _ U => gE D ad cy N c0 cZ U) A) args s 0 0 A = Q
  suffices hgen : ∀ (H : Heap) (locs : List Loc), gW D ad cy N A s.heap c0 c H locs → W p l e rmX10_above s m args below meth cod H locs 0 0 Q (F0 m 0 ls []) from hgen _ _ G
  clear G
  intro H locs G
  unfold m_X10_above at h
  refine lv_aload_n hx hb dX10_above_0 rfl (lv_at hl 0 rfl) ?_
  refine lv_iconst (v := 0) hx hb dX10_above_1 (by decide) ?_
  obtain ⟨hk1, h⟩ := gc_s h
  have ht2 : t < N := Nat.lt_of_lt_of_le (gck_lt10 hk1) hN
  refine fp_10_thrown F G hk1 ht2 in10 (by decide +kernel) dX10_above_2 (fun H locs G => ?_)
  obtain ⟨c3, ec3⟩ : ∃ z, z = gm_r c t (upd (c.1 t) 0 0) := ⟨_, rfl⟩
  rw [← ec3] at G
  replace h := gv_s h c3 ec3
  refine lv_aload_n hx hb dX10_above_5 rfl (lv_at hl 0 rfl) ?_
  refine lv_aload_n hx hb dX10_above_6 rfl (lv_at hl 0 rfl) ?_
  refine lv_iload_n hx hb dX10_above_7 rfl (lv_at hl 1 rfl) ?_
  obtain ⟨r5, hc4, h⟩ := gb_s h
  refine gx_calli F G (va_runV (As := [.int a1]) (rest := [.ref (ad t)]) (gx_fix F) (c_X10_isThing l sa D ad cy N H.size hN hI c0 c3 hc4) (cwV 1 hts gX10_above_X10_isThing rfl rfl rfl (by decide +kernel) ⟨by decide, by decide⟩) (gx_rec F G ht2 (gwe_10 hk1) rfl) rfl rfl hl.1 rfl (lv_room (Nat.le_of_ble_eq_true rfl)) dX10_above_8 ⟨Nat.zero_le _, Nat.zero_le _⟩) (fun H locs G => ?_)
  obtain ⟨K7, eK7, h⟩ := gj_s h
  have JK7 : ∀ (v6 : Int32) (H : Heap) (locs : List Loc) (ls : Array Slot), K7 v6 = some (rZ, cZ) → gW D ad cy N A s.heap c0 c3 H locs → lv_has ls 4 [(0, .ref (ad t)), (1, .int a1)] → W p l e rmX10_above s m args below meth cod H locs 0 0 Q (F0 m 19 ls [.int v6, .ref (ad t)]) := by
    intro v6 H locs ls h G hl
    rw [eK7] at h
    refine lv_iconst (v := 1) hx hb dX10_above_19 (by decide) ?_
    refine lv_iconst (v := 0) hx hb dX10_above_20 (by decide) ?_
    obtain ⟨r9, c10, hc8, h⟩ := gb2_s h
    refine gx_calli F G (va_runV (As := [.int v6, .int 1, .int 0]) (rest := []) (gx_fix F) (c_X10_bad l sa D ad cy N H.size hN hI c0 c3 hc8) (cwV 3 hts gX10_above_X10_bad rfl rfl rfl (by decide +kernel) ⟨by decide, by decide⟩) (gx_rec F G ht2 (gwe_10 hk1) rfl) rfl rfl hl.1 rfl (lv_room (Nat.le_of_ble_eq_true rfl)) dX10_above_21 ⟨Nat.zero_le _, Nat.zero_le _⟩) (fun H locs G => ?_)
    refine lv_if_eq (tgt := 29) hx hb dX10_above_24 (by decide) (fun q11 => ?_) (fun q11 => ?_)
    · replace h := gt_s q11 h
      refine lv_iconst (v := 0) hx hb dX10_above_29 (by decide) ?_
      refine lv_istore_n (lv' := [(2, .int 0), (0, .ref (ad t)), (1, .int a1)]) hx hb dX10_above_30 rfl hl (by decide) rfl (fun ls hl => ?_)
      refine lv_iconst (v := 0) hx hb dX10_above_31 (by decide) ?_
      refine lv_istore_n (lv' := [(3, .int 0), (2, .int 0), (0, .ref (ad t)), (1, .int a1)]) hx hb dX10_above_32 rfl hl (by decide) rfl (fun ls hl => ?_)
      obtain ⟨b12, hb12, hK12⟩ := gb_s h
      have E12 : ∀ (z16 : Int32) (c17 : gm) (H : Heap) (locs : List Loc) (ls : Array Slot), ((z16, c17) : Int32 × gm) = b12 → gW D ad cy N A s.heap c0 c17 H locs → lv_has ls 4 [(2, .int z16)] → W p l e rmX10_above s m args below meth cod H locs 0 0 Q (F0 m 85 ls []) := by
        intro z16 c17 H locs ls hq12 G hl
        subst hq12
        replace hK12 := hK12
        replace hK12 := gu2_s hK12
        have h := hK12
        refine lv_iload_n hx hb dX10_above_85 rfl (lv_at hl 0 rfl) ?_
        cases h
        rw [← hQ]
        exact gx_iret F G hr hlocks dX10_above_86
      have L12 : ∀ (n9 : Nat) (y13 : Int32) (y14 : Int32) (c15 : gm) (H : Heap) (locs : List Loc) (ls : Array Slot), gloop (gu2 (fun (y13 : Int32) => gu2 (fun (y14 : Int32) (c15 : gm) => m_X10_above_L33 n t a1 y13 y14 c15))) n9 (y13, y14, c15) = some b12 → gW D ad cy N A s.heap c0 c15 H locs → lv_has ls 4 [(0, .ref (ad t)), (1, .int a1), (2, .int y13), (3, .int y14)] → W p l e rmX10_above s m args below meth cod H locs 0 0 Q (F0 m 33 ls []) := by
        intro n9
        induction n9 with
        | zero => intro y13 y14 c15 H locs ls h; exact (gloop_0 h).elim
        | succ n9 ih =>
          intro y13 y14 c15 H locs ls h G hl
          have ih12 := ih
          obtain ⟨o12, h, hn12⟩ := gloop_s h
          replace h := gu2_s h
          replace h := gu2_s h
          unfold m_X10_above_L33 at h
          refine lv_iload_n hx hb dX10_above_33 rfl (lv_at hl 3 rfl) ?_
          refine lv_aload_n hx hb dX10_above_34 rfl (lv_at hl 0 rfl) ?_
          refine fg_10_told F G hk1 ht2 in10 (by decide +kernel) dX10_above_35 ?_
          have hk18 : gck 59 = 22 := rfl
          have ht19 : 59 < N := Nat.lt_of_lt_of_le (by decide) hN
          have hn20 : gal 59 = 4 := rfl
          refine lv_iconst (v := 0) hx hb dX10_above_38 (by decide) ?_
          refine gx_mia F G hk18 ht19 hn20 (by decide) dX10_above_39 ?_
          refine lv_icmp_ge (tgt := 85) hx hb dX10_above_40 (by decide) (fun q22 => ?_) (fun q22 => ?_)
          · replace h := gt_s q22 h
            cases h
            exact E12 _ _ _ _ _ (gnx_r hn12) G (lv_sub hl [2] rfl)
          · replace h := gf_s q22 h
            refine lv_iload_n hx hb dX10_above_43 rfl (lv_at hl 1 rfl) ?_
            refine lv_iload_n hx hb dX10_above_44 rfl (lv_at hl 3 rfl) ?_
            obtain ⟨K25, eK25, h⟩ := gj_s h
            have JK25 : ∀ (v23 : Int32) (c24 : gm) (H : Heap) (locs : List Loc) (ls : Array Slot), K25 (v23, c24) = some o12 → gW D ad cy N A s.heap c0 c24 H locs → lv_has ls 4 [(0, .ref (ad t)), (1, .int a1), (2, .int v23), (3, .int y14)] → W p l e rmX10_above s m args below meth cod H locs 0 0 Q (F0 m 79 ls []) := by
              intro v23 c24 H locs ls h G hl
              rw [eK25] at h
              replace h := gu2_s h
              obtain ⟨x26, ex26⟩ : ∃ z : Int32, z = y14 + 1 := ⟨_, rfl⟩
              replace h := gv_s h x26 ex26
              refine lv_iinc (v := x26) (lv' := [(3, .int x26), (0, .ref (ad t)), (1, .int a1), (2, .int v23)]) hx hb dX10_above_79 hl (k := 3) rfl (by rw [ex26]; rfl) (by decide) rfl (fun ls hl => ?_)
              refine lv_goto (tgt := 33) hx hb dX10_above_82 (by decide) ?_
              cases h
              exact ih12 _ _ _ _ _ _ hn12 G (lv_sub hl [1, 2, 3, 0] rfl)
            refine lv_icmp_ne (tgt := 51) hx hb dX10_above_45 (by decide) (fun q27 => ?_) (fun q27 => ?_)
            · replace h := gf_s q27 h
              refine lv_aload_n hx hb dX10_above_51 rfl (lv_at hl 0 rfl) ?_
              refine lv_iload_n hx hb dX10_above_52 rfl (lv_at hl 3 rfl) ?_
              refine lv_iload_n hx hb dX10_above_53 rfl (lv_at hl 1 rfl) ?_
              obtain ⟨c30, hc28, h⟩ := gb_s h
              refine gx_callv F G (va_runV (As := [.int y14, .int a1]) (rest := []) (gx_fix F) (c_X10_worths l sa D ad cy N H.size hN hI c0 c15 hc28) (cwV 2 hts gX10_above_X10_worths rfl rfl rfl (by decide +kernel) ⟨by decide, by decide⟩) (gx_rec F G ht2 (gwe_10 hk1) rfl) rfl rfl hl.1 rfl (lv_room (Nat.le_of_ble_eq_true rfl)) dX10_above_54 ⟨Nat.zero_le _, Nat.zero_le _⟩) (fun H locs G => ?_)
              refine lv_iload_n hx hb dX10_above_57 rfl (lv_at hl 2 rfl) ?_
              refine lv_aload_n hx hb dX10_above_58 rfl (lv_at hl 0 rfl) ?_
              refine fg_10_bestUp F G hk1 ht2 in10 (by decide +kernel) dX10_above_59 ?_
              refine lv_aload_n hx hb dX10_above_62 rfl (lv_at hl 0 rfl) ?_
              refine fg_10_bestLow F G hk1 ht2 in10 (by decide +kernel) dX10_above_63 ?_
              refine W.lcmp hx hb dX10_above_66 ?_
              obtain ⟨K32, eK32, h⟩ := gj_s h
              have JK32 : ∀ (v31 : Int32) (H : Heap) (locs : List Loc) (ls : Array Slot), K32 v31 = some o12 → gW D ad cy N A s.heap c0 c30 H locs → lv_has ls 4 [(0, .ref (ad t)), (1, .int a1), (3, .int y14)] → W p l e rmX10_above s m args below meth cod H locs 0 0 Q (F0 m 77 ls [.int v31, .int y13]) := by
                intro v31 H locs ls h G hl
                rw [eK32] at h
                refine lv_ior hx hb dX10_above_77 ?_
                refine lv_topi (fun x33 ex33 => ?_)
                replace h := gv_s h x33 ex33
                refine lv_istore_n (lv' := [(2, .int x33), (0, .ref (ad t)), (1, .int a1), (3, .int y14)]) hx hb dX10_above_78 rfl hl (by decide) rfl (fun ls hl => ?_)
                exact JK25 _ _ _ _ _ h G (lv_sub hl [1, 2, 0, 3] rfl)
              refine lv_if_lt (tgt := 76) hx hb dX10_above_67 (by decide) (fun q34 => ?_) (fun q34 => ?_)
              · replace h := gt_s q34 h
                refine lv_iconst (v := 0) hx hb dX10_above_76 (by decide) ?_
                exact JK32 _ _ _ _ h G (lv_sub hl [0, 1, 3] rfl)
              · replace h := gf_s q34 h
                refine lv_iconst (v := 1) hx hb dX10_above_70 (by decide) ?_
                refine lv_iload_n hx hb dX10_above_71 rfl (lv_at hl 3 rfl) ?_
                refine lv_ishl hx hb dX10_above_72 ?_
                refine lv_goto (tgt := 77) hx hb dX10_above_73 (by decide) ?_
                exact JK32 _ _ _ _ h G (lv_sub hl [0, 1, 3] rfl)
            · replace h := gt_s q27 h
              refine lv_goto (tgt := 79) hx hb dX10_above_48 (by decide) ?_
              exact JK25 _ _ _ _ _ h G hl
      exact L12 n _ _ _ _ _ _ hb12 G (lv_sub hl [2, 3, 1, 0] rfl)
    · replace h := gf_s q11 h
      refine lv_iconst (v := 0) hx hb dX10_above_27 (by decide) ?_
      cases h
      rw [← hQ]
      exact gx_iret F G hr hlocks dX10_above_28
  refine lv_if_ne (tgt := 18) hx hb dX10_above_11 (by decide) (fun q35 => ?_) (fun q35 => ?_)
  · replace h := gf_s q35 h
    refine lv_iconst (v := 0) hx hb dX10_above_18 (by decide) ?_
    exact JK7 _ _ _ _ h G hl
  · replace h := gt_s q35 h
    refine lv_iconst (v := 1) hx hb dX10_above_14 (by decide) ?_
    refine lv_goto (tgt := 19) hx hb dX10_above_15 (by decide) ?_
    exact JK7 _ _ _ _ h G hl
def m_X10_laysFrom_b (rs : (Nat → Nat → Int32 → Int32 → Int32 → Int32 → gm → Option (gm))) (n : Nat) (t : Nat) (a1 : Int32) (a2 : Int32) (a3 : Int32) (a4 : Int32) (c : gm) : Option (gm) :=
  gc (gck t = 10) ((if a1 = (c.1 59 (0 : Int32).toNatClampNeg) then (if a4 ≤ 0 then some c else gc (0 ≤ a4.toInt ∧ a4.toInt < 481) (gj (fun (_ : Unit) => gc (0 ≤ a4.toInt ∧ a4.toInt < 481) (gv (gm_r c 528 (upd (c.1 528) a4.toNatClampNeg a3)) (fun (c32 : gm) => some c32))) (fun K30 => (if (c.1 528 a4.toNatClampNeg) = (-1) then K30 () else gb (m_X10_ones n a3) (fun (r35 : Int32) => gc (0 ≤ a4.toInt ∧ a4.toInt < 481) (gb (m_X10_ones n (c.1 528 a4.toNatClampNeg)) (fun (r38 : Int32) => (if r35 < r38 then K30 () else gb (m_X10_ones n a3) (fun (r41 : Int32) => gc (0 ≤ a4.toInt ∧ a4.toInt < 481) (gb (m_X10_ones n (c.1 528 a4.toNatClampNeg)) (fun (r44 : Int32) => (if r41 = r44 then gc (0 ≤ a4.toInt ∧ a4.toInt < 481) ((if (c.1 528 a4.toNatClampNeg) ≤ a3 then some c else K30 ())) else some c)))))))))))) else gb (rs n t (a1 + 1) a2 a3 a4 c) (fun (c10 : gm) => gb (m_X10_has a2 a1) (fun (r12 : Int32) => (if r12 = 0 then some c10 else gc (0 ≤ (0 + a1).toInt ∧ (0 + a1).toInt < 60) (gb (rs n t (a1 + 1) a2 (a3 ||| ((1 : Int32) <<< (a1 &&& 31))) (a4 + (c10.1 503 (0 + a1).toNatClampNeg)) c10) (fun (c20 : gm) => gc (0 ≤ (0 + a1).toInt ∧ (0 + a1).toInt < 60) (gb (rs n t (a1 + 1) a2 (a3 ||| ((1 : Int32) <<< (a1 &&& 31))) (a4 - (c20.1 503 (0 + a1).toNatClampNeg)) c20) (fun (c24 : gm) => some c24)))))))))
abbrev rmX10_laysFrom (dd : Nat) : Room := { frames := 1 * dd + 1, cells := 0, slots := 0, locals := 24 * dd + 22 }
set_option maxHeartbeats 4000000 in
set_option maxRecDepth 100000 in
theorem c_X10_laysFrom_b (l : Launch) (sa : gSa) (D : va_G) (ad : Nat → Nat) (cy : Nat → ClassId) (N sz : Nat) (hN : 530 ≤ N) (hI : gI ad N) (c0 c : gm) (rs : (Nat → Nat → Int32 → Int32 → Int32 → Int32 → gm → Option (gm))) (dd : Nat) (hrs : ∀ (sz : Nat) (c0 c : gm) {n : Nat} {t : Nat} {a1 : Int32} {a2 : Int32} {a3 : Int32} {a4 : Int32} {cZ : gm}, rs n t a1 a2 a3 a4 c = some cZ → Met l yX10_laysFrom wsX10_laysFrom (rmX10_laysFrom dd) (va_Pc [.ref (ad t), .int a1, .int a2, .int a3, .int a4] (gP sa D ad cy N sz c0 c)) (va_Qv (fun (_ : Unit) => True) (fun _ U => gE D ad cy N c0 cZ U) (gA ad N sz)) 0 0 (gA ad N sz)) {n : Nat} {t : Nat} {a1 : Int32} {a2 : Int32} {a3 : Int32} {a4 : Int32} {cZ : gm} (h : m_X10_laysFrom_b rs n t a1 a2 a3 a4 c = some cZ) : Met l yX10_laysFrom wsX10_laysFrom (rmX10_laysFrom (dd + 1)) (va_Pc [.ref (ad t), .int a1, .int a2, .int a3, .int a4] (gP sa D ad cy N sz c0 c)) (va_Qv (fun (_ : Unit) => True) (fun _ U => gE D ad cy N c0 cZ U) (gA ad N sz)) 0 0 (gA ad N sz) := by
  refine Met.ofW (cc := cX10_laysFrom) (maxL := 5) (ret := none) (by decide) rfl ?_
  intro p e s m args below meth cod s₁ B hml hv
  obtain ⟨rfl, hsz, hP, hK, hZ⟩ := hv
  have hx := B.exec
  have hb := B.bytes
  have hr := B.returns
  have hts := atoms_spec (ws := wsX10_laysFrom) B.pre
  have hown : s.vm.findClass RX10 = some m.cls := findClass_of_methodNamed B.named
  have hlocks := B.notSynchronized
  subst hsz
  have hl := lv_entry ([.ref (ad t), .int a1, .int a2, .int a3, .int a4]) (n := 5) (Nat.le_of_ble_eq_true rfl)
  rw [lg_entry_eq]
  generalize (lg_sl ([.ref (ad t), .int a1, .int a2, .int a3, .int a4]) ++ List.replicate (5 - (lg_sl ([.ref (ad t), .int a1, .int a2, .int a3, .int a4])).length) Slot.unset).toArray = ls at hl ⊢
  have hl : lv_has ls 5 [(0, .ref (ad t)), (1, .int a1), (2, .int a2), (3, .int a3), (4, .int a4)] := hl
  have in10 : ∀ w ∈ wsX100, w ∈ wsX10_laysFrom := by decide +kernel
  generalize hargs : ([.ref (ad t), .int a1, .int a2, .int a3, .int a4] : List Value).toArray = args at *
  generalize hAe : gA ad N s.heap.size = A
  have F : gF sa D ad cy N A p s m args cod cX10_laysFrom 5 wsX10_laysFrom RX10 := ⟨hx, hb, hml, hown, hts, hK, hI, by rw [← hAe]; exact gA_ad, by rw [← hAe]; exact gA_sz, by rw [← hAe]; exact hZ⟩
  have G : gW D ad cy N A s.heap c0 c s.heap [] := ⟨hP, va_S.rf⟩
  generalize hQ : MQ below (va_Qv (fun (_ : Unit) => True) (fun _ U => gE D ad cy N c0 cZ U) A) args s 0 0 A = Q
  suffices hgen : ∀ (H : Heap) (locs : List Loc), gW D ad cy N A s.heap c0 c H locs → W p l e (rmX10_laysFrom (dd + 1)) s m args below meth cod H locs 0 0 Q (F0 m 0 ls []) from hgen _ _ G
  clear G
  intro H locs G
  unfold m_X10_laysFrom_b at h
  refine lv_iload_n hx hb dX10_laysFrom_0 rfl (lv_at hl 1 rfl) ?_
  refine lv_aload_n hx hb dX10_laysFrom_1 rfl (lv_at hl 0 rfl) ?_
  obtain ⟨hk1, h⟩ := gc_s h
  have ht2 : t < N := Nat.lt_of_lt_of_le (gck_lt10 hk1) hN
  refine fg_10_told F G hk1 ht2 in10 (by decide +kernel) dX10_laysFrom_2 ?_
  have hk3 : gck 59 = 22 := rfl
  have ht4 : 59 < N := Nat.lt_of_lt_of_le (by decide) hN
  have hn5 : gal 59 = 4 := rfl
  refine lv_iconst (v := 0) hx hb dX10_laysFrom_5 (by decide) ?_
  refine gx_mia F G hk3 ht4 hn5 (by decide) dX10_laysFrom_6 ?_
  refine lv_icmp_ne (tgt := 80) hx hb dX10_laysFrom_7 (by decide) (fun q7 => ?_) (fun q7 => ?_)
  · replace h := gf_s q7 h
    refine lv_aload_n hx hb dX10_laysFrom_80 rfl (lv_at hl 0 rfl) ?_
    refine lv_iload_n hx hb dX10_laysFrom_81 rfl (lv_at hl 1 rfl) ?_
    refine lv_iconst (v := 1) hx hb dX10_laysFrom_82 (by decide) ?_
    refine lv_iadd hx hb dX10_laysFrom_83 ?_
    refine lv_iload_n hx hb dX10_laysFrom_84 rfl (lv_at hl 2 rfl) ?_
    refine lv_iload_n hx hb dX10_laysFrom_85 rfl (lv_at hl 3 rfl) ?_
    refine lv_iload hx hb dX10_laysFrom_86 (lv_at hl 4 rfl) ?_
    obtain ⟨c10, hc8, h⟩ := gb_s h
    refine gx_callv F G (va_runV (As := [.int (a1 + 1), .int a2, .int a3, .int a4]) (rest := []) (gx_fix F) (hrs H.size c0 c hc8) (cwV 4 hts gX10_laysFrom_X10_laysFrom rfl rfl rfl (by decide +kernel) ⟨by simp only [rmX10_laysFrom]; omega, by simp only [rmX10_laysFrom]; omega⟩) (gx_rec F G ht2 (gwe_10 hk1) rfl) rfl rfl hl.1 rfl (lv_room (Nat.le_of_ble_eq_true rfl)) dX10_laysFrom_88 ⟨Nat.zero_le _, Nat.zero_le _⟩) (fun H locs G => ?_)
    refine lv_iload_n hx hb dX10_laysFrom_91 rfl (lv_at hl 2 rfl) ?_
    refine lv_iload_n hx hb dX10_laysFrom_92 rfl (lv_at hl 1 rfl) ?_
    obtain ⟨r12, hc11, h⟩ := gb_s h
    refine gx_calli F G (va_runS (As := [.int a2, .int a1]) (rest := []) (gx_fix F) (c_X10_has l sa D ad cy N H.size hN hI c0 c10 hc11) (va_cwS 2 hts gX10_laysFrom_X10_has rfl rfl rfl (by decide +kernel) ⟨by simp only [rmX10_laysFrom, rmX10_has]; omega, by simp only [rmX10_laysFrom, rmX10_has]; omega⟩) (gx_pre F G) rfl rfl hl.1 rfl (lv_room (Nat.le_of_ble_eq_true rfl)) dX10_laysFrom_93 ⟨Nat.zero_le _, Nat.zero_le _⟩) (fun H locs G => ?_)
    refine lv_if_ne (tgt := 100) hx hb dX10_laysFrom_96 (by decide) (fun q13 => ?_) (fun q13 => ?_)
    · replace h := gf_s q13 h
      refine lv_aload_n hx hb dX10_laysFrom_100 rfl (lv_at hl 0 rfl) ?_
      refine lv_iload_n hx hb dX10_laysFrom_101 rfl (lv_at hl 1 rfl) ?_
      refine lv_iconst (v := 1) hx hb dX10_laysFrom_102 (by decide) ?_
      refine lv_iadd hx hb dX10_laysFrom_103 ?_
      refine lv_iload_n hx hb dX10_laysFrom_104 rfl (lv_at hl 2 rfl) ?_
      refine lv_iload_n hx hb dX10_laysFrom_105 rfl (lv_at hl 3 rfl) ?_
      refine lv_iconst (v := 1) hx hb dX10_laysFrom_106 (by decide) ?_
      refine lv_iload_n hx hb dX10_laysFrom_107 rfl (lv_at hl 1 rfl) ?_
      refine lv_ishl hx hb dX10_laysFrom_108 ?_
      refine lv_ior hx hb dX10_laysFrom_109 ?_
      refine lv_iload hx hb dX10_laysFrom_110 (lv_at hl 4 rfl) ?_
      refine lv_aload_n hx hb dX10_laysFrom_112 rfl (lv_at hl 0 rfl) ?_
      refine fg_10_now F G hk1 ht2 in10 (by decide +kernel) dX10_laysFrom_113 ?_
      have hk14 : gck 503 = 22 := rfl
      have ht15 : 503 < N := Nat.lt_of_lt_of_le (by decide) hN
      have hn16 : gal 503 = 60 := rfl
      refine lv_iconst (v := 0) hx hb dX10_laysFrom_116 (by decide) ?_
      refine lv_iload_n hx hb dX10_laysFrom_117 rfl (lv_at hl 1 rfl) ?_
      refine lv_iadd hx hb dX10_laysFrom_118 ?_
      obtain ⟨hi17, h⟩ := gc_s h
      refine gx_mia F G hk14 ht15 hn16 hi17 dX10_laysFrom_119 ?_
      refine lv_iadd hx hb dX10_laysFrom_120 ?_
      obtain ⟨c20, hc18, h⟩ := gb_s h
      refine gx_callv F G (va_runV (As := [.int (a1 + 1), .int a2, .int (a3 ||| ((1 : Int32) <<< (a1 &&& 31))), .int (a4 + (c10.1 503 (0 + a1).toNatClampNeg))]) (rest := []) (gx_fix F) (hrs H.size c0 c10 hc18) (cwV 4 hts gX10_laysFrom_X10_laysFrom rfl rfl rfl (by decide +kernel) ⟨by simp only [rmX10_laysFrom]; omega, by simp only [rmX10_laysFrom]; omega⟩) (gx_rec F G ht2 (gwe_10 hk1) rfl) rfl rfl hl.1 rfl (lv_room (Nat.le_of_ble_eq_true rfl)) dX10_laysFrom_121 ⟨Nat.zero_le _, Nat.zero_le _⟩) (fun H locs G => ?_)
      refine lv_aload_n hx hb dX10_laysFrom_124 rfl (lv_at hl 0 rfl) ?_
      refine lv_iload_n hx hb dX10_laysFrom_125 rfl (lv_at hl 1 rfl) ?_
      refine lv_iconst (v := 1) hx hb dX10_laysFrom_126 (by decide) ?_
      refine lv_iadd hx hb dX10_laysFrom_127 ?_
      refine lv_iload_n hx hb dX10_laysFrom_128 rfl (lv_at hl 2 rfl) ?_
      refine lv_iload_n hx hb dX10_laysFrom_129 rfl (lv_at hl 3 rfl) ?_
      refine lv_iconst (v := 1) hx hb dX10_laysFrom_130 (by decide) ?_
      refine lv_iload_n hx hb dX10_laysFrom_131 rfl (lv_at hl 1 rfl) ?_
      refine lv_ishl hx hb dX10_laysFrom_132 ?_
      refine lv_ior hx hb dX10_laysFrom_133 ?_
      refine lv_iload hx hb dX10_laysFrom_134 (lv_at hl 4 rfl) ?_
      refine lv_aload_n hx hb dX10_laysFrom_136 rfl (lv_at hl 0 rfl) ?_
      refine fg_10_now F G hk1 ht2 in10 (by decide +kernel) dX10_laysFrom_137 ?_
      refine lv_iconst (v := 0) hx hb dX10_laysFrom_140 (by decide) ?_
      refine lv_iload_n hx hb dX10_laysFrom_141 rfl (lv_at hl 1 rfl) ?_
      refine lv_iadd hx hb dX10_laysFrom_142 ?_
      obtain ⟨hi21, h⟩ := gc_s h
      refine gx_mia F G hk14 ht15 hn16 hi21 dX10_laysFrom_143 ?_
      refine lv_isub hx hb dX10_laysFrom_144 ?_
      obtain ⟨c24, hc22, h⟩ := gb_s h
      refine gx_callv F G (va_runV (As := [.int (a1 + 1), .int a2, .int (a3 ||| ((1 : Int32) <<< (a1 &&& 31))), .int (a4 - (c20.1 503 (0 + a1).toNatClampNeg))]) (rest := []) (gx_fix F) (hrs H.size c0 c20 hc22) (cwV 4 hts gX10_laysFrom_X10_laysFrom rfl rfl rfl (by decide +kernel) ⟨by simp only [rmX10_laysFrom]; omega, by simp only [rmX10_laysFrom]; omega⟩) (gx_rec F G ht2 (gwe_10 hk1) rfl) rfl rfl hl.1 rfl (lv_room (Nat.le_of_ble_eq_true rfl)) dX10_laysFrom_145 ⟨Nat.zero_le _, Nat.zero_le _⟩) (fun H locs G => ?_)
      cases h
      rw [← hQ]
      exact gx_vret F G hr hlocks dX10_laysFrom_148
    · replace h := gt_s q13 h
      cases h
      rw [← hQ]
      exact gx_vret F G hr hlocks dX10_laysFrom_99
  · replace h := gt_s q7 h
    refine lv_iload hx hb dX10_laysFrom_10 (lv_at hl 4 rfl) ?_
    refine lv_if_le (tgt := 79) hx hb dX10_laysFrom_12 (by decide) (fun q25 => ?_) (fun q25 => ?_)
    · replace h := gt_s q25 h
      cases h
      rw [← hQ]
      exact gx_vret F G hr hlocks dX10_laysFrom_79
    · replace h := gf_s q25 h
      refine lv_aload_n hx hb dX10_laysFrom_15 rfl (lv_at hl 0 rfl) ?_
      refine fg_10_by F G hk1 ht2 in10 (by decide +kernel) dX10_laysFrom_16 ?_
      have hk26 : gck 528 = 22 := rfl
      have ht27 : 528 < N := Nat.lt_of_lt_of_le (by decide) hN
      have hn28 : gal 528 = 481 := rfl
      refine lv_iload hx hb dX10_laysFrom_19 (lv_at hl 4 rfl) ?_
      obtain ⟨hi29, h⟩ := gc_s h
      refine gx_mia F G hk26 ht27 hn28 hi29 dX10_laysFrom_21 ?_
      refine lv_iconst (v := (-1)) hx hb dX10_laysFrom_22 (by decide) ?_
      obtain ⟨K30, eK30, h⟩ := gj_s h
      have JK30 : ∀ (H : Heap) (locs : List Loc) (ls : Array Slot), K30 () = some cZ → gW D ad cy N A s.heap c0 c H locs → lv_has ls 5 [(0, .ref (ad t)), (3, .int a3), (4, .int a4)] → W p l e (rmX10_laysFrom (dd + 1)) s m args below meth cod H locs 0 0 Q (F0 m 71 ls []) := by
        intro  H locs ls h G hl
        rw [eK30] at h
        refine lv_aload_n hx hb dX10_laysFrom_71 rfl (lv_at hl 0 rfl) ?_
        refine fg_10_by F G hk1 ht2 in10 (by decide +kernel) dX10_laysFrom_72 ?_
        refine lv_iload hx hb dX10_laysFrom_75 (lv_at hl 2 rfl) ?_
        refine lv_iload_n hx hb dX10_laysFrom_77 rfl (lv_at hl 1 rfl) ?_
        obtain ⟨hi31, h⟩ := gc_s h
        refine gx_mis F G hk26 ht27 hn28 hi31 dX10_laysFrom_78 (fun H locs G => ?_)
        obtain ⟨c32, ec32⟩ : ∃ z, z = gm_r c 528 (upd (c.1 528) a4.toNatClampNeg a3) := ⟨_, rfl⟩
        rw [← ec32] at G
        replace h := gv_s h c32 ec32
        cases h
        rw [← hQ]
        exact gx_vret F G hr hlocks dX10_laysFrom_79
      refine lv_icmp_eq (tgt := 71) hx hb dX10_laysFrom_23 (by decide) (fun q33 => ?_) (fun q33 => ?_)
      · replace h := gt_s q33 h
        exact JK30  _ _ _ h G (lv_sub hl [0, 3, 4] rfl)
      · replace h := gf_s q33 h
        refine lv_iload_n hx hb dX10_laysFrom_26 rfl (lv_at hl 3 rfl) ?_
        obtain ⟨r35, hc34, h⟩ := gb_s h
        refine gx_calli F G (va_runS (As := [.int a3]) (rest := []) (gx_fix F) (c_X10_ones l sa D ad cy N H.size hN hI c0 c hc34) (va_cwS 1 hts gX10_laysFrom_X10_ones rfl rfl rfl (by decide +kernel) ⟨by simp only [rmX10_laysFrom, rmX10_ones]; omega, by simp only [rmX10_laysFrom, rmX10_ones]; omega⟩) (gx_pre F G) rfl rfl hl.1 rfl (lv_room (Nat.le_of_ble_eq_true rfl)) dX10_laysFrom_27 ⟨Nat.zero_le _, Nat.zero_le _⟩) (fun H locs G => ?_)
        refine lv_aload_n hx hb dX10_laysFrom_30 rfl (lv_at hl 0 rfl) ?_
        refine fg_10_by F G hk1 ht2 in10 (by decide +kernel) dX10_laysFrom_31 ?_
        refine lv_iload hx hb dX10_laysFrom_34 (lv_at hl 4 rfl) ?_
        obtain ⟨hi36, h⟩ := gc_s h
        refine gx_mia F G hk26 ht27 hn28 hi36 dX10_laysFrom_36 ?_
        obtain ⟨r38, hc37, h⟩ := gb_s h
        refine gx_calli F G (va_runS (As := [.int (c.1 528 a4.toNatClampNeg)]) (rest := [.int r35]) (gx_fix F) (c_X10_ones l sa D ad cy N H.size hN hI c0 c hc37) (va_cwS 1 hts gX10_laysFrom_X10_ones rfl rfl rfl (by decide +kernel) ⟨by simp only [rmX10_laysFrom, rmX10_ones]; omega, by simp only [rmX10_laysFrom, rmX10_ones]; omega⟩) (gx_pre F G) rfl rfl hl.1 rfl (lv_room (Nat.le_of_ble_eq_true rfl)) dX10_laysFrom_37 ⟨Nat.zero_le _, Nat.zero_le _⟩) (fun H locs G => ?_)
        refine lv_icmp_lt (tgt := 71) hx hb dX10_laysFrom_40 (by decide) (fun q39 => ?_) (fun q39 => ?_)
        · replace h := gt_s q39 h
          exact JK30  _ _ _ h G (lv_sub hl [0, 3, 4] rfl)
        · replace h := gf_s q39 h
          refine lv_iload_n hx hb dX10_laysFrom_43 rfl (lv_at hl 3 rfl) ?_
          obtain ⟨r41, hc40, h⟩ := gb_s h
          refine gx_calli F G (va_runS (As := [.int a3]) (rest := []) (gx_fix F) (c_X10_ones l sa D ad cy N H.size hN hI c0 c hc40) (va_cwS 1 hts gX10_laysFrom_X10_ones rfl rfl rfl (by decide +kernel) ⟨by simp only [rmX10_laysFrom, rmX10_ones]; omega, by simp only [rmX10_laysFrom, rmX10_ones]; omega⟩) (gx_pre F G) rfl rfl hl.1 rfl (lv_room (Nat.le_of_ble_eq_true rfl)) dX10_laysFrom_44 ⟨Nat.zero_le _, Nat.zero_le _⟩) (fun H locs G => ?_)
          refine lv_aload_n hx hb dX10_laysFrom_47 rfl (lv_at hl 0 rfl) ?_
          refine fg_10_by F G hk1 ht2 in10 (by decide +kernel) dX10_laysFrom_48 ?_
          refine lv_iload hx hb dX10_laysFrom_51 (lv_at hl 4 rfl) ?_
          obtain ⟨hi42, h⟩ := gc_s h
          refine gx_mia F G hk26 ht27 hn28 hi42 dX10_laysFrom_53 ?_
          obtain ⟨r44, hc43, h⟩ := gb_s h
          refine gx_calli F G (va_runS (As := [.int (c.1 528 a4.toNatClampNeg)]) (rest := [.int r41]) (gx_fix F) (c_X10_ones l sa D ad cy N H.size hN hI c0 c hc43) (va_cwS 1 hts gX10_laysFrom_X10_ones rfl rfl rfl (by decide +kernel) ⟨by simp only [rmX10_laysFrom, rmX10_ones]; omega, by simp only [rmX10_laysFrom, rmX10_ones]; omega⟩) (gx_pre F G) rfl rfl hl.1 rfl (lv_room (Nat.le_of_ble_eq_true rfl)) dX10_laysFrom_54 ⟨Nat.zero_le _, Nat.zero_le _⟩) (fun H locs G => ?_)
          refine lv_icmp_ne (tgt := 79) hx hb dX10_laysFrom_57 (by decide) (fun q45 => ?_) (fun q45 => ?_)
          · replace h := gf_s q45 h
            cases h
            rw [← hQ]
            exact gx_vret F G hr hlocks dX10_laysFrom_79
          · replace h := gt_s q45 h
            refine lv_iload_n hx hb dX10_laysFrom_60 rfl (lv_at hl 3 rfl) ?_
            refine lv_aload_n hx hb dX10_laysFrom_61 rfl (lv_at hl 0 rfl) ?_
            refine fg_10_by F G hk1 ht2 in10 (by decide +kernel) dX10_laysFrom_62 ?_
            refine lv_iload hx hb dX10_laysFrom_65 (lv_at hl 4 rfl) ?_
            obtain ⟨hi46, h⟩ := gc_s h
            refine gx_mia F G hk26 ht27 hn28 hi46 dX10_laysFrom_67 ?_
            refine lv_icmp_ge (tgt := 79) hx hb dX10_laysFrom_68 (by decide) (fun q47 => ?_) (fun q47 => ?_)
            · replace h := gt_s q47 h
              cases h
              rw [← hQ]
              exact gx_vret F G hr hlocks dX10_laysFrom_79
            · replace h := gf_s q47 h
              exact JK30  _ _ _ h G (lv_sub hl [0, 3, 4] rfl)
def m_X10_laysFrom : Nat → (Nat → Nat → Int32 → Int32 → Int32 → Int32 → gm → Option (gm))
  | 0 => fun _ _ _ _ _ _ _ => none
  | dd + 1 => m_X10_laysFrom_b (m_X10_laysFrom dd)
theorem c_X10_laysFrom (l : Launch) (sa : gSa) (D : va_G) (ad : Nat → Nat) (cy : Nat → ClassId) (N : Nat) (hN : 530 ≤ N) (hI : gI ad N) (dd : Nat) : ∀ (sz : Nat) (c0 c : gm) {n : Nat} {t : Nat} {a1 : Int32} {a2 : Int32} {a3 : Int32} {a4 : Int32} {cZ : gm}, m_X10_laysFrom dd n t a1 a2 a3 a4 c = some cZ → Met l yX10_laysFrom wsX10_laysFrom (rmX10_laysFrom dd) (va_Pc [.ref (ad t), .int a1, .int a2, .int a3, .int a4] (gP sa D ad cy N sz c0 c)) (va_Qv (fun (_ : Unit) => True) (fun _ U => gE D ad cy N c0 cZ U) (gA ad N sz)) 0 0 (gA ad N sz) := by
  induction dd with
  | zero => intro _ _ _ _ _ _ _ _ _ _ h; have h2 : none = some _ := h; cases h2
  | succ dd ih => intro sz c d0 _ _ _ _ _ _ _ h; exact c_X10_laysFrom_b l sa D ad cy N sz hN hI c d0 (m_X10_laysFrom dd) dd (fun sz c d0 _ _ _ _ _ _ _ h => ih sz c d0 h) h

def m_X10_laysAmounts_L2 (t : Nat) (y2 : Int32) (c3 : gm) : Option ((Int32 × gm) ⊕ (gm)) :=
  (if 480 < y2 then some (.inr c3) else gc (gck t = 10) (gc (0 ≤ y2.toInt ∧ y2.toInt < 481) (gv (gm_r c3 528 (upd (c3.1 528) y2.toNatClampNeg (-1))) (fun (c17 : gm) => gv (y2 + 1) (fun (x18 : Int32) => some (.inl (x18, c17)))))))
def m_X10_laysAmounts (n : Nat) (t : Nat) (a1 : Int32) (c : gm) : Option (gm) :=
  gb (gloop (gu2 (fun (y2 : Int32) (c3 : gm) => m_X10_laysAmounts_L2 t y2 c3)) n (0, c)) (fun (c4 : gm) => gc (gck t = 10) (gb (m_X10_laysFrom 12 n t 0 a1 0 0 c4) (fun (c9 : gm) => some c9)))
abbrev rmX10_laysAmounts : Room := { frames := 14, cells := 0, slots := 0, locals := 334 }
set_option maxHeartbeats 4000000 in
set_option maxRecDepth 100000 in
theorem c_X10_laysAmounts (l : Launch) (sa : gSa) (D : va_G) (ad : Nat → Nat) (cy : Nat → ClassId) (N sz : Nat) (hN : 530 ≤ N) (hI : gI ad N) (c0 c : gm) {n : Nat} {t : Nat} {a1 : Int32} {cZ : gm} (h : m_X10_laysAmounts n t a1 c = some cZ) : Met l yX10_laysAmounts wsX10_laysAmounts rmX10_laysAmounts (va_Pc [.ref (ad t), .int a1] (gP sa D ad cy N sz c0 c)) (va_Qv (fun (_ : Unit) => True) (fun _ U => gE D ad cy N c0 cZ U) (gA ad N sz)) 0 0 (gA ad N sz) := by
  refine Met.ofW (cc := cX10_laysAmounts) (maxL := 3) (ret := none) (by decide) rfl ?_
  intro p e s m args below meth cod s₁ B hml hv
  obtain ⟨rfl, hsz, hP, hK, hZ⟩ := hv
  have hx := B.exec
  have hb := B.bytes
  have hr := B.returns
  have hts := atoms_spec (ws := wsX10_laysAmounts) B.pre
  have hown : s.vm.findClass RX10 = some m.cls := findClass_of_methodNamed B.named
  have hlocks := B.notSynchronized
  subst hsz
  have hl := lv_entry ([.ref (ad t), .int a1]) (n := 3) (Nat.le_of_ble_eq_true rfl)
  rw [lg_entry_eq]
  generalize (lg_sl ([.ref (ad t), .int a1]) ++ List.replicate (3 - (lg_sl ([.ref (ad t), .int a1])).length) Slot.unset).toArray = ls at hl ⊢
  have hl : lv_has ls 3 [(0, .ref (ad t)), (1, .int a1)] := hl
  have in10 : ∀ w ∈ wsX100, w ∈ wsX10_laysAmounts := by decide +kernel
  generalize hargs : ([.ref (ad t), .int a1] : List Value).toArray = args at *
  generalize hAe : gA ad N s.heap.size = A
  have F : gF sa D ad cy N A p s m args cod cX10_laysAmounts 3 wsX10_laysAmounts RX10 := ⟨hx, hb, hml, hown, hts, hK, hI, by rw [← hAe]; exact gA_ad, by rw [← hAe]; exact gA_sz, by rw [← hAe]; exact hZ⟩
  have G : gW D ad cy N A s.heap c0 c s.heap [] := ⟨hP, va_S.rf⟩
  generalize hQ : MQ below (va_Qv (fun (_ : Unit) => True) (fun _ U => gE D ad cy N c0 cZ U) A) args s 0 0 A = Q
  suffices hgen : ∀ (H : Heap) (locs : List Loc), gW D ad cy N A s.heap c0 c H locs → W p l e rmX10_laysAmounts s m args below meth cod H locs 0 0 Q (F0 m 0 ls []) from hgen _ _ G
  clear G
  intro H locs G
  unfold m_X10_laysAmounts at h
  refine lv_iconst (v := 0) hx hb dX10_laysAmounts_0 (by decide) ?_
  refine lv_istore_n (lv' := [(2, .int 0), (0, .ref (ad t)), (1, .int a1)]) hx hb dX10_laysAmounts_1 rfl hl (by decide) rfl (fun ls hl => ?_)
  obtain ⟨b1, hb1, hK1⟩ := gb_s h
  have E1 : ∀ (c4 : gm) (H : Heap) (locs : List Loc) (ls : Array Slot), (c4 : gm) = b1 → gW D ad cy N A s.heap c0 c4 H locs → lv_has ls 3 [(0, .ref (ad t)), (1, .int a1)] → W p l e rmX10_laysAmounts s m args below meth cod H locs 0 0 Q (F0 m 22 ls []) := by
    intro c4 H locs ls hq1 G hl
    subst hq1
    replace hK1 := hK1
    have h := hK1
    refine lv_aload_n hx hb dX10_laysAmounts_22 rfl (lv_at hl 0 rfl) ?_
    refine lv_iconst (v := 0) hx hb dX10_laysAmounts_23 (by decide) ?_
    refine lv_iload_n hx hb dX10_laysAmounts_24 rfl (lv_at hl 1 rfl) ?_
    refine lv_iconst (v := 0) hx hb dX10_laysAmounts_25 (by decide) ?_
    refine lv_iconst (v := 0) hx hb dX10_laysAmounts_26 (by decide) ?_
    obtain ⟨hk5, h⟩ := gc_s h
    have ht6 : t < N := Nat.lt_of_lt_of_le (gck_lt10 hk5) hN
    obtain ⟨c9, hc7, h⟩ := gb_s h
    refine gx_callv F G (va_runV (As := [.int 0, .int a1, .int 0, .int 0]) (rest := []) (gx_fix F) (c_X10_laysFrom l sa D ad cy N hN hI 12 H.size c0 c4 hc7) (cwV 4 hts gX10_laysAmounts_X10_laysFrom rfl rfl rfl (by decide +kernel) ⟨by decide, by decide⟩) (gx_rec F G ht6 (gwe_10 hk5) rfl) rfl rfl hl.1 rfl (lv_room (Nat.le_of_ble_eq_true rfl)) dX10_laysAmounts_27 ⟨Nat.zero_le _, Nat.zero_le _⟩) (fun H locs G => ?_)
    cases h
    rw [← hQ]
    exact gx_vret F G hr hlocks dX10_laysAmounts_30
  have L1 : ∀ (n9 : Nat) (y2 : Int32) (c3 : gm) (H : Heap) (locs : List Loc) (ls : Array Slot), gloop (gu2 (fun (y2 : Int32) (c3 : gm) => m_X10_laysAmounts_L2 t y2 c3)) n9 (y2, c3) = some b1 → gW D ad cy N A s.heap c0 c3 H locs → lv_has ls 3 [(0, .ref (ad t)), (1, .int a1), (2, .int y2)] → W p l e rmX10_laysAmounts s m args below meth cod H locs 0 0 Q (F0 m 2 ls []) := by
    intro n9
    induction n9 with
    | zero => intro y2 c3 H locs ls h; exact (gloop_0 h).elim
    | succ n9 ih =>
      intro y2 c3 H locs ls h G hl
      have ih1 := ih
      obtain ⟨o1, h, hn1⟩ := gloop_s h
      replace h := gu2_s h
      unfold m_X10_laysAmounts_L2 at h
      refine lv_iload_n hx hb dX10_laysAmounts_2 rfl (lv_at hl 2 rfl) ?_
      refine lv_sipush (v := 480) hx hb dX10_laysAmounts_3 (by decide) ?_
      refine lv_icmp_gt (tgt := 22) hx hb dX10_laysAmounts_6 (by decide) (fun q10 => ?_) (fun q10 => ?_)
      · replace h := gt_s q10 h
        cases h
        exact E1 _ _ _ _ (gnx_r hn1) G (lv_sub hl [0, 1] rfl)
      · replace h := gf_s q10 h
        refine lv_aload_n hx hb dX10_laysAmounts_9 rfl (lv_at hl 0 rfl) ?_
        obtain ⟨hk11, h⟩ := gc_s h
        have ht12 : t < N := Nat.lt_of_lt_of_le (gck_lt10 hk11) hN
        refine fg_10_by F G hk11 ht12 in10 (by decide +kernel) dX10_laysAmounts_10 ?_
        have hk13 : gck 528 = 22 := rfl
        have ht14 : 528 < N := Nat.lt_of_lt_of_le (by decide) hN
        have hn15 : gal 528 = 481 := rfl
        refine lv_iload_n hx hb dX10_laysAmounts_13 rfl (lv_at hl 2 rfl) ?_
        refine lv_iconst (v := (-1)) hx hb dX10_laysAmounts_14 (by decide) ?_
        obtain ⟨hi16, h⟩ := gc_s h
        refine gx_mis F G hk13 ht14 hn15 hi16 dX10_laysAmounts_15 (fun H locs G => ?_)
        obtain ⟨c17, ec17⟩ : ∃ z, z = gm_r c3 528 (upd (c3.1 528) y2.toNatClampNeg (-1)) := ⟨_, rfl⟩
        rw [← ec17] at G
        replace h := gv_s h c17 ec17
        obtain ⟨x18, ex18⟩ : ∃ z : Int32, z = y2 + 1 := ⟨_, rfl⟩
        replace h := gv_s h x18 ex18
        refine lv_iinc (v := x18) (lv' := [(2, .int x18), (0, .ref (ad t)), (1, .int a1)]) hx hb dX10_laysAmounts_16 hl (k := 2) rfl (by rw [ex18]; rfl) (by decide) rfl (fun ls hl => ?_)
        refine lv_goto (tgt := 2) hx hb dX10_laysAmounts_19 (by decide) ?_
        cases h
        exact ih1 _ _ _ _ _ hn1 G (lv_sub hl [1, 2, 0] rfl)
  exact L1 n _ _ _ _ _ hb1 G (lv_sub hl [1, 2, 0] rfl)
def m_X10_everyThing (t : Nat) (c : gm) : Option (Int32) :=
  gc (gck t = 10) (some (((1 : Int32) <<< ((c.1 59 (0 : Int32).toNatClampNeg) &&& 31)) - 1))
abbrev rmX10_everyThing : Room := { frames := 0, cells := 0, slots := 0, locals := 0 }
set_option maxHeartbeats 4000000 in
set_option maxRecDepth 100000 in
theorem c_X10_everyThing (l : Launch) (sa : gSa) (D : va_G) (ad : Nat → Nat) (cy : Nat → ClassId) (N sz : Nat) (hN : 530 ≤ N) (hI : gI ad N) (c0 c : gm) {t : Nat} {rZ : Int32} (h : m_X10_everyThing t c = some rZ) : Met l yX10_everyThing wsX10_everyThing rmX10_everyThing (va_Pc [.ref (ad t)] (gP sa D ad cy N sz c0 c)) (va_Qi (fun (z : Int32) (_ : Unit) => z = rZ) (fun _ U => gE D ad cy N c0 c U) (gA ad N sz)) 0 0 (gA ad N sz) := by
  refine Met.ofW (cc := cX10_everyThing) (maxL := 1) (ret := (some .int)) (by decide) rfl ?_
  intro p e s m args below meth cod s₁ B hml hv
  obtain ⟨rfl, hsz, hP, hK, hZ⟩ := hv
  have hx := B.exec
  have hb := B.bytes
  have hr := B.returns
  have hts := atoms_spec (ws := wsX10_everyThing) B.pre
  have hown : s.vm.findClass RX10 = some m.cls := findClass_of_methodNamed B.named
  have hlocks := B.notSynchronized
  subst hsz
  have hl := lv_entry ([.ref (ad t)]) (n := 1) (Nat.le_of_ble_eq_true rfl)
  rw [lg_entry_eq]
  generalize (lg_sl ([.ref (ad t)]) ++ List.replicate (1 - (lg_sl ([.ref (ad t)])).length) Slot.unset).toArray = ls at hl ⊢
  have hl : lv_has ls 1 [(0, .ref (ad t))] := hl
  have in10 : ∀ w ∈ wsX100, w ∈ wsX10_everyThing := by decide +kernel
  generalize hargs : ([.ref (ad t)] : List Value).toArray = args at *
  generalize hAe : gA ad N s.heap.size = A
  have F : gF sa D ad cy N A p s m args cod cX10_everyThing 1 wsX10_everyThing RX10 := ⟨hx, hb, hml, hown, hts, hK, hI, by rw [← hAe]; exact gA_ad, by rw [← hAe]; exact gA_sz, by rw [← hAe]; exact hZ⟩
  have G : gW D ad cy N A s.heap c0 c s.heap [] := ⟨hP, va_S.rf⟩
  generalize hQ : MQ below (va_Qi (fun (z : Int32) (_ : Unit) => z = rZ) (fun _ U => gE D ad cy N c0 c U) A) args s 0 0 A = Q
  suffices hgen : ∀ (H : Heap) (locs : List Loc), gW D ad cy N A s.heap c0 c H locs → W p l e rmX10_everyThing s m args below meth cod H locs 0 0 Q (F0 m 0 ls []) from hgen _ _ G
  clear G
  intro H locs G
  unfold m_X10_everyThing at h
  refine lv_iconst (v := 1) hx hb dX10_everyThing_0 (by decide) ?_
  refine lv_aload_n hx hb dX10_everyThing_1 rfl (lv_at hl 0 rfl) ?_
  obtain ⟨hk1, h⟩ := gc_s h
  have ht2 : t < N := Nat.lt_of_lt_of_le (gck_lt10 hk1) hN
  refine fg_10_told F G hk1 ht2 in10 (by decide +kernel) dX10_everyThing_2 ?_
  have hk3 : gck 59 = 22 := rfl
  have ht4 : 59 < N := Nat.lt_of_lt_of_le (by decide) hN
  have hn5 : gal 59 = 4 := rfl
  refine lv_iconst (v := 0) hx hb dX10_everyThing_5 (by decide) ?_
  refine gx_mia F G hk3 ht4 hn5 (by decide) dX10_everyThing_6 ?_
  refine lv_ishl hx hb dX10_everyThing_7 ?_
  refine lv_iconst (v := 1) hx hb dX10_everyThing_8 (by decide) ?_
  refine lv_isub hx hb dX10_everyThing_9 ?_
  cases h
  rw [← hQ]
  exact gx_iret F G hr hlocks dX10_everyThing_10
def m_X10_isSet (t : Nat) (a1 : Int32) (c : gm) : Option (Int32) :=
  gc (gck t = 10) (gb (m_X10_everyThing t c) (fun (r4 : Int32) => gb (m_X10_in a1 0 r4) (fun (r6 : Int32) => gc (r6 = 0 ∨ r6 = 1) (some r6))))
abbrev rmX10_isSet : Room := { frames := 1, cells := 0, slots := 0, locals := 22 }
set_option maxHeartbeats 4000000 in
set_option maxRecDepth 100000 in
theorem c_X10_isSet (l : Launch) (sa : gSa) (D : va_G) (ad : Nat → Nat) (cy : Nat → ClassId) (N sz : Nat) (hN : 530 ≤ N) (hI : gI ad N) (c0 c : gm) {t : Nat} {a1 : Int32} {rZ : Int32} (h : m_X10_isSet t a1 c = some rZ) : Met l yX10_isSet wsX10_isSet rmX10_isSet (va_Pc [.ref (ad t), .int a1] (gP sa D ad cy N sz c0 c)) (va_Qi (fun (z : Int32) (_ : Unit) => z = rZ) (fun _ U => gE D ad cy N c0 c U) (gA ad N sz)) 0 0 (gA ad N sz) := by
  refine Met.ofW (cc := cX10_isSet) (maxL := 2) (ret := (some .boolean)) (by decide) rfl ?_
  intro p e s m args below meth cod s₁ B hml hv
  obtain ⟨rfl, hsz, hP, hK, hZ⟩ := hv
  have hx := B.exec
  have hb := B.bytes
  have hr := B.returns
  have hts := atoms_spec (ws := wsX10_isSet) B.pre
  have hown : s.vm.findClass RX10 = some m.cls := findClass_of_methodNamed B.named
  have hlocks := B.notSynchronized
  subst hsz
  have hl := lv_entry ([.ref (ad t), .int a1]) (n := 2) (Nat.le_of_ble_eq_true rfl)
  rw [lg_entry_eq]
  generalize (lg_sl ([.ref (ad t), .int a1]) ++ List.replicate (2 - (lg_sl ([.ref (ad t), .int a1])).length) Slot.unset).toArray = ls at hl ⊢
  have hl : lv_has ls 2 [(0, .ref (ad t)), (1, .int a1)] := hl
  generalize hargs : ([.ref (ad t), .int a1] : List Value).toArray = args at *
  generalize hAe : gA ad N s.heap.size = A
  have F : gF sa D ad cy N A p s m args cod cX10_isSet 2 wsX10_isSet RX10 := ⟨hx, hb, hml, hown, hts, hK, hI, by rw [← hAe]; exact gA_ad, by rw [← hAe]; exact gA_sz, by rw [← hAe]; exact hZ⟩
  have G : gW D ad cy N A s.heap c0 c s.heap [] := ⟨hP, va_S.rf⟩
  generalize hQ : MQ below (va_Qi (fun (z : Int32) (_ : Unit) => z = rZ) (fun _ U => gE D ad cy N c0 c U) A) args s 0 0 A = Q
  suffices hgen : ∀ (H : Heap) (locs : List Loc), gW D ad cy N A s.heap c0 c H locs → W p l e rmX10_isSet s m args below meth cod H locs 0 0 Q (F0 m 0 ls []) from hgen _ _ G
  clear G
  intro H locs G
  unfold m_X10_isSet at h
  refine lv_iload_n hx hb dX10_isSet_0 rfl (lv_at hl 1 rfl) ?_
  refine lv_iconst (v := 0) hx hb dX10_isSet_1 (by decide) ?_
  refine lv_aload_n hx hb dX10_isSet_2 rfl (lv_at hl 0 rfl) ?_
  obtain ⟨hk1, h⟩ := gc_s h
  have ht2 : t < N := Nat.lt_of_lt_of_le (gck_lt10 hk1) hN
  obtain ⟨r4, hc3, h⟩ := gb_s h
  refine gx_calli F G (va_runV (As := []) (rest := [.int 0, .int a1]) (gx_fix F) (c_X10_everyThing l sa D ad cy N H.size hN hI c0 c hc3) (cwV 0 hts gX10_isSet_X10_everyThing rfl rfl rfl (by decide +kernel) ⟨by decide, by decide⟩) (gx_rec F G ht2 (gwe_10 hk1) rfl) rfl rfl hl.1 rfl (lv_room (Nat.le_of_ble_eq_true rfl)) dX10_isSet_3 ⟨Nat.zero_le _, Nat.zero_le _⟩) (fun H locs G => ?_)
  obtain ⟨r6, hc5, h⟩ := gb_s h
  refine gx_calli F G (va_runS (As := [.int a1, .int 0, .int r4]) (rest := []) (gx_fix F) (c_X10_in l sa D ad cy N H.size hN hI c0 c hc5) (va_cwS 3 hts gX10_isSet_X10_in rfl rfl rfl (by decide +kernel) ⟨by decide, by decide⟩) (gx_pre F G) rfl rfl hl.1 rfl (lv_room (Nat.le_of_ble_eq_true rfl)) dX10_isSet_6 ⟨Nat.zero_le _, Nat.zero_le _⟩) (fun H locs G => ?_)
  obtain ⟨hz7, h⟩ := gc_s h
  cases h
  rw [← hQ]
  exact gx_zret F G hr hlocks (gnb hz7) dX10_isSet_9
def m_X10_match_L84 (c14 : gm) (y20 : Int32) : Option ((Int32) ⊕ (Int32)) :=
  (if 480 < y20 then some (.inr y20) else gc (0 ≤ y20.toInt ∧ y20.toInt < 481) ((if (c14.1 528 y20.toNatClampNeg) = (-1) then some (.inr y20) else gv (y20 + 1) (fun (x29 : Int32) => some (.inl x29)))))
def m_X10_match_L51 (c14 : gm) (y16 : Int32) (y17 : Int32) : Option ((Int32 × Int32) ⊕ (Int32)) :=
  (if 480 < y17 then some (.inr y16) else gc (0 ≤ y17.toInt ∧ y17.toInt < 481) (gj (fun (v35 : Int32) => gv (y16 + v35) (fun (x37 : Int32) => gv (y17 + 1) (fun (x38 : Int32) => some (.inl (x37, x38))))) (fun K36 => (if (c14.1 528 y17.toNatClampNeg) = (-1) then K36 0 else K36 1))))
def m_X10_match (n : Nat) (t : Nat) (a1 : Int32) (a2 : Int32) (c : gm) : Option (Int32 × gm) :=
  gc (gck t = 10) (gv (gm_r c t (upd (c.1 t) 0 0)) (fun (c3 : gm) => gb (m_X10_isSet t a1 c3) (fun (r5 : Int32) => gj (fun (v6 : Int32) => gb2 (m_X10_bad t v6 1 1 c3) (fun (r9 : Int32) (c10 : gm) => (if r9 = 0 then gb (m_X10_laysAmounts n t a1 c10) (fun (c14 : gm) => gb (gloop (gu2 (fun (y16 : Int32) (y17 : Int32) => m_X10_match_L51 c14 y16 y17)) n (0, 1)) (fun (z18 : Int32) => gb (gloop (fun (y20 : Int32) => m_X10_match_L84 c14 y20) n 1) (fun (z21 : Int32) => (if a2 = 0 then some (z18, c14) else some (z21, c14))))) else some (0, c10)))) (fun K7 => gj (fun (_ : Unit) => K7 1) (fun K40 => (if r5 = 0 then K40 () else gb (m_X10_in a2 0 1) (fun (r43 : Int32) => (if r43 = 0 then K40 () else K7 0))))))))
abbrev rmX10_match : Room := { frames := 15, cells := 0, slots := 0, locals := 356 }
set_option maxHeartbeats 4000000 in
set_option maxRecDepth 100000 in
theorem c_X10_match (l : Launch) (sa : gSa) (D : va_G) (ad : Nat → Nat) (cy : Nat → ClassId) (N sz : Nat) (hN : 530 ≤ N) (hI : gI ad N) (c0 c : gm) {n : Nat} {t : Nat} {a1 : Int32} {a2 : Int32} {rZ : Int32} {cZ : gm} (h : m_X10_match n t a1 a2 c = some (rZ, cZ)) : Met l yX10_match wsX10_match rmX10_match (va_Pc [.ref (ad t), .int a1, .int a2] (gP sa D ad cy N sz c0 c)) (va_Qi (fun (z : Int32) (_ : Unit) => z = rZ) (fun _ U => gE D ad cy N c0 cZ U) (gA ad N sz)) 0 0 (gA ad N sz) := by
  refine Met.ofW (cc := cX10_match) (maxL := 6) (ret := (some .int)) (by decide) rfl ?_
  intro p e s m args below meth cod s₁ B hml hv
  obtain ⟨rfl, hsz, hP, hK, hZ⟩ := hv
  have hx := B.exec
  have hb := B.bytes
  have hr := B.returns
  have hts := atoms_spec (ws := wsX10_match) B.pre
  have hown : s.vm.findClass RX10 = some m.cls := findClass_of_methodNamed B.named
  have hlocks := B.notSynchronized
  subst hsz
  have hl := lv_entry ([.ref (ad t), .int a1, .int a2]) (n := 6) (Nat.le_of_ble_eq_true rfl)
  rw [lg_entry_eq]
  generalize (lg_sl ([.ref (ad t), .int a1, .int a2]) ++ List.replicate (6 - (lg_sl ([.ref (ad t), .int a1, .int a2])).length) Slot.unset).toArray = ls at hl ⊢
  have hl : lv_has ls 6 [(0, .ref (ad t)), (1, .int a1), (2, .int a2)] := hl
  have in10 : ∀ w ∈ wsX100, w ∈ wsX10_match := by decide +kernel
  generalize hargs : ([.ref (ad t), .int a1, .int a2] : List Value).toArray = args at *
  generalize hAe : gA ad N s.heap.size = A
  have F : gF sa D ad cy N A p s m args cod cX10_match 6 wsX10_match RX10 := ⟨hx, hb, hml, hown, hts, hK, hI, by rw [← hAe]; exact gA_ad, by rw [← hAe]; exact gA_sz, by rw [← hAe]; exact hZ⟩
  have G : gW D ad cy N A s.heap c0 c s.heap [] := ⟨hP, va_S.rf⟩
  generalize hQ : MQ below (va_Qi (fun (z : Int32) (_ : Unit) => z = rZ) (fun _ U => gE D ad cy N c0 cZ U) A) args s 0 0 A = Q
  suffices hgen : ∀ (H : Heap) (locs : List Loc), gW D ad cy N A s.heap c0 c H locs → W p l e rmX10_match s m args below meth cod H locs 0 0 Q (F0 m 0 ls []) from hgen _ _ G
  clear G
  intro H locs G
  unfold m_X10_match at h
  refine lv_aload_n hx hb dX10_match_0 rfl (lv_at hl 0 rfl) ?_
  refine lv_iconst (v := 0) hx hb dX10_match_1 (by decide) ?_
  obtain ⟨hk1, h⟩ := gc_s h
  have ht2 : t < N := Nat.lt_of_lt_of_le (gck_lt10 hk1) hN
  refine fp_10_thrown F G hk1 ht2 in10 (by decide +kernel) dX10_match_2 (fun H locs G => ?_)
  obtain ⟨c3, ec3⟩ : ∃ z, z = gm_r c t (upd (c.1 t) 0 0) := ⟨_, rfl⟩
  rw [← ec3] at G
  replace h := gv_s h c3 ec3
  refine lv_aload_n hx hb dX10_match_5 rfl (lv_at hl 0 rfl) ?_
  refine lv_aload_n hx hb dX10_match_6 rfl (lv_at hl 0 rfl) ?_
  refine lv_iload_n hx hb dX10_match_7 rfl (lv_at hl 1 rfl) ?_
  obtain ⟨r5, hc4, h⟩ := gb_s h
  refine gx_calli F G (va_runV (As := [.int a1]) (rest := [.ref (ad t)]) (gx_fix F) (c_X10_isSet l sa D ad cy N H.size hN hI c0 c3 hc4) (cwV 1 hts gX10_match_X10_isSet rfl rfl rfl (by decide +kernel) ⟨by decide, by decide⟩) (gx_rec F G ht2 (gwe_10 hk1) rfl) rfl rfl hl.1 rfl (lv_room (Nat.le_of_ble_eq_true rfl)) dX10_match_8 ⟨Nat.zero_le _, Nat.zero_le _⟩) (fun H locs G => ?_)
  obtain ⟨K7, eK7, h⟩ := gj_s h
  have JK7 : ∀ (v6 : Int32) (H : Heap) (locs : List Loc) (ls : Array Slot), K7 v6 = some (rZ, cZ) → gW D ad cy N A s.heap c0 c3 H locs → lv_has ls 6 [(0, .ref (ad t)), (1, .int a1), (2, .int a2)] → W p l e rmX10_match s m args below meth cod H locs 0 0 Q (F0 m 28 ls [.int v6, .ref (ad t)]) := by
    intro v6 H locs ls h G hl
    rw [eK7] at h
    refine lv_iconst (v := 1) hx hb dX10_match_28 (by decide) ?_
    refine lv_iconst (v := 1) hx hb dX10_match_29 (by decide) ?_
    obtain ⟨r9, c10, hc8, h⟩ := gb2_s h
    refine gx_calli F G (va_runV (As := [.int v6, .int 1, .int 1]) (rest := []) (gx_fix F) (c_X10_bad l sa D ad cy N H.size hN hI c0 c3 hc8) (cwV 3 hts gX10_match_X10_bad rfl rfl rfl (by decide +kernel) ⟨by decide, by decide⟩) (gx_rec F G ht2 (gwe_10 hk1) rfl) rfl rfl hl.1 rfl (lv_room (Nat.le_of_ble_eq_true rfl)) dX10_match_30 ⟨Nat.zero_le _, Nat.zero_le _⟩) (fun H locs G => ?_)
    refine lv_if_eq (tgt := 38) hx hb dX10_match_33 (by decide) (fun q11 => ?_) (fun q11 => ?_)
    · replace h := gt_s q11 h
      refine lv_aload_n hx hb dX10_match_38 rfl (lv_at hl 0 rfl) ?_
      refine lv_iload_n hx hb dX10_match_39 rfl (lv_at hl 1 rfl) ?_
      obtain ⟨c14, hc12, h⟩ := gb_s h
      refine gx_callv F G (va_runV (As := [.int a1]) (rest := []) (gx_fix F) (c_X10_laysAmounts l sa D ad cy N H.size hN hI c0 c10 hc12) (cwV 1 hts gX10_match_X10_laysAmounts rfl rfl rfl (by decide +kernel) ⟨by decide, by decide⟩) (gx_rec F G ht2 (gwe_10 hk1) rfl) rfl rfl hl.1 rfl (lv_room (Nat.le_of_ble_eq_true rfl)) dX10_match_40 ⟨Nat.zero_le _, Nat.zero_le _⟩) (fun H locs G => ?_)
      refine lv_iconst (v := 0) hx hb dX10_match_43 (by decide) ?_
      refine lv_istore_n (lv' := [(3, .int 0), (0, .ref (ad t)), (1, .int a1), (2, .int a2)]) hx hb dX10_match_44 rfl hl (by decide) rfl (fun ls hl => ?_)
      refine lv_iconst (v := 1) hx hb dX10_match_45 (by decide) ?_
      refine lv_istore (lv' := [(4, .int 1), (3, .int 0), (0, .ref (ad t)), (1, .int a1), (2, .int a2)]) hx hb dX10_match_46 hl (by decide) rfl (fun ls hl => ?_)
      refine lv_iconst (v := 1) hx hb dX10_match_48 (by decide) ?_
      refine lv_istore (lv' := [(5, .int 1), (4, .int 1), (3, .int 0), (0, .ref (ad t)), (1, .int a1), (2, .int a2)]) hx hb dX10_match_49 hl (by decide) rfl (fun ls hl => ?_)
      obtain ⟨b15, hb15, hK15⟩ := gb_s h
      have E15 : ∀ (z18 : Int32) (H : Heap) (locs : List Loc) (ls : Array Slot), (z18 : Int32) = b15 → gW D ad cy N A s.heap c0 c14 H locs → lv_has ls 6 [(0, .ref (ad t)), (2, .int a2), (3, .int z18), (4, .int 1)] → W p l e rmX10_match s m args below meth cod H locs 0 0 Q (F0 m 84 ls []) := by
        intro z18 H locs ls hq15 G hl
        subst hq15
        replace hK15 := hK15
        have h := hK15
        obtain ⟨b19, hb19, hK19⟩ := gb_s h
        have E19 : ∀ (z21 : Int32) (H : Heap) (locs : List Loc) (ls : Array Slot), (z21 : Int32) = b19 → gW D ad cy N A s.heap c0 c14 H locs → lv_has ls 6 [(2, .int a2), (3, .int z18), (4, .int z21)] → W p l e rmX10_match s m args below meth cod H locs 0 0 Q (F0 m 109 ls []) := by
          intro z21 H locs ls hq19 G hl
          subst hq19
          replace hK19 := hK19
          have h := hK19
          refine lv_iload_n hx hb dX10_match_109 rfl (lv_at hl 0 rfl) ?_
          refine lv_if_ne (tgt := 117) hx hb dX10_match_110 (by decide) (fun q22 => ?_) (fun q22 => ?_)
          · replace h := gf_s q22 h
            refine lv_iload hx hb dX10_match_117 (lv_at hl 2 rfl) ?_
            cases h
            rw [← hQ]
            exact gx_iret F G hr hlocks dX10_match_119
          · replace h := gt_s q22 h
            refine lv_iload_n hx hb dX10_match_113 rfl (lv_at hl 1 rfl) ?_
            refine lv_goto (tgt := 119) hx hb dX10_match_114 (by decide) ?_
            cases h
            rw [← hQ]
            exact gx_iret F G hr hlocks dX10_match_119
        have L19 : ∀ (n9 : Nat) (y20 : Int32) (H : Heap) (locs : List Loc) (ls : Array Slot), gloop (fun (y20 : Int32) => m_X10_match_L84 c14 y20) n9 y20 = some b19 → gW D ad cy N A s.heap c0 c14 H locs → lv_has ls 6 [(0, .ref (ad t)), (2, .int a2), (3, .int z18), (4, .int y20)] → W p l e rmX10_match s m args below meth cod H locs 0 0 Q (F0 m 84 ls []) := by
          intro n9
          induction n9 with
          | zero => intro y20 H locs ls h; exact (gloop_0 h).elim
          | succ n9 ih =>
            intro y20 H locs ls h G hl
            have ih19 := ih
            obtain ⟨o19, h, hn19⟩ := gloop_s h
            unfold m_X10_match_L84 at h
            refine lv_iload hx hb dX10_match_84 (lv_at hl 3 rfl) ?_
            refine lv_sipush (v := 480) hx hb dX10_match_86 (by decide) ?_
            refine lv_icmp_gt (tgt := 109) hx hb dX10_match_89 (by decide) (fun q23 => ?_) (fun q23 => ?_)
            · replace h := gt_s q23 h
              cases h
              exact E19 _ _ _ _ (gnx_r hn19) G (lv_sub hl [1, 2, 3] rfl)
            · replace h := gf_s q23 h
              refine lv_aload_n hx hb dX10_match_92 rfl (lv_at hl 0 rfl) ?_
              refine fg_10_by F G hk1 ht2 in10 (by decide +kernel) dX10_match_93 ?_
              have hk24 : gck 528 = 22 := rfl
              have ht25 : 528 < N := Nat.lt_of_lt_of_le (by decide) hN
              have hn26 : gal 528 = 481 := rfl
              refine lv_iload hx hb dX10_match_96 (lv_at hl 3 rfl) ?_
              obtain ⟨hi27, h⟩ := gc_s h
              refine gx_mia F G hk24 ht25 hn26 hi27 dX10_match_98 ?_
              refine lv_iconst (v := (-1)) hx hb dX10_match_99 (by decide) ?_
              refine lv_icmp_eq (tgt := 109) hx hb dX10_match_100 (by decide) (fun q28 => ?_) (fun q28 => ?_)
              · replace h := gt_s q28 h
                cases h
                exact E19 _ _ _ _ (gnx_r hn19) G (lv_sub hl [1, 2, 3] rfl)
              · replace h := gf_s q28 h
                obtain ⟨x29, ex29⟩ : ∃ z : Int32, z = y20 + 1 := ⟨_, rfl⟩
                replace h := gv_s h x29 ex29
                refine lv_iinc (v := x29) (lv' := [(4, .int x29), (0, .ref (ad t)), (2, .int a2), (3, .int z18)]) hx hb dX10_match_103 hl (k := 3) rfl (by rw [ex29]; rfl) (by decide) rfl (fun ls hl => ?_)
                refine lv_goto (tgt := 84) hx hb dX10_match_106 (by decide) ?_
                cases h
                exact ih19 _ _ _ _ hn19 G (lv_sub hl [1, 2, 3, 0] rfl)
        exact L19 n _ _ _ _ hb19 G hl
      have L15 : ∀ (n9 : Nat) (y16 : Int32) (y17 : Int32) (H : Heap) (locs : List Loc) (ls : Array Slot), gloop (gu2 (fun (y16 : Int32) (y17 : Int32) => m_X10_match_L51 c14 y16 y17)) n9 (y16, y17) = some b15 → gW D ad cy N A s.heap c0 c14 H locs → lv_has ls 6 [(0, .ref (ad t)), (2, .int a2), (3, .int y16), (4, .int 1), (5, .int y17)] → W p l e rmX10_match s m args below meth cod H locs 0 0 Q (F0 m 51 ls []) := by
        intro n9
        induction n9 with
        | zero => intro y16 y17 H locs ls h; exact (gloop_0 h).elim
        | succ n9 ih =>
          intro y16 y17 H locs ls h G hl
          have ih15 := ih
          obtain ⟨o15, h, hn15⟩ := gloop_s h
          replace h := gu2_s h
          unfold m_X10_match_L51 at h
          refine lv_iload hx hb dX10_match_51 (lv_at hl 4 rfl) ?_
          refine lv_sipush (v := 480) hx hb dX10_match_53 (by decide) ?_
          refine lv_icmp_gt (tgt := 84) hx hb dX10_match_56 (by decide) (fun q30 => ?_) (fun q30 => ?_)
          · replace h := gt_s q30 h
            cases h
            exact E15 _ _ _ _ (gnx_r hn15) G (lv_sub hl [0, 1, 2, 3] rfl)
          · replace h := gf_s q30 h
            refine lv_iload_n hx hb dX10_match_59 rfl (lv_at hl 2 rfl) ?_
            refine lv_aload_n hx hb dX10_match_60 rfl (lv_at hl 0 rfl) ?_
            refine fg_10_by F G hk1 ht2 in10 (by decide +kernel) dX10_match_61 ?_
            have hk31 : gck 528 = 22 := rfl
            have ht32 : 528 < N := Nat.lt_of_lt_of_le (by decide) hN
            have hn33 : gal 528 = 481 := rfl
            refine lv_iload hx hb dX10_match_64 (lv_at hl 4 rfl) ?_
            obtain ⟨hi34, h⟩ := gc_s h
            refine gx_mia F G hk31 ht32 hn33 hi34 dX10_match_66 ?_
            refine lv_iconst (v := (-1)) hx hb dX10_match_67 (by decide) ?_
            obtain ⟨K36, eK36, h⟩ := gj_s h
            have JK36 : ∀ (v35 : Int32) (H : Heap) (locs : List Loc) (ls : Array Slot), K36 v35 = some o15 → gW D ad cy N A s.heap c0 c14 H locs → lv_has ls 6 [(0, .ref (ad t)), (2, .int a2), (4, .int 1), (5, .int y17)] → W p l e rmX10_match s m args below meth cod H locs 0 0 Q (F0 m 76 ls [.int v35, .int y16]) := by
              intro v35 H locs ls h G hl
              rw [eK36] at h
              refine lv_iadd hx hb dX10_match_76 ?_
              refine lv_topi (fun x37 ex37 => ?_)
              replace h := gv_s h x37 ex37
              refine lv_istore_n (lv' := [(3, .int x37), (0, .ref (ad t)), (2, .int a2), (4, .int 1), (5, .int y17)]) hx hb dX10_match_77 rfl hl (by decide) rfl (fun ls hl => ?_)
              obtain ⟨x38, ex38⟩ : ∃ z : Int32, z = y17 + 1 := ⟨_, rfl⟩
              replace h := gv_s h x38 ex38
              refine lv_iinc (v := x38) (lv' := [(5, .int x38), (3, .int x37), (0, .ref (ad t)), (2, .int a2), (4, .int 1)]) hx hb dX10_match_78 hl (k := 4) rfl (by rw [ex38]; rfl) (by decide) rfl (fun ls hl => ?_)
              refine lv_goto (tgt := 51) hx hb dX10_match_81 (by decide) ?_
              cases h
              exact ih15 _ _ _ _ _ hn15 G (lv_sub hl [2, 3, 1, 4, 0] rfl)
            refine lv_icmp_ne (tgt := 75) hx hb dX10_match_68 (by decide) (fun q39 => ?_) (fun q39 => ?_)
            · replace h := gf_s q39 h
              refine lv_iconst (v := 1) hx hb dX10_match_75 (by decide) ?_
              exact JK36 _ _ _ _ h G (lv_sub hl [0, 1, 3, 4] rfl)
            · replace h := gt_s q39 h
              refine lv_iconst (v := 0) hx hb dX10_match_71 (by decide) ?_
              refine lv_goto (tgt := 76) hx hb dX10_match_72 (by decide) ?_
              exact JK36 _ _ _ _ h G (lv_sub hl [0, 1, 3, 4] rfl)
      exact L15 n _ _ _ _ _ hb15 G (lv_sub hl [3, 5, 2, 1, 0] rfl)
    · replace h := gf_s q11 h
      refine lv_iconst (v := 0) hx hb dX10_match_36 (by decide) ?_
      cases h
      rw [← hQ]
      exact gx_iret F G hr hlocks dX10_match_37
  obtain ⟨K40, eK40, h⟩ := gj_s h
  have JK40 : ∀ (H : Heap) (locs : List Loc) (ls : Array Slot), K40 () = some (rZ, cZ) → gW D ad cy N A s.heap c0 c3 H locs → lv_has ls 6 [(0, .ref (ad t)), (1, .int a1), (2, .int a2)] → W p l e rmX10_match s m args below meth cod H locs 0 0 Q (F0 m 23 ls [.ref (ad t)]) := by
    intro  H locs ls h G hl
    rw [eK40] at h
    refine lv_iconst (v := 1) hx hb dX10_match_23 (by decide) ?_
    refine lv_goto (tgt := 28) hx hb dX10_match_24 (by decide) ?_
    exact JK7 _ _ _ _ h G hl
  refine lv_if_eq (tgt := 23) hx hb dX10_match_11 (by decide) (fun q41 => ?_) (fun q41 => ?_)
  · replace h := gt_s q41 h
    exact JK40  _ _ _ h G hl
  · replace h := gf_s q41 h
    refine lv_iload_n hx hb dX10_match_14 rfl (lv_at hl 2 rfl) ?_
    refine lv_iconst (v := 0) hx hb dX10_match_15 (by decide) ?_
    refine lv_iconst (v := 1) hx hb dX10_match_16 (by decide) ?_
    obtain ⟨r43, hc42, h⟩ := gb_s h
    refine gx_calli F G (va_runS (As := [.int a2, .int 0, .int 1]) (rest := [.ref (ad t)]) (gx_fix F) (c_X10_in l sa D ad cy N H.size hN hI c0 c3 hc42) (va_cwS 3 hts gX10_match_X10_in rfl rfl rfl (by decide +kernel) ⟨by decide, by decide⟩) (gx_pre F G) rfl rfl hl.1 rfl (lv_room (Nat.le_of_ble_eq_true rfl)) dX10_match_17 ⟨Nat.zero_le _, Nat.zero_le _⟩) (fun H locs G => ?_)
    refine lv_if_ne (tgt := 27) hx hb dX10_match_20 (by decide) (fun q44 => ?_) (fun q44 => ?_)
    · replace h := gf_s q44 h
      refine lv_iconst (v := 0) hx hb dX10_match_27 (by decide) ?_
      exact JK7 _ _ _ _ h G hl
    · replace h := gt_s q44 h
      exact JK40  _ _ _ h G hl
def m_X10_fewest (n : Nat) (t : Nat) (a1 : Int32) (c : gm) : Option (Int32 × gm) :=
  gc (gck t = 10) (gv (gm_r c t (upd (c.1 t) 0 0)) (fun (c3 : gm) => gb (m_X10_in a1 1 480) (fun (r5 : Int32) => gj (fun (v6 : Int32) => gb2 (m_X10_bad t v6 1 1 c3) (fun (r9 : Int32) (c10 : gm) => (if r9 = 0 then gb (m_X10_everyThing t c10) (fun (r13 : Int32) => gb (m_X10_laysAmounts n t r13 c10) (fun (c16 : gm) => gc (0 ≤ a1.toInt ∧ a1.toInt < 481) (some ((c16.1 528 a1.toNatClampNeg), c16)))) else some (0, c10)))) (fun K7 => (if r5 = 0 then K7 1 else K7 0)))))
abbrev rmX10_fewest : Room := { frames := 15, cells := 0, slots := 0, locals := 356 }
set_option maxHeartbeats 4000000 in
set_option maxRecDepth 100000 in
theorem c_X10_fewest (l : Launch) (sa : gSa) (D : va_G) (ad : Nat → Nat) (cy : Nat → ClassId) (N sz : Nat) (hN : 530 ≤ N) (hI : gI ad N) (c0 c : gm) {n : Nat} {t : Nat} {a1 : Int32} {rZ : Int32} {cZ : gm} (h : m_X10_fewest n t a1 c = some (rZ, cZ)) : Met l yX10_fewest wsX10_fewest rmX10_fewest (va_Pc [.ref (ad t), .int a1] (gP sa D ad cy N sz c0 c)) (va_Qi (fun (z : Int32) (_ : Unit) => z = rZ) (fun _ U => gE D ad cy N c0 cZ U) (gA ad N sz)) 0 0 (gA ad N sz) := by
  refine Met.ofW (cc := cX10_fewest) (maxL := 2) (ret := (some .int)) (by decide) rfl ?_
  intro p e s m args below meth cod s₁ B hml hv
  obtain ⟨rfl, hsz, hP, hK, hZ⟩ := hv
  have hx := B.exec
  have hb := B.bytes
  have hr := B.returns
  have hts := atoms_spec (ws := wsX10_fewest) B.pre
  have hown : s.vm.findClass RX10 = some m.cls := findClass_of_methodNamed B.named
  have hlocks := B.notSynchronized
  subst hsz
  have hl := lv_entry ([.ref (ad t), .int a1]) (n := 2) (Nat.le_of_ble_eq_true rfl)
  rw [lg_entry_eq]
  generalize (lg_sl ([.ref (ad t), .int a1]) ++ List.replicate (2 - (lg_sl ([.ref (ad t), .int a1])).length) Slot.unset).toArray = ls at hl ⊢
  have hl : lv_has ls 2 [(0, .ref (ad t)), (1, .int a1)] := hl
  have in10 : ∀ w ∈ wsX100, w ∈ wsX10_fewest := by decide +kernel
  generalize hargs : ([.ref (ad t), .int a1] : List Value).toArray = args at *
  generalize hAe : gA ad N s.heap.size = A
  have F : gF sa D ad cy N A p s m args cod cX10_fewest 2 wsX10_fewest RX10 := ⟨hx, hb, hml, hown, hts, hK, hI, by rw [← hAe]; exact gA_ad, by rw [← hAe]; exact gA_sz, by rw [← hAe]; exact hZ⟩
  have G : gW D ad cy N A s.heap c0 c s.heap [] := ⟨hP, va_S.rf⟩
  generalize hQ : MQ below (va_Qi (fun (z : Int32) (_ : Unit) => z = rZ) (fun _ U => gE D ad cy N c0 cZ U) A) args s 0 0 A = Q
  suffices hgen : ∀ (H : Heap) (locs : List Loc), gW D ad cy N A s.heap c0 c H locs → W p l e rmX10_fewest s m args below meth cod H locs 0 0 Q (F0 m 0 ls []) from hgen _ _ G
  clear G
  intro H locs G
  unfold m_X10_fewest at h
  refine lv_aload_n hx hb dX10_fewest_0 rfl (lv_at hl 0 rfl) ?_
  refine lv_iconst (v := 0) hx hb dX10_fewest_1 (by decide) ?_
  obtain ⟨hk1, h⟩ := gc_s h
  have ht2 : t < N := Nat.lt_of_lt_of_le (gck_lt10 hk1) hN
  refine fp_10_thrown F G hk1 ht2 in10 (by decide +kernel) dX10_fewest_2 (fun H locs G => ?_)
  obtain ⟨c3, ec3⟩ : ∃ z, z = gm_r c t (upd (c.1 t) 0 0) := ⟨_, rfl⟩
  rw [← ec3] at G
  replace h := gv_s h c3 ec3
  refine lv_aload_n hx hb dX10_fewest_5 rfl (lv_at hl 0 rfl) ?_
  refine lv_iload_n hx hb dX10_fewest_6 rfl (lv_at hl 1 rfl) ?_
  refine lv_iconst (v := 1) hx hb dX10_fewest_7 (by decide) ?_
  refine lv_sipush (v := 480) hx hb dX10_fewest_8 (by decide) ?_
  obtain ⟨r5, hc4, h⟩ := gb_s h
  refine gx_calli F G (va_runS (As := [.int a1, .int 1, .int 480]) (rest := [.ref (ad t)]) (gx_fix F) (c_X10_in l sa D ad cy N H.size hN hI c0 c3 hc4) (va_cwS 3 hts gX10_fewest_X10_in rfl rfl rfl (by decide +kernel) ⟨by decide, by decide⟩) (gx_pre F G) rfl rfl hl.1 rfl (lv_room (Nat.le_of_ble_eq_true rfl)) dX10_fewest_11 ⟨Nat.zero_le _, Nat.zero_le _⟩) (fun H locs G => ?_)
  obtain ⟨K7, eK7, h⟩ := gj_s h
  have JK7 : ∀ (v6 : Int32) (H : Heap) (locs : List Loc) (ls : Array Slot), K7 v6 = some (rZ, cZ) → gW D ad cy N A s.heap c0 c3 H locs → lv_has ls 2 [(0, .ref (ad t)), (1, .int a1)] → W p l e rmX10_fewest s m args below meth cod H locs 0 0 Q (F0 m 22 ls [.int v6, .ref (ad t)]) := by
    intro v6 H locs ls h G hl
    rw [eK7] at h
    refine lv_iconst (v := 1) hx hb dX10_fewest_22 (by decide) ?_
    refine lv_iconst (v := 1) hx hb dX10_fewest_23 (by decide) ?_
    obtain ⟨r9, c10, hc8, h⟩ := gb2_s h
    refine gx_calli F G (va_runV (As := [.int v6, .int 1, .int 1]) (rest := []) (gx_fix F) (c_X10_bad l sa D ad cy N H.size hN hI c0 c3 hc8) (cwV 3 hts gX10_fewest_X10_bad rfl rfl rfl (by decide +kernel) ⟨by decide, by decide⟩) (gx_rec F G ht2 (gwe_10 hk1) rfl) rfl rfl hl.1 rfl (lv_room (Nat.le_of_ble_eq_true rfl)) dX10_fewest_24 ⟨Nat.zero_le _, Nat.zero_le _⟩) (fun H locs G => ?_)
    refine lv_if_eq (tgt := 32) hx hb dX10_fewest_27 (by decide) (fun q11 => ?_) (fun q11 => ?_)
    · replace h := gt_s q11 h
      refine lv_aload_n hx hb dX10_fewest_32 rfl (lv_at hl 0 rfl) ?_
      refine lv_aload_n hx hb dX10_fewest_33 rfl (lv_at hl 0 rfl) ?_
      obtain ⟨r13, hc12, h⟩ := gb_s h
      refine gx_calli F G (va_runV (As := []) (rest := [.ref (ad t)]) (gx_fix F) (c_X10_everyThing l sa D ad cy N H.size hN hI c0 c10 hc12) (cwV 0 hts gX10_fewest_X10_everyThing rfl rfl rfl (by decide +kernel) ⟨by decide, by decide⟩) (gx_rec F G ht2 (gwe_10 hk1) rfl) rfl rfl hl.1 rfl (lv_room (Nat.le_of_ble_eq_true rfl)) dX10_fewest_34 ⟨Nat.zero_le _, Nat.zero_le _⟩) (fun H locs G => ?_)
      obtain ⟨c16, hc14, h⟩ := gb_s h
      refine gx_callv F G (va_runV (As := [.int r13]) (rest := []) (gx_fix F) (c_X10_laysAmounts l sa D ad cy N H.size hN hI c0 c10 hc14) (cwV 1 hts gX10_fewest_X10_laysAmounts rfl rfl rfl (by decide +kernel) ⟨by decide, by decide⟩) (gx_rec F G ht2 (gwe_10 hk1) rfl) rfl rfl hl.1 rfl (lv_room (Nat.le_of_ble_eq_true rfl)) dX10_fewest_37 ⟨Nat.zero_le _, Nat.zero_le _⟩) (fun H locs G => ?_)
      refine lv_aload_n hx hb dX10_fewest_40 rfl (lv_at hl 0 rfl) ?_
      refine fg_10_by F G hk1 ht2 in10 (by decide +kernel) dX10_fewest_41 ?_
      have hk17 : gck 528 = 22 := rfl
      have ht18 : 528 < N := Nat.lt_of_lt_of_le (by decide) hN
      have hn19 : gal 528 = 481 := rfl
      refine lv_iload_n hx hb dX10_fewest_44 rfl (lv_at hl 1 rfl) ?_
      obtain ⟨hi20, h⟩ := gc_s h
      refine gx_mia F G hk17 ht18 hn19 hi20 dX10_fewest_45 ?_
      cases h
      rw [← hQ]
      exact gx_iret F G hr hlocks dX10_fewest_46
    · replace h := gf_s q11 h
      refine lv_iconst (v := 0) hx hb dX10_fewest_30 (by decide) ?_
      cases h
      rw [← hQ]
      exact gx_iret F G hr hlocks dX10_fewest_31
  refine lv_if_ne (tgt := 21) hx hb dX10_fewest_14 (by decide) (fun q21 => ?_) (fun q21 => ?_)
  · replace h := gf_s q21 h
    refine lv_iconst (v := 0) hx hb dX10_fewest_21 (by decide) ?_
    exact JK7 _ _ _ _ h G hl
  · replace h := gt_s q21 h
    refine lv_iconst (v := 1) hx hb dX10_fewest_17 (by decide) ?_
    refine lv_goto (tgt := 22) hx hb dX10_fewest_18 (by decide) ?_
    exact JK7 _ _ _ _ h G hl
def m_X10_heavy_L4 (t : Nat) (a1 : Int32) (c : gm) (y2 : Int32) (y3 : Int32) : Option ((Int32 × Int32) ⊕ (Int32)) :=
  gc (gck t = 10) ((if (c.1 59 (0 : Int32).toNatClampNeg) ≤ y3 then some (.inr y2) else gb (m_X10_has a1 y3) (fun (r13 : Int32) => gj (fun (v14 : Int32) => gv (y2 + v14) (fun (x16 : Int32) => gv (y3 + 1) (fun (x17 : Int32) => some (.inl (x16, x17))))) (fun K15 => (if r13 = 0 then K15 0 else gc (0 ≤ (0 + y3).toInt ∧ (0 + y3).toInt < 60) (K15 (c.1 503 (0 + y3).toNatClampNeg)))))))
def m_X10_heavy (n : Nat) (t : Nat) (a1 : Int32) (c : gm) : Option (Int32) :=
  gb (gloop (gu2 (fun (y2 : Int32) (y3 : Int32) => m_X10_heavy_L4 t a1 c y2 y3)) n (0, 0)) (fun (z4 : Int32) => some z4)
abbrev rmX10_heavy : Room := { frames := 1, cells := 0, slots := 0, locals := 21 }
set_option maxHeartbeats 4000000 in
set_option maxRecDepth 100000 in
theorem c_X10_heavy (l : Launch) (sa : gSa) (D : va_G) (ad : Nat → Nat) (cy : Nat → ClassId) (N sz : Nat) (hN : 530 ≤ N) (hI : gI ad N) (c0 c : gm) {n : Nat} {t : Nat} {a1 : Int32} {rZ : Int32} (h : m_X10_heavy n t a1 c = some rZ) : Met l yX10_heavy wsX10_heavy rmX10_heavy (va_Pc [.ref (ad t), .int a1] (gP sa D ad cy N sz c0 c)) (va_Qi (fun (z : Int32) (_ : Unit) => z = rZ) (fun _ U => gE D ad cy N c0 c U) (gA ad N sz)) 0 0 (gA ad N sz) := by
  refine Met.ofW (cc := cX10_heavy) (maxL := 4) (ret := (some .int)) (by decide) rfl ?_
  intro p e s m args below meth cod s₁ B hml hv
  obtain ⟨rfl, hsz, hP, hK, hZ⟩ := hv
  have hx := B.exec
  have hb := B.bytes
  have hr := B.returns
  have hts := atoms_spec (ws := wsX10_heavy) B.pre
  have hown : s.vm.findClass RX10 = some m.cls := findClass_of_methodNamed B.named
  have hlocks := B.notSynchronized
  subst hsz
  have hl := lv_entry ([.ref (ad t), .int a1]) (n := 4) (Nat.le_of_ble_eq_true rfl)
  rw [lg_entry_eq]
  generalize (lg_sl ([.ref (ad t), .int a1]) ++ List.replicate (4 - (lg_sl ([.ref (ad t), .int a1])).length) Slot.unset).toArray = ls at hl ⊢
  have hl : lv_has ls 4 [(0, .ref (ad t)), (1, .int a1)] := hl
  have in10 : ∀ w ∈ wsX100, w ∈ wsX10_heavy := by decide +kernel
  generalize hargs : ([.ref (ad t), .int a1] : List Value).toArray = args at *
  generalize hAe : gA ad N s.heap.size = A
  have F : gF sa D ad cy N A p s m args cod cX10_heavy 4 wsX10_heavy RX10 := ⟨hx, hb, hml, hown, hts, hK, hI, by rw [← hAe]; exact gA_ad, by rw [← hAe]; exact gA_sz, by rw [← hAe]; exact hZ⟩
  have G : gW D ad cy N A s.heap c0 c s.heap [] := ⟨hP, va_S.rf⟩
  generalize hQ : MQ below (va_Qi (fun (z : Int32) (_ : Unit) => z = rZ) (fun _ U => gE D ad cy N c0 c U) A) args s 0 0 A = Q
  suffices hgen : ∀ (H : Heap) (locs : List Loc), gW D ad cy N A s.heap c0 c H locs → W p l e rmX10_heavy s m args below meth cod H locs 0 0 Q (F0 m 0 ls []) from hgen _ _ G
  clear G
  intro H locs G
  unfold m_X10_heavy at h
  refine lv_iconst (v := 0) hx hb dX10_heavy_0 (by decide) ?_
  refine lv_istore_n (lv' := [(2, .int 0), (0, .ref (ad t)), (1, .int a1)]) hx hb dX10_heavy_1 rfl hl (by decide) rfl (fun ls hl => ?_)
  refine lv_iconst (v := 0) hx hb dX10_heavy_2 (by decide) ?_
  refine lv_istore_n (lv' := [(3, .int 0), (2, .int 0), (0, .ref (ad t)), (1, .int a1)]) hx hb dX10_heavy_3 rfl hl (by decide) rfl (fun ls hl => ?_)
  obtain ⟨b1, hb1, hK1⟩ := gb_s h
  have E1 : ∀ (z4 : Int32) (H : Heap) (locs : List Loc) (ls : Array Slot), (z4 : Int32) = b1 → gW D ad cy N A s.heap c0 c H locs → lv_has ls 4 [(2, .int z4)] → W p l e rmX10_heavy s m args below meth cod H locs 0 0 Q (F0 m 43 ls []) := by
    intro z4 H locs ls hq1 G hl
    subst hq1
    replace hK1 := hK1
    have h := hK1
    refine lv_iload_n hx hb dX10_heavy_43 rfl (lv_at hl 0 rfl) ?_
    cases h
    rw [← hQ]
    exact gx_iret F G hr hlocks dX10_heavy_44
  have L1 : ∀ (n9 : Nat) (y2 : Int32) (y3 : Int32) (H : Heap) (locs : List Loc) (ls : Array Slot), gloop (gu2 (fun (y2 : Int32) (y3 : Int32) => m_X10_heavy_L4 t a1 c y2 y3)) n9 (y2, y3) = some b1 → gW D ad cy N A s.heap c0 c H locs → lv_has ls 4 [(0, .ref (ad t)), (1, .int a1), (2, .int y2), (3, .int y3)] → W p l e rmX10_heavy s m args below meth cod H locs 0 0 Q (F0 m 4 ls []) := by
    intro n9
    induction n9 with
    | zero => intro y2 y3 H locs ls h; exact (gloop_0 h).elim
    | succ n9 ih =>
      intro y2 y3 H locs ls h G hl
      have ih1 := ih
      obtain ⟨o1, h, hn1⟩ := gloop_s h
      replace h := gu2_s h
      unfold m_X10_heavy_L4 at h
      refine lv_iload_n hx hb dX10_heavy_4 rfl (lv_at hl 3 rfl) ?_
      refine lv_aload_n hx hb dX10_heavy_5 rfl (lv_at hl 0 rfl) ?_
      obtain ⟨hk5, h⟩ := gc_s h
      have ht6 : t < N := Nat.lt_of_lt_of_le (gck_lt10 hk5) hN
      refine fg_10_told F G hk5 ht6 in10 (by decide +kernel) dX10_heavy_6 ?_
      have hk7 : gck 59 = 22 := rfl
      have ht8 : 59 < N := Nat.lt_of_lt_of_le (by decide) hN
      have hn9 : gal 59 = 4 := rfl
      refine lv_iconst (v := 0) hx hb dX10_heavy_9 (by decide) ?_
      refine gx_mia F G hk7 ht8 hn9 (by decide) dX10_heavy_10 ?_
      refine lv_icmp_ge (tgt := 43) hx hb dX10_heavy_11 (by decide) (fun q11 => ?_) (fun q11 => ?_)
      · replace h := gt_s q11 h
        cases h
        exact E1 _ _ _ _ (gnx_r hn1) G (lv_sub hl [2] rfl)
      · replace h := gf_s q11 h
        refine lv_iload_n hx hb dX10_heavy_14 rfl (lv_at hl 2 rfl) ?_
        refine lv_iload_n hx hb dX10_heavy_15 rfl (lv_at hl 1 rfl) ?_
        refine lv_iload_n hx hb dX10_heavy_16 rfl (lv_at hl 3 rfl) ?_
        obtain ⟨r13, hc12, h⟩ := gb_s h
        refine gx_calli F G (va_runS (As := [.int a1, .int y3]) (rest := [.int y2]) (gx_fix F) (c_X10_has l sa D ad cy N H.size hN hI c0 c hc12) (va_cwS 2 hts gX10_heavy_X10_has rfl rfl rfl (by decide +kernel) ⟨by decide, by decide⟩) (gx_pre F G) rfl rfl hl.1 rfl (lv_room (Nat.le_of_ble_eq_true rfl)) dX10_heavy_17 ⟨Nat.zero_le _, Nat.zero_le _⟩) (fun H locs G => ?_)
        obtain ⟨K15, eK15, h⟩ := gj_s h
        have JK15 : ∀ (v14 : Int32) (H : Heap) (locs : List Loc) (ls : Array Slot), K15 v14 = some o1 → gW D ad cy N A s.heap c0 c H locs → lv_has ls 4 [(0, .ref (ad t)), (1, .int a1), (3, .int y3)] → W p l e rmX10_heavy s m args below meth cod H locs 0 0 Q (F0 m 35 ls [.int v14, .int y2]) := by
          intro v14 H locs ls h G hl
          rw [eK15] at h
          refine lv_iadd hx hb dX10_heavy_35 ?_
          refine lv_topi (fun x16 ex16 => ?_)
          replace h := gv_s h x16 ex16
          refine lv_istore_n (lv' := [(2, .int x16), (0, .ref (ad t)), (1, .int a1), (3, .int y3)]) hx hb dX10_heavy_36 rfl hl (by decide) rfl (fun ls hl => ?_)
          obtain ⟨x17, ex17⟩ : ∃ z : Int32, z = y3 + 1 := ⟨_, rfl⟩
          replace h := gv_s h x17 ex17
          refine lv_iinc (v := x17) (lv' := [(3, .int x17), (2, .int x16), (0, .ref (ad t)), (1, .int a1)]) hx hb dX10_heavy_37 hl (k := 3) rfl (by rw [ex17]; rfl) (by decide) rfl (fun ls hl => ?_)
          refine lv_goto (tgt := 4) hx hb dX10_heavy_40 (by decide) ?_
          cases h
          exact ih1 _ _ _ _ _ hn1 G (lv_sub hl [2, 3, 1, 0] rfl)
        refine lv_if_eq (tgt := 34) hx hb dX10_heavy_20 (by decide) (fun q18 => ?_) (fun q18 => ?_)
        · replace h := gt_s q18 h
          refine lv_iconst (v := 0) hx hb dX10_heavy_34 (by decide) ?_
          exact JK15 _ _ _ _ h G (lv_sub hl [0, 1, 3] rfl)
        · replace h := gf_s q18 h
          refine lv_aload_n hx hb dX10_heavy_23 rfl (lv_at hl 0 rfl) ?_
          refine fg_10_now F G hk5 ht6 in10 (by decide +kernel) dX10_heavy_24 ?_
          have hk19 : gck 503 = 22 := rfl
          have ht20 : 503 < N := Nat.lt_of_lt_of_le (by decide) hN
          have hn21 : gal 503 = 60 := rfl
          refine lv_iconst (v := 0) hx hb dX10_heavy_27 (by decide) ?_
          refine lv_iload_n hx hb dX10_heavy_28 rfl (lv_at hl 3 rfl) ?_
          refine lv_iadd hx hb dX10_heavy_29 ?_
          obtain ⟨hi22, h⟩ := gc_s h
          refine gx_mia F G hk19 ht20 hn21 hi22 dX10_heavy_30 ?_
          refine lv_goto (tgt := 35) hx hb dX10_heavy_31 (by decide) ?_
          exact JK15 _ _ _ _ h G (lv_sub hl [0, 1, 3] rfl)
  exact L1 n _ _ _ _ _ hb1 G (lv_sub hl [2, 3, 1, 0] rfl)
def m_X10_level_L52 (n : Nat) (t : Nat) (a1 : Int32) (c10 : gm) (x12 : Int32) (y14 : Int32) (y15 : Int32) (y16 : Int32) : Option ((Int32 × Int32 × Int32) ⊕ (Int32 × Int32)) :=
  (if a1 < y16 then some (.inr (y14, y15)) else gj (gu2 (fun (v23 : Int32) (v24 : Int32) => gv (y16 + 1) (fun (x26 : Int32) => some (.inl (v23, v24, x26))))) (fun K25 => (if (y16 &&& (a1 ^^^ (-1))) = 0 then (if (y16 &&& x12) = 0 then K25 (y14, y15) else gb (m_X10_heavy n t y16 c10) (fun (r30 : Int32) => gb (m_X10_heavy n t (a1 &&& (y16 ^^^ (-1))) c10) (fun (r32 : Int32) => gb (m_X10_more (r30 - r32) (r32 - r30)) (fun (r34 : Int32) => gj (fun (_ : Unit) => K25 (y16, r34)) (fun K35 => (if y15 = (-1) then K35 () else (if r34 < y15 then K35 () else K25 (y14, y15)))))))) else K25 (y14, y15))))
def m_X10_level (n : Nat) (t : Nat) (a1 : Int32) (a2 : Int32) (c : gm) : Option (Int32 × gm) :=
  gc (gck t = 10) (gv (gm_r c t (upd (c.1 t) 0 0)) (fun (c3 : gm) => gb (m_X10_isSet t a1 c3) (fun (r5 : Int32) => gj (fun (v6 : Int32) => gb2 (m_X10_bad t v6 1 1 c3) (fun (r9 : Int32) (c10 : gm) => (if r9 = 0 then gv (a1 &&& (-a1)) (fun (x12 : Int32) => gb (gloop (gu2 (fun (y14 : Int32) => gu2 (fun (y15 : Int32) (y16 : Int32) => m_X10_level_L52 n t a1 c10 x12 y14 y15 y16))) n (0, (-1), 1)) (gu2 (fun (z17 : Int32) (z18 : Int32) => (if a2 = 1 then some (z17, c10) else gb (m_X10_more 0 z18) (fun (r21 : Int32) => some (r21, c10)))))) else some (0, c10)))) (fun K7 => gj (fun (_ : Unit) => K7 1) (fun K38 => (if r5 = 0 then K38 () else gb (m_X10_in a2 0 1) (fun (r41 : Int32) => (if r41 = 0 then K38 () else K7 0))))))))
abbrev rmX10_level : Room := { frames := 2, cells := 0, slots := 0, locals := 44 }
set_option maxHeartbeats 4000000 in
set_option maxRecDepth 100000 in
theorem c_X10_level (l : Launch) (sa : gSa) (D : va_G) (ad : Nat → Nat) (cy : Nat → ClassId) (N sz : Nat) (hN : 530 ≤ N) (hI : gI ad N) (c0 c : gm) {n : Nat} {t : Nat} {a1 : Int32} {a2 : Int32} {rZ : Int32} {cZ : gm} (h : m_X10_level n t a1 a2 c = some (rZ, cZ)) : Met l yX10_level wsX10_level rmX10_level (va_Pc [.ref (ad t), .int a1, .int a2] (gP sa D ad cy N sz c0 c)) (va_Qi (fun (z : Int32) (_ : Unit) => z = rZ) (fun _ U => gE D ad cy N c0 cZ U) (gA ad N sz)) 0 0 (gA ad N sz) := by
  refine Met.ofW (cc := cX10_level) (maxL := 10) (ret := (some .int)) (by decide) rfl ?_
  intro p e s m args below meth cod s₁ B hml hv
  obtain ⟨rfl, hsz, hP, hK, hZ⟩ := hv
  have hx := B.exec
  have hb := B.bytes
  have hr := B.returns
  have hts := atoms_spec (ws := wsX10_level) B.pre
  have hown : s.vm.findClass RX10 = some m.cls := findClass_of_methodNamed B.named
  have hlocks := B.notSynchronized
  subst hsz
  have hl := lv_entry ([.ref (ad t), .int a1, .int a2]) (n := 10) (Nat.le_of_ble_eq_true rfl)
  rw [lg_entry_eq]
  generalize (lg_sl ([.ref (ad t), .int a1, .int a2]) ++ List.replicate (10 - (lg_sl ([.ref (ad t), .int a1, .int a2])).length) Slot.unset).toArray = ls at hl ⊢
  have hl : lv_has ls 10 [(0, .ref (ad t)), (1, .int a1), (2, .int a2)] := hl
  have in10 : ∀ w ∈ wsX100, w ∈ wsX10_level := by decide +kernel
  generalize hargs : ([.ref (ad t), .int a1, .int a2] : List Value).toArray = args at *
  generalize hAe : gA ad N s.heap.size = A
  have F : gF sa D ad cy N A p s m args cod cX10_level 10 wsX10_level RX10 := ⟨hx, hb, hml, hown, hts, hK, hI, by rw [← hAe]; exact gA_ad, by rw [← hAe]; exact gA_sz, by rw [← hAe]; exact hZ⟩
  have G : gW D ad cy N A s.heap c0 c s.heap [] := ⟨hP, va_S.rf⟩
  generalize hQ : MQ below (va_Qi (fun (z : Int32) (_ : Unit) => z = rZ) (fun _ U => gE D ad cy N c0 cZ U) A) args s 0 0 A = Q
  suffices hgen : ∀ (H : Heap) (locs : List Loc), gW D ad cy N A s.heap c0 c H locs → W p l e rmX10_level s m args below meth cod H locs 0 0 Q (F0 m 0 ls []) from hgen _ _ G
  clear G
  intro H locs G
  unfold m_X10_level at h
  refine lv_aload_n hx hb dX10_level_0 rfl (lv_at hl 0 rfl) ?_
  refine lv_iconst (v := 0) hx hb dX10_level_1 (by decide) ?_
  obtain ⟨hk1, h⟩ := gc_s h
  have ht2 : t < N := Nat.lt_of_lt_of_le (gck_lt10 hk1) hN
  refine fp_10_thrown F G hk1 ht2 in10 (by decide +kernel) dX10_level_2 (fun H locs G => ?_)
  obtain ⟨c3, ec3⟩ : ∃ z, z = gm_r c t (upd (c.1 t) 0 0) := ⟨_, rfl⟩
  rw [← ec3] at G
  replace h := gv_s h c3 ec3
  refine lv_aload_n hx hb dX10_level_5 rfl (lv_at hl 0 rfl) ?_
  refine lv_aload_n hx hb dX10_level_6 rfl (lv_at hl 0 rfl) ?_
  refine lv_iload_n hx hb dX10_level_7 rfl (lv_at hl 1 rfl) ?_
  obtain ⟨r5, hc4, h⟩ := gb_s h
  refine gx_calli F G (va_runV (As := [.int a1]) (rest := [.ref (ad t)]) (gx_fix F) (c_X10_isSet l sa D ad cy N H.size hN hI c0 c3 hc4) (cwV 1 hts gX10_level_X10_isSet rfl rfl rfl (by decide +kernel) ⟨by decide, by decide⟩) (gx_rec F G ht2 (gwe_10 hk1) rfl) rfl rfl hl.1 rfl (lv_room (Nat.le_of_ble_eq_true rfl)) dX10_level_8 ⟨Nat.zero_le _, Nat.zero_le _⟩) (fun H locs G => ?_)
  obtain ⟨K7, eK7, h⟩ := gj_s h
  have JK7 : ∀ (v6 : Int32) (H : Heap) (locs : List Loc) (ls : Array Slot), K7 v6 = some (rZ, cZ) → gW D ad cy N A s.heap c0 c3 H locs → lv_has ls 10 [(0, .ref (ad t)), (1, .int a1), (2, .int a2)] → W p l e rmX10_level s m args below meth cod H locs 0 0 Q (F0 m 28 ls [.int v6, .ref (ad t)]) := by
    intro v6 H locs ls h G hl
    rw [eK7] at h
    refine lv_iconst (v := 1) hx hb dX10_level_28 (by decide) ?_
    refine lv_iconst (v := 1) hx hb dX10_level_29 (by decide) ?_
    obtain ⟨r9, c10, hc8, h⟩ := gb2_s h
    refine gx_calli F G (va_runV (As := [.int v6, .int 1, .int 1]) (rest := []) (gx_fix F) (c_X10_bad l sa D ad cy N H.size hN hI c0 c3 hc8) (cwV 3 hts gX10_level_X10_bad rfl rfl rfl (by decide +kernel) ⟨by decide, by decide⟩) (gx_rec F G ht2 (gwe_10 hk1) rfl) rfl rfl hl.1 rfl (lv_room (Nat.le_of_ble_eq_true rfl)) dX10_level_30 ⟨Nat.zero_le _, Nat.zero_le _⟩) (fun H locs G => ?_)
    refine lv_if_eq (tgt := 38) hx hb dX10_level_33 (by decide) (fun q11 => ?_) (fun q11 => ?_)
    · replace h := gt_s q11 h
      refine lv_iconst (v := 0) hx hb dX10_level_38 (by decide) ?_
      refine lv_istore_n (lv' := [(3, .int 0), (0, .ref (ad t)), (1, .int a1), (2, .int a2)]) hx hb dX10_level_39 rfl hl (by decide) rfl (fun ls hl => ?_)
      refine lv_iconst (v := (-1)) hx hb dX10_level_40 (by decide) ?_
      refine lv_istore (lv' := [(4, .int (-1)), (3, .int 0), (0, .ref (ad t)), (1, .int a1), (2, .int a2)]) hx hb dX10_level_41 hl (by decide) rfl (fun ls hl => ?_)
      refine lv_iload_n hx hb dX10_level_43 rfl (lv_at hl 3 rfl) ?_
      refine lv_iload_n hx hb dX10_level_44 rfl (lv_at hl 3 rfl) ?_
      refine lv_ineg hx hb dX10_level_45 ?_
      refine lv_iand hx hb dX10_level_46 ?_
      refine lv_topi (fun x12 ex12 => ?_)
      replace h := gv_s h x12 ex12
      refine lv_istore (lv' := [(5, .int x12), (4, .int (-1)), (3, .int 0), (0, .ref (ad t)), (1, .int a1), (2, .int a2)]) hx hb dX10_level_47 hl (by decide) rfl (fun ls hl => ?_)
      refine lv_iconst (v := 1) hx hb dX10_level_49 (by decide) ?_
      refine lv_istore (lv' := [(6, .int 1), (5, .int x12), (4, .int (-1)), (3, .int 0), (0, .ref (ad t)), (1, .int a1), (2, .int a2)]) hx hb dX10_level_50 hl (by decide) rfl (fun ls hl => ?_)
      obtain ⟨b13, hb13, hK13⟩ := gb_s h
      have E13 : ∀ (z17 : Int32) (z18 : Int32) (H : Heap) (locs : List Loc) (ls : Array Slot), ((z17, z18) : Int32 × Int32) = b13 → gW D ad cy N A s.heap c0 c10 H locs → lv_has ls 10 [(2, .int a2), (3, .int z17), (4, .int z18)] → W p l e rmX10_level s m args below meth cod H locs 0 0 Q (F0 m 142 ls []) := by
        intro z17 z18 H locs ls hq13 G hl
        subst hq13
        replace hK13 := hK13
        replace hK13 := gu2_s hK13
        have h := hK13
        refine lv_iload_n hx hb dX10_level_142 rfl (lv_at hl 0 rfl) ?_
        refine lv_iconst (v := 1) hx hb dX10_level_143 (by decide) ?_
        refine lv_icmp_ne (tgt := 151) hx hb dX10_level_144 (by decide) (fun q19 => ?_) (fun q19 => ?_)
        · replace h := gf_s q19 h
          refine lv_iconst (v := 0) hx hb dX10_level_151 (by decide) ?_
          refine lv_iload hx hb dX10_level_152 (lv_at hl 2 rfl) ?_
          obtain ⟨r21, hc20, h⟩ := gb_s h
          refine gx_calli F G (va_runS (As := [.int 0, .int z18]) (rest := []) (gx_fix F) (c_X10_more l sa D ad cy N H.size hN hI c0 c10 hc20) (va_cwS 2 hts gX10_level_X10_more rfl rfl rfl (by decide +kernel) ⟨by decide, by decide⟩) (gx_pre F G) rfl rfl hl.1 rfl (lv_room (Nat.le_of_ble_eq_true rfl)) dX10_level_154 ⟨Nat.zero_le _, Nat.zero_le _⟩) (fun H locs G => ?_)
          cases h
          rw [← hQ]
          exact gx_iret F G hr hlocks dX10_level_157
        · replace h := gt_s q19 h
          refine lv_iload_n hx hb dX10_level_147 rfl (lv_at hl 1 rfl) ?_
          refine lv_goto (tgt := 157) hx hb dX10_level_148 (by decide) ?_
          cases h
          rw [← hQ]
          exact gx_iret F G hr hlocks dX10_level_157
      have L13 : ∀ (n9 : Nat) (y14 : Int32) (y15 : Int32) (y16 : Int32) (H : Heap) (locs : List Loc) (ls : Array Slot), gloop (gu2 (fun (y14 : Int32) => gu2 (fun (y15 : Int32) (y16 : Int32) => m_X10_level_L52 n t a1 c10 x12 y14 y15 y16))) n9 (y14, y15, y16) = some b13 → gW D ad cy N A s.heap c0 c10 H locs → lv_has ls 10 [(0, .ref (ad t)), (1, .int a1), (2, .int a2), (3, .int y14), (4, .int y15), (5, .int x12), (6, .int y16)] → W p l e rmX10_level s m args below meth cod H locs 0 0 Q (F0 m 52 ls []) := by
        intro n9
        induction n9 with
        | zero => intro y14 y15 y16 H locs ls h; exact (gloop_0 h).elim
        | succ n9 ih =>
          intro y14 y15 y16 H locs ls h G hl
          have ih13 := ih
          obtain ⟨o13, h, hn13⟩ := gloop_s h
          replace h := gu2_s h
          replace h := gu2_s h
          unfold m_X10_level_L52 at h
          refine lv_iload hx hb dX10_level_52 (lv_at hl 6 rfl) ?_
          refine lv_iload_n hx hb dX10_level_54 rfl (lv_at hl 1 rfl) ?_
          refine lv_icmp_gt (tgt := 142) hx hb dX10_level_55 (by decide) (fun q22 => ?_) (fun q22 => ?_)
          · replace h := gt_s q22 h
            cases h
            exact E13 _ _ _ _ _ (gnx_r hn13) G (lv_sub hl [2, 3, 4] rfl)
          · replace h := gf_s q22 h
            refine lv_iload hx hb dX10_level_58 (lv_at hl 6 rfl) ?_
            refine lv_iload_n hx hb dX10_level_60 rfl (lv_at hl 1 rfl) ?_
            refine lv_iconst (v := (-1)) hx hb dX10_level_61 (by decide) ?_
            refine lv_ixor hx hb dX10_level_62 ?_
            refine lv_iand hx hb dX10_level_63 ?_
            obtain ⟨K25, eK25, h⟩ := gj_s h
            have JK25 : ∀ (v23 : Int32) (v24 : Int32) (H : Heap) (locs : List Loc) (ls : Array Slot), K25 (v23, v24) = some o13 → gW D ad cy N A s.heap c0 c10 H locs → lv_has ls 10 [(0, .ref (ad t)), (1, .int a1), (2, .int a2), (3, .int v23), (4, .int v24), (5, .int x12), (6, .int y16)] → W p l e rmX10_level s m args below meth cod H locs 0 0 Q (F0 m 136 ls []) := by
              intro v23 v24 H locs ls h G hl
              rw [eK25] at h
              replace h := gu2_s h
              obtain ⟨x26, ex26⟩ : ∃ z : Int32, z = y16 + 1 := ⟨_, rfl⟩
              replace h := gv_s h x26 ex26
              refine lv_iinc (v := x26) (lv' := [(6, .int x26), (0, .ref (ad t)), (1, .int a1), (2, .int a2), (3, .int v23), (4, .int v24), (5, .int x12)]) hx hb dX10_level_136 hl (k := 6) rfl (by rw [ex26]; rfl) (by decide) rfl (fun ls hl => ?_)
              refine lv_goto (tgt := 52) hx hb dX10_level_139 (by decide) ?_
              cases h
              exact ih13 _ _ _ _ _ _ hn13 G (lv_sub hl [1, 2, 3, 4, 5, 6, 0] rfl)
            refine lv_if_ne (tgt := 136) hx hb dX10_level_64 (by decide) (fun q27 => ?_) (fun q27 => ?_)
            · replace h := gf_s q27 h
              exact JK25 _ _ _ _ _ h G hl
            · replace h := gt_s q27 h
              refine lv_iload hx hb dX10_level_67 (lv_at hl 6 rfl) ?_
              refine lv_iload hx hb dX10_level_69 (lv_at hl 5 rfl) ?_
              refine lv_iand hx hb dX10_level_71 ?_
              refine lv_if_ne (tgt := 78) hx hb dX10_level_72 (by decide) (fun q28 => ?_) (fun q28 => ?_)
              · replace h := gf_s q28 h
                refine lv_aload_n hx hb dX10_level_78 rfl (lv_at hl 0 rfl) ?_
                refine lv_iload hx hb dX10_level_79 (lv_at hl 6 rfl) ?_
                obtain ⟨r30, hc29, h⟩ := gb_s h
                refine gx_calli F G (va_runV (As := [.int y16]) (rest := []) (gx_fix F) (c_X10_heavy l sa D ad cy N H.size hN hI c0 c10 hc29) (cwV 1 hts gX10_level_X10_heavy rfl rfl rfl (by decide +kernel) ⟨by decide, by decide⟩) (gx_rec F G ht2 (gwe_10 hk1) rfl) rfl rfl hl.1 rfl (lv_room (Nat.le_of_ble_eq_true rfl)) dX10_level_81 ⟨Nat.zero_le _, Nat.zero_le _⟩) (fun H locs G => ?_)
                refine lv_istore (lv' := [(7, .int r30), (0, .ref (ad t)), (1, .int a1), (2, .int a2), (3, .int y14), (4, .int y15), (5, .int x12), (6, .int y16)]) hx hb dX10_level_84 hl (by decide) rfl (fun ls hl => ?_)
                refine lv_aload_n hx hb dX10_level_86 rfl (lv_at hl 1 rfl) ?_
                refine lv_iload_n hx hb dX10_level_87 rfl (lv_at hl 2 rfl) ?_
                refine lv_iload hx hb dX10_level_88 (lv_at hl 7 rfl) ?_
                refine lv_iconst (v := (-1)) hx hb dX10_level_90 (by decide) ?_
                refine lv_ixor hx hb dX10_level_91 ?_
                refine lv_iand hx hb dX10_level_92 ?_
                obtain ⟨r32, hc31, h⟩ := gb_s h
                refine gx_calli F G (va_runV (As := [.int (a1 &&& (y16 ^^^ (-1)))]) (rest := []) (gx_fix F) (c_X10_heavy l sa D ad cy N H.size hN hI c0 c10 hc31) (cwV 1 hts gX10_level_X10_heavy rfl rfl rfl (by decide +kernel) ⟨by decide, by decide⟩) (gx_rec F G ht2 (gwe_10 hk1) rfl) rfl rfl hl.1 rfl (lv_room (Nat.le_of_ble_eq_true rfl)) dX10_level_93 ⟨Nat.zero_le _, Nat.zero_le _⟩) (fun H locs G => ?_)
                refine lv_istore (lv' := [(8, .int r32), (7, .int r30), (0, .ref (ad t)), (1, .int a1), (2, .int a2), (3, .int y14), (4, .int y15), (5, .int x12), (6, .int y16)]) hx hb dX10_level_96 hl (by decide) rfl (fun ls hl => ?_)
                refine lv_iload hx hb dX10_level_98 (lv_at hl 1 rfl) ?_
                refine lv_iload hx hb dX10_level_100 (lv_at hl 0 rfl) ?_
                refine lv_isub hx hb dX10_level_102 ?_
                refine lv_iload hx hb dX10_level_103 (lv_at hl 0 rfl) ?_
                refine lv_iload hx hb dX10_level_105 (lv_at hl 1 rfl) ?_
                refine lv_isub hx hb dX10_level_107 ?_
                obtain ⟨r34, hc33, h⟩ := gb_s h
                refine gx_calli F G (va_runS (As := [.int (r30 - r32), .int (r32 - r30)]) (rest := []) (gx_fix F) (c_X10_more l sa D ad cy N H.size hN hI c0 c10 hc33) (va_cwS 2 hts gX10_level_X10_more rfl rfl rfl (by decide +kernel) ⟨by decide, by decide⟩) (gx_pre F G) rfl rfl hl.1 rfl (lv_room (Nat.le_of_ble_eq_true rfl)) dX10_level_108 ⟨Nat.zero_le _, Nat.zero_le _⟩) (fun H locs G => ?_)
                refine lv_istore (lv' := [(9, .int r34), (8, .int r32), (7, .int r30), (0, .ref (ad t)), (1, .int a1), (2, .int a2), (3, .int y14), (4, .int y15), (5, .int x12), (6, .int y16)]) hx hb dX10_level_111 hl (by decide) rfl (fun ls hl => ?_)
                refine lv_iload hx hb dX10_level_113 (lv_at hl 7 rfl) ?_
                refine lv_iconst (v := (-1)) hx hb dX10_level_115 (by decide) ?_
                obtain ⟨K35, eK35, h⟩ := gj_s h
                have JK35 : ∀ (H : Heap) (locs : List Loc) (ls : Array Slot), K35 () = some o13 → gW D ad cy N A s.heap c0 c10 H locs → lv_has ls 10 [(0, .ref (ad t)), (1, .int a1), (2, .int a2), (5, .int x12), (6, .int y16), (9, .int r34)] → W p l e rmX10_level s m args below meth cod H locs 0 0 Q (F0 m 129 ls []) := by
                  intro  H locs ls h G hl
                  rw [eK35] at h
                  refine lv_iload hx hb dX10_level_129 (lv_at hl 4 rfl) ?_
                  refine lv_istore_n (lv' := [(3, .int y16), (0, .ref (ad t)), (1, .int a1), (2, .int a2), (5, .int x12), (6, .int y16), (9, .int r34)]) hx hb dX10_level_131 rfl hl (by decide) rfl (fun ls hl => ?_)
                  refine lv_iload hx hb dX10_level_132 (lv_at hl 6 rfl) ?_
                  refine lv_istore (lv' := [(4, .int r34), (3, .int y16), (0, .ref (ad t)), (1, .int a1), (2, .int a2), (5, .int x12), (6, .int y16), (9, .int r34)]) hx hb dX10_level_134 hl (by decide) rfl (fun ls hl => ?_)
                  exact JK25 _ _ _ _ _ h G (lv_sub hl [2, 3, 4, 1, 0, 5, 6] rfl)
                refine lv_icmp_eq (tgt := 129) hx hb dX10_level_116 (by decide) (fun q36 => ?_) (fun q36 => ?_)
                · replace h := gt_s q36 h
                  exact JK35  _ _ _ h G (lv_sub hl [3, 4, 5, 8, 9, 0] rfl)
                · replace h := gf_s q36 h
                  refine lv_iload hx hb dX10_level_119 (lv_at hl 0 rfl) ?_
                  refine lv_iload hx hb dX10_level_121 (lv_at hl 7 rfl) ?_
                  refine lv_icmp_lt (tgt := 129) hx hb dX10_level_123 (by decide) (fun q37 => ?_) (fun q37 => ?_)
                  · replace h := gt_s q37 h
                    exact JK35  _ _ _ h G (lv_sub hl [3, 4, 5, 8, 9, 0] rfl)
                  · replace h := gf_s q37 h
                    refine lv_goto (tgt := 136) hx hb dX10_level_126 (by decide) ?_
                    exact JK25 _ _ _ _ _ h G (lv_sub hl [3, 4, 5, 6, 7, 8, 9] rfl)
              · replace h := gt_s q28 h
                refine lv_goto (tgt := 136) hx hb dX10_level_75 (by decide) ?_
                exact JK25 _ _ _ _ _ h G hl
      exact L13 n _ _ _ _ _ _ hb13 G (lv_sub hl [4, 5, 6, 3, 2, 1, 0] rfl)
    · replace h := gf_s q11 h
      refine lv_iconst (v := 0) hx hb dX10_level_36 (by decide) ?_
      cases h
      rw [← hQ]
      exact gx_iret F G hr hlocks dX10_level_37
  obtain ⟨K38, eK38, h⟩ := gj_s h
  have JK38 : ∀ (H : Heap) (locs : List Loc) (ls : Array Slot), K38 () = some (rZ, cZ) → gW D ad cy N A s.heap c0 c3 H locs → lv_has ls 10 [(0, .ref (ad t)), (1, .int a1), (2, .int a2)] → W p l e rmX10_level s m args below meth cod H locs 0 0 Q (F0 m 23 ls [.ref (ad t)]) := by
    intro  H locs ls h G hl
    rw [eK38] at h
    refine lv_iconst (v := 1) hx hb dX10_level_23 (by decide) ?_
    refine lv_goto (tgt := 28) hx hb dX10_level_24 (by decide) ?_
    exact JK7 _ _ _ _ h G hl
  refine lv_if_eq (tgt := 23) hx hb dX10_level_11 (by decide) (fun q39 => ?_) (fun q39 => ?_)
  · replace h := gt_s q39 h
    exact JK38  _ _ _ h G hl
  · replace h := gf_s q39 h
    refine lv_iload_n hx hb dX10_level_14 rfl (lv_at hl 2 rfl) ?_
    refine lv_iconst (v := 0) hx hb dX10_level_15 (by decide) ?_
    refine lv_iconst (v := 1) hx hb dX10_level_16 (by decide) ?_
    obtain ⟨r41, hc40, h⟩ := gb_s h
    refine gx_calli F G (va_runS (As := [.int a2, .int 0, .int 1]) (rest := [.ref (ad t)]) (gx_fix F) (c_X10_in l sa D ad cy N H.size hN hI c0 c3 hc40) (va_cwS 3 hts gX10_level_X10_in rfl rfl rfl (by decide +kernel) ⟨by decide, by decide⟩) (gx_pre F G) rfl rfl hl.1 rfl (lv_room (Nat.le_of_ble_eq_true rfl)) dX10_level_17 ⟨Nat.zero_le _, Nat.zero_le _⟩) (fun H locs G => ?_)
    refine lv_if_ne (tgt := 27) hx hb dX10_level_20 (by decide) (fun q42 => ?_) (fun q42 => ?_)
    · replace h := gf_s q42 h
      refine lv_iconst (v := 0) hx hb dX10_level_27 (by decide) ?_
      exact JK7 _ _ _ _ h G hl
    · replace h := gt_s q42 h
      exact JK38  _ _ _ h G hl
def m_X10_isBeam_L2 (t : Nat) (a1 : Int32) (a2 : Int32) (c : gm) (y2 : Int32) : Option ((Int32) ⊕ ((Int32) ⊕ (Unit))) :=
  gc (gck t = 10) ((if (c.1 t 32) ≤ y2 then some (.inr (.inr ())) else gc (0 ≤ y2.toInt ∧ y2.toInt < 6) (gc (gck (406 + 1 + y2.toNatClampNeg) = 22) (gc (0 ≤ (0 : Int32).toInt ∧ (0 : Int32).toInt < ((gal (406 + 1 + y2.toNatClampNeg)) : Nat)) (gc (0 ≤ (0 + (c.1 (406 + 1 + y2.toNatClampNeg) (0 : Int32).toNatClampNeg)).toInt ∧ (0 + (c.1 (406 + 1 + y2.toNatClampNeg) (0 : Int32).toNatClampNeg)).toInt < 60) (gc (0 ≤ y2.toInt ∧ y2.toInt < 6) (gc (0 ≤ (1 : Int32).toInt ∧ (1 : Int32).toInt < ((gal (406 + 1 + y2.toNatClampNeg)) : Nat)) (gc (0 ≤ (0 + (c.1 (406 + 1 + y2.toNatClampNeg) (1 : Int32).toNatClampNeg)).toInt ∧ (0 + (c.1 (406 + 1 + y2.toNatClampNeg) (1 : Int32).toNatClampNeg)).toInt < 60) (gb (m_X10_standsBy (c.1 503 (0 + (c.1 (406 + 1 + y2.toNatClampNeg) (0 : Int32).toNatClampNeg)).toNatClampNeg) (c.1 503 (0 + (c.1 (406 + 1 + y2.toNatClampNeg) (1 : Int32).toNatClampNeg)).toNatClampNeg) a1 a2) (fun (r21 : Int32) => gc (0 ≤ y2.toInt ∧ y2.toInt < 6) (gc (0 ≤ (2 : Int32).toInt ∧ (2 : Int32).toInt < ((gal (406 + 1 + y2.toNatClampNeg)) : Nat)) ((if r21 = (c.1 (406 + 1 + y2.toNatClampNeg) (2 : Int32).toNatClampNeg) then gv (y2 + 1) (fun (x25 : Int32) => some (.inl x25)) else some (.inr (.inl 0)))))))))))))))
def m_X10_isBeam (n : Nat) (t : Nat) (a1 : Int32) (a2 : Int32) (c : gm) : Option (Int32) :=
  gb (gloop (fun (y2 : Int32) => m_X10_isBeam_L2 t a1 a2 c y2) n 0) (gsm (fun (_ : Unit) => some 1))
abbrev rmX10_isBeam : Room := { frames := 1, cells := 0, slots := 0, locals := 24 }
set_option maxHeartbeats 4000000 in
set_option maxRecDepth 100000 in
theorem c_X10_isBeam (l : Launch) (sa : gSa) (D : va_G) (ad : Nat → Nat) (cy : Nat → ClassId) (N sz : Nat) (hN : 530 ≤ N) (hI : gI ad N) (c0 c : gm) {n : Nat} {t : Nat} {a1 : Int32} {a2 : Int32} {rZ : Int32} (h : m_X10_isBeam n t a1 a2 c = some rZ) : Met l yX10_isBeam wsX10_isBeam rmX10_isBeam (va_Pc [.ref (ad t), .int a1, .int a2] (gP sa D ad cy N sz c0 c)) (va_Qi (fun (z : Int32) (_ : Unit) => z = rZ) (fun _ U => gE D ad cy N c0 c U) (gA ad N sz)) 0 0 (gA ad N sz) := by
  refine Met.ofW (cc := cX10_isBeam) (maxL := 4) (ret := (some .boolean)) (by decide) rfl ?_
  intro p e s m args below meth cod s₁ B hml hv
  obtain ⟨rfl, hsz, hP, hK, hZ⟩ := hv
  have hx := B.exec
  have hb := B.bytes
  have hr := B.returns
  have hts := atoms_spec (ws := wsX10_isBeam) B.pre
  have hown : s.vm.findClass RX10 = some m.cls := findClass_of_methodNamed B.named
  have hlocks := B.notSynchronized
  subst hsz
  have hl := lv_entry ([.ref (ad t), .int a1, .int a2]) (n := 4) (Nat.le_of_ble_eq_true rfl)
  rw [lg_entry_eq]
  generalize (lg_sl ([.ref (ad t), .int a1, .int a2]) ++ List.replicate (4 - (lg_sl ([.ref (ad t), .int a1, .int a2])).length) Slot.unset).toArray = ls at hl ⊢
  have hl : lv_has ls 4 [(0, .ref (ad t)), (1, .int a1), (2, .int a2)] := hl
  have in10 : ∀ w ∈ wsX100, w ∈ wsX10_isBeam := by decide +kernel
  generalize hargs : ([.ref (ad t), .int a1, .int a2] : List Value).toArray = args at *
  generalize hAe : gA ad N s.heap.size = A
  have F : gF sa D ad cy N A p s m args cod cX10_isBeam 4 wsX10_isBeam RX10 := ⟨hx, hb, hml, hown, hts, hK, hI, by rw [← hAe]; exact gA_ad, by rw [← hAe]; exact gA_sz, by rw [← hAe]; exact hZ⟩
  have G : gW D ad cy N A s.heap c0 c s.heap [] := ⟨hP, va_S.rf⟩
  generalize hQ : MQ below (va_Qi (fun (z : Int32) (_ : Unit) => z = rZ) (fun _ U => gE D ad cy N c0 c U) A) args s 0 0 A = Q
  suffices hgen : ∀ (H : Heap) (locs : List Loc), gW D ad cy N A s.heap c0 c H locs → W p l e rmX10_isBeam s m args below meth cod H locs 0 0 Q (F0 m 0 ls []) from hgen _ _ G
  clear G
  intro H locs G
  unfold m_X10_isBeam at h
  refine lv_iconst (v := 0) hx hb dX10_isBeam_0 (by decide) ?_
  refine lv_istore_n (lv' := [(3, .int 0), (0, .ref (ad t)), (1, .int a1), (2, .int a2)]) hx hb dX10_isBeam_1 rfl hl (by decide) rfl (fun ls hl => ?_)
  obtain ⟨b1, hb1, hK1⟩ := gb_s h
  have E1 : ∀ (H : Heap) (locs : List Loc) (ls : Array Slot), (Sum.inr () : (Int32) ⊕ (Unit)) = b1 → gW D ad cy N A s.heap c0 c H locs → lv_has ls 4 [] → W p l e rmX10_isBeam s m args below meth cod H locs 0 0 Q (F0 m 64 ls []) := by
    intro  H locs ls hq1 G hl
    subst hq1
    replace hK1 := gsm_r hK1
    have h := hK1
    refine lv_iconst (v := 1) hx hb dX10_isBeam_64 (by decide) ?_
    cases h
    rw [← hQ]
    exact gx_zret F G hr hlocks rfl dX10_isBeam_65
  have L1 : ∀ (n9 : Nat) (y2 : Int32) (H : Heap) (locs : List Loc) (ls : Array Slot), gloop (fun (y2 : Int32) => m_X10_isBeam_L2 t a1 a2 c y2) n9 y2 = some b1 → gW D ad cy N A s.heap c0 c H locs → lv_has ls 4 [(0, .ref (ad t)), (1, .int a1), (2, .int a2), (3, .int y2)] → W p l e rmX10_isBeam s m args below meth cod H locs 0 0 Q (F0 m 2 ls []) := by
    intro n9
    induction n9 with
    | zero => intro y2 H locs ls h; exact (gloop_0 h).elim
    | succ n9 ih =>
      intro y2 H locs ls h G hl
      have ih1 := ih
      obtain ⟨o1, h, hn1⟩ := gloop_s h
      unfold m_X10_isBeam_L2 at h
      refine lv_iload_n hx hb dX10_isBeam_2 rfl (lv_at hl 3 rfl) ?_
      refine lv_aload_n hx hb dX10_isBeam_3 rfl (lv_at hl 0 rfl) ?_
      obtain ⟨hk3, h⟩ := gc_s h
      have ht4 : t < N := Nat.lt_of_lt_of_le (gck_lt10 hk3) hN
      refine fg_10_lines F G hk3 ht4 in10 (by decide +kernel) dX10_isBeam_4 ?_
      refine lv_icmp_ge (tgt := 64) hx hb dX10_isBeam_7 (by decide) (fun q5 => ?_) (fun q5 => ?_)
      · replace h := gt_s q5 h
        cases h
        exact E1  _ _ _ (gnx_r hn1) G (lv_sub hl [] rfl)
      · replace h := gf_s q5 h
        refine lv_aload_n hx hb dX10_isBeam_10 rfl (lv_at hl 0 rfl) ?_
        refine fg_10_now F G hk3 ht4 in10 (by decide +kernel) dX10_isBeam_11 ?_
        have hk6 : gck 503 = 22 := rfl
        have ht7 : 503 < N := Nat.lt_of_lt_of_le (by decide) hN
        have hn8 : gal 503 = 60 := rfl
        refine lv_iconst (v := 0) hx hb dX10_isBeam_14 (by decide) ?_
        refine lv_aload_n hx hb dX10_isBeam_15 rfl (lv_at hl 0 rfl) ?_
        refine fg_10_line F G hk3 ht4 in10 (by decide +kernel) dX10_isBeam_16 ?_
        have hk9 : gck 406 = 25 := rfl
        have ht10 : 406 < N := Nat.lt_of_lt_of_le (by decide) hN
        have hn11 : gal 406 = 6 := rfl
        refine lv_iload_n hx hb dX10_isBeam_19 rfl (lv_at hl 3 rfl) ?_
        obtain ⟨hi12, h⟩ := gc_s h
        refine gx_mga F G hk9 ht10 hn11 hi12 dX10_isBeam_20 ?_
        refine lv_iconst (v := 0) hx hb dX10_isBeam_21 (by decide) ?_
        obtain ⟨hk13, h⟩ := gc_s h
        have ht14 : (406 + 1 + y2.toNatClampNeg) < N := Nat.lt_of_lt_of_le (gck_lt22 hk13) hN
        obtain ⟨hi15, h⟩ := gc_s h
        refine gx_mia F G hk13 ht14 rfl hi15 dX10_isBeam_22 ?_
        refine lv_iadd hx hb dX10_isBeam_23 ?_
        obtain ⟨hi16, h⟩ := gc_s h
        refine gx_mia F G hk6 ht7 hn8 hi16 dX10_isBeam_24 ?_
        refine lv_aload_n hx hb dX10_isBeam_25 rfl (lv_at hl 0 rfl) ?_
        refine fg_10_now F G hk3 ht4 in10 (by decide +kernel) dX10_isBeam_26 ?_
        refine lv_iconst (v := 0) hx hb dX10_isBeam_29 (by decide) ?_
        refine lv_aload_n hx hb dX10_isBeam_30 rfl (lv_at hl 0 rfl) ?_
        refine fg_10_line F G hk3 ht4 in10 (by decide +kernel) dX10_isBeam_31 ?_
        refine lv_iload_n hx hb dX10_isBeam_34 rfl (lv_at hl 3 rfl) ?_
        obtain ⟨hi17, h⟩ := gc_s h
        refine gx_mga F G hk9 ht10 hn11 hi17 dX10_isBeam_35 ?_
        refine lv_iconst (v := 1) hx hb dX10_isBeam_36 (by decide) ?_
        obtain ⟨hi18, h⟩ := gc_s h
        refine gx_mia F G hk13 ht14 rfl hi18 dX10_isBeam_37 ?_
        refine lv_iadd hx hb dX10_isBeam_38 ?_
        obtain ⟨hi19, h⟩ := gc_s h
        refine gx_mia F G hk6 ht7 hn8 hi19 dX10_isBeam_39 ?_
        refine lv_iload_n hx hb dX10_isBeam_40 rfl (lv_at hl 1 rfl) ?_
        refine lv_iload_n hx hb dX10_isBeam_41 rfl (lv_at hl 2 rfl) ?_
        obtain ⟨r21, hc20, h⟩ := gb_s h
        refine gx_calli F G (va_runS (As := [.int (c.1 503 (0 + (c.1 (406 + 1 + y2.toNatClampNeg) (0 : Int32).toNatClampNeg)).toNatClampNeg), .int (c.1 503 (0 + (c.1 (406 + 1 + y2.toNatClampNeg) (1 : Int32).toNatClampNeg)).toNatClampNeg), .int a1, .int a2]) (rest := []) (gx_fix F) (c_X10_standsBy l sa D ad cy N H.size hN hI c0 c hc20) (va_cwS 4 hts gX10_isBeam_X10_standsBy rfl rfl rfl (by decide +kernel) ⟨by decide, by decide⟩) (gx_pre F G) rfl rfl hl.1 rfl (lv_room (Nat.le_of_ble_eq_true rfl)) dX10_isBeam_42 ⟨Nat.zero_le _, Nat.zero_le _⟩) (fun H locs G => ?_)
        refine lv_aload_n hx hb dX10_isBeam_45 rfl (lv_at hl 0 rfl) ?_
        refine fg_10_line F G hk3 ht4 in10 (by decide +kernel) dX10_isBeam_46 ?_
        refine lv_iload_n hx hb dX10_isBeam_49 rfl (lv_at hl 3 rfl) ?_
        obtain ⟨hi22, h⟩ := gc_s h
        refine gx_mga F G hk9 ht10 hn11 hi22 dX10_isBeam_50 ?_
        refine lv_iconst (v := 2) hx hb dX10_isBeam_51 (by decide) ?_
        obtain ⟨hi23, h⟩ := gc_s h
        refine gx_mia F G hk13 ht14 rfl hi23 dX10_isBeam_52 ?_
        refine lv_icmp_eq (tgt := 58) hx hb dX10_isBeam_53 (by decide) (fun q24 => ?_) (fun q24 => ?_)
        · replace h := gt_s q24 h
          obtain ⟨x25, ex25⟩ : ∃ z : Int32, z = y2 + 1 := ⟨_, rfl⟩
          replace h := gv_s h x25 ex25
          refine lv_iinc (v := x25) (lv' := [(3, .int x25), (0, .ref (ad t)), (1, .int a1), (2, .int a2)]) hx hb dX10_isBeam_58 hl (k := 3) rfl (by rw [ex25]; rfl) (by decide) rfl (fun ls hl => ?_)
          refine lv_goto (tgt := 2) hx hb dX10_isBeam_61 (by decide) ?_
          cases h
          exact ih1 _ _ _ _ hn1 G (lv_sub hl [1, 2, 3, 0] rfl)
        · replace h := gf_s q24 h
          refine lv_iconst (v := 0) hx hb dX10_isBeam_56 (by decide) ?_
          cases h
          cases gnx_r hn1
          cases gsm_l hK1
          rw [← hQ]
          exact gx_zret F G hr hlocks rfl dX10_isBeam_57
  exact L1 n _ _ _ _ hb1 G (lv_sub hl [1, 2, 3, 0] rfl)
def m_X10_fits_L37 (n : Nat) (t : Nat) (c10 : gm) (y13 : Int32) (y14 : Int32) (y15 : Int32) : Option ((Int32 × Int32 × Int32) ⊕ (Int32 × Int32)) :=
  (if 190 ≤ y15 then some (.inr (y13, y14)) else gb (m_X10_isBeam n t (y15 / 10) (y15 - y15 / 10 * 10) c10) (fun (r21 : Int32) => gj (gu2 (fun (v22 : Int32) (v23 : Int32) => gv (y15 + 1) (fun (x25 : Int32) => some (.inl (v22, v23, x25))))) (fun K24 => (if r21 = 0 then K24 (y13, y14) else gj (fun (v27 : Int32) => gv (y13 + 1) (fun (x29 : Int32) => K24 (x29, v27))) (fun K28 => (if y13 = 0 then K28 y15 else K28 y14))))))
def m_X10_fits (n : Nat) (t : Nat) (a1 : Int32) (c : gm) : Option (Int32 × gm) :=
  gc (gck t = 10) (gv (gm_r c t (upd (c.1 t) 0 0)) (fun (c3 : gm) => gb (m_X10_in a1 0 1) (fun (r5 : Int32) => gj (fun (v6 : Int32) => gb2 (m_X10_bad t v6 1 1 c3) (fun (r9 : Int32) (c10 : gm) => (if r9 = 0 then gb (gloop (gu2 (fun (y13 : Int32) => gu2 (fun (y14 : Int32) (y15 : Int32) => m_X10_fits_L37 n t c10 y13 y14 y15))) n (0, (-1), 0)) (gu2 (fun (z16 : Int32) (z17 : Int32) => (if a1 = 0 then some (z16, c10) else some (z17, c10)))) else some (0, c10)))) (fun K7 => (if r5 = 0 then K7 1 else K7 0)))))
abbrev rmX10_fits : Room := { frames := 2, cells := 0, slots := 0, locals := 47 }
set_option maxHeartbeats 4000000 in
set_option maxRecDepth 100000 in
theorem c_X10_fits (l : Launch) (sa : gSa) (D : va_G) (ad : Nat → Nat) (cy : Nat → ClassId) (N sz : Nat) (hN : 530 ≤ N) (hI : gI ad N) (c0 c : gm) {n : Nat} {t : Nat} {a1 : Int32} {rZ : Int32} {cZ : gm} (h : m_X10_fits n t a1 c = some (rZ, cZ)) : Met l yX10_fits wsX10_fits rmX10_fits (va_Pc [.ref (ad t), .int a1] (gP sa D ad cy N sz c0 c)) (va_Qi (fun (z : Int32) (_ : Unit) => z = rZ) (fun _ U => gE D ad cy N c0 cZ U) (gA ad N sz)) 0 0 (gA ad N sz) := by
  refine Met.ofW (cc := cX10_fits) (maxL := 5) (ret := (some .int)) (by decide) rfl ?_
  intro p e s m args below meth cod s₁ B hml hv
  obtain ⟨rfl, hsz, hP, hK, hZ⟩ := hv
  have hx := B.exec
  have hb := B.bytes
  have hr := B.returns
  have hts := atoms_spec (ws := wsX10_fits) B.pre
  have hown : s.vm.findClass RX10 = some m.cls := findClass_of_methodNamed B.named
  have hlocks := B.notSynchronized
  subst hsz
  have hl := lv_entry ([.ref (ad t), .int a1]) (n := 5) (Nat.le_of_ble_eq_true rfl)
  rw [lg_entry_eq]
  generalize (lg_sl ([.ref (ad t), .int a1]) ++ List.replicate (5 - (lg_sl ([.ref (ad t), .int a1])).length) Slot.unset).toArray = ls at hl ⊢
  have hl : lv_has ls 5 [(0, .ref (ad t)), (1, .int a1)] := hl
  have in10 : ∀ w ∈ wsX100, w ∈ wsX10_fits := by decide +kernel
  generalize hargs : ([.ref (ad t), .int a1] : List Value).toArray = args at *
  generalize hAe : gA ad N s.heap.size = A
  have F : gF sa D ad cy N A p s m args cod cX10_fits 5 wsX10_fits RX10 := ⟨hx, hb, hml, hown, hts, hK, hI, by rw [← hAe]; exact gA_ad, by rw [← hAe]; exact gA_sz, by rw [← hAe]; exact hZ⟩
  have G : gW D ad cy N A s.heap c0 c s.heap [] := ⟨hP, va_S.rf⟩
  generalize hQ : MQ below (va_Qi (fun (z : Int32) (_ : Unit) => z = rZ) (fun _ U => gE D ad cy N c0 cZ U) A) args s 0 0 A = Q
  suffices hgen : ∀ (H : Heap) (locs : List Loc), gW D ad cy N A s.heap c0 c H locs → W p l e rmX10_fits s m args below meth cod H locs 0 0 Q (F0 m 0 ls []) from hgen _ _ G
  clear G
  intro H locs G
  unfold m_X10_fits at h
  refine lv_aload_n hx hb dX10_fits_0 rfl (lv_at hl 0 rfl) ?_
  refine lv_iconst (v := 0) hx hb dX10_fits_1 (by decide) ?_
  obtain ⟨hk1, h⟩ := gc_s h
  have ht2 : t < N := Nat.lt_of_lt_of_le (gck_lt10 hk1) hN
  refine fp_10_thrown F G hk1 ht2 in10 (by decide +kernel) dX10_fits_2 (fun H locs G => ?_)
  obtain ⟨c3, ec3⟩ : ∃ z, z = gm_r c t (upd (c.1 t) 0 0) := ⟨_, rfl⟩
  rw [← ec3] at G
  replace h := gv_s h c3 ec3
  refine lv_aload_n hx hb dX10_fits_5 rfl (lv_at hl 0 rfl) ?_
  refine lv_iload_n hx hb dX10_fits_6 rfl (lv_at hl 1 rfl) ?_
  refine lv_iconst (v := 0) hx hb dX10_fits_7 (by decide) ?_
  refine lv_iconst (v := 1) hx hb dX10_fits_8 (by decide) ?_
  obtain ⟨r5, hc4, h⟩ := gb_s h
  refine gx_calli F G (va_runS (As := [.int a1, .int 0, .int 1]) (rest := [.ref (ad t)]) (gx_fix F) (c_X10_in l sa D ad cy N H.size hN hI c0 c3 hc4) (va_cwS 3 hts gX10_fits_X10_in rfl rfl rfl (by decide +kernel) ⟨by decide, by decide⟩) (gx_pre F G) rfl rfl hl.1 rfl (lv_room (Nat.le_of_ble_eq_true rfl)) dX10_fits_9 ⟨Nat.zero_le _, Nat.zero_le _⟩) (fun H locs G => ?_)
  obtain ⟨K7, eK7, h⟩ := gj_s h
  have JK7 : ∀ (v6 : Int32) (H : Heap) (locs : List Loc) (ls : Array Slot), K7 v6 = some (rZ, cZ) → gW D ad cy N A s.heap c0 c3 H locs → lv_has ls 5 [(0, .ref (ad t)), (1, .int a1)] → W p l e rmX10_fits s m args below meth cod H locs 0 0 Q (F0 m 20 ls [.int v6, .ref (ad t)]) := by
    intro v6 H locs ls h G hl
    rw [eK7] at h
    refine lv_iconst (v := 1) hx hb dX10_fits_20 (by decide) ?_
    refine lv_iconst (v := 1) hx hb dX10_fits_21 (by decide) ?_
    obtain ⟨r9, c10, hc8, h⟩ := gb2_s h
    refine gx_calli F G (va_runV (As := [.int v6, .int 1, .int 1]) (rest := []) (gx_fix F) (c_X10_bad l sa D ad cy N H.size hN hI c0 c3 hc8) (cwV 3 hts gX10_fits_X10_bad rfl rfl rfl (by decide +kernel) ⟨by decide, by decide⟩) (gx_rec F G ht2 (gwe_10 hk1) rfl) rfl rfl hl.1 rfl (lv_room (Nat.le_of_ble_eq_true rfl)) dX10_fits_22 ⟨Nat.zero_le _, Nat.zero_le _⟩) (fun H locs G => ?_)
    refine lv_if_eq (tgt := 30) hx hb dX10_fits_25 (by decide) (fun q11 => ?_) (fun q11 => ?_)
    · replace h := gt_s q11 h
      refine lv_iconst (v := 0) hx hb dX10_fits_30 (by decide) ?_
      refine lv_istore_n (lv' := [(2, .int 0), (0, .ref (ad t)), (1, .int a1)]) hx hb dX10_fits_31 rfl hl (by decide) rfl (fun ls hl => ?_)
      refine lv_iconst (v := (-1)) hx hb dX10_fits_32 (by decide) ?_
      refine lv_istore_n (lv' := [(3, .int (-1)), (2, .int 0), (0, .ref (ad t)), (1, .int a1)]) hx hb dX10_fits_33 rfl hl (by decide) rfl (fun ls hl => ?_)
      refine lv_iconst (v := 0) hx hb dX10_fits_34 (by decide) ?_
      refine lv_istore (lv' := [(4, .int 0), (3, .int (-1)), (2, .int 0), (0, .ref (ad t)), (1, .int a1)]) hx hb dX10_fits_35 hl (by decide) rfl (fun ls hl => ?_)
      obtain ⟨b12, hb12, hK12⟩ := gb_s h
      have E12 : ∀ (z16 : Int32) (z17 : Int32) (H : Heap) (locs : List Loc) (ls : Array Slot), ((z16, z17) : Int32 × Int32) = b12 → gW D ad cy N A s.heap c0 c10 H locs → lv_has ls 5 [(1, .int a1), (2, .int z16), (3, .int z17)] → W p l e rmX10_fits s m args below meth cod H locs 0 0 Q (F0 m 85 ls []) := by
        intro z16 z17 H locs ls hq12 G hl
        subst hq12
        replace hK12 := hK12
        replace hK12 := gu2_s hK12
        have h := hK12
        refine lv_iload_n hx hb dX10_fits_85 rfl (lv_at hl 0 rfl) ?_
        refine lv_if_ne (tgt := 93) hx hb dX10_fits_86 (by decide) (fun q18 => ?_) (fun q18 => ?_)
        · replace h := gf_s q18 h
          refine lv_iload_n hx hb dX10_fits_93 rfl (lv_at hl 2 rfl) ?_
          cases h
          rw [← hQ]
          exact gx_iret F G hr hlocks dX10_fits_94
        · replace h := gt_s q18 h
          refine lv_iload_n hx hb dX10_fits_89 rfl (lv_at hl 1 rfl) ?_
          refine lv_goto (tgt := 94) hx hb dX10_fits_90 (by decide) ?_
          cases h
          rw [← hQ]
          exact gx_iret F G hr hlocks dX10_fits_94
      have L12 : ∀ (n9 : Nat) (y13 : Int32) (y14 : Int32) (y15 : Int32) (H : Heap) (locs : List Loc) (ls : Array Slot), gloop (gu2 (fun (y13 : Int32) => gu2 (fun (y14 : Int32) (y15 : Int32) => m_X10_fits_L37 n t c10 y13 y14 y15))) n9 (y13, y14, y15) = some b12 → gW D ad cy N A s.heap c0 c10 H locs → lv_has ls 5 [(0, .ref (ad t)), (1, .int a1), (2, .int y13), (3, .int y14), (4, .int y15)] → W p l e rmX10_fits s m args below meth cod H locs 0 0 Q (F0 m 37 ls []) := by
        intro n9
        induction n9 with
        | zero => intro y13 y14 y15 H locs ls h; exact (gloop_0 h).elim
        | succ n9 ih =>
          intro y13 y14 y15 H locs ls h G hl
          have ih12 := ih
          obtain ⟨o12, h, hn12⟩ := gloop_s h
          replace h := gu2_s h
          replace h := gu2_s h
          unfold m_X10_fits_L37 at h
          refine lv_iload hx hb dX10_fits_37 (lv_at hl 4 rfl) ?_
          refine lv_sipush (v := 190) hx hb dX10_fits_39 (by decide) ?_
          refine lv_icmp_ge (tgt := 85) hx hb dX10_fits_42 (by decide) (fun q19 => ?_) (fun q19 => ?_)
          · replace h := gt_s q19 h
            cases h
            exact E12 _ _ _ _ _ (gnx_r hn12) G (lv_sub hl [1, 2, 3] rfl)
          · replace h := gf_s q19 h
            refine lv_aload_n hx hb dX10_fits_45 rfl (lv_at hl 0 rfl) ?_
            refine lv_iload hx hb dX10_fits_46 (lv_at hl 4 rfl) ?_
            refine lv_bipush (v := 10) hx hb dX10_fits_48 (by decide) ?_
            refine lv_idiv hx hb dX10_fits_50 (by decide) ?_
            refine lv_iload hx hb dX10_fits_51 (lv_at hl 4 rfl) ?_
            refine lv_bipush (v := 10) hx hb dX10_fits_53 (by decide) ?_
            refine lv_irem hx hb dX10_fits_55 (by decide) ?_
            obtain ⟨r21, hc20, h⟩ := gb_s h
            refine gx_calli F G (va_runV (As := [.int (y15 / 10), .int (y15 - y15 / 10 * 10)]) (rest := []) (gx_fix F) (c_X10_isBeam l sa D ad cy N H.size hN hI c0 c10 hc20) (cwV 2 hts gX10_fits_X10_isBeam rfl rfl rfl (by decide +kernel) ⟨by decide, by decide⟩) (gx_rec F G ht2 (gwe_10 hk1) rfl) rfl rfl hl.1 rfl (lv_room (Nat.le_of_ble_eq_true rfl)) dX10_fits_56 ⟨Nat.zero_le _, Nat.zero_le _⟩) (fun H locs G => ?_)
            obtain ⟨K24, eK24, h⟩ := gj_s h
            have JK24 : ∀ (v22 : Int32) (v23 : Int32) (H : Heap) (locs : List Loc) (ls : Array Slot), K24 (v22, v23) = some o12 → gW D ad cy N A s.heap c0 c10 H locs → lv_has ls 5 [(0, .ref (ad t)), (1, .int a1), (2, .int v22), (3, .int v23), (4, .int y15)] → W p l e rmX10_fits s m args below meth cod H locs 0 0 Q (F0 m 79 ls []) := by
              intro v22 v23 H locs ls h G hl
              rw [eK24] at h
              replace h := gu2_s h
              obtain ⟨x25, ex25⟩ : ∃ z : Int32, z = y15 + 1 := ⟨_, rfl⟩
              replace h := gv_s h x25 ex25
              refine lv_iinc (v := x25) (lv' := [(4, .int x25), (0, .ref (ad t)), (1, .int a1), (2, .int v22), (3, .int v23)]) hx hb dX10_fits_79 hl (k := 4) rfl (by rw [ex25]; rfl) (by decide) rfl (fun ls hl => ?_)
              refine lv_goto (tgt := 37) hx hb dX10_fits_82 (by decide) ?_
              cases h
              exact ih12 _ _ _ _ _ _ hn12 G (lv_sub hl [1, 2, 3, 4, 0] rfl)
            refine lv_if_ne (tgt := 65) hx hb dX10_fits_59 (by decide) (fun q26 => ?_) (fun q26 => ?_)
            · replace h := gf_s q26 h
              refine lv_iload_n hx hb dX10_fits_65 rfl (lv_at hl 2 rfl) ?_
              obtain ⟨K28, eK28, h⟩ := gj_s h
              have JK28 : ∀ (v27 : Int32) (H : Heap) (locs : List Loc) (ls : Array Slot), K28 v27 = some o12 → gW D ad cy N A s.heap c0 c10 H locs → lv_has ls 5 [(0, .ref (ad t)), (1, .int a1), (2, .int y13), (4, .int y15)] → W p l e rmX10_fits s m args below meth cod H locs 0 0 Q (F0 m 75 ls [.int v27]) := by
                intro v27 H locs ls h G hl
                rw [eK28] at h
                refine lv_istore_n (lv' := [(3, .int v27), (0, .ref (ad t)), (1, .int a1), (2, .int y13), (4, .int y15)]) hx hb dX10_fits_75 rfl hl (by decide) rfl (fun ls hl => ?_)
                obtain ⟨x29, ex29⟩ : ∃ z : Int32, z = y13 + 1 := ⟨_, rfl⟩
                replace h := gv_s h x29 ex29
                refine lv_iinc (v := x29) (lv' := [(2, .int x29), (3, .int v27), (0, .ref (ad t)), (1, .int a1), (4, .int y15)]) hx hb dX10_fits_76 hl (k := 3) rfl (by rw [ex29]; rfl) (by decide) rfl (fun ls hl => ?_)
                exact JK24 _ _ _ _ _ h G (lv_sub hl [2, 3, 0, 1, 4] rfl)
              refine lv_if_ne (tgt := 74) hx hb dX10_fits_66 (by decide) (fun q30 => ?_) (fun q30 => ?_)
              · replace h := gf_s q30 h
                refine lv_iload_n hx hb dX10_fits_74 rfl (lv_at hl 3 rfl) ?_
                exact JK28 _ _ _ _ h G (lv_sub hl [0, 1, 2, 4] rfl)
              · replace h := gt_s q30 h
                refine lv_iload hx hb dX10_fits_69 (lv_at hl 4 rfl) ?_
                refine lv_goto (tgt := 75) hx hb dX10_fits_71 (by decide) ?_
                exact JK28 _ _ _ _ h G (lv_sub hl [0, 1, 2, 4] rfl)
            · replace h := gt_s q26 h
              refine lv_goto (tgt := 79) hx hb dX10_fits_62 (by decide) ?_
              exact JK24 _ _ _ _ _ h G hl
      exact L12 n _ _ _ _ _ _ hb12 G (lv_sub hl [3, 4, 2, 1, 0] rfl)
    · replace h := gf_s q11 h
      refine lv_iconst (v := 0) hx hb dX10_fits_28 (by decide) ?_
      cases h
      rw [← hQ]
      exact gx_iret F G hr hlocks dX10_fits_29
  refine lv_if_ne (tgt := 19) hx hb dX10_fits_12 (by decide) (fun q31 => ?_) (fun q31 => ?_)
  · replace h := gf_s q31 h
    refine lv_iconst (v := 0) hx hb dX10_fits_19 (by decide) ?_
    exact JK7 _ _ _ _ h G hl
  · replace h := gt_s q31 h
    refine lv_iconst (v := 1) hx hb dX10_fits_15 (by decide) ?_
    refine lv_goto (tgt := 20) hx hb dX10_fits_16 (by decide) ?_
    exact JK7 _ _ _ _ h G hl
def m_X10_worstOf_L22 (n : Nat) (t : Nat) (a1 : Int32) (a2 : Int32) (y6 : Int32) (c7 : gm) : Option ((Int32 × gm) ⊕ (gm)) :=
  (if 190 ≤ y6 then some (.inr c7) else gc (gck t = 10) (gb (m_X10_isBeam n t (y6 / 10) (y6 - y6 / 10 * 10) c7) (fun (r25 : Int32) => gj (fun (c26 : gm) => gv (y6 + 1) (fun (x28 : Int32) => some (.inl (x28, c26)))) (fun K27 => (if r25 = 0 then K27 c7 else gc (0 ≤ (0 + a1).toInt ∧ (0 + a1).toInt < 60) (gc (0 ≤ (0 + a2).toInt ∧ (0 + a2).toInt < 60) (gb (m_X10_standsBy (c7.1 503 (0 + a1).toNatClampNeg) (c7.1 503 (0 + a2).toNatClampNeg) (y6 / 10) (y6 - y6 / 10 * 10)) (fun (r39 : Int32) => gc (0 ≤ r39.toInt ∧ r39.toInt < 3) (gc (0 ≤ r39.toInt ∧ r39.toInt < 3) (gv (gm_r c7 529 (upd (c7.1 529) r39.toNatClampNeg ((c7.1 529 r39.toNatClampNeg) + 1))) (fun (c42 : gm) => K27 c42)))))))))))
def m_X10_worstOf_L2 (t : Nat) (y2 : Int32) (c3 : gm) : Option ((Int32 × gm) ⊕ (gm)) :=
  (if 3 ≤ y2 then some (.inr c3) else gc (gck t = 10) (gc (0 ≤ y2.toInt ∧ y2.toInt < 3) (gv (gm_r c3 529 (upd (c3.1 529) y2.toNatClampNeg 0)) (fun (c50 : gm) => gv (y2 + 1) (fun (x51 : Int32) => some (.inl (x51, c50)))))))
def m_X10_worstOf (n : Nat) (t : Nat) (a1 : Int32) (a2 : Int32) (c : gm) : Option (Int32 × gm) :=
  gb (gloop (gu2 (fun (y2 : Int32) (c3 : gm) => m_X10_worstOf_L2 t y2 c3)) n (0, c)) (fun (c4 : gm) => gb (gloop (gu2 (fun (y6 : Int32) (c7 : gm) => m_X10_worstOf_L22 n t a1 a2 y6 c7)) n (0, c4)) (fun (c8 : gm) => gc (gck t = 10) (gb (m_X10_more (c8.1 529 (1 : Int32).toNatClampNeg) (c8.1 529 (2 : Int32).toNatClampNeg)) (fun (r18 : Int32) => gb (m_X10_more (c8.1 529 (0 : Int32).toNatClampNeg) r18) (fun (r20 : Int32) => some (r20, c8))))))
abbrev rmX10_worstOf : Room := { frames := 2, cells := 0, slots := 0, locals := 47 }
set_option maxHeartbeats 4000000 in
set_option maxRecDepth 100000 in
theorem c_X10_worstOf (l : Launch) (sa : gSa) (D : va_G) (ad : Nat → Nat) (cy : Nat → ClassId) (N sz : Nat) (hN : 530 ≤ N) (hI : gI ad N) (c0 c : gm) {n : Nat} {t : Nat} {a1 : Int32} {a2 : Int32} {rZ : Int32} {cZ : gm} (h : m_X10_worstOf n t a1 a2 c = some (rZ, cZ)) : Met l yX10_worstOf wsX10_worstOf rmX10_worstOf (va_Pc [.ref (ad t), .int a1, .int a2] (gP sa D ad cy N sz c0 c)) (va_Qi (fun (z : Int32) (_ : Unit) => z = rZ) (fun _ U => gE D ad cy N c0 cZ U) (gA ad N sz)) 0 0 (gA ad N sz) := by
  refine Met.ofW (cc := cX10_worstOf) (maxL := 4) (ret := (some .int)) (by decide) rfl ?_
  intro p e s m args below meth cod s₁ B hml hv
  obtain ⟨rfl, hsz, hP, hK, hZ⟩ := hv
  have hx := B.exec
  have hb := B.bytes
  have hr := B.returns
  have hts := atoms_spec (ws := wsX10_worstOf) B.pre
  have hown : s.vm.findClass RX10 = some m.cls := findClass_of_methodNamed B.named
  have hlocks := B.notSynchronized
  subst hsz
  have hl := lv_entry ([.ref (ad t), .int a1, .int a2]) (n := 4) (Nat.le_of_ble_eq_true rfl)
  rw [lg_entry_eq]
  generalize (lg_sl ([.ref (ad t), .int a1, .int a2]) ++ List.replicate (4 - (lg_sl ([.ref (ad t), .int a1, .int a2])).length) Slot.unset).toArray = ls at hl ⊢
  have hl : lv_has ls 4 [(0, .ref (ad t)), (1, .int a1), (2, .int a2)] := hl
  have in10 : ∀ w ∈ wsX100, w ∈ wsX10_worstOf := by decide +kernel
  generalize hargs : ([.ref (ad t), .int a1, .int a2] : List Value).toArray = args at *
  generalize hAe : gA ad N s.heap.size = A
  have F : gF sa D ad cy N A p s m args cod cX10_worstOf 4 wsX10_worstOf RX10 := ⟨hx, hb, hml, hown, hts, hK, hI, by rw [← hAe]; exact gA_ad, by rw [← hAe]; exact gA_sz, by rw [← hAe]; exact hZ⟩
  have G : gW D ad cy N A s.heap c0 c s.heap [] := ⟨hP, va_S.rf⟩
  generalize hQ : MQ below (va_Qi (fun (z : Int32) (_ : Unit) => z = rZ) (fun _ U => gE D ad cy N c0 cZ U) A) args s 0 0 A = Q
  suffices hgen : ∀ (H : Heap) (locs : List Loc), gW D ad cy N A s.heap c0 c H locs → W p l e rmX10_worstOf s m args below meth cod H locs 0 0 Q (F0 m 0 ls []) from hgen _ _ G
  clear G
  intro H locs G
  unfold m_X10_worstOf at h
  refine lv_iconst (v := 0) hx hb dX10_worstOf_0 (by decide) ?_
  refine lv_istore_n (lv' := [(3, .int 0), (0, .ref (ad t)), (1, .int a1), (2, .int a2)]) hx hb dX10_worstOf_1 rfl hl (by decide) rfl (fun ls hl => ?_)
  obtain ⟨b1, hb1, hK1⟩ := gb_s h
  have E1 : ∀ (c4 : gm) (H : Heap) (locs : List Loc) (ls : Array Slot), (c4 : gm) = b1 → gW D ad cy N A s.heap c0 c4 H locs → lv_has ls 4 [(0, .ref (ad t)), (1, .int a1), (2, .int a2)] → W p l e rmX10_worstOf s m args below meth cod H locs 0 0 Q (F0 m 20 ls []) := by
    intro c4 H locs ls hq1 G hl
    subst hq1
    replace hK1 := hK1
    have h := hK1
    refine lv_iconst (v := 0) hx hb dX10_worstOf_20 (by decide) ?_
    refine lv_istore_n (lv' := [(3, .int 0), (0, .ref (ad t)), (1, .int a1), (2, .int a2)]) hx hb dX10_worstOf_21 rfl hl (by decide) rfl (fun ls hl => ?_)
    obtain ⟨b5, hb5, hK5⟩ := gb_s h
    have E5 : ∀ (c8 : gm) (H : Heap) (locs : List Loc) (ls : Array Slot), (c8 : gm) = b5 → gW D ad cy N A s.heap c0 c8 H locs → lv_has ls 4 [(0, .ref (ad t))] → W p l e rmX10_worstOf s m args below meth cod H locs 0 0 Q (F0 m 86 ls []) := by
      intro c8 H locs ls hq5 G hl
      subst hq5
      replace hK5 := hK5
      have h := hK5
      refine lv_aload_n hx hb dX10_worstOf_86 rfl (lv_at hl 0 rfl) ?_
      obtain ⟨hk9, h⟩ := gc_s h
      have ht10 : t < N := Nat.lt_of_lt_of_le (gck_lt10 hk9) hN
      refine fg_10_seen F G hk9 ht10 in10 (by decide +kernel) dX10_worstOf_87 ?_
      have hk11 : gck 529 = 22 := rfl
      have ht12 : 529 < N := Nat.lt_of_lt_of_le (by decide) hN
      have hn13 : gal 529 = 3 := rfl
      refine lv_iconst (v := 0) hx hb dX10_worstOf_90 (by decide) ?_
      refine gx_mia F G hk11 ht12 hn13 (by decide) dX10_worstOf_91 ?_
      refine lv_aload_n hx hb dX10_worstOf_92 rfl (lv_at hl 0 rfl) ?_
      refine fg_10_seen F G hk9 ht10 in10 (by decide +kernel) dX10_worstOf_93 ?_
      refine lv_iconst (v := 1) hx hb dX10_worstOf_96 (by decide) ?_
      refine gx_mia F G hk11 ht12 hn13 (by decide) dX10_worstOf_97 ?_
      refine lv_aload_n hx hb dX10_worstOf_98 rfl (lv_at hl 0 rfl) ?_
      refine fg_10_seen F G hk9 ht10 in10 (by decide +kernel) dX10_worstOf_99 ?_
      refine lv_iconst (v := 2) hx hb dX10_worstOf_102 (by decide) ?_
      refine gx_mia F G hk11 ht12 hn13 (by decide) dX10_worstOf_103 ?_
      obtain ⟨r18, hc17, h⟩ := gb_s h
      refine gx_calli F G (va_runS (As := [.int (c8.1 529 (1 : Int32).toNatClampNeg), .int (c8.1 529 (2 : Int32).toNatClampNeg)]) (rest := [.int (c8.1 529 (0 : Int32).toNatClampNeg)]) (gx_fix F) (c_X10_more l sa D ad cy N H.size hN hI c0 c8 hc17) (va_cwS 2 hts gX10_worstOf_X10_more rfl rfl rfl (by decide +kernel) ⟨by decide, by decide⟩) (gx_pre F G) rfl rfl hl.1 rfl (lv_room (Nat.le_of_ble_eq_true rfl)) dX10_worstOf_104 ⟨Nat.zero_le _, Nat.zero_le _⟩) (fun H locs G => ?_)
      obtain ⟨r20, hc19, h⟩ := gb_s h
      refine gx_calli F G (va_runS (As := [.int (c8.1 529 (0 : Int32).toNatClampNeg), .int r18]) (rest := []) (gx_fix F) (c_X10_more l sa D ad cy N H.size hN hI c0 c8 hc19) (va_cwS 2 hts gX10_worstOf_X10_more rfl rfl rfl (by decide +kernel) ⟨by decide, by decide⟩) (gx_pre F G) rfl rfl hl.1 rfl (lv_room (Nat.le_of_ble_eq_true rfl)) dX10_worstOf_107 ⟨Nat.zero_le _, Nat.zero_le _⟩) (fun H locs G => ?_)
      cases h
      rw [← hQ]
      exact gx_iret F G hr hlocks dX10_worstOf_110
    have L5 : ∀ (n9 : Nat) (y6 : Int32) (c7 : gm) (H : Heap) (locs : List Loc) (ls : Array Slot), gloop (gu2 (fun (y6 : Int32) (c7 : gm) => m_X10_worstOf_L22 n t a1 a2 y6 c7)) n9 (y6, c7) = some b5 → gW D ad cy N A s.heap c0 c7 H locs → lv_has ls 4 [(0, .ref (ad t)), (1, .int a1), (2, .int a2), (3, .int y6)] → W p l e rmX10_worstOf s m args below meth cod H locs 0 0 Q (F0 m 22 ls []) := by
      intro n9
      induction n9 with
      | zero => intro y6 c7 H locs ls h; exact (gloop_0 h).elim
      | succ n9 ih =>
        intro y6 c7 H locs ls h G hl
        have ih5 := ih
        obtain ⟨o5, h, hn5⟩ := gloop_s h
        replace h := gu2_s h
        unfold m_X10_worstOf_L22 at h
        refine lv_iload_n hx hb dX10_worstOf_22 rfl (lv_at hl 3 rfl) ?_
        refine lv_sipush (v := 190) hx hb dX10_worstOf_23 (by decide) ?_
        refine lv_icmp_ge (tgt := 86) hx hb dX10_worstOf_26 (by decide) (fun q21 => ?_) (fun q21 => ?_)
        · replace h := gt_s q21 h
          cases h
          exact E5 _ _ _ _ (gnx_r hn5) G (lv_sub hl [0] rfl)
        · replace h := gf_s q21 h
          refine lv_aload_n hx hb dX10_worstOf_29 rfl (lv_at hl 0 rfl) ?_
          refine lv_iload_n hx hb dX10_worstOf_30 rfl (lv_at hl 3 rfl) ?_
          refine lv_bipush (v := 10) hx hb dX10_worstOf_31 (by decide) ?_
          refine lv_idiv hx hb dX10_worstOf_33 (by decide) ?_
          refine lv_iload_n hx hb dX10_worstOf_34 rfl (lv_at hl 3 rfl) ?_
          refine lv_bipush (v := 10) hx hb dX10_worstOf_35 (by decide) ?_
          refine lv_irem hx hb dX10_worstOf_37 (by decide) ?_
          obtain ⟨hk22, h⟩ := gc_s h
          have ht23 : t < N := Nat.lt_of_lt_of_le (gck_lt10 hk22) hN
          obtain ⟨r25, hc24, h⟩ := gb_s h
          refine gx_calli F G (va_runV (As := [.int (y6 / 10), .int (y6 - y6 / 10 * 10)]) (rest := []) (gx_fix F) (c_X10_isBeam l sa D ad cy N H.size hN hI c0 c7 hc24) (cwV 2 hts gX10_worstOf_X10_isBeam rfl rfl rfl (by decide +kernel) ⟨by decide, by decide⟩) (gx_rec F G ht23 (gwe_10 hk22) rfl) rfl rfl hl.1 rfl (lv_room (Nat.le_of_ble_eq_true rfl)) dX10_worstOf_38 ⟨Nat.zero_le _, Nat.zero_le _⟩) (fun H locs G => ?_)
          obtain ⟨K27, eK27, h⟩ := gj_s h
          have JK27 : ∀ (c26 : gm) (H : Heap) (locs : List Loc) (ls : Array Slot), K27 c26 = some o5 → gW D ad cy N A s.heap c0 c26 H locs → lv_has ls 4 [(0, .ref (ad t)), (1, .int a1), (2, .int a2), (3, .int y6)] → W p l e rmX10_worstOf s m args below meth cod H locs 0 0 Q (F0 m 80 ls []) := by
            intro c26 H locs ls h G hl
            rw [eK27] at h
            obtain ⟨x28, ex28⟩ : ∃ z : Int32, z = y6 + 1 := ⟨_, rfl⟩
            replace h := gv_s h x28 ex28
            refine lv_iinc (v := x28) (lv' := [(3, .int x28), (0, .ref (ad t)), (1, .int a1), (2, .int a2)]) hx hb dX10_worstOf_80 hl (k := 3) rfl (by rw [ex28]; rfl) (by decide) rfl (fun ls hl => ?_)
            refine lv_goto (tgt := 22) hx hb dX10_worstOf_83 (by decide) ?_
            cases h
            exact ih5 _ _ _ _ _ hn5 G (lv_sub hl [1, 2, 3, 0] rfl)
          refine lv_if_eq (tgt := 80) hx hb dX10_worstOf_41 (by decide) (fun q29 => ?_) (fun q29 => ?_)
          · replace h := gt_s q29 h
            exact JK27 _ _ _ _ h G hl
          · replace h := gf_s q29 h
            refine lv_aload_n hx hb dX10_worstOf_44 rfl (lv_at hl 0 rfl) ?_
            refine fg_10_seen F G hk22 ht23 in10 (by decide +kernel) dX10_worstOf_45 ?_
            have hk30 : gck 529 = 22 := rfl
            have ht31 : 529 < N := Nat.lt_of_lt_of_le (by decide) hN
            have hn32 : gal 529 = 3 := rfl
            refine lv_aload_n hx hb dX10_worstOf_48 rfl (lv_at hl 0 rfl) ?_
            refine fg_10_now F G hk22 ht23 in10 (by decide +kernel) dX10_worstOf_49 ?_
            have hk33 : gck 503 = 22 := rfl
            have ht34 : 503 < N := Nat.lt_of_lt_of_le (by decide) hN
            have hn35 : gal 503 = 60 := rfl
            refine lv_iconst (v := 0) hx hb dX10_worstOf_52 (by decide) ?_
            refine lv_iload_n hx hb dX10_worstOf_53 rfl (lv_at hl 1 rfl) ?_
            refine lv_iadd hx hb dX10_worstOf_54 ?_
            obtain ⟨hi36, h⟩ := gc_s h
            refine gx_mia F G hk33 ht34 hn35 hi36 dX10_worstOf_55 ?_
            refine lv_aload_n hx hb dX10_worstOf_56 rfl (lv_at hl 0 rfl) ?_
            refine fg_10_now F G hk22 ht23 in10 (by decide +kernel) dX10_worstOf_57 ?_
            refine lv_iconst (v := 0) hx hb dX10_worstOf_60 (by decide) ?_
            refine lv_iload_n hx hb dX10_worstOf_61 rfl (lv_at hl 2 rfl) ?_
            refine lv_iadd hx hb dX10_worstOf_62 ?_
            obtain ⟨hi37, h⟩ := gc_s h
            refine gx_mia F G hk33 ht34 hn35 hi37 dX10_worstOf_63 ?_
            refine lv_iload_n hx hb dX10_worstOf_64 rfl (lv_at hl 3 rfl) ?_
            refine lv_bipush (v := 10) hx hb dX10_worstOf_65 (by decide) ?_
            refine lv_idiv hx hb dX10_worstOf_67 (by decide) ?_
            refine lv_iload_n hx hb dX10_worstOf_68 rfl (lv_at hl 3 rfl) ?_
            refine lv_bipush (v := 10) hx hb dX10_worstOf_69 (by decide) ?_
            refine lv_irem hx hb dX10_worstOf_71 (by decide) ?_
            obtain ⟨r39, hc38, h⟩ := gb_s h
            refine gx_calli F G (va_runS (As := [.int (c7.1 503 (0 + a1).toNatClampNeg), .int (c7.1 503 (0 + a2).toNatClampNeg), .int (y6 / 10), .int (y6 - y6 / 10 * 10)]) (rest := [.ref (ad 529)]) (gx_fix F) (c_X10_standsBy l sa D ad cy N H.size hN hI c0 c7 hc38) (va_cwS 4 hts gX10_worstOf_X10_standsBy rfl rfl rfl (by decide +kernel) ⟨by decide, by decide⟩) (gx_pre F G) rfl rfl hl.1 rfl (lv_room (Nat.le_of_ble_eq_true rfl)) dX10_worstOf_72 ⟨Nat.zero_le _, Nat.zero_le _⟩) (fun H locs G => ?_)
            refine lv_dup2_11 hx hb dX10_worstOf_75 rfl rfl ?_
            obtain ⟨hi40, h⟩ := gc_s h
            refine gx_mia F G hk30 ht31 hn32 hi40 dX10_worstOf_76 ?_
            refine lv_iconst (v := 1) hx hb dX10_worstOf_77 (by decide) ?_
            refine lv_iadd hx hb dX10_worstOf_78 ?_
            obtain ⟨hi41, h⟩ := gc_s h
            refine gx_mis F G hk30 ht31 hn32 hi41 dX10_worstOf_79 (fun H locs G => ?_)
            obtain ⟨c42, ec42⟩ : ∃ z, z = gm_r c7 529 (upd (c7.1 529) r39.toNatClampNeg ((c7.1 529 r39.toNatClampNeg) + 1)) := ⟨_, rfl⟩
            rw [← ec42] at G
            replace h := gv_s h c42 ec42
            exact JK27 _ _ _ _ h G hl
    exact L5 n _ _ _ _ _ hb5 G (lv_sub hl [1, 2, 3, 0] rfl)
  have L1 : ∀ (n9 : Nat) (y2 : Int32) (c3 : gm) (H : Heap) (locs : List Loc) (ls : Array Slot), gloop (gu2 (fun (y2 : Int32) (c3 : gm) => m_X10_worstOf_L2 t y2 c3)) n9 (y2, c3) = some b1 → gW D ad cy N A s.heap c0 c3 H locs → lv_has ls 4 [(0, .ref (ad t)), (1, .int a1), (2, .int a2), (3, .int y2)] → W p l e rmX10_worstOf s m args below meth cod H locs 0 0 Q (F0 m 2 ls []) := by
    intro n9
    induction n9 with
    | zero => intro y2 c3 H locs ls h; exact (gloop_0 h).elim
    | succ n9 ih =>
      intro y2 c3 H locs ls h G hl
      have ih1 := ih
      obtain ⟨o1, h, hn1⟩ := gloop_s h
      replace h := gu2_s h
      unfold m_X10_worstOf_L2 at h
      refine lv_iload_n hx hb dX10_worstOf_2 rfl (lv_at hl 3 rfl) ?_
      refine lv_iconst (v := 3) hx hb dX10_worstOf_3 (by decide) ?_
      refine lv_icmp_ge (tgt := 20) hx hb dX10_worstOf_4 (by decide) (fun q43 => ?_) (fun q43 => ?_)
      · replace h := gt_s q43 h
        cases h
        exact E1 _ _ _ _ (gnx_r hn1) G (lv_sub hl [0, 1, 2] rfl)
      · replace h := gf_s q43 h
        refine lv_aload_n hx hb dX10_worstOf_7 rfl (lv_at hl 0 rfl) ?_
        obtain ⟨hk44, h⟩ := gc_s h
        have ht45 : t < N := Nat.lt_of_lt_of_le (gck_lt10 hk44) hN
        refine fg_10_seen F G hk44 ht45 in10 (by decide +kernel) dX10_worstOf_8 ?_
        have hk46 : gck 529 = 22 := rfl
        have ht47 : 529 < N := Nat.lt_of_lt_of_le (by decide) hN
        have hn48 : gal 529 = 3 := rfl
        refine lv_iload_n hx hb dX10_worstOf_11 rfl (lv_at hl 3 rfl) ?_
        refine lv_iconst (v := 0) hx hb dX10_worstOf_12 (by decide) ?_
        obtain ⟨hi49, h⟩ := gc_s h
        refine gx_mis F G hk46 ht47 hn48 hi49 dX10_worstOf_13 (fun H locs G => ?_)
        obtain ⟨c50, ec50⟩ : ∃ z, z = gm_r c3 529 (upd (c3.1 529) y2.toNatClampNeg 0) := ⟨_, rfl⟩
        rw [← ec50] at G
        replace h := gv_s h c50 ec50
        obtain ⟨x51, ex51⟩ : ∃ z : Int32, z = y2 + 1 := ⟨_, rfl⟩
        replace h := gv_s h x51 ex51
        refine lv_iinc (v := x51) (lv' := [(3, .int x51), (0, .ref (ad t)), (1, .int a1), (2, .int a2)]) hx hb dX10_worstOf_14 hl (k := 3) rfl (by rw [ex51]; rfl) (by decide) rfl (fun ls hl => ?_)
        refine lv_goto (tgt := 2) hx hb dX10_worstOf_17 (by decide) ?_
        cases h
        exact ih1 _ _ _ _ _ hn1 G (lv_sub hl [1, 2, 3, 0] rfl)
  exact L1 n _ _ _ _ _ hb1 G (lv_sub hl [1, 2, 3, 0] rfl)
def m_X10_look_L54 (n : Nat) (t : Nat) (y15 : Int32) (y28 : Int32) (y29 : Int32) (y30 : Int32) (c31 : gm) : Option ((Int32 × Int32 × Int32 × gm) ⊕ (Int32 × Int32 × gm)) :=
  (if (c31.1 59 (0 : Int32).toNatClampNeg) ≤ y30 then some (.inr (y28, y29, c31)) else gb2 (m_X10_worstOf n t y15 y30 c31) (fun (r39 : Int32) (c40 : gm) => gj (gu2 (fun (v41 : Int32) (v42 : Int32) => gv (y30 + 1) (fun (x44 : Int32) => some (.inl (v41, v42, x44, c40))))) (fun K43 => gj (fun (_ : Unit) => gv ((10 * y15) + y30) (fun (x46 : Int32) => K43 (x46, r39))) (fun K45 => (if y28 = (-1) then K45 () else (if r39 < y29 then K45 () else K43 (y28, y29)))))))
def m_X10_look_L37 (n : Nat) (t : Nat) (y13 : Int32) (y14 : Int32) (y15 : Int32) (c16 : gm) : Option ((Int32 × Int32 × Int32 × gm) ⊕ (Int32 × Int32 × gm)) :=
  (if (c16.1 59 (0 : Int32).toNatClampNeg) ≤ y15 then some (.inr (y13, y14, c16)) else gv (y15 + 1) (fun (x26 : Int32) => gb (gloop (gu2 (fun (y28 : Int32) => gu2 (fun (y29 : Int32) => gu2 (fun (y30 : Int32) (c31 : gm) => m_X10_look_L54 n t y15 y28 y29 y30 c31)))) n (y13, y14, x26, c16)) (gu2 (fun (z32 : Int32) => gu2 (fun (z33 : Int32) (c34 : gm) => gv (y15 + 1) (fun (x35 : Int32) => some (.inl (z32, z33, x35, c34))))))))
def m_X10_look (n : Nat) (t : Nat) (a1 : Int32) (c : gm) : Option (Int32 × gm) :=
  gc (gck t = 10) (gv (gm_r c t (upd (c.1 t) 0 0)) (fun (c3 : gm) => gb (m_X10_in a1 0 1) (fun (r5 : Int32) => gj (fun (v6 : Int32) => gb2 (m_X10_bad t v6 1 1 c3) (fun (r9 : Int32) (c10 : gm) => (if r9 = 0 then gb (gloop (gu2 (fun (y13 : Int32) => gu2 (fun (y14 : Int32) => gu2 (fun (y15 : Int32) (c16 : gm) => m_X10_look_L37 n t y13 y14 y15 c16)))) n ((-1), (-1), 0, c10)) (gu2 (fun (z17 : Int32) => gu2 (fun (z18 : Int32) (c19 : gm) => (if a1 = 0 then some (z17, c19) else some (z18, c19))))) else some (0, c10)))) (fun K7 => (if r5 = 0 then K7 1 else K7 0)))))
abbrev rmX10_look : Room := { frames := 3, cells := 0, slots := 0, locals := 70 }
set_option maxHeartbeats 4000000 in
set_option maxRecDepth 100000 in
theorem c_X10_look (l : Launch) (sa : gSa) (D : va_G) (ad : Nat → Nat) (cy : Nat → ClassId) (N sz : Nat) (hN : 530 ≤ N) (hI : gI ad N) (c0 c : gm) {n : Nat} {t : Nat} {a1 : Int32} {rZ : Int32} {cZ : gm} (h : m_X10_look n t a1 c = some (rZ, cZ)) : Met l yX10_look wsX10_look rmX10_look (va_Pc [.ref (ad t), .int a1] (gP sa D ad cy N sz c0 c)) (va_Qi (fun (z : Int32) (_ : Unit) => z = rZ) (fun _ U => gE D ad cy N c0 cZ U) (gA ad N sz)) 0 0 (gA ad N sz) := by
  refine Met.ofW (cc := cX10_look) (maxL := 7) (ret := (some .int)) (by decide) rfl ?_
  intro p e s m args below meth cod s₁ B hml hv
  obtain ⟨rfl, hsz, hP, hK, hZ⟩ := hv
  have hx := B.exec
  have hb := B.bytes
  have hr := B.returns
  have hts := atoms_spec (ws := wsX10_look) B.pre
  have hown : s.vm.findClass RX10 = some m.cls := findClass_of_methodNamed B.named
  have hlocks := B.notSynchronized
  subst hsz
  have hl := lv_entry ([.ref (ad t), .int a1]) (n := 7) (Nat.le_of_ble_eq_true rfl)
  rw [lg_entry_eq]
  generalize (lg_sl ([.ref (ad t), .int a1]) ++ List.replicate (7 - (lg_sl ([.ref (ad t), .int a1])).length) Slot.unset).toArray = ls at hl ⊢
  have hl : lv_has ls 7 [(0, .ref (ad t)), (1, .int a1)] := hl
  have in10 : ∀ w ∈ wsX100, w ∈ wsX10_look := by decide +kernel
  generalize hargs : ([.ref (ad t), .int a1] : List Value).toArray = args at *
  generalize hAe : gA ad N s.heap.size = A
  have F : gF sa D ad cy N A p s m args cod cX10_look 7 wsX10_look RX10 := ⟨hx, hb, hml, hown, hts, hK, hI, by rw [← hAe]; exact gA_ad, by rw [← hAe]; exact gA_sz, by rw [← hAe]; exact hZ⟩
  have G : gW D ad cy N A s.heap c0 c s.heap [] := ⟨hP, va_S.rf⟩
  generalize hQ : MQ below (va_Qi (fun (z : Int32) (_ : Unit) => z = rZ) (fun _ U => gE D ad cy N c0 cZ U) A) args s 0 0 A = Q
  suffices hgen : ∀ (H : Heap) (locs : List Loc), gW D ad cy N A s.heap c0 c H locs → W p l e rmX10_look s m args below meth cod H locs 0 0 Q (F0 m 0 ls []) from hgen _ _ G
  clear G
  intro H locs G
  unfold m_X10_look at h
  refine lv_aload_n hx hb dX10_look_0 rfl (lv_at hl 0 rfl) ?_
  refine lv_iconst (v := 0) hx hb dX10_look_1 (by decide) ?_
  obtain ⟨hk1, h⟩ := gc_s h
  have ht2 : t < N := Nat.lt_of_lt_of_le (gck_lt10 hk1) hN
  refine fp_10_thrown F G hk1 ht2 in10 (by decide +kernel) dX10_look_2 (fun H locs G => ?_)
  obtain ⟨c3, ec3⟩ : ∃ z, z = gm_r c t (upd (c.1 t) 0 0) := ⟨_, rfl⟩
  rw [← ec3] at G
  replace h := gv_s h c3 ec3
  refine lv_aload_n hx hb dX10_look_5 rfl (lv_at hl 0 rfl) ?_
  refine lv_iload_n hx hb dX10_look_6 rfl (lv_at hl 1 rfl) ?_
  refine lv_iconst (v := 0) hx hb dX10_look_7 (by decide) ?_
  refine lv_iconst (v := 1) hx hb dX10_look_8 (by decide) ?_
  obtain ⟨r5, hc4, h⟩ := gb_s h
  refine gx_calli F G (va_runS (As := [.int a1, .int 0, .int 1]) (rest := [.ref (ad t)]) (gx_fix F) (c_X10_in l sa D ad cy N H.size hN hI c0 c3 hc4) (va_cwS 3 hts gX10_look_X10_in rfl rfl rfl (by decide +kernel) ⟨by decide, by decide⟩) (gx_pre F G) rfl rfl hl.1 rfl (lv_room (Nat.le_of_ble_eq_true rfl)) dX10_look_9 ⟨Nat.zero_le _, Nat.zero_le _⟩) (fun H locs G => ?_)
  obtain ⟨K7, eK7, h⟩ := gj_s h
  have JK7 : ∀ (v6 : Int32) (H : Heap) (locs : List Loc) (ls : Array Slot), K7 v6 = some (rZ, cZ) → gW D ad cy N A s.heap c0 c3 H locs → lv_has ls 7 [(0, .ref (ad t)), (1, .int a1)] → W p l e rmX10_look s m args below meth cod H locs 0 0 Q (F0 m 20 ls [.int v6, .ref (ad t)]) := by
    intro v6 H locs ls h G hl
    rw [eK7] at h
    refine lv_iconst (v := 1) hx hb dX10_look_20 (by decide) ?_
    refine lv_iconst (v := 1) hx hb dX10_look_21 (by decide) ?_
    obtain ⟨r9, c10, hc8, h⟩ := gb2_s h
    refine gx_calli F G (va_runV (As := [.int v6, .int 1, .int 1]) (rest := []) (gx_fix F) (c_X10_bad l sa D ad cy N H.size hN hI c0 c3 hc8) (cwV 3 hts gX10_look_X10_bad rfl rfl rfl (by decide +kernel) ⟨by decide, by decide⟩) (gx_rec F G ht2 (gwe_10 hk1) rfl) rfl rfl hl.1 rfl (lv_room (Nat.le_of_ble_eq_true rfl)) dX10_look_22 ⟨Nat.zero_le _, Nat.zero_le _⟩) (fun H locs G => ?_)
    refine lv_if_eq (tgt := 30) hx hb dX10_look_25 (by decide) (fun q11 => ?_) (fun q11 => ?_)
    · replace h := gt_s q11 h
      refine lv_iconst (v := (-1)) hx hb dX10_look_30 (by decide) ?_
      refine lv_istore_n (lv' := [(2, .int (-1)), (0, .ref (ad t)), (1, .int a1)]) hx hb dX10_look_31 rfl hl (by decide) rfl (fun ls hl => ?_)
      refine lv_iconst (v := (-1)) hx hb dX10_look_32 (by decide) ?_
      refine lv_istore_n (lv' := [(3, .int (-1)), (2, .int (-1)), (0, .ref (ad t)), (1, .int a1)]) hx hb dX10_look_33 rfl hl (by decide) rfl (fun ls hl => ?_)
      refine lv_iconst (v := 0) hx hb dX10_look_34 (by decide) ?_
      refine lv_istore (lv' := [(4, .int 0), (3, .int (-1)), (2, .int (-1)), (0, .ref (ad t)), (1, .int a1)]) hx hb dX10_look_35 hl (by decide) rfl (fun ls hl => ?_)
      obtain ⟨b12, hb12, hK12⟩ := gb_s h
      have E12 : ∀ (z17 : Int32) (z18 : Int32) (c19 : gm) (H : Heap) (locs : List Loc) (ls : Array Slot), ((z17, z18, c19) : Int32 × Int32 × gm) = b12 → gW D ad cy N A s.heap c0 c19 H locs → lv_has ls 7 [(1, .int a1), (2, .int z17), (3, .int z18)] → W p l e rmX10_look s m args below meth cod H locs 0 0 Q (F0 m 113 ls []) := by
        intro z17 z18 c19 H locs ls hq12 G hl
        subst hq12
        replace hK12 := hK12
        replace hK12 := gu2_s hK12
        replace hK12 := gu2_s hK12
        have h := hK12
        refine lv_iload_n hx hb dX10_look_113 rfl (lv_at hl 0 rfl) ?_
        refine lv_if_ne (tgt := 121) hx hb dX10_look_114 (by decide) (fun q20 => ?_) (fun q20 => ?_)
        · replace h := gf_s q20 h
          refine lv_iload_n hx hb dX10_look_121 rfl (lv_at hl 2 rfl) ?_
          cases h
          rw [← hQ]
          exact gx_iret F G hr hlocks dX10_look_122
        · replace h := gt_s q20 h
          refine lv_iload_n hx hb dX10_look_117 rfl (lv_at hl 1 rfl) ?_
          refine lv_goto (tgt := 122) hx hb dX10_look_118 (by decide) ?_
          cases h
          rw [← hQ]
          exact gx_iret F G hr hlocks dX10_look_122
      have L12 : ∀ (n9 : Nat) (y13 : Int32) (y14 : Int32) (y15 : Int32) (c16 : gm) (H : Heap) (locs : List Loc) (ls : Array Slot), gloop (gu2 (fun (y13 : Int32) => gu2 (fun (y14 : Int32) => gu2 (fun (y15 : Int32) (c16 : gm) => m_X10_look_L37 n t y13 y14 y15 c16)))) n9 (y13, y14, y15, c16) = some b12 → gW D ad cy N A s.heap c0 c16 H locs → lv_has ls 7 [(0, .ref (ad t)), (1, .int a1), (2, .int y13), (3, .int y14), (4, .int y15)] → W p l e rmX10_look s m args below meth cod H locs 0 0 Q (F0 m 37 ls []) := by
        intro n9
        induction n9 with
        | zero => intro y13 y14 y15 c16 H locs ls h; exact (gloop_0 h).elim
        | succ n9 ih =>
          intro y13 y14 y15 c16 H locs ls h G hl
          have ih12 := ih
          obtain ⟨o12, h, hn12⟩ := gloop_s h
          replace h := gu2_s h
          replace h := gu2_s h
          replace h := gu2_s h
          unfold m_X10_look_L37 at h
          refine lv_iload hx hb dX10_look_37 (lv_at hl 4 rfl) ?_
          refine lv_aload_n hx hb dX10_look_39 rfl (lv_at hl 0 rfl) ?_
          refine fg_10_told F G hk1 ht2 in10 (by decide +kernel) dX10_look_40 ?_
          have hk21 : gck 59 = 22 := rfl
          have ht22 : 59 < N := Nat.lt_of_lt_of_le (by decide) hN
          have hn23 : gal 59 = 4 := rfl
          refine lv_iconst (v := 0) hx hb dX10_look_43 (by decide) ?_
          refine gx_mia F G hk21 ht22 hn23 (by decide) dX10_look_44 ?_
          refine lv_icmp_ge (tgt := 113) hx hb dX10_look_45 (by decide) (fun q25 => ?_) (fun q25 => ?_)
          · replace h := gt_s q25 h
            cases h
            exact E12 _ _ _ _ _ _ (gnx_r hn12) G (lv_sub hl [1, 2, 3] rfl)
          · replace h := gf_s q25 h
            refine lv_iload hx hb dX10_look_48 (lv_at hl 4 rfl) ?_
            refine lv_iconst (v := 1) hx hb dX10_look_50 (by decide) ?_
            refine lv_iadd hx hb dX10_look_51 ?_
            refine lv_topi (fun x26 ex26 => ?_)
            replace h := gv_s h x26 ex26
            refine lv_istore (lv' := [(5, .int x26), (0, .ref (ad t)), (1, .int a1), (2, .int y13), (3, .int y14), (4, .int y15)]) hx hb dX10_look_52 hl (by decide) rfl (fun ls hl => ?_)
            obtain ⟨b27, hb27, hK27⟩ := gb_s h
            have E27 : ∀ (z32 : Int32) (z33 : Int32) (c34 : gm) (H : Heap) (locs : List Loc) (ls : Array Slot), ((z32, z33, c34) : Int32 × Int32 × gm) = b27 → gW D ad cy N A s.heap c0 c34 H locs → lv_has ls 7 [(0, .ref (ad t)), (1, .int a1), (2, .int z32), (3, .int z33), (4, .int y15)] → W p l e rmX10_look s m args below meth cod H locs 0 0 Q (F0 m 107 ls []) := by
              intro z32 z33 c34 H locs ls hq27 G hl
              subst hq27
              replace hK27 := hK27
              replace hK27 := gu2_s hK27
              replace hK27 := gu2_s hK27
              have h := hK27
              obtain ⟨x35, ex35⟩ : ∃ z : Int32, z = y15 + 1 := ⟨_, rfl⟩
              replace h := gv_s h x35 ex35
              refine lv_iinc (v := x35) (lv' := [(4, .int x35), (0, .ref (ad t)), (1, .int a1), (2, .int z32), (3, .int z33)]) hx hb dX10_look_107 hl (k := 4) rfl (by rw [ex35]; rfl) (by decide) rfl (fun ls hl => ?_)
              refine lv_goto (tgt := 37) hx hb dX10_look_110 (by decide) ?_
              cases h
              exact ih12 _ _ _ _ _ _ _ hn12 G (lv_sub hl [1, 2, 3, 4, 0] rfl)
            have L27 : ∀ (n9 : Nat) (y28 : Int32) (y29 : Int32) (y30 : Int32) (c31 : gm) (H : Heap) (locs : List Loc) (ls : Array Slot), gloop (gu2 (fun (y28 : Int32) => gu2 (fun (y29 : Int32) => gu2 (fun (y30 : Int32) (c31 : gm) => m_X10_look_L54 n t y15 y28 y29 y30 c31)))) n9 (y28, y29, y30, c31) = some b27 → gW D ad cy N A s.heap c0 c31 H locs → lv_has ls 7 [(0, .ref (ad t)), (1, .int a1), (2, .int y28), (3, .int y29), (4, .int y15), (5, .int y30)] → W p l e rmX10_look s m args below meth cod H locs 0 0 Q (F0 m 54 ls []) := by
              intro n9
              induction n9 with
              | zero => intro y28 y29 y30 c31 H locs ls h; exact (gloop_0 h).elim
              | succ n9 ih =>
                intro y28 y29 y30 c31 H locs ls h G hl
                have ih27 := ih
                obtain ⟨o27, h, hn27⟩ := gloop_s h
                replace h := gu2_s h
                replace h := gu2_s h
                replace h := gu2_s h
                unfold m_X10_look_L54 at h
                refine lv_iload hx hb dX10_look_54 (lv_at hl 5 rfl) ?_
                refine lv_aload_n hx hb dX10_look_56 rfl (lv_at hl 0 rfl) ?_
                refine fg_10_told F G hk1 ht2 in10 (by decide +kernel) dX10_look_57 ?_
                refine lv_iconst (v := 0) hx hb dX10_look_60 (by decide) ?_
                refine gx_mia F G hk21 ht22 hn23 (by decide) dX10_look_61 ?_
                refine lv_icmp_ge (tgt := 107) hx hb dX10_look_62 (by decide) (fun q37 => ?_) (fun q37 => ?_)
                · replace h := gt_s q37 h
                  cases h
                  exact E27 _ _ _ _ _ _ (gnx_r hn27) G (lv_sub hl [0, 1, 2, 3, 4] rfl)
                · replace h := gf_s q37 h
                  refine lv_aload_n hx hb dX10_look_65 rfl (lv_at hl 0 rfl) ?_
                  refine lv_iload hx hb dX10_look_66 (lv_at hl 4 rfl) ?_
                  refine lv_iload hx hb dX10_look_68 (lv_at hl 5 rfl) ?_
                  obtain ⟨r39, c40, hc38, h⟩ := gb2_s h
                  refine gx_calli F G (va_runV (As := [.int y15, .int y30]) (rest := []) (gx_fix F) (c_X10_worstOf l sa D ad cy N H.size hN hI c0 c31 hc38) (cwV 2 hts gX10_look_X10_worstOf rfl rfl rfl (by decide +kernel) ⟨by decide, by decide⟩) (gx_rec F G ht2 (gwe_10 hk1) rfl) rfl rfl hl.1 rfl (lv_room (Nat.le_of_ble_eq_true rfl)) dX10_look_70 ⟨Nat.zero_le _, Nat.zero_le _⟩) (fun H locs G => ?_)
                  refine lv_istore (lv' := [(6, .int r39), (0, .ref (ad t)), (1, .int a1), (2, .int y28), (3, .int y29), (4, .int y15), (5, .int y30)]) hx hb dX10_look_73 hl (by decide) rfl (fun ls hl => ?_)
                  refine lv_iload_n hx hb dX10_look_75 rfl (lv_at hl 3 rfl) ?_
                  refine lv_iconst (v := (-1)) hx hb dX10_look_76 (by decide) ?_
                  obtain ⟨K43, eK43, h⟩ := gj_s h
                  have JK43 : ∀ (v41 : Int32) (v42 : Int32) (H : Heap) (locs : List Loc) (ls : Array Slot), K43 (v41, v42) = some o27 → gW D ad cy N A s.heap c0 c40 H locs → lv_has ls 7 [(0, .ref (ad t)), (1, .int a1), (2, .int v41), (3, .int v42), (4, .int y15), (5, .int y30)] → W p l e rmX10_look s m args below meth cod H locs 0 0 Q (F0 m 101 ls []) := by
                    intro v41 v42 H locs ls h G hl
                    rw [eK43] at h
                    replace h := gu2_s h
                    obtain ⟨x44, ex44⟩ : ∃ z : Int32, z = y30 + 1 := ⟨_, rfl⟩
                    replace h := gv_s h x44 ex44
                    refine lv_iinc (v := x44) (lv' := [(5, .int x44), (0, .ref (ad t)), (1, .int a1), (2, .int v41), (3, .int v42), (4, .int y15)]) hx hb dX10_look_101 hl (k := 5) rfl (by rw [ex44]; rfl) (by decide) rfl (fun ls hl => ?_)
                    refine lv_goto (tgt := 54) hx hb dX10_look_104 (by decide) ?_
                    cases h
                    exact ih27 _ _ _ _ _ _ _ hn27 G (lv_sub hl [1, 2, 3, 4, 5, 0] rfl)
                  obtain ⟨K45, eK45, h⟩ := gj_s h
                  have JK45 : ∀ (H : Heap) (locs : List Loc) (ls : Array Slot), K45 () = some o27 → gW D ad cy N A s.heap c0 c40 H locs → lv_has ls 7 [(0, .ref (ad t)), (1, .int a1), (4, .int y15), (5, .int y30), (6, .int r39)] → W p l e rmX10_look s m args below meth cod H locs 0 0 Q (F0 m 89 ls []) := by
                    intro  H locs ls h G hl
                    rw [eK45] at h
                    refine lv_bipush (v := 10) hx hb dX10_look_89 (by decide) ?_
                    refine lv_iload hx hb dX10_look_91 (lv_at hl 2 rfl) ?_
                    refine lv_imul hx hb dX10_look_93 ?_
                    refine lv_iload hx hb dX10_look_94 (lv_at hl 3 rfl) ?_
                    refine lv_iadd hx hb dX10_look_96 ?_
                    refine lv_topi (fun x46 ex46 => ?_)
                    replace h := gv_s h x46 ex46
                    refine lv_istore_n (lv' := [(2, .int x46), (0, .ref (ad t)), (1, .int a1), (4, .int y15), (5, .int y30), (6, .int r39)]) hx hb dX10_look_97 rfl hl (by decide) rfl (fun ls hl => ?_)
                    refine lv_iload hx hb dX10_look_98 (lv_at hl 5 rfl) ?_
                    refine lv_istore_n (lv' := [(3, .int r39), (2, .int x46), (0, .ref (ad t)), (1, .int a1), (4, .int y15), (5, .int y30), (6, .int r39)]) hx hb dX10_look_100 rfl hl (by decide) rfl (fun ls hl => ?_)
                    exact JK43 _ _ _ _ _ h G (lv_sub hl [2, 3, 1, 0, 4, 5] rfl)
                  refine lv_icmp_eq (tgt := 89) hx hb dX10_look_77 (by decide) (fun q47 => ?_) (fun q47 => ?_)
                  · replace h := gt_s q47 h
                    exact JK45  _ _ _ h G (lv_sub hl [1, 2, 5, 6, 0] rfl)
                  · replace h := gf_s q47 h
                    refine lv_iload hx hb dX10_look_80 (lv_at hl 0 rfl) ?_
                    refine lv_iload_n hx hb dX10_look_82 rfl (lv_at hl 4 rfl) ?_
                    refine lv_icmp_lt (tgt := 89) hx hb dX10_look_83 (by decide) (fun q48 => ?_) (fun q48 => ?_)
                    · replace h := gt_s q48 h
                      exact JK45  _ _ _ h G (lv_sub hl [1, 2, 5, 6, 0] rfl)
                    · replace h := gf_s q48 h
                      refine lv_goto (tgt := 101) hx hb dX10_look_86 (by decide) ?_
                      exact JK43 _ _ _ _ _ h G (lv_sub hl [1, 2, 3, 4, 5, 6] rfl)
            exact L27 n _ _ _ _ _ _ _ hb27 G (lv_sub hl [1, 2, 3, 4, 5, 0] rfl)
      exact L12 n _ _ _ _ _ _ _ hb12 G (lv_sub hl [3, 4, 2, 1, 0] rfl)
    · replace h := gf_s q11 h
      refine lv_iconst (v := 0) hx hb dX10_look_28 (by decide) ?_
      cases h
      rw [← hQ]
      exact gx_iret F G hr hlocks dX10_look_29
  refine lv_if_ne (tgt := 19) hx hb dX10_look_12 (by decide) (fun q49 => ?_) (fun q49 => ?_)
  · replace h := gf_s q49 h
    refine lv_iconst (v := 0) hx hb dX10_look_19 (by decide) ?_
    exact JK7 _ _ _ _ h G hl
  · replace h := gt_s q49 h
    refine lv_iconst (v := 1) hx hb dX10_look_15 (by decide) ?_
    refine lv_goto (tgt := 20) hx hb dX10_look_16 (by decide) ?_
    exact JK7 _ _ _ _ h G hl
