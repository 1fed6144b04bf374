-- X10_falsely X10_hasBy X10_isBest X10_sellers X10_even X10_givenBy X10_share X10_heaviest X10_alike X10_against X10_draw X10_fairBy X10_isFair X10_fair
def m_X10_falsely_L37 (a1 : Int32) (y13 : Int32) (y14 : Int32) : Option ((Int32 × Int32) ⊕ (Int32)) :=
  (if a1 ≤ ((y14 - 3) / 2) then some (.inr y13) else gv (y13 + 1) (fun (x18 : Int32) => gv (y14 * 3) (fun (x19 : Int32) => some (.inl (x18, x19)))))
def m_X10_falsely (n : Nat) (t : Nat) (a1 : Int32) (c : gm) : Option (Int32 × gm) :=
  gc (gck t = 10) (gv (gm_r c t (upd (c.1 t) 0 0)) (fun (c3 : gm) => gb (m_X10_in a1 1 9999) (fun (r5 : Int32) => gj (fun (v6 : Int32) => gb2 (m_X10_bad t v6 1 1 c3) (fun (r9 : Int32) (c10 : gm) => (if r9 = 0 then gb (gloop (gu2 (fun (y13 : Int32) (y14 : Int32) => m_X10_falsely_L37 a1 y13 y14)) n (2, 9)) (fun (z15 : Int32) => (if 3 ≤ a1 then some (z15, c10) else some ((-1), c10))) else some (0, c10)))) (fun K7 => (if r5 = 0 then K7 1 else K7 0)))))
abbrev rmX10_falsely : Room := { frames := 1, cells := 0, slots := 0, locals := 23 }
set_option maxHeartbeats 4000000 in
set_option maxRecDepth 100000 in
theorem c_X10_falsely (l : Launch) (sa : gSa) (D : va_G) (ad : Nat → Nat) (cy : Nat → ClassId) (N sz : Nat) (hN : 530 ≤ N) (hI : gI ad N) (c0 c : gm) {n : Nat} {t : Nat} {a1 : Int32} {rZ : Int32} {cZ : gm} (h : m_X10_falsely n t a1 c = some (rZ, cZ)) : Met l yX10_falsely wsX10_falsely rmX10_falsely (va_Pc [.ref (ad t), .int a1] (gP sa D ad cy N sz c0 c)) (va_Qi (fun (z : Int32) (_ : Unit) => z = rZ) (fun _ U => gE D ad cy N c0 cZ U) (gA ad N sz)) 0 0 (gA ad N sz) := by
  refine Met.ofW (cc := cX10_falsely) (maxL := 4) (ret := (some .int)) (by decide) rfl ?_
  intro p e s m args below meth cod s₁ B hml hv
  obtain ⟨rfl, hsz, hP, hK, hZ⟩ := hv
  have hx := B.exec
  have hb := B.bytes
  have hr := B.returns
  have hts := atoms_spec (ws := wsX10_falsely) B.pre
  have hown : s.vm.findClass RX10 = some m.cls := findClass_of_methodNamed B.named
  have hlocks := B.notSynchronized
  subst hsz
  have hl := lv_entry ([.ref (ad t), .int a1]) (n := 4) (Nat.le_of_ble_eq_true rfl)
  rw [lg_entry_eq]
  generalize (lg_sl ([.ref (ad t), .int a1]) ++ List.replicate (4 - (lg_sl ([.ref (ad t), .int a1])).length) Slot.unset).toArray = ls at hl ⊢
  have hl : lv_has ls 4 [(0, .ref (ad t)), (1, .int a1)] := hl
  have in10 : ∀ w ∈ wsX100, w ∈ wsX10_falsely := by decide +kernel
  generalize hargs : ([.ref (ad t), .int a1] : List Value).toArray = args at *
  generalize hAe : gA ad N s.heap.size = A
  have F : gF sa D ad cy N A p s m args cod cX10_falsely 4 wsX10_falsely RX10 := ⟨hx, hb, hml, hown, hts, hK, hI, by rw [← hAe]; exact gA_ad, by rw [← hAe]; exact gA_sz, by rw [← hAe]; exact hZ⟩
  have G : gW D ad cy N A s.heap c0 c s.heap [] := ⟨hP, va_S.rf⟩
  generalize hQ : MQ below (va_Qi (fun (z : Int32) (_ : Unit) => z = rZ) (fun _ U => gE D ad cy N c0 cZ U) A) args s 0 0 A = Q
  suffices hgen : ∀ (H : Heap) (locs : List Loc), gW D ad cy N A s.heap c0 c H locs → W p l e rmX10_falsely s m args below meth cod H locs 0 0 Q (F0 m 0 ls []) from hgen _ _ G
  clear G
  intro H locs G
  unfold m_X10_falsely at h
  refine lv_aload_n hx hb dX10_falsely_0 rfl (lv_at hl 0 rfl) ?_
  refine lv_iconst (v := 0) hx hb dX10_falsely_1 (by decide) ?_
  obtain ⟨hk1, h⟩ := gc_s h
  have ht2 : t < N := Nat.lt_of_lt_of_le (gck_lt10 hk1) hN
  refine fp_10_thrown F G hk1 ht2 in10 (by decide +kernel) dX10_falsely_2 (fun H locs G => ?_)
  obtain ⟨c3, ec3⟩ : ∃ z, z = gm_r c t (upd (c.1 t) 0 0) := ⟨_, rfl⟩
  rw [← ec3] at G
  replace h := gv_s h c3 ec3
  refine lv_aload_n hx hb dX10_falsely_5 rfl (lv_at hl 0 rfl) ?_
  refine lv_iload_n hx hb dX10_falsely_6 rfl (lv_at hl 1 rfl) ?_
  refine lv_iconst (v := 1) hx hb dX10_falsely_7 (by decide) ?_
  refine lv_sipush (v := 9999) hx hb dX10_falsely_8 (by decide) ?_
  obtain ⟨r5, hc4, h⟩ := gb_s h
  refine gx_calli F G (va_runS (As := [.int a1, .int 1, .int 9999]) (rest := [.ref (ad t)]) (gx_fix F) (c_X10_in l sa D ad cy N H.size hN hI c0 c3 hc4) (va_cwS 3 hts gX10_falsely_X10_in rfl rfl rfl (by decide +kernel) ⟨by decide, by decide⟩) (gx_pre F G) rfl rfl hl.1 rfl (lv_room (Nat.le_of_ble_eq_true rfl)) dX10_falsely_11 ⟨Nat.zero_le _, Nat.zero_le _⟩) (fun H locs G => ?_)
  obtain ⟨K7, eK7, h⟩ := gj_s h
  have JK7 : ∀ (v6 : Int32) (H : Heap) (locs : List Loc) (ls : Array Slot), K7 v6 = some (rZ, cZ) → gW D ad cy N A s.heap c0 c3 H locs → lv_has ls 4 [(1, .int a1)] → W p l e rmX10_falsely s m args below meth cod H locs 0 0 Q (F0 m 22 ls [.int v6, .ref (ad t)]) := by
    intro v6 H locs ls h G hl
    rw [eK7] at h
    refine lv_iconst (v := 1) hx hb dX10_falsely_22 (by decide) ?_
    refine lv_iconst (v := 1) hx hb dX10_falsely_23 (by decide) ?_
    obtain ⟨r9, c10, hc8, h⟩ := gb2_s h
    refine gx_calli F G (va_runV (As := [.int v6, .int 1, .int 1]) (rest := []) (gx_fix F) (c_X10_bad l sa D ad cy N H.size hN hI c0 c3 hc8) (cwV 3 hts gX10_falsely_X10_bad rfl rfl rfl (by decide +kernel) ⟨by decide, by decide⟩) (gx_rec F G ht2 (gwe_10 hk1) rfl) rfl rfl hl.1 rfl (lv_room (Nat.le_of_ble_eq_true rfl)) dX10_falsely_24 ⟨Nat.zero_le _, Nat.zero_le _⟩) (fun H locs G => ?_)
    refine lv_if_eq (tgt := 32) hx hb dX10_falsely_27 (by decide) (fun q11 => ?_) (fun q11 => ?_)
    · replace h := gt_s q11 h
      refine lv_iconst (v := 2) hx hb dX10_falsely_32 (by decide) ?_
      refine lv_istore_n (lv' := [(2, .int 2), (1, .int a1)]) hx hb dX10_falsely_33 rfl hl (by decide) rfl (fun ls hl => ?_)
      refine lv_bipush (v := 9) hx hb dX10_falsely_34 (by decide) ?_
      refine lv_istore_n (lv' := [(3, .int 9), (2, .int 2), (1, .int a1)]) hx hb dX10_falsely_36 rfl hl (by decide) rfl (fun ls hl => ?_)
      obtain ⟨b12, hb12, hK12⟩ := gb_s h
      have E12 : ∀ (z15 : Int32) (H : Heap) (locs : List Loc) (ls : Array Slot), (z15 : Int32) = b12 → gW D ad cy N A s.heap c0 c10 H locs → lv_has ls 4 [(1, .int a1), (2, .int z15)] → W p l e rmX10_falsely s m args below meth cod H locs 0 0 Q (F0 m 56 ls []) := by
        intro z15 H locs ls hq12 G hl
        subst hq12
        replace hK12 := hK12
        have h := hK12
        refine lv_iload_n hx hb dX10_falsely_56 rfl (lv_at hl 0 rfl) ?_
        refine lv_iconst (v := 3) hx hb dX10_falsely_57 (by decide) ?_
        refine lv_icmp_ge (tgt := 65) hx hb dX10_falsely_58 (by decide) (fun q16 => ?_) (fun q16 => ?_)
        · replace h := gt_s q16 h
          refine lv_iload_n hx hb dX10_falsely_65 rfl (lv_at hl 1 rfl) ?_
          cases h
          rw [← hQ]
          exact gx_iret F G hr hlocks dX10_falsely_66
        · replace h := gf_s q16 h
          refine lv_iconst (v := (-1)) hx hb dX10_falsely_61 (by decide) ?_
          refine lv_goto (tgt := 66) hx hb dX10_falsely_62 (by decide) ?_
          cases h
          rw [← hQ]
          exact gx_iret F G hr hlocks dX10_falsely_66
      have L12 : ∀ (n9 : Nat) (y13 : Int32) (y14 : Int32) (H : Heap) (locs : List Loc) (ls : Array Slot), gloop (gu2 (fun (y13 : Int32) (y14 : Int32) => m_X10_falsely_L37 a1 y13 y14)) n9 (y13, y14) = some b12 → gW D ad cy N A s.heap c0 c10 H locs → lv_has ls 4 [(1, .int a1), (2, .int y13), (3, .int y14)] → W p l e rmX10_falsely s m args below meth cod H locs 0 0 Q (F0 m 37 ls []) := by
        intro n9
        induction n9 with
        | zero => intro y13 y14 H locs ls h; exact (gloop_0 h).elim
        | succ n9 ih =>
          intro y13 y14 H locs ls h G hl
          have ih12 := ih
          obtain ⟨o12, h, hn12⟩ := gloop_s h
          replace h := gu2_s h
          unfold m_X10_falsely_L37 at h
          refine lv_iload_n hx hb dX10_falsely_37 rfl (lv_at hl 2 rfl) ?_
          refine lv_iconst (v := 3) hx hb dX10_falsely_38 (by decide) ?_
          refine lv_isub hx hb dX10_falsely_39 ?_
          refine lv_iconst (v := 2) hx hb dX10_falsely_40 (by decide) ?_
          refine lv_idiv hx hb dX10_falsely_41 (by decide) ?_
          refine lv_iload_n hx hb dX10_falsely_42 rfl (lv_at hl 0 rfl) ?_
          refine lv_icmp_ge (tgt := 56) hx hb dX10_falsely_43 (by decide) (fun q17 => ?_) (fun q17 => ?_)
          · replace h := gt_s q17 h
            cases h
            exact E12 _ _ _ _ (gnx_r hn12) G (lv_sub hl [0, 1] rfl)
          · replace h := gf_s q17 h
            obtain ⟨x18, ex18⟩ : ∃ z : Int32, z = y13 + 1 := ⟨_, rfl⟩
            replace h := gv_s h x18 ex18
            refine lv_iinc (v := x18) (lv' := [(2, .int x18), (1, .int a1), (3, .int y14)]) hx hb dX10_falsely_46 hl (k := 1) rfl (by rw [ex18]; rfl) (by decide) rfl (fun ls hl => ?_)
            refine lv_iload_n hx hb dX10_falsely_49 rfl (lv_at hl 2 rfl) ?_
            refine lv_iconst (v := 3) hx hb dX10_falsely_50 (by decide) ?_
            refine lv_imul hx hb dX10_falsely_51 ?_
            refine lv_topi (fun x19 ex19 => ?_)
            replace h := gv_s h x19 ex19
            refine lv_istore_n (lv' := [(3, .int x19), (2, .int x18), (1, .int a1)]) hx hb dX10_falsely_52 rfl hl (by decide) rfl (fun ls hl => ?_)
            refine lv_goto (tgt := 37) hx hb dX10_falsely_53 (by decide) ?_
            cases h
            exact ih12 _ _ _ _ _ hn12 G (lv_sub hl [2, 1, 0] rfl)
      exact L12 n _ _ _ _ _ hb12 G (lv_sub hl [2, 1, 0] rfl)
    · replace h := gf_s q11 h
      refine lv_iconst (v := 0) hx hb dX10_falsely_30 (by decide) ?_
      cases h
      rw [← hQ]
      exact gx_iret F G hr hlocks dX10_falsely_31
  refine lv_if_ne (tgt := 21) hx hb dX10_falsely_14 (by decide) (fun q20 => ?_) (fun q20 => ?_)
  · replace h := gf_s q20 h
    refine lv_iconst (v := 0) hx hb dX10_falsely_21 (by decide) ?_
    exact JK7 _ _ _ _ h G (lv_sub hl [1] rfl)
  · replace h := gt_s q20 h
    refine lv_iconst (v := 1) hx hb dX10_falsely_17 (by decide) ?_
    refine lv_goto (tgt := 22) hx hb dX10_falsely_18 (by decide) ?_
    exact JK7 _ _ _ _ h G (lv_sub hl [1] rfl)
def m_X10_hasBy (a1 : Int32) (a2 : Int32) (a3 : Int32) (a4 : Int32) : Option (Int32) :=
  (if a1 = 0 then (if a2 = 0 then some a3 else some 0) else (if a2 = 0 then some a4 else some (-1)))
abbrev rmX10_hasBy : Room := { frames := 0, cells := 0, slots := 0, locals := 0 }
set_option maxHeartbeats 4000000 in
set_option maxRecDepth 100000 in
theorem c_X10_hasBy (l : Launch) (sa : gSa) (D : va_G) (ad : Nat → Nat) (cy : Nat → ClassId) (N sz : Nat) (hN : 530 ≤ N) (hI : gI ad N) (c0 c : gm) {a1 : Int32} {a2 : Int32} {a3 : Int32} {a4 : Int32} {rZ : Int32} (h : m_X10_hasBy a1 a2 a3 a4 = some rZ) : Met l yX10_hasBy wsX10_hasBy rmX10_hasBy (va_Pc [.int a1, .int a2, .int a3, .int a4] (gP sa D ad cy N sz c0 c)) (va_Qi (fun (z : Int32) (_ : Unit) => z = rZ) (fun _ U => gE D ad cy N c0 c U) (gA ad N sz)) 0 0 (gA ad N sz) := by
  refine Met.ofW (cc := cX10_hasBy) (maxL := 4) (ret := (some .int)) (by decide) rfl ?_
  intro p e s m args below meth cod s₁ B hml hv
  obtain ⟨rfl, hsz, hP, hK, hZ⟩ := hv
  have hx := B.exec
  have hb := B.bytes
  have hr := B.returns
  have hts := atoms_spec (ws := wsX10_hasBy) B.pre
  have hown : s.vm.findClass RX10 = some m.cls := findClass_of_methodNamed B.named
  have hlocks := B.notSynchronized
  subst hsz
  have hl := lv_entry ([.int a1, .int a2, .int a3, .int a4]) (n := 4) (Nat.le_of_ble_eq_true rfl)
  rw [lg_entry_eq]
  generalize (lg_sl ([.int a1, .int a2, .int a3, .int a4]) ++ List.replicate (4 - (lg_sl ([.int a1, .int a2, .int a3, .int a4])).length) Slot.unset).toArray = ls at hl ⊢
  have hl : lv_has ls 4 [(0, .int a1), (1, .int a2), (2, .int a3), (3, .int a4)] := hl
  generalize hargs : ([.int a1, .int a2, .int a3, .int a4] : List Value).toArray = args at *
  generalize hAe : gA ad N s.heap.size = A
  have F : gF sa D ad cy N A p s m args cod cX10_hasBy 4 wsX10_hasBy RX10 := ⟨hx, hb, hml, hown, hts, hK, hI, by rw [← hAe]; exact gA_ad, by rw [← hAe]; exact gA_sz, by rw [← hAe]; exact hZ⟩
  have G : gW D ad cy N A s.heap c0 c s.heap [] := ⟨hP, va_S.rf⟩
  generalize hQ : MQ below (va_Qi (fun (z : Int32) (_ : Unit) => z = rZ) (fun _ U => gE D ad cy N c0 c U) A) args s 0 0 A = Q
  suffices hgen : ∀ (H : Heap) (locs : List Loc), gW D ad cy N A s.heap c0 c H locs → W p l e rmX10_hasBy s m args below meth cod H locs 0 0 Q (F0 m 0 ls []) from hgen _ _ G
  clear G
  intro H locs G
  unfold m_X10_hasBy at h
  refine lv_iload_n hx hb dX10_hasBy_0 rfl (lv_at hl 0 rfl) ?_
  refine lv_if_ne (tgt := 16) hx hb dX10_hasBy_1 (by decide) (fun q1 => ?_) (fun q1 => ?_)
  · replace h := gf_s q1 h
    refine lv_iload_n hx hb dX10_hasBy_16 rfl (lv_at hl 1 rfl) ?_
    refine lv_if_ne (tgt := 24) hx hb dX10_hasBy_17 (by decide) (fun q2 => ?_) (fun q2 => ?_)
    · replace h := gf_s q2 h
      refine lv_iconst (v := (-1)) hx hb dX10_hasBy_24 (by decide) ?_
      cases h
      rw [← hQ]
      exact gx_iret F G hr hlocks dX10_hasBy_25
    · replace h := gt_s q2 h
      refine lv_iload_n hx hb dX10_hasBy_20 rfl (lv_at hl 3 rfl) ?_
      refine lv_goto (tgt := 25) hx hb dX10_hasBy_21 (by decide) ?_
      cases h
      rw [← hQ]
      exact gx_iret F G hr hlocks dX10_hasBy_25
  · replace h := gt_s q1 h
    refine lv_iload_n hx hb dX10_hasBy_4 rfl (lv_at hl 1 rfl) ?_
    refine lv_if_ne (tgt := 12) hx hb dX10_hasBy_5 (by decide) (fun q3 => ?_) (fun q3 => ?_)
    · replace h := gf_s q3 h
      refine lv_iconst (v := 0) hx hb dX10_hasBy_12 (by decide) ?_
      refine lv_goto (tgt := 25) hx hb dX10_hasBy_13 (by decide) ?_
      cases h
      rw [← hQ]
      exact gx_iret F G hr hlocks dX10_hasBy_25
    · replace h := gt_s q3 h
      refine lv_iload_n hx hb dX10_hasBy_8 rfl (lv_at hl 2 rfl) ?_
      refine lv_goto (tgt := 25) hx hb dX10_hasBy_9 (by decide) ?_
      cases h
      rw [← hQ]
      exact gx_iret F G hr hlocks dX10_hasBy_25
def m_X10_isBest (a1 : Int32) (a2 : Int32) (a3 : Int32) (a4 : Int32) : Option (Int32) :=
  gb (m_X10_hasBy a1 a2 a3 a4) (fun (r2 : Int32) => gb (m_X10_hasBy (1 - a1) a2 a3 a4) (fun (r4 : Int32) => (if r2 < r4 then some 0 else some 1)))
abbrev rmX10_isBest : Room := { frames := 1, cells := 0, slots := 0, locals := 23 }
set_option maxHeartbeats 4000000 in
set_option maxRecDepth 100000 in
theorem c_X10_isBest (l : Launch) (sa : gSa) (D : va_G) (ad : Nat → Nat) (cy : Nat → ClassId) (N sz : Nat) (hN : 530 ≤ N) (hI : gI ad N) (c0 c : gm) {a1 : Int32} {a2 : Int32} {a3 : Int32} {a4 : Int32} {rZ : Int32} (h : m_X10_isBest a1 a2 a3 a4 = some rZ) : Met l yX10_isBest wsX10_isBest rmX10_isBest (va_Pc [.int a1, .int a2, .int a3, .int a4] (gP sa D ad cy N sz c0 c)) (va_Qi (fun (z : Int32) (_ : Unit) => z = rZ) (fun _ U => gE D ad cy N c0 c U) (gA ad N sz)) 0 0 (gA ad N sz) := by
  refine Met.ofW (cc := cX10_isBest) (maxL := 4) (ret := (some .boolean)) (by decide) rfl ?_
  intro p e s m args below meth cod s₁ B hml hv
  obtain ⟨rfl, hsz, hP, hK, hZ⟩ := hv
  have hx := B.exec
  have hb := B.bytes
  have hr := B.returns
  have hts := atoms_spec (ws := wsX10_isBest) B.pre
  have hown : s.vm.findClass RX10 = some m.cls := findClass_of_methodNamed B.named
  have hlocks := B.notSynchronized
  subst hsz
  have hl := lv_entry ([.int a1, .int a2, .int a3, .int a4]) (n := 4) (Nat.le_of_ble_eq_true rfl)
  rw [lg_entry_eq]
  generalize (lg_sl ([.int a1, .int a2, .int a3, .int a4]) ++ List.replicate (4 - (lg_sl ([.int a1, .int a2, .int a3, .int a4])).length) Slot.unset).toArray = ls at hl ⊢
  have hl : lv_has ls 4 [(0, .int a1), (1, .int a2), (2, .int a3), (3, .int a4)] := hl
  generalize hargs : ([.int a1, .int a2, .int a3, .int a4] : List Value).toArray = args at *
  generalize hAe : gA ad N s.heap.size = A
  have F : gF sa D ad cy N A p s m args cod cX10_isBest 4 wsX10_isBest RX10 := ⟨hx, hb, hml, hown, hts, hK, hI, by rw [← hAe]; exact gA_ad, by rw [← hAe]; exact gA_sz, by rw [← hAe]; exact hZ⟩
  have G : gW D ad cy N A s.heap c0 c s.heap [] := ⟨hP, va_S.rf⟩
  generalize hQ : MQ below (va_Qi (fun (z : Int32) (_ : Unit) => z = rZ) (fun _ U => gE D ad cy N c0 c U) A) args s 0 0 A = Q
  suffices hgen : ∀ (H : Heap) (locs : List Loc), gW D ad cy N A s.heap c0 c H locs → W p l e rmX10_isBest s m args below meth cod H locs 0 0 Q (F0 m 0 ls []) from hgen _ _ G
  clear G
  intro H locs G
  unfold m_X10_isBest at h
  refine lv_iload_n hx hb dX10_isBest_0 rfl (lv_at hl 0 rfl) ?_
  refine lv_iload_n hx hb dX10_isBest_1 rfl (lv_at hl 1 rfl) ?_
  refine lv_iload_n hx hb dX10_isBest_2 rfl (lv_at hl 2 rfl) ?_
  refine lv_iload_n hx hb dX10_isBest_3 rfl (lv_at hl 3 rfl) ?_
  obtain ⟨r2, hc1, h⟩ := gb_s h
  refine gx_calli F G (va_runS (As := [.int a1, .int a2, .int a3, .int a4]) (rest := []) (gx_fix F) (c_X10_hasBy l sa D ad cy N H.size hN hI c0 c hc1) (va_cwS 4 hts gX10_isBest_X10_hasBy rfl rfl rfl (by decide +kernel) ⟨by decide, by decide⟩) (gx_pre F G) rfl rfl hl.1 rfl (lv_room (Nat.le_of_ble_eq_true rfl)) dX10_isBest_4 ⟨Nat.zero_le _, Nat.zero_le _⟩) (fun H locs G => ?_)
  refine lv_iconst (v := 1) hx hb dX10_isBest_7 (by decide) ?_
  refine lv_iload_n hx hb dX10_isBest_8 rfl (lv_at hl 0 rfl) ?_
  refine lv_isub hx hb dX10_isBest_9 ?_
  refine lv_iload_n hx hb dX10_isBest_10 rfl (lv_at hl 1 rfl) ?_
  refine lv_iload_n hx hb dX10_isBest_11 rfl (lv_at hl 2 rfl) ?_
  refine lv_iload_n hx hb dX10_isBest_12 rfl (lv_at hl 3 rfl) ?_
  obtain ⟨r4, hc3, h⟩ := gb_s h
  refine gx_calli F G (va_runS (As := [.int (1 - a1), .int a2, .int a3, .int a4]) (rest := [.int r2]) (gx_fix F) (c_X10_hasBy l sa D ad cy N H.size hN hI c0 c hc3) (va_cwS 4 hts gX10_isBest_X10_hasBy rfl rfl rfl (by decide +kernel) ⟨by decide, by decide⟩) (gx_pre F G) rfl rfl hl.1 rfl (lv_room (Nat.le_of_ble_eq_true rfl)) dX10_isBest_13 ⟨Nat.zero_le _, Nat.zero_le _⟩) (fun H locs G => ?_)
  refine lv_icmp_lt (tgt := 23) hx hb dX10_isBest_16 (by decide) (fun q5 => ?_) (fun q5 => ?_)
  · replace h := gt_s q5 h
    refine lv_iconst (v := 0) hx hb dX10_isBest_23 (by decide) ?_
    cases h
    rw [← hQ]
    exact gx_zret F G hr hlocks rfl dX10_isBest_24
  · replace h := gf_s q5 h
    refine lv_iconst (v := 1) hx hb dX10_isBest_19 (by decide) ?_
    refine lv_goto (tgt := 24) hx hb dX10_isBest_20 (by decide) ?_
    cases h
    rw [← hQ]
    exact gx_zret F G hr hlocks rfl dX10_isBest_24
def m_X10_sellers_L71 (a1 : Int32) (a2 : Int32) (y16 : Int32) (y24 : Int32) (y25 : Int32) (y26 : Int32) (y27 : Int32) : Option ((Int32 × Int32 × Int32 × Int32) ⊕ (Int32 × Int32 × Int32)) :=
  (if 2 ≤ y27 then some (.inr (y24, y25, y26)) else gb (m_X10_isBest y16 y27 a1 a2) (fun (r34 : Int32) => gj (gu2 (fun (v35 : Int32) => gu2 (fun (v36 : Int32) (v37 : Int32) => gv (y27 + 1) (fun (x39 : Int32) => some (.inl (v35, v36, v37, x39)))))) (fun K38 => (if r34 = 0 then K38 (y24, y25, y26) else gb (m_X10_isBest y27 y16 a1 a2) (fun (r42 : Int32) => (if r42 = 0 then K38 (y24, y25, y26) else gj (fun (v44 : Int32) => gj (fun (v46 : Int32) => gv (y24 + 1) (fun (x48 : Int32) => K38 (x48, v46, v44))) (fun K47 => (if y24 = 0 then K47 ((10 * y16) + y27) else K47 y25))) (fun K45 => (if y24 = 0 then gb (m_X10_hasBy y16 y27 a1 a2) (fun (r52 : Int32) => gb (m_X10_hasBy y27 y16 a1 a2) (fun (r54 : Int32) => K45 (r52 + r54))) else K45 y26))))))))
def m_X10_sellers_L62 (n : Nat) (a1 : Int32) (a2 : Int32) (y13 : Int32) (y14 : Int32) (y15 : Int32) (y16 : Int32) : Option ((Int32 × Int32 × Int32 × Int32) ⊕ (Int32 × Int32 × Int32)) :=
  (if 2 ≤ y16 then some (.inr (y13, y14, y15)) else gb (gloop (gu2 (fun (y24 : Int32) => gu2 (fun (y25 : Int32) => gu2 (fun (y26 : Int32) (y27 : Int32) => m_X10_sellers_L71 a1 a2 y16 y24 y25 y26 y27)))) n (y13, y14, y15, 0)) (gu2 (fun (z28 : Int32) => gu2 (fun (z29 : Int32) (z30 : Int32) => gv (y16 + 1) (fun (x31 : Int32) => some (.inl (z28, z29, z30, x31)))))))
def m_X10_sellers (n : Nat) (t : Nat) (a1 : Int32) (a2 : Int32) (a3 : Int32) (c : gm) : Option (Int32 × gm) :=
  gc (gck t = 10) (gv (gm_r c t (upd (c.1 t) 0 0)) (fun (c3 : gm) => gb (m_X10_in a1 0 99) (fun (r5 : Int32) => gj (fun (v6 : Int32) => gb2 (m_X10_bad t v6 1 1 c3) (fun (r9 : Int32) (c10 : gm) => (if r9 = 0 then gb (gloop (gu2 (fun (y13 : Int32) => gu2 (fun (y14 : Int32) => gu2 (fun (y15 : Int32) (y16 : Int32) => m_X10_sellers_L62 n a1 a2 y13 y14 y15 y16)))) n (0, (-1), 0, 0)) (gu2 (fun (z17 : Int32) => gu2 (fun (z18 : Int32) (z19 : Int32) => (if a3 = 0 then some (z17, c10) else (if a3 = 1 then some (z18, c10) else some (z19, c10)))))) else some (0, c10)))) (fun K7 => gj (fun (_ : Unit) => K7 1) (fun K55 => (if r5 = 0 then K55 () else gb (m_X10_in a2 0 99) (fun (r58 : Int32) => (if r58 = 0 then K55 () else gb (m_X10_in a3 0 2) (fun (r61 : Int32) => (if r61 = 0 then K55 () else K7 0))))))))))
abbrev rmX10_sellers : Room := { frames := 2, cells := 0, slots := 0, locals := 46 }
set_option maxHeartbeats 4000000 in
set_option maxRecDepth 100000 in
theorem c_X10_sellers (l : Launch) (sa : gSa) (D : va_G) (ad : Nat → Nat) (cy : Nat → ClassId) (N sz : Nat) (hN : 530 ≤ N) (hI : gI ad N) (c0 c : gm) {n : Nat} {t : Nat} {a1 : Int32} {a2 : Int32} {a3 : Int32} {rZ : Int32} {cZ : gm} (h : m_X10_sellers n t a1 a2 a3 c = some (rZ, cZ)) : Met l yX10_sellers wsX10_sellers rmX10_sellers (va_Pc [.ref (ad t), .int a1, .int a2, .int a3] (gP sa D ad cy N sz c0 c)) (va_Qi (fun (z : Int32) (_ : Unit) => z = rZ) (fun _ U => gE D ad cy N c0 cZ U) (gA ad N sz)) 0 0 (gA ad N sz) := by
  refine Met.ofW (cc := cX10_sellers) (maxL := 9) (ret := (some .int)) (by decide) rfl ?_
  intro p e s m args below meth cod s₁ B hml hv
  obtain ⟨rfl, hsz, hP, hK, hZ⟩ := hv
  have hx := B.exec
  have hb := B.bytes
  have hr := B.returns
  have hts := atoms_spec (ws := wsX10_sellers) B.pre
  have hown : s.vm.findClass RX10 = some m.cls := findClass_of_methodNamed B.named
  have hlocks := B.notSynchronized
  subst hsz
  have hl := lv_entry ([.ref (ad t), .int a1, .int a2, .int a3]) (n := 9) (Nat.le_of_ble_eq_true rfl)
  rw [lg_entry_eq]
  generalize (lg_sl ([.ref (ad t), .int a1, .int a2, .int a3]) ++ List.replicate (9 - (lg_sl ([.ref (ad t), .int a1, .int a2, .int a3])).length) Slot.unset).toArray = ls at hl ⊢
  have hl : lv_has ls 9 [(0, .ref (ad t)), (1, .int a1), (2, .int a2), (3, .int a3)] := hl
  have in10 : ∀ w ∈ wsX100, w ∈ wsX10_sellers := by decide +kernel
  generalize hargs : ([.ref (ad t), .int a1, .int a2, .int a3] : List Value).toArray = args at *
  generalize hAe : gA ad N s.heap.size = A
  have F : gF sa D ad cy N A p s m args cod cX10_sellers 9 wsX10_sellers RX10 := ⟨hx, hb, hml, hown, hts, hK, hI, by rw [← hAe]; exact gA_ad, by rw [← hAe]; exact gA_sz, by rw [← hAe]; exact hZ⟩
  have G : gW D ad cy N A s.heap c0 c s.heap [] := ⟨hP, va_S.rf⟩
  generalize hQ : MQ below (va_Qi (fun (z : Int32) (_ : Unit) => z = rZ) (fun _ U => gE D ad cy N c0 cZ U) A) args s 0 0 A = Q
  suffices hgen : ∀ (H : Heap) (locs : List Loc), gW D ad cy N A s.heap c0 c H locs → W p l e rmX10_sellers s m args below meth cod H locs 0 0 Q (F0 m 0 ls []) from hgen _ _ G
  clear G
  intro H locs G
  unfold m_X10_sellers at h
  refine lv_aload_n hx hb dX10_sellers_0 rfl (lv_at hl 0 rfl) ?_
  refine lv_iconst (v := 0) hx hb dX10_sellers_1 (by decide) ?_
  obtain ⟨hk1, h⟩ := gc_s h
  have ht2 : t < N := Nat.lt_of_lt_of_le (gck_lt10 hk1) hN
  refine fp_10_thrown F G hk1 ht2 in10 (by decide +kernel) dX10_sellers_2 (fun H locs G => ?_)
  obtain ⟨c3, ec3⟩ : ∃ z, z = gm_r c t (upd (c.1 t) 0 0) := ⟨_, rfl⟩
  rw [← ec3] at G
  replace h := gv_s h c3 ec3
  refine lv_aload_n hx hb dX10_sellers_5 rfl (lv_at hl 0 rfl) ?_
  refine lv_iload_n hx hb dX10_sellers_6 rfl (lv_at hl 1 rfl) ?_
  refine lv_iconst (v := 0) hx hb dX10_sellers_7 (by decide) ?_
  refine lv_bipush (v := 99) hx hb dX10_sellers_8 (by decide) ?_
  obtain ⟨r5, hc4, h⟩ := gb_s h
  refine gx_calli F G (va_runS (As := [.int a1, .int 0, .int 99]) (rest := [.ref (ad t)]) (gx_fix F) (c_X10_in l sa D ad cy N H.size hN hI c0 c3 hc4) (va_cwS 3 hts gX10_sellers_X10_in rfl rfl rfl (by decide +kernel) ⟨by decide, by decide⟩) (gx_pre F G) rfl rfl hl.1 rfl (lv_room (Nat.le_of_ble_eq_true rfl)) dX10_sellers_10 ⟨Nat.zero_le _, Nat.zero_le _⟩) (fun H locs G => ?_)
  obtain ⟨K7, eK7, h⟩ := gj_s h
  have JK7 : ∀ (v6 : Int32) (H : Heap) (locs : List Loc) (ls : Array Slot), K7 v6 = some (rZ, cZ) → gW D ad cy N A s.heap c0 c3 H locs → lv_has ls 9 [(1, .int a1), (2, .int a2), (3, .int a3)] → W p l e rmX10_sellers s m args below meth cod H locs 0 0 Q (F0 m 40 ls [.int v6, .ref (ad t)]) := by
    intro v6 H locs ls h G hl
    rw [eK7] at h
    refine lv_iconst (v := 1) hx hb dX10_sellers_40 (by decide) ?_
    refine lv_iconst (v := 1) hx hb dX10_sellers_41 (by decide) ?_
    obtain ⟨r9, c10, hc8, h⟩ := gb2_s h
    refine gx_calli F G (va_runV (As := [.int v6, .int 1, .int 1]) (rest := []) (gx_fix F) (c_X10_bad l sa D ad cy N H.size hN hI c0 c3 hc8) (cwV 3 hts gX10_sellers_X10_bad rfl rfl rfl (by decide +kernel) ⟨by decide, by decide⟩) (gx_rec F G ht2 (gwe_10 hk1) rfl) rfl rfl hl.1 rfl (lv_room (Nat.le_of_ble_eq_true rfl)) dX10_sellers_42 ⟨Nat.zero_le _, Nat.zero_le _⟩) (fun H locs G => ?_)
    refine lv_if_eq (tgt := 50) hx hb dX10_sellers_45 (by decide) (fun q11 => ?_) (fun q11 => ?_)
    · replace h := gt_s q11 h
      refine lv_iconst (v := 0) hx hb dX10_sellers_50 (by decide) ?_
      refine lv_istore (lv' := [(4, .int 0), (1, .int a1), (2, .int a2), (3, .int a3)]) hx hb dX10_sellers_51 hl (by decide) rfl (fun ls hl => ?_)
      refine lv_iconst (v := (-1)) hx hb dX10_sellers_53 (by decide) ?_
      refine lv_istore (lv' := [(5, .int (-1)), (4, .int 0), (1, .int a1), (2, .int a2), (3, .int a3)]) hx hb dX10_sellers_54 hl (by decide) rfl (fun ls hl => ?_)
      refine lv_iconst (v := 0) hx hb dX10_sellers_56 (by decide) ?_
      refine lv_istore (lv' := [(6, .int 0), (5, .int (-1)), (4, .int 0), (1, .int a1), (2, .int a2), (3, .int a3)]) hx hb dX10_sellers_57 hl (by decide) rfl (fun ls hl => ?_)
      refine lv_iconst (v := 0) hx hb dX10_sellers_59 (by decide) ?_
      refine lv_istore (lv' := [(7, .int 0), (6, .int 0), (5, .int (-1)), (4, .int 0), (1, .int a1), (2, .int a2), (3, .int a3)]) hx hb dX10_sellers_60 hl (by decide) rfl (fun ls hl => ?_)
      obtain ⟨b12, hb12, hK12⟩ := gb_s h
      have E12 : ∀ (z17 : Int32) (z18 : Int32) (z19 : Int32) (H : Heap) (locs : List Loc) (ls : Array Slot), ((z17, z18, z19) : Int32 × Int32 × Int32) = b12 → gW D ad cy N A s.heap c0 c10 H locs → lv_has ls 9 [(3, .int a3), (4, .int z17), (5, .int z18), (6, .int z19)] → W p l e rmX10_sellers s m args below meth cod H locs 0 0 Q (F0 m 170 ls []) := by
        intro z17 z18 z19 H locs ls hq12 G hl
        subst hq12
        replace hK12 := hK12
        replace hK12 := gu2_s hK12
        replace hK12 := gu2_s hK12
        have h := hK12
        refine lv_iload_n hx hb dX10_sellers_170 rfl (lv_at hl 0 rfl) ?_
        refine lv_if_ne (tgt := 179) hx hb dX10_sellers_171 (by decide) (fun q20 => ?_) (fun q20 => ?_)
        · replace h := gf_s q20 h
          refine lv_iload_n hx hb dX10_sellers_179 rfl (lv_at hl 0 rfl) ?_
          refine lv_iconst (v := 1) hx hb dX10_sellers_180 (by decide) ?_
          refine lv_icmp_ne (tgt := 189) hx hb dX10_sellers_181 (by decide) (fun q21 => ?_) (fun q21 => ?_)
          · replace h := gf_s q21 h
            refine lv_iload hx hb dX10_sellers_189 (lv_at hl 3 rfl) ?_
            cases h
            rw [← hQ]
            exact gx_iret F G hr hlocks dX10_sellers_191
          · replace h := gt_s q21 h
            refine lv_iload hx hb dX10_sellers_184 (lv_at hl 2 rfl) ?_
            refine lv_goto (tgt := 191) hx hb dX10_sellers_186 (by decide) ?_
            cases h
            rw [← hQ]
            exact gx_iret F G hr hlocks dX10_sellers_191
        · replace h := gt_s q20 h
          refine lv_iload hx hb dX10_sellers_174 (lv_at hl 1 rfl) ?_
          refine lv_goto (tgt := 191) hx hb dX10_sellers_176 (by decide) ?_
          cases h
          rw [← hQ]
          exact gx_iret F G hr hlocks dX10_sellers_191
      have L12 : ∀ (n9 : Nat) (y13 : Int32) (y14 : Int32) (y15 : Int32) (y16 : Int32) (H : Heap) (locs : List Loc) (ls : Array Slot), gloop (gu2 (fun (y13 : Int32) => gu2 (fun (y14 : Int32) => gu2 (fun (y15 : Int32) (y16 : Int32) => m_X10_sellers_L62 n a1 a2 y13 y14 y15 y16)))) n9 (y13, y14, y15, y16) = some b12 → gW D ad cy N A s.heap c0 c10 H locs → lv_has ls 9 [(1, .int a1), (2, .int a2), (3, .int a3), (4, .int y13), (5, .int y14), (6, .int y15), (7, .int y16)] → W p l e rmX10_sellers s m args below meth cod H locs 0 0 Q (F0 m 62 ls []) := by
        intro n9
        induction n9 with
        | zero => intro y13 y14 y15 y16 H locs ls h; exact (gloop_0 h).elim
        | succ n9 ih =>
          intro y13 y14 y15 y16 H locs ls h G hl
          have ih12 := ih
          obtain ⟨o12, h, hn12⟩ := gloop_s h
          replace h := gu2_s h
          replace h := gu2_s h
          replace h := gu2_s h
          unfold m_X10_sellers_L62 at h
          refine lv_iload hx hb dX10_sellers_62 (lv_at hl 6 rfl) ?_
          refine lv_iconst (v := 2) hx hb dX10_sellers_64 (by decide) ?_
          refine lv_icmp_ge (tgt := 170) hx hb dX10_sellers_65 (by decide) (fun q22 => ?_) (fun q22 => ?_)
          · replace h := gt_s q22 h
            cases h
            exact E12 _ _ _ _ _ _ (gnx_r hn12) G (lv_sub hl [2, 3, 4, 5] rfl)
          · replace h := gf_s q22 h
            refine lv_iconst (v := 0) hx hb dX10_sellers_68 (by decide) ?_
            refine lv_istore (lv' := [(8, .int 0), (1, .int a1), (2, .int a2), (3, .int a3), (4, .int y13), (5, .int y14), (6, .int y15), (7, .int y16)]) hx hb dX10_sellers_69 hl (by decide) rfl (fun ls hl => ?_)
            obtain ⟨b23, hb23, hK23⟩ := gb_s h
            have E23 : ∀ (z28 : Int32) (z29 : Int32) (z30 : Int32) (H : Heap) (locs : List Loc) (ls : Array Slot), ((z28, z29, z30) : Int32 × Int32 × Int32) = b23 → gW D ad cy N A s.heap c0 c10 H locs → lv_has ls 9 [(1, .int a1), (2, .int a2), (3, .int a3), (4, .int z28), (5, .int z29), (6, .int z30), (7, .int y16)] → W p l e rmX10_sellers s m args below meth cod H locs 0 0 Q (F0 m 164 ls []) := by
              intro z28 z29 z30 H locs ls hq23 G hl
              subst hq23
              replace hK23 := hK23
              replace hK23 := gu2_s hK23
              replace hK23 := gu2_s hK23
              have h := hK23
              obtain ⟨x31, ex31⟩ : ∃ z : Int32, z = y16 + 1 := ⟨_, rfl⟩
              replace h := gv_s h x31 ex31
              refine lv_iinc (v := x31) (lv' := [(7, .int x31), (1, .int a1), (2, .int a2), (3, .int a3), (4, .int z28), (5, .int z29), (6, .int z30)]) hx hb dX10_sellers_164 hl (k := 6) rfl (by rw [ex31]; rfl) (by decide) rfl (fun ls hl => ?_)
              refine lv_goto (tgt := 62) hx hb dX10_sellers_167 (by decide) ?_
              cases h
              exact ih12 _ _ _ _ _ _ _ hn12 G (lv_sub hl [1, 2, 3, 4, 5, 6, 0] rfl)
            have L23 : ∀ (n9 : Nat) (y24 : Int32) (y25 : Int32) (y26 : Int32) (y27 : Int32) (H : Heap) (locs : List Loc) (ls : Array Slot), gloop (gu2 (fun (y24 : Int32) => gu2 (fun (y25 : Int32) => gu2 (fun (y26 : Int32) (y27 : Int32) => m_X10_sellers_L71 a1 a2 y16 y24 y25 y26 y27)))) n9 (y24, y25, y26, y27) = some b23 → gW D ad cy N A s.heap c0 c10 H locs → lv_has ls 9 [(1, .int a1), (2, .int a2), (3, .int a3), (4, .int y24), (5, .int y25), (6, .int y26), (7, .int y16), (8, .int y27)] → W p l e rmX10_sellers s m args below meth cod H locs 0 0 Q (F0 m 71 ls []) := by
              intro n9
              induction n9 with
              | zero => intro y24 y25 y26 y27 H locs ls h; exact (gloop_0 h).elim
              | succ n9 ih =>
                intro y24 y25 y26 y27 H locs ls h G hl
                have ih23 := ih
                obtain ⟨o23, h, hn23⟩ := gloop_s h
                replace h := gu2_s h
                replace h := gu2_s h
                replace h := gu2_s h
                unfold m_X10_sellers_L71 at h
                refine lv_iload hx hb dX10_sellers_71 (lv_at hl 7 rfl) ?_
                refine lv_iconst (v := 2) hx hb dX10_sellers_73 (by decide) ?_
                refine lv_icmp_ge (tgt := 164) hx hb dX10_sellers_74 (by decide) (fun q32 => ?_) (fun q32 => ?_)
                · replace h := gt_s q32 h
                  cases h
                  exact E23 _ _ _ _ _ _ (gnx_r hn23) G (lv_sub hl [0, 1, 2, 3, 4, 5, 6] rfl)
                · replace h := gf_s q32 h
                  refine lv_iload hx hb dX10_sellers_77 (lv_at hl 6 rfl) ?_
                  refine lv_iload hx hb dX10_sellers_79 (lv_at hl 7 rfl) ?_
                  refine lv_iload_n hx hb dX10_sellers_81 rfl (lv_at hl 0 rfl) ?_
                  refine lv_iload_n hx hb dX10_sellers_82 rfl (lv_at hl 1 rfl) ?_
                  obtain ⟨r34, hc33, h⟩ := gb_s h
                  refine gx_calli F G (va_runS (As := [.int y16, .int y27, .int a1, .int a2]) (rest := []) (gx_fix F) (c_X10_isBest l sa D ad cy N H.size hN hI c0 c10 hc33) (va_cwS 4 hts gX10_sellers_X10_isBest rfl rfl rfl (by decide +kernel) ⟨by decide, by decide⟩) (gx_pre F G) rfl rfl hl.1 rfl (lv_room (Nat.le_of_ble_eq_true rfl)) dX10_sellers_83 ⟨Nat.zero_le _, Nat.zero_le _⟩) (fun H locs G => ?_)
                  obtain ⟨K38, eK38, h⟩ := gj_s h
                  have JK38 : ∀ (v35 : Int32) (v36 : Int32) (v37 : Int32) (H : Heap) (locs : List Loc) (ls : Array Slot), K38 (v35, v36, v37) = some o23 → gW D ad cy N A s.heap c0 c10 H locs → lv_has ls 9 [(1, .int a1), (2, .int a2), (3, .int a3), (4, .int v35), (5, .int v36), (6, .int v37), (7, .int y16), (8, .int y27)] → W p l e rmX10_sellers s m args below meth cod H locs 0 0 Q (F0 m 158 ls []) := by
                    intro v35 v36 v37 H locs ls h G hl
                    rw [eK38] at h
                    replace h := gu2_s h
                    replace h := gu2_s h
                    obtain ⟨x39, ex39⟩ : ∃ z : Int32, z = y27 + 1 := ⟨_, rfl⟩
                    replace h := gv_s h x39 ex39
                    refine lv_iinc (v := x39) (lv' := [(8, .int x39), (1, .int a1), (2, .int a2), (3, .int a3), (4, .int v35), (5, .int v36), (6, .int v37), (7, .int y16)]) hx hb dX10_sellers_158 hl (k := 7) rfl (by rw [ex39]; rfl) (by decide) rfl (fun ls hl => ?_)
                    refine lv_goto (tgt := 71) hx hb dX10_sellers_161 (by decide) ?_
                    cases h
                    exact ih23 _ _ _ _ _ _ _ hn23 G (lv_sub hl [1, 2, 3, 4, 5, 6, 7, 0] rfl)
                  refine lv_if_eq (tgt := 158) hx hb dX10_sellers_86 (by decide) (fun q40 => ?_) (fun q40 => ?_)
                  · replace h := gt_s q40 h
                    exact JK38 _ _ _ _ _ _ h G hl
                  · replace h := gf_s q40 h
                    refine lv_iload hx hb dX10_sellers_89 (lv_at hl 7 rfl) ?_
                    refine lv_iload hx hb dX10_sellers_91 (lv_at hl 6 rfl) ?_
                    refine lv_iload_n hx hb dX10_sellers_93 rfl (lv_at hl 0 rfl) ?_
                    refine lv_iload_n hx hb dX10_sellers_94 rfl (lv_at hl 1 rfl) ?_
                    obtain ⟨r42, hc41, h⟩ := gb_s h
                    refine gx_calli F G (va_runS (As := [.int y27, .int y16, .int a1, .int a2]) (rest := []) (gx_fix F) (c_X10_isBest l sa D ad cy N H.size hN hI c0 c10 hc41) (va_cwS 4 hts gX10_sellers_X10_isBest rfl rfl rfl (by decide +kernel) ⟨by decide, by decide⟩) (gx_pre F G) rfl rfl hl.1 rfl (lv_room (Nat.le_of_ble_eq_true rfl)) dX10_sellers_95 ⟨Nat.zero_le _, Nat.zero_le _⟩) (fun H locs G => ?_)
                    refine lv_if_ne (tgt := 104) hx hb dX10_sellers_98 (by decide) (fun q43 => ?_) (fun q43 => ?_)
                    · replace h := gf_s q43 h
                      refine lv_iload hx hb dX10_sellers_104 (lv_at hl 3 rfl) ?_
                      obtain ⟨K45, eK45, h⟩ := gj_s h
                      have JK45 : ∀ (v44 : Int32) (H : Heap) (locs : List Loc) (ls : Array Slot), K45 v44 = some o23 → gW D ad cy N A s.heap c0 c10 H locs → lv_has ls 9 [(1, .int a1), (2, .int a2), (3, .int a3), (4, .int y24), (5, .int y25), (7, .int y16), (8, .int y27)] → W p l e rmX10_sellers s m args below meth cod H locs 0 0 Q (F0 m 133 ls [.int v44]) := by
                        intro v44 H locs ls h G hl
                        rw [eK45] at h
                        refine lv_istore (lv' := [(6, .int v44), (1, .int a1), (2, .int a2), (3, .int a3), (4, .int y24), (5, .int y25), (7, .int y16), (8, .int y27)]) hx hb dX10_sellers_133 hl (by decide) rfl (fun ls hl => ?_)
                        refine lv_iload hx hb dX10_sellers_135 (lv_at hl 4 rfl) ?_
                        obtain ⟨K47, eK47, h⟩ := gj_s h
                        have JK47 : ∀ (v46 : Int32) (H : Heap) (locs : List Loc) (ls : Array Slot), K47 v46 = some o23 → gW D ad cy N A s.heap c0 c10 H locs → lv_has ls 9 [(1, .int a1), (2, .int a2), (3, .int a3), (4, .int y24), (6, .int v44), (7, .int y16), (8, .int y27)] → W p l e rmX10_sellers s m args below meth cod H locs 0 0 Q (F0 m 153 ls [.int v46]) := by
                          intro v46 H locs ls h G hl
                          rw [eK47] at h
                          refine lv_istore (lv' := [(5, .int v46), (1, .int a1), (2, .int a2), (3, .int a3), (4, .int y24), (6, .int v44), (7, .int y16), (8, .int y27)]) hx hb dX10_sellers_153 hl (by decide) rfl (fun ls hl => ?_)
                          obtain ⟨x48, ex48⟩ : ∃ z : Int32, z = y24 + 1 := ⟨_, rfl⟩
                          replace h := gv_s h x48 ex48
                          refine lv_iinc (v := x48) (lv' := [(4, .int x48), (5, .int v46), (1, .int a1), (2, .int a2), (3, .int a3), (6, .int v44), (7, .int y16), (8, .int y27)]) hx hb dX10_sellers_155 hl (k := 4) rfl (by rw [ex48]; rfl) (by decide) rfl (fun ls hl => ?_)
                          exact JK38 _ _ _ _ _ _ h G (lv_sub hl [2, 3, 4, 0, 1, 5, 6, 7] rfl)
                        refine lv_if_ne (tgt := 151) hx hb dX10_sellers_137 (by decide) (fun q49 => ?_) (fun q49 => ?_)
                        · replace h := gf_s q49 h
                          refine lv_iload hx hb dX10_sellers_151 (lv_at hl 5 rfl) ?_
                          exact JK47 _ _ _ _ h G (lv_sub hl [1, 2, 3, 4, 0, 6, 7] rfl)
                        · replace h := gt_s q49 h
                          refine lv_bipush (v := 10) hx hb dX10_sellers_140 (by decide) ?_
                          refine lv_iload hx hb dX10_sellers_142 (lv_at hl 6 rfl) ?_
                          refine lv_imul hx hb dX10_sellers_144 ?_
                          refine lv_iload hx hb dX10_sellers_145 (lv_at hl 7 rfl) ?_
                          refine lv_iadd hx hb dX10_sellers_147 ?_
                          refine lv_goto (tgt := 153) hx hb dX10_sellers_148 (by decide) ?_
                          exact JK47 _ _ _ _ h G (lv_sub hl [1, 2, 3, 4, 0, 6, 7] rfl)
                      refine lv_if_ne (tgt := 131) hx hb dX10_sellers_106 (by decide) (fun q50 => ?_) (fun q50 => ?_)
                      · replace h := gf_s q50 h
                        refine lv_iload hx hb dX10_sellers_131 (lv_at hl 5 rfl) ?_
                        exact JK45 _ _ _ _ h G (lv_sub hl [0, 1, 2, 3, 4, 6, 7] rfl)
                      · replace h := gt_s q50 h
                        refine lv_iload hx hb dX10_sellers_109 (lv_at hl 6 rfl) ?_
                        refine lv_iload hx hb dX10_sellers_111 (lv_at hl 7 rfl) ?_
                        refine lv_iload_n hx hb dX10_sellers_113 rfl (lv_at hl 0 rfl) ?_
                        refine lv_iload_n hx hb dX10_sellers_114 rfl (lv_at hl 1 rfl) ?_
                        obtain ⟨r52, hc51, h⟩ := gb_s h
                        refine gx_calli F G (va_runS (As := [.int y16, .int y27, .int a1, .int a2]) (rest := []) (gx_fix F) (c_X10_hasBy l sa D ad cy N H.size hN hI c0 c10 hc51) (va_cwS 4 hts gX10_sellers_X10_hasBy rfl rfl rfl (by decide +kernel) ⟨by decide, by decide⟩) (gx_pre F G) rfl rfl hl.1 rfl (lv_room (Nat.le_of_ble_eq_true rfl)) dX10_sellers_115 ⟨Nat.zero_le _, Nat.zero_le _⟩) (fun H locs G => ?_)
                        refine lv_iload hx hb dX10_sellers_118 (lv_at hl 7 rfl) ?_
                        refine lv_iload hx hb dX10_sellers_120 (lv_at hl 6 rfl) ?_
                        refine lv_iload_n hx hb dX10_sellers_122 rfl (lv_at hl 0 rfl) ?_
                        refine lv_iload_n hx hb dX10_sellers_123 rfl (lv_at hl 1 rfl) ?_
                        obtain ⟨r54, hc53, h⟩ := gb_s h
                        refine gx_calli F G (va_runS (As := [.int y27, .int y16, .int a1, .int a2]) (rest := [.int r52]) (gx_fix F) (c_X10_hasBy l sa D ad cy N H.size hN hI c0 c10 hc53) (va_cwS 4 hts gX10_sellers_X10_hasBy rfl rfl rfl (by decide +kernel) ⟨by decide, by decide⟩) (gx_pre F G) rfl rfl hl.1 rfl (lv_room (Nat.le_of_ble_eq_true rfl)) dX10_sellers_124 ⟨Nat.zero_le _, Nat.zero_le _⟩) (fun H locs G => ?_)
                        refine lv_iadd hx hb dX10_sellers_127 ?_
                        refine lv_goto (tgt := 133) hx hb dX10_sellers_128 (by decide) ?_
                        exact JK45 _ _ _ _ h G (lv_sub hl [0, 1, 2, 3, 4, 6, 7] rfl)
                    · replace h := gt_s q43 h
                      refine lv_goto (tgt := 158) hx hb dX10_sellers_101 (by decide) ?_
                      exact JK38 _ _ _ _ _ _ h G hl
            exact L23 n _ _ _ _ _ _ _ hb23 G (lv_sub hl [1, 2, 3, 4, 5, 6, 7, 0] rfl)
      exact L12 n _ _ _ _ _ _ _ hb12 G (lv_sub hl [4, 5, 6, 3, 2, 1, 0] rfl)
    · replace h := gf_s q11 h
      refine lv_iconst (v := 0) hx hb dX10_sellers_48 (by decide) ?_
      cases h
      rw [← hQ]
      exact gx_iret F G hr hlocks dX10_sellers_49
  obtain ⟨K55, eK55, h⟩ := gj_s h
  have JK55 : ∀ (H : Heap) (locs : List Loc) (ls : Array Slot), K55 () = some (rZ, cZ) → gW D ad cy N A s.heap c0 c3 H locs → lv_has ls 9 [(1, .int a1), (2, .int a2), (3, .int a3)] → W p l e rmX10_sellers s m args below meth cod H locs 0 0 Q (F0 m 35 ls [.ref (ad t)]) := by
    intro  H locs ls h G hl
    rw [eK55] at h
    refine lv_iconst (v := 1) hx hb dX10_sellers_35 (by decide) ?_
    refine lv_goto (tgt := 40) hx hb dX10_sellers_36 (by decide) ?_
    exact JK7 _ _ _ _ h G hl
  refine lv_if_eq (tgt := 35) hx hb dX10_sellers_13 (by decide) (fun q56 => ?_) (fun q56 => ?_)
  · replace h := gt_s q56 h
    exact JK55  _ _ _ h G (lv_sub hl [1, 2, 3] rfl)
  · replace h := gf_s q56 h
    refine lv_iload_n hx hb dX10_sellers_16 rfl (lv_at hl 2 rfl) ?_
    refine lv_iconst (v := 0) hx hb dX10_sellers_17 (by decide) ?_
    refine lv_bipush (v := 99) hx hb dX10_sellers_18 (by decide) ?_
    obtain ⟨r58, hc57, h⟩ := gb_s h
    refine gx_calli F G (va_runS (As := [.int a2, .int 0, .int 99]) (rest := [.ref (ad t)]) (gx_fix F) (c_X10_in l sa D ad cy N H.size hN hI c0 c3 hc57) (va_cwS 3 hts gX10_sellers_X10_in rfl rfl rfl (by decide +kernel) ⟨by decide, by decide⟩) (gx_pre F G) rfl rfl hl.1 rfl (lv_room (Nat.le_of_ble_eq_true rfl)) dX10_sellers_20 ⟨Nat.zero_le _, Nat.zero_le _⟩) (fun H locs G => ?_)
    refine lv_if_eq (tgt := 35) hx hb dX10_sellers_23 (by decide) (fun q59 => ?_) (fun q59 => ?_)
    · replace h := gt_s q59 h
      exact JK55  _ _ _ h G (lv_sub hl [1, 2, 3] rfl)
    · replace h := gf_s q59 h
      refine lv_iload_n hx hb dX10_sellers_26 rfl (lv_at hl 3 rfl) ?_
      refine lv_iconst (v := 0) hx hb dX10_sellers_27 (by decide) ?_
      refine lv_iconst (v := 2) hx hb dX10_sellers_28 (by decide) ?_
      obtain ⟨r61, hc60, h⟩ := gb_s h
      refine gx_calli F G (va_runS (As := [.int a3, .int 0, .int 2]) (rest := [.ref (ad t)]) (gx_fix F) (c_X10_in l sa D ad cy N H.size hN hI c0 c3 hc60) (va_cwS 3 hts gX10_sellers_X10_in rfl rfl rfl (by decide +kernel) ⟨by decide, by decide⟩) (gx_pre F G) rfl rfl hl.1 rfl (lv_room (Nat.le_of_ble_eq_true rfl)) dX10_sellers_29 ⟨Nat.zero_le _, Nat.zero_le _⟩) (fun H locs G => ?_)
      refine lv_if_ne (tgt := 39) hx hb dX10_sellers_32 (by decide) (fun q62 => ?_) (fun q62 => ?_)
      · replace h := gf_s q62 h
        refine lv_iconst (v := 0) hx hb dX10_sellers_39 (by decide) ?_
        exact JK7 _ _ _ _ h G (lv_sub hl [1, 2, 3] rfl)
      · replace h := gt_s q62 h
        exact JK55  _ _ _ h G (lv_sub hl [1, 2, 3] rfl)
def m_X10_even_L102 (a2 : Int32) (x14 : Int32) (y20 : Int64) (y21 : Int32) : Option ((Int64 × Int32) ⊕ (Int64)) :=
  (if x14 ≤ y21 then some (.inr y20) else gv (y20 * (Int32.toInt64 (a2 * (16 - a2)))) (fun (x26 : Int64) => gv (y21 + 1) (fun (x27 : Int32) => some (.inl (x26, x27)))))
def m_X10_even_L71 (x14 : Int32) (y16 : Int64) (y17 : Int32) : Option ((Int64 × Int32) ⊕ (Int64)) :=
  (if x14 < y17 then some (.inr y16) else gc (¬ (Int32.toInt64 y17) = 0) (gv ((y16 * (Int32.toInt64 (x14 + y17))) / (Int32.toInt64 y17)) (fun (x30 : Int64) => gv (y17 + 1) (fun (x31 : Int32) => some (.inl (x30, x31))))))
def m_X10_even (n : Nat) (t : Nat) (a1 : Int32) (a2 : Int32) (a3 : Int32) (c : gm) : Option (Int64 × gm) :=
  gc (gck t = 10) (gv (gm_r c t (upd (c.1 t) 0 0)) (fun (c3 : gm) => gb (m_X10_in a1 0 12) (fun (r5 : Int32) => gj (fun (v6 : Int32) => gb2 (m_X10_bad t v6 1 1 c3) (fun (r9 : Int32) (c10 : gm) => (if r9 = 0 then gj (fun (v12 : Int64) => gv (a1 / 2) (fun (x14 : Int32) => gb (gloop (gu2 (fun (y16 : Int64) (y17 : Int32) => m_X10_even_L71 x14 y16 y17)) n (v12, 1)) (fun (z18 : Int64) => gb (gloop (gu2 (fun (y20 : Int64) (y21 : Int32) => m_X10_even_L102 a2 x14 y20 y21)) n (z18, 0)) (fun (z22 : Int64) => gb (m_X10_partOf n z22 ((1 : Int64) <<< (Int32.toInt64 (4 * a1) &&& 63)) a3) (fun (r24 : Int64) => some (r24, c10)))))) (fun K13 => (if (a1 - a1 / 2 * 2) = 0 then K13 (1 : Int64) else K13 (0 : Int64))) else some ((0 : Int64), c10)))) (fun K7 => gj (fun (_ : Unit) => K7 1) (fun K33 => (if r5 = 0 then K33 () else gb (m_X10_in a2 0 16) (fun (r36 : Int32) => (if r36 = 0 then K33 () else gb (m_X10_in a3 0 1) (fun (r39 : Int32) => (if r39 = 0 then K33 () else K7 0))))))))))
abbrev rmX10_even : Room := { frames := 1, cells := 0, slots := 0, locals := 30 }
set_option maxHeartbeats 4000000 in
set_option maxRecDepth 100000 in
theorem c_X10_even (l : Launch) (sa : gSa) (D : va_G) (ad : Nat → Nat) (cy : Nat → ClassId) (N sz : Nat) (hN : 530 ≤ N) (hI : gI ad N) (c0 c : gm) {n : Nat} {t : Nat} {a1 : Int32} {a2 : Int32} {a3 : Int32} {rZ : Int64} {cZ : gm} (h : m_X10_even n t a1 a2 a3 c = some (rZ, cZ)) : Met l yX10_even wsX10_even rmX10_even (va_Pc [.ref (ad t), .int a1, .int a2, .int a3] (gP sa D ad cy N sz c0 c)) (va_Ql (fun (z : Int64) (_ : Unit) => z = rZ) (fun _ U => gE D ad cy N c0 cZ U) (gA ad N sz)) 0 0 (gA ad N sz) := by
  refine Met.ofW (cc := cX10_even) (maxL := 8) (ret := (some .long)) (by decide) rfl ?_
  intro p e s m args below meth cod s₁ B hml hv
  obtain ⟨rfl, hsz, hP, hK, hZ⟩ := hv
  have hx := B.exec
  have hb := B.bytes
  have hr := B.returns
  have hts := atoms_spec (ws := wsX10_even) B.pre
  have hown : s.vm.findClass RX10 = some m.cls := findClass_of_methodNamed B.named
  have hlocks := B.notSynchronized
  subst hsz
  have hl := lv_entry ([.ref (ad t), .int a1, .int a2, .int a3]) (n := 8) (Nat.le_of_ble_eq_true rfl)
  rw [lg_entry_eq]
  generalize (lg_sl ([.ref (ad t), .int a1, .int a2, .int a3]) ++ List.replicate (8 - (lg_sl ([.ref (ad t), .int a1, .int a2, .int a3])).length) Slot.unset).toArray = ls at hl ⊢
  have hl : lv_has ls 8 [(0, .ref (ad t)), (1, .int a1), (2, .int a2), (3, .int a3)] := hl
  have in10 : ∀ w ∈ wsX100, w ∈ wsX10_even := by decide +kernel
  generalize hargs : ([.ref (ad t), .int a1, .int a2, .int a3] : List Value).toArray = args at *
  generalize hAe : gA ad N s.heap.size = A
  have F : gF sa D ad cy N A p s m args cod cX10_even 8 wsX10_even RX10 := ⟨hx, hb, hml, hown, hts, hK, hI, by rw [← hAe]; exact gA_ad, by rw [← hAe]; exact gA_sz, by rw [← hAe]; exact hZ⟩
  have G : gW D ad cy N A s.heap c0 c s.heap [] := ⟨hP, va_S.rf⟩
  generalize hQ : MQ below (va_Ql (fun (z : Int64) (_ : Unit) => z = rZ) (fun _ U => gE D ad cy N c0 cZ U) A) args s 0 0 A = Q
  suffices hgen : ∀ (H : Heap) (locs : List Loc), gW D ad cy N A s.heap c0 c H locs → W p l e rmX10_even s m args below meth cod H locs 0 0 Q (F0 m 0 ls []) from hgen _ _ G
  clear G
  intro H locs G
  unfold m_X10_even at h
  refine lv_aload_n hx hb dX10_even_0 rfl (lv_at hl 0 rfl) ?_
  refine lv_iconst (v := 0) hx hb dX10_even_1 (by decide) ?_
  obtain ⟨hk1, h⟩ := gc_s h
  have ht2 : t < N := Nat.lt_of_lt_of_le (gck_lt10 hk1) hN
  refine fp_10_thrown F G hk1 ht2 in10 (by decide +kernel) dX10_even_2 (fun H locs G => ?_)
  obtain ⟨c3, ec3⟩ : ∃ z, z = gm_r c t (upd (c.1 t) 0 0) := ⟨_, rfl⟩
  rw [← ec3] at G
  replace h := gv_s h c3 ec3
  refine lv_aload_n hx hb dX10_even_5 rfl (lv_at hl 0 rfl) ?_
  refine lv_iload_n hx hb dX10_even_6 rfl (lv_at hl 1 rfl) ?_
  refine lv_iconst (v := 0) hx hb dX10_even_7 (by decide) ?_
  refine lv_bipush (v := 12) hx hb dX10_even_8 (by decide) ?_
  obtain ⟨r5, hc4, h⟩ := gb_s h
  refine gx_calli F G (va_runS (As := [.int a1, .int 0, .int 12]) (rest := [.ref (ad t)]) (gx_fix F) (c_X10_in l sa D ad cy N H.size hN hI c0 c3 hc4) (va_cwS 3 hts gX10_even_X10_in rfl rfl rfl (by decide +kernel) ⟨by decide, by decide⟩) (gx_pre F G) rfl rfl hl.1 rfl (lv_room (Nat.le_of_ble_eq_true rfl)) dX10_even_10 ⟨Nat.zero_le _, Nat.zero_le _⟩) (fun H locs G => ?_)
  obtain ⟨K7, eK7, h⟩ := gj_s h
  have JK7 : ∀ (v6 : Int32) (H : Heap) (locs : List Loc) (ls : Array Slot), K7 v6 = some (rZ, cZ) → gW D ad cy N A s.heap c0 c3 H locs → lv_has ls 8 [(1, .int a1), (2, .int a2), (3, .int a3)] → W p l e rmX10_even s m args below meth cod H locs 0 0 Q (F0 m 40 ls [.int v6, .ref (ad t)]) := by
    intro v6 H locs ls h G hl
    rw [eK7] at h
    refine lv_iconst (v := 1) hx hb dX10_even_40 (by decide) ?_
    refine lv_iconst (v := 1) hx hb dX10_even_41 (by decide) ?_
    obtain ⟨r9, c10, hc8, h⟩ := gb2_s h
    refine gx_calli F G (va_runV (As := [.int v6, .int 1, .int 1]) (rest := []) (gx_fix F) (c_X10_bad l sa D ad cy N H.size hN hI c0 c3 hc8) (cwV 3 hts gX10_even_X10_bad rfl rfl rfl (by decide +kernel) ⟨by decide, by decide⟩) (gx_rec F G ht2 (gwe_10 hk1) rfl) rfl rfl hl.1 rfl (lv_room (Nat.le_of_ble_eq_true rfl)) dX10_even_42 ⟨Nat.zero_le _, Nat.zero_le _⟩) (fun H locs G => ?_)
    refine lv_if_eq (tgt := 50) hx hb dX10_even_45 (by decide) (fun q11 => ?_) (fun q11 => ?_)
    · replace h := gt_s q11 h
      refine lv_iload_n hx hb dX10_even_50 rfl (lv_at hl 0 rfl) ?_
      refine lv_iconst (v := 2) hx hb dX10_even_51 (by decide) ?_
      refine lv_irem hx hb dX10_even_52 (by decide) ?_
      obtain ⟨K13, eK13, h⟩ := gj_s h
      have JK13 : ∀ (v12 : Int64) (H : Heap) (locs : List Loc) (ls : Array Slot), K13 v12 = some (rZ, cZ) → gW D ad cy N A s.heap c0 c10 H locs → lv_has ls 8 [(1, .int a1), (2, .int a2), (3, .int a3)] → W p l e rmX10_even s m args below meth cod H locs 0 0 Q (F0 m 61 ls [.long v12]) := by
        intro v12 H locs ls h G hl
        rw [eK13] at h
        refine lv_lstore (lv' := [(4, .long v12), (1, .int a1), (2, .int a2), (3, .int a3)]) hx hb dX10_even_61 hl (by decide) rfl (fun ls hl => ?_)
        refine lv_iload_n hx hb dX10_even_63 rfl (lv_at hl 1 rfl) ?_
        refine lv_iconst (v := 2) hx hb dX10_even_64 (by decide) ?_
        refine lv_idiv hx hb dX10_even_65 (by decide) ?_
        refine lv_topi (fun x14 ex14 => ?_)
        replace h := gv_s h x14 ex14
        refine lv_istore (lv' := [(6, .int x14), (4, .long v12), (1, .int a1), (2, .int a2), (3, .int a3)]) hx hb dX10_even_66 hl (by decide) rfl (fun ls hl => ?_)
        refine lv_iconst (v := 1) hx hb dX10_even_68 (by decide) ?_
        refine lv_istore (lv' := [(7, .int 1), (6, .int x14), (4, .long v12), (1, .int a1), (2, .int a2), (3, .int a3)]) hx hb dX10_even_69 hl (by decide) rfl (fun ls hl => ?_)
        obtain ⟨b15, hb15, hK15⟩ := gb_s h
        have E15 : ∀ (z18 : Int64) (H : Heap) (locs : List Loc) (ls : Array Slot), (z18 : Int64) = b15 → gW D ad cy N A s.heap c0 c10 H locs → lv_has ls 8 [(1, .int a1), (2, .int a2), (3, .int a3), (4, .long z18), (6, .int x14)] → W p l e rmX10_even s m args below meth cod H locs 0 0 Q (F0 m 99 ls []) := by
          intro z18 H locs ls hq15 G hl
          subst hq15
          replace hK15 := hK15
          have h := hK15
          refine lv_iconst (v := 0) hx hb dX10_even_99 (by decide) ?_
          refine lv_istore (lv' := [(7, .int 0), (1, .int a1), (2, .int a2), (3, .int a3), (4, .long z18), (6, .int x14)]) hx hb dX10_even_100 hl (by decide) rfl (fun ls hl => ?_)
          obtain ⟨b19, hb19, hK19⟩ := gb_s h
          have E19 : ∀ (z22 : Int64) (H : Heap) (locs : List Loc) (ls : Array Slot), (z22 : Int64) = b19 → gW D ad cy N A s.heap c0 c10 H locs → lv_has ls 8 [(1, .int a1), (3, .int a3), (4, .long z22)] → W p l e rmX10_even s m args below meth cod H locs 0 0 Q (F0 m 127 ls []) := by
            intro z22 H locs ls hq19 G hl
            subst hq19
            replace hK19 := hK19
            have h := hK19
            refine lv_lload hx hb dX10_even_127 (lv_at hl 2 rfl) ?_
            refine lv_lconst (v := 1) hx hb dX10_even_129 (by decide) ?_
            refine lv_iconst (v := 4) hx hb dX10_even_130 (by decide) ?_
            refine lv_iload_n hx hb dX10_even_131 rfl (lv_at hl 0 rfl) ?_
            refine lv_imul hx hb dX10_even_132 ?_
            refine lv_lshl hx hb dX10_even_133 rfl ?_
            refine lv_iload_n hx hb dX10_even_134 rfl (lv_at hl 1 rfl) ?_
            obtain ⟨r24, hc23, h⟩ := gb_s h
            refine gx_calll F G (va_runS (As := [.long z22, .long ((1 : Int64) <<< (Int32.toInt64 (4 * a1) &&& 63)), .int a3]) (rest := []) (gx_fix F) (c_X10_partOf l sa D ad cy N H.size hN hI c0 c10 hc23) (va_cwS 3 hts gX10_even_X10_partOf rfl rfl rfl (by decide +kernel) ⟨by decide, by decide⟩) (gx_pre F G) rfl rfl hl.1 rfl (lv_room (Nat.le_of_ble_eq_true rfl)) dX10_even_135 ⟨Nat.zero_le _, Nat.zero_le _⟩) (fun H locs G => ?_)
            cases h
            rw [← hQ]
            exact gx_lret F G hr hlocks dX10_even_138
          have L19 : ∀ (n9 : Nat) (y20 : Int64) (y21 : Int32) (H : Heap) (locs : List Loc) (ls : Array Slot), gloop (gu2 (fun (y20 : Int64) (y21 : Int32) => m_X10_even_L102 a2 x14 y20 y21)) n9 (y20, y21) = some b19 → gW D ad cy N A s.heap c0 c10 H locs → lv_has ls 8 [(1, .int a1), (2, .int a2), (3, .int a3), (4, .long y20), (6, .int x14), (7, .int y21)] → W p l e rmX10_even s m args below meth cod H locs 0 0 Q (F0 m 102 ls []) := by
            intro n9
            induction n9 with
            | zero => intro y20 y21 H locs ls h; exact (gloop_0 h).elim
            | succ n9 ih =>
              intro y20 y21 H locs ls h G hl
              have ih19 := ih
              obtain ⟨o19, h, hn19⟩ := gloop_s h
              replace h := gu2_s h
              unfold m_X10_even_L102 at h
              refine lv_iload hx hb dX10_even_102 (lv_at hl 5 rfl) ?_
              refine lv_iload hx hb dX10_even_104 (lv_at hl 4 rfl) ?_
              refine lv_icmp_ge (tgt := 127) hx hb dX10_even_106 (by decide) (fun q25 => ?_) (fun q25 => ?_)
              · replace h := gt_s q25 h
                cases h
                exact E19 _ _ _ _ (gnx_r hn19) G (lv_sub hl [0, 2, 3] rfl)
              · replace h := gf_s q25 h
                refine lv_lload hx hb dX10_even_109 (lv_at hl 3 rfl) ?_
                refine lv_iload_n hx hb dX10_even_111 rfl (lv_at hl 1 rfl) ?_
                refine lv_bipush (v := 16) hx hb dX10_even_112 (by decide) ?_
                refine lv_iload_n hx hb dX10_even_114 rfl (lv_at hl 1 rfl) ?_
                refine lv_isub hx hb dX10_even_115 ?_
                refine lv_imul hx hb dX10_even_116 ?_
                refine lv_i2l hx hb dX10_even_117 rfl ?_
                refine lv_lmul hx hb dX10_even_118 ?_
                refine lv_topl (fun x26 ex26 => ?_)
                replace h := gv_s h x26 ex26
                refine lv_lstore (lv' := [(4, .long x26), (1, .int a1), (2, .int a2), (3, .int a3), (6, .int x14), (7, .int y21)]) hx hb dX10_even_119 hl (by decide) rfl (fun ls hl => ?_)
                obtain ⟨x27, ex27⟩ : ∃ z : Int32, z = y21 + 1 := ⟨_, rfl⟩
                replace h := gv_s h x27 ex27
                refine lv_iinc (v := x27) (lv' := [(7, .int x27), (4, .long x26), (1, .int a1), (2, .int a2), (3, .int a3), (6, .int x14)]) hx hb dX10_even_121 hl (k := 5) rfl (by rw [ex27]; rfl) (by decide) rfl (fun ls hl => ?_)
                refine lv_goto (tgt := 102) hx hb dX10_even_124 (by decide) ?_
                cases h
                exact ih19 _ _ _ _ _ hn19 G (lv_sub hl [2, 3, 4, 1, 5, 0] rfl)
          exact L19 n _ _ _ _ _ hb19 G (lv_sub hl [1, 2, 3, 4, 5, 0] rfl)
        have L15 : ∀ (n9 : Nat) (y16 : Int64) (y17 : Int32) (H : Heap) (locs : List Loc) (ls : Array Slot), gloop (gu2 (fun (y16 : Int64) (y17 : Int32) => m_X10_even_L71 x14 y16 y17)) n9 (y16, y17) = some b15 → gW D ad cy N A s.heap c0 c10 H locs → lv_has ls 8 [(1, .int a1), (2, .int a2), (3, .int a3), (4, .long y16), (6, .int x14), (7, .int y17)] → W p l e rmX10_even s m args below meth cod H locs 0 0 Q (F0 m 71 ls []) := by
          intro n9
          induction n9 with
          | zero => intro y16 y17 H locs ls h; exact (gloop_0 h).elim
          | succ n9 ih =>
            intro y16 y17 H locs ls h G hl
            have ih15 := ih
            obtain ⟨o15, h, hn15⟩ := gloop_s h
            replace h := gu2_s h
            unfold m_X10_even_L71 at h
            refine lv_iload hx hb dX10_even_71 (lv_at hl 5 rfl) ?_
            refine lv_iload hx hb dX10_even_73 (lv_at hl 4 rfl) ?_
            refine lv_icmp_gt (tgt := 99) hx hb dX10_even_75 (by decide) (fun q28 => ?_) (fun q28 => ?_)
            · replace h := gt_s q28 h
              cases h
              exact E15 _ _ _ _ (gnx_r hn15) G (lv_sub hl [0, 1, 2, 3, 4] rfl)
            · replace h := gf_s q28 h
              refine lv_lload hx hb dX10_even_78 (lv_at hl 3 rfl) ?_
              refine lv_iload hx hb dX10_even_80 (lv_at hl 4 rfl) ?_
              refine lv_iload hx hb dX10_even_82 (lv_at hl 5 rfl) ?_
              refine lv_iadd hx hb dX10_even_84 ?_
              refine lv_i2l hx hb dX10_even_85 rfl ?_
              refine lv_lmul hx hb dX10_even_86 ?_
              refine lv_iload hx hb dX10_even_87 (lv_at hl 5 rfl) ?_
              refine lv_i2l hx hb dX10_even_89 rfl ?_
              obtain ⟨hz29, h⟩ := gc_s h
              refine lv_ldiv hx hb dX10_even_90 hz29 ?_
              refine lv_topl (fun x30 ex30 => ?_)
              replace h := gv_s h x30 ex30
              refine lv_lstore (lv' := [(4, .long x30), (1, .int a1), (2, .int a2), (3, .int a3), (6, .int x14), (7, .int y17)]) hx hb dX10_even_91 hl (by decide) rfl (fun ls hl => ?_)
              obtain ⟨x31, ex31⟩ : ∃ z : Int32, z = y17 + 1 := ⟨_, rfl⟩
              replace h := gv_s h x31 ex31
              refine lv_iinc (v := x31) (lv' := [(7, .int x31), (4, .long x30), (1, .int a1), (2, .int a2), (3, .int a3), (6, .int x14)]) hx hb dX10_even_93 hl (k := 5) rfl (by rw [ex31]; rfl) (by decide) rfl (fun ls hl => ?_)
              refine lv_goto (tgt := 71) hx hb dX10_even_96 (by decide) ?_
              cases h
              exact ih15 _ _ _ _ _ hn15 G (lv_sub hl [2, 3, 4, 1, 5, 0] rfl)
        exact L15 n _ _ _ _ _ hb15 G (lv_sub hl [3, 4, 5, 2, 1, 0] rfl)
      refine lv_if_ne (tgt := 60) hx hb dX10_even_53 (by decide) (fun q32 => ?_) (fun q32 => ?_)
      · replace h := gf_s q32 h
        refine lv_lconst (v := 0) hx hb dX10_even_60 (by decide) ?_
        exact JK13 _ _ _ _ h G hl
      · replace h := gt_s q32 h
        refine lv_lconst (v := 1) hx hb dX10_even_56 (by decide) ?_
        refine lv_goto (tgt := 61) hx hb dX10_even_57 (by decide) ?_
        exact JK13 _ _ _ _ h G hl
    · replace h := gf_s q11 h
      refine lv_lconst (v := 0) hx hb dX10_even_48 (by decide) ?_
      cases h
      rw [← hQ]
      exact gx_lret F G hr hlocks dX10_even_49
  obtain ⟨K33, eK33, h⟩ := gj_s h
  have JK33 : ∀ (H : Heap) (locs : List Loc) (ls : Array Slot), K33 () = some (rZ, cZ) → gW D ad cy N A s.heap c0 c3 H locs → lv_has ls 8 [(1, .int a1), (2, .int a2), (3, .int a3)] → W p l e rmX10_even s m args below meth cod H locs 0 0 Q (F0 m 35 ls [.ref (ad t)]) := by
    intro  H locs ls h G hl
    rw [eK33] at h
    refine lv_iconst (v := 1) hx hb dX10_even_35 (by decide) ?_
    refine lv_goto (tgt := 40) hx hb dX10_even_36 (by decide) ?_
    exact JK7 _ _ _ _ h G hl
  refine lv_if_eq (tgt := 35) hx hb dX10_even_13 (by decide) (fun q34 => ?_) (fun q34 => ?_)
  · replace h := gt_s q34 h
    exact JK33  _ _ _ h G (lv_sub hl [1, 2, 3] rfl)
  · replace h := gf_s q34 h
    refine lv_iload_n hx hb dX10_even_16 rfl (lv_at hl 2 rfl) ?_
    refine lv_iconst (v := 0) hx hb dX10_even_17 (by decide) ?_
    refine lv_bipush (v := 16) hx hb dX10_even_18 (by decide) ?_
    obtain ⟨r36, hc35, h⟩ := gb_s h
    refine gx_calli F G (va_runS (As := [.int a2, .int 0, .int 16]) (rest := [.ref (ad t)]) (gx_fix F) (c_X10_in l sa D ad cy N H.size hN hI c0 c3 hc35) (va_cwS 3 hts gX10_even_X10_in rfl rfl rfl (by decide +kernel) ⟨by decide, by decide⟩) (gx_pre F G) rfl rfl hl.1 rfl (lv_room (Nat.le_of_ble_eq_true rfl)) dX10_even_20 ⟨Nat.zero_le _, Nat.zero_le _⟩) (fun H locs G => ?_)
    refine lv_if_eq (tgt := 35) hx hb dX10_even_23 (by decide) (fun q37 => ?_) (fun q37 => ?_)
    · replace h := gt_s q37 h
      exact JK33  _ _ _ h G (lv_sub hl [1, 2, 3] rfl)
    · replace h := gf_s q37 h
      refine lv_iload_n hx hb dX10_even_26 rfl (lv_at hl 3 rfl) ?_
      refine lv_iconst (v := 0) hx hb dX10_even_27 (by decide) ?_
      refine lv_iconst (v := 1) hx hb dX10_even_28 (by decide) ?_
      obtain ⟨r39, hc38, h⟩ := gb_s h
      refine gx_calli F G (va_runS (As := [.int a3, .int 0, .int 1]) (rest := [.ref (ad t)]) (gx_fix F) (c_X10_in l sa D ad cy N H.size hN hI c0 c3 hc38) (va_cwS 3 hts gX10_even_X10_in rfl rfl rfl (by decide +kernel) ⟨by decide, by decide⟩) (gx_pre F G) rfl rfl hl.1 rfl (lv_room (Nat.le_of_ble_eq_true rfl)) dX10_even_29 ⟨Nat.zero_le _, Nat.zero_le _⟩) (fun H locs G => ?_)
      refine lv_if_ne (tgt := 39) hx hb dX10_even_32 (by decide) (fun q40 => ?_) (fun q40 => ?_)
      · replace h := gf_s q40 h
        refine lv_iconst (v := 0) hx hb dX10_even_39 (by decide) ?_
        exact JK7 _ _ _ _ h G (lv_sub hl [1, 2, 3] rfl)
      · replace h := gt_s q40 h
        exact JK33  _ _ _ h G (lv_sub hl [1, 2, 3] rfl)
def m_X10_givenBy_L5 (t : Nat) (a1 : Int32) (a2 : Int32) (c : gm) (y2 : Int32) (y3 : Int32) : Option ((Int32 × Int32) ⊕ (Int32)) :=
  gc (gck t = 10) ((if (c.1 59 (0 : Int32).toNatClampNeg) ≤ y3 then some (.inr y2) else gb (m_X10_has a1 y3) (fun (r13 : Int32) => gj (fun (v14 : Int32) => gv (y2 + v14) (fun (x16 : Int32) => gv (y3 + 1) (fun (x17 : Int32) => some (.inl (x16, x17))))) (fun K15 => (if r13 = 0 then K15 0 else gc (0 ≤ (0 + y3).toInt ∧ (0 + y3).toInt < 60) (gb (m_X10_less a2 (c.1 503 (0 + y3).toNatClampNeg)) (fun (r24 : Int32) => K15 r24)))))))
def m_X10_givenBy (n : Nat) (t : Nat) (a1 : Int32) (a2 : Int32) (c : gm) : Option (Int32) :=
  gb (gloop (gu2 (fun (y2 : Int32) (y3 : Int32) => m_X10_givenBy_L5 t a1 a2 c y2 y3)) n (0, 0)) (fun (z4 : Int32) => some z4)
abbrev rmX10_givenBy : Room := { frames := 1, cells := 0, slots := 0, locals := 21 }
set_option maxHeartbeats 4000000 in
set_option maxRecDepth 100000 in
theorem c_X10_givenBy (l : Launch) (sa : gSa) (D : va_G) (ad : Nat → Nat) (cy : Nat → ClassId) (N sz : Nat) (hN : 530 ≤ N) (hI : gI ad N) (c0 c : gm) {n : Nat} {t : Nat} {a1 : Int32} {a2 : Int32} {rZ : Int32} (h : m_X10_givenBy n t a1 a2 c = some rZ) : Met l yX10_givenBy wsX10_givenBy rmX10_givenBy (va_Pc [.ref (ad t), .int a1, .int a2] (gP sa D ad cy N sz c0 c)) (va_Qi (fun (z : Int32) (_ : Unit) => z = rZ) (fun _ U => gE D ad cy N c0 c U) (gA ad N sz)) 0 0 (gA ad N sz) := by
  refine Met.ofW (cc := cX10_givenBy) (maxL := 5) (ret := (some .int)) (by decide) rfl ?_
  intro p e s m args below meth cod s₁ B hml hv
  obtain ⟨rfl, hsz, hP, hK, hZ⟩ := hv
  have hx := B.exec
  have hb := B.bytes
  have hr := B.returns
  have hts := atoms_spec (ws := wsX10_givenBy) B.pre
  have hown : s.vm.findClass RX10 = some m.cls := findClass_of_methodNamed B.named
  have hlocks := B.notSynchronized
  subst hsz
  have hl := lv_entry ([.ref (ad t), .int a1, .int a2]) (n := 5) (Nat.le_of_ble_eq_true rfl)
  rw [lg_entry_eq]
  generalize (lg_sl ([.ref (ad t), .int a1, .int a2]) ++ List.replicate (5 - (lg_sl ([.ref (ad t), .int a1, .int a2])).length) Slot.unset).toArray = ls at hl ⊢
  have hl : lv_has ls 5 [(0, .ref (ad t)), (1, .int a1), (2, .int a2)] := hl
  have in10 : ∀ w ∈ wsX100, w ∈ wsX10_givenBy := by decide +kernel
  generalize hargs : ([.ref (ad t), .int a1, .int a2] : List Value).toArray = args at *
  generalize hAe : gA ad N s.heap.size = A
  have F : gF sa D ad cy N A p s m args cod cX10_givenBy 5 wsX10_givenBy RX10 := ⟨hx, hb, hml, hown, hts, hK, hI, by rw [← hAe]; exact gA_ad, by rw [← hAe]; exact gA_sz, by rw [← hAe]; exact hZ⟩
  have G : gW D ad cy N A s.heap c0 c s.heap [] := ⟨hP, va_S.rf⟩
  generalize hQ : MQ below (va_Qi (fun (z : Int32) (_ : Unit) => z = rZ) (fun _ U => gE D ad cy N c0 c U) A) args s 0 0 A = Q
  suffices hgen : ∀ (H : Heap) (locs : List Loc), gW D ad cy N A s.heap c0 c H locs → W p l e rmX10_givenBy s m args below meth cod H locs 0 0 Q (F0 m 0 ls []) from hgen _ _ G
  clear G
  intro H locs G
  unfold m_X10_givenBy at h
  refine lv_iconst (v := 0) hx hb dX10_givenBy_0 (by decide) ?_
  refine lv_istore_n (lv' := [(3, .int 0), (0, .ref (ad t)), (1, .int a1), (2, .int a2)]) hx hb dX10_givenBy_1 rfl hl (by decide) rfl (fun ls hl => ?_)
  refine lv_iconst (v := 0) hx hb dX10_givenBy_2 (by decide) ?_
  refine lv_istore (lv' := [(4, .int 0), (3, .int 0), (0, .ref (ad t)), (1, .int a1), (2, .int a2)]) hx hb dX10_givenBy_3 hl (by decide) rfl (fun ls hl => ?_)
  obtain ⟨b1, hb1, hK1⟩ := gb_s h
  have E1 : ∀ (z4 : Int32) (H : Heap) (locs : List Loc) (ls : Array Slot), (z4 : Int32) = b1 → gW D ad cy N A s.heap c0 c H locs → lv_has ls 5 [(3, .int z4)] → W p l e rmX10_givenBy s m args below meth cod H locs 0 0 Q (F0 m 51 ls []) := by
    intro z4 H locs ls hq1 G hl
    subst hq1
    replace hK1 := hK1
    have h := hK1
    refine lv_iload_n hx hb dX10_givenBy_51 rfl (lv_at hl 0 rfl) ?_
    cases h
    rw [← hQ]
    exact gx_iret F G hr hlocks dX10_givenBy_52
  have L1 : ∀ (n9 : Nat) (y2 : Int32) (y3 : Int32) (H : Heap) (locs : List Loc) (ls : Array Slot), gloop (gu2 (fun (y2 : Int32) (y3 : Int32) => m_X10_givenBy_L5 t a1 a2 c y2 y3)) n9 (y2, y3) = some b1 → gW D ad cy N A s.heap c0 c H locs → lv_has ls 5 [(0, .ref (ad t)), (1, .int a1), (2, .int a2), (3, .int y2), (4, .int y3)] → W p l e rmX10_givenBy s m args below meth cod H locs 0 0 Q (F0 m 5 ls []) := by
    intro n9
    induction n9 with
    | zero => intro y2 y3 H locs ls h; exact (gloop_0 h).elim
    | succ n9 ih =>
      intro y2 y3 H locs ls h G hl
      have ih1 := ih
      obtain ⟨o1, h, hn1⟩ := gloop_s h
      replace h := gu2_s h
      unfold m_X10_givenBy_L5 at h
      refine lv_iload hx hb dX10_givenBy_5 (lv_at hl 4 rfl) ?_
      refine lv_aload_n hx hb dX10_givenBy_7 rfl (lv_at hl 0 rfl) ?_
      obtain ⟨hk5, h⟩ := gc_s h
      have ht6 : t < N := Nat.lt_of_lt_of_le (gck_lt10 hk5) hN
      refine fg_10_told F G hk5 ht6 in10 (by decide +kernel) dX10_givenBy_8 ?_
      have hk7 : gck 59 = 22 := rfl
      have ht8 : 59 < N := Nat.lt_of_lt_of_le (by decide) hN
      have hn9 : gal 59 = 4 := rfl
      refine lv_iconst (v := 0) hx hb dX10_givenBy_11 (by decide) ?_
      refine gx_mia F G hk7 ht8 hn9 (by decide) dX10_givenBy_12 ?_
      refine lv_icmp_ge (tgt := 51) hx hb dX10_givenBy_13 (by decide) (fun q11 => ?_) (fun q11 => ?_)
      · replace h := gt_s q11 h
        cases h
        exact E1 _ _ _ _ (gnx_r hn1) G (lv_sub hl [3] rfl)
      · replace h := gf_s q11 h
        refine lv_iload_n hx hb dX10_givenBy_16 rfl (lv_at hl 3 rfl) ?_
        refine lv_iload_n hx hb dX10_givenBy_17 rfl (lv_at hl 1 rfl) ?_
        refine lv_iload hx hb dX10_givenBy_18 (lv_at hl 4 rfl) ?_
        obtain ⟨r13, hc12, h⟩ := gb_s h
        refine gx_calli F G (va_runS (As := [.int a1, .int y3]) (rest := [.int y2]) (gx_fix F) (c_X10_has l sa D ad cy N H.size hN hI c0 c hc12) (va_cwS 2 hts gX10_givenBy_X10_has rfl rfl rfl (by decide +kernel) ⟨by decide, by decide⟩) (gx_pre F G) rfl rfl hl.1 rfl (lv_room (Nat.le_of_ble_eq_true rfl)) dX10_givenBy_20 ⟨Nat.zero_le _, Nat.zero_le _⟩) (fun H locs G => ?_)
        obtain ⟨K15, eK15, h⟩ := gj_s h
        have JK15 : ∀ (v14 : Int32) (H : Heap) (locs : List Loc) (ls : Array Slot), K15 v14 = some o1 → gW D ad cy N A s.heap c0 c H locs → lv_has ls 5 [(0, .ref (ad t)), (1, .int a1), (2, .int a2), (4, .int y3)] → W p l e rmX10_givenBy s m args below meth cod H locs 0 0 Q (F0 m 43 ls [.int v14, .int y2]) := by
          intro v14 H locs ls h G hl
          rw [eK15] at h
          refine lv_iadd hx hb dX10_givenBy_43 ?_
          refine lv_topi (fun x16 ex16 => ?_)
          replace h := gv_s h x16 ex16
          refine lv_istore_n (lv' := [(3, .int x16), (0, .ref (ad t)), (1, .int a1), (2, .int a2), (4, .int y3)]) hx hb dX10_givenBy_44 rfl hl (by decide) rfl (fun ls hl => ?_)
          obtain ⟨x17, ex17⟩ : ∃ z : Int32, z = y3 + 1 := ⟨_, rfl⟩
          replace h := gv_s h x17 ex17
          refine lv_iinc (v := x17) (lv' := [(4, .int x17), (3, .int x16), (0, .ref (ad t)), (1, .int a1), (2, .int a2)]) hx hb dX10_givenBy_45 hl (k := 4) rfl (by rw [ex17]; rfl) (by decide) rfl (fun ls hl => ?_)
          refine lv_goto (tgt := 5) hx hb dX10_givenBy_48 (by decide) ?_
          cases h
          exact ih1 _ _ _ _ _ hn1 G (lv_sub hl [2, 3, 4, 1, 0] rfl)
        refine lv_if_eq (tgt := 42) hx hb dX10_givenBy_23 (by decide) (fun q18 => ?_) (fun q18 => ?_)
        · replace h := gt_s q18 h
          refine lv_iconst (v := 0) hx hb dX10_givenBy_42 (by decide) ?_
          exact JK15 _ _ _ _ h G (lv_sub hl [0, 1, 2, 4] rfl)
        · replace h := gf_s q18 h
          refine lv_iload_n hx hb dX10_givenBy_26 rfl (lv_at hl 2 rfl) ?_
          refine lv_aload_n hx hb dX10_givenBy_27 rfl (lv_at hl 0 rfl) ?_
          refine fg_10_now F G hk5 ht6 in10 (by decide +kernel) dX10_givenBy_28 ?_
          have hk19 : gck 503 = 22 := rfl
          have ht20 : 503 < N := Nat.lt_of_lt_of_le (by decide) hN
          have hn21 : gal 503 = 60 := rfl
          refine lv_iconst (v := 0) hx hb dX10_givenBy_31 (by decide) ?_
          refine lv_iload hx hb dX10_givenBy_32 (lv_at hl 4 rfl) ?_
          refine lv_iadd hx hb dX10_givenBy_34 ?_
          obtain ⟨hi22, h⟩ := gc_s h
          refine gx_mia F G hk19 ht20 hn21 hi22 dX10_givenBy_35 ?_
          obtain ⟨r24, hc23, h⟩ := gb_s h
          refine gx_calli F G (va_runS (As := [.int a2, .int (c.1 503 (0 + y3).toNatClampNeg)]) (rest := [.int y2]) (gx_fix F) (c_X10_less l sa D ad cy N H.size hN hI c0 c hc23) (va_cwS 2 hts gX10_givenBy_X10_less rfl rfl rfl (by decide +kernel) ⟨by decide, by decide⟩) (gx_pre F G) rfl rfl hl.1 rfl (lv_room (Nat.le_of_ble_eq_true rfl)) dX10_givenBy_36 ⟨Nat.zero_le _, Nat.zero_le _⟩) (fun H locs G => ?_)
          refine lv_goto (tgt := 43) hx hb dX10_givenBy_39 (by decide) ?_
          exact JK15 _ _ _ _ h G (lv_sub hl [0, 1, 2, 4] rfl)
  exact L1 n _ _ _ _ _ hb1 G (lv_sub hl [2, 3, 4, 1, 0] rfl)
def m_X10_share_L65 (n : Nat) (t : Nat) (a2 : Int32) (a3 : Int32) (c18 : gm) (y21 : Int32) : Option ((Int32) ⊕ (Int32)) :=
  (if 60 ≤ y21 then some (.inr y21) else gb (m_X10_givenBy n t a2 (y21 + 1) c18) (fun (r34 : Int32) => (if a3 < r34 then some (.inr y21) else gv (y21 + 1) (fun (x36 : Int32) => some (.inl x36)))))
def m_X10_share (n : Nat) (t : Nat) (a1 : Int32) (a2 : Int32) (a3 : Int32) (c : gm) : Option (Int32 × gm) :=
  gc (gck t = 10) (gv (gm_r c t (upd (c.1 t) 0 0)) (fun (c3 : gm) => gb (m_X10_isThing t a1 c3) (fun (r5 : Int32) => gj (fun (v6 : Int32) => gb2 (m_X10_bad t v6 1 0 c3) (fun (r9 : Int32) (c10 : gm) => (if r9 = 0 then gb (m_X10_isSet t a2 c10) (fun (r13 : Int32) => gj (fun (v14 : Int32) => gb2 (m_X10_bad t v14 2 1 c10) (fun (r17 : Int32) (c18 : gm) => (if r17 = 0 then gb (gloop (fun (y21 : Int32) => m_X10_share_L65 n t a2 a3 c18 y21) n 0) (fun (z22 : Int32) => gb (m_X10_has a2 a1) (fun (r24 : Int32) => (if r24 = 0 then some (0, c18) else gc (0 ≤ (0 + a1).toInt ∧ (0 + a1).toInt < 60) (gb (m_X10_less z22 (c18.1 503 (0 + a1).toNatClampNeg)) (fun (r31 : Int32) => some (r31, c18)))))) else some (0, c18)))) (fun K15 => gj (fun (_ : Unit) => K15 1) (fun K37 => (if r13 = 0 then K37 () else gb (m_X10_in a3 0 999) (fun (r40 : Int32) => (if r40 = 0 then K37 () else K15 0)))))) else some (0, c10)))) (fun K7 => (if r5 = 0 then K7 1 else K7 0)))))
abbrev rmX10_share : Room := { frames := 2, cells := 0, slots := 0, locals := 45 }
set_option maxHeartbeats 4000000 in
set_option maxRecDepth 100000 in
theorem c_X10_share (l : Launch) (sa : gSa) (D : va_G) (ad : Nat → Nat) (cy : Nat → ClassId) (N sz : Nat) (hN : 530 ≤ N) (hI : gI ad N) (c0 c : gm) {n : Nat} {t : Nat} {a1 : Int32} {a2 : Int32} {a3 : Int32} {rZ : Int32} {cZ : gm} (h : m_X10_share n t a1 a2 a3 c = some (rZ, cZ)) : Met l yX10_share wsX10_share rmX10_share (va_Pc [.ref (ad t), .int a1, .int a2, .int a3] (gP sa D ad cy N sz c0 c)) (va_Qi (fun (z : Int32) (_ : Unit) => z = rZ) (fun _ U => gE D ad cy N c0 cZ U) (gA ad N sz)) 0 0 (gA ad N sz) := by
  refine Met.ofW (cc := cX10_share) (maxL := 5) (ret := (some .int)) (by decide) rfl ?_
  intro p e s m args below meth cod s₁ B hml hv
  obtain ⟨rfl, hsz, hP, hK, hZ⟩ := hv
  have hx := B.exec
  have hb := B.bytes
  have hr := B.returns
  have hts := atoms_spec (ws := wsX10_share) B.pre
  have hown : s.vm.findClass RX10 = some m.cls := findClass_of_methodNamed B.named
  have hlocks := B.notSynchronized
  subst hsz
  have hl := lv_entry ([.ref (ad t), .int a1, .int a2, .int a3]) (n := 5) (Nat.le_of_ble_eq_true rfl)
  rw [lg_entry_eq]
  generalize (lg_sl ([.ref (ad t), .int a1, .int a2, .int a3]) ++ List.replicate (5 - (lg_sl ([.ref (ad t), .int a1, .int a2, .int a3])).length) Slot.unset).toArray = ls at hl ⊢
  have hl : lv_has ls 5 [(0, .ref (ad t)), (1, .int a1), (2, .int a2), (3, .int a3)] := hl
  have in10 : ∀ w ∈ wsX100, w ∈ wsX10_share := by decide +kernel
  generalize hargs : ([.ref (ad t), .int a1, .int a2, .int a3] : List Value).toArray = args at *
  generalize hAe : gA ad N s.heap.size = A
  have F : gF sa D ad cy N A p s m args cod cX10_share 5 wsX10_share RX10 := ⟨hx, hb, hml, hown, hts, hK, hI, by rw [← hAe]; exact gA_ad, by rw [← hAe]; exact gA_sz, by rw [← hAe]; exact hZ⟩
  have G : gW D ad cy N A s.heap c0 c s.heap [] := ⟨hP, va_S.rf⟩
  generalize hQ : MQ below (va_Qi (fun (z : Int32) (_ : Unit) => z = rZ) (fun _ U => gE D ad cy N c0 cZ U) A) args s 0 0 A = Q
  suffices hgen : ∀ (H : Heap) (locs : List Loc), gW D ad cy N A s.heap c0 c H locs → W p l e rmX10_share s m args below meth cod H locs 0 0 Q (F0 m 0 ls []) from hgen _ _ G
  clear G
  intro H locs G
  unfold m_X10_share at h
  refine lv_aload_n hx hb dX10_share_0 rfl (lv_at hl 0 rfl) ?_
  refine lv_iconst (v := 0) hx hb dX10_share_1 (by decide) ?_
  obtain ⟨hk1, h⟩ := gc_s h
  have ht2 : t < N := Nat.lt_of_lt_of_le (gck_lt10 hk1) hN
  refine fp_10_thrown F G hk1 ht2 in10 (by decide +kernel) dX10_share_2 (fun H locs G => ?_)
  obtain ⟨c3, ec3⟩ : ∃ z, z = gm_r c t (upd (c.1 t) 0 0) := ⟨_, rfl⟩
  rw [← ec3] at G
  replace h := gv_s h c3 ec3
  refine lv_aload_n hx hb dX10_share_5 rfl (lv_at hl 0 rfl) ?_
  refine lv_aload_n hx hb dX10_share_6 rfl (lv_at hl 0 rfl) ?_
  refine lv_iload_n hx hb dX10_share_7 rfl (lv_at hl 1 rfl) ?_
  obtain ⟨r5, hc4, h⟩ := gb_s h
  refine gx_calli F G (va_runV (As := [.int a1]) (rest := [.ref (ad t)]) (gx_fix F) (c_X10_isThing l sa D ad cy N H.size hN hI c0 c3 hc4) (cwV 1 hts gX10_share_X10_isThing rfl rfl rfl (by decide +kernel) ⟨by decide, by decide⟩) (gx_rec F G ht2 (gwe_10 hk1) rfl) rfl rfl hl.1 rfl (lv_room (Nat.le_of_ble_eq_true rfl)) dX10_share_8 ⟨Nat.zero_le _, Nat.zero_le _⟩) (fun H locs G => ?_)
  obtain ⟨K7, eK7, h⟩ := gj_s h
  have JK7 : ∀ (v6 : Int32) (H : Heap) (locs : List Loc) (ls : Array Slot), K7 v6 = some (rZ, cZ) → gW D ad cy N A s.heap c0 c3 H locs → lv_has ls 5 [(0, .ref (ad t)), (1, .int a1), (2, .int a2), (3, .int a3)] → W p l e rmX10_share s m args below meth cod H locs 0 0 Q (F0 m 19 ls [.int v6, .ref (ad t)]) := by
    intro v6 H locs ls h G hl
    rw [eK7] at h
    refine lv_iconst (v := 1) hx hb dX10_share_19 (by decide) ?_
    refine lv_iconst (v := 0) hx hb dX10_share_20 (by decide) ?_
    obtain ⟨r9, c10, hc8, h⟩ := gb2_s h
    refine gx_calli F G (va_runV (As := [.int v6, .int 1, .int 0]) (rest := []) (gx_fix F) (c_X10_bad l sa D ad cy N H.size hN hI c0 c3 hc8) (cwV 3 hts gX10_share_X10_bad rfl rfl rfl (by decide +kernel) ⟨by decide, by decide⟩) (gx_rec F G ht2 (gwe_10 hk1) rfl) rfl rfl hl.1 rfl (lv_room (Nat.le_of_ble_eq_true rfl)) dX10_share_21 ⟨Nat.zero_le _, Nat.zero_le _⟩) (fun H locs G => ?_)
    refine lv_if_ne (tgt := 60) hx hb dX10_share_24 (by decide) (fun q11 => ?_) (fun q11 => ?_)
    · replace h := gf_s q11 h
      refine lv_iconst (v := 0) hx hb dX10_share_60 (by decide) ?_
      cases h
      rw [← hQ]
      exact gx_iret F G hr hlocks dX10_share_61
    · replace h := gt_s q11 h
      refine lv_aload_n hx hb dX10_share_27 rfl (lv_at hl 0 rfl) ?_
      refine lv_aload_n hx hb dX10_share_28 rfl (lv_at hl 0 rfl) ?_
      refine lv_iload_n hx hb dX10_share_29 rfl (lv_at hl 2 rfl) ?_
      obtain ⟨r13, hc12, h⟩ := gb_s h
      refine gx_calli F G (va_runV (As := [.int a2]) (rest := [.ref (ad t)]) (gx_fix F) (c_X10_isSet l sa D ad cy N H.size hN hI c0 c10 hc12) (cwV 1 hts gX10_share_X10_isSet rfl rfl rfl (by decide +kernel) ⟨by decide, by decide⟩) (gx_rec F G ht2 (gwe_10 hk1) rfl) rfl rfl hl.1 rfl (lv_room (Nat.le_of_ble_eq_true rfl)) dX10_share_30 ⟨Nat.zero_le _, Nat.zero_le _⟩) (fun H locs G => ?_)
      obtain ⟨K15, eK15, h⟩ := gj_s h
      have JK15 : ∀ (v14 : Int32) (H : Heap) (locs : List Loc) (ls : Array Slot), K15 v14 = some (rZ, cZ) → gW D ad cy N A s.heap c0 c10 H locs → lv_has ls 5 [(0, .ref (ad t)), (1, .int a1), (2, .int a2), (3, .int a3)] → W p l e rmX10_share s m args below meth cod H locs 0 0 Q (F0 m 52 ls [.int v14, .ref (ad t)]) := by
        intro v14 H locs ls h G hl
        rw [eK15] at h
        refine lv_iconst (v := 2) hx hb dX10_share_52 (by decide) ?_
        refine lv_iconst (v := 1) hx hb dX10_share_53 (by decide) ?_
        obtain ⟨r17, c18, hc16, h⟩ := gb2_s h
        refine gx_calli F G (va_runV (As := [.int v14, .int 2, .int 1]) (rest := []) (gx_fix F) (c_X10_bad l sa D ad cy N H.size hN hI c0 c10 hc16) (cwV 3 hts gX10_share_X10_bad rfl rfl rfl (by decide +kernel) ⟨by decide, by decide⟩) (gx_rec F G ht2 (gwe_10 hk1) rfl) rfl rfl hl.1 rfl (lv_room (Nat.le_of_ble_eq_true rfl)) dX10_share_54 ⟨Nat.zero_le _, Nat.zero_le _⟩) (fun H locs G => ?_)
        refine lv_if_eq (tgt := 62) hx hb dX10_share_57 (by decide) (fun q19 => ?_) (fun q19 => ?_)
        · replace h := gt_s q19 h
          refine lv_iconst (v := 0) hx hb dX10_share_62 (by decide) ?_
          refine lv_istore (lv' := [(4, .int 0), (0, .ref (ad t)), (1, .int a1), (2, .int a2), (3, .int a3)]) hx hb dX10_share_63 hl (by decide) rfl (fun ls hl => ?_)
          obtain ⟨b20, hb20, hK20⟩ := gb_s h
          have E20 : ∀ (z22 : Int32) (H : Heap) (locs : List Loc) (ls : Array Slot), (z22 : Int32) = b20 → gW D ad cy N A s.heap c0 c18 H locs → lv_has ls 5 [(0, .ref (ad t)), (1, .int a1), (2, .int a2), (4, .int z22)] → W p l e rmX10_share s m args below meth cod H locs 0 0 Q (F0 m 91 ls []) := by
            intro z22 H locs ls hq20 G hl
            subst hq20
            replace hK20 := hK20
            have h := hK20
            refine lv_iload_n hx hb dX10_share_91 rfl (lv_at hl 2 rfl) ?_
            refine lv_iload_n hx hb dX10_share_92 rfl (lv_at hl 1 rfl) ?_
            obtain ⟨r24, hc23, h⟩ := gb_s h
            refine gx_calli F G (va_runS (As := [.int a2, .int a1]) (rest := []) (gx_fix F) (c_X10_has l sa D ad cy N H.size hN hI c0 c18 hc23) (va_cwS 2 hts gX10_share_X10_has rfl rfl rfl (by decide +kernel) ⟨by decide, by decide⟩) (gx_pre F G) rfl rfl hl.1 rfl (lv_room (Nat.le_of_ble_eq_true rfl)) dX10_share_93 ⟨Nat.zero_le _, Nat.zero_le _⟩) (fun H locs G => ?_)
            refine lv_if_eq (tgt := 115) hx hb dX10_share_96 (by decide) (fun q25 => ?_) (fun q25 => ?_)
            · replace h := gt_s q25 h
              refine lv_iconst (v := 0) hx hb dX10_share_115 (by decide) ?_
              cases h
              rw [← hQ]
              exact gx_iret F G hr hlocks dX10_share_116
            · replace h := gf_s q25 h
              refine lv_iload hx hb dX10_share_99 (lv_at hl 3 rfl) ?_
              refine lv_aload_n hx hb dX10_share_101 rfl (lv_at hl 0 rfl) ?_
              refine fg_10_now F G hk1 ht2 in10 (by decide +kernel) dX10_share_102 ?_
              have hk26 : gck 503 = 22 := rfl
              have ht27 : 503 < N := Nat.lt_of_lt_of_le (by decide) hN
              have hn28 : gal 503 = 60 := rfl
              refine lv_iconst (v := 0) hx hb dX10_share_105 (by decide) ?_
              refine lv_iload_n hx hb dX10_share_106 rfl (lv_at hl 1 rfl) ?_
              refine lv_iadd hx hb dX10_share_107 ?_
              obtain ⟨hi29, h⟩ := gc_s h
              refine gx_mia F G hk26 ht27 hn28 hi29 dX10_share_108 ?_
              obtain ⟨r31, hc30, h⟩ := gb_s h
              refine gx_calli F G (va_runS (As := [.int z22, .int (c18.1 503 (0 + a1).toNatClampNeg)]) (rest := []) (gx_fix F) (c_X10_less l sa D ad cy N H.size hN hI c0 c18 hc30) (va_cwS 2 hts gX10_share_X10_less rfl rfl rfl (by decide +kernel) ⟨by decide, by decide⟩) (gx_pre F G) rfl rfl hl.1 rfl (lv_room (Nat.le_of_ble_eq_true rfl)) dX10_share_109 ⟨Nat.zero_le _, Nat.zero_le _⟩) (fun H locs G => ?_)
              refine lv_goto (tgt := 116) hx hb dX10_share_112 (by decide) ?_
              cases h
              rw [← hQ]
              exact gx_iret F G hr hlocks dX10_share_116
          have L20 : ∀ (n9 : Nat) (y21 : Int32) (H : Heap) (locs : List Loc) (ls : Array Slot), gloop (fun (y21 : Int32) => m_X10_share_L65 n t a2 a3 c18 y21) n9 y21 = some b20 → gW D ad cy N A s.heap c0 c18 H locs → lv_has ls 5 [(0, .ref (ad t)), (1, .int a1), (2, .int a2), (3, .int a3), (4, .int y21)] → W p l e rmX10_share s m args below meth cod H locs 0 0 Q (F0 m 65 ls []) := by
            intro n9
            induction n9 with
            | zero => intro y21 H locs ls h; exact (gloop_0 h).elim
            | succ n9 ih =>
              intro y21 H locs ls h G hl
              have ih20 := ih
              obtain ⟨o20, h, hn20⟩ := gloop_s h
              unfold m_X10_share_L65 at h
              refine lv_iload hx hb dX10_share_65 (lv_at hl 4 rfl) ?_
              refine lv_bipush (v := 60) hx hb dX10_share_67 (by decide) ?_
              refine lv_icmp_ge (tgt := 91) hx hb dX10_share_69 (by decide) (fun q32 => ?_) (fun q32 => ?_)
              · replace h := gt_s q32 h
                cases h
                exact E20 _ _ _ _ (gnx_r hn20) G (lv_sub hl [0, 1, 2, 4] rfl)
              · replace h := gf_s q32 h
                refine lv_aload_n hx hb dX10_share_72 rfl (lv_at hl 0 rfl) ?_
                refine lv_iload_n hx hb dX10_share_73 rfl (lv_at hl 2 rfl) ?_
                refine lv_iload hx hb dX10_share_74 (lv_at hl 4 rfl) ?_
                refine lv_iconst (v := 1) hx hb dX10_share_76 (by decide) ?_
                refine lv_iadd hx hb dX10_share_77 ?_
                obtain ⟨r34, hc33, h⟩ := gb_s h
                refine gx_calli F G (va_runV (As := [.int a2, .int (y21 + 1)]) (rest := []) (gx_fix F) (c_X10_givenBy l sa D ad cy N H.size hN hI c0 c18 hc33) (cwV 2 hts gX10_share_X10_givenBy rfl rfl rfl (by decide +kernel) ⟨by decide, by decide⟩) (gx_rec F G ht2 (gwe_10 hk1) rfl) rfl rfl hl.1 rfl (lv_room (Nat.le_of_ble_eq_true rfl)) dX10_share_78 ⟨Nat.zero_le _, Nat.zero_le _⟩) (fun H locs G => ?_)
                refine lv_iload_n hx hb dX10_share_81 rfl (lv_at hl 3 rfl) ?_
                refine lv_icmp_gt (tgt := 91) hx hb dX10_share_82 (by decide) (fun q35 => ?_) (fun q35 => ?_)
                · replace h := gt_s q35 h
                  cases h
                  exact E20 _ _ _ _ (gnx_r hn20) G (lv_sub hl [0, 1, 2, 4] rfl)
                · replace h := gf_s q35 h
                  obtain ⟨x36, ex36⟩ : ∃ z : Int32, z = y21 + 1 := ⟨_, rfl⟩
                  replace h := gv_s h x36 ex36
                  refine lv_iinc (v := x36) (lv' := [(4, .int x36), (0, .ref (ad t)), (1, .int a1), (2, .int a2), (3, .int a3)]) hx hb dX10_share_85 hl (k := 4) rfl (by rw [ex36]; rfl) (by decide) rfl (fun ls hl => ?_)
                  refine lv_goto (tgt := 65) hx hb dX10_share_88 (by decide) ?_
                  cases h
                  exact ih20 _ _ _ _ hn20 G (lv_sub hl [1, 2, 3, 4, 0] rfl)
          exact L20 n _ _ _ _ hb20 G (lv_sub hl [1, 2, 3, 4, 0] rfl)
        · replace h := gf_s q19 h
          refine lv_iconst (v := 0) hx hb dX10_share_60 (by decide) ?_
          cases h
          rw [← hQ]
          exact gx_iret F G hr hlocks dX10_share_61
      obtain ⟨K37, eK37, h⟩ := gj_s h
      have JK37 : ∀ (H : Heap) (locs : List Loc) (ls : Array Slot), K37 () = some (rZ, cZ) → gW D ad cy N A s.heap c0 c10 H locs → lv_has ls 5 [(0, .ref (ad t)), (1, .int a1), (2, .int a2), (3, .int a3)] → W p l e rmX10_share s m args below meth cod H locs 0 0 Q (F0 m 47 ls [.ref (ad t)]) := by
        intro  H locs ls h G hl
        rw [eK37] at h
        refine lv_iconst (v := 1) hx hb dX10_share_47 (by decide) ?_
        refine lv_goto (tgt := 52) hx hb dX10_share_48 (by decide) ?_
        exact JK15 _ _ _ _ h G hl
      refine lv_if_eq (tgt := 47) hx hb dX10_share_33 (by decide) (fun q38 => ?_) (fun q38 => ?_)
      · replace h := gt_s q38 h
        exact JK37  _ _ _ h G hl
      · replace h := gf_s q38 h
        refine lv_iload_n hx hb dX10_share_36 rfl (lv_at hl 3 rfl) ?_
        refine lv_iconst (v := 0) hx hb dX10_share_37 (by decide) ?_
        refine lv_sipush (v := 999) hx hb dX10_share_38 (by decide) ?_
        obtain ⟨r40, hc39, h⟩ := gb_s h
        refine gx_calli F G (va_runS (As := [.int a3, .int 0, .int 999]) (rest := [.ref (ad t)]) (gx_fix F) (c_X10_in l sa D ad cy N H.size hN hI c0 c10 hc39) (va_cwS 3 hts gX10_share_X10_in rfl rfl rfl (by decide +kernel) ⟨by decide, by decide⟩) (gx_pre F G) rfl rfl hl.1 rfl (lv_room (Nat.le_of_ble_eq_true rfl)) dX10_share_41 ⟨Nat.zero_le _, Nat.zero_le _⟩) (fun H locs G => ?_)
        refine lv_if_ne (tgt := 51) hx hb dX10_share_44 (by decide) (fun q41 => ?_) (fun q41 => ?_)
        · replace h := gf_s q41 h
          refine lv_iconst (v := 0) hx hb dX10_share_51 (by decide) ?_
          exact JK15 _ _ _ _ h G hl
        · replace h := gt_s q41 h
          exact JK37  _ _ _ h G hl
  refine lv_if_ne (tgt := 18) hx hb dX10_share_11 (by decide) (fun q42 => ?_) (fun q42 => ?_)
  · replace h := gf_s q42 h
    refine lv_iconst (v := 0) hx hb dX10_share_18 (by decide) ?_
    exact JK7 _ _ _ _ h G hl
  · replace h := gt_s q42 h
    refine lv_iconst (v := 1) hx hb dX10_share_14 (by decide) ?_
    refine lv_goto (tgt := 19) hx hb dX10_share_15 (by decide) ?_
    exact JK7 _ _ _ _ h G hl
def m_X10_heaviest (n : Nat) (t : Nat) (a1 : Int32) (c : gm) : Option (Int32 × gm) :=
  gc (gck t = 10) (gv (gm_r c t (upd (c.1 t) 0 0)) (fun (c3 : gm) => gb (m_X10_in a1 0 1) (fun (r5 : Int32) => gj (fun (v6 : Int32) => gb2 (m_X10_bad t v6 1 1 c3) (fun (r9 : Int32) (c10 : gm) => (if r9 = 0 then gb (m_X10_heaviestIn n t 503 c10) (fun (r16 : Int32) => (if a1 = 0 then some (r16, c10) else (if r16 = (-1) then some (r16, c10) else gc (0 ≤ (0 + r16).toInt ∧ (0 + r16).toInt < 60) (some ((c10.1 503 (0 + r16).toNatClampNeg), c10))))) else some (0, c10)))) (fun K7 => (if r5 = 0 then K7 1 else K7 0)))))
abbrev rmX10_heaviest : Room := { frames := 1, cells := 0, slots := 0, locals := 23 }
set_option maxHeartbeats 4000000 in
set_option maxRecDepth 100000 in
theorem c_X10_heaviest (l : Launch) (sa : gSa) (D : va_G) (ad : Nat → Nat) (cy : Nat → ClassId) (N sz : Nat) (hN : 530 ≤ N) (hI : gI ad N) (c0 c : gm) {n : Nat} {t : Nat} {a1 : Int32} {rZ : Int32} {cZ : gm} (h : m_X10_heaviest n t a1 c = some (rZ, cZ)) : Met l yX10_heaviest wsX10_heaviest rmX10_heaviest (va_Pc [.ref (ad t), .int a1] (gP sa D ad cy N sz c0 c)) (va_Qi (fun (z : Int32) (_ : Unit) => z = rZ) (fun _ U => gE D ad cy N c0 cZ U) (gA ad N sz)) 0 0 (gA ad N sz) := by
  refine Met.ofW (cc := cX10_heaviest) (maxL := 3) (ret := (some .int)) (by decide) rfl ?_
  intro p e s m args below meth cod s₁ B hml hv
  obtain ⟨rfl, hsz, hP, hK, hZ⟩ := hv
  have hx := B.exec
  have hb := B.bytes
  have hr := B.returns
  have hts := atoms_spec (ws := wsX10_heaviest) B.pre
  have hown : s.vm.findClass RX10 = some m.cls := findClass_of_methodNamed B.named
  have hlocks := B.notSynchronized
  subst hsz
  have hl := lv_entry ([.ref (ad t), .int a1]) (n := 3) (Nat.le_of_ble_eq_true rfl)
  rw [lg_entry_eq]
  generalize (lg_sl ([.ref (ad t), .int a1]) ++ List.replicate (3 - (lg_sl ([.ref (ad t), .int a1])).length) Slot.unset).toArray = ls at hl ⊢
  have hl : lv_has ls 3 [(0, .ref (ad t)), (1, .int a1)] := hl
  have in10 : ∀ w ∈ wsX100, w ∈ wsX10_heaviest := by decide +kernel
  generalize hargs : ([.ref (ad t), .int a1] : List Value).toArray = args at *
  generalize hAe : gA ad N s.heap.size = A
  have F : gF sa D ad cy N A p s m args cod cX10_heaviest 3 wsX10_heaviest RX10 := ⟨hx, hb, hml, hown, hts, hK, hI, by rw [← hAe]; exact gA_ad, by rw [← hAe]; exact gA_sz, by rw [← hAe]; exact hZ⟩
  have G : gW D ad cy N A s.heap c0 c s.heap [] := ⟨hP, va_S.rf⟩
  generalize hQ : MQ below (va_Qi (fun (z : Int32) (_ : Unit) => z = rZ) (fun _ U => gE D ad cy N c0 cZ U) A) args s 0 0 A = Q
  suffices hgen : ∀ (H : Heap) (locs : List Loc), gW D ad cy N A s.heap c0 c H locs → W p l e rmX10_heaviest s m args below meth cod H locs 0 0 Q (F0 m 0 ls []) from hgen _ _ G
  clear G
  intro H locs G
  unfold m_X10_heaviest at h
  refine lv_aload_n hx hb dX10_heaviest_0 rfl (lv_at hl 0 rfl) ?_
  refine lv_iconst (v := 0) hx hb dX10_heaviest_1 (by decide) ?_
  obtain ⟨hk1, h⟩ := gc_s h
  have ht2 : t < N := Nat.lt_of_lt_of_le (gck_lt10 hk1) hN
  refine fp_10_thrown F G hk1 ht2 in10 (by decide +kernel) dX10_heaviest_2 (fun H locs G => ?_)
  obtain ⟨c3, ec3⟩ : ∃ z, z = gm_r c t (upd (c.1 t) 0 0) := ⟨_, rfl⟩
  rw [← ec3] at G
  replace h := gv_s h c3 ec3
  refine lv_aload_n hx hb dX10_heaviest_5 rfl (lv_at hl 0 rfl) ?_
  refine lv_iload_n hx hb dX10_heaviest_6 rfl (lv_at hl 1 rfl) ?_
  refine lv_iconst (v := 0) hx hb dX10_heaviest_7 (by decide) ?_
  refine lv_iconst (v := 1) hx hb dX10_heaviest_8 (by decide) ?_
  obtain ⟨r5, hc4, h⟩ := gb_s h
  refine gx_calli F G (va_runS (As := [.int a1, .int 0, .int 1]) (rest := [.ref (ad t)]) (gx_fix F) (c_X10_in l sa D ad cy N H.size hN hI c0 c3 hc4) (va_cwS 3 hts gX10_heaviest_X10_in rfl rfl rfl (by decide +kernel) ⟨by decide, by decide⟩) (gx_pre F G) rfl rfl hl.1 rfl (lv_room (Nat.le_of_ble_eq_true rfl)) dX10_heaviest_9 ⟨Nat.zero_le _, Nat.zero_le _⟩) (fun H locs G => ?_)
  obtain ⟨K7, eK7, h⟩ := gj_s h
  have JK7 : ∀ (v6 : Int32) (H : Heap) (locs : List Loc) (ls : Array Slot), K7 v6 = some (rZ, cZ) → gW D ad cy N A s.heap c0 c3 H locs → lv_has ls 3 [(0, .ref (ad t)), (1, .int a1)] → W p l e rmX10_heaviest s m args below meth cod H locs 0 0 Q (F0 m 20 ls [.int v6, .ref (ad t)]) := by
    intro v6 H locs ls h G hl
    rw [eK7] at h
    refine lv_iconst (v := 1) hx hb dX10_heaviest_20 (by decide) ?_
    refine lv_iconst (v := 1) hx hb dX10_heaviest_21 (by decide) ?_
    obtain ⟨r9, c10, hc8, h⟩ := gb2_s h
    refine gx_calli F G (va_runV (As := [.int v6, .int 1, .int 1]) (rest := []) (gx_fix F) (c_X10_bad l sa D ad cy N H.size hN hI c0 c3 hc8) (cwV 3 hts gX10_heaviest_X10_bad rfl rfl rfl (by decide +kernel) ⟨by decide, by decide⟩) (gx_rec F G ht2 (gwe_10 hk1) rfl) rfl rfl hl.1 rfl (lv_room (Nat.le_of_ble_eq_true rfl)) dX10_heaviest_22 ⟨Nat.zero_le _, Nat.zero_le _⟩) (fun H locs G => ?_)
    refine lv_if_eq (tgt := 30) hx hb dX10_heaviest_25 (by decide) (fun q11 => ?_) (fun q11 => ?_)
    · replace h := gt_s q11 h
      refine lv_aload_n hx hb dX10_heaviest_30 rfl (lv_at hl 0 rfl) ?_
      refine lv_aload_n hx hb dX10_heaviest_31 rfl (lv_at hl 0 rfl) ?_
      refine fg_10_now F G hk1 ht2 in10 (by decide +kernel) dX10_heaviest_32 ?_
      have hk12 : gck 503 = 22 := rfl
      have ht13 : 503 < N := Nat.lt_of_lt_of_le (by decide) hN
      have hn14 : gal 503 = 60 := rfl
      obtain ⟨r16, hc15, h⟩ := gb_s h
      refine gx_calli F G (va_runV (As := [.ref (ad 503)]) (rest := []) (gx_fix F) (c_X10_heaviestIn l sa D ad cy N H.size hN hI c0 c10 hc15) (cwV 1 hts gX10_heaviest_X10_heaviestIn rfl rfl rfl (by decide +kernel) ⟨by decide, by decide⟩) (gx_rec F G ht2 (gwe_10 hk1) rfl) rfl rfl hl.1 rfl (lv_room (Nat.le_of_ble_eq_true rfl)) dX10_heaviest_35 ⟨Nat.zero_le _, Nat.zero_le _⟩) (fun H locs G => ?_)
      refine lv_istore_n (lv' := [(2, .int r16), (0, .ref (ad t)), (1, .int a1)]) hx hb dX10_heaviest_38 rfl hl (by decide) rfl (fun ls hl => ?_)
      refine lv_iload_n hx hb dX10_heaviest_39 rfl (lv_at hl 2 rfl) ?_
      refine lv_if_eq (tgt := 48) hx hb dX10_heaviest_40 (by decide) (fun q17 => ?_) (fun q17 => ?_)
      · replace h := gt_s q17 h
        refine lv_iload_n hx hb dX10_heaviest_48 rfl (lv_at hl 0 rfl) ?_
        refine lv_goto (tgt := 60) hx hb dX10_heaviest_49 (by decide) ?_
        cases h
        rw [← hQ]
        exact gx_iret F G hr hlocks dX10_heaviest_60
      · replace h := gf_s q17 h
        refine lv_iload_n hx hb dX10_heaviest_43 rfl (lv_at hl 0 rfl) ?_
        refine lv_iconst (v := (-1)) hx hb dX10_heaviest_44 (by decide) ?_
        refine lv_icmp_ne (tgt := 52) hx hb dX10_heaviest_45 (by decide) (fun q18 => ?_) (fun q18 => ?_)
        · replace h := gf_s q18 h
          refine lv_aload_n hx hb dX10_heaviest_52 rfl (lv_at hl 1 rfl) ?_
          refine fg_10_now F G hk1 ht2 in10 (by decide +kernel) dX10_heaviest_53 ?_
          refine lv_iconst (v := 0) hx hb dX10_heaviest_56 (by decide) ?_
          refine lv_iload_n hx hb dX10_heaviest_57 rfl (lv_at hl 0 rfl) ?_
          refine lv_iadd hx hb dX10_heaviest_58 ?_
          obtain ⟨hi19, h⟩ := gc_s h
          refine gx_mia F G hk12 ht13 hn14 hi19 dX10_heaviest_59 ?_
          cases h
          rw [← hQ]
          exact gx_iret F G hr hlocks dX10_heaviest_60
        · replace h := gt_s q18 h
          refine lv_iload_n hx hb dX10_heaviest_48 rfl (lv_at hl 0 rfl) ?_
          refine lv_goto (tgt := 60) hx hb dX10_heaviest_49 (by decide) ?_
          cases h
          rw [← hQ]
          exact gx_iret F G hr hlocks dX10_heaviest_60
    · replace h := gf_s q11 h
      refine lv_iconst (v := 0) hx hb dX10_heaviest_28 (by decide) ?_
      cases h
      rw [← hQ]
      exact gx_iret F G hr hlocks dX10_heaviest_29
  refine lv_if_ne (tgt := 19) hx hb dX10_heaviest_12 (by decide) (fun q20 => ?_) (fun q20 => ?_)
  · replace h := gf_s q20 h
    refine lv_iconst (v := 0) hx hb dX10_heaviest_19 (by decide) ?_
    exact JK7 _ _ _ _ h G hl
  · replace h := gt_s q20 h
    refine lv_iconst (v := 1) hx hb dX10_heaviest_15 (by decide) ?_
    refine lv_goto (tgt := 20) hx hb dX10_heaviest_16 (by decide) ?_
    exact JK7 _ _ _ _ h G hl
def m_X10_alike_L54 (c10 : gm) (y15 : Int32) (y26 : Int32) (y27 : Int32) (y28 : Int32) : Option ((Int32 × Int32 × Int32) ⊕ (Int32 × Int32)) :=
  (if (c10.1 59 (0 : Int32).toNatClampNeg) ≤ y28 then some (.inr (y26, y27)) else gc (0 ≤ (0 + y15).toInt ∧ (0 + y15).toInt < 60) (gc (0 ≤ (0 + y28).toInt ∧ (0 + y28).toInt < 60) (gj (gu2 (fun (v39 : Int32) (v40 : Int32) => gv (y28 + 1) (fun (x42 : Int32) => some (.inl (v39, v40, x42))))) (fun K41 => (if (c10.1 503 (0 + y15).toNatClampNeg) = (c10.1 503 (0 + y28).toNatClampNeg) then gj (fun (v44 : Int32) => gv (y26 + 1) (fun (x46 : Int32) => K41 (x46, v44))) (fun K45 => (if y26 = 0 then K45 ((10 * y15) + y28) else K45 y27)) else K41 (y26, y27))))))
def m_X10_alike_L37 (n : Nat) (c10 : gm) (y13 : Int32) (y14 : Int32) (y15 : Int32) : Option ((Int32 × Int32 × Int32) ⊕ (Int32 × Int32)) :=
  (if (c10.1 59 (0 : Int32).toNatClampNeg) ≤ y15 then some (.inr (y13, y14)) else gv (y15 + 1) (fun (x24 : Int32) => gb (gloop (gu2 (fun (y26 : Int32) => gu2 (fun (y27 : Int32) (y28 : Int32) => m_X10_alike_L54 c10 y15 y26 y27 y28))) n (y13, y14, x24)) (gu2 (fun (z29 : Int32) (z30 : Int32) => gv (y15 + 1) (fun (x31 : Int32) => some (.inl (z29, z30, x31)))))))
def m_X10_alike (n : Nat) (t : Nat) (a1 : Int32) (c : gm) : Option (Int32 × gm) :=
  gc (gck t = 10) (gv (gm_r c t (upd (c.1 t) 0 0)) (fun (c3 : gm) => gb (m_X10_in a1 0 1) (fun (r5 : Int32) => gj (fun (v6 : Int32) => gb2 (m_X10_bad t v6 1 1 c3) (fun (r9 : Int32) (c10 : gm) => (if r9 = 0 then gb (gloop (gu2 (fun (y13 : Int32) => gu2 (fun (y14 : Int32) (y15 : Int32) => m_X10_alike_L37 n c10 y13 y14 y15))) n (0, (-1), 0)) (gu2 (fun (z16 : Int32) (z17 : Int32) => (if a1 = 0 then some (z16, c10) else some (z17, c10)))) else some (0, c10)))) (fun K7 => (if r5 = 0 then K7 1 else K7 0)))))
abbrev rmX10_alike : Room := { frames := 1, cells := 0, slots := 0, locals := 23 }
set_option maxHeartbeats 4000000 in
set_option maxRecDepth 100000 in
theorem c_X10_alike (l : Launch) (sa : gSa) (D : va_G) (ad : Nat → Nat) (cy : Nat → ClassId) (N sz : Nat) (hN : 530 ≤ N) (hI : gI ad N) (c0 c : gm) {n : Nat} {t : Nat} {a1 : Int32} {rZ : Int32} {cZ : gm} (h : m_X10_alike n t a1 c = some (rZ, cZ)) : Met l yX10_alike wsX10_alike rmX10_alike (va_Pc [.ref (ad t), .int a1] (gP sa D ad cy N sz c0 c)) (va_Qi (fun (z : Int32) (_ : Unit) => z = rZ) (fun _ U => gE D ad cy N c0 cZ U) (gA ad N sz)) 0 0 (gA ad N sz) := by
  refine Met.ofW (cc := cX10_alike) (maxL := 6) (ret := (some .int)) (by decide) rfl ?_
  intro p e s m args below meth cod s₁ B hml hv
  obtain ⟨rfl, hsz, hP, hK, hZ⟩ := hv
  have hx := B.exec
  have hb := B.bytes
  have hr := B.returns
  have hts := atoms_spec (ws := wsX10_alike) B.pre
  have hown : s.vm.findClass RX10 = some m.cls := findClass_of_methodNamed B.named
  have hlocks := B.notSynchronized
  subst hsz
  have hl := lv_entry ([.ref (ad t), .int a1]) (n := 6) (Nat.le_of_ble_eq_true rfl)
  rw [lg_entry_eq]
  generalize (lg_sl ([.ref (ad t), .int a1]) ++ List.replicate (6 - (lg_sl ([.ref (ad t), .int a1])).length) Slot.unset).toArray = ls at hl ⊢
  have hl : lv_has ls 6 [(0, .ref (ad t)), (1, .int a1)] := hl
  have in10 : ∀ w ∈ wsX100, w ∈ wsX10_alike := by decide +kernel
  generalize hargs : ([.ref (ad t), .int a1] : List Value).toArray = args at *
  generalize hAe : gA ad N s.heap.size = A
  have F : gF sa D ad cy N A p s m args cod cX10_alike 6 wsX10_alike RX10 := ⟨hx, hb, hml, hown, hts, hK, hI, by rw [← hAe]; exact gA_ad, by rw [← hAe]; exact gA_sz, by rw [← hAe]; exact hZ⟩
  have G : gW D ad cy N A s.heap c0 c s.heap [] := ⟨hP, va_S.rf⟩
  generalize hQ : MQ below (va_Qi (fun (z : Int32) (_ : Unit) => z = rZ) (fun _ U => gE D ad cy N c0 cZ U) A) args s 0 0 A = Q
  suffices hgen : ∀ (H : Heap) (locs : List Loc), gW D ad cy N A s.heap c0 c H locs → W p l e rmX10_alike s m args below meth cod H locs 0 0 Q (F0 m 0 ls []) from hgen _ _ G
  clear G
  intro H locs G
  unfold m_X10_alike at h
  refine lv_aload_n hx hb dX10_alike_0 rfl (lv_at hl 0 rfl) ?_
  refine lv_iconst (v := 0) hx hb dX10_alike_1 (by decide) ?_
  obtain ⟨hk1, h⟩ := gc_s h
  have ht2 : t < N := Nat.lt_of_lt_of_le (gck_lt10 hk1) hN
  refine fp_10_thrown F G hk1 ht2 in10 (by decide +kernel) dX10_alike_2 (fun H locs G => ?_)
  obtain ⟨c3, ec3⟩ : ∃ z, z = gm_r c t (upd (c.1 t) 0 0) := ⟨_, rfl⟩
  rw [← ec3] at G
  replace h := gv_s h c3 ec3
  refine lv_aload_n hx hb dX10_alike_5 rfl (lv_at hl 0 rfl) ?_
  refine lv_iload_n hx hb dX10_alike_6 rfl (lv_at hl 1 rfl) ?_
  refine lv_iconst (v := 0) hx hb dX10_alike_7 (by decide) ?_
  refine lv_iconst (v := 1) hx hb dX10_alike_8 (by decide) ?_
  obtain ⟨r5, hc4, h⟩ := gb_s h
  refine gx_calli F G (va_runS (As := [.int a1, .int 0, .int 1]) (rest := [.ref (ad t)]) (gx_fix F) (c_X10_in l sa D ad cy N H.size hN hI c0 c3 hc4) (va_cwS 3 hts gX10_alike_X10_in rfl rfl rfl (by decide +kernel) ⟨by decide, by decide⟩) (gx_pre F G) rfl rfl hl.1 rfl (lv_room (Nat.le_of_ble_eq_true rfl)) dX10_alike_9 ⟨Nat.zero_le _, Nat.zero_le _⟩) (fun H locs G => ?_)
  obtain ⟨K7, eK7, h⟩ := gj_s h
  have JK7 : ∀ (v6 : Int32) (H : Heap) (locs : List Loc) (ls : Array Slot), K7 v6 = some (rZ, cZ) → gW D ad cy N A s.heap c0 c3 H locs → lv_has ls 6 [(0, .ref (ad t)), (1, .int a1)] → W p l e rmX10_alike s m args below meth cod H locs 0 0 Q (F0 m 20 ls [.int v6, .ref (ad t)]) := by
    intro v6 H locs ls h G hl
    rw [eK7] at h
    refine lv_iconst (v := 1) hx hb dX10_alike_20 (by decide) ?_
    refine lv_iconst (v := 1) hx hb dX10_alike_21 (by decide) ?_
    obtain ⟨r9, c10, hc8, h⟩ := gb2_s h
    refine gx_calli F G (va_runV (As := [.int v6, .int 1, .int 1]) (rest := []) (gx_fix F) (c_X10_bad l sa D ad cy N H.size hN hI c0 c3 hc8) (cwV 3 hts gX10_alike_X10_bad rfl rfl rfl (by decide +kernel) ⟨by decide, by decide⟩) (gx_rec F G ht2 (gwe_10 hk1) rfl) rfl rfl hl.1 rfl (lv_room (Nat.le_of_ble_eq_true rfl)) dX10_alike_22 ⟨Nat.zero_le _, Nat.zero_le _⟩) (fun H locs G => ?_)
    refine lv_if_eq (tgt := 30) hx hb dX10_alike_25 (by decide) (fun q11 => ?_) (fun q11 => ?_)
    · replace h := gt_s q11 h
      refine lv_iconst (v := 0) hx hb dX10_alike_30 (by decide) ?_
      refine lv_istore_n (lv' := [(2, .int 0), (0, .ref (ad t)), (1, .int a1)]) hx hb dX10_alike_31 rfl hl (by decide) rfl (fun ls hl => ?_)
      refine lv_iconst (v := (-1)) hx hb dX10_alike_32 (by decide) ?_
      refine lv_istore_n (lv' := [(3, .int (-1)), (2, .int 0), (0, .ref (ad t)), (1, .int a1)]) hx hb dX10_alike_33 rfl hl (by decide) rfl (fun ls hl => ?_)
      refine lv_iconst (v := 0) hx hb dX10_alike_34 (by decide) ?_
      refine lv_istore (lv' := [(4, .int 0), (3, .int (-1)), (2, .int 0), (0, .ref (ad t)), (1, .int a1)]) hx hb dX10_alike_35 hl (by decide) rfl (fun ls hl => ?_)
      obtain ⟨b12, hb12, hK12⟩ := gb_s h
      have E12 : ∀ (z16 : Int32) (z17 : Int32) (H : Heap) (locs : List Loc) (ls : Array Slot), ((z16, z17) : Int32 × Int32) = b12 → gW D ad cy N A s.heap c0 c10 H locs → lv_has ls 6 [(1, .int a1), (2, .int z16), (3, .int z17)] → W p l e rmX10_alike s m args below meth cod H locs 0 0 Q (F0 m 121 ls []) := by
        intro z16 z17 H locs ls hq12 G hl
        subst hq12
        replace hK12 := hK12
        replace hK12 := gu2_s hK12
        have h := hK12
        refine lv_iload_n hx hb dX10_alike_121 rfl (lv_at hl 0 rfl) ?_
        refine lv_if_ne (tgt := 129) hx hb dX10_alike_122 (by decide) (fun q18 => ?_) (fun q18 => ?_)
        · replace h := gf_s q18 h
          refine lv_iload_n hx hb dX10_alike_129 rfl (lv_at hl 2 rfl) ?_
          cases h
          rw [← hQ]
          exact gx_iret F G hr hlocks dX10_alike_130
        · replace h := gt_s q18 h
          refine lv_iload_n hx hb dX10_alike_125 rfl (lv_at hl 1 rfl) ?_
          refine lv_goto (tgt := 130) hx hb dX10_alike_126 (by decide) ?_
          cases h
          rw [← hQ]
          exact gx_iret F G hr hlocks dX10_alike_130
      have L12 : ∀ (n9 : Nat) (y13 : Int32) (y14 : Int32) (y15 : Int32) (H : Heap) (locs : List Loc) (ls : Array Slot), gloop (gu2 (fun (y13 : Int32) => gu2 (fun (y14 : Int32) (y15 : Int32) => m_X10_alike_L37 n c10 y13 y14 y15))) n9 (y13, y14, y15) = some b12 → gW D ad cy N A s.heap c0 c10 H locs → lv_has ls 6 [(0, .ref (ad t)), (1, .int a1), (2, .int y13), (3, .int y14), (4, .int y15)] → W p l e rmX10_alike s m args below meth cod H locs 0 0 Q (F0 m 37 ls []) := by
        intro n9
        induction n9 with
        | zero => intro y13 y14 y15 H locs ls h; exact (gloop_0 h).elim
        | succ n9 ih =>
          intro y13 y14 y15 H locs ls h G hl
          have ih12 := ih
          obtain ⟨o12, h, hn12⟩ := gloop_s h
          replace h := gu2_s h
          replace h := gu2_s h
          unfold m_X10_alike_L37 at h
          refine lv_iload hx hb dX10_alike_37 (lv_at hl 4 rfl) ?_
          refine lv_aload_n hx hb dX10_alike_39 rfl (lv_at hl 0 rfl) ?_
          refine fg_10_told F G hk1 ht2 in10 (by decide +kernel) dX10_alike_40 ?_
          have hk19 : gck 59 = 22 := rfl
          have ht20 : 59 < N := Nat.lt_of_lt_of_le (by decide) hN
          have hn21 : gal 59 = 4 := rfl
          refine lv_iconst (v := 0) hx hb dX10_alike_43 (by decide) ?_
          refine gx_mia F G hk19 ht20 hn21 (by decide) dX10_alike_44 ?_
          refine lv_icmp_ge (tgt := 121) hx hb dX10_alike_45 (by decide) (fun q23 => ?_) (fun q23 => ?_)
          · replace h := gt_s q23 h
            cases h
            exact E12 _ _ _ _ _ (gnx_r hn12) G (lv_sub hl [1, 2, 3] rfl)
          · replace h := gf_s q23 h
            refine lv_iload hx hb dX10_alike_48 (lv_at hl 4 rfl) ?_
            refine lv_iconst (v := 1) hx hb dX10_alike_50 (by decide) ?_
            refine lv_iadd hx hb dX10_alike_51 ?_
            refine lv_topi (fun x24 ex24 => ?_)
            replace h := gv_s h x24 ex24
            refine lv_istore (lv' := [(5, .int x24), (0, .ref (ad t)), (1, .int a1), (2, .int y13), (3, .int y14), (4, .int y15)]) hx hb dX10_alike_52 hl (by decide) rfl (fun ls hl => ?_)
            obtain ⟨b25, hb25, hK25⟩ := gb_s h
            have E25 : ∀ (z29 : Int32) (z30 : Int32) (H : Heap) (locs : List Loc) (ls : Array Slot), ((z29, z30) : Int32 × Int32) = b25 → gW D ad cy N A s.heap c0 c10 H locs → lv_has ls 6 [(0, .ref (ad t)), (1, .int a1), (2, .int z29), (3, .int z30), (4, .int y15)] → W p l e rmX10_alike s m args below meth cod H locs 0 0 Q (F0 m 115 ls []) := by
              intro z29 z30 H locs ls hq25 G hl
              subst hq25
              replace hK25 := hK25
              replace hK25 := gu2_s hK25
              have h := hK25
              obtain ⟨x31, ex31⟩ : ∃ z : Int32, z = y15 + 1 := ⟨_, rfl⟩
              replace h := gv_s h x31 ex31
              refine lv_iinc (v := x31) (lv' := [(4, .int x31), (0, .ref (ad t)), (1, .int a1), (2, .int z29), (3, .int z30)]) hx hb dX10_alike_115 hl (k := 4) rfl (by rw [ex31]; rfl) (by decide) rfl (fun ls hl => ?_)
              refine lv_goto (tgt := 37) hx hb dX10_alike_118 (by decide) ?_
              cases h
              exact ih12 _ _ _ _ _ _ hn12 G (lv_sub hl [1, 2, 3, 4, 0] rfl)
            have L25 : ∀ (n9 : Nat) (y26 : Int32) (y27 : Int32) (y28 : Int32) (H : Heap) (locs : List Loc) (ls : Array Slot), gloop (gu2 (fun (y26 : Int32) => gu2 (fun (y27 : Int32) (y28 : Int32) => m_X10_alike_L54 c10 y15 y26 y27 y28))) n9 (y26, y27, y28) = some b25 → gW D ad cy N A s.heap c0 c10 H locs → lv_has ls 6 [(0, .ref (ad t)), (1, .int a1), (2, .int y26), (3, .int y27), (4, .int y15), (5, .int y28)] → W p l e rmX10_alike s m args below meth cod H locs 0 0 Q (F0 m 54 ls []) := by
              intro n9
              induction n9 with
              | zero => intro y26 y27 y28 H locs ls h; exact (gloop_0 h).elim
              | succ n9 ih =>
                intro y26 y27 y28 H locs ls h G hl
                have ih25 := ih
                obtain ⟨o25, h, hn25⟩ := gloop_s h
                replace h := gu2_s h
                replace h := gu2_s h
                unfold m_X10_alike_L54 at h
                refine lv_iload hx hb dX10_alike_54 (lv_at hl 5 rfl) ?_
                refine lv_aload_n hx hb dX10_alike_56 rfl (lv_at hl 0 rfl) ?_
                refine fg_10_told F G hk1 ht2 in10 (by decide +kernel) dX10_alike_57 ?_
                refine lv_iconst (v := 0) hx hb dX10_alike_60 (by decide) ?_
                refine gx_mia F G hk19 ht20 hn21 (by decide) dX10_alike_61 ?_
                refine lv_icmp_ge (tgt := 115) hx hb dX10_alike_62 (by decide) (fun q33 => ?_) (fun q33 => ?_)
                · replace h := gt_s q33 h
                  cases h
                  exact E25 _ _ _ _ _ (gnx_r hn25) G (lv_sub hl [0, 1, 2, 3, 4] rfl)
                · replace h := gf_s q33 h
                  refine lv_aload_n hx hb dX10_alike_65 rfl (lv_at hl 0 rfl) ?_
                  refine fg_10_now F G hk1 ht2 in10 (by decide +kernel) dX10_alike_66 ?_
                  have hk34 : gck 503 = 22 := rfl
                  have ht35 : 503 < N := Nat.lt_of_lt_of_le (by decide) hN
                  have hn36 : gal 503 = 60 := rfl
                  refine lv_iconst (v := 0) hx hb dX10_alike_69 (by decide) ?_
                  refine lv_iload hx hb dX10_alike_70 (lv_at hl 4 rfl) ?_
                  refine lv_iadd hx hb dX10_alike_72 ?_
                  obtain ⟨hi37, h⟩ := gc_s h
                  refine gx_mia F G hk34 ht35 hn36 hi37 dX10_alike_73 ?_
                  refine lv_aload_n hx hb dX10_alike_74 rfl (lv_at hl 0 rfl) ?_
                  refine fg_10_now F G hk1 ht2 in10 (by decide +kernel) dX10_alike_75 ?_
                  refine lv_iconst (v := 0) hx hb dX10_alike_78 (by decide) ?_
                  refine lv_iload hx hb dX10_alike_79 (lv_at hl 5 rfl) ?_
                  refine lv_iadd hx hb dX10_alike_81 ?_
                  obtain ⟨hi38, h⟩ := gc_s h
                  refine gx_mia F G hk34 ht35 hn36 hi38 dX10_alike_82 ?_
                  obtain ⟨K41, eK41, h⟩ := gj_s h
                  have JK41 : ∀ (v39 : Int32) (v40 : Int32) (H : Heap) (locs : List Loc) (ls : Array Slot), K41 (v39, v40) = some o25 → gW D ad cy N A s.heap c0 c10 H locs → lv_has ls 6 [(0, .ref (ad t)), (1, .int a1), (2, .int v39), (3, .int v40), (4, .int y15), (5, .int y28)] → W p l e rmX10_alike s m args below meth cod H locs 0 0 Q (F0 m 109 ls []) := by
                    intro v39 v40 H locs ls h G hl
                    rw [eK41] at h
                    replace h := gu2_s h
                    obtain ⟨x42, ex42⟩ : ∃ z : Int32, z = y28 + 1 := ⟨_, rfl⟩
                    replace h := gv_s h x42 ex42
                    refine lv_iinc (v := x42) (lv' := [(5, .int x42), (0, .ref (ad t)), (1, .int a1), (2, .int v39), (3, .int v40), (4, .int y15)]) hx hb dX10_alike_109 hl (k := 5) rfl (by rw [ex42]; rfl) (by decide) rfl (fun ls hl => ?_)
                    refine lv_goto (tgt := 54) hx hb dX10_alike_112 (by decide) ?_
                    cases h
                    exact ih25 _ _ _ _ _ _ hn25 G (lv_sub hl [1, 2, 3, 4, 5, 0] rfl)
                  refine lv_icmp_eq (tgt := 89) hx hb dX10_alike_83 (by decide) (fun q43 => ?_) (fun q43 => ?_)
                  · replace h := gt_s q43 h
                    refine lv_iload_n hx hb dX10_alike_89 rfl (lv_at hl 2 rfl) ?_
                    obtain ⟨K45, eK45, h⟩ := gj_s h
                    have JK45 : ∀ (v44 : Int32) (H : Heap) (locs : List Loc) (ls : Array Slot), K45 v44 = some o25 → gW D ad cy N A s.heap c0 c10 H locs → lv_has ls 6 [(0, .ref (ad t)), (1, .int a1), (2, .int y26), (4, .int y15), (5, .int y28)] → W p l e rmX10_alike s m args below meth cod H locs 0 0 Q (F0 m 105 ls [.int v44]) := by
                      intro v44 H locs ls h G hl
                      rw [eK45] at h
                      refine lv_istore_n (lv' := [(3, .int v44), (0, .ref (ad t)), (1, .int a1), (2, .int y26), (4, .int y15), (5, .int y28)]) hx hb dX10_alike_105 rfl hl (by decide) rfl (fun ls hl => ?_)
                      obtain ⟨x46, ex46⟩ : ∃ z : Int32, z = y26 + 1 := ⟨_, rfl⟩
                      replace h := gv_s h x46 ex46
                      refine lv_iinc (v := x46) (lv' := [(2, .int x46), (3, .int v44), (0, .ref (ad t)), (1, .int a1), (4, .int y15), (5, .int y28)]) hx hb dX10_alike_106 hl (k := 3) rfl (by rw [ex46]; rfl) (by decide) rfl (fun ls hl => ?_)
                      exact JK41 _ _ _ _ _ h G (lv_sub hl [2, 3, 0, 1, 4, 5] rfl)
                    refine lv_if_ne (tgt := 104) hx hb dX10_alike_90 (by decide) (fun q47 => ?_) (fun q47 => ?_)
                    · replace h := gf_s q47 h
                      refine lv_iload_n hx hb dX10_alike_104 rfl (lv_at hl 3 rfl) ?_
                      exact JK45 _ _ _ _ h G (lv_sub hl [0, 1, 2, 4, 5] rfl)
                    · replace h := gt_s q47 h
                      refine lv_bipush (v := 10) hx hb dX10_alike_93 (by decide) ?_
                      refine lv_iload hx hb dX10_alike_95 (lv_at hl 4 rfl) ?_
                      refine lv_imul hx hb dX10_alike_97 ?_
                      refine lv_iload hx hb dX10_alike_98 (lv_at hl 5 rfl) ?_
                      refine lv_iadd hx hb dX10_alike_100 ?_
                      refine lv_goto (tgt := 105) hx hb dX10_alike_101 (by decide) ?_
                      exact JK45 _ _ _ _ h G (lv_sub hl [0, 1, 2, 4, 5] rfl)
                  · replace h := gf_s q43 h
                    refine lv_goto (tgt := 109) hx hb dX10_alike_86 (by decide) ?_
                    exact JK41 _ _ _ _ _ h G hl
            exact L25 n _ _ _ _ _ _ hb25 G (lv_sub hl [1, 2, 3, 4, 5, 0] rfl)
      exact L12 n _ _ _ _ _ _ hb12 G (lv_sub hl [3, 4, 2, 1, 0] rfl)
    · replace h := gf_s q11 h
      refine lv_iconst (v := 0) hx hb dX10_alike_28 (by decide) ?_
      cases h
      rw [← hQ]
      exact gx_iret F G hr hlocks dX10_alike_29
  refine lv_if_ne (tgt := 19) hx hb dX10_alike_12 (by decide) (fun q48 => ?_) (fun q48 => ?_)
  · replace h := gf_s q48 h
    refine lv_iconst (v := 0) hx hb dX10_alike_19 (by decide) ?_
    exact JK7 _ _ _ _ h G hl
  · replace h := gt_s q48 h
    refine lv_iconst (v := 1) hx hb dX10_alike_15 (by decide) ?_
    refine lv_goto (tgt := 20) hx hb dX10_alike_16 (by decide) ?_
    exact JK7 _ _ _ _ h G hl
def m_X10_against_L39 (a1 : Int32) (a2 : Int32) (c10 : gm) (y13 : Int32) : Option ((Int32) ⊕ (Int32)) :=
  (if 10 ≤ y13 then some (.inr y13) else gc (0 ≤ (0 + a1).toInt ∧ (0 + a1).toInt < 60) (gc (0 ≤ (0 + a2).toInt ∧ (0 + a2).toInt < 60) ((if (c10.1 503 (0 + a2).toNatClampNeg) ≤ ((c10.1 503 (0 + a1).toNatClampNeg) * y13) then some (.inr y13) else gv (y13 + 1) (fun (x23 : Int32) => some (.inl x23))))))
def m_X10_against (n : Nat) (t : Nat) (a1 : Int32) (a2 : Int32) (c : gm) : Option (Int32 × gm) :=
  gc (gck t = 10) (gv (gm_r c t (upd (c.1 t) 0 0)) (fun (c3 : gm) => gb (m_X10_isThing t a1 c3) (fun (r5 : Int32) => gj (fun (v6 : Int32) => gb2 (m_X10_bad t v6 1 0 c3) (fun (r9 : Int32) (c10 : gm) => (if r9 = 0 then gb (gloop (fun (y13 : Int32) => m_X10_against_L39 a1 a2 c10 y13) n 1) (fun (z14 : Int32) => (if z14 = 10 then some ((-1), c10) else some (z14, c10))) else some (0, c10)))) (fun K7 => gj (fun (_ : Unit) => K7 1) (fun K24 => (if r5 = 0 then K24 () else gb (m_X10_isThing t a2 c3) (fun (r27 : Int32) => (if r27 = 0 then K24 () else K7 0))))))))
abbrev rmX10_against : Room := { frames := 2, cells := 0, slots := 0, locals := 43 }
set_option maxHeartbeats 4000000 in
set_option maxRecDepth 100000 in
theorem c_X10_against (l : Launch) (sa : gSa) (D : va_G) (ad : Nat → Nat) (cy : Nat → ClassId) (N sz : Nat) (hN : 530 ≤ N) (hI : gI ad N) (c0 c : gm) {n : Nat} {t : Nat} {a1 : Int32} {a2 : Int32} {rZ : Int32} {cZ : gm} (h : m_X10_against n t a1 a2 c = some (rZ, cZ)) : Met l yX10_against wsX10_against rmX10_against (va_Pc [.ref (ad t), .int a1, .int a2] (gP sa D ad cy N sz c0 c)) (va_Qi (fun (z : Int32) (_ : Unit) => z = rZ) (fun _ U => gE D ad cy N c0 cZ U) (gA ad N sz)) 0 0 (gA ad N sz) := by
  refine Met.ofW (cc := cX10_against) (maxL := 4) (ret := (some .int)) (by decide) rfl ?_
  intro p e s m args below meth cod s₁ B hml hv
  obtain ⟨rfl, hsz, hP, hK, hZ⟩ := hv
  have hx := B.exec
  have hb := B.bytes
  have hr := B.returns
  have hts := atoms_spec (ws := wsX10_against) B.pre
  have hown : s.vm.findClass RX10 = some m.cls := findClass_of_methodNamed B.named
  have hlocks := B.notSynchronized
  subst hsz
  have hl := lv_entry ([.ref (ad t), .int a1, .int a2]) (n := 4) (Nat.le_of_ble_eq_true rfl)
  rw [lg_entry_eq]
  generalize (lg_sl ([.ref (ad t), .int a1, .int a2]) ++ List.replicate (4 - (lg_sl ([.ref (ad t), .int a1, .int a2])).length) Slot.unset).toArray = ls at hl ⊢
  have hl : lv_has ls 4 [(0, .ref (ad t)), (1, .int a1), (2, .int a2)] := hl
  have in10 : ∀ w ∈ wsX100, w ∈ wsX10_against := by decide +kernel
  generalize hargs : ([.ref (ad t), .int a1, .int a2] : List Value).toArray = args at *
  generalize hAe : gA ad N s.heap.size = A
  have F : gF sa D ad cy N A p s m args cod cX10_against 4 wsX10_against RX10 := ⟨hx, hb, hml, hown, hts, hK, hI, by rw [← hAe]; exact gA_ad, by rw [← hAe]; exact gA_sz, by rw [← hAe]; exact hZ⟩
  have G : gW D ad cy N A s.heap c0 c s.heap [] := ⟨hP, va_S.rf⟩
  generalize hQ : MQ below (va_Qi (fun (z : Int32) (_ : Unit) => z = rZ) (fun _ U => gE D ad cy N c0 cZ U) A) args s 0 0 A = Q
  suffices hgen : ∀ (H : Heap) (locs : List Loc), gW D ad cy N A s.heap c0 c H locs → W p l e rmX10_against s m args below meth cod H locs 0 0 Q (F0 m 0 ls []) from hgen _ _ G
  clear G
  intro H locs G
  unfold m_X10_against at h
  refine lv_aload_n hx hb dX10_against_0 rfl (lv_at hl 0 rfl) ?_
  refine lv_iconst (v := 0) hx hb dX10_against_1 (by decide) ?_
  obtain ⟨hk1, h⟩ := gc_s h
  have ht2 : t < N := Nat.lt_of_lt_of_le (gck_lt10 hk1) hN
  refine fp_10_thrown F G hk1 ht2 in10 (by decide +kernel) dX10_against_2 (fun H locs G => ?_)
  obtain ⟨c3, ec3⟩ : ∃ z, z = gm_r c t (upd (c.1 t) 0 0) := ⟨_, rfl⟩
  rw [← ec3] at G
  replace h := gv_s h c3 ec3
  refine lv_aload_n hx hb dX10_against_5 rfl (lv_at hl 0 rfl) ?_
  refine lv_aload_n hx hb dX10_against_6 rfl (lv_at hl 0 rfl) ?_
  refine lv_iload_n hx hb dX10_against_7 rfl (lv_at hl 1 rfl) ?_
  obtain ⟨r5, hc4, h⟩ := gb_s h
  refine gx_calli F G (va_runV (As := [.int a1]) (rest := [.ref (ad t)]) (gx_fix F) (c_X10_isThing l sa D ad cy N H.size hN hI c0 c3 hc4) (cwV 1 hts gX10_against_X10_isThing rfl rfl rfl (by decide +kernel) ⟨by decide, by decide⟩) (gx_rec F G ht2 (gwe_10 hk1) rfl) rfl rfl hl.1 rfl (lv_room (Nat.le_of_ble_eq_true rfl)) dX10_against_8 ⟨Nat.zero_le _, Nat.zero_le _⟩) (fun H locs G => ?_)
  obtain ⟨K7, eK7, h⟩ := gj_s h
  have JK7 : ∀ (v6 : Int32) (H : Heap) (locs : List Loc) (ls : Array Slot), K7 v6 = some (rZ, cZ) → gW D ad cy N A s.heap c0 c3 H locs → lv_has ls 4 [(0, .ref (ad t)), (1, .int a1), (2, .int a2)] → W p l e rmX10_against s m args below meth cod H locs 0 0 Q (F0 m 27 ls [.int v6, .ref (ad t)]) := by
    intro v6 H locs ls h G hl
    rw [eK7] at h
    refine lv_iconst (v := 1) hx hb dX10_against_27 (by decide) ?_
    refine lv_iconst (v := 0) hx hb dX10_against_28 (by decide) ?_
    obtain ⟨r9, c10, hc8, h⟩ := gb2_s h
    refine gx_calli F G (va_runV (As := [.int v6, .int 1, .int 0]) (rest := []) (gx_fix F) (c_X10_bad l sa D ad cy N H.size hN hI c0 c3 hc8) (cwV 3 hts gX10_against_X10_bad rfl rfl rfl (by decide +kernel) ⟨by decide, by decide⟩) (gx_rec F G ht2 (gwe_10 hk1) rfl) rfl rfl hl.1 rfl (lv_room (Nat.le_of_ble_eq_true rfl)) dX10_against_29 ⟨Nat.zero_le _, Nat.zero_le _⟩) (fun H locs G => ?_)
    refine lv_if_eq (tgt := 37) hx hb dX10_against_32 (by decide) (fun q11 => ?_) (fun q11 => ?_)
    · replace h := gt_s q11 h
      refine lv_iconst (v := 1) hx hb dX10_against_37 (by decide) ?_
      refine lv_istore_n (lv' := [(3, .int 1), (0, .ref (ad t)), (1, .int a1), (2, .int a2)]) hx hb dX10_against_38 rfl hl (by decide) rfl (fun ls hl => ?_)
      obtain ⟨b12, hb12, hK12⟩ := gb_s h
      have E12 : ∀ (z14 : Int32) (H : Heap) (locs : List Loc) (ls : Array Slot), (z14 : Int32) = b12 → gW D ad cy N A s.heap c0 c10 H locs → lv_has ls 4 [(3, .int z14)] → W p l e rmX10_against s m args below meth cod H locs 0 0 Q (F0 m 72 ls []) := by
        intro z14 H locs ls hq12 G hl
        subst hq12
        replace hK12 := hK12
        have h := hK12
        refine lv_iload_n hx hb dX10_against_72 rfl (lv_at hl 0 rfl) ?_
        refine lv_bipush (v := 10) hx hb dX10_against_73 (by decide) ?_
        refine lv_icmp_ne (tgt := 82) hx hb dX10_against_75 (by decide) (fun q15 => ?_) (fun q15 => ?_)
        · replace h := gf_s q15 h
          refine lv_iload_n hx hb dX10_against_82 rfl (lv_at hl 0 rfl) ?_
          cases h
          rw [← hQ]
          exact gx_iret F G hr hlocks dX10_against_83
        · replace h := gt_s q15 h
          refine lv_iconst (v := (-1)) hx hb dX10_against_78 (by decide) ?_
          refine lv_goto (tgt := 83) hx hb dX10_against_79 (by decide) ?_
          cases h
          rw [← hQ]
          exact gx_iret F G hr hlocks dX10_against_83
      have L12 : ∀ (n9 : Nat) (y13 : Int32) (H : Heap) (locs : List Loc) (ls : Array Slot), gloop (fun (y13 : Int32) => m_X10_against_L39 a1 a2 c10 y13) n9 y13 = some b12 → gW D ad cy N A s.heap c0 c10 H locs → lv_has ls 4 [(0, .ref (ad t)), (1, .int a1), (2, .int a2), (3, .int y13)] → W p l e rmX10_against s m args below meth cod H locs 0 0 Q (F0 m 39 ls []) := by
        intro n9
        induction n9 with
        | zero => intro y13 H locs ls h; exact (gloop_0 h).elim
        | succ n9 ih =>
          intro y13 H locs ls h G hl
          have ih12 := ih
          obtain ⟨o12, h, hn12⟩ := gloop_s h
          unfold m_X10_against_L39 at h
          refine lv_iload_n hx hb dX10_against_39 rfl (lv_at hl 3 rfl) ?_
          refine lv_bipush (v := 10) hx hb dX10_against_40 (by decide) ?_
          refine lv_icmp_ge (tgt := 72) hx hb dX10_against_42 (by decide) (fun q16 => ?_) (fun q16 => ?_)
          · replace h := gt_s q16 h
            cases h
            exact E12 _ _ _ _ (gnx_r hn12) G (lv_sub hl [3] rfl)
          · replace h := gf_s q16 h
            refine lv_aload_n hx hb dX10_against_45 rfl (lv_at hl 0 rfl) ?_
            refine fg_10_now F G hk1 ht2 in10 (by decide +kernel) dX10_against_46 ?_
            have hk17 : gck 503 = 22 := rfl
            have ht18 : 503 < N := Nat.lt_of_lt_of_le (by decide) hN
            have hn19 : gal 503 = 60 := rfl
            refine lv_iconst (v := 0) hx hb dX10_against_49 (by decide) ?_
            refine lv_iload_n hx hb dX10_against_50 rfl (lv_at hl 1 rfl) ?_
            refine lv_iadd hx hb dX10_against_51 ?_
            obtain ⟨hi20, h⟩ := gc_s h
            refine gx_mia F G hk17 ht18 hn19 hi20 dX10_against_52 ?_
            refine lv_iload_n hx hb dX10_against_53 rfl (lv_at hl 3 rfl) ?_
            refine lv_imul hx hb dX10_against_54 ?_
            refine lv_aload_n hx hb dX10_against_55 rfl (lv_at hl 0 rfl) ?_
            refine fg_10_now F G hk1 ht2 in10 (by decide +kernel) dX10_against_56 ?_
            refine lv_iconst (v := 0) hx hb dX10_against_59 (by decide) ?_
            refine lv_iload_n hx hb dX10_against_60 rfl (lv_at hl 2 rfl) ?_
            refine lv_iadd hx hb dX10_against_61 ?_
            obtain ⟨hi21, h⟩ := gc_s h
            refine gx_mia F G hk17 ht18 hn19 hi21 dX10_against_62 ?_
            refine lv_icmp_ge (tgt := 72) hx hb dX10_against_63 (by decide) (fun q22 => ?_) (fun q22 => ?_)
            · replace h := gt_s q22 h
              cases h
              exact E12 _ _ _ _ (gnx_r hn12) G (lv_sub hl [3] rfl)
            · replace h := gf_s q22 h
              obtain ⟨x23, ex23⟩ : ∃ z : Int32, z = y13 + 1 := ⟨_, rfl⟩
              replace h := gv_s h x23 ex23
              refine lv_iinc (v := x23) (lv' := [(3, .int x23), (0, .ref (ad t)), (1, .int a1), (2, .int a2)]) hx hb dX10_against_66 hl (k := 3) rfl (by rw [ex23]; rfl) (by decide) rfl (fun ls hl => ?_)
              refine lv_goto (tgt := 39) hx hb dX10_against_69 (by decide) ?_
              cases h
              exact ih12 _ _ _ _ hn12 G (lv_sub hl [1, 2, 3, 0] rfl)
      exact L12 n _ _ _ _ hb12 G (lv_sub hl [1, 2, 3, 0] rfl)
    · replace h := gf_s q11 h
      refine lv_iconst (v := 0) hx hb dX10_against_35 (by decide) ?_
      cases h
      rw [← hQ]
      exact gx_iret F G hr hlocks dX10_against_36
  obtain ⟨K24, eK24, h⟩ := gj_s h
  have JK24 : ∀ (H : Heap) (locs : List Loc) (ls : Array Slot), K24 () = some (rZ, cZ) → gW D ad cy N A s.heap c0 c3 H locs → lv_has ls 4 [(0, .ref (ad t)), (1, .int a1), (2, .int a2)] → W p l e rmX10_against s m args below meth cod H locs 0 0 Q (F0 m 22 ls [.ref (ad t)]) := by
    intro  H locs ls h G hl
    rw [eK24] at h
    refine lv_iconst (v := 1) hx hb dX10_against_22 (by decide) ?_
    refine lv_goto (tgt := 27) hx hb dX10_against_23 (by decide) ?_
    exact JK7 _ _ _ _ h G hl
  refine lv_if_eq (tgt := 22) hx hb dX10_against_11 (by decide) (fun q25 => ?_) (fun q25 => ?_)
  · replace h := gt_s q25 h
    exact JK24  _ _ _ h G hl
  · replace h := gf_s q25 h
    refine lv_aload_n hx hb dX10_against_14 rfl (lv_at hl 0 rfl) ?_
    refine lv_iload_n hx hb dX10_against_15 rfl (lv_at hl 2 rfl) ?_
    obtain ⟨r27, hc26, h⟩ := gb_s h
    refine gx_calli F G (va_runV (As := [.int a2]) (rest := [.ref (ad t)]) (gx_fix F) (c_X10_isThing l sa D ad cy N H.size hN hI c0 c3 hc26) (cwV 1 hts gX10_against_X10_isThing rfl rfl rfl (by decide +kernel) ⟨by decide, by decide⟩) (gx_rec F G ht2 (gwe_10 hk1) rfl) rfl rfl hl.1 rfl (lv_room (Nat.le_of_ble_eq_true rfl)) dX10_against_16 ⟨Nat.zero_le _, Nat.zero_le _⟩) (fun H locs G => ?_)
    refine lv_if_ne (tgt := 26) hx hb dX10_against_19 (by decide) (fun q28 => ?_) (fun q28 => ?_)
    · replace h := gf_s q28 h
      refine lv_iconst (v := 0) hx hb dX10_against_26 (by decide) ?_
      exact JK7 _ _ _ _ h G hl
    · replace h := gt_s q28 h
      exact JK24  _ _ _ h G hl
def m_X10_draw (t : Nat) (a1 : Int32) (c : gm) : Option (Int32 × gm) :=
  gc (gck t = 10) (gv (gm_r c t (upd (c.1 t) 45 (((c.1 t 45) * 1103515245) + 12345))) (fun (c3 : gm) => gc (¬ a1 = 0) (some (((((c3.1 t 45) >>> ((16 : Int32) &&& 31)) &&& 32767) - (((c3.1 t 45) >>> ((16 : Int32) &&& 31)) &&& 32767) / a1 * a1), c3))))
abbrev rmX10_draw : Room := { frames := 0, cells := 0, slots := 0, locals := 0 }
set_option maxHeartbeats 4000000 in
set_option maxRecDepth 100000 in
theorem c_X10_draw (l : Launch) (sa : gSa) (D : va_G) (ad : Nat → Nat) (cy : Nat → ClassId) (N sz : Nat) (hN : 530 ≤ N) (hI : gI ad N) (c0 c : gm) {t : Nat} {a1 : Int32} {rZ : Int32} {cZ : gm} (h : m_X10_draw t a1 c = some (rZ, cZ)) : Met l yX10_draw wsX10_draw rmX10_draw (va_Pc [.ref (ad t), .int a1] (gP sa D ad cy N sz c0 c)) (va_Qi (fun (z : Int32) (_ : Unit) => z = rZ) (fun _ U => gE D ad cy N c0 cZ U) (gA ad N sz)) 0 0 (gA ad N sz) := by
  refine Met.ofW (cc := cX10_draw) (maxL := 2) (ret := (some .int)) (by decide) rfl ?_
  intro p e s m args below meth cod s₁ B hml hv
  obtain ⟨rfl, hsz, hP, hK, hZ⟩ := hv
  have hx := B.exec
  have hb := B.bytes
  have hr := B.returns
  have hts := atoms_spec (ws := wsX10_draw) B.pre
  have hown : s.vm.findClass RX10 = some m.cls := findClass_of_methodNamed B.named
  have hlocks := B.notSynchronized
  subst hsz
  have hl := lv_entry ([.ref (ad t), .int a1]) (n := 2) (Nat.le_of_ble_eq_true rfl)
  rw [lg_entry_eq]
  generalize (lg_sl ([.ref (ad t), .int a1]) ++ List.replicate (2 - (lg_sl ([.ref (ad t), .int a1])).length) Slot.unset).toArray = ls at hl ⊢
  have hl : lv_has ls 2 [(0, .ref (ad t)), (1, .int a1)] := hl
  have in10 : ∀ w ∈ wsX100, w ∈ wsX10_draw := by decide +kernel
  generalize hargs : ([.ref (ad t), .int a1] : List Value).toArray = args at *
  generalize hAe : gA ad N s.heap.size = A
  have F : gF sa D ad cy N A p s m args cod cX10_draw 2 wsX10_draw RX10 := ⟨hx, hb, hml, hown, hts, hK, hI, by rw [← hAe]; exact gA_ad, by rw [← hAe]; exact gA_sz, by rw [← hAe]; exact hZ⟩
  have G : gW D ad cy N A s.heap c0 c s.heap [] := ⟨hP, va_S.rf⟩
  generalize hQ : MQ below (va_Qi (fun (z : Int32) (_ : Unit) => z = rZ) (fun _ U => gE D ad cy N c0 cZ U) A) args s 0 0 A = Q
  suffices hgen : ∀ (H : Heap) (locs : List Loc), gW D ad cy N A s.heap c0 c H locs → W p l e rmX10_draw s m args below meth cod H locs 0 0 Q (F0 m 0 ls []) from hgen _ _ G
  clear G
  intro H locs G
  unfold m_X10_draw at h
  refine lv_aload_n hx hb dX10_draw_0 rfl (lv_at hl 0 rfl) ?_
  refine lv_aload_n hx hb dX10_draw_1 rfl (lv_at hl 0 rfl) ?_
  obtain ⟨hk1, h⟩ := gc_s h
  have ht2 : t < N := Nat.lt_of_lt_of_le (gck_lt10 hk1) hN
  refine fg_10_lots F G hk1 ht2 in10 (by decide +kernel) dX10_draw_2 ?_
  refine lv_ldcw (v := 1103515245) hx hb hown (hts (.constant RX10 407 (1103515245)) (by decide +kernel)) dX10_draw_5 ?_
  refine lv_imul hx hb dX10_draw_8 ?_
  refine lv_sipush (v := 12345) hx hb dX10_draw_9 (by decide) ?_
  refine lv_iadd hx hb dX10_draw_12 ?_
  refine fp_10_lots F G hk1 ht2 in10 (by decide +kernel) dX10_draw_13 (fun H locs G => ?_)
  obtain ⟨c3, ec3⟩ : ∃ z, z = gm_r c t (upd (c.1 t) 45 (((c.1 t 45) * 1103515245) + 12345)) := ⟨_, rfl⟩
  rw [← ec3] at G
  replace h := gv_s h c3 ec3
  refine lv_aload_n hx hb dX10_draw_16 rfl (lv_at hl 0 rfl) ?_
  refine fg_10_lots F G hk1 ht2 in10 (by decide +kernel) dX10_draw_17 ?_
  refine lv_bipush (v := 16) hx hb dX10_draw_20 (by decide) ?_
  refine lv_ishr hx hb dX10_draw_22 ?_
  refine lv_sipush (v := 32767) hx hb dX10_draw_23 (by decide) ?_
  refine lv_iand hx hb dX10_draw_26 ?_
  refine lv_iload_n hx hb dX10_draw_27 rfl (lv_at hl 1 rfl) ?_
  obtain ⟨hz4, h⟩ := gc_s h
  refine lv_irem hx hb dX10_draw_28 hz4 ?_
  cases h
  rw [← hQ]
  exact gx_iret F G hr hlocks dX10_draw_29
def m_X10_fairBy_L19 (n : Nat) (t : Nat) (a2 : Int32) (a3 : Int32) (y14 : Int32) (c15 : gm) : Option ((Int32 × gm) ⊕ (gm)) :=
  (if a2 ≤ y14 then some (.inr c15) else gj (fun (c22 : gm) => gb (m_X10_dayEnds n t 504 c22) (fun (c26 : gm) => gv (y14 + 1) (fun (x27 : Int32) => some (.inl (x27, c26))))) (fun K23 => (if (c15.1 59 (0 : Int32).toNatClampNeg) ≤ 0 then K23 c15 else gb2 (m_X10_draw t (c15.1 59 (0 : Int32).toNatClampNeg) c15) (fun (r31 : Int32) (c32 : gm) => gb2 (m_X10_draw t (c32.1 59 (0 : Int32).toNatClampNeg) c32) (fun (r35 : Int32) (c36 : gm) => gb2 (m_X10_draw t 3 c36) (fun (r38 : Int32) (c39 : gm) => gb2 (m_X10_weighs n t 504 r31 (1 + r38) r35 1 c39) (fun (r41 : Int32) (c42 : gm) => gb2 (m_X10_draw t 16 c42) (fun (r44 : Int32) (c45 : gm) => (if a3 ≤ r44 then K23 c45 else gb2 (m_X10_tips n 504 0 c45) (fun (r48 : Int32) (c49 : gm) => K23 c49))))))))))
def m_X10_fairBy (n : Nat) (t : Nat) (a1 : Int32) (a2 : Int32) (a3 : Int32) (c : gm) : Option (gm) :=
  gc (gck t = 10) (gb (m_X10_copies n 503 504 c) (fun (c11 : gm) => gv (gm_r c11 t (upd (c11.1 t) 45 a1)) (fun (c12 : gm) => gb (gloop (gu2 (fun (y14 : Int32) (c15 : gm) => m_X10_fairBy_L19 n t a2 a3 y14 c15)) n (0, c12)) (fun (c16 : gm) => some c16))))
abbrev rmX10_fairBy : Room := { frames := 6, cells := 0, slots := 0, locals := 136 }
set_option maxHeartbeats 4000000 in
set_option maxRecDepth 100000 in
theorem c_X10_fairBy (l : Launch) (sa : gSa) (D : va_G) (ad : Nat → Nat) (cy : Nat → ClassId) (N sz : Nat) (hN : 530 ≤ N) (hI : gI ad N) (c0 c : gm) {n : Nat} {t : Nat} {a1 : Int32} {a2 : Int32} {a3 : Int32} {cZ : gm} (h : m_X10_fairBy n t a1 a2 a3 c = some cZ) : Met l yX10_fairBy wsX10_fairBy rmX10_fairBy (va_Pc [.ref (ad t), .int a1, .int a2, .int a3] (gP sa D ad cy N sz c0 c)) (va_Qv (fun (_ : Unit) => True) (fun _ U => gE D ad cy N c0 cZ U) (gA ad N sz)) 0 0 (gA ad N sz) := by
  refine Met.ofW (cc := cX10_fairBy) (maxL := 7) (ret := none) (by decide) rfl ?_
  intro p e s m args below meth cod s₁ B hml hv
  obtain ⟨rfl, hsz, hP, hK, hZ⟩ := hv
  have hx := B.exec
  have hb := B.bytes
  have hr := B.returns
  have hts := atoms_spec (ws := wsX10_fairBy) B.pre
  have hown : s.vm.findClass RX10 = some m.cls := findClass_of_methodNamed B.named
  have hlocks := B.notSynchronized
  subst hsz
  have hl := lv_entry ([.ref (ad t), .int a1, .int a2, .int a3]) (n := 7) (Nat.le_of_ble_eq_true rfl)
  rw [lg_entry_eq]
  generalize (lg_sl ([.ref (ad t), .int a1, .int a2, .int a3]) ++ List.replicate (7 - (lg_sl ([.ref (ad t), .int a1, .int a2, .int a3])).length) Slot.unset).toArray = ls at hl ⊢
  have hl : lv_has ls 7 [(0, .ref (ad t)), (1, .int a1), (2, .int a2), (3, .int a3)] := hl
  have in10 : ∀ w ∈ wsX100, w ∈ wsX10_fairBy := by decide +kernel
  generalize hargs : ([.ref (ad t), .int a1, .int a2, .int a3] : List Value).toArray = args at *
  generalize hAe : gA ad N s.heap.size = A
  have F : gF sa D ad cy N A p s m args cod cX10_fairBy 7 wsX10_fairBy RX10 := ⟨hx, hb, hml, hown, hts, hK, hI, by rw [← hAe]; exact gA_ad, by rw [← hAe]; exact gA_sz, by rw [← hAe]; exact hZ⟩
  have G : gW D ad cy N A s.heap c0 c s.heap [] := ⟨hP, va_S.rf⟩
  generalize hQ : MQ below (va_Qv (fun (_ : Unit) => True) (fun _ U => gE D ad cy N c0 cZ U) A) args s 0 0 A = Q
  suffices hgen : ∀ (H : Heap) (locs : List Loc), gW D ad cy N A s.heap c0 c H locs → W p l e rmX10_fairBy s m args below meth cod H locs 0 0 Q (F0 m 0 ls []) from hgen _ _ G
  clear G
  intro H locs G
  unfold m_X10_fairBy at h
  refine lv_aload_n hx hb dX10_fairBy_0 rfl (lv_at hl 0 rfl) ?_
  obtain ⟨hk1, h⟩ := gc_s h
  have ht2 : t < N := Nat.lt_of_lt_of_le (gck_lt10 hk1) hN
  refine fg_10_now F G hk1 ht2 in10 (by decide +kernel) dX10_fairBy_1 ?_
  have hk3 : gck 503 = 22 := rfl
  have ht4 : 503 < N := Nat.lt_of_lt_of_le (by decide) hN
  have hn5 : gal 503 = 60 := rfl
  refine lv_aload_n hx hb dX10_fairBy_4 rfl (lv_at hl 0 rfl) ?_
  refine fg_10_trial F G hk1 ht2 in10 (by decide +kernel) dX10_fairBy_5 ?_
  have hk6 : gck 504 = 22 := rfl
  have ht7 : 504 < N := Nat.lt_of_lt_of_le (by decide) hN
  have hn8 : gal 504 = 60 := rfl
  obtain ⟨c11, hc9, h⟩ := gb_s h
  refine gx_callv F G (va_runS (As := [.ref (ad 503), .ref (ad 504)]) (rest := []) (gx_fix F) (c_X10_copies l sa D ad cy N H.size hN hI c0 c hc9) (va_cwS 2 hts gX10_fairBy_X10_copies rfl rfl rfl (by decide +kernel) ⟨by decide, by decide⟩) (gx_pre F G) rfl rfl hl.1 rfl (lv_room (Nat.le_of_ble_eq_true rfl)) dX10_fairBy_8 ⟨Nat.zero_le _, Nat.zero_le _⟩) (fun H locs G => ?_)
  refine lv_aload_n hx hb dX10_fairBy_11 rfl (lv_at hl 0 rfl) ?_
  refine lv_iload_n hx hb dX10_fairBy_12 rfl (lv_at hl 1 rfl) ?_
  refine fp_10_lots F G hk1 ht2 in10 (by decide +kernel) dX10_fairBy_13 (fun H locs G => ?_)
  obtain ⟨c12, ec12⟩ : ∃ z, z = gm_r c11 t (upd (c11.1 t) 45 a1) := ⟨_, rfl⟩
  rw [← ec12] at G
  replace h := gv_s h c12 ec12
  refine lv_iconst (v := 0) hx hb dX10_fairBy_16 (by decide) ?_
  refine lv_istore (lv' := [(4, .int 0), (0, .ref (ad t)), (1, .int a1), (2, .int a2), (3, .int a3)]) hx hb dX10_fairBy_17 hl (by decide) rfl (fun ls hl => ?_)
  obtain ⟨b13, hb13, hK13⟩ := gb_s h
  have E13 : ∀ (c16 : gm) (H : Heap) (locs : List Loc) (ls : Array Slot), (c16 : gm) = b13 → gW D ad cy N A s.heap c0 c16 H locs → lv_has ls 7 [] → W p l e rmX10_fairBy s m args below meth cod H locs 0 0 Q (F0 m 112 ls []) := by
    intro c16 H locs ls hq13 G hl
    subst hq13
    replace hK13 := hK13
    have h := hK13
    cases h
    rw [← hQ]
    exact gx_vret F G hr hlocks dX10_fairBy_112
  have L13 : ∀ (n9 : Nat) (y14 : Int32) (c15 : gm) (H : Heap) (locs : List Loc) (ls : Array Slot), gloop (gu2 (fun (y14 : Int32) (c15 : gm) => m_X10_fairBy_L19 n t a2 a3 y14 c15)) n9 (y14, c15) = some b13 → gW D ad cy N A s.heap c0 c15 H locs → lv_has ls 7 [(0, .ref (ad t)), (2, .int a2), (3, .int a3), (4, .int y14)] → W p l e rmX10_fairBy s m args below meth cod H locs 0 0 Q (F0 m 19 ls []) := by
    intro n9
    induction n9 with
    | zero => intro y14 c15 H locs ls h; exact (gloop_0 h).elim
    | succ n9 ih =>
      intro y14 c15 H locs ls h G hl
      have ih13 := ih
      obtain ⟨o13, h, hn13⟩ := gloop_s h
      replace h := gu2_s h
      unfold m_X10_fairBy_L19 at h
      refine lv_iload hx hb dX10_fairBy_19 (lv_at hl 3 rfl) ?_
      refine lv_iload_n hx hb dX10_fairBy_21 rfl (lv_at hl 1 rfl) ?_
      refine lv_icmp_ge (tgt := 112) hx hb dX10_fairBy_22 (by decide) (fun q17 => ?_) (fun q17 => ?_)
      · replace h := gt_s q17 h
        cases h
        exact E13 _ _ _ _ (gnx_r hn13) G (lv_sub hl [] rfl)
      · replace h := gf_s q17 h
        refine lv_aload_n hx hb dX10_fairBy_25 rfl (lv_at hl 0 rfl) ?_
        refine fg_10_told F G hk1 ht2 in10 (by decide +kernel) dX10_fairBy_26 ?_
        have hk18 : gck 59 = 22 := rfl
        have ht19 : 59 < N := Nat.lt_of_lt_of_le (by decide) hN
        have hn20 : gal 59 = 4 := rfl
        refine lv_iconst (v := 0) hx hb dX10_fairBy_29 (by decide) ?_
        refine gx_mia F G hk18 ht19 hn20 (by decide) dX10_fairBy_30 ?_
        obtain ⟨K23, eK23, h⟩ := gj_s h
        have JK23 : ∀ (c22 : gm) (H : Heap) (locs : List Loc) (ls : Array Slot), K23 c22 = some o13 → gW D ad cy N A s.heap c0 c22 H locs → lv_has ls 7 [(0, .ref (ad t)), (2, .int a2), (3, .int a3), (4, .int y14)] → W p l e rmX10_fairBy s m args below meth cod H locs 0 0 Q (F0 m 98 ls []) := by
          intro c22 H locs ls h G hl
          rw [eK23] at h
          refine lv_aload_n hx hb dX10_fairBy_98 rfl (lv_at hl 0 rfl) ?_
          refine lv_aload_n hx hb dX10_fairBy_99 rfl (lv_at hl 0 rfl) ?_
          refine fg_10_trial F G hk1 ht2 in10 (by decide +kernel) dX10_fairBy_100 ?_
          obtain ⟨c26, hc24, h⟩ := gb_s h
          refine gx_callv F G (va_runV (As := [.ref (ad 504)]) (rest := []) (gx_fix F) (c_X10_dayEnds l sa D ad cy N H.size hN hI c0 c22 hc24) (cwV 1 hts gX10_fairBy_X10_dayEnds rfl rfl rfl (by decide +kernel) ⟨by decide, by decide⟩) (gx_rec F G ht2 (gwe_10 hk1) rfl) rfl rfl hl.1 rfl (lv_room (Nat.le_of_ble_eq_true rfl)) dX10_fairBy_103 ⟨Nat.zero_le _, Nat.zero_le _⟩) (fun H locs G => ?_)
          obtain ⟨x27, ex27⟩ : ∃ z : Int32, z = y14 + 1 := ⟨_, rfl⟩
          replace h := gv_s h x27 ex27
          refine lv_iinc (v := x27) (lv' := [(4, .int x27), (0, .ref (ad t)), (2, .int a2), (3, .int a3)]) hx hb dX10_fairBy_106 hl (k := 3) rfl (by rw [ex27]; rfl) (by decide) rfl (fun ls hl => ?_)
          refine lv_goto (tgt := 19) hx hb dX10_fairBy_109 (by decide) ?_
          cases h
          exact ih13 _ _ _ _ _ hn13 G (lv_sub hl [1, 2, 3, 0] rfl)
        refine lv_if_le (tgt := 98) hx hb dX10_fairBy_31 (by decide) (fun q28 => ?_) (fun q28 => ?_)
        · replace h := gt_s q28 h
          exact JK23 _ _ _ _ h G hl
        · replace h := gf_s q28 h
          refine lv_aload_n hx hb dX10_fairBy_34 rfl (lv_at hl 0 rfl) ?_
          refine lv_aload_n hx hb dX10_fairBy_35 rfl (lv_at hl 0 rfl) ?_
          refine fg_10_told F G hk1 ht2 in10 (by decide +kernel) dX10_fairBy_36 ?_
          refine lv_iconst (v := 0) hx hb dX10_fairBy_39 (by decide) ?_
          refine gx_mia F G hk18 ht19 hn20 (by decide) dX10_fairBy_40 ?_
          obtain ⟨r31, c32, hc30, h⟩ := gb2_s h
          refine gx_calli F G (va_runV (As := [.int (c15.1 59 (0 : Int32).toNatClampNeg)]) (rest := []) (gx_fix F) (c_X10_draw l sa D ad cy N H.size hN hI c0 c15 hc30) (cwV 1 hts gX10_fairBy_X10_draw rfl rfl rfl (by decide +kernel) ⟨by decide, by decide⟩) (gx_rec F G ht2 (gwe_10 hk1) rfl) rfl rfl hl.1 rfl (lv_room (Nat.le_of_ble_eq_true rfl)) dX10_fairBy_41 ⟨Nat.zero_le _, Nat.zero_le _⟩) (fun H locs G => ?_)
          refine lv_istore (lv' := [(5, .int r31), (0, .ref (ad t)), (2, .int a2), (3, .int a3), (4, .int y14)]) hx hb dX10_fairBy_44 hl (by decide) rfl (fun ls hl => ?_)
          refine lv_aload_n hx hb dX10_fairBy_46 rfl (lv_at hl 1 rfl) ?_
          refine lv_aload_n hx hb dX10_fairBy_47 rfl (lv_at hl 1 rfl) ?_
          refine fg_10_told F G hk1 ht2 in10 (by decide +kernel) dX10_fairBy_48 ?_
          refine lv_iconst (v := 0) hx hb dX10_fairBy_51 (by decide) ?_
          refine gx_mia F G hk18 ht19 hn20 (by decide) dX10_fairBy_52 ?_
          obtain ⟨r35, c36, hc34, h⟩ := gb2_s h
          refine gx_calli F G (va_runV (As := [.int (c32.1 59 (0 : Int32).toNatClampNeg)]) (rest := []) (gx_fix F) (c_X10_draw l sa D ad cy N H.size hN hI c0 c32 hc34) (cwV 1 hts gX10_fairBy_X10_draw rfl rfl rfl (by decide +kernel) ⟨by decide, by decide⟩) (gx_rec F G ht2 (gwe_10 hk1) rfl) rfl rfl hl.1 rfl (lv_room (Nat.le_of_ble_eq_true rfl)) dX10_fairBy_53 ⟨Nat.zero_le _, Nat.zero_le _⟩) (fun H locs G => ?_)
          refine lv_istore (lv' := [(6, .int r35), (5, .int r31), (0, .ref (ad t)), (2, .int a2), (3, .int a3), (4, .int y14)]) hx hb dX10_fairBy_56 hl (by decide) rfl (fun ls hl => ?_)
          refine lv_aload_n hx hb dX10_fairBy_58 rfl (lv_at hl 2 rfl) ?_
          refine lv_aload_n hx hb dX10_fairBy_59 rfl (lv_at hl 2 rfl) ?_
          refine fg_10_trial F G hk1 ht2 in10 (by decide +kernel) dX10_fairBy_60 ?_
          refine lv_iload hx hb dX10_fairBy_63 (lv_at hl 1 rfl) ?_
          refine lv_iconst (v := 1) hx hb dX10_fairBy_65 (by decide) ?_
          refine lv_aload_n hx hb dX10_fairBy_66 rfl (lv_at hl 2 rfl) ?_
          refine lv_iconst (v := 3) hx hb dX10_fairBy_67 (by decide) ?_
          obtain ⟨r38, c39, hc37, h⟩ := gb2_s h
          refine gx_calli F G (va_runV (As := [.int 3]) (rest := [.int 1, .int r31, .ref (ad 504), .ref (ad t)]) (gx_fix F) (c_X10_draw l sa D ad cy N H.size hN hI c0 c36 hc37) (cwV 1 hts gX10_fairBy_X10_draw rfl rfl rfl (by decide +kernel) ⟨by decide, by decide⟩) (gx_rec F G ht2 (gwe_10 hk1) rfl) rfl rfl hl.1 rfl (lv_room (Nat.le_of_ble_eq_true rfl)) dX10_fairBy_68 ⟨Nat.zero_le _, Nat.zero_le _⟩) (fun H locs G => ?_)
          refine lv_iadd hx hb dX10_fairBy_71 ?_
          refine lv_iload hx hb dX10_fairBy_72 (lv_at hl 0 rfl) ?_
          refine lv_iconst (v := 1) hx hb dX10_fairBy_74 (by decide) ?_
          obtain ⟨r41, c42, hc40, h⟩ := gb2_s h
          refine gx_calli F G (va_runV (As := [.ref (ad 504), .int r31, .int (1 + r38), .int r35, .int 1]) (rest := []) (gx_fix F) (c_X10_weighs l sa D ad cy N H.size hN hI c0 c39 hc40) (cwV 5 hts gX10_fairBy_X10_weighs rfl rfl rfl (by decide +kernel) ⟨by decide, by decide⟩) (gx_rec F G ht2 (gwe_10 hk1) rfl) rfl rfl hl.1 rfl (lv_room (Nat.le_of_ble_eq_true rfl)) dX10_fairBy_75 ⟨Nat.zero_le _, Nat.zero_le _⟩) (fun H locs G => ?_)
          refine lv_pop hx hb dX10_fairBy_78 rfl ?_
          refine lv_aload_n hx hb dX10_fairBy_79 rfl (lv_at hl 2 rfl) ?_
          refine lv_bipush (v := 16) hx hb dX10_fairBy_80 (by decide) ?_
          obtain ⟨r44, c45, hc43, h⟩ := gb2_s h
          refine gx_calli F G (va_runV (As := [.int 16]) (rest := []) (gx_fix F) (c_X10_draw l sa D ad cy N H.size hN hI c0 c42 hc43) (cwV 1 hts gX10_fairBy_X10_draw rfl rfl rfl (by decide +kernel) ⟨by decide, by decide⟩) (gx_rec F G ht2 (gwe_10 hk1) rfl) rfl rfl hl.1 rfl (lv_room (Nat.le_of_ble_eq_true rfl)) dX10_fairBy_82 ⟨Nat.zero_le _, Nat.zero_le _⟩) (fun H locs G => ?_)
          refine lv_iload_n hx hb dX10_fairBy_85 rfl (lv_at hl 4 rfl) ?_
          refine lv_icmp_ge (tgt := 98) hx hb dX10_fairBy_86 (by decide) (fun q46 => ?_) (fun q46 => ?_)
          · replace h := gt_s q46 h
            exact JK23 _ _ _ _ h G (lv_sub hl [2, 3, 4, 5] rfl)
          · replace h := gf_s q46 h
            refine lv_aload_n hx hb dX10_fairBy_89 rfl (lv_at hl 2 rfl) ?_
            refine fg_10_trial F G hk1 ht2 in10 (by decide +kernel) dX10_fairBy_90 ?_
            refine lv_iconst (v := 0) hx hb dX10_fairBy_93 (by decide) ?_
            obtain ⟨r48, c49, hc47, h⟩ := gb2_s h
            refine gx_calli F G (va_runS (As := [.ref (ad 504), .int 0]) (rest := []) (gx_fix F) (c_X10_tips l sa D ad cy N H.size hN hI c0 c45 hc47) (va_cwS 2 hts gX10_fairBy_X10_tips rfl rfl rfl (by decide +kernel) ⟨by decide, by decide⟩) (gx_pre F G) rfl rfl hl.1 rfl (lv_room (Nat.le_of_ble_eq_true rfl)) dX10_fairBy_94 ⟨Nat.zero_le _, Nat.zero_le _⟩) (fun H locs G => ?_)
            refine lv_pop hx hb dX10_fairBy_97 rfl ?_
            exact JK23 _ _ _ _ h G (lv_sub hl [2, 3, 4, 5] rfl)
  exact L13 n _ _ _ _ _ hb13 G (lv_sub hl [1, 3, 4, 0] rfl)
def m_X10_isFair (a1 : Int32) (a2 : Int32) : Option (Int32) :=
  gb (m_X10_in a1 1 96) (fun (r2 : Int32) => (if r2 = 0 then some 0 else gb (m_X10_in a2 0 16) (fun (r5 : Int32) => (if r5 = 0 then some 0 else some 1))))
abbrev rmX10_isFair : Room := { frames := 1, cells := 0, slots := 0, locals := 22 }
set_option maxHeartbeats 4000000 in
set_option maxRecDepth 100000 in
theorem c_X10_isFair (l : Launch) (sa : gSa) (D : va_G) (ad : Nat → Nat) (cy : Nat → ClassId) (N sz : Nat) (hN : 530 ≤ N) (hI : gI ad N) (c0 c : gm) {a1 : Int32} {a2 : Int32} {rZ : Int32} (h : m_X10_isFair a1 a2 = some rZ) : Met l yX10_isFair wsX10_isFair rmX10_isFair (va_Pc [.int a1, .int a2] (gP sa D ad cy N sz c0 c)) (va_Qi (fun (z : Int32) (_ : Unit) => z = rZ) (fun _ U => gE D ad cy N c0 c U) (gA ad N sz)) 0 0 (gA ad N sz) := by
  refine Met.ofW (cc := cX10_isFair) (maxL := 2) (ret := (some .boolean)) (by decide) rfl ?_
  intro p e s m args below meth cod s₁ B hml hv
  obtain ⟨rfl, hsz, hP, hK, hZ⟩ := hv
  have hx := B.exec
  have hb := B.bytes
  have hr := B.returns
  have hts := atoms_spec (ws := wsX10_isFair) B.pre
  have hown : s.vm.findClass RX10 = some m.cls := findClass_of_methodNamed B.named
  have hlocks := B.notSynchronized
  subst hsz
  have hl := lv_entry ([.int a1, .int a2]) (n := 2) (Nat.le_of_ble_eq_true rfl)
  rw [lg_entry_eq]
  generalize (lg_sl ([.int a1, .int a2]) ++ List.replicate (2 - (lg_sl ([.int a1, .int a2])).length) Slot.unset).toArray = ls at hl ⊢
  have hl : lv_has ls 2 [(0, .int a1), (1, .int a2)] := hl
  generalize hargs : ([.int a1, .int a2] : List Value).toArray = args at *
  generalize hAe : gA ad N s.heap.size = A
  have F : gF sa D ad cy N A p s m args cod cX10_isFair 2 wsX10_isFair RX10 := ⟨hx, hb, hml, hown, hts, hK, hI, by rw [← hAe]; exact gA_ad, by rw [← hAe]; exact gA_sz, by rw [← hAe]; exact hZ⟩
  have G : gW D ad cy N A s.heap c0 c s.heap [] := ⟨hP, va_S.rf⟩
  generalize hQ : MQ below (va_Qi (fun (z : Int32) (_ : Unit) => z = rZ) (fun _ U => gE D ad cy N c0 c U) A) args s 0 0 A = Q
  suffices hgen : ∀ (H : Heap) (locs : List Loc), gW D ad cy N A s.heap c0 c H locs → W p l e rmX10_isFair s m args below meth cod H locs 0 0 Q (F0 m 0 ls []) from hgen _ _ G
  clear G
  intro H locs G
  unfold m_X10_isFair at h
  refine lv_iload_n hx hb dX10_isFair_0 rfl (lv_at hl 0 rfl) ?_
  refine lv_iconst (v := 1) hx hb dX10_isFair_1 (by decide) ?_
  refine lv_bipush (v := 96) hx hb dX10_isFair_2 (by decide) ?_
  obtain ⟨r2, hc1, h⟩ := gb_s h
  refine gx_calli F G (va_runS (As := [.int a1, .int 1, .int 96]) (rest := []) (gx_fix F) (c_X10_in l sa D ad cy N H.size hN hI c0 c hc1) (va_cwS 3 hts gX10_isFair_X10_in rfl rfl rfl (by decide +kernel) ⟨by decide, by decide⟩) (gx_pre F G) rfl rfl hl.1 rfl (lv_room (Nat.le_of_ble_eq_true rfl)) dX10_isFair_4 ⟨Nat.zero_le _, Nat.zero_le _⟩) (fun H locs G => ?_)
  refine lv_if_eq (tgt := 24) hx hb dX10_isFair_7 (by decide) (fun q3 => ?_) (fun q3 => ?_)
  · replace h := gt_s q3 h
    refine lv_iconst (v := 0) hx hb dX10_isFair_24 (by decide) ?_
    cases h
    rw [← hQ]
    exact gx_zret F G hr hlocks rfl dX10_isFair_25
  · replace h := gf_s q3 h
    refine lv_iload_n hx hb dX10_isFair_10 rfl (lv_at hl 1 rfl) ?_
    refine lv_iconst (v := 0) hx hb dX10_isFair_11 (by decide) ?_
    refine lv_bipush (v := 16) hx hb dX10_isFair_12 (by decide) ?_
    obtain ⟨r5, hc4, h⟩ := gb_s h
    refine gx_calli F G (va_runS (As := [.int a2, .int 0, .int 16]) (rest := []) (gx_fix F) (c_X10_in l sa D ad cy N H.size hN hI c0 c hc4) (va_cwS 3 hts gX10_isFair_X10_in rfl rfl rfl (by decide +kernel) ⟨by decide, by decide⟩) (gx_pre F G) rfl rfl hl.1 rfl (lv_room (Nat.le_of_ble_eq_true rfl)) dX10_isFair_14 ⟨Nat.zero_le _, Nat.zero_le _⟩) (fun H locs G => ?_)
    refine lv_if_eq (tgt := 24) hx hb dX10_isFair_17 (by decide) (fun q6 => ?_) (fun q6 => ?_)
    · replace h := gt_s q6 h
      refine lv_iconst (v := 0) hx hb dX10_isFair_24 (by decide) ?_
      cases h
      rw [← hQ]
      exact gx_zret F G hr hlocks rfl dX10_isFair_25
    · replace h := gf_s q6 h
      refine lv_iconst (v := 1) hx hb dX10_isFair_20 (by decide) ?_
      refine lv_goto (tgt := 25) hx hb dX10_isFair_21 (by decide) ?_
      cases h
      rw [← hQ]
      exact gx_zret F G hr hlocks rfl dX10_isFair_25
def m_X10_fair (n : Nat) (t : Nat) (a1 : Int32) (a2 : Int32) (a3 : Int32) (a4 : Int32) (c : gm) : Option (Int32 × gm) :=
  gc (gck t = 10) (gv (gm_r c t (upd (c.1 t) 0 0)) (fun (c3 : gm) => gb (m_X10_isFair a2 a3) (fun (r5 : Int32) => gj (fun (v6 : Int32) => gb2 (m_X10_bad t v6 1 1 c3) (fun (r9 : Int32) (c10 : gm) => (if r9 = 0 then gb (m_X10_fairBy n t a1 a2 a3 c10) (fun (c14 : gm) => (if a4 = 0 then gb (m_X10_weightIn n t 504 c14) (fun (r39 : Int32) => some (r39, c14)) else (if a4 = 1 then some ((c14.1 504 (56 : Int32).toNatClampNeg), c14) else (if a4 = 2 then some (((c14.1 504 (58 : Int32).toNatClampNeg) - (c14.1 503 (58 : Int32).toNatClampNeg)), c14) else gb (m_X10_notSo n 504 c14) (fun (r22 : Int32) => some (r22, c14)))))) else some (0, c10)))) (fun K7 => gj (fun (_ : Unit) => K7 1) (fun K40 => (if r5 = 0 then K40 () else gb (m_X10_in a4 0 3) (fun (r43 : Int32) => (if r43 = 0 then K40 () else K7 0))))))))
abbrev rmX10_fair : Room := { frames := 7, cells := 0, slots := 0, locals := 162 }
set_option maxHeartbeats 4000000 in
set_option maxRecDepth 100000 in
theorem c_X10_fair (l : Launch) (sa : gSa) (D : va_G) (ad : Nat → Nat) (cy : Nat → ClassId) (N sz : Nat) (hN : 530 ≤ N) (hI : gI ad N) (c0 c : gm) {n : Nat} {t : Nat} {a1 : Int32} {a2 : Int32} {a3 : Int32} {a4 : Int32} {rZ : Int32} {cZ : gm} (h : m_X10_fair n t a1 a2 a3 a4 c = some (rZ, cZ)) : Met l yX10_fair wsX10_fair rmX10_fair (va_Pc [.ref (ad t), .int a1, .int a2, .int a3, .int a4] (gP sa D ad cy N sz c0 c)) (va_Qi (fun (z : Int32) (_ : Unit) => z = rZ) (fun _ U => gE D ad cy N c0 cZ U) (gA ad N sz)) 0 0 (gA ad N sz) := by
  refine Met.ofW (cc := cX10_fair) (maxL := 5) (ret := (some .int)) (by decide) rfl ?_
  intro p e s m args below meth cod s₁ B hml hv
  obtain ⟨rfl, hsz, hP, hK, hZ⟩ := hv
  have hx := B.exec
  have hb := B.bytes
  have hr := B.returns
  have hts := atoms_spec (ws := wsX10_fair) B.pre
  have hown : s.vm.findClass RX10 = some m.cls := findClass_of_methodNamed B.named
  have hlocks := B.notSynchronized
  subst hsz
  have hl := lv_entry ([.ref (ad t), .int a1, .int a2, .int a3, .int a4]) (n := 5) (Nat.le_of_ble_eq_true rfl)
  rw [lg_entry_eq]
  generalize (lg_sl ([.ref (ad t), .int a1, .int a2, .int a3, .int a4]) ++ List.replicate (5 - (lg_sl ([.ref (ad t), .int a1, .int a2, .int a3, .int a4])).length) Slot.unset).toArray = ls at hl ⊢
  have hl : lv_has ls 5 [(0, .ref (ad t)), (1, .int a1), (2, .int a2), (3, .int a3), (4, .int a4)] := hl
  have in10 : ∀ w ∈ wsX100, w ∈ wsX10_fair := by decide +kernel
  generalize hargs : ([.ref (ad t), .int a1, .int a2, .int a3, .int a4] : List Value).toArray = args at *
  generalize hAe : gA ad N s.heap.size = A
  have F : gF sa D ad cy N A p s m args cod cX10_fair 5 wsX10_fair RX10 := ⟨hx, hb, hml, hown, hts, hK, hI, by rw [← hAe]; exact gA_ad, by rw [← hAe]; exact gA_sz, by rw [← hAe]; exact hZ⟩
  have G : gW D ad cy N A s.heap c0 c s.heap [] := ⟨hP, va_S.rf⟩
  generalize hQ : MQ below (va_Qi (fun (z : Int32) (_ : Unit) => z = rZ) (fun _ U => gE D ad cy N c0 cZ U) A) args s 0 0 A = Q
  suffices hgen : ∀ (H : Heap) (locs : List Loc), gW D ad cy N A s.heap c0 c H locs → W p l e rmX10_fair s m args below meth cod H locs 0 0 Q (F0 m 0 ls []) from hgen _ _ G
  clear G
  intro H locs G
  unfold m_X10_fair at h
  refine lv_aload_n hx hb dX10_fair_0 rfl (lv_at hl 0 rfl) ?_
  refine lv_iconst (v := 0) hx hb dX10_fair_1 (by decide) ?_
  obtain ⟨hk1, h⟩ := gc_s h
  have ht2 : t < N := Nat.lt_of_lt_of_le (gck_lt10 hk1) hN
  refine fp_10_thrown F G hk1 ht2 in10 (by decide +kernel) dX10_fair_2 (fun H locs G => ?_)
  obtain ⟨c3, ec3⟩ : ∃ z, z = gm_r c t (upd (c.1 t) 0 0) := ⟨_, rfl⟩
  rw [← ec3] at G
  replace h := gv_s h c3 ec3
  refine lv_aload_n hx hb dX10_fair_5 rfl (lv_at hl 0 rfl) ?_
  refine lv_iload_n hx hb dX10_fair_6 rfl (lv_at hl 2 rfl) ?_
  refine lv_iload_n hx hb dX10_fair_7 rfl (lv_at hl 3 rfl) ?_
  obtain ⟨r5, hc4, h⟩ := gb_s h
  refine gx_calli F G (va_runS (As := [.int a2, .int a3]) (rest := [.ref (ad t)]) (gx_fix F) (c_X10_isFair l sa D ad cy N H.size hN hI c0 c3 hc4) (va_cwS 2 hts gX10_fair_X10_isFair rfl rfl rfl (by decide +kernel) ⟨by decide, by decide⟩) (gx_pre F G) rfl rfl hl.1 rfl (lv_room (Nat.le_of_ble_eq_true rfl)) dX10_fair_8 ⟨Nat.zero_le _, Nat.zero_le _⟩) (fun H locs G => ?_)
  obtain ⟨K7, eK7, h⟩ := gj_s h
  have JK7 : ∀ (v6 : Int32) (H : Heap) (locs : List Loc) (ls : Array Slot), K7 v6 = some (rZ, cZ) → gW D ad cy N A s.heap c0 c3 H locs → lv_has ls 5 [(0, .ref (ad t)), (1, .int a1), (2, .int a2), (3, .int a3), (4, .int a4)] → W p l e rmX10_fair s m args below meth cod H locs 0 0 Q (F0 m 29 ls [.int v6, .ref (ad t)]) := by
    intro v6 H locs ls h G hl
    rw [eK7] at h
    refine lv_iconst (v := 1) hx hb dX10_fair_29 (by decide) ?_
    refine lv_iconst (v := 1) hx hb dX10_fair_30 (by decide) ?_
    obtain ⟨r9, c10, hc8, h⟩ := gb2_s h
    refine gx_calli F G (va_runV (As := [.int v6, .int 1, .int 1]) (rest := []) (gx_fix F) (c_X10_bad l sa D ad cy N H.size hN hI c0 c3 hc8) (cwV 3 hts gX10_fair_X10_bad rfl rfl rfl (by decide +kernel) ⟨by decide, by decide⟩) (gx_rec F G ht2 (gwe_10 hk1) rfl) rfl rfl hl.1 rfl (lv_room (Nat.le_of_ble_eq_true rfl)) dX10_fair_31 ⟨Nat.zero_le _, Nat.zero_le _⟩) (fun H locs G => ?_)
    refine lv_if_eq (tgt := 39) hx hb dX10_fair_34 (by decide) (fun q11 => ?_) (fun q11 => ?_)
    · replace h := gt_s q11 h
      refine lv_aload_n hx hb dX10_fair_39 rfl (lv_at hl 0 rfl) ?_
      refine lv_iload_n hx hb dX10_fair_40 rfl (lv_at hl 1 rfl) ?_
      refine lv_iload_n hx hb dX10_fair_41 rfl (lv_at hl 2 rfl) ?_
      refine lv_iload_n hx hb dX10_fair_42 rfl (lv_at hl 3 rfl) ?_
      obtain ⟨c14, hc12, h⟩ := gb_s h
      refine gx_callv F G (va_runV (As := [.int a1, .int a2, .int a3]) (rest := []) (gx_fix F) (c_X10_fairBy l sa D ad cy N H.size hN hI c0 c10 hc12) (cwV 3 hts gX10_fair_X10_fairBy rfl rfl rfl (by decide +kernel) ⟨by decide, by decide⟩) (gx_rec F G ht2 (gwe_10 hk1) rfl) rfl rfl hl.1 rfl (lv_room (Nat.le_of_ble_eq_true rfl)) dX10_fair_43 ⟨Nat.zero_le _, Nat.zero_le _⟩) (fun H locs G => ?_)
      refine lv_iload hx hb dX10_fair_46 (lv_at hl 4 rfl) ?_
      refine lv_if_ne (tgt := 62) hx hb dX10_fair_48 (by decide) (fun q15 => ?_) (fun q15 => ?_)
      · replace h := gf_s q15 h
        refine lv_iload hx hb dX10_fair_62 (lv_at hl 4 rfl) ?_
        refine lv_iconst (v := 1) hx hb dX10_fair_64 (by decide) ?_
        refine lv_icmp_ne (tgt := 78) hx hb dX10_fair_65 (by decide) (fun q16 => ?_) (fun q16 => ?_)
        · replace h := gf_s q16 h
          refine lv_iload hx hb dX10_fair_78 (lv_at hl 4 rfl) ?_
          refine lv_iconst (v := 2) hx hb dX10_fair_80 (by decide) ?_
          refine lv_icmp_ne (tgt := 102) hx hb dX10_fair_81 (by decide) (fun q17 => ?_) (fun q17 => ?_)
          · replace h := gf_s q17 h
            refine lv_aload_n hx hb dX10_fair_102 rfl (lv_at hl 0 rfl) ?_
            refine fg_10_trial F G hk1 ht2 in10 (by decide +kernel) dX10_fair_103 ?_
            have hk18 : gck 504 = 22 := rfl
            have ht19 : 504 < N := Nat.lt_of_lt_of_le (by decide) hN
            have hn20 : gal 504 = 60 := rfl
            obtain ⟨r22, hc21, h⟩ := gb_s h
            refine gx_calli F G (va_runS (As := [.ref (ad 504)]) (rest := []) (gx_fix F) (c_X10_notSo l sa D ad cy N H.size hN hI c0 c14 hc21) (va_cwS 1 hts gX10_fair_X10_notSo rfl rfl rfl (by decide +kernel) ⟨by decide, by decide⟩) (gx_pre F G) rfl rfl hl.1 rfl (lv_room (Nat.le_of_ble_eq_true rfl)) dX10_fair_106 ⟨Nat.zero_le _, Nat.zero_le _⟩) (fun H locs G => ?_)
            cases h
            rw [← hQ]
            exact gx_iret F G hr hlocks dX10_fair_109
          · replace h := gt_s q17 h
            refine lv_aload_n hx hb dX10_fair_84 rfl (lv_at hl 0 rfl) ?_
            refine fg_10_trial F G hk1 ht2 in10 (by decide +kernel) dX10_fair_85 ?_
            have hk23 : gck 504 = 22 := rfl
            have ht24 : 504 < N := Nat.lt_of_lt_of_le (by decide) hN
            have hn25 : gal 504 = 60 := rfl
            refine lv_bipush (v := 58) hx hb dX10_fair_88 (by decide) ?_
            refine gx_mia F G hk23 ht24 hn25 (by decide) dX10_fair_90 ?_
            refine lv_aload_n hx hb dX10_fair_91 rfl (lv_at hl 0 rfl) ?_
            refine fg_10_now F G hk1 ht2 in10 (by decide +kernel) dX10_fair_92 ?_
            have hk27 : gck 503 = 22 := rfl
            have ht28 : 503 < N := Nat.lt_of_lt_of_le (by decide) hN
            have hn29 : gal 503 = 60 := rfl
            refine lv_bipush (v := 58) hx hb dX10_fair_95 (by decide) ?_
            refine gx_mia F G hk27 ht28 hn29 (by decide) dX10_fair_97 ?_
            refine lv_isub hx hb dX10_fair_98 ?_
            refine lv_goto (tgt := 109) hx hb dX10_fair_99 (by decide) ?_
            cases h
            rw [← hQ]
            exact gx_iret F G hr hlocks dX10_fair_109
        · replace h := gt_s q16 h
          refine lv_aload_n hx hb dX10_fair_68 rfl (lv_at hl 0 rfl) ?_
          refine fg_10_trial F G hk1 ht2 in10 (by decide +kernel) dX10_fair_69 ?_
          have hk31 : gck 504 = 22 := rfl
          have ht32 : 504 < N := Nat.lt_of_lt_of_le (by decide) hN
          have hn33 : gal 504 = 60 := rfl
          refine lv_bipush (v := 56) hx hb dX10_fair_72 (by decide) ?_
          refine gx_mia F G hk31 ht32 hn33 (by decide) dX10_fair_74 ?_
          refine lv_goto (tgt := 109) hx hb dX10_fair_75 (by decide) ?_
          cases h
          rw [← hQ]
          exact gx_iret F G hr hlocks dX10_fair_109
      · replace h := gt_s q15 h
        refine lv_aload_n hx hb dX10_fair_51 rfl (lv_at hl 0 rfl) ?_
        refine lv_aload_n hx hb dX10_fair_52 rfl (lv_at hl 0 rfl) ?_
        refine fg_10_trial F G hk1 ht2 in10 (by decide +kernel) dX10_fair_53 ?_
        have hk35 : gck 504 = 22 := rfl
        have ht36 : 504 < N := Nat.lt_of_lt_of_le (by decide) hN
        have hn37 : gal 504 = 60 := rfl
        obtain ⟨r39, hc38, h⟩ := gb_s h
        refine gx_calli F G (va_runV (As := [.ref (ad 504)]) (rest := []) (gx_fix F) (c_X10_weightIn l sa D ad cy N H.size hN hI c0 c14 hc38) (cwV 1 hts gX10_fair_X10_weightIn rfl rfl rfl (by decide +kernel) ⟨by decide, by decide⟩) (gx_rec F G ht2 (gwe_10 hk1) rfl) rfl rfl hl.1 rfl (lv_room (Nat.le_of_ble_eq_true rfl)) dX10_fair_56 ⟨Nat.zero_le _, Nat.zero_le _⟩) (fun H locs G => ?_)
        refine lv_goto (tgt := 109) hx hb dX10_fair_59 (by decide) ?_
        cases h
        rw [← hQ]
        exact gx_iret F G hr hlocks dX10_fair_109
    · replace h := gf_s q11 h
      refine lv_iconst (v := 0) hx hb dX10_fair_37 (by decide) ?_
      cases h
      rw [← hQ]
      exact gx_iret F G hr hlocks dX10_fair_38
  obtain ⟨K40, eK40, h⟩ := gj_s h
  have JK40 : ∀ (H : Heap) (locs : List Loc) (ls : Array Slot), K40 () = some (rZ, cZ) → gW D ad cy N A s.heap c0 c3 H locs → lv_has ls 5 [(0, .ref (ad t)), (1, .int a1), (2, .int a2), (3, .int a3), (4, .int a4)] → W p l e rmX10_fair s m args below meth cod H locs 0 0 Q (F0 m 24 ls [.ref (ad t)]) := by
    intro  H locs ls h G hl
    rw [eK40] at h
    refine lv_iconst (v := 1) hx hb dX10_fair_24 (by decide) ?_
    refine lv_goto (tgt := 29) hx hb dX10_fair_25 (by decide) ?_
    exact JK7 _ _ _ _ h G hl
  refine lv_if_eq (tgt := 24) hx hb dX10_fair_11 (by decide) (fun q41 => ?_) (fun q41 => ?_)
  · replace h := gt_s q41 h
    exact JK40  _ _ _ h G hl
  · replace h := gf_s q41 h
    refine lv_iload hx hb dX10_fair_14 (lv_at hl 4 rfl) ?_
    refine lv_iconst (v := 0) hx hb dX10_fair_16 (by decide) ?_
    refine lv_iconst (v := 3) hx hb dX10_fair_17 (by decide) ?_
    obtain ⟨r43, hc42, h⟩ := gb_s h
    refine gx_calli F G (va_runS (As := [.int a4, .int 0, .int 3]) (rest := [.ref (ad t)]) (gx_fix F) (c_X10_in l sa D ad cy N H.size hN hI c0 c3 hc42) (va_cwS 3 hts gX10_fair_X10_in rfl rfl rfl (by decide +kernel) ⟨by decide, by decide⟩) (gx_pre F G) rfl rfl hl.1 rfl (lv_room (Nat.le_of_ble_eq_true rfl)) dX10_fair_18 ⟨Nat.zero_le _, Nat.zero_le _⟩) (fun H locs G => ?_)
    refine lv_if_ne (tgt := 28) hx hb dX10_fair_21 (by decide) (fun q44 => ?_) (fun q44 => ?_)
    · replace h := gf_s q44 h
      refine lv_iconst (v := 0) hx hb dX10_fair_28 (by decide) ?_
      exact JK7 _ _ _ _ h G hl
    · replace h := gt_s q44 h
      exact JK40  _ _ _ h G hl
