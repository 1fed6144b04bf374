-- X9_against X9_isFair X9_fair X9_span X9_image X9_restore X9_status X9_count X10_tellsNothing X10_lays X10_beginsAnew X10_thrown X10_bad X10_in X10_less X10_more X10_has
def m_X9_against_L12 (a1 : Int32) (a2 : Int32) (c8 : gm) (y10 : Int32) : Option ((Int32) ⊕ ((Int32 × gm) ⊕ (Unit))) :=
  (if 9 < y10 then some (.inr (.inr ())) else gb (m_X6_weightOf 3 a1 c8) (fun (r15 : Int32) => gb (m_X6_weightOf 3 a2 c8) (fun (r17 : Int32) => (if (r15 * y10) < r17 then gv (y10 + 1) (fun (x19 : Int32) => some (.inl x19)) else some (.inr (.inl (y10, c8)))))))
def m_X9_against (n : Nat) (t : Nat) (a1 : Int32) (a2 : Int32) (c : gm) : Option ((Int32 × gm) ⊕ (Nat × gm)) :=
  gc (gck t = 9) (gbx (m_X9_demandThing t a1 c) (fun (c5 : gm) => gbx (m_X9_demandThing t a2 c5) (fun (c8 : gm) => gok (gb (gloop (fun (y10 : Int32) => m_X9_against_L12 a1 a2 c8 y10) n 1) (gsm (fun (_ : Unit) => some ((-1), c8)))))))
abbrev rmX9_against : Room := { frames := 8, cells := 0, slots := 0, locals := 132 }
abbrev rxX9_against : Room := { frames := 8, cells := 1, slots := 6, locals := 132 }
set_option maxHeartbeats 4000000 in
set_option maxRecDepth 100000 in
theorem c_X9_against (l : Launch) (sa : gSa) (D : va_G) (ad : Nat → Nat) (cy : Nat → ClassId) (N sz : Nat) (hN : 55 ≤ N) (hI : gI ad N) (c d0 : gm) {n : Nat} {t : Nat} {a1 : Int32} {a2 : Int32} {rZ : Int32} {cZ : gm} (h : m_X9_against n t a1 a2 c = some (.inl (rZ, cZ))) : Met l yX9_against wsX9_against rmX9_against (va_Pc [.ref (ad t), .int a1, .int a2] (gP sa D ad cy N sz c d0)) (va_Qi (fun (z : Int32) (_ : Unit) => z = rZ) (fun _ U => gE D ad cy N cZ d0 U) (gA ad N sz)) 0 0 (gA ad N sz) := by
  refine Met.ofW (cc := cX9_against) (maxL := 4) (ret := (some .int)) (by decide) rfl ?_
  intro p e s m args below meth cod s₁ B hml hv
  obtain ⟨rfl, hsz, hP, hK, hZ⟩ := hv
  have hx := B.exec
  have hb := B.bytes
  have hr := B.returns
  have hts := atoms_spec (ws := wsX9_against) B.pre
  have hown : s.vm.findClass RX9 = some m.cls := findClass_of_methodNamed B.named
  have hlocks := B.notSynchronized
  subst hsz
  have hl := lv_entry ([.ref (ad t), .int a1, .int a2]) (n := 4) (Nat.le_of_ble_eq_true rfl)
  rw [lg_entry_eq]
  generalize (lg_sl ([.ref (ad t), .int a1, .int a2]) ++ List.replicate (4 - (lg_sl ([.ref (ad t), .int a1, .int a2])).length) Slot.unset).toArray = ls at hl ⊢
  have hl : lv_has ls 4 [(0, .ref (ad t)), (1, .int a1), (2, .int a2)] := hl
  have in9 : ∀ w ∈ wsX90, w ∈ wsX9_against := by decide +kernel
  generalize hargs : ([.ref (ad t), .int a1, .int a2] : List Value).toArray = args at *
  generalize hAe : gA ad N s.heap.size = A
  have F : gF sa D ad cy N A p s m args cod cX9_against 4 wsX9_against RX9 := ⟨hx, hb, hml, hown, hts, hK, hI, by rw [← hAe]; exact gA_ad, by rw [← hAe]; exact gA_sz, by rw [← hAe]; exact hZ⟩
  have G : gW D ad cy N A s.heap c d0 s.heap [] := ⟨hP, va_S.rf⟩
  generalize hQ : MQ below (va_Qi (fun (z : Int32) (_ : Unit) => z = rZ) (fun _ U => gE D ad cy N cZ d0 U) A) args s 0 0 A = Q
  suffices hgen : ∀ (H : Heap) (locs : List Loc), gW D ad cy N A s.heap c d0 H locs → W p l e rmX9_against s m args below meth cod H locs 0 0 Q (F0 m 0 ls []) from hgen _ _ G
  clear G
  intro H locs G
  unfold m_X9_against at h
  refine lv_aload_n hx hb dX9_against_0 rfl (lv_at hl 0 rfl) ?_
  refine lv_iload_n hx hb dX9_against_1 rfl (lv_at hl 1 rfl) ?_
  obtain ⟨hk1, h⟩ := gc_s h
  have ht2 : t < N := Nat.lt_of_lt_of_le (gck_lt9 hk1) hN
  obtain ⟨c5, hc3, h⟩ := gbx_l h
  refine gx_callv F G (va_runV (As := [.int a1]) (rest := []) (gx_fix F) (c_X9_demandThing l sa D ad cy N H.size hN hI c d0 hc3) (cwV 1 hts gX9_against_X9_demandThing rfl rfl rfl (by decide +kernel) ⟨by decide, by decide⟩) (gx_rec F G ht2 (gwe_9 hk1) rfl) rfl rfl hl.1 rfl (lv_room (Nat.le_of_ble_eq_true rfl)) dX9_against_2 ⟨Nat.zero_le _, Nat.zero_le _⟩) (fun H locs G => ?_)
  refine lv_aload_n hx hb dX9_against_5 rfl (lv_at hl 0 rfl) ?_
  refine lv_iload_n hx hb dX9_against_6 rfl (lv_at hl 2 rfl) ?_
  obtain ⟨c8, hc6, h⟩ := gbx_l h
  refine gx_callv F G (va_runV (As := [.int a2]) (rest := []) (gx_fix F) (c_X9_demandThing l sa D ad cy N H.size hN hI c5 d0 hc6) (cwV 1 hts gX9_against_X9_demandThing rfl rfl rfl (by decide +kernel) ⟨by decide, by decide⟩) (gx_rec F G ht2 (gwe_9 hk1) rfl) rfl rfl hl.1 rfl (lv_room (Nat.le_of_ble_eq_true rfl)) dX9_against_7 ⟨Nat.zero_le _, Nat.zero_le _⟩) (fun H locs G => ?_)
  replace h := gok_s h
  refine lv_iconst (v := 1) hx hb dX9_against_10 (by decide) ?_
  refine lv_istore_n (lv' := [(3, .int 1), (0, .ref (ad t)), (1, .int a1), (2, .int a2)]) hx hb dX9_against_11 rfl hl (by decide) rfl (fun ls hl => ?_)
  obtain ⟨b9, hb9, hK9⟩ := gb_s h
  have E9 : ∀ (H : Heap) (locs : List Loc) (ls : Array Slot), (Sum.inr () : (Int32 × gm) ⊕ (Unit)) = b9 → gW D ad cy N A s.heap c8 d0 H locs → lv_has ls 4 [] → W p l e rmX9_against s m args below meth cod H locs 0 0 Q (F0 m 47 ls []) := by
    intro  H locs ls hq9 G hl
    subst hq9
    replace hK9 := gsm_r hK9
    have h := hK9
    refine lv_iconst (v := (-1)) hx hb dX9_against_47 (by decide) ?_
    cases h
    rw [← hQ]
    exact gx_iret F G hr hlocks dX9_against_48
  have L9 : ∀ (n9 : Nat) (y10 : Int32) (H : Heap) (locs : List Loc) (ls : Array Slot), gloop (fun (y10 : Int32) => m_X9_against_L12 a1 a2 c8 y10) n9 y10 = some b9 → gW D ad cy N A s.heap c8 d0 H locs → lv_has ls 4 [(0, .ref (ad t)), (1, .int a1), (2, .int a2), (3, .int y10)] → W p l e rmX9_against s m args below meth cod H locs 0 0 Q (F0 m 12 ls []) := by
    intro n9
    induction n9 with
    | zero => intro y10 H locs ls h; exact (gloop_0 h).elim
    | succ n9 ih =>
      intro y10 H locs ls h G hl
      have ih9 := ih
      obtain ⟨o9, h, hn9⟩ := gloop_s h
      unfold m_X9_against_L12 at h
      refine lv_iload_n hx hb dX9_against_12 rfl (lv_at hl 3 rfl) ?_
      refine lv_bipush (v := 9) hx hb dX9_against_13 (by decide) ?_
      refine lv_icmp_gt (tgt := 47) hx hb dX9_against_15 (by decide) (fun q11 => ?_) (fun q11 => ?_)
      · replace h := gt_s q11 h
        cases h
        exact E9  _ _ _ (gnx_r hn9) G (lv_sub hl [] rfl)
      · replace h := gf_s q11 h
        refine lv_aload_n hx hb dX9_against_18 rfl (lv_at hl 0 rfl) ?_
        refine fg_9_now F G hk1 ht2 in9 (by decide +kernel) dX9_against_19 ?_
        have hk12 : gck 3 = 6 := rfl
        have ht13 : 3 < N := Nat.lt_of_lt_of_le (by decide) hN
        refine lv_iload_n hx hb dX9_against_22 rfl (lv_at hl 1 rfl) ?_
        obtain ⟨r15, hc14, h⟩ := gb_s h
        refine gx_calli F G (va_runV (As := [.int a1]) (rest := []) (gx_fix F) (c_X6_weightOf l sa D ad cy N H.size hN hI c8 d0 hc14) (cwV 1 hts gX9_against_X6_weightOf rfl rfl rfl (by decide +kernel) ⟨by decide, by decide⟩) (gx_rec F G ht13 (gwe_6 hk12) rfl) rfl rfl hl.1 rfl (lv_room (Nat.le_of_ble_eq_true rfl)) dX9_against_23 ⟨Nat.zero_le _, Nat.zero_le _⟩) (fun H locs G => ?_)
        refine lv_iload_n hx hb dX9_against_26 rfl (lv_at hl 3 rfl) ?_
        refine lv_imul hx hb dX9_against_27 ?_
        refine lv_aload_n hx hb dX9_against_28 rfl (lv_at hl 0 rfl) ?_
        refine fg_9_now F G hk1 ht2 in9 (by decide +kernel) dX9_against_29 ?_
        refine lv_iload_n hx hb dX9_against_32 rfl (lv_at hl 2 rfl) ?_
        obtain ⟨r17, hc16, h⟩ := gb_s h
        refine gx_calli F G (va_runV (As := [.int a2]) (rest := [.int (r15 * y10)]) (gx_fix F) (c_X6_weightOf l sa D ad cy N H.size hN hI c8 d0 hc16) (cwV 1 hts gX9_against_X6_weightOf rfl rfl rfl (by decide +kernel) ⟨by decide, by decide⟩) (gx_rec F G ht13 (gwe_6 hk12) rfl) rfl rfl hl.1 rfl (lv_room (Nat.le_of_ble_eq_true rfl)) dX9_against_33 ⟨Nat.zero_le _, Nat.zero_le _⟩) (fun H locs G => ?_)
        refine lv_icmp_lt (tgt := 41) hx hb dX9_against_36 (by decide) (fun q18 => ?_) (fun q18 => ?_)
        · replace h := gt_s q18 h
          obtain ⟨x19, ex19⟩ : ∃ z : Int32, z = y10 + 1 := ⟨_, rfl⟩
          replace h := gv_s h x19 ex19
          refine lv_iinc (v := x19) (lv' := [(3, .int x19), (0, .ref (ad t)), (1, .int a1), (2, .int a2)]) hx hb dX9_against_41 hl (k := 3) rfl (by rw [ex19]; rfl) (by decide) rfl (fun ls hl => ?_)
          refine lv_goto (tgt := 12) hx hb dX9_against_44 (by decide) ?_
          cases h
          exact ih9 _ _ _ _ hn9 G (lv_sub hl [1, 2, 3, 0] rfl)
        · replace h := gf_s q18 h
          refine lv_iload_n hx hb dX9_against_39 rfl (lv_at hl 3 rfl) ?_
          cases h
          cases gnx_r hn9
          cases gsm_l hK9
          rw [← hQ]
          exact gx_iret F G hr hlocks dX9_against_40
  exact L9 n _ _ _ _ hb9 G (lv_sub hl [1, 2, 3, 0] rfl)
set_option maxHeartbeats 4000000 in
set_option maxRecDepth 100000 in
theorem cx_X9_against (l : Launch) (hlt : l.stackTraces = false) (sa : gSa) (D : va_G) (ad : Nat → Nat) (cy : Nat → ClassId) (N sz : Nat) (hN : 55 ≤ N) (hI : gI ad N) (c d0 : gm) {n : Nat} {t : Nat} {a1 : Int32} {a2 : Int32} {kZ : Nat} {cZ : gm} (h : m_X9_against n t a1 a2 c = some (.inr (kZ, cZ))) : vx_Met l yX9_against wsX9_against rxX9_against (va_Pc [.ref (ad t), .int a1, .int a2] (gP sa D ad cy N sz c d0)) (va_Qi (fun (_ : Int32) (_ : Unit) => False) (fun _ _ => True) (gA ad N sz)) (vx_X (fun (_ : Unit) => True) (fun E _ U => E = gxn kZ ∧ gE D ad cy N cZ d0 U) (gA ad N sz)) 1 6 (gA ad N sz) := by
  refine vx_ofW (cc := cX9_against) (maxL := 4) (ret := (some .int)) (by decide) rfl ?_
  intro p e s m args below meth cod s₁ B hml htab hv
  obtain ⟨rfl, hsz, hP, hK, hZ⟩ := hv
  have hx := B.exec
  have hb := B.bytes
  have hr := B.returns
  have hts := atoms_spec (ws := wsX9_against) B.pre
  have hown : s.vm.findClass RX9 = some m.cls := findClass_of_methodNamed B.named
  have hlocks := B.notSynchronized
  subst hsz
  have hl := lv_entry ([.ref (ad t), .int a1, .int a2]) (n := 4) (Nat.le_of_ble_eq_true rfl)
  rw [lg_entry_eq]
  generalize (lg_sl ([.ref (ad t), .int a1, .int a2]) ++ List.replicate (4 - (lg_sl ([.ref (ad t), .int a1, .int a2])).length) Slot.unset).toArray = ls at hl ⊢
  have hl : lv_has ls 4 [(0, .ref (ad t)), (1, .int a1), (2, .int a2)] := hl
  generalize hargs : ([.ref (ad t), .int a1, .int a2] : List Value).toArray = args at *
  generalize hAe : gA ad N s.heap.size = A
  have F : gF sa D ad cy N A p s m args cod cX9_against 4 wsX9_against RX9 := ⟨hx, hb, hml, hown, hts, hK, hI, by rw [← hAe]; exact gA_ad, by rw [← hAe]; exact gA_sz, by rw [← hAe]; exact hZ⟩
  have G : gW D ad cy N A s.heap c d0 s.heap [] := ⟨hP, va_S.rf⟩
  generalize hQ : vx_MQ below (va_Qi (fun (_ : Int32) (_ : Unit) => False) (fun _ _ => True) A) (vx_X (fun (_ : Unit) => True) (fun E _ U => E = gxn kZ ∧ gE D ad cy N cZ d0 U) A) args s 1 6 A = Q
  suffices hgen : ∀ (H : Heap) (locs : List Loc), gW D ad cy N A s.heap c d0 H locs → W p l e rxX9_against s m args below meth cod H locs 0 0 Q (F0 m 0 ls []) from hgen _ _ G
  clear G
  intro H locs G
  unfold m_X9_against at h
  refine lv_aload_n hx hb dX9_against_0 rfl (lv_at hl 0 rfl) ?_
  refine lv_iload_n hx hb dX9_against_1 rfl (lv_at hl 1 rfl) ?_
  obtain ⟨hk1, h⟩ := gc_s h
  have ht2 : t < N := Nat.lt_of_lt_of_le (gck_lt9 hk1) hN
  rcases gbx_x h with hc3 | ⟨c5, hc3, h⟩
  · exact hQ ▸ gx_xv F G htab hlocks (vx_runV (As := [.int a1]) (rest := []) (gx_fix F) (cx_X9_demandThing l hlt sa D ad cy N H.size hN hI c d0 hc3) (cwV 1 hts gX9_against_X9_demandThing rfl rfl rfl (by decide +kernel) ⟨by decide, by decide⟩) (gx_rec F G ht2 (gwe_9 hk1) rfl) rfl rfl hl.1 rfl (lv_room (Nat.le_of_ble_eq_true rfl)) dX9_against_2 ⟨by decide, by decide⟩)
  · skip
    refine gx_callv F G (va_runV (As := [.int a1]) (rest := []) (gx_fix F) (c_X9_demandThing l sa D ad cy N H.size hN hI c d0 hc3) (cwV 1 hts gX9_against_X9_demandThing rfl rfl rfl (by decide +kernel) ⟨by decide, by decide⟩) (gx_rec F G ht2 (gwe_9 hk1) rfl) rfl rfl hl.1 rfl (lv_room (Nat.le_of_ble_eq_true rfl)) dX9_against_2 ⟨Nat.zero_le _, Nat.zero_le _⟩) (fun H locs G => ?_)
    refine lv_aload_n hx hb dX9_against_5 rfl (lv_at hl 0 rfl) ?_
    refine lv_iload_n hx hb dX9_against_6 rfl (lv_at hl 2 rfl) ?_
    rcases gbx_x h with hc6 | ⟨c8, hc6, h⟩
    · exact hQ ▸ gx_xv F G htab hlocks (vx_runV (As := [.int a2]) (rest := []) (gx_fix F) (cx_X9_demandThing l hlt sa D ad cy N H.size hN hI c5 d0 hc6) (cwV 1 hts gX9_against_X9_demandThing rfl rfl rfl (by decide +kernel) ⟨by decide, by decide⟩) (gx_rec F G ht2 (gwe_9 hk1) rfl) rfl rfl hl.1 rfl (lv_room (Nat.le_of_ble_eq_true rfl)) dX9_against_7 ⟨by decide, by decide⟩)
    · skip
      refine gx_callv F G (va_runV (As := [.int a2]) (rest := []) (gx_fix F) (c_X9_demandThing l sa D ad cy N H.size hN hI c5 d0 hc6) (cwV 1 hts gX9_against_X9_demandThing rfl rfl rfl (by decide +kernel) ⟨by decide, by decide⟩) (gx_rec F G ht2 (gwe_9 hk1) rfl) rfl rfl hl.1 rfl (lv_room (Nat.le_of_ble_eq_true rfl)) dX9_against_7 ⟨Nat.zero_le _, Nat.zero_le _⟩) (fun H locs G => ?_)
      exact (gok_no h).elim
def m_X9_isFair (a1 : Int32) (a2 : Int32) : Option (Int32) :=
  (if a1 < 1 then some 0 else (if 96 < a1 then some 0 else (if a2 < 0 then some 0 else (if 16 < a2 then some 0 else some 1))))
abbrev rmX9_isFair : Room := { frames := 0, cells := 0, slots := 0, locals := 0 }
set_option maxHeartbeats 4000000 in
set_option maxRecDepth 100000 in
theorem c_X9_isFair (l : Launch) (sa : gSa) (D : va_G) (ad : Nat → Nat) (cy : Nat → ClassId) (N sz : Nat) (hN : 55 ≤ N) (hI : gI ad N) (c d0 : gm) {a1 : Int32} {a2 : Int32} {rZ : Int32} (h : m_X9_isFair a1 a2 = some rZ) : Met l yX9_isFair wsX9_isFair rmX9_isFair (va_Pc [.int a1, .int a2] (gP sa D ad cy N sz c d0)) (va_Qi (fun (z : Int32) (_ : Unit) => z = rZ) (fun _ U => gE D ad cy N c d0 U) (gA ad N sz)) 0 0 (gA ad N sz) := by
  refine Met.ofW (cc := cX9_isFair) (maxL := 2) (ret := (some .boolean)) (by decide) rfl ?_
  intro p e s m args below meth cod s₁ B hml hv
  obtain ⟨rfl, hsz, hP, hK, hZ⟩ := hv
  have hx := B.exec
  have hb := B.bytes
  have hr := B.returns
  have hts := atoms_spec (ws := wsX9_isFair) B.pre
  have hown : s.vm.findClass RX9 = some m.cls := findClass_of_methodNamed B.named
  have hlocks := B.notSynchronized
  subst hsz
  have hl := lv_entry ([.int a1, .int a2]) (n := 2) (Nat.le_of_ble_eq_true rfl)
  rw [lg_entry_eq]
  generalize (lg_sl ([.int a1, .int a2]) ++ List.replicate (2 - (lg_sl ([.int a1, .int a2])).length) Slot.unset).toArray = ls at hl ⊢
  have hl : lv_has ls 2 [(0, .int a1), (1, .int a2)] := hl
  generalize hargs : ([.int a1, .int a2] : List Value).toArray = args at *
  generalize hAe : gA ad N s.heap.size = A
  have F : gF sa D ad cy N A p s m args cod cX9_isFair 2 wsX9_isFair RX9 := ⟨hx, hb, hml, hown, hts, hK, hI, by rw [← hAe]; exact gA_ad, by rw [← hAe]; exact gA_sz, by rw [← hAe]; exact hZ⟩
  have G : gW D ad cy N A s.heap c d0 s.heap [] := ⟨hP, va_S.rf⟩
  generalize hQ : MQ below (va_Qi (fun (z : Int32) (_ : Unit) => z = rZ) (fun _ U => gE D ad cy N c d0 U) A) args s 0 0 A = Q
  suffices hgen : ∀ (H : Heap) (locs : List Loc), gW D ad cy N A s.heap c d0 H locs → W p l e rmX9_isFair s m args below meth cod H locs 0 0 Q (F0 m 0 ls []) from hgen _ _ G
  clear G
  intro H locs G
  unfold m_X9_isFair at h
  refine lv_iload_n hx hb dX9_isFair_0 rfl (lv_at hl 0 rfl) ?_
  refine lv_iconst (v := 1) hx hb dX9_isFair_1 (by decide) ?_
  refine lv_icmp_lt (tgt := 25) hx hb dX9_isFair_2 (by decide) (fun q1 => ?_) (fun q1 => ?_)
  · replace h := gt_s q1 h
    refine lv_iconst (v := 0) hx hb dX9_isFair_25 (by decide) ?_
    cases h
    rw [← hQ]
    exact gx_zret F G hr hlocks rfl dX9_isFair_26
  · replace h := gf_s q1 h
    refine lv_iload_n hx hb dX9_isFair_5 rfl (lv_at hl 0 rfl) ?_
    refine lv_bipush (v := 96) hx hb dX9_isFair_6 (by decide) ?_
    refine lv_icmp_gt (tgt := 25) hx hb dX9_isFair_8 (by decide) (fun q2 => ?_) (fun q2 => ?_)
    · replace h := gt_s q2 h
      refine lv_iconst (v := 0) hx hb dX9_isFair_25 (by decide) ?_
      cases h
      rw [← hQ]
      exact gx_zret F G hr hlocks rfl dX9_isFair_26
    · replace h := gf_s q2 h
      refine lv_iload_n hx hb dX9_isFair_11 rfl (lv_at hl 1 rfl) ?_
      refine lv_if_lt (tgt := 25) hx hb dX9_isFair_12 (by decide) (fun q3 => ?_) (fun q3 => ?_)
      · replace h := gt_s q3 h
        refine lv_iconst (v := 0) hx hb dX9_isFair_25 (by decide) ?_
        cases h
        rw [← hQ]
        exact gx_zret F G hr hlocks rfl dX9_isFair_26
      · replace h := gf_s q3 h
        refine lv_iload_n hx hb dX9_isFair_15 rfl (lv_at hl 1 rfl) ?_
        refine lv_bipush (v := 16) hx hb dX9_isFair_16 (by decide) ?_
        refine lv_icmp_gt (tgt := 25) hx hb dX9_isFair_18 (by decide) (fun q4 => ?_) (fun q4 => ?_)
        · replace h := gt_s q4 h
          refine lv_iconst (v := 0) hx hb dX9_isFair_25 (by decide) ?_
          cases h
          rw [← hQ]
          exact gx_zret F G hr hlocks rfl dX9_isFair_26
        · replace h := gf_s q4 h
          refine lv_iconst (v := 1) hx hb dX9_isFair_21 (by decide) ?_
          refine lv_goto (tgt := 26) hx hb dX9_isFair_22 (by decide) ?_
          cases h
          rw [← hQ]
          exact gx_zret F G hr hlocks rfl dX9_isFair_26
def m_X9_fair (n : Nat) (t : Nat) (a1 : Int32) (a2 : Int32) (a3 : Int32) (a4 : Int32) (c : gm) : Option ((Int32 × gm) ⊕ (Nat × gm)) :=
  gb (m_X9_isFair a2 a3) (fun (r2 : Int32) => gj (fun (v3 : Int32) => gc (gck t = 9) (gbx (m_X9_demand t v3 c) (fun (c9 : gm) => gok (gb (m_X2_hold n 26 3 (c9.2.2 0) a1 a2 a3 c9) (fun (c16 : gm) => (if a4 = 0 then gb (m_X6_weightOfAll n (26 + 1) c16) (fun (r21 : Int32) => some (r21, c16)) else (if a4 = 1 then some ((c16.1 (26 + 1) 6), c16) else (if a4 = 2 then some (((c16.1 (26 + 1) 10) - (c16.1 3 10)), c16) else gb (m_X6_criesNotSo n (26 + 1) c16) (fun (r34 : Int32) => some (r34, c16)))))))))) (fun K4 => gj (fun (_ : Unit) => K4 0) (fun K35 => (if r2 = 0 then K35 () else (if a4 < 0 then K35 () else (if 3 < a4 then K35 () else K4 1))))))
abbrev rmX9_fair : Room := { frames := 7, cells := 0, slots := 0, locals := 141 }
abbrev rxX9_fair : Room := { frames := 7, cells := 1, slots := 6, locals := 141 }
set_option maxHeartbeats 4000000 in
set_option maxRecDepth 100000 in
theorem c_X9_fair (l : Launch) (sa : gSa) (D : va_G) (ad : Nat → Nat) (cy : Nat → ClassId) (N sz : Nat) (hN : 55 ≤ N) (hI : gI ad N) (c d0 : gm) {n : Nat} {t : Nat} {a1 : Int32} {a2 : Int32} {a3 : Int32} {a4 : Int32} {rZ : Int32} {cZ : gm} (h : m_X9_fair n t a1 a2 a3 a4 c = some (.inl (rZ, cZ))) : Met l yX9_fair wsX9_fair rmX9_fair (va_Pc [.ref (ad t), .int a1, .int a2, .int a3, .int a4] (gP sa D ad cy N sz c d0)) (va_Qi (fun (z : Int32) (_ : Unit) => z = rZ) (fun _ U => gE D ad cy N cZ d0 U) (gA ad N sz)) 0 0 (gA ad N sz) := by
  refine Met.ofW (cc := cX9_fair) (maxL := 5) (ret := (some .int)) (by decide) rfl ?_
  intro p e s m args below meth cod s₁ B hml hv
  obtain ⟨rfl, hsz, hP, hK, hZ⟩ := hv
  have hx := B.exec
  have hb := B.bytes
  have hr := B.returns
  have hts := atoms_spec (ws := wsX9_fair) B.pre
  have hown : s.vm.findClass RX9 = some m.cls := findClass_of_methodNamed B.named
  have hlocks := B.notSynchronized
  subst hsz
  have hl := lv_entry ([.ref (ad t), .int a1, .int a2, .int a3, .int a4]) (n := 5) (Nat.le_of_ble_eq_true rfl)
  rw [lg_entry_eq]
  generalize (lg_sl ([.ref (ad t), .int a1, .int a2, .int a3, .int a4]) ++ List.replicate (5 - (lg_sl ([.ref (ad t), .int a1, .int a2, .int a3, .int a4])).length) Slot.unset).toArray = ls at hl ⊢
  have hl : lv_has ls 5 [(0, .ref (ad t)), (1, .int a1), (2, .int a2), (3, .int a3), (4, .int a4)] := hl
  have in2 : ∀ w ∈ wsX20, w ∈ wsX9_fair := by decide +kernel
  have in6 : ∀ w ∈ wsX60, w ∈ wsX9_fair := by decide +kernel
  have in9 : ∀ w ∈ wsX90, w ∈ wsX9_fair := by decide +kernel
  generalize hargs : ([.ref (ad t), .int a1, .int a2, .int a3, .int a4] : List Value).toArray = args at *
  generalize hAe : gA ad N s.heap.size = A
  have F : gF sa D ad cy N A p s m args cod cX9_fair 5 wsX9_fair RX9 := ⟨hx, hb, hml, hown, hts, hK, hI, by rw [← hAe]; exact gA_ad, by rw [← hAe]; exact gA_sz, by rw [← hAe]; exact hZ⟩
  have G : gW D ad cy N A s.heap c d0 s.heap [] := ⟨hP, va_S.rf⟩
  generalize hQ : MQ below (va_Qi (fun (z : Int32) (_ : Unit) => z = rZ) (fun _ U => gE D ad cy N cZ d0 U) A) args s 0 0 A = Q
  suffices hgen : ∀ (H : Heap) (locs : List Loc), gW D ad cy N A s.heap c d0 H locs → W p l e rmX9_fair s m args below meth cod H locs 0 0 Q (F0 m 0 ls []) from hgen _ _ G
  clear G
  intro H locs G
  unfold m_X9_fair at h
  refine lv_aload_n hx hb dX9_fair_0 rfl (lv_at hl 0 rfl) ?_
  refine lv_iload_n hx hb dX9_fair_1 rfl (lv_at hl 2 rfl) ?_
  refine lv_iload_n hx hb dX9_fair_2 rfl (lv_at hl 3 rfl) ?_
  obtain ⟨r2, hc1, h⟩ := gb_s h
  refine gx_calli F G (va_runS (As := [.int a2, .int a3]) (rest := [.ref (ad t)]) (gx_fix F) (c_X9_isFair l sa D ad cy N H.size hN hI c d0 hc1) (va_cwS 2 hts gX9_fair_X9_isFair rfl rfl rfl (by decide +kernel) ⟨by decide, by decide⟩) (gx_pre F G) rfl rfl hl.1 rfl (lv_room (Nat.le_of_ble_eq_true rfl)) dX9_fair_3 ⟨Nat.zero_le _, Nat.zero_le _⟩) (fun H locs G => ?_)
  obtain ⟨K4, eK4, h⟩ := gj_s h
  have JK4 : ∀ (v3 : Int32) (H : Heap) (locs : List Loc) (ls : Array Slot), K4 v3 = some (.inl (rZ, cZ)) → gW D ad cy N A s.heap c d0 H locs → lv_has ls 5 [(0, .ref (ad t)), (1, .int a1), (2, .int a2), (3, .int a3), (4, .int a4)] → W p l e rmX9_fair s m args below meth cod H locs 0 0 Q (F0 m 25 ls [.int v3, .ref (ad t)]) := by
    intro v3 H locs ls h G hl
    rw [eK4] at h
    obtain ⟨hk5, h⟩ := gc_s h
    have ht6 : t < N := Nat.lt_of_lt_of_le (gck_lt9 hk5) hN
    obtain ⟨c9, hc7, h⟩ := gbx_l h
    refine gx_callv F G (va_runV (As := [.int v3]) (rest := []) (gx_fix F) (c_X9_demand l sa D ad cy N H.size hN hI c d0 hc7) (cwV 1 hts gX9_fair_X9_demand rfl rfl rfl (by decide +kernel) ⟨by decide, by decide⟩) (gx_rec F G ht6 (gwe_9 hk5) rfl) rfl rfl hl.1 rfl (lv_room (Nat.le_of_ble_eq_true rfl)) dX9_fair_25 ⟨Nat.zero_le _, Nat.zero_le _⟩) (fun H locs G => ?_)
    replace h := gok_s h
    refine lv_aload_n hx hb dX9_fair_28 rfl (lv_at hl 0 rfl) ?_
    refine fg_9_fairs F G hk5 ht6 in9 (by decide +kernel) dX9_fair_29 ?_
    have hk10 : gck 26 = 2 := rfl
    have ht11 : 26 < N := Nat.lt_of_lt_of_le (by decide) hN
    refine lv_aload_n hx hb dX9_fair_32 rfl (lv_at hl 0 rfl) ?_
    refine fg_9_now F G hk5 ht6 in9 (by decide +kernel) dX9_fair_33 ?_
    have hk12 : gck 3 = 6 := rfl
    have ht13 : 3 < N := Nat.lt_of_lt_of_le (by decide) hN
    refine lv_aload_n hx hb dX9_fair_36 rfl (lv_at hl 0 rfl) ?_
    refine fg_9_rule F G hk5 ht6 in9 (by decide +kernel) dX9_fair_37 ?_
    refine lv_iload_n hx hb dX9_fair_40 rfl (lv_at hl 1 rfl) ?_
    refine lv_iload_n hx hb dX9_fair_41 rfl (lv_at hl 2 rfl) ?_
    refine lv_iload_n hx hb dX9_fair_42 rfl (lv_at hl 3 rfl) ?_
    obtain ⟨c16, hc14, h⟩ := gb_s h
    refine gx_callv F G (va_runV (As := [.ref (ad 3), .ref (ad (c9.2.2 0)), .int a1, .int a2, .int a3]) (rest := []) (gx_fix F) (c_X2_hold l sa D ad cy N H.size hN hI c9 d0 hc14) (cwV 5 hts gX9_fair_X2_hold rfl rfl rfl (by decide +kernel) ⟨by decide, by decide⟩) (gx_rec F G ht11 (gwe_2 hk10) rfl) rfl rfl hl.1 rfl (lv_room (Nat.le_of_ble_eq_true rfl)) dX9_fair_43 ⟨Nat.zero_le _, Nat.zero_le _⟩) (fun H locs G => ?_)
    refine lv_iload hx hb dX9_fair_46 (lv_at hl 4 rfl) ?_
    by_cases q17 : a4 = 0
    · replace h := gt_s q17 h
      refine lv_tableIn (tgt := 76) hx hb dX9_fair_48 (by rw [q17]; decide) (by rw [q17]; decide) (off := 28) (by rw [q17]; decide) (by decide) ?_
      refine lv_aload_n hx hb dX9_fair_76 rfl (lv_at hl 0 rfl) ?_
      refine fg_9_fairs F G hk5 ht6 in9 (by decide +kernel) dX9_fair_77 ?_
      refine fg_2_end F G hk10 ht11 in2 (by decide +kernel) dX9_fair_80 ?_
      have hk18 := gka_2_end hk10
      have ht19 : (26 + 1) < N := Nat.lt_of_lt_of_le (gck_lt6 hk18) hN
      obtain ⟨r21, hc20, h⟩ := gb_s h
      refine gx_calli F G (va_runV (As := []) (rest := []) (gx_fix F) (c_X6_weightOfAll l sa D ad cy N H.size hN hI c16 d0 hc20) (cwV 0 hts gX9_fair_X6_weightOfAll rfl rfl rfl (by decide +kernel) ⟨by decide, by decide⟩) (gx_rec F G ht19 (gwe_6 hk18) rfl) rfl rfl hl.1 rfl (lv_room (Nat.le_of_ble_eq_true rfl)) dX9_fair_83 ⟨Nat.zero_le _, Nat.zero_le _⟩) (fun H locs G => ?_)
      cases h
      rw [← hQ]
      exact gx_iret F G hr hlocks dX9_fair_86
    replace h := gf_s q17 h
    by_cases q22 : a4 = 1
    · replace h := gt_s q22 h
      refine lv_tableIn (tgt := 87) hx hb dX9_fair_48 (by rw [q22]; decide) (by rw [q22]; decide) (off := 39) (by rw [q22]; decide) (by decide) ?_
      refine lv_aload_n hx hb dX9_fair_87 rfl (lv_at hl 0 rfl) ?_
      refine fg_9_fairs F G hk5 ht6 in9 (by decide +kernel) dX9_fair_88 ?_
      refine fg_2_end F G hk10 ht11 in2 (by decide +kernel) dX9_fair_91 ?_
      have hk23 := gka_2_end hk10
      have ht24 : (26 + 1) < N := Nat.lt_of_lt_of_le (gck_lt6 hk23) hN
      refine fg_6_cries F G hk23 ht24 in6 (by decide +kernel) dX9_fair_94 ?_
      cases h
      rw [← hQ]
      exact gx_iret F G hr hlocks dX9_fair_97
    replace h := gf_s q22 h
    by_cases q25 : a4 = 2
    · replace h := gt_s q25 h
      refine lv_tableIn (tgt := 98) hx hb dX9_fair_48 (by rw [q25]; decide) (by rw [q25]; decide) (off := 50) (by rw [q25]; decide) (by decide) ?_
      refine lv_aload_n hx hb dX9_fair_98 rfl (lv_at hl 0 rfl) ?_
      refine fg_9_fairs F G hk5 ht6 in9 (by decide +kernel) dX9_fair_99 ?_
      refine fg_2_end F G hk10 ht11 in2 (by decide +kernel) dX9_fair_102 ?_
      have hk26 := gka_2_end hk10
      have ht27 : (26 + 1) < N := Nat.lt_of_lt_of_le (gck_lt6 hk26) hN
      refine fg_6_weighings F G hk26 ht27 in6 (by decide +kernel) dX9_fair_105 ?_
      refine lv_aload_n hx hb dX9_fair_108 rfl (lv_at hl 0 rfl) ?_
      refine fg_9_now F G hk5 ht6 in9 (by decide +kernel) dX9_fair_109 ?_
      refine fg_6_weighings F G hk12 ht13 in6 (by decide +kernel) dX9_fair_112 ?_
      refine lv_isub hx hb dX9_fair_115 ?_
      cases h
      rw [← hQ]
      exact gx_iret F G hr hlocks dX9_fair_116
    replace h := gf_s q25 h
    have nn28 := lv_neT q17 (show (0 : Int32).toInt = 0 by decide)
    have nn29 := lv_neT q22 (show (1 : Int32).toInt = 1 by decide)
    have nn30 := lv_neT q25 (show (2 : Int32).toInt = 2 by decide)
    refine lv_tableOut (tgt := 117) hx hb dX9_fair_48 (by omega) (by decide) ?_
    refine lv_aload_n hx hb dX9_fair_117 rfl (lv_at hl 0 rfl) ?_
    refine fg_9_fairs F G hk5 ht6 in9 (by decide +kernel) dX9_fair_118 ?_
    refine fg_2_end F G hk10 ht11 in2 (by decide +kernel) dX9_fair_121 ?_
    have hk31 := gka_2_end hk10
    have ht32 : (26 + 1) < N := Nat.lt_of_lt_of_le (gck_lt6 hk31) hN
    obtain ⟨r34, hc33, h⟩ := gb_s h
    refine gx_calli F G (va_runV (As := []) (rest := []) (gx_fix F) (c_X6_criesNotSo l sa D ad cy N H.size hN hI c16 d0 hc33) (cwV 0 hts gX9_fair_X6_criesNotSo rfl rfl rfl (by decide +kernel) ⟨by decide, by decide⟩) (gx_rec F G ht32 (gwe_6 hk31) rfl) rfl rfl hl.1 rfl (lv_room (Nat.le_of_ble_eq_true rfl)) dX9_fair_124 ⟨Nat.zero_le _, Nat.zero_le _⟩) (fun H locs G => ?_)
    cases h
    rw [← hQ]
    exact gx_iret F G hr hlocks dX9_fair_127
  obtain ⟨K35, eK35, h⟩ := gj_s h
  have JK35 : ∀ (H : Heap) (locs : List Loc) (ls : Array Slot), K35 () = some (.inl (rZ, cZ)) → gW D ad cy N A s.heap c d0 H locs → lv_has ls 5 [(0, .ref (ad t)), (1, .int a1), (2, .int a2), (3, .int a3), (4, .int a4)] → W p l e rmX9_fair s m args below meth cod H locs 0 0 Q (F0 m 24 ls [.ref (ad t)]) := by
    intro  H locs ls h G hl
    rw [eK35] at h
    refine lv_iconst (v := 0) hx hb dX9_fair_24 (by decide) ?_
    exact JK4 _ _ _ _ h G hl
  refine lv_if_eq (tgt := 24) hx hb dX9_fair_6 (by decide) (fun q36 => ?_) (fun q36 => ?_)
  · replace h := gt_s q36 h
    exact JK35  _ _ _ h G hl
  · replace h := gf_s q36 h
    refine lv_iload hx hb dX9_fair_9 (lv_at hl 4 rfl) ?_
    refine lv_if_lt (tgt := 24) hx hb dX9_fair_11 (by decide) (fun q37 => ?_) (fun q37 => ?_)
    · replace h := gt_s q37 h
      exact JK35  _ _ _ h G hl
    · replace h := gf_s q37 h
      refine lv_iload hx hb dX9_fair_14 (lv_at hl 4 rfl) ?_
      refine lv_iconst (v := 3) hx hb dX9_fair_16 (by decide) ?_
      refine lv_icmp_gt (tgt := 24) hx hb dX9_fair_17 (by decide) (fun q38 => ?_) (fun q38 => ?_)
      · replace h := gt_s q38 h
        exact JK35  _ _ _ h G hl
      · replace h := gf_s q38 h
        refine lv_iconst (v := 1) hx hb dX9_fair_20 (by decide) ?_
        refine lv_goto (tgt := 25) hx hb dX9_fair_21 (by decide) ?_
        exact JK4 _ _ _ _ h G hl
set_option maxHeartbeats 4000000 in
set_option maxRecDepth 100000 in
theorem cx_X9_fair (l : Launch) (hlt : l.stackTraces = false) (sa : gSa) (D : va_G) (ad : Nat → Nat) (cy : Nat → ClassId) (N sz : Nat) (hN : 55 ≤ N) (hI : gI ad N) (c d0 : gm) {n : Nat} {t : Nat} {a1 : Int32} {a2 : Int32} {a3 : Int32} {a4 : Int32} {kZ : Nat} {cZ : gm} (h : m_X9_fair n t a1 a2 a3 a4 c = some (.inr (kZ, cZ))) : vx_Met l yX9_fair wsX9_fair rxX9_fair (va_Pc [.ref (ad t), .int a1, .int a2, .int a3, .int a4] (gP sa D ad cy N sz c d0)) (va_Qi (fun (_ : Int32) (_ : Unit) => False) (fun _ _ => True) (gA ad N sz)) (vx_X (fun (_ : Unit) => True) (fun E _ U => E = gxn kZ ∧ gE D ad cy N cZ d0 U) (gA ad N sz)) 1 6 (gA ad N sz) := by
  refine vx_ofW (cc := cX9_fair) (maxL := 5) (ret := (some .int)) (by decide) rfl ?_
  intro p e s m args below meth cod s₁ B hml htab hv
  obtain ⟨rfl, hsz, hP, hK, hZ⟩ := hv
  have hx := B.exec
  have hb := B.bytes
  have hr := B.returns
  have hts := atoms_spec (ws := wsX9_fair) B.pre
  have hown : s.vm.findClass RX9 = some m.cls := findClass_of_methodNamed B.named
  have hlocks := B.notSynchronized
  subst hsz
  have hl := lv_entry ([.ref (ad t), .int a1, .int a2, .int a3, .int a4]) (n := 5) (Nat.le_of_ble_eq_true rfl)
  rw [lg_entry_eq]
  generalize (lg_sl ([.ref (ad t), .int a1, .int a2, .int a3, .int a4]) ++ List.replicate (5 - (lg_sl ([.ref (ad t), .int a1, .int a2, .int a3, .int a4])).length) Slot.unset).toArray = ls at hl ⊢
  have hl : lv_has ls 5 [(0, .ref (ad t)), (1, .int a1), (2, .int a2), (3, .int a3), (4, .int a4)] := hl
  generalize hargs : ([.ref (ad t), .int a1, .int a2, .int a3, .int a4] : List Value).toArray = args at *
  generalize hAe : gA ad N s.heap.size = A
  have F : gF sa D ad cy N A p s m args cod cX9_fair 5 wsX9_fair RX9 := ⟨hx, hb, hml, hown, hts, hK, hI, by rw [← hAe]; exact gA_ad, by rw [← hAe]; exact gA_sz, by rw [← hAe]; exact hZ⟩
  have G : gW D ad cy N A s.heap c d0 s.heap [] := ⟨hP, va_S.rf⟩
  generalize hQ : vx_MQ below (va_Qi (fun (_ : Int32) (_ : Unit) => False) (fun _ _ => True) A) (vx_X (fun (_ : Unit) => True) (fun E _ U => E = gxn kZ ∧ gE D ad cy N cZ d0 U) A) args s 1 6 A = Q
  suffices hgen : ∀ (H : Heap) (locs : List Loc), gW D ad cy N A s.heap c d0 H locs → W p l e rxX9_fair s m args below meth cod H locs 0 0 Q (F0 m 0 ls []) from hgen _ _ G
  clear G
  intro H locs G
  unfold m_X9_fair at h
  refine lv_aload_n hx hb dX9_fair_0 rfl (lv_at hl 0 rfl) ?_
  refine lv_iload_n hx hb dX9_fair_1 rfl (lv_at hl 2 rfl) ?_
  refine lv_iload_n hx hb dX9_fair_2 rfl (lv_at hl 3 rfl) ?_
  obtain ⟨r2, hc1, h⟩ := gb_s h
  refine gx_calli F G (va_runS (As := [.int a2, .int a3]) (rest := [.ref (ad t)]) (gx_fix F) (c_X9_isFair l sa D ad cy N H.size hN hI c d0 hc1) (va_cwS 2 hts gX9_fair_X9_isFair rfl rfl rfl (by decide +kernel) ⟨by decide, by decide⟩) (gx_pre F G) rfl rfl hl.1 rfl (lv_room (Nat.le_of_ble_eq_true rfl)) dX9_fair_3 ⟨Nat.zero_le _, Nat.zero_le _⟩) (fun H locs G => ?_)
  obtain ⟨K4, eK4, h⟩ := gj_s h
  have JK4 : ∀ (v3 : Int32) (H : Heap) (locs : List Loc) (ls : Array Slot), K4 v3 = some (.inr (kZ, cZ)) → gW D ad cy N A s.heap c d0 H locs → lv_has ls 5 [(0, .ref (ad t)), (1, .int a1), (2, .int a2), (3, .int a3), (4, .int a4)] → W p l e rxX9_fair s m args below meth cod H locs 0 0 Q (F0 m 25 ls [.int v3, .ref (ad t)]) := by
    intro v3 H locs ls h G hl
    rw [eK4] at h
    obtain ⟨hk5, h⟩ := gc_s h
    have ht6 : t < N := Nat.lt_of_lt_of_le (gck_lt9 hk5) hN
    rcases gbx_x h with hc7 | ⟨c9, hc7, h⟩
    · exact hQ ▸ gx_xv F G htab hlocks (vx_runV (As := [.int v3]) (rest := []) (gx_fix F) (cx_X9_demand l hlt sa D ad cy N H.size hN hI c d0 hc7) (cwV 1 hts gX9_fair_X9_demand rfl rfl rfl (by decide +kernel) ⟨by decide, by decide⟩) (gx_rec F G ht6 (gwe_9 hk5) rfl) rfl rfl hl.1 rfl (lv_room (Nat.le_of_ble_eq_true rfl)) dX9_fair_25 ⟨by decide, by decide⟩)
    · skip
      refine gx_callv F G (va_runV (As := [.int v3]) (rest := []) (gx_fix F) (c_X9_demand l sa D ad cy N H.size hN hI c d0 hc7) (cwV 1 hts gX9_fair_X9_demand rfl rfl rfl (by decide +kernel) ⟨by decide, by decide⟩) (gx_rec F G ht6 (gwe_9 hk5) rfl) rfl rfl hl.1 rfl (lv_room (Nat.le_of_ble_eq_true rfl)) dX9_fair_25 ⟨Nat.zero_le _, Nat.zero_le _⟩) (fun H locs G => ?_)
      exact (gok_no h).elim
  obtain ⟨K10, eK10, h⟩ := gj_s h
  have JK10 : ∀ (H : Heap) (locs : List Loc) (ls : Array Slot), K10 () = some (.inr (kZ, cZ)) → gW D ad cy N A s.heap c d0 H locs → lv_has ls 5 [(0, .ref (ad t)), (1, .int a1), (2, .int a2), (3, .int a3), (4, .int a4)] → W p l e rxX9_fair s m args below meth cod H locs 0 0 Q (F0 m 24 ls [.ref (ad t)]) := by
    intro  H locs ls h G hl
    rw [eK10] at h
    refine lv_iconst (v := 0) hx hb dX9_fair_24 (by decide) ?_
    exact JK4 _ _ _ _ h G hl
  refine lv_if_eq (tgt := 24) hx hb dX9_fair_6 (by decide) (fun q11 => ?_) (fun q11 => ?_)
  · replace h := gt_s q11 h
    exact JK10  _ _ _ h G hl
  · replace h := gf_s q11 h
    refine lv_iload hx hb dX9_fair_9 (lv_at hl 4 rfl) ?_
    refine lv_if_lt (tgt := 24) hx hb dX9_fair_11 (by decide) (fun q12 => ?_) (fun q12 => ?_)
    · replace h := gt_s q12 h
      exact JK10  _ _ _ h G hl
    · replace h := gf_s q12 h
      refine lv_iload hx hb dX9_fair_14 (lv_at hl 4 rfl) ?_
      refine lv_iconst (v := 3) hx hb dX9_fair_16 (by decide) ?_
      refine lv_icmp_gt (tgt := 24) hx hb dX9_fair_17 (by decide) (fun q13 => ?_) (fun q13 => ?_)
      · replace h := gt_s q13 h
        exact JK10  _ _ _ h G hl
      · replace h := gf_s q13 h
        refine lv_iconst (v := 1) hx hb dX9_fair_20 (by decide) ?_
        refine lv_goto (tgt := 25) hx hb dX9_fair_21 (by decide) ?_
        exact JK4 _ _ _ _ h G hl
def m_X9_span_L73 (n : Nat) (a1 : Int32) (a2 : Int32) (a3 : Int32) (a4 : Int32) (a6 : Int32) (y16 : Int32) (y17 : Int32) (y18 : Int32) (y19 : Int32) (c20 : gm) : Option ((Int32 × Int32 × Int32 × Int32 × gm) ⊕ (Int32 × Int32 × Int32 × gm)) :=
  (if a2 ≤ y19 then some (.inr (y16, y17, y18, c20)) else gb (m_X2_hold n 26 3 (c20.2.2 0) (a1 + y19) a3 a4 c20) (fun (c34 : gm) => gb (m_X6_weightOfAll n (26 + 1) c34) (fun (r38 : Int32) => gj (fun (v39 : Int32) => gj (fun (v41 : Int32) => gb (m_X6_criesWith n (26 + 1) a6 c34) (fun (r44 : Int32) => gj (fun (v45 : Int32) => gv (y18 + v45) (fun (x47 : Int32) => gv (y19 + 1) (fun (x48 : Int32) => some (.inl (v39, v41, x47, x48, c34))))) (fun K46 => (if r44 = 0 then K46 0 else K46 1)))) (fun K42 => gj (fun (_ : Unit) => K42 r38) (fun K50 => (if y19 = 0 then K50 () else (if r38 ≤ y17 then K42 y17 else K50 ()))))) (fun K40 => gj (fun (_ : Unit) => K40 r38) (fun K53 => (if y19 = 0 then K53 () else (if y16 ≤ r38 then K40 y16 else K53 ())))))))
def m_X9_span (n : Nat) (t : Nat) (a1 : Int32) (a2 : Int32) (a3 : Int32) (a4 : Int32) (a5 : Int32) (a6 : Int32) (c : gm) : Option ((Int32 × gm) ⊕ (Nat × gm)) :=
  gb (m_X9_isFair a3 a4) (fun (r2 : Int32) => gj (fun (v3 : Int32) => gc (gck t = 9) (gbx (m_X9_demand t v3 c) (fun (c9 : gm) => gj (fun (v10 : Int32) => gbx (m_X9_demand t v10 c9) (fun (c14 : gm) => gok (gb (gloop (gu2 (fun (y16 : Int32) => gu2 (fun (y17 : Int32) => gu2 (fun (y18 : Int32) => gu2 (fun (y19 : Int32) (c20 : gm) => m_X9_span_L73 n a1 a2 a3 a4 a6 y16 y17 y18 y19 c20))))) n (0, 0, 0, 0, c14)) (gu2 (fun (z21 : Int32) => gu2 (fun (z22 : Int32) => gu2 (fun (z23 : Int32) (c24 : gm) => (if a5 = 0 then some (z21, c24) else (if a5 = 1 then some (z22, c24) else some (z23, c24)))))))))) (fun K11 => gj (fun (_ : Unit) => K11 0) (fun K56 => (if a5 < 0 then K56 () else (if 2 < a5 then K56 () else gb (m_X6_isThing 3 a6 c9) (fun (r62 : Int32) => (if r62 = 0 then K56 () else K11 1))))))))) (fun K4 => gj (fun (_ : Unit) => K4 0) (fun K64 => (if r2 = 0 then K64 () else (if a2 < 1 then K64 () else (if 20 < a2 then K64 () else K4 1))))))
abbrev rmX9_span : Room := { frames := 7, cells := 0, slots := 0, locals := 141 }
abbrev rxX9_span : Room := { frames := 7, cells := 1, slots := 6, locals := 141 }
set_option maxHeartbeats 4000000 in
set_option maxRecDepth 100000 in
theorem c_X9_span (l : Launch) (sa : gSa) (D : va_G) (ad : Nat → Nat) (cy : Nat → ClassId) (N sz : Nat) (hN : 55 ≤ N) (hI : gI ad N) (c d0 : gm) {n : Nat} {t : Nat} {a1 : Int32} {a2 : Int32} {a3 : Int32} {a4 : Int32} {a5 : Int32} {a6 : Int32} {rZ : Int32} {cZ : gm} (h : m_X9_span n t a1 a2 a3 a4 a5 a6 c = some (.inl (rZ, cZ))) : Met l yX9_span wsX9_span rmX9_span (va_Pc [.ref (ad t), .int a1, .int a2, .int a3, .int a4, .int a5, .int a6] (gP sa D ad cy N sz c d0)) (va_Qi (fun (z : Int32) (_ : Unit) => z = rZ) (fun _ U => gE D ad cy N cZ d0 U) (gA ad N sz)) 0 0 (gA ad N sz) := by
  refine Met.ofW (cc := cX9_span) (maxL := 12) (ret := (some .int)) (by decide) rfl ?_
  intro p e s m args below meth cod s₁ B hml hv
  obtain ⟨rfl, hsz, hP, hK, hZ⟩ := hv
  have hx := B.exec
  have hb := B.bytes
  have hr := B.returns
  have hts := atoms_spec (ws := wsX9_span) B.pre
  have hown : s.vm.findClass RX9 = some m.cls := findClass_of_methodNamed B.named
  have hlocks := B.notSynchronized
  subst hsz
  have hl := lv_entry ([.ref (ad t), .int a1, .int a2, .int a3, .int a4, .int a5, .int a6]) (n := 12) (Nat.le_of_ble_eq_true rfl)
  rw [lg_entry_eq]
  generalize (lg_sl ([.ref (ad t), .int a1, .int a2, .int a3, .int a4, .int a5, .int a6]) ++ List.replicate (12 - (lg_sl ([.ref (ad t), .int a1, .int a2, .int a3, .int a4, .int a5, .int a6])).length) Slot.unset).toArray = ls at hl ⊢
  have hl : lv_has ls 12 [(0, .ref (ad t)), (1, .int a1), (2, .int a2), (3, .int a3), (4, .int a4), (5, .int a5), (6, .int a6)] := hl
  have in2 : ∀ w ∈ wsX20, w ∈ wsX9_span := by decide +kernel
  have in9 : ∀ w ∈ wsX90, w ∈ wsX9_span := by decide +kernel
  generalize hargs : ([.ref (ad t), .int a1, .int a2, .int a3, .int a4, .int a5, .int a6] : List Value).toArray = args at *
  generalize hAe : gA ad N s.heap.size = A
  have F : gF sa D ad cy N A p s m args cod cX9_span 12 wsX9_span RX9 := ⟨hx, hb, hml, hown, hts, hK, hI, by rw [← hAe]; exact gA_ad, by rw [← hAe]; exact gA_sz, by rw [← hAe]; exact hZ⟩
  have G : gW D ad cy N A s.heap c d0 s.heap [] := ⟨hP, va_S.rf⟩
  generalize hQ : MQ below (va_Qi (fun (z : Int32) (_ : Unit) => z = rZ) (fun _ U => gE D ad cy N cZ d0 U) A) args s 0 0 A = Q
  suffices hgen : ∀ (H : Heap) (locs : List Loc), gW D ad cy N A s.heap c d0 H locs → W p l e rmX9_span s m args below meth cod H locs 0 0 Q (F0 m 0 ls []) from hgen _ _ G
  clear G
  intro H locs G
  unfold m_X9_span at h
  refine lv_aload_n hx hb dX9_span_0 rfl (lv_at hl 0 rfl) ?_
  refine lv_iload_n hx hb dX9_span_1 rfl (lv_at hl 3 rfl) ?_
  refine lv_iload hx hb dX9_span_2 (lv_at hl 4 rfl) ?_
  obtain ⟨r2, hc1, h⟩ := gb_s h
  refine gx_calli F G (va_runS (As := [.int a3, .int a4]) (rest := [.ref (ad t)]) (gx_fix F) (c_X9_isFair l sa D ad cy N H.size hN hI c d0 hc1) (va_cwS 2 hts gX9_span_X9_isFair rfl rfl rfl (by decide +kernel) ⟨by decide, by decide⟩) (gx_pre F G) rfl rfl hl.1 rfl (lv_room (Nat.le_of_ble_eq_true rfl)) dX9_span_4 ⟨Nat.zero_le _, Nat.zero_le _⟩) (fun H locs G => ?_)
  obtain ⟨K4, eK4, h⟩ := gj_s h
  have JK4 : ∀ (v3 : Int32) (H : Heap) (locs : List Loc) (ls : Array Slot), K4 v3 = some (.inl (rZ, cZ)) → gW D ad cy N A s.heap c d0 H locs → lv_has ls 12 [(0, .ref (ad t)), (1, .int a1), (2, .int a2), (3, .int a3), (4, .int a4), (5, .int a5), (6, .int a6)] → W p l e rmX9_span s m args below meth cod H locs 0 0 Q (F0 m 26 ls [.int v3, .ref (ad t)]) := by
    intro v3 H locs ls h G hl
    rw [eK4] at h
    obtain ⟨hk5, h⟩ := gc_s h
    have ht6 : t < N := Nat.lt_of_lt_of_le (gck_lt9 hk5) hN
    obtain ⟨c9, hc7, h⟩ := gbx_l h
    refine gx_callv F G (va_runV (As := [.int v3]) (rest := []) (gx_fix F) (c_X9_demand l sa D ad cy N H.size hN hI c d0 hc7) (cwV 1 hts gX9_span_X9_demand rfl rfl rfl (by decide +kernel) ⟨by decide, by decide⟩) (gx_rec F G ht6 (gwe_9 hk5) rfl) rfl rfl hl.1 rfl (lv_room (Nat.le_of_ble_eq_true rfl)) dX9_span_26 ⟨Nat.zero_le _, Nat.zero_le _⟩) (fun H locs G => ?_)
    refine lv_aload_n hx hb dX9_span_29 rfl (lv_at hl 0 rfl) ?_
    refine lv_iload hx hb dX9_span_30 (lv_at hl 5 rfl) ?_
    obtain ⟨K11, eK11, h⟩ := gj_s h
    have JK11 : ∀ (v10 : Int32) (H : Heap) (locs : List Loc) (ls : Array Slot), K11 v10 = some (.inl (rZ, cZ)) → gW D ad cy N A s.heap c9 d0 H locs → lv_has ls 12 [(0, .ref (ad t)), (1, .int a1), (2, .int a2), (3, .int a3), (4, .int a4), (5, .int a5), (6, .int a6)] → W p l e rmX9_span s m args below meth cod H locs 0 0 Q (F0 m 58 ls [.int v10, .ref (ad t)]) := by
      intro v10 H locs ls h G hl
      rw [eK11] at h
      obtain ⟨c14, hc12, h⟩ := gbx_l h
      refine gx_callv F G (va_runV (As := [.int v10]) (rest := []) (gx_fix F) (c_X9_demand l sa D ad cy N H.size hN hI c9 d0 hc12) (cwV 1 hts gX9_span_X9_demand rfl rfl rfl (by decide +kernel) ⟨by decide, by decide⟩) (gx_rec F G ht6 (gwe_9 hk5) rfl) rfl rfl hl.1 rfl (lv_room (Nat.le_of_ble_eq_true rfl)) dX9_span_58 ⟨Nat.zero_le _, Nat.zero_le _⟩) (fun H locs G => ?_)
      replace h := gok_s h
      refine lv_iconst (v := 0) hx hb dX9_span_61 (by decide) ?_
      refine lv_istore (lv' := [(7, .int 0), (0, .ref (ad t)), (1, .int a1), (2, .int a2), (3, .int a3), (4, .int a4), (5, .int a5), (6, .int a6)]) hx hb dX9_span_62 hl (by decide) rfl (fun ls hl => ?_)
      refine lv_iconst (v := 0) hx hb dX9_span_64 (by decide) ?_
      refine lv_istore (lv' := [(8, .int 0), (7, .int 0), (0, .ref (ad t)), (1, .int a1), (2, .int a2), (3, .int a3), (4, .int a4), (5, .int a5), (6, .int a6)]) hx hb dX9_span_65 hl (by decide) rfl (fun ls hl => ?_)
      refine lv_iconst (v := 0) hx hb dX9_span_67 (by decide) ?_
      refine lv_istore (lv' := [(9, .int 0), (8, .int 0), (7, .int 0), (0, .ref (ad t)), (1, .int a1), (2, .int a2), (3, .int a3), (4, .int a4), (5, .int a5), (6, .int a6)]) hx hb dX9_span_68 hl (by decide) rfl (fun ls hl => ?_)
      refine lv_iconst (v := 0) hx hb dX9_span_70 (by decide) ?_
      refine lv_istore (lv' := [(10, .int 0), (9, .int 0), (8, .int 0), (7, .int 0), (0, .ref (ad t)), (1, .int a1), (2, .int a2), (3, .int a3), (4, .int a4), (5, .int a5), (6, .int a6)]) hx hb dX9_span_71 hl (by decide) rfl (fun ls hl => ?_)
      obtain ⟨b15, hb15, hK15⟩ := gb_s h
      have E15 : ∀ (z21 : Int32) (z22 : Int32) (z23 : Int32) (c24 : gm) (H : Heap) (locs : List Loc) (ls : Array Slot), ((z21, z22, z23, c24) : Int32 × Int32 × Int32 × gm) = b15 → gW D ad cy N A s.heap c24 d0 H locs → lv_has ls 12 [(5, .int a5), (7, .int z21), (8, .int z22), (9, .int z23)] → W p l e rmX9_span s m args below meth cod H locs 0 0 Q (F0 m 186 ls []) := by
        intro z21 z22 z23 c24 H locs ls hq15 G hl
        subst hq15
        replace hK15 := hK15
        replace hK15 := gu2_s hK15
        replace hK15 := gu2_s hK15
        replace hK15 := gu2_s hK15
        have h := hK15
        refine lv_iload hx hb dX9_span_186 (lv_at hl 0 rfl) ?_
        refine lv_if_ne (tgt := 196) hx hb dX9_span_188 (by decide) (fun q25 => ?_) (fun q25 => ?_)
        · replace h := gf_s q25 h
          refine lv_iload hx hb dX9_span_196 (lv_at hl 0 rfl) ?_
          refine lv_iconst (v := 1) hx hb dX9_span_198 (by decide) ?_
          refine lv_icmp_ne (tgt := 207) hx hb dX9_span_199 (by decide) (fun q26 => ?_) (fun q26 => ?_)
          · replace h := gf_s q26 h
            refine lv_iload hx hb dX9_span_207 (lv_at hl 3 rfl) ?_
            cases h
            rw [← hQ]
            exact gx_iret F G hr hlocks dX9_span_209
          · replace h := gt_s q26 h
            refine lv_iload hx hb dX9_span_202 (lv_at hl 2 rfl) ?_
            refine lv_goto (tgt := 209) hx hb dX9_span_204 (by decide) ?_
            cases h
            rw [← hQ]
            exact gx_iret F G hr hlocks dX9_span_209
        · replace h := gt_s q25 h
          refine lv_iload hx hb dX9_span_191 (lv_at hl 1 rfl) ?_
          refine lv_goto (tgt := 209) hx hb dX9_span_193 (by decide) ?_
          cases h
          rw [← hQ]
          exact gx_iret F G hr hlocks dX9_span_209
      have L15 : ∀ (n9 : Nat) (y16 : Int32) (y17 : Int32) (y18 : Int32) (y19 : Int32) (c20 : gm) (H : Heap) (locs : List Loc) (ls : Array Slot), gloop (gu2 (fun (y16 : Int32) => gu2 (fun (y17 : Int32) => gu2 (fun (y18 : Int32) => gu2 (fun (y19 : Int32) (c20 : gm) => m_X9_span_L73 n a1 a2 a3 a4 a6 y16 y17 y18 y19 c20))))) n9 (y16, y17, y18, y19, c20) = some b15 → gW D ad cy N A s.heap c20 d0 H locs → lv_has ls 12 [(0, .ref (ad t)), (1, .int a1), (2, .int a2), (3, .int a3), (4, .int a4), (5, .int a5), (6, .int a6), (7, .int y16), (8, .int y17), (9, .int y18), (10, .int y19)] → W p l e rmX9_span s m args below meth cod H locs 0 0 Q (F0 m 73 ls []) := by
        intro n9
        induction n9 with
        | zero => intro y16 y17 y18 y19 c20 H locs ls h; exact (gloop_0 h).elim
        | succ n9 ih =>
          intro y16 y17 y18 y19 c20 H locs ls h G hl
          have ih15 := ih
          obtain ⟨o15, h, hn15⟩ := gloop_s h
          replace h := gu2_s h
          replace h := gu2_s h
          replace h := gu2_s h
          replace h := gu2_s h
          unfold m_X9_span_L73 at h
          refine lv_iload hx hb dX9_span_73 (lv_at hl 10 rfl) ?_
          refine lv_iload_n hx hb dX9_span_75 rfl (lv_at hl 2 rfl) ?_
          refine lv_icmp_ge (tgt := 186) hx hb dX9_span_76 (by decide) (fun q27 => ?_) (fun q27 => ?_)
          · replace h := gt_s q27 h
            cases h
            exact E15 _ _ _ _ _ _ _ (gnx_r hn15) G (lv_sub hl [5, 7, 8, 9] rfl)
          · replace h := gf_s q27 h
            refine lv_aload_n hx hb dX9_span_79 rfl (lv_at hl 0 rfl) ?_
            refine fg_9_fairs F G hk5 ht6 in9 (by decide +kernel) dX9_span_80 ?_
            have hk28 : gck 26 = 2 := rfl
            have ht29 : 26 < N := Nat.lt_of_lt_of_le (by decide) hN
            refine lv_aload_n hx hb dX9_span_83 rfl (lv_at hl 0 rfl) ?_
            refine fg_9_now F G hk5 ht6 in9 (by decide +kernel) dX9_span_84 ?_
            have hk30 : gck 3 = 6 := rfl
            have ht31 : 3 < N := Nat.lt_of_lt_of_le (by decide) hN
            refine lv_aload_n hx hb dX9_span_87 rfl (lv_at hl 0 rfl) ?_
            refine fg_9_rule F G hk5 ht6 in9 (by decide +kernel) dX9_span_88 ?_
            refine lv_iload_n hx hb dX9_span_91 rfl (lv_at hl 1 rfl) ?_
            refine lv_iload hx hb dX9_span_92 (lv_at hl 10 rfl) ?_
            refine lv_iadd hx hb dX9_span_94 ?_
            refine lv_iload_n hx hb dX9_span_95 rfl (lv_at hl 3 rfl) ?_
            refine lv_iload hx hb dX9_span_96 (lv_at hl 4 rfl) ?_
            obtain ⟨c34, hc32, h⟩ := gb_s h
            refine gx_callv F G (va_runV (As := [.ref (ad 3), .ref (ad (c20.2.2 0)), .int (a1 + y19), .int a3, .int a4]) (rest := []) (gx_fix F) (c_X2_hold l sa D ad cy N H.size hN hI c20 d0 hc32) (cwV 5 hts gX9_span_X2_hold rfl rfl rfl (by decide +kernel) ⟨by decide, by decide⟩) (gx_rec F G ht29 (gwe_2 hk28) rfl) rfl rfl hl.1 rfl (lv_room (Nat.le_of_ble_eq_true rfl)) dX9_span_98 ⟨Nat.zero_le _, Nat.zero_le _⟩) (fun H locs G => ?_)
            refine lv_aload_n hx hb dX9_span_101 rfl (lv_at hl 0 rfl) ?_
            refine fg_9_fairs F G hk5 ht6 in9 (by decide +kernel) dX9_span_102 ?_
            refine fg_2_end F G hk28 ht29 in2 (by decide +kernel) dX9_span_105 ?_
            have hk35 := gka_2_end hk28
            have ht36 : (26 + 1) < N := Nat.lt_of_lt_of_le (gck_lt6 hk35) hN
            obtain ⟨r38, hc37, h⟩ := gb_s h
            refine gx_calli F G (va_runV (As := []) (rest := []) (gx_fix F) (c_X6_weightOfAll l sa D ad cy N H.size hN hI c34 d0 hc37) (cwV 0 hts gX9_span_X6_weightOfAll rfl rfl rfl (by decide +kernel) ⟨by decide, by decide⟩) (gx_rec F G ht36 (gwe_6 hk35) rfl) rfl rfl hl.1 rfl (lv_room (Nat.le_of_ble_eq_true rfl)) dX9_span_108 ⟨Nat.zero_le _, Nat.zero_le _⟩) (fun H locs G => ?_)
            refine lv_istore (lv' := [(11, .int r38), (0, .ref (ad t)), (1, .int a1), (2, .int a2), (3, .int a3), (4, .int a4), (5, .int a5), (6, .int a6), (7, .int y16), (8, .int y17), (9, .int y18), (10, .int y19)]) hx hb dX9_span_111 hl (by decide) rfl (fun ls hl => ?_)
            refine lv_iload hx hb dX9_span_113 (lv_at hl 11 rfl) ?_
            obtain ⟨K40, eK40, h⟩ := gj_s h
            have JK40 : ∀ (v39 : Int32) (H : Heap) (locs : List Loc) (ls : Array Slot), K40 v39 = some o15 → gW D ad cy N A s.heap c34 d0 H locs → lv_has ls 12 [(0, .ref (ad t)), (1, .int a1), (2, .int a2), (3, .int a3), (4, .int a4), (5, .int a5), (6, .int a6), (8, .int y17), (9, .int y18), (10, .int y19), (11, .int r38)] → W p l e rmX9_span s m args below meth cod H locs 0 0 Q (F0 m 132 ls [.int v39]) := by
              intro v39 H locs ls h G hl
              rw [eK40] at h
              refine lv_istore (lv' := [(7, .int v39), (0, .ref (ad t)), (1, .int a1), (2, .int a2), (3, .int a3), (4, .int a4), (5, .int a5), (6, .int a6), (8, .int y17), (9, .int y18), (10, .int y19), (11, .int r38)]) hx hb dX9_span_132 hl (by decide) rfl (fun ls hl => ?_)
              refine lv_iload hx hb dX9_span_134 (lv_at hl 10 rfl) ?_
              obtain ⟨K42, eK42, h⟩ := gj_s h
              have JK42 : ∀ (v41 : Int32) (H : Heap) (locs : List Loc) (ls : Array Slot), K42 v41 = some o15 → gW D ad cy N A s.heap c34 d0 H locs → lv_has ls 12 [(0, .ref (ad t)), (1, .int a1), (2, .int a2), (3, .int a3), (4, .int a4), (5, .int a5), (6, .int a6), (7, .int v39), (9, .int y18), (10, .int y19)] → W p l e rmX9_span s m args below meth cod H locs 0 0 Q (F0 m 153 ls [.int v41]) := by
                intro v41 H locs ls h G hl
                rw [eK42] at h
                refine lv_istore (lv' := [(8, .int v41), (0, .ref (ad t)), (1, .int a1), (2, .int a2), (3, .int a3), (4, .int a4), (5, .int a5), (6, .int a6), (7, .int v39), (9, .int y18), (10, .int y19)]) hx hb dX9_span_153 hl (by decide) rfl (fun ls hl => ?_)
                refine lv_iload hx hb dX9_span_155 (lv_at hl 9 rfl) ?_
                refine lv_aload_n hx hb dX9_span_157 rfl (lv_at hl 1 rfl) ?_
                refine fg_9_fairs F G hk5 ht6 in9 (by decide +kernel) dX9_span_158 ?_
                refine fg_2_end F G hk28 ht29 in2 (by decide +kernel) dX9_span_161 ?_
                refine lv_iload hx hb dX9_span_164 (lv_at hl 7 rfl) ?_
                obtain ⟨r44, hc43, h⟩ := gb_s h
                refine gx_calli F G (va_runV (As := [.int a6]) (rest := [.int y18]) (gx_fix F) (c_X6_criesWith l sa D ad cy N H.size hN hI c34 d0 hc43) (cwV 1 hts gX9_span_X6_criesWith rfl rfl rfl (by decide +kernel) ⟨by decide, by decide⟩) (gx_rec F G ht36 (gwe_6 hk35) rfl) rfl rfl hl.1 rfl (lv_room (Nat.le_of_ble_eq_true rfl)) dX9_span_166 ⟨Nat.zero_le _, Nat.zero_le _⟩) (fun H locs G => ?_)
                obtain ⟨K46, eK46, h⟩ := gj_s h
                have JK46 : ∀ (v45 : Int32) (H : Heap) (locs : List Loc) (ls : Array Slot), K46 v45 = some o15 → gW D ad cy N A s.heap c34 d0 H locs → lv_has ls 12 [(0, .ref (ad t)), (1, .int a1), (2, .int a2), (3, .int a3), (4, .int a4), (5, .int a5), (6, .int a6), (7, .int v39), (8, .int v41), (10, .int y19)] → W p l e rmX9_span s m args below meth cod H locs 0 0 Q (F0 m 177 ls [.int v45, .int y18]) := by
                  intro v45 H locs ls h G hl
                  rw [eK46] at h
                  refine lv_iadd hx hb dX9_span_177 ?_
                  refine lv_topi (fun x47 ex47 => ?_)
                  replace h := gv_s h x47 ex47
                  refine lv_istore (lv' := [(9, .int x47), (0, .ref (ad t)), (1, .int a1), (2, .int a2), (3, .int a3), (4, .int a4), (5, .int a5), (6, .int a6), (7, .int v39), (8, .int v41), (10, .int y19)]) hx hb dX9_span_178 hl (by decide) rfl (fun ls hl => ?_)
                  obtain ⟨x48, ex48⟩ : ∃ z : Int32, z = y19 + 1 := ⟨_, rfl⟩
                  replace h := gv_s h x48 ex48
                  refine lv_iinc (v := x48) (lv' := [(10, .int x48), (9, .int x47), (0, .ref (ad t)), (1, .int a1), (2, .int a2), (3, .int a3), (4, .int a4), (5, .int a5), (6, .int a6), (7, .int v39), (8, .int v41)]) hx hb dX9_span_180 hl (k := 10) rfl (by rw [ex48]; rfl) (by decide) rfl (fun ls hl => ?_)
                  refine lv_goto (tgt := 73) hx hb dX9_span_183 (by decide) ?_
                  cases h
                  exact ih15 _ _ _ _ _ _ _ _ hn15 G (lv_sub hl [2, 3, 4, 5, 6, 7, 8, 9, 10, 1, 0] rfl)
                refine lv_if_eq (tgt := 176) hx hb dX9_span_169 (by decide) (fun q49 => ?_) (fun q49 => ?_)
                · replace h := gt_s q49 h
                  refine lv_iconst (v := 0) hx hb dX9_span_176 (by decide) ?_
                  exact JK46 _ _ _ _ h G (lv_sub hl [1, 2, 3, 4, 5, 6, 7, 8, 0, 10] rfl)
                · replace h := gf_s q49 h
                  refine lv_iconst (v := 1) hx hb dX9_span_172 (by decide) ?_
                  refine lv_goto (tgt := 177) hx hb dX9_span_173 (by decide) ?_
                  exact JK46 _ _ _ _ h G (lv_sub hl [1, 2, 3, 4, 5, 6, 7, 8, 0, 10] rfl)
              obtain ⟨K50, eK50, h⟩ := gj_s h
              have JK50 : ∀ (H : Heap) (locs : List Loc) (ls : Array Slot), K50 () = some o15 → gW D ad cy N A s.heap c34 d0 H locs → lv_has ls 12 [(0, .ref (ad t)), (1, .int a1), (2, .int a2), (3, .int a3), (4, .int a4), (5, .int a5), (6, .int a6), (7, .int v39), (9, .int y18), (10, .int y19), (11, .int r38)] → W p l e rmX9_span s m args below meth cod H locs 0 0 Q (F0 m 146 ls []) := by
                intro  H locs ls h G hl
                rw [eK50] at h
                refine lv_iload hx hb dX9_span_146 (lv_at hl 10 rfl) ?_
                refine lv_goto (tgt := 153) hx hb dX9_span_148 (by decide) ?_
                exact JK42 _ _ _ _ h G (lv_sub hl [0, 1, 2, 3, 4, 5, 6, 7, 8, 9] rfl)
              refine lv_if_eq (tgt := 146) hx hb dX9_span_136 (by decide) (fun q51 => ?_) (fun q51 => ?_)
              · replace h := gt_s q51 h
                exact JK50  _ _ _ h G (lv_sub hl [1, 2, 3, 4, 5, 6, 7, 0, 9, 10, 11] rfl)
              · replace h := gf_s q51 h
                refine lv_iload hx hb dX9_span_139 (lv_at hl 11 rfl) ?_
                refine lv_iload hx hb dX9_span_141 (lv_at hl 8 rfl) ?_
                refine lv_icmp_le (tgt := 151) hx hb dX9_span_143 (by decide) (fun q52 => ?_) (fun q52 => ?_)
                · replace h := gt_s q52 h
                  refine lv_iload hx hb dX9_span_151 (lv_at hl 8 rfl) ?_
                  exact JK42 _ _ _ _ h G (lv_sub hl [1, 2, 3, 4, 5, 6, 7, 0, 9, 10] rfl)
                · replace h := gf_s q52 h
                  exact JK50  _ _ _ h G (lv_sub hl [1, 2, 3, 4, 5, 6, 7, 0, 9, 10, 11] rfl)
            obtain ⟨K53, eK53, h⟩ := gj_s h
            have JK53 : ∀ (H : Heap) (locs : List Loc) (ls : Array Slot), K53 () = some o15 → gW D ad cy N A s.heap c34 d0 H locs → lv_has ls 12 [(0, .ref (ad t)), (1, .int a1), (2, .int a2), (3, .int a3), (4, .int a4), (5, .int a5), (6, .int a6), (8, .int y17), (9, .int y18), (10, .int y19), (11, .int r38)] → W p l e rmX9_span s m args below meth cod H locs 0 0 Q (F0 m 125 ls []) := by
              intro  H locs ls h G hl
              rw [eK53] at h
              refine lv_iload hx hb dX9_span_125 (lv_at hl 10 rfl) ?_
              refine lv_goto (tgt := 132) hx hb dX9_span_127 (by decide) ?_
              exact JK40 _ _ _ _ h G hl
            refine lv_if_eq (tgt := 125) hx hb dX9_span_115 (by decide) (fun q54 => ?_) (fun q54 => ?_)
            · replace h := gt_s q54 h
              exact JK53  _ _ _ h G (lv_sub hl [1, 2, 3, 4, 5, 6, 7, 9, 10, 11, 0] rfl)
            · replace h := gf_s q54 h
              refine lv_iload hx hb dX9_span_118 (lv_at hl 0 rfl) ?_
              refine lv_iload hx hb dX9_span_120 (lv_at hl 8 rfl) ?_
              refine lv_icmp_ge (tgt := 130) hx hb dX9_span_122 (by decide) (fun q55 => ?_) (fun q55 => ?_)
              · replace h := gt_s q55 h
                refine lv_iload hx hb dX9_span_130 (lv_at hl 8 rfl) ?_
                exact JK40 _ _ _ _ h G (lv_sub hl [1, 2, 3, 4, 5, 6, 7, 9, 10, 11, 0] rfl)
              · replace h := gf_s q55 h
                exact JK53  _ _ _ h G (lv_sub hl [1, 2, 3, 4, 5, 6, 7, 9, 10, 11, 0] rfl)
      exact L15 n _ _ _ _ _ _ _ _ hb15 G (lv_sub hl [4, 5, 6, 7, 8, 9, 10, 3, 2, 1, 0] rfl)
    obtain ⟨K56, eK56, h⟩ := gj_s h
    have JK56 : ∀ (H : Heap) (locs : List Loc) (ls : Array Slot), K56 () = some (.inl (rZ, cZ)) → gW D ad cy N A s.heap c9 d0 H locs → lv_has ls 12 [(0, .ref (ad t)), (1, .int a1), (2, .int a2), (3, .int a3), (4, .int a4), (5, .int a5), (6, .int a6)] → W p l e rmX9_span s m args below meth cod H locs 0 0 Q (F0 m 57 ls [.ref (ad t)]) := by
      intro  H locs ls h G hl
      rw [eK56] at h
      refine lv_iconst (v := 0) hx hb dX9_span_57 (by decide) ?_
      exact JK11 _ _ _ _ h G hl
    refine lv_if_lt (tgt := 57) hx hb dX9_span_32 (by decide) (fun q57 => ?_) (fun q57 => ?_)
    · replace h := gt_s q57 h
      exact JK56  _ _ _ h G hl
    · replace h := gf_s q57 h
      refine lv_iload hx hb dX9_span_35 (lv_at hl 5 rfl) ?_
      refine lv_iconst (v := 2) hx hb dX9_span_37 (by decide) ?_
      refine lv_icmp_gt (tgt := 57) hx hb dX9_span_38 (by decide) (fun q58 => ?_) (fun q58 => ?_)
      · replace h := gt_s q58 h
        exact JK56  _ _ _ h G hl
      · replace h := gf_s q58 h
        refine lv_aload_n hx hb dX9_span_41 rfl (lv_at hl 0 rfl) ?_
        refine fg_9_now F G hk5 ht6 in9 (by decide +kernel) dX9_span_42 ?_
        have hk59 : gck 3 = 6 := rfl
        have ht60 : 3 < N := Nat.lt_of_lt_of_le (by decide) hN
        refine lv_iload hx hb dX9_span_45 (lv_at hl 6 rfl) ?_
        obtain ⟨r62, hc61, h⟩ := gb_s h
        refine gx_calli F G (va_runV (As := [.int a6]) (rest := [.ref (ad t)]) (gx_fix F) (c_X6_isThing l sa D ad cy N H.size hN hI c9 d0 hc61) (cwV 1 hts gX9_span_X6_isThing rfl rfl rfl (by decide +kernel) ⟨by decide, by decide⟩) (gx_rec F G ht60 (gwe_6 hk59) rfl) rfl rfl hl.1 rfl (lv_room (Nat.le_of_ble_eq_true rfl)) dX9_span_47 ⟨Nat.zero_le _, Nat.zero_le _⟩) (fun H locs G => ?_)
        refine lv_if_eq (tgt := 57) hx hb dX9_span_50 (by decide) (fun q63 => ?_) (fun q63 => ?_)
        · replace h := gt_s q63 h
          exact JK56  _ _ _ h G hl
        · replace h := gf_s q63 h
          refine lv_iconst (v := 1) hx hb dX9_span_53 (by decide) ?_
          refine lv_goto (tgt := 58) hx hb dX9_span_54 (by decide) ?_
          exact JK11 _ _ _ _ h G hl
  obtain ⟨K64, eK64, h⟩ := gj_s h
  have JK64 : ∀ (H : Heap) (locs : List Loc) (ls : Array Slot), K64 () = some (.inl (rZ, cZ)) → gW D ad cy N A s.heap c d0 H locs → lv_has ls 12 [(0, .ref (ad t)), (1, .int a1), (2, .int a2), (3, .int a3), (4, .int a4), (5, .int a5), (6, .int a6)] → W p l e rmX9_span s m args below meth cod H locs 0 0 Q (F0 m 25 ls [.ref (ad t)]) := by
    intro  H locs ls h G hl
    rw [eK64] at h
    refine lv_iconst (v := 0) hx hb dX9_span_25 (by decide) ?_
    exact JK4 _ _ _ _ h G hl
  refine lv_if_eq (tgt := 25) hx hb dX9_span_7 (by decide) (fun q65 => ?_) (fun q65 => ?_)
  · replace h := gt_s q65 h
    exact JK64  _ _ _ h G hl
  · replace h := gf_s q65 h
    refine lv_iload_n hx hb dX9_span_10 rfl (lv_at hl 2 rfl) ?_
    refine lv_iconst (v := 1) hx hb dX9_span_11 (by decide) ?_
    refine lv_icmp_lt (tgt := 25) hx hb dX9_span_12 (by decide) (fun q66 => ?_) (fun q66 => ?_)
    · replace h := gt_s q66 h
      exact JK64  _ _ _ h G hl
    · replace h := gf_s q66 h
      refine lv_iload_n hx hb dX9_span_15 rfl (lv_at hl 2 rfl) ?_
      refine lv_bipush (v := 20) hx hb dX9_span_16 (by decide) ?_
      refine lv_icmp_gt (tgt := 25) hx hb dX9_span_18 (by decide) (fun q67 => ?_) (fun q67 => ?_)
      · replace h := gt_s q67 h
        exact JK64  _ _ _ h G hl
      · replace h := gf_s q67 h
        refine lv_iconst (v := 1) hx hb dX9_span_21 (by decide) ?_
        refine lv_goto (tgt := 26) hx hb dX9_span_22 (by decide) ?_
        exact JK4 _ _ _ _ h G hl
set_option maxHeartbeats 4000000 in
set_option maxRecDepth 100000 in
theorem cx_X9_span (l : Launch) (hlt : l.stackTraces = false) (sa : gSa) (D : va_G) (ad : Nat → Nat) (cy : Nat → ClassId) (N sz : Nat) (hN : 55 ≤ N) (hI : gI ad N) (c d0 : gm) {n : Nat} {t : Nat} {a1 : Int32} {a2 : Int32} {a3 : Int32} {a4 : Int32} {a5 : Int32} {a6 : Int32} {kZ : Nat} {cZ : gm} (h : m_X9_span n t a1 a2 a3 a4 a5 a6 c = some (.inr (kZ, cZ))) : vx_Met l yX9_span wsX9_span rxX9_span (va_Pc [.ref (ad t), .int a1, .int a2, .int a3, .int a4, .int a5, .int a6] (gP sa D ad cy N sz c d0)) (va_Qi (fun (_ : Int32) (_ : Unit) => False) (fun _ _ => True) (gA ad N sz)) (vx_X (fun (_ : Unit) => True) (fun E _ U => E = gxn kZ ∧ gE D ad cy N cZ d0 U) (gA ad N sz)) 1 6 (gA ad N sz) := by
  refine vx_ofW (cc := cX9_span) (maxL := 12) (ret := (some .int)) (by decide) rfl ?_
  intro p e s m args below meth cod s₁ B hml htab hv
  obtain ⟨rfl, hsz, hP, hK, hZ⟩ := hv
  have hx := B.exec
  have hb := B.bytes
  have hr := B.returns
  have hts := atoms_spec (ws := wsX9_span) B.pre
  have hown : s.vm.findClass RX9 = some m.cls := findClass_of_methodNamed B.named
  have hlocks := B.notSynchronized
  subst hsz
  have hl := lv_entry ([.ref (ad t), .int a1, .int a2, .int a3, .int a4, .int a5, .int a6]) (n := 12) (Nat.le_of_ble_eq_true rfl)
  rw [lg_entry_eq]
  generalize (lg_sl ([.ref (ad t), .int a1, .int a2, .int a3, .int a4, .int a5, .int a6]) ++ List.replicate (12 - (lg_sl ([.ref (ad t), .int a1, .int a2, .int a3, .int a4, .int a5, .int a6])).length) Slot.unset).toArray = ls at hl ⊢
  have hl : lv_has ls 12 [(0, .ref (ad t)), (1, .int a1), (2, .int a2), (3, .int a3), (4, .int a4), (5, .int a5), (6, .int a6)] := hl
  have in9 : ∀ w ∈ wsX90, w ∈ wsX9_span := by decide +kernel
  generalize hargs : ([.ref (ad t), .int a1, .int a2, .int a3, .int a4, .int a5, .int a6] : List Value).toArray = args at *
  generalize hAe : gA ad N s.heap.size = A
  have F : gF sa D ad cy N A p s m args cod cX9_span 12 wsX9_span RX9 := ⟨hx, hb, hml, hown, hts, hK, hI, by rw [← hAe]; exact gA_ad, by rw [← hAe]; exact gA_sz, by rw [← hAe]; exact hZ⟩
  have G : gW D ad cy N A s.heap c d0 s.heap [] := ⟨hP, va_S.rf⟩
  generalize hQ : vx_MQ below (va_Qi (fun (_ : Int32) (_ : Unit) => False) (fun _ _ => True) A) (vx_X (fun (_ : Unit) => True) (fun E _ U => E = gxn kZ ∧ gE D ad cy N cZ d0 U) A) args s 1 6 A = Q
  suffices hgen : ∀ (H : Heap) (locs : List Loc), gW D ad cy N A s.heap c d0 H locs → W p l e rxX9_span s m args below meth cod H locs 0 0 Q (F0 m 0 ls []) from hgen _ _ G
  clear G
  intro H locs G
  unfold m_X9_span at h
  refine lv_aload_n hx hb dX9_span_0 rfl (lv_at hl 0 rfl) ?_
  refine lv_iload_n hx hb dX9_span_1 rfl (lv_at hl 3 rfl) ?_
  refine lv_iload hx hb dX9_span_2 (lv_at hl 4 rfl) ?_
  obtain ⟨r2, hc1, h⟩ := gb_s h
  refine gx_calli F G (va_runS (As := [.int a3, .int a4]) (rest := [.ref (ad t)]) (gx_fix F) (c_X9_isFair l sa D ad cy N H.size hN hI c d0 hc1) (va_cwS 2 hts gX9_span_X9_isFair rfl rfl rfl (by decide +kernel) ⟨by decide, by decide⟩) (gx_pre F G) rfl rfl hl.1 rfl (lv_room (Nat.le_of_ble_eq_true rfl)) dX9_span_4 ⟨Nat.zero_le _, Nat.zero_le _⟩) (fun H locs G => ?_)
  obtain ⟨K4, eK4, h⟩ := gj_s h
  have JK4 : ∀ (v3 : Int32) (H : Heap) (locs : List Loc) (ls : Array Slot), K4 v3 = some (.inr (kZ, cZ)) → gW D ad cy N A s.heap c d0 H locs → lv_has ls 12 [(0, .ref (ad t)), (1, .int a1), (2, .int a2), (3, .int a3), (4, .int a4), (5, .int a5), (6, .int a6)] → W p l e rxX9_span s m args below meth cod H locs 0 0 Q (F0 m 26 ls [.int v3, .ref (ad t)]) := by
    intro v3 H locs ls h G hl
    rw [eK4] at h
    obtain ⟨hk5, h⟩ := gc_s h
    have ht6 : t < N := Nat.lt_of_lt_of_le (gck_lt9 hk5) hN
    rcases gbx_x h with hc7 | ⟨c9, hc7, h⟩
    · exact hQ ▸ gx_xv F G htab hlocks (vx_runV (As := [.int v3]) (rest := []) (gx_fix F) (cx_X9_demand l hlt sa D ad cy N H.size hN hI c d0 hc7) (cwV 1 hts gX9_span_X9_demand rfl rfl rfl (by decide +kernel) ⟨by decide, by decide⟩) (gx_rec F G ht6 (gwe_9 hk5) rfl) rfl rfl hl.1 rfl (lv_room (Nat.le_of_ble_eq_true rfl)) dX9_span_26 ⟨by decide, by decide⟩)
    · skip
      refine gx_callv F G (va_runV (As := [.int v3]) (rest := []) (gx_fix F) (c_X9_demand l sa D ad cy N H.size hN hI c d0 hc7) (cwV 1 hts gX9_span_X9_demand rfl rfl rfl (by decide +kernel) ⟨by decide, by decide⟩) (gx_rec F G ht6 (gwe_9 hk5) rfl) rfl rfl hl.1 rfl (lv_room (Nat.le_of_ble_eq_true rfl)) dX9_span_26 ⟨Nat.zero_le _, Nat.zero_le _⟩) (fun H locs G => ?_)
      refine lv_aload_n hx hb dX9_span_29 rfl (lv_at hl 0 rfl) ?_
      refine lv_iload hx hb dX9_span_30 (lv_at hl 5 rfl) ?_
      obtain ⟨K11, eK11, h⟩ := gj_s h
      have JK11 : ∀ (v10 : Int32) (H : Heap) (locs : List Loc) (ls : Array Slot), K11 v10 = some (.inr (kZ, cZ)) → gW D ad cy N A s.heap c9 d0 H locs → lv_has ls 12 [(0, .ref (ad t)), (1, .int a1), (2, .int a2), (3, .int a3), (4, .int a4), (5, .int a5), (6, .int a6)] → W p l e rxX9_span s m args below meth cod H locs 0 0 Q (F0 m 58 ls [.int v10, .ref (ad t)]) := by
        intro v10 H locs ls h G hl
        rw [eK11] at h
        rcases gbx_x h with hc12 | ⟨c14, hc12, h⟩
        · exact hQ ▸ gx_xv F G htab hlocks (vx_runV (As := [.int v10]) (rest := []) (gx_fix F) (cx_X9_demand l hlt sa D ad cy N H.size hN hI c9 d0 hc12) (cwV 1 hts gX9_span_X9_demand rfl rfl rfl (by decide +kernel) ⟨by decide, by decide⟩) (gx_rec F G ht6 (gwe_9 hk5) rfl) rfl rfl hl.1 rfl (lv_room (Nat.le_of_ble_eq_true rfl)) dX9_span_58 ⟨by decide, by decide⟩)
        · skip
          refine gx_callv F G (va_runV (As := [.int v10]) (rest := []) (gx_fix F) (c_X9_demand l sa D ad cy N H.size hN hI c9 d0 hc12) (cwV 1 hts gX9_span_X9_demand rfl rfl rfl (by decide +kernel) ⟨by decide, by decide⟩) (gx_rec F G ht6 (gwe_9 hk5) rfl) rfl rfl hl.1 rfl (lv_room (Nat.le_of_ble_eq_true rfl)) dX9_span_58 ⟨Nat.zero_le _, Nat.zero_le _⟩) (fun H locs G => ?_)
          exact (gok_no h).elim
      obtain ⟨K15, eK15, h⟩ := gj_s h
      have JK15 : ∀ (H : Heap) (locs : List Loc) (ls : Array Slot), K15 () = some (.inr (kZ, cZ)) → gW D ad cy N A s.heap c9 d0 H locs → lv_has ls 12 [(0, .ref (ad t)), (1, .int a1), (2, .int a2), (3, .int a3), (4, .int a4), (5, .int a5), (6, .int a6)] → W p l e rxX9_span s m args below meth cod H locs 0 0 Q (F0 m 57 ls [.ref (ad t)]) := by
        intro  H locs ls h G hl
        rw [eK15] at h
        refine lv_iconst (v := 0) hx hb dX9_span_57 (by decide) ?_
        exact JK11 _ _ _ _ h G hl
      refine lv_if_lt (tgt := 57) hx hb dX9_span_32 (by decide) (fun q16 => ?_) (fun q16 => ?_)
      · replace h := gt_s q16 h
        exact JK15  _ _ _ h G hl
      · replace h := gf_s q16 h
        refine lv_iload hx hb dX9_span_35 (lv_at hl 5 rfl) ?_
        refine lv_iconst (v := 2) hx hb dX9_span_37 (by decide) ?_
        refine lv_icmp_gt (tgt := 57) hx hb dX9_span_38 (by decide) (fun q17 => ?_) (fun q17 => ?_)
        · replace h := gt_s q17 h
          exact JK15  _ _ _ h G hl
        · replace h := gf_s q17 h
          refine lv_aload_n hx hb dX9_span_41 rfl (lv_at hl 0 rfl) ?_
          refine fg_9_now F G hk5 ht6 in9 (by decide +kernel) dX9_span_42 ?_
          have hk18 : gck 3 = 6 := rfl
          have ht19 : 3 < N := Nat.lt_of_lt_of_le (by decide) hN
          refine lv_iload hx hb dX9_span_45 (lv_at hl 6 rfl) ?_
          obtain ⟨r21, hc20, h⟩ := gb_s h
          refine gx_calli F G (va_runV (As := [.int a6]) (rest := [.ref (ad t)]) (gx_fix F) (c_X6_isThing l sa D ad cy N H.size hN hI c9 d0 hc20) (cwV 1 hts gX9_span_X6_isThing rfl rfl rfl (by decide +kernel) ⟨by decide, by decide⟩) (gx_rec F G ht19 (gwe_6 hk18) rfl) rfl rfl hl.1 rfl (lv_room (Nat.le_of_ble_eq_true rfl)) dX9_span_47 ⟨Nat.zero_le _, Nat.zero_le _⟩) (fun H locs G => ?_)
          refine lv_if_eq (tgt := 57) hx hb dX9_span_50 (by decide) (fun q22 => ?_) (fun q22 => ?_)
          · replace h := gt_s q22 h
            exact JK15  _ _ _ h G hl
          · replace h := gf_s q22 h
            refine lv_iconst (v := 1) hx hb dX9_span_53 (by decide) ?_
            refine lv_goto (tgt := 58) hx hb dX9_span_54 (by decide) ?_
            exact JK11 _ _ _ _ h G hl
  obtain ⟨K23, eK23, h⟩ := gj_s h
  have JK23 : ∀ (H : Heap) (locs : List Loc) (ls : Array Slot), K23 () = some (.inr (kZ, cZ)) → gW D ad cy N A s.heap c d0 H locs → lv_has ls 12 [(0, .ref (ad t)), (1, .int a1), (2, .int a2), (3, .int a3), (4, .int a4), (5, .int a5), (6, .int a6)] → W p l e rxX9_span s m args below meth cod H locs 0 0 Q (F0 m 25 ls [.ref (ad t)]) := by
    intro  H locs ls h G hl
    rw [eK23] at h
    refine lv_iconst (v := 0) hx hb dX9_span_25 (by decide) ?_
    exact JK4 _ _ _ _ h G hl
  refine lv_if_eq (tgt := 25) hx hb dX9_span_7 (by decide) (fun q24 => ?_) (fun q24 => ?_)
  · replace h := gt_s q24 h
    exact JK23  _ _ _ h G hl
  · replace h := gf_s q24 h
    refine lv_iload_n hx hb dX9_span_10 rfl (lv_at hl 2 rfl) ?_
    refine lv_iconst (v := 1) hx hb dX9_span_11 (by decide) ?_
    refine lv_icmp_lt (tgt := 25) hx hb dX9_span_12 (by decide) (fun q25 => ?_) (fun q25 => ?_)
    · replace h := gt_s q25 h
      exact JK23  _ _ _ h G hl
    · replace h := gf_s q25 h
      refine lv_iload_n hx hb dX9_span_15 rfl (lv_at hl 2 rfl) ?_
      refine lv_bipush (v := 20) hx hb dX9_span_16 (by decide) ?_
      refine lv_icmp_gt (tgt := 25) hx hb dX9_span_18 (by decide) (fun q26 => ?_) (fun q26 => ?_)
      · replace h := gt_s q26 h
        exact JK23  _ _ _ h G hl
      · replace h := gf_s q26 h
        refine lv_iconst (v := 1) hx hb dX9_span_21 (by decide) ?_
        refine lv_goto (tgt := 26) hx hb dX9_span_22 (by decide) ?_
        exact JK4 _ _ _ _ h G hl
def m_X9_image (t : Nat) (c : gm) : Option (Int32 × gm) :=
  gc (gck t = 9) ((if (c.1 17 4) < 3 then gb (m_X5_takeImage 17 3 c) (fun (c10 : gm) => some ((c10.1 17 4), c10)) else some ((-1), c)))
abbrev rmX9_image : Room := { frames := 3, cells := 0, slots := 0, locals := 103 }
set_option maxHeartbeats 4000000 in
set_option maxRecDepth 100000 in
theorem c_X9_image (l : Launch) (sa : gSa) (D : va_G) (ad : Nat → Nat) (cy : Nat → ClassId) (N sz : Nat) (hN : 55 ≤ N) (hI : gI ad N) (c d0 : gm) {t : Nat} {rZ : Int32} {cZ : gm} (h : m_X9_image t c = some (rZ, cZ)) : Met l yX9_image wsX9_image rmX9_image (va_Pc [.ref (ad t)] (gP sa D ad cy N sz c d0)) (va_Qi (fun (z : Int32) (_ : Unit) => z = rZ) (fun _ U => gE D ad cy N cZ d0 U) (gA ad N sz)) 0 0 (gA ad N sz) := by
  refine Met.ofW (cc := cX9_image) (maxL := 1) (ret := (some .int)) (by decide) rfl ?_
  intro p e s m args below meth cod s₁ B hml hv
  obtain ⟨rfl, hsz, hP, hK, hZ⟩ := hv
  have hx := B.exec
  have hb := B.bytes
  have hr := B.returns
  have hts := atoms_spec (ws := wsX9_image) B.pre
  have hown : s.vm.findClass RX9 = some m.cls := findClass_of_methodNamed B.named
  have hlocks := B.notSynchronized
  subst hsz
  have hl := lv_entry ([.ref (ad t)]) (n := 1) (Nat.le_of_ble_eq_true rfl)
  rw [lg_entry_eq]
  generalize (lg_sl ([.ref (ad t)]) ++ List.replicate (1 - (lg_sl ([.ref (ad t)])).length) Slot.unset).toArray = ls at hl ⊢
  have hl : lv_has ls 1 [(0, .ref (ad t))] := hl
  have in5 : ∀ w ∈ wsX50, w ∈ wsX9_image := by decide +kernel
  have in9 : ∀ w ∈ wsX90, w ∈ wsX9_image := by decide +kernel
  generalize hargs : ([.ref (ad t)] : List Value).toArray = args at *
  generalize hAe : gA ad N s.heap.size = A
  have F : gF sa D ad cy N A p s m args cod cX9_image 1 wsX9_image RX9 := ⟨hx, hb, hml, hown, hts, hK, hI, by rw [← hAe]; exact gA_ad, by rw [← hAe]; exact gA_sz, by rw [← hAe]; exact hZ⟩
  have G : gW D ad cy N A s.heap c d0 s.heap [] := ⟨hP, va_S.rf⟩
  generalize hQ : MQ below (va_Qi (fun (z : Int32) (_ : Unit) => z = rZ) (fun _ U => gE D ad cy N cZ d0 U) A) args s 0 0 A = Q
  suffices hgen : ∀ (H : Heap) (locs : List Loc), gW D ad cy N A s.heap c d0 H locs → W p l e rmX9_image s m args below meth cod H locs 0 0 Q (F0 m 0 ls []) from hgen _ _ G
  clear G
  intro H locs G
  unfold m_X9_image at h
  refine lv_aload_n hx hb dX9_image_0 rfl (lv_at hl 0 rfl) ?_
  obtain ⟨hk1, h⟩ := gc_s h
  have ht2 : t < N := Nat.lt_of_lt_of_le (gck_lt9 hk1) hN
  refine fg_9_past F G hk1 ht2 in9 (by decide +kernel) dX9_image_1 ?_
  have hk3 : gck 17 = 5 := rfl
  have ht4 : 17 < N := Nat.lt_of_lt_of_le (by decide) hN
  refine fg_5_images F G hk3 ht4 in5 (by decide +kernel) dX9_image_4 ?_
  refine lv_iconst (v := 3) hx hb dX9_image_7 (by decide) ?_
  refine lv_icmp_lt (tgt := 13) hx hb dX9_image_8 (by decide) (fun q5 => ?_) (fun q5 => ?_)
  · replace h := gt_s q5 h
    refine lv_aload_n hx hb dX9_image_13 rfl (lv_at hl 0 rfl) ?_
    refine fg_9_past F G hk1 ht2 in9 (by decide +kernel) dX9_image_14 ?_
    refine lv_aload_n hx hb dX9_image_17 rfl (lv_at hl 0 rfl) ?_
    refine fg_9_now F G hk1 ht2 in9 (by decide +kernel) dX9_image_18 ?_
    have hk6 : gck 3 = 6 := rfl
    have ht7 : 3 < N := Nat.lt_of_lt_of_le (by decide) hN
    obtain ⟨c10, hc8, h⟩ := gb_s h
    refine gx_callv F G (va_runV (As := [.ref (ad 3)]) (rest := []) (gx_fix F) (c_X5_takeImage l sa D ad cy N H.size hN hI c d0 hc8) (cwV 1 hts gX9_image_X5_takeImage rfl rfl rfl (by decide +kernel) ⟨by decide, by decide⟩) (gx_rec F G ht4 (gwe_5 hk3) rfl) rfl rfl hl.1 rfl (lv_room (Nat.le_of_ble_eq_true rfl)) dX9_image_21 ⟨Nat.zero_le _, Nat.zero_le _⟩) (fun H locs G => ?_)
    refine lv_aload_n hx hb dX9_image_24 rfl (lv_at hl 0 rfl) ?_
    refine fg_9_past F G hk1 ht2 in9 (by decide +kernel) dX9_image_25 ?_
    refine fg_5_images F G hk3 ht4 in5 (by decide +kernel) dX9_image_28 ?_
    cases h
    rw [← hQ]
    exact gx_iret F G hr hlocks dX9_image_31
  · replace h := gf_s q5 h
    refine lv_iconst (v := (-1)) hx hb dX9_image_11 (by decide) ?_
    cases h
    rw [← hQ]
    exact gx_iret F G hr hlocks dX9_image_12
def m_X9_restore (t : Nat) (c : gm) : Option (Int32 × gm) :=
  gc (gck t = 9) ((if 0 < (c.1 17 4) then gb (m_X5_goBackToImage 17 3 c) (fun (c10 : gm) => gv (gm_r c10 t (upd (c10.1 t) 12 0)) (fun (c11 : gm) => some ((c11.1 17 4), c11))) else some ((-1), c)))
abbrev rmX9_restore : Room := { frames := 3, cells := 0, slots := 0, locals := 103 }
set_option maxHeartbeats 4000000 in
set_option maxRecDepth 100000 in
theorem c_X9_restore (l : Launch) (sa : gSa) (D : va_G) (ad : Nat → Nat) (cy : Nat → ClassId) (N sz : Nat) (hN : 55 ≤ N) (hI : gI ad N) (c d0 : gm) {t : Nat} {rZ : Int32} {cZ : gm} (h : m_X9_restore t c = some (rZ, cZ)) : Met l yX9_restore wsX9_restore rmX9_restore (va_Pc [.ref (ad t)] (gP sa D ad cy N sz c d0)) (va_Qi (fun (z : Int32) (_ : Unit) => z = rZ) (fun _ U => gE D ad cy N cZ d0 U) (gA ad N sz)) 0 0 (gA ad N sz) := by
  refine Met.ofW (cc := cX9_restore) (maxL := 1) (ret := (some .int)) (by decide) rfl ?_
  intro p e s m args below meth cod s₁ B hml hv
  obtain ⟨rfl, hsz, hP, hK, hZ⟩ := hv
  have hx := B.exec
  have hb := B.bytes
  have hr := B.returns
  have hts := atoms_spec (ws := wsX9_restore) B.pre
  have hown : s.vm.findClass RX9 = some m.cls := findClass_of_methodNamed B.named
  have hlocks := B.notSynchronized
  subst hsz
  have hl := lv_entry ([.ref (ad t)]) (n := 1) (Nat.le_of_ble_eq_true rfl)
  rw [lg_entry_eq]
  generalize (lg_sl ([.ref (ad t)]) ++ List.replicate (1 - (lg_sl ([.ref (ad t)])).length) Slot.unset).toArray = ls at hl ⊢
  have hl : lv_has ls 1 [(0, .ref (ad t))] := hl
  have in5 : ∀ w ∈ wsX50, w ∈ wsX9_restore := by decide +kernel
  have in9 : ∀ w ∈ wsX90, w ∈ wsX9_restore := by decide +kernel
  generalize hargs : ([.ref (ad t)] : List Value).toArray = args at *
  generalize hAe : gA ad N s.heap.size = A
  have F : gF sa D ad cy N A p s m args cod cX9_restore 1 wsX9_restore RX9 := ⟨hx, hb, hml, hown, hts, hK, hI, by rw [← hAe]; exact gA_ad, by rw [← hAe]; exact gA_sz, by rw [← hAe]; exact hZ⟩
  have G : gW D ad cy N A s.heap c d0 s.heap [] := ⟨hP, va_S.rf⟩
  generalize hQ : MQ below (va_Qi (fun (z : Int32) (_ : Unit) => z = rZ) (fun _ U => gE D ad cy N cZ d0 U) A) args s 0 0 A = Q
  suffices hgen : ∀ (H : Heap) (locs : List Loc), gW D ad cy N A s.heap c d0 H locs → W p l e rmX9_restore s m args below meth cod H locs 0 0 Q (F0 m 0 ls []) from hgen _ _ G
  clear G
  intro H locs G
  unfold m_X9_restore at h
  refine lv_aload_n hx hb dX9_restore_0 rfl (lv_at hl 0 rfl) ?_
  obtain ⟨hk1, h⟩ := gc_s h
  have ht2 : t < N := Nat.lt_of_lt_of_le (gck_lt9 hk1) hN
  refine fg_9_past F G hk1 ht2 in9 (by decide +kernel) dX9_restore_1 ?_
  have hk3 : gck 17 = 5 := rfl
  have ht4 : 17 < N := Nat.lt_of_lt_of_le (by decide) hN
  refine fg_5_images F G hk3 ht4 in5 (by decide +kernel) dX9_restore_4 ?_
  refine lv_if_gt (tgt := 12) hx hb dX9_restore_7 (by decide) (fun q5 => ?_) (fun q5 => ?_)
  · replace h := gt_s q5 h
    refine lv_aload_n hx hb dX9_restore_12 rfl (lv_at hl 0 rfl) ?_
    refine fg_9_past F G hk1 ht2 in9 (by decide +kernel) dX9_restore_13 ?_
    refine lv_aload_n hx hb dX9_restore_16 rfl (lv_at hl 0 rfl) ?_
    refine fg_9_now F G hk1 ht2 in9 (by decide +kernel) dX9_restore_17 ?_
    have hk6 : gck 3 = 6 := rfl
    have ht7 : 3 < N := Nat.lt_of_lt_of_le (by decide) hN
    obtain ⟨c10, hc8, h⟩ := gb_s h
    refine gx_callv F G (va_runV (As := [.ref (ad 3)]) (rest := []) (gx_fix F) (c_X5_goBackToImage l sa D ad cy N H.size hN hI c d0 hc8) (cwV 1 hts gX9_restore_X5_goBackToImage rfl rfl rfl (by decide +kernel) ⟨by decide, by decide⟩) (gx_rec F G ht4 (gwe_5 hk3) rfl) rfl rfl hl.1 rfl (lv_room (Nat.le_of_ble_eq_true rfl)) dX9_restore_20 ⟨Nat.zero_le _, Nat.zero_le _⟩) (fun H locs G => ?_)
    refine lv_aload_n hx hb dX9_restore_23 rfl (lv_at hl 0 rfl) ?_
    refine lv_iconst (v := 0) hx hb dX9_restore_24 (by decide) ?_
    refine fp_9_refusedSteps F G hk1 ht2 in9 (by decide +kernel) dX9_restore_25 (fun H locs G => ?_)
    obtain ⟨c11, ec11⟩ : ∃ z, z = gm_r c10 t (upd (c10.1 t) 12 0) := ⟨_, rfl⟩
    rw [← ec11] at G
    replace h := gv_s h c11 ec11
    refine lv_aload_n hx hb dX9_restore_28 rfl (lv_at hl 0 rfl) ?_
    refine fg_9_past F G hk1 ht2 in9 (by decide +kernel) dX9_restore_29 ?_
    refine fg_5_images F G hk3 ht4 in5 (by decide +kernel) dX9_restore_32 ?_
    cases h
    rw [← hQ]
    exact gx_iret F G hr hlocks dX9_restore_35
  · replace h := gf_s q5 h
    refine lv_iconst (v := (-1)) hx hb dX9_restore_10 (by decide) ?_
    cases h
    rw [← hQ]
    exact gx_iret F G hr hlocks dX9_restore_11
def m_X9_status (t : Nat) (a1 : Int32) (c : gm) : Option (Int32) :=
  (if a1 = 0 then gc (gck t = 9) (some (c.1 t 13)) else (if a1 = 1 then gc (gck t = 9) (some (c.1 t 14)) else some (-1)))
abbrev rmX9_status : Room := { frames := 0, cells := 0, slots := 0, locals := 0 }
set_option maxHeartbeats 4000000 in
set_option maxRecDepth 100000 in
theorem c_X9_status (l : Launch) (sa : gSa) (D : va_G) (ad : Nat → Nat) (cy : Nat → ClassId) (N sz : Nat) (hN : 55 ≤ N) (hI : gI ad N) (c d0 : gm) {t : Nat} {a1 : Int32} {rZ : Int32} (h : m_X9_status t a1 c = some rZ) : Met l yX9_status wsX9_status rmX9_status (va_Pc [.ref (ad t), .int a1] (gP sa D ad cy N sz c d0)) (va_Qi (fun (z : Int32) (_ : Unit) => z = rZ) (fun _ U => gE D ad cy N c d0 U) (gA ad N sz)) 0 0 (gA ad N sz) := by
  refine Met.ofW (cc := cX9_status) (maxL := 2) (ret := (some .int)) (by decide) rfl ?_
  intro p e s m args below meth cod s₁ B hml hv
  obtain ⟨rfl, hsz, hP, hK, hZ⟩ := hv
  have hx := B.exec
  have hb := B.bytes
  have hr := B.returns
  have hts := atoms_spec (ws := wsX9_status) B.pre
  have hown : s.vm.findClass RX9 = some m.cls := findClass_of_methodNamed B.named
  have hlocks := B.notSynchronized
  subst hsz
  have hl := lv_entry ([.ref (ad t), .int a1]) (n := 2) (Nat.le_of_ble_eq_true rfl)
  rw [lg_entry_eq]
  generalize (lg_sl ([.ref (ad t), .int a1]) ++ List.replicate (2 - (lg_sl ([.ref (ad t), .int a1])).length) Slot.unset).toArray = ls at hl ⊢
  have hl : lv_has ls 2 [(0, .ref (ad t)), (1, .int a1)] := hl
  have in9 : ∀ w ∈ wsX90, w ∈ wsX9_status := by decide +kernel
  generalize hargs : ([.ref (ad t), .int a1] : List Value).toArray = args at *
  generalize hAe : gA ad N s.heap.size = A
  have F : gF sa D ad cy N A p s m args cod cX9_status 2 wsX9_status RX9 := ⟨hx, hb, hml, hown, hts, hK, hI, by rw [← hAe]; exact gA_ad, by rw [← hAe]; exact gA_sz, by rw [← hAe]; exact hZ⟩
  have G : gW D ad cy N A s.heap c d0 s.heap [] := ⟨hP, va_S.rf⟩
  generalize hQ : MQ below (va_Qi (fun (z : Int32) (_ : Unit) => z = rZ) (fun _ U => gE D ad cy N c d0 U) A) args s 0 0 A = Q
  suffices hgen : ∀ (H : Heap) (locs : List Loc), gW D ad cy N A s.heap c d0 H locs → W p l e rmX9_status s m args below meth cod H locs 0 0 Q (F0 m 0 ls []) from hgen _ _ G
  clear G
  intro H locs G
  unfold m_X9_status at h
  refine lv_iload_n hx hb dX9_status_0 rfl (lv_at hl 1 rfl) ?_
  by_cases q1 : a1 = 0
  · replace h := gt_s q1 h
    refine lv_lookup (tgt := 28) hx hb dX9_status_1 (by decide) (off := 27) (by rw [q1]; decide) (by decide) ?_
    refine lv_aload_n hx hb dX9_status_28 rfl (lv_at hl 0 rfl) ?_
    obtain ⟨hk2, h⟩ := gc_s h
    have ht3 : t < N := Nat.lt_of_lt_of_le (gck_lt9 hk2) hN
    refine fg_9_noSuchCalls F G hk2 ht3 in9 (by decide +kernel) dX9_status_29 ?_
    cases h
    rw [← hQ]
    exact gx_iret F G hr hlocks dX9_status_32
  replace h := gf_s q1 h
  by_cases q4 : a1 = 1
  · replace h := gt_s q4 h
    refine lv_lookup (tgt := 33) hx hb dX9_status_1 (by decide) (off := 32) (by rw [q4]; decide) (by decide) ?_
    refine lv_aload_n hx hb dX9_status_33 rfl (lv_at hl 0 rfl) ?_
    obtain ⟨hk5, h⟩ := gc_s h
    have ht6 : t < N := Nat.lt_of_lt_of_le (gck_lt9 hk5) hN
    refine fg_9_illegalCalls F G hk5 ht6 in9 (by decide +kernel) dX9_status_34 ?_
    cases h
    rw [← hQ]
    exact gx_iret F G hr hlocks dX9_status_37
  replace h := gf_s q4 h
  have nn7 := lv_neT q1 (show (0 : Int32).toInt = 0 by decide)
  have nn8 := lv_neT q4 (show (1 : Int32).toInt = 1 by decide)
  refine lv_lookup (tgt := 38) hx hb dX9_status_1 (by decide) (off := 37) (by show Op.lookupswitch.offset [(0, 27), (1, 32)] 37 _ = _; rw [lv_osw q1 (show (0 : Int32).toInt = 0 by decide), lv_osw q4 (show (1 : Int32).toInt = 1 by decide)]; rfl) (by decide) ?_
  refine lv_iconst (v := (-1)) hx hb dX9_status_38 (by decide) ?_
  cases h
  rw [← hQ]
  exact gx_iret F G hr hlocks dX9_status_39
def m_X9_count (t : Nat) (a1 : Int32) (c : gm) : Option (Int32) :=
  (if a1 = 0 then gc (gck t = 9) (some (c.1 17 4)) else (if a1 = 1 then gc (gck t = 9) (some (c.1 1 1)) else (if a1 = 2 then gc (gck t = 9) (some (c.1 17 3)) else some (-1))))
abbrev rmX9_count : Room := { frames := 0, cells := 0, slots := 0, locals := 0 }
set_option maxHeartbeats 4000000 in
set_option maxRecDepth 100000 in
theorem c_X9_count (l : Launch) (sa : gSa) (D : va_G) (ad : Nat → Nat) (cy : Nat → ClassId) (N sz : Nat) (hN : 55 ≤ N) (hI : gI ad N) (c d0 : gm) {t : Nat} {a1 : Int32} {rZ : Int32} (h : m_X9_count t a1 c = some rZ) : Met l yX9_count wsX9_count rmX9_count (va_Pc [.ref (ad t), .int a1] (gP sa D ad cy N sz c d0)) (va_Qi (fun (z : Int32) (_ : Unit) => z = rZ) (fun _ U => gE D ad cy N c d0 U) (gA ad N sz)) 0 0 (gA ad N sz) := by
  refine Met.ofW (cc := cX9_count) (maxL := 2) (ret := (some .int)) (by decide) rfl ?_
  intro p e s m args below meth cod s₁ B hml hv
  obtain ⟨rfl, hsz, hP, hK, hZ⟩ := hv
  have hx := B.exec
  have hb := B.bytes
  have hr := B.returns
  have hts := atoms_spec (ws := wsX9_count) B.pre
  have hown : s.vm.findClass RX9 = some m.cls := findClass_of_methodNamed B.named
  have hlocks := B.notSynchronized
  subst hsz
  have hl := lv_entry ([.ref (ad t), .int a1]) (n := 2) (Nat.le_of_ble_eq_true rfl)
  rw [lg_entry_eq]
  generalize (lg_sl ([.ref (ad t), .int a1]) ++ List.replicate (2 - (lg_sl ([.ref (ad t), .int a1])).length) Slot.unset).toArray = ls at hl ⊢
  have hl : lv_has ls 2 [(0, .ref (ad t)), (1, .int a1)] := hl
  have in5 : ∀ w ∈ wsX50, w ∈ wsX9_count := by decide +kernel
  have in7 : ∀ w ∈ wsX70, w ∈ wsX9_count := by decide +kernel
  have in9 : ∀ w ∈ wsX90, w ∈ wsX9_count := by decide +kernel
  generalize hargs : ([.ref (ad t), .int a1] : List Value).toArray = args at *
  generalize hAe : gA ad N s.heap.size = A
  have F : gF sa D ad cy N A p s m args cod cX9_count 2 wsX9_count RX9 := ⟨hx, hb, hml, hown, hts, hK, hI, by rw [← hAe]; exact gA_ad, by rw [← hAe]; exact gA_sz, by rw [← hAe]; exact hZ⟩
  have G : gW D ad cy N A s.heap c d0 s.heap [] := ⟨hP, va_S.rf⟩
  generalize hQ : MQ below (va_Qi (fun (z : Int32) (_ : Unit) => z = rZ) (fun _ U => gE D ad cy N c d0 U) A) args s 0 0 A = Q
  suffices hgen : ∀ (H : Heap) (locs : List Loc), gW D ad cy N A s.heap c d0 H locs → W p l e rmX9_count s m args below meth cod H locs 0 0 Q (F0 m 0 ls []) from hgen _ _ G
  clear G
  intro H locs G
  unfold m_X9_count at h
  refine lv_iload_n hx hb dX9_count_0 rfl (lv_at hl 1 rfl) ?_
  by_cases q1 : a1 = 0
  · replace h := gt_s q1 h
    refine lv_tableIn (tgt := 28) hx hb dX9_count_1 (by rw [q1]; decide) (by rw [q1]; decide) (off := 27) (by rw [q1]; decide) (by decide) ?_
    refine lv_aload_n hx hb dX9_count_28 rfl (lv_at hl 0 rfl) ?_
    obtain ⟨hk2, h⟩ := gc_s h
    have ht3 : t < N := Nat.lt_of_lt_of_le (gck_lt9 hk2) hN
    refine fg_9_past F G hk2 ht3 in9 (by decide +kernel) dX9_count_29 ?_
    have hk4 : gck 17 = 5 := rfl
    have ht5 : 17 < N := Nat.lt_of_lt_of_le (by decide) hN
    refine fg_5_images F G hk4 ht5 in5 (by decide +kernel) dX9_count_32 ?_
    cases h
    rw [← hQ]
    exact gx_iret F G hr hlocks dX9_count_35
  replace h := gf_s q1 h
  by_cases q6 : a1 = 1
  · replace h := gt_s q6 h
    refine lv_tableIn (tgt := 36) hx hb dX9_count_1 (by rw [q6]; decide) (by rw [q6]; decide) (off := 35) (by rw [q6]; decide) (by decide) ?_
    refine lv_aload_n hx hb dX9_count_36 rfl (lv_at hl 0 rfl) ?_
    obtain ⟨hk7, h⟩ := gc_s h
    have ht8 : t < N := Nat.lt_of_lt_of_le (gck_lt9 hk7) hN
    refine fg_9_text F G hk7 ht8 in9 (by decide +kernel) dX9_count_37 ?_
    have hk9 : gck 1 = 7 := rfl
    have ht10 : 1 < N := Nat.lt_of_lt_of_le (by decide) hN
    refine fg_7_held F G hk9 ht10 in7 (by decide +kernel) dX9_count_40 ?_
    cases h
    rw [← hQ]
    exact gx_iret F G hr hlocks dX9_count_43
  replace h := gf_s q6 h
  by_cases q11 : a1 = 2
  · replace h := gt_s q11 h
    refine lv_tableIn (tgt := 44) hx hb dX9_count_1 (by rw [q11]; decide) (by rw [q11]; decide) (off := 43) (by rw [q11]; decide) (by decide) ?_
    refine lv_aload_n hx hb dX9_count_44 rfl (lv_at hl 0 rfl) ?_
    obtain ⟨hk12, h⟩ := gc_s h
    have ht13 : t < N := Nat.lt_of_lt_of_le (gck_lt9 hk12) hN
    refine fg_9_past F G hk12 ht13 in9 (by decide +kernel) dX9_count_45 ?_
    have hk14 : gck 17 = 5 := rfl
    have ht15 : 17 < N := Nat.lt_of_lt_of_le (by decide) hN
    refine fg_5_works F G hk14 ht15 in5 (by decide +kernel) dX9_count_48 ?_
    cases h
    rw [← hQ]
    exact gx_iret F G hr hlocks dX9_count_51
  replace h := gf_s q11 h
  have nn16 := lv_neT q1 (show (0 : Int32).toInt = 0 by decide)
  have nn17 := lv_neT q6 (show (1 : Int32).toInt = 1 by decide)
  have nn18 := lv_neT q11 (show (2 : Int32).toInt = 2 by decide)
  refine lv_tableOut (tgt := 52) hx hb dX9_count_1 (by omega) (by decide) ?_
  refine lv_iconst (v := (-1)) hx hb dX9_count_52 (by decide) ?_
  cases h
  rw [← hQ]
  exact gx_iret F G hr hlocks dX9_count_53
def m_X10_tellsNothing (t : Nat) (c : gm) : Option (gm) :=
  gc (gck t = 10) (gv (gm_r c 58 (upd (c.1 58) (0 : Int32).toNatClampNeg 0)) (fun (c7 : gm) => gv (gm_r c7 58 (upd (c7.1 58) (1 : Int32).toNatClampNeg 0)) (fun (c9 : gm) => gv (gm_r c9 58 (upd (c9.1 58) (2 : Int32).toNatClampNeg 9)) (fun (c11 : gm) => gv (gm_r c11 58 (upd (c11.1 58) (3 : Int32).toNatClampNeg 0)) (fun (c13 : gm) => some c13)))))
abbrev rmX10_tellsNothing : Room := { frames := 0, cells := 0, slots := 0, locals := 0 }
set_option maxHeartbeats 4000000 in
set_option maxRecDepth 100000 in
theorem c_X10_tellsNothing (l : Launch) (sa : gSa) (D : va_G) (ad : Nat → Nat) (cy : Nat → ClassId) (N sz : Nat) (hN : 530 ≤ N) (hI : gI ad N) (c0 c : gm) {t : Nat} {cZ : gm} (h : m_X10_tellsNothing t c = some cZ) : Met l yX10_tellsNothing wsX10_tellsNothing rmX10_tellsNothing (va_Pc [.ref (ad t)] (gP sa D ad cy N sz c0 c)) (va_Qv (fun (_ : Unit) => True) (fun _ U => gE D ad cy N c0 cZ U) (gA ad N sz)) 0 0 (gA ad N sz) := by
  refine Met.ofW (cc := cX10_tellsNothing) (maxL := 1) (ret := none) (by decide) rfl ?_
  intro p e s m args below meth cod s₁ B hml hv
  obtain ⟨rfl, hsz, hP, hK, hZ⟩ := hv
  have hx := B.exec
  have hb := B.bytes
  have hr := B.returns
  have hts := atoms_spec (ws := wsX10_tellsNothing) B.pre
  have hown : s.vm.findClass RX10 = some m.cls := findClass_of_methodNamed B.named
  have hlocks := B.notSynchronized
  subst hsz
  have hl := lv_entry ([.ref (ad t)]) (n := 1) (Nat.le_of_ble_eq_true rfl)
  rw [lg_entry_eq]
  generalize (lg_sl ([.ref (ad t)]) ++ List.replicate (1 - (lg_sl ([.ref (ad t)])).length) Slot.unset).toArray = ls at hl ⊢
  have hl : lv_has ls 1 [(0, .ref (ad t))] := hl
  have in10 : ∀ w ∈ wsX100, w ∈ wsX10_tellsNothing := by decide +kernel
  generalize hargs : ([.ref (ad t)] : List Value).toArray = args at *
  generalize hAe : gA ad N s.heap.size = A
  have F : gF sa D ad cy N A p s m args cod cX10_tellsNothing 1 wsX10_tellsNothing RX10 := ⟨hx, hb, hml, hown, hts, hK, hI, by rw [← hAe]; exact gA_ad, by rw [← hAe]; exact gA_sz, by rw [← hAe]; exact hZ⟩
  have G : gW D ad cy N A s.heap c0 c s.heap [] := ⟨hP, va_S.rf⟩
  generalize hQ : MQ below (va_Qv (fun (_ : Unit) => True) (fun _ U => gE D ad cy N c0 cZ U) A) args s 0 0 A = Q
  suffices hgen : ∀ (H : Heap) (locs : List Loc), gW D ad cy N A s.heap c0 c H locs → W p l e rmX10_tellsNothing s m args below meth cod H locs 0 0 Q (F0 m 0 ls []) from hgen _ _ G
  clear G
  intro H locs G
  unfold m_X10_tellsNothing at h
  refine lv_aload_n hx hb dX10_tellsNothing_0 rfl (lv_at hl 0 rfl) ?_
  obtain ⟨hk1, h⟩ := gc_s h
  have ht2 : t < N := Nat.lt_of_lt_of_le (gck_lt10 hk1) hN
  refine fg_10_readTold F G hk1 ht2 in10 (by decide +kernel) dX10_tellsNothing_1 ?_
  have hk3 : gck 58 = 22 := rfl
  have ht4 : 58 < N := Nat.lt_of_lt_of_le (by decide) hN
  have hn5 : gal 58 = 4 := rfl
  refine lv_iconst (v := 0) hx hb dX10_tellsNothing_4 (by decide) ?_
  refine lv_iconst (v := 0) hx hb dX10_tellsNothing_5 (by decide) ?_
  refine gx_mis F G hk3 ht4 hn5 (by decide) dX10_tellsNothing_6 (fun H locs G => ?_)
  obtain ⟨c7, ec7⟩ : ∃ z, z = gm_r c 58 (upd (c.1 58) (0 : Int32).toNatClampNeg 0) := ⟨_, rfl⟩
  rw [← ec7] at G
  replace h := gv_s h c7 ec7
  refine lv_aload_n hx hb dX10_tellsNothing_7 rfl (lv_at hl 0 rfl) ?_
  refine fg_10_readTold F G hk1 ht2 in10 (by decide +kernel) dX10_tellsNothing_8 ?_
  refine lv_iconst (v := 1) hx hb dX10_tellsNothing_11 (by decide) ?_
  refine lv_iconst (v := 0) hx hb dX10_tellsNothing_12 (by decide) ?_
  refine gx_mis F G hk3 ht4 hn5 (by decide) dX10_tellsNothing_13 (fun H locs G => ?_)
  obtain ⟨c9, ec9⟩ : ∃ z, z = gm_r c7 58 (upd (c7.1 58) (1 : Int32).toNatClampNeg 0) := ⟨_, rfl⟩
  rw [← ec9] at G
  replace h := gv_s h c9 ec9
  refine lv_aload_n hx hb dX10_tellsNothing_14 rfl (lv_at hl 0 rfl) ?_
  refine fg_10_readTold F G hk1 ht2 in10 (by decide +kernel) dX10_tellsNothing_15 ?_
  refine lv_iconst (v := 2) hx hb dX10_tellsNothing_18 (by decide) ?_
  refine lv_bipush (v := 9) hx hb dX10_tellsNothing_19 (by decide) ?_
  refine gx_mis F G hk3 ht4 hn5 (by decide) dX10_tellsNothing_21 (fun H locs G => ?_)
  obtain ⟨c11, ec11⟩ : ∃ z, z = gm_r c9 58 (upd (c9.1 58) (2 : Int32).toNatClampNeg 9) := ⟨_, rfl⟩
  rw [← ec11] at G
  replace h := gv_s h c11 ec11
  refine lv_aload_n hx hb dX10_tellsNothing_22 rfl (lv_at hl 0 rfl) ?_
  refine fg_10_readTold F G hk1 ht2 in10 (by decide +kernel) dX10_tellsNothing_23 ?_
  refine lv_iconst (v := 3) hx hb dX10_tellsNothing_26 (by decide) ?_
  refine lv_iconst (v := 0) hx hb dX10_tellsNothing_27 (by decide) ?_
  refine gx_mis F G hk3 ht4 hn5 (by decide) dX10_tellsNothing_28 (fun H locs G => ?_)
  obtain ⟨c13, ec13⟩ : ∃ z, z = gm_r c11 58 (upd (c11.1 58) (3 : Int32).toNatClampNeg 0) := ⟨_, rfl⟩
  rw [← ec13] at G
  replace h := gv_s h c13 ec13
  cases h
  rw [← hQ]
  exact gx_vret F G hr hlocks dX10_tellsNothing_29
def m_X10_lays_L10 (a1 : Nat) (a2 : Nat) (y2 : Int32) (y7 : Int32) (c8 : gm) : Option ((Int32 × gm) ⊕ (gm)) :=
  gc (gck a2 = 25) (gc (0 ≤ y2.toInt ∧ y2.toInt < ((gal a2) : Nat)) (gc (gck (a2 + 1 + y2.toNatClampNeg) = 22) ((if (nI (gal (a2 + 1 + y2.toNatClampNeg))) ≤ y7 then some (.inr c8) else gc (0 ≤ y2.toInt ∧ y2.toInt < ((gal a2) : Nat)) (gc (gck a1 = 25) (gc (0 ≤ y2.toInt ∧ y2.toInt < ((gal a1) : Nat)) (gc (gck (a1 + 1 + y2.toNatClampNeg) = 22) (gc (0 ≤ y7.toInt ∧ y7.toInt < ((gal (a1 + 1 + y2.toNatClampNeg)) : Nat)) (gc (0 ≤ y7.toInt ∧ y7.toInt < ((gal (a2 + 1 + y2.toNatClampNeg)) : Nat)) (gv (gm_r c8 (a2 + 1 + y2.toNatClampNeg) (upd (c8.1 (a2 + 1 + y2.toNatClampNeg)) y7.toNatClampNeg (c8.1 (a1 + 1 + y2.toNatClampNeg) y7.toNatClampNeg))) (fun (c25 : gm) => gv (y7 + 1) (fun (x26 : Int32) => some (.inl (x26, c25))))))))))))))
def m_X10_lays_L2 (n : Nat) (a1 : Nat) (a2 : Nat) (a3 : Int32) (y2 : Int32) (c3 : gm) : Option ((Int32 × gm) ⊕ (gm)) :=
  (if a3 ≤ y2 then some (.inr c3) else gb (gloop (gu2 (fun (y7 : Int32) (c8 : gm) => m_X10_lays_L10 a1 a2 y2 y7 c8)) n (0, c3)) (fun (c9 : gm) => gv (y2 + 1) (fun (x10 : Int32) => some (.inl (x10, c9)))))
def m_X10_lays (n : Nat) (a1 : Nat) (a2 : Nat) (a3 : Int32) (c : gm) : Option (gm) :=
  gb (gloop (gu2 (fun (y2 : Int32) (c3 : gm) => m_X10_lays_L2 n a1 a2 a3 y2 c3)) n (0, c)) (fun (c4 : gm) => some c4)
abbrev rmX10_lays : Room := { frames := 0, cells := 0, slots := 0, locals := 0 }
set_option maxHeartbeats 4000000 in
set_option maxRecDepth 100000 in
theorem c_X10_lays (l : Launch) (sa : gSa) (D : va_G) (ad : Nat → Nat) (cy : Nat → ClassId) (N sz : Nat) (hN : 530 ≤ N) (hI : gI ad N) (c0 c : gm) {n : Nat} {a1 : Nat} {a2 : Nat} {a3 : Int32} {cZ : gm} (h : m_X10_lays n a1 a2 a3 c = some cZ) : Met l yX10_lays wsX10_lays rmX10_lays (va_Pc [.ref (ad a1), .ref (ad a2), .int a3] (gP sa D ad cy N sz c0 c)) (va_Qv (fun (_ : Unit) => True) (fun _ U => gE D ad cy N c0 cZ U) (gA ad N sz)) 0 0 (gA ad N sz) := by
  refine Met.ofW (cc := cX10_lays) (maxL := 5) (ret := none) (by decide) rfl ?_
  intro p e s m args below meth cod s₁ B hml hv
  obtain ⟨rfl, hsz, hP, hK, hZ⟩ := hv
  have hx := B.exec
  have hb := B.bytes
  have hr := B.returns
  have hts := atoms_spec (ws := wsX10_lays) B.pre
  have hown : s.vm.findClass RX10 = some m.cls := findClass_of_methodNamed B.named
  have hlocks := B.notSynchronized
  subst hsz
  have hl := lv_entry ([.ref (ad a1), .ref (ad a2), .int a3]) (n := 5) (Nat.le_of_ble_eq_true rfl)
  rw [lg_entry_eq]
  generalize (lg_sl ([.ref (ad a1), .ref (ad a2), .int a3]) ++ List.replicate (5 - (lg_sl ([.ref (ad a1), .ref (ad a2), .int a3])).length) Slot.unset).toArray = ls at hl ⊢
  have hl : lv_has ls 5 [(0, .ref (ad a1)), (1, .ref (ad a2)), (2, .int a3)] := hl
  generalize hargs : ([.ref (ad a1), .ref (ad a2), .int a3] : List Value).toArray = args at *
  generalize hAe : gA ad N s.heap.size = A
  have F : gF sa D ad cy N A p s m args cod cX10_lays 5 wsX10_lays RX10 := ⟨hx, hb, hml, hown, hts, hK, hI, by rw [← hAe]; exact gA_ad, by rw [← hAe]; exact gA_sz, by rw [← hAe]; exact hZ⟩
  have G : gW D ad cy N A s.heap c0 c s.heap [] := ⟨hP, va_S.rf⟩
  generalize hQ : MQ below (va_Qv (fun (_ : Unit) => True) (fun _ U => gE D ad cy N c0 cZ U) A) args s 0 0 A = Q
  suffices hgen : ∀ (H : Heap) (locs : List Loc), gW D ad cy N A s.heap c0 c H locs → W p l e rmX10_lays s m args below meth cod H locs 0 0 Q (F0 m 0 ls []) from hgen _ _ G
  clear G
  intro H locs G
  unfold m_X10_lays at h
  refine lv_iconst (v := 0) hx hb dX10_lays_0 (by decide) ?_
  refine lv_istore_n (lv' := [(3, .int 0), (0, .ref (ad a1)), (1, .ref (ad a2)), (2, .int a3)]) hx hb dX10_lays_1 rfl hl (by decide) rfl (fun ls hl => ?_)
  obtain ⟨b1, hb1, hK1⟩ := gb_s h
  have E1 : ∀ (c4 : gm) (H : Heap) (locs : List Loc) (ls : Array Slot), (c4 : gm) = b1 → gW D ad cy N A s.heap c0 c4 H locs → lv_has ls 5 [] → W p l e rmX10_lays s m args below meth cod H locs 0 0 Q (F0 m 43 ls []) := by
    intro c4 H locs ls hq1 G hl
    subst hq1
    replace hK1 := hK1
    have h := hK1
    cases h
    rw [← hQ]
    exact gx_vret F G hr hlocks dX10_lays_43
  have L1 : ∀ (n9 : Nat) (y2 : Int32) (c3 : gm) (H : Heap) (locs : List Loc) (ls : Array Slot), gloop (gu2 (fun (y2 : Int32) (c3 : gm) => m_X10_lays_L2 n a1 a2 a3 y2 c3)) n9 (y2, c3) = some b1 → gW D ad cy N A s.heap c0 c3 H locs → lv_has ls 5 [(0, .ref (ad a1)), (1, .ref (ad a2)), (2, .int a3), (3, .int y2)] → W p l e rmX10_lays s m args below meth cod H locs 0 0 Q (F0 m 2 ls []) := by
    intro n9
    induction n9 with
    | zero => intro y2 c3 H locs ls h; exact (gloop_0 h).elim
    | succ n9 ih =>
      intro y2 c3 H locs ls h G hl
      have ih1 := ih
      obtain ⟨o1, h, hn1⟩ := gloop_s h
      replace h := gu2_s h
      unfold m_X10_lays_L2 at h
      refine lv_iload_n hx hb dX10_lays_2 rfl (lv_at hl 3 rfl) ?_
      refine lv_iload_n hx hb dX10_lays_3 rfl (lv_at hl 2 rfl) ?_
      refine lv_icmp_ge (tgt := 43) hx hb dX10_lays_4 (by decide) (fun q5 => ?_) (fun q5 => ?_)
      · replace h := gt_s q5 h
        cases h
        exact E1 _ _ _ _ (gnx_r hn1) G (lv_sub hl [] rfl)
      · replace h := gf_s q5 h
        refine lv_iconst (v := 0) hx hb dX10_lays_7 (by decide) ?_
        refine lv_istore (lv' := [(4, .int 0), (0, .ref (ad a1)), (1, .ref (ad a2)), (2, .int a3), (3, .int y2)]) hx hb dX10_lays_8 hl (by decide) rfl (fun ls hl => ?_)
        obtain ⟨b6, hb6, hK6⟩ := gb_s h
        have E6 : ∀ (c9 : gm) (H : Heap) (locs : List Loc) (ls : Array Slot), (c9 : gm) = b6 → gW D ad cy N A s.heap c0 c9 H locs → lv_has ls 5 [(0, .ref (ad a1)), (1, .ref (ad a2)), (2, .int a3), (3, .int y2)] → W p l e rmX10_lays s m args below meth cod H locs 0 0 Q (F0 m 37 ls []) := by
          intro c9 H locs ls hq6 G hl
          subst hq6
          replace hK6 := hK6
          have h := hK6
          obtain ⟨x10, ex10⟩ : ∃ z : Int32, z = y2 + 1 := ⟨_, rfl⟩
          replace h := gv_s h x10 ex10
          refine lv_iinc (v := x10) (lv' := [(3, .int x10), (0, .ref (ad a1)), (1, .ref (ad a2)), (2, .int a3)]) hx hb dX10_lays_37 hl (k := 3) rfl (by rw [ex10]; rfl) (by decide) rfl (fun ls hl => ?_)
          refine lv_goto (tgt := 2) hx hb dX10_lays_40 (by decide) ?_
          cases h
          exact ih1 _ _ _ _ _ hn1 G (lv_sub hl [1, 2, 3, 0] rfl)
        have L6 : ∀ (n9 : Nat) (y7 : Int32) (c8 : gm) (H : Heap) (locs : List Loc) (ls : Array Slot), gloop (gu2 (fun (y7 : Int32) (c8 : gm) => m_X10_lays_L10 a1 a2 y2 y7 c8)) n9 (y7, c8) = some b6 → gW D ad cy N A s.heap c0 c8 H locs → lv_has ls 5 [(0, .ref (ad a1)), (1, .ref (ad a2)), (2, .int a3), (3, .int y2), (4, .int y7)] → W p l e rmX10_lays s m args below meth cod H locs 0 0 Q (F0 m 10 ls []) := by
          intro n9
          induction n9 with
          | zero => intro y7 c8 H locs ls h; exact (gloop_0 h).elim
          | succ n9 ih =>
            intro y7 c8 H locs ls h G hl
            have ih6 := ih
            obtain ⟨o6, h, hn6⟩ := gloop_s h
            replace h := gu2_s h
            unfold m_X10_lays_L10 at h
            refine lv_iload hx hb dX10_lays_10 (lv_at hl 4 rfl) ?_
            refine lv_aload_n hx hb dX10_lays_12 rfl (lv_at hl 1 rfl) ?_
            refine lv_iload_n hx hb dX10_lays_13 rfl (lv_at hl 3 rfl) ?_
            obtain ⟨hk11, h⟩ := gc_s h
            have ht12 : a2 < N := Nat.lt_of_lt_of_le (gck_lt25 hk11) hN
            obtain ⟨hi13, h⟩ := gc_s h
            refine gx_mga F G hk11 ht12 rfl hi13 dX10_lays_14 ?_
            obtain ⟨hk14, h⟩ := gc_s h
            have ht15 : (a2 + 1 + y2.toNatClampNeg) < N := Nat.lt_of_lt_of_le (gck_lt22 hk14) hN
            refine gx_mial F G hk14 ht15 rfl dX10_lays_15 ?_
            refine lv_icmp_ge (tgt := 37) hx hb dX10_lays_16 (by decide) (fun q16 => ?_) (fun q16 => ?_)
            · replace h := gt_s q16 h
              cases h
              exact E6 _ _ _ _ (gnx_r hn6) G (lv_sub hl [0, 1, 2, 3] rfl)
            · replace h := gf_s q16 h
              refine lv_aload_n hx hb dX10_lays_19 rfl (lv_at hl 1 rfl) ?_
              refine lv_iload_n hx hb dX10_lays_20 rfl (lv_at hl 3 rfl) ?_
              obtain ⟨hi17, h⟩ := gc_s h
              refine gx_mga F G hk11 ht12 rfl hi17 dX10_lays_21 ?_
              refine lv_iload hx hb dX10_lays_22 (lv_at hl 4 rfl) ?_
              refine lv_aload_n hx hb dX10_lays_24 rfl (lv_at hl 0 rfl) ?_
              refine lv_iload_n hx hb dX10_lays_25 rfl (lv_at hl 3 rfl) ?_
              obtain ⟨hk18, h⟩ := gc_s h
              have ht19 : a1 < N := Nat.lt_of_lt_of_le (gck_lt25 hk18) hN
              obtain ⟨hi20, h⟩ := gc_s h
              refine gx_mga F G hk18 ht19 rfl hi20 dX10_lays_26 ?_
              refine lv_iload hx hb dX10_lays_27 (lv_at hl 4 rfl) ?_
              obtain ⟨hk21, h⟩ := gc_s h
              have ht22 : (a1 + 1 + y2.toNatClampNeg) < N := Nat.lt_of_lt_of_le (gck_lt22 hk21) hN
              obtain ⟨hi23, h⟩ := gc_s h
              refine gx_mia F G hk21 ht22 rfl hi23 dX10_lays_29 ?_
              obtain ⟨hi24, h⟩ := gc_s h
              refine gx_mis F G hk14 ht15 rfl hi24 dX10_lays_30 (fun H locs G => ?_)
              obtain ⟨c25, ec25⟩ : ∃ z, z = gm_r c8 (a2 + 1 + y2.toNatClampNeg) (upd (c8.1 (a2 + 1 + y2.toNatClampNeg)) y7.toNatClampNeg (c8.1 (a1 + 1 + y2.toNatClampNeg) y7.toNatClampNeg)) := ⟨_, rfl⟩
              rw [← ec25] at G
              replace h := gv_s h c25 ec25
              obtain ⟨x26, ex26⟩ : ∃ z : Int32, z = y7 + 1 := ⟨_, rfl⟩
              replace h := gv_s h x26 ex26
              refine lv_iinc (v := x26) (lv' := [(4, .int x26), (0, .ref (ad a1)), (1, .ref (ad a2)), (2, .int a3), (3, .int y2)]) hx hb dX10_lays_31 hl (k := 4) rfl (by rw [ex26]; rfl) (by decide) rfl (fun ls hl => ?_)
              refine lv_goto (tgt := 10) hx hb dX10_lays_34 (by decide) ?_
              cases h
              exact ih6 _ _ _ _ _ hn6 G (lv_sub hl [1, 2, 3, 4, 0] rfl)
        exact L6 n _ _ _ _ _ hb6 G (lv_sub hl [1, 2, 3, 4, 0] rfl)
  exact L1 n _ _ _ _ _ hb1 G (lv_sub hl [1, 2, 3, 0] rfl)
def m_X10_beginsAnew_L121 (y29 : Int32) (y49 : Int32) (c50 : gm) : Option ((Int32 × gm) ⊕ (gm)) :=
  (if 4 ≤ y49 then some (.inr c50) else gc (0 ≤ y29.toInt ∧ y29.toInt < 10) (gc (gck (73 + 1 + y29.toNatClampNeg) = 22) (gc (0 ≤ y49.toInt ∧ y49.toInt < ((gal (73 + 1 + y29.toNatClampNeg)) : Nat)) (gc (0 ≤ ((16 + (4 * y29)) + y49).toInt ∧ ((16 + (4 * y29)) + y49).toInt < 60) (gv (gm_r c50 503 (upd (c50.1 503) ((16 + (4 * y29)) + y49).toNatClampNeg (c50.1 (73 + 1 + y29.toNatClampNeg) y49.toNatClampNeg))) (fun (c62 : gm) => gv (y49 + 1) (fun (x63 : Int32) => some (.inl (x63, c62)))))))))
def m_X10_beginsAnew_L109 (n : Nat) (y29 : Int32) (c30 : gm) : Option ((Int32 × gm) ⊕ (gm)) :=
  (if (c30.1 59 (1 : Int32).toNatClampNeg) ≤ y29 then some (.inr c30) else gb (gloop (gu2 (fun (y49 : Int32) (c50 : gm) => m_X10_beginsAnew_L121 y29 y49 c50)) n (0, c30)) (fun (c51 : gm) => gv (y29 + 1) (fun (x52 : Int32) => some (.inl (x52, c51)))))
def m_X10_beginsAnew_L48 (t : Nat) (y10 : Int32) (c11 : gm) : Option ((Int32 × gm) ⊕ (gm)) :=
  gc (gck t = 10) ((if (c11.1 59 (0 : Int32).toNatClampNeg) ≤ y10 then some (.inr c11) else gc (0 ≤ y10.toInt ∧ y10.toInt < 8) (gc (0 ≤ y10.toInt ∧ y10.toInt < 8) (gv (gm_r c11 61 (upd (c11.1 61) y10.toNatClampNeg (c11.1 60 y10.toNatClampNeg))) (fun (c79 : gm) => gc (0 ≤ y10.toInt ∧ y10.toInt < 8) (gc (0 ≤ (0 + y10).toInt ∧ (0 + y10).toInt < 60) (gv (gm_r c79 503 (upd (c79.1 503) (0 + y10).toNatClampNeg (c79.1 61 y10.toNatClampNeg))) (fun (c85 : gm) => gv (y10 + 1) (fun (x86 : Int32) => some (.inl (x86, c85)))))))))))
def m_X10_beginsAnew_L27 (t : Nat) (y6 : Int32) (c7 : gm) : Option ((Int32 × gm) ⊕ (gm)) :=
  (if 60 ≤ y6 then some (.inr c7) else gc (gck t = 10) (gc (0 ≤ y6.toInt ∧ y6.toInt < 60) (gv (gm_r c7 503 (upd (c7.1 503) y6.toNatClampNeg 0)) (fun (c94 : gm) => gv (y6 + 1) (fun (x95 : Int32) => some (.inl (x95, c94)))))))
def m_X10_beginsAnew_L2 (t : Nat) (y2 : Int32) (c3 : gm) : Option ((Int32 × gm) ⊕ (gm)) :=
  (if 4 ≤ y2 then some (.inr c3) else gc (gck t = 10) (gc (0 ≤ y2.toInt ∧ y2.toInt < 4) (gc (0 ≤ y2.toInt ∧ y2.toInt < 4) (gv (gm_r c3 59 (upd (c3.1 59) y2.toNatClampNeg (c3.1 58 y2.toNatClampNeg))) (fun (c107 : gm) => gv (y2 + 1) (fun (x108 : Int32) => some (.inl (x108, c107))))))))
def m_X10_beginsAnew (n : Nat) (t : Nat) (c : gm) : Option (gm) :=
  gb (gloop (gu2 (fun (y2 : Int32) (c3 : gm) => m_X10_beginsAnew_L2 t y2 c3)) n (0, c)) (fun (c4 : gm) => gb (gloop (gu2 (fun (y6 : Int32) (c7 : gm) => m_X10_beginsAnew_L27 t y6 c7)) n (0, c4)) (fun (c8 : gm) => gb (gloop (gu2 (fun (y10 : Int32) (c11 : gm) => m_X10_beginsAnew_L48 t y10 c11)) n (0, c8)) (fun (c12 : gm) => gc (gck t = 10) (gb (m_X10_lays n 62 73 (c12.1 59 (1 : Int32).toNatClampNeg) c12) (fun (c27 : gm) => gb (gloop (gu2 (fun (y29 : Int32) (c30 : gm) => m_X10_beginsAnew_L109 n y29 c30)) n (0, c27)) (fun (c31 : gm) => gv (gm_r c31 503 (upd (c31.1 503) (56 : Int32).toNatClampNeg (c31.1 59 (1 : Int32).toNatClampNeg))) (fun (c37 : gm) => gv (gm_r c37 503 (upd (c37.1 503) (57 : Int32).toNatClampNeg (c37.1 59 (2 : Int32).toNatClampNeg))) (fun (c40 : gm) => gv (gm_r c40 t (upd (c40.1 t) 17 0)) (fun (c41 : gm) => gv (gm_r c41 t (upd (c41.1 t) 32 0)) (fun (c42 : gm) => gv (gm_r c42 t (upd (c42.1 t) 33 0)) (fun (c43 : gm) => gv (gm_r c43 t (upd (c43.1 t) 34 0)) (fun (c44 : gm) => gv (gm_r c44 t (upd (c44.1 t) 35 0)) (fun (c45 : gm) => some c45)))))))))))))
abbrev rmX10_beginsAnew : Room := { frames := 1, cells := 0, slots := 0, locals := 24 }
set_option maxHeartbeats 4000000 in
set_option maxRecDepth 100000 in
theorem c_X10_beginsAnew (l : Launch) (sa : gSa) (D : va_G) (ad : Nat → Nat) (cy : Nat → ClassId) (N sz : Nat) (hN : 530 ≤ N) (hI : gI ad N) (c0 c : gm) {n : Nat} {t : Nat} {cZ : gm} (h : m_X10_beginsAnew n t c = some cZ) : Met l yX10_beginsAnew wsX10_beginsAnew rmX10_beginsAnew (va_Pc [.ref (ad t)] (gP sa D ad cy N sz c0 c)) (va_Qv (fun (_ : Unit) => True) (fun _ U => gE D ad cy N c0 cZ U) (gA ad N sz)) 0 0 (gA ad N sz) := by
  refine Met.ofW (cc := cX10_beginsAnew) (maxL := 3) (ret := none) (by decide) rfl ?_
  intro p e s m args below meth cod s₁ B hml hv
  obtain ⟨rfl, hsz, hP, hK, hZ⟩ := hv
  have hx := B.exec
  have hb := B.bytes
  have hr := B.returns
  have hts := atoms_spec (ws := wsX10_beginsAnew) B.pre
  have hown : s.vm.findClass RX10 = some m.cls := findClass_of_methodNamed B.named
  have hlocks := B.notSynchronized
  subst hsz
  have hl := lv_entry ([.ref (ad t)]) (n := 3) (Nat.le_of_ble_eq_true rfl)
  rw [lg_entry_eq]
  generalize (lg_sl ([.ref (ad t)]) ++ List.replicate (3 - (lg_sl ([.ref (ad t)])).length) Slot.unset).toArray = ls at hl ⊢
  have hl : lv_has ls 3 [(0, .ref (ad t))] := hl
  have in10 : ∀ w ∈ wsX100, w ∈ wsX10_beginsAnew := by decide +kernel
  generalize hargs : ([.ref (ad t)] : List Value).toArray = args at *
  generalize hAe : gA ad N s.heap.size = A
  have F : gF sa D ad cy N A p s m args cod cX10_beginsAnew 3 wsX10_beginsAnew RX10 := ⟨hx, hb, hml, hown, hts, hK, hI, by rw [← hAe]; exact gA_ad, by rw [← hAe]; exact gA_sz, by rw [← hAe]; exact hZ⟩
  have G : gW D ad cy N A s.heap c0 c s.heap [] := ⟨hP, va_S.rf⟩
  generalize hQ : MQ below (va_Qv (fun (_ : Unit) => True) (fun _ U => gE D ad cy N c0 cZ U) A) args s 0 0 A = Q
  suffices hgen : ∀ (H : Heap) (locs : List Loc), gW D ad cy N A s.heap c0 c H locs → W p l e rmX10_beginsAnew s m args below meth cod H locs 0 0 Q (F0 m 0 ls []) from hgen _ _ G
  clear G
  intro H locs G
  unfold m_X10_beginsAnew at h
  refine lv_iconst (v := 0) hx hb dX10_beginsAnew_0 (by decide) ?_
  refine lv_istore_n (lv' := [(1, .int 0), (0, .ref (ad t))]) hx hb dX10_beginsAnew_1 rfl hl (by decide) rfl (fun ls hl => ?_)
  obtain ⟨b1, hb1, hK1⟩ := gb_s h
  have E1 : ∀ (c4 : gm) (H : Heap) (locs : List Loc) (ls : Array Slot), (c4 : gm) = b1 → gW D ad cy N A s.heap c0 c4 H locs → lv_has ls 3 [(0, .ref (ad t))] → W p l e rmX10_beginsAnew s m args below meth cod H locs 0 0 Q (F0 m 25 ls []) := by
    intro c4 H locs ls hq1 G hl
    subst hq1
    replace hK1 := hK1
    have h := hK1
    refine lv_iconst (v := 0) hx hb dX10_beginsAnew_25 (by decide) ?_
    refine lv_istore_n (lv' := [(1, .int 0), (0, .ref (ad t))]) hx hb dX10_beginsAnew_26 rfl hl (by decide) rfl (fun ls hl => ?_)
    obtain ⟨b5, hb5, hK5⟩ := gb_s h
    have E5 : ∀ (c8 : gm) (H : Heap) (locs : List Loc) (ls : Array Slot), (c8 : gm) = b5 → gW D ad cy N A s.heap c0 c8 H locs → lv_has ls 3 [(0, .ref (ad t))] → W p l e rmX10_beginsAnew s m args below meth cod H locs 0 0 Q (F0 m 46 ls []) := by
      intro c8 H locs ls hq5 G hl
      subst hq5
      replace hK5 := hK5
      have h := hK5
      refine lv_iconst (v := 0) hx hb dX10_beginsAnew_46 (by decide) ?_
      refine lv_istore_n (lv' := [(1, .int 0), (0, .ref (ad t))]) hx hb dX10_beginsAnew_47 rfl hl (by decide) rfl (fun ls hl => ?_)
      obtain ⟨b9, hb9, hK9⟩ := gb_s h
      have E9 : ∀ (c12 : gm) (H : Heap) (locs : List Loc) (ls : Array Slot), (c12 : gm) = b9 → gW D ad cy N A s.heap c0 c12 H locs → lv_has ls 3 [(0, .ref (ad t))] → W p l e rmX10_beginsAnew s m args below meth cod H locs 0 0 Q (F0 m 90 ls []) := by
        intro c12 H locs ls hq9 G hl
        subst hq9
        replace hK9 := hK9
        have h := hK9
        refine lv_aload_n hx hb dX10_beginsAnew_90 rfl (lv_at hl 0 rfl) ?_
        obtain ⟨hk13, h⟩ := gc_s h
        have ht14 : t < N := Nat.lt_of_lt_of_le (gck_lt10 hk13) hN
        refine fg_10_readCry F G hk13 ht14 in10 (by decide +kernel) dX10_beginsAnew_91 ?_
        have hk15 : gck 62 = 25 := rfl
        have ht16 : 62 < N := Nat.lt_of_lt_of_le (by decide) hN
        have hn17 : gal 62 = 10 := rfl
        refine lv_aload_n hx hb dX10_beginsAnew_94 rfl (lv_at hl 0 rfl) ?_
        refine fg_10_cry F G hk13 ht14 in10 (by decide +kernel) dX10_beginsAnew_95 ?_
        have hk18 : gck 73 = 25 := rfl
        have ht19 : 73 < N := Nat.lt_of_lt_of_le (by decide) hN
        have hn20 : gal 73 = 10 := rfl
        refine lv_aload_n hx hb dX10_beginsAnew_98 rfl (lv_at hl 0 rfl) ?_
        refine fg_10_told F G hk13 ht14 in10 (by decide +kernel) dX10_beginsAnew_99 ?_
        have hk21 : gck 59 = 22 := rfl
        have ht22 : 59 < N := Nat.lt_of_lt_of_le (by decide) hN
        have hn23 : gal 59 = 4 := rfl
        refine lv_iconst (v := 1) hx hb dX10_beginsAnew_102 (by decide) ?_
        refine gx_mia F G hk21 ht22 hn23 (by decide) dX10_beginsAnew_103 ?_
        obtain ⟨c27, hc25, h⟩ := gb_s h
        refine gx_callv F G (va_runS (As := [.ref (ad 62), .ref (ad 73), .int (c12.1 59 (1 : Int32).toNatClampNeg)]) (rest := []) (gx_fix F) (c_X10_lays l sa D ad cy N H.size hN hI c0 c12 hc25) (va_cwS 3 hts gX10_beginsAnew_X10_lays rfl rfl rfl (by decide +kernel) ⟨by decide, by decide⟩) (gx_pre F G) rfl rfl hl.1 rfl (lv_room (Nat.le_of_ble_eq_true rfl)) dX10_beginsAnew_104 ⟨Nat.zero_le _, Nat.zero_le _⟩) (fun H locs G => ?_)
        refine lv_iconst (v := 0) hx hb dX10_beginsAnew_107 (by decide) ?_
        refine lv_istore_n (lv' := [(1, .int 0), (0, .ref (ad t))]) hx hb dX10_beginsAnew_108 rfl hl (by decide) rfl (fun ls hl => ?_)
        obtain ⟨b28, hb28, hK28⟩ := gb_s h
        have E28 : ∀ (c31 : gm) (H : Heap) (locs : List Loc) (ls : Array Slot), (c31 : gm) = b28 → gW D ad cy N A s.heap c0 c31 H locs → lv_has ls 3 [(0, .ref (ad t))] → W p l e rmX10_beginsAnew s m args below meth cod H locs 0 0 Q (F0 m 159 ls []) := by
          intro c31 H locs ls hq28 G hl
          subst hq28
          replace hK28 := hK28
          have h := hK28
          refine lv_aload_n hx hb dX10_beginsAnew_159 rfl (lv_at hl 0 rfl) ?_
          refine fg_10_now F G hk13 ht14 in10 (by decide +kernel) dX10_beginsAnew_160 ?_
          have hk32 : gck 503 = 22 := rfl
          have ht33 : 503 < N := Nat.lt_of_lt_of_le (by decide) hN
          have hn34 : gal 503 = 60 := rfl
          refine lv_bipush (v := 56) hx hb dX10_beginsAnew_163 (by decide) ?_
          refine lv_aload_n hx hb dX10_beginsAnew_165 rfl (lv_at hl 0 rfl) ?_
          refine fg_10_told F G hk13 ht14 in10 (by decide +kernel) dX10_beginsAnew_166 ?_
          refine lv_iconst (v := 1) hx hb dX10_beginsAnew_169 (by decide) ?_
          refine gx_mia F G hk21 ht22 hn23 (by decide) dX10_beginsAnew_170 ?_
          refine gx_mis F G hk32 ht33 hn34 (by decide) dX10_beginsAnew_171 (fun H locs G => ?_)
          obtain ⟨c37, ec37⟩ : ∃ z, z = gm_r c31 503 (upd (c31.1 503) (56 : Int32).toNatClampNeg (c31.1 59 (1 : Int32).toNatClampNeg)) := ⟨_, rfl⟩
          rw [← ec37] at G
          replace h := gv_s h c37 ec37
          refine lv_aload_n hx hb dX10_beginsAnew_172 rfl (lv_at hl 0 rfl) ?_
          refine fg_10_now F G hk13 ht14 in10 (by decide +kernel) dX10_beginsAnew_173 ?_
          refine lv_bipush (v := 57) hx hb dX10_beginsAnew_176 (by decide) ?_
          refine lv_aload_n hx hb dX10_beginsAnew_178 rfl (lv_at hl 0 rfl) ?_
          refine fg_10_told F G hk13 ht14 in10 (by decide +kernel) dX10_beginsAnew_179 ?_
          refine lv_iconst (v := 2) hx hb dX10_beginsAnew_182 (by decide) ?_
          refine gx_mia F G hk21 ht22 hn23 (by decide) dX10_beginsAnew_183 ?_
          refine gx_mis F G hk32 ht33 hn34 (by decide) dX10_beginsAnew_184 (fun H locs G => ?_)
          obtain ⟨c40, ec40⟩ : ∃ z, z = gm_r c37 503 (upd (c37.1 503) (57 : Int32).toNatClampNeg (c37.1 59 (2 : Int32).toNatClampNeg)) := ⟨_, rfl⟩
          rw [← ec40] at G
          replace h := gv_s h c40 ec40
          refine lv_aload_n hx hb dX10_beginsAnew_185 rfl (lv_at hl 0 rfl) ?_
          refine lv_iconst (v := 0) hx hb dX10_beginsAnew_186 (by decide) ?_
          refine fp_10_lawMany F G hk13 ht14 in10 (by decide +kernel) dX10_beginsAnew_187 (fun H locs G => ?_)
          obtain ⟨c41, ec41⟩ : ∃ z, z = gm_r c40 t (upd (c40.1 t) 17 0) := ⟨_, rfl⟩
          rw [← ec41] at G
          replace h := gv_s h c41 ec41
          refine lv_aload_n hx hb dX10_beginsAnew_190 rfl (lv_at hl 0 rfl) ?_
          refine lv_iconst (v := 0) hx hb dX10_beginsAnew_191 (by decide) ?_
          refine fp_10_lines F G hk13 ht14 in10 (by decide +kernel) dX10_beginsAnew_192 (fun H locs G => ?_)
          obtain ⟨c42, ec42⟩ : ∃ z, z = gm_r c41 t (upd (c41.1 t) 32 0) := ⟨_, rfl⟩
          rw [← ec42] at G
          replace h := gv_s h c42 ec42
          refine lv_aload_n hx hb dX10_beginsAnew_195 rfl (lv_at hl 0 rfl) ?_
          refine lv_iconst (v := 0) hx hb dX10_beginsAnew_196 (by decide) ?_
          refine fp_10_works F G hk13 ht14 in10 (by decide +kernel) dX10_beginsAnew_197 (fun H locs G => ?_)
          obtain ⟨c43, ec43⟩ : ∃ z, z = gm_r c42 t (upd (c42.1 t) 33 0) := ⟨_, rfl⟩
          rw [← ec43] at G
          replace h := gv_s h c43 ec43
          refine lv_aload_n hx hb dX10_beginsAnew_200 rfl (lv_at hl 0 rfl) ?_
          refine lv_iconst (v := 0) hx hb dX10_beginsAnew_201 (by decide) ?_
          refine fp_10_refusedSteps F G hk13 ht14 in10 (by decide +kernel) dX10_beginsAnew_202 (fun H locs G => ?_)
          obtain ⟨c44, ec44⟩ : ∃ z, z = gm_r c43 t (upd (c43.1 t) 34 0) := ⟨_, rfl⟩
          rw [← ec44] at G
          replace h := gv_s h c44 ec44
          refine lv_aload_n hx hb dX10_beginsAnew_205 rfl (lv_at hl 0 rfl) ?_
          refine lv_iconst (v := 0) hx hb dX10_beginsAnew_206 (by decide) ?_
          refine fp_10_images F G hk13 ht14 in10 (by decide +kernel) dX10_beginsAnew_207 (fun H locs G => ?_)
          obtain ⟨c45, ec45⟩ : ∃ z, z = gm_r c44 t (upd (c44.1 t) 35 0) := ⟨_, rfl⟩
          rw [← ec45] at G
          replace h := gv_s h c45 ec45
          cases h
          rw [← hQ]
          exact gx_vret F G hr hlocks dX10_beginsAnew_210
        have L28 : ∀ (n9 : Nat) (y29 : Int32) (c30 : gm) (H : Heap) (locs : List Loc) (ls : Array Slot), gloop (gu2 (fun (y29 : Int32) (c30 : gm) => m_X10_beginsAnew_L109 n y29 c30)) n9 (y29, c30) = some b28 → gW D ad cy N A s.heap c0 c30 H locs → lv_has ls 3 [(0, .ref (ad t)), (1, .int y29)] → W p l e rmX10_beginsAnew s m args below meth cod H locs 0 0 Q (F0 m 109 ls []) := by
          intro n9
          induction n9 with
          | zero => intro y29 c30 H locs ls h; exact (gloop_0 h).elim
          | succ n9 ih =>
            intro y29 c30 H locs ls h G hl
            have ih28 := ih
            obtain ⟨o28, h, hn28⟩ := gloop_s h
            replace h := gu2_s h
            unfold m_X10_beginsAnew_L109 at h
            refine lv_iload_n hx hb dX10_beginsAnew_109 rfl (lv_at hl 1 rfl) ?_
            refine lv_aload_n hx hb dX10_beginsAnew_110 rfl (lv_at hl 0 rfl) ?_
            refine fg_10_told F G hk13 ht14 in10 (by decide +kernel) dX10_beginsAnew_111 ?_
            refine lv_iconst (v := 1) hx hb dX10_beginsAnew_114 (by decide) ?_
            refine gx_mia F G hk21 ht22 hn23 (by decide) dX10_beginsAnew_115 ?_
            refine lv_icmp_ge (tgt := 159) hx hb dX10_beginsAnew_116 (by decide) (fun q47 => ?_) (fun q47 => ?_)
            · replace h := gt_s q47 h
              cases h
              exact E28 _ _ _ _ (gnx_r hn28) G (lv_sub hl [0] rfl)
            · replace h := gf_s q47 h
              refine lv_iconst (v := 0) hx hb dX10_beginsAnew_119 (by decide) ?_
              refine lv_istore_n (lv' := [(2, .int 0), (0, .ref (ad t)), (1, .int y29)]) hx hb dX10_beginsAnew_120 rfl hl (by decide) rfl (fun ls hl => ?_)
              obtain ⟨b48, hb48, hK48⟩ := gb_s h
              have E48 : ∀ (c51 : gm) (H : Heap) (locs : List Loc) (ls : Array Slot), (c51 : gm) = b48 → gW D ad cy N A s.heap c0 c51 H locs → lv_has ls 3 [(0, .ref (ad t)), (1, .int y29)] → W p l e rmX10_beginsAnew s m args below meth cod H locs 0 0 Q (F0 m 153 ls []) := by
                intro c51 H locs ls hq48 G hl
                subst hq48
                replace hK48 := hK48
                have h := hK48
                obtain ⟨x52, ex52⟩ : ∃ z : Int32, z = y29 + 1 := ⟨_, rfl⟩
                replace h := gv_s h x52 ex52
                refine lv_iinc (v := x52) (lv' := [(1, .int x52), (0, .ref (ad t))]) hx hb dX10_beginsAnew_153 hl (k := 1) rfl (by rw [ex52]; rfl) (by decide) rfl (fun ls hl => ?_)
                refine lv_goto (tgt := 109) hx hb dX10_beginsAnew_156 (by decide) ?_
                cases h
                exact ih28 _ _ _ _ _ hn28 G (lv_sub hl [1, 0] rfl)
              have L48 : ∀ (n9 : Nat) (y49 : Int32) (c50 : gm) (H : Heap) (locs : List Loc) (ls : Array Slot), gloop (gu2 (fun (y49 : Int32) (c50 : gm) => m_X10_beginsAnew_L121 y29 y49 c50)) n9 (y49, c50) = some b48 → gW D ad cy N A s.heap c0 c50 H locs → lv_has ls 3 [(0, .ref (ad t)), (1, .int y29), (2, .int y49)] → W p l e rmX10_beginsAnew s m args below meth cod H locs 0 0 Q (F0 m 121 ls []) := by
                intro n9
                induction n9 with
                | zero => intro y49 c50 H locs ls h; exact (gloop_0 h).elim
                | succ n9 ih =>
                  intro y49 c50 H locs ls h G hl
                  have ih48 := ih
                  obtain ⟨o48, h, hn48⟩ := gloop_s h
                  replace h := gu2_s h
                  unfold m_X10_beginsAnew_L121 at h
                  refine lv_iload_n hx hb dX10_beginsAnew_121 rfl (lv_at hl 2 rfl) ?_
                  refine lv_iconst (v := 4) hx hb dX10_beginsAnew_122 (by decide) ?_
                  refine lv_icmp_ge (tgt := 153) hx hb dX10_beginsAnew_123 (by decide) (fun q53 => ?_) (fun q53 => ?_)
                  · replace h := gt_s q53 h
                    cases h
                    exact E48 _ _ _ _ (gnx_r hn48) G (lv_sub hl [0, 1] rfl)
                  · replace h := gf_s q53 h
                    refine lv_aload_n hx hb dX10_beginsAnew_126 rfl (lv_at hl 0 rfl) ?_
                    refine fg_10_now F G hk13 ht14 in10 (by decide +kernel) dX10_beginsAnew_127 ?_
                    have hk54 : gck 503 = 22 := rfl
                    have ht55 : 503 < N := Nat.lt_of_lt_of_le (by decide) hN
                    have hn56 : gal 503 = 60 := rfl
                    refine lv_bipush (v := 16) hx hb dX10_beginsAnew_130 (by decide) ?_
                    refine lv_iconst (v := 4) hx hb dX10_beginsAnew_132 (by decide) ?_
                    refine lv_iload_n hx hb dX10_beginsAnew_133 rfl (lv_at hl 1 rfl) ?_
                    refine lv_imul hx hb dX10_beginsAnew_134 ?_
                    refine lv_iadd hx hb dX10_beginsAnew_135 ?_
                    refine lv_iload_n hx hb dX10_beginsAnew_136 rfl (lv_at hl 2 rfl) ?_
                    refine lv_iadd hx hb dX10_beginsAnew_137 ?_
                    refine lv_aload_n hx hb dX10_beginsAnew_138 rfl (lv_at hl 0 rfl) ?_
                    refine fg_10_cry F G hk13 ht14 in10 (by decide +kernel) dX10_beginsAnew_139 ?_
                    refine lv_iload_n hx hb dX10_beginsAnew_142 rfl (lv_at hl 1 rfl) ?_
                    obtain ⟨hi57, h⟩ := gc_s h
                    refine gx_mga F G hk18 ht19 hn20 hi57 dX10_beginsAnew_143 ?_
                    refine lv_iload_n hx hb dX10_beginsAnew_144 rfl (lv_at hl 2 rfl) ?_
                    obtain ⟨hk58, h⟩ := gc_s h
                    have ht59 : (73 + 1 + y29.toNatClampNeg) < N := Nat.lt_of_lt_of_le (gck_lt22 hk58) hN
                    obtain ⟨hi60, h⟩ := gc_s h
                    refine gx_mia F G hk58 ht59 rfl hi60 dX10_beginsAnew_145 ?_
                    obtain ⟨hi61, h⟩ := gc_s h
                    refine gx_mis F G hk54 ht55 hn56 hi61 dX10_beginsAnew_146 (fun H locs G => ?_)
                    obtain ⟨c62, ec62⟩ : ∃ z, z = gm_r c50 503 (upd (c50.1 503) ((16 + (4 * y29)) + y49).toNatClampNeg (c50.1 (73 + 1 + y29.toNatClampNeg) y49.toNatClampNeg)) := ⟨_, rfl⟩
                    rw [← ec62] at G
                    replace h := gv_s h c62 ec62
                    obtain ⟨x63, ex63⟩ : ∃ z : Int32, z = y49 + 1 := ⟨_, rfl⟩
                    replace h := gv_s h x63 ex63
                    refine lv_iinc (v := x63) (lv' := [(2, .int x63), (0, .ref (ad t)), (1, .int y29)]) hx hb dX10_beginsAnew_147 hl (k := 2) rfl (by rw [ex63]; rfl) (by decide) rfl (fun ls hl => ?_)
                    refine lv_goto (tgt := 121) hx hb dX10_beginsAnew_150 (by decide) ?_
                    cases h
                    exact ih48 _ _ _ _ _ hn48 G (lv_sub hl [1, 2, 0] rfl)
              exact L48 n _ _ _ _ _ hb48 G (lv_sub hl [1, 2, 0] rfl)
        exact L28 n _ _ _ _ _ hb28 G (lv_sub hl [1, 0] rfl)
      have L9 : ∀ (n9 : Nat) (y10 : Int32) (c11 : gm) (H : Heap) (locs : List Loc) (ls : Array Slot), gloop (gu2 (fun (y10 : Int32) (c11 : gm) => m_X10_beginsAnew_L48 t y10 c11)) n9 (y10, c11) = some b9 → gW D ad cy N A s.heap c0 c11 H locs → lv_has ls 3 [(0, .ref (ad t)), (1, .int y10)] → W p l e rmX10_beginsAnew s m args below meth cod H locs 0 0 Q (F0 m 48 ls []) := by
        intro n9
        induction n9 with
        | zero => intro y10 c11 H locs ls h; exact (gloop_0 h).elim
        | succ n9 ih =>
          intro y10 c11 H locs ls h G hl
          have ih9 := ih
          obtain ⟨o9, h, hn9⟩ := gloop_s h
          replace h := gu2_s h
          unfold m_X10_beginsAnew_L48 at h
          refine lv_iload_n hx hb dX10_beginsAnew_48 rfl (lv_at hl 1 rfl) ?_
          refine lv_aload_n hx hb dX10_beginsAnew_49 rfl (lv_at hl 0 rfl) ?_
          obtain ⟨hk64, h⟩ := gc_s h
          have ht65 : t < N := Nat.lt_of_lt_of_le (gck_lt10 hk64) hN
          refine fg_10_told F G hk64 ht65 in10 (by decide +kernel) dX10_beginsAnew_50 ?_
          have hk66 : gck 59 = 22 := rfl
          have ht67 : 59 < N := Nat.lt_of_lt_of_le (by decide) hN
          have hn68 : gal 59 = 4 := rfl
          refine lv_iconst (v := 0) hx hb dX10_beginsAnew_53 (by decide) ?_
          refine gx_mia F G hk66 ht67 hn68 (by decide) dX10_beginsAnew_54 ?_
          refine lv_icmp_ge (tgt := 90) hx hb dX10_beginsAnew_55 (by decide) (fun q70 => ?_) (fun q70 => ?_)
          · replace h := gt_s q70 h
            cases h
            exact E9 _ _ _ _ (gnx_r hn9) G (lv_sub hl [0] rfl)
          · replace h := gf_s q70 h
            refine lv_aload_n hx hb dX10_beginsAnew_58 rfl (lv_at hl 0 rfl) ?_
            refine fg_10_weight F G hk64 ht65 in10 (by decide +kernel) dX10_beginsAnew_59 ?_
            have hk71 : gck 61 = 22 := rfl
            have ht72 : 61 < N := Nat.lt_of_lt_of_le (by decide) hN
            have hn73 : gal 61 = 8 := rfl
            refine lv_iload_n hx hb dX10_beginsAnew_62 rfl (lv_at hl 1 rfl) ?_
            refine lv_aload_n hx hb dX10_beginsAnew_63 rfl (lv_at hl 0 rfl) ?_
            refine fg_10_readWeight F G hk64 ht65 in10 (by decide +kernel) dX10_beginsAnew_64 ?_
            have hk74 : gck 60 = 22 := rfl
            have ht75 : 60 < N := Nat.lt_of_lt_of_le (by decide) hN
            have hn76 : gal 60 = 8 := rfl
            refine lv_iload_n hx hb dX10_beginsAnew_67 rfl (lv_at hl 1 rfl) ?_
            obtain ⟨hi77, h⟩ := gc_s h
            refine gx_mia F G hk74 ht75 hn76 hi77 dX10_beginsAnew_68 ?_
            obtain ⟨hi78, h⟩ := gc_s h
            refine gx_mis F G hk71 ht72 hn73 hi78 dX10_beginsAnew_69 (fun H locs G => ?_)
            obtain ⟨c79, ec79⟩ : ∃ z, z = gm_r c11 61 (upd (c11.1 61) y10.toNatClampNeg (c11.1 60 y10.toNatClampNeg)) := ⟨_, rfl⟩
            rw [← ec79] at G
            replace h := gv_s h c79 ec79
            refine lv_aload_n hx hb dX10_beginsAnew_70 rfl (lv_at hl 0 rfl) ?_
            refine fg_10_now F G hk64 ht65 in10 (by decide +kernel) dX10_beginsAnew_71 ?_
            have hk80 : gck 503 = 22 := rfl
            have ht81 : 503 < N := Nat.lt_of_lt_of_le (by decide) hN
            have hn82 : gal 503 = 60 := rfl
            refine lv_iconst (v := 0) hx hb dX10_beginsAnew_74 (by decide) ?_
            refine lv_iload_n hx hb dX10_beginsAnew_75 rfl (lv_at hl 1 rfl) ?_
            refine lv_iadd hx hb dX10_beginsAnew_76 ?_
            refine lv_aload_n hx hb dX10_beginsAnew_77 rfl (lv_at hl 0 rfl) ?_
            refine fg_10_weight F G hk64 ht65 in10 (by decide +kernel) dX10_beginsAnew_78 ?_
            refine lv_iload_n hx hb dX10_beginsAnew_81 rfl (lv_at hl 1 rfl) ?_
            obtain ⟨hi83, h⟩ := gc_s h
            refine gx_mia F G hk71 ht72 hn73 hi83 dX10_beginsAnew_82 ?_
            obtain ⟨hi84, h⟩ := gc_s h
            refine gx_mis F G hk80 ht81 hn82 hi84 dX10_beginsAnew_83 (fun H locs G => ?_)
            obtain ⟨c85, ec85⟩ : ∃ z, z = gm_r c79 503 (upd (c79.1 503) (0 + y10).toNatClampNeg (c79.1 61 y10.toNatClampNeg)) := ⟨_, rfl⟩
            rw [← ec85] at G
            replace h := gv_s h c85 ec85
            obtain ⟨x86, ex86⟩ : ∃ z : Int32, z = y10 + 1 := ⟨_, rfl⟩
            replace h := gv_s h x86 ex86
            refine lv_iinc (v := x86) (lv' := [(1, .int x86), (0, .ref (ad t))]) hx hb dX10_beginsAnew_84 hl (k := 1) rfl (by rw [ex86]; rfl) (by decide) rfl (fun ls hl => ?_)
            refine lv_goto (tgt := 48) hx hb dX10_beginsAnew_87 (by decide) ?_
            cases h
            exact ih9 _ _ _ _ _ hn9 G (lv_sub hl [1, 0] rfl)
      exact L9 n _ _ _ _ _ hb9 G (lv_sub hl [1, 0] rfl)
    have L5 : ∀ (n9 : Nat) (y6 : Int32) (c7 : gm) (H : Heap) (locs : List Loc) (ls : Array Slot), gloop (gu2 (fun (y6 : Int32) (c7 : gm) => m_X10_beginsAnew_L27 t y6 c7)) n9 (y6, c7) = some b5 → gW D ad cy N A s.heap c0 c7 H locs → lv_has ls 3 [(0, .ref (ad t)), (1, .int y6)] → W p l e rmX10_beginsAnew s m args below meth cod H locs 0 0 Q (F0 m 27 ls []) := by
      intro n9
      induction n9 with
      | zero => intro y6 c7 H locs ls h; exact (gloop_0 h).elim
      | succ n9 ih =>
        intro y6 c7 H locs ls h G hl
        have ih5 := ih
        obtain ⟨o5, h, hn5⟩ := gloop_s h
        replace h := gu2_s h
        unfold m_X10_beginsAnew_L27 at h
        refine lv_iload_n hx hb dX10_beginsAnew_27 rfl (lv_at hl 1 rfl) ?_
        refine lv_bipush (v := 60) hx hb dX10_beginsAnew_28 (by decide) ?_
        refine lv_icmp_ge (tgt := 46) hx hb dX10_beginsAnew_30 (by decide) (fun q87 => ?_) (fun q87 => ?_)
        · replace h := gt_s q87 h
          cases h
          exact E5 _ _ _ _ (gnx_r hn5) G (lv_sub hl [0] rfl)
        · replace h := gf_s q87 h
          refine lv_aload_n hx hb dX10_beginsAnew_33 rfl (lv_at hl 0 rfl) ?_
          obtain ⟨hk88, h⟩ := gc_s h
          have ht89 : t < N := Nat.lt_of_lt_of_le (gck_lt10 hk88) hN
          refine fg_10_now F G hk88 ht89 in10 (by decide +kernel) dX10_beginsAnew_34 ?_
          have hk90 : gck 503 = 22 := rfl
          have ht91 : 503 < N := Nat.lt_of_lt_of_le (by decide) hN
          have hn92 : gal 503 = 60 := rfl
          refine lv_iload_n hx hb dX10_beginsAnew_37 rfl (lv_at hl 1 rfl) ?_
          refine lv_iconst (v := 0) hx hb dX10_beginsAnew_38 (by decide) ?_
          obtain ⟨hi93, h⟩ := gc_s h
          refine gx_mis F G hk90 ht91 hn92 hi93 dX10_beginsAnew_39 (fun H locs G => ?_)
          obtain ⟨c94, ec94⟩ : ∃ z, z = gm_r c7 503 (upd (c7.1 503) y6.toNatClampNeg 0) := ⟨_, rfl⟩
          rw [← ec94] at G
          replace h := gv_s h c94 ec94
          obtain ⟨x95, ex95⟩ : ∃ z : Int32, z = y6 + 1 := ⟨_, rfl⟩
          replace h := gv_s h x95 ex95
          refine lv_iinc (v := x95) (lv' := [(1, .int x95), (0, .ref (ad t))]) hx hb dX10_beginsAnew_40 hl (k := 1) rfl (by rw [ex95]; rfl) (by decide) rfl (fun ls hl => ?_)
          refine lv_goto (tgt := 27) hx hb dX10_beginsAnew_43 (by decide) ?_
          cases h
          exact ih5 _ _ _ _ _ hn5 G (lv_sub hl [1, 0] rfl)
    exact L5 n _ _ _ _ _ hb5 G (lv_sub hl [1, 0] rfl)
  have L1 : ∀ (n9 : Nat) (y2 : Int32) (c3 : gm) (H : Heap) (locs : List Loc) (ls : Array Slot), gloop (gu2 (fun (y2 : Int32) (c3 : gm) => m_X10_beginsAnew_L2 t y2 c3)) n9 (y2, c3) = some b1 → gW D ad cy N A s.heap c0 c3 H locs → lv_has ls 3 [(0, .ref (ad t)), (1, .int y2)] → W p l e rmX10_beginsAnew s m args below meth cod H locs 0 0 Q (F0 m 2 ls []) := by
    intro n9
    induction n9 with
    | zero => intro y2 c3 H locs ls h; exact (gloop_0 h).elim
    | succ n9 ih =>
      intro y2 c3 H locs ls h G hl
      have ih1 := ih
      obtain ⟨o1, h, hn1⟩ := gloop_s h
      replace h := gu2_s h
      unfold m_X10_beginsAnew_L2 at h
      refine lv_iload_n hx hb dX10_beginsAnew_2 rfl (lv_at hl 1 rfl) ?_
      refine lv_iconst (v := 4) hx hb dX10_beginsAnew_3 (by decide) ?_
      refine lv_icmp_ge (tgt := 25) hx hb dX10_beginsAnew_4 (by decide) (fun q96 => ?_) (fun q96 => ?_)
      · replace h := gt_s q96 h
        cases h
        exact E1 _ _ _ _ (gnx_r hn1) G (lv_sub hl [0] rfl)
      · replace h := gf_s q96 h
        refine lv_aload_n hx hb dX10_beginsAnew_7 rfl (lv_at hl 0 rfl) ?_
        obtain ⟨hk97, h⟩ := gc_s h
        have ht98 : t < N := Nat.lt_of_lt_of_le (gck_lt10 hk97) hN
        refine fg_10_told F G hk97 ht98 in10 (by decide +kernel) dX10_beginsAnew_8 ?_
        have hk99 : gck 59 = 22 := rfl
        have ht100 : 59 < N := Nat.lt_of_lt_of_le (by decide) hN
        have hn101 : gal 59 = 4 := rfl
        refine lv_iload_n hx hb dX10_beginsAnew_11 rfl (lv_at hl 1 rfl) ?_
        refine lv_aload_n hx hb dX10_beginsAnew_12 rfl (lv_at hl 0 rfl) ?_
        refine fg_10_readTold F G hk97 ht98 in10 (by decide +kernel) dX10_beginsAnew_13 ?_
        have hk102 : gck 58 = 22 := rfl
        have ht103 : 58 < N := Nat.lt_of_lt_of_le (by decide) hN
        have hn104 : gal 58 = 4 := rfl
        refine lv_iload_n hx hb dX10_beginsAnew_16 rfl (lv_at hl 1 rfl) ?_
        obtain ⟨hi105, h⟩ := gc_s h
        refine gx_mia F G hk102 ht103 hn104 hi105 dX10_beginsAnew_17 ?_
        obtain ⟨hi106, h⟩ := gc_s h
        refine gx_mis F G hk99 ht100 hn101 hi106 dX10_beginsAnew_18 (fun H locs G => ?_)
        obtain ⟨c107, ec107⟩ : ∃ z, z = gm_r c3 59 (upd (c3.1 59) y2.toNatClampNeg (c3.1 58 y2.toNatClampNeg)) := ⟨_, rfl⟩
        rw [← ec107] at G
        replace h := gv_s h c107 ec107
        obtain ⟨x108, ex108⟩ : ∃ z : Int32, z = y2 + 1 := ⟨_, rfl⟩
        replace h := gv_s h x108 ex108
        refine lv_iinc (v := x108) (lv' := [(1, .int x108), (0, .ref (ad t))]) hx hb dX10_beginsAnew_19 hl (k := 1) rfl (by rw [ex108]; rfl) (by decide) rfl (fun ls hl => ?_)
        refine lv_goto (tgt := 2) hx hb dX10_beginsAnew_22 (by decide) ?_
        cases h
        exact ih1 _ _ _ _ _ hn1 G (lv_sub hl [1, 0] rfl)
  exact L1 n _ _ _ _ _ hb1 G (lv_sub hl [1, 0] rfl)
def m_X10_thrown (t : Nat) (c : gm) : Option (Int32) :=
  gc (gck t = 10) (some (c.1 t 0))
abbrev rmX10_thrown : Room := { frames := 0, cells := 0, slots := 0, locals := 0 }
set_option maxHeartbeats 4000000 in
set_option maxRecDepth 100000 in
theorem c_X10_thrown (l : Launch) (sa : gSa) (D : va_G) (ad : Nat → Nat) (cy : Nat → ClassId) (N sz : Nat) (hN : 530 ≤ N) (hI : gI ad N) (c0 c : gm) {t : Nat} {rZ : Int32} (h : m_X10_thrown t c = some rZ) : Met l yX10_thrown wsX10_thrown rmX10_thrown (va_Pc [.ref (ad t)] (gP sa D ad cy N sz c0 c)) (va_Qi (fun (z : Int32) (_ : Unit) => z = rZ) (fun _ U => gE D ad cy N c0 c U) (gA ad N sz)) 0 0 (gA ad N sz) := by
  refine Met.ofW (cc := cX10_thrown) (maxL := 1) (ret := (some .int)) (by decide) rfl ?_
  intro p e s m args below meth cod s₁ B hml hv
  obtain ⟨rfl, hsz, hP, hK, hZ⟩ := hv
  have hx := B.exec
  have hb := B.bytes
  have hr := B.returns
  have hts := atoms_spec (ws := wsX10_thrown) B.pre
  have hown : s.vm.findClass RX10 = some m.cls := findClass_of_methodNamed B.named
  have hlocks := B.notSynchronized
  subst hsz
  have hl := lv_entry ([.ref (ad t)]) (n := 1) (Nat.le_of_ble_eq_true rfl)
  rw [lg_entry_eq]
  generalize (lg_sl ([.ref (ad t)]) ++ List.replicate (1 - (lg_sl ([.ref (ad t)])).length) Slot.unset).toArray = ls at hl ⊢
  have hl : lv_has ls 1 [(0, .ref (ad t))] := hl
  have in10 : ∀ w ∈ wsX100, w ∈ wsX10_thrown := by decide +kernel
  generalize hargs : ([.ref (ad t)] : List Value).toArray = args at *
  generalize hAe : gA ad N s.heap.size = A
  have F : gF sa D ad cy N A p s m args cod cX10_thrown 1 wsX10_thrown RX10 := ⟨hx, hb, hml, hown, hts, hK, hI, by rw [← hAe]; exact gA_ad, by rw [← hAe]; exact gA_sz, by rw [← hAe]; exact hZ⟩
  have G : gW D ad cy N A s.heap c0 c s.heap [] := ⟨hP, va_S.rf⟩
  generalize hQ : MQ below (va_Qi (fun (z : Int32) (_ : Unit) => z = rZ) (fun _ U => gE D ad cy N c0 c U) A) args s 0 0 A = Q
  suffices hgen : ∀ (H : Heap) (locs : List Loc), gW D ad cy N A s.heap c0 c H locs → W p l e rmX10_thrown s m args below meth cod H locs 0 0 Q (F0 m 0 ls []) from hgen _ _ G
  clear G
  intro H locs G
  unfold m_X10_thrown at h
  refine lv_aload_n hx hb dX10_thrown_0 rfl (lv_at hl 0 rfl) ?_
  obtain ⟨hk1, h⟩ := gc_s h
  have ht2 : t < N := Nat.lt_of_lt_of_le (gck_lt10 hk1) hN
  refine fg_10_thrown F G hk1 ht2 in10 (by decide +kernel) dX10_thrown_1 ?_
  cases h
  rw [← hQ]
  exact gx_iret F G hr hlocks dX10_thrown_4
def m_X10_bad (t : Nat) (a1 : Int32) (a2 : Int32) (a3 : Int32) (c : gm) : Option (Int32 × gm) :=
  gj (fun (c1 : gm) => gc (gck t = 10) ((if (c1.1 t 0) = 0 then some (0, c1) else some (1, c1)))) (fun K2 => (if a1 = 0 then K2 c else gc (gck t = 10) ((if (c.1 t 0) = 0 then gv (gm_r c t (upd (c.1 t) 0 a2)) (fun (c10 : gm) => gc (0 ≤ a3.toInt ∧ a3.toInt < 2) (gc (0 ≤ a3.toInt ∧ a3.toInt < 2) (gv (gm_r c10 57 (upd (c10.1 57) a3.toNatClampNeg ((c10.1 57 a3.toNatClampNeg) + 1))) (fun (c16 : gm) => K2 c16)))) else K2 c))))
abbrev rmX10_bad : Room := { frames := 0, cells := 0, slots := 0, locals := 0 }
set_option maxHeartbeats 4000000 in
set_option maxRecDepth 100000 in
theorem c_X10_bad (l : Launch) (sa : gSa) (D : va_G) (ad : Nat → Nat) (cy : Nat → ClassId) (N sz : Nat) (hN : 530 ≤ N) (hI : gI ad N) (c0 c : gm) {t : Nat} {a1 : Int32} {a2 : Int32} {a3 : Int32} {rZ : Int32} {cZ : gm} (h : m_X10_bad t a1 a2 a3 c = some (rZ, cZ)) : Met l yX10_bad wsX10_bad rmX10_bad (va_Pc [.ref (ad t), .int a1, .int a2, .int a3] (gP sa D ad cy N sz c0 c)) (va_Qi (fun (z : Int32) (_ : Unit) => z = rZ) (fun _ U => gE D ad cy N c0 cZ U) (gA ad N sz)) 0 0 (gA ad N sz) := by
  refine Met.ofW (cc := cX10_bad) (maxL := 4) (ret := (some .boolean)) (by decide) rfl ?_
  intro p e s m args below meth cod s₁ B hml hv
  obtain ⟨rfl, hsz, hP, hK, hZ⟩ := hv
  have hx := B.exec
  have hb := B.bytes
  have hr := B.returns
  have hts := atoms_spec (ws := wsX10_bad) B.pre
  have hown : s.vm.findClass RX10 = some m.cls := findClass_of_methodNamed B.named
  have hlocks := B.notSynchronized
  subst hsz
  have hl := lv_entry ([.ref (ad t), .int a1, .int a2, .int a3]) (n := 4) (Nat.le_of_ble_eq_true rfl)
  rw [lg_entry_eq]
  generalize (lg_sl ([.ref (ad t), .int a1, .int a2, .int a3]) ++ List.replicate (4 - (lg_sl ([.ref (ad t), .int a1, .int a2, .int a3])).length) Slot.unset).toArray = ls at hl ⊢
  have hl : lv_has ls 4 [(0, .ref (ad t)), (1, .int a1), (2, .int a2), (3, .int a3)] := hl
  have in10 : ∀ w ∈ wsX100, w ∈ wsX10_bad := by decide +kernel
  generalize hargs : ([.ref (ad t), .int a1, .int a2, .int a3] : List Value).toArray = args at *
  generalize hAe : gA ad N s.heap.size = A
  have F : gF sa D ad cy N A p s m args cod cX10_bad 4 wsX10_bad RX10 := ⟨hx, hb, hml, hown, hts, hK, hI, by rw [← hAe]; exact gA_ad, by rw [← hAe]; exact gA_sz, by rw [← hAe]; exact hZ⟩
  have G : gW D ad cy N A s.heap c0 c s.heap [] := ⟨hP, va_S.rf⟩
  generalize hQ : MQ below (va_Qi (fun (z : Int32) (_ : Unit) => z = rZ) (fun _ U => gE D ad cy N c0 cZ U) A) args s 0 0 A = Q
  suffices hgen : ∀ (H : Heap) (locs : List Loc), gW D ad cy N A s.heap c0 c H locs → W p l e rmX10_bad s m args below meth cod H locs 0 0 Q (F0 m 0 ls []) from hgen _ _ G
  clear G
  intro H locs G
  unfold m_X10_bad at h
  refine lv_iload_n hx hb dX10_bad_0 rfl (lv_at hl 1 rfl) ?_
  obtain ⟨K2, eK2, h⟩ := gj_s h
  have JK2 : ∀ (c1 : gm) (H : Heap) (locs : List Loc) (ls : Array Slot), K2 c1 = some (rZ, cZ) → gW D ad cy N A s.heap c0 c1 H locs → lv_has ls 4 [(0, .ref (ad t))] → W p l e rmX10_bad s m args below meth cod H locs 0 0 Q (F0 m 26 ls []) := by
    intro c1 H locs ls h G hl
    rw [eK2] at h
    refine lv_aload_n hx hb dX10_bad_26 rfl (lv_at hl 0 rfl) ?_
    obtain ⟨hk3, h⟩ := gc_s h
    have ht4 : t < N := Nat.lt_of_lt_of_le (gck_lt10 hk3) hN
    refine fg_10_thrown F G hk3 ht4 in10 (by decide +kernel) dX10_bad_27 ?_
    refine lv_if_eq (tgt := 37) hx hb dX10_bad_30 (by decide) (fun q5 => ?_) (fun q5 => ?_)
    · replace h := gt_s q5 h
      refine lv_iconst (v := 0) hx hb dX10_bad_37 (by decide) ?_
      cases h
      rw [← hQ]
      exact gx_zret F G hr hlocks rfl dX10_bad_38
    · replace h := gf_s q5 h
      refine lv_iconst (v := 1) hx hb dX10_bad_33 (by decide) ?_
      refine lv_goto (tgt := 38) hx hb dX10_bad_34 (by decide) ?_
      cases h
      rw [← hQ]
      exact gx_zret F G hr hlocks rfl dX10_bad_38
  refine lv_if_eq (tgt := 26) hx hb dX10_bad_1 (by decide) (fun q6 => ?_) (fun q6 => ?_)
  · replace h := gt_s q6 h
    exact JK2 _ _ _ _ h G (lv_sub hl [0] rfl)
  · replace h := gf_s q6 h
    refine lv_aload_n hx hb dX10_bad_4 rfl (lv_at hl 0 rfl) ?_
    obtain ⟨hk7, h⟩ := gc_s h
    have ht8 : t < N := Nat.lt_of_lt_of_le (gck_lt10 hk7) hN
    refine fg_10_thrown F G hk7 ht8 in10 (by decide +kernel) dX10_bad_5 ?_
    refine lv_if_ne (tgt := 26) hx hb dX10_bad_8 (by decide) (fun q9 => ?_) (fun q9 => ?_)
    · replace h := gf_s q9 h
      exact JK2 _ _ _ _ h G (lv_sub hl [0] rfl)
    · replace h := gt_s q9 h
      refine lv_aload_n hx hb dX10_bad_11 rfl (lv_at hl 0 rfl) ?_
      refine lv_iload_n hx hb dX10_bad_12 rfl (lv_at hl 2 rfl) ?_
      refine fp_10_thrown F G hk7 ht8 in10 (by decide +kernel) dX10_bad_13 (fun H locs G => ?_)
      obtain ⟨c10, ec10⟩ : ∃ z, z = gm_r c t (upd (c.1 t) 0 a2) := ⟨_, rfl⟩
      rw [← ec10] at G
      replace h := gv_s h c10 ec10
      refine lv_aload_n hx hb dX10_bad_16 rfl (lv_at hl 0 rfl) ?_
      refine fg_10_refused F G hk7 ht8 in10 (by decide +kernel) dX10_bad_17 ?_
      have hk11 : gck 57 = 22 := rfl
      have ht12 : 57 < N := Nat.lt_of_lt_of_le (by decide) hN
      have hn13 : gal 57 = 2 := rfl
      refine lv_iload_n hx hb dX10_bad_20 rfl (lv_at hl 3 rfl) ?_
      refine lv_dup2_11 hx hb dX10_bad_21 rfl rfl ?_
      obtain ⟨hi14, h⟩ := gc_s h
      refine gx_mia F G hk11 ht12 hn13 hi14 dX10_bad_22 ?_
      refine lv_iconst (v := 1) hx hb dX10_bad_23 (by decide) ?_
      refine lv_iadd hx hb dX10_bad_24 ?_
      obtain ⟨hi15, h⟩ := gc_s h
      refine gx_mis F G hk11 ht12 hn13 hi15 dX10_bad_25 (fun H locs G => ?_)
      obtain ⟨c16, ec16⟩ : ∃ z, z = gm_r c10 57 (upd (c10.1 57) a3.toNatClampNeg ((c10.1 57 a3.toNatClampNeg) + 1)) := ⟨_, rfl⟩
      rw [← ec16] at G
      replace h := gv_s h c16 ec16
      exact JK2 _ _ _ _ h G (lv_sub hl [0] rfl)
def m_X10_in (a1 : Int32) (a2 : Int32) (a3 : Int32) : Option (Int32) :=
  (if a1 < a2 then some 0 else (if a3 < a1 then some 0 else some 1))
abbrev rmX10_in : Room := { frames := 0, cells := 0, slots := 0, locals := 0 }
set_option maxHeartbeats 4000000 in
set_option maxRecDepth 100000 in
theorem c_X10_in (l : Launch) (sa : gSa) (D : va_G) (ad : Nat → Nat) (cy : Nat → ClassId) (N sz : Nat) (hN : 530 ≤ N) (hI : gI ad N) (c0 c : gm) {a1 : Int32} {a2 : Int32} {a3 : Int32} {rZ : Int32} (h : m_X10_in a1 a2 a3 = some rZ) : Met l yX10_in wsX10_in rmX10_in (va_Pc [.int a1, .int a2, .int a3] (gP sa D ad cy N sz c0 c)) (va_Qi (fun (z : Int32) (_ : Unit) => z = rZ) (fun _ U => gE D ad cy N c0 c U) (gA ad N sz)) 0 0 (gA ad N sz) := by
  refine Met.ofW (cc := cX10_in) (maxL := 3) (ret := (some .boolean)) (by decide) rfl ?_
  intro p e s m args below meth cod s₁ B hml hv
  obtain ⟨rfl, hsz, hP, hK, hZ⟩ := hv
  have hx := B.exec
  have hb := B.bytes
  have hr := B.returns
  have hts := atoms_spec (ws := wsX10_in) B.pre
  have hown : s.vm.findClass RX10 = some m.cls := findClass_of_methodNamed B.named
  have hlocks := B.notSynchronized
  subst hsz
  have hl := lv_entry ([.int a1, .int a2, .int a3]) (n := 3) (Nat.le_of_ble_eq_true rfl)
  rw [lg_entry_eq]
  generalize (lg_sl ([.int a1, .int a2, .int a3]) ++ List.replicate (3 - (lg_sl ([.int a1, .int a2, .int a3])).length) Slot.unset).toArray = ls at hl ⊢
  have hl : lv_has ls 3 [(0, .int a1), (1, .int a2), (2, .int a3)] := hl
  generalize hargs : ([.int a1, .int a2, .int a3] : List Value).toArray = args at *
  generalize hAe : gA ad N s.heap.size = A
  have F : gF sa D ad cy N A p s m args cod cX10_in 3 wsX10_in RX10 := ⟨hx, hb, hml, hown, hts, hK, hI, by rw [← hAe]; exact gA_ad, by rw [← hAe]; exact gA_sz, by rw [← hAe]; exact hZ⟩
  have G : gW D ad cy N A s.heap c0 c s.heap [] := ⟨hP, va_S.rf⟩
  generalize hQ : MQ below (va_Qi (fun (z : Int32) (_ : Unit) => z = rZ) (fun _ U => gE D ad cy N c0 c U) A) args s 0 0 A = Q
  suffices hgen : ∀ (H : Heap) (locs : List Loc), gW D ad cy N A s.heap c0 c H locs → W p l e rmX10_in s m args below meth cod H locs 0 0 Q (F0 m 0 ls []) from hgen _ _ G
  clear G
  intro H locs G
  unfold m_X10_in at h
  refine lv_iload_n hx hb dX10_in_0 rfl (lv_at hl 0 rfl) ?_
  refine lv_iload_n hx hb dX10_in_1 rfl (lv_at hl 1 rfl) ?_
  refine lv_icmp_lt (tgt := 14) hx hb dX10_in_2 (by decide) (fun q1 => ?_) (fun q1 => ?_)
  · replace h := gt_s q1 h
    refine lv_iconst (v := 0) hx hb dX10_in_14 (by decide) ?_
    cases h
    rw [← hQ]
    exact gx_zret F G hr hlocks rfl dX10_in_15
  · replace h := gf_s q1 h
    refine lv_iload_n hx hb dX10_in_5 rfl (lv_at hl 0 rfl) ?_
    refine lv_iload_n hx hb dX10_in_6 rfl (lv_at hl 2 rfl) ?_
    refine lv_icmp_gt (tgt := 14) hx hb dX10_in_7 (by decide) (fun q2 => ?_) (fun q2 => ?_)
    · replace h := gt_s q2 h
      refine lv_iconst (v := 0) hx hb dX10_in_14 (by decide) ?_
      cases h
      rw [← hQ]
      exact gx_zret F G hr hlocks rfl dX10_in_15
    · replace h := gf_s q2 h
      refine lv_iconst (v := 1) hx hb dX10_in_10 (by decide) ?_
      refine lv_goto (tgt := 15) hx hb dX10_in_11 (by decide) ?_
      cases h
      rw [← hQ]
      exact gx_zret F G hr hlocks rfl dX10_in_15
def m_X10_less (a1 : Int32) (a2 : Int32) : Option (Int32) :=
  (if a2 ≤ a1 then some a2 else some a1)
abbrev rmX10_less : Room := { frames := 0, cells := 0, slots := 0, locals := 0 }
set_option maxHeartbeats 4000000 in
set_option maxRecDepth 100000 in
theorem c_X10_less (l : Launch) (sa : gSa) (D : va_G) (ad : Nat → Nat) (cy : Nat → ClassId) (N sz : Nat) (hN : 530 ≤ N) (hI : gI ad N) (c0 c : gm) {a1 : Int32} {a2 : Int32} {rZ : Int32} (h : m_X10_less a1 a2 = some rZ) : Met l yX10_less wsX10_less rmX10_less (va_Pc [.int a1, .int a2] (gP sa D ad cy N sz c0 c)) (va_Qi (fun (z : Int32) (_ : Unit) => z = rZ) (fun _ U => gE D ad cy N c0 c U) (gA ad N sz)) 0 0 (gA ad N sz) := by
  refine Met.ofW (cc := cX10_less) (maxL := 2) (ret := (some .int)) (by decide) rfl ?_
  intro p e s m args below meth cod s₁ B hml hv
  obtain ⟨rfl, hsz, hP, hK, hZ⟩ := hv
  have hx := B.exec
  have hb := B.bytes
  have hr := B.returns
  have hts := atoms_spec (ws := wsX10_less) B.pre
  have hown : s.vm.findClass RX10 = some m.cls := findClass_of_methodNamed B.named
  have hlocks := B.notSynchronized
  subst hsz
  have hl := lv_entry ([.int a1, .int a2]) (n := 2) (Nat.le_of_ble_eq_true rfl)
  rw [lg_entry_eq]
  generalize (lg_sl ([.int a1, .int a2]) ++ List.replicate (2 - (lg_sl ([.int a1, .int a2])).length) Slot.unset).toArray = ls at hl ⊢
  have hl : lv_has ls 2 [(0, .int a1), (1, .int a2)] := hl
  generalize hargs : ([.int a1, .int a2] : List Value).toArray = args at *
  generalize hAe : gA ad N s.heap.size = A
  have F : gF sa D ad cy N A p s m args cod cX10_less 2 wsX10_less RX10 := ⟨hx, hb, hml, hown, hts, hK, hI, by rw [← hAe]; exact gA_ad, by rw [← hAe]; exact gA_sz, by rw [← hAe]; exact hZ⟩
  have G : gW D ad cy N A s.heap c0 c s.heap [] := ⟨hP, va_S.rf⟩
  generalize hQ : MQ below (va_Qi (fun (z : Int32) (_ : Unit) => z = rZ) (fun _ U => gE D ad cy N c0 c U) A) args s 0 0 A = Q
  suffices hgen : ∀ (H : Heap) (locs : List Loc), gW D ad cy N A s.heap c0 c H locs → W p l e rmX10_less s m args below meth cod H locs 0 0 Q (F0 m 0 ls []) from hgen _ _ G
  clear G
  intro H locs G
  unfold m_X10_less at h
  refine lv_iload_n hx hb dX10_less_0 rfl (lv_at hl 0 rfl) ?_
  refine lv_iload_n hx hb dX10_less_1 rfl (lv_at hl 1 rfl) ?_
  refine lv_icmp_ge (tgt := 9) hx hb dX10_less_2 (by decide) (fun q1 => ?_) (fun q1 => ?_)
  · replace h := gt_s q1 h
    refine lv_iload_n hx hb dX10_less_9 rfl (lv_at hl 1 rfl) ?_
    cases h
    rw [← hQ]
    exact gx_iret F G hr hlocks dX10_less_10
  · replace h := gf_s q1 h
    refine lv_iload_n hx hb dX10_less_5 rfl (lv_at hl 0 rfl) ?_
    refine lv_goto (tgt := 10) hx hb dX10_less_6 (by decide) ?_
    cases h
    rw [← hQ]
    exact gx_iret F G hr hlocks dX10_less_10
def m_X10_more (a1 : Int32) (a2 : Int32) : Option (Int32) :=
  (if a1 ≤ a2 then some a2 else some a1)
abbrev rmX10_more : Room := { frames := 0, cells := 0, slots := 0, locals := 0 }
set_option maxHeartbeats 4000000 in
set_option maxRecDepth 100000 in
theorem c_X10_more (l : Launch) (sa : gSa) (D : va_G) (ad : Nat → Nat) (cy : Nat → ClassId) (N sz : Nat) (hN : 530 ≤ N) (hI : gI ad N) (c0 c : gm) {a1 : Int32} {a2 : Int32} {rZ : Int32} (h : m_X10_more a1 a2 = some rZ) : Met l yX10_more wsX10_more rmX10_more (va_Pc [.int a1, .int a2] (gP sa D ad cy N sz c0 c)) (va_Qi (fun (z : Int32) (_ : Unit) => z = rZ) (fun _ U => gE D ad cy N c0 c U) (gA ad N sz)) 0 0 (gA ad N sz) := by
  refine Met.ofW (cc := cX10_more) (maxL := 2) (ret := (some .int)) (by decide) rfl ?_
  intro p e s m args below meth cod s₁ B hml hv
  obtain ⟨rfl, hsz, hP, hK, hZ⟩ := hv
  have hx := B.exec
  have hb := B.bytes
  have hr := B.returns
  have hts := atoms_spec (ws := wsX10_more) B.pre
  have hown : s.vm.findClass RX10 = some m.cls := findClass_of_methodNamed B.named
  have hlocks := B.notSynchronized
  subst hsz
  have hl := lv_entry ([.int a1, .int a2]) (n := 2) (Nat.le_of_ble_eq_true rfl)
  rw [lg_entry_eq]
  generalize (lg_sl ([.int a1, .int a2]) ++ List.replicate (2 - (lg_sl ([.int a1, .int a2])).length) Slot.unset).toArray = ls at hl ⊢
  have hl : lv_has ls 2 [(0, .int a1), (1, .int a2)] := hl
  generalize hargs : ([.int a1, .int a2] : List Value).toArray = args at *
  generalize hAe : gA ad N s.heap.size = A
  have F : gF sa D ad cy N A p s m args cod cX10_more 2 wsX10_more RX10 := ⟨hx, hb, hml, hown, hts, hK, hI, by rw [← hAe]; exact gA_ad, by rw [← hAe]; exact gA_sz, by rw [← hAe]; exact hZ⟩
  have G : gW D ad cy N A s.heap c0 c s.heap [] := ⟨hP, va_S.rf⟩
  generalize hQ : MQ below (va_Qi (fun (z : Int32) (_ : Unit) => z = rZ) (fun _ U => gE D ad cy N c0 c U) A) args s 0 0 A = Q
  suffices hgen : ∀ (H : Heap) (locs : List Loc), gW D ad cy N A s.heap c0 c H locs → W p l e rmX10_more s m args below meth cod H locs 0 0 Q (F0 m 0 ls []) from hgen _ _ G
  clear G
  intro H locs G
  unfold m_X10_more at h
  refine lv_iload_n hx hb dX10_more_0 rfl (lv_at hl 0 rfl) ?_
  refine lv_iload_n hx hb dX10_more_1 rfl (lv_at hl 1 rfl) ?_
  refine lv_icmp_le (tgt := 9) hx hb dX10_more_2 (by decide) (fun q1 => ?_) (fun q1 => ?_)
  · replace h := gt_s q1 h
    refine lv_iload_n hx hb dX10_more_9 rfl (lv_at hl 1 rfl) ?_
    cases h
    rw [← hQ]
    exact gx_iret F G hr hlocks dX10_more_10
  · replace h := gf_s q1 h
    refine lv_iload_n hx hb dX10_more_5 rfl (lv_at hl 0 rfl) ?_
    refine lv_goto (tgt := 10) hx hb dX10_more_6 (by decide) ?_
    cases h
    rw [← hQ]
    exact gx_iret F G hr hlocks dX10_more_10
def m_X10_has (a1 : Int32) (a2 : Int32) : Option (Int32) :=
  (if ((a1 >>> (a2 &&& 31)) &&& 1) = 1 then some 1 else some 0)
abbrev rmX10_has : Room := { frames := 0, cells := 0, slots := 0, locals := 0 }
set_option maxHeartbeats 4000000 in
set_option maxRecDepth 100000 in
theorem c_X10_has (l : Launch) (sa : gSa) (D : va_G) (ad : Nat → Nat) (cy : Nat → ClassId) (N sz : Nat) (hN : 530 ≤ N) (hI : gI ad N) (c0 c : gm) {a1 : Int32} {a2 : Int32} {rZ : Int32} (h : m_X10_has a1 a2 = some rZ) : Met l yX10_has wsX10_has rmX10_has (va_Pc [.int a1, .int a2] (gP sa D ad cy N sz c0 c)) (va_Qi (fun (z : Int32) (_ : Unit) => z = rZ) (fun _ U => gE D ad cy N c0 c U) (gA ad N sz)) 0 0 (gA ad N sz) := by
  refine Met.ofW (cc := cX10_has) (maxL := 2) (ret := (some .boolean)) (by decide) rfl ?_
  intro p e s m args below meth cod s₁ B hml hv
  obtain ⟨rfl, hsz, hP, hK, hZ⟩ := hv
  have hx := B.exec
  have hb := B.bytes
  have hr := B.returns
  have hts := atoms_spec (ws := wsX10_has) B.pre
  have hown : s.vm.findClass RX10 = some m.cls := findClass_of_methodNamed B.named
  have hlocks := B.notSynchronized
  subst hsz
  have hl := lv_entry ([.int a1, .int a2]) (n := 2) (Nat.le_of_ble_eq_true rfl)
  rw [lg_entry_eq]
  generalize (lg_sl ([.int a1, .int a2]) ++ List.replicate (2 - (lg_sl ([.int a1, .int a2])).length) Slot.unset).toArray = ls at hl ⊢
  have hl : lv_has ls 2 [(0, .int a1), (1, .int a2)] := hl
  generalize hargs : ([.int a1, .int a2] : List Value).toArray = args at *
  generalize hAe : gA ad N s.heap.size = A
  have F : gF sa D ad cy N A p s m args cod cX10_has 2 wsX10_has RX10 := ⟨hx, hb, hml, hown, hts, hK, hI, by rw [← hAe]; exact gA_ad, by rw [← hAe]; exact gA_sz, by rw [← hAe]; exact hZ⟩
  have G : gW D ad cy N A s.heap c0 c s.heap [] := ⟨hP, va_S.rf⟩
  generalize hQ : MQ below (va_Qi (fun (z : Int32) (_ : Unit) => z = rZ) (fun _ U => gE D ad cy N c0 c U) A) args s 0 0 A = Q
  suffices hgen : ∀ (H : Heap) (locs : List Loc), gW D ad cy N A s.heap c0 c H locs → W p l e rmX10_has s m args below meth cod H locs 0 0 Q (F0 m 0 ls []) from hgen _ _ G
  clear G
  intro H locs G
  unfold m_X10_has at h
  refine lv_iload_n hx hb dX10_has_0 rfl (lv_at hl 0 rfl) ?_
  refine lv_iload_n hx hb dX10_has_1 rfl (lv_at hl 1 rfl) ?_
  refine lv_ishr hx hb dX10_has_2 ?_
  refine lv_iconst (v := 1) hx hb dX10_has_3 (by decide) ?_
  refine lv_iand hx hb dX10_has_4 ?_
  refine lv_iconst (v := 1) hx hb dX10_has_5 (by decide) ?_
  refine lv_icmp_ne (tgt := 13) hx hb dX10_has_6 (by decide) (fun q1 => ?_) (fun q1 => ?_)
  · replace h := gf_s q1 h
    refine lv_iconst (v := 0) hx hb dX10_has_13 (by decide) ?_
    cases h
    rw [← hQ]
    exact gx_zret F G hr hlocks rfl dX10_has_14
  · replace h := gt_s q1 h
    refine lv_iconst (v := 1) hx hb dX10_has_9 (by decide) ?_
    refine lv_goto (tgt := 14) hx hb dX10_has_10 (by decide) ?_
    cases h
    rw [← hQ]
    exact gx_zret F G hr hlocks rfl dX10_has_14
