-- X7_peek X7_hasMore X7_isDigit X7_fail X7_byteAt X7_takeNumber X7_takeOther X0_readLine X7_takeSign X0_readFrom X6_isThing X6_weightOf X6_standing X0_standingBy X0_isFitting X0_seekPairs X0_firstPair J7_fill_53178 X0_worstOf X0_seekNext X1_begin X6_cryPart J6_bitCount_0f7a4
def m_X7_peek_L0 (t : Nat) (c2 : gm) : Option ((gm) ⊕ (gm)) :=
  gc (gck t = 7) ((if (c2.1 t 2) ≤ (c2.1 t 3) then some (.inr c2) else (if (nI 600) ≤ (c2.1 t 3) then some (.inr c2) else gc (0 ≤ (c2.1 t 3).toInt ∧ (c2.1 t 3).toInt < 600) ((if (c2.1 (t + 1) (c2.1 t 3).toNatClampNeg) = 32 then gv (gm_r c2 t (upd (c2.1 t) 3 ((c2.1 t 3) + 1))) (fun (c22 : gm) => some (.inl c22)) else some (.inr c2))))))
def m_X7_peek (n : Nat) (t : Nat) (c : gm) : Option (Int32 × gm) :=
  gb (gloop (fun (c2 : gm) => m_X7_peek_L0 t c2) n c) (fun (c3 : gm) => gc (gck t = 7) (gv (gm_r c3 t (upd (c3.1 t) 4 (c3.1 t 3))) (fun (c6 : gm) => (if (c6.1 t 2) ≤ (c6.1 t 3) then some ((-1), c6) else (if (nI 600) ≤ (c6.1 t 3) then some ((-1), c6) else gc (0 ≤ (c6.1 t 3).toInt ∧ (c6.1 t 3).toInt < 600) (some (((c6.1 (t + 1) (c6.1 t 3).toNatClampNeg) &&& 255), c6)))))))
abbrev rmX7_peek : Room := { frames := 0, cells := 0, slots := 0, locals := 0 }
set_option maxHeartbeats 4000000 in
set_option maxRecDepth 100000 in
theorem c_X7_peek (l : Launch) (sa : gSa) (D : va_G) (ad : Nat → Nat) (cy : Nat → ClassId) (N sz : Nat) (hN : 55 ≤ N) (hI : gI ad N) (c d0 : gm) {n : Nat} {t : Nat} {rZ : Int32} {cZ : gm} (h : m_X7_peek n t c = some (rZ, cZ)) : Met l yX7_peek wsX7_peek rmX7_peek (va_Pc [.ref (ad t)] (gP sa D ad cy N sz c d0)) (va_Qi (fun (z : Int32) (_ : Unit) => z = rZ) (fun _ U => gE D ad cy N cZ d0 U) (gA ad N sz)) 0 0 (gA ad N sz) := by
  refine Met.ofW (cc := cX7_peek) (maxL := 1) (ret := (some .int)) (by decide) rfl ?_
  intro p e s m args below meth cod s₁ B hml hv
  obtain ⟨rfl, hsz, hP, hK, hZ⟩ := hv
  have hx := B.exec
  have hb := B.bytes
  have hr := B.returns
  have hts := atoms_spec (ws := wsX7_peek) B.pre
  have hown : s.vm.findClass RX7 = some m.cls := findClass_of_methodNamed B.named
  have hlocks := B.notSynchronized
  subst hsz
  have hl := lv_entry ([.ref (ad t)]) (n := 1) (Nat.le_of_ble_eq_true rfl)
  rw [lg_entry_eq]
  generalize (lg_sl ([.ref (ad t)]) ++ List.replicate (1 - (lg_sl ([.ref (ad t)])).length) Slot.unset).toArray = ls at hl ⊢
  have hl : lv_has ls 1 [(0, .ref (ad t))] := hl
  have in7 : ∀ w ∈ wsX70, w ∈ wsX7_peek := by decide +kernel
  generalize hargs : ([.ref (ad t)] : List Value).toArray = args at *
  generalize hAe : gA ad N s.heap.size = A
  have F : gF sa D ad cy N A p s m args cod cX7_peek 1 wsX7_peek RX7 := ⟨hx, hb, hml, hown, hts, hK, hI, by rw [← hAe]; exact gA_ad, by rw [← hAe]; exact gA_sz, by rw [← hAe]; exact hZ⟩
  have G : gW D ad cy N A s.heap c d0 s.heap [] := ⟨hP, va_S.rf⟩
  generalize hQ : MQ below (va_Qi (fun (z : Int32) (_ : Unit) => z = rZ) (fun _ U => gE D ad cy N cZ d0 U) A) args s 0 0 A = Q
  suffices hgen : ∀ (H : Heap) (locs : List Loc), gW D ad cy N A s.heap c d0 H locs → W p l e rmX7_peek s m args below meth cod H locs 0 0 Q (F0 m 0 ls []) from hgen _ _ G
  clear G
  intro H locs G
  unfold m_X7_peek at h
  obtain ⟨b1, hb1, hK1⟩ := gb_s h
  have E1 : ∀ (c3 : gm) (H : Heap) (locs : List Loc) (ls : Array Slot), (c3 : gm) = b1 → gW D ad cy N A s.heap c3 d0 H locs → lv_has ls 1 [(0, .ref (ad t))] → W p l e rmX7_peek s m args below meth cod H locs 0 0 Q (F0 m 50 ls []) := by
    intro c3 H locs ls hq1 G hl
    subst hq1
    replace hK1 := hK1
    have h := hK1
    refine lv_aload_n hx hb dX7_peek_50 rfl (lv_at hl 0 rfl) ?_
    refine lv_aload_n hx hb dX7_peek_51 rfl (lv_at hl 0 rfl) ?_
    obtain ⟨hk4, h⟩ := gc_s h
    have ht5 : t < N := Nat.lt_of_lt_of_le (gck_lt7 hk4) hN
    refine fg_7_at F G hk4 ht5 in7 (by decide +kernel) dX7_peek_52 ?_
    refine fp_7_mark F G hk4 ht5 in7 (by decide +kernel) dX7_peek_55 (fun H locs G => ?_)
    obtain ⟨c6, ec6⟩ : ∃ z, z = gm_r c3 t (upd (c3.1 t) 4 (c3.1 t 3)) := ⟨_, rfl⟩
    rw [← ec6] at G
    replace h := gv_s h c6 ec6
    refine lv_aload_n hx hb dX7_peek_58 rfl (lv_at hl 0 rfl) ?_
    refine fg_7_at F G hk4 ht5 in7 (by decide +kernel) dX7_peek_59 ?_
    refine lv_aload_n hx hb dX7_peek_62 rfl (lv_at hl 0 rfl) ?_
    refine fg_7_length F G hk4 ht5 in7 (by decide +kernel) dX7_peek_63 ?_
    refine lv_icmp_ge (tgt := 97) hx hb dX7_peek_66 (by decide) (fun q7 => ?_) (fun q7 => ?_)
    · replace h := gt_s q7 h
      refine lv_iconst (v := (-1)) hx hb dX7_peek_97 (by decide) ?_
      cases h
      rw [← hQ]
      exact gx_iret F G hr hlocks dX7_peek_98
    · replace h := gf_s q7 h
      refine lv_aload_n hx hb dX7_peek_69 rfl (lv_at hl 0 rfl) ?_
      refine fg_7_at F G hk4 ht5 in7 (by decide +kernel) dX7_peek_70 ?_
      refine lv_aload_n hx hb dX7_peek_73 rfl (lv_at hl 0 rfl) ?_
      refine fg_7_bytes F G hk4 ht5 in7 (by decide +kernel) dX7_peek_74 ?_
      obtain ⟨hk8, hn10⟩ := gka_7_bytes hk4
      have ht9 : (t + 1) < N := Nat.lt_of_lt_of_le (gck_lt13 hk8) hN
      refine gx_bal F G hk8 ht9 hn10 dX7_peek_77 ?_
      refine lv_icmp_ge (tgt := 97) hx hb dX7_peek_78 (by decide) (fun q11 => ?_) (fun q11 => ?_)
      · replace h := gt_s q11 h
        refine lv_iconst (v := (-1)) hx hb dX7_peek_97 (by decide) ?_
        cases h
        rw [← hQ]
        exact gx_iret F G hr hlocks dX7_peek_98
      · replace h := gf_s q11 h
        refine lv_aload_n hx hb dX7_peek_81 rfl (lv_at hl 0 rfl) ?_
        refine fg_7_bytes F G hk4 ht5 in7 (by decide +kernel) dX7_peek_82 ?_
        refine lv_aload_n hx hb dX7_peek_85 rfl (lv_at hl 0 rfl) ?_
        refine fg_7_at F G hk4 ht5 in7 (by decide +kernel) dX7_peek_86 ?_
        obtain ⟨hi12, h⟩ := gc_s h
        refine gx_ba F G hk8 ht9 hn10 hi12 dX7_peek_89 ?_
        refine lv_sipush (v := 255) hx hb dX7_peek_90 (by decide) ?_
        refine lv_iand hx hb dX7_peek_93 ?_
        refine lv_goto (tgt := 98) hx hb dX7_peek_94 (by decide) ?_
        cases h
        rw [← hQ]
        exact gx_iret F G hr hlocks dX7_peek_98
  have L1 : ∀ (n9 : Nat) (c2 : gm) (H : Heap) (locs : List Loc) (ls : Array Slot), gloop (fun (c2 : gm) => m_X7_peek_L0 t c2) n9 c2 = some b1 → gW D ad cy N A s.heap c2 d0 H locs → lv_has ls 1 [(0, .ref (ad t))] → W p l e rmX7_peek s m args below meth cod H locs 0 0 Q (F0 m 0 ls []) := by
    intro n9
    induction n9 with
    | zero => intro c2 H locs ls h; exact (gloop_0 h).elim
    | succ n9 ih =>
      intro c2 H locs ls h G hl
      have ih1 := ih
      obtain ⟨o1, h, hn1⟩ := gloop_s h
      unfold m_X7_peek_L0 at h
      refine lv_aload_n hx hb dX7_peek_0 rfl (lv_at hl 0 rfl) ?_
      obtain ⟨hk13, h⟩ := gc_s h
      have ht14 : t < N := Nat.lt_of_lt_of_le (gck_lt7 hk13) hN
      refine fg_7_at F G hk13 ht14 in7 (by decide +kernel) dX7_peek_1 ?_
      refine lv_aload_n hx hb dX7_peek_4 rfl (lv_at hl 0 rfl) ?_
      refine fg_7_length F G hk13 ht14 in7 (by decide +kernel) dX7_peek_5 ?_
      refine lv_icmp_ge (tgt := 50) hx hb dX7_peek_8 (by decide) (fun q15 => ?_) (fun q15 => ?_)
      · replace h := gt_s q15 h
        cases h
        exact E1 _ _ _ _ (gnx_r hn1) G hl
      · replace h := gf_s q15 h
        refine lv_aload_n hx hb dX7_peek_11 rfl (lv_at hl 0 rfl) ?_
        refine fg_7_at F G hk13 ht14 in7 (by decide +kernel) dX7_peek_12 ?_
        refine lv_aload_n hx hb dX7_peek_15 rfl (lv_at hl 0 rfl) ?_
        refine fg_7_bytes F G hk13 ht14 in7 (by decide +kernel) dX7_peek_16 ?_
        obtain ⟨hk16, hn18⟩ := gka_7_bytes hk13
        have ht17 : (t + 1) < N := Nat.lt_of_lt_of_le (gck_lt13 hk16) hN
        refine gx_bal F G hk16 ht17 hn18 dX7_peek_19 ?_
        refine lv_icmp_ge (tgt := 50) hx hb dX7_peek_20 (by decide) (fun q19 => ?_) (fun q19 => ?_)
        · replace h := gt_s q19 h
          cases h
          exact E1 _ _ _ _ (gnx_r hn1) G hl
        · replace h := gf_s q19 h
          refine lv_aload_n hx hb dX7_peek_23 rfl (lv_at hl 0 rfl) ?_
          refine fg_7_bytes F G hk13 ht14 in7 (by decide +kernel) dX7_peek_24 ?_
          refine lv_aload_n hx hb dX7_peek_27 rfl (lv_at hl 0 rfl) ?_
          refine fg_7_at F G hk13 ht14 in7 (by decide +kernel) dX7_peek_28 ?_
          obtain ⟨hi20, h⟩ := gc_s h
          refine gx_ba F G hk16 ht17 hn18 hi20 dX7_peek_31 ?_
          refine lv_bipush (v := 32) hx hb dX7_peek_32 (by decide) ?_
          refine lv_icmp_ne (tgt := 50) hx hb dX7_peek_34 (by decide) (fun q21 => ?_) (fun q21 => ?_)
          · replace h := gf_s q21 h
            cases h
            exact E1 _ _ _ _ (gnx_r hn1) G hl
          · replace h := gt_s q21 h
            refine lv_aload_n hx hb dX7_peek_37 rfl (lv_at hl 0 rfl) ?_
            refine lv_dup hx hb dX7_peek_38 rfl ?_
            refine fg_7_at F G hk13 ht14 in7 (by decide +kernel) dX7_peek_39 ?_
            refine lv_iconst (v := 1) hx hb dX7_peek_42 (by decide) ?_
            refine lv_iadd hx hb dX7_peek_43 ?_
            refine fp_7_at F G hk13 ht14 in7 (by decide +kernel) dX7_peek_44 (fun H locs G => ?_)
            obtain ⟨c22, ec22⟩ : ∃ z, z = gm_r c2 t (upd (c2.1 t) 3 ((c2.1 t 3) + 1)) := ⟨_, rfl⟩
            rw [← ec22] at G
            replace h := gv_s h c22 ec22
            refine lv_goto (tgt := 0) hx hb dX7_peek_47 (by decide) ?_
            cases h
            exact ih1 _ _ _ _ hn1 G hl
  exact L1 n _ _ _ _ hb1 G hl
def m_X7_hasMore (n : Nat) (t : Nat) (c : gm) : Option (Int32 × gm) :=
  gc (gck t = 7) (gb2 (m_X7_peek n t c) (fun (r4 : Int32) (c5 : gm) => (if r4 = (-1) then some (0, c5) else some (1, c5))))
abbrev rmX7_hasMore : Room := { frames := 1, cells := 0, slots := 0, locals := 20 }
set_option maxHeartbeats 4000000 in
set_option maxRecDepth 100000 in
theorem c_X7_hasMore (l : Launch) (sa : gSa) (D : va_G) (ad : Nat → Nat) (cy : Nat → ClassId) (N sz : Nat) (hN : 55 ≤ N) (hI : gI ad N) (c d0 : gm) {n : Nat} {t : Nat} {rZ : Int32} {cZ : gm} (h : m_X7_hasMore n t c = some (rZ, cZ)) : Met l yX7_hasMore wsX7_hasMore rmX7_hasMore (va_Pc [.ref (ad t)] (gP sa D ad cy N sz c d0)) (va_Qi (fun (z : Int32) (_ : Unit) => z = rZ) (fun _ U => gE D ad cy N cZ d0 U) (gA ad N sz)) 0 0 (gA ad N sz) := by
  refine Met.ofW (cc := cX7_hasMore) (maxL := 1) (ret := (some .boolean)) (by decide) rfl ?_
  intro p e s m args below meth cod s₁ B hml hv
  obtain ⟨rfl, hsz, hP, hK, hZ⟩ := hv
  have hx := B.exec
  have hb := B.bytes
  have hr := B.returns
  have hts := atoms_spec (ws := wsX7_hasMore) B.pre
  have hown : s.vm.findClass RX7 = some m.cls := findClass_of_methodNamed B.named
  have hlocks := B.notSynchronized
  subst hsz
  have hl := lv_entry ([.ref (ad t)]) (n := 1) (Nat.le_of_ble_eq_true rfl)
  rw [lg_entry_eq]
  generalize (lg_sl ([.ref (ad t)]) ++ List.replicate (1 - (lg_sl ([.ref (ad t)])).length) Slot.unset).toArray = ls at hl ⊢
  have hl : lv_has ls 1 [(0, .ref (ad t))] := hl
  generalize hargs : ([.ref (ad t)] : List Value).toArray = args at *
  generalize hAe : gA ad N s.heap.size = A
  have F : gF sa D ad cy N A p s m args cod cX7_hasMore 1 wsX7_hasMore RX7 := ⟨hx, hb, hml, hown, hts, hK, hI, by rw [← hAe]; exact gA_ad, by rw [← hAe]; exact gA_sz, by rw [← hAe]; exact hZ⟩
  have G : gW D ad cy N A s.heap c d0 s.heap [] := ⟨hP, va_S.rf⟩
  generalize hQ : MQ below (va_Qi (fun (z : Int32) (_ : Unit) => z = rZ) (fun _ U => gE D ad cy N cZ d0 U) A) args s 0 0 A = Q
  suffices hgen : ∀ (H : Heap) (locs : List Loc), gW D ad cy N A s.heap c d0 H locs → W p l e rmX7_hasMore s m args below meth cod H locs 0 0 Q (F0 m 0 ls []) from hgen _ _ G
  clear G
  intro H locs G
  unfold m_X7_hasMore at h
  refine lv_aload_n hx hb dX7_hasMore_0 rfl (lv_at hl 0 rfl) ?_
  obtain ⟨hk1, h⟩ := gc_s h
  have ht2 : t < N := Nat.lt_of_lt_of_le (gck_lt7 hk1) hN
  obtain ⟨r4, c5, hc3, h⟩ := gb2_s h
  refine gx_calli F G (va_runV (As := []) (rest := []) (gx_fix F) (c_X7_peek l sa D ad cy N H.size hN hI c d0 hc3) (cwV 0 hts gX7_hasMore_X7_peek rfl rfl rfl (by decide +kernel) ⟨by decide, by decide⟩) (gx_rec F G ht2 (gwe_7 hk1) rfl) rfl rfl hl.1 rfl (lv_room (Nat.le_of_ble_eq_true rfl)) dX7_hasMore_1 ⟨Nat.zero_le _, Nat.zero_le _⟩) (fun H locs G => ?_)
  refine lv_iconst (v := (-1)) hx hb dX7_hasMore_4 (by decide) ?_
  refine lv_icmp_eq (tgt := 12) hx hb dX7_hasMore_5 (by decide) (fun q6 => ?_) (fun q6 => ?_)
  · replace h := gt_s q6 h
    refine lv_iconst (v := 0) hx hb dX7_hasMore_12 (by decide) ?_
    cases h
    rw [← hQ]
    exact gx_zret F G hr hlocks rfl dX7_hasMore_13
  · replace h := gf_s q6 h
    refine lv_iconst (v := 1) hx hb dX7_hasMore_8 (by decide) ?_
    refine lv_goto (tgt := 13) hx hb dX7_hasMore_9 (by decide) ?_
    cases h
    rw [← hQ]
    exact gx_zret F G hr hlocks rfl dX7_hasMore_13
def m_X7_isDigit (a1 : Int32) : Option (Int32) :=
  (if a1 < 48 then some 0 else (if 57 < a1 then some 0 else some 1))
abbrev rmX7_isDigit : Room := { frames := 0, cells := 0, slots := 0, locals := 0 }
set_option maxHeartbeats 4000000 in
set_option maxRecDepth 100000 in
theorem c_X7_isDigit (l : Launch) (sa : gSa) (D : va_G) (ad : Nat → Nat) (cy : Nat → ClassId) (N sz : Nat) (hN : 55 ≤ N) (hI : gI ad N) (c d0 : gm) {a1 : Int32} {rZ : Int32} (h : m_X7_isDigit a1 = some rZ) : Met l yX7_isDigit wsX7_isDigit rmX7_isDigit (va_Pc [.int a1] (gP sa D ad cy N sz c d0)) (va_Qi (fun (z : Int32) (_ : Unit) => z = rZ) (fun _ U => gE D ad cy N c d0 U) (gA ad N sz)) 0 0 (gA ad N sz) := by
  refine Met.ofW (cc := cX7_isDigit) (maxL := 1) (ret := (some .boolean)) (by decide) rfl ?_
  intro p e s m args below meth cod s₁ B hml hv
  obtain ⟨rfl, hsz, hP, hK, hZ⟩ := hv
  have hx := B.exec
  have hb := B.bytes
  have hr := B.returns
  have hts := atoms_spec (ws := wsX7_isDigit) B.pre
  have hown : s.vm.findClass RX7 = some m.cls := findClass_of_methodNamed B.named
  have hlocks := B.notSynchronized
  subst hsz
  have hl := lv_entry ([.int a1]) (n := 1) (Nat.le_of_ble_eq_true rfl)
  rw [lg_entry_eq]
  generalize (lg_sl ([.int a1]) ++ List.replicate (1 - (lg_sl ([.int a1])).length) Slot.unset).toArray = ls at hl ⊢
  have hl : lv_has ls 1 [(0, .int a1)] := hl
  generalize hargs : ([.int a1] : List Value).toArray = args at *
  generalize hAe : gA ad N s.heap.size = A
  have F : gF sa D ad cy N A p s m args cod cX7_isDigit 1 wsX7_isDigit RX7 := ⟨hx, hb, hml, hown, hts, hK, hI, by rw [← hAe]; exact gA_ad, by rw [← hAe]; exact gA_sz, by rw [← hAe]; exact hZ⟩
  have G : gW D ad cy N A s.heap c d0 s.heap [] := ⟨hP, va_S.rf⟩
  generalize hQ : MQ below (va_Qi (fun (z : Int32) (_ : Unit) => z = rZ) (fun _ U => gE D ad cy N c d0 U) A) args s 0 0 A = Q
  suffices hgen : ∀ (H : Heap) (locs : List Loc), gW D ad cy N A s.heap c d0 H locs → W p l e rmX7_isDigit s m args below meth cod H locs 0 0 Q (F0 m 0 ls []) from hgen _ _ G
  clear G
  intro H locs G
  unfold m_X7_isDigit at h
  refine lv_iload_n hx hb dX7_isDigit_0 rfl (lv_at hl 0 rfl) ?_
  refine lv_bipush (v := 48) hx hb dX7_isDigit_1 (by decide) ?_
  refine lv_icmp_lt (tgt := 16) hx hb dX7_isDigit_3 (by decide) (fun q1 => ?_) (fun q1 => ?_)
  · replace h := gt_s q1 h
    refine lv_iconst (v := 0) hx hb dX7_isDigit_16 (by decide) ?_
    cases h
    rw [← hQ]
    exact gx_zret F G hr hlocks rfl dX7_isDigit_17
  · replace h := gf_s q1 h
    refine lv_iload_n hx hb dX7_isDigit_6 rfl (lv_at hl 0 rfl) ?_
    refine lv_bipush (v := 57) hx hb dX7_isDigit_7 (by decide) ?_
    refine lv_icmp_gt (tgt := 16) hx hb dX7_isDigit_9 (by decide) (fun q2 => ?_) (fun q2 => ?_)
    · replace h := gt_s q2 h
      refine lv_iconst (v := 0) hx hb dX7_isDigit_16 (by decide) ?_
      cases h
      rw [← hQ]
      exact gx_zret F G hr hlocks rfl dX7_isDigit_17
    · replace h := gf_s q2 h
      refine lv_iconst (v := 1) hx hb dX7_isDigit_12 (by decide) ?_
      refine lv_goto (tgt := 17) hx hb dX7_isDigit_13 (by decide) ?_
      cases h
      rw [← hQ]
      exact gx_zret F G hr hlocks rfl dX7_isDigit_17
def m_X7_fail (t : Nat) (a1 : Int32) (a2 : Int32) (c : gm) : Option (Int32 × gm) :=
  gc (gck t = 7) (gv (gm_r c t (upd (c.1 t) 6 a1)) (fun (c3 : gm) => gv (gm_r c3 t (upd (c3.1 t) 7 a2)) (fun (c4 : gm) => some (0, c4))))
abbrev rmX7_fail : Room := { frames := 0, cells := 0, slots := 0, locals := 0 }
set_option maxHeartbeats 4000000 in
set_option maxRecDepth 100000 in
theorem c_X7_fail (l : Launch) (sa : gSa) (D : va_G) (ad : Nat → Nat) (cy : Nat → ClassId) (N sz : Nat) (hN : 55 ≤ N) (hI : gI ad N) (c d0 : gm) {t : Nat} {a1 : Int32} {a2 : Int32} {rZ : Int32} {cZ : gm} (h : m_X7_fail t a1 a2 c = some (rZ, cZ)) : Met l yX7_fail wsX7_fail rmX7_fail (va_Pc [.ref (ad t), .int a1, .int a2] (gP sa D ad cy N sz c d0)) (va_Qi (fun (z : Int32) (_ : Unit) => z = rZ) (fun _ U => gE D ad cy N cZ d0 U) (gA ad N sz)) 0 0 (gA ad N sz) := by
  refine Met.ofW (cc := cX7_fail) (maxL := 3) (ret := (some .boolean)) (by decide) rfl ?_
  intro p e s m args below meth cod s₁ B hml hv
  obtain ⟨rfl, hsz, hP, hK, hZ⟩ := hv
  have hx := B.exec
  have hb := B.bytes
  have hr := B.returns
  have hts := atoms_spec (ws := wsX7_fail) B.pre
  have hown : s.vm.findClass RX7 = some m.cls := findClass_of_methodNamed B.named
  have hlocks := B.notSynchronized
  subst hsz
  have hl := lv_entry ([.ref (ad t), .int a1, .int a2]) (n := 3) (Nat.le_of_ble_eq_true rfl)
  rw [lg_entry_eq]
  generalize (lg_sl ([.ref (ad t), .int a1, .int a2]) ++ List.replicate (3 - (lg_sl ([.ref (ad t), .int a1, .int a2])).length) Slot.unset).toArray = ls at hl ⊢
  have hl : lv_has ls 3 [(0, .ref (ad t)), (1, .int a1), (2, .int a2)] := hl
  have in7 : ∀ w ∈ wsX70, w ∈ wsX7_fail := by decide +kernel
  generalize hargs : ([.ref (ad t), .int a1, .int a2] : List Value).toArray = args at *
  generalize hAe : gA ad N s.heap.size = A
  have F : gF sa D ad cy N A p s m args cod cX7_fail 3 wsX7_fail RX7 := ⟨hx, hb, hml, hown, hts, hK, hI, by rw [← hAe]; exact gA_ad, by rw [← hAe]; exact gA_sz, by rw [← hAe]; exact hZ⟩
  have G : gW D ad cy N A s.heap c d0 s.heap [] := ⟨hP, va_S.rf⟩
  generalize hQ : MQ below (va_Qi (fun (z : Int32) (_ : Unit) => z = rZ) (fun _ U => gE D ad cy N cZ d0 U) A) args s 0 0 A = Q
  suffices hgen : ∀ (H : Heap) (locs : List Loc), gW D ad cy N A s.heap c d0 H locs → W p l e rmX7_fail s m args below meth cod H locs 0 0 Q (F0 m 0 ls []) from hgen _ _ G
  clear G
  intro H locs G
  unfold m_X7_fail at h
  refine lv_aload_n hx hb dX7_fail_0 rfl (lv_at hl 0 rfl) ?_
  refine lv_iload_n hx hb dX7_fail_1 rfl (lv_at hl 1 rfl) ?_
  obtain ⟨hk1, h⟩ := gc_s h
  have ht2 : t < N := Nat.lt_of_lt_of_le (gck_lt7 hk1) hN
  refine fp_7_faultKind F G hk1 ht2 in7 (by decide +kernel) dX7_fail_2 (fun H locs G => ?_)
  obtain ⟨c3, ec3⟩ : ∃ z, z = gm_r c t (upd (c.1 t) 6 a1) := ⟨_, rfl⟩
  rw [← ec3] at G
  replace h := gv_s h c3 ec3
  refine lv_aload_n hx hb dX7_fail_5 rfl (lv_at hl 0 rfl) ?_
  refine lv_iload_n hx hb dX7_fail_6 rfl (lv_at hl 2 rfl) ?_
  refine fp_7_faultPlace F G hk1 ht2 in7 (by decide +kernel) dX7_fail_7 (fun H locs G => ?_)
  obtain ⟨c4, ec4⟩ : ∃ z, z = gm_r c3 t (upd (c3.1 t) 7 a2) := ⟨_, rfl⟩
  rw [← ec4] at G
  replace h := gv_s h c4 ec4
  refine lv_iconst (v := 0) hx hb dX7_fail_10 (by decide) ?_
  cases h
  rw [← hQ]
  exact gx_zret F G hr hlocks rfl dX7_fail_11
def m_X7_byteAt (t : Nat) (a1 : Int32) (c : gm) : Option (Int32) :=
  (if a1 < 0 then some (-1) else gc (gck t = 7) ((if (c.1 t 2) ≤ a1 then some (-1) else (if (nI 600) ≤ a1 then some (-1) else gc (0 ≤ a1.toInt ∧ a1.toInt < 600) (some ((c.1 (t + 1) a1.toNatClampNeg) &&& 255))))))
abbrev rmX7_byteAt : Room := { frames := 0, cells := 0, slots := 0, locals := 0 }
set_option maxHeartbeats 4000000 in
set_option maxRecDepth 100000 in
theorem c_X7_byteAt (l : Launch) (sa : gSa) (D : va_G) (ad : Nat → Nat) (cy : Nat → ClassId) (N sz : Nat) (hN : 55 ≤ N) (hI : gI ad N) (c d0 : gm) {t : Nat} {a1 : Int32} {rZ : Int32} (h : m_X7_byteAt t a1 c = some rZ) : Met l yX7_byteAt wsX7_byteAt rmX7_byteAt (va_Pc [.ref (ad t), .int a1] (gP sa D ad cy N sz c d0)) (va_Qi (fun (z : Int32) (_ : Unit) => z = rZ) (fun _ U => gE D ad cy N c d0 U) (gA ad N sz)) 0 0 (gA ad N sz) := by
  refine Met.ofW (cc := cX7_byteAt) (maxL := 2) (ret := (some .int)) (by decide) rfl ?_
  intro p e s m args below meth cod s₁ B hml hv
  obtain ⟨rfl, hsz, hP, hK, hZ⟩ := hv
  have hx := B.exec
  have hb := B.bytes
  have hr := B.returns
  have hts := atoms_spec (ws := wsX7_byteAt) B.pre
  have hown : s.vm.findClass RX7 = some m.cls := findClass_of_methodNamed B.named
  have hlocks := B.notSynchronized
  subst hsz
  have hl := lv_entry ([.ref (ad t), .int a1]) (n := 2) (Nat.le_of_ble_eq_true rfl)
  rw [lg_entry_eq]
  generalize (lg_sl ([.ref (ad t), .int a1]) ++ List.replicate (2 - (lg_sl ([.ref (ad t), .int a1])).length) Slot.unset).toArray = ls at hl ⊢
  have hl : lv_has ls 2 [(0, .ref (ad t)), (1, .int a1)] := hl
  have in7 : ∀ w ∈ wsX70, w ∈ wsX7_byteAt := by decide +kernel
  generalize hargs : ([.ref (ad t), .int a1] : List Value).toArray = args at *
  generalize hAe : gA ad N s.heap.size = A
  have F : gF sa D ad cy N A p s m args cod cX7_byteAt 2 wsX7_byteAt RX7 := ⟨hx, hb, hml, hown, hts, hK, hI, by rw [← hAe]; exact gA_ad, by rw [← hAe]; exact gA_sz, by rw [← hAe]; exact hZ⟩
  have G : gW D ad cy N A s.heap c d0 s.heap [] := ⟨hP, va_S.rf⟩
  generalize hQ : MQ below (va_Qi (fun (z : Int32) (_ : Unit) => z = rZ) (fun _ U => gE D ad cy N c d0 U) A) args s 0 0 A = Q
  suffices hgen : ∀ (H : Heap) (locs : List Loc), gW D ad cy N A s.heap c d0 H locs → W p l e rmX7_byteAt s m args below meth cod H locs 0 0 Q (F0 m 0 ls []) from hgen _ _ G
  clear G
  intro H locs G
  unfold m_X7_byteAt at h
  refine lv_iload_n hx hb dX7_byteAt_0 rfl (lv_at hl 1 rfl) ?_
  refine lv_if_lt (tgt := 34) hx hb dX7_byteAt_1 (by decide) (fun q1 => ?_) (fun q1 => ?_)
  · replace h := gt_s q1 h
    refine lv_iconst (v := (-1)) hx hb dX7_byteAt_34 (by decide) ?_
    cases h
    rw [← hQ]
    exact gx_iret F G hr hlocks dX7_byteAt_35
  · replace h := gf_s q1 h
    refine lv_iload_n hx hb dX7_byteAt_4 rfl (lv_at hl 1 rfl) ?_
    refine lv_aload_n hx hb dX7_byteAt_5 rfl (lv_at hl 0 rfl) ?_
    obtain ⟨hk2, h⟩ := gc_s h
    have ht3 : t < N := Nat.lt_of_lt_of_le (gck_lt7 hk2) hN
    refine fg_7_length F G hk2 ht3 in7 (by decide +kernel) dX7_byteAt_6 ?_
    refine lv_icmp_ge (tgt := 34) hx hb dX7_byteAt_9 (by decide) (fun q4 => ?_) (fun q4 => ?_)
    · replace h := gt_s q4 h
      refine lv_iconst (v := (-1)) hx hb dX7_byteAt_34 (by decide) ?_
      cases h
      rw [← hQ]
      exact gx_iret F G hr hlocks dX7_byteAt_35
    · replace h := gf_s q4 h
      refine lv_iload_n hx hb dX7_byteAt_12 rfl (lv_at hl 1 rfl) ?_
      refine lv_aload_n hx hb dX7_byteAt_13 rfl (lv_at hl 0 rfl) ?_
      refine fg_7_bytes F G hk2 ht3 in7 (by decide +kernel) dX7_byteAt_14 ?_
      obtain ⟨hk5, hn7⟩ := gka_7_bytes hk2
      have ht6 : (t + 1) < N := Nat.lt_of_lt_of_le (gck_lt13 hk5) hN
      refine gx_bal F G hk5 ht6 hn7 dX7_byteAt_17 ?_
      refine lv_icmp_ge (tgt := 34) hx hb dX7_byteAt_18 (by decide) (fun q8 => ?_) (fun q8 => ?_)
      · replace h := gt_s q8 h
        refine lv_iconst (v := (-1)) hx hb dX7_byteAt_34 (by decide) ?_
        cases h
        rw [← hQ]
        exact gx_iret F G hr hlocks dX7_byteAt_35
      · replace h := gf_s q8 h
        refine lv_aload_n hx hb dX7_byteAt_21 rfl (lv_at hl 0 rfl) ?_
        refine fg_7_bytes F G hk2 ht3 in7 (by decide +kernel) dX7_byteAt_22 ?_
        refine lv_iload_n hx hb dX7_byteAt_25 rfl (lv_at hl 1 rfl) ?_
        obtain ⟨hi9, h⟩ := gc_s h
        refine gx_ba F G hk5 ht6 hn7 hi9 dX7_byteAt_26 ?_
        refine lv_sipush (v := 255) hx hb dX7_byteAt_27 (by decide) ?_
        refine lv_iand hx hb dX7_byteAt_30 ?_
        refine lv_goto (tgt := 35) hx hb dX7_byteAt_31 (by decide) ?_
        cases h
        rw [← hQ]
        exact gx_iret F G hr hlocks dX7_byteAt_35
def m_X7_takeNumber_L25 (t : Nat) (c11 : gm) : Option ((gm) ⊕ (gm)) :=
  (if (c11.1 t 2) ≤ (c11.1 t 3) then some (.inr c11) else gb (m_X7_byteAt t (c11.1 t 3) c11) (fun (r22 : Int32) => gb (m_X7_isDigit r22) (fun (r24 : Int32) => (if r24 = 0 then some (.inr c11) else gb (m_X7_byteAt t (c11.1 t 3) c11) (fun (r27 : Int32) => gv (gm_r c11 t (upd (c11.1 t) 5 (if 1000000 < ((((c11.1 t 5) * 10) + r27) - 48) then 1000000 else ((((c11.1 t 5) * 10) + r27) - 48)))) (fun (c28 : gm) => gv (gm_r c28 t (upd (c28.1 t) 3 ((c28.1 t 3) + 1))) (fun (c29 : gm) => some (.inl c29))))))))
def m_X7_takeNumber (n : Nat) (t : Nat) (a1 : Int32) (a2 : Int32) (c : gm) : Option (Int32 × gm) :=
  gc (gck t = 7) (gb2 (m_X7_peek n t c) (fun (r4 : Int32) (c5 : gm) => gb (m_X7_isDigit r4) (fun (r7 : Int32) => (if r7 = 0 then gb2 (m_X7_fail t 1 (c5.1 t 4) c5) (fun (r31 : Int32) (c32 : gm) => gc (r31 = 0 ∨ r31 = 1) (some (r31, c32))) else gv (gm_r c5 t (upd (c5.1 t) 5 0)) (fun (c9 : gm) => gb (gloop (fun (c11 : gm) => m_X7_takeNumber_L25 t c11) n c9) (fun (c12 : gm) => gj (fun (_ : Unit) => gb2 (m_X7_fail t 2 (c12.1 t 4) c12) (fun (r15 : Int32) (c16 : gm) => (if r15 = 0 then some (0, c16) else some (1, c16)))) (fun K13 => (if (c12.1 t 5) < a1 then K13 () else (if (c12.1 t 5) ≤ a2 then some (1, c12) else K13 ())))))))))
abbrev rmX7_takeNumber : Room := { frames := 1, cells := 0, slots := 0, locals := 40 }
set_option maxHeartbeats 4000000 in
set_option maxRecDepth 100000 in
theorem c_X7_takeNumber (l : Launch) (sa : gSa) (D : va_G) (ad : Nat → Nat) (cy : Nat → ClassId) (N sz : Nat) (hN : 55 ≤ N) (hI : gI ad N) (c d0 : gm) {n : Nat} {t : Nat} {a1 : Int32} {a2 : Int32} {rZ : Int32} {cZ : gm} (h : m_X7_takeNumber n t a1 a2 c = some (rZ, cZ)) : Met l yX7_takeNumber wsX7_takeNumber rmX7_takeNumber (va_Pc [.ref (ad t), .int a1, .int a2] (gP sa D ad cy N sz c d0)) (va_Qi (fun (z : Int32) (_ : Unit) => z = rZ) (fun _ U => gE D ad cy N cZ d0 U) (gA ad N sz)) 0 0 (gA ad N sz) := by
  refine Met.ofW (cc := cX7_takeNumber) (maxL := 3) (ret := (some .boolean)) (by decide) rfl ?_
  intro p e s m args below meth cod s₁ B hml hv
  obtain ⟨rfl, hsz, hP, hK, hZ⟩ := hv
  have hx := B.exec
  have hb := B.bytes
  have hr := B.returns
  have hts := atoms_spec (ws := wsX7_takeNumber) B.pre
  have hown : s.vm.findClass RX7 = some m.cls := findClass_of_methodNamed B.named
  have hlocks := B.notSynchronized
  subst hsz
  have hl := lv_entry ([.ref (ad t), .int a1, .int a2]) (n := 3) (Nat.le_of_ble_eq_true rfl)
  rw [lg_entry_eq]
  generalize (lg_sl ([.ref (ad t), .int a1, .int a2]) ++ List.replicate (3 - (lg_sl ([.ref (ad t), .int a1, .int a2])).length) Slot.unset).toArray = ls at hl ⊢
  have hl : lv_has ls 3 [(0, .ref (ad t)), (1, .int a1), (2, .int a2)] := hl
  have in7 : ∀ w ∈ wsX70, w ∈ wsX7_takeNumber := by decide +kernel
  generalize hargs : ([.ref (ad t), .int a1, .int a2] : List Value).toArray = args at *
  generalize hAe : gA ad N s.heap.size = A
  have F : gF sa D ad cy N A p s m args cod cX7_takeNumber 3 wsX7_takeNumber RX7 := ⟨hx, hb, hml, hown, hts, hK, hI, by rw [← hAe]; exact gA_ad, by rw [← hAe]; exact gA_sz, by rw [← hAe]; exact hZ⟩
  have G : gW D ad cy N A s.heap c d0 s.heap [] := ⟨hP, va_S.rf⟩
  generalize hQ : MQ below (va_Qi (fun (z : Int32) (_ : Unit) => z = rZ) (fun _ U => gE D ad cy N cZ d0 U) A) args s 0 0 A = Q
  suffices hgen : ∀ (H : Heap) (locs : List Loc), gW D ad cy N A s.heap c d0 H locs → W p l e rmX7_takeNumber s m args below meth cod H locs 0 0 Q (F0 m 0 ls []) from hgen _ _ G
  clear G
  intro H locs G
  unfold m_X7_takeNumber at h
  refine lv_aload_n hx hb dX7_takeNumber_0 rfl (lv_at hl 0 rfl) ?_
  obtain ⟨hk1, h⟩ := gc_s h
  have ht2 : t < N := Nat.lt_of_lt_of_le (gck_lt7 hk1) hN
  obtain ⟨r4, c5, hc3, h⟩ := gb2_s h
  refine gx_calli F G (va_runV (As := []) (rest := []) (gx_fix F) (c_X7_peek l sa D ad cy N H.size hN hI c d0 hc3) (cwV 0 hts gX7_takeNumber_X7_peek rfl rfl rfl (by decide +kernel) ⟨by decide, by decide⟩) (gx_rec F G ht2 (gwe_7 hk1) rfl) rfl rfl hl.1 rfl (lv_room (Nat.le_of_ble_eq_true rfl)) dX7_takeNumber_1 ⟨Nat.zero_le _, Nat.zero_le _⟩) (fun H locs G => ?_)
  obtain ⟨r7, hc6, h⟩ := gb_s h
  refine gx_calli F G (va_runS (As := [.int r4]) (rest := []) (gx_fix F) (c_X7_isDigit l sa D ad cy N H.size hN hI c5 d0 hc6) (va_cwS 1 hts gX7_takeNumber_X7_isDigit rfl rfl rfl (by decide +kernel) ⟨by decide, by decide⟩) (gx_pre F G) rfl rfl hl.1 rfl (lv_room (Nat.le_of_ble_eq_true rfl)) dX7_takeNumber_4 ⟨Nat.zero_le _, Nat.zero_le _⟩) (fun H locs G => ?_)
  refine lv_if_ne (tgt := 20) hx hb dX7_takeNumber_7 (by decide) (fun q8 => ?_) (fun q8 => ?_)
  · replace h := gf_s q8 h
    refine lv_aload_n hx hb dX7_takeNumber_20 rfl (lv_at hl 0 rfl) ?_
    refine lv_iconst (v := 0) hx hb dX7_takeNumber_21 (by decide) ?_
    refine fp_7_value F G hk1 ht2 in7 (by decide +kernel) dX7_takeNumber_22 (fun H locs G => ?_)
    obtain ⟨c9, ec9⟩ : ∃ z, z = gm_r c5 t (upd (c5.1 t) 5 0) := ⟨_, rfl⟩
    rw [← ec9] at G
    replace h := gv_s h c9 ec9
    obtain ⟨b10, hb10, hK10⟩ := gb_s h
    have E10 : ∀ (c12 : gm) (H : Heap) (locs : List Loc) (ls : Array Slot), (c12 : gm) = b10 → gW D ad cy N A s.heap c12 d0 H locs → lv_has ls 3 [(0, .ref (ad t)), (1, .int a1), (2, .int a2)] → W p l e rmX7_takeNumber s m args below meth cod H locs 0 0 Q (F0 m 91 ls []) := by
      intro c12 H locs ls hq10 G hl
      subst hq10
      replace hK10 := hK10
      have h := hK10
      refine lv_aload_n hx hb dX7_takeNumber_91 rfl (lv_at hl 0 rfl) ?_
      refine fg_7_value F G hk1 ht2 in7 (by decide +kernel) dX7_takeNumber_92 ?_
      refine lv_iload_n hx hb dX7_takeNumber_95 rfl (lv_at hl 1 rfl) ?_
      obtain ⟨K13, eK13, h⟩ := gj_s h
      have JK13 : ∀ (H : Heap) (locs : List Loc) (ls : Array Slot), K13 () = some (rZ, cZ) → gW D ad cy N A s.heap c12 d0 H locs → lv_has ls 3 [(0, .ref (ad t))] → W p l e rmX7_takeNumber s m args below meth cod H locs 0 0 Q (F0 m 107 ls []) := by
        intro  H locs ls h G hl
        rw [eK13] at h
        refine lv_aload_n hx hb dX7_takeNumber_107 rfl (lv_at hl 0 rfl) ?_
        refine lv_iconst (v := 2) hx hb dX7_takeNumber_108 (by decide) ?_
        refine lv_aload_n hx hb dX7_takeNumber_109 rfl (lv_at hl 0 rfl) ?_
        refine fg_7_mark F G hk1 ht2 in7 (by decide +kernel) dX7_takeNumber_110 ?_
        obtain ⟨r15, c16, hc14, h⟩ := gb2_s h
        refine gx_calli F G (va_runV (As := [.int 2, .int (c12.1 t 4)]) (rest := []) (gx_fix F) (c_X7_fail l sa D ad cy N H.size hN hI c12 d0 hc14) (cwV 2 hts gX7_takeNumber_X7_fail rfl rfl rfl (by decide +kernel) ⟨by decide, by decide⟩) (gx_rec F G ht2 (gwe_7 hk1) rfl) rfl rfl hl.1 rfl (lv_room (Nat.le_of_ble_eq_true rfl)) dX7_takeNumber_113 ⟨Nat.zero_le _, Nat.zero_le _⟩) (fun H locs G => ?_)
        refine lv_if_eq (tgt := 123) hx hb dX7_takeNumber_116 (by decide) (fun q17 => ?_) (fun q17 => ?_)
        · replace h := gt_s q17 h
          refine lv_iconst (v := 0) hx hb dX7_takeNumber_123 (by decide) ?_
          cases h
          rw [← hQ]
          exact gx_zret F G hr hlocks rfl dX7_takeNumber_124
        · replace h := gf_s q17 h
          refine lv_iconst (v := 1) hx hb dX7_takeNumber_119 (by decide) ?_
          refine lv_goto (tgt := 124) hx hb dX7_takeNumber_120 (by decide) ?_
          cases h
          rw [← hQ]
          exact gx_zret F G hr hlocks rfl dX7_takeNumber_124
      refine lv_icmp_lt (tgt := 107) hx hb dX7_takeNumber_96 (by decide) (fun q18 => ?_) (fun q18 => ?_)
      · replace h := gt_s q18 h
        exact JK13  _ _ _ h G (lv_sub hl [0] rfl)
      · replace h := gf_s q18 h
        refine lv_aload_n hx hb dX7_takeNumber_99 rfl (lv_at hl 0 rfl) ?_
        refine fg_7_value F G hk1 ht2 in7 (by decide +kernel) dX7_takeNumber_100 ?_
        refine lv_iload_n hx hb dX7_takeNumber_103 rfl (lv_at hl 2 rfl) ?_
        refine lv_icmp_le (tgt := 119) hx hb dX7_takeNumber_104 (by decide) (fun q19 => ?_) (fun q19 => ?_)
        · replace h := gt_s q19 h
          refine lv_iconst (v := 1) hx hb dX7_takeNumber_119 (by decide) ?_
          refine lv_goto (tgt := 124) hx hb dX7_takeNumber_120 (by decide) ?_
          cases h
          rw [← hQ]
          exact gx_zret F G hr hlocks rfl dX7_takeNumber_124
        · replace h := gf_s q19 h
          exact JK13  _ _ _ h G (lv_sub hl [0] rfl)
    have L10 : ∀ (n9 : Nat) (c11 : gm) (H : Heap) (locs : List Loc) (ls : Array Slot), gloop (fun (c11 : gm) => m_X7_takeNumber_L25 t c11) n9 c11 = some b10 → gW D ad cy N A s.heap c11 d0 H locs → lv_has ls 3 [(0, .ref (ad t)), (1, .int a1), (2, .int a2)] → W p l e rmX7_takeNumber s m args below meth cod H locs 0 0 Q (F0 m 25 ls []) := by
      intro n9
      induction n9 with
      | zero => intro c11 H locs ls h; exact (gloop_0 h).elim
      | succ n9 ih =>
        intro c11 H locs ls h G hl
        have ih10 := ih
        obtain ⟨o10, h, hn10⟩ := gloop_s h
        unfold m_X7_takeNumber_L25 at h
        refine lv_aload_n hx hb dX7_takeNumber_25 rfl (lv_at hl 0 rfl) ?_
        refine fg_7_at F G hk1 ht2 in7 (by decide +kernel) dX7_takeNumber_26 ?_
        refine lv_aload_n hx hb dX7_takeNumber_29 rfl (lv_at hl 0 rfl) ?_
        refine fg_7_length F G hk1 ht2 in7 (by decide +kernel) dX7_takeNumber_30 ?_
        refine lv_icmp_ge (tgt := 91) hx hb dX7_takeNumber_33 (by decide) (fun q20 => ?_) (fun q20 => ?_)
        · replace h := gt_s q20 h
          cases h
          exact E10 _ _ _ _ (gnx_r hn10) G hl
        · replace h := gf_s q20 h
          refine lv_aload_n hx hb dX7_takeNumber_36 rfl (lv_at hl 0 rfl) ?_
          refine lv_aload_n hx hb dX7_takeNumber_37 rfl (lv_at hl 0 rfl) ?_
          refine fg_7_at F G hk1 ht2 in7 (by decide +kernel) dX7_takeNumber_38 ?_
          obtain ⟨r22, hc21, h⟩ := gb_s h
          refine gx_calli F G (va_runV (As := [.int (c11.1 t 3)]) (rest := []) (gx_fix F) (c_X7_byteAt l sa D ad cy N H.size hN hI c11 d0 hc21) (cwV 1 hts gX7_takeNumber_X7_byteAt rfl rfl rfl (by decide +kernel) ⟨by decide, by decide⟩) (gx_rec F G ht2 (gwe_7 hk1) rfl) rfl rfl hl.1 rfl (lv_room (Nat.le_of_ble_eq_true rfl)) dX7_takeNumber_41 ⟨Nat.zero_le _, Nat.zero_le _⟩) (fun H locs G => ?_)
          obtain ⟨r24, hc23, h⟩ := gb_s h
          refine gx_calli F G (va_runS (As := [.int r22]) (rest := []) (gx_fix F) (c_X7_isDigit l sa D ad cy N H.size hN hI c11 d0 hc23) (va_cwS 1 hts gX7_takeNumber_X7_isDigit rfl rfl rfl (by decide +kernel) ⟨by decide, by decide⟩) (gx_pre F G) rfl rfl hl.1 rfl (lv_room (Nat.le_of_ble_eq_true rfl)) dX7_takeNumber_44 ⟨Nat.zero_le _, Nat.zero_le _⟩) (fun H locs G => ?_)
          refine lv_if_eq (tgt := 91) hx hb dX7_takeNumber_47 (by decide) (fun q25 => ?_) (fun q25 => ?_)
          · replace h := gt_s q25 h
            cases h
            exact E10 _ _ _ _ (gnx_r hn10) G hl
          · replace h := gf_s q25 h
            refine lv_aload_n hx hb dX7_takeNumber_50 rfl (lv_at hl 0 rfl) ?_
            refine lv_aload_n hx hb dX7_takeNumber_51 rfl (lv_at hl 0 rfl) ?_
            refine fg_7_value F G hk1 ht2 in7 (by decide +kernel) dX7_takeNumber_52 ?_
            refine lv_bipush (v := 10) hx hb dX7_takeNumber_55 (by decide) ?_
            refine lv_imul hx hb dX7_takeNumber_57 ?_
            refine lv_aload_n hx hb dX7_takeNumber_58 rfl (lv_at hl 0 rfl) ?_
            refine lv_aload_n hx hb dX7_takeNumber_59 rfl (lv_at hl 0 rfl) ?_
            refine fg_7_at F G hk1 ht2 in7 (by decide +kernel) dX7_takeNumber_60 ?_
            obtain ⟨r27, hc26, h⟩ := gb_s h
            refine gx_calli F G (va_runV (As := [.int (c11.1 t 3)]) (rest := [.int ((c11.1 t 5) * 10), .ref (ad t)]) (gx_fix F) (c_X7_byteAt l sa D ad cy N H.size hN hI c11 d0 hc26) (cwV 1 hts gX7_takeNumber_X7_byteAt rfl rfl rfl (by decide +kernel) ⟨by decide, by decide⟩) (gx_rec F G ht2 (gwe_7 hk1) rfl) rfl rfl hl.1 rfl (lv_room (Nat.le_of_ble_eq_true rfl)) dX7_takeNumber_63 ⟨Nat.zero_le _, Nat.zero_le _⟩) (fun H locs G => ?_)
            refine lv_iadd hx hb dX7_takeNumber_66 ?_
            refine lv_bipush (v := 48) hx hb dX7_takeNumber_67 (by decide) ?_
            refine lv_isub hx hb dX7_takeNumber_69 ?_
            refine lv_ldc (v := 1000000) hx hb hown (hts (.constant RX7 53 (1000000)) (by decide +kernel)) dX7_takeNumber_70 ?_
            refine va_mmin hx hb (hml.trans hl.1.symm) hown (hts (.methodLink RX7 54 Lib.Math.min.name) (by decide +kernel)) (hts (.static Lib.Math.min.name) (by decide +kernel)) (hts (.initialized "java/lang/Math") (by decide +kernel)) (hts (.code Lib.Math.min.name Lib.Math.min.code 2 (some .int)) (by decide +kernel)) (Nat.le_of_ble_eq_true rfl) (Nat.le_of_ble_eq_true rfl) (Nat.zero_le _) (Nat.zero_le _) dX7_takeNumber_72 ?_
            refine fp_7_value F G hk1 ht2 in7 (by decide +kernel) dX7_takeNumber_75 (fun H locs G => ?_)
            obtain ⟨c28, ec28⟩ : ∃ z, z = gm_r c11 t (upd (c11.1 t) 5 (if 1000000 < ((((c11.1 t 5) * 10) + r27) - 48) then 1000000 else ((((c11.1 t 5) * 10) + r27) - 48))) := ⟨_, rfl⟩
            rw [← ec28] at G
            replace h := gv_s h c28 ec28
            refine lv_aload_n hx hb dX7_takeNumber_78 rfl (lv_at hl 0 rfl) ?_
            refine lv_dup hx hb dX7_takeNumber_79 rfl ?_
            refine fg_7_at F G hk1 ht2 in7 (by decide +kernel) dX7_takeNumber_80 ?_
            refine lv_iconst (v := 1) hx hb dX7_takeNumber_83 (by decide) ?_
            refine lv_iadd hx hb dX7_takeNumber_84 ?_
            refine fp_7_at F G hk1 ht2 in7 (by decide +kernel) dX7_takeNumber_85 (fun H locs G => ?_)
            obtain ⟨c29, ec29⟩ : ∃ z, z = gm_r c28 t (upd (c28.1 t) 3 ((c28.1 t 3) + 1)) := ⟨_, rfl⟩
            rw [← ec29] at G
            replace h := gv_s h c29 ec29
            refine lv_goto (tgt := 25) hx hb dX7_takeNumber_88 (by decide) ?_
            cases h
            exact ih10 _ _ _ _ hn10 G hl
    exact L10 n _ _ _ _ hb10 G hl
  · replace h := gt_s q8 h
    refine lv_aload_n hx hb dX7_takeNumber_10 rfl (lv_at hl 0 rfl) ?_
    refine lv_iconst (v := 1) hx hb dX7_takeNumber_11 (by decide) ?_
    refine lv_aload_n hx hb dX7_takeNumber_12 rfl (lv_at hl 0 rfl) ?_
    refine fg_7_mark F G hk1 ht2 in7 (by decide +kernel) dX7_takeNumber_13 ?_
    obtain ⟨r31, c32, hc30, h⟩ := gb2_s h
    refine gx_calli F G (va_runV (As := [.int 1, .int (c5.1 t 4)]) (rest := []) (gx_fix F) (c_X7_fail l sa D ad cy N H.size hN hI c5 d0 hc30) (cwV 2 hts gX7_takeNumber_X7_fail rfl rfl rfl (by decide +kernel) ⟨by decide, by decide⟩) (gx_rec F G ht2 (gwe_7 hk1) rfl) rfl rfl hl.1 rfl (lv_room (Nat.le_of_ble_eq_true rfl)) dX7_takeNumber_16 ⟨Nat.zero_le _, Nat.zero_le _⟩) (fun H locs G => ?_)
    obtain ⟨hz33, h⟩ := gc_s h
    cases h
    rw [← hQ]
    exact gx_zret F G hr hlocks (gnb hz33) dX7_takeNumber_19
def m_X7_takeOther (n : Nat) (t : Nat) (a1 : Int32) (a2 : Int32) (c : gm) : Option (Int32 × gm) :=
  gc (gck t = 7) (gb2 (m_X7_takeNumber n t 0 (a1 - 1) c) (fun (r4 : Int32) (c5 : gm) => (if r4 = 0 then some (0, c5) else (if (c5.1 t 5) = a2 then gb2 (m_X7_fail t 2 (c5.1 t 4) c5) (fun (r9 : Int32) (c10 : gm) => (if r9 = 0 then some (0, c10) else some (1, c10))) else some (1, c5)))))
abbrev rmX7_takeOther : Room := { frames := 2, cells := 0, slots := 0, locals := 62 }
set_option maxHeartbeats 4000000 in
set_option maxRecDepth 100000 in
theorem c_X7_takeOther (l : Launch) (sa : gSa) (D : va_G) (ad : Nat → Nat) (cy : Nat → ClassId) (N sz : Nat) (hN : 55 ≤ N) (hI : gI ad N) (c d0 : gm) {n : Nat} {t : Nat} {a1 : Int32} {a2 : Int32} {rZ : Int32} {cZ : gm} (h : m_X7_takeOther n t a1 a2 c = some (rZ, cZ)) : Met l yX7_takeOther wsX7_takeOther rmX7_takeOther (va_Pc [.ref (ad t), .int a1, .int a2] (gP sa D ad cy N sz c d0)) (va_Qi (fun (z : Int32) (_ : Unit) => z = rZ) (fun _ U => gE D ad cy N cZ d0 U) (gA ad N sz)) 0 0 (gA ad N sz) := by
  refine Met.ofW (cc := cX7_takeOther) (maxL := 3) (ret := (some .boolean)) (by decide) rfl ?_
  intro p e s m args below meth cod s₁ B hml hv
  obtain ⟨rfl, hsz, hP, hK, hZ⟩ := hv
  have hx := B.exec
  have hb := B.bytes
  have hr := B.returns
  have hts := atoms_spec (ws := wsX7_takeOther) B.pre
  have hown : s.vm.findClass RX7 = some m.cls := findClass_of_methodNamed B.named
  have hlocks := B.notSynchronized
  subst hsz
  have hl := lv_entry ([.ref (ad t), .int a1, .int a2]) (n := 3) (Nat.le_of_ble_eq_true rfl)
  rw [lg_entry_eq]
  generalize (lg_sl ([.ref (ad t), .int a1, .int a2]) ++ List.replicate (3 - (lg_sl ([.ref (ad t), .int a1, .int a2])).length) Slot.unset).toArray = ls at hl ⊢
  have hl : lv_has ls 3 [(0, .ref (ad t)), (1, .int a1), (2, .int a2)] := hl
  have in7 : ∀ w ∈ wsX70, w ∈ wsX7_takeOther := by decide +kernel
  generalize hargs : ([.ref (ad t), .int a1, .int a2] : List Value).toArray = args at *
  generalize hAe : gA ad N s.heap.size = A
  have F : gF sa D ad cy N A p s m args cod cX7_takeOther 3 wsX7_takeOther RX7 := ⟨hx, hb, hml, hown, hts, hK, hI, by rw [← hAe]; exact gA_ad, by rw [← hAe]; exact gA_sz, by rw [← hAe]; exact hZ⟩
  have G : gW D ad cy N A s.heap c d0 s.heap [] := ⟨hP, va_S.rf⟩
  generalize hQ : MQ below (va_Qi (fun (z : Int32) (_ : Unit) => z = rZ) (fun _ U => gE D ad cy N cZ d0 U) A) args s 0 0 A = Q
  suffices hgen : ∀ (H : Heap) (locs : List Loc), gW D ad cy N A s.heap c d0 H locs → W p l e rmX7_takeOther s m args below meth cod H locs 0 0 Q (F0 m 0 ls []) from hgen _ _ G
  clear G
  intro H locs G
  unfold m_X7_takeOther at h
  refine lv_aload_n hx hb dX7_takeOther_0 rfl (lv_at hl 0 rfl) ?_
  refine lv_iconst (v := 0) hx hb dX7_takeOther_1 (by decide) ?_
  refine lv_iload_n hx hb dX7_takeOther_2 rfl (lv_at hl 1 rfl) ?_
  refine lv_iconst (v := 1) hx hb dX7_takeOther_3 (by decide) ?_
  refine lv_isub hx hb dX7_takeOther_4 ?_
  obtain ⟨hk1, h⟩ := gc_s h
  have ht2 : t < N := Nat.lt_of_lt_of_le (gck_lt7 hk1) hN
  obtain ⟨r4, c5, hc3, h⟩ := gb2_s h
  refine gx_calli F G (va_runV (As := [.int 0, .int (a1 - 1)]) (rest := []) (gx_fix F) (c_X7_takeNumber l sa D ad cy N H.size hN hI c d0 hc3) (cwV 2 hts gX7_takeOther_X7_takeNumber rfl rfl rfl (by decide +kernel) ⟨by decide, by decide⟩) (gx_rec F G ht2 (gwe_7 hk1) rfl) rfl rfl hl.1 rfl (lv_room (Nat.le_of_ble_eq_true rfl)) dX7_takeOther_5 ⟨Nat.zero_le _, Nat.zero_le _⟩) (fun H locs G => ?_)
  refine lv_if_eq (tgt := 35) hx hb dX7_takeOther_8 (by decide) (fun q6 => ?_) (fun q6 => ?_)
  · replace h := gt_s q6 h
    refine lv_iconst (v := 0) hx hb dX7_takeOther_35 (by decide) ?_
    cases h
    rw [← hQ]
    exact gx_zret F G hr hlocks rfl dX7_takeOther_36
  · replace h := gf_s q6 h
    refine lv_aload_n hx hb dX7_takeOther_11 rfl (lv_at hl 0 rfl) ?_
    refine fg_7_value F G hk1 ht2 in7 (by decide +kernel) dX7_takeOther_12 ?_
    refine lv_iload_n hx hb dX7_takeOther_15 rfl (lv_at hl 2 rfl) ?_
    refine lv_icmp_ne (tgt := 31) hx hb dX7_takeOther_16 (by decide) (fun q7 => ?_) (fun q7 => ?_)
    · replace h := gf_s q7 h
      refine lv_iconst (v := 1) hx hb dX7_takeOther_31 (by decide) ?_
      refine lv_goto (tgt := 36) hx hb dX7_takeOther_32 (by decide) ?_
      cases h
      rw [← hQ]
      exact gx_zret F G hr hlocks rfl dX7_takeOther_36
    · replace h := gt_s q7 h
      refine lv_aload_n hx hb dX7_takeOther_19 rfl (lv_at hl 0 rfl) ?_
      refine lv_iconst (v := 2) hx hb dX7_takeOther_20 (by decide) ?_
      refine lv_aload_n hx hb dX7_takeOther_21 rfl (lv_at hl 0 rfl) ?_
      refine fg_7_mark F G hk1 ht2 in7 (by decide +kernel) dX7_takeOther_22 ?_
      obtain ⟨r9, c10, hc8, h⟩ := gb2_s h
      refine gx_calli F G (va_runV (As := [.int 2, .int (c5.1 t 4)]) (rest := []) (gx_fix F) (c_X7_fail l sa D ad cy N H.size hN hI c5 d0 hc8) (cwV 2 hts gX7_takeOther_X7_fail rfl rfl rfl (by decide +kernel) ⟨by decide, by decide⟩) (gx_rec F G ht2 (gwe_7 hk1) rfl) rfl rfl hl.1 rfl (lv_room (Nat.le_of_ble_eq_true rfl)) dX7_takeOther_25 ⟨Nat.zero_le _, Nat.zero_le _⟩) (fun H locs G => ?_)
      refine lv_if_eq (tgt := 35) hx hb dX7_takeOther_28 (by decide) (fun q11 => ?_) (fun q11 => ?_)
      · replace h := gt_s q11 h
        refine lv_iconst (v := 0) hx hb dX7_takeOther_35 (by decide) ?_
        cases h
        rw [← hQ]
        exact gx_zret F G hr hlocks rfl dX7_takeOther_36
      · replace h := gf_s q11 h
        refine lv_iconst (v := 1) hx hb dX7_takeOther_31 (by decide) ?_
        refine lv_goto (tgt := 36) hx hb dX7_takeOther_32 (by decide) ?_
        cases h
        rw [← hQ]
        exact gx_zret F G hr hlocks rfl dX7_takeOther_36
def m_X0_readLine (n : Nat) (t : Nat) (a1 : Nat) (a2 : Int32) (c : gm) : Option (Int32 × gm) :=
  gc (gck a1 = 7) (gb2 (m_X7_takeNumber n a1 0 (a2 - 1) c) (fun (r4 : Int32) (c5 : gm) => (if r4 = 0 then some (0, c5) else gc (gck t = 0) ((if (c5.1 t 5) < 6 then gc (0 ≤ (c5.1 t 5).toInt ∧ (c5.1 t 5).toInt < 6) (gv (gm_r c5 (t + 1) (upd (c5.1 (t + 1)) (c5.1 t 5).toNatClampNeg (c5.1 a1 5))) (fun (c14 : gm) => gc (0 ≤ (c14.1 t 5).toInt ∧ (c14.1 t 5).toInt < 6) (gb2 (m_X7_takeOther n a1 a2 (c14.1 (t + 1) (c14.1 t 5).toNatClampNeg) c14) (fun (r17 : Int32) (c18 : gm) => (if r17 = 0 then some (0, c18) else gc (0 ≤ (c18.1 t 5).toInt ∧ (c18.1 t 5).toInt < 6) (gv (gm_r c18 (t + 2) (upd (c18.1 (t + 2)) (c18.1 t 5).toNatClampNeg (c18.1 a1 5))) (fun (c24 : gm) => gb2 (m_X7_takeNumber n a1 0 2 c24) (fun (r26 : Int32) (c27 : gm) => (if r26 = 0 then some (0, c27) else gc (0 ≤ (c27.1 t 5).toInt ∧ (c27.1 t 5).toInt < 6) (gv (gm_r c27 (t + 3) (upd (c27.1 (t + 3)) (c27.1 t 5).toNatClampNeg (c27.1 a1 5))) (fun (c33 : gm) => gv (gm_r c33 t (upd (c33.1 t) 5 ((c33.1 t 5) + 1))) (fun (c34 : gm) => some (1, c34))))))))))))) else gb2 (m_X7_fail a1 3 (c5.1 a1 4) c5) (fun (r36 : Int32) (c37 : gm) => gc (r36 = 0 ∨ r36 = 1) (some (r36, c37))))))))
abbrev rmX0_readLine : Room := { frames := 3, cells := 0, slots := 0, locals := 84 }
set_option maxHeartbeats 4000000 in
set_option maxRecDepth 100000 in
theorem c_X0_readLine (l : Launch) (sa : gSa) (D : va_G) (ad : Nat → Nat) (cy : Nat → ClassId) (N sz : Nat) (hN : 55 ≤ N) (hI : gI ad N) (c d0 : gm) {n : Nat} {t : Nat} {a1 : Nat} {a2 : Int32} {rZ : Int32} {cZ : gm} (h : m_X0_readLine n t a1 a2 c = some (rZ, cZ)) : Met l yX0_readLine wsX0_readLine rmX0_readLine (va_Pc [.ref (ad t), .ref (ad a1), .int a2] (gP sa D ad cy N sz c d0)) (va_Qi (fun (z : Int32) (_ : Unit) => z = rZ) (fun _ U => gE D ad cy N cZ d0 U) (gA ad N sz)) 0 0 (gA ad N sz) := by
  refine Met.ofW (cc := cX0_readLine) (maxL := 3) (ret := (some .boolean)) (by decide) rfl ?_
  intro p e s m args below meth cod s₁ B hml hv
  obtain ⟨rfl, hsz, hP, hK, hZ⟩ := hv
  have hx := B.exec
  have hb := B.bytes
  have hr := B.returns
  have hts := atoms_spec (ws := wsX0_readLine) B.pre
  have hown : s.vm.findClass RX0 = some m.cls := findClass_of_methodNamed B.named
  have hlocks := B.notSynchronized
  subst hsz
  have hl := lv_entry ([.ref (ad t), .ref (ad a1), .int a2]) (n := 3) (Nat.le_of_ble_eq_true rfl)
  rw [lg_entry_eq]
  generalize (lg_sl ([.ref (ad t), .ref (ad a1), .int a2]) ++ List.replicate (3 - (lg_sl ([.ref (ad t), .ref (ad a1), .int a2])).length) Slot.unset).toArray = ls at hl ⊢
  have hl : lv_has ls 3 [(0, .ref (ad t)), (1, .ref (ad a1)), (2, .int a2)] := hl
  have in0 : ∀ w ∈ wsX00, w ∈ wsX0_readLine := by decide +kernel
  have in7 : ∀ w ∈ wsX70, w ∈ wsX0_readLine := by decide +kernel
  generalize hargs : ([.ref (ad t), .ref (ad a1), .int a2] : List Value).toArray = args at *
  generalize hAe : gA ad N s.heap.size = A
  have F : gF sa D ad cy N A p s m args cod cX0_readLine 3 wsX0_readLine RX0 := ⟨hx, hb, hml, hown, hts, hK, hI, by rw [← hAe]; exact gA_ad, by rw [← hAe]; exact gA_sz, by rw [← hAe]; exact hZ⟩
  have G : gW D ad cy N A s.heap c d0 s.heap [] := ⟨hP, va_S.rf⟩
  generalize hQ : MQ below (va_Qi (fun (z : Int32) (_ : Unit) => z = rZ) (fun _ U => gE D ad cy N cZ d0 U) A) args s 0 0 A = Q
  suffices hgen : ∀ (H : Heap) (locs : List Loc), gW D ad cy N A s.heap c d0 H locs → W p l e rmX0_readLine s m args below meth cod H locs 0 0 Q (F0 m 0 ls []) from hgen _ _ G
  clear G
  intro H locs G
  unfold m_X0_readLine at h
  refine lv_aload_n hx hb dX0_readLine_0 rfl (lv_at hl 1 rfl) ?_
  refine lv_iconst (v := 0) hx hb dX0_readLine_1 (by decide) ?_
  refine lv_iload_n hx hb dX0_readLine_2 rfl (lv_at hl 2 rfl) ?_
  refine lv_iconst (v := 1) hx hb dX0_readLine_3 (by decide) ?_
  refine lv_isub hx hb dX0_readLine_4 ?_
  obtain ⟨hk1, h⟩ := gc_s h
  have ht2 : a1 < N := Nat.lt_of_lt_of_le (gck_lt7 hk1) hN
  obtain ⟨r4, c5, hc3, h⟩ := gb2_s h
  refine gx_calli F G (va_runV (As := [.int 0, .int (a2 - 1)]) (rest := []) (gx_fix F) (c_X7_takeNumber l sa D ad cy N H.size hN hI c d0 hc3) (cwV 2 hts gX0_readLine_X7_takeNumber rfl rfl rfl (by decide +kernel) ⟨by decide, by decide⟩) (gx_rec F G ht2 (gwe_7 hk1) rfl) rfl rfl hl.1 rfl (lv_room (Nat.le_of_ble_eq_true rfl)) dX0_readLine_5 ⟨Nat.zero_le _, Nat.zero_le _⟩) (fun H locs G => ?_)
  refine lv_if_ne (tgt := 13) hx hb dX0_readLine_8 (by decide) (fun q6 => ?_) (fun q6 => ?_)
  · replace h := gf_s q6 h
    refine lv_aload_n hx hb dX0_readLine_13 rfl (lv_at hl 0 rfl) ?_
    obtain ⟨hk7, h⟩ := gc_s h
    have ht8 : t < N := Nat.lt_of_lt_of_le (gck_lt0 hk7) hN
    refine fg_0_size F G hk7 ht8 in0 (by decide +kernel) dX0_readLine_14 ?_
    refine lv_bipush (v := 6) hx hb dX0_readLine_17 (by decide) ?_
    refine lv_icmp_lt (tgt := 32) hx hb dX0_readLine_19 (by decide) (fun q9 => ?_) (fun q9 => ?_)
    · replace h := gt_s q9 h
      refine lv_aload_n hx hb dX0_readLine_32 rfl (lv_at hl 0 rfl) ?_
      refine fg_0_left F G hk7 ht8 in0 (by decide +kernel) dX0_readLine_33 ?_
      obtain ⟨hk10, hn12⟩ := gka_0_left hk7
      have ht11 : (t + 1) < N := Nat.lt_of_lt_of_le (gck_lt12 hk10) hN
      refine lv_aload_n hx hb dX0_readLine_36 rfl (lv_at hl 0 rfl) ?_
      refine fg_0_size F G hk7 ht8 in0 (by decide +kernel) dX0_readLine_37 ?_
      refine lv_aload_n hx hb dX0_readLine_40 rfl (lv_at hl 1 rfl) ?_
      refine fg_7_value F G hk1 ht2 in7 (by decide +kernel) dX0_readLine_41 ?_
      obtain ⟨hi13, h⟩ := gc_s h
      refine gx_is F G hk10 ht11 hn12 hi13 dX0_readLine_44 (fun H locs G => ?_)
      obtain ⟨c14, ec14⟩ : ∃ z, z = gm_r c5 (t + 1) (upd (c5.1 (t + 1)) (c5.1 t 5).toNatClampNeg (c5.1 a1 5)) := ⟨_, rfl⟩
      rw [← ec14] at G
      replace h := gv_s h c14 ec14
      refine lv_aload_n hx hb dX0_readLine_45 rfl (lv_at hl 1 rfl) ?_
      refine lv_iload_n hx hb dX0_readLine_46 rfl (lv_at hl 2 rfl) ?_
      refine lv_aload_n hx hb dX0_readLine_47 rfl (lv_at hl 0 rfl) ?_
      refine fg_0_left F G hk7 ht8 in0 (by decide +kernel) dX0_readLine_48 ?_
      refine lv_aload_n hx hb dX0_readLine_51 rfl (lv_at hl 0 rfl) ?_
      refine fg_0_size F G hk7 ht8 in0 (by decide +kernel) dX0_readLine_52 ?_
      obtain ⟨hi15, h⟩ := gc_s h
      refine gx_ia F G hk10 ht11 hn12 hi15 dX0_readLine_55 ?_
      obtain ⟨r17, c18, hc16, h⟩ := gb2_s h
      refine gx_calli F G (va_runV (As := [.int a2, .int (c14.1 (t + 1) (c14.1 t 5).toNatClampNeg)]) (rest := []) (gx_fix F) (c_X7_takeOther l sa D ad cy N H.size hN hI c14 d0 hc16) (cwV 2 hts gX0_readLine_X7_takeOther rfl rfl rfl (by decide +kernel) ⟨by decide, by decide⟩) (gx_rec F G ht2 (gwe_7 hk1) rfl) rfl rfl hl.1 rfl (lv_room (Nat.le_of_ble_eq_true rfl)) dX0_readLine_56 ⟨Nat.zero_le _, Nat.zero_le _⟩) (fun H locs G => ?_)
      refine lv_if_ne (tgt := 64) hx hb dX0_readLine_59 (by decide) (fun q19 => ?_) (fun q19 => ?_)
      · replace h := gf_s q19 h
        refine lv_aload_n hx hb dX0_readLine_64 rfl (lv_at hl 0 rfl) ?_
        refine fg_0_right F G hk7 ht8 in0 (by decide +kernel) dX0_readLine_65 ?_
        obtain ⟨hk20, hn22⟩ := gka_0_right hk7
        have ht21 : (t + 2) < N := Nat.lt_of_lt_of_le (gck_lt12 hk20) hN
        refine lv_aload_n hx hb dX0_readLine_68 rfl (lv_at hl 0 rfl) ?_
        refine fg_0_size F G hk7 ht8 in0 (by decide +kernel) dX0_readLine_69 ?_
        refine lv_aload_n hx hb dX0_readLine_72 rfl (lv_at hl 1 rfl) ?_
        refine fg_7_value F G hk1 ht2 in7 (by decide +kernel) dX0_readLine_73 ?_
        obtain ⟨hi23, h⟩ := gc_s h
        refine gx_is F G hk20 ht21 hn22 hi23 dX0_readLine_76 (fun H locs G => ?_)
        obtain ⟨c24, ec24⟩ : ∃ z, z = gm_r c18 (t + 2) (upd (c18.1 (t + 2)) (c18.1 t 5).toNatClampNeg (c18.1 a1 5)) := ⟨_, rfl⟩
        rw [← ec24] at G
        replace h := gv_s h c24 ec24
        refine lv_aload_n hx hb dX0_readLine_77 rfl (lv_at hl 1 rfl) ?_
        refine lv_iconst (v := 0) hx hb dX0_readLine_78 (by decide) ?_
        refine lv_iconst (v := 2) hx hb dX0_readLine_79 (by decide) ?_
        obtain ⟨r26, c27, hc25, h⟩ := gb2_s h
        refine gx_calli F G (va_runV (As := [.int 0, .int 2]) (rest := []) (gx_fix F) (c_X7_takeNumber l sa D ad cy N H.size hN hI c24 d0 hc25) (cwV 2 hts gX0_readLine_X7_takeNumber rfl rfl rfl (by decide +kernel) ⟨by decide, by decide⟩) (gx_rec F G ht2 (gwe_7 hk1) rfl) rfl rfl hl.1 rfl (lv_room (Nat.le_of_ble_eq_true rfl)) dX0_readLine_80 ⟨Nat.zero_le _, Nat.zero_le _⟩) (fun H locs G => ?_)
        refine lv_if_ne (tgt := 88) hx hb dX0_readLine_83 (by decide) (fun q28 => ?_) (fun q28 => ?_)
        · replace h := gf_s q28 h
          refine lv_aload_n hx hb dX0_readLine_88 rfl (lv_at hl 0 rfl) ?_
          refine fg_0_stood F G hk7 ht8 in0 (by decide +kernel) dX0_readLine_89 ?_
          obtain ⟨hk29, hn31⟩ := gka_0_stood hk7
          have ht30 : (t + 3) < N := Nat.lt_of_lt_of_le (gck_lt12 hk29) hN
          refine lv_aload_n hx hb dX0_readLine_92 rfl (lv_at hl 0 rfl) ?_
          refine fg_0_size F G hk7 ht8 in0 (by decide +kernel) dX0_readLine_93 ?_
          refine lv_aload_n hx hb dX0_readLine_96 rfl (lv_at hl 1 rfl) ?_
          refine fg_7_value F G hk1 ht2 in7 (by decide +kernel) dX0_readLine_97 ?_
          obtain ⟨hi32, h⟩ := gc_s h
          refine gx_is F G hk29 ht30 hn31 hi32 dX0_readLine_100 (fun H locs G => ?_)
          obtain ⟨c33, ec33⟩ : ∃ z, z = gm_r c27 (t + 3) (upd (c27.1 (t + 3)) (c27.1 t 5).toNatClampNeg (c27.1 a1 5)) := ⟨_, rfl⟩
          rw [← ec33] at G
          replace h := gv_s h c33 ec33
          refine lv_aload_n hx hb dX0_readLine_101 rfl (lv_at hl 0 rfl) ?_
          refine lv_dup hx hb dX0_readLine_102 rfl ?_
          refine fg_0_size F G hk7 ht8 in0 (by decide +kernel) dX0_readLine_103 ?_
          refine lv_iconst (v := 1) hx hb dX0_readLine_106 (by decide) ?_
          refine lv_iadd hx hb dX0_readLine_107 ?_
          refine fp_0_size F G hk7 ht8 in0 (by decide +kernel) dX0_readLine_108 (fun H locs G => ?_)
          obtain ⟨c34, ec34⟩ : ∃ z, z = gm_r c33 t (upd (c33.1 t) 5 ((c33.1 t 5) + 1)) := ⟨_, rfl⟩
          rw [← ec34] at G
          replace h := gv_s h c34 ec34
          refine lv_iconst (v := 1) hx hb dX0_readLine_111 (by decide) ?_
          cases h
          rw [← hQ]
          exact gx_zret F G hr hlocks rfl dX0_readLine_112
        · replace h := gt_s q28 h
          refine lv_iconst (v := 0) hx hb dX0_readLine_86 (by decide) ?_
          cases h
          rw [← hQ]
          exact gx_zret F G hr hlocks rfl dX0_readLine_87
      · replace h := gt_s q19 h
        refine lv_iconst (v := 0) hx hb dX0_readLine_62 (by decide) ?_
        cases h
        rw [← hQ]
        exact gx_zret F G hr hlocks rfl dX0_readLine_63
    · replace h := gf_s q9 h
      refine lv_aload_n hx hb dX0_readLine_22 rfl (lv_at hl 1 rfl) ?_
      refine lv_iconst (v := 3) hx hb dX0_readLine_23 (by decide) ?_
      refine lv_aload_n hx hb dX0_readLine_24 rfl (lv_at hl 1 rfl) ?_
      refine fg_7_mark F G hk1 ht2 in7 (by decide +kernel) dX0_readLine_25 ?_
      obtain ⟨r36, c37, hc35, h⟩ := gb2_s h
      refine gx_calli F G (va_runV (As := [.int 3, .int (c5.1 a1 4)]) (rest := []) (gx_fix F) (c_X7_fail l sa D ad cy N H.size hN hI c5 d0 hc35) (cwV 2 hts gX0_readLine_X7_fail rfl rfl rfl (by decide +kernel) ⟨by decide, by decide⟩) (gx_rec F G ht2 (gwe_7 hk1) rfl) rfl rfl hl.1 rfl (lv_room (Nat.le_of_ble_eq_true rfl)) dX0_readLine_28 ⟨Nat.zero_le _, Nat.zero_le _⟩) (fun H locs G => ?_)
      obtain ⟨hz38, h⟩ := gc_s h
      cases h
      rw [← hQ]
      exact gx_zret F G hr hlocks (gnb hz38) dX0_readLine_31
  · replace h := gt_s q6 h
    refine lv_iconst (v := 0) hx hb dX0_readLine_11 (by decide) ?_
    cases h
    rw [← hQ]
    exact gx_zret F G hr hlocks rfl dX0_readLine_12
def m_X7_takeSign (n : Nat) (t : Nat) (a1 : Int32) (c : gm) : Option (Int32 × gm) :=
  gc (gck t = 7) (gb2 (m_X7_peek n t c) (fun (r4 : Int32) (c5 : gm) => (if r4 = a1 then gv (gm_r c5 t (upd (c5.1 t) 3 ((c5.1 t 3) + 1))) (fun (c7 : gm) => some (1, c7)) else gb2 (m_X7_fail t 1 (c5.1 t 4) c5) (fun (r9 : Int32) (c10 : gm) => gc (r9 = 0 ∨ r9 = 1) (some (r9, c10))))))
abbrev rmX7_takeSign : Room := { frames := 1, cells := 0, slots := 0, locals := 22 }
set_option maxHeartbeats 4000000 in
set_option maxRecDepth 100000 in
theorem c_X7_takeSign (l : Launch) (sa : gSa) (D : va_G) (ad : Nat → Nat) (cy : Nat → ClassId) (N sz : Nat) (hN : 55 ≤ N) (hI : gI ad N) (c d0 : gm) {n : Nat} {t : Nat} {a1 : Int32} {rZ : Int32} {cZ : gm} (h : m_X7_takeSign n t a1 c = some (rZ, cZ)) : Met l yX7_takeSign wsX7_takeSign rmX7_takeSign (va_Pc [.ref (ad t), .int a1] (gP sa D ad cy N sz c d0)) (va_Qi (fun (z : Int32) (_ : Unit) => z = rZ) (fun _ U => gE D ad cy N cZ d0 U) (gA ad N sz)) 0 0 (gA ad N sz) := by
  refine Met.ofW (cc := cX7_takeSign) (maxL := 2) (ret := (some .boolean)) (by decide) rfl ?_
  intro p e s m args below meth cod s₁ B hml hv
  obtain ⟨rfl, hsz, hP, hK, hZ⟩ := hv
  have hx := B.exec
  have hb := B.bytes
  have hr := B.returns
  have hts := atoms_spec (ws := wsX7_takeSign) B.pre
  have hown : s.vm.findClass RX7 = some m.cls := findClass_of_methodNamed B.named
  have hlocks := B.notSynchronized
  subst hsz
  have hl := lv_entry ([.ref (ad t), .int a1]) (n := 2) (Nat.le_of_ble_eq_true rfl)
  rw [lg_entry_eq]
  generalize (lg_sl ([.ref (ad t), .int a1]) ++ List.replicate (2 - (lg_sl ([.ref (ad t), .int a1])).length) Slot.unset).toArray = ls at hl ⊢
  have hl : lv_has ls 2 [(0, .ref (ad t)), (1, .int a1)] := hl
  have in7 : ∀ w ∈ wsX70, w ∈ wsX7_takeSign := by decide +kernel
  generalize hargs : ([.ref (ad t), .int a1] : List Value).toArray = args at *
  generalize hAe : gA ad N s.heap.size = A
  have F : gF sa D ad cy N A p s m args cod cX7_takeSign 2 wsX7_takeSign RX7 := ⟨hx, hb, hml, hown, hts, hK, hI, by rw [← hAe]; exact gA_ad, by rw [← hAe]; exact gA_sz, by rw [← hAe]; exact hZ⟩
  have G : gW D ad cy N A s.heap c d0 s.heap [] := ⟨hP, va_S.rf⟩
  generalize hQ : MQ below (va_Qi (fun (z : Int32) (_ : Unit) => z = rZ) (fun _ U => gE D ad cy N cZ d0 U) A) args s 0 0 A = Q
  suffices hgen : ∀ (H : Heap) (locs : List Loc), gW D ad cy N A s.heap c d0 H locs → W p l e rmX7_takeSign s m args below meth cod H locs 0 0 Q (F0 m 0 ls []) from hgen _ _ G
  clear G
  intro H locs G
  unfold m_X7_takeSign at h
  refine lv_aload_n hx hb dX7_takeSign_0 rfl (lv_at hl 0 rfl) ?_
  obtain ⟨hk1, h⟩ := gc_s h
  have ht2 : t < N := Nat.lt_of_lt_of_le (gck_lt7 hk1) hN
  obtain ⟨r4, c5, hc3, h⟩ := gb2_s h
  refine gx_calli F G (va_runV (As := []) (rest := []) (gx_fix F) (c_X7_peek l sa D ad cy N H.size hN hI c d0 hc3) (cwV 0 hts gX7_takeSign_X7_peek rfl rfl rfl (by decide +kernel) ⟨by decide, by decide⟩) (gx_rec F G ht2 (gwe_7 hk1) rfl) rfl rfl hl.1 rfl (lv_room (Nat.le_of_ble_eq_true rfl)) dX7_takeSign_1 ⟨Nat.zero_le _, Nat.zero_le _⟩) (fun H locs G => ?_)
  refine lv_iload_n hx hb dX7_takeSign_4 rfl (lv_at hl 1 rfl) ?_
  refine lv_icmp_eq (tgt := 18) hx hb dX7_takeSign_5 (by decide) (fun q6 => ?_) (fun q6 => ?_)
  · replace h := gt_s q6 h
    refine lv_aload_n hx hb dX7_takeSign_18 rfl (lv_at hl 0 rfl) ?_
    refine lv_dup hx hb dX7_takeSign_19 rfl ?_
    refine fg_7_at F G hk1 ht2 in7 (by decide +kernel) dX7_takeSign_20 ?_
    refine lv_iconst (v := 1) hx hb dX7_takeSign_23 (by decide) ?_
    refine lv_iadd hx hb dX7_takeSign_24 ?_
    refine fp_7_at F G hk1 ht2 in7 (by decide +kernel) dX7_takeSign_25 (fun H locs G => ?_)
    obtain ⟨c7, ec7⟩ : ∃ z, z = gm_r c5 t (upd (c5.1 t) 3 ((c5.1 t 3) + 1)) := ⟨_, rfl⟩
    rw [← ec7] at G
    replace h := gv_s h c7 ec7
    refine lv_iconst (v := 1) hx hb dX7_takeSign_28 (by decide) ?_
    cases h
    rw [← hQ]
    exact gx_zret F G hr hlocks rfl dX7_takeSign_29
  · replace h := gf_s q6 h
    refine lv_aload_n hx hb dX7_takeSign_8 rfl (lv_at hl 0 rfl) ?_
    refine lv_iconst (v := 1) hx hb dX7_takeSign_9 (by decide) ?_
    refine lv_aload_n hx hb dX7_takeSign_10 rfl (lv_at hl 0 rfl) ?_
    refine fg_7_mark F G hk1 ht2 in7 (by decide +kernel) dX7_takeSign_11 ?_
    obtain ⟨r9, c10, hc8, h⟩ := gb2_s h
    refine gx_calli F G (va_runV (As := [.int 1, .int (c5.1 t 4)]) (rest := []) (gx_fix F) (c_X7_fail l sa D ad cy N H.size hN hI c5 d0 hc8) (cwV 2 hts gX7_takeSign_X7_fail rfl rfl rfl (by decide +kernel) ⟨by decide, by decide⟩) (gx_rec F G ht2 (gwe_7 hk1) rfl) rfl rfl hl.1 rfl (lv_room (Nat.le_of_ble_eq_true rfl)) dX7_takeSign_14 ⟨Nat.zero_le _, Nat.zero_le _⟩) (fun H locs G => ?_)
    obtain ⟨hz11, h⟩ := gc_s h
    cases h
    rw [← hQ]
    exact gx_zret F G hr hlocks (gnb hz11) dX7_takeSign_17
def m_X0_readFrom_L7 (n : Nat) (t : Nat) (a1 : Nat) (a2 : Int32) (y5 : Int32) (c6 : gm) : Option ((Int32 × gm) ⊕ ((Int32 × gm) ⊕ (gm))) :=
  (if 6 < y5 then some (.inr (.inr c6)) else gc (gck a1 = 7) (gb2 (m_X7_hasMore n a1 c6) (fun (r12 : Int32) (c13 : gm) => (if r12 = 0 then some (.inr (.inr c13)) else gb2 (m_X0_readLine n t a1 a2 c13) (fun (r16 : Int32) (c17 : gm) => (if r16 = 0 then some (.inr (.inl (0, c17))) else gb2 (m_X7_takeSign n a1 59 c17) (fun (r20 : Int32) (c21 : gm) => (if r20 = 0 then some (.inr (.inl (0, c21))) else gv (y5 + 1) (fun (x23 : Int32) => some (.inl (x23, c21)))))))))))
def m_X0_readFrom (n : Nat) (t : Nat) (a1 : Nat) (a2 : Int32) (c : gm) : Option (Int32 × gm) :=
  gc (gck t = 0) (gv (gm_r c t (upd (c.1 t) 5 0)) (fun (c3 : gm) => gb (gloop (gu2 (fun (y5 : Int32) (c6 : gm) => m_X0_readFrom_L7 n t a1 a2 y5 c6)) n (0, c3)) (gsm (fun (c7 : gm) => some (1, c7)))))
abbrev rmX0_readFrom : Room := { frames := 4, cells := 0, slots := 0, locals := 106 }
set_option maxHeartbeats 4000000 in
set_option maxRecDepth 100000 in
theorem c_X0_readFrom (l : Launch) (sa : gSa) (D : va_G) (ad : Nat → Nat) (cy : Nat → ClassId) (N sz : Nat) (hN : 55 ≤ N) (hI : gI ad N) (c d0 : gm) {n : Nat} {t : Nat} {a1 : Nat} {a2 : Int32} {rZ : Int32} {cZ : gm} (h : m_X0_readFrom n t a1 a2 c = some (rZ, cZ)) : Met l yX0_readFrom wsX0_readFrom rmX0_readFrom (va_Pc [.ref (ad t), .ref (ad a1), .int a2] (gP sa D ad cy N sz c d0)) (va_Qi (fun (z : Int32) (_ : Unit) => z = rZ) (fun _ U => gE D ad cy N cZ d0 U) (gA ad N sz)) 0 0 (gA ad N sz) := by
  refine Met.ofW (cc := cX0_readFrom) (maxL := 4) (ret := (some .boolean)) (by decide) rfl ?_
  intro p e s m args below meth cod s₁ B hml hv
  obtain ⟨rfl, hsz, hP, hK, hZ⟩ := hv
  have hx := B.exec
  have hb := B.bytes
  have hr := B.returns
  have hts := atoms_spec (ws := wsX0_readFrom) B.pre
  have hown : s.vm.findClass RX0 = some m.cls := findClass_of_methodNamed B.named
  have hlocks := B.notSynchronized
  subst hsz
  have hl := lv_entry ([.ref (ad t), .ref (ad a1), .int a2]) (n := 4) (Nat.le_of_ble_eq_true rfl)
  rw [lg_entry_eq]
  generalize (lg_sl ([.ref (ad t), .ref (ad a1), .int a2]) ++ List.replicate (4 - (lg_sl ([.ref (ad t), .ref (ad a1), .int a2])).length) Slot.unset).toArray = ls at hl ⊢
  have hl : lv_has ls 4 [(0, .ref (ad t)), (1, .ref (ad a1)), (2, .int a2)] := hl
  have in0 : ∀ w ∈ wsX00, w ∈ wsX0_readFrom := by decide +kernel
  generalize hargs : ([.ref (ad t), .ref (ad a1), .int a2] : List Value).toArray = args at *
  generalize hAe : gA ad N s.heap.size = A
  have F : gF sa D ad cy N A p s m args cod cX0_readFrom 4 wsX0_readFrom RX0 := ⟨hx, hb, hml, hown, hts, hK, hI, by rw [← hAe]; exact gA_ad, by rw [← hAe]; exact gA_sz, by rw [← hAe]; exact hZ⟩
  have G : gW D ad cy N A s.heap c d0 s.heap [] := ⟨hP, va_S.rf⟩
  generalize hQ : MQ below (va_Qi (fun (z : Int32) (_ : Unit) => z = rZ) (fun _ U => gE D ad cy N cZ d0 U) A) args s 0 0 A = Q
  suffices hgen : ∀ (H : Heap) (locs : List Loc), gW D ad cy N A s.heap c d0 H locs → W p l e rmX0_readFrom s m args below meth cod H locs 0 0 Q (F0 m 0 ls []) from hgen _ _ G
  clear G
  intro H locs G
  unfold m_X0_readFrom at h
  refine lv_aload_n hx hb dX0_readFrom_0 rfl (lv_at hl 0 rfl) ?_
  refine lv_iconst (v := 0) hx hb dX0_readFrom_1 (by decide) ?_
  obtain ⟨hk1, h⟩ := gc_s h
  have ht2 : t < N := Nat.lt_of_lt_of_le (gck_lt0 hk1) hN
  refine fp_0_size F G hk1 ht2 in0 (by decide +kernel) dX0_readFrom_2 (fun H locs G => ?_)
  obtain ⟨c3, ec3⟩ : ∃ z, z = gm_r c t (upd (c.1 t) 5 0) := ⟨_, rfl⟩
  rw [← ec3] at G
  replace h := gv_s h c3 ec3
  refine lv_iconst (v := 0) hx hb dX0_readFrom_5 (by decide) ?_
  refine lv_istore_n (lv' := [(3, .int 0), (0, .ref (ad t)), (1, .ref (ad a1)), (2, .int a2)]) hx hb dX0_readFrom_6 rfl hl (by decide) rfl (fun ls hl => ?_)
  obtain ⟨b4, hb4, hK4⟩ := gb_s h
  have E4 : ∀ (c7 : gm) (H : Heap) (locs : List Loc) (ls : Array Slot), (Sum.inr c7 : (Int32 × gm) ⊕ (gm)) = b4 → gW D ad cy N A s.heap c7 d0 H locs → lv_has ls 4 [] → W p l e rmX0_readFrom s m args below meth cod H locs 0 0 Q (F0 m 46 ls []) := by
    intro c7 H locs ls hq4 G hl
    subst hq4
    replace hK4 := gsm_r hK4
    have h := hK4
    refine lv_iconst (v := 1) hx hb dX0_readFrom_46 (by decide) ?_
    cases h
    rw [← hQ]
    exact gx_zret F G hr hlocks rfl dX0_readFrom_47
  have L4 : ∀ (n9 : Nat) (y5 : Int32) (c6 : gm) (H : Heap) (locs : List Loc) (ls : Array Slot), gloop (gu2 (fun (y5 : Int32) (c6 : gm) => m_X0_readFrom_L7 n t a1 a2 y5 c6)) n9 (y5, c6) = some b4 → gW D ad cy N A s.heap c6 d0 H locs → lv_has ls 4 [(0, .ref (ad t)), (1, .ref (ad a1)), (2, .int a2), (3, .int y5)] → W p l e rmX0_readFrom s m args below meth cod H locs 0 0 Q (F0 m 7 ls []) := by
    intro n9
    induction n9 with
    | zero => intro y5 c6 H locs ls h; exact (gloop_0 h).elim
    | succ n9 ih =>
      intro y5 c6 H locs ls h G hl
      have ih4 := ih
      obtain ⟨o4, h, hn4⟩ := gloop_s h
      replace h := gu2_s h
      unfold m_X0_readFrom_L7 at h
      refine lv_iload_n hx hb dX0_readFrom_7 rfl (lv_at hl 3 rfl) ?_
      refine lv_bipush (v := 6) hx hb dX0_readFrom_8 (by decide) ?_
      refine lv_icmp_gt (tgt := 46) hx hb dX0_readFrom_10 (by decide) (fun q8 => ?_) (fun q8 => ?_)
      · replace h := gt_s q8 h
        cases h
        exact E4 _ _ _ _ (gnx_r hn4) G (lv_sub hl [] rfl)
      · replace h := gf_s q8 h
        refine lv_aload_n hx hb dX0_readFrom_13 rfl (lv_at hl 1 rfl) ?_
        obtain ⟨hk9, h⟩ := gc_s h
        have ht10 : a1 < N := Nat.lt_of_lt_of_le (gck_lt7 hk9) hN
        obtain ⟨r12, c13, hc11, h⟩ := gb2_s h
        refine gx_calli F G (va_runV (As := []) (rest := []) (gx_fix F) (c_X7_hasMore l sa D ad cy N H.size hN hI c6 d0 hc11) (cwV 0 hts gX0_readFrom_X7_hasMore rfl rfl rfl (by decide +kernel) ⟨by decide, by decide⟩) (gx_rec F G ht10 (gwe_7 hk9) rfl) rfl rfl hl.1 rfl (lv_room (Nat.le_of_ble_eq_true rfl)) dX0_readFrom_14 ⟨Nat.zero_le _, Nat.zero_le _⟩) (fun H locs G => ?_)
        refine lv_if_eq (tgt := 46) hx hb dX0_readFrom_17 (by decide) (fun q14 => ?_) (fun q14 => ?_)
        · replace h := gt_s q14 h
          cases h
          exact E4 _ _ _ _ (gnx_r hn4) G (lv_sub hl [] rfl)
        · replace h := gf_s q14 h
          refine lv_aload_n hx hb dX0_readFrom_20 rfl (lv_at hl 0 rfl) ?_
          refine lv_aload_n hx hb dX0_readFrom_21 rfl (lv_at hl 1 rfl) ?_
          refine lv_iload_n hx hb dX0_readFrom_22 rfl (lv_at hl 2 rfl) ?_
          obtain ⟨r16, c17, hc15, h⟩ := gb2_s h
          refine gx_calli F G (va_runV (As := [.ref (ad a1), .int a2]) (rest := []) (gx_fix F) (c_X0_readLine l sa D ad cy N H.size hN hI c13 d0 hc15) (cwV 2 hts gX0_readFrom_X0_readLine rfl rfl rfl (by decide +kernel) ⟨by decide, by decide⟩) (gx_rec F G ht2 (gwe_0 hk1) rfl) rfl rfl hl.1 rfl (lv_room (Nat.le_of_ble_eq_true rfl)) dX0_readFrom_23 ⟨Nat.zero_le _, Nat.zero_le _⟩) (fun H locs G => ?_)
          refine lv_if_eq (tgt := 38) hx hb dX0_readFrom_26 (by decide) (fun q18 => ?_) (fun q18 => ?_)
          · replace h := gt_s q18 h
            refine lv_iconst (v := 0) hx hb dX0_readFrom_38 (by decide) ?_
            cases h
            cases gnx_r hn4
            cases gsm_l hK4
            rw [← hQ]
            exact gx_zret F G hr hlocks rfl dX0_readFrom_39
          · replace h := gf_s q18 h
            refine lv_aload_n hx hb dX0_readFrom_29 rfl (lv_at hl 1 rfl) ?_
            refine lv_bipush (v := 59) hx hb dX0_readFrom_30 (by decide) ?_
            obtain ⟨r20, c21, hc19, h⟩ := gb2_s h
            refine gx_calli F G (va_runV (As := [.int 59]) (rest := []) (gx_fix F) (c_X7_takeSign l sa D ad cy N H.size hN hI c17 d0 hc19) (cwV 1 hts gX0_readFrom_X7_takeSign rfl rfl rfl (by decide +kernel) ⟨by decide, by decide⟩) (gx_rec F G ht10 (gwe_7 hk9) rfl) rfl rfl hl.1 rfl (lv_room (Nat.le_of_ble_eq_true rfl)) dX0_readFrom_32 ⟨Nat.zero_le _, Nat.zero_le _⟩) (fun H locs G => ?_)
            refine lv_if_ne (tgt := 40) hx hb dX0_readFrom_35 (by decide) (fun q22 => ?_) (fun q22 => ?_)
            · replace h := gf_s q22 h
              obtain ⟨x23, ex23⟩ : ∃ z : Int32, z = y5 + 1 := ⟨_, rfl⟩
              replace h := gv_s h x23 ex23
              refine lv_iinc (v := x23) (lv' := [(3, .int x23), (0, .ref (ad t)), (1, .ref (ad a1)), (2, .int a2)]) hx hb dX0_readFrom_40 hl (k := 3) rfl (by rw [ex23]; rfl) (by decide) rfl (fun ls hl => ?_)
              refine lv_goto (tgt := 7) hx hb dX0_readFrom_43 (by decide) ?_
              cases h
              exact ih4 _ _ _ _ _ hn4 G (lv_sub hl [1, 2, 3, 0] rfl)
            · replace h := gt_s q22 h
              refine lv_iconst (v := 0) hx hb dX0_readFrom_38 (by decide) ?_
              cases h
              cases gnx_r hn4
              cases gsm_l hK4
              rw [← hQ]
              exact gx_zret F G hr hlocks rfl dX0_readFrom_39
  exact L4 n _ _ _ _ _ hb4 G (lv_sub hl [1, 2, 3, 0] rfl)
def m_X6_isThing (t : Nat) (a1 : Int32) (c : gm) : Option (Int32) :=
  (if a1 < 0 then some 0 else gc (gck t = 6) ((if (c.1 t 5) ≤ a1 then some 0 else (if 8 ≤ a1 then some 0 else some 1))))
abbrev rmX6_isThing : Room := { frames := 0, cells := 0, slots := 0, locals := 0 }
set_option maxHeartbeats 4000000 in
set_option maxRecDepth 100000 in
theorem c_X6_isThing (l : Launch) (sa : gSa) (D : va_G) (ad : Nat → Nat) (cy : Nat → ClassId) (N sz : Nat) (hN : 55 ≤ N) (hI : gI ad N) (c d0 : gm) {t : Nat} {a1 : Int32} {rZ : Int32} (h : m_X6_isThing t a1 c = some rZ) : Met l yX6_isThing wsX6_isThing rmX6_isThing (va_Pc [.ref (ad t), .int a1] (gP sa D ad cy N sz c d0)) (va_Qi (fun (z : Int32) (_ : Unit) => z = rZ) (fun _ U => gE D ad cy N c d0 U) (gA ad N sz)) 0 0 (gA ad N sz) := by
  refine Met.ofW (cc := cX6_isThing) (maxL := 2) (ret := (some .boolean)) (by decide) rfl ?_
  intro p e s m args below meth cod s₁ B hml hv
  obtain ⟨rfl, hsz, hP, hK, hZ⟩ := hv
  have hx := B.exec
  have hb := B.bytes
  have hr := B.returns
  have hts := atoms_spec (ws := wsX6_isThing) B.pre
  have hown : s.vm.findClass RX6 = some m.cls := findClass_of_methodNamed B.named
  have hlocks := B.notSynchronized
  subst hsz
  have hl := lv_entry ([.ref (ad t), .int a1]) (n := 2) (Nat.le_of_ble_eq_true rfl)
  rw [lg_entry_eq]
  generalize (lg_sl ([.ref (ad t), .int a1]) ++ List.replicate (2 - (lg_sl ([.ref (ad t), .int a1])).length) Slot.unset).toArray = ls at hl ⊢
  have hl : lv_has ls 2 [(0, .ref (ad t)), (1, .int a1)] := hl
  have in6 : ∀ w ∈ wsX60, w ∈ wsX6_isThing := by decide +kernel
  generalize hargs : ([.ref (ad t), .int a1] : List Value).toArray = args at *
  generalize hAe : gA ad N s.heap.size = A
  have F : gF sa D ad cy N A p s m args cod cX6_isThing 2 wsX6_isThing RX6 := ⟨hx, hb, hml, hown, hts, hK, hI, by rw [← hAe]; exact gA_ad, by rw [← hAe]; exact gA_sz, by rw [← hAe]; exact hZ⟩
  have G : gW D ad cy N A s.heap c d0 s.heap [] := ⟨hP, va_S.rf⟩
  generalize hQ : MQ below (va_Qi (fun (z : Int32) (_ : Unit) => z = rZ) (fun _ U => gE D ad cy N c d0 U) A) args s 0 0 A = Q
  suffices hgen : ∀ (H : Heap) (locs : List Loc), gW D ad cy N A s.heap c d0 H locs → W p l e rmX6_isThing s m args below meth cod H locs 0 0 Q (F0 m 0 ls []) from hgen _ _ G
  clear G
  intro H locs G
  unfold m_X6_isThing at h
  refine lv_iload_n hx hb dX6_isThing_0 rfl (lv_at hl 1 rfl) ?_
  refine lv_if_lt (tgt := 22) hx hb dX6_isThing_1 (by decide) (fun q1 => ?_) (fun q1 => ?_)
  · replace h := gt_s q1 h
    refine lv_iconst (v := 0) hx hb dX6_isThing_22 (by decide) ?_
    cases h
    rw [← hQ]
    exact gx_zret F G hr hlocks rfl dX6_isThing_23
  · replace h := gf_s q1 h
    refine lv_iload_n hx hb dX6_isThing_4 rfl (lv_at hl 1 rfl) ?_
    refine lv_aload_n hx hb dX6_isThing_5 rfl (lv_at hl 0 rfl) ?_
    obtain ⟨hk2, h⟩ := gc_s h
    have ht3 : t < N := Nat.lt_of_lt_of_le (gck_lt6 hk2) hN
    refine fg_6_things F G hk2 ht3 in6 (by decide +kernel) dX6_isThing_6 ?_
    refine lv_icmp_ge (tgt := 22) hx hb dX6_isThing_9 (by decide) (fun q4 => ?_) (fun q4 => ?_)
    · replace h := gt_s q4 h
      refine lv_iconst (v := 0) hx hb dX6_isThing_22 (by decide) ?_
      cases h
      rw [← hQ]
      exact gx_zret F G hr hlocks rfl dX6_isThing_23
    · replace h := gf_s q4 h
      refine lv_iload_n hx hb dX6_isThing_12 rfl (lv_at hl 1 rfl) ?_
      refine lv_bipush (v := 8) hx hb dX6_isThing_13 (by decide) ?_
      refine lv_icmp_ge (tgt := 22) hx hb dX6_isThing_15 (by decide) (fun q5 => ?_) (fun q5 => ?_)
      · replace h := gt_s q5 h
        refine lv_iconst (v := 0) hx hb dX6_isThing_22 (by decide) ?_
        cases h
        rw [← hQ]
        exact gx_zret F G hr hlocks rfl dX6_isThing_23
      · replace h := gf_s q5 h
        refine lv_iconst (v := 1) hx hb dX6_isThing_18 (by decide) ?_
        refine lv_goto (tgt := 23) hx hb dX6_isThing_19 (by decide) ?_
        cases h
        rw [← hQ]
        exact gx_zret F G hr hlocks rfl dX6_isThing_23
def m_X6_weightOf (t : Nat) (a1 : Int32) (c : gm) : Option (Int32) :=
  gc (gck t = 6) (gb (m_X6_isThing t a1 c) (fun (r4 : Int32) => (if r4 = 0 then some 0 else gc (0 ≤ a1.toInt ∧ a1.toInt < 8) (some (c.1 (t + 2) a1.toNatClampNeg)))))
abbrev rmX6_weightOf : Room := { frames := 1, cells := 0, slots := 0, locals := 21 }
set_option maxHeartbeats 4000000 in
set_option maxRecDepth 100000 in
theorem c_X6_weightOf (l : Launch) (sa : gSa) (D : va_G) (ad : Nat → Nat) (cy : Nat → ClassId) (N sz : Nat) (hN : 55 ≤ N) (hI : gI ad N) (c d0 : gm) {t : Nat} {a1 : Int32} {rZ : Int32} (h : m_X6_weightOf t a1 c = some rZ) : Met l yX6_weightOf wsX6_weightOf rmX6_weightOf (va_Pc [.ref (ad t), .int a1] (gP sa D ad cy N sz c d0)) (va_Qi (fun (z : Int32) (_ : Unit) => z = rZ) (fun _ U => gE D ad cy N c d0 U) (gA ad N sz)) 0 0 (gA ad N sz) := by
  refine Met.ofW (cc := cX6_weightOf) (maxL := 2) (ret := (some .int)) (by decide) rfl ?_
  intro p e s m args below meth cod s₁ B hml hv
  obtain ⟨rfl, hsz, hP, hK, hZ⟩ := hv
  have hx := B.exec
  have hb := B.bytes
  have hr := B.returns
  have hts := atoms_spec (ws := wsX6_weightOf) B.pre
  have hown : s.vm.findClass RX6 = some m.cls := findClass_of_methodNamed B.named
  have hlocks := B.notSynchronized
  subst hsz
  have hl := lv_entry ([.ref (ad t), .int a1]) (n := 2) (Nat.le_of_ble_eq_true rfl)
  rw [lg_entry_eq]
  generalize (lg_sl ([.ref (ad t), .int a1]) ++ List.replicate (2 - (lg_sl ([.ref (ad t), .int a1])).length) Slot.unset).toArray = ls at hl ⊢
  have hl : lv_has ls 2 [(0, .ref (ad t)), (1, .int a1)] := hl
  have in6 : ∀ w ∈ wsX60, w ∈ wsX6_weightOf := by decide +kernel
  generalize hargs : ([.ref (ad t), .int a1] : List Value).toArray = args at *
  generalize hAe : gA ad N s.heap.size = A
  have F : gF sa D ad cy N A p s m args cod cX6_weightOf 2 wsX6_weightOf RX6 := ⟨hx, hb, hml, hown, hts, hK, hI, by rw [← hAe]; exact gA_ad, by rw [← hAe]; exact gA_sz, by rw [← hAe]; exact hZ⟩
  have G : gW D ad cy N A s.heap c d0 s.heap [] := ⟨hP, va_S.rf⟩
  generalize hQ : MQ below (va_Qi (fun (z : Int32) (_ : Unit) => z = rZ) (fun _ U => gE D ad cy N c d0 U) A) args s 0 0 A = Q
  suffices hgen : ∀ (H : Heap) (locs : List Loc), gW D ad cy N A s.heap c d0 H locs → W p l e rmX6_weightOf s m args below meth cod H locs 0 0 Q (F0 m 0 ls []) from hgen _ _ G
  clear G
  intro H locs G
  unfold m_X6_weightOf at h
  refine lv_aload_n hx hb dX6_weightOf_0 rfl (lv_at hl 0 rfl) ?_
  refine lv_iload_n hx hb dX6_weightOf_1 rfl (lv_at hl 1 rfl) ?_
  obtain ⟨hk1, h⟩ := gc_s h
  have ht2 : t < N := Nat.lt_of_lt_of_le (gck_lt6 hk1) hN
  obtain ⟨r4, hc3, h⟩ := gb_s h
  refine gx_calli F G (va_runV (As := [.int a1]) (rest := []) (gx_fix F) (c_X6_isThing l sa D ad cy N H.size hN hI c d0 hc3) (cwV 1 hts gX6_weightOf_X6_isThing rfl rfl rfl (by decide +kernel) ⟨by decide, by decide⟩) (gx_rec F G ht2 (gwe_6 hk1) rfl) rfl rfl hl.1 rfl (lv_room (Nat.le_of_ble_eq_true rfl)) dX6_weightOf_2 ⟨Nat.zero_le _, Nat.zero_le _⟩) (fun H locs G => ?_)
  refine lv_if_eq (tgt := 17) hx hb dX6_weightOf_5 (by decide) (fun q5 => ?_) (fun q5 => ?_)
  · replace h := gt_s q5 h
    refine lv_iconst (v := 0) hx hb dX6_weightOf_17 (by decide) ?_
    cases h
    rw [← hQ]
    exact gx_iret F G hr hlocks dX6_weightOf_18
  · replace h := gf_s q5 h
    refine lv_aload_n hx hb dX6_weightOf_8 rfl (lv_at hl 0 rfl) ?_
    refine fg_6_weight F G hk1 ht2 in6 (by decide +kernel) dX6_weightOf_9 ?_
    obtain ⟨hk6, hn8⟩ := gka_6_weight hk1
    have ht7 : (t + 2) < N := Nat.lt_of_lt_of_le (gck_lt12 hk6) hN
    refine lv_iload_n hx hb dX6_weightOf_12 rfl (lv_at hl 1 rfl) ?_
    obtain ⟨hi9, h⟩ := gc_s h
    refine gx_ia F G hk6 ht7 hn8 hi9 dX6_weightOf_13 ?_
    refine lv_goto (tgt := 18) hx hb dX6_weightOf_14 (by decide) ?_
    cases h
    rw [← hQ]
    exact gx_iret F G hr hlocks dX6_weightOf_18
def m_X6_standing (a1 : Int32) (a2 : Int32) (a3 : Int32) (a4 : Int32) : Option (Int32) :=
  gv (((a1 + a3) - 9) - a2) (fun (x1 : Int32) => (if x1 ≤ a4 then (if (-x1) ≤ a4 then some 0 else some 2) else some 1))
abbrev rmX6_standing : Room := { frames := 0, cells := 0, slots := 0, locals := 0 }
set_option maxHeartbeats 4000000 in
set_option maxRecDepth 100000 in
theorem c_X6_standing (l : Launch) (sa : gSa) (D : va_G) (ad : Nat → Nat) (cy : Nat → ClassId) (N sz : Nat) (hN : 55 ≤ N) (hI : gI ad N) (c d0 : gm) {a1 : Int32} {a2 : Int32} {a3 : Int32} {a4 : Int32} {rZ : Int32} (h : m_X6_standing a1 a2 a3 a4 = some rZ) : Met l yX6_standing wsX6_standing rmX6_standing (va_Pc [.int a1, .int a2, .int a3, .int a4] (gP sa D ad cy N sz c d0)) (va_Qi (fun (z : Int32) (_ : Unit) => z = rZ) (fun _ U => gE D ad cy N c d0 U) (gA ad N sz)) 0 0 (gA ad N sz) := by
  refine Met.ofW (cc := cX6_standing) (maxL := 5) (ret := (some .int)) (by decide) rfl ?_
  intro p e s m args below meth cod s₁ B hml hv
  obtain ⟨rfl, hsz, hP, hK, hZ⟩ := hv
  have hx := B.exec
  have hb := B.bytes
  have hr := B.returns
  have hts := atoms_spec (ws := wsX6_standing) B.pre
  have hown : s.vm.findClass RX6 = some m.cls := findClass_of_methodNamed B.named
  have hlocks := B.notSynchronized
  subst hsz
  have hl := lv_entry ([.int a1, .int a2, .int a3, .int a4]) (n := 5) (Nat.le_of_ble_eq_true rfl)
  rw [lg_entry_eq]
  generalize (lg_sl ([.int a1, .int a2, .int a3, .int a4]) ++ List.replicate (5 - (lg_sl ([.int a1, .int a2, .int a3, .int a4])).length) Slot.unset).toArray = ls at hl ⊢
  have hl : lv_has ls 5 [(0, .int a1), (1, .int a2), (2, .int a3), (3, .int a4)] := hl
  generalize hargs : ([.int a1, .int a2, .int a3, .int a4] : List Value).toArray = args at *
  generalize hAe : gA ad N s.heap.size = A
  have F : gF sa D ad cy N A p s m args cod cX6_standing 5 wsX6_standing RX6 := ⟨hx, hb, hml, hown, hts, hK, hI, by rw [← hAe]; exact gA_ad, by rw [← hAe]; exact gA_sz, by rw [← hAe]; exact hZ⟩
  have G : gW D ad cy N A s.heap c d0 s.heap [] := ⟨hP, va_S.rf⟩
  generalize hQ : MQ below (va_Qi (fun (z : Int32) (_ : Unit) => z = rZ) (fun _ U => gE D ad cy N c d0 U) A) args s 0 0 A = Q
  suffices hgen : ∀ (H : Heap) (locs : List Loc), gW D ad cy N A s.heap c d0 H locs → W p l e rmX6_standing s m args below meth cod H locs 0 0 Q (F0 m 0 ls []) from hgen _ _ G
  clear G
  intro H locs G
  unfold m_X6_standing at h
  refine lv_iload_n hx hb dX6_standing_0 rfl (lv_at hl 0 rfl) ?_
  refine lv_iload_n hx hb dX6_standing_1 rfl (lv_at hl 2 rfl) ?_
  refine lv_iadd hx hb dX6_standing_2 ?_
  refine lv_bipush (v := 9) hx hb dX6_standing_3 (by decide) ?_
  refine lv_isub hx hb dX6_standing_5 ?_
  refine lv_iload_n hx hb dX6_standing_6 rfl (lv_at hl 1 rfl) ?_
  refine lv_isub hx hb dX6_standing_7 ?_
  refine lv_topi (fun x1 ex1 => ?_)
  replace h := gv_s h x1 ex1
  refine lv_istore (lv' := [(4, .int x1), (0, .int a1), (1, .int a2), (2, .int a3), (3, .int a4)]) hx hb dX6_standing_8 hl (by decide) rfl (fun ls hl => ?_)
  refine lv_iload hx hb dX6_standing_10 (lv_at hl 0 rfl) ?_
  refine lv_iload_n hx hb dX6_standing_12 rfl (lv_at hl 4 rfl) ?_
  refine lv_icmp_le (tgt := 20) hx hb dX6_standing_13 (by decide) (fun q2 => ?_) (fun q2 => ?_)
  · replace h := gt_s q2 h
    refine lv_iload hx hb dX6_standing_20 (lv_at hl 0 rfl) ?_
    refine lv_ineg hx hb dX6_standing_22 ?_
    refine lv_iload_n hx hb dX6_standing_23 rfl (lv_at hl 4 rfl) ?_
    refine lv_icmp_le (tgt := 31) hx hb dX6_standing_24 (by decide) (fun q3 => ?_) (fun q3 => ?_)
    · replace h := gt_s q3 h
      refine lv_iconst (v := 0) hx hb dX6_standing_31 (by decide) ?_
      cases h
      rw [← hQ]
      exact gx_iret F G hr hlocks dX6_standing_32
    · replace h := gf_s q3 h
      refine lv_iconst (v := 2) hx hb dX6_standing_27 (by decide) ?_
      refine lv_goto (tgt := 32) hx hb dX6_standing_28 (by decide) ?_
      cases h
      rw [← hQ]
      exact gx_iret F G hr hlocks dX6_standing_32
  · replace h := gf_s q2 h
    refine lv_iconst (v := 1) hx hb dX6_standing_16 (by decide) ?_
    refine lv_goto (tgt := 32) hx hb dX6_standing_17 (by decide) ?_
    cases h
    rw [← hQ]
    exact gx_iret F G hr hlocks dX6_standing_32
def m_X0_standingBy (a1 : Nat) (a2 : Int32) (a3 : Int32) (a4 : Int32) (c : gm) : Option (Int32) :=
  gc (gck a1 = 6) (gb (m_X6_weightOf a1 a2 c) (fun (r4 : Int32) => gb (m_X6_weightOf a1 a3 c) (fun (r6 : Int32) => gb (m_X6_standing r4 r6 (a4 / 10) (a4 - a4 / 10 * 10)) (fun (r8 : Int32) => some r8))))
abbrev rmX0_standingBy : Room := { frames := 2, cells := 0, slots := 0, locals := 42 }
set_option maxHeartbeats 4000000 in
set_option maxRecDepth 100000 in
theorem c_X0_standingBy (l : Launch) (sa : gSa) (D : va_G) (ad : Nat → Nat) (cy : Nat → ClassId) (N sz : Nat) (hN : 55 ≤ N) (hI : gI ad N) (c d0 : gm) {a1 : Nat} {a2 : Int32} {a3 : Int32} {a4 : Int32} {rZ : Int32} (h : m_X0_standingBy a1 a2 a3 a4 c = some rZ) : Met l yX0_standingBy wsX0_standingBy rmX0_standingBy (va_Pc [.ref (ad a1), .int a2, .int a3, .int a4] (gP sa D ad cy N sz c d0)) (va_Qi (fun (z : Int32) (_ : Unit) => z = rZ) (fun _ U => gE D ad cy N c d0 U) (gA ad N sz)) 0 0 (gA ad N sz) := by
  refine Met.ofW (cc := cX0_standingBy) (maxL := 4) (ret := (some .int)) (by decide) rfl ?_
  intro p e s m args below meth cod s₁ B hml hv
  obtain ⟨rfl, hsz, hP, hK, hZ⟩ := hv
  have hx := B.exec
  have hb := B.bytes
  have hr := B.returns
  have hts := atoms_spec (ws := wsX0_standingBy) B.pre
  have hown : s.vm.findClass RX0 = some m.cls := findClass_of_methodNamed B.named
  have hlocks := B.notSynchronized
  subst hsz
  have hl := lv_entry ([.ref (ad a1), .int a2, .int a3, .int a4]) (n := 4) (Nat.le_of_ble_eq_true rfl)
  rw [lg_entry_eq]
  generalize (lg_sl ([.ref (ad a1), .int a2, .int a3, .int a4]) ++ List.replicate (4 - (lg_sl ([.ref (ad a1), .int a2, .int a3, .int a4])).length) Slot.unset).toArray = ls at hl ⊢
  have hl : lv_has ls 4 [(0, .ref (ad a1)), (1, .int a2), (2, .int a3), (3, .int a4)] := hl
  generalize hargs : ([.ref (ad a1), .int a2, .int a3, .int a4] : List Value).toArray = args at *
  generalize hAe : gA ad N s.heap.size = A
  have F : gF sa D ad cy N A p s m args cod cX0_standingBy 4 wsX0_standingBy RX0 := ⟨hx, hb, hml, hown, hts, hK, hI, by rw [← hAe]; exact gA_ad, by rw [← hAe]; exact gA_sz, by rw [← hAe]; exact hZ⟩
  have G : gW D ad cy N A s.heap c d0 s.heap [] := ⟨hP, va_S.rf⟩
  generalize hQ : MQ below (va_Qi (fun (z : Int32) (_ : Unit) => z = rZ) (fun _ U => gE D ad cy N c d0 U) A) args s 0 0 A = Q
  suffices hgen : ∀ (H : Heap) (locs : List Loc), gW D ad cy N A s.heap c d0 H locs → W p l e rmX0_standingBy s m args below meth cod H locs 0 0 Q (F0 m 0 ls []) from hgen _ _ G
  clear G
  intro H locs G
  unfold m_X0_standingBy at h
  refine lv_aload_n hx hb dX0_standingBy_0 rfl (lv_at hl 0 rfl) ?_
  refine lv_iload_n hx hb dX0_standingBy_1 rfl (lv_at hl 1 rfl) ?_
  obtain ⟨hk1, h⟩ := gc_s h
  have ht2 : a1 < N := Nat.lt_of_lt_of_le (gck_lt6 hk1) hN
  obtain ⟨r4, hc3, h⟩ := gb_s h
  refine gx_calli F G (va_runV (As := [.int a2]) (rest := []) (gx_fix F) (c_X6_weightOf l sa D ad cy N H.size hN hI c d0 hc3) (cwV 1 hts gX0_standingBy_X6_weightOf rfl rfl rfl (by decide +kernel) ⟨by decide, by decide⟩) (gx_rec F G ht2 (gwe_6 hk1) rfl) rfl rfl hl.1 rfl (lv_room (Nat.le_of_ble_eq_true rfl)) dX0_standingBy_2 ⟨Nat.zero_le _, Nat.zero_le _⟩) (fun H locs G => ?_)
  refine lv_aload_n hx hb dX0_standingBy_5 rfl (lv_at hl 0 rfl) ?_
  refine lv_iload_n hx hb dX0_standingBy_6 rfl (lv_at hl 2 rfl) ?_
  obtain ⟨r6, hc5, h⟩ := gb_s h
  refine gx_calli F G (va_runV (As := [.int a3]) (rest := [.int r4]) (gx_fix F) (c_X6_weightOf l sa D ad cy N H.size hN hI c d0 hc5) (cwV 1 hts gX0_standingBy_X6_weightOf rfl rfl rfl (by decide +kernel) ⟨by decide, by decide⟩) (gx_rec F G ht2 (gwe_6 hk1) rfl) rfl rfl hl.1 rfl (lv_room (Nat.le_of_ble_eq_true rfl)) dX0_standingBy_7 ⟨Nat.zero_le _, Nat.zero_le _⟩) (fun H locs G => ?_)
  refine lv_iload_n hx hb dX0_standingBy_10 rfl (lv_at hl 3 rfl) ?_
  refine lv_bipush (v := 10) hx hb dX0_standingBy_11 (by decide) ?_
  refine lv_idiv hx hb dX0_standingBy_13 (by decide) ?_
  refine lv_iload_n hx hb dX0_standingBy_14 rfl (lv_at hl 3 rfl) ?_
  refine lv_bipush (v := 10) hx hb dX0_standingBy_15 (by decide) ?_
  refine lv_irem hx hb dX0_standingBy_17 (by decide) ?_
  obtain ⟨r8, hc7, h⟩ := gb_s h
  refine gx_calli F G (va_runS (As := [.int r4, .int r6, .int (a4 / 10), .int (a4 - a4 / 10 * 10)]) (rest := []) (gx_fix F) (c_X6_standing l sa D ad cy N H.size hN hI c d0 hc7) (va_cwS 4 hts gX0_standingBy_X6_standing rfl rfl rfl (by decide +kernel) ⟨by decide, by decide⟩) (gx_pre F G) rfl rfl hl.1 rfl (lv_room (Nat.le_of_ble_eq_true rfl)) dX0_standingBy_18 ⟨Nat.zero_le _, Nat.zero_le _⟩) (fun H locs G => ?_)
  cases h
  rw [← hQ]
  exact gx_iret F G hr hlocks dX0_standingBy_21
def m_X0_isFitting_L2 (t : Nat) (a1 : Nat) (a2 : Int32) (c : gm) (y2 : Int32) : Option ((Int32) ⊕ ((Int32) ⊕ (Unit))) :=
  gc (gck t = 0) ((if (c.1 t 5) ≤ y2 then some (.inr (.inr ())) else (if 6 ≤ y2 then some (.inr (.inr ())) else gc (0 ≤ y2.toInt ∧ y2.toInt < 6) (gc (0 ≤ y2.toInt ∧ y2.toInt < 6) (gb (m_X0_standingBy a1 (c.1 (t + 1) y2.toNatClampNeg) (c.1 (t + 2) y2.toNatClampNeg) a2 c) (fun (r16 : Int32) => gc (0 ≤ y2.toInt ∧ y2.toInt < 6) ((if r16 = (c.1 (t + 3) y2.toNatClampNeg) then gv (y2 + 1) (fun (x22 : Int32) => some (.inl x22)) else some (.inr (.inl 0))))))))))
def m_X0_isFitting (n : Nat) (t : Nat) (a1 : Nat) (a2 : Int32) (c : gm) : Option (Int32) :=
  gb (gloop (fun (y2 : Int32) => m_X0_isFitting_L2 t a1 a2 c y2) n 0) (gsm (fun (_ : Unit) => some 1))
abbrev rmX0_isFitting : Room := { frames := 3, cells := 0, slots := 0, locals := 65 }
set_option maxHeartbeats 4000000 in
set_option maxRecDepth 100000 in
theorem c_X0_isFitting (l : Launch) (sa : gSa) (D : va_G) (ad : Nat → Nat) (cy : Nat → ClassId) (N sz : Nat) (hN : 55 ≤ N) (hI : gI ad N) (c d0 : gm) {n : Nat} {t : Nat} {a1 : Nat} {a2 : Int32} {rZ : Int32} (h : m_X0_isFitting n t a1 a2 c = some rZ) : Met l yX0_isFitting wsX0_isFitting rmX0_isFitting (va_Pc [.ref (ad t), .ref (ad a1), .int a2] (gP sa D ad cy N sz c d0)) (va_Qi (fun (z : Int32) (_ : Unit) => z = rZ) (fun _ U => gE D ad cy N c d0 U) (gA ad N sz)) 0 0 (gA ad N sz) := by
  refine Met.ofW (cc := cX0_isFitting) (maxL := 4) (ret := (some .boolean)) (by decide) rfl ?_
  intro p e s m args below meth cod s₁ B hml hv
  obtain ⟨rfl, hsz, hP, hK, hZ⟩ := hv
  have hx := B.exec
  have hb := B.bytes
  have hr := B.returns
  have hts := atoms_spec (ws := wsX0_isFitting) B.pre
  have hown : s.vm.findClass RX0 = some m.cls := findClass_of_methodNamed B.named
  have hlocks := B.notSynchronized
  subst hsz
  have hl := lv_entry ([.ref (ad t), .ref (ad a1), .int a2]) (n := 4) (Nat.le_of_ble_eq_true rfl)
  rw [lg_entry_eq]
  generalize (lg_sl ([.ref (ad t), .ref (ad a1), .int a2]) ++ List.replicate (4 - (lg_sl ([.ref (ad t), .ref (ad a1), .int a2])).length) Slot.unset).toArray = ls at hl ⊢
  have hl : lv_has ls 4 [(0, .ref (ad t)), (1, .ref (ad a1)), (2, .int a2)] := hl
  have in0 : ∀ w ∈ wsX00, w ∈ wsX0_isFitting := by decide +kernel
  generalize hargs : ([.ref (ad t), .ref (ad a1), .int a2] : List Value).toArray = args at *
  generalize hAe : gA ad N s.heap.size = A
  have F : gF sa D ad cy N A p s m args cod cX0_isFitting 4 wsX0_isFitting RX0 := ⟨hx, hb, hml, hown, hts, hK, hI, by rw [← hAe]; exact gA_ad, by rw [← hAe]; exact gA_sz, by rw [← hAe]; exact hZ⟩
  have G : gW D ad cy N A s.heap c d0 s.heap [] := ⟨hP, va_S.rf⟩
  generalize hQ : MQ below (va_Qi (fun (z : Int32) (_ : Unit) => z = rZ) (fun _ U => gE D ad cy N c d0 U) A) args s 0 0 A = Q
  suffices hgen : ∀ (H : Heap) (locs : List Loc), gW D ad cy N A s.heap c d0 H locs → W p l e rmX0_isFitting s m args below meth cod H locs 0 0 Q (F0 m 0 ls []) from hgen _ _ G
  clear G
  intro H locs G
  unfold m_X0_isFitting at h
  refine lv_iconst (v := 0) hx hb dX0_isFitting_0 (by decide) ?_
  refine lv_istore_n (lv' := [(3, .int 0), (0, .ref (ad t)), (1, .ref (ad a1)), (2, .int a2)]) hx hb dX0_isFitting_1 rfl hl (by decide) rfl (fun ls hl => ?_)
  obtain ⟨b1, hb1, hK1⟩ := gb_s h
  have E1 : ∀ (H : Heap) (locs : List Loc) (ls : Array Slot), (Sum.inr () : (Int32) ⊕ (Unit)) = b1 → gW D ad cy N A s.heap c d0 H locs → lv_has ls 4 [] → W p l e rmX0_isFitting s m args below meth cod H locs 0 0 Q (F0 m 50 ls []) := by
    intro  H locs ls hq1 G hl
    subst hq1
    replace hK1 := gsm_r hK1
    have h := hK1
    refine lv_iconst (v := 1) hx hb dX0_isFitting_50 (by decide) ?_
    cases h
    rw [← hQ]
    exact gx_zret F G hr hlocks rfl dX0_isFitting_51
  have L1 : ∀ (n9 : Nat) (y2 : Int32) (H : Heap) (locs : List Loc) (ls : Array Slot), gloop (fun (y2 : Int32) => m_X0_isFitting_L2 t a1 a2 c y2) n9 y2 = some b1 → gW D ad cy N A s.heap c d0 H locs → lv_has ls 4 [(0, .ref (ad t)), (1, .ref (ad a1)), (2, .int a2), (3, .int y2)] → W p l e rmX0_isFitting s m args below meth cod H locs 0 0 Q (F0 m 2 ls []) := by
    intro n9
    induction n9 with
    | zero => intro y2 H locs ls h; exact (gloop_0 h).elim
    | succ n9 ih =>
      intro y2 H locs ls h G hl
      have ih1 := ih
      obtain ⟨o1, h, hn1⟩ := gloop_s h
      unfold m_X0_isFitting_L2 at h
      refine lv_iload_n hx hb dX0_isFitting_2 rfl (lv_at hl 3 rfl) ?_
      refine lv_aload_n hx hb dX0_isFitting_3 rfl (lv_at hl 0 rfl) ?_
      obtain ⟨hk3, h⟩ := gc_s h
      have ht4 : t < N := Nat.lt_of_lt_of_le (gck_lt0 hk3) hN
      refine fg_0_size F G hk3 ht4 in0 (by decide +kernel) dX0_isFitting_4 ?_
      refine lv_icmp_ge (tgt := 50) hx hb dX0_isFitting_7 (by decide) (fun q5 => ?_) (fun q5 => ?_)
      · replace h := gt_s q5 h
        cases h
        exact E1  _ _ _ (gnx_r hn1) G (lv_sub hl [] rfl)
      · replace h := gf_s q5 h
        refine lv_iload_n hx hb dX0_isFitting_10 rfl (lv_at hl 3 rfl) ?_
        refine lv_bipush (v := 6) hx hb dX0_isFitting_11 (by decide) ?_
        refine lv_icmp_ge (tgt := 50) hx hb dX0_isFitting_13 (by decide) (fun q6 => ?_) (fun q6 => ?_)
        · replace h := gt_s q6 h
          cases h
          exact E1  _ _ _ (gnx_r hn1) G (lv_sub hl [] rfl)
        · replace h := gf_s q6 h
          refine lv_aload_n hx hb dX0_isFitting_16 rfl (lv_at hl 1 rfl) ?_
          refine lv_aload_n hx hb dX0_isFitting_17 rfl (lv_at hl 0 rfl) ?_
          refine fg_0_left F G hk3 ht4 in0 (by decide +kernel) dX0_isFitting_18 ?_
          obtain ⟨hk7, hn9⟩ := gka_0_left hk3
          have ht8 : (t + 1) < N := Nat.lt_of_lt_of_le (gck_lt12 hk7) hN
          refine lv_iload_n hx hb dX0_isFitting_21 rfl (lv_at hl 3 rfl) ?_
          obtain ⟨hi10, h⟩ := gc_s h
          refine gx_ia F G hk7 ht8 hn9 hi10 dX0_isFitting_22 ?_
          refine lv_aload_n hx hb dX0_isFitting_23 rfl (lv_at hl 0 rfl) ?_
          refine fg_0_right F G hk3 ht4 in0 (by decide +kernel) dX0_isFitting_24 ?_
          obtain ⟨hk11, hn13⟩ := gka_0_right hk3
          have ht12 : (t + 2) < N := Nat.lt_of_lt_of_le (gck_lt12 hk11) hN
          refine lv_iload_n hx hb dX0_isFitting_27 rfl (lv_at hl 3 rfl) ?_
          obtain ⟨hi14, h⟩ := gc_s h
          refine gx_ia F G hk11 ht12 hn13 hi14 dX0_isFitting_28 ?_
          refine lv_iload_n hx hb dX0_isFitting_29 rfl (lv_at hl 2 rfl) ?_
          obtain ⟨r16, hc15, h⟩ := gb_s h
          refine gx_calli F G (va_runS (As := [.ref (ad a1), .int (c.1 (t + 1) y2.toNatClampNeg), .int (c.1 (t + 2) y2.toNatClampNeg), .int a2]) (rest := []) (gx_fix F) (c_X0_standingBy l sa D ad cy N H.size hN hI c d0 hc15) (va_cwS 4 hts gX0_isFitting_X0_standingBy rfl rfl rfl (by decide +kernel) ⟨by decide, by decide⟩) (gx_pre F G) rfl rfl hl.1 rfl (lv_room (Nat.le_of_ble_eq_true rfl)) dX0_isFitting_30 ⟨Nat.zero_le _, Nat.zero_le _⟩) (fun H locs G => ?_)
          refine lv_aload_n hx hb dX0_isFitting_33 rfl (lv_at hl 0 rfl) ?_
          refine fg_0_stood F G hk3 ht4 in0 (by decide +kernel) dX0_isFitting_34 ?_
          obtain ⟨hk17, hn19⟩ := gka_0_stood hk3
          have ht18 : (t + 3) < N := Nat.lt_of_lt_of_le (gck_lt12 hk17) hN
          refine lv_iload_n hx hb dX0_isFitting_37 rfl (lv_at hl 3 rfl) ?_
          obtain ⟨hi20, h⟩ := gc_s h
          refine gx_ia F G hk17 ht18 hn19 hi20 dX0_isFitting_38 ?_
          refine lv_icmp_eq (tgt := 44) hx hb dX0_isFitting_39 (by decide) (fun q21 => ?_) (fun q21 => ?_)
          · replace h := gt_s q21 h
            obtain ⟨x22, ex22⟩ : ∃ z : Int32, z = y2 + 1 := ⟨_, rfl⟩
            replace h := gv_s h x22 ex22
            refine lv_iinc (v := x22) (lv' := [(3, .int x22), (0, .ref (ad t)), (1, .ref (ad a1)), (2, .int a2)]) hx hb dX0_isFitting_44 hl (k := 3) rfl (by rw [ex22]; rfl) (by decide) rfl (fun ls hl => ?_)
            refine lv_goto (tgt := 2) hx hb dX0_isFitting_47 (by decide) ?_
            cases h
            exact ih1 _ _ _ _ hn1 G (lv_sub hl [1, 2, 3, 0] rfl)
          · replace h := gf_s q21 h
            refine lv_iconst (v := 0) hx hb dX0_isFitting_42 (by decide) ?_
            cases h
            cases gnx_r hn1
            cases gsm_l hK1
            rw [← hQ]
            exact gx_zret F G hr hlocks rfl dX0_isFitting_43
  exact L1 n _ _ _ _ hb1 G (lv_sub hl [1, 2, 3, 0] rfl)
def m_X0_seekPairs_L7 (n : Nat) (t : Nat) (a1 : Nat) (y5 : Int32) (c6 : gm) : Option ((Int32 × gm) ⊕ (gm)) :=
  (if 190 ≤ y5 then some (.inr c6) else gb (m_X0_isFitting n t a1 y5 c6) (fun (r13 : Int32) => gc (0 ≤ y5.toInt ∧ y5.toInt < 190) (gv (gm_r c6 (t + 4) (upd (c6.1 (t + 4)) y5.toNatClampNeg (vp_nar .boolean r13))) (fun (c15 : gm) => gc (0 ≤ y5.toInt ∧ y5.toInt < 190) (gj (fun (v17 : Int32) => gv (gm_r c15 t (upd (c15.1 t) 6 ((c15.1 t 6) + v17))) (fun (c19 : gm) => gv (y5 + 1) (fun (x20 : Int32) => some (.inl (x20, c19))))) (fun K18 => (if (c15.1 (t + 4) y5.toNatClampNeg) = 0 then K18 0 else K18 1)))))))
def m_X0_seekPairs (n : Nat) (t : Nat) (a1 : Nat) (c : gm) : Option (gm) :=
  gc (gck t = 0) (gv (gm_r c t (upd (c.1 t) 6 0)) (fun (c3 : gm) => gb (gloop (gu2 (fun (y5 : Int32) (c6 : gm) => m_X0_seekPairs_L7 n t a1 y5 c6)) n (0, c3)) (fun (c7 : gm) => some c7)))
abbrev rmX0_seekPairs : Room := { frames := 4, cells := 0, slots := 0, locals := 88 }
set_option maxHeartbeats 4000000 in
set_option maxRecDepth 100000 in
theorem c_X0_seekPairs (l : Launch) (sa : gSa) (D : va_G) (ad : Nat → Nat) (cy : Nat → ClassId) (N sz : Nat) (hN : 55 ≤ N) (hI : gI ad N) (c d0 : gm) {n : Nat} {t : Nat} {a1 : Nat} {cZ : gm} (h : m_X0_seekPairs n t a1 c = some cZ) : Met l yX0_seekPairs wsX0_seekPairs rmX0_seekPairs (va_Pc [.ref (ad t), .ref (ad a1)] (gP sa D ad cy N sz c d0)) (va_Qv (fun (_ : Unit) => True) (fun _ U => gE D ad cy N cZ d0 U) (gA ad N sz)) 0 0 (gA ad N sz) := by
  refine Met.ofW (cc := cX0_seekPairs) (maxL := 3) (ret := none) (by decide) rfl ?_
  intro p e s m args below meth cod s₁ B hml hv
  obtain ⟨rfl, hsz, hP, hK, hZ⟩ := hv
  have hx := B.exec
  have hb := B.bytes
  have hr := B.returns
  have hts := atoms_spec (ws := wsX0_seekPairs) B.pre
  have hown : s.vm.findClass RX0 = some m.cls := findClass_of_methodNamed B.named
  have hlocks := B.notSynchronized
  subst hsz
  have hl := lv_entry ([.ref (ad t), .ref (ad a1)]) (n := 3) (Nat.le_of_ble_eq_true rfl)
  rw [lg_entry_eq]
  generalize (lg_sl ([.ref (ad t), .ref (ad a1)]) ++ List.replicate (3 - (lg_sl ([.ref (ad t), .ref (ad a1)])).length) Slot.unset).toArray = ls at hl ⊢
  have hl : lv_has ls 3 [(0, .ref (ad t)), (1, .ref (ad a1))] := hl
  have in0 : ∀ w ∈ wsX00, w ∈ wsX0_seekPairs := by decide +kernel
  generalize hargs : ([.ref (ad t), .ref (ad a1)] : List Value).toArray = args at *
  generalize hAe : gA ad N s.heap.size = A
  have F : gF sa D ad cy N A p s m args cod cX0_seekPairs 3 wsX0_seekPairs RX0 := ⟨hx, hb, hml, hown, hts, hK, hI, by rw [← hAe]; exact gA_ad, by rw [← hAe]; exact gA_sz, by rw [← hAe]; exact hZ⟩
  have G : gW D ad cy N A s.heap c d0 s.heap [] := ⟨hP, va_S.rf⟩
  generalize hQ : MQ below (va_Qv (fun (_ : Unit) => True) (fun _ U => gE D ad cy N cZ d0 U) A) args s 0 0 A = Q
  suffices hgen : ∀ (H : Heap) (locs : List Loc), gW D ad cy N A s.heap c d0 H locs → W p l e rmX0_seekPairs s m args below meth cod H locs 0 0 Q (F0 m 0 ls []) from hgen _ _ G
  clear G
  intro H locs G
  unfold m_X0_seekPairs at h
  refine lv_aload_n hx hb dX0_seekPairs_0 rfl (lv_at hl 0 rfl) ?_
  refine lv_iconst (v := 0) hx hb dX0_seekPairs_1 (by decide) ?_
  obtain ⟨hk1, h⟩ := gc_s h
  have ht2 : t < N := Nat.lt_of_lt_of_le (gck_lt0 hk1) hN
  refine fp_0_pairs F G hk1 ht2 in0 (by decide +kernel) dX0_seekPairs_2 (fun H locs G => ?_)
  obtain ⟨c3, ec3⟩ : ∃ z, z = gm_r c t (upd (c.1 t) 6 0) := ⟨_, rfl⟩
  rw [← ec3] at G
  replace h := gv_s h c3 ec3
  refine lv_iconst (v := 0) hx hb dX0_seekPairs_5 (by decide) ?_
  refine lv_istore_n (lv' := [(2, .int 0), (0, .ref (ad t)), (1, .ref (ad a1))]) hx hb dX0_seekPairs_6 rfl hl (by decide) rfl (fun ls hl => ?_)
  obtain ⟨b4, hb4, hK4⟩ := gb_s h
  have E4 : ∀ (c7 : gm) (H : Heap) (locs : List Loc) (ls : Array Slot), (c7 : gm) = b4 → gW D ad cy N A s.heap c7 d0 H locs → lv_has ls 3 [] → W p l e rmX0_seekPairs s m args below meth cod H locs 0 0 Q (F0 m 55 ls []) := by
    intro c7 H locs ls hq4 G hl
    subst hq4
    replace hK4 := hK4
    have h := hK4
    cases h
    rw [← hQ]
    exact gx_vret F G hr hlocks dX0_seekPairs_55
  have L4 : ∀ (n9 : Nat) (y5 : Int32) (c6 : gm) (H : Heap) (locs : List Loc) (ls : Array Slot), gloop (gu2 (fun (y5 : Int32) (c6 : gm) => m_X0_seekPairs_L7 n t a1 y5 c6)) n9 (y5, c6) = some b4 → gW D ad cy N A s.heap c6 d0 H locs → lv_has ls 3 [(0, .ref (ad t)), (1, .ref (ad a1)), (2, .int y5)] → W p l e rmX0_seekPairs s m args below meth cod H locs 0 0 Q (F0 m 7 ls []) := by
    intro n9
    induction n9 with
    | zero => intro y5 c6 H locs ls h; exact (gloop_0 h).elim
    | succ n9 ih =>
      intro y5 c6 H locs ls h G hl
      have ih4 := ih
      obtain ⟨o4, h, hn4⟩ := gloop_s h
      replace h := gu2_s h
      unfold m_X0_seekPairs_L7 at h
      refine lv_iload_n hx hb dX0_seekPairs_7 rfl (lv_at hl 2 rfl) ?_
      refine lv_sipush (v := 190) hx hb dX0_seekPairs_8 (by decide) ?_
      refine lv_icmp_ge (tgt := 55) hx hb dX0_seekPairs_11 (by decide) (fun q8 => ?_) (fun q8 => ?_)
      · replace h := gt_s q8 h
        cases h
        exact E4 _ _ _ _ (gnx_r hn4) G (lv_sub hl [] rfl)
      · replace h := gf_s q8 h
        refine lv_aload_n hx hb dX0_seekPairs_14 rfl (lv_at hl 0 rfl) ?_
        refine fg_0_fitting F G hk1 ht2 in0 (by decide +kernel) dX0_seekPairs_15 ?_
        obtain ⟨hk9, hn11⟩ := gka_0_fitting hk1
        have ht10 : (t + 4) < N := Nat.lt_of_lt_of_le (gck_lt14 hk9) hN
        refine lv_iload_n hx hb dX0_seekPairs_18 rfl (lv_at hl 2 rfl) ?_
        refine lv_aload_n hx hb dX0_seekPairs_19 rfl (lv_at hl 0 rfl) ?_
        refine lv_aload_n hx hb dX0_seekPairs_20 rfl (lv_at hl 1 rfl) ?_
        refine lv_iload_n hx hb dX0_seekPairs_21 rfl (lv_at hl 2 rfl) ?_
        obtain ⟨r13, hc12, h⟩ := gb_s h
        refine gx_calli F G (va_runV (As := [.ref (ad a1), .int y5]) (rest := [.int y5, .ref (ad (t + 4))]) (gx_fix F) (c_X0_isFitting l sa D ad cy N H.size hN hI c6 d0 hc12) (cwV 2 hts gX0_seekPairs_X0_isFitting rfl rfl rfl (by decide +kernel) ⟨by decide, by decide⟩) (gx_rec F G ht2 (gwe_0 hk1) rfl) rfl rfl hl.1 rfl (lv_room (Nat.le_of_ble_eq_true rfl)) dX0_seekPairs_22 ⟨Nat.zero_le _, Nat.zero_le _⟩) (fun H locs G => ?_)
        obtain ⟨hi14, h⟩ := gc_s h
        refine gx_zs F G hk9 ht10 hn11 hi14 dX0_seekPairs_25 (fun H locs G => ?_)
        obtain ⟨c15, ec15⟩ : ∃ z, z = gm_r c6 (t + 4) (upd (c6.1 (t + 4)) y5.toNatClampNeg (vp_nar .boolean r13)) := ⟨_, rfl⟩
        rw [← ec15] at G
        replace h := gv_s h c15 ec15
        refine lv_aload_n hx hb dX0_seekPairs_26 rfl (lv_at hl 0 rfl) ?_
        refine lv_dup hx hb dX0_seekPairs_27 rfl ?_
        refine fg_0_pairs F G hk1 ht2 in0 (by decide +kernel) dX0_seekPairs_28 ?_
        refine lv_aload_n hx hb dX0_seekPairs_31 rfl (lv_at hl 0 rfl) ?_
        refine fg_0_fitting F G hk1 ht2 in0 (by decide +kernel) dX0_seekPairs_32 ?_
        refine lv_iload_n hx hb dX0_seekPairs_35 rfl (lv_at hl 2 rfl) ?_
        obtain ⟨hi16, h⟩ := gc_s h
        refine gx_za F G hk9 ht10 hn11 hi16 dX0_seekPairs_36 ?_
        obtain ⟨K18, eK18, h⟩ := gj_s h
        have JK18 : ∀ (v17 : Int32) (H : Heap) (locs : List Loc) (ls : Array Slot), K18 v17 = some o4 → gW D ad cy N A s.heap c15 d0 H locs → lv_has ls 3 [(0, .ref (ad t)), (1, .ref (ad a1)), (2, .int y5)] → W p l e rmX0_seekPairs s m args below meth cod H locs 0 0 Q (F0 m 45 ls [.int v17, .int (c15.1 t 6), .ref (ad t)]) := by
          intro v17 H locs ls h G hl
          rw [eK18] at h
          refine lv_iadd hx hb dX0_seekPairs_45 ?_
          refine fp_0_pairs F G hk1 ht2 in0 (by decide +kernel) dX0_seekPairs_46 (fun H locs G => ?_)
          obtain ⟨c19, ec19⟩ : ∃ z, z = gm_r c15 t (upd (c15.1 t) 6 ((c15.1 t 6) + v17)) := ⟨_, rfl⟩
          rw [← ec19] at G
          replace h := gv_s h c19 ec19
          obtain ⟨x20, ex20⟩ : ∃ z : Int32, z = y5 + 1 := ⟨_, rfl⟩
          replace h := gv_s h x20 ex20
          refine lv_iinc (v := x20) (lv' := [(2, .int x20), (0, .ref (ad t)), (1, .ref (ad a1))]) hx hb dX0_seekPairs_49 hl (k := 2) rfl (by rw [ex20]; rfl) (by decide) rfl (fun ls hl => ?_)
          refine lv_goto (tgt := 7) hx hb dX0_seekPairs_52 (by decide) ?_
          cases h
          exact ih4 _ _ _ _ _ hn4 G (lv_sub hl [1, 2, 0] rfl)
        refine lv_if_eq (tgt := 44) hx hb dX0_seekPairs_37 (by decide) (fun q21 => ?_) (fun q21 => ?_)
        · replace h := gt_s q21 h
          refine lv_iconst (v := 0) hx hb dX0_seekPairs_44 (by decide) ?_
          exact JK18 _ _ _ _ h G hl
        · replace h := gf_s q21 h
          refine lv_iconst (v := 1) hx hb dX0_seekPairs_40 (by decide) ?_
          refine lv_goto (tgt := 45) hx hb dX0_seekPairs_41 (by decide) ?_
          exact JK18 _ _ _ _ h G hl
  exact L4 n _ _ _ _ _ hb4 G (lv_sub hl [1, 2, 0] rfl)
def m_X0_firstPair_L2 (t : Nat) (c : gm) (y2 : Int32) : Option ((Int32) ⊕ ((Int32) ⊕ (Unit))) :=
  (if 190 ≤ y2 then some (.inr (.inr ())) else gc (gck t = 0) (gc (0 ≤ y2.toInt ∧ y2.toInt < 190) ((if (c.1 (t + 4) y2.toNatClampNeg) = 0 then gv (y2 + 1) (fun (x11 : Int32) => some (.inl x11)) else some (.inr (.inl y2))))))
def m_X0_firstPair (n : Nat) (t : Nat) (c : gm) : Option (Int32) :=
  gb (gloop (fun (y2 : Int32) => m_X0_firstPair_L2 t c y2) n 0) (gsm (fun (_ : Unit) => some (-1)))
abbrev rmX0_firstPair : Room := { frames := 0, cells := 0, slots := 0, locals := 0 }
set_option maxHeartbeats 4000000 in
set_option maxRecDepth 100000 in
theorem c_X0_firstPair (l : Launch) (sa : gSa) (D : va_G) (ad : Nat → Nat) (cy : Nat → ClassId) (N sz : Nat) (hN : 55 ≤ N) (hI : gI ad N) (c d0 : gm) {n : Nat} {t : Nat} {rZ : Int32} (h : m_X0_firstPair n t c = some rZ) : Met l yX0_firstPair wsX0_firstPair rmX0_firstPair (va_Pc [.ref (ad t)] (gP sa D ad cy N sz c d0)) (va_Qi (fun (z : Int32) (_ : Unit) => z = rZ) (fun _ U => gE D ad cy N c d0 U) (gA ad N sz)) 0 0 (gA ad N sz) := by
  refine Met.ofW (cc := cX0_firstPair) (maxL := 2) (ret := (some .int)) (by decide) rfl ?_
  intro p e s m args below meth cod s₁ B hml hv
  obtain ⟨rfl, hsz, hP, hK, hZ⟩ := hv
  have hx := B.exec
  have hb := B.bytes
  have hr := B.returns
  have hts := atoms_spec (ws := wsX0_firstPair) B.pre
  have hown : s.vm.findClass RX0 = some m.cls := findClass_of_methodNamed B.named
  have hlocks := B.notSynchronized
  subst hsz
  have hl := lv_entry ([.ref (ad t)]) (n := 2) (Nat.le_of_ble_eq_true rfl)
  rw [lg_entry_eq]
  generalize (lg_sl ([.ref (ad t)]) ++ List.replicate (2 - (lg_sl ([.ref (ad t)])).length) Slot.unset).toArray = ls at hl ⊢
  have hl : lv_has ls 2 [(0, .ref (ad t))] := hl
  have in0 : ∀ w ∈ wsX00, w ∈ wsX0_firstPair := by decide +kernel
  generalize hargs : ([.ref (ad t)] : List Value).toArray = args at *
  generalize hAe : gA ad N s.heap.size = A
  have F : gF sa D ad cy N A p s m args cod cX0_firstPair 2 wsX0_firstPair RX0 := ⟨hx, hb, hml, hown, hts, hK, hI, by rw [← hAe]; exact gA_ad, by rw [← hAe]; exact gA_sz, by rw [← hAe]; exact hZ⟩
  have G : gW D ad cy N A s.heap c d0 s.heap [] := ⟨hP, va_S.rf⟩
  generalize hQ : MQ below (va_Qi (fun (z : Int32) (_ : Unit) => z = rZ) (fun _ U => gE D ad cy N c d0 U) A) args s 0 0 A = Q
  suffices hgen : ∀ (H : Heap) (locs : List Loc), gW D ad cy N A s.heap c d0 H locs → W p l e rmX0_firstPair s m args below meth cod H locs 0 0 Q (F0 m 0 ls []) from hgen _ _ G
  clear G
  intro H locs G
  unfold m_X0_firstPair at h
  refine lv_iconst (v := 0) hx hb dX0_firstPair_0 (by decide) ?_
  refine lv_istore_n (lv' := [(1, .int 0), (0, .ref (ad t))]) hx hb dX0_firstPair_1 rfl hl (by decide) rfl (fun ls hl => ?_)
  obtain ⟨b1, hb1, hK1⟩ := gb_s h
  have E1 : ∀ (H : Heap) (locs : List Loc) (ls : Array Slot), (Sum.inr () : (Int32) ⊕ (Unit)) = b1 → gW D ad cy N A s.heap c d0 H locs → lv_has ls 2 [] → W p l e rmX0_firstPair s m args below meth cod H locs 0 0 Q (F0 m 26 ls []) := by
    intro  H locs ls hq1 G hl
    subst hq1
    replace hK1 := gsm_r hK1
    have h := hK1
    refine lv_iconst (v := (-1)) hx hb dX0_firstPair_26 (by decide) ?_
    cases h
    rw [← hQ]
    exact gx_iret F G hr hlocks dX0_firstPair_27
  have L1 : ∀ (n9 : Nat) (y2 : Int32) (H : Heap) (locs : List Loc) (ls : Array Slot), gloop (fun (y2 : Int32) => m_X0_firstPair_L2 t c y2) n9 y2 = some b1 → gW D ad cy N A s.heap c d0 H locs → lv_has ls 2 [(0, .ref (ad t)), (1, .int y2)] → W p l e rmX0_firstPair s m args below meth cod H locs 0 0 Q (F0 m 2 ls []) := by
    intro n9
    induction n9 with
    | zero => intro y2 H locs ls h; exact (gloop_0 h).elim
    | succ n9 ih =>
      intro y2 H locs ls h G hl
      have ih1 := ih
      obtain ⟨o1, h, hn1⟩ := gloop_s h
      unfold m_X0_firstPair_L2 at h
      refine lv_iload_n hx hb dX0_firstPair_2 rfl (lv_at hl 1 rfl) ?_
      refine lv_sipush (v := 190) hx hb dX0_firstPair_3 (by decide) ?_
      refine lv_icmp_ge (tgt := 26) hx hb dX0_firstPair_6 (by decide) (fun q3 => ?_) (fun q3 => ?_)
      · replace h := gt_s q3 h
        cases h
        exact E1  _ _ _ (gnx_r hn1) G (lv_sub hl [] rfl)
      · replace h := gf_s q3 h
        refine lv_aload_n hx hb dX0_firstPair_9 rfl (lv_at hl 0 rfl) ?_
        obtain ⟨hk4, h⟩ := gc_s h
        have ht5 : t < N := Nat.lt_of_lt_of_le (gck_lt0 hk4) hN
        refine fg_0_fitting F G hk4 ht5 in0 (by decide +kernel) dX0_firstPair_10 ?_
        obtain ⟨hk6, hn8⟩ := gka_0_fitting hk4
        have ht7 : (t + 4) < N := Nat.lt_of_lt_of_le (gck_lt14 hk6) hN
        refine lv_iload_n hx hb dX0_firstPair_13 rfl (lv_at hl 1 rfl) ?_
        obtain ⟨hi9, h⟩ := gc_s h
        refine gx_za F G hk6 ht7 hn8 hi9 dX0_firstPair_14 ?_
        refine lv_if_eq (tgt := 20) hx hb dX0_firstPair_15 (by decide) (fun q10 => ?_) (fun q10 => ?_)
        · replace h := gt_s q10 h
          obtain ⟨x11, ex11⟩ : ∃ z : Int32, z = y2 + 1 := ⟨_, rfl⟩
          replace h := gv_s h x11 ex11
          refine lv_iinc (v := x11) (lv' := [(1, .int x11), (0, .ref (ad t))]) hx hb dX0_firstPair_20 hl (k := 1) rfl (by rw [ex11]; rfl) (by decide) rfl (fun ls hl => ?_)
          refine lv_goto (tgt := 2) hx hb dX0_firstPair_23 (by decide) ?_
          cases h
          exact ih1 _ _ _ _ hn1 G (lv_sub hl [1, 0] rfl)
        · replace h := gf_s q10 h
          refine lv_iload_n hx hb dX0_firstPair_18 rfl (lv_at hl 1 rfl) ?_
          cases h
          cases gnx_r hn1
          cases gsm_l hK1
          rw [← hQ]
          exact gx_iret F G hr hlocks dX0_firstPair_19
  exact L1 n _ _ _ _ hb1 G (lv_sub hl [1, 0] rfl)
def m_J7_fill_53178_L5 (a1 : Nat) (a2 : Int32) (x3 : Int32) (y5 : Int32) (c6 : gm) : Option ((Int32 × gm) ⊕ (gm)) :=
  (if x3 ≤ y5 then some (.inr c6) else gc (0 ≤ y5.toInt ∧ y5.toInt < ((gal a1) : Nat)) (gv (gm_r c6 a1 (upd (c6.1 a1) y5.toNatClampNeg a2)) (fun (c10 : gm) => gv (y5 + 1) (fun (x11 : Int32) => some (.inl (x11, c10))))))
def m_J7_fill_53178 (n : Nat) (a1 : Nat) (a2 : Int32) (c : gm) : Option (gm) :=
  gc (gck a1 = 12) (gv (nI (gal a1)) (fun (x3 : Int32) => gb (gloop (gu2 (fun (y5 : Int32) (c6 : gm) => m_J7_fill_53178_L5 a1 a2 x3 y5 c6)) n (0, c)) (fun (c7 : gm) => some c7)))
abbrev rmJ7_fill_53178 : Room := { frames := 0, cells := 0, slots := 0, locals := 0 }
set_option maxHeartbeats 4000000 in
set_option maxRecDepth 100000 in
theorem c_J7_fill_53178 (l : Launch) (sa : gSa) (D : va_G) (ad : Nat → Nat) (cy : Nat → ClassId) (N sz : Nat) (hN : 55 ≤ N) (hI : gI ad N) (c d0 : gm) {n : Nat} {a1 : Nat} {a2 : Int32} {cZ : gm} (h : m_J7_fill_53178 n a1 a2 c = some cZ) : Met l yJ7_fill_53178 wsJ7_fill_53178 rmJ7_fill_53178 (va_Pc [.ref (ad a1), .int a2] (gP sa D ad cy N sz c d0)) (va_Qv (fun (_ : Unit) => True) (fun _ U => gE D ad cy N cZ d0 U) (gA ad N sz)) 0 0 (gA ad N sz) := by
  refine Met.ofW (cc := cJ7_fill_53178) (maxL := 4) (ret := none) (by decide) rfl ?_
  intro p e s m args below meth cod s₁ B hml hv
  obtain ⟨rfl, hsz, hP, hK, hZ⟩ := hv
  have hx := B.exec
  have hb := B.bytes
  have hr := B.returns
  have hts := atoms_spec (ws := wsJ7_fill_53178) B.pre
  have hown : s.vm.findClass RJ7 = some m.cls := findClass_of_methodNamed B.named
  have hlocks := B.notSynchronized
  subst hsz
  have hl := lv_entry ([.ref (ad a1), .int a2]) (n := 4) (Nat.le_of_ble_eq_true rfl)
  rw [lg_entry_eq]
  generalize (lg_sl ([.ref (ad a1), .int a2]) ++ List.replicate (4 - (lg_sl ([.ref (ad a1), .int a2])).length) Slot.unset).toArray = ls at hl ⊢
  have hl : lv_has ls 4 [(0, .ref (ad a1)), (1, .int a2)] := hl
  generalize hargs : ([.ref (ad a1), .int a2] : List Value).toArray = args at *
  generalize hAe : gA ad N s.heap.size = A
  have F : gF sa D ad cy N A p s m args cod cJ7_fill_53178 4 wsJ7_fill_53178 RJ7 := ⟨hx, hb, hml, hown, hts, hK, hI, by rw [← hAe]; exact gA_ad, by rw [← hAe]; exact gA_sz, by rw [← hAe]; exact hZ⟩
  have G : gW D ad cy N A s.heap c d0 s.heap [] := ⟨hP, va_S.rf⟩
  generalize hQ : MQ below (va_Qv (fun (_ : Unit) => True) (fun _ U => gE D ad cy N cZ d0 U) A) args s 0 0 A = Q
  suffices hgen : ∀ (H : Heap) (locs : List Loc), gW D ad cy N A s.heap c d0 H locs → W p l e rmJ7_fill_53178 s m args below meth cod H locs 0 0 Q (F0 m 0 ls []) from hgen _ _ G
  clear G
  intro H locs G
  unfold m_J7_fill_53178 at h
  refine lv_iconst (v := 0) hx hb dJ7_fill_53178_0 (by decide) ?_
  refine lv_istore_n (lv' := [(2, .int 0), (0, .ref (ad a1)), (1, .int a2)]) hx hb dJ7_fill_53178_1 rfl hl (by decide) rfl (fun ls hl => ?_)
  refine lv_aload_n hx hb dJ7_fill_53178_2 rfl (lv_at hl 1 rfl) ?_
  obtain ⟨hk1, h⟩ := gc_s h
  have ht2 : a1 < N := Nat.lt_of_lt_of_le (gck_lt12 hk1) hN
  refine gx_ial F G hk1 ht2 rfl dJ7_fill_53178_3 ?_
  refine lv_topi (fun x3 ex3 => ?_)
  replace h := gv_s h x3 ex3
  refine lv_istore_n (lv' := [(3, .int x3), (2, .int 0), (0, .ref (ad a1)), (1, .int a2)]) hx hb dJ7_fill_53178_4 rfl hl (by decide) rfl (fun ls hl => ?_)
  obtain ⟨b4, hb4, hK4⟩ := gb_s h
  have E4 : ∀ (c7 : gm) (H : Heap) (locs : List Loc) (ls : Array Slot), (c7 : gm) = b4 → gW D ad cy N A s.heap c7 d0 H locs → lv_has ls 4 [] → W p l e rmJ7_fill_53178 s m args below meth cod H locs 0 0 Q (F0 m 20 ls []) := by
    intro c7 H locs ls hq4 G hl
    subst hq4
    replace hK4 := hK4
    have h := hK4
    cases h
    rw [← hQ]
    exact gx_vret F G hr hlocks dJ7_fill_53178_20
  have L4 : ∀ (n9 : Nat) (y5 : Int32) (c6 : gm) (H : Heap) (locs : List Loc) (ls : Array Slot), gloop (gu2 (fun (y5 : Int32) (c6 : gm) => m_J7_fill_53178_L5 a1 a2 x3 y5 c6)) n9 (y5, c6) = some b4 → gW D ad cy N A s.heap c6 d0 H locs → lv_has ls 4 [(0, .ref (ad a1)), (1, .int a2), (2, .int y5), (3, .int x3)] → W p l e rmJ7_fill_53178 s m args below meth cod H locs 0 0 Q (F0 m 5 ls []) := by
    intro n9
    induction n9 with
    | zero => intro y5 c6 H locs ls h; exact (gloop_0 h).elim
    | succ n9 ih =>
      intro y5 c6 H locs ls h G hl
      have ih4 := ih
      obtain ⟨o4, h, hn4⟩ := gloop_s h
      replace h := gu2_s h
      unfold m_J7_fill_53178_L5 at h
      refine lv_iload_n hx hb dJ7_fill_53178_5 rfl (lv_at hl 2 rfl) ?_
      refine lv_iload_n hx hb dJ7_fill_53178_6 rfl (lv_at hl 3 rfl) ?_
      refine lv_icmp_ge (tgt := 20) hx hb dJ7_fill_53178_7 (by decide) (fun q8 => ?_) (fun q8 => ?_)
      · replace h := gt_s q8 h
        cases h
        exact E4 _ _ _ _ (gnx_r hn4) G (lv_sub hl [] rfl)
      · replace h := gf_s q8 h
        refine lv_aload_n hx hb dJ7_fill_53178_10 rfl (lv_at hl 0 rfl) ?_
        refine lv_iload_n hx hb dJ7_fill_53178_11 rfl (lv_at hl 2 rfl) ?_
        refine lv_iload_n hx hb dJ7_fill_53178_12 rfl (lv_at hl 1 rfl) ?_
        obtain ⟨hi9, h⟩ := gc_s h
        refine gx_is F G hk1 ht2 rfl hi9 dJ7_fill_53178_13 (fun H locs G => ?_)
        obtain ⟨c10, ec10⟩ : ∃ z, z = gm_r c6 a1 (upd (c6.1 a1) y5.toNatClampNeg a2) := ⟨_, rfl⟩
        rw [← ec10] at G
        replace h := gv_s h c10 ec10
        obtain ⟨x11, ex11⟩ : ∃ z : Int32, z = y5 + 1 := ⟨_, rfl⟩
        replace h := gv_s h x11 ex11
        refine lv_iinc (v := x11) (lv' := [(2, .int x11), (0, .ref (ad a1)), (1, .int a2), (3, .int x3)]) hx hb dJ7_fill_53178_14 hl (k := 2) rfl (by rw [ex11]; rfl) (by decide) rfl (fun ls hl => ?_)
        refine lv_goto (tgt := 5) hx hb dJ7_fill_53178_17 (by decide) ?_
        cases h
        exact ih4 _ _ _ _ _ hn4 G (lv_sub hl [1, 2, 0, 3] rfl)
  exact L4 n _ _ _ _ _ hb4 G (lv_sub hl [2, 3, 1, 0] rfl)
def m_X0_worstOf_L11 (t : Nat) (a1 : Nat) (a2 : Int32) (a3 : Int32) (y10 : Int32) (c11 : gm) : Option ((Int32 × gm) ⊕ (gm)) :=
  (if 190 ≤ y10 then some (.inr c11) else gb (m_X0_standingBy a1 a2 a3 y10 c11) (fun (r18 : Int32) => gc (0 ≤ y10.toInt ∧ y10.toInt < 190) (gj (fun (c23 : gm) => gv (y10 + 1) (fun (x25 : Int32) => some (.inl (x25, c23)))) (fun K24 => (if (c11.1 (t + 4) y10.toNatClampNeg) = 0 then K24 c11 else (if r18 < 0 then K24 c11 else (if 2 < r18 then K24 c11 else gc (0 ≤ r18.toInt ∧ r18.toInt < 3) (gc (0 ≤ r18.toInt ∧ r18.toInt < 3) (gv (gm_r c11 (t + 5) (upd (c11.1 (t + 5)) r18.toNatClampNeg ((c11.1 (t + 5) r18.toNatClampNeg) + 1))) (fun (c31 : gm) => K24 c31))))))))))
def m_X0_worstOf (n : Nat) (t : Nat) (a1 : Nat) (a2 : Int32) (a3 : Int32) (c : gm) : Option (Int32 × gm) :=
  gc (gck t = 0) (gb (m_J7_fill_53178 n (t + 5) 0 c) (fun (c8 : gm) => gb (gloop (gu2 (fun (y10 : Int32) (c11 : gm) => m_X0_worstOf_L11 t a1 a2 a3 y10 c11)) n (0, c8)) (fun (c12 : gm) => some ((if (c12.1 (t + 5) (0 : Int32).toNatClampNeg) < (if (c12.1 (t + 5) (1 : Int32).toNatClampNeg) < (c12.1 (t + 5) (2 : Int32).toNatClampNeg) then (c12.1 (t + 5) (2 : Int32).toNatClampNeg) else (c12.1 (t + 5) (1 : Int32).toNatClampNeg)) then (if (c12.1 (t + 5) (1 : Int32).toNatClampNeg) < (c12.1 (t + 5) (2 : Int32).toNatClampNeg) then (c12.1 (t + 5) (2 : Int32).toNatClampNeg) else (c12.1 (t + 5) (1 : Int32).toNatClampNeg)) else (c12.1 (t + 5) (0 : Int32).toNatClampNeg)), c12))))
abbrev rmX0_worstOf : Room := { frames := 3, cells := 0, slots := 0, locals := 65 }
set_option maxHeartbeats 4000000 in
set_option maxRecDepth 100000 in
theorem c_X0_worstOf (l : Launch) (sa : gSa) (D : va_G) (ad : Nat → Nat) (cy : Nat → ClassId) (N sz : Nat) (hN : 55 ≤ N) (hI : gI ad N) (c d0 : gm) {n : Nat} {t : Nat} {a1 : Nat} {a2 : Int32} {a3 : Int32} {rZ : Int32} {cZ : gm} (h : m_X0_worstOf n t a1 a2 a3 c = some (rZ, cZ)) : Met l yX0_worstOf wsX0_worstOf rmX0_worstOf (va_Pc [.ref (ad t), .ref (ad a1), .int a2, .int a3] (gP sa D ad cy N sz c d0)) (va_Qi (fun (z : Int32) (_ : Unit) => z = rZ) (fun _ U => gE D ad cy N cZ d0 U) (gA ad N sz)) 0 0 (gA ad N sz) := by
  refine Met.ofW (cc := cX0_worstOf) (maxL := 6) (ret := (some .int)) (by decide) rfl ?_
  intro p e s m args below meth cod s₁ B hml hv
  obtain ⟨rfl, hsz, hP, hK, hZ⟩ := hv
  have hx := B.exec
  have hb := B.bytes
  have hr := B.returns
  have hts := atoms_spec (ws := wsX0_worstOf) B.pre
  have hown : s.vm.findClass RX0 = some m.cls := findClass_of_methodNamed B.named
  have hlocks := B.notSynchronized
  subst hsz
  have hl := lv_entry ([.ref (ad t), .ref (ad a1), .int a2, .int a3]) (n := 6) (Nat.le_of_ble_eq_true rfl)
  rw [lg_entry_eq]
  generalize (lg_sl ([.ref (ad t), .ref (ad a1), .int a2, .int a3]) ++ List.replicate (6 - (lg_sl ([.ref (ad t), .ref (ad a1), .int a2, .int a3])).length) Slot.unset).toArray = ls at hl ⊢
  have hl : lv_has ls 6 [(0, .ref (ad t)), (1, .ref (ad a1)), (2, .int a2), (3, .int a3)] := hl
  have in0 : ∀ w ∈ wsX00, w ∈ wsX0_worstOf := by decide +kernel
  generalize hargs : ([.ref (ad t), .ref (ad a1), .int a2, .int a3] : List Value).toArray = args at *
  generalize hAe : gA ad N s.heap.size = A
  have F : gF sa D ad cy N A p s m args cod cX0_worstOf 6 wsX0_worstOf RX0 := ⟨hx, hb, hml, hown, hts, hK, hI, by rw [← hAe]; exact gA_ad, by rw [← hAe]; exact gA_sz, by rw [← hAe]; exact hZ⟩
  have G : gW D ad cy N A s.heap c d0 s.heap [] := ⟨hP, va_S.rf⟩
  generalize hQ : MQ below (va_Qi (fun (z : Int32) (_ : Unit) => z = rZ) (fun _ U => gE D ad cy N cZ d0 U) A) args s 0 0 A = Q
  suffices hgen : ∀ (H : Heap) (locs : List Loc), gW D ad cy N A s.heap c d0 H locs → W p l e rmX0_worstOf s m args below meth cod H locs 0 0 Q (F0 m 0 ls []) from hgen _ _ G
  clear G
  intro H locs G
  unfold m_X0_worstOf at h
  refine lv_aload_n hx hb dX0_worstOf_0 rfl (lv_at hl 0 rfl) ?_
  obtain ⟨hk1, h⟩ := gc_s h
  have ht2 : t < N := Nat.lt_of_lt_of_le (gck_lt0 hk1) hN
  refine fg_0_leftBy F G hk1 ht2 in0 (by decide +kernel) dX0_worstOf_1 ?_
  obtain ⟨hk3, hn5⟩ := gka_0_leftBy hk1
  have ht4 : (t + 5) < N := Nat.lt_of_lt_of_le (gck_lt12 hk3) hN
  refine lv_iconst (v := 0) hx hb dX0_worstOf_4 (by decide) ?_
  obtain ⟨c8, hc6, h⟩ := gb_s h
  refine gx_callv F G (va_runS (As := [.ref (ad (t + 5)), .int 0]) (rest := []) (gx_fix F) (c_J7_fill_53178 l sa D ad cy N H.size hN hI c d0 hc6) (va_cwS 2 hts gX0_worstOf_J7_fill_53178 rfl rfl rfl (by decide +kernel) ⟨by decide, by decide⟩) (gx_pre F G) rfl rfl hl.1 rfl (lv_room (Nat.le_of_ble_eq_true rfl)) dX0_worstOf_5 ⟨Nat.zero_le _, Nat.zero_le _⟩) (fun H locs G => ?_)
  refine lv_iconst (v := 0) hx hb dX0_worstOf_8 (by decide) ?_
  refine lv_istore (lv' := [(4, .int 0), (0, .ref (ad t)), (1, .ref (ad a1)), (2, .int a2), (3, .int a3)]) hx hb dX0_worstOf_9 hl (by decide) rfl (fun ls hl => ?_)
  obtain ⟨b9, hb9, hK9⟩ := gb_s h
  have E9 : ∀ (c12 : gm) (H : Heap) (locs : List Loc) (ls : Array Slot), (c12 : gm) = b9 → gW D ad cy N A s.heap c12 d0 H locs → lv_has ls 6 [(0, .ref (ad t))] → W p l e rmX0_worstOf s m args below meth cod H locs 0 0 Q (F0 m 67 ls []) := by
    intro c12 H locs ls hq9 G hl
    subst hq9
    replace hK9 := hK9
    have h := hK9
    refine lv_aload_n hx hb dX0_worstOf_67 rfl (lv_at hl 0 rfl) ?_
    refine fg_0_leftBy F G hk1 ht2 in0 (by decide +kernel) dX0_worstOf_68 ?_
    refine lv_iconst (v := 0) hx hb dX0_worstOf_71 (by decide) ?_
    refine gx_ia F G hk3 ht4 hn5 (by decide) dX0_worstOf_72 ?_
    refine lv_aload_n hx hb dX0_worstOf_73 rfl (lv_at hl 0 rfl) ?_
    refine fg_0_leftBy F G hk1 ht2 in0 (by decide +kernel) dX0_worstOf_74 ?_
    refine lv_iconst (v := 1) hx hb dX0_worstOf_77 (by decide) ?_
    refine gx_ia F G hk3 ht4 hn5 (by decide) dX0_worstOf_78 ?_
    refine lv_aload_n hx hb dX0_worstOf_79 rfl (lv_at hl 0 rfl) ?_
    refine fg_0_leftBy F G hk1 ht2 in0 (by decide +kernel) dX0_worstOf_80 ?_
    refine lv_iconst (v := 2) hx hb dX0_worstOf_83 (by decide) ?_
    refine gx_ia F G hk3 ht4 hn5 (by decide) dX0_worstOf_84 ?_
    refine va_mmax hx hb (hml.trans hl.1.symm) hown (hts (.methodLink RX0 106 Lib.Math.max.name) (by decide +kernel)) (hts (.static Lib.Math.max.name) (by decide +kernel)) (hts (.initialized "java/lang/Math") (by decide +kernel)) (hts (.code Lib.Math.max.name Lib.Math.max.code 2 (some .int)) (by decide +kernel)) (Nat.le_of_ble_eq_true rfl) (Nat.le_of_ble_eq_true rfl) (Nat.zero_le _) (Nat.zero_le _) dX0_worstOf_85 ?_
    refine va_mmax hx hb (hml.trans hl.1.symm) hown (hts (.methodLink RX0 106 Lib.Math.max.name) (by decide +kernel)) (hts (.static Lib.Math.max.name) (by decide +kernel)) (hts (.initialized "java/lang/Math") (by decide +kernel)) (hts (.code Lib.Math.max.name Lib.Math.max.code 2 (some .int)) (by decide +kernel)) (Nat.le_of_ble_eq_true rfl) (Nat.le_of_ble_eq_true rfl) (Nat.zero_le _) (Nat.zero_le _) dX0_worstOf_88 ?_
    cases h
    rw [← hQ]
    exact gx_iret F G hr hlocks dX0_worstOf_91
  have L9 : ∀ (n9 : Nat) (y10 : Int32) (c11 : gm) (H : Heap) (locs : List Loc) (ls : Array Slot), gloop (gu2 (fun (y10 : Int32) (c11 : gm) => m_X0_worstOf_L11 t a1 a2 a3 y10 c11)) n9 (y10, c11) = some b9 → gW D ad cy N A s.heap c11 d0 H locs → lv_has ls 6 [(0, .ref (ad t)), (1, .ref (ad a1)), (2, .int a2), (3, .int a3), (4, .int y10)] → W p l e rmX0_worstOf s m args below meth cod H locs 0 0 Q (F0 m 11 ls []) := by
    intro n9
    induction n9 with
    | zero => intro y10 c11 H locs ls h; exact (gloop_0 h).elim
    | succ n9 ih =>
      intro y10 c11 H locs ls h G hl
      have ih9 := ih
      obtain ⟨o9, h, hn9⟩ := gloop_s h
      replace h := gu2_s h
      unfold m_X0_worstOf_L11 at h
      refine lv_iload hx hb dX0_worstOf_11 (lv_at hl 4 rfl) ?_
      refine lv_sipush (v := 190) hx hb dX0_worstOf_13 (by decide) ?_
      refine lv_icmp_ge (tgt := 67) hx hb dX0_worstOf_16 (by decide) (fun q16 => ?_) (fun q16 => ?_)
      · replace h := gt_s q16 h
        cases h
        exact E9 _ _ _ _ (gnx_r hn9) G (lv_sub hl [0] rfl)
      · replace h := gf_s q16 h
        refine lv_aload_n hx hb dX0_worstOf_19 rfl (lv_at hl 1 rfl) ?_
        refine lv_iload_n hx hb dX0_worstOf_20 rfl (lv_at hl 2 rfl) ?_
        refine lv_iload_n hx hb dX0_worstOf_21 rfl (lv_at hl 3 rfl) ?_
        refine lv_iload hx hb dX0_worstOf_22 (lv_at hl 4 rfl) ?_
        obtain ⟨r18, hc17, h⟩ := gb_s h
        refine gx_calli F G (va_runS (As := [.ref (ad a1), .int a2, .int a3, .int y10]) (rest := []) (gx_fix F) (c_X0_standingBy l sa D ad cy N H.size hN hI c11 d0 hc17) (va_cwS 4 hts gX0_worstOf_X0_standingBy rfl rfl rfl (by decide +kernel) ⟨by decide, by decide⟩) (gx_pre F G) rfl rfl hl.1 rfl (lv_room (Nat.le_of_ble_eq_true rfl)) dX0_worstOf_24 ⟨Nat.zero_le _, Nat.zero_le _⟩) (fun H locs G => ?_)
        refine lv_istore (lv' := [(5, .int r18), (0, .ref (ad t)), (1, .ref (ad a1)), (2, .int a2), (3, .int a3), (4, .int y10)]) hx hb dX0_worstOf_27 hl (by decide) rfl (fun ls hl => ?_)
        refine lv_aload_n hx hb dX0_worstOf_29 rfl (lv_at hl 1 rfl) ?_
        refine fg_0_fitting F G hk1 ht2 in0 (by decide +kernel) dX0_worstOf_30 ?_
        obtain ⟨hk19, hn21⟩ := gka_0_fitting hk1
        have ht20 : (t + 4) < N := Nat.lt_of_lt_of_le (gck_lt14 hk19) hN
        refine lv_iload hx hb dX0_worstOf_33 (lv_at hl 5 rfl) ?_
        obtain ⟨hi22, h⟩ := gc_s h
        refine gx_za F G hk19 ht20 hn21 hi22 dX0_worstOf_35 ?_
        obtain ⟨K24, eK24, h⟩ := gj_s h
        have JK24 : ∀ (c23 : gm) (H : Heap) (locs : List Loc) (ls : Array Slot), K24 c23 = some o9 → gW D ad cy N A s.heap c23 d0 H locs → lv_has ls 6 [(0, .ref (ad t)), (1, .ref (ad a1)), (2, .int a2), (3, .int a3), (4, .int y10)] → W p l e rmX0_worstOf s m args below meth cod H locs 0 0 Q (F0 m 61 ls []) := by
          intro c23 H locs ls h G hl
          rw [eK24] at h
          obtain ⟨x25, ex25⟩ : ∃ z : Int32, z = y10 + 1 := ⟨_, rfl⟩
          replace h := gv_s h x25 ex25
          refine lv_iinc (v := x25) (lv' := [(4, .int x25), (0, .ref (ad t)), (1, .ref (ad a1)), (2, .int a2), (3, .int a3)]) hx hb dX0_worstOf_61 hl (k := 4) rfl (by rw [ex25]; rfl) (by decide) rfl (fun ls hl => ?_)
          refine lv_goto (tgt := 11) hx hb dX0_worstOf_64 (by decide) ?_
          cases h
          exact ih9 _ _ _ _ _ hn9 G (lv_sub hl [1, 2, 3, 4, 0] rfl)
        refine lv_if_eq (tgt := 61) hx hb dX0_worstOf_36 (by decide) (fun q26 => ?_) (fun q26 => ?_)
        · replace h := gt_s q26 h
          exact JK24 _ _ _ _ h G (lv_sub hl [1, 2, 3, 4, 5] rfl)
        · replace h := gf_s q26 h
          refine lv_iload hx hb dX0_worstOf_39 (lv_at hl 0 rfl) ?_
          refine lv_if_lt (tgt := 61) hx hb dX0_worstOf_41 (by decide) (fun q27 => ?_) (fun q27 => ?_)
          · replace h := gt_s q27 h
            exact JK24 _ _ _ _ h G (lv_sub hl [1, 2, 3, 4, 5] rfl)
          · replace h := gf_s q27 h
            refine lv_iload hx hb dX0_worstOf_44 (lv_at hl 0 rfl) ?_
            refine lv_iconst (v := 2) hx hb dX0_worstOf_46 (by decide) ?_
            refine lv_icmp_gt (tgt := 61) hx hb dX0_worstOf_47 (by decide) (fun q28 => ?_) (fun q28 => ?_)
            · replace h := gt_s q28 h
              exact JK24 _ _ _ _ h G (lv_sub hl [1, 2, 3, 4, 5] rfl)
            · replace h := gf_s q28 h
              refine lv_aload_n hx hb dX0_worstOf_50 rfl (lv_at hl 1 rfl) ?_
              refine fg_0_leftBy F G hk1 ht2 in0 (by decide +kernel) dX0_worstOf_51 ?_
              refine lv_iload hx hb dX0_worstOf_54 (lv_at hl 0 rfl) ?_
              refine lv_dup2_11 hx hb dX0_worstOf_56 rfl rfl ?_
              obtain ⟨hi29, h⟩ := gc_s h
              refine gx_ia F G hk3 ht4 hn5 hi29 dX0_worstOf_57 ?_
              refine lv_iconst (v := 1) hx hb dX0_worstOf_58 (by decide) ?_
              refine lv_iadd hx hb dX0_worstOf_59 ?_
              obtain ⟨hi30, h⟩ := gc_s h
              refine gx_is F G hk3 ht4 hn5 hi30 dX0_worstOf_60 (fun H locs G => ?_)
              obtain ⟨c31, ec31⟩ : ∃ z, z = gm_r c11 (t + 5) (upd (c11.1 (t + 5)) r18.toNatClampNeg ((c11.1 (t + 5) r18.toNatClampNeg) + 1)) := ⟨_, rfl⟩
              rw [← ec31] at G
              replace h := gv_s h c31 ec31
              exact JK24 _ _ _ _ h G (lv_sub hl [1, 2, 3, 4, 5] rfl)
  exact L9 n _ _ _ _ _ hb9 G (lv_sub hl [1, 2, 3, 4, 0] rfl)
def m_X0_seekNext_L29 (n : Nat) (t : Nat) (a1 : Nat) (y9 : Int32) (y17 : Int32) (c18 : gm) : Option ((Int32 × gm) ⊕ (gm)) :=
  (if (c18.1 a1 5) ≤ y17 then some (.inr c18) else gb2 (m_X0_worstOf n t a1 y9 y17 c18) (fun (r23 : Int32) (c24 : gm) => gj (fun (c25 : gm) => gv (y17 + 1) (fun (x27 : Int32) => some (.inl (x27, c25)))) (fun K26 => gj (fun (_ : Unit) => gv (gm_r c24 t (upd (c24.1 t) 7 ((10 * y9) + y17))) (fun (c29 : gm) => gv (gm_r c29 t (upd (c29.1 t) 8 r23)) (fun (c30 : gm) => K26 c30))) (fun K28 => (if (c24.1 t 7) = (-1) then K28 () else (if (c24.1 t 8) ≤ r23 then K26 c24 else K28 ()))))))
def m_X0_seekNext_L17 (n : Nat) (t : Nat) (a1 : Nat) (y9 : Int32) (c10 : gm) : Option ((Int32 × gm) ⊕ (gm)) :=
  gc (gck a1 = 6) ((if (c10.1 a1 5) ≤ y9 then some (.inr c10) else gv (y9 + 1) (fun (x15 : Int32) => gb (gloop (gu2 (fun (y17 : Int32) (c18 : gm) => m_X0_seekNext_L29 n t a1 y9 y17 c18)) n (x15, c10)) (fun (c19 : gm) => gv (y9 + 1) (fun (x20 : Int32) => some (.inl (x20, c19)))))))
def m_X0_seekNext (n : Nat) (t : Nat) (a1 : Nat) (c : gm) : Option (gm) :=
  gc (gck t = 0) (gb (m_X0_seekPairs n t a1 c) (fun (c5 : gm) => gv (gm_r c5 t (upd (c5.1 t) 7 (-1))) (fun (c6 : gm) => gv (gm_r c6 t (upd (c6.1 t) 8 (-1))) (fun (c7 : gm) => gb (gloop (gu2 (fun (y9 : Int32) (c10 : gm) => m_X0_seekNext_L17 n t a1 y9 c10)) n (0, c7)) (fun (c11 : gm) => some c11)))))
abbrev rmX0_seekNext : Room := { frames := 5, cells := 0, slots := 0, locals := 110 }
set_option maxHeartbeats 4000000 in
set_option maxRecDepth 100000 in
theorem c_X0_seekNext (l : Launch) (sa : gSa) (D : va_G) (ad : Nat → Nat) (cy : Nat → ClassId) (N sz : Nat) (hN : 55 ≤ N) (hI : gI ad N) (c d0 : gm) {n : Nat} {t : Nat} {a1 : Nat} {cZ : gm} (h : m_X0_seekNext n t a1 c = some cZ) : Met l yX0_seekNext wsX0_seekNext rmX0_seekNext (va_Pc [.ref (ad t), .ref (ad a1)] (gP sa D ad cy N sz c d0)) (va_Qv (fun (_ : Unit) => True) (fun _ U => gE D ad cy N cZ d0 U) (gA ad N sz)) 0 0 (gA ad N sz) := by
  refine Met.ofW (cc := cX0_seekNext) (maxL := 5) (ret := none) (by decide) rfl ?_
  intro p e s m args below meth cod s₁ B hml hv
  obtain ⟨rfl, hsz, hP, hK, hZ⟩ := hv
  have hx := B.exec
  have hb := B.bytes
  have hr := B.returns
  have hts := atoms_spec (ws := wsX0_seekNext) B.pre
  have hown : s.vm.findClass RX0 = some m.cls := findClass_of_methodNamed B.named
  have hlocks := B.notSynchronized
  subst hsz
  have hl := lv_entry ([.ref (ad t), .ref (ad a1)]) (n := 5) (Nat.le_of_ble_eq_true rfl)
  rw [lg_entry_eq]
  generalize (lg_sl ([.ref (ad t), .ref (ad a1)]) ++ List.replicate (5 - (lg_sl ([.ref (ad t), .ref (ad a1)])).length) Slot.unset).toArray = ls at hl ⊢
  have hl : lv_has ls 5 [(0, .ref (ad t)), (1, .ref (ad a1))] := hl
  have in0 : ∀ w ∈ wsX00, w ∈ wsX0_seekNext := by decide +kernel
  have in6 : ∀ w ∈ wsX60, w ∈ wsX0_seekNext := by decide +kernel
  generalize hargs : ([.ref (ad t), .ref (ad a1)] : List Value).toArray = args at *
  generalize hAe : gA ad N s.heap.size = A
  have F : gF sa D ad cy N A p s m args cod cX0_seekNext 5 wsX0_seekNext RX0 := ⟨hx, hb, hml, hown, hts, hK, hI, by rw [← hAe]; exact gA_ad, by rw [← hAe]; exact gA_sz, by rw [← hAe]; exact hZ⟩
  have G : gW D ad cy N A s.heap c d0 s.heap [] := ⟨hP, va_S.rf⟩
  generalize hQ : MQ below (va_Qv (fun (_ : Unit) => True) (fun _ U => gE D ad cy N cZ d0 U) A) args s 0 0 A = Q
  suffices hgen : ∀ (H : Heap) (locs : List Loc), gW D ad cy N A s.heap c d0 H locs → W p l e rmX0_seekNext s m args below meth cod H locs 0 0 Q (F0 m 0 ls []) from hgen _ _ G
  clear G
  intro H locs G
  unfold m_X0_seekNext at h
  refine lv_aload_n hx hb dX0_seekNext_0 rfl (lv_at hl 0 rfl) ?_
  refine lv_aload_n hx hb dX0_seekNext_1 rfl (lv_at hl 1 rfl) ?_
  obtain ⟨hk1, h⟩ := gc_s h
  have ht2 : t < N := Nat.lt_of_lt_of_le (gck_lt0 hk1) hN
  obtain ⟨c5, hc3, h⟩ := gb_s h
  refine gx_callv F G (va_runV (As := [.ref (ad a1)]) (rest := []) (gx_fix F) (c_X0_seekPairs l sa D ad cy N H.size hN hI c d0 hc3) (cwV 1 hts gX0_seekNext_X0_seekPairs rfl rfl rfl (by decide +kernel) ⟨by decide, by decide⟩) (gx_rec F G ht2 (gwe_0 hk1) rfl) rfl rfl hl.1 rfl (lv_room (Nat.le_of_ble_eq_true rfl)) dX0_seekNext_2 ⟨Nat.zero_le _, Nat.zero_le _⟩) (fun H locs G => ?_)
  refine lv_aload_n hx hb dX0_seekNext_5 rfl (lv_at hl 0 rfl) ?_
  refine lv_iconst (v := (-1)) hx hb dX0_seekNext_6 (by decide) ?_
  refine fp_0_nextTwo F G hk1 ht2 in0 (by decide +kernel) dX0_seekNext_7 (fun H locs G => ?_)
  obtain ⟨c6, ec6⟩ : ∃ z, z = gm_r c5 t (upd (c5.1 t) 7 (-1)) := ⟨_, rfl⟩
  rw [← ec6] at G
  replace h := gv_s h c6 ec6
  refine lv_aload_n hx hb dX0_seekNext_10 rfl (lv_at hl 0 rfl) ?_
  refine lv_iconst (v := (-1)) hx hb dX0_seekNext_11 (by decide) ?_
  refine fp_0_leftAtWorst F G hk1 ht2 in0 (by decide +kernel) dX0_seekNext_12 (fun H locs G => ?_)
  obtain ⟨c7, ec7⟩ : ∃ z, z = gm_r c6 t (upd (c6.1 t) 8 (-1)) := ⟨_, rfl⟩
  rw [← ec7] at G
  replace h := gv_s h c7 ec7
  refine lv_iconst (v := 0) hx hb dX0_seekNext_15 (by decide) ?_
  refine lv_istore_n (lv' := [(2, .int 0), (0, .ref (ad t)), (1, .ref (ad a1))]) hx hb dX0_seekNext_16 rfl hl (by decide) rfl (fun ls hl => ?_)
  obtain ⟨b8, hb8, hK8⟩ := gb_s h
  have E8 : ∀ (c11 : gm) (H : Heap) (locs : List Loc) (ls : Array Slot), (c11 : gm) = b8 → gW D ad cy N A s.heap c11 d0 H locs → lv_has ls 5 [] → W p l e rmX0_seekNext s m args below meth cod H locs 0 0 Q (F0 m 91 ls []) := by
    intro c11 H locs ls hq8 G hl
    subst hq8
    replace hK8 := hK8
    have h := hK8
    cases h
    rw [← hQ]
    exact gx_vret F G hr hlocks dX0_seekNext_91
  have L8 : ∀ (n9 : Nat) (y9 : Int32) (c10 : gm) (H : Heap) (locs : List Loc) (ls : Array Slot), gloop (gu2 (fun (y9 : Int32) (c10 : gm) => m_X0_seekNext_L17 n t a1 y9 c10)) n9 (y9, c10) = some b8 → gW D ad cy N A s.heap c10 d0 H locs → lv_has ls 5 [(0, .ref (ad t)), (1, .ref (ad a1)), (2, .int y9)] → W p l e rmX0_seekNext s m args below meth cod H locs 0 0 Q (F0 m 17 ls []) := by
    intro n9
    induction n9 with
    | zero => intro y9 c10 H locs ls h; exact (gloop_0 h).elim
    | succ n9 ih =>
      intro y9 c10 H locs ls h G hl
      have ih8 := ih
      obtain ⟨o8, h, hn8⟩ := gloop_s h
      replace h := gu2_s h
      unfold m_X0_seekNext_L17 at h
      refine lv_iload_n hx hb dX0_seekNext_17 rfl (lv_at hl 2 rfl) ?_
      refine lv_aload_n hx hb dX0_seekNext_18 rfl (lv_at hl 1 rfl) ?_
      obtain ⟨hk12, h⟩ := gc_s h
      have ht13 : a1 < N := Nat.lt_of_lt_of_le (gck_lt6 hk12) hN
      refine fg_6_things F G hk12 ht13 in6 (by decide +kernel) dX0_seekNext_19 ?_
      refine lv_icmp_ge (tgt := 91) hx hb dX0_seekNext_22 (by decide) (fun q14 => ?_) (fun q14 => ?_)
      · replace h := gt_s q14 h
        cases h
        exact E8 _ _ _ _ (gnx_r hn8) G (lv_sub hl [] rfl)
      · replace h := gf_s q14 h
        refine lv_iload_n hx hb dX0_seekNext_25 rfl (lv_at hl 2 rfl) ?_
        refine lv_iconst (v := 1) hx hb dX0_seekNext_26 (by decide) ?_
        refine lv_iadd hx hb dX0_seekNext_27 ?_
        refine lv_topi (fun x15 ex15 => ?_)
        replace h := gv_s h x15 ex15
        refine lv_istore_n (lv' := [(3, .int x15), (0, .ref (ad t)), (1, .ref (ad a1)), (2, .int y9)]) hx hb dX0_seekNext_28 rfl hl (by decide) rfl (fun ls hl => ?_)
        obtain ⟨b16, hb16, hK16⟩ := gb_s h
        have E16 : ∀ (c19 : gm) (H : Heap) (locs : List Loc) (ls : Array Slot), (c19 : gm) = b16 → gW D ad cy N A s.heap c19 d0 H locs → lv_has ls 5 [(0, .ref (ad t)), (1, .ref (ad a1)), (2, .int y9)] → W p l e rmX0_seekNext s m args below meth cod H locs 0 0 Q (F0 m 85 ls []) := by
          intro c19 H locs ls hq16 G hl
          subst hq16
          replace hK16 := hK16
          have h := hK16
          obtain ⟨x20, ex20⟩ : ∃ z : Int32, z = y9 + 1 := ⟨_, rfl⟩
          replace h := gv_s h x20 ex20
          refine lv_iinc (v := x20) (lv' := [(2, .int x20), (0, .ref (ad t)), (1, .ref (ad a1))]) hx hb dX0_seekNext_85 hl (k := 2) rfl (by rw [ex20]; rfl) (by decide) rfl (fun ls hl => ?_)
          refine lv_goto (tgt := 17) hx hb dX0_seekNext_88 (by decide) ?_
          cases h
          exact ih8 _ _ _ _ _ hn8 G (lv_sub hl [1, 2, 0] rfl)
        have L16 : ∀ (n9 : Nat) (y17 : Int32) (c18 : gm) (H : Heap) (locs : List Loc) (ls : Array Slot), gloop (gu2 (fun (y17 : Int32) (c18 : gm) => m_X0_seekNext_L29 n t a1 y9 y17 c18)) n9 (y17, c18) = some b16 → gW D ad cy N A s.heap c18 d0 H locs → lv_has ls 5 [(0, .ref (ad t)), (1, .ref (ad a1)), (2, .int y9), (3, .int y17)] → W p l e rmX0_seekNext s m args below meth cod H locs 0 0 Q (F0 m 29 ls []) := by
          intro n9
          induction n9 with
          | zero => intro y17 c18 H locs ls h; exact (gloop_0 h).elim
          | succ n9 ih =>
            intro y17 c18 H locs ls h G hl
            have ih16 := ih
            obtain ⟨o16, h, hn16⟩ := gloop_s h
            replace h := gu2_s h
            unfold m_X0_seekNext_L29 at h
            refine lv_iload_n hx hb dX0_seekNext_29 rfl (lv_at hl 3 rfl) ?_
            refine lv_aload_n hx hb dX0_seekNext_30 rfl (lv_at hl 1 rfl) ?_
            refine fg_6_things F G hk12 ht13 in6 (by decide +kernel) dX0_seekNext_31 ?_
            refine lv_icmp_ge (tgt := 85) hx hb dX0_seekNext_34 (by decide) (fun q21 => ?_) (fun q21 => ?_)
            · replace h := gt_s q21 h
              cases h
              exact E16 _ _ _ _ (gnx_r hn16) G (lv_sub hl [0, 1, 2] rfl)
            · replace h := gf_s q21 h
              refine lv_aload_n hx hb dX0_seekNext_37 rfl (lv_at hl 0 rfl) ?_
              refine lv_aload_n hx hb dX0_seekNext_38 rfl (lv_at hl 1 rfl) ?_
              refine lv_iload_n hx hb dX0_seekNext_39 rfl (lv_at hl 2 rfl) ?_
              refine lv_iload_n hx hb dX0_seekNext_40 rfl (lv_at hl 3 rfl) ?_
              obtain ⟨r23, c24, hc22, h⟩ := gb2_s h
              refine gx_calli F G (va_runV (As := [.ref (ad a1), .int y9, .int y17]) (rest := []) (gx_fix F) (c_X0_worstOf l sa D ad cy N H.size hN hI c18 d0 hc22) (cwV 3 hts gX0_seekNext_X0_worstOf rfl rfl rfl (by decide +kernel) ⟨by decide, by decide⟩) (gx_rec F G ht2 (gwe_0 hk1) rfl) rfl rfl hl.1 rfl (lv_room (Nat.le_of_ble_eq_true rfl)) dX0_seekNext_41 ⟨Nat.zero_le _, Nat.zero_le _⟩) (fun H locs G => ?_)
              refine lv_istore (lv' := [(4, .int r23), (0, .ref (ad t)), (1, .ref (ad a1)), (2, .int y9), (3, .int y17)]) hx hb dX0_seekNext_44 hl (by decide) rfl (fun ls hl => ?_)
              refine lv_aload_n hx hb dX0_seekNext_46 rfl (lv_at hl 1 rfl) ?_
              refine fg_0_nextTwo F G hk1 ht2 in0 (by decide +kernel) dX0_seekNext_47 ?_
              refine lv_iconst (v := (-1)) hx hb dX0_seekNext_50 (by decide) ?_
              obtain ⟨K26, eK26, h⟩ := gj_s h
              have JK26 : ∀ (c25 : gm) (H : Heap) (locs : List Loc) (ls : Array Slot), K26 c25 = some o16 → gW D ad cy N A s.heap c25 d0 H locs → lv_has ls 5 [(0, .ref (ad t)), (1, .ref (ad a1)), (2, .int y9), (3, .int y17)] → W p l e rmX0_seekNext s m args below meth cod H locs 0 0 Q (F0 m 79 ls []) := by
                intro c25 H locs ls h G hl
                rw [eK26] at h
                obtain ⟨x27, ex27⟩ : ∃ z : Int32, z = y17 + 1 := ⟨_, rfl⟩
                replace h := gv_s h x27 ex27
                refine lv_iinc (v := x27) (lv' := [(3, .int x27), (0, .ref (ad t)), (1, .ref (ad a1)), (2, .int y9)]) hx hb dX0_seekNext_79 hl (k := 3) rfl (by rw [ex27]; rfl) (by decide) rfl (fun ls hl => ?_)
                refine lv_goto (tgt := 29) hx hb dX0_seekNext_82 (by decide) ?_
                cases h
                exact ih16 _ _ _ _ _ hn16 G (lv_sub hl [1, 2, 3, 0] rfl)
              obtain ⟨K28, eK28, h⟩ := gj_s h
              have JK28 : ∀ (H : Heap) (locs : List Loc) (ls : Array Slot), K28 () = some o16 → gW D ad cy N A s.heap c24 d0 H locs → lv_has ls 5 [(0, .ref (ad t)), (1, .ref (ad a1)), (2, .int y9), (3, .int y17), (4, .int r23)] → W p l e rmX0_seekNext s m args below meth cod H locs 0 0 Q (F0 m 63 ls []) := by
                intro  H locs ls h G hl
                rw [eK28] at h
                refine lv_aload_n hx hb dX0_seekNext_63 rfl (lv_at hl 0 rfl) ?_
                refine lv_bipush (v := 10) hx hb dX0_seekNext_64 (by decide) ?_
                refine lv_iload_n hx hb dX0_seekNext_66 rfl (lv_at hl 2 rfl) ?_
                refine lv_imul hx hb dX0_seekNext_67 ?_
                refine lv_iload_n hx hb dX0_seekNext_68 rfl (lv_at hl 3 rfl) ?_
                refine lv_iadd hx hb dX0_seekNext_69 ?_
                refine fp_0_nextTwo F G hk1 ht2 in0 (by decide +kernel) dX0_seekNext_70 (fun H locs G => ?_)
                obtain ⟨c29, ec29⟩ : ∃ z, z = gm_r c24 t (upd (c24.1 t) 7 ((10 * y9) + y17)) := ⟨_, rfl⟩
                rw [← ec29] at G
                replace h := gv_s h c29 ec29
                refine lv_aload_n hx hb dX0_seekNext_73 rfl (lv_at hl 0 rfl) ?_
                refine lv_iload hx hb dX0_seekNext_74 (lv_at hl 4 rfl) ?_
                refine fp_0_leftAtWorst F G hk1 ht2 in0 (by decide +kernel) dX0_seekNext_76 (fun H locs G => ?_)
                obtain ⟨c30, ec30⟩ : ∃ z, z = gm_r c29 t (upd (c29.1 t) 8 r23) := ⟨_, rfl⟩
                rw [← ec30] at G
                replace h := gv_s h c30 ec30
                exact JK26 _ _ _ _ h G (lv_sub hl [0, 1, 2, 3] rfl)
              refine lv_icmp_eq (tgt := 63) hx hb dX0_seekNext_51 (by decide) (fun q31 => ?_) (fun q31 => ?_)
              · replace h := gt_s q31 h
                exact JK28  _ _ _ h G (lv_sub hl [1, 2, 3, 4, 0] rfl)
              · replace h := gf_s q31 h
                refine lv_iload hx hb dX0_seekNext_54 (lv_at hl 0 rfl) ?_
                refine lv_aload_n hx hb dX0_seekNext_56 rfl (lv_at hl 1 rfl) ?_
                refine fg_0_leftAtWorst F G hk1 ht2 in0 (by decide +kernel) dX0_seekNext_57 ?_
                refine lv_icmp_ge (tgt := 79) hx hb dX0_seekNext_60 (by decide) (fun q32 => ?_) (fun q32 => ?_)
                · replace h := gt_s q32 h
                  exact JK26 _ _ _ _ h G (lv_sub hl [1, 2, 3, 4] rfl)
                · replace h := gf_s q32 h
                  exact JK28  _ _ _ h G (lv_sub hl [1, 2, 3, 4, 0] rfl)
        exact L16 n _ _ _ _ _ hb16 G (lv_sub hl [1, 2, 3, 0] rfl)
  exact L8 n _ _ _ _ _ hb8 G (lv_sub hl [1, 2, 0] rfl)
def m_X1_begin (t : Nat) (c : gm) : Option (gm) :=
  gc (gck t = 1) (gv (gm_r c t (upd (c.1 t) 1 0)) (fun (c3 : gm) => gv (gm_r c3 t (upd (c3.1 t) 2 (-1))) (fun (c4 : gm) => gv (gm_l c4 t (vp_updL (c4.2.1 t) 4 (0 : Int64))) (fun (c5 : gm) => gv (gm_l c5 t (vp_updL (c5.2.1 t) 5 (1 : Int64))) (fun (c6 : gm) => some c6)))))
abbrev rmX1_begin : Room := { frames := 0, cells := 0, slots := 0, locals := 0 }
set_option maxHeartbeats 4000000 in
set_option maxRecDepth 100000 in
theorem c_X1_begin (l : Launch) (sa : gSa) (D : va_G) (ad : Nat → Nat) (cy : Nat → ClassId) (N sz : Nat) (hN : 55 ≤ N) (hI : gI ad N) (c d0 : gm) {t : Nat} {cZ : gm} (h : m_X1_begin t c = some cZ) : Met l yX1_begin wsX1_begin rmX1_begin (va_Pc [.ref (ad t)] (gP sa D ad cy N sz c d0)) (va_Qv (fun (_ : Unit) => True) (fun _ U => gE D ad cy N cZ d0 U) (gA ad N sz)) 0 0 (gA ad N sz) := by
  refine Met.ofW (cc := cX1_begin) (maxL := 1) (ret := none) (by decide) rfl ?_
  intro p e s m args below meth cod s₁ B hml hv
  obtain ⟨rfl, hsz, hP, hK, hZ⟩ := hv
  have hx := B.exec
  have hb := B.bytes
  have hr := B.returns
  have hts := atoms_spec (ws := wsX1_begin) B.pre
  have hown : s.vm.findClass RX1 = some m.cls := findClass_of_methodNamed B.named
  have hlocks := B.notSynchronized
  subst hsz
  have hl := lv_entry ([.ref (ad t)]) (n := 1) (Nat.le_of_ble_eq_true rfl)
  rw [lg_entry_eq]
  generalize (lg_sl ([.ref (ad t)]) ++ List.replicate (1 - (lg_sl ([.ref (ad t)])).length) Slot.unset).toArray = ls at hl ⊢
  have hl : lv_has ls 1 [(0, .ref (ad t))] := hl
  have in1 : ∀ w ∈ wsX10, w ∈ wsX1_begin := by decide +kernel
  generalize hargs : ([.ref (ad t)] : List Value).toArray = args at *
  generalize hAe : gA ad N s.heap.size = A
  have F : gF sa D ad cy N A p s m args cod cX1_begin 1 wsX1_begin RX1 := ⟨hx, hb, hml, hown, hts, hK, hI, by rw [← hAe]; exact gA_ad, by rw [← hAe]; exact gA_sz, by rw [← hAe]; exact hZ⟩
  have G : gW D ad cy N A s.heap c d0 s.heap [] := ⟨hP, va_S.rf⟩
  generalize hQ : MQ below (va_Qv (fun (_ : Unit) => True) (fun _ U => gE D ad cy N cZ d0 U) A) args s 0 0 A = Q
  suffices hgen : ∀ (H : Heap) (locs : List Loc), gW D ad cy N A s.heap c d0 H locs → W p l e rmX1_begin s m args below meth cod H locs 0 0 Q (F0 m 0 ls []) from hgen _ _ G
  clear G
  intro H locs G
  unfold m_X1_begin at h
  refine lv_aload_n hx hb dX1_begin_0 rfl (lv_at hl 0 rfl) ?_
  refine lv_iconst (v := 0) hx hb dX1_begin_1 (by decide) ?_
  obtain ⟨hk1, h⟩ := gc_s h
  have ht2 : t < N := Nat.lt_of_lt_of_le (gck_lt1 hk1) hN
  refine fp_1_fatCount F G hk1 ht2 in1 (by decide +kernel) dX1_begin_2 (fun H locs G => ?_)
  obtain ⟨c3, ec3⟩ : ∃ z, z = gm_r c t (upd (c.1 t) 1 0) := ⟨_, rfl⟩
  rw [← ec3] at G
  replace h := gv_s h c3 ec3
  refine lv_aload_n hx hb dX1_begin_5 rfl (lv_at hl 0 rfl) ?_
  refine lv_iconst (v := (-1)) hx hb dX1_begin_6 (by decide) ?_
  refine fp_1_shortestFat F G hk1 ht2 in1 (by decide +kernel) dX1_begin_7 (fun H locs G => ?_)
  obtain ⟨c4, ec4⟩ : ∃ z, z = gm_r c3 t (upd (c3.1 t) 2 (-1)) := ⟨_, rfl⟩
  rw [← ec4] at G
  replace h := gv_s h c4 ec4
  refine lv_aload_n hx hb dX1_begin_10 rfl (lv_at hl 0 rfl) ?_
  refine lv_lconst (v := 0) hx hb dX1_begin_11 (by decide) ?_
  refine fp_1_bestUp F G hk1 ht2 in1 (by decide +kernel) dX1_begin_12 (fun H locs G => ?_)
  obtain ⟨c5, ec5⟩ : ∃ z, z = gm_l c4 t (vp_updL (c4.2.1 t) 4 (0 : Int64)) := ⟨_, rfl⟩
  rw [← ec5] at G
  replace h := gv_s h c5 ec5
  refine lv_aload_n hx hb dX1_begin_15 rfl (lv_at hl 0 rfl) ?_
  refine lv_lconst (v := 1) hx hb dX1_begin_16 (by decide) ?_
  refine fp_1_bestDown F G hk1 ht2 in1 (by decide +kernel) dX1_begin_17 (fun H locs G => ?_)
  obtain ⟨c6, ec6⟩ : ∃ z, z = gm_l c5 t (vp_updL (c5.2.1 t) 5 (1 : Int64)) := ⟨_, rfl⟩
  rw [← ec6] at G
  replace h := gv_s h c6 ec6
  cases h
  rw [← hQ]
  exact gx_vret F G hr hlocks dX1_begin_20
def m_X6_cryPart (t : Nat) (a1 : Int32) (a2 : Int32) (c : gm) : Option (Int32) :=
  gj (fun (v1 : Int32) => (if v1 = 0 then some 0 else gc (gck t = 6) (gc (0 ≤ ((4 * a1) + a2).toInt ∧ ((4 * a1) + a2).toInt < 40) (some (c.1 (t + 5) ((4 * a1) + a2).toNatClampNeg))))) (fun K2 => gj (fun (_ : Unit) => K2 0) (fun K10 => (if a1 < 0 then K10 () else gc (gck t = 6) ((if (c.1 t 6) ≤ a1 then K10 () else (if 10 ≤ a1 then K10 () else (if a2 < 0 then K10 () else (if 4 ≤ a2 then K10 () else K2 1))))))))
abbrev rmX6_cryPart : Room := { frames := 0, cells := 0, slots := 0, locals := 0 }
set_option maxHeartbeats 4000000 in
set_option maxRecDepth 100000 in
theorem c_X6_cryPart (l : Launch) (sa : gSa) (D : va_G) (ad : Nat → Nat) (cy : Nat → ClassId) (N sz : Nat) (hN : 55 ≤ N) (hI : gI ad N) (c d0 : gm) {t : Nat} {a1 : Int32} {a2 : Int32} {rZ : Int32} (h : m_X6_cryPart t a1 a2 c = some rZ) : Met l yX6_cryPart wsX6_cryPart rmX6_cryPart (va_Pc [.ref (ad t), .int a1, .int a2] (gP sa D ad cy N sz c d0)) (va_Qi (fun (z : Int32) (_ : Unit) => z = rZ) (fun _ U => gE D ad cy N c d0 U) (gA ad N sz)) 0 0 (gA ad N sz) := by
  refine Met.ofW (cc := cX6_cryPart) (maxL := 4) (ret := (some .int)) (by decide) rfl ?_
  intro p e s m args below meth cod s₁ B hml hv
  obtain ⟨rfl, hsz, hP, hK, hZ⟩ := hv
  have hx := B.exec
  have hb := B.bytes
  have hr := B.returns
  have hts := atoms_spec (ws := wsX6_cryPart) B.pre
  have hown : s.vm.findClass RX6 = some m.cls := findClass_of_methodNamed B.named
  have hlocks := B.notSynchronized
  subst hsz
  have hl := lv_entry ([.ref (ad t), .int a1, .int a2]) (n := 4) (Nat.le_of_ble_eq_true rfl)
  rw [lg_entry_eq]
  generalize (lg_sl ([.ref (ad t), .int a1, .int a2]) ++ List.replicate (4 - (lg_sl ([.ref (ad t), .int a1, .int a2])).length) Slot.unset).toArray = ls at hl ⊢
  have hl : lv_has ls 4 [(0, .ref (ad t)), (1, .int a1), (2, .int a2)] := hl
  have in6 : ∀ w ∈ wsX60, w ∈ wsX6_cryPart := by decide +kernel
  generalize hargs : ([.ref (ad t), .int a1, .int a2] : List Value).toArray = args at *
  generalize hAe : gA ad N s.heap.size = A
  have F : gF sa D ad cy N A p s m args cod cX6_cryPart 4 wsX6_cryPart RX6 := ⟨hx, hb, hml, hown, hts, hK, hI, by rw [← hAe]; exact gA_ad, by rw [← hAe]; exact gA_sz, by rw [← hAe]; exact hZ⟩
  have G : gW D ad cy N A s.heap c d0 s.heap [] := ⟨hP, va_S.rf⟩
  generalize hQ : MQ below (va_Qi (fun (z : Int32) (_ : Unit) => z = rZ) (fun _ U => gE D ad cy N c d0 U) A) args s 0 0 A = Q
  suffices hgen : ∀ (H : Heap) (locs : List Loc), gW D ad cy N A s.heap c d0 H locs → W p l e rmX6_cryPart s m args below meth cod H locs 0 0 Q (F0 m 0 ls []) from hgen _ _ G
  clear G
  intro H locs G
  unfold m_X6_cryPart at h
  refine lv_iload_n hx hb dX6_cryPart_0 rfl (lv_at hl 1 rfl) ?_
  obtain ⟨K2, eK2, h⟩ := gj_s h
  have JK2 : ∀ (v1 : Int32) (H : Heap) (locs : List Loc) (ls : Array Slot), K2 v1 = some rZ → gW D ad cy N A s.heap c d0 H locs → lv_has ls 4 [(0, .ref (ad t)), (1, .int a1), (2, .int a2)] → W p l e rmX6_cryPart s m args below meth cod H locs 0 0 Q (F0 m 32 ls [.int v1]) := by
    intro v1 H locs ls h G hl
    rw [eK2] at h
    refine lv_istore_n (lv' := [(3, .int v1), (0, .ref (ad t)), (1, .int a1), (2, .int a2)]) hx hb dX6_cryPart_32 rfl hl (by decide) rfl (fun ls hl => ?_)
    refine lv_iload_n hx hb dX6_cryPart_33 rfl (lv_at hl 0 rfl) ?_
    refine lv_if_eq (tgt := 50) hx hb dX6_cryPart_34 (by decide) (fun q3 => ?_) (fun q3 => ?_)
    · replace h := gt_s q3 h
      refine lv_iconst (v := 0) hx hb dX6_cryPart_50 (by decide) ?_
      cases h
      rw [← hQ]
      exact gx_iret F G hr hlocks dX6_cryPart_51
    · replace h := gf_s q3 h
      refine lv_aload_n hx hb dX6_cryPart_37 rfl (lv_at hl 1 rfl) ?_
      obtain ⟨hk4, h⟩ := gc_s h
      have ht5 : t < N := Nat.lt_of_lt_of_le (gck_lt6 hk4) hN
      refine fg_6_cryParts F G hk4 ht5 in6 (by decide +kernel) dX6_cryPart_38 ?_
      obtain ⟨hk6, hn8⟩ := gka_6_cryParts hk4
      have ht7 : (t + 5) < N := Nat.lt_of_lt_of_le (gck_lt12 hk6) hN
      refine lv_iconst (v := 4) hx hb dX6_cryPart_41 (by decide) ?_
      refine lv_iload_n hx hb dX6_cryPart_42 rfl (lv_at hl 2 rfl) ?_
      refine lv_imul hx hb dX6_cryPart_43 ?_
      refine lv_iload_n hx hb dX6_cryPart_44 rfl (lv_at hl 3 rfl) ?_
      refine lv_iadd hx hb dX6_cryPart_45 ?_
      obtain ⟨hi9, h⟩ := gc_s h
      refine gx_ia F G hk6 ht7 hn8 hi9 dX6_cryPart_46 ?_
      refine lv_goto (tgt := 51) hx hb dX6_cryPart_47 (by decide) ?_
      cases h
      rw [← hQ]
      exact gx_iret F G hr hlocks dX6_cryPart_51
  obtain ⟨K10, eK10, h⟩ := gj_s h
  have JK10 : ∀ (H : Heap) (locs : List Loc) (ls : Array Slot), K10 () = some rZ → gW D ad cy N A s.heap c d0 H locs → lv_has ls 4 [(0, .ref (ad t)), (1, .int a1), (2, .int a2)] → W p l e rmX6_cryPart s m args below meth cod H locs 0 0 Q (F0 m 31 ls []) := by
    intro  H locs ls h G hl
    rw [eK10] at h
    refine lv_iconst (v := 0) hx hb dX6_cryPart_31 (by decide) ?_
    exact JK2 _ _ _ _ h G hl
  refine lv_if_lt (tgt := 31) hx hb dX6_cryPart_1 (by decide) (fun q11 => ?_) (fun q11 => ?_)
  · replace h := gt_s q11 h
    exact JK10  _ _ _ h G hl
  · replace h := gf_s q11 h
    refine lv_iload_n hx hb dX6_cryPart_4 rfl (lv_at hl 1 rfl) ?_
    refine lv_aload_n hx hb dX6_cryPart_5 rfl (lv_at hl 0 rfl) ?_
    obtain ⟨hk12, h⟩ := gc_s h
    have ht13 : t < N := Nat.lt_of_lt_of_le (gck_lt6 hk12) hN
    refine fg_6_cries F G hk12 ht13 in6 (by decide +kernel) dX6_cryPart_6 ?_
    refine lv_icmp_ge (tgt := 31) hx hb dX6_cryPart_9 (by decide) (fun q14 => ?_) (fun q14 => ?_)
    · replace h := gt_s q14 h
      exact JK10  _ _ _ h G hl
    · replace h := gf_s q14 h
      refine lv_iload_n hx hb dX6_cryPart_12 rfl (lv_at hl 1 rfl) ?_
      refine lv_bipush (v := 10) hx hb dX6_cryPart_13 (by decide) ?_
      refine lv_icmp_ge (tgt := 31) hx hb dX6_cryPart_15 (by decide) (fun q15 => ?_) (fun q15 => ?_)
      · replace h := gt_s q15 h
        exact JK10  _ _ _ h G hl
      · replace h := gf_s q15 h
        refine lv_iload_n hx hb dX6_cryPart_18 rfl (lv_at hl 2 rfl) ?_
        refine lv_if_lt (tgt := 31) hx hb dX6_cryPart_19 (by decide) (fun q16 => ?_) (fun q16 => ?_)
        · replace h := gt_s q16 h
          exact JK10  _ _ _ h G hl
        · replace h := gf_s q16 h
          refine lv_iload_n hx hb dX6_cryPart_22 rfl (lv_at hl 2 rfl) ?_
          refine lv_iconst (v := 4) hx hb dX6_cryPart_23 (by decide) ?_
          refine lv_icmp_ge (tgt := 31) hx hb dX6_cryPart_24 (by decide) (fun q17 => ?_) (fun q17 => ?_)
          · replace h := gt_s q17 h
            exact JK10  _ _ _ h G hl
          · replace h := gf_s q17 h
            refine lv_iconst (v := 1) hx hb dX6_cryPart_27 (by decide) ?_
            refine lv_goto (tgt := 32) hx hb dX6_cryPart_28 (by decide) ?_
            exact JK2 _ _ _ _ h G hl
def m_J6_bitCount_0f7a4 (a1 : Int32) : Option (Int32) :=
  gv (a1 - ((a1.toUInt32 >>> (Int32.toUInt32 1 &&& Int32.toUInt32 31)).toInt32 &&& 1431655765)) (fun (x1 : Int32) => gv ((x1 &&& 858993459) + ((x1.toUInt32 >>> (Int32.toUInt32 2 &&& Int32.toUInt32 31)).toInt32 &&& 858993459)) (fun (x2 : Int32) => gv ((x2 + (x2.toUInt32 >>> (Int32.toUInt32 4 &&& Int32.toUInt32 31)).toInt32) &&& 252645135) (fun (x3 : Int32) => gv (x3 + (x3.toUInt32 >>> (Int32.toUInt32 8 &&& Int32.toUInt32 31)).toInt32) (fun (x4 : Int32) => gv (x4 + (x4.toUInt32 >>> (Int32.toUInt32 16 &&& Int32.toUInt32 31)).toInt32) (fun (x5 : Int32) => some (x5 &&& 63))))))
abbrev rmJ6_bitCount_0f7a4 : Room := { frames := 0, cells := 0, slots := 0, locals := 0 }
set_option maxHeartbeats 4000000 in
set_option maxRecDepth 100000 in
theorem c_J6_bitCount_0f7a4 (l : Launch) (sa : gSa) (D : va_G) (ad : Nat → Nat) (cy : Nat → ClassId) (N sz : Nat) (hN : 55 ≤ N) (hI : gI ad N) (c d0 : gm) {a1 : Int32} {rZ : Int32} (h : m_J6_bitCount_0f7a4 a1 = some rZ) : Met l yJ6_bitCount_0f7a4 wsJ6_bitCount_0f7a4 rmJ6_bitCount_0f7a4 (va_Pc [.int a1] (gP sa D ad cy N sz c d0)) (va_Qi (fun (z : Int32) (_ : Unit) => z = rZ) (fun _ U => gE D ad cy N c d0 U) (gA ad N sz)) 0 0 (gA ad N sz) := by
  refine Met.ofW (cc := cJ6_bitCount_0f7a4) (maxL := 1) (ret := (some .int)) (by decide) rfl ?_
  intro p e s m args below meth cod s₁ B hml hv
  obtain ⟨rfl, hsz, hP, hK, hZ⟩ := hv
  have hx := B.exec
  have hb := B.bytes
  have hr := B.returns
  have hts := atoms_spec (ws := wsJ6_bitCount_0f7a4) B.pre
  have hown : s.vm.findClass RJ6 = some m.cls := findClass_of_methodNamed B.named
  have hlocks := B.notSynchronized
  subst hsz
  have hl := lv_entry ([.int a1]) (n := 1) (Nat.le_of_ble_eq_true rfl)
  rw [lg_entry_eq]
  generalize (lg_sl ([.int a1]) ++ List.replicate (1 - (lg_sl ([.int a1])).length) Slot.unset).toArray = ls at hl ⊢
  have hl : lv_has ls 1 [(0, .int a1)] := hl
  generalize hargs : ([.int a1] : List Value).toArray = args at *
  generalize hAe : gA ad N s.heap.size = A
  have F : gF sa D ad cy N A p s m args cod cJ6_bitCount_0f7a4 1 wsJ6_bitCount_0f7a4 RJ6 := ⟨hx, hb, hml, hown, hts, hK, hI, by rw [← hAe]; exact gA_ad, by rw [← hAe]; exact gA_sz, by rw [← hAe]; exact hZ⟩
  have G : gW D ad cy N A s.heap c d0 s.heap [] := ⟨hP, va_S.rf⟩
  generalize hQ : MQ below (va_Qi (fun (z : Int32) (_ : Unit) => z = rZ) (fun _ U => gE D ad cy N c d0 U) A) args s 0 0 A = Q
  suffices hgen : ∀ (H : Heap) (locs : List Loc), gW D ad cy N A s.heap c d0 H locs → W p l e rmJ6_bitCount_0f7a4 s m args below meth cod H locs 0 0 Q (F0 m 0 ls []) from hgen _ _ G
  clear G
  intro H locs G
  unfold m_J6_bitCount_0f7a4 at h
  refine lv_iload_n hx hb dJ6_bitCount_0f7a4_0 rfl (lv_at hl 0 rfl) ?_
  refine lv_iload_n hx hb dJ6_bitCount_0f7a4_1 rfl (lv_at hl 0 rfl) ?_
  refine lv_iconst (v := 1) hx hb dJ6_bitCount_0f7a4_2 (by decide) ?_
  refine lv_iushr hx hb dJ6_bitCount_0f7a4_3 rfl ?_
  refine lv_ldcw (v := 1431655765) hx hb hown (hts (.constant RJ6 265 (1431655765)) (by decide +kernel)) dJ6_bitCount_0f7a4_4 ?_
  refine lv_iand hx hb dJ6_bitCount_0f7a4_7 ?_
  refine lv_isub hx hb dJ6_bitCount_0f7a4_8 ?_
  refine lv_topi (fun x1 ex1 => ?_)
  replace h := gv_s h x1 ex1
  refine lv_istore_n (lv' := [(0, .int x1)]) hx hb dJ6_bitCount_0f7a4_9 rfl hl (by decide) rfl (fun ls hl => ?_)
  refine lv_iload_n hx hb dJ6_bitCount_0f7a4_10 rfl (lv_at hl 0 rfl) ?_
  refine lv_ldcw (v := 858993459) hx hb hown (hts (.constant RJ6 266 (858993459)) (by decide +kernel)) dJ6_bitCount_0f7a4_11 ?_
  refine lv_iand hx hb dJ6_bitCount_0f7a4_14 ?_
  refine lv_iload_n hx hb dJ6_bitCount_0f7a4_15 rfl (lv_at hl 0 rfl) ?_
  refine lv_iconst (v := 2) hx hb dJ6_bitCount_0f7a4_16 (by decide) ?_
  refine lv_iushr hx hb dJ6_bitCount_0f7a4_17 rfl ?_
  refine lv_ldcw (v := 858993459) hx hb hown (hts (.constant RJ6 266 (858993459)) (by decide +kernel)) dJ6_bitCount_0f7a4_18 ?_
  refine lv_iand hx hb dJ6_bitCount_0f7a4_21 ?_
  refine lv_iadd hx hb dJ6_bitCount_0f7a4_22 ?_
  refine lv_topi (fun x2 ex2 => ?_)
  replace h := gv_s h x2 ex2
  refine lv_istore_n (lv' := [(0, .int x2)]) hx hb dJ6_bitCount_0f7a4_23 rfl hl (by decide) rfl (fun ls hl => ?_)
  refine lv_iload_n hx hb dJ6_bitCount_0f7a4_24 rfl (lv_at hl 0 rfl) ?_
  refine lv_iload_n hx hb dJ6_bitCount_0f7a4_25 rfl (lv_at hl 0 rfl) ?_
  refine lv_iconst (v := 4) hx hb dJ6_bitCount_0f7a4_26 (by decide) ?_
  refine lv_iushr hx hb dJ6_bitCount_0f7a4_27 rfl ?_
  refine lv_iadd hx hb dJ6_bitCount_0f7a4_28 ?_
  refine lv_ldcw (v := 252645135) hx hb hown (hts (.constant RJ6 267 (252645135)) (by decide +kernel)) dJ6_bitCount_0f7a4_29 ?_
  refine lv_iand hx hb dJ6_bitCount_0f7a4_32 ?_
  refine lv_topi (fun x3 ex3 => ?_)
  replace h := gv_s h x3 ex3
  refine lv_istore_n (lv' := [(0, .int x3)]) hx hb dJ6_bitCount_0f7a4_33 rfl hl (by decide) rfl (fun ls hl => ?_)
  refine lv_iload_n hx hb dJ6_bitCount_0f7a4_34 rfl (lv_at hl 0 rfl) ?_
  refine lv_iload_n hx hb dJ6_bitCount_0f7a4_35 rfl (lv_at hl 0 rfl) ?_
  refine lv_bipush (v := 8) hx hb dJ6_bitCount_0f7a4_36 (by decide) ?_
  refine lv_iushr hx hb dJ6_bitCount_0f7a4_38 rfl ?_
  refine lv_iadd hx hb dJ6_bitCount_0f7a4_39 ?_
  refine lv_topi (fun x4 ex4 => ?_)
  replace h := gv_s h x4 ex4
  refine lv_istore_n (lv' := [(0, .int x4)]) hx hb dJ6_bitCount_0f7a4_40 rfl hl (by decide) rfl (fun ls hl => ?_)
  refine lv_iload_n hx hb dJ6_bitCount_0f7a4_41 rfl (lv_at hl 0 rfl) ?_
  refine lv_iload_n hx hb dJ6_bitCount_0f7a4_42 rfl (lv_at hl 0 rfl) ?_
  refine lv_bipush (v := 16) hx hb dJ6_bitCount_0f7a4_43 (by decide) ?_
  refine lv_iushr hx hb dJ6_bitCount_0f7a4_45 rfl ?_
  refine lv_iadd hx hb dJ6_bitCount_0f7a4_46 ?_
  refine lv_topi (fun x5 ex5 => ?_)
  replace h := gv_s h x5 ex5
  refine lv_istore_n (lv' := [(0, .int x5)]) hx hb dJ6_bitCount_0f7a4_47 rfl hl (by decide) rfl (fun ls hl => ?_)
  refine lv_iload_n hx hb dJ6_bitCount_0f7a4_48 rfl (lv_at hl 0 rfl) ?_
  refine lv_bipush (v := 63) hx hb dJ6_bitCount_0f7a4_49 (by decide) ?_
  refine lv_iand hx hb dJ6_bitCount_0f7a4_51 ?_
  cases h
  rw [← hQ]
  exact gx_iret F G hr hlocks dJ6_bitCount_0f7a4_52
