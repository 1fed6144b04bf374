-- X10_feed X10_byteAt X10_blanks X10_wrong X10_isDigit X10_isSmall X10_number X10_wordHere X10_six X10_isWord X10_skipWord X10_takes X10_sign X10_takesSign X10_starts X10_ends X10_isSeven X10_kindHere X10_mostOf X10_otherThing
def m_X10_feed_L23 (t : Nat) (a1 : Int32) (a2 : Int32) (a3 : Int32) (a4 : Int32) (a5 : Int32) (y6 : Int32) (c7 : gm) : Option ((Int32 × gm) ⊕ (gm)) :=
  (if 20 ≤ y6 then some (.inr c7) else gj (fun (v10 : Int32) => gc (0 ≤ (c7.1 t 1).toInt ∧ (c7.1 t 1).toInt < 600) (gv (gm_r c7 56 (upd (c7.1 56) (c7.1 t 1).toNatClampNeg ((v10 >>> ((24 - (8 * (y6 - y6 / 4 * 4))) &&& 31)) &&& 255))) (fun (c16 : gm) => gv (gm_r c16 t (upd (c16.1 t) 1 ((c16.1 t 1) + 1))) (fun (c17 : gm) => gv (y6 + 1) (fun (x18 : Int32) => some (.inl (x18, c17))))))) (fun K11 => (if 4 ≤ y6 then (if 8 ≤ y6 then (if 12 ≤ y6 then (if 16 ≤ y6 then K11 a5 else K11 a4) else K11 a3) else K11 a2) else K11 a1)))
def m_X10_feed (n : Nat) (t : Nat) (a1 : Int32) (a2 : Int32) (a3 : Int32) (a4 : Int32) (a5 : Int32) (c : gm) : Option (Int32 × gm) :=
  gc (gck t = 10) (gv (gm_r c t (upd (c.1 t) 0 0)) (fun (c3 : gm) => (if ((c3.1 t 1) + 20) ≤ 600 then gb (gloop (gu2 (fun (y6 : Int32) (c7 : gm) => m_X10_feed_L23 t a1 a2 a3 a4 a5 y6 c7)) n (0, c3)) (fun (c8 : gm) => some ((c8.1 t 1), c8)) else some ((-1), c3))))
abbrev rmX10_feed : Room := { frames := 0, cells := 0, slots := 0, locals := 0 }
set_option maxHeartbeats 4000000 in
set_option maxRecDepth 100000 in
theorem c_X10_feed (l : Launch) (sa : gSa) (D : va_G) (ad : Nat → Nat) (cy : Nat → ClassId) (N sz : Nat) (hN : 530 ≤ N) (hI : gI ad N) (c0 c : gm) {n : Nat} {t : Nat} {a1 : Int32} {a2 : Int32} {a3 : Int32} {a4 : Int32} {a5 : Int32} {rZ : Int32} {cZ : gm} (h : m_X10_feed n t a1 a2 a3 a4 a5 c = some (rZ, cZ)) : Met l yX10_feed wsX10_feed rmX10_feed (va_Pc [.ref (ad t), .int a1, .int a2, .int a3, .int a4, .int a5] (gP sa D ad cy N sz c0 c)) (va_Qi (fun (z : Int32) (_ : Unit) => z = rZ) (fun _ U => gE D ad cy N c0 cZ U) (gA ad N sz)) 0 0 (gA ad N sz) := by
  refine Met.ofW (cc := cX10_feed) (maxL := 8) (ret := (some .int)) (by decide) rfl ?_
  intro p e s m args below meth cod s₁ B hml hv
  obtain ⟨rfl, hsz, hP, hK, hZ⟩ := hv
  have hx := B.exec
  have hb := B.bytes
  have hr := B.returns
  have hts := atoms_spec (ws := wsX10_feed) B.pre
  have hown : s.vm.findClass RX10 = some m.cls := findClass_of_methodNamed B.named
  have hlocks := B.notSynchronized
  subst hsz
  have hl := lv_entry ([.ref (ad t), .int a1, .int a2, .int a3, .int a4, .int a5]) (n := 8) (Nat.le_of_ble_eq_true rfl)
  rw [lg_entry_eq]
  generalize (lg_sl ([.ref (ad t), .int a1, .int a2, .int a3, .int a4, .int a5]) ++ List.replicate (8 - (lg_sl ([.ref (ad t), .int a1, .int a2, .int a3, .int a4, .int a5])).length) Slot.unset).toArray = ls at hl ⊢
  have hl : lv_has ls 8 [(0, .ref (ad t)), (1, .int a1), (2, .int a2), (3, .int a3), (4, .int a4), (5, .int a5)] := hl
  have in10 : ∀ w ∈ wsX100, w ∈ wsX10_feed := by decide +kernel
  generalize hargs : ([.ref (ad t), .int a1, .int a2, .int a3, .int a4, .int a5] : List Value).toArray = args at *
  generalize hAe : gA ad N s.heap.size = A
  have F : gF sa D ad cy N A p s m args cod cX10_feed 8 wsX10_feed RX10 := ⟨hx, hb, hml, hown, hts, hK, hI, by rw [← hAe]; exact gA_ad, by rw [← hAe]; exact gA_sz, by rw [← hAe]; exact hZ⟩
  have G : gW D ad cy N A s.heap c0 c s.heap [] := ⟨hP, va_S.rf⟩
  generalize hQ : MQ below (va_Qi (fun (z : Int32) (_ : Unit) => z = rZ) (fun _ U => gE D ad cy N c0 cZ U) A) args s 0 0 A = Q
  suffices hgen : ∀ (H : Heap) (locs : List Loc), gW D ad cy N A s.heap c0 c H locs → W p l e rmX10_feed s m args below meth cod H locs 0 0 Q (F0 m 0 ls []) from hgen _ _ G
  clear G
  intro H locs G
  unfold m_X10_feed at h
  refine lv_aload_n hx hb dX10_feed_0 rfl (lv_at hl 0 rfl) ?_
  refine lv_iconst (v := 0) hx hb dX10_feed_1 (by decide) ?_
  obtain ⟨hk1, h⟩ := gc_s h
  have ht2 : t < N := Nat.lt_of_lt_of_le (gck_lt10 hk1) hN
  refine fp_10_thrown F G hk1 ht2 in10 (by decide +kernel) dX10_feed_2 (fun H locs G => ?_)
  obtain ⟨c3, ec3⟩ : ∃ z, z = gm_r c t (upd (c.1 t) 0 0) := ⟨_, rfl⟩
  rw [← ec3] at G
  replace h := gv_s h c3 ec3
  refine lv_aload_n hx hb dX10_feed_5 rfl (lv_at hl 0 rfl) ?_
  refine fg_10_tape F G hk1 ht2 in10 (by decide +kernel) dX10_feed_6 ?_
  refine lv_bipush (v := 20) hx hb dX10_feed_9 (by decide) ?_
  refine lv_iadd hx hb dX10_feed_11 ?_
  refine lv_sipush (v := 600) hx hb dX10_feed_12 (by decide) ?_
  refine lv_icmp_le (tgt := 20) hx hb dX10_feed_15 (by decide) (fun q4 => ?_) (fun q4 => ?_)
  · replace h := gt_s q4 h
    refine lv_iconst (v := 0) hx hb dX10_feed_20 (by decide) ?_
    refine lv_istore (lv' := [(6, .int 0), (0, .ref (ad t)), (1, .int a1), (2, .int a2), (3, .int a3), (4, .int a4), (5, .int a5)]) hx hb dX10_feed_21 hl (by decide) rfl (fun ls hl => ?_)
    obtain ⟨b5, hb5, hK5⟩ := gb_s h
    have E5 : ∀ (c8 : gm) (H : Heap) (locs : List Loc) (ls : Array Slot), (c8 : gm) = b5 → gW D ad cy N A s.heap c0 c8 H locs → lv_has ls 8 [(0, .ref (ad t))] → W p l e rmX10_feed s m args below meth cod H locs 0 0 Q (F0 m 120 ls []) := by
      intro c8 H locs ls hq5 G hl
      subst hq5
      replace hK5 := hK5
      have h := hK5
      refine lv_aload_n hx hb dX10_feed_120 rfl (lv_at hl 0 rfl) ?_
      refine fg_10_tape F G hk1 ht2 in10 (by decide +kernel) dX10_feed_121 ?_
      cases h
      rw [← hQ]
      exact gx_iret F G hr hlocks dX10_feed_124
    have L5 : ∀ (n9 : Nat) (y6 : Int32) (c7 : gm) (H : Heap) (locs : List Loc) (ls : Array Slot), gloop (gu2 (fun (y6 : Int32) (c7 : gm) => m_X10_feed_L23 t a1 a2 a3 a4 a5 y6 c7)) n9 (y6, c7) = some b5 → gW D ad cy N A s.heap c0 c7 H locs → lv_has ls 8 [(0, .ref (ad t)), (1, .int a1), (2, .int a2), (3, .int a3), (4, .int a4), (5, .int a5), (6, .int y6)] → W p l e rmX10_feed s m args below meth cod H locs 0 0 Q (F0 m 23 ls []) := by
      intro n9
      induction n9 with
      | zero => intro y6 c7 H locs ls h; exact (gloop_0 h).elim
      | succ n9 ih =>
        intro y6 c7 H locs ls h G hl
        have ih5 := ih
        obtain ⟨o5, h, hn5⟩ := gloop_s h
        replace h := gu2_s h
        unfold m_X10_feed_L23 at h
        refine lv_iload hx hb dX10_feed_23 (lv_at hl 6 rfl) ?_
        refine lv_bipush (v := 20) hx hb dX10_feed_25 (by decide) ?_
        refine lv_icmp_ge (tgt := 120) hx hb dX10_feed_27 (by decide) (fun q9 => ?_) (fun q9 => ?_)
        · replace h := gt_s q9 h
          cases h
          exact E5 _ _ _ _ (gnx_r hn5) G (lv_sub hl [0] rfl)
        · replace h := gf_s q9 h
          refine lv_iload hx hb dX10_feed_30 (lv_at hl 6 rfl) ?_
          refine lv_iconst (v := 4) hx hb dX10_feed_32 (by decide) ?_
          obtain ⟨K11, eK11, h⟩ := gj_s h
          have JK11 : ∀ (v10 : Int32) (H : Heap) (locs : List Loc) (ls : Array Slot), K11 v10 = some o5 → gW D ad cy N A s.heap c0 c7 H locs → lv_has ls 8 [(0, .ref (ad t)), (1, .int a1), (2, .int a2), (3, .int a3), (4, .int a4), (5, .int a5), (6, .int y6)] → W p l e rmX10_feed s m args below meth cod H locs 0 0 Q (F0 m 76 ls [.int v10]) := by
            intro v10 H locs ls h G hl
            rw [eK11] at h
            refine lv_istore (lv' := [(7, .int v10), (0, .ref (ad t)), (1, .int a1), (2, .int a2), (3, .int a3), (4, .int a4), (5, .int a5), (6, .int y6)]) hx hb dX10_feed_76 hl (by decide) rfl (fun ls hl => ?_)
            refine lv_aload_n hx hb dX10_feed_78 rfl (lv_at hl 1 rfl) ?_
            refine fg_10_fed F G hk1 ht2 in10 (by decide +kernel) dX10_feed_79 ?_
            have hk12 : gck 56 = 22 := rfl
            have ht13 : 56 < N := Nat.lt_of_lt_of_le (by decide) hN
            have hn14 : gal 56 = 600 := rfl
            refine lv_aload_n hx hb dX10_feed_82 rfl (lv_at hl 1 rfl) ?_
            refine fg_10_tape F G hk1 ht2 in10 (by decide +kernel) dX10_feed_83 ?_
            refine lv_iload hx hb dX10_feed_86 (lv_at hl 0 rfl) ?_
            refine lv_bipush (v := 24) hx hb dX10_feed_88 (by decide) ?_
            refine lv_bipush (v := 8) hx hb dX10_feed_90 (by decide) ?_
            refine lv_iload hx hb dX10_feed_92 (lv_at hl 7 rfl) ?_
            refine lv_iconst (v := 4) hx hb dX10_feed_94 (by decide) ?_
            refine lv_irem hx hb dX10_feed_95 (by decide) ?_
            refine lv_imul hx hb dX10_feed_96 ?_
            refine lv_isub hx hb dX10_feed_97 ?_
            refine lv_ishr hx hb dX10_feed_98 ?_
            refine lv_sipush (v := 255) hx hb dX10_feed_99 (by decide) ?_
            refine lv_iand hx hb dX10_feed_102 ?_
            obtain ⟨hi15, h⟩ := gc_s h
            refine gx_mis F G hk12 ht13 hn14 hi15 dX10_feed_103 (fun H locs G => ?_)
            obtain ⟨c16, ec16⟩ : ∃ z, z = gm_r c7 56 (upd (c7.1 56) (c7.1 t 1).toNatClampNeg ((v10 >>> ((24 - (8 * (y6 - y6 / 4 * 4))) &&& 31)) &&& 255)) := ⟨_, rfl⟩
            rw [← ec16] at G
            replace h := gv_s h c16 ec16
            refine lv_aload_n hx hb dX10_feed_104 rfl (lv_at hl 1 rfl) ?_
            refine lv_dup hx hb dX10_feed_105 rfl ?_
            refine fg_10_tape F G hk1 ht2 in10 (by decide +kernel) dX10_feed_106 ?_
            refine lv_iconst (v := 1) hx hb dX10_feed_109 (by decide) ?_
            refine lv_iadd hx hb dX10_feed_110 ?_
            refine fp_10_tape F G hk1 ht2 in10 (by decide +kernel) dX10_feed_111 (fun H locs G => ?_)
            obtain ⟨c17, ec17⟩ : ∃ z, z = gm_r c16 t (upd (c16.1 t) 1 ((c16.1 t 1) + 1)) := ⟨_, rfl⟩
            rw [← ec17] at G
            replace h := gv_s h c17 ec17
            obtain ⟨x18, ex18⟩ : ∃ z : Int32, z = y6 + 1 := ⟨_, rfl⟩
            replace h := gv_s h x18 ex18
            refine lv_iinc (v := x18) (lv' := [(6, .int x18), (7, .int v10), (0, .ref (ad t)), (1, .int a1), (2, .int a2), (3, .int a3), (4, .int a4), (5, .int a5)]) hx hb dX10_feed_114 hl (k := 7) rfl (by rw [ex18]; rfl) (by decide) rfl (fun ls hl => ?_)
            refine lv_goto (tgt := 23) hx hb dX10_feed_117 (by decide) ?_
            cases h
            exact ih5 _ _ _ _ _ hn5 G (lv_sub hl [2, 3, 4, 5, 6, 7, 0] rfl)
          refine lv_icmp_ge (tgt := 40) hx hb dX10_feed_33 (by decide) (fun q19 => ?_) (fun q19 => ?_)
          · replace h := gt_s q19 h
            refine lv_iload hx hb dX10_feed_40 (lv_at hl 6 rfl) ?_
            refine lv_bipush (v := 8) hx hb dX10_feed_42 (by decide) ?_
            refine lv_icmp_ge (tgt := 51) hx hb dX10_feed_44 (by decide) (fun q20 => ?_) (fun q20 => ?_)
            · replace h := gt_s q20 h
              refine lv_iload hx hb dX10_feed_51 (lv_at hl 6 rfl) ?_
              refine lv_bipush (v := 12) hx hb dX10_feed_53 (by decide) ?_
              refine lv_icmp_ge (tgt := 62) hx hb dX10_feed_55 (by decide) (fun q21 => ?_) (fun q21 => ?_)
              · replace h := gt_s q21 h
                refine lv_iload hx hb dX10_feed_62 (lv_at hl 6 rfl) ?_
                refine lv_bipush (v := 16) hx hb dX10_feed_64 (by decide) ?_
                refine lv_icmp_ge (tgt := 74) hx hb dX10_feed_66 (by decide) (fun q22 => ?_) (fun q22 => ?_)
                · replace h := gt_s q22 h
                  refine lv_iload hx hb dX10_feed_74 (lv_at hl 5 rfl) ?_
                  exact JK11 _ _ _ _ h G hl
                · replace h := gf_s q22 h
                  refine lv_iload hx hb dX10_feed_69 (lv_at hl 4 rfl) ?_
                  refine lv_goto (tgt := 76) hx hb dX10_feed_71 (by decide) ?_
                  exact JK11 _ _ _ _ h G hl
              · replace h := gf_s q21 h
                refine lv_iload_n hx hb dX10_feed_58 rfl (lv_at hl 3 rfl) ?_
                refine lv_goto (tgt := 76) hx hb dX10_feed_59 (by decide) ?_
                exact JK11 _ _ _ _ h G hl
            · replace h := gf_s q20 h
              refine lv_iload_n hx hb dX10_feed_47 rfl (lv_at hl 2 rfl) ?_
              refine lv_goto (tgt := 76) hx hb dX10_feed_48 (by decide) ?_
              exact JK11 _ _ _ _ h G hl
          · replace h := gf_s q19 h
            refine lv_iload_n hx hb dX10_feed_36 rfl (lv_at hl 1 rfl) ?_
            refine lv_goto (tgt := 76) hx hb dX10_feed_37 (by decide) ?_
            exact JK11 _ _ _ _ h G hl
    exact L5 n _ _ _ _ _ hb5 G (lv_sub hl [1, 2, 3, 4, 5, 6, 0] rfl)
  · replace h := gf_s q4 h
    refine lv_iconst (v := (-1)) hx hb dX10_feed_18 (by decide) ?_
    cases h
    rw [← hQ]
    exact gx_iret F G hr hlocks dX10_feed_19
def m_X10_byteAt (t : Nat) (a1 : Int32) (c : gm) : Option (Int32) :=
  gc (gck t = 10) ((if a1 < (c.1 t 2) then gc (0 ≤ a1.toInt ∧ a1.toInt < 600) (some (c.1 56 a1.toNatClampNeg)) else some (-1)))
abbrev rmX10_byteAt : Room := { frames := 0, cells := 0, slots := 0, locals := 0 }
set_option maxHeartbeats 4000000 in
set_option maxRecDepth 100000 in
theorem c_X10_byteAt (l : Launch) (sa : gSa) (D : va_G) (ad : Nat → Nat) (cy : Nat → ClassId) (N sz : Nat) (hN : 530 ≤ N) (hI : gI ad N) (c0 c : gm) {t : Nat} {a1 : Int32} {rZ : Int32} (h : m_X10_byteAt t a1 c = some rZ) : Met l yX10_byteAt wsX10_byteAt rmX10_byteAt (va_Pc [.ref (ad t), .int a1] (gP sa D ad cy N sz c0 c)) (va_Qi (fun (z : Int32) (_ : Unit) => z = rZ) (fun _ U => gE D ad cy N c0 c U) (gA ad N sz)) 0 0 (gA ad N sz) := by
  refine Met.ofW (cc := cX10_byteAt) (maxL := 2) (ret := (some .int)) (by decide) rfl ?_
  intro p e s m args below meth cod s₁ B hml hv
  obtain ⟨rfl, hsz, hP, hK, hZ⟩ := hv
  have hx := B.exec
  have hb := B.bytes
  have hr := B.returns
  have hts := atoms_spec (ws := wsX10_byteAt) B.pre
  have hown : s.vm.findClass RX10 = some m.cls := findClass_of_methodNamed B.named
  have hlocks := B.notSynchronized
  subst hsz
  have hl := lv_entry ([.ref (ad t), .int a1]) (n := 2) (Nat.le_of_ble_eq_true rfl)
  rw [lg_entry_eq]
  generalize (lg_sl ([.ref (ad t), .int a1]) ++ List.replicate (2 - (lg_sl ([.ref (ad t), .int a1])).length) Slot.unset).toArray = ls at hl ⊢
  have hl : lv_has ls 2 [(0, .ref (ad t)), (1, .int a1)] := hl
  have in10 : ∀ w ∈ wsX100, w ∈ wsX10_byteAt := by decide +kernel
  generalize hargs : ([.ref (ad t), .int a1] : List Value).toArray = args at *
  generalize hAe : gA ad N s.heap.size = A
  have F : gF sa D ad cy N A p s m args cod cX10_byteAt 2 wsX10_byteAt RX10 := ⟨hx, hb, hml, hown, hts, hK, hI, by rw [← hAe]; exact gA_ad, by rw [← hAe]; exact gA_sz, by rw [← hAe]; exact hZ⟩
  have G : gW D ad cy N A s.heap c0 c s.heap [] := ⟨hP, va_S.rf⟩
  generalize hQ : MQ below (va_Qi (fun (z : Int32) (_ : Unit) => z = rZ) (fun _ U => gE D ad cy N c0 c U) A) args s 0 0 A = Q
  suffices hgen : ∀ (H : Heap) (locs : List Loc), gW D ad cy N A s.heap c0 c H locs → W p l e rmX10_byteAt s m args below meth cod H locs 0 0 Q (F0 m 0 ls []) from hgen _ _ G
  clear G
  intro H locs G
  unfold m_X10_byteAt at h
  refine lv_iload_n hx hb dX10_byteAt_0 rfl (lv_at hl 1 rfl) ?_
  refine lv_aload_n hx hb dX10_byteAt_1 rfl (lv_at hl 0 rfl) ?_
  obtain ⟨hk1, h⟩ := gc_s h
  have ht2 : t < N := Nat.lt_of_lt_of_le (gck_lt10 hk1) hN
  refine fg_10_size F G hk1 ht2 in10 (by decide +kernel) dX10_byteAt_2 ?_
  refine lv_icmp_lt (tgt := 12) hx hb dX10_byteAt_5 (by decide) (fun q3 => ?_) (fun q3 => ?_)
  · replace h := gt_s q3 h
    refine lv_aload_n hx hb dX10_byteAt_12 rfl (lv_at hl 0 rfl) ?_
    refine fg_10_fed F G hk1 ht2 in10 (by decide +kernel) dX10_byteAt_13 ?_
    have hk4 : gck 56 = 22 := rfl
    have ht5 : 56 < N := Nat.lt_of_lt_of_le (by decide) hN
    have hn6 : gal 56 = 600 := rfl
    refine lv_iload_n hx hb dX10_byteAt_16 rfl (lv_at hl 1 rfl) ?_
    obtain ⟨hi7, h⟩ := gc_s h
    refine gx_mia F G hk4 ht5 hn6 hi7 dX10_byteAt_17 ?_
    cases h
    rw [← hQ]
    exact gx_iret F G hr hlocks dX10_byteAt_18
  · replace h := gf_s q3 h
    refine lv_iconst (v := (-1)) hx hb dX10_byteAt_8 (by decide) ?_
    refine lv_goto (tgt := 18) hx hb dX10_byteAt_9 (by decide) ?_
    cases h
    rw [← hQ]
    exact gx_iret F G hr hlocks dX10_byteAt_18
def m_X10_blanks_L0 (t : Nat) (c2 : gm) : Option ((gm) ⊕ (gm)) :=
  gc (gck t = 10) (gb (m_X10_byteAt t (c2.1 t 4) c2) (fun (r7 : Int32) => (if r7 = 32 then gv (gm_r c2 t (upd (c2.1 t) 4 ((c2.1 t 4) + 1))) (fun (c9 : gm) => some (.inl c9)) else some (.inr c2))))
def m_X10_blanks (n : Nat) (t : Nat) (c : gm) : Option (gm) :=
  gb (gloop (fun (c2 : gm) => m_X10_blanks_L0 t c2) n c) (fun (c3 : gm) => some c3)
abbrev rmX10_blanks : Room := { frames := 1, cells := 0, slots := 0, locals := 21 }
set_option maxHeartbeats 4000000 in
set_option maxRecDepth 100000 in
theorem c_X10_blanks (l : Launch) (sa : gSa) (D : va_G) (ad : Nat → Nat) (cy : Nat → ClassId) (N sz : Nat) (hN : 530 ≤ N) (hI : gI ad N) (c0 c : gm) {n : Nat} {t : Nat} {cZ : gm} (h : m_X10_blanks n t c = some cZ) : Met l yX10_blanks wsX10_blanks rmX10_blanks (va_Pc [.ref (ad t)] (gP sa D ad cy N sz c0 c)) (va_Qv (fun (_ : Unit) => True) (fun _ U => gE D ad cy N c0 cZ U) (gA ad N sz)) 0 0 (gA ad N sz) := by
  refine Met.ofW (cc := cX10_blanks) (maxL := 1) (ret := none) (by decide) rfl ?_
  intro p e s m args below meth cod s₁ B hml hv
  obtain ⟨rfl, hsz, hP, hK, hZ⟩ := hv
  have hx := B.exec
  have hb := B.bytes
  have hr := B.returns
  have hts := atoms_spec (ws := wsX10_blanks) B.pre
  have hown : s.vm.findClass RX10 = some m.cls := findClass_of_methodNamed B.named
  have hlocks := B.notSynchronized
  subst hsz
  have hl := lv_entry ([.ref (ad t)]) (n := 1) (Nat.le_of_ble_eq_true rfl)
  rw [lg_entry_eq]
  generalize (lg_sl ([.ref (ad t)]) ++ List.replicate (1 - (lg_sl ([.ref (ad t)])).length) Slot.unset).toArray = ls at hl ⊢
  have hl : lv_has ls 1 [(0, .ref (ad t))] := hl
  have in10 : ∀ w ∈ wsX100, w ∈ wsX10_blanks := by decide +kernel
  generalize hargs : ([.ref (ad t)] : List Value).toArray = args at *
  generalize hAe : gA ad N s.heap.size = A
  have F : gF sa D ad cy N A p s m args cod cX10_blanks 1 wsX10_blanks RX10 := ⟨hx, hb, hml, hown, hts, hK, hI, by rw [← hAe]; exact gA_ad, by rw [← hAe]; exact gA_sz, by rw [← hAe]; exact hZ⟩
  have G : gW D ad cy N A s.heap c0 c s.heap [] := ⟨hP, va_S.rf⟩
  generalize hQ : MQ below (va_Qv (fun (_ : Unit) => True) (fun _ U => gE D ad cy N c0 cZ U) A) args s 0 0 A = Q
  suffices hgen : ∀ (H : Heap) (locs : List Loc), gW D ad cy N A s.heap c0 c H locs → W p l e rmX10_blanks s m args below meth cod H locs 0 0 Q (F0 m 0 ls []) from hgen _ _ G
  clear G
  intro H locs G
  unfold m_X10_blanks at h
  obtain ⟨b1, hb1, hK1⟩ := gb_s h
  have E1 : ∀ (c3 : gm) (H : Heap) (locs : List Loc) (ls : Array Slot), (c3 : gm) = b1 → gW D ad cy N A s.heap c0 c3 H locs → lv_has ls 1 [] → W p l e rmX10_blanks s m args below meth cod H locs 0 0 Q (F0 m 26 ls []) := by
    intro c3 H locs ls hq1 G hl
    subst hq1
    replace hK1 := hK1
    have h := hK1
    cases h
    rw [← hQ]
    exact gx_vret F G hr hlocks dX10_blanks_26
  have L1 : ∀ (n9 : Nat) (c2 : gm) (H : Heap) (locs : List Loc) (ls : Array Slot), gloop (fun (c2 : gm) => m_X10_blanks_L0 t c2) n9 c2 = some b1 → gW D ad cy N A s.heap c0 c2 H locs → lv_has ls 1 [(0, .ref (ad t))] → W p l e rmX10_blanks s m args below meth cod H locs 0 0 Q (F0 m 0 ls []) := by
    intro n9
    induction n9 with
    | zero => intro c2 H locs ls h; exact (gloop_0 h).elim
    | succ n9 ih =>
      intro c2 H locs ls h G hl
      have ih1 := ih
      obtain ⟨o1, h, hn1⟩ := gloop_s h
      unfold m_X10_blanks_L0 at h
      refine lv_aload_n hx hb dX10_blanks_0 rfl (lv_at hl 0 rfl) ?_
      refine lv_aload_n hx hb dX10_blanks_1 rfl (lv_at hl 0 rfl) ?_
      obtain ⟨hk4, h⟩ := gc_s h
      have ht5 : t < N := Nat.lt_of_lt_of_le (gck_lt10 hk4) hN
      refine fg_10_at F G hk4 ht5 in10 (by decide +kernel) dX10_blanks_2 ?_
      obtain ⟨r7, hc6, h⟩ := gb_s h
      refine gx_calli F G (va_runV (As := [.int (c2.1 t 4)]) (rest := []) (gx_fix F) (c_X10_byteAt l sa D ad cy N H.size hN hI c0 c2 hc6) (cwV 1 hts gX10_blanks_X10_byteAt rfl rfl rfl (by decide +kernel) ⟨by decide, by decide⟩) (gx_rec F G ht5 (gwe_10 hk4) rfl) rfl rfl hl.1 rfl (lv_room (Nat.le_of_ble_eq_true rfl)) dX10_blanks_5 ⟨Nat.zero_le _, Nat.zero_le _⟩) (fun H locs G => ?_)
      refine lv_bipush (v := 32) hx hb dX10_blanks_8 (by decide) ?_
      refine lv_icmp_ne (tgt := 26) hx hb dX10_blanks_10 (by decide) (fun q8 => ?_) (fun q8 => ?_)
      · replace h := gf_s q8 h
        cases h
        exact E1 _ _ _ _ (gnx_r hn1) G (lv_sub hl [] rfl)
      · replace h := gt_s q8 h
        refine lv_aload_n hx hb dX10_blanks_13 rfl (lv_at hl 0 rfl) ?_
        refine lv_dup hx hb dX10_blanks_14 rfl ?_
        refine fg_10_at F G hk4 ht5 in10 (by decide +kernel) dX10_blanks_15 ?_
        refine lv_iconst (v := 1) hx hb dX10_blanks_18 (by decide) ?_
        refine lv_iadd hx hb dX10_blanks_19 ?_
        refine fp_10_at F G hk4 ht5 in10 (by decide +kernel) dX10_blanks_20 (fun H locs G => ?_)
        obtain ⟨c9, ec9⟩ : ∃ z, z = gm_r c2 t (upd (c2.1 t) 4 ((c2.1 t 4) + 1)) := ⟨_, rfl⟩
        rw [← ec9] at G
        replace h := gv_s h c9 ec9
        refine lv_goto (tgt := 0) hx hb dX10_blanks_23 (by decide) ?_
        cases h
        exact ih1 _ _ _ _ hn1 G hl
  exact L1 n _ _ _ _ hb1 G hl
def m_X10_wrong (t : Nat) (a1 : Int32) (a2 : Int32) (c : gm) : Option (gm) :=
  gc (gck t = 10) ((if (c.1 t 5) = 0 then gv (gm_r c t (upd (c.1 t) 5 a1)) (fun (c4 : gm) => gv (gm_r c4 t (upd (c4.1 t) 6 a2)) (fun (c5 : gm) => some c5)) else some c))
abbrev rmX10_wrong : Room := { frames := 0, cells := 0, slots := 0, locals := 0 }
set_option maxHeartbeats 4000000 in
set_option maxRecDepth 100000 in
theorem c_X10_wrong (l : Launch) (sa : gSa) (D : va_G) (ad : Nat → Nat) (cy : Nat → ClassId) (N sz : Nat) (hN : 530 ≤ N) (hI : gI ad N) (c0 c : gm) {t : Nat} {a1 : Int32} {a2 : Int32} {cZ : gm} (h : m_X10_wrong t a1 a2 c = some cZ) : Met l yX10_wrong wsX10_wrong rmX10_wrong (va_Pc [.ref (ad t), .int a1, .int a2] (gP sa D ad cy N sz c0 c)) (va_Qv (fun (_ : Unit) => True) (fun _ U => gE D ad cy N c0 cZ U) (gA ad N sz)) 0 0 (gA ad N sz) := by
  refine Met.ofW (cc := cX10_wrong) (maxL := 3) (ret := none) (by decide) rfl ?_
  intro p e s m args below meth cod s₁ B hml hv
  obtain ⟨rfl, hsz, hP, hK, hZ⟩ := hv
  have hx := B.exec
  have hb := B.bytes
  have hr := B.returns
  have hts := atoms_spec (ws := wsX10_wrong) B.pre
  have hown : s.vm.findClass RX10 = some m.cls := findClass_of_methodNamed B.named
  have hlocks := B.notSynchronized
  subst hsz
  have hl := lv_entry ([.ref (ad t), .int a1, .int a2]) (n := 3) (Nat.le_of_ble_eq_true rfl)
  rw [lg_entry_eq]
  generalize (lg_sl ([.ref (ad t), .int a1, .int a2]) ++ List.replicate (3 - (lg_sl ([.ref (ad t), .int a1, .int a2])).length) Slot.unset).toArray = ls at hl ⊢
  have hl : lv_has ls 3 [(0, .ref (ad t)), (1, .int a1), (2, .int a2)] := hl
  have in10 : ∀ w ∈ wsX100, w ∈ wsX10_wrong := by decide +kernel
  generalize hargs : ([.ref (ad t), .int a1, .int a2] : List Value).toArray = args at *
  generalize hAe : gA ad N s.heap.size = A
  have F : gF sa D ad cy N A p s m args cod cX10_wrong 3 wsX10_wrong RX10 := ⟨hx, hb, hml, hown, hts, hK, hI, by rw [← hAe]; exact gA_ad, by rw [← hAe]; exact gA_sz, by rw [← hAe]; exact hZ⟩
  have G : gW D ad cy N A s.heap c0 c s.heap [] := ⟨hP, va_S.rf⟩
  generalize hQ : MQ below (va_Qv (fun (_ : Unit) => True) (fun _ U => gE D ad cy N c0 cZ U) A) args s 0 0 A = Q
  suffices hgen : ∀ (H : Heap) (locs : List Loc), gW D ad cy N A s.heap c0 c H locs → W p l e rmX10_wrong s m args below meth cod H locs 0 0 Q (F0 m 0 ls []) from hgen _ _ G
  clear G
  intro H locs G
  unfold m_X10_wrong at h
  refine lv_aload_n hx hb dX10_wrong_0 rfl (lv_at hl 0 rfl) ?_
  obtain ⟨hk1, h⟩ := gc_s h
  have ht2 : t < N := Nat.lt_of_lt_of_le (gck_lt10 hk1) hN
  refine fg_10_fault F G hk1 ht2 in10 (by decide +kernel) dX10_wrong_1 ?_
  refine lv_if_ne (tgt := 17) hx hb dX10_wrong_4 (by decide) (fun q3 => ?_) (fun q3 => ?_)
  · replace h := gf_s q3 h
    cases h
    rw [← hQ]
    exact gx_vret F G hr hlocks dX10_wrong_17
  · replace h := gt_s q3 h
    refine lv_aload_n hx hb dX10_wrong_7 rfl (lv_at hl 0 rfl) ?_
    refine lv_iload_n hx hb dX10_wrong_8 rfl (lv_at hl 1 rfl) ?_
    refine fp_10_fault F G hk1 ht2 in10 (by decide +kernel) dX10_wrong_9 (fun H locs G => ?_)
    obtain ⟨c4, ec4⟩ : ∃ z, z = gm_r c t (upd (c.1 t) 5 a1) := ⟨_, rfl⟩
    rw [← ec4] at G
    replace h := gv_s h c4 ec4
    refine lv_aload_n hx hb dX10_wrong_12 rfl (lv_at hl 0 rfl) ?_
    refine lv_iload_n hx hb dX10_wrong_13 rfl (lv_at hl 2 rfl) ?_
    refine fp_10_faultAt F G hk1 ht2 in10 (by decide +kernel) dX10_wrong_14 (fun H locs G => ?_)
    obtain ⟨c5, ec5⟩ : ∃ z, z = gm_r c4 t (upd (c4.1 t) 6 a2) := ⟨_, rfl⟩
    rw [← ec5] at G
    replace h := gv_s h c5 ec5
    cases h
    rw [← hQ]
    exact gx_vret F G hr hlocks dX10_wrong_17
def m_X10_isDigit (a1 : Int32) : Option (Int32) :=
  (if a1 < 48 then some 0 else (if 57 < a1 then some 0 else some 1))
abbrev rmX10_isDigit : Room := { frames := 0, cells := 0, slots := 0, locals := 0 }
set_option maxHeartbeats 4000000 in
set_option maxRecDepth 100000 in
theorem c_X10_isDigit (l : Launch) (sa : gSa) (D : va_G) (ad : Nat → Nat) (cy : Nat → ClassId) (N sz : Nat) (hN : 530 ≤ N) (hI : gI ad N) (c0 c : gm) {a1 : Int32} {rZ : Int32} (h : m_X10_isDigit a1 = some rZ) : Met l yX10_isDigit wsX10_isDigit rmX10_isDigit (va_Pc [.int a1] (gP sa D ad cy N sz c0 c)) (va_Qi (fun (z : Int32) (_ : Unit) => z = rZ) (fun _ U => gE D ad cy N c0 c U) (gA ad N sz)) 0 0 (gA ad N sz) := by
  refine Met.ofW (cc := cX10_isDigit) (maxL := 1) (ret := (some .boolean)) (by decide) rfl ?_
  intro p e s m args below meth cod s₁ B hml hv
  obtain ⟨rfl, hsz, hP, hK, hZ⟩ := hv
  have hx := B.exec
  have hb := B.bytes
  have hr := B.returns
  have hts := atoms_spec (ws := wsX10_isDigit) B.pre
  have hown : s.vm.findClass RX10 = some m.cls := findClass_of_methodNamed B.named
  have hlocks := B.notSynchronized
  subst hsz
  have hl := lv_entry ([.int a1]) (n := 1) (Nat.le_of_ble_eq_true rfl)
  rw [lg_entry_eq]
  generalize (lg_sl ([.int a1]) ++ List.replicate (1 - (lg_sl ([.int a1])).length) Slot.unset).toArray = ls at hl ⊢
  have hl : lv_has ls 1 [(0, .int a1)] := hl
  generalize hargs : ([.int a1] : List Value).toArray = args at *
  generalize hAe : gA ad N s.heap.size = A
  have F : gF sa D ad cy N A p s m args cod cX10_isDigit 1 wsX10_isDigit RX10 := ⟨hx, hb, hml, hown, hts, hK, hI, by rw [← hAe]; exact gA_ad, by rw [← hAe]; exact gA_sz, by rw [← hAe]; exact hZ⟩
  have G : gW D ad cy N A s.heap c0 c s.heap [] := ⟨hP, va_S.rf⟩
  generalize hQ : MQ below (va_Qi (fun (z : Int32) (_ : Unit) => z = rZ) (fun _ U => gE D ad cy N c0 c U) A) args s 0 0 A = Q
  suffices hgen : ∀ (H : Heap) (locs : List Loc), gW D ad cy N A s.heap c0 c H locs → W p l e rmX10_isDigit s m args below meth cod H locs 0 0 Q (F0 m 0 ls []) from hgen _ _ G
  clear G
  intro H locs G
  unfold m_X10_isDigit at h
  refine lv_iload_n hx hb dX10_isDigit_0 rfl (lv_at hl 0 rfl) ?_
  refine lv_bipush (v := 48) hx hb dX10_isDigit_1 (by decide) ?_
  refine lv_icmp_lt (tgt := 16) hx hb dX10_isDigit_3 (by decide) (fun q1 => ?_) (fun q1 => ?_)
  · replace h := gt_s q1 h
    refine lv_iconst (v := 0) hx hb dX10_isDigit_16 (by decide) ?_
    cases h
    rw [← hQ]
    exact gx_zret F G hr hlocks rfl dX10_isDigit_17
  · replace h := gf_s q1 h
    refine lv_iload_n hx hb dX10_isDigit_6 rfl (lv_at hl 0 rfl) ?_
    refine lv_bipush (v := 57) hx hb dX10_isDigit_7 (by decide) ?_
    refine lv_icmp_gt (tgt := 16) hx hb dX10_isDigit_9 (by decide) (fun q2 => ?_) (fun q2 => ?_)
    · replace h := gt_s q2 h
      refine lv_iconst (v := 0) hx hb dX10_isDigit_16 (by decide) ?_
      cases h
      rw [← hQ]
      exact gx_zret F G hr hlocks rfl dX10_isDigit_17
    · replace h := gf_s q2 h
      refine lv_iconst (v := 1) hx hb dX10_isDigit_12 (by decide) ?_
      refine lv_goto (tgt := 17) hx hb dX10_isDigit_13 (by decide) ?_
      cases h
      rw [← hQ]
      exact gx_zret F G hr hlocks rfl dX10_isDigit_17
def m_X10_isSmall (a1 : Int32) : Option (Int32) :=
  (if a1 < 97 then some 0 else (if 122 < a1 then some 0 else some 1))
abbrev rmX10_isSmall : Room := { frames := 0, cells := 0, slots := 0, locals := 0 }
set_option maxHeartbeats 4000000 in
set_option maxRecDepth 100000 in
theorem c_X10_isSmall (l : Launch) (sa : gSa) (D : va_G) (ad : Nat → Nat) (cy : Nat → ClassId) (N sz : Nat) (hN : 530 ≤ N) (hI : gI ad N) (c0 c : gm) {a1 : Int32} {rZ : Int32} (h : m_X10_isSmall a1 = some rZ) : Met l yX10_isSmall wsX10_isSmall rmX10_isSmall (va_Pc [.int a1] (gP sa D ad cy N sz c0 c)) (va_Qi (fun (z : Int32) (_ : Unit) => z = rZ) (fun _ U => gE D ad cy N c0 c U) (gA ad N sz)) 0 0 (gA ad N sz) := by
  refine Met.ofW (cc := cX10_isSmall) (maxL := 1) (ret := (some .boolean)) (by decide) rfl ?_
  intro p e s m args below meth cod s₁ B hml hv
  obtain ⟨rfl, hsz, hP, hK, hZ⟩ := hv
  have hx := B.exec
  have hb := B.bytes
  have hr := B.returns
  have hts := atoms_spec (ws := wsX10_isSmall) B.pre
  have hown : s.vm.findClass RX10 = some m.cls := findClass_of_methodNamed B.named
  have hlocks := B.notSynchronized
  subst hsz
  have hl := lv_entry ([.int a1]) (n := 1) (Nat.le_of_ble_eq_true rfl)
  rw [lg_entry_eq]
  generalize (lg_sl ([.int a1]) ++ List.replicate (1 - (lg_sl ([.int a1])).length) Slot.unset).toArray = ls at hl ⊢
  have hl : lv_has ls 1 [(0, .int a1)] := hl
  generalize hargs : ([.int a1] : List Value).toArray = args at *
  generalize hAe : gA ad N s.heap.size = A
  have F : gF sa D ad cy N A p s m args cod cX10_isSmall 1 wsX10_isSmall RX10 := ⟨hx, hb, hml, hown, hts, hK, hI, by rw [← hAe]; exact gA_ad, by rw [← hAe]; exact gA_sz, by rw [← hAe]; exact hZ⟩
  have G : gW D ad cy N A s.heap c0 c s.heap [] := ⟨hP, va_S.rf⟩
  generalize hQ : MQ below (va_Qi (fun (z : Int32) (_ : Unit) => z = rZ) (fun _ U => gE D ad cy N c0 c U) A) args s 0 0 A = Q
  suffices hgen : ∀ (H : Heap) (locs : List Loc), gW D ad cy N A s.heap c0 c H locs → W p l e rmX10_isSmall s m args below meth cod H locs 0 0 Q (F0 m 0 ls []) from hgen _ _ G
  clear G
  intro H locs G
  unfold m_X10_isSmall at h
  refine lv_iload_n hx hb dX10_isSmall_0 rfl (lv_at hl 0 rfl) ?_
  refine lv_bipush (v := 97) hx hb dX10_isSmall_1 (by decide) ?_
  refine lv_icmp_lt (tgt := 16) hx hb dX10_isSmall_3 (by decide) (fun q1 => ?_) (fun q1 => ?_)
  · replace h := gt_s q1 h
    refine lv_iconst (v := 0) hx hb dX10_isSmall_16 (by decide) ?_
    cases h
    rw [← hQ]
    exact gx_zret F G hr hlocks rfl dX10_isSmall_17
  · replace h := gf_s q1 h
    refine lv_iload_n hx hb dX10_isSmall_6 rfl (lv_at hl 0 rfl) ?_
    refine lv_bipush (v := 122) hx hb dX10_isSmall_7 (by decide) ?_
    refine lv_icmp_gt (tgt := 16) hx hb dX10_isSmall_9 (by decide) (fun q2 => ?_) (fun q2 => ?_)
    · replace h := gt_s q2 h
      refine lv_iconst (v := 0) hx hb dX10_isSmall_16 (by decide) ?_
      cases h
      rw [← hQ]
      exact gx_zret F G hr hlocks rfl dX10_isSmall_17
    · replace h := gf_s q2 h
      refine lv_iconst (v := 1) hx hb dX10_isSmall_12 (by decide) ?_
      refine lv_goto (tgt := 17) hx hb dX10_isSmall_13 (by decide) ?_
      cases h
      rw [← hQ]
      exact gx_zret F G hr hlocks rfl dX10_isSmall_17
def m_X10_number_L44 (t : Nat) (y15 : Int32) (c16 : gm) : Option ((Int32 × gm) ⊕ (Int32 × gm)) :=
  gb (m_X10_byteAt t (c16.1 t 4) c16) (fun (r29 : Int32) => gb (m_X10_isDigit r29) (fun (r31 : Int32) => (if r31 = 0 then some (.inr (y15, c16)) else gb (m_X10_byteAt t (c16.1 t 4) c16) (fun (r34 : Int32) => gv (((10 * y15) + r34) - 48) (fun (x35 : Int32) => gj (fun (v36 : Int32) => gv (gm_r c16 t (upd (c16.1 t) 4 ((c16.1 t 4) + 1))) (fun (c38 : gm) => some (.inl (v36, c38)))) (fun K37 => (if x35 ≤ 100000 then K37 x35 else K37 100000)))))))
def m_X10_number (n : Nat) (t : Nat) (a1 : Int32) (a2 : Int32) (c : gm) : Option (Int32 × gm) :=
  gc (gck t = 10) ((if (c.1 t 5) = 0 then gb (m_X10_blanks n t c) (fun (c6 : gm) => gv (c6.1 t 4) (fun (x7 : Int32) => gb (m_X10_byteAt t (c6.1 t 4) c6) (fun (r9 : Int32) => gb (m_X10_isDigit r9) (fun (r11 : Int32) => gj (fun (c12 : gm) => gb (gloop (gu2 (fun (y15 : Int32) (c16 : gm) => m_X10_number_L44 t y15 c16)) n (0, c12)) (gu2 (fun (z17 : Int32) (c18 : gm) => gb (m_X10_in z17 a1 a2) (fun (r20 : Int32) => gj (fun (c21 : gm) => (if (c21.1 t 5) = 0 then some (z17, c21) else some (0, c21))) (fun K22 => (if r20 = 0 then gb (m_X10_wrong t 2 x7 c18) (fun (c27 : gm) => K22 c27) else K22 c18)))))) (fun K13 => (if r11 = 0 then gb (m_X10_wrong t 1 (c6.1 t 4) c6) (fun (c43 : gm) => K13 c43) else K13 c6)))))) else some (0, c)))
abbrev rmX10_number : Room := { frames := 2, cells := 0, slots := 0, locals := 41 }
set_option maxHeartbeats 4000000 in
set_option maxRecDepth 100000 in
theorem c_X10_number (l : Launch) (sa : gSa) (D : va_G) (ad : Nat → Nat) (cy : Nat → ClassId) (N sz : Nat) (hN : 530 ≤ N) (hI : gI ad N) (c0 c : gm) {n : Nat} {t : Nat} {a1 : Int32} {a2 : Int32} {rZ : Int32} {cZ : gm} (h : m_X10_number n t a1 a2 c = some (rZ, cZ)) : Met l yX10_number wsX10_number rmX10_number (va_Pc [.ref (ad t), .int a1, .int a2] (gP sa D ad cy N sz c0 c)) (va_Qi (fun (z : Int32) (_ : Unit) => z = rZ) (fun _ U => gE D ad cy N c0 cZ U) (gA ad N sz)) 0 0 (gA ad N sz) := by
  refine Met.ofW (cc := cX10_number) (maxL := 5) (ret := (some .int)) (by decide) rfl ?_
  intro p e s m args below meth cod s₁ B hml hv
  obtain ⟨rfl, hsz, hP, hK, hZ⟩ := hv
  have hx := B.exec
  have hb := B.bytes
  have hr := B.returns
  have hts := atoms_spec (ws := wsX10_number) B.pre
  have hown : s.vm.findClass RX10 = some m.cls := findClass_of_methodNamed B.named
  have hlocks := B.notSynchronized
  subst hsz
  have hl := lv_entry ([.ref (ad t), .int a1, .int a2]) (n := 5) (Nat.le_of_ble_eq_true rfl)
  rw [lg_entry_eq]
  generalize (lg_sl ([.ref (ad t), .int a1, .int a2]) ++ List.replicate (5 - (lg_sl ([.ref (ad t), .int a1, .int a2])).length) Slot.unset).toArray = ls at hl ⊢
  have hl : lv_has ls 5 [(0, .ref (ad t)), (1, .int a1), (2, .int a2)] := hl
  have in10 : ∀ w ∈ wsX100, w ∈ wsX10_number := by decide +kernel
  generalize hargs : ([.ref (ad t), .int a1, .int a2] : List Value).toArray = args at *
  generalize hAe : gA ad N s.heap.size = A
  have F : gF sa D ad cy N A p s m args cod cX10_number 5 wsX10_number RX10 := ⟨hx, hb, hml, hown, hts, hK, hI, by rw [← hAe]; exact gA_ad, by rw [← hAe]; exact gA_sz, by rw [← hAe]; exact hZ⟩
  have G : gW D ad cy N A s.heap c0 c s.heap [] := ⟨hP, va_S.rf⟩
  generalize hQ : MQ below (va_Qi (fun (z : Int32) (_ : Unit) => z = rZ) (fun _ U => gE D ad cy N c0 cZ U) A) args s 0 0 A = Q
  suffices hgen : ∀ (H : Heap) (locs : List Loc), gW D ad cy N A s.heap c0 c H locs → W p l e rmX10_number s m args below meth cod H locs 0 0 Q (F0 m 0 ls []) from hgen _ _ G
  clear G
  intro H locs G
  unfold m_X10_number at h
  refine lv_aload_n hx hb dX10_number_0 rfl (lv_at hl 0 rfl) ?_
  obtain ⟨hk1, h⟩ := gc_s h
  have ht2 : t < N := Nat.lt_of_lt_of_le (gck_lt10 hk1) hN
  refine fg_10_fault F G hk1 ht2 in10 (by decide +kernel) dX10_number_1 ?_
  refine lv_if_eq (tgt := 9) hx hb dX10_number_4 (by decide) (fun q3 => ?_) (fun q3 => ?_)
  · replace h := gt_s q3 h
    refine lv_aload_n hx hb dX10_number_9 rfl (lv_at hl 0 rfl) ?_
    obtain ⟨c6, hc4, h⟩ := gb_s h
    refine gx_callv F G (va_runV (As := []) (rest := []) (gx_fix F) (c_X10_blanks l sa D ad cy N H.size hN hI c0 c hc4) (cwV 0 hts gX10_number_X10_blanks rfl rfl rfl (by decide +kernel) ⟨by decide, by decide⟩) (gx_rec F G ht2 (gwe_10 hk1) rfl) rfl rfl hl.1 rfl (lv_room (Nat.le_of_ble_eq_true rfl)) dX10_number_10 ⟨Nat.zero_le _, Nat.zero_le _⟩) (fun H locs G => ?_)
    refine lv_aload_n hx hb dX10_number_13 rfl (lv_at hl 0 rfl) ?_
    refine fg_10_at F G hk1 ht2 in10 (by decide +kernel) dX10_number_14 ?_
    refine lv_topi (fun x7 ex7 => ?_)
    replace h := gv_s h x7 ex7
    refine lv_istore_n (lv' := [(3, .int x7), (0, .ref (ad t)), (1, .int a1), (2, .int a2)]) hx hb dX10_number_17 rfl hl (by decide) rfl (fun ls hl => ?_)
    refine lv_iconst (v := 0) hx hb dX10_number_18 (by decide) ?_
    refine lv_istore (lv' := [(4, .int 0), (3, .int x7), (0, .ref (ad t)), (1, .int a1), (2, .int a2)]) hx hb dX10_number_19 hl (by decide) rfl (fun ls hl => ?_)
    refine lv_aload_n hx hb dX10_number_21 rfl (lv_at hl 2 rfl) ?_
    refine lv_aload_n hx hb dX10_number_22 rfl (lv_at hl 2 rfl) ?_
    refine fg_10_at F G hk1 ht2 in10 (by decide +kernel) dX10_number_23 ?_
    obtain ⟨r9, hc8, h⟩ := gb_s h
    refine gx_calli F G (va_runV (As := [.int (c6.1 t 4)]) (rest := []) (gx_fix F) (c_X10_byteAt l sa D ad cy N H.size hN hI c0 c6 hc8) (cwV 1 hts gX10_number_X10_byteAt rfl rfl rfl (by decide +kernel) ⟨by decide, by decide⟩) (gx_rec F G ht2 (gwe_10 hk1) rfl) rfl rfl hl.1 rfl (lv_room (Nat.le_of_ble_eq_true rfl)) dX10_number_26 ⟨Nat.zero_le _, Nat.zero_le _⟩) (fun H locs G => ?_)
    obtain ⟨r11, hc10, h⟩ := gb_s h
    refine gx_calli F G (va_runS (As := [.int r9]) (rest := []) (gx_fix F) (c_X10_isDigit l sa D ad cy N H.size hN hI c0 c6 hc10) (va_cwS 1 hts gX10_number_X10_isDigit rfl rfl rfl (by decide +kernel) ⟨by decide, by decide⟩) (gx_pre F G) rfl rfl hl.1 rfl (lv_room (Nat.le_of_ble_eq_true rfl)) dX10_number_29 ⟨Nat.zero_le _, Nat.zero_le _⟩) (fun H locs G => ?_)
    obtain ⟨K13, eK13, h⟩ := gj_s h
    have JK13 : ∀ (c12 : gm) (H : Heap) (locs : List Loc) (ls : Array Slot), K13 c12 = some (rZ, cZ) → gW D ad cy N A s.heap c0 c12 H locs → lv_has ls 5 [(0, .ref (ad t)), (1, .int a1), (2, .int a2), (3, .int x7), (4, .int 0)] → W p l e rmX10_number s m args below meth cod H locs 0 0 Q (F0 m 44 ls []) := by
      intro c12 H locs ls h G hl
      rw [eK13] at h
      obtain ⟨b14, hb14, hK14⟩ := gb_s h
      have E14 : ∀ (z17 : Int32) (c18 : gm) (H : Heap) (locs : List Loc) (ls : Array Slot), ((z17, c18) : Int32 × gm) = b14 → gW D ad cy N A s.heap c0 c18 H locs → lv_has ls 5 [(0, .ref (ad t)), (1, .int a1), (2, .int a2), (3, .int x7), (4, .int z17)] → W p l e rmX10_number s m args below meth cod H locs 0 0 Q (F0 m 106 ls []) := by
        intro z17 c18 H locs ls hq14 G hl
        subst hq14
        replace hK14 := hK14
        replace hK14 := gu2_s hK14
        have h := hK14
        refine lv_iload hx hb dX10_number_106 (lv_at hl 4 rfl) ?_
        refine lv_iload_n hx hb dX10_number_108 rfl (lv_at hl 1 rfl) ?_
        refine lv_iload_n hx hb dX10_number_109 rfl (lv_at hl 2 rfl) ?_
        obtain ⟨r20, hc19, h⟩ := gb_s h
        refine gx_calli F G (va_runS (As := [.int z17, .int a1, .int a2]) (rest := []) (gx_fix F) (c_X10_in l sa D ad cy N H.size hN hI c0 c18 hc19) (va_cwS 3 hts gX10_number_X10_in rfl rfl rfl (by decide +kernel) ⟨by decide, by decide⟩) (gx_pre F G) rfl rfl hl.1 rfl (lv_room (Nat.le_of_ble_eq_true rfl)) dX10_number_110 ⟨Nat.zero_le _, Nat.zero_le _⟩) (fun H locs G => ?_)
        obtain ⟨K22, eK22, h⟩ := gj_s h
        have JK22 : ∀ (c21 : gm) (H : Heap) (locs : List Loc) (ls : Array Slot), K22 c21 = some (rZ, cZ) → gW D ad cy N A s.heap c0 c21 H locs → lv_has ls 5 [(0, .ref (ad t)), (4, .int z17)] → W p l e rmX10_number s m args below meth cod H locs 0 0 Q (F0 m 122 ls []) := by
          intro c21 H locs ls h G hl
          rw [eK22] at h
          refine lv_aload_n hx hb dX10_number_122 rfl (lv_at hl 0 rfl) ?_
          refine fg_10_fault F G hk1 ht2 in10 (by decide +kernel) dX10_number_123 ?_
          refine lv_if_ne (tgt := 134) hx hb dX10_number_126 (by decide) (fun q23 => ?_) (fun q23 => ?_)
          · replace h := gf_s q23 h
            refine lv_iconst (v := 0) hx hb dX10_number_134 (by decide) ?_
            cases h
            rw [← hQ]
            exact gx_iret F G hr hlocks dX10_number_135
          · replace h := gt_s q23 h
            refine lv_iload hx hb dX10_number_129 (lv_at hl 1 rfl) ?_
            refine lv_goto (tgt := 135) hx hb dX10_number_131 (by decide) ?_
            cases h
            rw [← hQ]
            exact gx_iret F G hr hlocks dX10_number_135
        refine lv_if_ne (tgt := 122) hx hb dX10_number_113 (by decide) (fun q24 => ?_) (fun q24 => ?_)
        · replace h := gf_s q24 h
          exact JK22 _ _ _ _ h G (lv_sub hl [0, 4] rfl)
        · replace h := gt_s q24 h
          refine lv_aload_n hx hb dX10_number_116 rfl (lv_at hl 0 rfl) ?_
          refine lv_iconst (v := 2) hx hb dX10_number_117 (by decide) ?_
          refine lv_iload_n hx hb dX10_number_118 rfl (lv_at hl 3 rfl) ?_
          obtain ⟨c27, hc25, h⟩ := gb_s h
          refine gx_callv F G (va_runV (As := [.int 2, .int x7]) (rest := []) (gx_fix F) (c_X10_wrong l sa D ad cy N H.size hN hI c0 c18 hc25) (cwV 2 hts gX10_number_X10_wrong rfl rfl rfl (by decide +kernel) ⟨by decide, by decide⟩) (gx_rec F G ht2 (gwe_10 hk1) rfl) rfl rfl hl.1 rfl (lv_room (Nat.le_of_ble_eq_true rfl)) dX10_number_119 ⟨Nat.zero_le _, Nat.zero_le _⟩) (fun H locs G => ?_)
          exact JK22 _ _ _ _ h G (lv_sub hl [0, 4] rfl)
      have L14 : ∀ (n9 : Nat) (y15 : Int32) (c16 : gm) (H : Heap) (locs : List Loc) (ls : Array Slot), gloop (gu2 (fun (y15 : Int32) (c16 : gm) => m_X10_number_L44 t y15 c16)) n9 (y15, c16) = some b14 → gW D ad cy N A s.heap c0 c16 H locs → lv_has ls 5 [(0, .ref (ad t)), (1, .int a1), (2, .int a2), (3, .int x7), (4, .int y15)] → W p l e rmX10_number s m args below meth cod H locs 0 0 Q (F0 m 44 ls []) := by
        intro n9
        induction n9 with
        | zero => intro y15 c16 H locs ls h; exact (gloop_0 h).elim
        | succ n9 ih =>
          intro y15 c16 H locs ls h G hl
          have ih14 := ih
          obtain ⟨o14, h, hn14⟩ := gloop_s h
          replace h := gu2_s h
          unfold m_X10_number_L44 at h
          refine lv_aload_n hx hb dX10_number_44 rfl (lv_at hl 0 rfl) ?_
          refine lv_aload_n hx hb dX10_number_45 rfl (lv_at hl 0 rfl) ?_
          refine fg_10_at F G hk1 ht2 in10 (by decide +kernel) dX10_number_46 ?_
          obtain ⟨r29, hc28, h⟩ := gb_s h
          refine gx_calli F G (va_runV (As := [.int (c16.1 t 4)]) (rest := []) (gx_fix F) (c_X10_byteAt l sa D ad cy N H.size hN hI c0 c16 hc28) (cwV 1 hts gX10_number_X10_byteAt rfl rfl rfl (by decide +kernel) ⟨by decide, by decide⟩) (gx_rec F G ht2 (gwe_10 hk1) rfl) rfl rfl hl.1 rfl (lv_room (Nat.le_of_ble_eq_true rfl)) dX10_number_49 ⟨Nat.zero_le _, Nat.zero_le _⟩) (fun H locs G => ?_)
          obtain ⟨r31, hc30, h⟩ := gb_s h
          refine gx_calli F G (va_runS (As := [.int r29]) (rest := []) (gx_fix F) (c_X10_isDigit l sa D ad cy N H.size hN hI c0 c16 hc30) (va_cwS 1 hts gX10_number_X10_isDigit rfl rfl rfl (by decide +kernel) ⟨by decide, by decide⟩) (gx_pre F G) rfl rfl hl.1 rfl (lv_room (Nat.le_of_ble_eq_true rfl)) dX10_number_52 ⟨Nat.zero_le _, Nat.zero_le _⟩) (fun H locs G => ?_)
          refine lv_if_eq (tgt := 106) hx hb dX10_number_55 (by decide) (fun q32 => ?_) (fun q32 => ?_)
          · replace h := gt_s q32 h
            cases h
            exact E14 _ _ _ _ _ (gnx_r hn14) G hl
          · replace h := gf_s q32 h
            refine lv_bipush (v := 10) hx hb dX10_number_58 (by decide) ?_
            refine lv_iload hx hb dX10_number_60 (lv_at hl 4 rfl) ?_
            refine lv_imul hx hb dX10_number_62 ?_
            refine lv_aload_n hx hb dX10_number_63 rfl (lv_at hl 0 rfl) ?_
            refine lv_aload_n hx hb dX10_number_64 rfl (lv_at hl 0 rfl) ?_
            refine fg_10_at F G hk1 ht2 in10 (by decide +kernel) dX10_number_65 ?_
            obtain ⟨r34, hc33, h⟩ := gb_s h
            refine gx_calli F G (va_runV (As := [.int (c16.1 t 4)]) (rest := [.int (10 * y15)]) (gx_fix F) (c_X10_byteAt l sa D ad cy N H.size hN hI c0 c16 hc33) (cwV 1 hts gX10_number_X10_byteAt rfl rfl rfl (by decide +kernel) ⟨by decide, by decide⟩) (gx_rec F G ht2 (gwe_10 hk1) rfl) rfl rfl hl.1 rfl (lv_room (Nat.le_of_ble_eq_true rfl)) dX10_number_68 ⟨Nat.zero_le _, Nat.zero_le _⟩) (fun H locs G => ?_)
            refine lv_iadd hx hb dX10_number_71 ?_
            refine lv_bipush (v := 48) hx hb dX10_number_72 (by decide) ?_
            refine lv_isub hx hb dX10_number_74 ?_
            refine lv_topi (fun x35 ex35 => ?_)
            replace h := gv_s h x35 ex35
            refine lv_istore (lv' := [(4, .int x35), (0, .ref (ad t)), (1, .int a1), (2, .int a2), (3, .int x7)]) hx hb dX10_number_75 hl (by decide) rfl (fun ls hl => ?_)
            refine lv_iload hx hb dX10_number_77 (lv_at hl 0 rfl) ?_
            refine lv_ldc (v := 100000) hx hb hown (hts (.constant RX10 125 (100000)) (by decide +kernel)) dX10_number_79 ?_
            obtain ⟨K37, eK37, h⟩ := gj_s h
            have JK37 : ∀ (v36 : Int32) (H : Heap) (locs : List Loc) (ls : Array Slot), K37 v36 = some o14 → gW D ad cy N A s.heap c0 c16 H locs → lv_has ls 5 [(0, .ref (ad t)), (1, .int a1), (2, .int a2), (3, .int x7)] → W p l e rmX10_number s m args below meth cod H locs 0 0 Q (F0 m 91 ls [.int v36]) := by
              intro v36 H locs ls h G hl
              rw [eK37] at h
              refine lv_istore (lv' := [(4, .int v36), (0, .ref (ad t)), (1, .int a1), (2, .int a2), (3, .int x7)]) hx hb dX10_number_91 hl (by decide) rfl (fun ls hl => ?_)
              refine lv_aload_n hx hb dX10_number_93 rfl (lv_at hl 1 rfl) ?_
              refine lv_dup hx hb dX10_number_94 rfl ?_
              refine fg_10_at F G hk1 ht2 in10 (by decide +kernel) dX10_number_95 ?_
              refine lv_iconst (v := 1) hx hb dX10_number_98 (by decide) ?_
              refine lv_iadd hx hb dX10_number_99 ?_
              refine fp_10_at F G hk1 ht2 in10 (by decide +kernel) dX10_number_100 (fun H locs G => ?_)
              obtain ⟨c38, ec38⟩ : ∃ z, z = gm_r c16 t (upd (c16.1 t) 4 ((c16.1 t 4) + 1)) := ⟨_, rfl⟩
              rw [← ec38] at G
              replace h := gv_s h c38 ec38
              refine lv_goto (tgt := 44) hx hb dX10_number_103 (by decide) ?_
              cases h
              exact ih14 _ _ _ _ _ hn14 G (lv_sub hl [1, 2, 3, 4, 0] rfl)
            refine lv_icmp_le (tgt := 89) hx hb dX10_number_81 (by decide) (fun q39 => ?_) (fun q39 => ?_)
            · replace h := gt_s q39 h
              refine lv_iload hx hb dX10_number_89 (lv_at hl 0 rfl) ?_
              exact JK37 _ _ _ _ h G (lv_sub hl [1, 2, 3, 4] rfl)
            · replace h := gf_s q39 h
              refine lv_ldc (v := 100000) hx hb hown (hts (.constant RX10 125 (100000)) (by decide +kernel)) dX10_number_84 ?_
              refine lv_goto (tgt := 91) hx hb dX10_number_86 (by decide) ?_
              exact JK37 _ _ _ _ h G (lv_sub hl [1, 2, 3, 4] rfl)
      exact L14 n _ _ _ _ _ hb14 G hl
    refine lv_if_ne (tgt := 44) hx hb dX10_number_32 (by decide) (fun q40 => ?_) (fun q40 => ?_)
    · replace h := gf_s q40 h
      exact JK13 _ _ _ _ h G (lv_sub hl [2, 3, 4, 1, 0] rfl)
    · replace h := gt_s q40 h
      refine lv_aload_n hx hb dX10_number_35 rfl (lv_at hl 2 rfl) ?_
      refine lv_iconst (v := 1) hx hb dX10_number_36 (by decide) ?_
      refine lv_aload_n hx hb dX10_number_37 rfl (lv_at hl 2 rfl) ?_
      refine fg_10_at F G hk1 ht2 in10 (by decide +kernel) dX10_number_38 ?_
      obtain ⟨c43, hc41, h⟩ := gb_s h
      refine gx_callv F G (va_runV (As := [.int 1, .int (c6.1 t 4)]) (rest := []) (gx_fix F) (c_X10_wrong l sa D ad cy N H.size hN hI c0 c6 hc41) (cwV 2 hts gX10_number_X10_wrong rfl rfl rfl (by decide +kernel) ⟨by decide, by decide⟩) (gx_rec F G ht2 (gwe_10 hk1) rfl) rfl rfl hl.1 rfl (lv_room (Nat.le_of_ble_eq_true rfl)) dX10_number_41 ⟨Nat.zero_le _, Nat.zero_le _⟩) (fun H locs G => ?_)
      exact JK13 _ _ _ _ h G (lv_sub hl [2, 3, 4, 1, 0] rfl)
  · replace h := gf_s q3 h
    refine lv_iconst (v := 0) hx hb dX10_number_7 (by decide) ?_
    cases h
    rw [← hQ]
    exact gx_iret F G hr hlocks dX10_number_8
def m_X10_wordHere_L8 (t : Nat) (c5 : gm) (y7 : Int32) (y8 : Int32) : Option ((Int32 × Int32) ⊕ (Int32 × Int32)) :=
  gb (m_X10_byteAt t ((c5.1 t 4) + y8) c5) (fun (r13 : Int32) => gb (m_X10_isSmall r13) (fun (r15 : Int32) => (if r15 = 0 then some (.inr (y7, y8)) else gj (fun (v17 : Int32) => gv (y8 + 1) (fun (x19 : Int32) => some (.inl (v17, x19)))) (fun K18 => (if 6 ≤ y8 then K18 y7 else gb (m_X10_byteAt t ((c5.1 t 4) + y8) c5) (fun (r22 : Int32) => K18 ((((27 * y7) + r22) - 97) + 1)))))))
def m_X10_wordHere (n : Nat) (t : Nat) (c : gm) : Option (Int32 × gm) :=
  gc (gck t = 10) (gb (m_X10_blanks n t c) (fun (c5 : gm) => gb (gloop (gu2 (fun (y7 : Int32) (y8 : Int32) => m_X10_wordHere_L8 t c5 y7 y8)) n (0, 0)) (gu2 (fun (z9 : Int32) (z10 : Int32) => (if z10 ≤ 6 then some (z9, c5) else some ((-1), c5))))))
abbrev rmX10_wordHere : Room := { frames := 2, cells := 0, slots := 0, locals := 41 }
set_option maxHeartbeats 4000000 in
set_option maxRecDepth 100000 in
theorem c_X10_wordHere (l : Launch) (sa : gSa) (D : va_G) (ad : Nat → Nat) (cy : Nat → ClassId) (N sz : Nat) (hN : 530 ≤ N) (hI : gI ad N) (c0 c : gm) {n : Nat} {t : Nat} {rZ : Int32} {cZ : gm} (h : m_X10_wordHere n t c = some (rZ, cZ)) : Met l yX10_wordHere wsX10_wordHere rmX10_wordHere (va_Pc [.ref (ad t)] (gP sa D ad cy N sz c0 c)) (va_Qi (fun (z : Int32) (_ : Unit) => z = rZ) (fun _ U => gE D ad cy N c0 cZ U) (gA ad N sz)) 0 0 (gA ad N sz) := by
  refine Met.ofW (cc := cX10_wordHere) (maxL := 3) (ret := (some .int)) (by decide) rfl ?_
  intro p e s m args below meth cod s₁ B hml hv
  obtain ⟨rfl, hsz, hP, hK, hZ⟩ := hv
  have hx := B.exec
  have hb := B.bytes
  have hr := B.returns
  have hts := atoms_spec (ws := wsX10_wordHere) B.pre
  have hown : s.vm.findClass RX10 = some m.cls := findClass_of_methodNamed B.named
  have hlocks := B.notSynchronized
  subst hsz
  have hl := lv_entry ([.ref (ad t)]) (n := 3) (Nat.le_of_ble_eq_true rfl)
  rw [lg_entry_eq]
  generalize (lg_sl ([.ref (ad t)]) ++ List.replicate (3 - (lg_sl ([.ref (ad t)])).length) Slot.unset).toArray = ls at hl ⊢
  have hl : lv_has ls 3 [(0, .ref (ad t))] := hl
  have in10 : ∀ w ∈ wsX100, w ∈ wsX10_wordHere := by decide +kernel
  generalize hargs : ([.ref (ad t)] : List Value).toArray = args at *
  generalize hAe : gA ad N s.heap.size = A
  have F : gF sa D ad cy N A p s m args cod cX10_wordHere 3 wsX10_wordHere RX10 := ⟨hx, hb, hml, hown, hts, hK, hI, by rw [← hAe]; exact gA_ad, by rw [← hAe]; exact gA_sz, by rw [← hAe]; exact hZ⟩
  have G : gW D ad cy N A s.heap c0 c s.heap [] := ⟨hP, va_S.rf⟩
  generalize hQ : MQ below (va_Qi (fun (z : Int32) (_ : Unit) => z = rZ) (fun _ U => gE D ad cy N c0 cZ U) A) args s 0 0 A = Q
  suffices hgen : ∀ (H : Heap) (locs : List Loc), gW D ad cy N A s.heap c0 c H locs → W p l e rmX10_wordHere s m args below meth cod H locs 0 0 Q (F0 m 0 ls []) from hgen _ _ G
  clear G
  intro H locs G
  unfold m_X10_wordHere at h
  refine lv_aload_n hx hb dX10_wordHere_0 rfl (lv_at hl 0 rfl) ?_
  obtain ⟨hk1, h⟩ := gc_s h
  have ht2 : t < N := Nat.lt_of_lt_of_le (gck_lt10 hk1) hN
  obtain ⟨c5, hc3, h⟩ := gb_s h
  refine gx_callv F G (va_runV (As := []) (rest := []) (gx_fix F) (c_X10_blanks l sa D ad cy N H.size hN hI c0 c hc3) (cwV 0 hts gX10_wordHere_X10_blanks rfl rfl rfl (by decide +kernel) ⟨by decide, by decide⟩) (gx_rec F G ht2 (gwe_10 hk1) rfl) rfl rfl hl.1 rfl (lv_room (Nat.le_of_ble_eq_true rfl)) dX10_wordHere_1 ⟨Nat.zero_le _, Nat.zero_le _⟩) (fun H locs G => ?_)
  refine lv_iconst (v := 0) hx hb dX10_wordHere_4 (by decide) ?_
  refine lv_istore_n (lv' := [(1, .int 0), (0, .ref (ad t))]) hx hb dX10_wordHere_5 rfl hl (by decide) rfl (fun ls hl => ?_)
  refine lv_iconst (v := 0) hx hb dX10_wordHere_6 (by decide) ?_
  refine lv_istore_n (lv' := [(2, .int 0), (1, .int 0), (0, .ref (ad t))]) hx hb dX10_wordHere_7 rfl hl (by decide) rfl (fun ls hl => ?_)
  obtain ⟨b6, hb6, hK6⟩ := gb_s h
  have E6 : ∀ (z9 : Int32) (z10 : Int32) (H : Heap) (locs : List Loc) (ls : Array Slot), ((z9, z10) : Int32 × Int32) = b6 → gW D ad cy N A s.heap c0 c5 H locs → lv_has ls 3 [(1, .int z9), (2, .int z10)] → W p l e rmX10_wordHere s m args below meth cod H locs 0 0 Q (F0 m 61 ls []) := by
    intro z9 z10 H locs ls hq6 G hl
    subst hq6
    replace hK6 := hK6
    replace hK6 := gu2_s hK6
    have h := hK6
    refine lv_iload_n hx hb dX10_wordHere_61 rfl (lv_at hl 1 rfl) ?_
    refine lv_bipush (v := 6) hx hb dX10_wordHere_62 (by decide) ?_
    refine lv_icmp_le (tgt := 71) hx hb dX10_wordHere_64 (by decide) (fun q11 => ?_) (fun q11 => ?_)
    · replace h := gt_s q11 h
      refine lv_iload_n hx hb dX10_wordHere_71 rfl (lv_at hl 0 rfl) ?_
      cases h
      rw [← hQ]
      exact gx_iret F G hr hlocks dX10_wordHere_72
    · replace h := gf_s q11 h
      refine lv_iconst (v := (-1)) hx hb dX10_wordHere_67 (by decide) ?_
      refine lv_goto (tgt := 72) hx hb dX10_wordHere_68 (by decide) ?_
      cases h
      rw [← hQ]
      exact gx_iret F G hr hlocks dX10_wordHere_72
  have L6 : ∀ (n9 : Nat) (y7 : Int32) (y8 : Int32) (H : Heap) (locs : List Loc) (ls : Array Slot), gloop (gu2 (fun (y7 : Int32) (y8 : Int32) => m_X10_wordHere_L8 t c5 y7 y8)) n9 (y7, y8) = some b6 → gW D ad cy N A s.heap c0 c5 H locs → lv_has ls 3 [(0, .ref (ad t)), (1, .int y7), (2, .int y8)] → W p l e rmX10_wordHere s m args below meth cod H locs 0 0 Q (F0 m 8 ls []) := by
    intro n9
    induction n9 with
    | zero => intro y7 y8 H locs ls h; exact (gloop_0 h).elim
    | succ n9 ih =>
      intro y7 y8 H locs ls h G hl
      have ih6 := ih
      obtain ⟨o6, h, hn6⟩ := gloop_s h
      replace h := gu2_s h
      unfold m_X10_wordHere_L8 at h
      refine lv_aload_n hx hb dX10_wordHere_8 rfl (lv_at hl 0 rfl) ?_
      refine lv_aload_n hx hb dX10_wordHere_9 rfl (lv_at hl 0 rfl) ?_
      refine fg_10_at F G hk1 ht2 in10 (by decide +kernel) dX10_wordHere_10 ?_
      refine lv_iload_n hx hb dX10_wordHere_13 rfl (lv_at hl 2 rfl) ?_
      refine lv_iadd hx hb dX10_wordHere_14 ?_
      obtain ⟨r13, hc12, h⟩ := gb_s h
      refine gx_calli F G (va_runV (As := [.int ((c5.1 t 4) + y8)]) (rest := []) (gx_fix F) (c_X10_byteAt l sa D ad cy N H.size hN hI c0 c5 hc12) (cwV 1 hts gX10_wordHere_X10_byteAt rfl rfl rfl (by decide +kernel) ⟨by decide, by decide⟩) (gx_rec F G ht2 (gwe_10 hk1) rfl) rfl rfl hl.1 rfl (lv_room (Nat.le_of_ble_eq_true rfl)) dX10_wordHere_15 ⟨Nat.zero_le _, Nat.zero_le _⟩) (fun H locs G => ?_)
      obtain ⟨r15, hc14, h⟩ := gb_s h
      refine gx_calli F G (va_runS (As := [.int r13]) (rest := []) (gx_fix F) (c_X10_isSmall l sa D ad cy N H.size hN hI c0 c5 hc14) (va_cwS 1 hts gX10_wordHere_X10_isSmall rfl rfl rfl (by decide +kernel) ⟨by decide, by decide⟩) (gx_pre F G) rfl rfl hl.1 rfl (lv_room (Nat.le_of_ble_eq_true rfl)) dX10_wordHere_18 ⟨Nat.zero_le _, Nat.zero_le _⟩) (fun H locs G => ?_)
      refine lv_if_eq (tgt := 61) hx hb dX10_wordHere_21 (by decide) (fun q16 => ?_) (fun q16 => ?_)
      · replace h := gt_s q16 h
        cases h
        exact E6 _ _ _ _ _ (gnx_r hn6) G (lv_sub hl [1, 2] rfl)
      · replace h := gf_s q16 h
        refine lv_iload_n hx hb dX10_wordHere_24 rfl (lv_at hl 2 rfl) ?_
        refine lv_bipush (v := 6) hx hb dX10_wordHere_25 (by decide) ?_
        obtain ⟨K18, eK18, h⟩ := gj_s h
        have JK18 : ∀ (v17 : Int32) (H : Heap) (locs : List Loc) (ls : Array Slot), K18 v17 = some o6 → gW D ad cy N A s.heap c0 c5 H locs → lv_has ls 3 [(0, .ref (ad t)), (2, .int y8)] → W p l e rmX10_wordHere s m args below meth cod H locs 0 0 Q (F0 m 54 ls [.int v17]) := by
          intro v17 H locs ls h G hl
          rw [eK18] at h
          refine lv_istore_n (lv' := [(1, .int v17), (0, .ref (ad t)), (2, .int y8)]) hx hb dX10_wordHere_54 rfl hl (by decide) rfl (fun ls hl => ?_)
          obtain ⟨x19, ex19⟩ : ∃ z : Int32, z = y8 + 1 := ⟨_, rfl⟩
          replace h := gv_s h x19 ex19
          refine lv_iinc (v := x19) (lv' := [(2, .int x19), (1, .int v17), (0, .ref (ad t))]) hx hb dX10_wordHere_55 hl (k := 2) rfl (by rw [ex19]; rfl) (by decide) rfl (fun ls hl => ?_)
          refine lv_goto (tgt := 8) hx hb dX10_wordHere_58 (by decide) ?_
          cases h
          exact ih6 _ _ _ _ _ hn6 G (lv_sub hl [2, 1, 0] rfl)
        refine lv_icmp_ge (tgt := 53) hx hb dX10_wordHere_27 (by decide) (fun q20 => ?_) (fun q20 => ?_)
        · replace h := gt_s q20 h
          refine lv_iload_n hx hb dX10_wordHere_53 rfl (lv_at hl 1 rfl) ?_
          exact JK18 _ _ _ _ h G (lv_sub hl [0, 2] rfl)
        · replace h := gf_s q20 h
          refine lv_bipush (v := 27) hx hb dX10_wordHere_30 (by decide) ?_
          refine lv_iload_n hx hb dX10_wordHere_32 rfl (lv_at hl 1 rfl) ?_
          refine lv_imul hx hb dX10_wordHere_33 ?_
          refine lv_aload_n hx hb dX10_wordHere_34 rfl (lv_at hl 0 rfl) ?_
          refine lv_aload_n hx hb dX10_wordHere_35 rfl (lv_at hl 0 rfl) ?_
          refine fg_10_at F G hk1 ht2 in10 (by decide +kernel) dX10_wordHere_36 ?_
          refine lv_iload_n hx hb dX10_wordHere_39 rfl (lv_at hl 2 rfl) ?_
          refine lv_iadd hx hb dX10_wordHere_40 ?_
          obtain ⟨r22, hc21, h⟩ := gb_s h
          refine gx_calli F G (va_runV (As := [.int ((c5.1 t 4) + y8)]) (rest := [.int (27 * y7)]) (gx_fix F) (c_X10_byteAt l sa D ad cy N H.size hN hI c0 c5 hc21) (cwV 1 hts gX10_wordHere_X10_byteAt rfl rfl rfl (by decide +kernel) ⟨by decide, by decide⟩) (gx_rec F G ht2 (gwe_10 hk1) rfl) rfl rfl hl.1 rfl (lv_room (Nat.le_of_ble_eq_true rfl)) dX10_wordHere_41 ⟨Nat.zero_le _, Nat.zero_le _⟩) (fun H locs G => ?_)
          refine lv_iadd hx hb dX10_wordHere_44 ?_
          refine lv_bipush (v := 97) hx hb dX10_wordHere_45 (by decide) ?_
          refine lv_isub hx hb dX10_wordHere_47 ?_
          refine lv_iconst (v := 1) hx hb dX10_wordHere_48 (by decide) ?_
          refine lv_iadd hx hb dX10_wordHere_49 ?_
          refine lv_goto (tgt := 54) hx hb dX10_wordHere_50 (by decide) ?_
          exact JK18 _ _ _ _ h G (lv_sub hl [0, 2] rfl)
  exact L6 n _ _ _ _ _ hb6 G (lv_sub hl [2, 1, 0] rfl)
def m_X10_six (a1 : Int32) (a2 : Int32) (a3 : Int32) (a4 : Int32) (a5 : Int32) (a6 : Int32) : Option (Int32) :=
  gv ((27 * ((27 * a1) + a2)) + a3) (fun (x1 : Int32) => gj (fun (v2 : Int32) => gj (fun (v4 : Int32) => (if a6 = 0 then some v4 else some ((27 * v4) + a6))) (fun K5 => (if a5 = 0 then K5 v2 else K5 ((27 * v2) + a5)))) (fun K3 => (if a4 = 0 then K3 x1 else K3 ((27 * x1) + a4))))
abbrev rmX10_six : Room := { frames := 0, cells := 0, slots := 0, locals := 0 }
set_option maxHeartbeats 4000000 in
set_option maxRecDepth 100000 in
theorem c_X10_six (l : Launch) (sa : gSa) (D : va_G) (ad : Nat → Nat) (cy : Nat → ClassId) (N sz : Nat) (hN : 530 ≤ N) (hI : gI ad N) (c0 c : gm) {a1 : Int32} {a2 : Int32} {a3 : Int32} {a4 : Int32} {a5 : Int32} {a6 : Int32} {rZ : Int32} (h : m_X10_six a1 a2 a3 a4 a5 a6 = some rZ) : Met l yX10_six wsX10_six rmX10_six (va_Pc [.int a1, .int a2, .int a3, .int a4, .int a5, .int a6] (gP sa D ad cy N sz c0 c)) (va_Qi (fun (z : Int32) (_ : Unit) => z = rZ) (fun _ U => gE D ad cy N c0 c U) (gA ad N sz)) 0 0 (gA ad N sz) := by
  refine Met.ofW (cc := cX10_six) (maxL := 7) (ret := (some .int)) (by decide) rfl ?_
  intro p e s m args below meth cod s₁ B hml hv
  obtain ⟨rfl, hsz, hP, hK, hZ⟩ := hv
  have hx := B.exec
  have hb := B.bytes
  have hr := B.returns
  have hts := atoms_spec (ws := wsX10_six) B.pre
  have hown : s.vm.findClass RX10 = some m.cls := findClass_of_methodNamed B.named
  have hlocks := B.notSynchronized
  subst hsz
  have hl := lv_entry ([.int a1, .int a2, .int a3, .int a4, .int a5, .int a6]) (n := 7) (Nat.le_of_ble_eq_true rfl)
  rw [lg_entry_eq]
  generalize (lg_sl ([.int a1, .int a2, .int a3, .int a4, .int a5, .int a6]) ++ List.replicate (7 - (lg_sl ([.int a1, .int a2, .int a3, .int a4, .int a5, .int a6])).length) Slot.unset).toArray = ls at hl ⊢
  have hl : lv_has ls 7 [(0, .int a1), (1, .int a2), (2, .int a3), (3, .int a4), (4, .int a5), (5, .int a6)] := hl
  generalize hargs : ([.int a1, .int a2, .int a3, .int a4, .int a5, .int a6] : List Value).toArray = args at *
  generalize hAe : gA ad N s.heap.size = A
  have F : gF sa D ad cy N A p s m args cod cX10_six 7 wsX10_six RX10 := ⟨hx, hb, hml, hown, hts, hK, hI, by rw [← hAe]; exact gA_ad, by rw [← hAe]; exact gA_sz, by rw [← hAe]; exact hZ⟩
  have G : gW D ad cy N A s.heap c0 c s.heap [] := ⟨hP, va_S.rf⟩
  generalize hQ : MQ below (va_Qi (fun (z : Int32) (_ : Unit) => z = rZ) (fun _ U => gE D ad cy N c0 c U) A) args s 0 0 A = Q
  suffices hgen : ∀ (H : Heap) (locs : List Loc), gW D ad cy N A s.heap c0 c H locs → W p l e rmX10_six s m args below meth cod H locs 0 0 Q (F0 m 0 ls []) from hgen _ _ G
  clear G
  intro H locs G
  unfold m_X10_six at h
  refine lv_bipush (v := 27) hx hb dX10_six_0 (by decide) ?_
  refine lv_bipush (v := 27) hx hb dX10_six_2 (by decide) ?_
  refine lv_iload_n hx hb dX10_six_4 rfl (lv_at hl 0 rfl) ?_
  refine lv_imul hx hb dX10_six_5 ?_
  refine lv_iload_n hx hb dX10_six_6 rfl (lv_at hl 1 rfl) ?_
  refine lv_iadd hx hb dX10_six_7 ?_
  refine lv_imul hx hb dX10_six_8 ?_
  refine lv_iload_n hx hb dX10_six_9 rfl (lv_at hl 2 rfl) ?_
  refine lv_iadd hx hb dX10_six_10 ?_
  refine lv_topi (fun x1 ex1 => ?_)
  replace h := gv_s h x1 ex1
  refine lv_istore (lv' := [(6, .int x1), (0, .int a1), (1, .int a2), (2, .int a3), (3, .int a4), (4, .int a5), (5, .int a6)]) hx hb dX10_six_11 hl (by decide) rfl (fun ls hl => ?_)
  refine lv_iload_n hx hb dX10_six_13 rfl (lv_at hl 4 rfl) ?_
  obtain ⟨K3, eK3, h⟩ := gj_s h
  have JK3 : ∀ (v2 : Int32) (H : Heap) (locs : List Loc) (ls : Array Slot), K3 v2 = some rZ → gW D ad cy N A s.heap c0 c H locs → lv_has ls 7 [(4, .int a5), (5, .int a6)] → W p l e rmX10_six s m args below meth cod H locs 0 0 Q (F0 m 29 ls [.int v2]) := by
    intro v2 H locs ls h G hl
    rw [eK3] at h
    refine lv_istore (lv' := [(6, .int v2), (4, .int a5), (5, .int a6)]) hx hb dX10_six_29 hl (by decide) rfl (fun ls hl => ?_)
    refine lv_iload hx hb dX10_six_31 (lv_at hl 1 rfl) ?_
    obtain ⟨K5, eK5, h⟩ := gj_s h
    have JK5 : ∀ (v4 : Int32) (H : Heap) (locs : List Loc) (ls : Array Slot), K5 v4 = some rZ → gW D ad cy N A s.heap c0 c H locs → lv_has ls 7 [(5, .int a6)] → W p l e rmX10_six s m args below meth cod H locs 0 0 Q (F0 m 49 ls [.int v4]) := by
      intro v4 H locs ls h G hl
      rw [eK5] at h
      refine lv_istore (lv' := [(6, .int v4), (5, .int a6)]) hx hb dX10_six_49 hl (by decide) rfl (fun ls hl => ?_)
      refine lv_iload hx hb dX10_six_51 (lv_at hl 1 rfl) ?_
      refine lv_if_ne (tgt := 61) hx hb dX10_six_53 (by decide) (fun q6 => ?_) (fun q6 => ?_)
      · replace h := gf_s q6 h
        refine lv_bipush (v := 27) hx hb dX10_six_61 (by decide) ?_
        refine lv_iload hx hb dX10_six_63 (lv_at hl 0 rfl) ?_
        refine lv_imul hx hb dX10_six_65 ?_
        refine lv_iload hx hb dX10_six_66 (lv_at hl 1 rfl) ?_
        refine lv_iadd hx hb dX10_six_68 ?_
        cases h
        rw [← hQ]
        exact gx_iret F G hr hlocks dX10_six_69
      · replace h := gt_s q6 h
        refine lv_iload hx hb dX10_six_56 (lv_at hl 0 rfl) ?_
        refine lv_goto (tgt := 69) hx hb dX10_six_58 (by decide) ?_
        cases h
        rw [← hQ]
        exact gx_iret F G hr hlocks dX10_six_69
    refine lv_if_ne (tgt := 41) hx hb dX10_six_33 (by decide) (fun q7 => ?_) (fun q7 => ?_)
    · replace h := gf_s q7 h
      refine lv_bipush (v := 27) hx hb dX10_six_41 (by decide) ?_
      refine lv_iload hx hb dX10_six_43 (lv_at hl 0 rfl) ?_
      refine lv_imul hx hb dX10_six_45 ?_
      refine lv_iload hx hb dX10_six_46 (lv_at hl 1 rfl) ?_
      refine lv_iadd hx hb dX10_six_48 ?_
      exact JK5 _ _ _ _ h G (lv_sub hl [2] rfl)
    · replace h := gt_s q7 h
      refine lv_iload hx hb dX10_six_36 (lv_at hl 0 rfl) ?_
      refine lv_goto (tgt := 49) hx hb dX10_six_38 (by decide) ?_
      exact JK5 _ _ _ _ h G (lv_sub hl [2] rfl)
  refine lv_if_ne (tgt := 22) hx hb dX10_six_14 (by decide) (fun q8 => ?_) (fun q8 => ?_)
  · replace h := gf_s q8 h
    refine lv_bipush (v := 27) hx hb dX10_six_22 (by decide) ?_
    refine lv_iload hx hb dX10_six_24 (lv_at hl 0 rfl) ?_
    refine lv_imul hx hb dX10_six_26 ?_
    refine lv_iload_n hx hb dX10_six_27 rfl (lv_at hl 4 rfl) ?_
    refine lv_iadd hx hb dX10_six_28 ?_
    exact JK3 _ _ _ _ h G (lv_sub hl [5, 6] rfl)
  · replace h := gt_s q8 h
    refine lv_iload hx hb dX10_six_17 (lv_at hl 0 rfl) ?_
    refine lv_goto (tgt := 29) hx hb dX10_six_19 (by decide) ?_
    exact JK3 _ _ _ _ h G (lv_sub hl [5, 6] rfl)
def m_X10_isWord (n : Nat) (t : Nat) (a1 : Int32) (a2 : Int32) (a3 : Int32) (a4 : Int32) (a5 : Int32) (a6 : Int32) (c : gm) : Option (Int32 × gm) :=
  gc (gck t = 10) ((if (c.1 t 5) = 0 then gb2 (m_X10_wordHere n t c) (fun (r5 : Int32) (c6 : gm) => gb (m_X10_six a1 a2 a3 a4 a5 a6) (fun (r8 : Int32) => (if r5 = r8 then some (1, c6) else some (0, c6)))) else some (0, c)))
abbrev rmX10_isWord : Room := { frames := 3, cells := 0, slots := 0, locals := 63 }
set_option maxHeartbeats 4000000 in
set_option maxRecDepth 100000 in
theorem c_X10_isWord (l : Launch) (sa : gSa) (D : va_G) (ad : Nat → Nat) (cy : Nat → ClassId) (N sz : Nat) (hN : 530 ≤ N) (hI : gI ad N) (c0 c : gm) {n : Nat} {t : Nat} {a1 : Int32} {a2 : Int32} {a3 : Int32} {a4 : Int32} {a5 : Int32} {a6 : Int32} {rZ : Int32} {cZ : gm} (h : m_X10_isWord n t a1 a2 a3 a4 a5 a6 c = some (rZ, cZ)) : Met l yX10_isWord wsX10_isWord rmX10_isWord (va_Pc [.ref (ad t), .int a1, .int a2, .int a3, .int a4, .int a5, .int a6] (gP sa D ad cy N sz c0 c)) (va_Qi (fun (z : Int32) (_ : Unit) => z = rZ) (fun _ U => gE D ad cy N c0 cZ U) (gA ad N sz)) 0 0 (gA ad N sz) := by
  refine Met.ofW (cc := cX10_isWord) (maxL := 7) (ret := (some .boolean)) (by decide) rfl ?_
  intro p e s m args below meth cod s₁ B hml hv
  obtain ⟨rfl, hsz, hP, hK, hZ⟩ := hv
  have hx := B.exec
  have hb := B.bytes
  have hr := B.returns
  have hts := atoms_spec (ws := wsX10_isWord) B.pre
  have hown : s.vm.findClass RX10 = some m.cls := findClass_of_methodNamed B.named
  have hlocks := B.notSynchronized
  subst hsz
  have hl := lv_entry ([.ref (ad t), .int a1, .int a2, .int a3, .int a4, .int a5, .int a6]) (n := 7) (Nat.le_of_ble_eq_true rfl)
  rw [lg_entry_eq]
  generalize (lg_sl ([.ref (ad t), .int a1, .int a2, .int a3, .int a4, .int a5, .int a6]) ++ List.replicate (7 - (lg_sl ([.ref (ad t), .int a1, .int a2, .int a3, .int a4, .int a5, .int a6])).length) Slot.unset).toArray = ls at hl ⊢
  have hl : lv_has ls 7 [(0, .ref (ad t)), (1, .int a1), (2, .int a2), (3, .int a3), (4, .int a4), (5, .int a5), (6, .int a6)] := hl
  have in10 : ∀ w ∈ wsX100, w ∈ wsX10_isWord := by decide +kernel
  generalize hargs : ([.ref (ad t), .int a1, .int a2, .int a3, .int a4, .int a5, .int a6] : List Value).toArray = args at *
  generalize hAe : gA ad N s.heap.size = A
  have F : gF sa D ad cy N A p s m args cod cX10_isWord 7 wsX10_isWord RX10 := ⟨hx, hb, hml, hown, hts, hK, hI, by rw [← hAe]; exact gA_ad, by rw [← hAe]; exact gA_sz, by rw [← hAe]; exact hZ⟩
  have G : gW D ad cy N A s.heap c0 c s.heap [] := ⟨hP, va_S.rf⟩
  generalize hQ : MQ below (va_Qi (fun (z : Int32) (_ : Unit) => z = rZ) (fun _ U => gE D ad cy N c0 cZ U) A) args s 0 0 A = Q
  suffices hgen : ∀ (H : Heap) (locs : List Loc), gW D ad cy N A s.heap c0 c H locs → W p l e rmX10_isWord s m args below meth cod H locs 0 0 Q (F0 m 0 ls []) from hgen _ _ G
  clear G
  intro H locs G
  unfold m_X10_isWord at h
  refine lv_aload_n hx hb dX10_isWord_0 rfl (lv_at hl 0 rfl) ?_
  obtain ⟨hk1, h⟩ := gc_s h
  have ht2 : t < N := Nat.lt_of_lt_of_le (gck_lt10 hk1) hN
  refine fg_10_fault F G hk1 ht2 in10 (by decide +kernel) dX10_isWord_1 ?_
  refine lv_if_ne (tgt := 30) hx hb dX10_isWord_4 (by decide) (fun q3 => ?_) (fun q3 => ?_)
  · replace h := gf_s q3 h
    refine lv_iconst (v := 0) hx hb dX10_isWord_30 (by decide) ?_
    cases h
    rw [← hQ]
    exact gx_zret F G hr hlocks rfl dX10_isWord_31
  · replace h := gt_s q3 h
    refine lv_aload_n hx hb dX10_isWord_7 rfl (lv_at hl 0 rfl) ?_
    obtain ⟨r5, c6, hc4, h⟩ := gb2_s h
    refine gx_calli F G (va_runV (As := []) (rest := []) (gx_fix F) (c_X10_wordHere l sa D ad cy N H.size hN hI c0 c hc4) (cwV 0 hts gX10_isWord_X10_wordHere rfl rfl rfl (by decide +kernel) ⟨by decide, by decide⟩) (gx_rec F G ht2 (gwe_10 hk1) rfl) rfl rfl hl.1 rfl (lv_room (Nat.le_of_ble_eq_true rfl)) dX10_isWord_8 ⟨Nat.zero_le _, Nat.zero_le _⟩) (fun H locs G => ?_)
    refine lv_iload_n hx hb dX10_isWord_11 rfl (lv_at hl 1 rfl) ?_
    refine lv_iload_n hx hb dX10_isWord_12 rfl (lv_at hl 2 rfl) ?_
    refine lv_iload_n hx hb dX10_isWord_13 rfl (lv_at hl 3 rfl) ?_
    refine lv_iload hx hb dX10_isWord_14 (lv_at hl 4 rfl) ?_
    refine lv_iload hx hb dX10_isWord_16 (lv_at hl 5 rfl) ?_
    refine lv_iload hx hb dX10_isWord_18 (lv_at hl 6 rfl) ?_
    obtain ⟨r8, hc7, h⟩ := gb_s h
    refine gx_calli F G (va_runS (As := [.int a1, .int a2, .int a3, .int a4, .int a5, .int a6]) (rest := [.int r5]) (gx_fix F) (c_X10_six l sa D ad cy N H.size hN hI c0 c6 hc7) (va_cwS 6 hts gX10_isWord_X10_six rfl rfl rfl (by decide +kernel) ⟨by decide, by decide⟩) (gx_pre F G) rfl rfl hl.1 rfl (lv_room (Nat.le_of_ble_eq_true rfl)) dX10_isWord_20 ⟨Nat.zero_le _, Nat.zero_le _⟩) (fun H locs G => ?_)
    refine lv_icmp_ne (tgt := 30) hx hb dX10_isWord_23 (by decide) (fun q9 => ?_) (fun q9 => ?_)
    · replace h := gf_s q9 h
      refine lv_iconst (v := 0) hx hb dX10_isWord_30 (by decide) ?_
      cases h
      rw [← hQ]
      exact gx_zret F G hr hlocks rfl dX10_isWord_31
    · replace h := gt_s q9 h
      refine lv_iconst (v := 1) hx hb dX10_isWord_26 (by decide) ?_
      refine lv_goto (tgt := 31) hx hb dX10_isWord_27 (by decide) ?_
      cases h
      rw [← hQ]
      exact gx_zret F G hr hlocks rfl dX10_isWord_31
def m_X10_skipWord_L0 (t : Nat) (c2 : gm) : Option ((gm) ⊕ (gm)) :=
  gc (gck t = 10) (gb (m_X10_byteAt t (c2.1 t 4) c2) (fun (r7 : Int32) => gb (m_X10_isSmall r7) (fun (r9 : Int32) => (if r9 = 0 then some (.inr c2) else gv (gm_r c2 t (upd (c2.1 t) 4 ((c2.1 t 4) + 1))) (fun (c11 : gm) => some (.inl c11))))))
def m_X10_skipWord (n : Nat) (t : Nat) (c : gm) : Option (gm) :=
  gb (gloop (fun (c2 : gm) => m_X10_skipWord_L0 t c2) n c) (fun (c3 : gm) => some c3)
abbrev rmX10_skipWord : Room := { frames := 1, cells := 0, slots := 0, locals := 21 }
set_option maxHeartbeats 4000000 in
set_option maxRecDepth 100000 in
theorem c_X10_skipWord (l : Launch) (sa : gSa) (D : va_G) (ad : Nat → Nat) (cy : Nat → ClassId) (N sz : Nat) (hN : 530 ≤ N) (hI : gI ad N) (c0 c : gm) {n : Nat} {t : Nat} {cZ : gm} (h : m_X10_skipWord n t c = some cZ) : Met l yX10_skipWord wsX10_skipWord rmX10_skipWord (va_Pc [.ref (ad t)] (gP sa D ad cy N sz c0 c)) (va_Qv (fun (_ : Unit) => True) (fun _ U => gE D ad cy N c0 cZ U) (gA ad N sz)) 0 0 (gA ad N sz) := by
  refine Met.ofW (cc := cX10_skipWord) (maxL := 1) (ret := none) (by decide) rfl ?_
  intro p e s m args below meth cod s₁ B hml hv
  obtain ⟨rfl, hsz, hP, hK, hZ⟩ := hv
  have hx := B.exec
  have hb := B.bytes
  have hr := B.returns
  have hts := atoms_spec (ws := wsX10_skipWord) B.pre
  have hown : s.vm.findClass RX10 = some m.cls := findClass_of_methodNamed B.named
  have hlocks := B.notSynchronized
  subst hsz
  have hl := lv_entry ([.ref (ad t)]) (n := 1) (Nat.le_of_ble_eq_true rfl)
  rw [lg_entry_eq]
  generalize (lg_sl ([.ref (ad t)]) ++ List.replicate (1 - (lg_sl ([.ref (ad t)])).length) Slot.unset).toArray = ls at hl ⊢
  have hl : lv_has ls 1 [(0, .ref (ad t))] := hl
  have in10 : ∀ w ∈ wsX100, w ∈ wsX10_skipWord := by decide +kernel
  generalize hargs : ([.ref (ad t)] : List Value).toArray = args at *
  generalize hAe : gA ad N s.heap.size = A
  have F : gF sa D ad cy N A p s m args cod cX10_skipWord 1 wsX10_skipWord RX10 := ⟨hx, hb, hml, hown, hts, hK, hI, by rw [← hAe]; exact gA_ad, by rw [← hAe]; exact gA_sz, by rw [← hAe]; exact hZ⟩
  have G : gW D ad cy N A s.heap c0 c s.heap [] := ⟨hP, va_S.rf⟩
  generalize hQ : MQ below (va_Qv (fun (_ : Unit) => True) (fun _ U => gE D ad cy N c0 cZ U) A) args s 0 0 A = Q
  suffices hgen : ∀ (H : Heap) (locs : List Loc), gW D ad cy N A s.heap c0 c H locs → W p l e rmX10_skipWord s m args below meth cod H locs 0 0 Q (F0 m 0 ls []) from hgen _ _ G
  clear G
  intro H locs G
  unfold m_X10_skipWord at h
  obtain ⟨b1, hb1, hK1⟩ := gb_s h
  have E1 : ∀ (c3 : gm) (H : Heap) (locs : List Loc) (ls : Array Slot), (c3 : gm) = b1 → gW D ad cy N A s.heap c0 c3 H locs → lv_has ls 1 [] → W p l e rmX10_skipWord s m args below meth cod H locs 0 0 Q (F0 m 27 ls []) := by
    intro c3 H locs ls hq1 G hl
    subst hq1
    replace hK1 := hK1
    have h := hK1
    cases h
    rw [← hQ]
    exact gx_vret F G hr hlocks dX10_skipWord_27
  have L1 : ∀ (n9 : Nat) (c2 : gm) (H : Heap) (locs : List Loc) (ls : Array Slot), gloop (fun (c2 : gm) => m_X10_skipWord_L0 t c2) n9 c2 = some b1 → gW D ad cy N A s.heap c0 c2 H locs → lv_has ls 1 [(0, .ref (ad t))] → W p l e rmX10_skipWord s m args below meth cod H locs 0 0 Q (F0 m 0 ls []) := by
    intro n9
    induction n9 with
    | zero => intro c2 H locs ls h; exact (gloop_0 h).elim
    | succ n9 ih =>
      intro c2 H locs ls h G hl
      have ih1 := ih
      obtain ⟨o1, h, hn1⟩ := gloop_s h
      unfold m_X10_skipWord_L0 at h
      refine lv_aload_n hx hb dX10_skipWord_0 rfl (lv_at hl 0 rfl) ?_
      refine lv_aload_n hx hb dX10_skipWord_1 rfl (lv_at hl 0 rfl) ?_
      obtain ⟨hk4, h⟩ := gc_s h
      have ht5 : t < N := Nat.lt_of_lt_of_le (gck_lt10 hk4) hN
      refine fg_10_at F G hk4 ht5 in10 (by decide +kernel) dX10_skipWord_2 ?_
      obtain ⟨r7, hc6, h⟩ := gb_s h
      refine gx_calli F G (va_runV (As := [.int (c2.1 t 4)]) (rest := []) (gx_fix F) (c_X10_byteAt l sa D ad cy N H.size hN hI c0 c2 hc6) (cwV 1 hts gX10_skipWord_X10_byteAt rfl rfl rfl (by decide +kernel) ⟨by decide, by decide⟩) (gx_rec F G ht5 (gwe_10 hk4) rfl) rfl rfl hl.1 rfl (lv_room (Nat.le_of_ble_eq_true rfl)) dX10_skipWord_5 ⟨Nat.zero_le _, Nat.zero_le _⟩) (fun H locs G => ?_)
      obtain ⟨r9, hc8, h⟩ := gb_s h
      refine gx_calli F G (va_runS (As := [.int r7]) (rest := []) (gx_fix F) (c_X10_isSmall l sa D ad cy N H.size hN hI c0 c2 hc8) (va_cwS 1 hts gX10_skipWord_X10_isSmall rfl rfl rfl (by decide +kernel) ⟨by decide, by decide⟩) (gx_pre F G) rfl rfl hl.1 rfl (lv_room (Nat.le_of_ble_eq_true rfl)) dX10_skipWord_8 ⟨Nat.zero_le _, Nat.zero_le _⟩) (fun H locs G => ?_)
      refine lv_if_eq (tgt := 27) hx hb dX10_skipWord_11 (by decide) (fun q10 => ?_) (fun q10 => ?_)
      · replace h := gt_s q10 h
        cases h
        exact E1 _ _ _ _ (gnx_r hn1) G (lv_sub hl [] rfl)
      · replace h := gf_s q10 h
        refine lv_aload_n hx hb dX10_skipWord_14 rfl (lv_at hl 0 rfl) ?_
        refine lv_dup hx hb dX10_skipWord_15 rfl ?_
        refine fg_10_at F G hk4 ht5 in10 (by decide +kernel) dX10_skipWord_16 ?_
        refine lv_iconst (v := 1) hx hb dX10_skipWord_19 (by decide) ?_
        refine lv_iadd hx hb dX10_skipWord_20 ?_
        refine fp_10_at F G hk4 ht5 in10 (by decide +kernel) dX10_skipWord_21 (fun H locs G => ?_)
        obtain ⟨c11, ec11⟩ : ∃ z, z = gm_r c2 t (upd (c2.1 t) 4 ((c2.1 t 4) + 1)) := ⟨_, rfl⟩
        rw [← ec11] at G
        replace h := gv_s h c11 ec11
        refine lv_goto (tgt := 0) hx hb dX10_skipWord_24 (by decide) ?_
        cases h
        exact ih1 _ _ _ _ hn1 G hl
  exact L1 n _ _ _ _ hb1 G hl
def m_X10_takes (n : Nat) (t : Nat) (a1 : Int32) (a2 : Int32) (a3 : Int32) (a4 : Int32) (a5 : Int32) (a6 : Int32) (c : gm) : Option (Int32 × gm) :=
  gc (gck t = 10) (gb2 (m_X10_isWord n t a1 a2 a3 a4 a5 a6 c) (fun (r4 : Int32) (c5 : gm) => (if r4 = 0 then gc (r4 = 0 ∨ r4 = 1) (some (r4, c5)) else gb (m_X10_skipWord n t c5) (fun (c10 : gm) => gc (r4 = 0 ∨ r4 = 1) (some (r4, c10))))))
abbrev rmX10_takes : Room := { frames := 4, cells := 0, slots := 0, locals := 89 }
set_option maxHeartbeats 4000000 in
set_option maxRecDepth 100000 in
theorem c_X10_takes (l : Launch) (sa : gSa) (D : va_G) (ad : Nat → Nat) (cy : Nat → ClassId) (N sz : Nat) (hN : 530 ≤ N) (hI : gI ad N) (c0 c : gm) {n : Nat} {t : Nat} {a1 : Int32} {a2 : Int32} {a3 : Int32} {a4 : Int32} {a5 : Int32} {a6 : Int32} {rZ : Int32} {cZ : gm} (h : m_X10_takes n t a1 a2 a3 a4 a5 a6 c = some (rZ, cZ)) : Met l yX10_takes wsX10_takes rmX10_takes (va_Pc [.ref (ad t), .int a1, .int a2, .int a3, .int a4, .int a5, .int a6] (gP sa D ad cy N sz c0 c)) (va_Qi (fun (z : Int32) (_ : Unit) => z = rZ) (fun _ U => gE D ad cy N c0 cZ U) (gA ad N sz)) 0 0 (gA ad N sz) := by
  refine Met.ofW (cc := cX10_takes) (maxL := 8) (ret := (some .boolean)) (by decide) rfl ?_
  intro p e s m args below meth cod s₁ B hml hv
  obtain ⟨rfl, hsz, hP, hK, hZ⟩ := hv
  have hx := B.exec
  have hb := B.bytes
  have hr := B.returns
  have hts := atoms_spec (ws := wsX10_takes) B.pre
  have hown : s.vm.findClass RX10 = some m.cls := findClass_of_methodNamed B.named
  have hlocks := B.notSynchronized
  subst hsz
  have hl := lv_entry ([.ref (ad t), .int a1, .int a2, .int a3, .int a4, .int a5, .int a6]) (n := 8) (Nat.le_of_ble_eq_true rfl)
  rw [lg_entry_eq]
  generalize (lg_sl ([.ref (ad t), .int a1, .int a2, .int a3, .int a4, .int a5, .int a6]) ++ List.replicate (8 - (lg_sl ([.ref (ad t), .int a1, .int a2, .int a3, .int a4, .int a5, .int a6])).length) Slot.unset).toArray = ls at hl ⊢
  have hl : lv_has ls 8 [(0, .ref (ad t)), (1, .int a1), (2, .int a2), (3, .int a3), (4, .int a4), (5, .int a5), (6, .int a6)] := hl
  generalize hargs : ([.ref (ad t), .int a1, .int a2, .int a3, .int a4, .int a5, .int a6] : List Value).toArray = args at *
  generalize hAe : gA ad N s.heap.size = A
  have F : gF sa D ad cy N A p s m args cod cX10_takes 8 wsX10_takes RX10 := ⟨hx, hb, hml, hown, hts, hK, hI, by rw [← hAe]; exact gA_ad, by rw [← hAe]; exact gA_sz, by rw [← hAe]; exact hZ⟩
  have G : gW D ad cy N A s.heap c0 c s.heap [] := ⟨hP, va_S.rf⟩
  generalize hQ : MQ below (va_Qi (fun (z : Int32) (_ : Unit) => z = rZ) (fun _ U => gE D ad cy N c0 cZ U) A) args s 0 0 A = Q
  suffices hgen : ∀ (H : Heap) (locs : List Loc), gW D ad cy N A s.heap c0 c H locs → W p l e rmX10_takes s m args below meth cod H locs 0 0 Q (F0 m 0 ls []) from hgen _ _ G
  clear G
  intro H locs G
  unfold m_X10_takes at h
  refine lv_aload_n hx hb dX10_takes_0 rfl (lv_at hl 0 rfl) ?_
  refine lv_iload_n hx hb dX10_takes_1 rfl (lv_at hl 1 rfl) ?_
  refine lv_iload_n hx hb dX10_takes_2 rfl (lv_at hl 2 rfl) ?_
  refine lv_iload_n hx hb dX10_takes_3 rfl (lv_at hl 3 rfl) ?_
  refine lv_iload hx hb dX10_takes_4 (lv_at hl 4 rfl) ?_
  refine lv_iload hx hb dX10_takes_6 (lv_at hl 5 rfl) ?_
  refine lv_iload hx hb dX10_takes_8 (lv_at hl 6 rfl) ?_
  obtain ⟨hk1, h⟩ := gc_s h
  have ht2 : t < N := Nat.lt_of_lt_of_le (gck_lt10 hk1) hN
  obtain ⟨r4, c5, hc3, h⟩ := gb2_s h
  refine gx_calli F G (va_runV (As := [.int a1, .int a2, .int a3, .int a4, .int a5, .int a6]) (rest := []) (gx_fix F) (c_X10_isWord l sa D ad cy N H.size hN hI c0 c hc3) (cwV 6 hts gX10_takes_X10_isWord rfl rfl rfl (by decide +kernel) ⟨by decide, by decide⟩) (gx_rec F G ht2 (gwe_10 hk1) rfl) rfl rfl hl.1 rfl (lv_room (Nat.le_of_ble_eq_true rfl)) dX10_takes_10 ⟨Nat.zero_le _, Nat.zero_le _⟩) (fun H locs G => ?_)
  refine lv_istore (lv' := [(7, .int r4), (0, .ref (ad t)), (1, .int a1), (2, .int a2), (3, .int a3), (4, .int a4), (5, .int a5), (6, .int a6)]) hx hb dX10_takes_13 hl (by decide) rfl (fun ls hl => ?_)
  refine lv_iload hx hb dX10_takes_15 (lv_at hl 0 rfl) ?_
  refine lv_if_eq (tgt := 24) hx hb dX10_takes_17 (by decide) (fun q6 => ?_) (fun q6 => ?_)
  · replace h := gt_s q6 h
    refine lv_iload hx hb dX10_takes_24 (lv_at hl 0 rfl) ?_
    obtain ⟨hz7, h⟩ := gc_s h
    cases h
    rw [← hQ]
    exact gx_zret F G hr hlocks (gnb hz7) dX10_takes_26
  · replace h := gf_s q6 h
    refine lv_aload_n hx hb dX10_takes_20 rfl (lv_at hl 1 rfl) ?_
    obtain ⟨c10, hc8, h⟩ := gb_s h
    refine gx_callv F G (va_runV (As := []) (rest := []) (gx_fix F) (c_X10_skipWord l sa D ad cy N H.size hN hI c0 c5 hc8) (cwV 0 hts gX10_takes_X10_skipWord rfl rfl rfl (by decide +kernel) ⟨by decide, by decide⟩) (gx_rec F G ht2 (gwe_10 hk1) rfl) rfl rfl hl.1 rfl (lv_room (Nat.le_of_ble_eq_true rfl)) dX10_takes_21 ⟨Nat.zero_le _, Nat.zero_le _⟩) (fun H locs G => ?_)
    refine lv_iload hx hb dX10_takes_24 (lv_at hl 0 rfl) ?_
    obtain ⟨hz11, h⟩ := gc_s h
    cases h
    rw [← hQ]
    exact gx_zret F G hr hlocks (gnb hz11) dX10_takes_26
def m_X10_sign (n : Nat) (t : Nat) (a1 : Int32) (c : gm) : Option (gm) :=
  gc (gck t = 10) ((if (c.1 t 5) = 0 then gb (m_X10_blanks n t c) (fun (c6 : gm) => gb (m_X10_byteAt t (c6.1 t 4) c6) (fun (r8 : Int32) => (if r8 = a1 then gv (gm_r c6 t (upd (c6.1 t) 4 ((c6.1 t 4) + 1))) (fun (c13 : gm) => some c13) else gb (m_X10_wrong t 1 (c6.1 t 4) c6) (fun (c12 : gm) => some c12)))) else some c))
abbrev rmX10_sign : Room := { frames := 2, cells := 0, slots := 0, locals := 41 }
set_option maxHeartbeats 4000000 in
set_option maxRecDepth 100000 in
theorem c_X10_sign (l : Launch) (sa : gSa) (D : va_G) (ad : Nat → Nat) (cy : Nat → ClassId) (N sz : Nat) (hN : 530 ≤ N) (hI : gI ad N) (c0 c : gm) {n : Nat} {t : Nat} {a1 : Int32} {cZ : gm} (h : m_X10_sign n t a1 c = some cZ) : Met l yX10_sign wsX10_sign rmX10_sign (va_Pc [.ref (ad t), .int a1] (gP sa D ad cy N sz c0 c)) (va_Qv (fun (_ : Unit) => True) (fun _ U => gE D ad cy N c0 cZ U) (gA ad N sz)) 0 0 (gA ad N sz) := by
  refine Met.ofW (cc := cX10_sign) (maxL := 2) (ret := none) (by decide) rfl ?_
  intro p e s m args below meth cod s₁ B hml hv
  obtain ⟨rfl, hsz, hP, hK, hZ⟩ := hv
  have hx := B.exec
  have hb := B.bytes
  have hr := B.returns
  have hts := atoms_spec (ws := wsX10_sign) B.pre
  have hown : s.vm.findClass RX10 = some m.cls := findClass_of_methodNamed B.named
  have hlocks := B.notSynchronized
  subst hsz
  have hl := lv_entry ([.ref (ad t), .int a1]) (n := 2) (Nat.le_of_ble_eq_true rfl)
  rw [lg_entry_eq]
  generalize (lg_sl ([.ref (ad t), .int a1]) ++ List.replicate (2 - (lg_sl ([.ref (ad t), .int a1])).length) Slot.unset).toArray = ls at hl ⊢
  have hl : lv_has ls 2 [(0, .ref (ad t)), (1, .int a1)] := hl
  have in10 : ∀ w ∈ wsX100, w ∈ wsX10_sign := by decide +kernel
  generalize hargs : ([.ref (ad t), .int a1] : List Value).toArray = args at *
  generalize hAe : gA ad N s.heap.size = A
  have F : gF sa D ad cy N A p s m args cod cX10_sign 2 wsX10_sign RX10 := ⟨hx, hb, hml, hown, hts, hK, hI, by rw [← hAe]; exact gA_ad, by rw [← hAe]; exact gA_sz, by rw [← hAe]; exact hZ⟩
  have G : gW D ad cy N A s.heap c0 c s.heap [] := ⟨hP, va_S.rf⟩
  generalize hQ : MQ below (va_Qv (fun (_ : Unit) => True) (fun _ U => gE D ad cy N c0 cZ U) A) args s 0 0 A = Q
  suffices hgen : ∀ (H : Heap) (locs : List Loc), gW D ad cy N A s.heap c0 c H locs → W p l e rmX10_sign s m args below meth cod H locs 0 0 Q (F0 m 0 ls []) from hgen _ _ G
  clear G
  intro H locs G
  unfold m_X10_sign at h
  refine lv_aload_n hx hb dX10_sign_0 rfl (lv_at hl 0 rfl) ?_
  obtain ⟨hk1, h⟩ := gc_s h
  have ht2 : t < N := Nat.lt_of_lt_of_le (gck_lt10 hk1) hN
  refine fg_10_fault F G hk1 ht2 in10 (by decide +kernel) dX10_sign_1 ?_
  refine lv_if_eq (tgt := 8) hx hb dX10_sign_4 (by decide) (fun q3 => ?_) (fun q3 => ?_)
  · replace h := gt_s q3 h
    refine lv_aload_n hx hb dX10_sign_8 rfl (lv_at hl 0 rfl) ?_
    obtain ⟨c6, hc4, h⟩ := gb_s h
    refine gx_callv F G (va_runV (As := []) (rest := []) (gx_fix F) (c_X10_blanks l sa D ad cy N H.size hN hI c0 c hc4) (cwV 0 hts gX10_sign_X10_blanks rfl rfl rfl (by decide +kernel) ⟨by decide, by decide⟩) (gx_rec F G ht2 (gwe_10 hk1) rfl) rfl rfl hl.1 rfl (lv_room (Nat.le_of_ble_eq_true rfl)) dX10_sign_9 ⟨Nat.zero_le _, Nat.zero_le _⟩) (fun H locs G => ?_)
    refine lv_aload_n hx hb dX10_sign_12 rfl (lv_at hl 0 rfl) ?_
    refine lv_aload_n hx hb dX10_sign_13 rfl (lv_at hl 0 rfl) ?_
    refine fg_10_at F G hk1 ht2 in10 (by decide +kernel) dX10_sign_14 ?_
    obtain ⟨r8, hc7, h⟩ := gb_s h
    refine gx_calli F G (va_runV (As := [.int (c6.1 t 4)]) (rest := []) (gx_fix F) (c_X10_byteAt l sa D ad cy N H.size hN hI c0 c6 hc7) (cwV 1 hts gX10_sign_X10_byteAt rfl rfl rfl (by decide +kernel) ⟨by decide, by decide⟩) (gx_rec F G ht2 (gwe_10 hk1) rfl) rfl rfl hl.1 rfl (lv_room (Nat.le_of_ble_eq_true rfl)) dX10_sign_17 ⟨Nat.zero_le _, Nat.zero_le _⟩) (fun H locs G => ?_)
    refine lv_iload_n hx hb dX10_sign_20 rfl (lv_at hl 1 rfl) ?_
    refine lv_icmp_ne (tgt := 37) hx hb dX10_sign_21 (by decide) (fun q9 => ?_) (fun q9 => ?_)
    · replace h := gf_s q9 h
      refine lv_aload_n hx hb dX10_sign_37 rfl (lv_at hl 0 rfl) ?_
      refine lv_iconst (v := 1) hx hb dX10_sign_38 (by decide) ?_
      refine lv_aload_n hx hb dX10_sign_39 rfl (lv_at hl 0 rfl) ?_
      refine fg_10_at F G hk1 ht2 in10 (by decide +kernel) dX10_sign_40 ?_
      obtain ⟨c12, hc10, h⟩ := gb_s h
      refine gx_callv F G (va_runV (As := [.int 1, .int (c6.1 t 4)]) (rest := []) (gx_fix F) (c_X10_wrong l sa D ad cy N H.size hN hI c0 c6 hc10) (cwV 2 hts gX10_sign_X10_wrong rfl rfl rfl (by decide +kernel) ⟨by decide, by decide⟩) (gx_rec F G ht2 (gwe_10 hk1) rfl) rfl rfl hl.1 rfl (lv_room (Nat.le_of_ble_eq_true rfl)) dX10_sign_43 ⟨Nat.zero_le _, Nat.zero_le _⟩) (fun H locs G => ?_)
      cases h
      rw [← hQ]
      exact gx_vret F G hr hlocks dX10_sign_46
    · replace h := gt_s q9 h
      refine lv_aload_n hx hb dX10_sign_24 rfl (lv_at hl 0 rfl) ?_
      refine lv_dup hx hb dX10_sign_25 rfl ?_
      refine fg_10_at F G hk1 ht2 in10 (by decide +kernel) dX10_sign_26 ?_
      refine lv_iconst (v := 1) hx hb dX10_sign_29 (by decide) ?_
      refine lv_iadd hx hb dX10_sign_30 ?_
      refine fp_10_at F G hk1 ht2 in10 (by decide +kernel) dX10_sign_31 (fun H locs G => ?_)
      obtain ⟨c13, ec13⟩ : ∃ z, z = gm_r c6 t (upd (c6.1 t) 4 ((c6.1 t 4) + 1)) := ⟨_, rfl⟩
      rw [← ec13] at G
      replace h := gv_s h c13 ec13
      refine lv_goto (tgt := 46) hx hb dX10_sign_34 (by decide) ?_
      cases h
      rw [← hQ]
      exact gx_vret F G hr hlocks dX10_sign_46
  · replace h := gf_s q3 h
    cases h
    rw [← hQ]
    exact gx_vret F G hr hlocks dX10_sign_7
def m_X10_takesSign (n : Nat) (t : Nat) (a1 : Int32) (c : gm) : Option (Int32 × gm) :=
  gc (gck t = 10) ((if (c.1 t 5) = 0 then gb (m_X10_blanks n t c) (fun (c6 : gm) => gb (m_X10_byteAt t (c6.1 t 4) c6) (fun (r8 : Int32) => gj (fun (v9 : Int32) => (if v9 = 0 then gc (v9 = 0 ∨ v9 = 1) (some (v9, c6)) else gv (gm_r c6 t (upd (c6.1 t) 4 ((c6.1 t 4) + 1))) (fun (c13 : gm) => gc (v9 = 0 ∨ v9 = 1) (some (v9, c13))))) (fun K10 => (if r8 = a1 then K10 1 else K10 0)))) else some (0, c)))
abbrev rmX10_takesSign : Room := { frames := 2, cells := 0, slots := 0, locals := 41 }
set_option maxHeartbeats 4000000 in
set_option maxRecDepth 100000 in
theorem c_X10_takesSign (l : Launch) (sa : gSa) (D : va_G) (ad : Nat → Nat) (cy : Nat → ClassId) (N sz : Nat) (hN : 530 ≤ N) (hI : gI ad N) (c0 c : gm) {n : Nat} {t : Nat} {a1 : Int32} {rZ : Int32} {cZ : gm} (h : m_X10_takesSign n t a1 c = some (rZ, cZ)) : Met l yX10_takesSign wsX10_takesSign rmX10_takesSign (va_Pc [.ref (ad t), .int a1] (gP sa D ad cy N sz c0 c)) (va_Qi (fun (z : Int32) (_ : Unit) => z = rZ) (fun _ U => gE D ad cy N c0 cZ U) (gA ad N sz)) 0 0 (gA ad N sz) := by
  refine Met.ofW (cc := cX10_takesSign) (maxL := 3) (ret := (some .boolean)) (by decide) rfl ?_
  intro p e s m args below meth cod s₁ B hml hv
  obtain ⟨rfl, hsz, hP, hK, hZ⟩ := hv
  have hx := B.exec
  have hb := B.bytes
  have hr := B.returns
  have hts := atoms_spec (ws := wsX10_takesSign) B.pre
  have hown : s.vm.findClass RX10 = some m.cls := findClass_of_methodNamed B.named
  have hlocks := B.notSynchronized
  subst hsz
  have hl := lv_entry ([.ref (ad t), .int a1]) (n := 3) (Nat.le_of_ble_eq_true rfl)
  rw [lg_entry_eq]
  generalize (lg_sl ([.ref (ad t), .int a1]) ++ List.replicate (3 - (lg_sl ([.ref (ad t), .int a1])).length) Slot.unset).toArray = ls at hl ⊢
  have hl : lv_has ls 3 [(0, .ref (ad t)), (1, .int a1)] := hl
  have in10 : ∀ w ∈ wsX100, w ∈ wsX10_takesSign := by decide +kernel
  generalize hargs : ([.ref (ad t), .int a1] : List Value).toArray = args at *
  generalize hAe : gA ad N s.heap.size = A
  have F : gF sa D ad cy N A p s m args cod cX10_takesSign 3 wsX10_takesSign RX10 := ⟨hx, hb, hml, hown, hts, hK, hI, by rw [← hAe]; exact gA_ad, by rw [← hAe]; exact gA_sz, by rw [← hAe]; exact hZ⟩
  have G : gW D ad cy N A s.heap c0 c s.heap [] := ⟨hP, va_S.rf⟩
  generalize hQ : MQ below (va_Qi (fun (z : Int32) (_ : Unit) => z = rZ) (fun _ U => gE D ad cy N c0 cZ U) A) args s 0 0 A = Q
  suffices hgen : ∀ (H : Heap) (locs : List Loc), gW D ad cy N A s.heap c0 c H locs → W p l e rmX10_takesSign s m args below meth cod H locs 0 0 Q (F0 m 0 ls []) from hgen _ _ G
  clear G
  intro H locs G
  unfold m_X10_takesSign at h
  refine lv_aload_n hx hb dX10_takesSign_0 rfl (lv_at hl 0 rfl) ?_
  obtain ⟨hk1, h⟩ := gc_s h
  have ht2 : t < N := Nat.lt_of_lt_of_le (gck_lt10 hk1) hN
  refine fg_10_fault F G hk1 ht2 in10 (by decide +kernel) dX10_takesSign_1 ?_
  refine lv_if_eq (tgt := 9) hx hb dX10_takesSign_4 (by decide) (fun q3 => ?_) (fun q3 => ?_)
  · replace h := gt_s q3 h
    refine lv_aload_n hx hb dX10_takesSign_9 rfl (lv_at hl 0 rfl) ?_
    obtain ⟨c6, hc4, h⟩ := gb_s h
    refine gx_callv F G (va_runV (As := []) (rest := []) (gx_fix F) (c_X10_blanks l sa D ad cy N H.size hN hI c0 c hc4) (cwV 0 hts gX10_takesSign_X10_blanks rfl rfl rfl (by decide +kernel) ⟨by decide, by decide⟩) (gx_rec F G ht2 (gwe_10 hk1) rfl) rfl rfl hl.1 rfl (lv_room (Nat.le_of_ble_eq_true rfl)) dX10_takesSign_10 ⟨Nat.zero_le _, Nat.zero_le _⟩) (fun H locs G => ?_)
    refine lv_aload_n hx hb dX10_takesSign_13 rfl (lv_at hl 0 rfl) ?_
    refine lv_aload_n hx hb dX10_takesSign_14 rfl (lv_at hl 0 rfl) ?_
    refine fg_10_at F G hk1 ht2 in10 (by decide +kernel) dX10_takesSign_15 ?_
    obtain ⟨r8, hc7, h⟩ := gb_s h
    refine gx_calli F G (va_runV (As := [.int (c6.1 t 4)]) (rest := []) (gx_fix F) (c_X10_byteAt l sa D ad cy N H.size hN hI c0 c6 hc7) (cwV 1 hts gX10_takesSign_X10_byteAt rfl rfl rfl (by decide +kernel) ⟨by decide, by decide⟩) (gx_rec F G ht2 (gwe_10 hk1) rfl) rfl rfl hl.1 rfl (lv_room (Nat.le_of_ble_eq_true rfl)) dX10_takesSign_18 ⟨Nat.zero_le _, Nat.zero_le _⟩) (fun H locs G => ?_)
    refine lv_iload_n hx hb dX10_takesSign_21 rfl (lv_at hl 1 rfl) ?_
    obtain ⟨K10, eK10, h⟩ := gj_s h
    have JK10 : ∀ (v9 : Int32) (H : Heap) (locs : List Loc) (ls : Array Slot), K10 v9 = some (rZ, cZ) → gW D ad cy N A s.heap c0 c6 H locs → lv_has ls 3 [(0, .ref (ad t))] → W p l e rmX10_takesSign s m args below meth cod H locs 0 0 Q (F0 m 30 ls [.int v9]) := by
      intro v9 H locs ls h G hl
      rw [eK10] at h
      refine lv_istore_n (lv' := [(2, .int v9), (0, .ref (ad t))]) hx hb dX10_takesSign_30 rfl hl (by decide) rfl (fun ls hl => ?_)
      refine lv_iload_n hx hb dX10_takesSign_31 rfl (lv_at hl 0 rfl) ?_
      refine lv_if_eq (tgt := 45) hx hb dX10_takesSign_32 (by decide) (fun q11 => ?_) (fun q11 => ?_)
      · replace h := gt_s q11 h
        refine lv_iload_n hx hb dX10_takesSign_45 rfl (lv_at hl 0 rfl) ?_
        obtain ⟨hz12, h⟩ := gc_s h
        cases h
        rw [← hQ]
        exact gx_zret F G hr hlocks (gnb hz12) dX10_takesSign_46
      · replace h := gf_s q11 h
        refine lv_aload_n hx hb dX10_takesSign_35 rfl (lv_at hl 1 rfl) ?_
        refine lv_dup hx hb dX10_takesSign_36 rfl ?_
        refine fg_10_at F G hk1 ht2 in10 (by decide +kernel) dX10_takesSign_37 ?_
        refine lv_iconst (v := 1) hx hb dX10_takesSign_40 (by decide) ?_
        refine lv_iadd hx hb dX10_takesSign_41 ?_
        refine fp_10_at F G hk1 ht2 in10 (by decide +kernel) dX10_takesSign_42 (fun H locs G => ?_)
        obtain ⟨c13, ec13⟩ : ∃ z, z = gm_r c6 t (upd (c6.1 t) 4 ((c6.1 t 4) + 1)) := ⟨_, rfl⟩
        rw [← ec13] at G
        replace h := gv_s h c13 ec13
        refine lv_iload_n hx hb dX10_takesSign_45 rfl (lv_at hl 0 rfl) ?_
        obtain ⟨hz14, h⟩ := gc_s h
        cases h
        rw [← hQ]
        exact gx_zret F G hr hlocks (gnb hz14) dX10_takesSign_46
    refine lv_icmp_ne (tgt := 29) hx hb dX10_takesSign_22 (by decide) (fun q15 => ?_) (fun q15 => ?_)
    · replace h := gf_s q15 h
      refine lv_iconst (v := 0) hx hb dX10_takesSign_29 (by decide) ?_
      exact JK10 _ _ _ _ h G (lv_sub hl [0] rfl)
    · replace h := gt_s q15 h
      refine lv_iconst (v := 1) hx hb dX10_takesSign_25 (by decide) ?_
      refine lv_goto (tgt := 30) hx hb dX10_takesSign_26 (by decide) ?_
      exact JK10 _ _ _ _ h G (lv_sub hl [0] rfl)
  · replace h := gf_s q3 h
    refine lv_iconst (v := 0) hx hb dX10_takesSign_7 (by decide) ?_
    cases h
    rw [← hQ]
    exact gx_zret F G hr hlocks rfl dX10_takesSign_8
def m_X10_starts (n : Nat) (t : Nat) (a1 : Int32) (c : gm) : Option (gm) :=
  gc (gck t = 10) (gv (gm_r c t (upd (c.1 t) 1 0)) (fun (c3 : gm) => gv (gm_r c3 t (upd (c3.1 t) 2 a1)) (fun (c4 : gm) => gv (gm_r c4 t (upd (c4.1 t) 4 0)) (fun (c5 : gm) => gv (gm_r c5 t (upd (c5.1 t) 5 0)) (fun (c6 : gm) => gv (gm_r c6 t (upd (c6.1 t) 6 (-1))) (fun (c7 : gm) => gv (gm_r c7 t (upd (c7.1 t) 7 0)) (fun (c8 : gm) => gv (gm_r c8 t (upd (c8.1 t) 8 0)) (fun (c9 : gm) => gb (m_X10_blanks n t c9) (fun (c12 : gm) => some c12)))))))))
abbrev rmX10_starts : Room := { frames := 2, cells := 0, slots := 0, locals := 41 }
set_option maxHeartbeats 4000000 in
set_option maxRecDepth 100000 in
theorem c_X10_starts (l : Launch) (sa : gSa) (D : va_G) (ad : Nat → Nat) (cy : Nat → ClassId) (N sz : Nat) (hN : 530 ≤ N) (hI : gI ad N) (c0 c : gm) {n : Nat} {t : Nat} {a1 : Int32} {cZ : gm} (h : m_X10_starts n t a1 c = some cZ) : Met l yX10_starts wsX10_starts rmX10_starts (va_Pc [.ref (ad t), .int a1] (gP sa D ad cy N sz c0 c)) (va_Qv (fun (_ : Unit) => True) (fun _ U => gE D ad cy N c0 cZ U) (gA ad N sz)) 0 0 (gA ad N sz) := by
  refine Met.ofW (cc := cX10_starts) (maxL := 2) (ret := none) (by decide) rfl ?_
  intro p e s m args below meth cod s₁ B hml hv
  obtain ⟨rfl, hsz, hP, hK, hZ⟩ := hv
  have hx := B.exec
  have hb := B.bytes
  have hr := B.returns
  have hts := atoms_spec (ws := wsX10_starts) B.pre
  have hown : s.vm.findClass RX10 = some m.cls := findClass_of_methodNamed B.named
  have hlocks := B.notSynchronized
  subst hsz
  have hl := lv_entry ([.ref (ad t), .int a1]) (n := 2) (Nat.le_of_ble_eq_true rfl)
  rw [lg_entry_eq]
  generalize (lg_sl ([.ref (ad t), .int a1]) ++ List.replicate (2 - (lg_sl ([.ref (ad t), .int a1])).length) Slot.unset).toArray = ls at hl ⊢
  have hl : lv_has ls 2 [(0, .ref (ad t)), (1, .int a1)] := hl
  have in10 : ∀ w ∈ wsX100, w ∈ wsX10_starts := by decide +kernel
  generalize hargs : ([.ref (ad t), .int a1] : List Value).toArray = args at *
  generalize hAe : gA ad N s.heap.size = A
  have F : gF sa D ad cy N A p s m args cod cX10_starts 2 wsX10_starts RX10 := ⟨hx, hb, hml, hown, hts, hK, hI, by rw [← hAe]; exact gA_ad, by rw [← hAe]; exact gA_sz, by rw [← hAe]; exact hZ⟩
  have G : gW D ad cy N A s.heap c0 c s.heap [] := ⟨hP, va_S.rf⟩
  generalize hQ : MQ below (va_Qv (fun (_ : Unit) => True) (fun _ U => gE D ad cy N c0 cZ U) A) args s 0 0 A = Q
  suffices hgen : ∀ (H : Heap) (locs : List Loc), gW D ad cy N A s.heap c0 c H locs → W p l e rmX10_starts s m args below meth cod H locs 0 0 Q (F0 m 0 ls []) from hgen _ _ G
  clear G
  intro H locs G
  unfold m_X10_starts at h
  refine lv_aload_n hx hb dX10_starts_0 rfl (lv_at hl 0 rfl) ?_
  refine lv_iconst (v := 0) hx hb dX10_starts_1 (by decide) ?_
  obtain ⟨hk1, h⟩ := gc_s h
  have ht2 : t < N := Nat.lt_of_lt_of_le (gck_lt10 hk1) hN
  refine fp_10_tape F G hk1 ht2 in10 (by decide +kernel) dX10_starts_2 (fun H locs G => ?_)
  obtain ⟨c3, ec3⟩ : ∃ z, z = gm_r c t (upd (c.1 t) 1 0) := ⟨_, rfl⟩
  rw [← ec3] at G
  replace h := gv_s h c3 ec3
  refine lv_aload_n hx hb dX10_starts_5 rfl (lv_at hl 0 rfl) ?_
  refine lv_iload_n hx hb dX10_starts_6 rfl (lv_at hl 1 rfl) ?_
  refine fp_10_size F G hk1 ht2 in10 (by decide +kernel) dX10_starts_7 (fun H locs G => ?_)
  obtain ⟨c4, ec4⟩ : ∃ z, z = gm_r c3 t (upd (c3.1 t) 2 a1) := ⟨_, rfl⟩
  rw [← ec4] at G
  replace h := gv_s h c4 ec4
  refine lv_aload_n hx hb dX10_starts_10 rfl (lv_at hl 0 rfl) ?_
  refine lv_iconst (v := 0) hx hb dX10_starts_11 (by decide) ?_
  refine fp_10_at F G hk1 ht2 in10 (by decide +kernel) dX10_starts_12 (fun H locs G => ?_)
  obtain ⟨c5, ec5⟩ : ∃ z, z = gm_r c4 t (upd (c4.1 t) 4 0) := ⟨_, rfl⟩
  rw [← ec5] at G
  replace h := gv_s h c5 ec5
  refine lv_aload_n hx hb dX10_starts_15 rfl (lv_at hl 0 rfl) ?_
  refine lv_iconst (v := 0) hx hb dX10_starts_16 (by decide) ?_
  refine fp_10_fault F G hk1 ht2 in10 (by decide +kernel) dX10_starts_17 (fun H locs G => ?_)
  obtain ⟨c6, ec6⟩ : ∃ z, z = gm_r c5 t (upd (c5.1 t) 5 0) := ⟨_, rfl⟩
  rw [← ec6] at G
  replace h := gv_s h c6 ec6
  refine lv_aload_n hx hb dX10_starts_20 rfl (lv_at hl 0 rfl) ?_
  refine lv_iconst (v := (-1)) hx hb dX10_starts_21 (by decide) ?_
  refine fp_10_faultAt F G hk1 ht2 in10 (by decide +kernel) dX10_starts_22 (fun H locs G => ?_)
  obtain ⟨c7, ec7⟩ : ∃ z, z = gm_r c6 t (upd (c6.1 t) 6 (-1)) := ⟨_, rfl⟩
  rw [← ec7] at G
  replace h := gv_s h c7 ec7
  refine lv_aload_n hx hb dX10_starts_25 rfl (lv_at hl 0 rfl) ?_
  refine lv_iconst (v := 0) hx hb dX10_starts_26 (by decide) ?_
  refine fp_10_clauses F G hk1 ht2 in10 (by decide +kernel) dX10_starts_27 (fun H locs G => ?_)
  obtain ⟨c8, ec8⟩ : ∃ z, z = gm_r c7 t (upd (c7.1 t) 7 0) := ⟨_, rfl⟩
  rw [← ec8] at G
  replace h := gv_s h c8 ec8
  refine lv_aload_n hx hb dX10_starts_30 rfl (lv_at hl 0 rfl) ?_
  refine lv_iconst (v := 0) hx hb dX10_starts_31 (by decide) ?_
  refine fp_10_open F G hk1 ht2 in10 (by decide +kernel) dX10_starts_32 (fun H locs G => ?_)
  obtain ⟨c9, ec9⟩ : ∃ z, z = gm_r c8 t (upd (c8.1 t) 8 0) := ⟨_, rfl⟩
  rw [← ec9] at G
  replace h := gv_s h c9 ec9
  refine lv_aload_n hx hb dX10_starts_35 rfl (lv_at hl 0 rfl) ?_
  obtain ⟨c12, hc10, h⟩ := gb_s h
  refine gx_callv F G (va_runV (As := []) (rest := []) (gx_fix F) (c_X10_blanks l sa D ad cy N H.size hN hI c0 c9 hc10) (cwV 0 hts gX10_starts_X10_blanks rfl rfl rfl (by decide +kernel) ⟨by decide, by decide⟩) (gx_rec F G ht2 (gwe_10 hk1) rfl) rfl rfl hl.1 rfl (lv_room (Nat.le_of_ble_eq_true rfl)) dX10_starts_36 ⟨Nat.zero_le _, Nat.zero_le _⟩) (fun H locs G => ?_)
  cases h
  rw [← hQ]
  exact gx_vret F G hr hlocks dX10_starts_39
def m_X10_ends (t : Nat) (c : gm) : Option (Int32 × gm) :=
  gc (gck t = 10) (gv (gm_r c t (upd (c.1 t) 3 (c.1 t 6))) (fun (c3 : gm) => some (((c3.1 t 5) - 10), c3)))
abbrev rmX10_ends : Room := { frames := 0, cells := 0, slots := 0, locals := 0 }
set_option maxHeartbeats 4000000 in
set_option maxRecDepth 100000 in
theorem c_X10_ends (l : Launch) (sa : gSa) (D : va_G) (ad : Nat → Nat) (cy : Nat → ClassId) (N sz : Nat) (hN : 530 ≤ N) (hI : gI ad N) (c0 c : gm) {t : Nat} {rZ : Int32} {cZ : gm} (h : m_X10_ends t c = some (rZ, cZ)) : Met l yX10_ends wsX10_ends rmX10_ends (va_Pc [.ref (ad t)] (gP sa D ad cy N sz c0 c)) (va_Qi (fun (z : Int32) (_ : Unit) => z = rZ) (fun _ U => gE D ad cy N c0 cZ U) (gA ad N sz)) 0 0 (gA ad N sz) := by
  refine Met.ofW (cc := cX10_ends) (maxL := 1) (ret := (some .int)) (by decide) rfl ?_
  intro p e s m args below meth cod s₁ B hml hv
  obtain ⟨rfl, hsz, hP, hK, hZ⟩ := hv
  have hx := B.exec
  have hb := B.bytes
  have hr := B.returns
  have hts := atoms_spec (ws := wsX10_ends) B.pre
  have hown : s.vm.findClass RX10 = some m.cls := findClass_of_methodNamed B.named
  have hlocks := B.notSynchronized
  subst hsz
  have hl := lv_entry ([.ref (ad t)]) (n := 1) (Nat.le_of_ble_eq_true rfl)
  rw [lg_entry_eq]
  generalize (lg_sl ([.ref (ad t)]) ++ List.replicate (1 - (lg_sl ([.ref (ad t)])).length) Slot.unset).toArray = ls at hl ⊢
  have hl : lv_has ls 1 [(0, .ref (ad t))] := hl
  have in10 : ∀ w ∈ wsX100, w ∈ wsX10_ends := by decide +kernel
  generalize hargs : ([.ref (ad t)] : List Value).toArray = args at *
  generalize hAe : gA ad N s.heap.size = A
  have F : gF sa D ad cy N A p s m args cod cX10_ends 1 wsX10_ends RX10 := ⟨hx, hb, hml, hown, hts, hK, hI, by rw [← hAe]; exact gA_ad, by rw [← hAe]; exact gA_sz, by rw [← hAe]; exact hZ⟩
  have G : gW D ad cy N A s.heap c0 c s.heap [] := ⟨hP, va_S.rf⟩
  generalize hQ : MQ below (va_Qi (fun (z : Int32) (_ : Unit) => z = rZ) (fun _ U => gE D ad cy N c0 cZ U) A) args s 0 0 A = Q
  suffices hgen : ∀ (H : Heap) (locs : List Loc), gW D ad cy N A s.heap c0 c H locs → W p l e rmX10_ends s m args below meth cod H locs 0 0 Q (F0 m 0 ls []) from hgen _ _ G
  clear G
  intro H locs G
  unfold m_X10_ends at h
  refine lv_aload_n hx hb dX10_ends_0 rfl (lv_at hl 0 rfl) ?_
  refine lv_aload_n hx hb dX10_ends_1 rfl (lv_at hl 0 rfl) ?_
  obtain ⟨hk1, h⟩ := gc_s h
  have ht2 : t < N := Nat.lt_of_lt_of_le (gck_lt10 hk1) hN
  refine fg_10_faultAt F G hk1 ht2 in10 (by decide +kernel) dX10_ends_2 ?_
  refine fp_10_place F G hk1 ht2 in10 (by decide +kernel) dX10_ends_5 (fun H locs G => ?_)
  obtain ⟨c3, ec3⟩ : ∃ z, z = gm_r c t (upd (c.1 t) 3 (c.1 t 6)) := ⟨_, rfl⟩
  rw [← ec3] at G
  replace h := gv_s h c3 ec3
  refine lv_aload_n hx hb dX10_ends_8 rfl (lv_at hl 0 rfl) ?_
  refine fg_10_fault F G hk1 ht2 in10 (by decide +kernel) dX10_ends_9 ?_
  refine lv_bipush (v := 10) hx hb dX10_ends_12 (by decide) ?_
  refine lv_isub hx hb dX10_ends_14 ?_
  cases h
  rw [← hQ]
  exact gx_iret F G hr hlocks dX10_ends_15
def m_X10_isSeven_L18 (t : Nat) (c6 : gm) (y8 : Int32) (y9 : Int32) : Option ((Int32 × Int32) ⊕ (Int32 × Int32)) :=
  gb (m_X10_byteAt t ((c6.1 t 4) + y9) c6) (fun (r27 : Int32) => gb (m_X10_isSmall r27) (fun (r29 : Int32) => (if r29 = 0 then some (.inr (y8, y9)) else gj (fun (v31 : Int32) => gv (y9 + 1) (fun (x33 : Int32) => some (.inl (v31, x33)))) (fun K32 => (if 6 ≤ y9 then K32 y8 else gb (m_X10_byteAt t ((c6.1 t 4) + y9) c6) (fun (r36 : Int32) => K32 ((((27 * y8) + r36) - 97) + 1)))))))
def m_X10_isSeven (n : Nat) (t : Nat) (a1 : Int32) (a2 : Int32) (c : gm) : Option (Int32 × gm) :=
  gc (gck t = 10) ((if (c.1 t 5) = 0 then gb (m_X10_blanks n t c) (fun (c6 : gm) => gb (gloop (gu2 (fun (y8 : Int32) (y9 : Int32) => m_X10_isSeven_L18 t c6 y8 y9)) n (0, 0)) (gu2 (fun (z10 : Int32) (z11 : Int32) => gj (fun (v12 : Int32) => (if v12 = 0 then gc (v12 = 0 ∨ v12 = 1) (some (v12, c6)) else gb (m_X10_skipWord n t c6) (fun (c18 : gm) => gc (v12 = 0 ∨ v12 = 1) (some (v12, c18))))) (fun K13 => gj (fun (_ : Unit) => K13 0) (fun K20 => (if z11 = 7 then (if z10 = a1 then gb (m_X10_byteAt t ((c6.1 t 4) + 6) c6) (fun (r24 : Int32) => (if r24 = a2 then K13 1 else K20 ())) else K20 ()) else K20 ())))))) else some (0, c)))
abbrev rmX10_isSeven : Room := { frames := 2, cells := 0, slots := 0, locals := 41 }
set_option maxHeartbeats 4000000 in
set_option maxRecDepth 100000 in
theorem c_X10_isSeven (l : Launch) (sa : gSa) (D : va_G) (ad : Nat → Nat) (cy : Nat → ClassId) (N sz : Nat) (hN : 530 ≤ N) (hI : gI ad N) (c0 c : gm) {n : Nat} {t : Nat} {a1 : Int32} {a2 : Int32} {rZ : Int32} {cZ : gm} (h : m_X10_isSeven n t a1 a2 c = some (rZ, cZ)) : Met l yX10_isSeven wsX10_isSeven rmX10_isSeven (va_Pc [.ref (ad t), .int a1, .int a2] (gP sa D ad cy N sz c0 c)) (va_Qi (fun (z : Int32) (_ : Unit) => z = rZ) (fun _ U => gE D ad cy N c0 cZ U) (gA ad N sz)) 0 0 (gA ad N sz) := by
  refine Met.ofW (cc := cX10_isSeven) (maxL := 6) (ret := (some .boolean)) (by decide) rfl ?_
  intro p e s m args below meth cod s₁ B hml hv
  obtain ⟨rfl, hsz, hP, hK, hZ⟩ := hv
  have hx := B.exec
  have hb := B.bytes
  have hr := B.returns
  have hts := atoms_spec (ws := wsX10_isSeven) B.pre
  have hown : s.vm.findClass RX10 = some m.cls := findClass_of_methodNamed B.named
  have hlocks := B.notSynchronized
  subst hsz
  have hl := lv_entry ([.ref (ad t), .int a1, .int a2]) (n := 6) (Nat.le_of_ble_eq_true rfl)
  rw [lg_entry_eq]
  generalize (lg_sl ([.ref (ad t), .int a1, .int a2]) ++ List.replicate (6 - (lg_sl ([.ref (ad t), .int a1, .int a2])).length) Slot.unset).toArray = ls at hl ⊢
  have hl : lv_has ls 6 [(0, .ref (ad t)), (1, .int a1), (2, .int a2)] := hl
  have in10 : ∀ w ∈ wsX100, w ∈ wsX10_isSeven := by decide +kernel
  generalize hargs : ([.ref (ad t), .int a1, .int a2] : List Value).toArray = args at *
  generalize hAe : gA ad N s.heap.size = A
  have F : gF sa D ad cy N A p s m args cod cX10_isSeven 6 wsX10_isSeven RX10 := ⟨hx, hb, hml, hown, hts, hK, hI, by rw [← hAe]; exact gA_ad, by rw [← hAe]; exact gA_sz, by rw [← hAe]; exact hZ⟩
  have G : gW D ad cy N A s.heap c0 c s.heap [] := ⟨hP, va_S.rf⟩
  generalize hQ : MQ below (va_Qi (fun (z : Int32) (_ : Unit) => z = rZ) (fun _ U => gE D ad cy N c0 cZ U) A) args s 0 0 A = Q
  suffices hgen : ∀ (H : Heap) (locs : List Loc), gW D ad cy N A s.heap c0 c H locs → W p l e rmX10_isSeven s m args below meth cod H locs 0 0 Q (F0 m 0 ls []) from hgen _ _ G
  clear G
  intro H locs G
  unfold m_X10_isSeven at h
  refine lv_aload_n hx hb dX10_isSeven_0 rfl (lv_at hl 0 rfl) ?_
  obtain ⟨hk1, h⟩ := gc_s h
  have ht2 : t < N := Nat.lt_of_lt_of_le (gck_lt10 hk1) hN
  refine fg_10_fault F G hk1 ht2 in10 (by decide +kernel) dX10_isSeven_1 ?_
  refine lv_if_eq (tgt := 9) hx hb dX10_isSeven_4 (by decide) (fun q3 => ?_) (fun q3 => ?_)
  · replace h := gt_s q3 h
    refine lv_aload_n hx hb dX10_isSeven_9 rfl (lv_at hl 0 rfl) ?_
    obtain ⟨c6, hc4, h⟩ := gb_s h
    refine gx_callv F G (va_runV (As := []) (rest := []) (gx_fix F) (c_X10_blanks l sa D ad cy N H.size hN hI c0 c hc4) (cwV 0 hts gX10_isSeven_X10_blanks rfl rfl rfl (by decide +kernel) ⟨by decide, by decide⟩) (gx_rec F G ht2 (gwe_10 hk1) rfl) rfl rfl hl.1 rfl (lv_room (Nat.le_of_ble_eq_true rfl)) dX10_isSeven_10 ⟨Nat.zero_le _, Nat.zero_le _⟩) (fun H locs G => ?_)
    refine lv_iconst (v := 0) hx hb dX10_isSeven_13 (by decide) ?_
    refine lv_istore_n (lv' := [(3, .int 0), (0, .ref (ad t)), (1, .int a1), (2, .int a2)]) hx hb dX10_isSeven_14 rfl hl (by decide) rfl (fun ls hl => ?_)
    refine lv_iconst (v := 0) hx hb dX10_isSeven_15 (by decide) ?_
    refine lv_istore (lv' := [(4, .int 0), (3, .int 0), (0, .ref (ad t)), (1, .int a1), (2, .int a2)]) hx hb dX10_isSeven_16 hl (by decide) rfl (fun ls hl => ?_)
    obtain ⟨b7, hb7, hK7⟩ := gb_s h
    have E7 : ∀ (z10 : Int32) (z11 : Int32) (H : Heap) (locs : List Loc) (ls : Array Slot), ((z10, z11) : Int32 × Int32) = b7 → gW D ad cy N A s.heap c0 c6 H locs → lv_has ls 6 [(0, .ref (ad t)), (1, .int a1), (2, .int a2), (3, .int z10), (4, .int z11)] → W p l e rmX10_isSeven s m args below meth cod H locs 0 0 Q (F0 m 74 ls []) := by
      intro z10 z11 H locs ls hq7 G hl
      subst hq7
      replace hK7 := hK7
      replace hK7 := gu2_s hK7
      have h := hK7
      refine lv_iload hx hb dX10_isSeven_74 (lv_at hl 4 rfl) ?_
      refine lv_bipush (v := 7) hx hb dX10_isSeven_76 (by decide) ?_
      obtain ⟨K13, eK13, h⟩ := gj_s h
      have JK13 : ∀ (v12 : Int32) (H : Heap) (locs : List Loc) (ls : Array Slot), K13 v12 = some (rZ, cZ) → gW D ad cy N A s.heap c0 c6 H locs → lv_has ls 6 [(0, .ref (ad t))] → W p l e rmX10_isSeven s m args below meth cod H locs 0 0 Q (F0 m 106 ls [.int v12]) := by
        intro v12 H locs ls h G hl
        rw [eK13] at h
        refine lv_istore (lv' := [(5, .int v12), (0, .ref (ad t))]) hx hb dX10_isSeven_106 hl (by decide) rfl (fun ls hl => ?_)
        refine lv_iload hx hb dX10_isSeven_108 (lv_at hl 0 rfl) ?_
        refine lv_if_eq (tgt := 117) hx hb dX10_isSeven_110 (by decide) (fun q14 => ?_) (fun q14 => ?_)
        · replace h := gt_s q14 h
          refine lv_iload hx hb dX10_isSeven_117 (lv_at hl 0 rfl) ?_
          obtain ⟨hz15, h⟩ := gc_s h
          cases h
          rw [← hQ]
          exact gx_zret F G hr hlocks (gnb hz15) dX10_isSeven_119
        · replace h := gf_s q14 h
          refine lv_aload_n hx hb dX10_isSeven_113 rfl (lv_at hl 1 rfl) ?_
          obtain ⟨c18, hc16, h⟩ := gb_s h
          refine gx_callv F G (va_runV (As := []) (rest := []) (gx_fix F) (c_X10_skipWord l sa D ad cy N H.size hN hI c0 c6 hc16) (cwV 0 hts gX10_isSeven_X10_skipWord rfl rfl rfl (by decide +kernel) ⟨by decide, by decide⟩) (gx_rec F G ht2 (gwe_10 hk1) rfl) rfl rfl hl.1 rfl (lv_room (Nat.le_of_ble_eq_true rfl)) dX10_isSeven_114 ⟨Nat.zero_le _, Nat.zero_le _⟩) (fun H locs G => ?_)
          refine lv_iload hx hb dX10_isSeven_117 (lv_at hl 0 rfl) ?_
          obtain ⟨hz19, h⟩ := gc_s h
          cases h
          rw [← hQ]
          exact gx_zret F G hr hlocks (gnb hz19) dX10_isSeven_119
      obtain ⟨K20, eK20, h⟩ := gj_s h
      have JK20 : ∀ (H : Heap) (locs : List Loc) (ls : Array Slot), K20 () = some (rZ, cZ) → gW D ad cy N A s.heap c0 c6 H locs → lv_has ls 6 [(0, .ref (ad t))] → W p l e rmX10_isSeven s m args below meth cod H locs 0 0 Q (F0 m 105 ls []) := by
        intro  H locs ls h G hl
        rw [eK20] at h
        refine lv_iconst (v := 0) hx hb dX10_isSeven_105 (by decide) ?_
        exact JK13 _ _ _ _ h G hl
      refine lv_icmp_ne (tgt := 105) hx hb dX10_isSeven_78 (by decide) (fun q21 => ?_) (fun q21 => ?_)
      · replace h := gf_s q21 h
        exact JK20  _ _ _ h G (lv_sub hl [0] rfl)
      · replace h := gt_s q21 h
        refine lv_iload_n hx hb dX10_isSeven_81 rfl (lv_at hl 3 rfl) ?_
        refine lv_iload_n hx hb dX10_isSeven_82 rfl (lv_at hl 1 rfl) ?_
        refine lv_icmp_ne (tgt := 105) hx hb dX10_isSeven_83 (by decide) (fun q22 => ?_) (fun q22 => ?_)
        · replace h := gf_s q22 h
          exact JK20  _ _ _ h G (lv_sub hl [0] rfl)
        · replace h := gt_s q22 h
          refine lv_aload_n hx hb dX10_isSeven_86 rfl (lv_at hl 0 rfl) ?_
          refine lv_aload_n hx hb dX10_isSeven_87 rfl (lv_at hl 0 rfl) ?_
          refine fg_10_at F G hk1 ht2 in10 (by decide +kernel) dX10_isSeven_88 ?_
          refine lv_bipush (v := 6) hx hb dX10_isSeven_91 (by decide) ?_
          refine lv_iadd hx hb dX10_isSeven_93 ?_
          obtain ⟨r24, hc23, h⟩ := gb_s h
          refine gx_calli F G (va_runV (As := [.int ((c6.1 t 4) + 6)]) (rest := []) (gx_fix F) (c_X10_byteAt l sa D ad cy N H.size hN hI c0 c6 hc23) (cwV 1 hts gX10_isSeven_X10_byteAt rfl rfl rfl (by decide +kernel) ⟨by decide, by decide⟩) (gx_rec F G ht2 (gwe_10 hk1) rfl) rfl rfl hl.1 rfl (lv_room (Nat.le_of_ble_eq_true rfl)) dX10_isSeven_94 ⟨Nat.zero_le _, Nat.zero_le _⟩) (fun H locs G => ?_)
          refine lv_iload_n hx hb dX10_isSeven_97 rfl (lv_at hl 2 rfl) ?_
          refine lv_icmp_ne (tgt := 105) hx hb dX10_isSeven_98 (by decide) (fun q25 => ?_) (fun q25 => ?_)
          · replace h := gf_s q25 h
            exact JK20  _ _ _ h G (lv_sub hl [0] rfl)
          · replace h := gt_s q25 h
            refine lv_iconst (v := 1) hx hb dX10_isSeven_101 (by decide) ?_
            refine lv_goto (tgt := 106) hx hb dX10_isSeven_102 (by decide) ?_
            exact JK13 _ _ _ _ h G (lv_sub hl [0] rfl)
    have L7 : ∀ (n9 : Nat) (y8 : Int32) (y9 : Int32) (H : Heap) (locs : List Loc) (ls : Array Slot), gloop (gu2 (fun (y8 : Int32) (y9 : Int32) => m_X10_isSeven_L18 t c6 y8 y9)) n9 (y8, y9) = some b7 → gW D ad cy N A s.heap c0 c6 H locs → lv_has ls 6 [(0, .ref (ad t)), (1, .int a1), (2, .int a2), (3, .int y8), (4, .int y9)] → W p l e rmX10_isSeven s m args below meth cod H locs 0 0 Q (F0 m 18 ls []) := by
      intro n9
      induction n9 with
      | zero => intro y8 y9 H locs ls h; exact (gloop_0 h).elim
      | succ n9 ih =>
        intro y8 y9 H locs ls h G hl
        have ih7 := ih
        obtain ⟨o7, h, hn7⟩ := gloop_s h
        replace h := gu2_s h
        unfold m_X10_isSeven_L18 at h
        refine lv_aload_n hx hb dX10_isSeven_18 rfl (lv_at hl 0 rfl) ?_
        refine lv_aload_n hx hb dX10_isSeven_19 rfl (lv_at hl 0 rfl) ?_
        refine fg_10_at F G hk1 ht2 in10 (by decide +kernel) dX10_isSeven_20 ?_
        refine lv_iload hx hb dX10_isSeven_23 (lv_at hl 4 rfl) ?_
        refine lv_iadd hx hb dX10_isSeven_25 ?_
        obtain ⟨r27, hc26, h⟩ := gb_s h
        refine gx_calli F G (va_runV (As := [.int ((c6.1 t 4) + y9)]) (rest := []) (gx_fix F) (c_X10_byteAt l sa D ad cy N H.size hN hI c0 c6 hc26) (cwV 1 hts gX10_isSeven_X10_byteAt rfl rfl rfl (by decide +kernel) ⟨by decide, by decide⟩) (gx_rec F G ht2 (gwe_10 hk1) rfl) rfl rfl hl.1 rfl (lv_room (Nat.le_of_ble_eq_true rfl)) dX10_isSeven_26 ⟨Nat.zero_le _, Nat.zero_le _⟩) (fun H locs G => ?_)
        obtain ⟨r29, hc28, h⟩ := gb_s h
        refine gx_calli F G (va_runS (As := [.int r27]) (rest := []) (gx_fix F) (c_X10_isSmall l sa D ad cy N H.size hN hI c0 c6 hc28) (va_cwS 1 hts gX10_isSeven_X10_isSmall rfl rfl rfl (by decide +kernel) ⟨by decide, by decide⟩) (gx_pre F G) rfl rfl hl.1 rfl (lv_room (Nat.le_of_ble_eq_true rfl)) dX10_isSeven_29 ⟨Nat.zero_le _, Nat.zero_le _⟩) (fun H locs G => ?_)
        refine lv_if_eq (tgt := 74) hx hb dX10_isSeven_32 (by decide) (fun q30 => ?_) (fun q30 => ?_)
        · replace h := gt_s q30 h
          cases h
          exact E7 _ _ _ _ _ (gnx_r hn7) G hl
        · replace h := gf_s q30 h
          refine lv_iload hx hb dX10_isSeven_35 (lv_at hl 4 rfl) ?_
          refine lv_bipush (v := 6) hx hb dX10_isSeven_37 (by decide) ?_
          obtain ⟨K32, eK32, h⟩ := gj_s h
          have JK32 : ∀ (v31 : Int32) (H : Heap) (locs : List Loc) (ls : Array Slot), K32 v31 = some o7 → gW D ad cy N A s.heap c0 c6 H locs → lv_has ls 6 [(0, .ref (ad t)), (1, .int a1), (2, .int a2), (4, .int y9)] → W p l e rmX10_isSeven s m args below meth cod H locs 0 0 Q (F0 m 67 ls [.int v31]) := by
            intro v31 H locs ls h G hl
            rw [eK32] at h
            refine lv_istore_n (lv' := [(3, .int v31), (0, .ref (ad t)), (1, .int a1), (2, .int a2), (4, .int y9)]) hx hb dX10_isSeven_67 rfl hl (by decide) rfl (fun ls hl => ?_)
            obtain ⟨x33, ex33⟩ : ∃ z : Int32, z = y9 + 1 := ⟨_, rfl⟩
            replace h := gv_s h x33 ex33
            refine lv_iinc (v := x33) (lv' := [(4, .int x33), (3, .int v31), (0, .ref (ad t)), (1, .int a1), (2, .int a2)]) hx hb dX10_isSeven_68 hl (k := 4) rfl (by rw [ex33]; rfl) (by decide) rfl (fun ls hl => ?_)
            refine lv_goto (tgt := 18) hx hb dX10_isSeven_71 (by decide) ?_
            cases h
            exact ih7 _ _ _ _ _ hn7 G (lv_sub hl [2, 3, 4, 1, 0] rfl)
          refine lv_icmp_ge (tgt := 66) hx hb dX10_isSeven_39 (by decide) (fun q34 => ?_) (fun q34 => ?_)
          · replace h := gt_s q34 h
            refine lv_iload_n hx hb dX10_isSeven_66 rfl (lv_at hl 3 rfl) ?_
            exact JK32 _ _ _ _ h G (lv_sub hl [0, 1, 2, 4] rfl)
          · replace h := gf_s q34 h
            refine lv_bipush (v := 27) hx hb dX10_isSeven_42 (by decide) ?_
            refine lv_iload_n hx hb dX10_isSeven_44 rfl (lv_at hl 3 rfl) ?_
            refine lv_imul hx hb dX10_isSeven_45 ?_
            refine lv_aload_n hx hb dX10_isSeven_46 rfl (lv_at hl 0 rfl) ?_
            refine lv_aload_n hx hb dX10_isSeven_47 rfl (lv_at hl 0 rfl) ?_
            refine fg_10_at F G hk1 ht2 in10 (by decide +kernel) dX10_isSeven_48 ?_
            refine lv_iload hx hb dX10_isSeven_51 (lv_at hl 4 rfl) ?_
            refine lv_iadd hx hb dX10_isSeven_53 ?_
            obtain ⟨r36, hc35, h⟩ := gb_s h
            refine gx_calli F G (va_runV (As := [.int ((c6.1 t 4) + y9)]) (rest := [.int (27 * y8)]) (gx_fix F) (c_X10_byteAt l sa D ad cy N H.size hN hI c0 c6 hc35) (cwV 1 hts gX10_isSeven_X10_byteAt rfl rfl rfl (by decide +kernel) ⟨by decide, by decide⟩) (gx_rec F G ht2 (gwe_10 hk1) rfl) rfl rfl hl.1 rfl (lv_room (Nat.le_of_ble_eq_true rfl)) dX10_isSeven_54 ⟨Nat.zero_le _, Nat.zero_le _⟩) (fun H locs G => ?_)
            refine lv_iadd hx hb dX10_isSeven_57 ?_
            refine lv_bipush (v := 97) hx hb dX10_isSeven_58 (by decide) ?_
            refine lv_isub hx hb dX10_isSeven_60 ?_
            refine lv_iconst (v := 1) hx hb dX10_isSeven_61 (by decide) ?_
            refine lv_iadd hx hb dX10_isSeven_62 ?_
            refine lv_goto (tgt := 67) hx hb dX10_isSeven_63 (by decide) ?_
            exact JK32 _ _ _ _ h G (lv_sub hl [0, 1, 2, 4] rfl)
    exact L7 n _ _ _ _ _ hb7 G (lv_sub hl [2, 3, 4, 1, 0] rfl)
  · replace h := gf_s q3 h
    refine lv_iconst (v := 0) hx hb dX10_isSeven_7 (by decide) ?_
    cases h
    rw [← hQ]
    exact gx_zret F G hr hlocks rfl dX10_isSeven_8
def m_X10_kindHere (n : Nat) (t : Nat) (c : gm) : Option (Int32 × gm) :=
  gc (gck t = 10) (gb2 (m_X10_isWord n t 20 8 9 14 7 0 c) (fun (r4 : Int32) (c5 : gm) => (if r4 = 0 then gb2 (m_X10_isWord n t 3 18 25 0 0 0 c5) (fun (r8 : Int32) (c9 : gm) => (if r8 = 0 then gb2 (m_X10_isWord n t 2 5 1 13 0 0 c9) (fun (r12 : Int32) (c13 : gm) => (if r12 = 0 then some ((-1), c13) else some (2, c13))) else some (1, c9))) else some (0, c5))))
abbrev rmX10_kindHere : Room := { frames := 4, cells := 0, slots := 0, locals := 89 }
set_option maxHeartbeats 4000000 in
set_option maxRecDepth 100000 in
theorem c_X10_kindHere (l : Launch) (sa : gSa) (D : va_G) (ad : Nat → Nat) (cy : Nat → ClassId) (N sz : Nat) (hN : 530 ≤ N) (hI : gI ad N) (c0 c : gm) {n : Nat} {t : Nat} {rZ : Int32} {cZ : gm} (h : m_X10_kindHere n t c = some (rZ, cZ)) : Met l yX10_kindHere wsX10_kindHere rmX10_kindHere (va_Pc [.ref (ad t)] (gP sa D ad cy N sz c0 c)) (va_Qi (fun (z : Int32) (_ : Unit) => z = rZ) (fun _ U => gE D ad cy N c0 cZ U) (gA ad N sz)) 0 0 (gA ad N sz) := by
  refine Met.ofW (cc := cX10_kindHere) (maxL := 1) (ret := (some .int)) (by decide) rfl ?_
  intro p e s m args below meth cod s₁ B hml hv
  obtain ⟨rfl, hsz, hP, hK, hZ⟩ := hv
  have hx := B.exec
  have hb := B.bytes
  have hr := B.returns
  have hts := atoms_spec (ws := wsX10_kindHere) B.pre
  have hown : s.vm.findClass RX10 = some m.cls := findClass_of_methodNamed B.named
  have hlocks := B.notSynchronized
  subst hsz
  have hl := lv_entry ([.ref (ad t)]) (n := 1) (Nat.le_of_ble_eq_true rfl)
  rw [lg_entry_eq]
  generalize (lg_sl ([.ref (ad t)]) ++ List.replicate (1 - (lg_sl ([.ref (ad t)])).length) Slot.unset).toArray = ls at hl ⊢
  have hl : lv_has ls 1 [(0, .ref (ad t))] := hl
  generalize hargs : ([.ref (ad t)] : List Value).toArray = args at *
  generalize hAe : gA ad N s.heap.size = A
  have F : gF sa D ad cy N A p s m args cod cX10_kindHere 1 wsX10_kindHere RX10 := ⟨hx, hb, hml, hown, hts, hK, hI, by rw [← hAe]; exact gA_ad, by rw [← hAe]; exact gA_sz, by rw [← hAe]; exact hZ⟩
  have G : gW D ad cy N A s.heap c0 c s.heap [] := ⟨hP, va_S.rf⟩
  generalize hQ : MQ below (va_Qi (fun (z : Int32) (_ : Unit) => z = rZ) (fun _ U => gE D ad cy N c0 cZ U) A) args s 0 0 A = Q
  suffices hgen : ∀ (H : Heap) (locs : List Loc), gW D ad cy N A s.heap c0 c H locs → W p l e rmX10_kindHere s m args below meth cod H locs 0 0 Q (F0 m 0 ls []) from hgen _ _ G
  clear G
  intro H locs G
  unfold m_X10_kindHere at h
  refine lv_aload_n hx hb dX10_kindHere_0 rfl (lv_at hl 0 rfl) ?_
  refine lv_bipush (v := 20) hx hb dX10_kindHere_1 (by decide) ?_
  refine lv_bipush (v := 8) hx hb dX10_kindHere_3 (by decide) ?_
  refine lv_bipush (v := 9) hx hb dX10_kindHere_5 (by decide) ?_
  refine lv_bipush (v := 14) hx hb dX10_kindHere_7 (by decide) ?_
  refine lv_bipush (v := 7) hx hb dX10_kindHere_9 (by decide) ?_
  refine lv_iconst (v := 0) hx hb dX10_kindHere_11 (by decide) ?_
  obtain ⟨hk1, h⟩ := gc_s h
  have ht2 : t < N := Nat.lt_of_lt_of_le (gck_lt10 hk1) hN
  obtain ⟨r4, c5, hc3, h⟩ := gb2_s h
  refine gx_calli F G (va_runV (As := [.int 20, .int 8, .int 9, .int 14, .int 7, .int 0]) (rest := []) (gx_fix F) (c_X10_isWord l sa D ad cy N H.size hN hI c0 c hc3) (cwV 6 hts gX10_kindHere_X10_isWord rfl rfl rfl (by decide +kernel) ⟨by decide, by decide⟩) (gx_rec F G ht2 (gwe_10 hk1) rfl) rfl rfl hl.1 rfl (lv_room (Nat.le_of_ble_eq_true rfl)) dX10_kindHere_12 ⟨Nat.zero_le _, Nat.zero_le _⟩) (fun H locs G => ?_)
  refine lv_if_eq (tgt := 20) hx hb dX10_kindHere_15 (by decide) (fun q6 => ?_) (fun q6 => ?_)
  · replace h := gt_s q6 h
    refine lv_aload_n hx hb dX10_kindHere_20 rfl (lv_at hl 0 rfl) ?_
    refine lv_iconst (v := 3) hx hb dX10_kindHere_21 (by decide) ?_
    refine lv_bipush (v := 18) hx hb dX10_kindHere_22 (by decide) ?_
    refine lv_bipush (v := 25) hx hb dX10_kindHere_24 (by decide) ?_
    refine lv_iconst (v := 0) hx hb dX10_kindHere_26 (by decide) ?_
    refine lv_iconst (v := 0) hx hb dX10_kindHere_27 (by decide) ?_
    refine lv_iconst (v := 0) hx hb dX10_kindHere_28 (by decide) ?_
    obtain ⟨r8, c9, hc7, h⟩ := gb2_s h
    refine gx_calli F G (va_runV (As := [.int 3, .int 18, .int 25, .int 0, .int 0, .int 0]) (rest := []) (gx_fix F) (c_X10_isWord l sa D ad cy N H.size hN hI c0 c5 hc7) (cwV 6 hts gX10_kindHere_X10_isWord rfl rfl rfl (by decide +kernel) ⟨by decide, by decide⟩) (gx_rec F G ht2 (gwe_10 hk1) rfl) rfl rfl hl.1 rfl (lv_room (Nat.le_of_ble_eq_true rfl)) dX10_kindHere_29 ⟨Nat.zero_le _, Nat.zero_le _⟩) (fun H locs G => ?_)
    refine lv_if_eq (tgt := 37) hx hb dX10_kindHere_32 (by decide) (fun q10 => ?_) (fun q10 => ?_)
    · replace h := gt_s q10 h
      refine lv_aload_n hx hb dX10_kindHere_37 rfl (lv_at hl 0 rfl) ?_
      refine lv_iconst (v := 2) hx hb dX10_kindHere_38 (by decide) ?_
      refine lv_iconst (v := 5) hx hb dX10_kindHere_39 (by decide) ?_
      refine lv_iconst (v := 1) hx hb dX10_kindHere_40 (by decide) ?_
      refine lv_bipush (v := 13) hx hb dX10_kindHere_41 (by decide) ?_
      refine lv_iconst (v := 0) hx hb dX10_kindHere_43 (by decide) ?_
      refine lv_iconst (v := 0) hx hb dX10_kindHere_44 (by decide) ?_
      obtain ⟨r12, c13, hc11, h⟩ := gb2_s h
      refine gx_calli F G (va_runV (As := [.int 2, .int 5, .int 1, .int 13, .int 0, .int 0]) (rest := []) (gx_fix F) (c_X10_isWord l sa D ad cy N H.size hN hI c0 c9 hc11) (cwV 6 hts gX10_kindHere_X10_isWord rfl rfl rfl (by decide +kernel) ⟨by decide, by decide⟩) (gx_rec F G ht2 (gwe_10 hk1) rfl) rfl rfl hl.1 rfl (lv_room (Nat.le_of_ble_eq_true rfl)) dX10_kindHere_45 ⟨Nat.zero_le _, Nat.zero_le _⟩) (fun H locs G => ?_)
      refine lv_if_eq (tgt := 55) hx hb dX10_kindHere_48 (by decide) (fun q14 => ?_) (fun q14 => ?_)
      · replace h := gt_s q14 h
        refine lv_iconst (v := (-1)) hx hb dX10_kindHere_55 (by decide) ?_
        cases h
        rw [← hQ]
        exact gx_iret F G hr hlocks dX10_kindHere_56
      · replace h := gf_s q14 h
        refine lv_iconst (v := 2) hx hb dX10_kindHere_51 (by decide) ?_
        refine lv_goto (tgt := 56) hx hb dX10_kindHere_52 (by decide) ?_
        cases h
        rw [← hQ]
        exact gx_iret F G hr hlocks dX10_kindHere_56
    · replace h := gf_s q10 h
      refine lv_iconst (v := 1) hx hb dX10_kindHere_35 (by decide) ?_
      cases h
      rw [← hQ]
      exact gx_iret F G hr hlocks dX10_kindHere_36
  · replace h := gf_s q6 h
    refine lv_iconst (v := 0) hx hb dX10_kindHere_18 (by decide) ?_
    cases h
    rw [← hQ]
    exact gx_iret F G hr hlocks dX10_kindHere_19
def m_X10_mostOf (a1 : Int32) : Option (Int32) :=
  (if a1 = 0 then some 8 else some 10)
abbrev rmX10_mostOf : Room := { frames := 0, cells := 0, slots := 0, locals := 0 }
set_option maxHeartbeats 4000000 in
set_option maxRecDepth 100000 in
theorem c_X10_mostOf (l : Launch) (sa : gSa) (D : va_G) (ad : Nat → Nat) (cy : Nat → ClassId) (N sz : Nat) (hN : 530 ≤ N) (hI : gI ad N) (c0 c : gm) {a1 : Int32} {rZ : Int32} (h : m_X10_mostOf a1 = some rZ) : Met l yX10_mostOf wsX10_mostOf rmX10_mostOf (va_Pc [.int a1] (gP sa D ad cy N sz c0 c)) (va_Qi (fun (z : Int32) (_ : Unit) => z = rZ) (fun _ U => gE D ad cy N c0 c U) (gA ad N sz)) 0 0 (gA ad N sz) := by
  refine Met.ofW (cc := cX10_mostOf) (maxL := 1) (ret := (some .int)) (by decide) rfl ?_
  intro p e s m args below meth cod s₁ B hml hv
  obtain ⟨rfl, hsz, hP, hK, hZ⟩ := hv
  have hx := B.exec
  have hb := B.bytes
  have hr := B.returns
  have hts := atoms_spec (ws := wsX10_mostOf) B.pre
  have hown : s.vm.findClass RX10 = some m.cls := findClass_of_methodNamed B.named
  have hlocks := B.notSynchronized
  subst hsz
  have hl := lv_entry ([.int a1]) (n := 1) (Nat.le_of_ble_eq_true rfl)
  rw [lg_entry_eq]
  generalize (lg_sl ([.int a1]) ++ List.replicate (1 - (lg_sl ([.int a1])).length) Slot.unset).toArray = ls at hl ⊢
  have hl : lv_has ls 1 [(0, .int a1)] := hl
  generalize hargs : ([.int a1] : List Value).toArray = args at *
  generalize hAe : gA ad N s.heap.size = A
  have F : gF sa D ad cy N A p s m args cod cX10_mostOf 1 wsX10_mostOf RX10 := ⟨hx, hb, hml, hown, hts, hK, hI, by rw [← hAe]; exact gA_ad, by rw [← hAe]; exact gA_sz, by rw [← hAe]; exact hZ⟩
  have G : gW D ad cy N A s.heap c0 c s.heap [] := ⟨hP, va_S.rf⟩
  generalize hQ : MQ below (va_Qi (fun (z : Int32) (_ : Unit) => z = rZ) (fun _ U => gE D ad cy N c0 c U) A) args s 0 0 A = Q
  suffices hgen : ∀ (H : Heap) (locs : List Loc), gW D ad cy N A s.heap c0 c H locs → W p l e rmX10_mostOf s m args below meth cod H locs 0 0 Q (F0 m 0 ls []) from hgen _ _ G
  clear G
  intro H locs G
  unfold m_X10_mostOf at h
  refine lv_iload_n hx hb dX10_mostOf_0 rfl (lv_at hl 0 rfl) ?_
  refine lv_if_ne (tgt := 9) hx hb dX10_mostOf_1 (by decide) (fun q1 => ?_) (fun q1 => ?_)
  · replace h := gf_s q1 h
    refine lv_bipush (v := 10) hx hb dX10_mostOf_9 (by decide) ?_
    cases h
    rw [← hQ]
    exact gx_iret F G hr hlocks dX10_mostOf_11
  · replace h := gt_s q1 h
    refine lv_bipush (v := 8) hx hb dX10_mostOf_4 (by decide) ?_
    refine lv_goto (tgt := 11) hx hb dX10_mostOf_6 (by decide) ?_
    cases h
    rw [← hQ]
    exact gx_iret F G hr hlocks dX10_mostOf_11
def m_X10_otherThing (n : Nat) (t : Nat) (a1 : Int32) (a2 : Int32) (c : gm) : Option (Int32 × gm) :=
  gc (gck t = 10) (gb (m_X10_blanks n t c) (fun (c5 : gm) => gv (c5.1 t 4) (fun (x6 : Int32) => gb2 (m_X10_number n t 0 (a2 - 1) c5) (fun (r8 : Int32) (c9 : gm) => (if (c9.1 t 5) = 0 then (if a1 = r8 then gb (m_X10_wrong t 2 x6 c9) (fun (c14 : gm) => some (r8, c14)) else some (r8, c9)) else some (r8, c9))))))
abbrev rmX10_otherThing : Room := { frames := 3, cells := 0, slots := 0, locals := 65 }
set_option maxHeartbeats 4000000 in
set_option maxRecDepth 100000 in
theorem c_X10_otherThing (l : Launch) (sa : gSa) (D : va_G) (ad : Nat → Nat) (cy : Nat → ClassId) (N sz : Nat) (hN : 530 ≤ N) (hI : gI ad N) (c0 c : gm) {n : Nat} {t : Nat} {a1 : Int32} {a2 : Int32} {rZ : Int32} {cZ : gm} (h : m_X10_otherThing n t a1 a2 c = some (rZ, cZ)) : Met l yX10_otherThing wsX10_otherThing rmX10_otherThing (va_Pc [.ref (ad t), .int a1, .int a2] (gP sa D ad cy N sz c0 c)) (va_Qi (fun (z : Int32) (_ : Unit) => z = rZ) (fun _ U => gE D ad cy N c0 cZ U) (gA ad N sz)) 0 0 (gA ad N sz) := by
  refine Met.ofW (cc := cX10_otherThing) (maxL := 5) (ret := (some .int)) (by decide) rfl ?_
  intro p e s m args below meth cod s₁ B hml hv
  obtain ⟨rfl, hsz, hP, hK, hZ⟩ := hv
  have hx := B.exec
  have hb := B.bytes
  have hr := B.returns
  have hts := atoms_spec (ws := wsX10_otherThing) B.pre
  have hown : s.vm.findClass RX10 = some m.cls := findClass_of_methodNamed B.named
  have hlocks := B.notSynchronized
  subst hsz
  have hl := lv_entry ([.ref (ad t), .int a1, .int a2]) (n := 5) (Nat.le_of_ble_eq_true rfl)
  rw [lg_entry_eq]
  generalize (lg_sl ([.ref (ad t), .int a1, .int a2]) ++ List.replicate (5 - (lg_sl ([.ref (ad t), .int a1, .int a2])).length) Slot.unset).toArray = ls at hl ⊢
  have hl : lv_has ls 5 [(0, .ref (ad t)), (1, .int a1), (2, .int a2)] := hl
  have in10 : ∀ w ∈ wsX100, w ∈ wsX10_otherThing := by decide +kernel
  generalize hargs : ([.ref (ad t), .int a1, .int a2] : List Value).toArray = args at *
  generalize hAe : gA ad N s.heap.size = A
  have F : gF sa D ad cy N A p s m args cod cX10_otherThing 5 wsX10_otherThing RX10 := ⟨hx, hb, hml, hown, hts, hK, hI, by rw [← hAe]; exact gA_ad, by rw [← hAe]; exact gA_sz, by rw [← hAe]; exact hZ⟩
  have G : gW D ad cy N A s.heap c0 c s.heap [] := ⟨hP, va_S.rf⟩
  generalize hQ : MQ below (va_Qi (fun (z : Int32) (_ : Unit) => z = rZ) (fun _ U => gE D ad cy N c0 cZ U) A) args s 0 0 A = Q
  suffices hgen : ∀ (H : Heap) (locs : List Loc), gW D ad cy N A s.heap c0 c H locs → W p l e rmX10_otherThing s m args below meth cod H locs 0 0 Q (F0 m 0 ls []) from hgen _ _ G
  clear G
  intro H locs G
  unfold m_X10_otherThing at h
  refine lv_aload_n hx hb dX10_otherThing_0 rfl (lv_at hl 0 rfl) ?_
  obtain ⟨hk1, h⟩ := gc_s h
  have ht2 : t < N := Nat.lt_of_lt_of_le (gck_lt10 hk1) hN
  obtain ⟨c5, hc3, h⟩ := gb_s h
  refine gx_callv F G (va_runV (As := []) (rest := []) (gx_fix F) (c_X10_blanks l sa D ad cy N H.size hN hI c0 c hc3) (cwV 0 hts gX10_otherThing_X10_blanks rfl rfl rfl (by decide +kernel) ⟨by decide, by decide⟩) (gx_rec F G ht2 (gwe_10 hk1) rfl) rfl rfl hl.1 rfl (lv_room (Nat.le_of_ble_eq_true rfl)) dX10_otherThing_1 ⟨Nat.zero_le _, Nat.zero_le _⟩) (fun H locs G => ?_)
  refine lv_aload_n hx hb dX10_otherThing_4 rfl (lv_at hl 0 rfl) ?_
  refine fg_10_at F G hk1 ht2 in10 (by decide +kernel) dX10_otherThing_5 ?_
  refine lv_topi (fun x6 ex6 => ?_)
  replace h := gv_s h x6 ex6
  refine lv_istore_n (lv' := [(3, .int x6), (0, .ref (ad t)), (1, .int a1), (2, .int a2)]) hx hb dX10_otherThing_8 rfl hl (by decide) rfl (fun ls hl => ?_)
  refine lv_aload_n hx hb dX10_otherThing_9 rfl (lv_at hl 1 rfl) ?_
  refine lv_iconst (v := 0) hx hb dX10_otherThing_10 (by decide) ?_
  refine lv_iload_n hx hb dX10_otherThing_11 rfl (lv_at hl 3 rfl) ?_
  refine lv_iconst (v := 1) hx hb dX10_otherThing_12 (by decide) ?_
  refine lv_isub hx hb dX10_otherThing_13 ?_
  obtain ⟨r8, c9, hc7, h⟩ := gb2_s h
  refine gx_calli F G (va_runV (As := [.int 0, .int (a2 - 1)]) (rest := []) (gx_fix F) (c_X10_number l sa D ad cy N H.size hN hI c0 c5 hc7) (cwV 2 hts gX10_otherThing_X10_number rfl rfl rfl (by decide +kernel) ⟨by decide, by decide⟩) (gx_rec F G ht2 (gwe_10 hk1) rfl) rfl rfl hl.1 rfl (lv_room (Nat.le_of_ble_eq_true rfl)) dX10_otherThing_14 ⟨Nat.zero_le _, Nat.zero_le _⟩) (fun H locs G => ?_)
  refine lv_istore (lv' := [(4, .int r8), (3, .int x6), (0, .ref (ad t)), (1, .int a1), (2, .int a2)]) hx hb dX10_otherThing_17 hl (by decide) rfl (fun ls hl => ?_)
  refine lv_aload_n hx hb dX10_otherThing_19 rfl (lv_at hl 2 rfl) ?_
  refine fg_10_fault F G hk1 ht2 in10 (by decide +kernel) dX10_otherThing_20 ?_
  refine lv_if_ne (tgt := 38) hx hb dX10_otherThing_23 (by decide) (fun q10 => ?_) (fun q10 => ?_)
  · replace h := gf_s q10 h
    refine lv_iload hx hb dX10_otherThing_38 (lv_at hl 0 rfl) ?_
    cases h
    rw [← hQ]
    exact gx_iret F G hr hlocks dX10_otherThing_40
  · replace h := gt_s q10 h
    refine lv_iload_n hx hb dX10_otherThing_26 rfl (lv_at hl 3 rfl) ?_
    refine lv_iload hx hb dX10_otherThing_27 (lv_at hl 0 rfl) ?_
    refine lv_icmp_ne (tgt := 38) hx hb dX10_otherThing_29 (by decide) (fun q11 => ?_) (fun q11 => ?_)
    · replace h := gf_s q11 h
      refine lv_iload hx hb dX10_otherThing_38 (lv_at hl 0 rfl) ?_
      cases h
      rw [← hQ]
      exact gx_iret F G hr hlocks dX10_otherThing_40
    · replace h := gt_s q11 h
      refine lv_aload_n hx hb dX10_otherThing_32 rfl (lv_at hl 2 rfl) ?_
      refine lv_iconst (v := 2) hx hb dX10_otherThing_33 (by decide) ?_
      refine lv_iload_n hx hb dX10_otherThing_34 rfl (lv_at hl 1 rfl) ?_
      obtain ⟨c14, hc12, h⟩ := gb_s h
      refine gx_callv F G (va_runV (As := [.int 2, .int x6]) (rest := []) (gx_fix F) (c_X10_wrong l sa D ad cy N H.size hN hI c0 c9 hc12) (cwV 2 hts gX10_otherThing_X10_wrong rfl rfl rfl (by decide +kernel) ⟨by decide, by decide⟩) (gx_rec F G ht2 (gwe_10 hk1) rfl) rfl rfl hl.1 rfl (lv_room (Nat.le_of_ble_eq_true rfl)) dX10_otherThing_35 ⟨Nat.zero_le _, Nat.zero_le _⟩) (fun H locs G => ?_)
      refine lv_iload hx hb dX10_otherThing_38 (lv_at hl 0 rfl) ?_
      cases h
      rw [← hQ]
      exact gx_iret F G hr hlocks dX10_otherThing_40
