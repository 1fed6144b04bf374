-- X10_tips X10_feeds X10_dayEnds X10_does X10_goes X10_work X10_undo X10_weightIn X10_notSo X10_criedIn X10_told X10_isThing X10_thing X10_cry
def m_X10_tips_L54 (a1 : Nat) (y14 : Int32) (c15 : gm) : Option ((Int32 × gm) ⊕ (gm)) :=
  (if 4 ≤ y14 then some (.inr c15) else gc (0 ≤ (56 : Int32).toInt ∧ (56 : Int32).toInt < ((gal a1) : Nat)) (gc (0 ≤ ((16 + (4 * (c15.1 a1 (56 : Int32).toNatClampNeg))) + y14).toInt ∧ ((16 + (4 * (c15.1 a1 (56 : Int32).toNatClampNeg))) + y14).toInt < ((gal a1) : Nat)) (gv (gm_r c15 a1 (upd (c15.1 a1) ((16 + (4 * (c15.1 a1 (56 : Int32).toNatClampNeg))) + y14).toNatClampNeg 0)) (fun (c20 : gm) => gv (y14 + 1) (fun (x21 : Int32) => some (.inl (x21, c20)))))))
def m_X10_tips_L22 (a1 : Nat) (y10 : Int32) (c11 : gm) : Option ((Int32 × gm) ⊕ (gm)) :=
  gc (0 ≤ (56 : Int32).toInt ∧ (56 : Int32).toInt < ((gal a1) : Nat)) ((if (4 * (c11.1 a1 (56 : Int32).toNatClampNeg)) ≤ y10 then some (.inr c11) else gc (0 ≤ ((16 + y10) + 4).toInt ∧ ((16 + y10) + 4).toInt < ((gal a1) : Nat)) (gc (0 ≤ (16 + y10).toInt ∧ (16 + y10).toInt < ((gal a1) : Nat)) (gv (gm_r c11 a1 (upd (c11.1 a1) (16 + y10).toNatClampNeg (c11.1 a1 ((16 + y10) + 4).toNatClampNeg))) (fun (c26 : gm) => gv (y10 + 1) (fun (x27 : Int32) => some (.inl (x27, c26))))))))
def m_X10_tips (n : Nat) (a1 : Nat) (a2 : Int32) (c : gm) : Option (Int32 × gm) :=
  gc (gck a1 = 22) (gc (0 ≤ (56 : Int32).toInt ∧ (56 : Int32).toInt < ((gal a1) : Nat)) ((if a2 < (c.1 a1 (56 : Int32).toNatClampNeg) then gc (0 ≤ (56 : Int32).toInt ∧ (56 : Int32).toInt < ((gal a1) : Nat)) (gc (0 ≤ (56 : Int32).toInt ∧ (56 : Int32).toInt < ((gal a1) : Nat)) (gv (gm_r c a1 (upd (c.1 a1) (56 : Int32).toNatClampNeg ((c.1 a1 (56 : Int32).toNatClampNeg) - 1))) (fun (c7 : gm) => gv (4 * a2) (fun (x8 : Int32) => gb (gloop (gu2 (fun (y10 : Int32) (c11 : gm) => m_X10_tips_L22 a1 y10 c11)) n (x8, c7)) (fun (c12 : gm) => gb (gloop (gu2 (fun (y14 : Int32) (c15 : gm) => m_X10_tips_L54 a1 y14 c15)) n (0, c12)) (fun (c16 : gm) => some (1, c16))))))) else some (0, c))))
abbrev rmX10_tips : Room := { frames := 0, cells := 0, slots := 0, locals := 0 }
set_option maxHeartbeats 4000000 in
set_option maxRecDepth 100000 in
theorem c_X10_tips (l : Launch) (sa : gSa) (D : va_G) (ad : Nat → Nat) (cy : Nat → ClassId) (N sz : Nat) (hN : 530 ≤ N) (hI : gI ad N) (c0 c : gm) {n : Nat} {a1 : Nat} {a2 : Int32} {rZ : Int32} {cZ : gm} (h : m_X10_tips n a1 a2 c = some (rZ, cZ)) : Met l yX10_tips wsX10_tips rmX10_tips (va_Pc [.ref (ad a1), .int a2] (gP sa D ad cy N sz c0 c)) (va_Qi (fun (z : Int32) (_ : Unit) => z = rZ) (fun _ U => gE D ad cy N c0 cZ U) (gA ad N sz)) 0 0 (gA ad N sz) := by
  refine Met.ofW (cc := cX10_tips) (maxL := 3) (ret := (some .boolean)) (by decide) rfl ?_
  intro p e s m args below meth cod s₁ B hml hv
  obtain ⟨rfl, hsz, hP, hK, hZ⟩ := hv
  have hx := B.exec
  have hb := B.bytes
  have hr := B.returns
  have hts := atoms_spec (ws := wsX10_tips) B.pre
  have hown : s.vm.findClass RX10 = some m.cls := findClass_of_methodNamed B.named
  have hlocks := B.notSynchronized
  subst hsz
  have hl := lv_entry ([.ref (ad a1), .int a2]) (n := 3) (Nat.le_of_ble_eq_true rfl)
  rw [lg_entry_eq]
  generalize (lg_sl ([.ref (ad a1), .int a2]) ++ List.replicate (3 - (lg_sl ([.ref (ad a1), .int a2])).length) Slot.unset).toArray = ls at hl ⊢
  have hl : lv_has ls 3 [(0, .ref (ad a1)), (1, .int a2)] := hl
  generalize hargs : ([.ref (ad a1), .int a2] : List Value).toArray = args at *
  generalize hAe : gA ad N s.heap.size = A
  have F : gF sa D ad cy N A p s m args cod cX10_tips 3 wsX10_tips RX10 := ⟨hx, hb, hml, hown, hts, hK, hI, by rw [← hAe]; exact gA_ad, by rw [← hAe]; exact gA_sz, by rw [← hAe]; exact hZ⟩
  have G : gW D ad cy N A s.heap c0 c s.heap [] := ⟨hP, va_S.rf⟩
  generalize hQ : MQ below (va_Qi (fun (z : Int32) (_ : Unit) => z = rZ) (fun _ U => gE D ad cy N c0 cZ U) A) args s 0 0 A = Q
  suffices hgen : ∀ (H : Heap) (locs : List Loc), gW D ad cy N A s.heap c0 c H locs → W p l e rmX10_tips s m args below meth cod H locs 0 0 Q (F0 m 0 ls []) from hgen _ _ G
  clear G
  intro H locs G
  unfold m_X10_tips at h
  refine lv_iload_n hx hb dX10_tips_0 rfl (lv_at hl 1 rfl) ?_
  refine lv_aload_n hx hb dX10_tips_1 rfl (lv_at hl 0 rfl) ?_
  refine lv_bipush (v := 56) hx hb dX10_tips_2 (by decide) ?_
  obtain ⟨hk1, h⟩ := gc_s h
  have ht2 : a1 < N := Nat.lt_of_lt_of_le (gck_lt22 hk1) hN
  obtain ⟨hi3, h⟩ := gc_s h
  refine gx_mia F G hk1 ht2 rfl hi3 dX10_tips_4 ?_
  refine lv_icmp_lt (tgt := 10) hx hb dX10_tips_5 (by decide) (fun q4 => ?_) (fun q4 => ?_)
  · replace h := gt_s q4 h
    refine lv_aload_n hx hb dX10_tips_10 rfl (lv_at hl 0 rfl) ?_
    refine lv_bipush (v := 56) hx hb dX10_tips_11 (by decide) ?_
    refine lv_dup2_11 hx hb dX10_tips_13 rfl rfl ?_
    obtain ⟨hi5, h⟩ := gc_s h
    refine gx_mia F G hk1 ht2 rfl hi5 dX10_tips_14 ?_
    refine lv_iconst (v := 1) hx hb dX10_tips_15 (by decide) ?_
    refine lv_isub hx hb dX10_tips_16 ?_
    obtain ⟨hi6, h⟩ := gc_s h
    refine gx_mis F G hk1 ht2 rfl hi6 dX10_tips_17 (fun H locs G => ?_)
    obtain ⟨c7, ec7⟩ : ∃ z, z = gm_r c a1 (upd (c.1 a1) (56 : Int32).toNatClampNeg ((c.1 a1 (56 : Int32).toNatClampNeg) - 1)) := ⟨_, rfl⟩
    rw [← ec7] at G
    replace h := gv_s h c7 ec7
    refine lv_iconst (v := 4) hx hb dX10_tips_18 (by decide) ?_
    refine lv_iload_n hx hb dX10_tips_19 rfl (lv_at hl 1 rfl) ?_
    refine lv_imul hx hb dX10_tips_20 ?_
    refine lv_topi (fun x8 ex8 => ?_)
    replace h := gv_s h x8 ex8
    refine lv_istore_n (lv' := [(2, .int x8), (0, .ref (ad a1)), (1, .int a2)]) hx hb dX10_tips_21 rfl hl (by decide) rfl (fun ls hl => ?_)
    obtain ⟨b9, hb9, hK9⟩ := gb_s h
    have E9 : ∀ (c12 : gm) (H : Heap) (locs : List Loc) (ls : Array Slot), (c12 : gm) = b9 → gW D ad cy N A s.heap c0 c12 H locs → lv_has ls 3 [(0, .ref (ad a1))] → W p l e rmX10_tips s m args below meth cod H locs 0 0 Q (F0 m 52 ls []) := by
      intro c12 H locs ls hq9 G hl
      subst hq9
      replace hK9 := hK9
      have h := hK9
      refine lv_iconst (v := 0) hx hb dX10_tips_52 (by decide) ?_
      refine lv_istore_n (lv' := [(2, .int 0), (0, .ref (ad a1))]) hx hb dX10_tips_53 rfl hl (by decide) rfl (fun ls hl => ?_)
      obtain ⟨b13, hb13, hK13⟩ := gb_s h
      have E13 : ∀ (c16 : gm) (H : Heap) (locs : List Loc) (ls : Array Slot), (c16 : gm) = b13 → gW D ad cy N A s.heap c0 c16 H locs → lv_has ls 3 [] → W p l e rmX10_tips s m args below meth cod H locs 0 0 Q (F0 m 79 ls []) := by
        intro c16 H locs ls hq13 G hl
        subst hq13
        replace hK13 := hK13
        have h := hK13
        refine lv_iconst (v := 1) hx hb dX10_tips_79 (by decide) ?_
        cases h
        rw [← hQ]
        exact gx_zret F G hr hlocks rfl dX10_tips_80
      have L13 : ∀ (n9 : Nat) (y14 : Int32) (c15 : gm) (H : Heap) (locs : List Loc) (ls : Array Slot), gloop (gu2 (fun (y14 : Int32) (c15 : gm) => m_X10_tips_L54 a1 y14 c15)) n9 (y14, c15) = some b13 → gW D ad cy N A s.heap c0 c15 H locs → lv_has ls 3 [(0, .ref (ad a1)), (2, .int y14)] → W p l e rmX10_tips s m args below meth cod H locs 0 0 Q (F0 m 54 ls []) := by
        intro n9
        induction n9 with
        | zero => intro y14 c15 H locs ls h; exact (gloop_0 h).elim
        | succ n9 ih =>
          intro y14 c15 H locs ls h G hl
          have ih13 := ih
          obtain ⟨o13, h, hn13⟩ := gloop_s h
          replace h := gu2_s h
          unfold m_X10_tips_L54 at h
          refine lv_iload_n hx hb dX10_tips_54 rfl (lv_at hl 1 rfl) ?_
          refine lv_iconst (v := 4) hx hb dX10_tips_55 (by decide) ?_
          refine lv_icmp_ge (tgt := 79) hx hb dX10_tips_56 (by decide) (fun q17 => ?_) (fun q17 => ?_)
          · replace h := gt_s q17 h
            cases h
            exact E13 _ _ _ _ (gnx_r hn13) G (lv_sub hl [] rfl)
          · replace h := gf_s q17 h
            refine lv_aload_n hx hb dX10_tips_59 rfl (lv_at hl 0 rfl) ?_
            refine lv_bipush (v := 16) hx hb dX10_tips_60 (by decide) ?_
            refine lv_iconst (v := 4) hx hb dX10_tips_62 (by decide) ?_
            refine lv_aload_n hx hb dX10_tips_63 rfl (lv_at hl 0 rfl) ?_
            refine lv_bipush (v := 56) hx hb dX10_tips_64 (by decide) ?_
            obtain ⟨hi18, h⟩ := gc_s h
            refine gx_mia F G hk1 ht2 rfl hi18 dX10_tips_66 ?_
            refine lv_imul hx hb dX10_tips_67 ?_
            refine lv_iadd hx hb dX10_tips_68 ?_
            refine lv_iload_n hx hb dX10_tips_69 rfl (lv_at hl 1 rfl) ?_
            refine lv_iadd hx hb dX10_tips_70 ?_
            refine lv_iconst (v := 0) hx hb dX10_tips_71 (by decide) ?_
            obtain ⟨hi19, h⟩ := gc_s h
            refine gx_mis F G hk1 ht2 rfl hi19 dX10_tips_72 (fun H locs G => ?_)
            obtain ⟨c20, ec20⟩ : ∃ z, z = gm_r c15 a1 (upd (c15.1 a1) ((16 + (4 * (c15.1 a1 (56 : Int32).toNatClampNeg))) + y14).toNatClampNeg 0) := ⟨_, rfl⟩
            rw [← ec20] at G
            replace h := gv_s h c20 ec20
            obtain ⟨x21, ex21⟩ : ∃ z : Int32, z = y14 + 1 := ⟨_, rfl⟩
            replace h := gv_s h x21 ex21
            refine lv_iinc (v := x21) (lv' := [(2, .int x21), (0, .ref (ad a1))]) hx hb dX10_tips_73 hl (k := 1) rfl (by rw [ex21]; rfl) (by decide) rfl (fun ls hl => ?_)
            refine lv_goto (tgt := 54) hx hb dX10_tips_76 (by decide) ?_
            cases h
            exact ih13 _ _ _ _ _ hn13 G (lv_sub hl [1, 0] rfl)
      exact L13 n _ _ _ _ _ hb13 G (lv_sub hl [1, 0] rfl)
    have L9 : ∀ (n9 : Nat) (y10 : Int32) (c11 : gm) (H : Heap) (locs : List Loc) (ls : Array Slot), gloop (gu2 (fun (y10 : Int32) (c11 : gm) => m_X10_tips_L22 a1 y10 c11)) n9 (y10, c11) = some b9 → gW D ad cy N A s.heap c0 c11 H locs → lv_has ls 3 [(0, .ref (ad a1)), (2, .int y10)] → W p l e rmX10_tips s m args below meth cod H locs 0 0 Q (F0 m 22 ls []) := by
      intro n9
      induction n9 with
      | zero => intro y10 c11 H locs ls h; exact (gloop_0 h).elim
      | succ n9 ih =>
        intro y10 c11 H locs ls h G hl
        have ih9 := ih
        obtain ⟨o9, h, hn9⟩ := gloop_s h
        replace h := gu2_s h
        unfold m_X10_tips_L22 at h
        refine lv_iload_n hx hb dX10_tips_22 rfl (lv_at hl 1 rfl) ?_
        refine lv_iconst (v := 4) hx hb dX10_tips_23 (by decide) ?_
        refine lv_aload_n hx hb dX10_tips_24 rfl (lv_at hl 0 rfl) ?_
        refine lv_bipush (v := 56) hx hb dX10_tips_25 (by decide) ?_
        obtain ⟨hi22, h⟩ := gc_s h
        refine gx_mia F G hk1 ht2 rfl hi22 dX10_tips_27 ?_
        refine lv_imul hx hb dX10_tips_28 ?_
        refine lv_icmp_ge (tgt := 52) hx hb dX10_tips_29 (by decide) (fun q23 => ?_) (fun q23 => ?_)
        · replace h := gt_s q23 h
          cases h
          exact E9 _ _ _ _ (gnx_r hn9) G (lv_sub hl [0] rfl)
        · replace h := gf_s q23 h
          refine lv_aload_n hx hb dX10_tips_32 rfl (lv_at hl 0 rfl) ?_
          refine lv_bipush (v := 16) hx hb dX10_tips_33 (by decide) ?_
          refine lv_iload_n hx hb dX10_tips_35 rfl (lv_at hl 1 rfl) ?_
          refine lv_iadd hx hb dX10_tips_36 ?_
          refine lv_aload_n hx hb dX10_tips_37 rfl (lv_at hl 0 rfl) ?_
          refine lv_bipush (v := 16) hx hb dX10_tips_38 (by decide) ?_
          refine lv_iload_n hx hb dX10_tips_40 rfl (lv_at hl 1 rfl) ?_
          refine lv_iadd hx hb dX10_tips_41 ?_
          refine lv_iconst (v := 4) hx hb dX10_tips_42 (by decide) ?_
          refine lv_iadd hx hb dX10_tips_43 ?_
          obtain ⟨hi24, h⟩ := gc_s h
          refine gx_mia F G hk1 ht2 rfl hi24 dX10_tips_44 ?_
          obtain ⟨hi25, h⟩ := gc_s h
          refine gx_mis F G hk1 ht2 rfl hi25 dX10_tips_45 (fun H locs G => ?_)
          obtain ⟨c26, ec26⟩ : ∃ z, z = gm_r c11 a1 (upd (c11.1 a1) (16 + y10).toNatClampNeg (c11.1 a1 ((16 + y10) + 4).toNatClampNeg)) := ⟨_, rfl⟩
          rw [← ec26] at G
          replace h := gv_s h c26 ec26
          obtain ⟨x27, ex27⟩ : ∃ z : Int32, z = y10 + 1 := ⟨_, rfl⟩
          replace h := gv_s h x27 ex27
          refine lv_iinc (v := x27) (lv' := [(2, .int x27), (0, .ref (ad a1))]) hx hb dX10_tips_46 hl (k := 1) rfl (by rw [ex27]; rfl) (by decide) rfl (fun ls hl => ?_)
          refine lv_goto (tgt := 22) hx hb dX10_tips_49 (by decide) ?_
          cases h
          exact ih9 _ _ _ _ _ hn9 G (lv_sub hl [1, 0] rfl)
    exact L9 n _ _ _ _ _ hb9 G (lv_sub hl [1, 0] rfl)
  · replace h := gf_s q4 h
    refine lv_iconst (v := 0) hx hb dX10_tips_8 (by decide) ?_
    cases h
    rw [← hQ]
    exact gx_zret F G hr hlocks rfl dX10_tips_9
def m_X10_feeds (a1 : Nat) (a2 : Int32) (a3 : Int32) (c : gm) : Option (Int32 × gm) :=
  gc (gck a1 = 22) (gc (0 ≤ (0 + a2).toInt ∧ (0 + a2).toInt < ((gal a1) : Nat)) ((if (c.1 a1 (0 + a2).toNatClampNeg) = 60 then some (0, c) else gc (0 ≤ (0 + a2).toInt ∧ (0 + a2).toInt < ((gal a1) : Nat)) (gb (m_X10_less 60 ((c.1 a1 (0 + a2).toNatClampNeg) + a3)) (fun (r7 : Int32) => gc (0 ≤ (0 + a2).toInt ∧ (0 + a2).toInt < ((gal a1) : Nat)) (gv (gm_r c a1 (upd (c.1 a1) (0 + a2).toNatClampNeg r7)) (fun (c9 : gm) => some (1, c9))))))))
abbrev rmX10_feeds : Room := { frames := 1, cells := 0, slots := 0, locals := 21 }
set_option maxHeartbeats 4000000 in
set_option maxRecDepth 100000 in
theorem c_X10_feeds (l : Launch) (sa : gSa) (D : va_G) (ad : Nat → Nat) (cy : Nat → ClassId) (N sz : Nat) (hN : 530 ≤ N) (hI : gI ad N) (c0 c : gm) {a1 : Nat} {a2 : Int32} {a3 : Int32} {rZ : Int32} {cZ : gm} (h : m_X10_feeds a1 a2 a3 c = some (rZ, cZ)) : Met l yX10_feeds wsX10_feeds rmX10_feeds (va_Pc [.ref (ad a1), .int a2, .int a3] (gP sa D ad cy N sz c0 c)) (va_Qi (fun (z : Int32) (_ : Unit) => z = rZ) (fun _ U => gE D ad cy N c0 cZ U) (gA ad N sz)) 0 0 (gA ad N sz) := by
  refine Met.ofW (cc := cX10_feeds) (maxL := 3) (ret := (some .boolean)) (by decide) rfl ?_
  intro p e s m args below meth cod s₁ B hml hv
  obtain ⟨rfl, hsz, hP, hK, hZ⟩ := hv
  have hx := B.exec
  have hb := B.bytes
  have hr := B.returns
  have hts := atoms_spec (ws := wsX10_feeds) B.pre
  have hown : s.vm.findClass RX10 = some m.cls := findClass_of_methodNamed B.named
  have hlocks := B.notSynchronized
  subst hsz
  have hl := lv_entry ([.ref (ad a1), .int a2, .int a3]) (n := 3) (Nat.le_of_ble_eq_true rfl)
  rw [lg_entry_eq]
  generalize (lg_sl ([.ref (ad a1), .int a2, .int a3]) ++ List.replicate (3 - (lg_sl ([.ref (ad a1), .int a2, .int a3])).length) Slot.unset).toArray = ls at hl ⊢
  have hl : lv_has ls 3 [(0, .ref (ad a1)), (1, .int a2), (2, .int a3)] := hl
  generalize hargs : ([.ref (ad a1), .int a2, .int a3] : List Value).toArray = args at *
  generalize hAe : gA ad N s.heap.size = A
  have F : gF sa D ad cy N A p s m args cod cX10_feeds 3 wsX10_feeds RX10 := ⟨hx, hb, hml, hown, hts, hK, hI, by rw [← hAe]; exact gA_ad, by rw [← hAe]; exact gA_sz, by rw [← hAe]; exact hZ⟩
  have G : gW D ad cy N A s.heap c0 c s.heap [] := ⟨hP, va_S.rf⟩
  generalize hQ : MQ below (va_Qi (fun (z : Int32) (_ : Unit) => z = rZ) (fun _ U => gE D ad cy N c0 cZ U) A) args s 0 0 A = Q
  suffices hgen : ∀ (H : Heap) (locs : List Loc), gW D ad cy N A s.heap c0 c H locs → W p l e rmX10_feeds s m args below meth cod H locs 0 0 Q (F0 m 0 ls []) from hgen _ _ G
  clear G
  intro H locs G
  unfold m_X10_feeds at h
  refine lv_aload_n hx hb dX10_feeds_0 rfl (lv_at hl 0 rfl) ?_
  refine lv_iconst (v := 0) hx hb dX10_feeds_1 (by decide) ?_
  refine lv_iload_n hx hb dX10_feeds_2 rfl (lv_at hl 1 rfl) ?_
  refine lv_iadd hx hb dX10_feeds_3 ?_
  obtain ⟨hk1, h⟩ := gc_s h
  have ht2 : a1 < N := Nat.lt_of_lt_of_le (gck_lt22 hk1) hN
  obtain ⟨hi3, h⟩ := gc_s h
  refine gx_mia F G hk1 ht2 rfl hi3 dX10_feeds_4 ?_
  refine lv_bipush (v := 60) hx hb dX10_feeds_5 (by decide) ?_
  refine lv_icmp_ne (tgt := 12) hx hb dX10_feeds_7 (by decide) (fun q4 => ?_) (fun q4 => ?_)
  · replace h := gf_s q4 h
    refine lv_aload_n hx hb dX10_feeds_12 rfl (lv_at hl 0 rfl) ?_
    refine lv_iconst (v := 0) hx hb dX10_feeds_13 (by decide) ?_
    refine lv_iload_n hx hb dX10_feeds_14 rfl (lv_at hl 1 rfl) ?_
    refine lv_iadd hx hb dX10_feeds_15 ?_
    refine lv_bipush (v := 60) hx hb dX10_feeds_16 (by decide) ?_
    refine lv_aload_n hx hb dX10_feeds_18 rfl (lv_at hl 0 rfl) ?_
    refine lv_iconst (v := 0) hx hb dX10_feeds_19 (by decide) ?_
    refine lv_iload_n hx hb dX10_feeds_20 rfl (lv_at hl 1 rfl) ?_
    refine lv_iadd hx hb dX10_feeds_21 ?_
    obtain ⟨hi5, h⟩ := gc_s h
    refine gx_mia F G hk1 ht2 rfl hi5 dX10_feeds_22 ?_
    refine lv_iload_n hx hb dX10_feeds_23 rfl (lv_at hl 2 rfl) ?_
    refine lv_iadd hx hb dX10_feeds_24 ?_
    obtain ⟨r7, hc6, h⟩ := gb_s h
    refine gx_calli F G (va_runS (As := [.int 60, .int ((c.1 a1 (0 + a2).toNatClampNeg) + a3)]) (rest := [.int (0 + a2), .ref (ad a1)]) (gx_fix F) (c_X10_less l sa D ad cy N H.size hN hI c0 c hc6) (va_cwS 2 hts gX10_feeds_X10_less rfl rfl rfl (by decide +kernel) ⟨by decide, by decide⟩) (gx_pre F G) rfl rfl hl.1 rfl (lv_room (Nat.le_of_ble_eq_true rfl)) dX10_feeds_25 ⟨Nat.zero_le _, Nat.zero_le _⟩) (fun H locs G => ?_)
    obtain ⟨hi8, h⟩ := gc_s h
    refine gx_mis F G hk1 ht2 rfl hi8 dX10_feeds_28 (fun H locs G => ?_)
    obtain ⟨c9, ec9⟩ : ∃ z, z = gm_r c a1 (upd (c.1 a1) (0 + a2).toNatClampNeg r7) := ⟨_, rfl⟩
    rw [← ec9] at G
    replace h := gv_s h c9 ec9
    refine lv_iconst (v := 1) hx hb dX10_feeds_29 (by decide) ?_
    cases h
    rw [← hQ]
    exact gx_zret F G hr hlocks rfl dX10_feeds_30
  · replace h := gt_s q4 h
    refine lv_iconst (v := 0) hx hb dX10_feeds_10 (by decide) ?_
    cases h
    rw [← hQ]
    exact gx_zret F G hr hlocks rfl dX10_feeds_11
def m_X10_dayEnds_L32 (t : Nat) (a1 : Nat) (y6 : Int32) (c7 : gm) : Option ((Int32 × gm) ⊕ (gm)) :=
  gc (gck t = 10) ((if (c7.1 59 (0 : Int32).toNatClampNeg) ≤ y6 then some (.inr c7) else gc (gck a1 = 22) (gc (0 ≤ (0 + y6).toInt ∧ (0 + y6).toInt < ((gal a1) : Nat)) (gc (0 ≤ y6.toInt ∧ y6.toInt < 8) (gb (m_X10_more 1 ((c7.1 a1 (0 + y6).toNatClampNeg) - (c7.1 505 y6.toNatClampNeg))) (fun (r29 : Int32) => gc (0 ≤ (0 + y6).toInt ∧ (0 + y6).toInt < ((gal a1) : Nat)) (gv (gm_r c7 a1 (upd (c7.1 a1) (0 + y6).toNatClampNeg r29)) (fun (c31 : gm) => gv (y6 + 1) (fun (x32 : Int32) => some (.inl (x32, c31)))))))))))
def m_X10_dayEnds_L2 (n : Nat) (t : Nat) (a1 : Nat) (y2 : Int32) (c3 : gm) : Option ((Int32 × gm) ⊕ (gm)) :=
  gc (gck t = 10) ((if (c3.1 59 (0 : Int32).toNatClampNeg) ≤ y2 then some (.inr c3) else gb2 (m_X10_wearOf n t a1 y2 c3) (fun (r44 : Int32) (c45 : gm) => gc (0 ≤ y2.toInt ∧ y2.toInt < 8) (gv (gm_r c45 505 (upd (c45.1 505) y2.toNatClampNeg r44)) (fun (c47 : gm) => gv (y2 + 1) (fun (x48 : Int32) => some (.inl (x48, c47))))))))
def m_X10_dayEnds (n : Nat) (t : Nat) (a1 : Nat) (c : gm) : Option (gm) :=
  gb (gloop (gu2 (fun (y2 : Int32) (c3 : gm) => m_X10_dayEnds_L2 n t a1 y2 c3)) n (0, c)) (fun (c4 : gm) => gb (gloop (gu2 (fun (y6 : Int32) (c7 : gm) => m_X10_dayEnds_L32 t a1 y6 c7)) n (0, c4)) (fun (c8 : gm) => gc (gck a1 = 22) (gc (0 ≤ (59 : Int32).toInt ∧ (59 : Int32).toInt < ((gal a1) : Nat)) (gc (0 ≤ (59 : Int32).toInt ∧ (59 : Int32).toInt < ((gal a1) : Nat)) (gv (gm_r c8 a1 (upd (c8.1 a1) (59 : Int32).toNatClampNeg ((c8.1 a1 (59 : Int32).toNatClampNeg) + 1))) (fun (c13 : gm) => some c13))))))
abbrev rmX10_dayEnds : Room := { frames := 5, cells := 0, slots := 0, locals := 114 }
set_option maxHeartbeats 4000000 in
set_option maxRecDepth 100000 in
theorem c_X10_dayEnds (l : Launch) (sa : gSa) (D : va_G) (ad : Nat → Nat) (cy : Nat → ClassId) (N sz : Nat) (hN : 530 ≤ N) (hI : gI ad N) (c0 c : gm) {n : Nat} {t : Nat} {a1 : Nat} {cZ : gm} (h : m_X10_dayEnds n t a1 c = some cZ) : Met l yX10_dayEnds wsX10_dayEnds rmX10_dayEnds (va_Pc [.ref (ad t), .ref (ad a1)] (gP sa D ad cy N sz c0 c)) (va_Qv (fun (_ : Unit) => True) (fun _ U => gE D ad cy N c0 cZ U) (gA ad N sz)) 0 0 (gA ad N sz) := by
  refine Met.ofW (cc := cX10_dayEnds) (maxL := 3) (ret := none) (by decide) rfl ?_
  intro p e s m args below meth cod s₁ B hml hv
  obtain ⟨rfl, hsz, hP, hK, hZ⟩ := hv
  have hx := B.exec
  have hb := B.bytes
  have hr := B.returns
  have hts := atoms_spec (ws := wsX10_dayEnds) B.pre
  have hown : s.vm.findClass RX10 = some m.cls := findClass_of_methodNamed B.named
  have hlocks := B.notSynchronized
  subst hsz
  have hl := lv_entry ([.ref (ad t), .ref (ad a1)]) (n := 3) (Nat.le_of_ble_eq_true rfl)
  rw [lg_entry_eq]
  generalize (lg_sl ([.ref (ad t), .ref (ad a1)]) ++ List.replicate (3 - (lg_sl ([.ref (ad t), .ref (ad a1)])).length) Slot.unset).toArray = ls at hl ⊢
  have hl : lv_has ls 3 [(0, .ref (ad t)), (1, .ref (ad a1))] := hl
  have in10 : ∀ w ∈ wsX100, w ∈ wsX10_dayEnds := by decide +kernel
  generalize hargs : ([.ref (ad t), .ref (ad a1)] : List Value).toArray = args at *
  generalize hAe : gA ad N s.heap.size = A
  have F : gF sa D ad cy N A p s m args cod cX10_dayEnds 3 wsX10_dayEnds RX10 := ⟨hx, hb, hml, hown, hts, hK, hI, by rw [← hAe]; exact gA_ad, by rw [← hAe]; exact gA_sz, by rw [← hAe]; exact hZ⟩
  have G : gW D ad cy N A s.heap c0 c s.heap [] := ⟨hP, va_S.rf⟩
  generalize hQ : MQ below (va_Qv (fun (_ : Unit) => True) (fun _ U => gE D ad cy N c0 cZ U) A) args s 0 0 A = Q
  suffices hgen : ∀ (H : Heap) (locs : List Loc), gW D ad cy N A s.heap c0 c H locs → W p l e rmX10_dayEnds s m args below meth cod H locs 0 0 Q (F0 m 0 ls []) from hgen _ _ G
  clear G
  intro H locs G
  unfold m_X10_dayEnds at h
  refine lv_iconst (v := 0) hx hb dX10_dayEnds_0 (by decide) ?_
  refine lv_istore_n (lv' := [(2, .int 0), (0, .ref (ad t)), (1, .ref (ad a1))]) hx hb dX10_dayEnds_1 rfl hl (by decide) rfl (fun ls hl => ?_)
  obtain ⟨b1, hb1, hK1⟩ := gb_s h
  have E1 : ∀ (c4 : gm) (H : Heap) (locs : List Loc) (ls : Array Slot), (c4 : gm) = b1 → gW D ad cy N A s.heap c0 c4 H locs → lv_has ls 3 [(0, .ref (ad t)), (1, .ref (ad a1))] → W p l e rmX10_dayEnds s m args below meth cod H locs 0 0 Q (F0 m 30 ls []) := by
    intro c4 H locs ls hq1 G hl
    subst hq1
    replace hK1 := hK1
    have h := hK1
    refine lv_iconst (v := 0) hx hb dX10_dayEnds_30 (by decide) ?_
    refine lv_istore_n (lv' := [(2, .int 0), (0, .ref (ad t)), (1, .ref (ad a1))]) hx hb dX10_dayEnds_31 rfl hl (by decide) rfl (fun ls hl => ?_)
    obtain ⟨b5, hb5, hK5⟩ := gb_s h
    have E5 : ∀ (c8 : gm) (H : Heap) (locs : List Loc) (ls : Array Slot), (c8 : gm) = b5 → gW D ad cy N A s.heap c0 c8 H locs → lv_has ls 3 [(1, .ref (ad a1))] → W p l e rmX10_dayEnds s m args below meth cod H locs 0 0 Q (F0 m 69 ls []) := by
      intro c8 H locs ls hq5 G hl
      subst hq5
      replace hK5 := hK5
      have h := hK5
      refine lv_aload_n hx hb dX10_dayEnds_69 rfl (lv_at hl 0 rfl) ?_
      refine lv_bipush (v := 59) hx hb dX10_dayEnds_70 (by decide) ?_
      refine lv_dup2_11 hx hb dX10_dayEnds_72 rfl rfl ?_
      obtain ⟨hk9, h⟩ := gc_s h
      have ht10 : a1 < N := Nat.lt_of_lt_of_le (gck_lt22 hk9) hN
      obtain ⟨hi11, h⟩ := gc_s h
      refine gx_mia F G hk9 ht10 rfl hi11 dX10_dayEnds_73 ?_
      refine lv_iconst (v := 1) hx hb dX10_dayEnds_74 (by decide) ?_
      refine lv_iadd hx hb dX10_dayEnds_75 ?_
      obtain ⟨hi12, h⟩ := gc_s h
      refine gx_mis F G hk9 ht10 rfl hi12 dX10_dayEnds_76 (fun H locs G => ?_)
      obtain ⟨c13, ec13⟩ : ∃ z, z = gm_r c8 a1 (upd (c8.1 a1) (59 : Int32).toNatClampNeg ((c8.1 a1 (59 : Int32).toNatClampNeg) + 1)) := ⟨_, rfl⟩
      rw [← ec13] at G
      replace h := gv_s h c13 ec13
      cases h
      rw [← hQ]
      exact gx_vret F G hr hlocks dX10_dayEnds_77
    have L5 : ∀ (n9 : Nat) (y6 : Int32) (c7 : gm) (H : Heap) (locs : List Loc) (ls : Array Slot), gloop (gu2 (fun (y6 : Int32) (c7 : gm) => m_X10_dayEnds_L32 t a1 y6 c7)) n9 (y6, c7) = some b5 → gW D ad cy N A s.heap c0 c7 H locs → lv_has ls 3 [(0, .ref (ad t)), (1, .ref (ad a1)), (2, .int y6)] → W p l e rmX10_dayEnds s m args below meth cod H locs 0 0 Q (F0 m 32 ls []) := by
      intro n9
      induction n9 with
      | zero => intro y6 c7 H locs ls h; exact (gloop_0 h).elim
      | succ n9 ih =>
        intro y6 c7 H locs ls h G hl
        have ih5 := ih
        obtain ⟨o5, h, hn5⟩ := gloop_s h
        replace h := gu2_s h
        unfold m_X10_dayEnds_L32 at h
        refine lv_iload_n hx hb dX10_dayEnds_32 rfl (lv_at hl 2 rfl) ?_
        refine lv_aload_n hx hb dX10_dayEnds_33 rfl (lv_at hl 0 rfl) ?_
        obtain ⟨hk14, h⟩ := gc_s h
        have ht15 : t < N := Nat.lt_of_lt_of_le (gck_lt10 hk14) hN
        refine fg_10_told F G hk14 ht15 in10 (by decide +kernel) dX10_dayEnds_34 ?_
        have hk16 : gck 59 = 22 := rfl
        have ht17 : 59 < N := Nat.lt_of_lt_of_le (by decide) hN
        have hn18 : gal 59 = 4 := rfl
        refine lv_iconst (v := 0) hx hb dX10_dayEnds_37 (by decide) ?_
        refine gx_mia F G hk16 ht17 hn18 (by decide) dX10_dayEnds_38 ?_
        refine lv_icmp_ge (tgt := 69) hx hb dX10_dayEnds_39 (by decide) (fun q20 => ?_) (fun q20 => ?_)
        · replace h := gt_s q20 h
          cases h
          exact E5 _ _ _ _ (gnx_r hn5) G (lv_sub hl [1] rfl)
        · replace h := gf_s q20 h
          refine lv_aload_n hx hb dX10_dayEnds_42 rfl (lv_at hl 1 rfl) ?_
          refine lv_iconst (v := 0) hx hb dX10_dayEnds_43 (by decide) ?_
          refine lv_iload_n hx hb dX10_dayEnds_44 rfl (lv_at hl 2 rfl) ?_
          refine lv_iadd hx hb dX10_dayEnds_45 ?_
          refine lv_iconst (v := 1) hx hb dX10_dayEnds_46 (by decide) ?_
          refine lv_aload_n hx hb dX10_dayEnds_47 rfl (lv_at hl 1 rfl) ?_
          refine lv_iconst (v := 0) hx hb dX10_dayEnds_48 (by decide) ?_
          refine lv_iload_n hx hb dX10_dayEnds_49 rfl (lv_at hl 2 rfl) ?_
          refine lv_iadd hx hb dX10_dayEnds_50 ?_
          obtain ⟨hk21, h⟩ := gc_s h
          have ht22 : a1 < N := Nat.lt_of_lt_of_le (gck_lt22 hk21) hN
          obtain ⟨hi23, h⟩ := gc_s h
          refine gx_mia F G hk21 ht22 rfl hi23 dX10_dayEnds_51 ?_
          refine lv_aload_n hx hb dX10_dayEnds_52 rfl (lv_at hl 0 rfl) ?_
          refine fg_10_wears F G hk14 ht15 in10 (by decide +kernel) dX10_dayEnds_53 ?_
          have hk24 : gck 505 = 22 := rfl
          have ht25 : 505 < N := Nat.lt_of_lt_of_le (by decide) hN
          have hn26 : gal 505 = 8 := rfl
          refine lv_iload_n hx hb dX10_dayEnds_56 rfl (lv_at hl 2 rfl) ?_
          obtain ⟨hi27, h⟩ := gc_s h
          refine gx_mia F G hk24 ht25 hn26 hi27 dX10_dayEnds_57 ?_
          refine lv_isub hx hb dX10_dayEnds_58 ?_
          obtain ⟨r29, hc28, h⟩ := gb_s h
          refine gx_calli F G (va_runS (As := [.int 1, .int ((c7.1 a1 (0 + y6).toNatClampNeg) - (c7.1 505 y6.toNatClampNeg))]) (rest := [.int (0 + y6), .ref (ad a1)]) (gx_fix F) (c_X10_more l sa D ad cy N H.size hN hI c0 c7 hc28) (va_cwS 2 hts gX10_dayEnds_X10_more rfl rfl rfl (by decide +kernel) ⟨by decide, by decide⟩) (gx_pre F G) rfl rfl hl.1 rfl (lv_room (Nat.le_of_ble_eq_true rfl)) dX10_dayEnds_59 ⟨Nat.zero_le _, Nat.zero_le _⟩) (fun H locs G => ?_)
          obtain ⟨hi30, h⟩ := gc_s h
          refine gx_mis F G hk21 ht22 rfl hi30 dX10_dayEnds_62 (fun H locs G => ?_)
          obtain ⟨c31, ec31⟩ : ∃ z, z = gm_r c7 a1 (upd (c7.1 a1) (0 + y6).toNatClampNeg r29) := ⟨_, rfl⟩
          rw [← ec31] at G
          replace h := gv_s h c31 ec31
          obtain ⟨x32, ex32⟩ : ∃ z : Int32, z = y6 + 1 := ⟨_, rfl⟩
          replace h := gv_s h x32 ex32
          refine lv_iinc (v := x32) (lv' := [(2, .int x32), (0, .ref (ad t)), (1, .ref (ad a1))]) hx hb dX10_dayEnds_63 hl (k := 2) rfl (by rw [ex32]; rfl) (by decide) rfl (fun ls hl => ?_)
          refine lv_goto (tgt := 32) hx hb dX10_dayEnds_66 (by decide) ?_
          cases h
          exact ih5 _ _ _ _ _ hn5 G (lv_sub hl [1, 2, 0] rfl)
    exact L5 n _ _ _ _ _ hb5 G (lv_sub hl [1, 2, 0] rfl)
  have L1 : ∀ (n9 : Nat) (y2 : Int32) (c3 : gm) (H : Heap) (locs : List Loc) (ls : Array Slot), gloop (gu2 (fun (y2 : Int32) (c3 : gm) => m_X10_dayEnds_L2 n t a1 y2 c3)) n9 (y2, c3) = some b1 → gW D ad cy N A s.heap c0 c3 H locs → lv_has ls 3 [(0, .ref (ad t)), (1, .ref (ad a1)), (2, .int y2)] → W p l e rmX10_dayEnds s m args below meth cod H locs 0 0 Q (F0 m 2 ls []) := by
    intro n9
    induction n9 with
    | zero => intro y2 c3 H locs ls h; exact (gloop_0 h).elim
    | succ n9 ih =>
      intro y2 c3 H locs ls h G hl
      have ih1 := ih
      obtain ⟨o1, h, hn1⟩ := gloop_s h
      replace h := gu2_s h
      unfold m_X10_dayEnds_L2 at h
      refine lv_iload_n hx hb dX10_dayEnds_2 rfl (lv_at hl 2 rfl) ?_
      refine lv_aload_n hx hb dX10_dayEnds_3 rfl (lv_at hl 0 rfl) ?_
      obtain ⟨hk33, h⟩ := gc_s h
      have ht34 : t < N := Nat.lt_of_lt_of_le (gck_lt10 hk33) hN
      refine fg_10_told F G hk33 ht34 in10 (by decide +kernel) dX10_dayEnds_4 ?_
      have hk35 : gck 59 = 22 := rfl
      have ht36 : 59 < N := Nat.lt_of_lt_of_le (by decide) hN
      have hn37 : gal 59 = 4 := rfl
      refine lv_iconst (v := 0) hx hb dX10_dayEnds_7 (by decide) ?_
      refine gx_mia F G hk35 ht36 hn37 (by decide) dX10_dayEnds_8 ?_
      refine lv_icmp_ge (tgt := 30) hx hb dX10_dayEnds_9 (by decide) (fun q39 => ?_) (fun q39 => ?_)
      · replace h := gt_s q39 h
        cases h
        exact E1 _ _ _ _ (gnx_r hn1) G (lv_sub hl [0, 1] rfl)
      · replace h := gf_s q39 h
        refine lv_aload_n hx hb dX10_dayEnds_12 rfl (lv_at hl 0 rfl) ?_
        refine fg_10_wears F G hk33 ht34 in10 (by decide +kernel) dX10_dayEnds_13 ?_
        have hk40 : gck 505 = 22 := rfl
        have ht41 : 505 < N := Nat.lt_of_lt_of_le (by decide) hN
        have hn42 : gal 505 = 8 := rfl
        refine lv_iload_n hx hb dX10_dayEnds_16 rfl (lv_at hl 2 rfl) ?_
        refine lv_aload_n hx hb dX10_dayEnds_17 rfl (lv_at hl 0 rfl) ?_
        refine lv_aload_n hx hb dX10_dayEnds_18 rfl (lv_at hl 1 rfl) ?_
        refine lv_iload_n hx hb dX10_dayEnds_19 rfl (lv_at hl 2 rfl) ?_
        obtain ⟨r44, c45, hc43, h⟩ := gb2_s h
        refine gx_calli F G (va_runV (As := [.ref (ad a1), .int y2]) (rest := [.int y2, .ref (ad 505)]) (gx_fix F) (c_X10_wearOf l sa D ad cy N H.size hN hI c0 c3 hc43) (cwV 2 hts gX10_dayEnds_X10_wearOf rfl rfl rfl (by decide +kernel) ⟨by decide, by decide⟩) (gx_rec F G ht34 (gwe_10 hk33) rfl) rfl rfl hl.1 rfl (lv_room (Nat.le_of_ble_eq_true rfl)) dX10_dayEnds_20 ⟨Nat.zero_le _, Nat.zero_le _⟩) (fun H locs G => ?_)
        obtain ⟨hi46, h⟩ := gc_s h
        refine gx_mis F G hk40 ht41 hn42 hi46 dX10_dayEnds_23 (fun H locs G => ?_)
        obtain ⟨c47, ec47⟩ : ∃ z, z = gm_r c45 505 (upd (c45.1 505) y2.toNatClampNeg r44) := ⟨_, rfl⟩
        rw [← ec47] at G
        replace h := gv_s h c47 ec47
        obtain ⟨x48, ex48⟩ : ∃ z : Int32, z = y2 + 1 := ⟨_, rfl⟩
        replace h := gv_s h x48 ex48
        refine lv_iinc (v := x48) (lv' := [(2, .int x48), (0, .ref (ad t)), (1, .ref (ad a1))]) hx hb dX10_dayEnds_24 hl (k := 2) rfl (by rw [ex48]; rfl) (by decide) rfl (fun ls hl => ?_)
        refine lv_goto (tgt := 2) hx hb dX10_dayEnds_27 (by decide) ?_
        cases h
        exact ih1 _ _ _ _ _ hn1 G (lv_sub hl [1, 2, 0] rfl)
  exact L1 n _ _ _ _ _ hb1 G (lv_sub hl [1, 2, 0] rfl)
def m_X10_does (n : Nat) (t : Nat) (a1 : Nat) (a2 : Nat) (c : gm) : Option (Int32 × gm) :=
  gc (gck a2 = 22) (gc (0 ≤ (0 : Int32).toInt ∧ (0 : Int32).toInt < ((gal a2) : Nat)) ((if (c.1 a2 (0 : Int32).toNatClampNeg) = 0 then gc (0 ≤ (1 : Int32).toInt ∧ (1 : Int32).toInt < ((gal a2) : Nat)) (gc (0 ≤ (2 : Int32).toInt ∧ (2 : Int32).toInt < ((gal a2) : Nat)) (gc (0 ≤ (3 : Int32).toInt ∧ (3 : Int32).toInt < ((gal a2) : Nat)) (gc (0 ≤ (4 : Int32).toInt ∧ (4 : Int32).toInt < ((gal a2) : Nat)) (gc (gck t = 10) (gb2 (m_X10_weighs n t a1 (c.1 a2 (1 : Int32).toNatClampNeg) (c.1 a2 (2 : Int32).toNatClampNeg) (c.1 a2 (3 : Int32).toNatClampNeg) (c.1 a2 (4 : Int32).toNatClampNeg) c) (fun (r12 : Int32) (c13 : gm) => gc (r12 = 0 ∨ r12 = 1) (some (r12, c13)))))))) else (if (c.1 a2 (0 : Int32).toNatClampNeg) = 1 then gc (0 ≤ (1 : Int32).toInt ∧ (1 : Int32).toInt < ((gal a2) : Nat)) (gb2 (m_X10_tips n a1 (c.1 a2 (1 : Int32).toNatClampNeg) c) (fun (r18 : Int32) (c19 : gm) => gc (r18 = 0 ∨ r18 = 1) (some (r18, c19)))) else (if (c.1 a2 (0 : Int32).toNatClampNeg) = 2 then gc (0 ≤ (1 : Int32).toInt ∧ (1 : Int32).toInt < ((gal a2) : Nat)) (gc (0 ≤ (2 : Int32).toInt ∧ (2 : Int32).toInt < ((gal a2) : Nat)) (gb2 (m_X10_feeds a1 (c.1 a2 (1 : Int32).toNatClampNeg) (c.1 a2 (2 : Int32).toNatClampNeg) c) (fun (r25 : Int32) (c26 : gm) => gc (r25 = 0 ∨ r25 = 1) (some (r25, c26))))) else (if (c.1 a2 (0 : Int32).toNatClampNeg) = 3 then gc (gck a1 = 22) (gc (0 ≤ (57 : Int32).toInt ∧ (57 : Int32).toInt < ((gal a1) : Nat)) ((if (c.1 a1 (57 : Int32).toNatClampNeg) = 9 then some (0, c) else gc (0 ≤ (57 : Int32).toInt ∧ (57 : Int32).toInt < ((gal a1) : Nat)) (gc (0 ≤ (57 : Int32).toInt ∧ (57 : Int32).toInt < ((gal a1) : Nat)) (gv (gm_r c a1 (upd (c.1 a1) (57 : Int32).toNatClampNeg (18 - (c.1 a1 (57 : Int32).toNatClampNeg)))) (fun (c35 : gm) => some (1, c35))))))) else gc (gck a1 = 22) (gc (0 ≤ (59 : Int32).toInt ∧ (59 : Int32).toInt < ((gal a1) : Nat)) ((if (c.1 a1 (59 : Int32).toNatClampNeg) < 300 then gc (gck t = 10) (gb (m_X10_dayEnds n t a1 c) (fun (c48 : gm) => some (1, c48))) else some (0, c))))))))))
abbrev rmX10_does : Room := { frames := 6, cells := 0, slots := 0, locals := 136 }
set_option maxHeartbeats 4000000 in
set_option maxRecDepth 100000 in
theorem c_X10_does (l : Launch) (sa : gSa) (D : va_G) (ad : Nat → Nat) (cy : Nat → ClassId) (N sz : Nat) (hN : 530 ≤ N) (hI : gI ad N) (c0 c : gm) {n : Nat} {t : Nat} {a1 : Nat} {a2 : Nat} {rZ : Int32} {cZ : gm} (h : m_X10_does n t a1 a2 c = some (rZ, cZ)) : Met l yX10_does wsX10_does rmX10_does (va_Pc [.ref (ad t), .ref (ad a1), .ref (ad a2)] (gP sa D ad cy N sz c0 c)) (va_Qi (fun (z : Int32) (_ : Unit) => z = rZ) (fun _ U => gE D ad cy N c0 cZ U) (gA ad N sz)) 0 0 (gA ad N sz) := by
  refine Met.ofW (cc := cX10_does) (maxL := 3) (ret := (some .boolean)) (by decide) rfl ?_
  intro p e s m args below meth cod s₁ B hml hv
  obtain ⟨rfl, hsz, hP, hK, hZ⟩ := hv
  have hx := B.exec
  have hb := B.bytes
  have hr := B.returns
  have hts := atoms_spec (ws := wsX10_does) B.pre
  have hown : s.vm.findClass RX10 = some m.cls := findClass_of_methodNamed B.named
  have hlocks := B.notSynchronized
  subst hsz
  have hl := lv_entry ([.ref (ad t), .ref (ad a1), .ref (ad a2)]) (n := 3) (Nat.le_of_ble_eq_true rfl)
  rw [lg_entry_eq]
  generalize (lg_sl ([.ref (ad t), .ref (ad a1), .ref (ad a2)]) ++ List.replicate (3 - (lg_sl ([.ref (ad t), .ref (ad a1), .ref (ad a2)])).length) Slot.unset).toArray = ls at hl ⊢
  have hl : lv_has ls 3 [(0, .ref (ad t)), (1, .ref (ad a1)), (2, .ref (ad a2))] := hl
  generalize hargs : ([.ref (ad t), .ref (ad a1), .ref (ad a2)] : List Value).toArray = args at *
  generalize hAe : gA ad N s.heap.size = A
  have F : gF sa D ad cy N A p s m args cod cX10_does 3 wsX10_does RX10 := ⟨hx, hb, hml, hown, hts, hK, hI, by rw [← hAe]; exact gA_ad, by rw [← hAe]; exact gA_sz, by rw [← hAe]; exact hZ⟩
  have G : gW D ad cy N A s.heap c0 c s.heap [] := ⟨hP, va_S.rf⟩
  generalize hQ : MQ below (va_Qi (fun (z : Int32) (_ : Unit) => z = rZ) (fun _ U => gE D ad cy N c0 cZ U) A) args s 0 0 A = Q
  suffices hgen : ∀ (H : Heap) (locs : List Loc), gW D ad cy N A s.heap c0 c H locs → W p l e rmX10_does s m args below meth cod H locs 0 0 Q (F0 m 0 ls []) from hgen _ _ G
  clear G
  intro H locs G
  unfold m_X10_does at h
  refine lv_aload_n hx hb dX10_does_0 rfl (lv_at hl 2 rfl) ?_
  refine lv_iconst (v := 0) hx hb dX10_does_1 (by decide) ?_
  obtain ⟨hk1, h⟩ := gc_s h
  have ht2 : a2 < N := Nat.lt_of_lt_of_le (gck_lt22 hk1) hN
  obtain ⟨hi3, h⟩ := gc_s h
  refine gx_mia F G hk1 ht2 rfl hi3 dX10_does_2 ?_
  by_cases q4 : (c.1 a2 (0 : Int32).toNatClampNeg) = 0
  · replace h := gt_s q4 h
    refine lv_tableIn (tgt := 32) hx hb dX10_does_3 (by rw [q4]; decide) (by rw [q4]; decide) (off := 29) (by rw [q4]; decide) (by decide) ?_
    refine lv_aload_n hx hb dX10_does_32 rfl (lv_at hl 0 rfl) ?_
    refine lv_aload_n hx hb dX10_does_33 rfl (lv_at hl 1 rfl) ?_
    refine lv_aload_n hx hb dX10_does_34 rfl (lv_at hl 2 rfl) ?_
    refine lv_iconst (v := 1) hx hb dX10_does_35 (by decide) ?_
    obtain ⟨hi5, h⟩ := gc_s h
    refine gx_mia F G hk1 ht2 rfl hi5 dX10_does_36 ?_
    refine lv_aload_n hx hb dX10_does_37 rfl (lv_at hl 2 rfl) ?_
    refine lv_iconst (v := 2) hx hb dX10_does_38 (by decide) ?_
    obtain ⟨hi6, h⟩ := gc_s h
    refine gx_mia F G hk1 ht2 rfl hi6 dX10_does_39 ?_
    refine lv_aload_n hx hb dX10_does_40 rfl (lv_at hl 2 rfl) ?_
    refine lv_iconst (v := 3) hx hb dX10_does_41 (by decide) ?_
    obtain ⟨hi7, h⟩ := gc_s h
    refine gx_mia F G hk1 ht2 rfl hi7 dX10_does_42 ?_
    refine lv_aload_n hx hb dX10_does_43 rfl (lv_at hl 2 rfl) ?_
    refine lv_iconst (v := 4) hx hb dX10_does_44 (by decide) ?_
    obtain ⟨hi8, h⟩ := gc_s h
    refine gx_mia F G hk1 ht2 rfl hi8 dX10_does_45 ?_
    obtain ⟨hk9, h⟩ := gc_s h
    have ht10 : t < N := Nat.lt_of_lt_of_le (gck_lt10 hk9) hN
    obtain ⟨r12, c13, hc11, h⟩ := gb2_s h
    refine gx_calli F G (va_runV (As := [.ref (ad a1), .int (c.1 a2 (1 : Int32).toNatClampNeg), .int (c.1 a2 (2 : Int32).toNatClampNeg), .int (c.1 a2 (3 : Int32).toNatClampNeg), .int (c.1 a2 (4 : Int32).toNatClampNeg)]) (rest := []) (gx_fix F) (c_X10_weighs l sa D ad cy N H.size hN hI c0 c hc11) (cwV 5 hts gX10_does_X10_weighs rfl rfl rfl (by decide +kernel) ⟨by decide, by decide⟩) (gx_rec F G ht10 (gwe_10 hk9) rfl) rfl rfl hl.1 rfl (lv_room (Nat.le_of_ble_eq_true rfl)) dX10_does_46 ⟨Nat.zero_le _, Nat.zero_le _⟩) (fun H locs G => ?_)
    obtain ⟨hz14, h⟩ := gc_s h
    cases h
    rw [← hQ]
    exact gx_zret F G hr hlocks (gnb hz14) dX10_does_49
  replace h := gf_s q4 h
  by_cases q15 : (c.1 a2 (0 : Int32).toNatClampNeg) = 1
  · replace h := gt_s q15 h
    refine lv_tableIn (tgt := 50) hx hb dX10_does_3 (by rw [q15]; decide) (by rw [q15]; decide) (off := 47) (by rw [q15]; decide) (by decide) ?_
    refine lv_aload_n hx hb dX10_does_50 rfl (lv_at hl 1 rfl) ?_
    refine lv_aload_n hx hb dX10_does_51 rfl (lv_at hl 2 rfl) ?_
    refine lv_iconst (v := 1) hx hb dX10_does_52 (by decide) ?_
    obtain ⟨hi16, h⟩ := gc_s h
    refine gx_mia F G hk1 ht2 rfl hi16 dX10_does_53 ?_
    obtain ⟨r18, c19, hc17, h⟩ := gb2_s h
    refine gx_calli F G (va_runS (As := [.ref (ad a1), .int (c.1 a2 (1 : Int32).toNatClampNeg)]) (rest := []) (gx_fix F) (c_X10_tips l sa D ad cy N H.size hN hI c0 c hc17) (va_cwS 2 hts gX10_does_X10_tips rfl rfl rfl (by decide +kernel) ⟨by decide, by decide⟩) (gx_pre F G) rfl rfl hl.1 rfl (lv_room (Nat.le_of_ble_eq_true rfl)) dX10_does_54 ⟨Nat.zero_le _, Nat.zero_le _⟩) (fun H locs G => ?_)
    obtain ⟨hz20, h⟩ := gc_s h
    cases h
    rw [← hQ]
    exact gx_zret F G hr hlocks (gnb hz20) dX10_does_57
  replace h := gf_s q15 h
  by_cases q21 : (c.1 a2 (0 : Int32).toNatClampNeg) = 2
  · replace h := gt_s q21 h
    refine lv_tableIn (tgt := 58) hx hb dX10_does_3 (by rw [q21]; decide) (by rw [q21]; decide) (off := 55) (by rw [q21]; decide) (by decide) ?_
    refine lv_aload_n hx hb dX10_does_58 rfl (lv_at hl 1 rfl) ?_
    refine lv_aload_n hx hb dX10_does_59 rfl (lv_at hl 2 rfl) ?_
    refine lv_iconst (v := 1) hx hb dX10_does_60 (by decide) ?_
    obtain ⟨hi22, h⟩ := gc_s h
    refine gx_mia F G hk1 ht2 rfl hi22 dX10_does_61 ?_
    refine lv_aload_n hx hb dX10_does_62 rfl (lv_at hl 2 rfl) ?_
    refine lv_iconst (v := 2) hx hb dX10_does_63 (by decide) ?_
    obtain ⟨hi23, h⟩ := gc_s h
    refine gx_mia F G hk1 ht2 rfl hi23 dX10_does_64 ?_
    obtain ⟨r25, c26, hc24, h⟩ := gb2_s h
    refine gx_calli F G (va_runS (As := [.ref (ad a1), .int (c.1 a2 (1 : Int32).toNatClampNeg), .int (c.1 a2 (2 : Int32).toNatClampNeg)]) (rest := []) (gx_fix F) (c_X10_feeds l sa D ad cy N H.size hN hI c0 c hc24) (va_cwS 3 hts gX10_does_X10_feeds rfl rfl rfl (by decide +kernel) ⟨by decide, by decide⟩) (gx_pre F G) rfl rfl hl.1 rfl (lv_room (Nat.le_of_ble_eq_true rfl)) dX10_does_65 ⟨Nat.zero_le _, Nat.zero_le _⟩) (fun H locs G => ?_)
    obtain ⟨hz27, h⟩ := gc_s h
    cases h
    rw [← hQ]
    exact gx_zret F G hr hlocks (gnb hz27) dX10_does_68
  replace h := gf_s q21 h
  by_cases q28 : (c.1 a2 (0 : Int32).toNatClampNeg) = 3
  · replace h := gt_s q28 h
    refine lv_tableIn (tgt := 69) hx hb dX10_does_3 (by rw [q28]; decide) (by rw [q28]; decide) (off := 66) (by rw [q28]; decide) (by decide) ?_
    refine lv_aload_n hx hb dX10_does_69 rfl (lv_at hl 1 rfl) ?_
    refine lv_bipush (v := 57) hx hb dX10_does_70 (by decide) ?_
    obtain ⟨hk29, h⟩ := gc_s h
    have ht30 : a1 < N := Nat.lt_of_lt_of_le (gck_lt22 hk29) hN
    obtain ⟨hi31, h⟩ := gc_s h
    refine gx_mia F G hk29 ht30 rfl hi31 dX10_does_72 ?_
    refine lv_bipush (v := 9) hx hb dX10_does_73 (by decide) ?_
    refine lv_icmp_ne (tgt := 80) hx hb dX10_does_75 (by decide) (fun q32 => ?_) (fun q32 => ?_)
    · replace h := gf_s q32 h
      refine lv_aload_n hx hb dX10_does_80 rfl (lv_at hl 1 rfl) ?_
      refine lv_bipush (v := 57) hx hb dX10_does_81 (by decide) ?_
      refine lv_bipush (v := 18) hx hb dX10_does_83 (by decide) ?_
      refine lv_aload_n hx hb dX10_does_85 rfl (lv_at hl 1 rfl) ?_
      refine lv_bipush (v := 57) hx hb dX10_does_86 (by decide) ?_
      obtain ⟨hi33, h⟩ := gc_s h
      refine gx_mia F G hk29 ht30 rfl hi33 dX10_does_88 ?_
      refine lv_isub hx hb dX10_does_89 ?_
      obtain ⟨hi34, h⟩ := gc_s h
      refine gx_mis F G hk29 ht30 rfl hi34 dX10_does_90 (fun H locs G => ?_)
      obtain ⟨c35, ec35⟩ : ∃ z, z = gm_r c a1 (upd (c.1 a1) (57 : Int32).toNatClampNeg (18 - (c.1 a1 (57 : Int32).toNatClampNeg))) := ⟨_, rfl⟩
      rw [← ec35] at G
      replace h := gv_s h c35 ec35
      refine lv_iconst (v := 1) hx hb dX10_does_91 (by decide) ?_
      cases h
      rw [← hQ]
      exact gx_zret F G hr hlocks rfl dX10_does_92
    · replace h := gt_s q32 h
      refine lv_iconst (v := 0) hx hb dX10_does_78 (by decide) ?_
      cases h
      rw [← hQ]
      exact gx_zret F G hr hlocks rfl dX10_does_79
  replace h := gf_s q28 h
  have nn36 := lv_neT q4 (show (0 : Int32).toInt = 0 by decide)
  have nn37 := lv_neT q15 (show (1 : Int32).toInt = 1 by decide)
  have nn38 := lv_neT q21 (show (2 : Int32).toInt = 2 by decide)
  have nn39 := lv_neT q28 (show (3 : Int32).toInt = 3 by decide)
  refine lv_tableOut (tgt := 93) hx hb dX10_does_3 (by omega) (by decide) ?_
  refine lv_aload_n hx hb dX10_does_93 rfl (lv_at hl 1 rfl) ?_
  refine lv_bipush (v := 59) hx hb dX10_does_94 (by decide) ?_
  obtain ⟨hk40, h⟩ := gc_s h
  have ht41 : a1 < N := Nat.lt_of_lt_of_le (gck_lt22 hk40) hN
  obtain ⟨hi42, h⟩ := gc_s h
  refine gx_mia F G hk40 ht41 rfl hi42 dX10_does_96 ?_
  refine lv_sipush (v := 300) hx hb dX10_does_97 (by decide) ?_
  refine lv_icmp_lt (tgt := 105) hx hb dX10_does_100 (by decide) (fun q43 => ?_) (fun q43 => ?_)
  · replace h := gt_s q43 h
    refine lv_aload_n hx hb dX10_does_105 rfl (lv_at hl 0 rfl) ?_
    refine lv_aload_n hx hb dX10_does_106 rfl (lv_at hl 1 rfl) ?_
    obtain ⟨hk44, h⟩ := gc_s h
    have ht45 : t < N := Nat.lt_of_lt_of_le (gck_lt10 hk44) hN
    obtain ⟨c48, hc46, h⟩ := gb_s h
    refine gx_callv F G (va_runV (As := [.ref (ad a1)]) (rest := []) (gx_fix F) (c_X10_dayEnds l sa D ad cy N H.size hN hI c0 c hc46) (cwV 1 hts gX10_does_X10_dayEnds rfl rfl rfl (by decide +kernel) ⟨by decide, by decide⟩) (gx_rec F G ht45 (gwe_10 hk44) rfl) rfl rfl hl.1 rfl (lv_room (Nat.le_of_ble_eq_true rfl)) dX10_does_107 ⟨Nat.zero_le _, Nat.zero_le _⟩) (fun H locs G => ?_)
    refine lv_iconst (v := 1) hx hb dX10_does_110 (by decide) ?_
    cases h
    rw [← hQ]
    exact gx_zret F G hr hlocks rfl dX10_does_111
  · replace h := gf_s q43 h
    refine lv_iconst (v := 0) hx hb dX10_does_103 (by decide) ?_
    cases h
    rw [← hQ]
    exact gx_zret F G hr hlocks rfl dX10_does_104
def m_X10_goes_L42 (rs : (Nat → Nat → Int32 → Int32 → gm → Option (gm))) (n : Nat) (t : Nat) (y2 : Int32) (y39 : Int32) (c40 : gm) : Option ((Int32 × gm) ⊕ (gm)) :=
  gc (0 ≤ y2.toInt ∧ y2.toInt < 80) (gc (0 ≤ (1 : Int32).toInt ∧ (1 : Int32).toInt < ((gal (422 + 1 + y2.toNatClampNeg)) : Nat)) ((if (c40.1 (422 + 1 + y2.toNatClampNeg) (1 : Int32).toNatClampNeg) ≤ y39 then some (.inr c40) else (if 200 ≤ (c40.1 t 37) then some (.inr c40) else gc (0 ≤ y2.toInt ∧ y2.toInt < 80) (gc (0 ≤ (5 : Int32).toInt ∧ (5 : Int32).toInt < ((gal (422 + 1 + y2.toNatClampNeg)) : Nat)) (gb (rs n t (y2 + 1) (c40.1 (422 + 1 + y2.toNatClampNeg) (5 : Int32).toNatClampNeg) c40) (fun (c50 : gm) => gv (y39 + 1) (fun (x51 : Int32) => some (.inl (x51, c50))))))))))
def m_X10_goes_L2 (rs : (Nat → Nat → Int32 → Int32 → gm → Option (gm))) (n : Nat) (t : Nat) (a2 : Int32) (y2 : Int32) (c3 : gm) : Option ((Int32 × gm) ⊕ (gm)) :=
  (if a2 ≤ y2 then some (.inr c3) else gc (gck t = 10) ((if 200 ≤ (c3.1 t 37) then some (.inr c3) else gv (gm_r c3 t (upd (c3.1 t) 37 ((c3.1 t 37) + 1))) (fun (c9 : gm) => gc (0 ≤ y2.toInt ∧ y2.toInt < 80) (gc (gck (422 + 1 + y2.toNatClampNeg) = 22) (gc (0 ≤ (0 : Int32).toInt ∧ (0 : Int32).toInt < ((gal (422 + 1 + y2.toNatClampNeg)) : Nat)) (gj (fun (c17 : gm) => gc (0 ≤ y2.toInt ∧ y2.toInt < 80) (gc (0 ≤ (5 : Int32).toInt ∧ (5 : Int32).toInt < ((gal (422 + 1 + y2.toNatClampNeg)) : Nat)) (gv (c17.1 (422 + 1 + y2.toNatClampNeg) (5 : Int32).toNatClampNeg) (fun (x21 : Int32) => some (.inl (x21, c17)))))) (fun K18 => (if (c9.1 (422 + 1 + y2.toNatClampNeg) (0 : Int32).toNatClampNeg) = 5 then gb (gloop (gu2 (fun (y39 : Int32) (c40 : gm) => m_X10_goes_L42 rs n t y2 y39 c40)) n (0, c9)) (fun (c41 : gm) => K18 c41) else gc (0 ≤ y2.toInt ∧ y2.toInt < 80) (gb2 (m_X10_does n t 503 (422 + 1 + y2.toNatClampNeg) c9) (fun (r28 : Int32) (c29 : gm) => gj (fun (v30 : Int32) => gv (gm_r c29 t (upd (c29.1 t) 38 ((c29.1 t 38) + v30))) (fun (c32 : gm) => gj (fun (v33 : Int32) => gv (gm_r c32 t (upd (c32.1 t) 34 ((c32.1 t 34) + v33))) (fun (c35 : gm) => K18 c35)) (fun K34 => (if r28 = 0 then K34 1 else K34 0)))) (fun K31 => (if r28 = 0 then K31 0 else K31 1)))))))))))))
def m_X10_goes_b (rs : (Nat → Nat → Int32 → Int32 → gm → Option (gm))) (n : Nat) (t : Nat) (a1 : Int32) (a2 : Int32) (c : gm) : Option (gm) :=
  gb (gloop (gu2 (fun (y2 : Int32) (c3 : gm) => m_X10_goes_L2 rs n t a2 y2 c3)) n (a1, c)) (fun (c4 : gm) => some c4)
abbrev rmX10_goes (dd : Nat) : Room := { frames := 1 * dd + 7, cells := 0, slots := 0, locals := 24 * dd + 158 }
set_option maxHeartbeats 4000000 in
set_option maxRecDepth 100000 in
theorem c_X10_goes_b (l : Launch) (sa : gSa) (D : va_G) (ad : Nat → Nat) (cy : Nat → ClassId) (N sz : Nat) (hN : 530 ≤ N) (hI : gI ad N) (c0 c : gm) (rs : (Nat → Nat → Int32 → Int32 → gm → Option (gm))) (dd : Nat) (hrs : ∀ (sz : Nat) (c0 c : gm) {n : Nat} {t : Nat} {a1 : Int32} {a2 : Int32} {cZ : gm}, rs n t a1 a2 c = some cZ → Met l yX10_goes wsX10_goes (rmX10_goes dd) (va_Pc [.ref (ad t), .int a1, .int a2] (gP sa D ad cy N sz c0 c)) (va_Qv (fun (_ : Unit) => True) (fun _ U => gE D ad cy N c0 cZ U) (gA ad N sz)) 0 0 (gA ad N sz)) {n : Nat} {t : Nat} {a1 : Int32} {a2 : Int32} {cZ : gm} (h : m_X10_goes_b rs n t a1 a2 c = some cZ) : Met l yX10_goes wsX10_goes (rmX10_goes (dd + 1)) (va_Pc [.ref (ad t), .int a1, .int a2] (gP sa D ad cy N sz c0 c)) (va_Qv (fun (_ : Unit) => True) (fun _ U => gE D ad cy N c0 cZ U) (gA ad N sz)) 0 0 (gA ad N sz) := by
  refine Met.ofW (cc := cX10_goes) (maxL := 5) (ret := none) (by decide) rfl ?_
  intro p e s m args below meth cod s₁ B hml hv
  obtain ⟨rfl, hsz, hP, hK, hZ⟩ := hv
  have hx := B.exec
  have hb := B.bytes
  have hr := B.returns
  have hts := atoms_spec (ws := wsX10_goes) B.pre
  have hown : s.vm.findClass RX10 = some m.cls := findClass_of_methodNamed B.named
  have hlocks := B.notSynchronized
  subst hsz
  have hl := lv_entry ([.ref (ad t), .int a1, .int a2]) (n := 5) (Nat.le_of_ble_eq_true rfl)
  rw [lg_entry_eq]
  generalize (lg_sl ([.ref (ad t), .int a1, .int a2]) ++ List.replicate (5 - (lg_sl ([.ref (ad t), .int a1, .int a2])).length) Slot.unset).toArray = ls at hl ⊢
  have hl : lv_has ls 5 [(0, .ref (ad t)), (1, .int a1), (2, .int a2)] := hl
  have in10 : ∀ w ∈ wsX100, w ∈ wsX10_goes := by decide +kernel
  generalize hargs : ([.ref (ad t), .int a1, .int a2] : List Value).toArray = args at *
  generalize hAe : gA ad N s.heap.size = A
  have F : gF sa D ad cy N A p s m args cod cX10_goes 5 wsX10_goes RX10 := ⟨hx, hb, hml, hown, hts, hK, hI, by rw [← hAe]; exact gA_ad, by rw [← hAe]; exact gA_sz, by rw [← hAe]; exact hZ⟩
  have G : gW D ad cy N A s.heap c0 c s.heap [] := ⟨hP, va_S.rf⟩
  generalize hQ : MQ below (va_Qv (fun (_ : Unit) => True) (fun _ U => gE D ad cy N c0 cZ U) A) args s 0 0 A = Q
  suffices hgen : ∀ (H : Heap) (locs : List Loc), gW D ad cy N A s.heap c0 c H locs → W p l e (rmX10_goes (dd + 1)) s m args below meth cod H locs 0 0 Q (F0 m 0 ls []) from hgen _ _ G
  clear G
  intro H locs G
  unfold m_X10_goes_b at h
  refine lv_iload_n hx hb dX10_goes_0 rfl (lv_at hl 1 rfl) ?_
  refine lv_istore_n (lv' := [(3, .int a1), (0, .ref (ad t)), (1, .int a1), (2, .int a2)]) hx hb dX10_goes_1 rfl hl (by decide) rfl (fun ls hl => ?_)
  obtain ⟨b1, hb1, hK1⟩ := gb_s h
  have E1 : ∀ (c4 : gm) (H : Heap) (locs : List Loc) (ls : Array Slot), (c4 : gm) = b1 → gW D ad cy N A s.heap c0 c4 H locs → lv_has ls 5 [] → W p l e (rmX10_goes (dd + 1)) s m args below meth cod H locs 0 0 Q (F0 m 155 ls []) := by
    intro c4 H locs ls hq1 G hl
    subst hq1
    replace hK1 := hK1
    have h := hK1
    cases h
    rw [← hQ]
    exact gx_vret F G hr hlocks dX10_goes_155
  have L1 : ∀ (n9 : Nat) (y2 : Int32) (c3 : gm) (H : Heap) (locs : List Loc) (ls : Array Slot), gloop (gu2 (fun (y2 : Int32) (c3 : gm) => m_X10_goes_L2 rs n t a2 y2 c3)) n9 (y2, c3) = some b1 → gW D ad cy N A s.heap c0 c3 H locs → lv_has ls 5 [(0, .ref (ad t)), (2, .int a2), (3, .int y2)] → W p l e (rmX10_goes (dd + 1)) s m args below meth cod H locs 0 0 Q (F0 m 2 ls []) := by
    intro n9
    induction n9 with
    | zero => intro y2 c3 H locs ls h; exact (gloop_0 h).elim
    | succ n9 ih =>
      intro y2 c3 H locs ls h G hl
      have ih1 := ih
      obtain ⟨o1, h, hn1⟩ := gloop_s h
      replace h := gu2_s h
      unfold m_X10_goes_L2 at h
      refine lv_iload_n hx hb dX10_goes_2 rfl (lv_at hl 2 rfl) ?_
      refine lv_iload_n hx hb dX10_goes_3 rfl (lv_at hl 1 rfl) ?_
      refine lv_icmp_ge (tgt := 155) hx hb dX10_goes_4 (by decide) (fun q5 => ?_) (fun q5 => ?_)
      · replace h := gt_s q5 h
        cases h
        exact E1 _ _ _ _ (gnx_r hn1) G (lv_sub hl [] rfl)
      · replace h := gf_s q5 h
        refine lv_aload_n hx hb dX10_goes_7 rfl (lv_at hl 0 rfl) ?_
        obtain ⟨hk6, h⟩ := gc_s h
        have ht7 : t < N := Nat.lt_of_lt_of_le (gck_lt10 hk6) hN
        refine fg_10_begun F G hk6 ht7 in10 (by decide +kernel) dX10_goes_8 ?_
        refine lv_sipush (v := 200) hx hb dX10_goes_11 (by decide) ?_
        refine lv_icmp_ge (tgt := 155) hx hb dX10_goes_14 (by decide) (fun q8 => ?_) (fun q8 => ?_)
        · replace h := gt_s q8 h
          cases h
          exact E1 _ _ _ _ (gnx_r hn1) G (lv_sub hl [] rfl)
        · replace h := gf_s q8 h
          refine lv_aload_n hx hb dX10_goes_17 rfl (lv_at hl 0 rfl) ?_
          refine lv_dup hx hb dX10_goes_18 rfl ?_
          refine fg_10_begun F G hk6 ht7 in10 (by decide +kernel) dX10_goes_19 ?_
          refine lv_iconst (v := 1) hx hb dX10_goes_22 (by decide) ?_
          refine lv_iadd hx hb dX10_goes_23 ?_
          refine fp_10_begun F G hk6 ht7 in10 (by decide +kernel) dX10_goes_24 (fun H locs G => ?_)
          obtain ⟨c9, ec9⟩ : ∃ z, z = gm_r c3 t (upd (c3.1 t) 37 ((c3.1 t 37) + 1)) := ⟨_, rfl⟩
          rw [← ec9] at G
          replace h := gv_s h c9 ec9
          refine lv_aload_n hx hb dX10_goes_27 rfl (lv_at hl 0 rfl) ?_
          refine fg_10_step F G hk6 ht7 in10 (by decide +kernel) dX10_goes_28 ?_
          have hk10 : gck 422 = 25 := rfl
          have ht11 : 422 < N := Nat.lt_of_lt_of_le (by decide) hN
          have hn12 : gal 422 = 80 := rfl
          refine lv_iload_n hx hb dX10_goes_31 rfl (lv_at hl 2 rfl) ?_
          obtain ⟨hi13, h⟩ := gc_s h
          refine gx_mga F G hk10 ht11 hn12 hi13 dX10_goes_32 ?_
          refine lv_iconst (v := 0) hx hb dX10_goes_33 (by decide) ?_
          obtain ⟨hk14, h⟩ := gc_s h
          have ht15 : (422 + 1 + y2.toNatClampNeg) < N := Nat.lt_of_lt_of_le (gck_lt22 hk14) hN
          obtain ⟨hi16, h⟩ := gc_s h
          refine gx_mia F G hk14 ht15 rfl hi16 dX10_goes_34 ?_
          refine lv_iconst (v := 5) hx hb dX10_goes_35 (by decide) ?_
          obtain ⟨K18, eK18, h⟩ := gj_s h
          have JK18 : ∀ (c17 : gm) (H : Heap) (locs : List Loc) (ls : Array Slot), K18 c17 = some o1 → gW D ad cy N A s.heap c0 c17 H locs → lv_has ls 5 [(0, .ref (ad t)), (2, .int a2), (3, .int y2)] → W p l e (rmX10_goes (dd + 1)) s m args below meth cod H locs 0 0 Q (F0 m 143 ls []) := by
            intro c17 H locs ls h G hl
            rw [eK18] at h
            refine lv_aload_n hx hb dX10_goes_143 rfl (lv_at hl 0 rfl) ?_
            refine fg_10_step F G hk6 ht7 in10 (by decide +kernel) dX10_goes_144 ?_
            refine lv_iload_n hx hb dX10_goes_147 rfl (lv_at hl 2 rfl) ?_
            obtain ⟨hi19, h⟩ := gc_s h
            refine gx_mga F G hk10 ht11 hn12 hi19 dX10_goes_148 ?_
            refine lv_iconst (v := 5) hx hb dX10_goes_149 (by decide) ?_
            obtain ⟨hi20, h⟩ := gc_s h
            refine gx_mia F G hk14 ht15 rfl hi20 dX10_goes_150 ?_
            refine lv_topi (fun x21 ex21 => ?_)
            replace h := gv_s h x21 ex21
            refine lv_istore_n (lv' := [(3, .int x21), (0, .ref (ad t)), (2, .int a2)]) hx hb dX10_goes_151 rfl hl (by decide) rfl (fun ls hl => ?_)
            refine lv_goto (tgt := 2) hx hb dX10_goes_152 (by decide) ?_
            cases h
            exact ih1 _ _ _ _ _ hn1 G (lv_sub hl [1, 2, 0] rfl)
          refine lv_icmp_ne (tgt := 89) hx hb dX10_goes_36 (by decide) (fun q22 => ?_) (fun q22 => ?_)
          · replace h := gf_s q22 h
            refine lv_aload_n hx hb dX10_goes_89 rfl (lv_at hl 0 rfl) ?_
            refine lv_aload_n hx hb dX10_goes_90 rfl (lv_at hl 0 rfl) ?_
            refine fg_10_now F G hk6 ht7 in10 (by decide +kernel) dX10_goes_91 ?_
            have hk23 : gck 503 = 22 := rfl
            have ht24 : 503 < N := Nat.lt_of_lt_of_le (by decide) hN
            have hn25 : gal 503 = 60 := rfl
            refine lv_aload_n hx hb dX10_goes_94 rfl (lv_at hl 0 rfl) ?_
            refine fg_10_step F G hk6 ht7 in10 (by decide +kernel) dX10_goes_95 ?_
            refine lv_iload_n hx hb dX10_goes_98 rfl (lv_at hl 2 rfl) ?_
            obtain ⟨hi26, h⟩ := gc_s h
            refine gx_mga F G hk10 ht11 hn12 hi26 dX10_goes_99 ?_
            obtain ⟨r28, c29, hc27, h⟩ := gb2_s h
            refine gx_calli F G (va_runV (As := [.ref (ad 503), .ref (ad (422 + 1 + y2.toNatClampNeg))]) (rest := []) (gx_fix F) (c_X10_does l sa D ad cy N H.size hN hI c0 c9 hc27) (cwV 2 hts gX10_goes_X10_does rfl rfl rfl (by decide +kernel) ⟨by simp only [rmX10_goes, rmX10_does]; omega, by simp only [rmX10_goes, rmX10_does]; omega⟩) (gx_rec F G ht7 (gwe_10 hk6) rfl) rfl rfl hl.1 rfl (lv_room (Nat.le_of_ble_eq_true rfl)) dX10_goes_100 ⟨Nat.zero_le _, Nat.zero_le _⟩) (fun H locs G => ?_)
            refine lv_istore (lv' := [(4, .int r28), (0, .ref (ad t)), (2, .int a2), (3, .int y2)]) hx hb dX10_goes_103 hl (by decide) rfl (fun ls hl => ?_)
            refine lv_aload_n hx hb dX10_goes_105 rfl (lv_at hl 1 rfl) ?_
            refine lv_dup hx hb dX10_goes_106 rfl ?_
            refine fg_10_doneSteps F G hk6 ht7 in10 (by decide +kernel) dX10_goes_107 ?_
            refine lv_iload hx hb dX10_goes_110 (lv_at hl 0 rfl) ?_
            obtain ⟨K31, eK31, h⟩ := gj_s h
            have JK31 : ∀ (v30 : Int32) (H : Heap) (locs : List Loc) (ls : Array Slot), K31 v30 = some o1 → gW D ad cy N A s.heap c0 c29 H locs → lv_has ls 5 [(0, .ref (ad t)), (2, .int a2), (3, .int y2), (4, .int r28)] → W p l e (rmX10_goes (dd + 1)) s m args below meth cod H locs 0 0 Q (F0 m 120 ls [.int v30, .int (c29.1 t 38), .ref (ad t)]) := by
              intro v30 H locs ls h G hl
              rw [eK31] at h
              refine lv_iadd hx hb dX10_goes_120 ?_
              refine fp_10_doneSteps F G hk6 ht7 in10 (by decide +kernel) dX10_goes_121 (fun H locs G => ?_)
              obtain ⟨c32, ec32⟩ : ∃ z, z = gm_r c29 t (upd (c29.1 t) 38 ((c29.1 t 38) + v30)) := ⟨_, rfl⟩
              rw [← ec32] at G
              replace h := gv_s h c32 ec32
              refine lv_aload_n hx hb dX10_goes_124 rfl (lv_at hl 0 rfl) ?_
              refine lv_dup hx hb dX10_goes_125 rfl ?_
              refine fg_10_refusedSteps F G hk6 ht7 in10 (by decide +kernel) dX10_goes_126 ?_
              refine lv_iload hx hb dX10_goes_129 (lv_at hl 3 rfl) ?_
              obtain ⟨K34, eK34, h⟩ := gj_s h
              have JK34 : ∀ (v33 : Int32) (H : Heap) (locs : List Loc) (ls : Array Slot), K34 v33 = some o1 → gW D ad cy N A s.heap c0 c32 H locs → lv_has ls 5 [(0, .ref (ad t)), (2, .int a2), (3, .int y2)] → W p l e (rmX10_goes (dd + 1)) s m args below meth cod H locs 0 0 Q (F0 m 139 ls [.int v33, .int (c32.1 t 34), .ref (ad t)]) := by
                intro v33 H locs ls h G hl
                rw [eK34] at h
                refine lv_iadd hx hb dX10_goes_139 ?_
                refine fp_10_refusedSteps F G hk6 ht7 in10 (by decide +kernel) dX10_goes_140 (fun H locs G => ?_)
                obtain ⟨c35, ec35⟩ : ∃ z, z = gm_r c32 t (upd (c32.1 t) 34 ((c32.1 t 34) + v33)) := ⟨_, rfl⟩
                rw [← ec35] at G
                replace h := gv_s h c35 ec35
                exact JK18 _ _ _ _ h G hl
              refine lv_if_eq (tgt := 138) hx hb dX10_goes_131 (by decide) (fun q36 => ?_) (fun q36 => ?_)
              · replace h := gt_s q36 h
                refine lv_iconst (v := 1) hx hb dX10_goes_138 (by decide) ?_
                exact JK34 _ _ _ _ h G (lv_sub hl [0, 1, 2] rfl)
              · replace h := gf_s q36 h
                refine lv_iconst (v := 0) hx hb dX10_goes_134 (by decide) ?_
                refine lv_goto (tgt := 139) hx hb dX10_goes_135 (by decide) ?_
                exact JK34 _ _ _ _ h G (lv_sub hl [0, 1, 2] rfl)
            refine lv_if_eq (tgt := 119) hx hb dX10_goes_112 (by decide) (fun q37 => ?_) (fun q37 => ?_)
            · replace h := gt_s q37 h
              refine lv_iconst (v := 0) hx hb dX10_goes_119 (by decide) ?_
              exact JK31 _ _ _ _ h G (lv_sub hl [1, 2, 3, 0] rfl)
            · replace h := gf_s q37 h
              refine lv_iconst (v := 1) hx hb dX10_goes_115 (by decide) ?_
              refine lv_goto (tgt := 120) hx hb dX10_goes_116 (by decide) ?_
              exact JK31 _ _ _ _ h G (lv_sub hl [1, 2, 3, 0] rfl)
          · replace h := gt_s q22 h
            refine lv_iconst (v := 0) hx hb dX10_goes_39 (by decide) ?_
            refine lv_istore (lv' := [(4, .int 0), (0, .ref (ad t)), (2, .int a2), (3, .int y2)]) hx hb dX10_goes_40 hl (by decide) rfl (fun ls hl => ?_)
            obtain ⟨b38, hb38, hK38⟩ := gb_s h
            have E38 : ∀ (c41 : gm) (H : Heap) (locs : List Loc) (ls : Array Slot), (c41 : gm) = b38 → gW D ad cy N A s.heap c0 c41 H locs → lv_has ls 5 [(0, .ref (ad t)), (2, .int a2), (3, .int y2)] → W p l e (rmX10_goes (dd + 1)) s m args below meth cod H locs 0 0 Q (F0 m 86 ls []) := by
              intro c41 H locs ls hq38 G hl
              subst hq38
              replace hK38 := hK38
              have h := hK38
              refine lv_goto (tgt := 143) hx hb dX10_goes_86 (by decide) ?_
              exact JK18 _ _ _ _ h G hl
            have L38 : ∀ (n9 : Nat) (y39 : Int32) (c40 : gm) (H : Heap) (locs : List Loc) (ls : Array Slot), gloop (gu2 (fun (y39 : Int32) (c40 : gm) => m_X10_goes_L42 rs n t y2 y39 c40)) n9 (y39, c40) = some b38 → gW D ad cy N A s.heap c0 c40 H locs → lv_has ls 5 [(0, .ref (ad t)), (2, .int a2), (3, .int y2), (4, .int y39)] → W p l e (rmX10_goes (dd + 1)) s m args below meth cod H locs 0 0 Q (F0 m 42 ls []) := by
              intro n9
              induction n9 with
              | zero => intro y39 c40 H locs ls h; exact (gloop_0 h).elim
              | succ n9 ih =>
                intro y39 c40 H locs ls h G hl
                have ih38 := ih
                obtain ⟨o38, h, hn38⟩ := gloop_s h
                replace h := gu2_s h
                unfold m_X10_goes_L42 at h
                refine lv_iload hx hb dX10_goes_42 (lv_at hl 3 rfl) ?_
                refine lv_aload_n hx hb dX10_goes_44 rfl (lv_at hl 0 rfl) ?_
                refine fg_10_step F G hk6 ht7 in10 (by decide +kernel) dX10_goes_45 ?_
                refine lv_iload_n hx hb dX10_goes_48 rfl (lv_at hl 2 rfl) ?_
                obtain ⟨hi42, h⟩ := gc_s h
                refine gx_mga F G hk10 ht11 hn12 hi42 dX10_goes_49 ?_
                refine lv_iconst (v := 1) hx hb dX10_goes_50 (by decide) ?_
                obtain ⟨hi43, h⟩ := gc_s h
                refine gx_mia F G hk14 ht15 rfl hi43 dX10_goes_51 ?_
                refine lv_icmp_ge (tgt := 86) hx hb dX10_goes_52 (by decide) (fun q44 => ?_) (fun q44 => ?_)
                · replace h := gt_s q44 h
                  cases h
                  exact E38 _ _ _ _ (gnx_r hn38) G (lv_sub hl [0, 1, 2] rfl)
                · replace h := gf_s q44 h
                  refine lv_aload_n hx hb dX10_goes_55 rfl (lv_at hl 0 rfl) ?_
                  refine fg_10_begun F G hk6 ht7 in10 (by decide +kernel) dX10_goes_56 ?_
                  refine lv_sipush (v := 200) hx hb dX10_goes_59 (by decide) ?_
                  refine lv_icmp_ge (tgt := 86) hx hb dX10_goes_62 (by decide) (fun q45 => ?_) (fun q45 => ?_)
                  · replace h := gt_s q45 h
                    cases h
                    exact E38 _ _ _ _ (gnx_r hn38) G (lv_sub hl [0, 1, 2] rfl)
                  · replace h := gf_s q45 h
                    refine lv_aload_n hx hb dX10_goes_65 rfl (lv_at hl 0 rfl) ?_
                    refine lv_iload_n hx hb dX10_goes_66 rfl (lv_at hl 2 rfl) ?_
                    refine lv_iconst (v := 1) hx hb dX10_goes_67 (by decide) ?_
                    refine lv_iadd hx hb dX10_goes_68 ?_
                    refine lv_aload_n hx hb dX10_goes_69 rfl (lv_at hl 0 rfl) ?_
                    refine fg_10_step F G hk6 ht7 in10 (by decide +kernel) dX10_goes_70 ?_
                    refine lv_iload_n hx hb dX10_goes_73 rfl (lv_at hl 2 rfl) ?_
                    obtain ⟨hi46, h⟩ := gc_s h
                    refine gx_mga F G hk10 ht11 hn12 hi46 dX10_goes_74 ?_
                    refine lv_iconst (v := 5) hx hb dX10_goes_75 (by decide) ?_
                    obtain ⟨hi47, h⟩ := gc_s h
                    refine gx_mia F G hk14 ht15 rfl hi47 dX10_goes_76 ?_
                    obtain ⟨c50, hc48, h⟩ := gb_s h
                    refine gx_callv F G (va_runV (As := [.int (y2 + 1), .int (c40.1 (422 + 1 + y2.toNatClampNeg) (5 : Int32).toNatClampNeg)]) (rest := []) (gx_fix F) (hrs H.size c0 c40 hc48) (cwV 2 hts gX10_goes_X10_goes rfl rfl rfl (by decide +kernel) ⟨by simp only [rmX10_goes]; omega, by simp only [rmX10_goes]; omega⟩) (gx_rec F G ht7 (gwe_10 hk6) rfl) rfl rfl hl.1 rfl (lv_room (Nat.le_of_ble_eq_true rfl)) dX10_goes_77 ⟨Nat.zero_le _, Nat.zero_le _⟩) (fun H locs G => ?_)
                    obtain ⟨x51, ex51⟩ : ∃ z : Int32, z = y39 + 1 := ⟨_, rfl⟩
                    replace h := gv_s h x51 ex51
                    refine lv_iinc (v := x51) (lv' := [(4, .int x51), (0, .ref (ad t)), (2, .int a2), (3, .int y2)]) hx hb dX10_goes_80 hl (k := 3) rfl (by rw [ex51]; rfl) (by decide) rfl (fun ls hl => ?_)
                    refine lv_goto (tgt := 42) hx hb dX10_goes_83 (by decide) ?_
                    cases h
                    exact ih38 _ _ _ _ _ hn38 G (lv_sub hl [1, 2, 3, 0] rfl)
            exact L38 n _ _ _ _ _ hb38 G (lv_sub hl [1, 2, 3, 0] rfl)
  exact L1 n _ _ _ _ _ hb1 G (lv_sub hl [1, 3, 0] rfl)
def m_X10_goes : Nat → (Nat → Nat → Int32 → Int32 → gm → Option (gm))
  | 0 => fun _ _ _ _ _ => none
  | dd + 1 => m_X10_goes_b (m_X10_goes dd)
theorem c_X10_goes (l : Launch) (sa : gSa) (D : va_G) (ad : Nat → Nat) (cy : Nat → ClassId) (N : Nat) (hN : 530 ≤ N) (hI : gI ad N) (dd : Nat) : ∀ (sz : Nat) (c0 c : gm) {n : Nat} {t : Nat} {a1 : Int32} {a2 : Int32} {cZ : gm}, m_X10_goes dd n t a1 a2 c = some cZ → Met l yX10_goes wsX10_goes (rmX10_goes dd) (va_Pc [.ref (ad t), .int a1, .int a2] (gP sa D ad cy N sz c0 c)) (va_Qv (fun (_ : Unit) => True) (fun _ U => gE D ad cy N c0 cZ U) (gA ad N sz)) 0 0 (gA ad N sz) := by
  induction dd with
  | zero => intro _ _ _ _ _ _ _ _ h; have h2 : none = some _ := h; cases h2
  | succ dd ih => intro sz c d0 _ _ _ _ _ h; exact c_X10_goes_b l sa D ad cy N sz hN hI c d0 (m_X10_goes dd) dd (fun sz c d0 _ _ _ _ _ h => ih sz c d0 h) h

def m_X10_work_L72 (n : Nat) (t : Nat) (c18 : gm) : Option ((gm) ⊕ (gm)) :=
  (if (c18.1 t 5) = 0 then (if (c18.1 t 2) ≤ (c18.1 t 4) then some (.inr c18) else gb (m_X10_readsStep 12 n t c18) (fun (c46 : gm) => gb (m_X10_blanks n t c46) (fun (c49 : gm) => some (.inl c49)))) else some (.inr c18))
def m_X10_work (n : Nat) (t : Nat) (a1 : Int32) (c : gm) : Option (Int32 × gm) :=
  gc (gck t = 10) (gv (gm_r c t (upd (c.1 t) 0 0)) (fun (c3 : gm) => gb (m_X10_in a1 0 (c3.1 t 1)) (fun (r5 : Int32) => gj (fun (v6 : Int32) => gb2 (m_X10_bad t v6 1 1 c3) (fun (r9 : Int32) (c10 : gm) => (if r9 = 0 then (if (c10.1 t 33) = 16 then gv (gm_r c10 t (upd (c10.1 t) 1 0)) (fun (c50 : gm) => gv (gm_r c50 t (upd (c50.1 t) 3 (-1))) (fun (c51 : gm) => some ((-20), c51))) else gb (m_X10_starts n t a1 c10) (fun (c15 : gm) => gv (gm_r c15 t (upd (c15.1 t) 26 0)) (fun (c16 : gm) => gb (gloop (fun (c18 : gm) => m_X10_work_L72 n t c18) n c16) (fun (c19 : gm) => (if (c19.1 t 5) = 0 then gv (gm_r c19 t (upd (c19.1 t) 3 (-1))) (fun (c21 : gm) => gc (0 ≤ (c21.1 t 33).toInt ∧ (c21.1 t 33).toInt < 16) (gb (m_X10_copies n 503 (506 + 1 + (c21.1 t 33).toNatClampNeg) c21) (fun (c31 : gm) => gv (gm_r c31 t (upd (c31.1 t) 33 ((c31.1 t 33) + 1))) (fun (c32 : gm) => gv (gm_r c32 t (upd (c32.1 t) 37 0)) (fun (c33 : gm) => gv (gm_r c33 t (upd (c33.1 t) 38 0)) (fun (c34 : gm) => gv (gm_r c34 t (upd (c34.1 t) 34 0)) (fun (c35 : gm) => gb (m_X10_goes 12 n t 0 (c35.1 t 26) c35) (fun (c38 : gm) => some ((c38.1 t 38), c38))))))))) else gb2 (m_X10_ends t c19) (fun (r40 : Int32) (c41 : gm) => some (r40, c41))))))) else some (0, c10)))) (fun K7 => gj (fun (_ : Unit) => K7 1) (fun K52 => (if r5 = 0 then K52 () else (if a1 ≤ 150 then K7 0 else K52 ())))))))
abbrev rmX10_work : Room := { frames := 20, cells := 0, slots := 0, locals := 470 }
set_option maxHeartbeats 4000000 in
set_option maxRecDepth 100000 in
theorem c_X10_work (l : Launch) (sa : gSa) (D : va_G) (ad : Nat → Nat) (cy : Nat → ClassId) (N sz : Nat) (hN : 530 ≤ N) (hI : gI ad N) (c0 c : gm) {n : Nat} {t : Nat} {a1 : Int32} {rZ : Int32} {cZ : gm} (h : m_X10_work n t a1 c = some (rZ, cZ)) : Met l yX10_work wsX10_work rmX10_work (va_Pc [.ref (ad t), .int a1] (gP sa D ad cy N sz c0 c)) (va_Qi (fun (z : Int32) (_ : Unit) => z = rZ) (fun _ U => gE D ad cy N c0 cZ U) (gA ad N sz)) 0 0 (gA ad N sz) := by
  refine Met.ofW (cc := cX10_work) (maxL := 2) (ret := (some .int)) (by decide) rfl ?_
  intro p e s m args below meth cod s₁ B hml hv
  obtain ⟨rfl, hsz, hP, hK, hZ⟩ := hv
  have hx := B.exec
  have hb := B.bytes
  have hr := B.returns
  have hts := atoms_spec (ws := wsX10_work) B.pre
  have hown : s.vm.findClass RX10 = some m.cls := findClass_of_methodNamed B.named
  have hlocks := B.notSynchronized
  subst hsz
  have hl := lv_entry ([.ref (ad t), .int a1]) (n := 2) (Nat.le_of_ble_eq_true rfl)
  rw [lg_entry_eq]
  generalize (lg_sl ([.ref (ad t), .int a1]) ++ List.replicate (2 - (lg_sl ([.ref (ad t), .int a1])).length) Slot.unset).toArray = ls at hl ⊢
  have hl : lv_has ls 2 [(0, .ref (ad t)), (1, .int a1)] := hl
  have in10 : ∀ w ∈ wsX100, w ∈ wsX10_work := by decide +kernel
  generalize hargs : ([.ref (ad t), .int a1] : List Value).toArray = args at *
  generalize hAe : gA ad N s.heap.size = A
  have F : gF sa D ad cy N A p s m args cod cX10_work 2 wsX10_work RX10 := ⟨hx, hb, hml, hown, hts, hK, hI, by rw [← hAe]; exact gA_ad, by rw [← hAe]; exact gA_sz, by rw [← hAe]; exact hZ⟩
  have G : gW D ad cy N A s.heap c0 c s.heap [] := ⟨hP, va_S.rf⟩
  generalize hQ : MQ below (va_Qi (fun (z : Int32) (_ : Unit) => z = rZ) (fun _ U => gE D ad cy N c0 cZ U) A) args s 0 0 A = Q
  suffices hgen : ∀ (H : Heap) (locs : List Loc), gW D ad cy N A s.heap c0 c H locs → W p l e rmX10_work s m args below meth cod H locs 0 0 Q (F0 m 0 ls []) from hgen _ _ G
  clear G
  intro H locs G
  unfold m_X10_work at h
  refine lv_aload_n hx hb dX10_work_0 rfl (lv_at hl 0 rfl) ?_
  refine lv_iconst (v := 0) hx hb dX10_work_1 (by decide) ?_
  obtain ⟨hk1, h⟩ := gc_s h
  have ht2 : t < N := Nat.lt_of_lt_of_le (gck_lt10 hk1) hN
  refine fp_10_thrown F G hk1 ht2 in10 (by decide +kernel) dX10_work_2 (fun H locs G => ?_)
  obtain ⟨c3, ec3⟩ : ∃ z, z = gm_r c t (upd (c.1 t) 0 0) := ⟨_, rfl⟩
  rw [← ec3] at G
  replace h := gv_s h c3 ec3
  refine lv_aload_n hx hb dX10_work_5 rfl (lv_at hl 0 rfl) ?_
  refine lv_iload_n hx hb dX10_work_6 rfl (lv_at hl 1 rfl) ?_
  refine lv_iconst (v := 0) hx hb dX10_work_7 (by decide) ?_
  refine lv_aload_n hx hb dX10_work_8 rfl (lv_at hl 0 rfl) ?_
  refine fg_10_tape F G hk1 ht2 in10 (by decide +kernel) dX10_work_9 ?_
  obtain ⟨r5, hc4, h⟩ := gb_s h
  refine gx_calli F G (va_runS (As := [.int a1, .int 0, .int (c3.1 t 1)]) (rest := [.ref (ad t)]) (gx_fix F) (c_X10_in l sa D ad cy N H.size hN hI c0 c3 hc4) (va_cwS 3 hts gX10_work_X10_in rfl rfl rfl (by decide +kernel) ⟨by decide, by decide⟩) (gx_pre F G) rfl rfl hl.1 rfl (lv_room (Nat.le_of_ble_eq_true rfl)) dX10_work_12 ⟨Nat.zero_le _, Nat.zero_le _⟩) (fun H locs G => ?_)
  obtain ⟨K7, eK7, h⟩ := gj_s h
  have JK7 : ∀ (v6 : Int32) (H : Heap) (locs : List Loc) (ls : Array Slot), K7 v6 = some (rZ, cZ) → gW D ad cy N A s.heap c0 c3 H locs → lv_has ls 2 [(0, .ref (ad t)), (1, .int a1)] → W p l e rmX10_work s m args below meth cod H locs 0 0 Q (F0 m 30 ls [.int v6, .ref (ad t)]) := by
    intro v6 H locs ls h G hl
    rw [eK7] at h
    refine lv_iconst (v := 1) hx hb dX10_work_30 (by decide) ?_
    refine lv_iconst (v := 1) hx hb dX10_work_31 (by decide) ?_
    obtain ⟨r9, c10, hc8, h⟩ := gb2_s h
    refine gx_calli F G (va_runV (As := [.int v6, .int 1, .int 1]) (rest := []) (gx_fix F) (c_X10_bad l sa D ad cy N H.size hN hI c0 c3 hc8) (cwV 3 hts gX10_work_X10_bad rfl rfl rfl (by decide +kernel) ⟨by decide, by decide⟩) (gx_rec F G ht2 (gwe_10 hk1) rfl) rfl rfl hl.1 rfl (lv_room (Nat.le_of_ble_eq_true rfl)) dX10_work_32 ⟨Nat.zero_le _, Nat.zero_le _⟩) (fun H locs G => ?_)
    refine lv_if_eq (tgt := 40) hx hb dX10_work_35 (by decide) (fun q11 => ?_) (fun q11 => ?_)
    · replace h := gt_s q11 h
      refine lv_aload_n hx hb dX10_work_40 rfl (lv_at hl 0 rfl) ?_
      refine fg_10_works F G hk1 ht2 in10 (by decide +kernel) dX10_work_41 ?_
      refine lv_bipush (v := 16) hx hb dX10_work_44 (by decide) ?_
      refine lv_icmp_ne (tgt := 62) hx hb dX10_work_46 (by decide) (fun q12 => ?_) (fun q12 => ?_)
      · replace h := gf_s q12 h
        refine lv_aload_n hx hb dX10_work_62 rfl (lv_at hl 0 rfl) ?_
        refine lv_iload_n hx hb dX10_work_63 rfl (lv_at hl 1 rfl) ?_
        obtain ⟨c15, hc13, h⟩ := gb_s h
        refine gx_callv F G (va_runV (As := [.int a1]) (rest := []) (gx_fix F) (c_X10_starts l sa D ad cy N H.size hN hI c0 c10 hc13) (cwV 1 hts gX10_work_X10_starts rfl rfl rfl (by decide +kernel) ⟨by decide, by decide⟩) (gx_rec F G ht2 (gwe_10 hk1) rfl) rfl rfl hl.1 rfl (lv_room (Nat.le_of_ble_eq_true rfl)) dX10_work_64 ⟨Nat.zero_le _, Nat.zero_le _⟩) (fun H locs G => ?_)
        refine lv_aload_n hx hb dX10_work_67 rfl (lv_at hl 0 rfl) ?_
        refine lv_iconst (v := 0) hx hb dX10_work_68 (by decide) ?_
        refine fp_10_steps F G hk1 ht2 in10 (by decide +kernel) dX10_work_69 (fun H locs G => ?_)
        obtain ⟨c16, ec16⟩ : ∃ z, z = gm_r c15 t (upd (c15.1 t) 26 0) := ⟨_, rfl⟩
        rw [← ec16] at G
        replace h := gv_s h c16 ec16
        obtain ⟨b17, hb17, hK17⟩ := gb_s h
        have E17 : ∀ (c19 : gm) (H : Heap) (locs : List Loc) (ls : Array Slot), (c19 : gm) = b17 → gW D ad cy N A s.heap c0 c19 H locs → lv_has ls 2 [(0, .ref (ad t))] → W p l e rmX10_work s m args below meth cod H locs 0 0 Q (F0 m 101 ls []) := by
          intro c19 H locs ls hq17 G hl
          subst hq17
          replace hK17 := hK17
          have h := hK17
          refine lv_aload_n hx hb dX10_work_101 rfl (lv_at hl 0 rfl) ?_
          refine fg_10_fault F G hk1 ht2 in10 (by decide +kernel) dX10_work_102 ?_
          refine lv_if_eq (tgt := 113) hx hb dX10_work_105 (by decide) (fun q20 => ?_) (fun q20 => ?_)
          · replace h := gt_s q20 h
            refine lv_aload_n hx hb dX10_work_113 rfl (lv_at hl 0 rfl) ?_
            refine lv_iconst (v := (-1)) hx hb dX10_work_114 (by decide) ?_
            refine fp_10_place F G hk1 ht2 in10 (by decide +kernel) dX10_work_115 (fun H locs G => ?_)
            obtain ⟨c21, ec21⟩ : ∃ z, z = gm_r c19 t (upd (c19.1 t) 3 (-1)) := ⟨_, rfl⟩
            rw [← ec21] at G
            replace h := gv_s h c21 ec21
            refine lv_aload_n hx hb dX10_work_118 rfl (lv_at hl 0 rfl) ?_
            refine fg_10_now F G hk1 ht2 in10 (by decide +kernel) dX10_work_119 ?_
            have hk22 : gck 503 = 22 := rfl
            have ht23 : 503 < N := Nat.lt_of_lt_of_le (by decide) hN
            have hn24 : gal 503 = 60 := rfl
            refine lv_aload_n hx hb dX10_work_122 rfl (lv_at hl 0 rfl) ?_
            refine fg_10_before F G hk1 ht2 in10 (by decide +kernel) dX10_work_123 ?_
            have hk25 : gck 506 = 25 := rfl
            have ht26 : 506 < N := Nat.lt_of_lt_of_le (by decide) hN
            have hn27 : gal 506 = 16 := rfl
            refine lv_aload_n hx hb dX10_work_126 rfl (lv_at hl 0 rfl) ?_
            refine fg_10_works F G hk1 ht2 in10 (by decide +kernel) dX10_work_127 ?_
            obtain ⟨hi28, h⟩ := gc_s h
            refine gx_mga F G hk25 ht26 hn27 hi28 dX10_work_130 ?_
            obtain ⟨c31, hc29, h⟩ := gb_s h
            refine gx_callv F G (va_runS (As := [.ref (ad 503), .ref (ad (506 + 1 + (c21.1 t 33).toNatClampNeg))]) (rest := []) (gx_fix F) (c_X10_copies l sa D ad cy N H.size hN hI c0 c21 hc29) (va_cwS 2 hts gX10_work_X10_copies rfl rfl rfl (by decide +kernel) ⟨by decide, by decide⟩) (gx_pre F G) rfl rfl hl.1 rfl (lv_room (Nat.le_of_ble_eq_true rfl)) dX10_work_131 ⟨Nat.zero_le _, Nat.zero_le _⟩) (fun H locs G => ?_)
            refine lv_aload_n hx hb dX10_work_134 rfl (lv_at hl 0 rfl) ?_
            refine lv_dup hx hb dX10_work_135 rfl ?_
            refine fg_10_works F G hk1 ht2 in10 (by decide +kernel) dX10_work_136 ?_
            refine lv_iconst (v := 1) hx hb dX10_work_139 (by decide) ?_
            refine lv_iadd hx hb dX10_work_140 ?_
            refine fp_10_works F G hk1 ht2 in10 (by decide +kernel) dX10_work_141 (fun H locs G => ?_)
            obtain ⟨c32, ec32⟩ : ∃ z, z = gm_r c31 t (upd (c31.1 t) 33 ((c31.1 t 33) + 1)) := ⟨_, rfl⟩
            rw [← ec32] at G
            replace h := gv_s h c32 ec32
            refine lv_aload_n hx hb dX10_work_144 rfl (lv_at hl 0 rfl) ?_
            refine lv_iconst (v := 0) hx hb dX10_work_145 (by decide) ?_
            refine fp_10_begun F G hk1 ht2 in10 (by decide +kernel) dX10_work_146 (fun H locs G => ?_)
            obtain ⟨c33, ec33⟩ : ∃ z, z = gm_r c32 t (upd (c32.1 t) 37 0) := ⟨_, rfl⟩
            rw [← ec33] at G
            replace h := gv_s h c33 ec33
            refine lv_aload_n hx hb dX10_work_149 rfl (lv_at hl 0 rfl) ?_
            refine lv_iconst (v := 0) hx hb dX10_work_150 (by decide) ?_
            refine fp_10_doneSteps F G hk1 ht2 in10 (by decide +kernel) dX10_work_151 (fun H locs G => ?_)
            obtain ⟨c34, ec34⟩ : ∃ z, z = gm_r c33 t (upd (c33.1 t) 38 0) := ⟨_, rfl⟩
            rw [← ec34] at G
            replace h := gv_s h c34 ec34
            refine lv_aload_n hx hb dX10_work_154 rfl (lv_at hl 0 rfl) ?_
            refine lv_iconst (v := 0) hx hb dX10_work_155 (by decide) ?_
            refine fp_10_refusedSteps F G hk1 ht2 in10 (by decide +kernel) dX10_work_156 (fun H locs G => ?_)
            obtain ⟨c35, ec35⟩ : ∃ z, z = gm_r c34 t (upd (c34.1 t) 34 0) := ⟨_, rfl⟩
            rw [← ec35] at G
            replace h := gv_s h c35 ec35
            refine lv_aload_n hx hb dX10_work_159 rfl (lv_at hl 0 rfl) ?_
            refine lv_iconst (v := 0) hx hb dX10_work_160 (by decide) ?_
            refine lv_aload_n hx hb dX10_work_161 rfl (lv_at hl 0 rfl) ?_
            refine fg_10_steps F G hk1 ht2 in10 (by decide +kernel) dX10_work_162 ?_
            obtain ⟨c38, hc36, h⟩ := gb_s h
            refine gx_callv F G (va_runV (As := [.int 0, .int (c35.1 t 26)]) (rest := []) (gx_fix F) (c_X10_goes l sa D ad cy N hN hI 12 H.size c0 c35 hc36) (cwV 2 hts gX10_work_X10_goes rfl rfl rfl (by decide +kernel) ⟨by decide, by decide⟩) (gx_rec F G ht2 (gwe_10 hk1) rfl) rfl rfl hl.1 rfl (lv_room (Nat.le_of_ble_eq_true rfl)) dX10_work_165 ⟨Nat.zero_le _, Nat.zero_le _⟩) (fun H locs G => ?_)
            refine lv_aload_n hx hb dX10_work_168 rfl (lv_at hl 0 rfl) ?_
            refine fg_10_doneSteps F G hk1 ht2 in10 (by decide +kernel) dX10_work_169 ?_
            cases h
            rw [← hQ]
            exact gx_iret F G hr hlocks dX10_work_172
          · replace h := gf_s q20 h
            refine lv_aload_n hx hb dX10_work_108 rfl (lv_at hl 0 rfl) ?_
            obtain ⟨r40, c41, hc39, h⟩ := gb2_s h
            refine gx_calli F G (va_runV (As := []) (rest := []) (gx_fix F) (c_X10_ends l sa D ad cy N H.size hN hI c0 c19 hc39) (cwV 0 hts gX10_work_X10_ends rfl rfl rfl (by decide +kernel) ⟨by decide, by decide⟩) (gx_rec F G ht2 (gwe_10 hk1) rfl) rfl rfl hl.1 rfl (lv_room (Nat.le_of_ble_eq_true rfl)) dX10_work_109 ⟨Nat.zero_le _, Nat.zero_le _⟩) (fun H locs G => ?_)
            cases h
            rw [← hQ]
            exact gx_iret F G hr hlocks dX10_work_112
        have L17 : ∀ (n9 : Nat) (c18 : gm) (H : Heap) (locs : List Loc) (ls : Array Slot), gloop (fun (c18 : gm) => m_X10_work_L72 n t c18) n9 c18 = some b17 → gW D ad cy N A s.heap c0 c18 H locs → lv_has ls 2 [(0, .ref (ad t))] → W p l e rmX10_work s m args below meth cod H locs 0 0 Q (F0 m 72 ls []) := by
          intro n9
          induction n9 with
          | zero => intro c18 H locs ls h; exact (gloop_0 h).elim
          | succ n9 ih =>
            intro c18 H locs ls h G hl
            have ih17 := ih
            obtain ⟨o17, h, hn17⟩ := gloop_s h
            unfold m_X10_work_L72 at h
            refine lv_aload_n hx hb dX10_work_72 rfl (lv_at hl 0 rfl) ?_
            refine fg_10_fault F G hk1 ht2 in10 (by decide +kernel) dX10_work_73 ?_
            refine lv_if_ne (tgt := 101) hx hb dX10_work_76 (by decide) (fun q42 => ?_) (fun q42 => ?_)
            · replace h := gf_s q42 h
              cases h
              exact E17 _ _ _ _ (gnx_r hn17) G hl
            · replace h := gt_s q42 h
              refine lv_aload_n hx hb dX10_work_79 rfl (lv_at hl 0 rfl) ?_
              refine fg_10_at F G hk1 ht2 in10 (by decide +kernel) dX10_work_80 ?_
              refine lv_aload_n hx hb dX10_work_83 rfl (lv_at hl 0 rfl) ?_
              refine fg_10_size F G hk1 ht2 in10 (by decide +kernel) dX10_work_84 ?_
              refine lv_icmp_ge (tgt := 101) hx hb dX10_work_87 (by decide) (fun q43 => ?_) (fun q43 => ?_)
              · replace h := gt_s q43 h
                cases h
                exact E17 _ _ _ _ (gnx_r hn17) G hl
              · replace h := gf_s q43 h
                refine lv_aload_n hx hb dX10_work_90 rfl (lv_at hl 0 rfl) ?_
                obtain ⟨c46, hc44, h⟩ := gb_s h
                refine gx_callv F G (va_runV (As := []) (rest := []) (gx_fix F) (c_X10_readsStep l sa D ad cy N hN hI 12 H.size c0 c18 hc44) (cwV 0 hts gX10_work_X10_readsStep rfl rfl rfl (by decide +kernel) ⟨by decide, by decide⟩) (gx_rec F G ht2 (gwe_10 hk1) rfl) rfl rfl hl.1 rfl (lv_room (Nat.le_of_ble_eq_true rfl)) dX10_work_91 ⟨Nat.zero_le _, Nat.zero_le _⟩) (fun H locs G => ?_)
                refine lv_aload_n hx hb dX10_work_94 rfl (lv_at hl 0 rfl) ?_
                obtain ⟨c49, hc47, h⟩ := gb_s h
                refine gx_callv F G (va_runV (As := []) (rest := []) (gx_fix F) (c_X10_blanks l sa D ad cy N H.size hN hI c0 c46 hc47) (cwV 0 hts gX10_work_X10_blanks rfl rfl rfl (by decide +kernel) ⟨by decide, by decide⟩) (gx_rec F G ht2 (gwe_10 hk1) rfl) rfl rfl hl.1 rfl (lv_room (Nat.le_of_ble_eq_true rfl)) dX10_work_95 ⟨Nat.zero_le _, Nat.zero_le _⟩) (fun H locs G => ?_)
                refine lv_goto (tgt := 72) hx hb dX10_work_98 (by decide) ?_
                cases h
                exact ih17 _ _ _ _ hn17 G hl
        exact L17 n _ _ _ _ hb17 G (lv_sub hl [0] rfl)
      · replace h := gt_s q12 h
        refine lv_aload_n hx hb dX10_work_49 rfl (lv_at hl 0 rfl) ?_
        refine lv_iconst (v := 0) hx hb dX10_work_50 (by decide) ?_
        refine fp_10_tape F G hk1 ht2 in10 (by decide +kernel) dX10_work_51 (fun H locs G => ?_)
        obtain ⟨c50, ec50⟩ : ∃ z, z = gm_r c10 t (upd (c10.1 t) 1 0) := ⟨_, rfl⟩
        rw [← ec50] at G
        replace h := gv_s h c50 ec50
        refine lv_aload_n hx hb dX10_work_54 rfl (lv_at hl 0 rfl) ?_
        refine lv_iconst (v := (-1)) hx hb dX10_work_55 (by decide) ?_
        refine fp_10_place F G hk1 ht2 in10 (by decide +kernel) dX10_work_56 (fun H locs G => ?_)
        obtain ⟨c51, ec51⟩ : ∃ z, z = gm_r c50 t (upd (c50.1 t) 3 (-1)) := ⟨_, rfl⟩
        rw [← ec51] at G
        replace h := gv_s h c51 ec51
        refine lv_bipush (v := (-20)) hx hb dX10_work_59 (by decide) ?_
        cases h
        rw [← hQ]
        exact gx_iret F G hr hlocks dX10_work_61
    · replace h := gf_s q11 h
      refine lv_iconst (v := 0) hx hb dX10_work_38 (by decide) ?_
      cases h
      rw [← hQ]
      exact gx_iret F G hr hlocks dX10_work_39
  obtain ⟨K52, eK52, h⟩ := gj_s h
  have JK52 : ∀ (H : Heap) (locs : List Loc) (ls : Array Slot), K52 () = some (rZ, cZ) → gW D ad cy N A s.heap c0 c3 H locs → lv_has ls 2 [(0, .ref (ad t)), (1, .int a1)] → W p l e rmX10_work s m args below meth cod H locs 0 0 Q (F0 m 25 ls [.ref (ad t)]) := by
    intro  H locs ls h G hl
    rw [eK52] at h
    refine lv_iconst (v := 1) hx hb dX10_work_25 (by decide) ?_
    refine lv_goto (tgt := 30) hx hb dX10_work_26 (by decide) ?_
    exact JK7 _ _ _ _ h G hl
  refine lv_if_eq (tgt := 25) hx hb dX10_work_15 (by decide) (fun q53 => ?_) (fun q53 => ?_)
  · replace h := gt_s q53 h
    exact JK52  _ _ _ h G hl
  · replace h := gf_s q53 h
    refine lv_iload_n hx hb dX10_work_18 rfl (lv_at hl 1 rfl) ?_
    refine lv_sipush (v := 150) hx hb dX10_work_19 (by decide) ?_
    refine lv_icmp_le (tgt := 29) hx hb dX10_work_22 (by decide) (fun q54 => ?_) (fun q54 => ?_)
    · replace h := gt_s q54 h
      refine lv_iconst (v := 0) hx hb dX10_work_29 (by decide) ?_
      exact JK7 _ _ _ _ h G hl
    · replace h := gf_s q54 h
      exact JK52  _ _ _ h G hl
def m_X10_undo (n : Nat) (t : Nat) (c : gm) : Option (Int32 × gm) :=
  gc (gck t = 10) (gv (gm_r c t (upd (c.1 t) 0 0)) (fun (c3 : gm) => (if (c3.1 t 33) = 0 then some ((-1), c3) else gv (gm_r c3 t (upd (c3.1 t) 33 ((c3.1 t 33) - 1))) (fun (c5 : gm) => gc (0 ≤ (c5.1 t 33).toInt ∧ (c5.1 t 33).toInt < 16) (gb (m_X10_copies n (506 + 1 + (c5.1 t 33).toNatClampNeg) 503 c5) (fun (c15 : gm) => gv (gm_r c15 t (upd (c15.1 t) 34 0)) (fun (c16 : gm) => some ((c16.1 t 33), c16))))))))
abbrev rmX10_undo : Room := { frames := 1, cells := 0, slots := 0, locals := 22 }
set_option maxHeartbeats 4000000 in
set_option maxRecDepth 100000 in
theorem c_X10_undo (l : Launch) (sa : gSa) (D : va_G) (ad : Nat → Nat) (cy : Nat → ClassId) (N sz : Nat) (hN : 530 ≤ N) (hI : gI ad N) (c0 c : gm) {n : Nat} {t : Nat} {rZ : Int32} {cZ : gm} (h : m_X10_undo n t c = some (rZ, cZ)) : Met l yX10_undo wsX10_undo rmX10_undo (va_Pc [.ref (ad t)] (gP sa D ad cy N sz c0 c)) (va_Qi (fun (z : Int32) (_ : Unit) => z = rZ) (fun _ U => gE D ad cy N c0 cZ U) (gA ad N sz)) 0 0 (gA ad N sz) := by
  refine Met.ofW (cc := cX10_undo) (maxL := 1) (ret := (some .int)) (by decide) rfl ?_
  intro p e s m args below meth cod s₁ B hml hv
  obtain ⟨rfl, hsz, hP, hK, hZ⟩ := hv
  have hx := B.exec
  have hb := B.bytes
  have hr := B.returns
  have hts := atoms_spec (ws := wsX10_undo) B.pre
  have hown : s.vm.findClass RX10 = some m.cls := findClass_of_methodNamed B.named
  have hlocks := B.notSynchronized
  subst hsz
  have hl := lv_entry ([.ref (ad t)]) (n := 1) (Nat.le_of_ble_eq_true rfl)
  rw [lg_entry_eq]
  generalize (lg_sl ([.ref (ad t)]) ++ List.replicate (1 - (lg_sl ([.ref (ad t)])).length) Slot.unset).toArray = ls at hl ⊢
  have hl : lv_has ls 1 [(0, .ref (ad t))] := hl
  have in10 : ∀ w ∈ wsX100, w ∈ wsX10_undo := by decide +kernel
  generalize hargs : ([.ref (ad t)] : List Value).toArray = args at *
  generalize hAe : gA ad N s.heap.size = A
  have F : gF sa D ad cy N A p s m args cod cX10_undo 1 wsX10_undo RX10 := ⟨hx, hb, hml, hown, hts, hK, hI, by rw [← hAe]; exact gA_ad, by rw [← hAe]; exact gA_sz, by rw [← hAe]; exact hZ⟩
  have G : gW D ad cy N A s.heap c0 c s.heap [] := ⟨hP, va_S.rf⟩
  generalize hQ : MQ below (va_Qi (fun (z : Int32) (_ : Unit) => z = rZ) (fun _ U => gE D ad cy N c0 cZ U) A) args s 0 0 A = Q
  suffices hgen : ∀ (H : Heap) (locs : List Loc), gW D ad cy N A s.heap c0 c H locs → W p l e rmX10_undo s m args below meth cod H locs 0 0 Q (F0 m 0 ls []) from hgen _ _ G
  clear G
  intro H locs G
  unfold m_X10_undo at h
  refine lv_aload_n hx hb dX10_undo_0 rfl (lv_at hl 0 rfl) ?_
  refine lv_iconst (v := 0) hx hb dX10_undo_1 (by decide) ?_
  obtain ⟨hk1, h⟩ := gc_s h
  have ht2 : t < N := Nat.lt_of_lt_of_le (gck_lt10 hk1) hN
  refine fp_10_thrown F G hk1 ht2 in10 (by decide +kernel) dX10_undo_2 (fun H locs G => ?_)
  obtain ⟨c3, ec3⟩ : ∃ z, z = gm_r c t (upd (c.1 t) 0 0) := ⟨_, rfl⟩
  rw [← ec3] at G
  replace h := gv_s h c3 ec3
  refine lv_aload_n hx hb dX10_undo_5 rfl (lv_at hl 0 rfl) ?_
  refine fg_10_works F G hk1 ht2 in10 (by decide +kernel) dX10_undo_6 ?_
  refine lv_if_ne (tgt := 14) hx hb dX10_undo_9 (by decide) (fun q4 => ?_) (fun q4 => ?_)
  · replace h := gf_s q4 h
    refine lv_aload_n hx hb dX10_undo_14 rfl (lv_at hl 0 rfl) ?_
    refine lv_dup hx hb dX10_undo_15 rfl ?_
    refine fg_10_works F G hk1 ht2 in10 (by decide +kernel) dX10_undo_16 ?_
    refine lv_iconst (v := 1) hx hb dX10_undo_19 (by decide) ?_
    refine lv_isub hx hb dX10_undo_20 ?_
    refine fp_10_works F G hk1 ht2 in10 (by decide +kernel) dX10_undo_21 (fun H locs G => ?_)
    obtain ⟨c5, ec5⟩ : ∃ z, z = gm_r c3 t (upd (c3.1 t) 33 ((c3.1 t 33) - 1)) := ⟨_, rfl⟩
    rw [← ec5] at G
    replace h := gv_s h c5 ec5
    refine lv_aload_n hx hb dX10_undo_24 rfl (lv_at hl 0 rfl) ?_
    refine fg_10_before F G hk1 ht2 in10 (by decide +kernel) dX10_undo_25 ?_
    have hk6 : gck 506 = 25 := rfl
    have ht7 : 506 < N := Nat.lt_of_lt_of_le (by decide) hN
    have hn8 : gal 506 = 16 := rfl
    refine lv_aload_n hx hb dX10_undo_28 rfl (lv_at hl 0 rfl) ?_
    refine fg_10_works F G hk1 ht2 in10 (by decide +kernel) dX10_undo_29 ?_
    obtain ⟨hi9, h⟩ := gc_s h
    refine gx_mga F G hk6 ht7 hn8 hi9 dX10_undo_32 ?_
    refine lv_aload_n hx hb dX10_undo_33 rfl (lv_at hl 0 rfl) ?_
    refine fg_10_now F G hk1 ht2 in10 (by decide +kernel) dX10_undo_34 ?_
    have hk10 : gck 503 = 22 := rfl
    have ht11 : 503 < N := Nat.lt_of_lt_of_le (by decide) hN
    have hn12 : gal 503 = 60 := rfl
    obtain ⟨c15, hc13, h⟩ := gb_s h
    refine gx_callv F G (va_runS (As := [.ref (ad (506 + 1 + (c5.1 t 33).toNatClampNeg)), .ref (ad 503)]) (rest := []) (gx_fix F) (c_X10_copies l sa D ad cy N H.size hN hI c0 c5 hc13) (va_cwS 2 hts gX10_undo_X10_copies rfl rfl rfl (by decide +kernel) ⟨by decide, by decide⟩) (gx_pre F G) rfl rfl hl.1 rfl (lv_room (Nat.le_of_ble_eq_true rfl)) dX10_undo_37 ⟨Nat.zero_le _, Nat.zero_le _⟩) (fun H locs G => ?_)
    refine lv_aload_n hx hb dX10_undo_40 rfl (lv_at hl 0 rfl) ?_
    refine lv_iconst (v := 0) hx hb dX10_undo_41 (by decide) ?_
    refine fp_10_refusedSteps F G hk1 ht2 in10 (by decide +kernel) dX10_undo_42 (fun H locs G => ?_)
    obtain ⟨c16, ec16⟩ : ∃ z, z = gm_r c15 t (upd (c15.1 t) 34 0) := ⟨_, rfl⟩
    rw [← ec16] at G
    replace h := gv_s h c16 ec16
    refine lv_aload_n hx hb dX10_undo_45 rfl (lv_at hl 0 rfl) ?_
    refine fg_10_works F G hk1 ht2 in10 (by decide +kernel) dX10_undo_46 ?_
    cases h
    rw [← hQ]
    exact gx_iret F G hr hlocks dX10_undo_49
  · replace h := gt_s q4 h
    refine lv_iconst (v := (-1)) hx hb dX10_undo_12 (by decide) ?_
    cases h
    rw [← hQ]
    exact gx_iret F G hr hlocks dX10_undo_13
def m_X10_weightIn_L4 (t : Nat) (a1 : Nat) (c : gm) (y2 : Int32) (y3 : Int32) : Option ((Int32 × Int32) ⊕ (Int32)) :=
  gc (gck t = 10) ((if (c.1 59 (0 : Int32).toNatClampNeg) ≤ y3 then some (.inr y2) else gc (gck a1 = 22) (gc (0 ≤ (0 + y3).toInt ∧ (0 + y3).toInt < ((gal a1) : Nat)) (gv (y2 + (c.1 a1 (0 + y3).toNatClampNeg)) (fun (x15 : Int32) => gv (y3 + 1) (fun (x16 : Int32) => some (.inl (x15, x16))))))))
def m_X10_weightIn (n : Nat) (t : Nat) (a1 : Nat) (c : gm) : Option (Int32) :=
  gb (gloop (gu2 (fun (y2 : Int32) (y3 : Int32) => m_X10_weightIn_L4 t a1 c y2 y3)) n (0, 0)) (fun (z4 : Int32) => some z4)
abbrev rmX10_weightIn : Room := { frames := 0, cells := 0, slots := 0, locals := 0 }
set_option maxHeartbeats 4000000 in
set_option maxRecDepth 100000 in
theorem c_X10_weightIn (l : Launch) (sa : gSa) (D : va_G) (ad : Nat → Nat) (cy : Nat → ClassId) (N sz : Nat) (hN : 530 ≤ N) (hI : gI ad N) (c0 c : gm) {n : Nat} {t : Nat} {a1 : Nat} {rZ : Int32} (h : m_X10_weightIn n t a1 c = some rZ) : Met l yX10_weightIn wsX10_weightIn rmX10_weightIn (va_Pc [.ref (ad t), .ref (ad a1)] (gP sa D ad cy N sz c0 c)) (va_Qi (fun (z : Int32) (_ : Unit) => z = rZ) (fun _ U => gE D ad cy N c0 c U) (gA ad N sz)) 0 0 (gA ad N sz) := by
  refine Met.ofW (cc := cX10_weightIn) (maxL := 4) (ret := (some .int)) (by decide) rfl ?_
  intro p e s m args below meth cod s₁ B hml hv
  obtain ⟨rfl, hsz, hP, hK, hZ⟩ := hv
  have hx := B.exec
  have hb := B.bytes
  have hr := B.returns
  have hts := atoms_spec (ws := wsX10_weightIn) B.pre
  have hown : s.vm.findClass RX10 = some m.cls := findClass_of_methodNamed B.named
  have hlocks := B.notSynchronized
  subst hsz
  have hl := lv_entry ([.ref (ad t), .ref (ad a1)]) (n := 4) (Nat.le_of_ble_eq_true rfl)
  rw [lg_entry_eq]
  generalize (lg_sl ([.ref (ad t), .ref (ad a1)]) ++ List.replicate (4 - (lg_sl ([.ref (ad t), .ref (ad a1)])).length) Slot.unset).toArray = ls at hl ⊢
  have hl : lv_has ls 4 [(0, .ref (ad t)), (1, .ref (ad a1))] := hl
  have in10 : ∀ w ∈ wsX100, w ∈ wsX10_weightIn := by decide +kernel
  generalize hargs : ([.ref (ad t), .ref (ad a1)] : List Value).toArray = args at *
  generalize hAe : gA ad N s.heap.size = A
  have F : gF sa D ad cy N A p s m args cod cX10_weightIn 4 wsX10_weightIn RX10 := ⟨hx, hb, hml, hown, hts, hK, hI, by rw [← hAe]; exact gA_ad, by rw [← hAe]; exact gA_sz, by rw [← hAe]; exact hZ⟩
  have G : gW D ad cy N A s.heap c0 c s.heap [] := ⟨hP, va_S.rf⟩
  generalize hQ : MQ below (va_Qi (fun (z : Int32) (_ : Unit) => z = rZ) (fun _ U => gE D ad cy N c0 c U) A) args s 0 0 A = Q
  suffices hgen : ∀ (H : Heap) (locs : List Loc), gW D ad cy N A s.heap c0 c H locs → W p l e rmX10_weightIn s m args below meth cod H locs 0 0 Q (F0 m 0 ls []) from hgen _ _ G
  clear G
  intro H locs G
  unfold m_X10_weightIn at h
  refine lv_iconst (v := 0) hx hb dX10_weightIn_0 (by decide) ?_
  refine lv_istore_n (lv' := [(2, .int 0), (0, .ref (ad t)), (1, .ref (ad a1))]) hx hb dX10_weightIn_1 rfl hl (by decide) rfl (fun ls hl => ?_)
  refine lv_iconst (v := 0) hx hb dX10_weightIn_2 (by decide) ?_
  refine lv_istore_n (lv' := [(3, .int 0), (2, .int 0), (0, .ref (ad t)), (1, .ref (ad a1))]) hx hb dX10_weightIn_3 rfl hl (by decide) rfl (fun ls hl => ?_)
  obtain ⟨b1, hb1, hK1⟩ := gb_s h
  have E1 : ∀ (z4 : Int32) (H : Heap) (locs : List Loc) (ls : Array Slot), (z4 : Int32) = b1 → gW D ad cy N A s.heap c0 c H locs → lv_has ls 4 [(2, .int z4)] → W p l e rmX10_weightIn s m args below meth cod H locs 0 0 Q (F0 m 28 ls []) := by
    intro z4 H locs ls hq1 G hl
    subst hq1
    replace hK1 := hK1
    have h := hK1
    refine lv_iload_n hx hb dX10_weightIn_28 rfl (lv_at hl 0 rfl) ?_
    cases h
    rw [← hQ]
    exact gx_iret F G hr hlocks dX10_weightIn_29
  have L1 : ∀ (n9 : Nat) (y2 : Int32) (y3 : Int32) (H : Heap) (locs : List Loc) (ls : Array Slot), gloop (gu2 (fun (y2 : Int32) (y3 : Int32) => m_X10_weightIn_L4 t a1 c y2 y3)) n9 (y2, y3) = some b1 → gW D ad cy N A s.heap c0 c H locs → lv_has ls 4 [(0, .ref (ad t)), (1, .ref (ad a1)), (2, .int y2), (3, .int y3)] → W p l e rmX10_weightIn s m args below meth cod H locs 0 0 Q (F0 m 4 ls []) := by
    intro n9
    induction n9 with
    | zero => intro y2 y3 H locs ls h; exact (gloop_0 h).elim
    | succ n9 ih =>
      intro y2 y3 H locs ls h G hl
      have ih1 := ih
      obtain ⟨o1, h, hn1⟩ := gloop_s h
      replace h := gu2_s h
      unfold m_X10_weightIn_L4 at h
      refine lv_iload_n hx hb dX10_weightIn_4 rfl (lv_at hl 3 rfl) ?_
      refine lv_aload_n hx hb dX10_weightIn_5 rfl (lv_at hl 0 rfl) ?_
      obtain ⟨hk5, h⟩ := gc_s h
      have ht6 : t < N := Nat.lt_of_lt_of_le (gck_lt10 hk5) hN
      refine fg_10_told F G hk5 ht6 in10 (by decide +kernel) dX10_weightIn_6 ?_
      have hk7 : gck 59 = 22 := rfl
      have ht8 : 59 < N := Nat.lt_of_lt_of_le (by decide) hN
      have hn9 : gal 59 = 4 := rfl
      refine lv_iconst (v := 0) hx hb dX10_weightIn_9 (by decide) ?_
      refine gx_mia F G hk7 ht8 hn9 (by decide) dX10_weightIn_10 ?_
      refine lv_icmp_ge (tgt := 28) hx hb dX10_weightIn_11 (by decide) (fun q11 => ?_) (fun q11 => ?_)
      · replace h := gt_s q11 h
        cases h
        exact E1 _ _ _ _ (gnx_r hn1) G (lv_sub hl [2] rfl)
      · replace h := gf_s q11 h
        refine lv_iload_n hx hb dX10_weightIn_14 rfl (lv_at hl 2 rfl) ?_
        refine lv_aload_n hx hb dX10_weightIn_15 rfl (lv_at hl 1 rfl) ?_
        refine lv_iconst (v := 0) hx hb dX10_weightIn_16 (by decide) ?_
        refine lv_iload_n hx hb dX10_weightIn_17 rfl (lv_at hl 3 rfl) ?_
        refine lv_iadd hx hb dX10_weightIn_18 ?_
        obtain ⟨hk12, h⟩ := gc_s h
        have ht13 : a1 < N := Nat.lt_of_lt_of_le (gck_lt22 hk12) hN
        obtain ⟨hi14, h⟩ := gc_s h
        refine gx_mia F G hk12 ht13 rfl hi14 dX10_weightIn_19 ?_
        refine lv_iadd hx hb dX10_weightIn_20 ?_
        refine lv_topi (fun x15 ex15 => ?_)
        replace h := gv_s h x15 ex15
        refine lv_istore_n (lv' := [(2, .int x15), (0, .ref (ad t)), (1, .ref (ad a1)), (3, .int y3)]) hx hb dX10_weightIn_21 rfl hl (by decide) rfl (fun ls hl => ?_)
        obtain ⟨x16, ex16⟩ : ∃ z : Int32, z = y3 + 1 := ⟨_, rfl⟩
        replace h := gv_s h x16 ex16
        refine lv_iinc (v := x16) (lv' := [(3, .int x16), (2, .int x15), (0, .ref (ad t)), (1, .ref (ad a1))]) hx hb dX10_weightIn_22 hl (k := 3) rfl (by rw [ex16]; rfl) (by decide) rfl (fun ls hl => ?_)
        refine lv_goto (tgt := 4) hx hb dX10_weightIn_25 (by decide) ?_
        cases h
        exact ih1 _ _ _ _ _ hn1 G (lv_sub hl [2, 3, 1, 0] rfl)
  exact L1 n _ _ _ _ _ hb1 G (lv_sub hl [2, 3, 1, 0] rfl)
def m_X10_notSo_L4 (a1 : Nat) (c : gm) (y2 : Int32) (y3 : Int32) : Option ((Int32 × Int32) ⊕ (Int32)) :=
  gc (gck a1 = 22) (gc (0 ≤ (56 : Int32).toInt ∧ (56 : Int32).toInt < ((gal a1) : Nat)) ((if (c.1 a1 (56 : Int32).toNatClampNeg) ≤ y3 then some (.inr y2) else gv (16 + (4 * y3)) (fun (x9 : Int32) => gc (0 ≤ x9.toInt ∧ x9.toInt < ((gal a1) : Nat)) (gc (0 ≤ (0 + (c.1 a1 x9.toNatClampNeg)).toInt ∧ (0 + (c.1 a1 x9.toNatClampNeg)).toInt < ((gal a1) : Nat)) (gc (0 ≤ (x9 + 1).toInt ∧ (x9 + 1).toInt < ((gal a1) : Nat)) (gc (0 ≤ (x9 + 2).toInt ∧ (x9 + 2).toInt < ((gal a1) : Nat)) (gc (0 ≤ (0 + (c.1 a1 (x9 + 2).toNatClampNeg)).toInt ∧ (0 + (c.1 a1 (x9 + 2).toNatClampNeg)).toInt < ((gal a1) : Nat)) (gc (0 ≤ (x9 + 3).toInt ∧ (x9 + 3).toInt < ((gal a1) : Nat)) (gj (fun (v16 : Int32) => gv (y2 ||| v16) (fun (x18 : Int32) => gv (y3 + 1) (fun (x19 : Int32) => some (.inl (x18, x19))))) (fun K17 => (if ((c.1 a1 (0 + (c.1 a1 (x9 + 2).toNatClampNeg)).toNatClampNeg) * (c.1 a1 (x9 + 3).toNatClampNeg)) ≤ ((c.1 a1 (0 + (c.1 a1 x9.toNatClampNeg)).toNatClampNeg) * (c.1 a1 (x9 + 1).toNatClampNeg)) then K17 0 else K17 ((1 : Int32) <<< (y3 &&& 31))))))))))))))
def m_X10_notSo (n : Nat) (a1 : Nat) (c : gm) : Option (Int32) :=
  gb (gloop (gu2 (fun (y2 : Int32) (y3 : Int32) => m_X10_notSo_L4 a1 c y2 y3)) n (0, 0)) (fun (z4 : Int32) => some z4)
abbrev rmX10_notSo : Room := { frames := 0, cells := 0, slots := 0, locals := 0 }
set_option maxHeartbeats 4000000 in
set_option maxRecDepth 100000 in
theorem c_X10_notSo (l : Launch) (sa : gSa) (D : va_G) (ad : Nat → Nat) (cy : Nat → ClassId) (N sz : Nat) (hN : 530 ≤ N) (hI : gI ad N) (c0 c : gm) {n : Nat} {a1 : Nat} {rZ : Int32} (h : m_X10_notSo n a1 c = some rZ) : Met l yX10_notSo wsX10_notSo rmX10_notSo (va_Pc [.ref (ad a1)] (gP sa D ad cy N sz c0 c)) (va_Qi (fun (z : Int32) (_ : Unit) => z = rZ) (fun _ U => gE D ad cy N c0 c U) (gA ad N sz)) 0 0 (gA ad N sz) := by
  refine Met.ofW (cc := cX10_notSo) (maxL := 4) (ret := (some .int)) (by decide) rfl ?_
  intro p e s m args below meth cod s₁ B hml hv
  obtain ⟨rfl, hsz, hP, hK, hZ⟩ := hv
  have hx := B.exec
  have hb := B.bytes
  have hr := B.returns
  have hts := atoms_spec (ws := wsX10_notSo) B.pre
  have hown : s.vm.findClass RX10 = some m.cls := findClass_of_methodNamed B.named
  have hlocks := B.notSynchronized
  subst hsz
  have hl := lv_entry ([.ref (ad a1)]) (n := 4) (Nat.le_of_ble_eq_true rfl)
  rw [lg_entry_eq]
  generalize (lg_sl ([.ref (ad a1)]) ++ List.replicate (4 - (lg_sl ([.ref (ad a1)])).length) Slot.unset).toArray = ls at hl ⊢
  have hl : lv_has ls 4 [(0, .ref (ad a1))] := hl
  generalize hargs : ([.ref (ad a1)] : List Value).toArray = args at *
  generalize hAe : gA ad N s.heap.size = A
  have F : gF sa D ad cy N A p s m args cod cX10_notSo 4 wsX10_notSo RX10 := ⟨hx, hb, hml, hown, hts, hK, hI, by rw [← hAe]; exact gA_ad, by rw [← hAe]; exact gA_sz, by rw [← hAe]; exact hZ⟩
  have G : gW D ad cy N A s.heap c0 c s.heap [] := ⟨hP, va_S.rf⟩
  generalize hQ : MQ below (va_Qi (fun (z : Int32) (_ : Unit) => z = rZ) (fun _ U => gE D ad cy N c0 c U) A) args s 0 0 A = Q
  suffices hgen : ∀ (H : Heap) (locs : List Loc), gW D ad cy N A s.heap c0 c H locs → W p l e rmX10_notSo s m args below meth cod H locs 0 0 Q (F0 m 0 ls []) from hgen _ _ G
  clear G
  intro H locs G
  unfold m_X10_notSo at h
  refine lv_iconst (v := 0) hx hb dX10_notSo_0 (by decide) ?_
  refine lv_istore_n (lv' := [(1, .int 0), (0, .ref (ad a1))]) hx hb dX10_notSo_1 rfl hl (by decide) rfl (fun ls hl => ?_)
  refine lv_iconst (v := 0) hx hb dX10_notSo_2 (by decide) ?_
  refine lv_istore_n (lv' := [(2, .int 0), (1, .int 0), (0, .ref (ad a1))]) hx hb dX10_notSo_3 rfl hl (by decide) rfl (fun ls hl => ?_)
  obtain ⟨b1, hb1, hK1⟩ := gb_s h
  have E1 : ∀ (z4 : Int32) (H : Heap) (locs : List Loc) (ls : Array Slot), (z4 : Int32) = b1 → gW D ad cy N A s.heap c0 c H locs → lv_has ls 4 [(1, .int z4)] → W p l e rmX10_notSo s m args below meth cod H locs 0 0 Q (F0 m 66 ls []) := by
    intro z4 H locs ls hq1 G hl
    subst hq1
    replace hK1 := hK1
    have h := hK1
    refine lv_iload_n hx hb dX10_notSo_66 rfl (lv_at hl 0 rfl) ?_
    cases h
    rw [← hQ]
    exact gx_iret F G hr hlocks dX10_notSo_67
  have L1 : ∀ (n9 : Nat) (y2 : Int32) (y3 : Int32) (H : Heap) (locs : List Loc) (ls : Array Slot), gloop (gu2 (fun (y2 : Int32) (y3 : Int32) => m_X10_notSo_L4 a1 c y2 y3)) n9 (y2, y3) = some b1 → gW D ad cy N A s.heap c0 c H locs → lv_has ls 4 [(0, .ref (ad a1)), (1, .int y2), (2, .int y3)] → W p l e rmX10_notSo s m args below meth cod H locs 0 0 Q (F0 m 4 ls []) := by
    intro n9
    induction n9 with
    | zero => intro y2 y3 H locs ls h; exact (gloop_0 h).elim
    | succ n9 ih =>
      intro y2 y3 H locs ls h G hl
      have ih1 := ih
      obtain ⟨o1, h, hn1⟩ := gloop_s h
      replace h := gu2_s h
      unfold m_X10_notSo_L4 at h
      refine lv_iload_n hx hb dX10_notSo_4 rfl (lv_at hl 2 rfl) ?_
      refine lv_aload_n hx hb dX10_notSo_5 rfl (lv_at hl 0 rfl) ?_
      refine lv_bipush (v := 56) hx hb dX10_notSo_6 (by decide) ?_
      obtain ⟨hk5, h⟩ := gc_s h
      have ht6 : a1 < N := Nat.lt_of_lt_of_le (gck_lt22 hk5) hN
      obtain ⟨hi7, h⟩ := gc_s h
      refine gx_mia F G hk5 ht6 rfl hi7 dX10_notSo_8 ?_
      refine lv_icmp_ge (tgt := 66) hx hb dX10_notSo_9 (by decide) (fun q8 => ?_) (fun q8 => ?_)
      · replace h := gt_s q8 h
        cases h
        exact E1 _ _ _ _ (gnx_r hn1) G (lv_sub hl [1] rfl)
      · replace h := gf_s q8 h
        refine lv_bipush (v := 16) hx hb dX10_notSo_12 (by decide) ?_
        refine lv_iconst (v := 4) hx hb dX10_notSo_14 (by decide) ?_
        refine lv_iload_n hx hb dX10_notSo_15 rfl (lv_at hl 2 rfl) ?_
        refine lv_imul hx hb dX10_notSo_16 ?_
        refine lv_iadd hx hb dX10_notSo_17 ?_
        refine lv_topi (fun x9 ex9 => ?_)
        replace h := gv_s h x9 ex9
        refine lv_istore_n (lv' := [(3, .int x9), (0, .ref (ad a1)), (1, .int y2), (2, .int y3)]) hx hb dX10_notSo_18 rfl hl (by decide) rfl (fun ls hl => ?_)
        refine lv_iload_n hx hb dX10_notSo_19 rfl (lv_at hl 2 rfl) ?_
        refine lv_aload_n hx hb dX10_notSo_20 rfl (lv_at hl 1 rfl) ?_
        refine lv_iconst (v := 0) hx hb dX10_notSo_21 (by decide) ?_
        refine lv_aload_n hx hb dX10_notSo_22 rfl (lv_at hl 1 rfl) ?_
        refine lv_iload_n hx hb dX10_notSo_23 rfl (lv_at hl 0 rfl) ?_
        obtain ⟨hi10, h⟩ := gc_s h
        refine gx_mia F G hk5 ht6 rfl hi10 dX10_notSo_24 ?_
        refine lv_iadd hx hb dX10_notSo_25 ?_
        obtain ⟨hi11, h⟩ := gc_s h
        refine gx_mia F G hk5 ht6 rfl hi11 dX10_notSo_26 ?_
        refine lv_aload_n hx hb dX10_notSo_27 rfl (lv_at hl 1 rfl) ?_
        refine lv_iload_n hx hb dX10_notSo_28 rfl (lv_at hl 0 rfl) ?_
        refine lv_iconst (v := 1) hx hb dX10_notSo_29 (by decide) ?_
        refine lv_iadd hx hb dX10_notSo_30 ?_
        obtain ⟨hi12, h⟩ := gc_s h
        refine gx_mia F G hk5 ht6 rfl hi12 dX10_notSo_31 ?_
        refine lv_imul hx hb dX10_notSo_32 ?_
        refine lv_aload_n hx hb dX10_notSo_33 rfl (lv_at hl 1 rfl) ?_
        refine lv_iconst (v := 0) hx hb dX10_notSo_34 (by decide) ?_
        refine lv_aload_n hx hb dX10_notSo_35 rfl (lv_at hl 1 rfl) ?_
        refine lv_iload_n hx hb dX10_notSo_36 rfl (lv_at hl 0 rfl) ?_
        refine lv_iconst (v := 2) hx hb dX10_notSo_37 (by decide) ?_
        refine lv_iadd hx hb dX10_notSo_38 ?_
        obtain ⟨hi13, h⟩ := gc_s h
        refine gx_mia F G hk5 ht6 rfl hi13 dX10_notSo_39 ?_
        refine lv_iadd hx hb dX10_notSo_40 ?_
        obtain ⟨hi14, h⟩ := gc_s h
        refine gx_mia F G hk5 ht6 rfl hi14 dX10_notSo_41 ?_
        refine lv_aload_n hx hb dX10_notSo_42 rfl (lv_at hl 1 rfl) ?_
        refine lv_iload_n hx hb dX10_notSo_43 rfl (lv_at hl 0 rfl) ?_
        refine lv_iconst (v := 3) hx hb dX10_notSo_44 (by decide) ?_
        refine lv_iadd hx hb dX10_notSo_45 ?_
        obtain ⟨hi15, h⟩ := gc_s h
        refine gx_mia F G hk5 ht6 rfl hi15 dX10_notSo_46 ?_
        refine lv_imul hx hb dX10_notSo_47 ?_
        obtain ⟨K17, eK17, h⟩ := gj_s h
        have JK17 : ∀ (v16 : Int32) (H : Heap) (locs : List Loc) (ls : Array Slot), K17 v16 = some o1 → gW D ad cy N A s.heap c0 c H locs → lv_has ls 4 [(0, .ref (ad a1)), (2, .int y3)] → W p l e rmX10_notSo s m args below meth cod H locs 0 0 Q (F0 m 58 ls [.int v16, .int y2]) := by
          intro v16 H locs ls h G hl
          rw [eK17] at h
          refine lv_ior hx hb dX10_notSo_58 ?_
          refine lv_topi (fun x18 ex18 => ?_)
          replace h := gv_s h x18 ex18
          refine lv_istore_n (lv' := [(1, .int x18), (0, .ref (ad a1)), (2, .int y3)]) hx hb dX10_notSo_59 rfl hl (by decide) rfl (fun ls hl => ?_)
          obtain ⟨x19, ex19⟩ : ∃ z : Int32, z = y3 + 1 := ⟨_, rfl⟩
          replace h := gv_s h x19 ex19
          refine lv_iinc (v := x19) (lv' := [(2, .int x19), (1, .int x18), (0, .ref (ad a1))]) hx hb dX10_notSo_60 hl (k := 2) rfl (by rw [ex19]; rfl) (by decide) rfl (fun ls hl => ?_)
          refine lv_goto (tgt := 4) hx hb dX10_notSo_63 (by decide) ?_
          cases h
          exact ih1 _ _ _ _ _ hn1 G (lv_sub hl [2, 1, 0] rfl)
        refine lv_icmp_ge (tgt := 57) hx hb dX10_notSo_48 (by decide) (fun q20 => ?_) (fun q20 => ?_)
        · replace h := gt_s q20 h
          refine lv_iconst (v := 0) hx hb dX10_notSo_57 (by decide) ?_
          exact JK17 _ _ _ _ h G (lv_sub hl [1, 3] rfl)
        · replace h := gf_s q20 h
          refine lv_iconst (v := 1) hx hb dX10_notSo_51 (by decide) ?_
          refine lv_iload_n hx hb dX10_notSo_52 rfl (lv_at hl 3 rfl) ?_
          refine lv_ishl hx hb dX10_notSo_53 ?_
          refine lv_goto (tgt := 58) hx hb dX10_notSo_54 (by decide) ?_
          exact JK17 _ _ _ _ h G (lv_sub hl [1, 3] rfl)
  exact L1 n _ _ _ _ _ hb1 G (lv_sub hl [2, 1, 0] rfl)
def m_X10_criedIn_L4 (n : Nat) (t : Nat) (a1 : Nat) (c : gm) (y2 : Int32) (y3 : Int32) : Option ((Int32 × Int32) ⊕ (Int32)) :=
  gc (gck t = 10) ((if (c.1 59 (0 : Int32).toNatClampNeg) ≤ y3 then some (.inr y2) else gb (m_X10_criesOf n a1 y3 c) (fun (r13 : Int32) => gj (fun (v14 : Int32) => gv (y2 ||| v14) (fun (x16 : Int32) => gv (y3 + 1) (fun (x17 : Int32) => some (.inl (x16, x17))))) (fun K15 => (if r13 = 0 then K15 0 else K15 ((1 : Int32) <<< (y3 &&& 31)))))))
def m_X10_criedIn (n : Nat) (t : Nat) (a1 : Nat) (c : gm) : Option (Int32) :=
  gb (gloop (gu2 (fun (y2 : Int32) (y3 : Int32) => m_X10_criedIn_L4 n t a1 c y2 y3)) n (0, 0)) (fun (z4 : Int32) => some z4)
abbrev rmX10_criedIn : Room := { frames := 1, cells := 0, slots := 0, locals := 23 }
set_option maxHeartbeats 4000000 in
set_option maxRecDepth 100000 in
theorem c_X10_criedIn (l : Launch) (sa : gSa) (D : va_G) (ad : Nat → Nat) (cy : Nat → ClassId) (N sz : Nat) (hN : 530 ≤ N) (hI : gI ad N) (c0 c : gm) {n : Nat} {t : Nat} {a1 : Nat} {rZ : Int32} (h : m_X10_criedIn n t a1 c = some rZ) : Met l yX10_criedIn wsX10_criedIn rmX10_criedIn (va_Pc [.ref (ad t), .ref (ad a1)] (gP sa D ad cy N sz c0 c)) (va_Qi (fun (z : Int32) (_ : Unit) => z = rZ) (fun _ U => gE D ad cy N c0 c U) (gA ad N sz)) 0 0 (gA ad N sz) := by
  refine Met.ofW (cc := cX10_criedIn) (maxL := 4) (ret := (some .int)) (by decide) rfl ?_
  intro p e s m args below meth cod s₁ B hml hv
  obtain ⟨rfl, hsz, hP, hK, hZ⟩ := hv
  have hx := B.exec
  have hb := B.bytes
  have hr := B.returns
  have hts := atoms_spec (ws := wsX10_criedIn) B.pre
  have hown : s.vm.findClass RX10 = some m.cls := findClass_of_methodNamed B.named
  have hlocks := B.notSynchronized
  subst hsz
  have hl := lv_entry ([.ref (ad t), .ref (ad a1)]) (n := 4) (Nat.le_of_ble_eq_true rfl)
  rw [lg_entry_eq]
  generalize (lg_sl ([.ref (ad t), .ref (ad a1)]) ++ List.replicate (4 - (lg_sl ([.ref (ad t), .ref (ad a1)])).length) Slot.unset).toArray = ls at hl ⊢
  have hl : lv_has ls 4 [(0, .ref (ad t)), (1, .ref (ad a1))] := hl
  have in10 : ∀ w ∈ wsX100, w ∈ wsX10_criedIn := by decide +kernel
  generalize hargs : ([.ref (ad t), .ref (ad a1)] : List Value).toArray = args at *
  generalize hAe : gA ad N s.heap.size = A
  have F : gF sa D ad cy N A p s m args cod cX10_criedIn 4 wsX10_criedIn RX10 := ⟨hx, hb, hml, hown, hts, hK, hI, by rw [← hAe]; exact gA_ad, by rw [← hAe]; exact gA_sz, by rw [← hAe]; exact hZ⟩
  have G : gW D ad cy N A s.heap c0 c s.heap [] := ⟨hP, va_S.rf⟩
  generalize hQ : MQ below (va_Qi (fun (z : Int32) (_ : Unit) => z = rZ) (fun _ U => gE D ad cy N c0 c U) A) args s 0 0 A = Q
  suffices hgen : ∀ (H : Heap) (locs : List Loc), gW D ad cy N A s.heap c0 c H locs → W p l e rmX10_criedIn s m args below meth cod H locs 0 0 Q (F0 m 0 ls []) from hgen _ _ G
  clear G
  intro H locs G
  unfold m_X10_criedIn at h
  refine lv_iconst (v := 0) hx hb dX10_criedIn_0 (by decide) ?_
  refine lv_istore_n (lv' := [(2, .int 0), (0, .ref (ad t)), (1, .ref (ad a1))]) hx hb dX10_criedIn_1 rfl hl (by decide) rfl (fun ls hl => ?_)
  refine lv_iconst (v := 0) hx hb dX10_criedIn_2 (by decide) ?_
  refine lv_istore_n (lv' := [(3, .int 0), (2, .int 0), (0, .ref (ad t)), (1, .ref (ad a1))]) hx hb dX10_criedIn_3 rfl hl (by decide) rfl (fun ls hl => ?_)
  obtain ⟨b1, hb1, hK1⟩ := gb_s h
  have E1 : ∀ (z4 : Int32) (H : Heap) (locs : List Loc) (ls : Array Slot), (z4 : Int32) = b1 → gW D ad cy N A s.heap c0 c H locs → lv_has ls 4 [(2, .int z4)] → W p l e rmX10_criedIn s m args below meth cod H locs 0 0 Q (F0 m 38 ls []) := by
    intro z4 H locs ls hq1 G hl
    subst hq1
    replace hK1 := hK1
    have h := hK1
    refine lv_iload_n hx hb dX10_criedIn_38 rfl (lv_at hl 0 rfl) ?_
    cases h
    rw [← hQ]
    exact gx_iret F G hr hlocks dX10_criedIn_39
  have L1 : ∀ (n9 : Nat) (y2 : Int32) (y3 : Int32) (H : Heap) (locs : List Loc) (ls : Array Slot), gloop (gu2 (fun (y2 : Int32) (y3 : Int32) => m_X10_criedIn_L4 n t a1 c y2 y3)) n9 (y2, y3) = some b1 → gW D ad cy N A s.heap c0 c H locs → lv_has ls 4 [(0, .ref (ad t)), (1, .ref (ad a1)), (2, .int y2), (3, .int y3)] → W p l e rmX10_criedIn s m args below meth cod H locs 0 0 Q (F0 m 4 ls []) := by
    intro n9
    induction n9 with
    | zero => intro y2 y3 H locs ls h; exact (gloop_0 h).elim
    | succ n9 ih =>
      intro y2 y3 H locs ls h G hl
      have ih1 := ih
      obtain ⟨o1, h, hn1⟩ := gloop_s h
      replace h := gu2_s h
      unfold m_X10_criedIn_L4 at h
      refine lv_iload_n hx hb dX10_criedIn_4 rfl (lv_at hl 3 rfl) ?_
      refine lv_aload_n hx hb dX10_criedIn_5 rfl (lv_at hl 0 rfl) ?_
      obtain ⟨hk5, h⟩ := gc_s h
      have ht6 : t < N := Nat.lt_of_lt_of_le (gck_lt10 hk5) hN
      refine fg_10_told F G hk5 ht6 in10 (by decide +kernel) dX10_criedIn_6 ?_
      have hk7 : gck 59 = 22 := rfl
      have ht8 : 59 < N := Nat.lt_of_lt_of_le (by decide) hN
      have hn9 : gal 59 = 4 := rfl
      refine lv_iconst (v := 0) hx hb dX10_criedIn_9 (by decide) ?_
      refine gx_mia F G hk7 ht8 hn9 (by decide) dX10_criedIn_10 ?_
      refine lv_icmp_ge (tgt := 38) hx hb dX10_criedIn_11 (by decide) (fun q11 => ?_) (fun q11 => ?_)
      · replace h := gt_s q11 h
        cases h
        exact E1 _ _ _ _ (gnx_r hn1) G (lv_sub hl [2] rfl)
      · replace h := gf_s q11 h
        refine lv_iload_n hx hb dX10_criedIn_14 rfl (lv_at hl 2 rfl) ?_
        refine lv_aload_n hx hb dX10_criedIn_15 rfl (lv_at hl 1 rfl) ?_
        refine lv_iload_n hx hb dX10_criedIn_16 rfl (lv_at hl 3 rfl) ?_
        obtain ⟨r13, hc12, h⟩ := gb_s h
        refine gx_calli F G (va_runS (As := [.ref (ad a1), .int y3]) (rest := [.int y2]) (gx_fix F) (c_X10_criesOf l sa D ad cy N H.size hN hI c0 c hc12) (va_cwS 2 hts gX10_criedIn_X10_criesOf rfl rfl rfl (by decide +kernel) ⟨by decide, by decide⟩) (gx_pre F G) rfl rfl hl.1 rfl (lv_room (Nat.le_of_ble_eq_true rfl)) dX10_criedIn_17 ⟨Nat.zero_le _, Nat.zero_le _⟩) (fun H locs G => ?_)
        obtain ⟨K15, eK15, h⟩ := gj_s h
        have JK15 : ∀ (v14 : Int32) (H : Heap) (locs : List Loc) (ls : Array Slot), K15 v14 = some o1 → gW D ad cy N A s.heap c0 c H locs → lv_has ls 4 [(0, .ref (ad t)), (1, .ref (ad a1)), (3, .int y3)] → W p l e rmX10_criedIn s m args below meth cod H locs 0 0 Q (F0 m 30 ls [.int v14, .int y2]) := by
          intro v14 H locs ls h G hl
          rw [eK15] at h
          refine lv_ior hx hb dX10_criedIn_30 ?_
          refine lv_topi (fun x16 ex16 => ?_)
          replace h := gv_s h x16 ex16
          refine lv_istore_n (lv' := [(2, .int x16), (0, .ref (ad t)), (1, .ref (ad a1)), (3, .int y3)]) hx hb dX10_criedIn_31 rfl hl (by decide) rfl (fun ls hl => ?_)
          obtain ⟨x17, ex17⟩ : ∃ z : Int32, z = y3 + 1 := ⟨_, rfl⟩
          replace h := gv_s h x17 ex17
          refine lv_iinc (v := x17) (lv' := [(3, .int x17), (2, .int x16), (0, .ref (ad t)), (1, .ref (ad a1))]) hx hb dX10_criedIn_32 hl (k := 3) rfl (by rw [ex17]; rfl) (by decide) rfl (fun ls hl => ?_)
          refine lv_goto (tgt := 4) hx hb dX10_criedIn_35 (by decide) ?_
          cases h
          exact ih1 _ _ _ _ _ hn1 G (lv_sub hl [2, 3, 1, 0] rfl)
        refine lv_if_ne (tgt := 27) hx hb dX10_criedIn_20 (by decide) (fun q18 => ?_) (fun q18 => ?_)
        · replace h := gf_s q18 h
          refine lv_iconst (v := 1) hx hb dX10_criedIn_27 (by decide) ?_
          refine lv_iload_n hx hb dX10_criedIn_28 rfl (lv_at hl 3 rfl) ?_
          refine lv_ishl hx hb dX10_criedIn_29 ?_
          exact JK15 _ _ _ _ h G (lv_sub hl [0, 1, 3] rfl)
        · replace h := gt_s q18 h
          refine lv_iconst (v := 0) hx hb dX10_criedIn_23 (by decide) ?_
          refine lv_goto (tgt := 30) hx hb dX10_criedIn_24 (by decide) ?_
          exact JK15 _ _ _ _ h G (lv_sub hl [0, 1, 3] rfl)
  exact L1 n _ _ _ _ _ hb1 G (lv_sub hl [2, 3, 1, 0] rfl)
def m_X10_told (n : Nat) (t : Nat) (a1 : Int32) (c : gm) : Option (Int32 × gm) :=
  gc (gck t = 10) (gv (gm_r c t (upd (c.1 t) 0 0)) (fun (c3 : gm) => gb (m_X10_in a1 0 10) (fun (r5 : Int32) => gj (fun (v6 : Int32) => gb2 (m_X10_bad t v6 1 1 c3) (fun (r9 : Int32) (c10 : gm) => (if r9 = 0 then (if a1 = 0 then some ((c10.1 59 (0 : Int32).toNatClampNeg), c10) else (if a1 = 1 then some ((c10.1 503 (56 : Int32).toNatClampNeg), c10) else (if a1 = 2 then some ((c10.1 503 (59 : Int32).toNatClampNeg), c10) else (if a1 = 3 then some ((c10.1 503 (57 : Int32).toNatClampNeg), c10) else (if a1 = 4 then some ((c10.1 59 (3 : Int32).toNatClampNeg), c10) else (if a1 = 5 then gb (m_X10_weightIn n t 503 c10) (fun (r42 : Int32) => some (r42, c10)) else (if a1 = 6 then gb (m_X10_notSo n 503 c10) (fun (r48 : Int32) => some (r48, c10)) else (if a1 = 7 then gb (m_X10_criedIn n t 503 c10) (fun (r54 : Int32) => some (r54, c10)) else (if a1 = 8 then some ((c10.1 t 32), c10) else (if a1 = 9 then some ((c10.1 t 34), c10) else some ((c10.1 503 (58 : Int32).toNatClampNeg), c10))))))))))) else some (0, c10)))) (fun K7 => (if r5 = 0 then K7 1 else K7 0)))))
abbrev rmX10_told : Room := { frames := 2, cells := 0, slots := 0, locals := 46 }
set_option maxHeartbeats 4000000 in
set_option maxRecDepth 100000 in
theorem c_X10_told (l : Launch) (sa : gSa) (D : va_G) (ad : Nat → Nat) (cy : Nat → ClassId) (N sz : Nat) (hN : 530 ≤ N) (hI : gI ad N) (c0 c : gm) {n : Nat} {t : Nat} {a1 : Int32} {rZ : Int32} {cZ : gm} (h : m_X10_told n t a1 c = some (rZ, cZ)) : Met l yX10_told wsX10_told rmX10_told (va_Pc [.ref (ad t), .int a1] (gP sa D ad cy N sz c0 c)) (va_Qi (fun (z : Int32) (_ : Unit) => z = rZ) (fun _ U => gE D ad cy N c0 cZ U) (gA ad N sz)) 0 0 (gA ad N sz) := by
  refine Met.ofW (cc := cX10_told) (maxL := 2) (ret := (some .int)) (by decide) rfl ?_
  intro p e s m args below meth cod s₁ B hml hv
  obtain ⟨rfl, hsz, hP, hK, hZ⟩ := hv
  have hx := B.exec
  have hb := B.bytes
  have hr := B.returns
  have hts := atoms_spec (ws := wsX10_told) B.pre
  have hown : s.vm.findClass RX10 = some m.cls := findClass_of_methodNamed B.named
  have hlocks := B.notSynchronized
  subst hsz
  have hl := lv_entry ([.ref (ad t), .int a1]) (n := 2) (Nat.le_of_ble_eq_true rfl)
  rw [lg_entry_eq]
  generalize (lg_sl ([.ref (ad t), .int a1]) ++ List.replicate (2 - (lg_sl ([.ref (ad t), .int a1])).length) Slot.unset).toArray = ls at hl ⊢
  have hl : lv_has ls 2 [(0, .ref (ad t)), (1, .int a1)] := hl
  have in10 : ∀ w ∈ wsX100, w ∈ wsX10_told := by decide +kernel
  generalize hargs : ([.ref (ad t), .int a1] : List Value).toArray = args at *
  generalize hAe : gA ad N s.heap.size = A
  have F : gF sa D ad cy N A p s m args cod cX10_told 2 wsX10_told RX10 := ⟨hx, hb, hml, hown, hts, hK, hI, by rw [← hAe]; exact gA_ad, by rw [← hAe]; exact gA_sz, by rw [← hAe]; exact hZ⟩
  have G : gW D ad cy N A s.heap c0 c s.heap [] := ⟨hP, va_S.rf⟩
  generalize hQ : MQ below (va_Qi (fun (z : Int32) (_ : Unit) => z = rZ) (fun _ U => gE D ad cy N c0 cZ U) A) args s 0 0 A = Q
  suffices hgen : ∀ (H : Heap) (locs : List Loc), gW D ad cy N A s.heap c0 c H locs → W p l e rmX10_told s m args below meth cod H locs 0 0 Q (F0 m 0 ls []) from hgen _ _ G
  clear G
  intro H locs G
  unfold m_X10_told at h
  refine lv_aload_n hx hb dX10_told_0 rfl (lv_at hl 0 rfl) ?_
  refine lv_iconst (v := 0) hx hb dX10_told_1 (by decide) ?_
  obtain ⟨hk1, h⟩ := gc_s h
  have ht2 : t < N := Nat.lt_of_lt_of_le (gck_lt10 hk1) hN
  refine fp_10_thrown F G hk1 ht2 in10 (by decide +kernel) dX10_told_2 (fun H locs G => ?_)
  obtain ⟨c3, ec3⟩ : ∃ z, z = gm_r c t (upd (c.1 t) 0 0) := ⟨_, rfl⟩
  rw [← ec3] at G
  replace h := gv_s h c3 ec3
  refine lv_aload_n hx hb dX10_told_5 rfl (lv_at hl 0 rfl) ?_
  refine lv_iload_n hx hb dX10_told_6 rfl (lv_at hl 1 rfl) ?_
  refine lv_iconst (v := 0) hx hb dX10_told_7 (by decide) ?_
  refine lv_bipush (v := 10) hx hb dX10_told_8 (by decide) ?_
  obtain ⟨r5, hc4, h⟩ := gb_s h
  refine gx_calli F G (va_runS (As := [.int a1, .int 0, .int 10]) (rest := [.ref (ad t)]) (gx_fix F) (c_X10_in l sa D ad cy N H.size hN hI c0 c3 hc4) (va_cwS 3 hts gX10_told_X10_in rfl rfl rfl (by decide +kernel) ⟨by decide, by decide⟩) (gx_pre F G) rfl rfl hl.1 rfl (lv_room (Nat.le_of_ble_eq_true rfl)) dX10_told_10 ⟨Nat.zero_le _, Nat.zero_le _⟩) (fun H locs G => ?_)
  obtain ⟨K7, eK7, h⟩ := gj_s h
  have JK7 : ∀ (v6 : Int32) (H : Heap) (locs : List Loc) (ls : Array Slot), K7 v6 = some (rZ, cZ) → gW D ad cy N A s.heap c0 c3 H locs → lv_has ls 2 [(0, .ref (ad t)), (1, .int a1)] → W p l e rmX10_told s m args below meth cod H locs 0 0 Q (F0 m 21 ls [.int v6, .ref (ad t)]) := by
    intro v6 H locs ls h G hl
    rw [eK7] at h
    refine lv_iconst (v := 1) hx hb dX10_told_21 (by decide) ?_
    refine lv_iconst (v := 1) hx hb dX10_told_22 (by decide) ?_
    obtain ⟨r9, c10, hc8, h⟩ := gb2_s h
    refine gx_calli F G (va_runV (As := [.int v6, .int 1, .int 1]) (rest := []) (gx_fix F) (c_X10_bad l sa D ad cy N H.size hN hI c0 c3 hc8) (cwV 3 hts gX10_told_X10_bad rfl rfl rfl (by decide +kernel) ⟨by decide, by decide⟩) (gx_rec F G ht2 (gwe_10 hk1) rfl) rfl rfl hl.1 rfl (lv_room (Nat.le_of_ble_eq_true rfl)) dX10_told_23 ⟨Nat.zero_le _, Nat.zero_le _⟩) (fun H locs G => ?_)
    refine lv_if_eq (tgt := 31) hx hb dX10_told_26 (by decide) (fun q11 => ?_) (fun q11 => ?_)
    · replace h := gt_s q11 h
      refine lv_iload_n hx hb dX10_told_31 rfl (lv_at hl 1 rfl) ?_
      by_cases q12 : a1 = 0
      · replace h := gt_s q12 h
        refine lv_tableIn (tgt := 88) hx hb dX10_told_32 (by rw [q12]; decide) (by rw [q12]; decide) (off := 56) (by rw [q12]; decide) (by decide) ?_
        refine lv_aload_n hx hb dX10_told_88 rfl (lv_at hl 0 rfl) ?_
        refine fg_10_told F G hk1 ht2 in10 (by decide +kernel) dX10_told_89 ?_
        have hk13 : gck 59 = 22 := rfl
        have ht14 : 59 < N := Nat.lt_of_lt_of_le (by decide) hN
        have hn15 : gal 59 = 4 := rfl
        refine lv_iconst (v := 0) hx hb dX10_told_92 (by decide) ?_
        refine gx_mia F G hk13 ht14 hn15 (by decide) dX10_told_93 ?_
        cases h
        rw [← hQ]
        exact gx_iret F G hr hlocks dX10_told_94
      replace h := gf_s q12 h
      by_cases q17 : a1 = 1
      · replace h := gt_s q17 h
        refine lv_tableIn (tgt := 95) hx hb dX10_told_32 (by rw [q17]; decide) (by rw [q17]; decide) (off := 63) (by rw [q17]; decide) (by decide) ?_
        refine lv_aload_n hx hb dX10_told_95 rfl (lv_at hl 0 rfl) ?_
        refine fg_10_now F G hk1 ht2 in10 (by decide +kernel) dX10_told_96 ?_
        have hk18 : gck 503 = 22 := rfl
        have ht19 : 503 < N := Nat.lt_of_lt_of_le (by decide) hN
        have hn20 : gal 503 = 60 := rfl
        refine lv_bipush (v := 56) hx hb dX10_told_99 (by decide) ?_
        refine gx_mia F G hk18 ht19 hn20 (by decide) dX10_told_101 ?_
        cases h
        rw [← hQ]
        exact gx_iret F G hr hlocks dX10_told_102
      replace h := gf_s q17 h
      by_cases q22 : a1 = 2
      · replace h := gt_s q22 h
        refine lv_tableIn (tgt := 103) hx hb dX10_told_32 (by rw [q22]; decide) (by rw [q22]; decide) (off := 71) (by rw [q22]; decide) (by decide) ?_
        refine lv_aload_n hx hb dX10_told_103 rfl (lv_at hl 0 rfl) ?_
        refine fg_10_now F G hk1 ht2 in10 (by decide +kernel) dX10_told_104 ?_
        have hk23 : gck 503 = 22 := rfl
        have ht24 : 503 < N := Nat.lt_of_lt_of_le (by decide) hN
        have hn25 : gal 503 = 60 := rfl
        refine lv_bipush (v := 59) hx hb dX10_told_107 (by decide) ?_
        refine gx_mia F G hk23 ht24 hn25 (by decide) dX10_told_109 ?_
        cases h
        rw [← hQ]
        exact gx_iret F G hr hlocks dX10_told_110
      replace h := gf_s q22 h
      by_cases q27 : a1 = 3
      · replace h := gt_s q27 h
        refine lv_tableIn (tgt := 111) hx hb dX10_told_32 (by rw [q27]; decide) (by rw [q27]; decide) (off := 79) (by rw [q27]; decide) (by decide) ?_
        refine lv_aload_n hx hb dX10_told_111 rfl (lv_at hl 0 rfl) ?_
        refine fg_10_now F G hk1 ht2 in10 (by decide +kernel) dX10_told_112 ?_
        have hk28 : gck 503 = 22 := rfl
        have ht29 : 503 < N := Nat.lt_of_lt_of_le (by decide) hN
        have hn30 : gal 503 = 60 := rfl
        refine lv_bipush (v := 57) hx hb dX10_told_115 (by decide) ?_
        refine gx_mia F G hk28 ht29 hn30 (by decide) dX10_told_117 ?_
        cases h
        rw [← hQ]
        exact gx_iret F G hr hlocks dX10_told_118
      replace h := gf_s q27 h
      by_cases q32 : a1 = 4
      · replace h := gt_s q32 h
        refine lv_tableIn (tgt := 119) hx hb dX10_told_32 (by rw [q32]; decide) (by rw [q32]; decide) (off := 87) (by rw [q32]; decide) (by decide) ?_
        refine lv_aload_n hx hb dX10_told_119 rfl (lv_at hl 0 rfl) ?_
        refine fg_10_told F G hk1 ht2 in10 (by decide +kernel) dX10_told_120 ?_
        have hk33 : gck 59 = 22 := rfl
        have ht34 : 59 < N := Nat.lt_of_lt_of_le (by decide) hN
        have hn35 : gal 59 = 4 := rfl
        refine lv_iconst (v := 3) hx hb dX10_told_123 (by decide) ?_
        refine gx_mia F G hk33 ht34 hn35 (by decide) dX10_told_124 ?_
        cases h
        rw [← hQ]
        exact gx_iret F G hr hlocks dX10_told_125
      replace h := gf_s q32 h
      by_cases q37 : a1 = 5
      · replace h := gt_s q37 h
        refine lv_tableIn (tgt := 126) hx hb dX10_told_32 (by rw [q37]; decide) (by rw [q37]; decide) (off := 94) (by rw [q37]; decide) (by decide) ?_
        refine lv_aload_n hx hb dX10_told_126 rfl (lv_at hl 0 rfl) ?_
        refine lv_aload_n hx hb dX10_told_127 rfl (lv_at hl 0 rfl) ?_
        refine fg_10_now F G hk1 ht2 in10 (by decide +kernel) dX10_told_128 ?_
        have hk38 : gck 503 = 22 := rfl
        have ht39 : 503 < N := Nat.lt_of_lt_of_le (by decide) hN
        have hn40 : gal 503 = 60 := rfl
        obtain ⟨r42, hc41, h⟩ := gb_s h
        refine gx_calli F G (va_runV (As := [.ref (ad 503)]) (rest := []) (gx_fix F) (c_X10_weightIn l sa D ad cy N H.size hN hI c0 c10 hc41) (cwV 1 hts gX10_told_X10_weightIn rfl rfl rfl (by decide +kernel) ⟨by decide, by decide⟩) (gx_rec F G ht2 (gwe_10 hk1) rfl) rfl rfl hl.1 rfl (lv_room (Nat.le_of_ble_eq_true rfl)) dX10_told_131 ⟨Nat.zero_le _, Nat.zero_le _⟩) (fun H locs G => ?_)
        cases h
        rw [← hQ]
        exact gx_iret F G hr hlocks dX10_told_134
      replace h := gf_s q37 h
      by_cases q43 : a1 = 6
      · replace h := gt_s q43 h
        refine lv_tableIn (tgt := 135) hx hb dX10_told_32 (by rw [q43]; decide) (by rw [q43]; decide) (off := 103) (by rw [q43]; decide) (by decide) ?_
        refine lv_aload_n hx hb dX10_told_135 rfl (lv_at hl 0 rfl) ?_
        refine fg_10_now F G hk1 ht2 in10 (by decide +kernel) dX10_told_136 ?_
        have hk44 : gck 503 = 22 := rfl
        have ht45 : 503 < N := Nat.lt_of_lt_of_le (by decide) hN
        have hn46 : gal 503 = 60 := rfl
        obtain ⟨r48, hc47, h⟩ := gb_s h
        refine gx_calli F G (va_runS (As := [.ref (ad 503)]) (rest := []) (gx_fix F) (c_X10_notSo l sa D ad cy N H.size hN hI c0 c10 hc47) (va_cwS 1 hts gX10_told_X10_notSo rfl rfl rfl (by decide +kernel) ⟨by decide, by decide⟩) (gx_pre F G) rfl rfl hl.1 rfl (lv_room (Nat.le_of_ble_eq_true rfl)) dX10_told_139 ⟨Nat.zero_le _, Nat.zero_le _⟩) (fun H locs G => ?_)
        cases h
        rw [← hQ]
        exact gx_iret F G hr hlocks dX10_told_142
      replace h := gf_s q43 h
      by_cases q49 : a1 = 7
      · replace h := gt_s q49 h
        refine lv_tableIn (tgt := 143) hx hb dX10_told_32 (by rw [q49]; decide) (by rw [q49]; decide) (off := 111) (by rw [q49]; decide) (by decide) ?_
        refine lv_aload_n hx hb dX10_told_143 rfl (lv_at hl 0 rfl) ?_
        refine lv_aload_n hx hb dX10_told_144 rfl (lv_at hl 0 rfl) ?_
        refine fg_10_now F G hk1 ht2 in10 (by decide +kernel) dX10_told_145 ?_
        have hk50 : gck 503 = 22 := rfl
        have ht51 : 503 < N := Nat.lt_of_lt_of_le (by decide) hN
        have hn52 : gal 503 = 60 := rfl
        obtain ⟨r54, hc53, h⟩ := gb_s h
        refine gx_calli F G (va_runV (As := [.ref (ad 503)]) (rest := []) (gx_fix F) (c_X10_criedIn l sa D ad cy N H.size hN hI c0 c10 hc53) (cwV 1 hts gX10_told_X10_criedIn rfl rfl rfl (by decide +kernel) ⟨by decide, by decide⟩) (gx_rec F G ht2 (gwe_10 hk1) rfl) rfl rfl hl.1 rfl (lv_room (Nat.le_of_ble_eq_true rfl)) dX10_told_148 ⟨Nat.zero_le _, Nat.zero_le _⟩) (fun H locs G => ?_)
        cases h
        rw [← hQ]
        exact gx_iret F G hr hlocks dX10_told_151
      replace h := gf_s q49 h
      by_cases q55 : a1 = 8
      · replace h := gt_s q55 h
        refine lv_tableIn (tgt := 152) hx hb dX10_told_32 (by rw [q55]; decide) (by rw [q55]; decide) (off := 120) (by rw [q55]; decide) (by decide) ?_
        refine lv_aload_n hx hb dX10_told_152 rfl (lv_at hl 0 rfl) ?_
        refine fg_10_lines F G hk1 ht2 in10 (by decide +kernel) dX10_told_153 ?_
        cases h
        rw [← hQ]
        exact gx_iret F G hr hlocks dX10_told_156
      replace h := gf_s q55 h
      by_cases q56 : a1 = 9
      · replace h := gt_s q56 h
        refine lv_tableIn (tgt := 157) hx hb dX10_told_32 (by rw [q56]; decide) (by rw [q56]; decide) (off := 125) (by rw [q56]; decide) (by decide) ?_
        refine lv_aload_n hx hb dX10_told_157 rfl (lv_at hl 0 rfl) ?_
        refine fg_10_refusedSteps F G hk1 ht2 in10 (by decide +kernel) dX10_told_158 ?_
        cases h
        rw [← hQ]
        exact gx_iret F G hr hlocks dX10_told_161
      replace h := gf_s q56 h
      have nn57 := lv_neT q12 (show (0 : Int32).toInt = 0 by decide)
      have nn58 := lv_neT q17 (show (1 : Int32).toInt = 1 by decide)
      have nn59 := lv_neT q22 (show (2 : Int32).toInt = 2 by decide)
      have nn60 := lv_neT q27 (show (3 : Int32).toInt = 3 by decide)
      have nn61 := lv_neT q32 (show (4 : Int32).toInt = 4 by decide)
      have nn62 := lv_neT q37 (show (5 : Int32).toInt = 5 by decide)
      have nn63 := lv_neT q43 (show (6 : Int32).toInt = 6 by decide)
      have nn64 := lv_neT q49 (show (7 : Int32).toInt = 7 by decide)
      have nn65 := lv_neT q55 (show (8 : Int32).toInt = 8 by decide)
      have nn66 := lv_neT q56 (show (9 : Int32).toInt = 9 by decide)
      refine lv_tableOut (tgt := 162) hx hb dX10_told_32 (by omega) (by decide) ?_
      refine lv_aload_n hx hb dX10_told_162 rfl (lv_at hl 0 rfl) ?_
      refine fg_10_now F G hk1 ht2 in10 (by decide +kernel) dX10_told_163 ?_
      have hk67 : gck 503 = 22 := rfl
      have ht68 : 503 < N := Nat.lt_of_lt_of_le (by decide) hN
      have hn69 : gal 503 = 60 := rfl
      refine lv_bipush (v := 58) hx hb dX10_told_166 (by decide) ?_
      refine gx_mia F G hk67 ht68 hn69 (by decide) dX10_told_168 ?_
      cases h
      rw [← hQ]
      exact gx_iret F G hr hlocks dX10_told_169
    · replace h := gf_s q11 h
      refine lv_iconst (v := 0) hx hb dX10_told_29 (by decide) ?_
      cases h
      rw [← hQ]
      exact gx_iret F G hr hlocks dX10_told_30
  refine lv_if_ne (tgt := 20) hx hb dX10_told_13 (by decide) (fun q71 => ?_) (fun q71 => ?_)
  · replace h := gf_s q71 h
    refine lv_iconst (v := 0) hx hb dX10_told_20 (by decide) ?_
    exact JK7 _ _ _ _ h G hl
  · replace h := gt_s q71 h
    refine lv_iconst (v := 1) hx hb dX10_told_16 (by decide) ?_
    refine lv_goto (tgt := 21) hx hb dX10_told_17 (by decide) ?_
    exact JK7 _ _ _ _ h G hl
def m_X10_isThing (t : Nat) (a1 : Int32) (c : gm) : Option (Int32) :=
  gc (gck t = 10) (gb (m_X10_in a1 0 ((c.1 59 (0 : Int32).toNatClampNeg) - 1)) (fun (r8 : Int32) => gc (r8 = 0 ∨ r8 = 1) (some r8)))
abbrev rmX10_isThing : Room := { frames := 1, cells := 0, slots := 0, locals := 22 }
set_option maxHeartbeats 4000000 in
set_option maxRecDepth 100000 in
theorem c_X10_isThing (l : Launch) (sa : gSa) (D : va_G) (ad : Nat → Nat) (cy : Nat → ClassId) (N sz : Nat) (hN : 530 ≤ N) (hI : gI ad N) (c0 c : gm) {t : Nat} {a1 : Int32} {rZ : Int32} (h : m_X10_isThing t a1 c = some rZ) : Met l yX10_isThing wsX10_isThing rmX10_isThing (va_Pc [.ref (ad t), .int a1] (gP sa D ad cy N sz c0 c)) (va_Qi (fun (z : Int32) (_ : Unit) => z = rZ) (fun _ U => gE D ad cy N c0 c U) (gA ad N sz)) 0 0 (gA ad N sz) := by
  refine Met.ofW (cc := cX10_isThing) (maxL := 2) (ret := (some .boolean)) (by decide) rfl ?_
  intro p e s m args below meth cod s₁ B hml hv
  obtain ⟨rfl, hsz, hP, hK, hZ⟩ := hv
  have hx := B.exec
  have hb := B.bytes
  have hr := B.returns
  have hts := atoms_spec (ws := wsX10_isThing) B.pre
  have hown : s.vm.findClass RX10 = some m.cls := findClass_of_methodNamed B.named
  have hlocks := B.notSynchronized
  subst hsz
  have hl := lv_entry ([.ref (ad t), .int a1]) (n := 2) (Nat.le_of_ble_eq_true rfl)
  rw [lg_entry_eq]
  generalize (lg_sl ([.ref (ad t), .int a1]) ++ List.replicate (2 - (lg_sl ([.ref (ad t), .int a1])).length) Slot.unset).toArray = ls at hl ⊢
  have hl : lv_has ls 2 [(0, .ref (ad t)), (1, .int a1)] := hl
  have in10 : ∀ w ∈ wsX100, w ∈ wsX10_isThing := by decide +kernel
  generalize hargs : ([.ref (ad t), .int a1] : List Value).toArray = args at *
  generalize hAe : gA ad N s.heap.size = A
  have F : gF sa D ad cy N A p s m args cod cX10_isThing 2 wsX10_isThing RX10 := ⟨hx, hb, hml, hown, hts, hK, hI, by rw [← hAe]; exact gA_ad, by rw [← hAe]; exact gA_sz, by rw [← hAe]; exact hZ⟩
  have G : gW D ad cy N A s.heap c0 c s.heap [] := ⟨hP, va_S.rf⟩
  generalize hQ : MQ below (va_Qi (fun (z : Int32) (_ : Unit) => z = rZ) (fun _ U => gE D ad cy N c0 c U) A) args s 0 0 A = Q
  suffices hgen : ∀ (H : Heap) (locs : List Loc), gW D ad cy N A s.heap c0 c H locs → W p l e rmX10_isThing s m args below meth cod H locs 0 0 Q (F0 m 0 ls []) from hgen _ _ G
  clear G
  intro H locs G
  unfold m_X10_isThing at h
  refine lv_iload_n hx hb dX10_isThing_0 rfl (lv_at hl 1 rfl) ?_
  refine lv_iconst (v := 0) hx hb dX10_isThing_1 (by decide) ?_
  refine lv_aload_n hx hb dX10_isThing_2 rfl (lv_at hl 0 rfl) ?_
  obtain ⟨hk1, h⟩ := gc_s h
  have ht2 : t < N := Nat.lt_of_lt_of_le (gck_lt10 hk1) hN
  refine fg_10_told F G hk1 ht2 in10 (by decide +kernel) dX10_isThing_3 ?_
  have hk3 : gck 59 = 22 := rfl
  have ht4 : 59 < N := Nat.lt_of_lt_of_le (by decide) hN
  have hn5 : gal 59 = 4 := rfl
  refine lv_iconst (v := 0) hx hb dX10_isThing_6 (by decide) ?_
  refine gx_mia F G hk3 ht4 hn5 (by decide) dX10_isThing_7 ?_
  refine lv_iconst (v := 1) hx hb dX10_isThing_8 (by decide) ?_
  refine lv_isub hx hb dX10_isThing_9 ?_
  obtain ⟨r8, hc7, h⟩ := gb_s h
  refine gx_calli F G (va_runS (As := [.int a1, .int 0, .int ((c.1 59 (0 : Int32).toNatClampNeg) - 1)]) (rest := []) (gx_fix F) (c_X10_in l sa D ad cy N H.size hN hI c0 c hc7) (va_cwS 3 hts gX10_isThing_X10_in rfl rfl rfl (by decide +kernel) ⟨by decide, by decide⟩) (gx_pre F G) rfl rfl hl.1 rfl (lv_room (Nat.le_of_ble_eq_true rfl)) dX10_isThing_10 ⟨Nat.zero_le _, Nat.zero_le _⟩) (fun H locs G => ?_)
  obtain ⟨hz9, h⟩ := gc_s h
  cases h
  rw [← hQ]
  exact gx_zret F G hr hlocks (gnb hz9) dX10_isThing_13
def m_X10_thing (n : Nat) (t : Nat) (a1 : Int32) (a2 : Int32) (c : gm) : Option (Int32 × gm) :=
  gc (gck t = 10) (gv (gm_r c t (upd (c.1 t) 0 0)) (fun (c3 : gm) => gb (m_X10_isThing t a1 c3) (fun (r5 : Int32) => gj (fun (v6 : Int32) => gb2 (m_X10_bad t v6 1 0 c3) (fun (r9 : Int32) (c10 : gm) => (if r9 = 0 then gb (m_X10_in a2 0 4) (fun (r13 : Int32) => gj (fun (v14 : Int32) => gb2 (m_X10_bad t v14 2 1 c10) (fun (r17 : Int32) (c18 : gm) => (if r17 = 0 then (if a2 = 0 then gc (0 ≤ (0 + a1).toInt ∧ (0 + a1).toInt < 60) (some ((c18.1 503 (0 + a1).toNatClampNeg), c18)) else (if a2 = 1 then gc (0 ≤ a1.toInt ∧ a1.toInt < 8) (some ((c18.1 61 a1.toNatClampNeg), c18)) else (if a2 = 2 then gc (0 ≤ (8 + a1).toInt ∧ (8 + a1).toInt < 60) (some ((c18.1 503 (8 + a1).toNatClampNeg), c18)) else (if a2 = 3 then gb (m_X10_criesOf n 503 a1 c18) (fun (r40 : Int32) => some (r40, c18)) else gb2 (m_X10_wearOf n t 503 a1 c18) (fun (r49 : Int32) (c50 : gm) => some (r49, c50)))))) else some (0, c18)))) (fun K15 => (if r13 = 0 then K15 1 else K15 0))) else some (0, c10)))) (fun K7 => (if r5 = 0 then K7 1 else K7 0)))))
abbrev rmX10_thing : Room := { frames := 5, cells := 0, slots := 0, locals := 114 }
set_option maxHeartbeats 4000000 in
set_option maxRecDepth 100000 in
theorem c_X10_thing (l : Launch) (sa : gSa) (D : va_G) (ad : Nat → Nat) (cy : Nat → ClassId) (N sz : Nat) (hN : 530 ≤ N) (hI : gI ad N) (c0 c : gm) {n : Nat} {t : Nat} {a1 : Int32} {a2 : Int32} {rZ : Int32} {cZ : gm} (h : m_X10_thing n t a1 a2 c = some (rZ, cZ)) : Met l yX10_thing wsX10_thing rmX10_thing (va_Pc [.ref (ad t), .int a1, .int a2] (gP sa D ad cy N sz c0 c)) (va_Qi (fun (z : Int32) (_ : Unit) => z = rZ) (fun _ U => gE D ad cy N c0 cZ U) (gA ad N sz)) 0 0 (gA ad N sz) := by
  refine Met.ofW (cc := cX10_thing) (maxL := 3) (ret := (some .int)) (by decide) rfl ?_
  intro p e s m args below meth cod s₁ B hml hv
  obtain ⟨rfl, hsz, hP, hK, hZ⟩ := hv
  have hx := B.exec
  have hb := B.bytes
  have hr := B.returns
  have hts := atoms_spec (ws := wsX10_thing) B.pre
  have hown : s.vm.findClass RX10 = some m.cls := findClass_of_methodNamed B.named
  have hlocks := B.notSynchronized
  subst hsz
  have hl := lv_entry ([.ref (ad t), .int a1, .int a2]) (n := 3) (Nat.le_of_ble_eq_true rfl)
  rw [lg_entry_eq]
  generalize (lg_sl ([.ref (ad t), .int a1, .int a2]) ++ List.replicate (3 - (lg_sl ([.ref (ad t), .int a1, .int a2])).length) Slot.unset).toArray = ls at hl ⊢
  have hl : lv_has ls 3 [(0, .ref (ad t)), (1, .int a1), (2, .int a2)] := hl
  have in10 : ∀ w ∈ wsX100, w ∈ wsX10_thing := by decide +kernel
  generalize hargs : ([.ref (ad t), .int a1, .int a2] : List Value).toArray = args at *
  generalize hAe : gA ad N s.heap.size = A
  have F : gF sa D ad cy N A p s m args cod cX10_thing 3 wsX10_thing RX10 := ⟨hx, hb, hml, hown, hts, hK, hI, by rw [← hAe]; exact gA_ad, by rw [← hAe]; exact gA_sz, by rw [← hAe]; exact hZ⟩
  have G : gW D ad cy N A s.heap c0 c s.heap [] := ⟨hP, va_S.rf⟩
  generalize hQ : MQ below (va_Qi (fun (z : Int32) (_ : Unit) => z = rZ) (fun _ U => gE D ad cy N c0 cZ U) A) args s 0 0 A = Q
  suffices hgen : ∀ (H : Heap) (locs : List Loc), gW D ad cy N A s.heap c0 c H locs → W p l e rmX10_thing s m args below meth cod H locs 0 0 Q (F0 m 0 ls []) from hgen _ _ G
  clear G
  intro H locs G
  unfold m_X10_thing at h
  refine lv_aload_n hx hb dX10_thing_0 rfl (lv_at hl 0 rfl) ?_
  refine lv_iconst (v := 0) hx hb dX10_thing_1 (by decide) ?_
  obtain ⟨hk1, h⟩ := gc_s h
  have ht2 : t < N := Nat.lt_of_lt_of_le (gck_lt10 hk1) hN
  refine fp_10_thrown F G hk1 ht2 in10 (by decide +kernel) dX10_thing_2 (fun H locs G => ?_)
  obtain ⟨c3, ec3⟩ : ∃ z, z = gm_r c t (upd (c.1 t) 0 0) := ⟨_, rfl⟩
  rw [← ec3] at G
  replace h := gv_s h c3 ec3
  refine lv_aload_n hx hb dX10_thing_5 rfl (lv_at hl 0 rfl) ?_
  refine lv_aload_n hx hb dX10_thing_6 rfl (lv_at hl 0 rfl) ?_
  refine lv_iload_n hx hb dX10_thing_7 rfl (lv_at hl 1 rfl) ?_
  obtain ⟨r5, hc4, h⟩ := gb_s h
  refine gx_calli F G (va_runV (As := [.int a1]) (rest := [.ref (ad t)]) (gx_fix F) (c_X10_isThing l sa D ad cy N H.size hN hI c0 c3 hc4) (cwV 1 hts gX10_thing_X10_isThing rfl rfl rfl (by decide +kernel) ⟨by decide, by decide⟩) (gx_rec F G ht2 (gwe_10 hk1) rfl) rfl rfl hl.1 rfl (lv_room (Nat.le_of_ble_eq_true rfl)) dX10_thing_8 ⟨Nat.zero_le _, Nat.zero_le _⟩) (fun H locs G => ?_)
  obtain ⟨K7, eK7, h⟩ := gj_s h
  have JK7 : ∀ (v6 : Int32) (H : Heap) (locs : List Loc) (ls : Array Slot), K7 v6 = some (rZ, cZ) → gW D ad cy N A s.heap c0 c3 H locs → lv_has ls 3 [(0, .ref (ad t)), (1, .int a1), (2, .int a2)] → W p l e rmX10_thing s m args below meth cod H locs 0 0 Q (F0 m 19 ls [.int v6, .ref (ad t)]) := by
    intro v6 H locs ls h G hl
    rw [eK7] at h
    refine lv_iconst (v := 1) hx hb dX10_thing_19 (by decide) ?_
    refine lv_iconst (v := 0) hx hb dX10_thing_20 (by decide) ?_
    obtain ⟨r9, c10, hc8, h⟩ := gb2_s h
    refine gx_calli F G (va_runV (As := [.int v6, .int 1, .int 0]) (rest := []) (gx_fix F) (c_X10_bad l sa D ad cy N H.size hN hI c0 c3 hc8) (cwV 3 hts gX10_thing_X10_bad rfl rfl rfl (by decide +kernel) ⟨by decide, by decide⟩) (gx_rec F G ht2 (gwe_10 hk1) rfl) rfl rfl hl.1 rfl (lv_room (Nat.le_of_ble_eq_true rfl)) dX10_thing_21 ⟨Nat.zero_le _, Nat.zero_le _⟩) (fun H locs G => ?_)
    refine lv_if_ne (tgt := 50) hx hb dX10_thing_24 (by decide) (fun q11 => ?_) (fun q11 => ?_)
    · replace h := gf_s q11 h
      refine lv_iconst (v := 0) hx hb dX10_thing_50 (by decide) ?_
      cases h
      rw [← hQ]
      exact gx_iret F G hr hlocks dX10_thing_51
    · replace h := gt_s q11 h
      refine lv_aload_n hx hb dX10_thing_27 rfl (lv_at hl 0 rfl) ?_
      refine lv_iload_n hx hb dX10_thing_28 rfl (lv_at hl 2 rfl) ?_
      refine lv_iconst (v := 0) hx hb dX10_thing_29 (by decide) ?_
      refine lv_iconst (v := 4) hx hb dX10_thing_30 (by decide) ?_
      obtain ⟨r13, hc12, h⟩ := gb_s h
      refine gx_calli F G (va_runS (As := [.int a2, .int 0, .int 4]) (rest := [.ref (ad t)]) (gx_fix F) (c_X10_in l sa D ad cy N H.size hN hI c0 c10 hc12) (va_cwS 3 hts gX10_thing_X10_in rfl rfl rfl (by decide +kernel) ⟨by decide, by decide⟩) (gx_pre F G) rfl rfl hl.1 rfl (lv_room (Nat.le_of_ble_eq_true rfl)) dX10_thing_31 ⟨Nat.zero_le _, Nat.zero_le _⟩) (fun H locs G => ?_)
      obtain ⟨K15, eK15, h⟩ := gj_s h
      have JK15 : ∀ (v14 : Int32) (H : Heap) (locs : List Loc) (ls : Array Slot), K15 v14 = some (rZ, cZ) → gW D ad cy N A s.heap c0 c10 H locs → lv_has ls 3 [(0, .ref (ad t)), (1, .int a1), (2, .int a2)] → W p l e rmX10_thing s m args below meth cod H locs 0 0 Q (F0 m 42 ls [.int v14, .ref (ad t)]) := by
        intro v14 H locs ls h G hl
        rw [eK15] at h
        refine lv_iconst (v := 2) hx hb dX10_thing_42 (by decide) ?_
        refine lv_iconst (v := 1) hx hb dX10_thing_43 (by decide) ?_
        obtain ⟨r17, c18, hc16, h⟩ := gb2_s h
        refine gx_calli F G (va_runV (As := [.int v14, .int 2, .int 1]) (rest := []) (gx_fix F) (c_X10_bad l sa D ad cy N H.size hN hI c0 c10 hc16) (cwV 3 hts gX10_thing_X10_bad rfl rfl rfl (by decide +kernel) ⟨by decide, by decide⟩) (gx_rec F G ht2 (gwe_10 hk1) rfl) rfl rfl hl.1 rfl (lv_room (Nat.le_of_ble_eq_true rfl)) dX10_thing_44 ⟨Nat.zero_le _, Nat.zero_le _⟩) (fun H locs G => ?_)
        refine lv_if_eq (tgt := 52) hx hb dX10_thing_47 (by decide) (fun q19 => ?_) (fun q19 => ?_)
        · replace h := gt_s q19 h
          refine lv_iload_n hx hb dX10_thing_52 rfl (lv_at hl 2 rfl) ?_
          by_cases q20 : a2 = 0
          · replace h := gt_s q20 h
            refine lv_tableIn (tgt := 84) hx hb dX10_thing_53 (by rw [q20]; decide) (by rw [q20]; decide) (off := 31) (by rw [q20]; decide) (by decide) ?_
            refine lv_aload_n hx hb dX10_thing_84 rfl (lv_at hl 0 rfl) ?_
            refine fg_10_now F G hk1 ht2 in10 (by decide +kernel) dX10_thing_85 ?_
            have hk21 : gck 503 = 22 := rfl
            have ht22 : 503 < N := Nat.lt_of_lt_of_le (by decide) hN
            have hn23 : gal 503 = 60 := rfl
            refine lv_iconst (v := 0) hx hb dX10_thing_88 (by decide) ?_
            refine lv_iload_n hx hb dX10_thing_89 rfl (lv_at hl 1 rfl) ?_
            refine lv_iadd hx hb dX10_thing_90 ?_
            obtain ⟨hi24, h⟩ := gc_s h
            refine gx_mia F G hk21 ht22 hn23 hi24 dX10_thing_91 ?_
            cases h
            rw [← hQ]
            exact gx_iret F G hr hlocks dX10_thing_92
          replace h := gf_s q20 h
          by_cases q25 : a2 = 1
          · replace h := gt_s q25 h
            refine lv_tableIn (tgt := 93) hx hb dX10_thing_53 (by rw [q25]; decide) (by rw [q25]; decide) (off := 40) (by rw [q25]; decide) (by decide) ?_
            refine lv_aload_n hx hb dX10_thing_93 rfl (lv_at hl 0 rfl) ?_
            refine fg_10_weight F G hk1 ht2 in10 (by decide +kernel) dX10_thing_94 ?_
            have hk26 : gck 61 = 22 := rfl
            have ht27 : 61 < N := Nat.lt_of_lt_of_le (by decide) hN
            have hn28 : gal 61 = 8 := rfl
            refine lv_iload_n hx hb dX10_thing_97 rfl (lv_at hl 1 rfl) ?_
            obtain ⟨hi29, h⟩ := gc_s h
            refine gx_mia F G hk26 ht27 hn28 hi29 dX10_thing_98 ?_
            cases h
            rw [← hQ]
            exact gx_iret F G hr hlocks dX10_thing_99
          replace h := gf_s q25 h
          by_cases q30 : a2 = 2
          · replace h := gt_s q30 h
            refine lv_tableIn (tgt := 100) hx hb dX10_thing_53 (by rw [q30]; decide) (by rw [q30]; decide) (off := 47) (by rw [q30]; decide) (by decide) ?_
            refine lv_aload_n hx hb dX10_thing_100 rfl (lv_at hl 0 rfl) ?_
            refine fg_10_now F G hk1 ht2 in10 (by decide +kernel) dX10_thing_101 ?_
            have hk31 : gck 503 = 22 := rfl
            have ht32 : 503 < N := Nat.lt_of_lt_of_le (by decide) hN
            have hn33 : gal 503 = 60 := rfl
            refine lv_bipush (v := 8) hx hb dX10_thing_104 (by decide) ?_
            refine lv_iload_n hx hb dX10_thing_106 rfl (lv_at hl 1 rfl) ?_
            refine lv_iadd hx hb dX10_thing_107 ?_
            obtain ⟨hi34, h⟩ := gc_s h
            refine gx_mia F G hk31 ht32 hn33 hi34 dX10_thing_108 ?_
            cases h
            rw [← hQ]
            exact gx_iret F G hr hlocks dX10_thing_109
          replace h := gf_s q30 h
          by_cases q35 : a2 = 3
          · replace h := gt_s q35 h
            refine lv_tableIn (tgt := 110) hx hb dX10_thing_53 (by rw [q35]; decide) (by rw [q35]; decide) (off := 57) (by rw [q35]; decide) (by decide) ?_
            refine lv_aload_n hx hb dX10_thing_110 rfl (lv_at hl 0 rfl) ?_
            refine fg_10_now F G hk1 ht2 in10 (by decide +kernel) dX10_thing_111 ?_
            have hk36 : gck 503 = 22 := rfl
            have ht37 : 503 < N := Nat.lt_of_lt_of_le (by decide) hN
            have hn38 : gal 503 = 60 := rfl
            refine lv_iload_n hx hb dX10_thing_114 rfl (lv_at hl 1 rfl) ?_
            obtain ⟨r40, hc39, h⟩ := gb_s h
            refine gx_calli F G (va_runS (As := [.ref (ad 503), .int a1]) (rest := []) (gx_fix F) (c_X10_criesOf l sa D ad cy N H.size hN hI c0 c18 hc39) (va_cwS 2 hts gX10_thing_X10_criesOf rfl rfl rfl (by decide +kernel) ⟨by decide, by decide⟩) (gx_pre F G) rfl rfl hl.1 rfl (lv_room (Nat.le_of_ble_eq_true rfl)) dX10_thing_115 ⟨Nat.zero_le _, Nat.zero_le _⟩) (fun H locs G => ?_)
            cases h
            rw [← hQ]
            exact gx_iret F G hr hlocks dX10_thing_118
          replace h := gf_s q35 h
          have nn41 := lv_neT q20 (show (0 : Int32).toInt = 0 by decide)
          have nn42 := lv_neT q25 (show (1 : Int32).toInt = 1 by decide)
          have nn43 := lv_neT q30 (show (2 : Int32).toInt = 2 by decide)
          have nn44 := lv_neT q35 (show (3 : Int32).toInt = 3 by decide)
          refine lv_tableOut (tgt := 119) hx hb dX10_thing_53 (by omega) (by decide) ?_
          refine lv_aload_n hx hb dX10_thing_119 rfl (lv_at hl 0 rfl) ?_
          refine lv_aload_n hx hb dX10_thing_120 rfl (lv_at hl 0 rfl) ?_
          refine fg_10_now F G hk1 ht2 in10 (by decide +kernel) dX10_thing_121 ?_
          have hk45 : gck 503 = 22 := rfl
          have ht46 : 503 < N := Nat.lt_of_lt_of_le (by decide) hN
          have hn47 : gal 503 = 60 := rfl
          refine lv_iload_n hx hb dX10_thing_124 rfl (lv_at hl 1 rfl) ?_
          obtain ⟨r49, c50, hc48, h⟩ := gb2_s h
          refine gx_calli F G (va_runV (As := [.ref (ad 503), .int a1]) (rest := []) (gx_fix F) (c_X10_wearOf l sa D ad cy N H.size hN hI c0 c18 hc48) (cwV 2 hts gX10_thing_X10_wearOf rfl rfl rfl (by decide +kernel) ⟨by decide, by decide⟩) (gx_rec F G ht2 (gwe_10 hk1) rfl) rfl rfl hl.1 rfl (lv_room (Nat.le_of_ble_eq_true rfl)) dX10_thing_125 ⟨Nat.zero_le _, Nat.zero_le _⟩) (fun H locs G => ?_)
          cases h
          rw [← hQ]
          exact gx_iret F G hr hlocks dX10_thing_128
        · replace h := gf_s q19 h
          refine lv_iconst (v := 0) hx hb dX10_thing_50 (by decide) ?_
          cases h
          rw [← hQ]
          exact gx_iret F G hr hlocks dX10_thing_51
      refine lv_if_ne (tgt := 41) hx hb dX10_thing_34 (by decide) (fun q51 => ?_) (fun q51 => ?_)
      · replace h := gf_s q51 h
        refine lv_iconst (v := 0) hx hb dX10_thing_41 (by decide) ?_
        exact JK15 _ _ _ _ h G hl
      · replace h := gt_s q51 h
        refine lv_iconst (v := 1) hx hb dX10_thing_37 (by decide) ?_
        refine lv_goto (tgt := 42) hx hb dX10_thing_38 (by decide) ?_
        exact JK15 _ _ _ _ h G hl
  refine lv_if_ne (tgt := 18) hx hb dX10_thing_11 (by decide) (fun q52 => ?_) (fun q52 => ?_)
  · replace h := gf_s q52 h
    refine lv_iconst (v := 0) hx hb dX10_thing_18 (by decide) ?_
    exact JK7 _ _ _ _ h G hl
  · replace h := gt_s q52 h
    refine lv_iconst (v := 1) hx hb dX10_thing_14 (by decide) ?_
    refine lv_goto (tgt := 19) hx hb dX10_thing_15 (by decide) ?_
    exact JK7 _ _ _ _ h G hl
def m_X10_cry (t : Nat) (a1 : Int32) (a2 : Int32) (c : gm) : Option (Int32 × gm) :=
  gc (gck t = 10) (gv (gm_r c t (upd (c.1 t) 0 0)) (fun (c3 : gm) => gb (m_X10_in a1 0 ((c3.1 503 (56 : Int32).toNatClampNeg) - 1)) (fun (r9 : Int32) => gj (fun (v10 : Int32) => gb2 (m_X10_bad t v10 1 0 c3) (fun (r13 : Int32) (c14 : gm) => (if r13 = 0 then gb (m_X10_in a2 0 3) (fun (r17 : Int32) => gj (fun (v18 : Int32) => gb2 (m_X10_bad t v18 2 1 c14) (fun (r21 : Int32) (c22 : gm) => (if r21 = 0 then gc (0 ≤ ((16 + (4 * a1)) + a2).toInt ∧ ((16 + (4 * a1)) + a2).toInt < 60) (some ((c22.1 503 ((16 + (4 * a1)) + a2).toNatClampNeg), c22)) else some (0, c22)))) (fun K19 => (if r17 = 0 then K19 1 else K19 0))) else some (0, c14)))) (fun K11 => (if r9 = 0 then K11 1 else K11 0)))))
abbrev rmX10_cry : Room := { frames := 1, cells := 0, slots := 0, locals := 23 }
set_option maxHeartbeats 4000000 in
set_option maxRecDepth 100000 in
theorem c_X10_cry (l : Launch) (sa : gSa) (D : va_G) (ad : Nat → Nat) (cy : Nat → ClassId) (N sz : Nat) (hN : 530 ≤ N) (hI : gI ad N) (c0 c : gm) {t : Nat} {a1 : Int32} {a2 : Int32} {rZ : Int32} {cZ : gm} (h : m_X10_cry t a1 a2 c = some (rZ, cZ)) : Met l yX10_cry wsX10_cry rmX10_cry (va_Pc [.ref (ad t), .int a1, .int a2] (gP sa D ad cy N sz c0 c)) (va_Qi (fun (z : Int32) (_ : Unit) => z = rZ) (fun _ U => gE D ad cy N c0 cZ U) (gA ad N sz)) 0 0 (gA ad N sz) := by
  refine Met.ofW (cc := cX10_cry) (maxL := 3) (ret := (some .int)) (by decide) rfl ?_
  intro p e s m args below meth cod s₁ B hml hv
  obtain ⟨rfl, hsz, hP, hK, hZ⟩ := hv
  have hx := B.exec
  have hb := B.bytes
  have hr := B.returns
  have hts := atoms_spec (ws := wsX10_cry) B.pre
  have hown : s.vm.findClass RX10 = some m.cls := findClass_of_methodNamed B.named
  have hlocks := B.notSynchronized
  subst hsz
  have hl := lv_entry ([.ref (ad t), .int a1, .int a2]) (n := 3) (Nat.le_of_ble_eq_true rfl)
  rw [lg_entry_eq]
  generalize (lg_sl ([.ref (ad t), .int a1, .int a2]) ++ List.replicate (3 - (lg_sl ([.ref (ad t), .int a1, .int a2])).length) Slot.unset).toArray = ls at hl ⊢
  have hl : lv_has ls 3 [(0, .ref (ad t)), (1, .int a1), (2, .int a2)] := hl
  have in10 : ∀ w ∈ wsX100, w ∈ wsX10_cry := by decide +kernel
  generalize hargs : ([.ref (ad t), .int a1, .int a2] : List Value).toArray = args at *
  generalize hAe : gA ad N s.heap.size = A
  have F : gF sa D ad cy N A p s m args cod cX10_cry 3 wsX10_cry RX10 := ⟨hx, hb, hml, hown, hts, hK, hI, by rw [← hAe]; exact gA_ad, by rw [← hAe]; exact gA_sz, by rw [← hAe]; exact hZ⟩
  have G : gW D ad cy N A s.heap c0 c s.heap [] := ⟨hP, va_S.rf⟩
  generalize hQ : MQ below (va_Qi (fun (z : Int32) (_ : Unit) => z = rZ) (fun _ U => gE D ad cy N c0 cZ U) A) args s 0 0 A = Q
  suffices hgen : ∀ (H : Heap) (locs : List Loc), gW D ad cy N A s.heap c0 c H locs → W p l e rmX10_cry s m args below meth cod H locs 0 0 Q (F0 m 0 ls []) from hgen _ _ G
  clear G
  intro H locs G
  unfold m_X10_cry at h
  refine lv_aload_n hx hb dX10_cry_0 rfl (lv_at hl 0 rfl) ?_
  refine lv_iconst (v := 0) hx hb dX10_cry_1 (by decide) ?_
  obtain ⟨hk1, h⟩ := gc_s h
  have ht2 : t < N := Nat.lt_of_lt_of_le (gck_lt10 hk1) hN
  refine fp_10_thrown F G hk1 ht2 in10 (by decide +kernel) dX10_cry_2 (fun H locs G => ?_)
  obtain ⟨c3, ec3⟩ : ∃ z, z = gm_r c t (upd (c.1 t) 0 0) := ⟨_, rfl⟩
  rw [← ec3] at G
  replace h := gv_s h c3 ec3
  refine lv_aload_n hx hb dX10_cry_5 rfl (lv_at hl 0 rfl) ?_
  refine lv_iload_n hx hb dX10_cry_6 rfl (lv_at hl 1 rfl) ?_
  refine lv_iconst (v := 0) hx hb dX10_cry_7 (by decide) ?_
  refine lv_aload_n hx hb dX10_cry_8 rfl (lv_at hl 0 rfl) ?_
  refine fg_10_now F G hk1 ht2 in10 (by decide +kernel) dX10_cry_9 ?_
  have hk4 : gck 503 = 22 := rfl
  have ht5 : 503 < N := Nat.lt_of_lt_of_le (by decide) hN
  have hn6 : gal 503 = 60 := rfl
  refine lv_bipush (v := 56) hx hb dX10_cry_12 (by decide) ?_
  refine gx_mia F G hk4 ht5 hn6 (by decide) dX10_cry_14 ?_
  refine lv_iconst (v := 1) hx hb dX10_cry_15 (by decide) ?_
  refine lv_isub hx hb dX10_cry_16 ?_
  obtain ⟨r9, hc8, h⟩ := gb_s h
  refine gx_calli F G (va_runS (As := [.int a1, .int 0, .int ((c3.1 503 (56 : Int32).toNatClampNeg) - 1)]) (rest := [.ref (ad t)]) (gx_fix F) (c_X10_in l sa D ad cy N H.size hN hI c0 c3 hc8) (va_cwS 3 hts gX10_cry_X10_in rfl rfl rfl (by decide +kernel) ⟨by decide, by decide⟩) (gx_pre F G) rfl rfl hl.1 rfl (lv_room (Nat.le_of_ble_eq_true rfl)) dX10_cry_17 ⟨Nat.zero_le _, Nat.zero_le _⟩) (fun H locs G => ?_)
  obtain ⟨K11, eK11, h⟩ := gj_s h
  have JK11 : ∀ (v10 : Int32) (H : Heap) (locs : List Loc) (ls : Array Slot), K11 v10 = some (rZ, cZ) → gW D ad cy N A s.heap c0 c3 H locs → lv_has ls 3 [(0, .ref (ad t)), (1, .int a1), (2, .int a2)] → W p l e rmX10_cry s m args below meth cod H locs 0 0 Q (F0 m 28 ls [.int v10, .ref (ad t)]) := by
    intro v10 H locs ls h G hl
    rw [eK11] at h
    refine lv_iconst (v := 1) hx hb dX10_cry_28 (by decide) ?_
    refine lv_iconst (v := 0) hx hb dX10_cry_29 (by decide) ?_
    obtain ⟨r13, c14, hc12, h⟩ := gb2_s h
    refine gx_calli F G (va_runV (As := [.int v10, .int 1, .int 0]) (rest := []) (gx_fix F) (c_X10_bad l sa D ad cy N H.size hN hI c0 c3 hc12) (cwV 3 hts gX10_cry_X10_bad rfl rfl rfl (by decide +kernel) ⟨by decide, by decide⟩) (gx_rec F G ht2 (gwe_10 hk1) rfl) rfl rfl hl.1 rfl (lv_room (Nat.le_of_ble_eq_true rfl)) dX10_cry_30 ⟨Nat.zero_le _, Nat.zero_le _⟩) (fun H locs G => ?_)
    refine lv_if_ne (tgt := 59) hx hb dX10_cry_33 (by decide) (fun q15 => ?_) (fun q15 => ?_)
    · replace h := gf_s q15 h
      refine lv_iconst (v := 0) hx hb dX10_cry_59 (by decide) ?_
      cases h
      rw [← hQ]
      exact gx_iret F G hr hlocks dX10_cry_60
    · replace h := gt_s q15 h
      refine lv_aload_n hx hb dX10_cry_36 rfl (lv_at hl 0 rfl) ?_
      refine lv_iload_n hx hb dX10_cry_37 rfl (lv_at hl 2 rfl) ?_
      refine lv_iconst (v := 0) hx hb dX10_cry_38 (by decide) ?_
      refine lv_iconst (v := 3) hx hb dX10_cry_39 (by decide) ?_
      obtain ⟨r17, hc16, h⟩ := gb_s h
      refine gx_calli F G (va_runS (As := [.int a2, .int 0, .int 3]) (rest := [.ref (ad t)]) (gx_fix F) (c_X10_in l sa D ad cy N H.size hN hI c0 c14 hc16) (va_cwS 3 hts gX10_cry_X10_in rfl rfl rfl (by decide +kernel) ⟨by decide, by decide⟩) (gx_pre F G) rfl rfl hl.1 rfl (lv_room (Nat.le_of_ble_eq_true rfl)) dX10_cry_40 ⟨Nat.zero_le _, Nat.zero_le _⟩) (fun H locs G => ?_)
      obtain ⟨K19, eK19, h⟩ := gj_s h
      have JK19 : ∀ (v18 : Int32) (H : Heap) (locs : List Loc) (ls : Array Slot), K19 v18 = some (rZ, cZ) → gW D ad cy N A s.heap c0 c14 H locs → lv_has ls 3 [(0, .ref (ad t)), (1, .int a1), (2, .int a2)] → W p l e rmX10_cry s m args below meth cod H locs 0 0 Q (F0 m 51 ls [.int v18, .ref (ad t)]) := by
        intro v18 H locs ls h G hl
        rw [eK19] at h
        refine lv_iconst (v := 2) hx hb dX10_cry_51 (by decide) ?_
        refine lv_iconst (v := 1) hx hb dX10_cry_52 (by decide) ?_
        obtain ⟨r21, c22, hc20, h⟩ := gb2_s h
        refine gx_calli F G (va_runV (As := [.int v18, .int 2, .int 1]) (rest := []) (gx_fix F) (c_X10_bad l sa D ad cy N H.size hN hI c0 c14 hc20) (cwV 3 hts gX10_cry_X10_bad rfl rfl rfl (by decide +kernel) ⟨by decide, by decide⟩) (gx_rec F G ht2 (gwe_10 hk1) rfl) rfl rfl hl.1 rfl (lv_room (Nat.le_of_ble_eq_true rfl)) dX10_cry_53 ⟨Nat.zero_le _, Nat.zero_le _⟩) (fun H locs G => ?_)
        refine lv_if_eq (tgt := 61) hx hb dX10_cry_56 (by decide) (fun q23 => ?_) (fun q23 => ?_)
        · replace h := gt_s q23 h
          refine lv_aload_n hx hb dX10_cry_61 rfl (lv_at hl 0 rfl) ?_
          refine fg_10_now F G hk1 ht2 in10 (by decide +kernel) dX10_cry_62 ?_
          refine lv_bipush (v := 16) hx hb dX10_cry_65 (by decide) ?_
          refine lv_iconst (v := 4) hx hb dX10_cry_67 (by decide) ?_
          refine lv_iload_n hx hb dX10_cry_68 rfl (lv_at hl 1 rfl) ?_
          refine lv_imul hx hb dX10_cry_69 ?_
          refine lv_iadd hx hb dX10_cry_70 ?_
          refine lv_iload_n hx hb dX10_cry_71 rfl (lv_at hl 2 rfl) ?_
          refine lv_iadd hx hb dX10_cry_72 ?_
          obtain ⟨hi24, h⟩ := gc_s h
          refine gx_mia F G hk4 ht5 hn6 hi24 dX10_cry_73 ?_
          cases h
          rw [← hQ]
          exact gx_iret F G hr hlocks dX10_cry_74
        · replace h := gf_s q23 h
          refine lv_iconst (v := 0) hx hb dX10_cry_59 (by decide) ?_
          cases h
          rw [← hQ]
          exact gx_iret F G hr hlocks dX10_cry_60
      refine lv_if_ne (tgt := 50) hx hb dX10_cry_43 (by decide) (fun q25 => ?_) (fun q25 => ?_)
      · replace h := gf_s q25 h
        refine lv_iconst (v := 0) hx hb dX10_cry_50 (by decide) ?_
        exact JK19 _ _ _ _ h G hl
      · replace h := gt_s q25 h
        refine lv_iconst (v := 1) hx hb dX10_cry_46 (by decide) ?_
        refine lv_goto (tgt := 51) hx hb dX10_cry_47 (by decide) ?_
        exact JK19 _ _ _ _ h G hl
  refine lv_if_ne (tgt := 27) hx hb dX10_cry_20 (by decide) (fun q26 => ?_) (fun q26 => ?_)
  · replace h := gf_s q26 h
    refine lv_iconst (v := 0) hx hb dX10_cry_27 (by decide) ?_
    exact JK11 _ _ _ _ h G hl
  · replace h := gt_s q26 h
    refine lv_iconst (v := 1) hx hb dX10_cry_23 (by decide) ?_
    refine lv_goto (tgt := 28) hx hb dX10_cry_24 (by decide) ?_
    exact JK11 _ _ _ _ h G hl
