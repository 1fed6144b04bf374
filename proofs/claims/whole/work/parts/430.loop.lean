set_option maxRecDepth 16384
/-! the law's loop -/
theorem lx_ok {L a : Nat} (h : a + 8 ≤ L) (hL : L ≤ 512) : gLx L (nI a) := by
  have e : ∀ k : Nat, k ≤ 7 → 0 ≤ (nI a + nI k).toInt ∧ (nI a + nI k).toInt < (L : Nat) := fun k hk => by
    rw [n_ad]
    exact n_rg (by omega) (by omega)
  exact ⟨e 1 (by omega), e 2 (by omega), e 3 (by omega), e 4 (by omega), e 5 (by omega), e 6 (by omega), e 7 (by omega)⟩
set_option maxHeartbeats 4000000 in
set_option maxRecDepth 100000 in
theorem lw_head {p : Program} {l : Launch} {e : Env} {s : State} {m : MethodId} {below : List Frame} {meth : Method} {cod : Code} {sa : gSa} {D : va_G} {ad : Nat → Nat} {cy : Nat → ClassId} (hlt : l.stackTraces = false) {b L : Nat} {xs : Nat → Int32} (F : gF sa D ad cy 531 (fun q => s.heap.size ≤ q) p s m #[Value.ref b] cod cL_law_ 8 wsL_law_ RL) (hr : meth.sig.returnType = ret) (hlocks : meth.locks = false) (hX : va_X b L xs s s.heap) (hbl : b < s.heap.size) (hL : L ≤ 512) {a kc ks : Nat} {c d : gm} {H : Heap} {locs : List Loc} {ls : Array Slot} (ha : a ≤ 1000) (hkc : kc ≤ 600128) (hks : ks ≤ 7301098) (hR : gRel c d) (G : gW D ad cy 531 (fun q => s.heap.size ≤ q) s.heap c d H locs) (hl : lv_has ls 8 [(0, .ref b), (1, .ref (ad 0)), (2, .ref (ad 55)), (3, .ref (ad 530)), (4, .int (nI a))]) (hk : a + 8 ≤ L → kc + 1 ≤ 600128 ∧ ks + 6 ≤ 7301098 ∧ ∀ (c d : gm) (H : Heap) (locs : List Loc) (ls : Array Slot), gRel c d → gW D ad cy 531 (fun q => s.heap.size ≤ q) s.heap c d H locs → lv_has ls 8 [(0, .ref b), (1, .ref (ad 0)), (2, .ref (ad 55)), (3, .ref (ad 530)), (4, .int (nI (a + 8)))] → W p l e room_1 s m #[Value.ref b] below meth cod H locs (kc + 1) (ks + 6) (lw_Z below #[Value.ref b] s) (F0 m 23 ls [])) : W p l e room_1 s m #[Value.ref b] below meth cod H locs kc ks (lw_Z below #[Value.ref b] s) (F0 m 23 ls []) := by
  obtain ⟨hx, hb, hml, hown, hts, hK, hI, hA, hZ, hZZ⟩ := id F
  have hbA : ¬ (fun q => s.heap.size ≤ q) b := Nat.not_le.mpr hbl
  refine lv_iload hx hb dL_law__23 (lv_at hl 4 rfl) ?_
  refine lv_aload_n hx hb dL_law__25 rfl (lv_at hl 0 rfl) ?_
  refine va_slen hx hb hX hbl hbA G.2 dL_law__26 ?_
  refine lv_bipush (v := 8) hx hb dL_law__27 (by decide) ?_
  refine lv_isub hx hb dL_law__29 ?_
  refine lv_icmp_gt (tgt := 2294) hx hb dL_law__30 (by decide) (fun q => ?_) (fun q => ?_)
  · refine lv_iconst (v := 1) hx hb dL_law__2294 (by decide) ?_
    refine va_forget (fun q hq => G.2.2.2 q hq) ?_
    refine W.widen (k := 600128) (n := 7301098) (by omega) (by omega) ?_
    exact lw_ret hx hb hr hlocks dL_law__2295
  have hal : a + 8 ≤ L := by
    have e1 : (Int32.ofNat L - 8).toInt = (L : Int) - 8 := by
      have := i_sub (a := L) (b := 8) (by omega) (by omega)
      exact this
    rw [Int32.lt_iff_toInt_lt, e1, n_ti (by omega)] at q
    omega
  obtain ⟨hkc2, hks2, hk⟩ := hk hal
  have hxL := lx_ok hal hL
  refine lv_aload_n hx hb dL_law__33 rfl (lv_at hl 0 rfl) ?_
  refine lv_iload hx hb dL_law__34 (lv_at hl 4 rfl) ?_
  refine va_sld hx hb hX hbl hbA G.2 (gin (n_rg (by omega) (by omega))) dL_law__36 ?_
  refine lv_bipush (v := 63) hx hb dL_law__37 (by decide) ?_
  refine lv_iand hx hb dL_law__39 ?_
  generalize xs (nI a).toNatClampNeg &&& 63 = x
  have J : ∀ (c d : gm) (H : Heap) (locs : List Loc) (ls : Array Slot), gRel c d → gW D ad cy 531 (fun q => s.heap.size ≤ q) s.heap c d H locs → lv_has ls 8 [(0, .ref b), (1, .ref (ad 0)), (2, .ref (ad 55)), (3, .ref (ad 530)), (4, .int (nI a))] → W p l e room_1 s m #[Value.ref b] below meth cod H locs (kc + 1) (ks + 6) (lw_Z below #[Value.ref b] s) (F0 m 2288 ls []) := by
    intro c d H locs ls hR G hl
    refine lv_iinc (v := nI (a + 8)) (lv' := [(4, .int (nI (a + 8))), (0, .ref b), (1, .ref (ad 0)), (2, .ref (ad 55)), (3, .ref (ad 530))]) hx hb dL_law__2288 hl (k := 4) rfl (by rw [show Int32.ofInt 8 = nI 8 from rfl, n_ad]) (by decide) rfl (fun ls hl => ?_)
    refine lv_goto (tgt := 23) hx hb dL_law__2291 (by decide) ?_
    exact hk c d H locs ls hR G (lv_sub hl [1, 2, 3, 4, 0] rfl)
  by_cases hx1 : x.toInt < 0 ∨ 35 < x.toInt
  · refine lv_tableOut (tgt := 2288) hx hb dL_law__40 hx1 (by decide) ?_
    exact W.widen (k := kc + 1) (n := ks + 6) (by omega) (by omega) (J c d _ _ _ hR G hl)
  rcases (show x.toInt = 0 ∨ x.toInt = 1 ∨ x.toInt = 2 ∨ x.toInt = 3 ∨ x.toInt = 4 ∨ x.toInt = 5 ∨ x.toInt = 6 ∨ x.toInt = 7 ∨ x.toInt = 8 ∨ x.toInt = 9 ∨ x.toInt = 10 ∨ x.toInt = 11 ∨ x.toInt = 12 ∨ x.toInt = 13 ∨ x.toInt = 14 ∨ x.toInt = 15 ∨ x.toInt = 16 ∨ x.toInt = 17 ∨ x.toInt = 18 ∨ x.toInt = 19 ∨ x.toInt = 20 ∨ x.toInt = 21 ∨ x.toInt = 22 ∨ x.toInt = 23 ∨ x.toInt = 24 ∨ x.toInt = 25 ∨ x.toInt = 26 ∨ x.toInt = 27 ∨ x.toInt = 28 ∨ x.toInt = 29 ∨ x.toInt = 30 ∨ x.toInt = 31 ∨ x.toInt = 32 ∨ x.toInt = 33 ∨ x.toInt = 34 ∨ x.toInt = 35 by omega) with e | e | e | e | e | e | e | e | e | e | e | e | e | e | e | e | e | e | e | e | e | e | e | e | e | e | e | e | e | e | e | e | e | e | e | e
  · refine lv_tableIn (tgt := 200) (off := 160) hx hb dL_law__40 (by omega) (by omega) (by rw [e]; rfl) (by decide) ?_
    obtain ⟨cd2, hc, hR2⟩ := lwp_0 (n := 1200) (xs := xs) hR (by decide) hxL
    exact law_0 hlt (Nat.le_refl _) F hX hbl hbA (by omega) (by omega) (cd := (c, d)) hc G hl (fun H locs ls G hl => J cd2.1 cd2.2 H locs ls hR2 G hl)
  · refine lv_tableIn (tgt := 273) (off := 233) hx hb dL_law__40 (by omega) (by omega) (by rw [e]; rfl) (by decide) ?_
    obtain ⟨cd2, hc, hR2⟩ := lwp_1 (n := 1200) (xs := xs) hR (by decide) hxL
    exact law_1 hlt (Nat.le_refl _) F hX hbl hbA (by omega) (by omega) (cd := (c, d)) hc G hl (fun H locs ls G hl => J cd2.1 cd2.2 H locs ls hR2 G hl)
  · refine lv_tableIn (tgt := 329) (off := 289) hx hb dL_law__40 (by omega) (by omega) (by rw [e]; rfl) (by decide) ?_
    obtain ⟨cd2, hc, hR2⟩ := lwp_2 (n := 1200) (xs := xs) hR (by decide) hxL
    exact law_2 hlt (Nat.le_refl _) F hX hbl hbA (by omega) (by omega) (cd := (c, d)) hc G hl (fun H locs ls G hl => J cd2.1 cd2.2 H locs ls hR2 G hl)
  · refine lv_tableIn (tgt := 385) (off := 345) hx hb dL_law__40 (by omega) (by omega) (by rw [e]; rfl) (by decide) ?_
    obtain ⟨cd2, hc, hR2⟩ := lwp_3 (n := 1200) (xs := xs) hR (by decide) hxL
    exact law_3 hlt (Nat.le_refl _) F hX hbl hbA (by omega) (by omega) (cd := (c, d)) hc G hl (fun H locs ls G hl => J cd2.1 cd2.2 H locs ls hR2 G hl)
  · refine lv_tableIn (tgt := 441) (off := 401) hx hb dL_law__40 (by omega) (by omega) (by rw [e]; rfl) (by decide) ?_
    obtain ⟨cd2, hc, hR2⟩ := lwp_4 (n := 1200) (xs := xs) hR (by decide) hxL
    exact law_4 hlt (Nat.le_refl _) F hX hbl hbA (by omega) (by omega) (cd := (c, d)) hc G hl (fun H locs ls G hl => J cd2.1 cd2.2 H locs ls hR2 G hl)
  · refine lv_tableIn (tgt := 497) (off := 457) hx hb dL_law__40 (by omega) (by omega) (by rw [e]; rfl) (by decide) ?_
    obtain ⟨cd2, hc, hR2⟩ := lwp_5 (n := 1200) (xs := xs) hR (by decide) hxL
    exact law_5 hlt (Nat.le_refl _) F hX hbl hbA (by omega) (by omega) (cd := (c, d)) hc G hl (fun H locs ls G hl => J cd2.1 cd2.2 H locs ls hR2 G hl)
  · refine lv_tableIn (tgt := 510) (off := 470) hx hb dL_law__40 (by omega) (by omega) (by rw [e]; rfl) (by decide) ?_
    obtain ⟨cd2, hc, hR2⟩ := lwp_6 (n := 1200) (xs := xs) hR (by decide) hxL
    exact law_6 hlt (Nat.le_refl _) F hX hbl hbA (by omega) (by omega) (cd := (c, d)) hc G hl (fun H locs ls G hl => J cd2.1 cd2.2 H locs ls hR2 G hl)
  · refine lv_tableIn (tgt := 523) (off := 483) hx hb dL_law__40 (by omega) (by omega) (by rw [e]; rfl) (by decide) ?_
    obtain ⟨cd2, hc, hR2⟩ := lwp_7 (n := 1200) (xs := xs) hR (by decide) hxL
    exact law_7 hlt (Nat.le_refl _) F hX hbl hbA (by omega) (by omega) (cd := (c, d)) hc G hl (fun H locs ls G hl => J cd2.1 cd2.2 H locs ls hR2 G hl)
  · refine lv_tableIn (tgt := 579) (off := 539) hx hb dL_law__40 (by omega) (by omega) (by rw [e]; rfl) (by decide) ?_
    obtain ⟨cd2, hc, hR2⟩ := lwp_8 (n := 1200) (xs := xs) hR (by decide) hxL
    exact law_8 hlt (Nat.le_refl _) F hX hbl hbA (by omega) (by omega) (cd := (c, d)) hc G hl (fun H locs ls G hl => J cd2.1 cd2.2 H locs ls hR2 G hl)
  · refine lv_tableIn (tgt := 647) (off := 607) hx hb dL_law__40 (by omega) (by omega) (by rw [e]; rfl) (by decide) ?_
    obtain ⟨cd2, hc, hR2⟩ := lwp_9 (n := 1200) (xs := xs) hR (by decide) hxL
    exact law_9 hlt (Nat.le_refl _) F hX hbl hbA (by omega) (by omega) (cd := (c, d)) hc G hl (fun H locs ls G hl => J cd2.1 cd2.2 H locs ls hR2 G hl)
  · refine lv_tableIn (tgt := 715) (off := 675) hx hb dL_law__40 (by omega) (by omega) (by rw [e]; rfl) (by decide) ?_
    obtain ⟨cd2, hc, hR2⟩ := lwp_10 (n := 1200) (xs := xs) hR (by decide) hxL
    exact law_10 hlt (Nat.le_refl _) F hX hbl hbA (by omega) (by omega) (cd := (c, d)) hc G hl (fun H locs ls G hl => J cd2.1 cd2.2 H locs ls hR2 G hl)
  · refine lv_tableIn (tgt := 807) (off := 767) hx hb dL_law__40 (by omega) (by omega) (by rw [e]; rfl) (by decide) ?_
    obtain ⟨cd2, hc, hR2⟩ := lwp_11 (n := 1200) (xs := xs) hR (by decide) hxL
    exact law_11 hlt (Nat.le_refl _) F hX hbl hbA (by omega) (by omega) (cd := (c, d)) hc G hl (fun H locs ls G hl => J cd2.1 cd2.2 H locs ls hR2 G hl)
  · refine lv_tableIn (tgt := 939) (off := 899) hx hb dL_law__40 (by omega) (by omega) (by rw [e]; rfl) (by decide) ?_
    obtain ⟨cd2, hc, hR2⟩ := lwp_12 (n := 1200) (xs := xs) hR (by decide) hxL
    exact law_12 hlt (Nat.le_refl _) F hX hbl hbA (by omega) (by omega) (cd := (c, d)) hc G hl (fun H locs ls G hl => J cd2.1 cd2.2 H locs ls hR2 G hl)
  · refine lv_tableIn (tgt := 1007) (off := 967) hx hb dL_law__40 (by omega) (by omega) (by rw [e]; rfl) (by decide) ?_
    obtain ⟨cd2, hc, hR2⟩ := lwp_13 (n := 1200) (xs := xs) hR (by decide) hxL
    exact law_13 hlt (Nat.le_refl _) F hX hbl hbA (by omega) (by omega) (cd := (c, d)) hc G hl (fun H locs ls G hl => J cd2.1 cd2.2 H locs ls hR2 G hl)
  · refine lv_tableIn (tgt := 1086) (off := 1046) hx hb dL_law__40 (by omega) (by omega) (by rw [e]; rfl) (by decide) ?_
    obtain ⟨cd2, hc, hR2⟩ := lwp_14 (n := 1200) (xs := xs) hR (by decide) hxL
    exact law_14 hlt (Nat.le_refl _) F hX hbl hbA (by omega) (by omega) (cd := (c, d)) hc G hl (fun H locs ls G hl => J cd2.1 cd2.2 H locs ls hR2 G hl)
  · refine lv_tableIn (tgt := 1141) (off := 1101) hx hb dL_law__40 (by omega) (by omega) (by rw [e]; rfl) (by decide) ?_
    obtain ⟨cd2, hc, hR2⟩ := lwp_15 (n := 1200) (xs := xs) hR (by decide) hxL
    exact law_15 hlt (Nat.le_refl _) F hX hbl hbA (by omega) (by omega) (cd := (c, d)) hc G hl (fun H locs ls G hl => J cd2.1 cd2.2 H locs ls hR2 G hl)
  · refine lv_tableIn (tgt := 1154) (off := 1114) hx hb dL_law__40 (by omega) (by omega) (by rw [e]; rfl) (by decide) ?_
    obtain ⟨cd2, hc, hR2⟩ := lwp_16 (n := 1200) (xs := xs) hR (by decide) hxL
    exact law_16 hlt (Nat.le_refl _) F hX hbl hbA (by omega) (by omega) (cd := (c, d)) hc G hl (fun H locs ls G hl => J cd2.1 cd2.2 H locs ls hR2 G hl)
  · refine lv_tableIn (tgt := 1167) (off := 1127) hx hb dL_law__40 (by omega) (by omega) (by rw [e]; rfl) (by decide) ?_
    obtain ⟨cd2, hc, hR2⟩ := lwp_17 (n := 1200) (xs := xs) hR (by decide) hxL
    exact law_17 hlt (Nat.le_refl _) F hX hbl hbA (by omega) (by omega) (cd := (c, d)) hc G hl (fun H locs ls G hl => J cd2.1 cd2.2 H locs ls hR2 G hl)
  · refine lv_tableIn (tgt := 1235) (off := 1195) hx hb dL_law__40 (by omega) (by omega) (by rw [e]; rfl) (by decide) ?_
    obtain ⟨cd2, hc, hR2⟩ := lwp_18 (n := 1200) (xs := xs) hR (by decide) hxL
    exact law_18 hlt (Nat.le_refl _) F hX hbl hbA (by omega) (by omega) (cd := (c, d)) hc G hl (fun H locs ls G hl => J cd2.1 cd2.2 H locs ls hR2 G hl)
  · refine lv_tableIn (tgt := 1291) (off := 1251) hx hb dL_law__40 (by omega) (by omega) (by rw [e]; rfl) (by decide) ?_
    obtain ⟨cd2, hc, hR2⟩ := lwp_19 (n := 1200) (xs := xs) hR (by decide) hxL
    exact law_19 hlt (Nat.le_refl _) F hX hbl hbA (by omega) (by omega) (cd := (c, d)) hc G hl (fun H locs ls G hl => J cd2.1 cd2.2 H locs ls hR2 G hl)
  · refine lv_tableIn (tgt := 1359) (off := 1319) hx hb dL_law__40 (by omega) (by omega) (by rw [e]; rfl) (by decide) ?_
    obtain ⟨cd2, hc, hR2⟩ := lwp_20 (n := 1200) (xs := xs) hR (by decide) hxL
    exact law_20 hlt (Nat.le_refl _) F hX hbl hbA (by omega) (by omega) (cd := (c, d)) hc G hl (fun H locs ls G hl => J cd2.1 cd2.2 H locs ls hR2 G hl)
  · refine lv_tableIn (tgt := 1415) (off := 1375) hx hb dL_law__40 (by omega) (by omega) (by rw [e]; rfl) (by decide) ?_
    obtain ⟨cd2, hc, hR2⟩ := lwp_21 (n := 1200) (xs := xs) hR (by decide) hxL
    exact law_21 hlt (Nat.le_refl _) F hX hbl hbA (by omega) (by omega) (cd := (c, d)) hc G hl (fun H locs ls G hl => J cd2.1 cd2.2 H locs ls hR2 G hl)
  · refine lv_tableIn (tgt := 1471) (off := 1431) hx hb dL_law__40 (by omega) (by omega) (by rw [e]; rfl) (by decide) ?_
    obtain ⟨cd2, hc, hR2⟩ := lwp_22 (n := 1200) (xs := xs) hR (by decide) hxL
    exact law_22 hlt (Nat.le_refl _) F hX hbl hbA (by omega) (by omega) (cd := (c, d)) hc G hl (fun H locs ls G hl => J cd2.1 cd2.2 H locs ls hR2 G hl)
  · refine lv_tableIn (tgt := 1527) (off := 1487) hx hb dL_law__40 (by omega) (by omega) (by rw [e]; rfl) (by decide) ?_
    obtain ⟨cd2, hc, hR2⟩ := lwp_23 (n := 1200) (xs := xs) hR (by decide) hxL
    exact law_23 hlt (Nat.le_refl _) F hX hbl hbA (by omega) (by omega) (cd := (c, d)) hc G hl (fun H locs ls G hl => J cd2.1 cd2.2 H locs ls hR2 G hl)
  · refine lv_tableIn (tgt := 1607) (off := 1567) hx hb dL_law__40 (by omega) (by omega) (by rw [e]; rfl) (by decide) ?_
    obtain ⟨cd2, hc, hR2⟩ := lwp_24 (n := 1200) (xs := xs) hR (by decide) hxL
    exact law_24 hlt (Nat.le_refl _) F hX hbl hbA (by omega) (by omega) (cd := (c, d)) hc G hl (fun H locs ls G hl => J cd2.1 cd2.2 H locs ls hR2 G hl)
  · refine lv_tableIn (tgt := 1686) (off := 1646) hx hb dL_law__40 (by omega) (by omega) (by rw [e]; rfl) (by decide) ?_
    obtain ⟨cd2, hc, hR2⟩ := lwp_25 (n := 1200) (xs := xs) hR (by decide) hxL
    exact law_25 hlt (Nat.le_refl _) F hX hbl hbA (by omega) (by omega) (cd := (c, d)) hc G hl (fun H locs ls G hl => J cd2.1 cd2.2 H locs ls hR2 G hl)
  · refine lv_tableIn (tgt := 1766) (off := 1726) hx hb dL_law__40 (by omega) (by omega) (by rw [e]; rfl) (by decide) ?_
    obtain ⟨cd2, hc, hR2⟩ := lwp_26 (n := 1200) (xs := xs) hR (by decide) hxL
    exact law_26 hlt (Nat.le_refl _) F hX hbl hbA (by omega) (by omega) (cd := (c, d)) hc G hl (fun H locs ls G hl => J cd2.1 cd2.2 H locs ls hR2 G hl)
  · refine lv_tableIn (tgt := 1822) (off := 1782) hx hb dL_law__40 (by omega) (by omega) (by rw [e]; rfl) (by decide) ?_
    obtain ⟨cd2, hc, hR2⟩ := lwp_27 (n := 1200) (xs := xs) hR (by decide) hxL
    exact law_27 hlt (Nat.le_refl _) F hX hbl hbA (by omega) (by omega) (cd := (c, d)) hc G hl (fun H locs ls G hl => J cd2.1 cd2.2 H locs ls hR2 G hl)
  · refine lv_tableIn (tgt := 1878) (off := 1838) hx hb dL_law__40 (by omega) (by omega) (by rw [e]; rfl) (by decide) ?_
    obtain ⟨cd2, hc, hR2⟩ := lwp_28 (n := 1200) (xs := xs) hR (by decide) hxL
    exact law_28 hlt (Nat.le_refl _) F hX hbl hbA (by omega) (by omega) (cd := (c, d)) hc G hl (fun H locs ls G hl => J cd2.1 cd2.2 H locs ls hR2 G hl)
  · refine lv_tableIn (tgt := 1934) (off := 1894) hx hb dL_law__40 (by omega) (by omega) (by rw [e]; rfl) (by decide) ?_
    obtain ⟨cd2, hc, hR2⟩ := lwp_29 (n := 1200) (xs := xs) hR (by decide) hxL
    exact law_29 hlt (Nat.le_refl _) F hX hbl hbA (by omega) (by omega) (cd := (c, d)) hc G hl (fun H locs ls G hl => J cd2.1 cd2.2 H locs ls hR2 G hl)
  · refine lv_tableIn (tgt := 2002) (off := 1962) hx hb dL_law__40 (by omega) (by omega) (by rw [e]; rfl) (by decide) ?_
    obtain ⟨cd2, hc, hR2⟩ := lwp_30 (n := 1200) (xs := xs) hR (by decide) hxL
    exact law_30 hlt (Nat.le_refl _) F hX hbl hbA (by omega) (by omega) (cd := (c, d)) hc G hl (fun H locs ls G hl => J cd2.1 cd2.2 H locs ls hR2 G hl)
  · refine lv_tableIn (tgt := 2094) (off := 2054) hx hb dL_law__40 (by omega) (by omega) (by rw [e]; rfl) (by decide) ?_
    obtain ⟨cd2, hc, hR2⟩ := lwp_31 (n := 1200) (xs := xs) hR (by decide) hxL
    exact law_31 hlt (Nat.le_refl _) F hX hbl hbA (by omega) (by omega) (cd := (c, d)) hc G hl (fun H locs ls G hl => J cd2.1 cd2.2 H locs ls hR2 G hl)
  · refine lv_tableIn (tgt := 2212) (off := 2172) hx hb dL_law__40 (by omega) (by omega) (by rw [e]; rfl) (by decide) ?_
    obtain ⟨cd2, hc, hR2⟩ := lwp_32 (n := 1200) (xs := xs) hR (by decide) hxL
    exact law_32 hlt (Nat.le_refl _) F hX hbl hbA (by omega) (by omega) (cd := (c, d)) hc G hl (fun H locs ls G hl => J cd2.1 cd2.2 H locs ls hR2 G hl)
  · refine lv_tableIn (tgt := 2225) (off := 2185) hx hb dL_law__40 (by omega) (by omega) (by rw [e]; rfl) (by decide) ?_
    obtain ⟨cd2, hc, hR2⟩ := lwp_33 (n := 1200) (xs := xs) hR (by decide) hxL
    exact law_33 hlt (Nat.le_refl _) F hX hbl hbA (by omega) (by omega) (cd := (c, d)) hc G hl (fun H locs ls G hl => J cd2.1 cd2.2 H locs ls hR2 G hl)
  · refine lv_tableIn (tgt := 2238) (off := 2198) hx hb dL_law__40 (by omega) (by omega) (by rw [e]; rfl) (by decide) ?_
    obtain ⟨cd2, hc, hR2⟩ := lwp_34 (n := 1200) (xs := xs) hR (by decide) hxL
    exact law_34 hlt (Nat.le_refl _) F hX hbl hbA (by omega) (by omega) (cd := (c, d)) hc G hl (fun H locs ls G hl => J cd2.1 cd2.2 H locs ls hR2 G hl)
  · refine lv_tableIn (tgt := 2263) (off := 2223) hx hb dL_law__40 (by omega) (by omega) (by rw [e]; rfl) (by decide) ?_
    obtain ⟨cd2, hc, hR2⟩ := lwp_35 (n := 1200) (xs := xs) hR (by decide) hxL
    exact law_35 hlt (Nat.le_refl _) F hX hbl hbA (by omega) (by omega) (cd := (c, d)) hc G hl (fun H locs ls G hl => J cd2.1 cd2.2 H locs ls hR2 G hl)
theorem lw_loop {p : Program} {l : Launch} {e : Env} {s : State} {m : MethodId} {below : List Frame} {meth : Method} {cod : Code} {sa : gSa} {D : va_G} {ad : Nat → Nat} {cy : Nat → ClassId} (hlt : l.stackTraces = false) {b L : Nat} {xs : Nat → Int32} (F : gF sa D ad cy 531 (fun q => s.heap.size ≤ q) p s m #[Value.ref b] cod cL_law_ 8 wsL_law_ RL) (hr : meth.sig.returnType = ret) (hlocks : meth.locks = false) (hX : va_X b L xs s s.heap) (hbl : b < s.heap.size) (hL : L ≤ 512) : ∀ (k a kc ks : Nat) (c d : gm) (H : Heap) (locs : List Loc) (ls : Array Slot), L < a + 8 * k + 8 → a ≤ 520 → kc + k ≤ 600128 → ks + 6 * k ≤ 7301098 → gRel c d → gW D ad cy 531 (fun q => s.heap.size ≤ q) s.heap c d H locs → lv_has ls 8 [(0, .ref b), (1, .ref (ad 0)), (2, .ref (ad 55)), (3, .ref (ad 530)), (4, .int (nI a))] → W p l e room_1 s m #[Value.ref b] below meth cod H locs kc ks (lw_Z below #[Value.ref b] s) (F0 m 23 ls []) := by
  intro k
  induction k with
  | zero =>
    intro a kc ks c d H locs ls h1 h2 h3 h4 hR G hl
    exact lw_head hlt F hr hlocks hX hbl hL (by omega) (by omega) (by omega) hR G hl (fun h => by omega)
  | succ k ih =>
    intro a kc ks c d H locs ls h1 h2 h3 h4 hR G hl
    exact lw_head hlt F hr hlocks hX hbl hL (by omega) (by omega) (by omega) hR G hl (fun h => ⟨by omega, by omega, fun c d H locs ls hR G hl => ih (a + 8) (kc + 1) (ks + 6) c d H locs ls (by omega) (by omega) (by omega) (by omega) hR G hl⟩)
