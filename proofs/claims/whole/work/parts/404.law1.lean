def m_law_18 (n : Nat) (xs : Nat → Int32) (L : Nat) (i : Int32) (cd : gm × gm) : Option (gm × gm) :=
  gc (0 ≤ (i + 1).toInt ∧ (i + 1).toInt < (L : Nat)) (gb2 (m_L_fewest n 0 (xs (i + 1).toNatClampNeg) 530 cd.1) (fun (r3 : Int32) (c4 : gm) => gv ((c4, cd.2) : gm × gm) (fun (cd5 : gm × gm) => gc (0 ≤ (i + 1).toInt ∧ (i + 1).toInt < (L : Nat)) (gb2 (m_X10_fewest n 55 (xs (i + 1).toNatClampNeg) cd5.2) (fun (r8 : Int32) (c9 : gm) => gv ((cd5.1, c9) : gm × gm) (fun (cd10 : gm × gm) => gb (m_X10_thrown 55 cd10.2) (fun (r12 : Int32) => (if r12 = r3 then (if r3 = 0 then (if (lg_cmp (cd10.1.2.1 530 (0 : Int32).toNatClampNeg) (Int32.toInt64 r8)) = 0 then some cd10 else none) else some cd10) else none))))))))
set_option maxHeartbeats 4000000 in
set_option maxRecDepth 100000 in
theorem law_18 {p : Program} {l : Launch} {e : Env} {s : State} {m : MethodId} {below : List Frame} {meth : Method} {cod : Code} {H : Heap} {locs : List Loc} {Q : State → Prop} {sa : gSa} {D : va_G} {A : Nat → Prop} {ad : Nat → Nat} {cy : Nat → ClassId} {N : Nat} (hlt : l.stackTraces = false) (hN : 531 ≤ N) {b L n kc ks : Nat} {xs : Nat → Int32} {ls : Array Slot} {i : Int32} {cd cd2 : gm × gm} (F : gF sa D ad cy N A p s m #[Value.ref b] cod cL_law_ 8 wsL_law_ RL) (hX : va_X b L xs s s.heap) (hbl : b < s.heap.size) (hbA : ¬ A b) (hkc : kc + 1 ≤ 600128) (hks : ks + 6 ≤ 7301098) (h : m_law_18 n xs L i cd = some cd2) (G : gW D ad cy N A s.heap cd.1 cd.2 H locs) (hl : lv_has ls 8 [(0, .ref b), (1, .ref (ad 0)), (2, .ref (ad 55)), (3, .ref (ad 530)), (4, .int i)]) (J : ∀ (H : Heap) (locs : List Loc) (ls : Array Slot), gW D ad cy N A s.heap cd2.1 cd2.2 H locs → lv_has ls 8 [(0, .ref b), (1, .ref (ad 0)), (2, .ref (ad 55)), (3, .ref (ad 530)), (4, .int i)] → W p l e room_1 s m #[Value.ref b] below meth cod H locs (kc + 1) (ks + 6) Q (F0 m 2288 ls [])) : W p l e room_1 s m #[Value.ref b] below meth cod H locs kc ks Q (F0 m 1235 ls []) := by
  obtain ⟨hx, hb, hml, hown, hts, hK, hI, hA, hZ, hZZ⟩ := id F
  have hk0 : gck 0 = 9 := rfl
  have hk55 : gck 55 = 10 := rfl
  have hk530 : gck 530 = 26 := rfl
  have hn530 : gal 530 = 1 := rfl
  have ht0 : 0 < N := Nat.lt_of_lt_of_le (by decide) hN
  have ht55 : 55 < N := Nat.lt_of_lt_of_le (by decide) hN
  have ht530 : 530 < N := Nat.lt_of_lt_of_le (by decide) hN
  unfold m_law_18 at h
  refine lv_aload_n hx hb dL_law__1235 rfl (lv_at hl 1 rfl) ?_
  refine lv_aload_n hx hb dL_law__1236 rfl (lv_at hl 0 rfl) ?_
  refine lv_iload hx hb dL_law__1237 (lv_at hl 4 rfl) ?_
  refine lv_iconst (v := 1) hx hb dL_law__1239 (by decide) ?_
  refine lv_iadd hx hb dL_law__1240 ?_
  obtain ⟨hi1, h⟩ := gc_s h
  refine va_sld hx hb hX hbl hbA G.2 (gin hi1) dL_law__1241 ?_
  refine lv_aload_n hx hb dL_law__1242 rfl (lv_at hl 3 rfl) ?_
  obtain ⟨r3, c4, hc2, h⟩ := gb2_s h
  refine gx_calliX F G (vx_runSW (As := [.ref (ad 0), .int (xs (i + 1).toNatClampNeg), .ref (ad 530)]) (rest := []) (gx_fix F) (c_L_fewest l hlt sa D ad cy N H.size hN hI cd.1 cd.2 hc2) (vx_cwSW 3 hts gL_law__L_fewest rfl rfl rfl (by decide +kernel) ⟨by decide, by decide⟩) (gx_pre F G) rfl rfl hl.1 rfl (lv_room (Nat.le_of_ble_eq_true rfl)) dL_law__1243 ⟨by show kc + 1 ≤ 600128; omega, by show ks + 6 ≤ 7301098; omega⟩) (fun H locs G => ?_)
  obtain ⟨cd5, ecd5⟩ : ∃ z : gm × gm, z = (c4, cd.2) := ⟨_, rfl⟩
  replace G : gW D ad cy N A s.heap cd5.1 cd5.2 H locs := by rw [ecd5]; exact G
  replace h := gv_s h cd5 ecd5
  refine lv_istore (lv' := [(5, .int r3), (0, .ref b), (1, .ref (ad 0)), (2, .ref (ad 55)), (3, .ref (ad 530)), (4, .int i)]) hx hb dL_law__1246 hl (by decide) rfl (fun ls hl => ?_)
  refine lv_aload_n hx hb dL_law__1248 rfl (lv_at hl 3 rfl) ?_
  refine lv_aload_n hx hb dL_law__1249 rfl (lv_at hl 1 rfl) ?_
  refine lv_iload hx hb dL_law__1250 (lv_at hl 5 rfl) ?_
  refine lv_iconst (v := 1) hx hb dL_law__1252 (by decide) ?_
  refine lv_iadd hx hb dL_law__1253 ?_
  obtain ⟨hi6, h⟩ := gc_s h
  refine va_sld hx hb hX hbl hbA G.2 (gin hi6) dL_law__1254 ?_
  obtain ⟨r8, c9, hc7, h⟩ := gb2_s h
  refine gx_calli F G (va_runV (As := [.int (xs (i + 1).toNatClampNeg)]) (rest := []) (gx_fix F) (c_X10_fewest l sa D ad cy N H.size (Nat.le_trans (by decide) hN) hI cd5.1 cd5.2 hc7) (cwV 1 hts gL_law__X10_fewest rfl rfl rfl (by decide +kernel) ⟨by decide, by decide⟩) (gx_rec F G ht55 (gwe_10 hk55) rfl) rfl rfl hl.1 rfl (lv_room (Nat.le_of_ble_eq_true rfl)) dL_law__1255 ⟨by show kc + 1 + 0 ≤ 600128; omega, by show ks + 6 + 0 ≤ 7301098; omega⟩) (fun H locs G => ?_)
  obtain ⟨cd10, ecd10⟩ : ∃ z : gm × gm, z = (cd5.1, c9) := ⟨_, rfl⟩
  replace G : gW D ad cy N A s.heap cd10.1 cd10.2 H locs := by rw [ecd10]; exact G
  replace h := gv_s h cd10 ecd10
  refine lv_istore (lv' := [(6, .int r8), (5, .int r3), (0, .ref b), (1, .ref (ad 0)), (2, .ref (ad 55)), (3, .ref (ad 530)), (4, .int i)]) hx hb dL_law__1258 hl (by decide) rfl (fun ls hl => ?_)
  refine lv_aload_n hx hb dL_law__1260 rfl (lv_at hl 4 rfl) ?_
  obtain ⟨r12, hc11, h⟩ := gb_s h
  refine gx_calli F G (va_runV (As := []) (rest := []) (gx_fix F) (c_X10_thrown l sa D ad cy N H.size (Nat.le_trans (by decide) hN) hI cd10.1 cd10.2 hc11) (cwV 0 hts gL_law__X10_thrown rfl rfl rfl (by decide +kernel) ⟨by decide, by decide⟩) (gx_rec F G ht55 (gwe_10 hk55) rfl) rfl rfl hl.1 rfl (lv_room (Nat.le_of_ble_eq_true rfl)) dL_law__1261 ⟨by show kc + 1 + 0 ≤ 600128; omega, by show ks + 6 + 0 ≤ 7301098; omega⟩) (fun H locs G => ?_)
  refine lv_iload hx hb dL_law__1264 (lv_at hl 1 rfl) ?_
  refine lv_icmp_eq (tgt := 1271) hx hb dL_law__1266 (by decide) (fun q13 => ?_) (fun q13 => ?_)
  · replace h := gt_s q13 h
    refine lv_iload hx hb dL_law__1271 (lv_at hl 1 rfl) ?_
    refine lv_if_ne (tgt := 1288) hx hb dL_law__1273 (by decide) (fun q14 => ?_) (fun q14 => ?_)
    · replace h := gf_s q14 h
      refine lv_goto (tgt := 2288) hx hb dL_law__1288 (by decide) ?_
      cases h
      exact J _ _ _ G (lv_sub hl [2, 3, 4, 5, 6] rfl)
    · replace h := gt_s q14 h
      refine lv_aload_n hx hb dL_law__1276 rfl (lv_at hl 5 rfl) ?_
      refine lv_iconst (v := 0) hx hb dL_law__1277 (by decide) ?_
      refine gx_la F G hk530 ht530 hn530 (by decide) dL_law__1278 ?_
      refine lv_iload hx hb dL_law__1279 (lv_at hl 0 rfl) ?_
      refine lv_i2l hx hb dL_law__1281 rfl ?_
      refine W.lcmp hx hb dL_law__1282 ?_
      refine lv_if_eq (tgt := 1288) hx hb dL_law__1283 (by decide) (fun q15 => ?_) (fun q15 => ?_)
      · replace h := gt_s q15 h
        refine lv_goto (tgt := 2288) hx hb dL_law__1288 (by decide) ?_
        cases h
        exact J _ _ _ G (lv_sub hl [2, 3, 4, 5, 6] rfl)
      · replace h := gf_s q15 h
        refine lv_iconst (v := 0) hx hb dL_law__1286 (by decide) ?_
        cases h
  · replace h := gf_s q13 h
    refine lv_iconst (v := 0) hx hb dL_law__1269 (by decide) ?_
    cases h
def m_law_19 (n : Nat) (xs : Nat → Int32) (L : Nat) (i : Int32) (cd : gm × gm) : Option (gm × gm) :=
  gc (0 ≤ (i + 1).toInt ∧ (i + 1).toInt < (L : Nat)) (gc (0 ≤ (i + 2).toInt ∧ (i + 2).toInt < (L : Nat)) (gb2 (m_L_level n 0 (xs (i + 1).toNatClampNeg) (xs (i + 2).toNatClampNeg) 530 cd.1) (fun (r4 : Int32) (c5 : gm) => gv ((c5, cd.2) : gm × gm) (fun (cd6 : gm × gm) => gc (0 ≤ (i + 1).toInt ∧ (i + 1).toInt < (L : Nat)) (gc (0 ≤ (i + 2).toInt ∧ (i + 2).toInt < (L : Nat)) (gb2 (m_X10_level n 55 (xs (i + 1).toNatClampNeg) (xs (i + 2).toNatClampNeg) cd6.2) (fun (r10 : Int32) (c11 : gm) => gv ((cd6.1, c11) : gm × gm) (fun (cd12 : gm × gm) => gb (m_X10_thrown 55 cd12.2) (fun (r14 : Int32) => (if r14 = r4 then (if r4 = 0 then (if (lg_cmp (cd12.1.2.1 530 (0 : Int32).toNatClampNeg) (Int32.toInt64 r10)) = 0 then some cd12 else none) else some cd12) else none))))))))))
set_option maxHeartbeats 4000000 in
set_option maxRecDepth 100000 in
theorem law_19 {p : Program} {l : Launch} {e : Env} {s : State} {m : MethodId} {below : List Frame} {meth : Method} {cod : Code} {H : Heap} {locs : List Loc} {Q : State → Prop} {sa : gSa} {D : va_G} {A : Nat → Prop} {ad : Nat → Nat} {cy : Nat → ClassId} {N : Nat} (hlt : l.stackTraces = false) (hN : 531 ≤ N) {b L n kc ks : Nat} {xs : Nat → Int32} {ls : Array Slot} {i : Int32} {cd cd2 : gm × gm} (F : gF sa D ad cy N A p s m #[Value.ref b] cod cL_law_ 8 wsL_law_ RL) (hX : va_X b L xs s s.heap) (hbl : b < s.heap.size) (hbA : ¬ A b) (hkc : kc + 1 ≤ 600128) (hks : ks + 6 ≤ 7301098) (h : m_law_19 n xs L i cd = some cd2) (G : gW D ad cy N A s.heap cd.1 cd.2 H locs) (hl : lv_has ls 8 [(0, .ref b), (1, .ref (ad 0)), (2, .ref (ad 55)), (3, .ref (ad 530)), (4, .int i)]) (J : ∀ (H : Heap) (locs : List Loc) (ls : Array Slot), gW D ad cy N A s.heap cd2.1 cd2.2 H locs → lv_has ls 8 [(0, .ref b), (1, .ref (ad 0)), (2, .ref (ad 55)), (3, .ref (ad 530)), (4, .int i)] → W p l e room_1 s m #[Value.ref b] below meth cod H locs (kc + 1) (ks + 6) Q (F0 m 2288 ls [])) : W p l e room_1 s m #[Value.ref b] below meth cod H locs kc ks Q (F0 m 1291 ls []) := by
  obtain ⟨hx, hb, hml, hown, hts, hK, hI, hA, hZ, hZZ⟩ := id F
  have hk0 : gck 0 = 9 := rfl
  have hk55 : gck 55 = 10 := rfl
  have hk530 : gck 530 = 26 := rfl
  have hn530 : gal 530 = 1 := rfl
  have ht0 : 0 < N := Nat.lt_of_lt_of_le (by decide) hN
  have ht55 : 55 < N := Nat.lt_of_lt_of_le (by decide) hN
  have ht530 : 530 < N := Nat.lt_of_lt_of_le (by decide) hN
  unfold m_law_19 at h
  refine lv_aload_n hx hb dL_law__1291 rfl (lv_at hl 1 rfl) ?_
  refine lv_aload_n hx hb dL_law__1292 rfl (lv_at hl 0 rfl) ?_
  refine lv_iload hx hb dL_law__1293 (lv_at hl 4 rfl) ?_
  refine lv_iconst (v := 1) hx hb dL_law__1295 (by decide) ?_
  refine lv_iadd hx hb dL_law__1296 ?_
  obtain ⟨hi1, h⟩ := gc_s h
  refine va_sld hx hb hX hbl hbA G.2 (gin hi1) dL_law__1297 ?_
  refine lv_aload_n hx hb dL_law__1298 rfl (lv_at hl 0 rfl) ?_
  refine lv_iload hx hb dL_law__1299 (lv_at hl 4 rfl) ?_
  refine lv_iconst (v := 2) hx hb dL_law__1301 (by decide) ?_
  refine lv_iadd hx hb dL_law__1302 ?_
  obtain ⟨hi2, h⟩ := gc_s h
  refine va_sld hx hb hX hbl hbA G.2 (gin hi2) dL_law__1303 ?_
  refine lv_aload_n hx hb dL_law__1304 rfl (lv_at hl 3 rfl) ?_
  obtain ⟨r4, c5, hc3, h⟩ := gb2_s h
  refine gx_calliX F G (vx_runSW (As := [.ref (ad 0), .int (xs (i + 1).toNatClampNeg), .int (xs (i + 2).toNatClampNeg), .ref (ad 530)]) (rest := []) (gx_fix F) (c_L_level l hlt sa D ad cy N H.size hN hI cd.1 cd.2 hc3) (vx_cwSW 4 hts gL_law__L_level rfl rfl rfl (by decide +kernel) ⟨by decide, by decide⟩) (gx_pre F G) rfl rfl hl.1 rfl (lv_room (Nat.le_of_ble_eq_true rfl)) dL_law__1305 ⟨by show kc + 1 ≤ 600128; omega, by show ks + 6 ≤ 7301098; omega⟩) (fun H locs G => ?_)
  obtain ⟨cd6, ecd6⟩ : ∃ z : gm × gm, z = (c5, cd.2) := ⟨_, rfl⟩
  replace G : gW D ad cy N A s.heap cd6.1 cd6.2 H locs := by rw [ecd6]; exact G
  replace h := gv_s h cd6 ecd6
  refine lv_istore (lv' := [(5, .int r4), (0, .ref b), (1, .ref (ad 0)), (2, .ref (ad 55)), (3, .ref (ad 530)), (4, .int i)]) hx hb dL_law__1308 hl (by decide) rfl (fun ls hl => ?_)
  refine lv_aload_n hx hb dL_law__1310 rfl (lv_at hl 3 rfl) ?_
  refine lv_aload_n hx hb dL_law__1311 rfl (lv_at hl 1 rfl) ?_
  refine lv_iload hx hb dL_law__1312 (lv_at hl 5 rfl) ?_
  refine lv_iconst (v := 1) hx hb dL_law__1314 (by decide) ?_
  refine lv_iadd hx hb dL_law__1315 ?_
  obtain ⟨hi7, h⟩ := gc_s h
  refine va_sld hx hb hX hbl hbA G.2 (gin hi7) dL_law__1316 ?_
  refine lv_aload_n hx hb dL_law__1317 rfl (lv_at hl 1 rfl) ?_
  refine lv_iload hx hb dL_law__1318 (lv_at hl 5 rfl) ?_
  refine lv_iconst (v := 2) hx hb dL_law__1320 (by decide) ?_
  refine lv_iadd hx hb dL_law__1321 ?_
  obtain ⟨hi8, h⟩ := gc_s h
  refine va_sld hx hb hX hbl hbA G.2 (gin hi8) dL_law__1322 ?_
  obtain ⟨r10, c11, hc9, h⟩ := gb2_s h
  refine gx_calli F G (va_runV (As := [.int (xs (i + 1).toNatClampNeg), .int (xs (i + 2).toNatClampNeg)]) (rest := []) (gx_fix F) (c_X10_level l sa D ad cy N H.size (Nat.le_trans (by decide) hN) hI cd6.1 cd6.2 hc9) (cwV 2 hts gL_law__X10_level rfl rfl rfl (by decide +kernel) ⟨by decide, by decide⟩) (gx_rec F G ht55 (gwe_10 hk55) rfl) rfl rfl hl.1 rfl (lv_room (Nat.le_of_ble_eq_true rfl)) dL_law__1323 ⟨by show kc + 1 + 0 ≤ 600128; omega, by show ks + 6 + 0 ≤ 7301098; omega⟩) (fun H locs G => ?_)
  obtain ⟨cd12, ecd12⟩ : ∃ z : gm × gm, z = (cd6.1, c11) := ⟨_, rfl⟩
  replace G : gW D ad cy N A s.heap cd12.1 cd12.2 H locs := by rw [ecd12]; exact G
  replace h := gv_s h cd12 ecd12
  refine lv_istore (lv' := [(6, .int r10), (5, .int r4), (0, .ref b), (1, .ref (ad 0)), (2, .ref (ad 55)), (3, .ref (ad 530)), (4, .int i)]) hx hb dL_law__1326 hl (by decide) rfl (fun ls hl => ?_)
  refine lv_aload_n hx hb dL_law__1328 rfl (lv_at hl 4 rfl) ?_
  obtain ⟨r14, hc13, h⟩ := gb_s h
  refine gx_calli F G (va_runV (As := []) (rest := []) (gx_fix F) (c_X10_thrown l sa D ad cy N H.size (Nat.le_trans (by decide) hN) hI cd12.1 cd12.2 hc13) (cwV 0 hts gL_law__X10_thrown rfl rfl rfl (by decide +kernel) ⟨by decide, by decide⟩) (gx_rec F G ht55 (gwe_10 hk55) rfl) rfl rfl hl.1 rfl (lv_room (Nat.le_of_ble_eq_true rfl)) dL_law__1329 ⟨by show kc + 1 + 0 ≤ 600128; omega, by show ks + 6 + 0 ≤ 7301098; omega⟩) (fun H locs G => ?_)
  refine lv_iload hx hb dL_law__1332 (lv_at hl 1 rfl) ?_
  refine lv_icmp_eq (tgt := 1339) hx hb dL_law__1334 (by decide) (fun q15 => ?_) (fun q15 => ?_)
  · replace h := gt_s q15 h
    refine lv_iload hx hb dL_law__1339 (lv_at hl 1 rfl) ?_
    refine lv_if_ne (tgt := 1356) hx hb dL_law__1341 (by decide) (fun q16 => ?_) (fun q16 => ?_)
    · replace h := gf_s q16 h
      refine lv_goto (tgt := 2288) hx hb dL_law__1356 (by decide) ?_
      cases h
      exact J _ _ _ G (lv_sub hl [2, 3, 4, 5, 6] rfl)
    · replace h := gt_s q16 h
      refine lv_aload_n hx hb dL_law__1344 rfl (lv_at hl 5 rfl) ?_
      refine lv_iconst (v := 0) hx hb dL_law__1345 (by decide) ?_
      refine gx_la F G hk530 ht530 hn530 (by decide) dL_law__1346 ?_
      refine lv_iload hx hb dL_law__1347 (lv_at hl 0 rfl) ?_
      refine lv_i2l hx hb dL_law__1349 rfl ?_
      refine W.lcmp hx hb dL_law__1350 ?_
      refine lv_if_eq (tgt := 1356) hx hb dL_law__1351 (by decide) (fun q17 => ?_) (fun q17 => ?_)
      · replace h := gt_s q17 h
        refine lv_goto (tgt := 2288) hx hb dL_law__1356 (by decide) ?_
        cases h
        exact J _ _ _ G (lv_sub hl [2, 3, 4, 5, 6] rfl)
      · replace h := gf_s q17 h
        refine lv_iconst (v := 0) hx hb dL_law__1354 (by decide) ?_
        cases h
  · replace h := gf_s q15 h
    refine lv_iconst (v := 0) hx hb dL_law__1337 (by decide) ?_
    cases h
def m_law_20 (n : Nat) (xs : Nat → Int32) (L : Nat) (i : Int32) (cd : gm × gm) : Option (gm × gm) :=
  gc (0 ≤ (i + 1).toInt ∧ (i + 1).toInt < (L : Nat)) (gb2 (m_L_fits n 0 (xs (i + 1).toNatClampNeg) 530 cd.1) (fun (r3 : Int32) (c4 : gm) => gv ((c4, cd.2) : gm × gm) (fun (cd5 : gm × gm) => gc (0 ≤ (i + 1).toInt ∧ (i + 1).toInt < (L : Nat)) (gb2 (m_X10_fits n 55 (xs (i + 1).toNatClampNeg) cd5.2) (fun (r8 : Int32) (c9 : gm) => gv ((cd5.1, c9) : gm × gm) (fun (cd10 : gm × gm) => gb (m_X10_thrown 55 cd10.2) (fun (r12 : Int32) => (if r12 = r3 then (if r3 = 0 then (if (lg_cmp (cd10.1.2.1 530 (0 : Int32).toNatClampNeg) (Int32.toInt64 r8)) = 0 then some cd10 else none) else some cd10) else none))))))))
set_option maxHeartbeats 4000000 in
set_option maxRecDepth 100000 in
theorem law_20 {p : Program} {l : Launch} {e : Env} {s : State} {m : MethodId} {below : List Frame} {meth : Method} {cod : Code} {H : Heap} {locs : List Loc} {Q : State → Prop} {sa : gSa} {D : va_G} {A : Nat → Prop} {ad : Nat → Nat} {cy : Nat → ClassId} {N : Nat} (hlt : l.stackTraces = false) (hN : 531 ≤ N) {b L n kc ks : Nat} {xs : Nat → Int32} {ls : Array Slot} {i : Int32} {cd cd2 : gm × gm} (F : gF sa D ad cy N A p s m #[Value.ref b] cod cL_law_ 8 wsL_law_ RL) (hX : va_X b L xs s s.heap) (hbl : b < s.heap.size) (hbA : ¬ A b) (hkc : kc + 1 ≤ 600128) (hks : ks + 6 ≤ 7301098) (h : m_law_20 n xs L i cd = some cd2) (G : gW D ad cy N A s.heap cd.1 cd.2 H locs) (hl : lv_has ls 8 [(0, .ref b), (1, .ref (ad 0)), (2, .ref (ad 55)), (3, .ref (ad 530)), (4, .int i)]) (J : ∀ (H : Heap) (locs : List Loc) (ls : Array Slot), gW D ad cy N A s.heap cd2.1 cd2.2 H locs → lv_has ls 8 [(0, .ref b), (1, .ref (ad 0)), (2, .ref (ad 55)), (3, .ref (ad 530)), (4, .int i)] → W p l e room_1 s m #[Value.ref b] below meth cod H locs (kc + 1) (ks + 6) Q (F0 m 2288 ls [])) : W p l e room_1 s m #[Value.ref b] below meth cod H locs kc ks Q (F0 m 1359 ls []) := by
  obtain ⟨hx, hb, hml, hown, hts, hK, hI, hA, hZ, hZZ⟩ := id F
  have hk0 : gck 0 = 9 := rfl
  have hk55 : gck 55 = 10 := rfl
  have hk530 : gck 530 = 26 := rfl
  have hn530 : gal 530 = 1 := rfl
  have ht0 : 0 < N := Nat.lt_of_lt_of_le (by decide) hN
  have ht55 : 55 < N := Nat.lt_of_lt_of_le (by decide) hN
  have ht530 : 530 < N := Nat.lt_of_lt_of_le (by decide) hN
  unfold m_law_20 at h
  refine lv_aload_n hx hb dL_law__1359 rfl (lv_at hl 1 rfl) ?_
  refine lv_aload_n hx hb dL_law__1360 rfl (lv_at hl 0 rfl) ?_
  refine lv_iload hx hb dL_law__1361 (lv_at hl 4 rfl) ?_
  refine lv_iconst (v := 1) hx hb dL_law__1363 (by decide) ?_
  refine lv_iadd hx hb dL_law__1364 ?_
  obtain ⟨hi1, h⟩ := gc_s h
  refine va_sld hx hb hX hbl hbA G.2 (gin hi1) dL_law__1365 ?_
  refine lv_aload_n hx hb dL_law__1366 rfl (lv_at hl 3 rfl) ?_
  obtain ⟨r3, c4, hc2, h⟩ := gb2_s h
  refine gx_calliX F G (vx_runSW (As := [.ref (ad 0), .int (xs (i + 1).toNatClampNeg), .ref (ad 530)]) (rest := []) (gx_fix F) (c_L_fits l hlt sa D ad cy N H.size hN hI cd.1 cd.2 hc2) (vx_cwSW 3 hts gL_law__L_fits rfl rfl rfl (by decide +kernel) ⟨by decide, by decide⟩) (gx_pre F G) rfl rfl hl.1 rfl (lv_room (Nat.le_of_ble_eq_true rfl)) dL_law__1367 ⟨by show kc + 1 ≤ 600128; omega, by show ks + 6 ≤ 7301098; omega⟩) (fun H locs G => ?_)
  obtain ⟨cd5, ecd5⟩ : ∃ z : gm × gm, z = (c4, cd.2) := ⟨_, rfl⟩
  replace G : gW D ad cy N A s.heap cd5.1 cd5.2 H locs := by rw [ecd5]; exact G
  replace h := gv_s h cd5 ecd5
  refine lv_istore (lv' := [(5, .int r3), (0, .ref b), (1, .ref (ad 0)), (2, .ref (ad 55)), (3, .ref (ad 530)), (4, .int i)]) hx hb dL_law__1370 hl (by decide) rfl (fun ls hl => ?_)
  refine lv_aload_n hx hb dL_law__1372 rfl (lv_at hl 3 rfl) ?_
  refine lv_aload_n hx hb dL_law__1373 rfl (lv_at hl 1 rfl) ?_
  refine lv_iload hx hb dL_law__1374 (lv_at hl 5 rfl) ?_
  refine lv_iconst (v := 1) hx hb dL_law__1376 (by decide) ?_
  refine lv_iadd hx hb dL_law__1377 ?_
  obtain ⟨hi6, h⟩ := gc_s h
  refine va_sld hx hb hX hbl hbA G.2 (gin hi6) dL_law__1378 ?_
  obtain ⟨r8, c9, hc7, h⟩ := gb2_s h
  refine gx_calli F G (va_runV (As := [.int (xs (i + 1).toNatClampNeg)]) (rest := []) (gx_fix F) (c_X10_fits l sa D ad cy N H.size (Nat.le_trans (by decide) hN) hI cd5.1 cd5.2 hc7) (cwV 1 hts gL_law__X10_fits rfl rfl rfl (by decide +kernel) ⟨by decide, by decide⟩) (gx_rec F G ht55 (gwe_10 hk55) rfl) rfl rfl hl.1 rfl (lv_room (Nat.le_of_ble_eq_true rfl)) dL_law__1379 ⟨by show kc + 1 + 0 ≤ 600128; omega, by show ks + 6 + 0 ≤ 7301098; omega⟩) (fun H locs G => ?_)
  obtain ⟨cd10, ecd10⟩ : ∃ z : gm × gm, z = (cd5.1, c9) := ⟨_, rfl⟩
  replace G : gW D ad cy N A s.heap cd10.1 cd10.2 H locs := by rw [ecd10]; exact G
  replace h := gv_s h cd10 ecd10
  refine lv_istore (lv' := [(6, .int r8), (5, .int r3), (0, .ref b), (1, .ref (ad 0)), (2, .ref (ad 55)), (3, .ref (ad 530)), (4, .int i)]) hx hb dL_law__1382 hl (by decide) rfl (fun ls hl => ?_)
  refine lv_aload_n hx hb dL_law__1384 rfl (lv_at hl 4 rfl) ?_
  obtain ⟨r12, hc11, h⟩ := gb_s h
  refine gx_calli F G (va_runV (As := []) (rest := []) (gx_fix F) (c_X10_thrown l sa D ad cy N H.size (Nat.le_trans (by decide) hN) hI cd10.1 cd10.2 hc11) (cwV 0 hts gL_law__X10_thrown rfl rfl rfl (by decide +kernel) ⟨by decide, by decide⟩) (gx_rec F G ht55 (gwe_10 hk55) rfl) rfl rfl hl.1 rfl (lv_room (Nat.le_of_ble_eq_true rfl)) dL_law__1385 ⟨by show kc + 1 + 0 ≤ 600128; omega, by show ks + 6 + 0 ≤ 7301098; omega⟩) (fun H locs G => ?_)
  refine lv_iload hx hb dL_law__1388 (lv_at hl 1 rfl) ?_
  refine lv_icmp_eq (tgt := 1395) hx hb dL_law__1390 (by decide) (fun q13 => ?_) (fun q13 => ?_)
  · replace h := gt_s q13 h
    refine lv_iload hx hb dL_law__1395 (lv_at hl 1 rfl) ?_
    refine lv_if_ne (tgt := 1412) hx hb dL_law__1397 (by decide) (fun q14 => ?_) (fun q14 => ?_)
    · replace h := gf_s q14 h
      refine lv_goto (tgt := 2288) hx hb dL_law__1412 (by decide) ?_
      cases h
      exact J _ _ _ G (lv_sub hl [2, 3, 4, 5, 6] rfl)
    · replace h := gt_s q14 h
      refine lv_aload_n hx hb dL_law__1400 rfl (lv_at hl 5 rfl) ?_
      refine lv_iconst (v := 0) hx hb dL_law__1401 (by decide) ?_
      refine gx_la F G hk530 ht530 hn530 (by decide) dL_law__1402 ?_
      refine lv_iload hx hb dL_law__1403 (lv_at hl 0 rfl) ?_
      refine lv_i2l hx hb dL_law__1405 rfl ?_
      refine W.lcmp hx hb dL_law__1406 ?_
      refine lv_if_eq (tgt := 1412) hx hb dL_law__1407 (by decide) (fun q15 => ?_) (fun q15 => ?_)
      · replace h := gt_s q15 h
        refine lv_goto (tgt := 2288) hx hb dL_law__1412 (by decide) ?_
        cases h
        exact J _ _ _ G (lv_sub hl [2, 3, 4, 5, 6] rfl)
      · replace h := gf_s q15 h
        refine lv_iconst (v := 0) hx hb dL_law__1410 (by decide) ?_
        cases h
  · replace h := gf_s q13 h
    refine lv_iconst (v := 0) hx hb dL_law__1393 (by decide) ?_
    cases h
def m_law_21 (n : Nat) (xs : Nat → Int32) (L : Nat) (i : Int32) (cd : gm × gm) : Option (gm × gm) :=
  gc (0 ≤ (i + 1).toInt ∧ (i + 1).toInt < (L : Nat)) (gb2 (m_L_look n 0 (xs (i + 1).toNatClampNeg) 530 cd.1) (fun (r3 : Int32) (c4 : gm) => gv ((c4, cd.2) : gm × gm) (fun (cd5 : gm × gm) => gc (0 ≤ (i + 1).toInt ∧ (i + 1).toInt < (L : Nat)) (gb2 (m_X10_look n 55 (xs (i + 1).toNatClampNeg) cd5.2) (fun (r8 : Int32) (c9 : gm) => gv ((cd5.1, c9) : gm × gm) (fun (cd10 : gm × gm) => gb (m_X10_thrown 55 cd10.2) (fun (r12 : Int32) => (if r12 = r3 then (if r3 = 0 then (if (lg_cmp (cd10.1.2.1 530 (0 : Int32).toNatClampNeg) (Int32.toInt64 r8)) = 0 then some cd10 else none) else some cd10) else none))))))))
set_option maxHeartbeats 4000000 in
set_option maxRecDepth 100000 in
theorem law_21 {p : Program} {l : Launch} {e : Env} {s : State} {m : MethodId} {below : List Frame} {meth : Method} {cod : Code} {H : Heap} {locs : List Loc} {Q : State → Prop} {sa : gSa} {D : va_G} {A : Nat → Prop} {ad : Nat → Nat} {cy : Nat → ClassId} {N : Nat} (hlt : l.stackTraces = false) (hN : 531 ≤ N) {b L n kc ks : Nat} {xs : Nat → Int32} {ls : Array Slot} {i : Int32} {cd cd2 : gm × gm} (F : gF sa D ad cy N A p s m #[Value.ref b] cod cL_law_ 8 wsL_law_ RL) (hX : va_X b L xs s s.heap) (hbl : b < s.heap.size) (hbA : ¬ A b) (hkc : kc + 1 ≤ 600128) (hks : ks + 6 ≤ 7301098) (h : m_law_21 n xs L i cd = some cd2) (G : gW D ad cy N A s.heap cd.1 cd.2 H locs) (hl : lv_has ls 8 [(0, .ref b), (1, .ref (ad 0)), (2, .ref (ad 55)), (3, .ref (ad 530)), (4, .int i)]) (J : ∀ (H : Heap) (locs : List Loc) (ls : Array Slot), gW D ad cy N A s.heap cd2.1 cd2.2 H locs → lv_has ls 8 [(0, .ref b), (1, .ref (ad 0)), (2, .ref (ad 55)), (3, .ref (ad 530)), (4, .int i)] → W p l e room_1 s m #[Value.ref b] below meth cod H locs (kc + 1) (ks + 6) Q (F0 m 2288 ls [])) : W p l e room_1 s m #[Value.ref b] below meth cod H locs kc ks Q (F0 m 1415 ls []) := by
  obtain ⟨hx, hb, hml, hown, hts, hK, hI, hA, hZ, hZZ⟩ := id F
  have hk0 : gck 0 = 9 := rfl
  have hk55 : gck 55 = 10 := rfl
  have hk530 : gck 530 = 26 := rfl
  have hn530 : gal 530 = 1 := rfl
  have ht0 : 0 < N := Nat.lt_of_lt_of_le (by decide) hN
  have ht55 : 55 < N := Nat.lt_of_lt_of_le (by decide) hN
  have ht530 : 530 < N := Nat.lt_of_lt_of_le (by decide) hN
  unfold m_law_21 at h
  refine lv_aload_n hx hb dL_law__1415 rfl (lv_at hl 1 rfl) ?_
  refine lv_aload_n hx hb dL_law__1416 rfl (lv_at hl 0 rfl) ?_
  refine lv_iload hx hb dL_law__1417 (lv_at hl 4 rfl) ?_
  refine lv_iconst (v := 1) hx hb dL_law__1419 (by decide) ?_
  refine lv_iadd hx hb dL_law__1420 ?_
  obtain ⟨hi1, h⟩ := gc_s h
  refine va_sld hx hb hX hbl hbA G.2 (gin hi1) dL_law__1421 ?_
  refine lv_aload_n hx hb dL_law__1422 rfl (lv_at hl 3 rfl) ?_
  obtain ⟨r3, c4, hc2, h⟩ := gb2_s h
  refine gx_calliX F G (vx_runSW (As := [.ref (ad 0), .int (xs (i + 1).toNatClampNeg), .ref (ad 530)]) (rest := []) (gx_fix F) (c_L_look l hlt sa D ad cy N H.size hN hI cd.1 cd.2 hc2) (vx_cwSW 3 hts gL_law__L_look rfl rfl rfl (by decide +kernel) ⟨by decide, by decide⟩) (gx_pre F G) rfl rfl hl.1 rfl (lv_room (Nat.le_of_ble_eq_true rfl)) dL_law__1423 ⟨by show kc + 1 ≤ 600128; omega, by show ks + 6 ≤ 7301098; omega⟩) (fun H locs G => ?_)
  obtain ⟨cd5, ecd5⟩ : ∃ z : gm × gm, z = (c4, cd.2) := ⟨_, rfl⟩
  replace G : gW D ad cy N A s.heap cd5.1 cd5.2 H locs := by rw [ecd5]; exact G
  replace h := gv_s h cd5 ecd5
  refine lv_istore (lv' := [(5, .int r3), (0, .ref b), (1, .ref (ad 0)), (2, .ref (ad 55)), (3, .ref (ad 530)), (4, .int i)]) hx hb dL_law__1426 hl (by decide) rfl (fun ls hl => ?_)
  refine lv_aload_n hx hb dL_law__1428 rfl (lv_at hl 3 rfl) ?_
  refine lv_aload_n hx hb dL_law__1429 rfl (lv_at hl 1 rfl) ?_
  refine lv_iload hx hb dL_law__1430 (lv_at hl 5 rfl) ?_
  refine lv_iconst (v := 1) hx hb dL_law__1432 (by decide) ?_
  refine lv_iadd hx hb dL_law__1433 ?_
  obtain ⟨hi6, h⟩ := gc_s h
  refine va_sld hx hb hX hbl hbA G.2 (gin hi6) dL_law__1434 ?_
  obtain ⟨r8, c9, hc7, h⟩ := gb2_s h
  refine gx_calli F G (va_runV (As := [.int (xs (i + 1).toNatClampNeg)]) (rest := []) (gx_fix F) (c_X10_look l sa D ad cy N H.size (Nat.le_trans (by decide) hN) hI cd5.1 cd5.2 hc7) (cwV 1 hts gL_law__X10_look rfl rfl rfl (by decide +kernel) ⟨by decide, by decide⟩) (gx_rec F G ht55 (gwe_10 hk55) rfl) rfl rfl hl.1 rfl (lv_room (Nat.le_of_ble_eq_true rfl)) dL_law__1435 ⟨by show kc + 1 + 0 ≤ 600128; omega, by show ks + 6 + 0 ≤ 7301098; omega⟩) (fun H locs G => ?_)
  obtain ⟨cd10, ecd10⟩ : ∃ z : gm × gm, z = (cd5.1, c9) := ⟨_, rfl⟩
  replace G : gW D ad cy N A s.heap cd10.1 cd10.2 H locs := by rw [ecd10]; exact G
  replace h := gv_s h cd10 ecd10
  refine lv_istore (lv' := [(6, .int r8), (5, .int r3), (0, .ref b), (1, .ref (ad 0)), (2, .ref (ad 55)), (3, .ref (ad 530)), (4, .int i)]) hx hb dL_law__1438 hl (by decide) rfl (fun ls hl => ?_)
  refine lv_aload_n hx hb dL_law__1440 rfl (lv_at hl 4 rfl) ?_
  obtain ⟨r12, hc11, h⟩ := gb_s h
  refine gx_calli F G (va_runV (As := []) (rest := []) (gx_fix F) (c_X10_thrown l sa D ad cy N H.size (Nat.le_trans (by decide) hN) hI cd10.1 cd10.2 hc11) (cwV 0 hts gL_law__X10_thrown rfl rfl rfl (by decide +kernel) ⟨by decide, by decide⟩) (gx_rec F G ht55 (gwe_10 hk55) rfl) rfl rfl hl.1 rfl (lv_room (Nat.le_of_ble_eq_true rfl)) dL_law__1441 ⟨by show kc + 1 + 0 ≤ 600128; omega, by show ks + 6 + 0 ≤ 7301098; omega⟩) (fun H locs G => ?_)
  refine lv_iload hx hb dL_law__1444 (lv_at hl 1 rfl) ?_
  refine lv_icmp_eq (tgt := 1451) hx hb dL_law__1446 (by decide) (fun q13 => ?_) (fun q13 => ?_)
  · replace h := gt_s q13 h
    refine lv_iload hx hb dL_law__1451 (lv_at hl 1 rfl) ?_
    refine lv_if_ne (tgt := 1468) hx hb dL_law__1453 (by decide) (fun q14 => ?_) (fun q14 => ?_)
    · replace h := gf_s q14 h
      refine lv_goto (tgt := 2288) hx hb dL_law__1468 (by decide) ?_
      cases h
      exact J _ _ _ G (lv_sub hl [2, 3, 4, 5, 6] rfl)
    · replace h := gt_s q14 h
      refine lv_aload_n hx hb dL_law__1456 rfl (lv_at hl 5 rfl) ?_
      refine lv_iconst (v := 0) hx hb dL_law__1457 (by decide) ?_
      refine gx_la F G hk530 ht530 hn530 (by decide) dL_law__1458 ?_
      refine lv_iload hx hb dL_law__1459 (lv_at hl 0 rfl) ?_
      refine lv_i2l hx hb dL_law__1461 rfl ?_
      refine W.lcmp hx hb dL_law__1462 ?_
      refine lv_if_eq (tgt := 1468) hx hb dL_law__1463 (by decide) (fun q15 => ?_) (fun q15 => ?_)
      · replace h := gt_s q15 h
        refine lv_goto (tgt := 2288) hx hb dL_law__1468 (by decide) ?_
        cases h
        exact J _ _ _ G (lv_sub hl [2, 3, 4, 5, 6] rfl)
      · replace h := gf_s q15 h
        refine lv_iconst (v := 0) hx hb dL_law__1466 (by decide) ?_
        cases h
  · replace h := gf_s q13 h
    refine lv_iconst (v := 0) hx hb dL_law__1449 (by decide) ?_
    cases h
def m_law_22 (n : Nat) (xs : Nat → Int32) (L : Nat) (i : Int32) (cd : gm × gm) : Option (gm × gm) :=
  gc (0 ≤ (i + 1).toInt ∧ (i + 1).toInt < (L : Nat)) (gb2 (m_L_falsely n 0 (xs (i + 1).toNatClampNeg) 530 cd.1) (fun (r3 : Int32) (c4 : gm) => gv ((c4, cd.2) : gm × gm) (fun (cd5 : gm × gm) => gc (0 ≤ (i + 1).toInt ∧ (i + 1).toInt < (L : Nat)) (gb2 (m_X10_falsely n 55 (xs (i + 1).toNatClampNeg) cd5.2) (fun (r8 : Int32) (c9 : gm) => gv ((cd5.1, c9) : gm × gm) (fun (cd10 : gm × gm) => gb (m_X10_thrown 55 cd10.2) (fun (r12 : Int32) => (if r12 = r3 then (if r3 = 0 then (if (lg_cmp (cd10.1.2.1 530 (0 : Int32).toNatClampNeg) (Int32.toInt64 r8)) = 0 then some cd10 else none) else some cd10) else none))))))))
set_option maxHeartbeats 4000000 in
set_option maxRecDepth 100000 in
theorem law_22 {p : Program} {l : Launch} {e : Env} {s : State} {m : MethodId} {below : List Frame} {meth : Method} {cod : Code} {H : Heap} {locs : List Loc} {Q : State → Prop} {sa : gSa} {D : va_G} {A : Nat → Prop} {ad : Nat → Nat} {cy : Nat → ClassId} {N : Nat} (hlt : l.stackTraces = false) (hN : 531 ≤ N) {b L n kc ks : Nat} {xs : Nat → Int32} {ls : Array Slot} {i : Int32} {cd cd2 : gm × gm} (F : gF sa D ad cy N A p s m #[Value.ref b] cod cL_law_ 8 wsL_law_ RL) (hX : va_X b L xs s s.heap) (hbl : b < s.heap.size) (hbA : ¬ A b) (hkc : kc + 1 ≤ 600128) (hks : ks + 6 ≤ 7301098) (h : m_law_22 n xs L i cd = some cd2) (G : gW D ad cy N A s.heap cd.1 cd.2 H locs) (hl : lv_has ls 8 [(0, .ref b), (1, .ref (ad 0)), (2, .ref (ad 55)), (3, .ref (ad 530)), (4, .int i)]) (J : ∀ (H : Heap) (locs : List Loc) (ls : Array Slot), gW D ad cy N A s.heap cd2.1 cd2.2 H locs → lv_has ls 8 [(0, .ref b), (1, .ref (ad 0)), (2, .ref (ad 55)), (3, .ref (ad 530)), (4, .int i)] → W p l e room_1 s m #[Value.ref b] below meth cod H locs (kc + 1) (ks + 6) Q (F0 m 2288 ls [])) : W p l e room_1 s m #[Value.ref b] below meth cod H locs kc ks Q (F0 m 1471 ls []) := by
  obtain ⟨hx, hb, hml, hown, hts, hK, hI, hA, hZ, hZZ⟩ := id F
  have hk0 : gck 0 = 9 := rfl
  have hk55 : gck 55 = 10 := rfl
  have hk530 : gck 530 = 26 := rfl
  have hn530 : gal 530 = 1 := rfl
  have ht0 : 0 < N := Nat.lt_of_lt_of_le (by decide) hN
  have ht55 : 55 < N := Nat.lt_of_lt_of_le (by decide) hN
  have ht530 : 530 < N := Nat.lt_of_lt_of_le (by decide) hN
  unfold m_law_22 at h
  refine lv_aload_n hx hb dL_law__1471 rfl (lv_at hl 1 rfl) ?_
  refine lv_aload_n hx hb dL_law__1472 rfl (lv_at hl 0 rfl) ?_
  refine lv_iload hx hb dL_law__1473 (lv_at hl 4 rfl) ?_
  refine lv_iconst (v := 1) hx hb dL_law__1475 (by decide) ?_
  refine lv_iadd hx hb dL_law__1476 ?_
  obtain ⟨hi1, h⟩ := gc_s h
  refine va_sld hx hb hX hbl hbA G.2 (gin hi1) dL_law__1477 ?_
  refine lv_aload_n hx hb dL_law__1478 rfl (lv_at hl 3 rfl) ?_
  obtain ⟨r3, c4, hc2, h⟩ := gb2_s h
  refine gx_calliX F G (vx_runSW (As := [.ref (ad 0), .int (xs (i + 1).toNatClampNeg), .ref (ad 530)]) (rest := []) (gx_fix F) (c_L_falsely l hlt sa D ad cy N H.size hN hI cd.1 cd.2 hc2) (vx_cwSW 3 hts gL_law__L_falsely rfl rfl rfl (by decide +kernel) ⟨by decide, by decide⟩) (gx_pre F G) rfl rfl hl.1 rfl (lv_room (Nat.le_of_ble_eq_true rfl)) dL_law__1479 ⟨by show kc + 1 ≤ 600128; omega, by show ks + 6 ≤ 7301098; omega⟩) (fun H locs G => ?_)
  obtain ⟨cd5, ecd5⟩ : ∃ z : gm × gm, z = (c4, cd.2) := ⟨_, rfl⟩
  replace G : gW D ad cy N A s.heap cd5.1 cd5.2 H locs := by rw [ecd5]; exact G
  replace h := gv_s h cd5 ecd5
  refine lv_istore (lv' := [(5, .int r3), (0, .ref b), (1, .ref (ad 0)), (2, .ref (ad 55)), (3, .ref (ad 530)), (4, .int i)]) hx hb dL_law__1482 hl (by decide) rfl (fun ls hl => ?_)
  refine lv_aload_n hx hb dL_law__1484 rfl (lv_at hl 3 rfl) ?_
  refine lv_aload_n hx hb dL_law__1485 rfl (lv_at hl 1 rfl) ?_
  refine lv_iload hx hb dL_law__1486 (lv_at hl 5 rfl) ?_
  refine lv_iconst (v := 1) hx hb dL_law__1488 (by decide) ?_
  refine lv_iadd hx hb dL_law__1489 ?_
  obtain ⟨hi6, h⟩ := gc_s h
  refine va_sld hx hb hX hbl hbA G.2 (gin hi6) dL_law__1490 ?_
  obtain ⟨r8, c9, hc7, h⟩ := gb2_s h
  refine gx_calli F G (va_runV (As := [.int (xs (i + 1).toNatClampNeg)]) (rest := []) (gx_fix F) (c_X10_falsely l sa D ad cy N H.size (Nat.le_trans (by decide) hN) hI cd5.1 cd5.2 hc7) (cwV 1 hts gL_law__X10_falsely rfl rfl rfl (by decide +kernel) ⟨by decide, by decide⟩) (gx_rec F G ht55 (gwe_10 hk55) rfl) rfl rfl hl.1 rfl (lv_room (Nat.le_of_ble_eq_true rfl)) dL_law__1491 ⟨by show kc + 1 + 0 ≤ 600128; omega, by show ks + 6 + 0 ≤ 7301098; omega⟩) (fun H locs G => ?_)
  obtain ⟨cd10, ecd10⟩ : ∃ z : gm × gm, z = (cd5.1, c9) := ⟨_, rfl⟩
  replace G : gW D ad cy N A s.heap cd10.1 cd10.2 H locs := by rw [ecd10]; exact G
  replace h := gv_s h cd10 ecd10
  refine lv_istore (lv' := [(6, .int r8), (5, .int r3), (0, .ref b), (1, .ref (ad 0)), (2, .ref (ad 55)), (3, .ref (ad 530)), (4, .int i)]) hx hb dL_law__1494 hl (by decide) rfl (fun ls hl => ?_)
  refine lv_aload_n hx hb dL_law__1496 rfl (lv_at hl 4 rfl) ?_
  obtain ⟨r12, hc11, h⟩ := gb_s h
  refine gx_calli F G (va_runV (As := []) (rest := []) (gx_fix F) (c_X10_thrown l sa D ad cy N H.size (Nat.le_trans (by decide) hN) hI cd10.1 cd10.2 hc11) (cwV 0 hts gL_law__X10_thrown rfl rfl rfl (by decide +kernel) ⟨by decide, by decide⟩) (gx_rec F G ht55 (gwe_10 hk55) rfl) rfl rfl hl.1 rfl (lv_room (Nat.le_of_ble_eq_true rfl)) dL_law__1497 ⟨by show kc + 1 + 0 ≤ 600128; omega, by show ks + 6 + 0 ≤ 7301098; omega⟩) (fun H locs G => ?_)
  refine lv_iload hx hb dL_law__1500 (lv_at hl 1 rfl) ?_
  refine lv_icmp_eq (tgt := 1507) hx hb dL_law__1502 (by decide) (fun q13 => ?_) (fun q13 => ?_)
  · replace h := gt_s q13 h
    refine lv_iload hx hb dL_law__1507 (lv_at hl 1 rfl) ?_
    refine lv_if_ne (tgt := 1524) hx hb dL_law__1509 (by decide) (fun q14 => ?_) (fun q14 => ?_)
    · replace h := gf_s q14 h
      refine lv_goto (tgt := 2288) hx hb dL_law__1524 (by decide) ?_
      cases h
      exact J _ _ _ G (lv_sub hl [2, 3, 4, 5, 6] rfl)
    · replace h := gt_s q14 h
      refine lv_aload_n hx hb dL_law__1512 rfl (lv_at hl 5 rfl) ?_
      refine lv_iconst (v := 0) hx hb dL_law__1513 (by decide) ?_
      refine gx_la F G hk530 ht530 hn530 (by decide) dL_law__1514 ?_
      refine lv_iload hx hb dL_law__1515 (lv_at hl 0 rfl) ?_
      refine lv_i2l hx hb dL_law__1517 rfl ?_
      refine W.lcmp hx hb dL_law__1518 ?_
      refine lv_if_eq (tgt := 1524) hx hb dL_law__1519 (by decide) (fun q15 => ?_) (fun q15 => ?_)
      · replace h := gt_s q15 h
        refine lv_goto (tgt := 2288) hx hb dL_law__1524 (by decide) ?_
        cases h
        exact J _ _ _ G (lv_sub hl [2, 3, 4, 5, 6] rfl)
      · replace h := gf_s q15 h
        refine lv_iconst (v := 0) hx hb dL_law__1522 (by decide) ?_
        cases h
  · replace h := gf_s q13 h
    refine lv_iconst (v := 0) hx hb dL_law__1505 (by decide) ?_
    cases h
def m_law_23 (n : Nat) (xs : Nat → Int32) (L : Nat) (i : Int32) (cd : gm × gm) : Option (gm × gm) :=
  gc (0 ≤ (i + 1).toInt ∧ (i + 1).toInt < (L : Nat)) (gc (0 ≤ (i + 2).toInt ∧ (i + 2).toInt < (L : Nat)) (gc (0 ≤ (i + 3).toInt ∧ (i + 3).toInt < (L : Nat)) (gb2 (m_L_sellers n 0 (xs (i + 1).toNatClampNeg) (xs (i + 2).toNatClampNeg) (xs (i + 3).toNatClampNeg) 530 cd.1) (fun (r5 : Int32) (c6 : gm) => gv ((c6, cd.2) : gm × gm) (fun (cd7 : gm × gm) => gc (0 ≤ (i + 1).toInt ∧ (i + 1).toInt < (L : Nat)) (gc (0 ≤ (i + 2).toInt ∧ (i + 2).toInt < (L : Nat)) (gc (0 ≤ (i + 3).toInt ∧ (i + 3).toInt < (L : Nat)) (gb2 (m_X10_sellers n 55 (xs (i + 1).toNatClampNeg) (xs (i + 2).toNatClampNeg) (xs (i + 3).toNatClampNeg) cd7.2) (fun (r12 : Int32) (c13 : gm) => gv ((cd7.1, c13) : gm × gm) (fun (cd14 : gm × gm) => gb (m_X10_thrown 55 cd14.2) (fun (r16 : Int32) => (if r16 = r5 then (if r5 = 0 then (if (lg_cmp (cd14.1.2.1 530 (0 : Int32).toNatClampNeg) (Int32.toInt64 r12)) = 0 then some cd14 else none) else some cd14) else none))))))))))))
set_option maxHeartbeats 4000000 in
set_option maxRecDepth 100000 in
theorem law_23 {p : Program} {l : Launch} {e : Env} {s : State} {m : MethodId} {below : List Frame} {meth : Method} {cod : Code} {H : Heap} {locs : List Loc} {Q : State → Prop} {sa : gSa} {D : va_G} {A : Nat → Prop} {ad : Nat → Nat} {cy : Nat → ClassId} {N : Nat} (hlt : l.stackTraces = false) (hN : 531 ≤ N) {b L n kc ks : Nat} {xs : Nat → Int32} {ls : Array Slot} {i : Int32} {cd cd2 : gm × gm} (F : gF sa D ad cy N A p s m #[Value.ref b] cod cL_law_ 8 wsL_law_ RL) (hX : va_X b L xs s s.heap) (hbl : b < s.heap.size) (hbA : ¬ A b) (hkc : kc + 1 ≤ 600128) (hks : ks + 6 ≤ 7301098) (h : m_law_23 n xs L i cd = some cd2) (G : gW D ad cy N A s.heap cd.1 cd.2 H locs) (hl : lv_has ls 8 [(0, .ref b), (1, .ref (ad 0)), (2, .ref (ad 55)), (3, .ref (ad 530)), (4, .int i)]) (J : ∀ (H : Heap) (locs : List Loc) (ls : Array Slot), gW D ad cy N A s.heap cd2.1 cd2.2 H locs → lv_has ls 8 [(0, .ref b), (1, .ref (ad 0)), (2, .ref (ad 55)), (3, .ref (ad 530)), (4, .int i)] → W p l e room_1 s m #[Value.ref b] below meth cod H locs (kc + 1) (ks + 6) Q (F0 m 2288 ls [])) : W p l e room_1 s m #[Value.ref b] below meth cod H locs kc ks Q (F0 m 1527 ls []) := by
  obtain ⟨hx, hb, hml, hown, hts, hK, hI, hA, hZ, hZZ⟩ := id F
  have hk0 : gck 0 = 9 := rfl
  have hk55 : gck 55 = 10 := rfl
  have hk530 : gck 530 = 26 := rfl
  have hn530 : gal 530 = 1 := rfl
  have ht0 : 0 < N := Nat.lt_of_lt_of_le (by decide) hN
  have ht55 : 55 < N := Nat.lt_of_lt_of_le (by decide) hN
  have ht530 : 530 < N := Nat.lt_of_lt_of_le (by decide) hN
  unfold m_law_23 at h
  refine lv_aload_n hx hb dL_law__1527 rfl (lv_at hl 1 rfl) ?_
  refine lv_aload_n hx hb dL_law__1528 rfl (lv_at hl 0 rfl) ?_
  refine lv_iload hx hb dL_law__1529 (lv_at hl 4 rfl) ?_
  refine lv_iconst (v := 1) hx hb dL_law__1531 (by decide) ?_
  refine lv_iadd hx hb dL_law__1532 ?_
  obtain ⟨hi1, h⟩ := gc_s h
  refine va_sld hx hb hX hbl hbA G.2 (gin hi1) dL_law__1533 ?_
  refine lv_aload_n hx hb dL_law__1534 rfl (lv_at hl 0 rfl) ?_
  refine lv_iload hx hb dL_law__1535 (lv_at hl 4 rfl) ?_
  refine lv_iconst (v := 2) hx hb dL_law__1537 (by decide) ?_
  refine lv_iadd hx hb dL_law__1538 ?_
  obtain ⟨hi2, h⟩ := gc_s h
  refine va_sld hx hb hX hbl hbA G.2 (gin hi2) dL_law__1539 ?_
  refine lv_aload_n hx hb dL_law__1540 rfl (lv_at hl 0 rfl) ?_
  refine lv_iload hx hb dL_law__1541 (lv_at hl 4 rfl) ?_
  refine lv_iconst (v := 3) hx hb dL_law__1543 (by decide) ?_
  refine lv_iadd hx hb dL_law__1544 ?_
  obtain ⟨hi3, h⟩ := gc_s h
  refine va_sld hx hb hX hbl hbA G.2 (gin hi3) dL_law__1545 ?_
  refine lv_aload_n hx hb dL_law__1546 rfl (lv_at hl 3 rfl) ?_
  obtain ⟨r5, c6, hc4, h⟩ := gb2_s h
  refine gx_calliX F G (vx_runSW (As := [.ref (ad 0), .int (xs (i + 1).toNatClampNeg), .int (xs (i + 2).toNatClampNeg), .int (xs (i + 3).toNatClampNeg), .ref (ad 530)]) (rest := []) (gx_fix F) (c_L_sellers l hlt sa D ad cy N H.size hN hI cd.1 cd.2 hc4) (vx_cwSW 5 hts gL_law__L_sellers rfl rfl rfl (by decide +kernel) ⟨by decide, by decide⟩) (gx_pre F G) rfl rfl hl.1 rfl (lv_room (Nat.le_of_ble_eq_true rfl)) dL_law__1547 ⟨by show kc + 1 ≤ 600128; omega, by show ks + 6 ≤ 7301098; omega⟩) (fun H locs G => ?_)
  obtain ⟨cd7, ecd7⟩ : ∃ z : gm × gm, z = (c6, cd.2) := ⟨_, rfl⟩
  replace G : gW D ad cy N A s.heap cd7.1 cd7.2 H locs := by rw [ecd7]; exact G
  replace h := gv_s h cd7 ecd7
  refine lv_istore (lv' := [(5, .int r5), (0, .ref b), (1, .ref (ad 0)), (2, .ref (ad 55)), (3, .ref (ad 530)), (4, .int i)]) hx hb dL_law__1550 hl (by decide) rfl (fun ls hl => ?_)
  refine lv_aload_n hx hb dL_law__1552 rfl (lv_at hl 3 rfl) ?_
  refine lv_aload_n hx hb dL_law__1553 rfl (lv_at hl 1 rfl) ?_
  refine lv_iload hx hb dL_law__1554 (lv_at hl 5 rfl) ?_
  refine lv_iconst (v := 1) hx hb dL_law__1556 (by decide) ?_
  refine lv_iadd hx hb dL_law__1557 ?_
  obtain ⟨hi8, h⟩ := gc_s h
  refine va_sld hx hb hX hbl hbA G.2 (gin hi8) dL_law__1558 ?_
  refine lv_aload_n hx hb dL_law__1559 rfl (lv_at hl 1 rfl) ?_
  refine lv_iload hx hb dL_law__1560 (lv_at hl 5 rfl) ?_
  refine lv_iconst (v := 2) hx hb dL_law__1562 (by decide) ?_
  refine lv_iadd hx hb dL_law__1563 ?_
  obtain ⟨hi9, h⟩ := gc_s h
  refine va_sld hx hb hX hbl hbA G.2 (gin hi9) dL_law__1564 ?_
  refine lv_aload_n hx hb dL_law__1565 rfl (lv_at hl 1 rfl) ?_
  refine lv_iload hx hb dL_law__1566 (lv_at hl 5 rfl) ?_
  refine lv_iconst (v := 3) hx hb dL_law__1568 (by decide) ?_
  refine lv_iadd hx hb dL_law__1569 ?_
  obtain ⟨hi10, h⟩ := gc_s h
  refine va_sld hx hb hX hbl hbA G.2 (gin hi10) dL_law__1570 ?_
  obtain ⟨r12, c13, hc11, h⟩ := gb2_s h
  refine gx_calli F G (va_runV (As := [.int (xs (i + 1).toNatClampNeg), .int (xs (i + 2).toNatClampNeg), .int (xs (i + 3).toNatClampNeg)]) (rest := []) (gx_fix F) (c_X10_sellers l sa D ad cy N H.size (Nat.le_trans (by decide) hN) hI cd7.1 cd7.2 hc11) (cwV 3 hts gL_law__X10_sellers rfl rfl rfl (by decide +kernel) ⟨by decide, by decide⟩) (gx_rec F G ht55 (gwe_10 hk55) rfl) rfl rfl hl.1 rfl (lv_room (Nat.le_of_ble_eq_true rfl)) dL_law__1571 ⟨by show kc + 1 + 0 ≤ 600128; omega, by show ks + 6 + 0 ≤ 7301098; omega⟩) (fun H locs G => ?_)
  obtain ⟨cd14, ecd14⟩ : ∃ z : gm × gm, z = (cd7.1, c13) := ⟨_, rfl⟩
  replace G : gW D ad cy N A s.heap cd14.1 cd14.2 H locs := by rw [ecd14]; exact G
  replace h := gv_s h cd14 ecd14
  refine lv_istore (lv' := [(6, .int r12), (5, .int r5), (0, .ref b), (1, .ref (ad 0)), (2, .ref (ad 55)), (3, .ref (ad 530)), (4, .int i)]) hx hb dL_law__1574 hl (by decide) rfl (fun ls hl => ?_)
  refine lv_aload_n hx hb dL_law__1576 rfl (lv_at hl 4 rfl) ?_
  obtain ⟨r16, hc15, h⟩ := gb_s h
  refine gx_calli F G (va_runV (As := []) (rest := []) (gx_fix F) (c_X10_thrown l sa D ad cy N H.size (Nat.le_trans (by decide) hN) hI cd14.1 cd14.2 hc15) (cwV 0 hts gL_law__X10_thrown rfl rfl rfl (by decide +kernel) ⟨by decide, by decide⟩) (gx_rec F G ht55 (gwe_10 hk55) rfl) rfl rfl hl.1 rfl (lv_room (Nat.le_of_ble_eq_true rfl)) dL_law__1577 ⟨by show kc + 1 + 0 ≤ 600128; omega, by show ks + 6 + 0 ≤ 7301098; omega⟩) (fun H locs G => ?_)
  refine lv_iload hx hb dL_law__1580 (lv_at hl 1 rfl) ?_
  refine lv_icmp_eq (tgt := 1587) hx hb dL_law__1582 (by decide) (fun q17 => ?_) (fun q17 => ?_)
  · replace h := gt_s q17 h
    refine lv_iload hx hb dL_law__1587 (lv_at hl 1 rfl) ?_
    refine lv_if_ne (tgt := 1604) hx hb dL_law__1589 (by decide) (fun q18 => ?_) (fun q18 => ?_)
    · replace h := gf_s q18 h
      refine lv_goto (tgt := 2288) hx hb dL_law__1604 (by decide) ?_
      cases h
      exact J _ _ _ G (lv_sub hl [2, 3, 4, 5, 6] rfl)
    · replace h := gt_s q18 h
      refine lv_aload_n hx hb dL_law__1592 rfl (lv_at hl 5 rfl) ?_
      refine lv_iconst (v := 0) hx hb dL_law__1593 (by decide) ?_
      refine gx_la F G hk530 ht530 hn530 (by decide) dL_law__1594 ?_
      refine lv_iload hx hb dL_law__1595 (lv_at hl 0 rfl) ?_
      refine lv_i2l hx hb dL_law__1597 rfl ?_
      refine W.lcmp hx hb dL_law__1598 ?_
      refine lv_if_eq (tgt := 1604) hx hb dL_law__1599 (by decide) (fun q19 => ?_) (fun q19 => ?_)
      · replace h := gt_s q19 h
        refine lv_goto (tgt := 2288) hx hb dL_law__1604 (by decide) ?_
        cases h
        exact J _ _ _ G (lv_sub hl [2, 3, 4, 5, 6] rfl)
      · replace h := gf_s q19 h
        refine lv_iconst (v := 0) hx hb dL_law__1602 (by decide) ?_
        cases h
  · replace h := gf_s q17 h
    refine lv_iconst (v := 0) hx hb dL_law__1585 (by decide) ?_
    cases h
def m_law_24 (n : Nat) (xs : Nat → Int32) (L : Nat) (i : Int32) (cd : gm × gm) : Option (gm × gm) :=
  gc (0 ≤ (i + 1).toInt ∧ (i + 1).toInt < (L : Nat)) (gc (0 ≤ (i + 2).toInt ∧ (i + 2).toInt < (L : Nat)) (gc (0 ≤ (i + 3).toInt ∧ (i + 3).toInt < (L : Nat)) (gb2 (m_L_even n 0 (xs (i + 1).toNatClampNeg) (xs (i + 2).toNatClampNeg) (xs (i + 3).toNatClampNeg) 530 cd.1) (fun (r5 : Int32) (c6 : gm) => gv ((c6, cd.2) : gm × gm) (fun (cd7 : gm × gm) => gc (0 ≤ (i + 1).toInt ∧ (i + 1).toInt < (L : Nat)) (gc (0 ≤ (i + 2).toInt ∧ (i + 2).toInt < (L : Nat)) (gc (0 ≤ (i + 3).toInt ∧ (i + 3).toInt < (L : Nat)) (gb2 (m_X10_even n 55 (xs (i + 1).toNatClampNeg) (xs (i + 2).toNatClampNeg) (xs (i + 3).toNatClampNeg) cd7.2) (fun (r12 : Int64) (c13 : gm) => gv ((cd7.1, c13) : gm × gm) (fun (cd14 : gm × gm) => gb (m_X10_thrown 55 cd14.2) (fun (r16 : Int32) => (if r16 = r5 then (if r5 = 0 then (if (lg_cmp (cd14.1.2.1 530 (0 : Int32).toNatClampNeg) r12) = 0 then some cd14 else none) else some cd14) else none))))))))))))
set_option maxHeartbeats 4000000 in
set_option maxRecDepth 100000 in
theorem law_24 {p : Program} {l : Launch} {e : Env} {s : State} {m : MethodId} {below : List Frame} {meth : Method} {cod : Code} {H : Heap} {locs : List Loc} {Q : State → Prop} {sa : gSa} {D : va_G} {A : Nat → Prop} {ad : Nat → Nat} {cy : Nat → ClassId} {N : Nat} (hlt : l.stackTraces = false) (hN : 531 ≤ N) {b L n kc ks : Nat} {xs : Nat → Int32} {ls : Array Slot} {i : Int32} {cd cd2 : gm × gm} (F : gF sa D ad cy N A p s m #[Value.ref b] cod cL_law_ 8 wsL_law_ RL) (hX : va_X b L xs s s.heap) (hbl : b < s.heap.size) (hbA : ¬ A b) (hkc : kc + 1 ≤ 600128) (hks : ks + 6 ≤ 7301098) (h : m_law_24 n xs L i cd = some cd2) (G : gW D ad cy N A s.heap cd.1 cd.2 H locs) (hl : lv_has ls 8 [(0, .ref b), (1, .ref (ad 0)), (2, .ref (ad 55)), (3, .ref (ad 530)), (4, .int i)]) (J : ∀ (H : Heap) (locs : List Loc) (ls : Array Slot), gW D ad cy N A s.heap cd2.1 cd2.2 H locs → lv_has ls 8 [(0, .ref b), (1, .ref (ad 0)), (2, .ref (ad 55)), (3, .ref (ad 530)), (4, .int i)] → W p l e room_1 s m #[Value.ref b] below meth cod H locs (kc + 1) (ks + 6) Q (F0 m 2288 ls [])) : W p l e room_1 s m #[Value.ref b] below meth cod H locs kc ks Q (F0 m 1607 ls []) := by
  obtain ⟨hx, hb, hml, hown, hts, hK, hI, hA, hZ, hZZ⟩ := id F
  have hk0 : gck 0 = 9 := rfl
  have hk55 : gck 55 = 10 := rfl
  have hk530 : gck 530 = 26 := rfl
  have hn530 : gal 530 = 1 := rfl
  have ht0 : 0 < N := Nat.lt_of_lt_of_le (by decide) hN
  have ht55 : 55 < N := Nat.lt_of_lt_of_le (by decide) hN
  have ht530 : 530 < N := Nat.lt_of_lt_of_le (by decide) hN
  unfold m_law_24 at h
  refine lv_aload_n hx hb dL_law__1607 rfl (lv_at hl 1 rfl) ?_
  refine lv_aload_n hx hb dL_law__1608 rfl (lv_at hl 0 rfl) ?_
  refine lv_iload hx hb dL_law__1609 (lv_at hl 4 rfl) ?_
  refine lv_iconst (v := 1) hx hb dL_law__1611 (by decide) ?_
  refine lv_iadd hx hb dL_law__1612 ?_
  obtain ⟨hi1, h⟩ := gc_s h
  refine va_sld hx hb hX hbl hbA G.2 (gin hi1) dL_law__1613 ?_
  refine lv_aload_n hx hb dL_law__1614 rfl (lv_at hl 0 rfl) ?_
  refine lv_iload hx hb dL_law__1615 (lv_at hl 4 rfl) ?_
  refine lv_iconst (v := 2) hx hb dL_law__1617 (by decide) ?_
  refine lv_iadd hx hb dL_law__1618 ?_
  obtain ⟨hi2, h⟩ := gc_s h
  refine va_sld hx hb hX hbl hbA G.2 (gin hi2) dL_law__1619 ?_
  refine lv_aload_n hx hb dL_law__1620 rfl (lv_at hl 0 rfl) ?_
  refine lv_iload hx hb dL_law__1621 (lv_at hl 4 rfl) ?_
  refine lv_iconst (v := 3) hx hb dL_law__1623 (by decide) ?_
  refine lv_iadd hx hb dL_law__1624 ?_
  obtain ⟨hi3, h⟩ := gc_s h
  refine va_sld hx hb hX hbl hbA G.2 (gin hi3) dL_law__1625 ?_
  refine lv_aload_n hx hb dL_law__1626 rfl (lv_at hl 3 rfl) ?_
  obtain ⟨r5, c6, hc4, h⟩ := gb2_s h
  refine gx_calliX F G (vx_runSW (As := [.ref (ad 0), .int (xs (i + 1).toNatClampNeg), .int (xs (i + 2).toNatClampNeg), .int (xs (i + 3).toNatClampNeg), .ref (ad 530)]) (rest := []) (gx_fix F) (c_L_even l hlt sa D ad cy N H.size hN hI cd.1 cd.2 hc4) (vx_cwSW 5 hts gL_law__L_even rfl rfl rfl (by decide +kernel) ⟨by decide, by decide⟩) (gx_pre F G) rfl rfl hl.1 rfl (lv_room (Nat.le_of_ble_eq_true rfl)) dL_law__1627 ⟨by show kc + 1 ≤ 600128; omega, by show ks + 6 ≤ 7301098; omega⟩) (fun H locs G => ?_)
  obtain ⟨cd7, ecd7⟩ : ∃ z : gm × gm, z = (c6, cd.2) := ⟨_, rfl⟩
  replace G : gW D ad cy N A s.heap cd7.1 cd7.2 H locs := by rw [ecd7]; exact G
  replace h := gv_s h cd7 ecd7
  refine lv_istore (lv' := [(5, .int r5), (0, .ref b), (1, .ref (ad 0)), (2, .ref (ad 55)), (3, .ref (ad 530)), (4, .int i)]) hx hb dL_law__1630 hl (by decide) rfl (fun ls hl => ?_)
  refine lv_aload_n hx hb dL_law__1632 rfl (lv_at hl 3 rfl) ?_
  refine lv_aload_n hx hb dL_law__1633 rfl (lv_at hl 1 rfl) ?_
  refine lv_iload hx hb dL_law__1634 (lv_at hl 5 rfl) ?_
  refine lv_iconst (v := 1) hx hb dL_law__1636 (by decide) ?_
  refine lv_iadd hx hb dL_law__1637 ?_
  obtain ⟨hi8, h⟩ := gc_s h
  refine va_sld hx hb hX hbl hbA G.2 (gin hi8) dL_law__1638 ?_
  refine lv_aload_n hx hb dL_law__1639 rfl (lv_at hl 1 rfl) ?_
  refine lv_iload hx hb dL_law__1640 (lv_at hl 5 rfl) ?_
  refine lv_iconst (v := 2) hx hb dL_law__1642 (by decide) ?_
  refine lv_iadd hx hb dL_law__1643 ?_
  obtain ⟨hi9, h⟩ := gc_s h
  refine va_sld hx hb hX hbl hbA G.2 (gin hi9) dL_law__1644 ?_
  refine lv_aload_n hx hb dL_law__1645 rfl (lv_at hl 1 rfl) ?_
  refine lv_iload hx hb dL_law__1646 (lv_at hl 5 rfl) ?_
  refine lv_iconst (v := 3) hx hb dL_law__1648 (by decide) ?_
  refine lv_iadd hx hb dL_law__1649 ?_
  obtain ⟨hi10, h⟩ := gc_s h
  refine va_sld hx hb hX hbl hbA G.2 (gin hi10) dL_law__1650 ?_
  obtain ⟨r12, c13, hc11, h⟩ := gb2_s h
  refine gx_calll F G (va_runV (As := [.int (xs (i + 1).toNatClampNeg), .int (xs (i + 2).toNatClampNeg), .int (xs (i + 3).toNatClampNeg)]) (rest := []) (gx_fix F) (c_X10_even l sa D ad cy N H.size (Nat.le_trans (by decide) hN) hI cd7.1 cd7.2 hc11) (cwV 3 hts gL_law__X10_even rfl rfl rfl (by decide +kernel) ⟨by decide, by decide⟩) (gx_rec F G ht55 (gwe_10 hk55) rfl) rfl rfl hl.1 rfl (lv_room (Nat.le_of_ble_eq_true rfl)) dL_law__1651 ⟨by show kc + 1 + 0 ≤ 600128; omega, by show ks + 6 + 0 ≤ 7301098; omega⟩) (fun H locs G => ?_)
  obtain ⟨cd14, ecd14⟩ : ∃ z : gm × gm, z = (cd7.1, c13) := ⟨_, rfl⟩
  replace G : gW D ad cy N A s.heap cd14.1 cd14.2 H locs := by rw [ecd14]; exact G
  replace h := gv_s h cd14 ecd14
  refine lv_lstore (lv' := [(6, .long r12), (5, .int r5), (0, .ref b), (1, .ref (ad 0)), (2, .ref (ad 55)), (3, .ref (ad 530)), (4, .int i)]) hx hb dL_law__1654 hl (by decide) rfl (fun ls hl => ?_)
  refine lv_aload_n hx hb dL_law__1656 rfl (lv_at hl 4 rfl) ?_
  obtain ⟨r16, hc15, h⟩ := gb_s h
  refine gx_calli F G (va_runV (As := []) (rest := []) (gx_fix F) (c_X10_thrown l sa D ad cy N H.size (Nat.le_trans (by decide) hN) hI cd14.1 cd14.2 hc15) (cwV 0 hts gL_law__X10_thrown rfl rfl rfl (by decide +kernel) ⟨by decide, by decide⟩) (gx_rec F G ht55 (gwe_10 hk55) rfl) rfl rfl hl.1 rfl (lv_room (Nat.le_of_ble_eq_true rfl)) dL_law__1657 ⟨by show kc + 1 + 0 ≤ 600128; omega, by show ks + 6 + 0 ≤ 7301098; omega⟩) (fun H locs G => ?_)
  refine lv_iload hx hb dL_law__1660 (lv_at hl 1 rfl) ?_
  refine lv_icmp_eq (tgt := 1667) hx hb dL_law__1662 (by decide) (fun q17 => ?_) (fun q17 => ?_)
  · replace h := gt_s q17 h
    refine lv_iload hx hb dL_law__1667 (lv_at hl 1 rfl) ?_
    refine lv_if_ne (tgt := 1683) hx hb dL_law__1669 (by decide) (fun q18 => ?_) (fun q18 => ?_)
    · replace h := gf_s q18 h
      refine lv_goto (tgt := 2288) hx hb dL_law__1683 (by decide) ?_
      cases h
      exact J _ _ _ G (lv_sub hl [2, 3, 4, 5, 6] rfl)
    · replace h := gt_s q18 h
      refine lv_aload_n hx hb dL_law__1672 rfl (lv_at hl 5 rfl) ?_
      refine lv_iconst (v := 0) hx hb dL_law__1673 (by decide) ?_
      refine gx_la F G hk530 ht530 hn530 (by decide) dL_law__1674 ?_
      refine lv_lload hx hb dL_law__1675 (lv_at hl 0 rfl) ?_
      refine W.lcmp hx hb dL_law__1677 ?_
      refine lv_if_eq (tgt := 1683) hx hb dL_law__1678 (by decide) (fun q19 => ?_) (fun q19 => ?_)
      · replace h := gt_s q19 h
        refine lv_goto (tgt := 2288) hx hb dL_law__1683 (by decide) ?_
        cases h
        exact J _ _ _ G (lv_sub hl [2, 3, 4, 5, 6] rfl)
      · replace h := gf_s q19 h
        refine lv_iconst (v := 0) hx hb dL_law__1681 (by decide) ?_
        cases h
  · replace h := gf_s q17 h
    refine lv_iconst (v := 0) hx hb dL_law__1665 (by decide) ?_
    cases h
def m_law_25 (n : Nat) (xs : Nat → Int32) (L : Nat) (i : Int32) (cd : gm × gm) : Option (gm × gm) :=
  gc (0 ≤ (i + 1).toInt ∧ (i + 1).toInt < (L : Nat)) (gc (0 ≤ (i + 2).toInt ∧ (i + 2).toInt < (L : Nat)) (gc (0 ≤ (i + 3).toInt ∧ (i + 3).toInt < (L : Nat)) (gb2 (m_L_share n 0 (xs (i + 1).toNatClampNeg) (xs (i + 2).toNatClampNeg) (xs (i + 3).toNatClampNeg) 530 cd.1) (fun (r5 : Int32) (c6 : gm) => gv ((c6, cd.2) : gm × gm) (fun (cd7 : gm × gm) => gc (0 ≤ (i + 1).toInt ∧ (i + 1).toInt < (L : Nat)) (gc (0 ≤ (i + 2).toInt ∧ (i + 2).toInt < (L : Nat)) (gc (0 ≤ (i + 3).toInt ∧ (i + 3).toInt < (L : Nat)) (gb2 (m_X10_share n 55 (xs (i + 1).toNatClampNeg) (xs (i + 2).toNatClampNeg) (xs (i + 3).toNatClampNeg) cd7.2) (fun (r12 : Int32) (c13 : gm) => gv ((cd7.1, c13) : gm × gm) (fun (cd14 : gm × gm) => gb (m_X10_thrown 55 cd14.2) (fun (r16 : Int32) => (if r16 = r5 then (if r5 = 0 then (if (lg_cmp (cd14.1.2.1 530 (0 : Int32).toNatClampNeg) (Int32.toInt64 r12)) = 0 then some cd14 else none) else some cd14) else none))))))))))))
set_option maxHeartbeats 4000000 in
set_option maxRecDepth 100000 in
theorem law_25 {p : Program} {l : Launch} {e : Env} {s : State} {m : MethodId} {below : List Frame} {meth : Method} {cod : Code} {H : Heap} {locs : List Loc} {Q : State → Prop} {sa : gSa} {D : va_G} {A : Nat → Prop} {ad : Nat → Nat} {cy : Nat → ClassId} {N : Nat} (hlt : l.stackTraces = false) (hN : 531 ≤ N) {b L n kc ks : Nat} {xs : Nat → Int32} {ls : Array Slot} {i : Int32} {cd cd2 : gm × gm} (F : gF sa D ad cy N A p s m #[Value.ref b] cod cL_law_ 8 wsL_law_ RL) (hX : va_X b L xs s s.heap) (hbl : b < s.heap.size) (hbA : ¬ A b) (hkc : kc + 1 ≤ 600128) (hks : ks + 6 ≤ 7301098) (h : m_law_25 n xs L i cd = some cd2) (G : gW D ad cy N A s.heap cd.1 cd.2 H locs) (hl : lv_has ls 8 [(0, .ref b), (1, .ref (ad 0)), (2, .ref (ad 55)), (3, .ref (ad 530)), (4, .int i)]) (J : ∀ (H : Heap) (locs : List Loc) (ls : Array Slot), gW D ad cy N A s.heap cd2.1 cd2.2 H locs → lv_has ls 8 [(0, .ref b), (1, .ref (ad 0)), (2, .ref (ad 55)), (3, .ref (ad 530)), (4, .int i)] → W p l e room_1 s m #[Value.ref b] below meth cod H locs (kc + 1) (ks + 6) Q (F0 m 2288 ls [])) : W p l e room_1 s m #[Value.ref b] below meth cod H locs kc ks Q (F0 m 1686 ls []) := by
  obtain ⟨hx, hb, hml, hown, hts, hK, hI, hA, hZ, hZZ⟩ := id F
  have hk0 : gck 0 = 9 := rfl
  have hk55 : gck 55 = 10 := rfl
  have hk530 : gck 530 = 26 := rfl
  have hn530 : gal 530 = 1 := rfl
  have ht0 : 0 < N := Nat.lt_of_lt_of_le (by decide) hN
  have ht55 : 55 < N := Nat.lt_of_lt_of_le (by decide) hN
  have ht530 : 530 < N := Nat.lt_of_lt_of_le (by decide) hN
  unfold m_law_25 at h
  refine lv_aload_n hx hb dL_law__1686 rfl (lv_at hl 1 rfl) ?_
  refine lv_aload_n hx hb dL_law__1687 rfl (lv_at hl 0 rfl) ?_
  refine lv_iload hx hb dL_law__1688 (lv_at hl 4 rfl) ?_
  refine lv_iconst (v := 1) hx hb dL_law__1690 (by decide) ?_
  refine lv_iadd hx hb dL_law__1691 ?_
  obtain ⟨hi1, h⟩ := gc_s h
  refine va_sld hx hb hX hbl hbA G.2 (gin hi1) dL_law__1692 ?_
  refine lv_aload_n hx hb dL_law__1693 rfl (lv_at hl 0 rfl) ?_
  refine lv_iload hx hb dL_law__1694 (lv_at hl 4 rfl) ?_
  refine lv_iconst (v := 2) hx hb dL_law__1696 (by decide) ?_
  refine lv_iadd hx hb dL_law__1697 ?_
  obtain ⟨hi2, h⟩ := gc_s h
  refine va_sld hx hb hX hbl hbA G.2 (gin hi2) dL_law__1698 ?_
  refine lv_aload_n hx hb dL_law__1699 rfl (lv_at hl 0 rfl) ?_
  refine lv_iload hx hb dL_law__1700 (lv_at hl 4 rfl) ?_
  refine lv_iconst (v := 3) hx hb dL_law__1702 (by decide) ?_
  refine lv_iadd hx hb dL_law__1703 ?_
  obtain ⟨hi3, h⟩ := gc_s h
  refine va_sld hx hb hX hbl hbA G.2 (gin hi3) dL_law__1704 ?_
  refine lv_aload_n hx hb dL_law__1705 rfl (lv_at hl 3 rfl) ?_
  obtain ⟨r5, c6, hc4, h⟩ := gb2_s h
  refine gx_calliX F G (vx_runSW (As := [.ref (ad 0), .int (xs (i + 1).toNatClampNeg), .int (xs (i + 2).toNatClampNeg), .int (xs (i + 3).toNatClampNeg), .ref (ad 530)]) (rest := []) (gx_fix F) (c_L_share l hlt sa D ad cy N H.size hN hI cd.1 cd.2 hc4) (vx_cwSW 5 hts gL_law__L_share rfl rfl rfl (by decide +kernel) ⟨by decide, by decide⟩) (gx_pre F G) rfl rfl hl.1 rfl (lv_room (Nat.le_of_ble_eq_true rfl)) dL_law__1706 ⟨by show kc + 1 ≤ 600128; omega, by show ks + 6 ≤ 7301098; omega⟩) (fun H locs G => ?_)
  obtain ⟨cd7, ecd7⟩ : ∃ z : gm × gm, z = (c6, cd.2) := ⟨_, rfl⟩
  replace G : gW D ad cy N A s.heap cd7.1 cd7.2 H locs := by rw [ecd7]; exact G
  replace h := gv_s h cd7 ecd7
  refine lv_istore (lv' := [(5, .int r5), (0, .ref b), (1, .ref (ad 0)), (2, .ref (ad 55)), (3, .ref (ad 530)), (4, .int i)]) hx hb dL_law__1709 hl (by decide) rfl (fun ls hl => ?_)
  refine lv_aload_n hx hb dL_law__1711 rfl (lv_at hl 3 rfl) ?_
  refine lv_aload_n hx hb dL_law__1712 rfl (lv_at hl 1 rfl) ?_
  refine lv_iload hx hb dL_law__1713 (lv_at hl 5 rfl) ?_
  refine lv_iconst (v := 1) hx hb dL_law__1715 (by decide) ?_
  refine lv_iadd hx hb dL_law__1716 ?_
  obtain ⟨hi8, h⟩ := gc_s h
  refine va_sld hx hb hX hbl hbA G.2 (gin hi8) dL_law__1717 ?_
  refine lv_aload_n hx hb dL_law__1718 rfl (lv_at hl 1 rfl) ?_
  refine lv_iload hx hb dL_law__1719 (lv_at hl 5 rfl) ?_
  refine lv_iconst (v := 2) hx hb dL_law__1721 (by decide) ?_
  refine lv_iadd hx hb dL_law__1722 ?_
  obtain ⟨hi9, h⟩ := gc_s h
  refine va_sld hx hb hX hbl hbA G.2 (gin hi9) dL_law__1723 ?_
  refine lv_aload_n hx hb dL_law__1724 rfl (lv_at hl 1 rfl) ?_
  refine lv_iload hx hb dL_law__1725 (lv_at hl 5 rfl) ?_
  refine lv_iconst (v := 3) hx hb dL_law__1727 (by decide) ?_
  refine lv_iadd hx hb dL_law__1728 ?_
  obtain ⟨hi10, h⟩ := gc_s h
  refine va_sld hx hb hX hbl hbA G.2 (gin hi10) dL_law__1729 ?_
  obtain ⟨r12, c13, hc11, h⟩ := gb2_s h
  refine gx_calli F G (va_runV (As := [.int (xs (i + 1).toNatClampNeg), .int (xs (i + 2).toNatClampNeg), .int (xs (i + 3).toNatClampNeg)]) (rest := []) (gx_fix F) (c_X10_share l sa D ad cy N H.size (Nat.le_trans (by decide) hN) hI cd7.1 cd7.2 hc11) (cwV 3 hts gL_law__X10_share rfl rfl rfl (by decide +kernel) ⟨by decide, by decide⟩) (gx_rec F G ht55 (gwe_10 hk55) rfl) rfl rfl hl.1 rfl (lv_room (Nat.le_of_ble_eq_true rfl)) dL_law__1730 ⟨by show kc + 1 + 0 ≤ 600128; omega, by show ks + 6 + 0 ≤ 7301098; omega⟩) (fun H locs G => ?_)
  obtain ⟨cd14, ecd14⟩ : ∃ z : gm × gm, z = (cd7.1, c13) := ⟨_, rfl⟩
  replace G : gW D ad cy N A s.heap cd14.1 cd14.2 H locs := by rw [ecd14]; exact G
  replace h := gv_s h cd14 ecd14
  refine lv_istore (lv' := [(6, .int r12), (5, .int r5), (0, .ref b), (1, .ref (ad 0)), (2, .ref (ad 55)), (3, .ref (ad 530)), (4, .int i)]) hx hb dL_law__1733 hl (by decide) rfl (fun ls hl => ?_)
  refine lv_aload_n hx hb dL_law__1735 rfl (lv_at hl 4 rfl) ?_
  obtain ⟨r16, hc15, h⟩ := gb_s h
  refine gx_calli F G (va_runV (As := []) (rest := []) (gx_fix F) (c_X10_thrown l sa D ad cy N H.size (Nat.le_trans (by decide) hN) hI cd14.1 cd14.2 hc15) (cwV 0 hts gL_law__X10_thrown rfl rfl rfl (by decide +kernel) ⟨by decide, by decide⟩) (gx_rec F G ht55 (gwe_10 hk55) rfl) rfl rfl hl.1 rfl (lv_room (Nat.le_of_ble_eq_true rfl)) dL_law__1736 ⟨by show kc + 1 + 0 ≤ 600128; omega, by show ks + 6 + 0 ≤ 7301098; omega⟩) (fun H locs G => ?_)
  refine lv_iload hx hb dL_law__1739 (lv_at hl 1 rfl) ?_
  refine lv_icmp_eq (tgt := 1746) hx hb dL_law__1741 (by decide) (fun q17 => ?_) (fun q17 => ?_)
  · replace h := gt_s q17 h
    refine lv_iload hx hb dL_law__1746 (lv_at hl 1 rfl) ?_
    refine lv_if_ne (tgt := 1763) hx hb dL_law__1748 (by decide) (fun q18 => ?_) (fun q18 => ?_)
    · replace h := gf_s q18 h
      refine lv_goto (tgt := 2288) hx hb dL_law__1763 (by decide) ?_
      cases h
      exact J _ _ _ G (lv_sub hl [2, 3, 4, 5, 6] rfl)
    · replace h := gt_s q18 h
      refine lv_aload_n hx hb dL_law__1751 rfl (lv_at hl 5 rfl) ?_
      refine lv_iconst (v := 0) hx hb dL_law__1752 (by decide) ?_
      refine gx_la F G hk530 ht530 hn530 (by decide) dL_law__1753 ?_
      refine lv_iload hx hb dL_law__1754 (lv_at hl 0 rfl) ?_
      refine lv_i2l hx hb dL_law__1756 rfl ?_
      refine W.lcmp hx hb dL_law__1757 ?_
      refine lv_if_eq (tgt := 1763) hx hb dL_law__1758 (by decide) (fun q19 => ?_) (fun q19 => ?_)
      · replace h := gt_s q19 h
        refine lv_goto (tgt := 2288) hx hb dL_law__1763 (by decide) ?_
        cases h
        exact J _ _ _ G (lv_sub hl [2, 3, 4, 5, 6] rfl)
      · replace h := gf_s q19 h
        refine lv_iconst (v := 0) hx hb dL_law__1761 (by decide) ?_
        cases h
  · replace h := gf_s q17 h
    refine lv_iconst (v := 0) hx hb dL_law__1744 (by decide) ?_
    cases h
def m_law_26 (n : Nat) (xs : Nat → Int32) (L : Nat) (i : Int32) (cd : gm × gm) : Option (gm × gm) :=
  gc (0 ≤ (i + 1).toInt ∧ (i + 1).toInt < (L : Nat)) (gb2 (m_L_heaviest n 0 (xs (i + 1).toNatClampNeg) 530 cd.1) (fun (r3 : Int32) (c4 : gm) => gv ((c4, cd.2) : gm × gm) (fun (cd5 : gm × gm) => gc (0 ≤ (i + 1).toInt ∧ (i + 1).toInt < (L : Nat)) (gb2 (m_X10_heaviest n 55 (xs (i + 1).toNatClampNeg) cd5.2) (fun (r8 : Int32) (c9 : gm) => gv ((cd5.1, c9) : gm × gm) (fun (cd10 : gm × gm) => gb (m_X10_thrown 55 cd10.2) (fun (r12 : Int32) => (if r12 = r3 then (if r3 = 0 then (if (lg_cmp (cd10.1.2.1 530 (0 : Int32).toNatClampNeg) (Int32.toInt64 r8)) = 0 then some cd10 else none) else some cd10) else none))))))))
set_option maxHeartbeats 4000000 in
set_option maxRecDepth 100000 in
theorem law_26 {p : Program} {l : Launch} {e : Env} {s : State} {m : MethodId} {below : List Frame} {meth : Method} {cod : Code} {H : Heap} {locs : List Loc} {Q : State → Prop} {sa : gSa} {D : va_G} {A : Nat → Prop} {ad : Nat → Nat} {cy : Nat → ClassId} {N : Nat} (hlt : l.stackTraces = false) (hN : 531 ≤ N) {b L n kc ks : Nat} {xs : Nat → Int32} {ls : Array Slot} {i : Int32} {cd cd2 : gm × gm} (F : gF sa D ad cy N A p s m #[Value.ref b] cod cL_law_ 8 wsL_law_ RL) (hX : va_X b L xs s s.heap) (hbl : b < s.heap.size) (hbA : ¬ A b) (hkc : kc + 1 ≤ 600128) (hks : ks + 6 ≤ 7301098) (h : m_law_26 n xs L i cd = some cd2) (G : gW D ad cy N A s.heap cd.1 cd.2 H locs) (hl : lv_has ls 8 [(0, .ref b), (1, .ref (ad 0)), (2, .ref (ad 55)), (3, .ref (ad 530)), (4, .int i)]) (J : ∀ (H : Heap) (locs : List Loc) (ls : Array Slot), gW D ad cy N A s.heap cd2.1 cd2.2 H locs → lv_has ls 8 [(0, .ref b), (1, .ref (ad 0)), (2, .ref (ad 55)), (3, .ref (ad 530)), (4, .int i)] → W p l e room_1 s m #[Value.ref b] below meth cod H locs (kc + 1) (ks + 6) Q (F0 m 2288 ls [])) : W p l e room_1 s m #[Value.ref b] below meth cod H locs kc ks Q (F0 m 1766 ls []) := by
  obtain ⟨hx, hb, hml, hown, hts, hK, hI, hA, hZ, hZZ⟩ := id F
  have hk0 : gck 0 = 9 := rfl
  have hk55 : gck 55 = 10 := rfl
  have hk530 : gck 530 = 26 := rfl
  have hn530 : gal 530 = 1 := rfl
  have ht0 : 0 < N := Nat.lt_of_lt_of_le (by decide) hN
  have ht55 : 55 < N := Nat.lt_of_lt_of_le (by decide) hN
  have ht530 : 530 < N := Nat.lt_of_lt_of_le (by decide) hN
  unfold m_law_26 at h
  refine lv_aload_n hx hb dL_law__1766 rfl (lv_at hl 1 rfl) ?_
  refine lv_aload_n hx hb dL_law__1767 rfl (lv_at hl 0 rfl) ?_
  refine lv_iload hx hb dL_law__1768 (lv_at hl 4 rfl) ?_
  refine lv_iconst (v := 1) hx hb dL_law__1770 (by decide) ?_
  refine lv_iadd hx hb dL_law__1771 ?_
  obtain ⟨hi1, h⟩ := gc_s h
  refine va_sld hx hb hX hbl hbA G.2 (gin hi1) dL_law__1772 ?_
  refine lv_aload_n hx hb dL_law__1773 rfl (lv_at hl 3 rfl) ?_
  obtain ⟨r3, c4, hc2, h⟩ := gb2_s h
  refine gx_calliX F G (vx_runSW (As := [.ref (ad 0), .int (xs (i + 1).toNatClampNeg), .ref (ad 530)]) (rest := []) (gx_fix F) (c_L_heaviest l hlt sa D ad cy N H.size hN hI cd.1 cd.2 hc2) (vx_cwSW 3 hts gL_law__L_heaviest rfl rfl rfl (by decide +kernel) ⟨by decide, by decide⟩) (gx_pre F G) rfl rfl hl.1 rfl (lv_room (Nat.le_of_ble_eq_true rfl)) dL_law__1774 ⟨by show kc + 1 ≤ 600128; omega, by show ks + 6 ≤ 7301098; omega⟩) (fun H locs G => ?_)
  obtain ⟨cd5, ecd5⟩ : ∃ z : gm × gm, z = (c4, cd.2) := ⟨_, rfl⟩
  replace G : gW D ad cy N A s.heap cd5.1 cd5.2 H locs := by rw [ecd5]; exact G
  replace h := gv_s h cd5 ecd5
  refine lv_istore (lv' := [(5, .int r3), (0, .ref b), (1, .ref (ad 0)), (2, .ref (ad 55)), (3, .ref (ad 530)), (4, .int i)]) hx hb dL_law__1777 hl (by decide) rfl (fun ls hl => ?_)
  refine lv_aload_n hx hb dL_law__1779 rfl (lv_at hl 3 rfl) ?_
  refine lv_aload_n hx hb dL_law__1780 rfl (lv_at hl 1 rfl) ?_
  refine lv_iload hx hb dL_law__1781 (lv_at hl 5 rfl) ?_
  refine lv_iconst (v := 1) hx hb dL_law__1783 (by decide) ?_
  refine lv_iadd hx hb dL_law__1784 ?_
  obtain ⟨hi6, h⟩ := gc_s h
  refine va_sld hx hb hX hbl hbA G.2 (gin hi6) dL_law__1785 ?_
  obtain ⟨r8, c9, hc7, h⟩ := gb2_s h
  refine gx_calli F G (va_runV (As := [.int (xs (i + 1).toNatClampNeg)]) (rest := []) (gx_fix F) (c_X10_heaviest l sa D ad cy N H.size (Nat.le_trans (by decide) hN) hI cd5.1 cd5.2 hc7) (cwV 1 hts gL_law__X10_heaviest rfl rfl rfl (by decide +kernel) ⟨by decide, by decide⟩) (gx_rec F G ht55 (gwe_10 hk55) rfl) rfl rfl hl.1 rfl (lv_room (Nat.le_of_ble_eq_true rfl)) dL_law__1786 ⟨by show kc + 1 + 0 ≤ 600128; omega, by show ks + 6 + 0 ≤ 7301098; omega⟩) (fun H locs G => ?_)
  obtain ⟨cd10, ecd10⟩ : ∃ z : gm × gm, z = (cd5.1, c9) := ⟨_, rfl⟩
  replace G : gW D ad cy N A s.heap cd10.1 cd10.2 H locs := by rw [ecd10]; exact G
  replace h := gv_s h cd10 ecd10
  refine lv_istore (lv' := [(6, .int r8), (5, .int r3), (0, .ref b), (1, .ref (ad 0)), (2, .ref (ad 55)), (3, .ref (ad 530)), (4, .int i)]) hx hb dL_law__1789 hl (by decide) rfl (fun ls hl => ?_)
  refine lv_aload_n hx hb dL_law__1791 rfl (lv_at hl 4 rfl) ?_
  obtain ⟨r12, hc11, h⟩ := gb_s h
  refine gx_calli F G (va_runV (As := []) (rest := []) (gx_fix F) (c_X10_thrown l sa D ad cy N H.size (Nat.le_trans (by decide) hN) hI cd10.1 cd10.2 hc11) (cwV 0 hts gL_law__X10_thrown rfl rfl rfl (by decide +kernel) ⟨by decide, by decide⟩) (gx_rec F G ht55 (gwe_10 hk55) rfl) rfl rfl hl.1 rfl (lv_room (Nat.le_of_ble_eq_true rfl)) dL_law__1792 ⟨by show kc + 1 + 0 ≤ 600128; omega, by show ks + 6 + 0 ≤ 7301098; omega⟩) (fun H locs G => ?_)
  refine lv_iload hx hb dL_law__1795 (lv_at hl 1 rfl) ?_
  refine lv_icmp_eq (tgt := 1802) hx hb dL_law__1797 (by decide) (fun q13 => ?_) (fun q13 => ?_)
  · replace h := gt_s q13 h
    refine lv_iload hx hb dL_law__1802 (lv_at hl 1 rfl) ?_
    refine lv_if_ne (tgt := 1819) hx hb dL_law__1804 (by decide) (fun q14 => ?_) (fun q14 => ?_)
    · replace h := gf_s q14 h
      refine lv_goto (tgt := 2288) hx hb dL_law__1819 (by decide) ?_
      cases h
      exact J _ _ _ G (lv_sub hl [2, 3, 4, 5, 6] rfl)
    · replace h := gt_s q14 h
      refine lv_aload_n hx hb dL_law__1807 rfl (lv_at hl 5 rfl) ?_
      refine lv_iconst (v := 0) hx hb dL_law__1808 (by decide) ?_
      refine gx_la F G hk530 ht530 hn530 (by decide) dL_law__1809 ?_
      refine lv_iload hx hb dL_law__1810 (lv_at hl 0 rfl) ?_
      refine lv_i2l hx hb dL_law__1812 rfl ?_
      refine W.lcmp hx hb dL_law__1813 ?_
      refine lv_if_eq (tgt := 1819) hx hb dL_law__1814 (by decide) (fun q15 => ?_) (fun q15 => ?_)
      · replace h := gt_s q15 h
        refine lv_goto (tgt := 2288) hx hb dL_law__1819 (by decide) ?_
        cases h
        exact J _ _ _ G (lv_sub hl [2, 3, 4, 5, 6] rfl)
      · replace h := gf_s q15 h
        refine lv_iconst (v := 0) hx hb dL_law__1817 (by decide) ?_
        cases h
  · replace h := gf_s q13 h
    refine lv_iconst (v := 0) hx hb dL_law__1800 (by decide) ?_
    cases h
def m_law_27 (n : Nat) (xs : Nat → Int32) (L : Nat) (i : Int32) (cd : gm × gm) : Option (gm × gm) :=
  gc (0 ≤ (i + 1).toInt ∧ (i + 1).toInt < (L : Nat)) (gb2 (m_L_above n 0 (xs (i + 1).toNatClampNeg) 530 cd.1) (fun (r3 : Int32) (c4 : gm) => gv ((c4, cd.2) : gm × gm) (fun (cd5 : gm × gm) => gc (0 ≤ (i + 1).toInt ∧ (i + 1).toInt < (L : Nat)) (gb2 (m_X10_above n 55 (xs (i + 1).toNatClampNeg) cd5.2) (fun (r8 : Int32) (c9 : gm) => gv ((cd5.1, c9) : gm × gm) (fun (cd10 : gm × gm) => gb (m_X10_thrown 55 cd10.2) (fun (r12 : Int32) => (if r12 = r3 then (if r3 = 0 then (if (lg_cmp (cd10.1.2.1 530 (0 : Int32).toNatClampNeg) (Int32.toInt64 r8)) = 0 then some cd10 else none) else some cd10) else none))))))))
set_option maxHeartbeats 4000000 in
set_option maxRecDepth 100000 in
theorem law_27 {p : Program} {l : Launch} {e : Env} {s : State} {m : MethodId} {below : List Frame} {meth : Method} {cod : Code} {H : Heap} {locs : List Loc} {Q : State → Prop} {sa : gSa} {D : va_G} {A : Nat → Prop} {ad : Nat → Nat} {cy : Nat → ClassId} {N : Nat} (hlt : l.stackTraces = false) (hN : 531 ≤ N) {b L n kc ks : Nat} {xs : Nat → Int32} {ls : Array Slot} {i : Int32} {cd cd2 : gm × gm} (F : gF sa D ad cy N A p s m #[Value.ref b] cod cL_law_ 8 wsL_law_ RL) (hX : va_X b L xs s s.heap) (hbl : b < s.heap.size) (hbA : ¬ A b) (hkc : kc + 1 ≤ 600128) (hks : ks + 6 ≤ 7301098) (h : m_law_27 n xs L i cd = some cd2) (G : gW D ad cy N A s.heap cd.1 cd.2 H locs) (hl : lv_has ls 8 [(0, .ref b), (1, .ref (ad 0)), (2, .ref (ad 55)), (3, .ref (ad 530)), (4, .int i)]) (J : ∀ (H : Heap) (locs : List Loc) (ls : Array Slot), gW D ad cy N A s.heap cd2.1 cd2.2 H locs → lv_has ls 8 [(0, .ref b), (1, .ref (ad 0)), (2, .ref (ad 55)), (3, .ref (ad 530)), (4, .int i)] → W p l e room_1 s m #[Value.ref b] below meth cod H locs (kc + 1) (ks + 6) Q (F0 m 2288 ls [])) : W p l e room_1 s m #[Value.ref b] below meth cod H locs kc ks Q (F0 m 1822 ls []) := by
  obtain ⟨hx, hb, hml, hown, hts, hK, hI, hA, hZ, hZZ⟩ := id F
  have hk0 : gck 0 = 9 := rfl
  have hk55 : gck 55 = 10 := rfl
  have hk530 : gck 530 = 26 := rfl
  have hn530 : gal 530 = 1 := rfl
  have ht0 : 0 < N := Nat.lt_of_lt_of_le (by decide) hN
  have ht55 : 55 < N := Nat.lt_of_lt_of_le (by decide) hN
  have ht530 : 530 < N := Nat.lt_of_lt_of_le (by decide) hN
  unfold m_law_27 at h
  refine lv_aload_n hx hb dL_law__1822 rfl (lv_at hl 1 rfl) ?_
  refine lv_aload_n hx hb dL_law__1823 rfl (lv_at hl 0 rfl) ?_
  refine lv_iload hx hb dL_law__1824 (lv_at hl 4 rfl) ?_
  refine lv_iconst (v := 1) hx hb dL_law__1826 (by decide) ?_
  refine lv_iadd hx hb dL_law__1827 ?_
  obtain ⟨hi1, h⟩ := gc_s h
  refine va_sld hx hb hX hbl hbA G.2 (gin hi1) dL_law__1828 ?_
  refine lv_aload_n hx hb dL_law__1829 rfl (lv_at hl 3 rfl) ?_
  obtain ⟨r3, c4, hc2, h⟩ := gb2_s h
  refine gx_calliX F G (vx_runSW (As := [.ref (ad 0), .int (xs (i + 1).toNatClampNeg), .ref (ad 530)]) (rest := []) (gx_fix F) (c_L_above l hlt sa D ad cy N H.size hN hI cd.1 cd.2 hc2) (vx_cwSW 3 hts gL_law__L_above rfl rfl rfl (by decide +kernel) ⟨by decide, by decide⟩) (gx_pre F G) rfl rfl hl.1 rfl (lv_room (Nat.le_of_ble_eq_true rfl)) dL_law__1830 ⟨by show kc + 1 ≤ 600128; omega, by show ks + 6 ≤ 7301098; omega⟩) (fun H locs G => ?_)
  obtain ⟨cd5, ecd5⟩ : ∃ z : gm × gm, z = (c4, cd.2) := ⟨_, rfl⟩
  replace G : gW D ad cy N A s.heap cd5.1 cd5.2 H locs := by rw [ecd5]; exact G
  replace h := gv_s h cd5 ecd5
  refine lv_istore (lv' := [(5, .int r3), (0, .ref b), (1, .ref (ad 0)), (2, .ref (ad 55)), (3, .ref (ad 530)), (4, .int i)]) hx hb dL_law__1833 hl (by decide) rfl (fun ls hl => ?_)
  refine lv_aload_n hx hb dL_law__1835 rfl (lv_at hl 3 rfl) ?_
  refine lv_aload_n hx hb dL_law__1836 rfl (lv_at hl 1 rfl) ?_
  refine lv_iload hx hb dL_law__1837 (lv_at hl 5 rfl) ?_
  refine lv_iconst (v := 1) hx hb dL_law__1839 (by decide) ?_
  refine lv_iadd hx hb dL_law__1840 ?_
  obtain ⟨hi6, h⟩ := gc_s h
  refine va_sld hx hb hX hbl hbA G.2 (gin hi6) dL_law__1841 ?_
  obtain ⟨r8, c9, hc7, h⟩ := gb2_s h
  refine gx_calli F G (va_runV (As := [.int (xs (i + 1).toNatClampNeg)]) (rest := []) (gx_fix F) (c_X10_above l sa D ad cy N H.size (Nat.le_trans (by decide) hN) hI cd5.1 cd5.2 hc7) (cwV 1 hts gL_law__X10_above rfl rfl rfl (by decide +kernel) ⟨by decide, by decide⟩) (gx_rec F G ht55 (gwe_10 hk55) rfl) rfl rfl hl.1 rfl (lv_room (Nat.le_of_ble_eq_true rfl)) dL_law__1842 ⟨by show kc + 1 + 0 ≤ 600128; omega, by show ks + 6 + 0 ≤ 7301098; omega⟩) (fun H locs G => ?_)
  obtain ⟨cd10, ecd10⟩ : ∃ z : gm × gm, z = (cd5.1, c9) := ⟨_, rfl⟩
  replace G : gW D ad cy N A s.heap cd10.1 cd10.2 H locs := by rw [ecd10]; exact G
  replace h := gv_s h cd10 ecd10
  refine lv_istore (lv' := [(6, .int r8), (5, .int r3), (0, .ref b), (1, .ref (ad 0)), (2, .ref (ad 55)), (3, .ref (ad 530)), (4, .int i)]) hx hb dL_law__1845 hl (by decide) rfl (fun ls hl => ?_)
  refine lv_aload_n hx hb dL_law__1847 rfl (lv_at hl 4 rfl) ?_
  obtain ⟨r12, hc11, h⟩ := gb_s h
  refine gx_calli F G (va_runV (As := []) (rest := []) (gx_fix F) (c_X10_thrown l sa D ad cy N H.size (Nat.le_trans (by decide) hN) hI cd10.1 cd10.2 hc11) (cwV 0 hts gL_law__X10_thrown rfl rfl rfl (by decide +kernel) ⟨by decide, by decide⟩) (gx_rec F G ht55 (gwe_10 hk55) rfl) rfl rfl hl.1 rfl (lv_room (Nat.le_of_ble_eq_true rfl)) dL_law__1848 ⟨by show kc + 1 + 0 ≤ 600128; omega, by show ks + 6 + 0 ≤ 7301098; omega⟩) (fun H locs G => ?_)
  refine lv_iload hx hb dL_law__1851 (lv_at hl 1 rfl) ?_
  refine lv_icmp_eq (tgt := 1858) hx hb dL_law__1853 (by decide) (fun q13 => ?_) (fun q13 => ?_)
  · replace h := gt_s q13 h
    refine lv_iload hx hb dL_law__1858 (lv_at hl 1 rfl) ?_
    refine lv_if_ne (tgt := 1875) hx hb dL_law__1860 (by decide) (fun q14 => ?_) (fun q14 => ?_)
    · replace h := gf_s q14 h
      refine lv_goto (tgt := 2288) hx hb dL_law__1875 (by decide) ?_
      cases h
      exact J _ _ _ G (lv_sub hl [2, 3, 4, 5, 6] rfl)
    · replace h := gt_s q14 h
      refine lv_aload_n hx hb dL_law__1863 rfl (lv_at hl 5 rfl) ?_
      refine lv_iconst (v := 0) hx hb dL_law__1864 (by decide) ?_
      refine gx_la F G hk530 ht530 hn530 (by decide) dL_law__1865 ?_
      refine lv_iload hx hb dL_law__1866 (lv_at hl 0 rfl) ?_
      refine lv_i2l hx hb dL_law__1868 rfl ?_
      refine W.lcmp hx hb dL_law__1869 ?_
      refine lv_if_eq (tgt := 1875) hx hb dL_law__1870 (by decide) (fun q15 => ?_) (fun q15 => ?_)
      · replace h := gt_s q15 h
        refine lv_goto (tgt := 2288) hx hb dL_law__1875 (by decide) ?_
        cases h
        exact J _ _ _ G (lv_sub hl [2, 3, 4, 5, 6] rfl)
      · replace h := gf_s q15 h
        refine lv_iconst (v := 0) hx hb dL_law__1873 (by decide) ?_
        cases h
  · replace h := gf_s q13 h
    refine lv_iconst (v := 0) hx hb dL_law__1856 (by decide) ?_
    cases h
def m_law_28 (n : Nat) (xs : Nat → Int32) (L : Nat) (i : Int32) (cd : gm × gm) : Option (gm × gm) :=
  gc (0 ≤ (i + 1).toInt ∧ (i + 1).toInt < (L : Nat)) (gb2 (m_L_alike n 0 (xs (i + 1).toNatClampNeg) 530 cd.1) (fun (r3 : Int32) (c4 : gm) => gv ((c4, cd.2) : gm × gm) (fun (cd5 : gm × gm) => gc (0 ≤ (i + 1).toInt ∧ (i + 1).toInt < (L : Nat)) (gb2 (m_X10_alike n 55 (xs (i + 1).toNatClampNeg) cd5.2) (fun (r8 : Int32) (c9 : gm) => gv ((cd5.1, c9) : gm × gm) (fun (cd10 : gm × gm) => gb (m_X10_thrown 55 cd10.2) (fun (r12 : Int32) => (if r12 = r3 then (if r3 = 0 then (if (lg_cmp (cd10.1.2.1 530 (0 : Int32).toNatClampNeg) (Int32.toInt64 r8)) = 0 then some cd10 else none) else some cd10) else none))))))))
set_option maxHeartbeats 4000000 in
set_option maxRecDepth 100000 in
theorem law_28 {p : Program} {l : Launch} {e : Env} {s : State} {m : MethodId} {below : List Frame} {meth : Method} {cod : Code} {H : Heap} {locs : List Loc} {Q : State → Prop} {sa : gSa} {D : va_G} {A : Nat → Prop} {ad : Nat → Nat} {cy : Nat → ClassId} {N : Nat} (hlt : l.stackTraces = false) (hN : 531 ≤ N) {b L n kc ks : Nat} {xs : Nat → Int32} {ls : Array Slot} {i : Int32} {cd cd2 : gm × gm} (F : gF sa D ad cy N A p s m #[Value.ref b] cod cL_law_ 8 wsL_law_ RL) (hX : va_X b L xs s s.heap) (hbl : b < s.heap.size) (hbA : ¬ A b) (hkc : kc + 1 ≤ 600128) (hks : ks + 6 ≤ 7301098) (h : m_law_28 n xs L i cd = some cd2) (G : gW D ad cy N A s.heap cd.1 cd.2 H locs) (hl : lv_has ls 8 [(0, .ref b), (1, .ref (ad 0)), (2, .ref (ad 55)), (3, .ref (ad 530)), (4, .int i)]) (J : ∀ (H : Heap) (locs : List Loc) (ls : Array Slot), gW D ad cy N A s.heap cd2.1 cd2.2 H locs → lv_has ls 8 [(0, .ref b), (1, .ref (ad 0)), (2, .ref (ad 55)), (3, .ref (ad 530)), (4, .int i)] → W p l e room_1 s m #[Value.ref b] below meth cod H locs (kc + 1) (ks + 6) Q (F0 m 2288 ls [])) : W p l e room_1 s m #[Value.ref b] below meth cod H locs kc ks Q (F0 m 1878 ls []) := by
  obtain ⟨hx, hb, hml, hown, hts, hK, hI, hA, hZ, hZZ⟩ := id F
  have hk0 : gck 0 = 9 := rfl
  have hk55 : gck 55 = 10 := rfl
  have hk530 : gck 530 = 26 := rfl
  have hn530 : gal 530 = 1 := rfl
  have ht0 : 0 < N := Nat.lt_of_lt_of_le (by decide) hN
  have ht55 : 55 < N := Nat.lt_of_lt_of_le (by decide) hN
  have ht530 : 530 < N := Nat.lt_of_lt_of_le (by decide) hN
  unfold m_law_28 at h
  refine lv_aload_n hx hb dL_law__1878 rfl (lv_at hl 1 rfl) ?_
  refine lv_aload_n hx hb dL_law__1879 rfl (lv_at hl 0 rfl) ?_
  refine lv_iload hx hb dL_law__1880 (lv_at hl 4 rfl) ?_
  refine lv_iconst (v := 1) hx hb dL_law__1882 (by decide) ?_
  refine lv_iadd hx hb dL_law__1883 ?_
  obtain ⟨hi1, h⟩ := gc_s h
  refine va_sld hx hb hX hbl hbA G.2 (gin hi1) dL_law__1884 ?_
  refine lv_aload_n hx hb dL_law__1885 rfl (lv_at hl 3 rfl) ?_
  obtain ⟨r3, c4, hc2, h⟩ := gb2_s h
  refine gx_calliX F G (vx_runSW (As := [.ref (ad 0), .int (xs (i + 1).toNatClampNeg), .ref (ad 530)]) (rest := []) (gx_fix F) (c_L_alike l hlt sa D ad cy N H.size hN hI cd.1 cd.2 hc2) (vx_cwSW 3 hts gL_law__L_alike rfl rfl rfl (by decide +kernel) ⟨by decide, by decide⟩) (gx_pre F G) rfl rfl hl.1 rfl (lv_room (Nat.le_of_ble_eq_true rfl)) dL_law__1886 ⟨by show kc + 1 ≤ 600128; omega, by show ks + 6 ≤ 7301098; omega⟩) (fun H locs G => ?_)
  obtain ⟨cd5, ecd5⟩ : ∃ z : gm × gm, z = (c4, cd.2) := ⟨_, rfl⟩
  replace G : gW D ad cy N A s.heap cd5.1 cd5.2 H locs := by rw [ecd5]; exact G
  replace h := gv_s h cd5 ecd5
  refine lv_istore (lv' := [(5, .int r3), (0, .ref b), (1, .ref (ad 0)), (2, .ref (ad 55)), (3, .ref (ad 530)), (4, .int i)]) hx hb dL_law__1889 hl (by decide) rfl (fun ls hl => ?_)
  refine lv_aload_n hx hb dL_law__1891 rfl (lv_at hl 3 rfl) ?_
  refine lv_aload_n hx hb dL_law__1892 rfl (lv_at hl 1 rfl) ?_
  refine lv_iload hx hb dL_law__1893 (lv_at hl 5 rfl) ?_
  refine lv_iconst (v := 1) hx hb dL_law__1895 (by decide) ?_
  refine lv_iadd hx hb dL_law__1896 ?_
  obtain ⟨hi6, h⟩ := gc_s h
  refine va_sld hx hb hX hbl hbA G.2 (gin hi6) dL_law__1897 ?_
  obtain ⟨r8, c9, hc7, h⟩ := gb2_s h
  refine gx_calli F G (va_runV (As := [.int (xs (i + 1).toNatClampNeg)]) (rest := []) (gx_fix F) (c_X10_alike l sa D ad cy N H.size (Nat.le_trans (by decide) hN) hI cd5.1 cd5.2 hc7) (cwV 1 hts gL_law__X10_alike rfl rfl rfl (by decide +kernel) ⟨by decide, by decide⟩) (gx_rec F G ht55 (gwe_10 hk55) rfl) rfl rfl hl.1 rfl (lv_room (Nat.le_of_ble_eq_true rfl)) dL_law__1898 ⟨by show kc + 1 + 0 ≤ 600128; omega, by show ks + 6 + 0 ≤ 7301098; omega⟩) (fun H locs G => ?_)
  obtain ⟨cd10, ecd10⟩ : ∃ z : gm × gm, z = (cd5.1, c9) := ⟨_, rfl⟩
  replace G : gW D ad cy N A s.heap cd10.1 cd10.2 H locs := by rw [ecd10]; exact G
  replace h := gv_s h cd10 ecd10
  refine lv_istore (lv' := [(6, .int r8), (5, .int r3), (0, .ref b), (1, .ref (ad 0)), (2, .ref (ad 55)), (3, .ref (ad 530)), (4, .int i)]) hx hb dL_law__1901 hl (by decide) rfl (fun ls hl => ?_)
  refine lv_aload_n hx hb dL_law__1903 rfl (lv_at hl 4 rfl) ?_
  obtain ⟨r12, hc11, h⟩ := gb_s h
  refine gx_calli F G (va_runV (As := []) (rest := []) (gx_fix F) (c_X10_thrown l sa D ad cy N H.size (Nat.le_trans (by decide) hN) hI cd10.1 cd10.2 hc11) (cwV 0 hts gL_law__X10_thrown rfl rfl rfl (by decide +kernel) ⟨by decide, by decide⟩) (gx_rec F G ht55 (gwe_10 hk55) rfl) rfl rfl hl.1 rfl (lv_room (Nat.le_of_ble_eq_true rfl)) dL_law__1904 ⟨by show kc + 1 + 0 ≤ 600128; omega, by show ks + 6 + 0 ≤ 7301098; omega⟩) (fun H locs G => ?_)
  refine lv_iload hx hb dL_law__1907 (lv_at hl 1 rfl) ?_
  refine lv_icmp_eq (tgt := 1914) hx hb dL_law__1909 (by decide) (fun q13 => ?_) (fun q13 => ?_)
  · replace h := gt_s q13 h
    refine lv_iload hx hb dL_law__1914 (lv_at hl 1 rfl) ?_
    refine lv_if_ne (tgt := 1931) hx hb dL_law__1916 (by decide) (fun q14 => ?_) (fun q14 => ?_)
    · replace h := gf_s q14 h
      refine lv_goto (tgt := 2288) hx hb dL_law__1931 (by decide) ?_
      cases h
      exact J _ _ _ G (lv_sub hl [2, 3, 4, 5, 6] rfl)
    · replace h := gt_s q14 h
      refine lv_aload_n hx hb dL_law__1919 rfl (lv_at hl 5 rfl) ?_
      refine lv_iconst (v := 0) hx hb dL_law__1920 (by decide) ?_
      refine gx_la F G hk530 ht530 hn530 (by decide) dL_law__1921 ?_
      refine lv_iload hx hb dL_law__1922 (lv_at hl 0 rfl) ?_
      refine lv_i2l hx hb dL_law__1924 rfl ?_
      refine W.lcmp hx hb dL_law__1925 ?_
      refine lv_if_eq (tgt := 1931) hx hb dL_law__1926 (by decide) (fun q15 => ?_) (fun q15 => ?_)
      · replace h := gt_s q15 h
        refine lv_goto (tgt := 2288) hx hb dL_law__1931 (by decide) ?_
        cases h
        exact J _ _ _ G (lv_sub hl [2, 3, 4, 5, 6] rfl)
      · replace h := gf_s q15 h
        refine lv_iconst (v := 0) hx hb dL_law__1929 (by decide) ?_
        cases h
  · replace h := gf_s q13 h
    refine lv_iconst (v := 0) hx hb dL_law__1912 (by decide) ?_
    cases h
def m_law_29 (n : Nat) (xs : Nat → Int32) (L : Nat) (i : Int32) (cd : gm × gm) : Option (gm × gm) :=
  gc (0 ≤ (i + 1).toInt ∧ (i + 1).toInt < (L : Nat)) (gc (0 ≤ (i + 2).toInt ∧ (i + 2).toInt < (L : Nat)) (gb2 (m_L_against n 0 (xs (i + 1).toNatClampNeg) (xs (i + 2).toNatClampNeg) 530 cd.1) (fun (r4 : Int32) (c5 : gm) => gv ((c5, cd.2) : gm × gm) (fun (cd6 : gm × gm) => gc (0 ≤ (i + 1).toInt ∧ (i + 1).toInt < (L : Nat)) (gc (0 ≤ (i + 2).toInt ∧ (i + 2).toInt < (L : Nat)) (gb2 (m_X10_against n 55 (xs (i + 1).toNatClampNeg) (xs (i + 2).toNatClampNeg) cd6.2) (fun (r10 : Int32) (c11 : gm) => gv ((cd6.1, c11) : gm × gm) (fun (cd12 : gm × gm) => gb (m_X10_thrown 55 cd12.2) (fun (r14 : Int32) => (if r14 = r4 then (if r4 = 0 then (if (lg_cmp (cd12.1.2.1 530 (0 : Int32).toNatClampNeg) (Int32.toInt64 r10)) = 0 then some cd12 else none) else some cd12) else none))))))))))
set_option maxHeartbeats 4000000 in
set_option maxRecDepth 100000 in
theorem law_29 {p : Program} {l : Launch} {e : Env} {s : State} {m : MethodId} {below : List Frame} {meth : Method} {cod : Code} {H : Heap} {locs : List Loc} {Q : State → Prop} {sa : gSa} {D : va_G} {A : Nat → Prop} {ad : Nat → Nat} {cy : Nat → ClassId} {N : Nat} (hlt : l.stackTraces = false) (hN : 531 ≤ N) {b L n kc ks : Nat} {xs : Nat → Int32} {ls : Array Slot} {i : Int32} {cd cd2 : gm × gm} (F : gF sa D ad cy N A p s m #[Value.ref b] cod cL_law_ 8 wsL_law_ RL) (hX : va_X b L xs s s.heap) (hbl : b < s.heap.size) (hbA : ¬ A b) (hkc : kc + 1 ≤ 600128) (hks : ks + 6 ≤ 7301098) (h : m_law_29 n xs L i cd = some cd2) (G : gW D ad cy N A s.heap cd.1 cd.2 H locs) (hl : lv_has ls 8 [(0, .ref b), (1, .ref (ad 0)), (2, .ref (ad 55)), (3, .ref (ad 530)), (4, .int i)]) (J : ∀ (H : Heap) (locs : List Loc) (ls : Array Slot), gW D ad cy N A s.heap cd2.1 cd2.2 H locs → lv_has ls 8 [(0, .ref b), (1, .ref (ad 0)), (2, .ref (ad 55)), (3, .ref (ad 530)), (4, .int i)] → W p l e room_1 s m #[Value.ref b] below meth cod H locs (kc + 1) (ks + 6) Q (F0 m 2288 ls [])) : W p l e room_1 s m #[Value.ref b] below meth cod H locs kc ks Q (F0 m 1934 ls []) := by
  obtain ⟨hx, hb, hml, hown, hts, hK, hI, hA, hZ, hZZ⟩ := id F
  have hk0 : gck 0 = 9 := rfl
  have hk55 : gck 55 = 10 := rfl
  have hk530 : gck 530 = 26 := rfl
  have hn530 : gal 530 = 1 := rfl
  have ht0 : 0 < N := Nat.lt_of_lt_of_le (by decide) hN
  have ht55 : 55 < N := Nat.lt_of_lt_of_le (by decide) hN
  have ht530 : 530 < N := Nat.lt_of_lt_of_le (by decide) hN
  unfold m_law_29 at h
  refine lv_aload_n hx hb dL_law__1934 rfl (lv_at hl 1 rfl) ?_
  refine lv_aload_n hx hb dL_law__1935 rfl (lv_at hl 0 rfl) ?_
  refine lv_iload hx hb dL_law__1936 (lv_at hl 4 rfl) ?_
  refine lv_iconst (v := 1) hx hb dL_law__1938 (by decide) ?_
  refine lv_iadd hx hb dL_law__1939 ?_
  obtain ⟨hi1, h⟩ := gc_s h
  refine va_sld hx hb hX hbl hbA G.2 (gin hi1) dL_law__1940 ?_
  refine lv_aload_n hx hb dL_law__1941 rfl (lv_at hl 0 rfl) ?_
  refine lv_iload hx hb dL_law__1942 (lv_at hl 4 rfl) ?_
  refine lv_iconst (v := 2) hx hb dL_law__1944 (by decide) ?_
  refine lv_iadd hx hb dL_law__1945 ?_
  obtain ⟨hi2, h⟩ := gc_s h
  refine va_sld hx hb hX hbl hbA G.2 (gin hi2) dL_law__1946 ?_
  refine lv_aload_n hx hb dL_law__1947 rfl (lv_at hl 3 rfl) ?_
  obtain ⟨r4, c5, hc3, h⟩ := gb2_s h
  refine gx_calliX F G (vx_runSW (As := [.ref (ad 0), .int (xs (i + 1).toNatClampNeg), .int (xs (i + 2).toNatClampNeg), .ref (ad 530)]) (rest := []) (gx_fix F) (c_L_against l hlt sa D ad cy N H.size hN hI cd.1 cd.2 hc3) (vx_cwSW 4 hts gL_law__L_against rfl rfl rfl (by decide +kernel) ⟨by decide, by decide⟩) (gx_pre F G) rfl rfl hl.1 rfl (lv_room (Nat.le_of_ble_eq_true rfl)) dL_law__1948 ⟨by show kc + 1 ≤ 600128; omega, by show ks + 6 ≤ 7301098; omega⟩) (fun H locs G => ?_)
  obtain ⟨cd6, ecd6⟩ : ∃ z : gm × gm, z = (c5, cd.2) := ⟨_, rfl⟩
  replace G : gW D ad cy N A s.heap cd6.1 cd6.2 H locs := by rw [ecd6]; exact G
  replace h := gv_s h cd6 ecd6
  refine lv_istore (lv' := [(5, .int r4), (0, .ref b), (1, .ref (ad 0)), (2, .ref (ad 55)), (3, .ref (ad 530)), (4, .int i)]) hx hb dL_law__1951 hl (by decide) rfl (fun ls hl => ?_)
  refine lv_aload_n hx hb dL_law__1953 rfl (lv_at hl 3 rfl) ?_
  refine lv_aload_n hx hb dL_law__1954 rfl (lv_at hl 1 rfl) ?_
  refine lv_iload hx hb dL_law__1955 (lv_at hl 5 rfl) ?_
  refine lv_iconst (v := 1) hx hb dL_law__1957 (by decide) ?_
  refine lv_iadd hx hb dL_law__1958 ?_
  obtain ⟨hi7, h⟩ := gc_s h
  refine va_sld hx hb hX hbl hbA G.2 (gin hi7) dL_law__1959 ?_
  refine lv_aload_n hx hb dL_law__1960 rfl (lv_at hl 1 rfl) ?_
  refine lv_iload hx hb dL_law__1961 (lv_at hl 5 rfl) ?_
  refine lv_iconst (v := 2) hx hb dL_law__1963 (by decide) ?_
  refine lv_iadd hx hb dL_law__1964 ?_
  obtain ⟨hi8, h⟩ := gc_s h
  refine va_sld hx hb hX hbl hbA G.2 (gin hi8) dL_law__1965 ?_
  obtain ⟨r10, c11, hc9, h⟩ := gb2_s h
  refine gx_calli F G (va_runV (As := [.int (xs (i + 1).toNatClampNeg), .int (xs (i + 2).toNatClampNeg)]) (rest := []) (gx_fix F) (c_X10_against l sa D ad cy N H.size (Nat.le_trans (by decide) hN) hI cd6.1 cd6.2 hc9) (cwV 2 hts gL_law__X10_against rfl rfl rfl (by decide +kernel) ⟨by decide, by decide⟩) (gx_rec F G ht55 (gwe_10 hk55) rfl) rfl rfl hl.1 rfl (lv_room (Nat.le_of_ble_eq_true rfl)) dL_law__1966 ⟨by show kc + 1 + 0 ≤ 600128; omega, by show ks + 6 + 0 ≤ 7301098; omega⟩) (fun H locs G => ?_)
  obtain ⟨cd12, ecd12⟩ : ∃ z : gm × gm, z = (cd6.1, c11) := ⟨_, rfl⟩
  replace G : gW D ad cy N A s.heap cd12.1 cd12.2 H locs := by rw [ecd12]; exact G
  replace h := gv_s h cd12 ecd12
  refine lv_istore (lv' := [(6, .int r10), (5, .int r4), (0, .ref b), (1, .ref (ad 0)), (2, .ref (ad 55)), (3, .ref (ad 530)), (4, .int i)]) hx hb dL_law__1969 hl (by decide) rfl (fun ls hl => ?_)
  refine lv_aload_n hx hb dL_law__1971 rfl (lv_at hl 4 rfl) ?_
  obtain ⟨r14, hc13, h⟩ := gb_s h
  refine gx_calli F G (va_runV (As := []) (rest := []) (gx_fix F) (c_X10_thrown l sa D ad cy N H.size (Nat.le_trans (by decide) hN) hI cd12.1 cd12.2 hc13) (cwV 0 hts gL_law__X10_thrown rfl rfl rfl (by decide +kernel) ⟨by decide, by decide⟩) (gx_rec F G ht55 (gwe_10 hk55) rfl) rfl rfl hl.1 rfl (lv_room (Nat.le_of_ble_eq_true rfl)) dL_law__1972 ⟨by show kc + 1 + 0 ≤ 600128; omega, by show ks + 6 + 0 ≤ 7301098; omega⟩) (fun H locs G => ?_)
  refine lv_iload hx hb dL_law__1975 (lv_at hl 1 rfl) ?_
  refine lv_icmp_eq (tgt := 1982) hx hb dL_law__1977 (by decide) (fun q15 => ?_) (fun q15 => ?_)
  · replace h := gt_s q15 h
    refine lv_iload hx hb dL_law__1982 (lv_at hl 1 rfl) ?_
    refine lv_if_ne (tgt := 1999) hx hb dL_law__1984 (by decide) (fun q16 => ?_) (fun q16 => ?_)
    · replace h := gf_s q16 h
      refine lv_goto (tgt := 2288) hx hb dL_law__1999 (by decide) ?_
      cases h
      exact J _ _ _ G (lv_sub hl [2, 3, 4, 5, 6] rfl)
    · replace h := gt_s q16 h
      refine lv_aload_n hx hb dL_law__1987 rfl (lv_at hl 5 rfl) ?_
      refine lv_iconst (v := 0) hx hb dL_law__1988 (by decide) ?_
      refine gx_la F G hk530 ht530 hn530 (by decide) dL_law__1989 ?_
      refine lv_iload hx hb dL_law__1990 (lv_at hl 0 rfl) ?_
      refine lv_i2l hx hb dL_law__1992 rfl ?_
      refine W.lcmp hx hb dL_law__1993 ?_
      refine lv_if_eq (tgt := 1999) hx hb dL_law__1994 (by decide) (fun q17 => ?_) (fun q17 => ?_)
      · replace h := gt_s q17 h
        refine lv_goto (tgt := 2288) hx hb dL_law__1999 (by decide) ?_
        cases h
        exact J _ _ _ G (lv_sub hl [2, 3, 4, 5, 6] rfl)
      · replace h := gf_s q17 h
        refine lv_iconst (v := 0) hx hb dL_law__1997 (by decide) ?_
        cases h
  · replace h := gf_s q15 h
    refine lv_iconst (v := 0) hx hb dL_law__1980 (by decide) ?_
    cases h
def m_law_30 (n : Nat) (xs : Nat → Int32) (L : Nat) (i : Int32) (cd : gm × gm) : Option (gm × gm) :=
  gc (0 ≤ (i + 1).toInt ∧ (i + 1).toInt < (L : Nat)) (gc (0 ≤ (i + 2).toInt ∧ (i + 2).toInt < (L : Nat)) (gc (0 ≤ (i + 3).toInt ∧ (i + 3).toInt < (L : Nat)) (gc (0 ≤ (i + 4).toInt ∧ (i + 4).toInt < (L : Nat)) (gb2 (m_L_fair n 0 (xs (i + 1).toNatClampNeg) (xs (i + 2).toNatClampNeg) (xs (i + 3).toNatClampNeg) (xs (i + 4).toNatClampNeg) 530 cd.1) (fun (r6 : Int32) (c7 : gm) => gv ((c7, cd.2) : gm × gm) (fun (cd8 : gm × gm) => gc (0 ≤ (i + 1).toInt ∧ (i + 1).toInt < (L : Nat)) (gc (0 ≤ (i + 2).toInt ∧ (i + 2).toInt < (L : Nat)) (gc (0 ≤ (i + 3).toInt ∧ (i + 3).toInt < (L : Nat)) (gc (0 ≤ (i + 4).toInt ∧ (i + 4).toInt < (L : Nat)) (gb2 (m_X10_fair n 55 (xs (i + 1).toNatClampNeg) (xs (i + 2).toNatClampNeg) (xs (i + 3).toNatClampNeg) (xs (i + 4).toNatClampNeg) cd8.2) (fun (r14 : Int32) (c15 : gm) => gv ((cd8.1, c15) : gm × gm) (fun (cd16 : gm × gm) => gb (m_X10_thrown 55 cd16.2) (fun (r18 : Int32) => (if r18 = r6 then (if r6 = 0 then (if (lg_cmp (cd16.1.2.1 530 (0 : Int32).toNatClampNeg) (Int32.toInt64 r14)) = 0 then some cd16 else none) else some cd16) else none))))))))))))))
set_option maxHeartbeats 4000000 in
set_option maxRecDepth 100000 in
theorem law_30 {p : Program} {l : Launch} {e : Env} {s : State} {m : MethodId} {below : List Frame} {meth : Method} {cod : Code} {H : Heap} {locs : List Loc} {Q : State → Prop} {sa : gSa} {D : va_G} {A : Nat → Prop} {ad : Nat → Nat} {cy : Nat → ClassId} {N : Nat} (hlt : l.stackTraces = false) (hN : 531 ≤ N) {b L n kc ks : Nat} {xs : Nat → Int32} {ls : Array Slot} {i : Int32} {cd cd2 : gm × gm} (F : gF sa D ad cy N A p s m #[Value.ref b] cod cL_law_ 8 wsL_law_ RL) (hX : va_X b L xs s s.heap) (hbl : b < s.heap.size) (hbA : ¬ A b) (hkc : kc + 1 ≤ 600128) (hks : ks + 6 ≤ 7301098) (h : m_law_30 n xs L i cd = some cd2) (G : gW D ad cy N A s.heap cd.1 cd.2 H locs) (hl : lv_has ls 8 [(0, .ref b), (1, .ref (ad 0)), (2, .ref (ad 55)), (3, .ref (ad 530)), (4, .int i)]) (J : ∀ (H : Heap) (locs : List Loc) (ls : Array Slot), gW D ad cy N A s.heap cd2.1 cd2.2 H locs → lv_has ls 8 [(0, .ref b), (1, .ref (ad 0)), (2, .ref (ad 55)), (3, .ref (ad 530)), (4, .int i)] → W p l e room_1 s m #[Value.ref b] below meth cod H locs (kc + 1) (ks + 6) Q (F0 m 2288 ls [])) : W p l e room_1 s m #[Value.ref b] below meth cod H locs kc ks Q (F0 m 2002 ls []) := by
  obtain ⟨hx, hb, hml, hown, hts, hK, hI, hA, hZ, hZZ⟩ := id F
  have hk0 : gck 0 = 9 := rfl
  have hk55 : gck 55 = 10 := rfl
  have hk530 : gck 530 = 26 := rfl
  have hn530 : gal 530 = 1 := rfl
  have ht0 : 0 < N := Nat.lt_of_lt_of_le (by decide) hN
  have ht55 : 55 < N := Nat.lt_of_lt_of_le (by decide) hN
  have ht530 : 530 < N := Nat.lt_of_lt_of_le (by decide) hN
  unfold m_law_30 at h
  refine lv_aload_n hx hb dL_law__2002 rfl (lv_at hl 1 rfl) ?_
  refine lv_aload_n hx hb dL_law__2003 rfl (lv_at hl 0 rfl) ?_
  refine lv_iload hx hb dL_law__2004 (lv_at hl 4 rfl) ?_
  refine lv_iconst (v := 1) hx hb dL_law__2006 (by decide) ?_
  refine lv_iadd hx hb dL_law__2007 ?_
  obtain ⟨hi1, h⟩ := gc_s h
  refine va_sld hx hb hX hbl hbA G.2 (gin hi1) dL_law__2008 ?_
  refine lv_aload_n hx hb dL_law__2009 rfl (lv_at hl 0 rfl) ?_
  refine lv_iload hx hb dL_law__2010 (lv_at hl 4 rfl) ?_
  refine lv_iconst (v := 2) hx hb dL_law__2012 (by decide) ?_
  refine lv_iadd hx hb dL_law__2013 ?_
  obtain ⟨hi2, h⟩ := gc_s h
  refine va_sld hx hb hX hbl hbA G.2 (gin hi2) dL_law__2014 ?_
  refine lv_aload_n hx hb dL_law__2015 rfl (lv_at hl 0 rfl) ?_
  refine lv_iload hx hb dL_law__2016 (lv_at hl 4 rfl) ?_
  refine lv_iconst (v := 3) hx hb dL_law__2018 (by decide) ?_
  refine lv_iadd hx hb dL_law__2019 ?_
  obtain ⟨hi3, h⟩ := gc_s h
  refine va_sld hx hb hX hbl hbA G.2 (gin hi3) dL_law__2020 ?_
  refine lv_aload_n hx hb dL_law__2021 rfl (lv_at hl 0 rfl) ?_
  refine lv_iload hx hb dL_law__2022 (lv_at hl 4 rfl) ?_
  refine lv_iconst (v := 4) hx hb dL_law__2024 (by decide) ?_
  refine lv_iadd hx hb dL_law__2025 ?_
  obtain ⟨hi4, h⟩ := gc_s h
  refine va_sld hx hb hX hbl hbA G.2 (gin hi4) dL_law__2026 ?_
  refine lv_aload_n hx hb dL_law__2027 rfl (lv_at hl 3 rfl) ?_
  obtain ⟨r6, c7, hc5, h⟩ := gb2_s h
  refine gx_calliX F G (vx_runSW (As := [.ref (ad 0), .int (xs (i + 1).toNatClampNeg), .int (xs (i + 2).toNatClampNeg), .int (xs (i + 3).toNatClampNeg), .int (xs (i + 4).toNatClampNeg), .ref (ad 530)]) (rest := []) (gx_fix F) (c_L_fair l hlt sa D ad cy N H.size hN hI cd.1 cd.2 hc5) (vx_cwSW 6 hts gL_law__L_fair rfl rfl rfl (by decide +kernel) ⟨by decide, by decide⟩) (gx_pre F G) rfl rfl hl.1 rfl (lv_room (Nat.le_of_ble_eq_true rfl)) dL_law__2028 ⟨by show kc + 1 ≤ 600128; omega, by show ks + 6 ≤ 7301098; omega⟩) (fun H locs G => ?_)
  obtain ⟨cd8, ecd8⟩ : ∃ z : gm × gm, z = (c7, cd.2) := ⟨_, rfl⟩
  replace G : gW D ad cy N A s.heap cd8.1 cd8.2 H locs := by rw [ecd8]; exact G
  replace h := gv_s h cd8 ecd8
  refine lv_istore (lv' := [(5, .int r6), (0, .ref b), (1, .ref (ad 0)), (2, .ref (ad 55)), (3, .ref (ad 530)), (4, .int i)]) hx hb dL_law__2031 hl (by decide) rfl (fun ls hl => ?_)
  refine lv_aload_n hx hb dL_law__2033 rfl (lv_at hl 3 rfl) ?_
  refine lv_aload_n hx hb dL_law__2034 rfl (lv_at hl 1 rfl) ?_
  refine lv_iload hx hb dL_law__2035 (lv_at hl 5 rfl) ?_
  refine lv_iconst (v := 1) hx hb dL_law__2037 (by decide) ?_
  refine lv_iadd hx hb dL_law__2038 ?_
  obtain ⟨hi9, h⟩ := gc_s h
  refine va_sld hx hb hX hbl hbA G.2 (gin hi9) dL_law__2039 ?_
  refine lv_aload_n hx hb dL_law__2040 rfl (lv_at hl 1 rfl) ?_
  refine lv_iload hx hb dL_law__2041 (lv_at hl 5 rfl) ?_
  refine lv_iconst (v := 2) hx hb dL_law__2043 (by decide) ?_
  refine lv_iadd hx hb dL_law__2044 ?_
  obtain ⟨hi10, h⟩ := gc_s h
  refine va_sld hx hb hX hbl hbA G.2 (gin hi10) dL_law__2045 ?_
  refine lv_aload_n hx hb dL_law__2046 rfl (lv_at hl 1 rfl) ?_
  refine lv_iload hx hb dL_law__2047 (lv_at hl 5 rfl) ?_
  refine lv_iconst (v := 3) hx hb dL_law__2049 (by decide) ?_
  refine lv_iadd hx hb dL_law__2050 ?_
  obtain ⟨hi11, h⟩ := gc_s h
  refine va_sld hx hb hX hbl hbA G.2 (gin hi11) dL_law__2051 ?_
  refine lv_aload_n hx hb dL_law__2052 rfl (lv_at hl 1 rfl) ?_
  refine lv_iload hx hb dL_law__2053 (lv_at hl 5 rfl) ?_
  refine lv_iconst (v := 4) hx hb dL_law__2055 (by decide) ?_
  refine lv_iadd hx hb dL_law__2056 ?_
  obtain ⟨hi12, h⟩ := gc_s h
  refine va_sld hx hb hX hbl hbA G.2 (gin hi12) dL_law__2057 ?_
  obtain ⟨r14, c15, hc13, h⟩ := gb2_s h
  refine gx_calli F G (va_runV (As := [.int (xs (i + 1).toNatClampNeg), .int (xs (i + 2).toNatClampNeg), .int (xs (i + 3).toNatClampNeg), .int (xs (i + 4).toNatClampNeg)]) (rest := []) (gx_fix F) (c_X10_fair l sa D ad cy N H.size (Nat.le_trans (by decide) hN) hI cd8.1 cd8.2 hc13) (cwV 4 hts gL_law__X10_fair rfl rfl rfl (by decide +kernel) ⟨by decide, by decide⟩) (gx_rec F G ht55 (gwe_10 hk55) rfl) rfl rfl hl.1 rfl (lv_room (Nat.le_of_ble_eq_true rfl)) dL_law__2058 ⟨by show kc + 1 + 0 ≤ 600128; omega, by show ks + 6 + 0 ≤ 7301098; omega⟩) (fun H locs G => ?_)
  obtain ⟨cd16, ecd16⟩ : ∃ z : gm × gm, z = (cd8.1, c15) := ⟨_, rfl⟩
  replace G : gW D ad cy N A s.heap cd16.1 cd16.2 H locs := by rw [ecd16]; exact G
  replace h := gv_s h cd16 ecd16
  refine lv_istore (lv' := [(6, .int r14), (5, .int r6), (0, .ref b), (1, .ref (ad 0)), (2, .ref (ad 55)), (3, .ref (ad 530)), (4, .int i)]) hx hb dL_law__2061 hl (by decide) rfl (fun ls hl => ?_)
  refine lv_aload_n hx hb dL_law__2063 rfl (lv_at hl 4 rfl) ?_
  obtain ⟨r18, hc17, h⟩ := gb_s h
  refine gx_calli F G (va_runV (As := []) (rest := []) (gx_fix F) (c_X10_thrown l sa D ad cy N H.size (Nat.le_trans (by decide) hN) hI cd16.1 cd16.2 hc17) (cwV 0 hts gL_law__X10_thrown rfl rfl rfl (by decide +kernel) ⟨by decide, by decide⟩) (gx_rec F G ht55 (gwe_10 hk55) rfl) rfl rfl hl.1 rfl (lv_room (Nat.le_of_ble_eq_true rfl)) dL_law__2064 ⟨by show kc + 1 + 0 ≤ 600128; omega, by show ks + 6 + 0 ≤ 7301098; omega⟩) (fun H locs G => ?_)
  refine lv_iload hx hb dL_law__2067 (lv_at hl 1 rfl) ?_
  refine lv_icmp_eq (tgt := 2074) hx hb dL_law__2069 (by decide) (fun q19 => ?_) (fun q19 => ?_)
  · replace h := gt_s q19 h
    refine lv_iload hx hb dL_law__2074 (lv_at hl 1 rfl) ?_
    refine lv_if_ne (tgt := 2091) hx hb dL_law__2076 (by decide) (fun q20 => ?_) (fun q20 => ?_)
    · replace h := gf_s q20 h
      refine lv_goto (tgt := 2288) hx hb dL_law__2091 (by decide) ?_
      cases h
      exact J _ _ _ G (lv_sub hl [2, 3, 4, 5, 6] rfl)
    · replace h := gt_s q20 h
      refine lv_aload_n hx hb dL_law__2079 rfl (lv_at hl 5 rfl) ?_
      refine lv_iconst (v := 0) hx hb dL_law__2080 (by decide) ?_
      refine gx_la F G hk530 ht530 hn530 (by decide) dL_law__2081 ?_
      refine lv_iload hx hb dL_law__2082 (lv_at hl 0 rfl) ?_
      refine lv_i2l hx hb dL_law__2084 rfl ?_
      refine W.lcmp hx hb dL_law__2085 ?_
      refine lv_if_eq (tgt := 2091) hx hb dL_law__2086 (by decide) (fun q21 => ?_) (fun q21 => ?_)
      · replace h := gt_s q21 h
        refine lv_goto (tgt := 2288) hx hb dL_law__2091 (by decide) ?_
        cases h
        exact J _ _ _ G (lv_sub hl [2, 3, 4, 5, 6] rfl)
      · replace h := gf_s q21 h
        refine lv_iconst (v := 0) hx hb dL_law__2089 (by decide) ?_
        cases h
  · replace h := gf_s q19 h
    refine lv_iconst (v := 0) hx hb dL_law__2072 (by decide) ?_
    cases h
def m_law_31 (n : Nat) (xs : Nat → Int32) (L : Nat) (i : Int32) (cd : gm × gm) : Option (gm × gm) :=
  gc (0 ≤ (i + 1).toInt ∧ (i + 1).toInt < (L : Nat)) (gc (0 ≤ (i + 2).toInt ∧ (i + 2).toInt < (L : Nat)) (gc (0 ≤ (i + 3).toInt ∧ (i + 3).toInt < (L : Nat)) (gc (0 ≤ (i + 4).toInt ∧ (i + 4).toInt < (L : Nat)) (gc (0 ≤ (i + 5).toInt ∧ (i + 5).toInt < (L : Nat)) (gc (0 ≤ (i + 6).toInt ∧ (i + 6).toInt < (L : Nat)) (gb2 (m_L_span n 0 (xs (i + 1).toNatClampNeg) (xs (i + 2).toNatClampNeg) (xs (i + 3).toNatClampNeg) (xs (i + 4).toNatClampNeg) (xs (i + 5).toNatClampNeg) (xs (i + 6).toNatClampNeg) 530 cd.1) (fun (r8 : Int32) (c9 : gm) => gv ((c9, cd.2) : gm × gm) (fun (cd10 : gm × gm) => gc (0 ≤ (i + 1).toInt ∧ (i + 1).toInt < (L : Nat)) (gc (0 ≤ (i + 2).toInt ∧ (i + 2).toInt < (L : Nat)) (gc (0 ≤ (i + 3).toInt ∧ (i + 3).toInt < (L : Nat)) (gc (0 ≤ (i + 4).toInt ∧ (i + 4).toInt < (L : Nat)) (gc (0 ≤ (i + 5).toInt ∧ (i + 5).toInt < (L : Nat)) (gc (0 ≤ (i + 6).toInt ∧ (i + 6).toInt < (L : Nat)) (gb2 (m_X10_span n 55 (xs (i + 1).toNatClampNeg) (xs (i + 2).toNatClampNeg) (xs (i + 3).toNatClampNeg) (xs (i + 4).toNatClampNeg) (xs (i + 5).toNatClampNeg) (xs (i + 6).toNatClampNeg) cd10.2) (fun (r18 : Int32) (c19 : gm) => gv ((cd10.1, c19) : gm × gm) (fun (cd20 : gm × gm) => gb (m_X10_thrown 55 cd20.2) (fun (r22 : Int32) => (if r22 = r8 then (if r8 = 0 then (if (lg_cmp (cd20.1.2.1 530 (0 : Int32).toNatClampNeg) (Int32.toInt64 r18)) = 0 then some cd20 else none) else some cd20) else none))))))))))))))))))
set_option maxHeartbeats 4000000 in
set_option maxRecDepth 100000 in
theorem law_31 {p : Program} {l : Launch} {e : Env} {s : State} {m : MethodId} {below : List Frame} {meth : Method} {cod : Code} {H : Heap} {locs : List Loc} {Q : State → Prop} {sa : gSa} {D : va_G} {A : Nat → Prop} {ad : Nat → Nat} {cy : Nat → ClassId} {N : Nat} (hlt : l.stackTraces = false) (hN : 531 ≤ N) {b L n kc ks : Nat} {xs : Nat → Int32} {ls : Array Slot} {i : Int32} {cd cd2 : gm × gm} (F : gF sa D ad cy N A p s m #[Value.ref b] cod cL_law_ 8 wsL_law_ RL) (hX : va_X b L xs s s.heap) (hbl : b < s.heap.size) (hbA : ¬ A b) (hkc : kc + 1 ≤ 600128) (hks : ks + 6 ≤ 7301098) (h : m_law_31 n xs L i cd = some cd2) (G : gW D ad cy N A s.heap cd.1 cd.2 H locs) (hl : lv_has ls 8 [(0, .ref b), (1, .ref (ad 0)), (2, .ref (ad 55)), (3, .ref (ad 530)), (4, .int i)]) (J : ∀ (H : Heap) (locs : List Loc) (ls : Array Slot), gW D ad cy N A s.heap cd2.1 cd2.2 H locs → lv_has ls 8 [(0, .ref b), (1, .ref (ad 0)), (2, .ref (ad 55)), (3, .ref (ad 530)), (4, .int i)] → W p l e room_1 s m #[Value.ref b] below meth cod H locs (kc + 1) (ks + 6) Q (F0 m 2288 ls [])) : W p l e room_1 s m #[Value.ref b] below meth cod H locs kc ks Q (F0 m 2094 ls []) := by
  obtain ⟨hx, hb, hml, hown, hts, hK, hI, hA, hZ, hZZ⟩ := id F
  have hk0 : gck 0 = 9 := rfl
  have hk55 : gck 55 = 10 := rfl
  have hk530 : gck 530 = 26 := rfl
  have hn530 : gal 530 = 1 := rfl
  have ht0 : 0 < N := Nat.lt_of_lt_of_le (by decide) hN
  have ht55 : 55 < N := Nat.lt_of_lt_of_le (by decide) hN
  have ht530 : 530 < N := Nat.lt_of_lt_of_le (by decide) hN
  unfold m_law_31 at h
  refine lv_aload_n hx hb dL_law__2094 rfl (lv_at hl 1 rfl) ?_
  refine lv_aload_n hx hb dL_law__2095 rfl (lv_at hl 0 rfl) ?_
  refine lv_iload hx hb dL_law__2096 (lv_at hl 4 rfl) ?_
  refine lv_iconst (v := 1) hx hb dL_law__2098 (by decide) ?_
  refine lv_iadd hx hb dL_law__2099 ?_
  obtain ⟨hi1, h⟩ := gc_s h
  refine va_sld hx hb hX hbl hbA G.2 (gin hi1) dL_law__2100 ?_
  refine lv_aload_n hx hb dL_law__2101 rfl (lv_at hl 0 rfl) ?_
  refine lv_iload hx hb dL_law__2102 (lv_at hl 4 rfl) ?_
  refine lv_iconst (v := 2) hx hb dL_law__2104 (by decide) ?_
  refine lv_iadd hx hb dL_law__2105 ?_
  obtain ⟨hi2, h⟩ := gc_s h
  refine va_sld hx hb hX hbl hbA G.2 (gin hi2) dL_law__2106 ?_
  refine lv_aload_n hx hb dL_law__2107 rfl (lv_at hl 0 rfl) ?_
  refine lv_iload hx hb dL_law__2108 (lv_at hl 4 rfl) ?_
  refine lv_iconst (v := 3) hx hb dL_law__2110 (by decide) ?_
  refine lv_iadd hx hb dL_law__2111 ?_
  obtain ⟨hi3, h⟩ := gc_s h
  refine va_sld hx hb hX hbl hbA G.2 (gin hi3) dL_law__2112 ?_
  refine lv_aload_n hx hb dL_law__2113 rfl (lv_at hl 0 rfl) ?_
  refine lv_iload hx hb dL_law__2114 (lv_at hl 4 rfl) ?_
  refine lv_iconst (v := 4) hx hb dL_law__2116 (by decide) ?_
  refine lv_iadd hx hb dL_law__2117 ?_
  obtain ⟨hi4, h⟩ := gc_s h
  refine va_sld hx hb hX hbl hbA G.2 (gin hi4) dL_law__2118 ?_
  refine lv_aload_n hx hb dL_law__2119 rfl (lv_at hl 0 rfl) ?_
  refine lv_iload hx hb dL_law__2120 (lv_at hl 4 rfl) ?_
  refine lv_iconst (v := 5) hx hb dL_law__2122 (by decide) ?_
  refine lv_iadd hx hb dL_law__2123 ?_
  obtain ⟨hi5, h⟩ := gc_s h
  refine va_sld hx hb hX hbl hbA G.2 (gin hi5) dL_law__2124 ?_
  refine lv_aload_n hx hb dL_law__2125 rfl (lv_at hl 0 rfl) ?_
  refine lv_iload hx hb dL_law__2126 (lv_at hl 4 rfl) ?_
  refine lv_bipush (v := 6) hx hb dL_law__2128 (by decide) ?_
  refine lv_iadd hx hb dL_law__2130 ?_
  obtain ⟨hi6, h⟩ := gc_s h
  refine va_sld hx hb hX hbl hbA G.2 (gin hi6) dL_law__2131 ?_
  refine lv_aload_n hx hb dL_law__2132 rfl (lv_at hl 3 rfl) ?_
  obtain ⟨r8, c9, hc7, h⟩ := gb2_s h
  refine gx_calliX F G (vx_runSW (As := [.ref (ad 0), .int (xs (i + 1).toNatClampNeg), .int (xs (i + 2).toNatClampNeg), .int (xs (i + 3).toNatClampNeg), .int (xs (i + 4).toNatClampNeg), .int (xs (i + 5).toNatClampNeg), .int (xs (i + 6).toNatClampNeg), .ref (ad 530)]) (rest := []) (gx_fix F) (c_L_span l hlt sa D ad cy N H.size hN hI cd.1 cd.2 hc7) (vx_cwSW 8 hts gL_law__L_span rfl rfl rfl (by decide +kernel) ⟨by decide, by decide⟩) (gx_pre F G) rfl rfl hl.1 rfl (lv_room (Nat.le_of_ble_eq_true rfl)) dL_law__2133 ⟨by show kc + 1 ≤ 600128; omega, by show ks + 6 ≤ 7301098; omega⟩) (fun H locs G => ?_)
  obtain ⟨cd10, ecd10⟩ : ∃ z : gm × gm, z = (c9, cd.2) := ⟨_, rfl⟩
  replace G : gW D ad cy N A s.heap cd10.1 cd10.2 H locs := by rw [ecd10]; exact G
  replace h := gv_s h cd10 ecd10
  refine lv_istore (lv' := [(5, .int r8), (0, .ref b), (1, .ref (ad 0)), (2, .ref (ad 55)), (3, .ref (ad 530)), (4, .int i)]) hx hb dL_law__2136 hl (by decide) rfl (fun ls hl => ?_)
  refine lv_aload_n hx hb dL_law__2138 rfl (lv_at hl 3 rfl) ?_
  refine lv_aload_n hx hb dL_law__2139 rfl (lv_at hl 1 rfl) ?_
  refine lv_iload hx hb dL_law__2140 (lv_at hl 5 rfl) ?_
  refine lv_iconst (v := 1) hx hb dL_law__2142 (by decide) ?_
  refine lv_iadd hx hb dL_law__2143 ?_
  obtain ⟨hi11, h⟩ := gc_s h
  refine va_sld hx hb hX hbl hbA G.2 (gin hi11) dL_law__2144 ?_
  refine lv_aload_n hx hb dL_law__2145 rfl (lv_at hl 1 rfl) ?_
  refine lv_iload hx hb dL_law__2146 (lv_at hl 5 rfl) ?_
  refine lv_iconst (v := 2) hx hb dL_law__2148 (by decide) ?_
  refine lv_iadd hx hb dL_law__2149 ?_
  obtain ⟨hi12, h⟩ := gc_s h
  refine va_sld hx hb hX hbl hbA G.2 (gin hi12) dL_law__2150 ?_
  refine lv_aload_n hx hb dL_law__2151 rfl (lv_at hl 1 rfl) ?_
  refine lv_iload hx hb dL_law__2152 (lv_at hl 5 rfl) ?_
  refine lv_iconst (v := 3) hx hb dL_law__2154 (by decide) ?_
  refine lv_iadd hx hb dL_law__2155 ?_
  obtain ⟨hi13, h⟩ := gc_s h
  refine va_sld hx hb hX hbl hbA G.2 (gin hi13) dL_law__2156 ?_
  refine lv_aload_n hx hb dL_law__2157 rfl (lv_at hl 1 rfl) ?_
  refine lv_iload hx hb dL_law__2158 (lv_at hl 5 rfl) ?_
  refine lv_iconst (v := 4) hx hb dL_law__2160 (by decide) ?_
  refine lv_iadd hx hb dL_law__2161 ?_
  obtain ⟨hi14, h⟩ := gc_s h
  refine va_sld hx hb hX hbl hbA G.2 (gin hi14) dL_law__2162 ?_
  refine lv_aload_n hx hb dL_law__2163 rfl (lv_at hl 1 rfl) ?_
  refine lv_iload hx hb dL_law__2164 (lv_at hl 5 rfl) ?_
  refine lv_iconst (v := 5) hx hb dL_law__2166 (by decide) ?_
  refine lv_iadd hx hb dL_law__2167 ?_
  obtain ⟨hi15, h⟩ := gc_s h
  refine va_sld hx hb hX hbl hbA G.2 (gin hi15) dL_law__2168 ?_
  refine lv_aload_n hx hb dL_law__2169 rfl (lv_at hl 1 rfl) ?_
  refine lv_iload hx hb dL_law__2170 (lv_at hl 5 rfl) ?_
  refine lv_bipush (v := 6) hx hb dL_law__2172 (by decide) ?_
  refine lv_iadd hx hb dL_law__2174 ?_
  obtain ⟨hi16, h⟩ := gc_s h
  refine va_sld hx hb hX hbl hbA G.2 (gin hi16) dL_law__2175 ?_
  obtain ⟨r18, c19, hc17, h⟩ := gb2_s h
  refine gx_calli F G (va_runV (As := [.int (xs (i + 1).toNatClampNeg), .int (xs (i + 2).toNatClampNeg), .int (xs (i + 3).toNatClampNeg), .int (xs (i + 4).toNatClampNeg), .int (xs (i + 5).toNatClampNeg), .int (xs (i + 6).toNatClampNeg)]) (rest := []) (gx_fix F) (c_X10_span l sa D ad cy N H.size (Nat.le_trans (by decide) hN) hI cd10.1 cd10.2 hc17) (cwV 6 hts gL_law__X10_span rfl rfl rfl (by decide +kernel) ⟨by decide, by decide⟩) (gx_rec F G ht55 (gwe_10 hk55) rfl) rfl rfl hl.1 rfl (lv_room (Nat.le_of_ble_eq_true rfl)) dL_law__2176 ⟨by show kc + 1 + 0 ≤ 600128; omega, by show ks + 6 + 0 ≤ 7301098; omega⟩) (fun H locs G => ?_)
  obtain ⟨cd20, ecd20⟩ : ∃ z : gm × gm, z = (cd10.1, c19) := ⟨_, rfl⟩
  replace G : gW D ad cy N A s.heap cd20.1 cd20.2 H locs := by rw [ecd20]; exact G
  replace h := gv_s h cd20 ecd20
  refine lv_istore (lv' := [(6, .int r18), (5, .int r8), (0, .ref b), (1, .ref (ad 0)), (2, .ref (ad 55)), (3, .ref (ad 530)), (4, .int i)]) hx hb dL_law__2179 hl (by decide) rfl (fun ls hl => ?_)
  refine lv_aload_n hx hb dL_law__2181 rfl (lv_at hl 4 rfl) ?_
  obtain ⟨r22, hc21, h⟩ := gb_s h
  refine gx_calli F G (va_runV (As := []) (rest := []) (gx_fix F) (c_X10_thrown l sa D ad cy N H.size (Nat.le_trans (by decide) hN) hI cd20.1 cd20.2 hc21) (cwV 0 hts gL_law__X10_thrown rfl rfl rfl (by decide +kernel) ⟨by decide, by decide⟩) (gx_rec F G ht55 (gwe_10 hk55) rfl) rfl rfl hl.1 rfl (lv_room (Nat.le_of_ble_eq_true rfl)) dL_law__2182 ⟨by show kc + 1 + 0 ≤ 600128; omega, by show ks + 6 + 0 ≤ 7301098; omega⟩) (fun H locs G => ?_)
  refine lv_iload hx hb dL_law__2185 (lv_at hl 1 rfl) ?_
  refine lv_icmp_eq (tgt := 2192) hx hb dL_law__2187 (by decide) (fun q23 => ?_) (fun q23 => ?_)
  · replace h := gt_s q23 h
    refine lv_iload hx hb dL_law__2192 (lv_at hl 1 rfl) ?_
    refine lv_if_ne (tgt := 2209) hx hb dL_law__2194 (by decide) (fun q24 => ?_) (fun q24 => ?_)
    · replace h := gf_s q24 h
      refine lv_goto (tgt := 2288) hx hb dL_law__2209 (by decide) ?_
      cases h
      exact J _ _ _ G (lv_sub hl [2, 3, 4, 5, 6] rfl)
    · replace h := gt_s q24 h
      refine lv_aload_n hx hb dL_law__2197 rfl (lv_at hl 5 rfl) ?_
      refine lv_iconst (v := 0) hx hb dL_law__2198 (by decide) ?_
      refine gx_la F G hk530 ht530 hn530 (by decide) dL_law__2199 ?_
      refine lv_iload hx hb dL_law__2200 (lv_at hl 0 rfl) ?_
      refine lv_i2l hx hb dL_law__2202 rfl ?_
      refine W.lcmp hx hb dL_law__2203 ?_
      refine lv_if_eq (tgt := 2209) hx hb dL_law__2204 (by decide) (fun q25 => ?_) (fun q25 => ?_)
      · replace h := gt_s q25 h
        refine lv_goto (tgt := 2288) hx hb dL_law__2209 (by decide) ?_
        cases h
        exact J _ _ _ G (lv_sub hl [2, 3, 4, 5, 6] rfl)
      · replace h := gf_s q25 h
        refine lv_iconst (v := 0) hx hb dL_law__2207 (by decide) ?_
        cases h
  · replace h := gf_s q23 h
    refine lv_iconst (v := 0) hx hb dL_law__2190 (by decide) ?_
    cases h
def m_law_32 (n : Nat) (xs : Nat → Int32) (L : Nat) (i : Int32) (cd : gm × gm) : Option (gm × gm) :=
  gb2 (m_X9_image 0 cd.1) (fun (r2 : Int32) (c3 : gm) => gv ((c3, cd.2) : gm × gm) (fun (cd4 : gm × gm) => gb2 (m_X10_image n 55 cd4.2) (fun (r6 : Int32) (c7 : gm) => gv ((cd4.1, c7) : gm × gm) (fun (cd8 : gm × gm) => (if r2 = r6 then some cd8 else none)))))
set_option maxHeartbeats 4000000 in
set_option maxRecDepth 100000 in
theorem law_32 {p : Program} {l : Launch} {e : Env} {s : State} {m : MethodId} {below : List Frame} {meth : Method} {cod : Code} {H : Heap} {locs : List Loc} {Q : State → Prop} {sa : gSa} {D : va_G} {A : Nat → Prop} {ad : Nat → Nat} {cy : Nat → ClassId} {N : Nat} (hlt : l.stackTraces = false) (hN : 531 ≤ N) {b L n kc ks : Nat} {xs : Nat → Int32} {ls : Array Slot} {i : Int32} {cd cd2 : gm × gm} (F : gF sa D ad cy N A p s m #[Value.ref b] cod cL_law_ 8 wsL_law_ RL) (hX : va_X b L xs s s.heap) (hbl : b < s.heap.size) (hbA : ¬ A b) (hkc : kc + 1 ≤ 600128) (hks : ks + 6 ≤ 7301098) (h : m_law_32 n xs L i cd = some cd2) (G : gW D ad cy N A s.heap cd.1 cd.2 H locs) (hl : lv_has ls 8 [(0, .ref b), (1, .ref (ad 0)), (2, .ref (ad 55)), (3, .ref (ad 530)), (4, .int i)]) (J : ∀ (H : Heap) (locs : List Loc) (ls : Array Slot), gW D ad cy N A s.heap cd2.1 cd2.2 H locs → lv_has ls 8 [(0, .ref b), (1, .ref (ad 0)), (2, .ref (ad 55)), (3, .ref (ad 530)), (4, .int i)] → W p l e room_1 s m #[Value.ref b] below meth cod H locs (kc + 1) (ks + 6) Q (F0 m 2288 ls [])) : W p l e room_1 s m #[Value.ref b] below meth cod H locs kc ks Q (F0 m 2212 ls []) := by
  obtain ⟨hx, hb, hml, hown, hts, hK, hI, hA, hZ, hZZ⟩ := id F
  have hk0 : gck 0 = 9 := rfl
  have hk55 : gck 55 = 10 := rfl
  have hk530 : gck 530 = 26 := rfl
  have hn530 : gal 530 = 1 := rfl
  have ht0 : 0 < N := Nat.lt_of_lt_of_le (by decide) hN
  have ht55 : 55 < N := Nat.lt_of_lt_of_le (by decide) hN
  have ht530 : 530 < N := Nat.lt_of_lt_of_le (by decide) hN
  unfold m_law_32 at h
  refine lv_aload_n hx hb dL_law__2212 rfl (lv_at hl 1 rfl) ?_
  obtain ⟨r2, c3, hc1, h⟩ := gb2_s h
  refine gx_calli F G (va_runV (As := []) (rest := []) (gx_fix F) (c_X9_image l sa D ad cy N H.size (Nat.le_trans (by decide) hN) hI cd.1 cd.2 hc1) (cwV 0 hts gL_law__X9_image rfl rfl rfl (by decide +kernel) ⟨by decide, by decide⟩) (gx_rec F G ht0 (gwe_9 hk0) rfl) rfl rfl hl.1 rfl (lv_room (Nat.le_of_ble_eq_true rfl)) dL_law__2213 ⟨by show kc + 0 ≤ 600128; omega, by show ks + 0 ≤ 7301098; omega⟩) (fun H locs G => ?_)
  obtain ⟨cd4, ecd4⟩ : ∃ z : gm × gm, z = (c3, cd.2) := ⟨_, rfl⟩
  replace G : gW D ad cy N A s.heap cd4.1 cd4.2 H locs := by rw [ecd4]; exact G
  replace h := gv_s h cd4 ecd4
  refine lv_aload_n hx hb dL_law__2216 rfl (lv_at hl 2 rfl) ?_
  obtain ⟨r6, c7, hc5, h⟩ := gb2_s h
  refine gx_calli F G (va_runV (As := []) (rest := [.int r2]) (gx_fix F) (c_X10_image l sa D ad cy N H.size (Nat.le_trans (by decide) hN) hI cd4.1 cd4.2 hc5) (cwV 0 hts gL_law__X10_image rfl rfl rfl (by decide +kernel) ⟨by decide, by decide⟩) (gx_rec F G ht55 (gwe_10 hk55) rfl) rfl rfl hl.1 rfl (lv_room (Nat.le_of_ble_eq_true rfl)) dL_law__2217 ⟨by show kc + 0 ≤ 600128; omega, by show ks + 0 ≤ 7301098; omega⟩) (fun H locs G => ?_)
  obtain ⟨cd8, ecd8⟩ : ∃ z : gm × gm, z = (cd4.1, c7) := ⟨_, rfl⟩
  replace G : gW D ad cy N A s.heap cd8.1 cd8.2 H locs := by rw [ecd8]; exact G
  replace h := gv_s h cd8 ecd8
  refine lv_icmp_eq (tgt := 2288) hx hb dL_law__2220 (by decide) (fun q9 => ?_) (fun q9 => ?_)
  · replace h := gt_s q9 h
    cases h
    exact W.widen (k := kc + 1) (n := ks + 6) (by omega) (by omega) (J _ _ _ G hl)
  · replace h := gf_s q9 h
    refine lv_iconst (v := 0) hx hb dL_law__2223 (by decide) ?_
    cases h
def m_law_33 (n : Nat) (xs : Nat → Int32) (L : Nat) (i : Int32) (cd : gm × gm) : Option (gm × gm) :=
  gb2 (m_X9_restore 0 cd.1) (fun (r2 : Int32) (c3 : gm) => gv ((c3, cd.2) : gm × gm) (fun (cd4 : gm × gm) => gb2 (m_X10_restore n 55 cd4.2) (fun (r6 : Int32) (c7 : gm) => gv ((cd4.1, c7) : gm × gm) (fun (cd8 : gm × gm) => (if r2 = r6 then some cd8 else none)))))
set_option maxHeartbeats 4000000 in
set_option maxRecDepth 100000 in
theorem law_33 {p : Program} {l : Launch} {e : Env} {s : State} {m : MethodId} {below : List Frame} {meth : Method} {cod : Code} {H : Heap} {locs : List Loc} {Q : State → Prop} {sa : gSa} {D : va_G} {A : Nat → Prop} {ad : Nat → Nat} {cy : Nat → ClassId} {N : Nat} (hlt : l.stackTraces = false) (hN : 531 ≤ N) {b L n kc ks : Nat} {xs : Nat → Int32} {ls : Array Slot} {i : Int32} {cd cd2 : gm × gm} (F : gF sa D ad cy N A p s m #[Value.ref b] cod cL_law_ 8 wsL_law_ RL) (hX : va_X b L xs s s.heap) (hbl : b < s.heap.size) (hbA : ¬ A b) (hkc : kc + 1 ≤ 600128) (hks : ks + 6 ≤ 7301098) (h : m_law_33 n xs L i cd = some cd2) (G : gW D ad cy N A s.heap cd.1 cd.2 H locs) (hl : lv_has ls 8 [(0, .ref b), (1, .ref (ad 0)), (2, .ref (ad 55)), (3, .ref (ad 530)), (4, .int i)]) (J : ∀ (H : Heap) (locs : List Loc) (ls : Array Slot), gW D ad cy N A s.heap cd2.1 cd2.2 H locs → lv_has ls 8 [(0, .ref b), (1, .ref (ad 0)), (2, .ref (ad 55)), (3, .ref (ad 530)), (4, .int i)] → W p l e room_1 s m #[Value.ref b] below meth cod H locs (kc + 1) (ks + 6) Q (F0 m 2288 ls [])) : W p l e room_1 s m #[Value.ref b] below meth cod H locs kc ks Q (F0 m 2225 ls []) := by
  obtain ⟨hx, hb, hml, hown, hts, hK, hI, hA, hZ, hZZ⟩ := id F
  have hk0 : gck 0 = 9 := rfl
  have hk55 : gck 55 = 10 := rfl
  have hk530 : gck 530 = 26 := rfl
  have hn530 : gal 530 = 1 := rfl
  have ht0 : 0 < N := Nat.lt_of_lt_of_le (by decide) hN
  have ht55 : 55 < N := Nat.lt_of_lt_of_le (by decide) hN
  have ht530 : 530 < N := Nat.lt_of_lt_of_le (by decide) hN
  unfold m_law_33 at h
  refine lv_aload_n hx hb dL_law__2225 rfl (lv_at hl 1 rfl) ?_
  obtain ⟨r2, c3, hc1, h⟩ := gb2_s h
  refine gx_calli F G (va_runV (As := []) (rest := []) (gx_fix F) (c_X9_restore l sa D ad cy N H.size (Nat.le_trans (by decide) hN) hI cd.1 cd.2 hc1) (cwV 0 hts gL_law__X9_restore rfl rfl rfl (by decide +kernel) ⟨by decide, by decide⟩) (gx_rec F G ht0 (gwe_9 hk0) rfl) rfl rfl hl.1 rfl (lv_room (Nat.le_of_ble_eq_true rfl)) dL_law__2226 ⟨by show kc + 0 ≤ 600128; omega, by show ks + 0 ≤ 7301098; omega⟩) (fun H locs G => ?_)
  obtain ⟨cd4, ecd4⟩ : ∃ z : gm × gm, z = (c3, cd.2) := ⟨_, rfl⟩
  replace G : gW D ad cy N A s.heap cd4.1 cd4.2 H locs := by rw [ecd4]; exact G
  replace h := gv_s h cd4 ecd4
  refine lv_aload_n hx hb dL_law__2229 rfl (lv_at hl 2 rfl) ?_
  obtain ⟨r6, c7, hc5, h⟩ := gb2_s h
  refine gx_calli F G (va_runV (As := []) (rest := [.int r2]) (gx_fix F) (c_X10_restore l sa D ad cy N H.size (Nat.le_trans (by decide) hN) hI cd4.1 cd4.2 hc5) (cwV 0 hts gL_law__X10_restore rfl rfl rfl (by decide +kernel) ⟨by decide, by decide⟩) (gx_rec F G ht55 (gwe_10 hk55) rfl) rfl rfl hl.1 rfl (lv_room (Nat.le_of_ble_eq_true rfl)) dL_law__2230 ⟨by show kc + 0 ≤ 600128; omega, by show ks + 0 ≤ 7301098; omega⟩) (fun H locs G => ?_)
  obtain ⟨cd8, ecd8⟩ : ∃ z : gm × gm, z = (cd4.1, c7) := ⟨_, rfl⟩
  replace G : gW D ad cy N A s.heap cd8.1 cd8.2 H locs := by rw [ecd8]; exact G
  replace h := gv_s h cd8 ecd8
  refine lv_icmp_eq (tgt := 2288) hx hb dL_law__2233 (by decide) (fun q9 => ?_) (fun q9 => ?_)
  · replace h := gt_s q9 h
    cases h
    exact W.widen (k := kc + 1) (n := ks + 6) (by omega) (by omega) (J _ _ _ G hl)
  · replace h := gf_s q9 h
    refine lv_iconst (v := 0) hx hb dL_law__2236 (by decide) ?_
    cases h
def m_law_34 (n : Nat) (xs : Nat → Int32) (L : Nat) (i : Int32) (cd : gm × gm) : Option (gm × gm) :=
  gc (0 ≤ (i + 1).toInt ∧ (i + 1).toInt < (L : Nat)) (gb (m_X9_status 0 (xs (i + 1).toNatClampNeg) cd.1) (fun (r3 : Int32) => gc (0 ≤ (i + 1).toInt ∧ (i + 1).toInt < (L : Nat)) (gb2 (m_X10_status 55 (xs (i + 1).toNatClampNeg) cd.2) (fun (r6 : Int32) (c7 : gm) => gv ((cd.1, c7) : gm × gm) (fun (cd8 : gm × gm) => (if r3 = r6 then some cd8 else none))))))
set_option maxHeartbeats 4000000 in
set_option maxRecDepth 100000 in
theorem law_34 {p : Program} {l : Launch} {e : Env} {s : State} {m : MethodId} {below : List Frame} {meth : Method} {cod : Code} {H : Heap} {locs : List Loc} {Q : State → Prop} {sa : gSa} {D : va_G} {A : Nat → Prop} {ad : Nat → Nat} {cy : Nat → ClassId} {N : Nat} (hlt : l.stackTraces = false) (hN : 531 ≤ N) {b L n kc ks : Nat} {xs : Nat → Int32} {ls : Array Slot} {i : Int32} {cd cd2 : gm × gm} (F : gF sa D ad cy N A p s m #[Value.ref b] cod cL_law_ 8 wsL_law_ RL) (hX : va_X b L xs s s.heap) (hbl : b < s.heap.size) (hbA : ¬ A b) (hkc : kc + 1 ≤ 600128) (hks : ks + 6 ≤ 7301098) (h : m_law_34 n xs L i cd = some cd2) (G : gW D ad cy N A s.heap cd.1 cd.2 H locs) (hl : lv_has ls 8 [(0, .ref b), (1, .ref (ad 0)), (2, .ref (ad 55)), (3, .ref (ad 530)), (4, .int i)]) (J : ∀ (H : Heap) (locs : List Loc) (ls : Array Slot), gW D ad cy N A s.heap cd2.1 cd2.2 H locs → lv_has ls 8 [(0, .ref b), (1, .ref (ad 0)), (2, .ref (ad 55)), (3, .ref (ad 530)), (4, .int i)] → W p l e room_1 s m #[Value.ref b] below meth cod H locs (kc + 1) (ks + 6) Q (F0 m 2288 ls [])) : W p l e room_1 s m #[Value.ref b] below meth cod H locs kc ks Q (F0 m 2238 ls []) := by
  obtain ⟨hx, hb, hml, hown, hts, hK, hI, hA, hZ, hZZ⟩ := id F
  have hk0 : gck 0 = 9 := rfl
  have hk55 : gck 55 = 10 := rfl
  have hk530 : gck 530 = 26 := rfl
  have hn530 : gal 530 = 1 := rfl
  have ht0 : 0 < N := Nat.lt_of_lt_of_le (by decide) hN
  have ht55 : 55 < N := Nat.lt_of_lt_of_le (by decide) hN
  have ht530 : 530 < N := Nat.lt_of_lt_of_le (by decide) hN
  unfold m_law_34 at h
  refine lv_aload_n hx hb dL_law__2238 rfl (lv_at hl 1 rfl) ?_
  refine lv_aload_n hx hb dL_law__2239 rfl (lv_at hl 0 rfl) ?_
  refine lv_iload hx hb dL_law__2240 (lv_at hl 4 rfl) ?_
  refine lv_iconst (v := 1) hx hb dL_law__2242 (by decide) ?_
  refine lv_iadd hx hb dL_law__2243 ?_
  obtain ⟨hi1, h⟩ := gc_s h
  refine va_sld hx hb hX hbl hbA G.2 (gin hi1) dL_law__2244 ?_
  obtain ⟨r3, hc2, h⟩ := gb_s h
  refine gx_calli F G (va_runV (As := [.int (xs (i + 1).toNatClampNeg)]) (rest := []) (gx_fix F) (c_X9_status l sa D ad cy N H.size (Nat.le_trans (by decide) hN) hI cd.1 cd.2 hc2) (cwV 1 hts gL_law__X9_status rfl rfl rfl (by decide +kernel) ⟨by decide, by decide⟩) (gx_rec F G ht0 (gwe_9 hk0) rfl) rfl rfl hl.1 rfl (lv_room (Nat.le_of_ble_eq_true rfl)) dL_law__2245 ⟨by show kc + 0 ≤ 600128; omega, by show ks + 0 ≤ 7301098; omega⟩) (fun H locs G => ?_)
  refine lv_aload_n hx hb dL_law__2248 rfl (lv_at hl 2 rfl) ?_
  refine lv_aload_n hx hb dL_law__2249 rfl (lv_at hl 0 rfl) ?_
  refine lv_iload hx hb dL_law__2250 (lv_at hl 4 rfl) ?_
  refine lv_iconst (v := 1) hx hb dL_law__2252 (by decide) ?_
  refine lv_iadd hx hb dL_law__2253 ?_
  obtain ⟨hi4, h⟩ := gc_s h
  refine va_sld hx hb hX hbl hbA G.2 (gin hi4) dL_law__2254 ?_
  obtain ⟨r6, c7, hc5, h⟩ := gb2_s h
  refine gx_calli F G (va_runV (As := [.int (xs (i + 1).toNatClampNeg)]) (rest := [.int r3]) (gx_fix F) (c_X10_status l sa D ad cy N H.size (Nat.le_trans (by decide) hN) hI cd.1 cd.2 hc5) (cwV 1 hts gL_law__X10_status rfl rfl rfl (by decide +kernel) ⟨by decide, by decide⟩) (gx_rec F G ht55 (gwe_10 hk55) rfl) rfl rfl hl.1 rfl (lv_room (Nat.le_of_ble_eq_true rfl)) dL_law__2255 ⟨by show kc + 0 ≤ 600128; omega, by show ks + 0 ≤ 7301098; omega⟩) (fun H locs G => ?_)
  obtain ⟨cd8, ecd8⟩ : ∃ z : gm × gm, z = (cd.1, c7) := ⟨_, rfl⟩
  replace G : gW D ad cy N A s.heap cd8.1 cd8.2 H locs := by rw [ecd8]; exact G
  replace h := gv_s h cd8 ecd8
  refine lv_icmp_eq (tgt := 2288) hx hb dL_law__2258 (by decide) (fun q9 => ?_) (fun q9 => ?_)
  · replace h := gt_s q9 h
    cases h
    exact W.widen (k := kc + 1) (n := ks + 6) (by omega) (by omega) (J _ _ _ G hl)
  · replace h := gf_s q9 h
    refine lv_iconst (v := 0) hx hb dL_law__2261 (by decide) ?_
    cases h
def m_law_35 (n : Nat) (xs : Nat → Int32) (L : Nat) (i : Int32) (cd : gm × gm) : Option (gm × gm) :=
  gc (0 ≤ (i + 1).toInt ∧ (i + 1).toInt < (L : Nat)) (gb (m_X9_count 0 (xs (i + 1).toNatClampNeg) cd.1) (fun (r3 : Int32) => gc (0 ≤ (i + 1).toInt ∧ (i + 1).toInt < (L : Nat)) (gb2 (m_X10_count 55 (xs (i + 1).toNatClampNeg) cd.2) (fun (r6 : Int32) (c7 : gm) => gv ((cd.1, c7) : gm × gm) (fun (cd8 : gm × gm) => (if r3 = r6 then some cd8 else none))))))
set_option maxHeartbeats 4000000 in
set_option maxRecDepth 100000 in
theorem law_35 {p : Program} {l : Launch} {e : Env} {s : State} {m : MethodId} {below : List Frame} {meth : Method} {cod : Code} {H : Heap} {locs : List Loc} {Q : State → Prop} {sa : gSa} {D : va_G} {A : Nat → Prop} {ad : Nat → Nat} {cy : Nat → ClassId} {N : Nat} (hlt : l.stackTraces = false) (hN : 531 ≤ N) {b L n kc ks : Nat} {xs : Nat → Int32} {ls : Array Slot} {i : Int32} {cd cd2 : gm × gm} (F : gF sa D ad cy N A p s m #[Value.ref b] cod cL_law_ 8 wsL_law_ RL) (hX : va_X b L xs s s.heap) (hbl : b < s.heap.size) (hbA : ¬ A b) (hkc : kc + 1 ≤ 600128) (hks : ks + 6 ≤ 7301098) (h : m_law_35 n xs L i cd = some cd2) (G : gW D ad cy N A s.heap cd.1 cd.2 H locs) (hl : lv_has ls 8 [(0, .ref b), (1, .ref (ad 0)), (2, .ref (ad 55)), (3, .ref (ad 530)), (4, .int i)]) (J : ∀ (H : Heap) (locs : List Loc) (ls : Array Slot), gW D ad cy N A s.heap cd2.1 cd2.2 H locs → lv_has ls 8 [(0, .ref b), (1, .ref (ad 0)), (2, .ref (ad 55)), (3, .ref (ad 530)), (4, .int i)] → W p l e room_1 s m #[Value.ref b] below meth cod H locs (kc + 1) (ks + 6) Q (F0 m 2288 ls [])) : W p l e room_1 s m #[Value.ref b] below meth cod H locs kc ks Q (F0 m 2263 ls []) := by
  obtain ⟨hx, hb, hml, hown, hts, hK, hI, hA, hZ, hZZ⟩ := id F
  have hk0 : gck 0 = 9 := rfl
  have hk55 : gck 55 = 10 := rfl
  have hk530 : gck 530 = 26 := rfl
  have hn530 : gal 530 = 1 := rfl
  have ht0 : 0 < N := Nat.lt_of_lt_of_le (by decide) hN
  have ht55 : 55 < N := Nat.lt_of_lt_of_le (by decide) hN
  have ht530 : 530 < N := Nat.lt_of_lt_of_le (by decide) hN
  unfold m_law_35 at h
  refine lv_aload_n hx hb dL_law__2263 rfl (lv_at hl 1 rfl) ?_
  refine lv_aload_n hx hb dL_law__2264 rfl (lv_at hl 0 rfl) ?_
  refine lv_iload hx hb dL_law__2265 (lv_at hl 4 rfl) ?_
  refine lv_iconst (v := 1) hx hb dL_law__2267 (by decide) ?_
  refine lv_iadd hx hb dL_law__2268 ?_
  obtain ⟨hi1, h⟩ := gc_s h
  refine va_sld hx hb hX hbl hbA G.2 (gin hi1) dL_law__2269 ?_
  obtain ⟨r3, hc2, h⟩ := gb_s h
  refine gx_calli F G (va_runV (As := [.int (xs (i + 1).toNatClampNeg)]) (rest := []) (gx_fix F) (c_X9_count l sa D ad cy N H.size (Nat.le_trans (by decide) hN) hI cd.1 cd.2 hc2) (cwV 1 hts gL_law__X9_count rfl rfl rfl (by decide +kernel) ⟨by decide, by decide⟩) (gx_rec F G ht0 (gwe_9 hk0) rfl) rfl rfl hl.1 rfl (lv_room (Nat.le_of_ble_eq_true rfl)) dL_law__2270 ⟨by show kc + 0 ≤ 600128; omega, by show ks + 0 ≤ 7301098; omega⟩) (fun H locs G => ?_)
  refine lv_aload_n hx hb dL_law__2273 rfl (lv_at hl 2 rfl) ?_
  refine lv_aload_n hx hb dL_law__2274 rfl (lv_at hl 0 rfl) ?_
  refine lv_iload hx hb dL_law__2275 (lv_at hl 4 rfl) ?_
  refine lv_iconst (v := 1) hx hb dL_law__2277 (by decide) ?_
  refine lv_iadd hx hb dL_law__2278 ?_
  obtain ⟨hi4, h⟩ := gc_s h
  refine va_sld hx hb hX hbl hbA G.2 (gin hi4) dL_law__2279 ?_
  obtain ⟨r6, c7, hc5, h⟩ := gb2_s h
  refine gx_calli F G (va_runV (As := [.int (xs (i + 1).toNatClampNeg)]) (rest := [.int r3]) (gx_fix F) (c_X10_count l sa D ad cy N H.size (Nat.le_trans (by decide) hN) hI cd.1 cd.2 hc5) (cwV 1 hts gL_law__X10_count rfl rfl rfl (by decide +kernel) ⟨by decide, by decide⟩) (gx_rec F G ht55 (gwe_10 hk55) rfl) rfl rfl hl.1 rfl (lv_room (Nat.le_of_ble_eq_true rfl)) dL_law__2280 ⟨by show kc + 0 ≤ 600128; omega, by show ks + 0 ≤ 7301098; omega⟩) (fun H locs G => ?_)
  obtain ⟨cd8, ecd8⟩ : ∃ z : gm × gm, z = (cd.1, c7) := ⟨_, rfl⟩
  replace G : gW D ad cy N A s.heap cd8.1 cd8.2 H locs := by rw [ecd8]; exact G
  replace h := gv_s h cd8 ecd8
  refine lv_icmp_eq (tgt := 2288) hx hb dL_law__2283 (by decide) (fun q9 => ?_) (fun q9 => ?_)
  · replace h := gt_s q9 h
    cases h
    exact W.widen (k := kc + 1) (n := ks + 6) (by omega) (by omega) (J _ _ _ G hl)
  · replace h := gf_s q9 h
    refine lv_iconst (v := 0) hx hb dL_law__2286 (by decide) ?_
    cases h
