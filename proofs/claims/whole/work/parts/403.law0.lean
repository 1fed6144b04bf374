section GX
variable {p : Program} {l : Launch} {e : Env} {R : Room} {s : State} {m : MethodId} {args : Array Value} {below : List Frame} {meth : Method} {c : Code} {H : Heap} {locs : List Loc} {cells slots : Nat} {Q : State → Prop}
variable {cc : ByteArray} {pc nL : Nat} {ls : Array Slot} {rest : List Value} {sa : gSa} {D : va_G} {A : Nat → Prop} {H0 : Heap} {ad : Nat → Nat} {cy : Nat → ClassId} {N : Nat} {cm dm : gm} {Ts : List Cond} {own : String}
theorem gx_calliX (F : gF sa D ad cy N A p s m args c cc nL Ts own) (G : gW D ad cy N A s.heap cm dm H locs) {st0 : List Value} {a : Array Value} {r : Int32} {cm2 dm2 : gm} (hr : va_Run p l e R s m args below meth c H locs cells slots 1 6 (F0 m pc ls st0) rest (va_Qi (fun (rZ : Int32) (_ : Unit) => rZ = r) (fun _ U => gE D ad cy N cm2 dm2 U) (gA ad N H.size) a) (gA ad N H.size)) (kk : ∀ (H1 : Heap) (locs1 : List Loc), gW D ad cy N A s.heap cm2 dm2 H1 locs1 → W p l e R s m args below meth c H1 locs1 (cells + 1) (slots + 6) Q (F0 m (pc + 3) ls (.int r :: rest))) : W p l e R s m args below meth c H locs cells slots Q (F0 m pc ls st0) := by
  obtain ⟨hx, hb, -, hown, hts, hK, hI, hA, hZ, -⟩ := F
  have hm := gA_mono (sz := H.size) hA (fun q h => hZ q (Nat.le_trans G.2.1 h))
  refine va_calli hr G.2 (fun q _ h => hm q h) hm (fun rZ u t H1 locs1 ht hvm hw hB hz hk hS => ?_)
  subst hw
  exact kk H1 locs1 ⟨by rw [← ht]; exact hB.1, hS⟩
end GX
def m_law_0 (n : Nat) (xs : Nat → Int32) (L : Nat) (i : Int32) (cd : gm × gm) : Option (gm × gm) :=
  gc (0 ≤ (i + 1).toInt ∧ (i + 1).toInt < (L : Nat)) (gc (0 ≤ (i + 2).toInt ∧ (i + 2).toInt < (L : Nat)) (gc (0 ≤ (i + 3).toInt ∧ (i + 3).toInt < (L : Nat)) (gc (0 ≤ (i + 4).toInt ∧ (i + 4).toInt < (L : Nat)) (gc (0 ≤ (i + 5).toInt ∧ (i + 5).toInt < (L : Nat)) (gb2 (m_X9_feed n 0 (xs (i + 1).toNatClampNeg) (xs (i + 2).toNatClampNeg) (xs (i + 3).toNatClampNeg) (xs (i + 4).toNatClampNeg) (xs (i + 5).toNatClampNeg) cd.1) (fun (r7 : Int32) (c8 : gm) => gv ((c8, cd.2) : gm × gm) (fun (cd9 : gm × gm) => gc (0 ≤ (i + 1).toInt ∧ (i + 1).toInt < (L : Nat)) (gc (0 ≤ (i + 2).toInt ∧ (i + 2).toInt < (L : Nat)) (gc (0 ≤ (i + 3).toInt ∧ (i + 3).toInt < (L : Nat)) (gc (0 ≤ (i + 4).toInt ∧ (i + 4).toInt < (L : Nat)) (gc (0 ≤ (i + 5).toInt ∧ (i + 5).toInt < (L : Nat)) (gb2 (m_X10_feed n 55 (xs (i + 1).toNatClampNeg) (xs (i + 2).toNatClampNeg) (xs (i + 3).toNatClampNeg) (xs (i + 4).toNatClampNeg) (xs (i + 5).toNatClampNeg) cd9.2) (fun (r16 : Int32) (c17 : gm) => gv ((cd9.1, c17) : gm × gm) (fun (cd18 : gm × gm) => (if r7 = r16 then some cd18 else none)))))))))))))))
set_option maxHeartbeats 4000000 in
set_option maxRecDepth 100000 in
theorem law_0 {p : Program} {l : Launch} {e : Env} {s : State} {m : MethodId} {below : List Frame} {meth : Method} {cod : Code} {H : Heap} {locs : List Loc} {Q : State → Prop} {sa : gSa} {D : va_G} {A : Nat → Prop} {ad : Nat → Nat} {cy : Nat → ClassId} {N : Nat} (hlt : l.stackTraces = false) (hN : 531 ≤ N) {b L n kc ks : Nat} {xs : Nat → Int32} {ls : Array Slot} {i : Int32} {cd cd2 : gm × gm} (F : gF sa D ad cy N A p s m #[Value.ref b] cod cL_law_ 8 wsL_law_ RL) (hX : va_X b L xs s s.heap) (hbl : b < s.heap.size) (hbA : ¬ A b) (hkc : kc + 1 ≤ 600128) (hks : ks + 6 ≤ 7301098) (h : m_law_0 n xs L i cd = some cd2) (G : gW D ad cy N A s.heap cd.1 cd.2 H locs) (hl : lv_has ls 8 [(0, .ref b), (1, .ref (ad 0)), (2, .ref (ad 55)), (3, .ref (ad 530)), (4, .int i)]) (J : ∀ (H : Heap) (locs : List Loc) (ls : Array Slot), gW D ad cy N A s.heap cd2.1 cd2.2 H locs → lv_has ls 8 [(0, .ref b), (1, .ref (ad 0)), (2, .ref (ad 55)), (3, .ref (ad 530)), (4, .int i)] → W p l e room_1 s m #[Value.ref b] below meth cod H locs (kc + 1) (ks + 6) Q (F0 m 2288 ls [])) : W p l e room_1 s m #[Value.ref b] below meth cod H locs kc ks Q (F0 m 200 ls []) := by
  obtain ⟨hx, hb, hml, hown, hts, hK, hI, hA, hZ, hZZ⟩ := id F
  have hk0 : gck 0 = 9 := rfl
  have hk55 : gck 55 = 10 := rfl
  have hk530 : gck 530 = 26 := rfl
  have hn530 : gal 530 = 1 := rfl
  have ht0 : 0 < N := Nat.lt_of_lt_of_le (by decide) hN
  have ht55 : 55 < N := Nat.lt_of_lt_of_le (by decide) hN
  have ht530 : 530 < N := Nat.lt_of_lt_of_le (by decide) hN
  unfold m_law_0 at h
  refine lv_aload_n hx hb dL_law__200 rfl (lv_at hl 1 rfl) ?_
  refine lv_aload_n hx hb dL_law__201 rfl (lv_at hl 0 rfl) ?_
  refine lv_iload hx hb dL_law__202 (lv_at hl 4 rfl) ?_
  refine lv_iconst (v := 1) hx hb dL_law__204 (by decide) ?_
  refine lv_iadd hx hb dL_law__205 ?_
  obtain ⟨hi1, h⟩ := gc_s h
  refine va_sld hx hb hX hbl hbA G.2 (gin hi1) dL_law__206 ?_
  refine lv_aload_n hx hb dL_law__207 rfl (lv_at hl 0 rfl) ?_
  refine lv_iload hx hb dL_law__208 (lv_at hl 4 rfl) ?_
  refine lv_iconst (v := 2) hx hb dL_law__210 (by decide) ?_
  refine lv_iadd hx hb dL_law__211 ?_
  obtain ⟨hi2, h⟩ := gc_s h
  refine va_sld hx hb hX hbl hbA G.2 (gin hi2) dL_law__212 ?_
  refine lv_aload_n hx hb dL_law__213 rfl (lv_at hl 0 rfl) ?_
  refine lv_iload hx hb dL_law__214 (lv_at hl 4 rfl) ?_
  refine lv_iconst (v := 3) hx hb dL_law__216 (by decide) ?_
  refine lv_iadd hx hb dL_law__217 ?_
  obtain ⟨hi3, h⟩ := gc_s h
  refine va_sld hx hb hX hbl hbA G.2 (gin hi3) dL_law__218 ?_
  refine lv_aload_n hx hb dL_law__219 rfl (lv_at hl 0 rfl) ?_
  refine lv_iload hx hb dL_law__220 (lv_at hl 4 rfl) ?_
  refine lv_iconst (v := 4) hx hb dL_law__222 (by decide) ?_
  refine lv_iadd hx hb dL_law__223 ?_
  obtain ⟨hi4, h⟩ := gc_s h
  refine va_sld hx hb hX hbl hbA G.2 (gin hi4) dL_law__224 ?_
  refine lv_aload_n hx hb dL_law__225 rfl (lv_at hl 0 rfl) ?_
  refine lv_iload hx hb dL_law__226 (lv_at hl 4 rfl) ?_
  refine lv_iconst (v := 5) hx hb dL_law__228 (by decide) ?_
  refine lv_iadd hx hb dL_law__229 ?_
  obtain ⟨hi5, h⟩ := gc_s h
  refine va_sld hx hb hX hbl hbA G.2 (gin hi5) dL_law__230 ?_
  obtain ⟨r7, c8, hc6, h⟩ := gb2_s h
  refine gx_calli F G (va_runV (As := [.int (xs (i + 1).toNatClampNeg), .int (xs (i + 2).toNatClampNeg), .int (xs (i + 3).toNatClampNeg), .int (xs (i + 4).toNatClampNeg), .int (xs (i + 5).toNatClampNeg)]) (rest := []) (gx_fix F) (c_X9_feed l sa D ad cy N H.size (Nat.le_trans (by decide) hN) hI cd.1 cd.2 hc6) (cwV 5 hts gL_law__X9_feed rfl rfl rfl (by decide +kernel) ⟨by decide, by decide⟩) (gx_rec F G ht0 (gwe_9 hk0) rfl) rfl rfl hl.1 rfl (lv_room (Nat.le_of_ble_eq_true rfl)) dL_law__231 ⟨by show kc + 0 ≤ 600128; omega, by show ks + 0 ≤ 7301098; omega⟩) (fun H locs G => ?_)
  obtain ⟨cd9, ecd9⟩ : ∃ z : gm × gm, z = (c8, cd.2) := ⟨_, rfl⟩
  replace G : gW D ad cy N A s.heap cd9.1 cd9.2 H locs := by rw [ecd9]; exact G
  replace h := gv_s h cd9 ecd9
  refine lv_aload_n hx hb dL_law__234 rfl (lv_at hl 2 rfl) ?_
  refine lv_aload_n hx hb dL_law__235 rfl (lv_at hl 0 rfl) ?_
  refine lv_iload hx hb dL_law__236 (lv_at hl 4 rfl) ?_
  refine lv_iconst (v := 1) hx hb dL_law__238 (by decide) ?_
  refine lv_iadd hx hb dL_law__239 ?_
  obtain ⟨hi10, h⟩ := gc_s h
  refine va_sld hx hb hX hbl hbA G.2 (gin hi10) dL_law__240 ?_
  refine lv_aload_n hx hb dL_law__241 rfl (lv_at hl 0 rfl) ?_
  refine lv_iload hx hb dL_law__242 (lv_at hl 4 rfl) ?_
  refine lv_iconst (v := 2) hx hb dL_law__244 (by decide) ?_
  refine lv_iadd hx hb dL_law__245 ?_
  obtain ⟨hi11, h⟩ := gc_s h
  refine va_sld hx hb hX hbl hbA G.2 (gin hi11) dL_law__246 ?_
  refine lv_aload_n hx hb dL_law__247 rfl (lv_at hl 0 rfl) ?_
  refine lv_iload hx hb dL_law__248 (lv_at hl 4 rfl) ?_
  refine lv_iconst (v := 3) hx hb dL_law__250 (by decide) ?_
  refine lv_iadd hx hb dL_law__251 ?_
  obtain ⟨hi12, h⟩ := gc_s h
  refine va_sld hx hb hX hbl hbA G.2 (gin hi12) dL_law__252 ?_
  refine lv_aload_n hx hb dL_law__253 rfl (lv_at hl 0 rfl) ?_
  refine lv_iload hx hb dL_law__254 (lv_at hl 4 rfl) ?_
  refine lv_iconst (v := 4) hx hb dL_law__256 (by decide) ?_
  refine lv_iadd hx hb dL_law__257 ?_
  obtain ⟨hi13, h⟩ := gc_s h
  refine va_sld hx hb hX hbl hbA G.2 (gin hi13) dL_law__258 ?_
  refine lv_aload_n hx hb dL_law__259 rfl (lv_at hl 0 rfl) ?_
  refine lv_iload hx hb dL_law__260 (lv_at hl 4 rfl) ?_
  refine lv_iconst (v := 5) hx hb dL_law__262 (by decide) ?_
  refine lv_iadd hx hb dL_law__263 ?_
  obtain ⟨hi14, h⟩ := gc_s h
  refine va_sld hx hb hX hbl hbA G.2 (gin hi14) dL_law__264 ?_
  obtain ⟨r16, c17, hc15, h⟩ := gb2_s h
  refine gx_calli F G (va_runV (As := [.int (xs (i + 1).toNatClampNeg), .int (xs (i + 2).toNatClampNeg), .int (xs (i + 3).toNatClampNeg), .int (xs (i + 4).toNatClampNeg), .int (xs (i + 5).toNatClampNeg)]) (rest := [.int r7]) (gx_fix F) (c_X10_feed l sa D ad cy N H.size (Nat.le_trans (by decide) hN) hI cd9.1 cd9.2 hc15) (cwV 5 hts gL_law__X10_feed rfl rfl rfl (by decide +kernel) ⟨by decide, by decide⟩) (gx_rec F G ht55 (gwe_10 hk55) rfl) rfl rfl hl.1 rfl (lv_room (Nat.le_of_ble_eq_true rfl)) dL_law__265 ⟨by show kc + 0 ≤ 600128; omega, by show ks + 0 ≤ 7301098; omega⟩) (fun H locs G => ?_)
  obtain ⟨cd18, ecd18⟩ : ∃ z : gm × gm, z = (cd9.1, c17) := ⟨_, rfl⟩
  replace G : gW D ad cy N A s.heap cd18.1 cd18.2 H locs := by rw [ecd18]; exact G
  replace h := gv_s h cd18 ecd18
  refine lv_icmp_eq (tgt := 2288) hx hb dL_law__268 (by decide) (fun q19 => ?_) (fun q19 => ?_)
  · replace h := gt_s q19 h
    cases h
    exact W.widen (k := kc + 1) (n := ks + 6) (by omega) (by omega) (J _ _ _ G hl)
  · replace h := gf_s q19 h
    refine lv_iconst (v := 0) hx hb dL_law__271 (by decide) ?_
    cases h
def m_law_1 (n : Nat) (xs : Nat → Int32) (L : Nat) (i : Int32) (cd : gm × gm) : Option (gm × gm) :=
  gc (0 ≤ (i + 1).toInt ∧ (i + 1).toInt < (L : Nat)) (gb2 (m_L_market n 0 (xs (i + 1).toNatClampNeg) 530 cd.1) (fun (r3 : Int32) (c4 : gm) => gv ((c4, cd.2) : gm × gm) (fun (cd5 : gm × gm) => gc (0 ≤ (i + 1).toInt ∧ (i + 1).toInt < (L : Nat)) (gb2 (m_X10_market n 55 (xs (i + 1).toNatClampNeg) cd5.2) (fun (r8 : Int32) (c9 : gm) => gv ((cd5.1, c9) : gm × gm) (fun (cd10 : gm × gm) => gb (m_X10_thrown 55 cd10.2) (fun (r12 : Int32) => (if r12 = r3 then (if r3 = 0 then (if (lg_cmp (cd10.1.2.1 530 (0 : Int32).toNatClampNeg) (Int32.toInt64 r8)) = 0 then some cd10 else none) else some cd10) else none))))))))
set_option maxHeartbeats 4000000 in
set_option maxRecDepth 100000 in
theorem law_1 {p : Program} {l : Launch} {e : Env} {s : State} {m : MethodId} {below : List Frame} {meth : Method} {cod : Code} {H : Heap} {locs : List Loc} {Q : State → Prop} {sa : gSa} {D : va_G} {A : Nat → Prop} {ad : Nat → Nat} {cy : Nat → ClassId} {N : Nat} (hlt : l.stackTraces = false) (hN : 531 ≤ N) {b L n kc ks : Nat} {xs : Nat → Int32} {ls : Array Slot} {i : Int32} {cd cd2 : gm × gm} (F : gF sa D ad cy N A p s m #[Value.ref b] cod cL_law_ 8 wsL_law_ RL) (hX : va_X b L xs s s.heap) (hbl : b < s.heap.size) (hbA : ¬ A b) (hkc : kc + 1 ≤ 600128) (hks : ks + 6 ≤ 7301098) (h : m_law_1 n xs L i cd = some cd2) (G : gW D ad cy N A s.heap cd.1 cd.2 H locs) (hl : lv_has ls 8 [(0, .ref b), (1, .ref (ad 0)), (2, .ref (ad 55)), (3, .ref (ad 530)), (4, .int i)]) (J : ∀ (H : Heap) (locs : List Loc) (ls : Array Slot), gW D ad cy N A s.heap cd2.1 cd2.2 H locs → lv_has ls 8 [(0, .ref b), (1, .ref (ad 0)), (2, .ref (ad 55)), (3, .ref (ad 530)), (4, .int i)] → W p l e room_1 s m #[Value.ref b] below meth cod H locs (kc + 1) (ks + 6) Q (F0 m 2288 ls [])) : W p l e room_1 s m #[Value.ref b] below meth cod H locs kc ks Q (F0 m 273 ls []) := by
  obtain ⟨hx, hb, hml, hown, hts, hK, hI, hA, hZ, hZZ⟩ := id F
  have hk0 : gck 0 = 9 := rfl
  have hk55 : gck 55 = 10 := rfl
  have hk530 : gck 530 = 26 := rfl
  have hn530 : gal 530 = 1 := rfl
  have ht0 : 0 < N := Nat.lt_of_lt_of_le (by decide) hN
  have ht55 : 55 < N := Nat.lt_of_lt_of_le (by decide) hN
  have ht530 : 530 < N := Nat.lt_of_lt_of_le (by decide) hN
  unfold m_law_1 at h
  refine lv_aload_n hx hb dL_law__273 rfl (lv_at hl 1 rfl) ?_
  refine lv_aload_n hx hb dL_law__274 rfl (lv_at hl 0 rfl) ?_
  refine lv_iload hx hb dL_law__275 (lv_at hl 4 rfl) ?_
  refine lv_iconst (v := 1) hx hb dL_law__277 (by decide) ?_
  refine lv_iadd hx hb dL_law__278 ?_
  obtain ⟨hi1, h⟩ := gc_s h
  refine va_sld hx hb hX hbl hbA G.2 (gin hi1) dL_law__279 ?_
  refine lv_aload_n hx hb dL_law__280 rfl (lv_at hl 3 rfl) ?_
  obtain ⟨r3, c4, hc2, h⟩ := gb2_s h
  refine gx_calliX F G (vx_runSW (As := [.ref (ad 0), .int (xs (i + 1).toNatClampNeg), .ref (ad 530)]) (rest := []) (gx_fix F) (c_L_market l hlt sa D ad cy N H.size hN hI cd.1 cd.2 hc2) (vx_cwSW 3 hts gL_law__L_market rfl rfl rfl (by decide +kernel) ⟨by decide, by decide⟩) (gx_pre F G) rfl rfl hl.1 rfl (lv_room (Nat.le_of_ble_eq_true rfl)) dL_law__281 ⟨by show kc + 1 ≤ 600128; omega, by show ks + 6 ≤ 7301098; omega⟩) (fun H locs G => ?_)
  obtain ⟨cd5, ecd5⟩ : ∃ z : gm × gm, z = (c4, cd.2) := ⟨_, rfl⟩
  replace G : gW D ad cy N A s.heap cd5.1 cd5.2 H locs := by rw [ecd5]; exact G
  replace h := gv_s h cd5 ecd5
  refine lv_istore (lv' := [(5, .int r3), (0, .ref b), (1, .ref (ad 0)), (2, .ref (ad 55)), (3, .ref (ad 530)), (4, .int i)]) hx hb dL_law__284 hl (by decide) rfl (fun ls hl => ?_)
  refine lv_aload_n hx hb dL_law__286 rfl (lv_at hl 3 rfl) ?_
  refine lv_aload_n hx hb dL_law__287 rfl (lv_at hl 1 rfl) ?_
  refine lv_iload hx hb dL_law__288 (lv_at hl 5 rfl) ?_
  refine lv_iconst (v := 1) hx hb dL_law__290 (by decide) ?_
  refine lv_iadd hx hb dL_law__291 ?_
  obtain ⟨hi6, h⟩ := gc_s h
  refine va_sld hx hb hX hbl hbA G.2 (gin hi6) dL_law__292 ?_
  obtain ⟨r8, c9, hc7, h⟩ := gb2_s h
  refine gx_calli F G (va_runV (As := [.int (xs (i + 1).toNatClampNeg)]) (rest := []) (gx_fix F) (c_X10_market l sa D ad cy N H.size (Nat.le_trans (by decide) hN) hI cd5.1 cd5.2 hc7) (cwV 1 hts gL_law__X10_market rfl rfl rfl (by decide +kernel) ⟨by decide, by decide⟩) (gx_rec F G ht55 (gwe_10 hk55) rfl) rfl rfl hl.1 rfl (lv_room (Nat.le_of_ble_eq_true rfl)) dL_law__293 ⟨by show kc + 1 + 0 ≤ 600128; omega, by show ks + 6 + 0 ≤ 7301098; omega⟩) (fun H locs G => ?_)
  obtain ⟨cd10, ecd10⟩ : ∃ z : gm × gm, z = (cd5.1, c9) := ⟨_, rfl⟩
  replace G : gW D ad cy N A s.heap cd10.1 cd10.2 H locs := by rw [ecd10]; exact G
  replace h := gv_s h cd10 ecd10
  refine lv_istore (lv' := [(6, .int r8), (5, .int r3), (0, .ref b), (1, .ref (ad 0)), (2, .ref (ad 55)), (3, .ref (ad 530)), (4, .int i)]) hx hb dL_law__296 hl (by decide) rfl (fun ls hl => ?_)
  refine lv_aload_n hx hb dL_law__298 rfl (lv_at hl 4 rfl) ?_
  obtain ⟨r12, hc11, h⟩ := gb_s h
  refine gx_calli F G (va_runV (As := []) (rest := []) (gx_fix F) (c_X10_thrown l sa D ad cy N H.size (Nat.le_trans (by decide) hN) hI cd10.1 cd10.2 hc11) (cwV 0 hts gL_law__X10_thrown rfl rfl rfl (by decide +kernel) ⟨by decide, by decide⟩) (gx_rec F G ht55 (gwe_10 hk55) rfl) rfl rfl hl.1 rfl (lv_room (Nat.le_of_ble_eq_true rfl)) dL_law__299 ⟨by show kc + 1 + 0 ≤ 600128; omega, by show ks + 6 + 0 ≤ 7301098; omega⟩) (fun H locs G => ?_)
  refine lv_iload hx hb dL_law__302 (lv_at hl 1 rfl) ?_
  refine lv_icmp_eq (tgt := 309) hx hb dL_law__304 (by decide) (fun q13 => ?_) (fun q13 => ?_)
  · replace h := gt_s q13 h
    refine lv_iload hx hb dL_law__309 (lv_at hl 1 rfl) ?_
    refine lv_if_ne (tgt := 326) hx hb dL_law__311 (by decide) (fun q14 => ?_) (fun q14 => ?_)
    · replace h := gf_s q14 h
      refine lv_goto (tgt := 2288) hx hb dL_law__326 (by decide) ?_
      cases h
      exact J _ _ _ G (lv_sub hl [2, 3, 4, 5, 6] rfl)
    · replace h := gt_s q14 h
      refine lv_aload_n hx hb dL_law__314 rfl (lv_at hl 5 rfl) ?_
      refine lv_iconst (v := 0) hx hb dL_law__315 (by decide) ?_
      refine gx_la F G hk530 ht530 hn530 (by decide) dL_law__316 ?_
      refine lv_iload hx hb dL_law__317 (lv_at hl 0 rfl) ?_
      refine lv_i2l hx hb dL_law__319 rfl ?_
      refine W.lcmp hx hb dL_law__320 ?_
      refine lv_if_eq (tgt := 326) hx hb dL_law__321 (by decide) (fun q15 => ?_) (fun q15 => ?_)
      · replace h := gt_s q15 h
        refine lv_goto (tgt := 2288) hx hb dL_law__326 (by decide) ?_
        cases h
        exact J _ _ _ G (lv_sub hl [2, 3, 4, 5, 6] rfl)
      · replace h := gf_s q15 h
        refine lv_iconst (v := 0) hx hb dL_law__324 (by decide) ?_
        cases h
  · replace h := gf_s q13 h
    refine lv_iconst (v := 0) hx hb dL_law__307 (by decide) ?_
    cases h
def m_law_2 (n : Nat) (xs : Nat → Int32) (L : Nat) (i : Int32) (cd : gm × gm) : Option (gm × gm) :=
  gc (0 ≤ (i + 1).toInt ∧ (i + 1).toInt < (L : Nat)) (gb2 (m_L_law n 0 (xs (i + 1).toNatClampNeg) 530 cd.1) (fun (r3 : Int32) (c4 : gm) => gv ((c4, cd.2) : gm × gm) (fun (cd5 : gm × gm) => gc (0 ≤ (i + 1).toInt ∧ (i + 1).toInt < (L : Nat)) (gb2 (m_X10_law n 55 (xs (i + 1).toNatClampNeg) cd5.2) (fun (r8 : Int32) (c9 : gm) => gv ((cd5.1, c9) : gm × gm) (fun (cd10 : gm × gm) => gb (m_X10_thrown 55 cd10.2) (fun (r12 : Int32) => (if r12 = r3 then (if r3 = 0 then (if (lg_cmp (cd10.1.2.1 530 (0 : Int32).toNatClampNeg) (Int32.toInt64 r8)) = 0 then some cd10 else none) else some cd10) else none))))))))
set_option maxHeartbeats 4000000 in
set_option maxRecDepth 100000 in
theorem law_2 {p : Program} {l : Launch} {e : Env} {s : State} {m : MethodId} {below : List Frame} {meth : Method} {cod : Code} {H : Heap} {locs : List Loc} {Q : State → Prop} {sa : gSa} {D : va_G} {A : Nat → Prop} {ad : Nat → Nat} {cy : Nat → ClassId} {N : Nat} (hlt : l.stackTraces = false) (hN : 531 ≤ N) {b L n kc ks : Nat} {xs : Nat → Int32} {ls : Array Slot} {i : Int32} {cd cd2 : gm × gm} (F : gF sa D ad cy N A p s m #[Value.ref b] cod cL_law_ 8 wsL_law_ RL) (hX : va_X b L xs s s.heap) (hbl : b < s.heap.size) (hbA : ¬ A b) (hkc : kc + 1 ≤ 600128) (hks : ks + 6 ≤ 7301098) (h : m_law_2 n xs L i cd = some cd2) (G : gW D ad cy N A s.heap cd.1 cd.2 H locs) (hl : lv_has ls 8 [(0, .ref b), (1, .ref (ad 0)), (2, .ref (ad 55)), (3, .ref (ad 530)), (4, .int i)]) (J : ∀ (H : Heap) (locs : List Loc) (ls : Array Slot), gW D ad cy N A s.heap cd2.1 cd2.2 H locs → lv_has ls 8 [(0, .ref b), (1, .ref (ad 0)), (2, .ref (ad 55)), (3, .ref (ad 530)), (4, .int i)] → W p l e room_1 s m #[Value.ref b] below meth cod H locs (kc + 1) (ks + 6) Q (F0 m 2288 ls [])) : W p l e room_1 s m #[Value.ref b] below meth cod H locs kc ks Q (F0 m 329 ls []) := by
  obtain ⟨hx, hb, hml, hown, hts, hK, hI, hA, hZ, hZZ⟩ := id F
  have hk0 : gck 0 = 9 := rfl
  have hk55 : gck 55 = 10 := rfl
  have hk530 : gck 530 = 26 := rfl
  have hn530 : gal 530 = 1 := rfl
  have ht0 : 0 < N := Nat.lt_of_lt_of_le (by decide) hN
  have ht55 : 55 < N := Nat.lt_of_lt_of_le (by decide) hN
  have ht530 : 530 < N := Nat.lt_of_lt_of_le (by decide) hN
  unfold m_law_2 at h
  refine lv_aload_n hx hb dL_law__329 rfl (lv_at hl 1 rfl) ?_
  refine lv_aload_n hx hb dL_law__330 rfl (lv_at hl 0 rfl) ?_
  refine lv_iload hx hb dL_law__331 (lv_at hl 4 rfl) ?_
  refine lv_iconst (v := 1) hx hb dL_law__333 (by decide) ?_
  refine lv_iadd hx hb dL_law__334 ?_
  obtain ⟨hi1, h⟩ := gc_s h
  refine va_sld hx hb hX hbl hbA G.2 (gin hi1) dL_law__335 ?_
  refine lv_aload_n hx hb dL_law__336 rfl (lv_at hl 3 rfl) ?_
  obtain ⟨r3, c4, hc2, h⟩ := gb2_s h
  refine gx_calliX F G (vx_runSW (As := [.ref (ad 0), .int (xs (i + 1).toNatClampNeg), .ref (ad 530)]) (rest := []) (gx_fix F) (c_L_law l hlt sa D ad cy N H.size hN hI cd.1 cd.2 hc2) (vx_cwSW 3 hts gL_law__L_law rfl rfl rfl (by decide +kernel) ⟨by decide, by decide⟩) (gx_pre F G) rfl rfl hl.1 rfl (lv_room (Nat.le_of_ble_eq_true rfl)) dL_law__337 ⟨by show kc + 1 ≤ 600128; omega, by show ks + 6 ≤ 7301098; omega⟩) (fun H locs G => ?_)
  obtain ⟨cd5, ecd5⟩ : ∃ z : gm × gm, z = (c4, cd.2) := ⟨_, rfl⟩
  replace G : gW D ad cy N A s.heap cd5.1 cd5.2 H locs := by rw [ecd5]; exact G
  replace h := gv_s h cd5 ecd5
  refine lv_istore (lv' := [(5, .int r3), (0, .ref b), (1, .ref (ad 0)), (2, .ref (ad 55)), (3, .ref (ad 530)), (4, .int i)]) hx hb dL_law__340 hl (by decide) rfl (fun ls hl => ?_)
  refine lv_aload_n hx hb dL_law__342 rfl (lv_at hl 3 rfl) ?_
  refine lv_aload_n hx hb dL_law__343 rfl (lv_at hl 1 rfl) ?_
  refine lv_iload hx hb dL_law__344 (lv_at hl 5 rfl) ?_
  refine lv_iconst (v := 1) hx hb dL_law__346 (by decide) ?_
  refine lv_iadd hx hb dL_law__347 ?_
  obtain ⟨hi6, h⟩ := gc_s h
  refine va_sld hx hb hX hbl hbA G.2 (gin hi6) dL_law__348 ?_
  obtain ⟨r8, c9, hc7, h⟩ := gb2_s h
  refine gx_calli F G (va_runV (As := [.int (xs (i + 1).toNatClampNeg)]) (rest := []) (gx_fix F) (c_X10_law l sa D ad cy N H.size (Nat.le_trans (by decide) hN) hI cd5.1 cd5.2 hc7) (cwV 1 hts gL_law__X10_law rfl rfl rfl (by decide +kernel) ⟨by decide, by decide⟩) (gx_rec F G ht55 (gwe_10 hk55) rfl) rfl rfl hl.1 rfl (lv_room (Nat.le_of_ble_eq_true rfl)) dL_law__349 ⟨by show kc + 1 + 0 ≤ 600128; omega, by show ks + 6 + 0 ≤ 7301098; omega⟩) (fun H locs G => ?_)
  obtain ⟨cd10, ecd10⟩ : ∃ z : gm × gm, z = (cd5.1, c9) := ⟨_, rfl⟩
  replace G : gW D ad cy N A s.heap cd10.1 cd10.2 H locs := by rw [ecd10]; exact G
  replace h := gv_s h cd10 ecd10
  refine lv_istore (lv' := [(6, .int r8), (5, .int r3), (0, .ref b), (1, .ref (ad 0)), (2, .ref (ad 55)), (3, .ref (ad 530)), (4, .int i)]) hx hb dL_law__352 hl (by decide) rfl (fun ls hl => ?_)
  refine lv_aload_n hx hb dL_law__354 rfl (lv_at hl 4 rfl) ?_
  obtain ⟨r12, hc11, h⟩ := gb_s h
  refine gx_calli F G (va_runV (As := []) (rest := []) (gx_fix F) (c_X10_thrown l sa D ad cy N H.size (Nat.le_trans (by decide) hN) hI cd10.1 cd10.2 hc11) (cwV 0 hts gL_law__X10_thrown rfl rfl rfl (by decide +kernel) ⟨by decide, by decide⟩) (gx_rec F G ht55 (gwe_10 hk55) rfl) rfl rfl hl.1 rfl (lv_room (Nat.le_of_ble_eq_true rfl)) dL_law__355 ⟨by show kc + 1 + 0 ≤ 600128; omega, by show ks + 6 + 0 ≤ 7301098; omega⟩) (fun H locs G => ?_)
  refine lv_iload hx hb dL_law__358 (lv_at hl 1 rfl) ?_
  refine lv_icmp_eq (tgt := 365) hx hb dL_law__360 (by decide) (fun q13 => ?_) (fun q13 => ?_)
  · replace h := gt_s q13 h
    refine lv_iload hx hb dL_law__365 (lv_at hl 1 rfl) ?_
    refine lv_if_ne (tgt := 382) hx hb dL_law__367 (by decide) (fun q14 => ?_) (fun q14 => ?_)
    · replace h := gf_s q14 h
      refine lv_goto (tgt := 2288) hx hb dL_law__382 (by decide) ?_
      cases h
      exact J _ _ _ G (lv_sub hl [2, 3, 4, 5, 6] rfl)
    · replace h := gt_s q14 h
      refine lv_aload_n hx hb dL_law__370 rfl (lv_at hl 5 rfl) ?_
      refine lv_iconst (v := 0) hx hb dL_law__371 (by decide) ?_
      refine gx_la F G hk530 ht530 hn530 (by decide) dL_law__372 ?_
      refine lv_iload hx hb dL_law__373 (lv_at hl 0 rfl) ?_
      refine lv_i2l hx hb dL_law__375 rfl ?_
      refine W.lcmp hx hb dL_law__376 ?_
      refine lv_if_eq (tgt := 382) hx hb dL_law__377 (by decide) (fun q15 => ?_) (fun q15 => ?_)
      · replace h := gt_s q15 h
        refine lv_goto (tgt := 2288) hx hb dL_law__382 (by decide) ?_
        cases h
        exact J _ _ _ G (lv_sub hl [2, 3, 4, 5, 6] rfl)
      · replace h := gf_s q15 h
        refine lv_iconst (v := 0) hx hb dL_law__380 (by decide) ?_
        cases h
  · replace h := gf_s q13 h
    refine lv_iconst (v := 0) hx hb dL_law__363 (by decide) ?_
    cases h
def m_law_3 (n : Nat) (xs : Nat → Int32) (L : Nat) (i : Int32) (cd : gm × gm) : Option (gm × gm) :=
  gc (0 ≤ (i + 1).toInt ∧ (i + 1).toInt < (L : Nat)) (gb2 (m_L_work n 0 (xs (i + 1).toNatClampNeg) 530 cd.1) (fun (r3 : Int32) (c4 : gm) => gv ((c4, cd.2) : gm × gm) (fun (cd5 : gm × gm) => gc (0 ≤ (i + 1).toInt ∧ (i + 1).toInt < (L : Nat)) (gb2 (m_X10_work n 55 (xs (i + 1).toNatClampNeg) cd5.2) (fun (r8 : Int32) (c9 : gm) => gv ((cd5.1, c9) : gm × gm) (fun (cd10 : gm × gm) => gb (m_X10_thrown 55 cd10.2) (fun (r12 : Int32) => (if r12 = r3 then (if r3 = 0 then (if (lg_cmp (cd10.1.2.1 530 (0 : Int32).toNatClampNeg) (Int32.toInt64 r8)) = 0 then some cd10 else none) else some cd10) else none))))))))
set_option maxHeartbeats 4000000 in
set_option maxRecDepth 100000 in
theorem law_3 {p : Program} {l : Launch} {e : Env} {s : State} {m : MethodId} {below : List Frame} {meth : Method} {cod : Code} {H : Heap} {locs : List Loc} {Q : State → Prop} {sa : gSa} {D : va_G} {A : Nat → Prop} {ad : Nat → Nat} {cy : Nat → ClassId} {N : Nat} (hlt : l.stackTraces = false) (hN : 531 ≤ N) {b L n kc ks : Nat} {xs : Nat → Int32} {ls : Array Slot} {i : Int32} {cd cd2 : gm × gm} (F : gF sa D ad cy N A p s m #[Value.ref b] cod cL_law_ 8 wsL_law_ RL) (hX : va_X b L xs s s.heap) (hbl : b < s.heap.size) (hbA : ¬ A b) (hkc : kc + 1 ≤ 600128) (hks : ks + 6 ≤ 7301098) (h : m_law_3 n xs L i cd = some cd2) (G : gW D ad cy N A s.heap cd.1 cd.2 H locs) (hl : lv_has ls 8 [(0, .ref b), (1, .ref (ad 0)), (2, .ref (ad 55)), (3, .ref (ad 530)), (4, .int i)]) (J : ∀ (H : Heap) (locs : List Loc) (ls : Array Slot), gW D ad cy N A s.heap cd2.1 cd2.2 H locs → lv_has ls 8 [(0, .ref b), (1, .ref (ad 0)), (2, .ref (ad 55)), (3, .ref (ad 530)), (4, .int i)] → W p l e room_1 s m #[Value.ref b] below meth cod H locs (kc + 1) (ks + 6) Q (F0 m 2288 ls [])) : W p l e room_1 s m #[Value.ref b] below meth cod H locs kc ks Q (F0 m 385 ls []) := by
  obtain ⟨hx, hb, hml, hown, hts, hK, hI, hA, hZ, hZZ⟩ := id F
  have hk0 : gck 0 = 9 := rfl
  have hk55 : gck 55 = 10 := rfl
  have hk530 : gck 530 = 26 := rfl
  have hn530 : gal 530 = 1 := rfl
  have ht0 : 0 < N := Nat.lt_of_lt_of_le (by decide) hN
  have ht55 : 55 < N := Nat.lt_of_lt_of_le (by decide) hN
  have ht530 : 530 < N := Nat.lt_of_lt_of_le (by decide) hN
  unfold m_law_3 at h
  refine lv_aload_n hx hb dL_law__385 rfl (lv_at hl 1 rfl) ?_
  refine lv_aload_n hx hb dL_law__386 rfl (lv_at hl 0 rfl) ?_
  refine lv_iload hx hb dL_law__387 (lv_at hl 4 rfl) ?_
  refine lv_iconst (v := 1) hx hb dL_law__389 (by decide) ?_
  refine lv_iadd hx hb dL_law__390 ?_
  obtain ⟨hi1, h⟩ := gc_s h
  refine va_sld hx hb hX hbl hbA G.2 (gin hi1) dL_law__391 ?_
  refine lv_aload_n hx hb dL_law__392 rfl (lv_at hl 3 rfl) ?_
  obtain ⟨r3, c4, hc2, h⟩ := gb2_s h
  refine gx_calliX F G (vx_runSW (As := [.ref (ad 0), .int (xs (i + 1).toNatClampNeg), .ref (ad 530)]) (rest := []) (gx_fix F) (c_L_work l hlt sa D ad cy N H.size hN hI cd.1 cd.2 hc2) (vx_cwSW 3 hts gL_law__L_work rfl rfl rfl (by decide +kernel) ⟨by decide, by decide⟩) (gx_pre F G) rfl rfl hl.1 rfl (lv_room (Nat.le_of_ble_eq_true rfl)) dL_law__393 ⟨by show kc + 1 ≤ 600128; omega, by show ks + 6 ≤ 7301098; omega⟩) (fun H locs G => ?_)
  obtain ⟨cd5, ecd5⟩ : ∃ z : gm × gm, z = (c4, cd.2) := ⟨_, rfl⟩
  replace G : gW D ad cy N A s.heap cd5.1 cd5.2 H locs := by rw [ecd5]; exact G
  replace h := gv_s h cd5 ecd5
  refine lv_istore (lv' := [(5, .int r3), (0, .ref b), (1, .ref (ad 0)), (2, .ref (ad 55)), (3, .ref (ad 530)), (4, .int i)]) hx hb dL_law__396 hl (by decide) rfl (fun ls hl => ?_)
  refine lv_aload_n hx hb dL_law__398 rfl (lv_at hl 3 rfl) ?_
  refine lv_aload_n hx hb dL_law__399 rfl (lv_at hl 1 rfl) ?_
  refine lv_iload hx hb dL_law__400 (lv_at hl 5 rfl) ?_
  refine lv_iconst (v := 1) hx hb dL_law__402 (by decide) ?_
  refine lv_iadd hx hb dL_law__403 ?_
  obtain ⟨hi6, h⟩ := gc_s h
  refine va_sld hx hb hX hbl hbA G.2 (gin hi6) dL_law__404 ?_
  obtain ⟨r8, c9, hc7, h⟩ := gb2_s h
  refine gx_calli F G (va_runV (As := [.int (xs (i + 1).toNatClampNeg)]) (rest := []) (gx_fix F) (c_X10_work l sa D ad cy N H.size (Nat.le_trans (by decide) hN) hI cd5.1 cd5.2 hc7) (cwV 1 hts gL_law__X10_work rfl rfl rfl (by decide +kernel) ⟨by decide, by decide⟩) (gx_rec F G ht55 (gwe_10 hk55) rfl) rfl rfl hl.1 rfl (lv_room (Nat.le_of_ble_eq_true rfl)) dL_law__405 ⟨by show kc + 1 + 0 ≤ 600128; omega, by show ks + 6 + 0 ≤ 7301098; omega⟩) (fun H locs G => ?_)
  obtain ⟨cd10, ecd10⟩ : ∃ z : gm × gm, z = (cd5.1, c9) := ⟨_, rfl⟩
  replace G : gW D ad cy N A s.heap cd10.1 cd10.2 H locs := by rw [ecd10]; exact G
  replace h := gv_s h cd10 ecd10
  refine lv_istore (lv' := [(6, .int r8), (5, .int r3), (0, .ref b), (1, .ref (ad 0)), (2, .ref (ad 55)), (3, .ref (ad 530)), (4, .int i)]) hx hb dL_law__408 hl (by decide) rfl (fun ls hl => ?_)
  refine lv_aload_n hx hb dL_law__410 rfl (lv_at hl 4 rfl) ?_
  obtain ⟨r12, hc11, h⟩ := gb_s h
  refine gx_calli F G (va_runV (As := []) (rest := []) (gx_fix F) (c_X10_thrown l sa D ad cy N H.size (Nat.le_trans (by decide) hN) hI cd10.1 cd10.2 hc11) (cwV 0 hts gL_law__X10_thrown rfl rfl rfl (by decide +kernel) ⟨by decide, by decide⟩) (gx_rec F G ht55 (gwe_10 hk55) rfl) rfl rfl hl.1 rfl (lv_room (Nat.le_of_ble_eq_true rfl)) dL_law__411 ⟨by show kc + 1 + 0 ≤ 600128; omega, by show ks + 6 + 0 ≤ 7301098; omega⟩) (fun H locs G => ?_)
  refine lv_iload hx hb dL_law__414 (lv_at hl 1 rfl) ?_
  refine lv_icmp_eq (tgt := 421) hx hb dL_law__416 (by decide) (fun q13 => ?_) (fun q13 => ?_)
  · replace h := gt_s q13 h
    refine lv_iload hx hb dL_law__421 (lv_at hl 1 rfl) ?_
    refine lv_if_ne (tgt := 438) hx hb dL_law__423 (by decide) (fun q14 => ?_) (fun q14 => ?_)
    · replace h := gf_s q14 h
      refine lv_goto (tgt := 2288) hx hb dL_law__438 (by decide) ?_
      cases h
      exact J _ _ _ G (lv_sub hl [2, 3, 4, 5, 6] rfl)
    · replace h := gt_s q14 h
      refine lv_aload_n hx hb dL_law__426 rfl (lv_at hl 5 rfl) ?_
      refine lv_iconst (v := 0) hx hb dL_law__427 (by decide) ?_
      refine gx_la F G hk530 ht530 hn530 (by decide) dL_law__428 ?_
      refine lv_iload hx hb dL_law__429 (lv_at hl 0 rfl) ?_
      refine lv_i2l hx hb dL_law__431 rfl ?_
      refine W.lcmp hx hb dL_law__432 ?_
      refine lv_if_eq (tgt := 438) hx hb dL_law__433 (by decide) (fun q15 => ?_) (fun q15 => ?_)
      · replace h := gt_s q15 h
        refine lv_goto (tgt := 2288) hx hb dL_law__438 (by decide) ?_
        cases h
        exact J _ _ _ G (lv_sub hl [2, 3, 4, 5, 6] rfl)
      · replace h := gf_s q15 h
        refine lv_iconst (v := 0) hx hb dL_law__436 (by decide) ?_
        cases h
  · replace h := gf_s q13 h
    refine lv_iconst (v := 0) hx hb dL_law__419 (by decide) ?_
    cases h
def m_law_4 (n : Nat) (xs : Nat → Int32) (L : Nat) (i : Int32) (cd : gm × gm) : Option (gm × gm) :=
  gc (0 ≤ (i + 1).toInt ∧ (i + 1).toInt < (L : Nat)) (gb2 (m_L_book n 0 (xs (i + 1).toNatClampNeg) 530 cd.1) (fun (r3 : Int32) (c4 : gm) => gv ((c4, cd.2) : gm × gm) (fun (cd5 : gm × gm) => gc (0 ≤ (i + 1).toInt ∧ (i + 1).toInt < (L : Nat)) (gb2 (m_X10_book n 55 (xs (i + 1).toNatClampNeg) cd5.2) (fun (r8 : Int32) (c9 : gm) => gv ((cd5.1, c9) : gm × gm) (fun (cd10 : gm × gm) => gb (m_X10_thrown 55 cd10.2) (fun (r12 : Int32) => (if r12 = r3 then (if r3 = 0 then (if (lg_cmp (cd10.1.2.1 530 (0 : Int32).toNatClampNeg) (Int32.toInt64 r8)) = 0 then some cd10 else none) else some cd10) else none))))))))
set_option maxHeartbeats 4000000 in
set_option maxRecDepth 100000 in
theorem law_4 {p : Program} {l : Launch} {e : Env} {s : State} {m : MethodId} {below : List Frame} {meth : Method} {cod : Code} {H : Heap} {locs : List Loc} {Q : State → Prop} {sa : gSa} {D : va_G} {A : Nat → Prop} {ad : Nat → Nat} {cy : Nat → ClassId} {N : Nat} (hlt : l.stackTraces = false) (hN : 531 ≤ N) {b L n kc ks : Nat} {xs : Nat → Int32} {ls : Array Slot} {i : Int32} {cd cd2 : gm × gm} (F : gF sa D ad cy N A p s m #[Value.ref b] cod cL_law_ 8 wsL_law_ RL) (hX : va_X b L xs s s.heap) (hbl : b < s.heap.size) (hbA : ¬ A b) (hkc : kc + 1 ≤ 600128) (hks : ks + 6 ≤ 7301098) (h : m_law_4 n xs L i cd = some cd2) (G : gW D ad cy N A s.heap cd.1 cd.2 H locs) (hl : lv_has ls 8 [(0, .ref b), (1, .ref (ad 0)), (2, .ref (ad 55)), (3, .ref (ad 530)), (4, .int i)]) (J : ∀ (H : Heap) (locs : List Loc) (ls : Array Slot), gW D ad cy N A s.heap cd2.1 cd2.2 H locs → lv_has ls 8 [(0, .ref b), (1, .ref (ad 0)), (2, .ref (ad 55)), (3, .ref (ad 530)), (4, .int i)] → W p l e room_1 s m #[Value.ref b] below meth cod H locs (kc + 1) (ks + 6) Q (F0 m 2288 ls [])) : W p l e room_1 s m #[Value.ref b] below meth cod H locs kc ks Q (F0 m 441 ls []) := by
  obtain ⟨hx, hb, hml, hown, hts, hK, hI, hA, hZ, hZZ⟩ := id F
  have hk0 : gck 0 = 9 := rfl
  have hk55 : gck 55 = 10 := rfl
  have hk530 : gck 530 = 26 := rfl
  have hn530 : gal 530 = 1 := rfl
  have ht0 : 0 < N := Nat.lt_of_lt_of_le (by decide) hN
  have ht55 : 55 < N := Nat.lt_of_lt_of_le (by decide) hN
  have ht530 : 530 < N := Nat.lt_of_lt_of_le (by decide) hN
  unfold m_law_4 at h
  refine lv_aload_n hx hb dL_law__441 rfl (lv_at hl 1 rfl) ?_
  refine lv_aload_n hx hb dL_law__442 rfl (lv_at hl 0 rfl) ?_
  refine lv_iload hx hb dL_law__443 (lv_at hl 4 rfl) ?_
  refine lv_iconst (v := 1) hx hb dL_law__445 (by decide) ?_
  refine lv_iadd hx hb dL_law__446 ?_
  obtain ⟨hi1, h⟩ := gc_s h
  refine va_sld hx hb hX hbl hbA G.2 (gin hi1) dL_law__447 ?_
  refine lv_aload_n hx hb dL_law__448 rfl (lv_at hl 3 rfl) ?_
  obtain ⟨r3, c4, hc2, h⟩ := gb2_s h
  refine gx_calliX F G (vx_runSW (As := [.ref (ad 0), .int (xs (i + 1).toNatClampNeg), .ref (ad 530)]) (rest := []) (gx_fix F) (c_L_book l hlt sa D ad cy N H.size hN hI cd.1 cd.2 hc2) (vx_cwSW 3 hts gL_law__L_book rfl rfl rfl (by decide +kernel) ⟨by decide, by decide⟩) (gx_pre F G) rfl rfl hl.1 rfl (lv_room (Nat.le_of_ble_eq_true rfl)) dL_law__449 ⟨by show kc + 1 ≤ 600128; omega, by show ks + 6 ≤ 7301098; omega⟩) (fun H locs G => ?_)
  obtain ⟨cd5, ecd5⟩ : ∃ z : gm × gm, z = (c4, cd.2) := ⟨_, rfl⟩
  replace G : gW D ad cy N A s.heap cd5.1 cd5.2 H locs := by rw [ecd5]; exact G
  replace h := gv_s h cd5 ecd5
  refine lv_istore (lv' := [(5, .int r3), (0, .ref b), (1, .ref (ad 0)), (2, .ref (ad 55)), (3, .ref (ad 530)), (4, .int i)]) hx hb dL_law__452 hl (by decide) rfl (fun ls hl => ?_)
  refine lv_aload_n hx hb dL_law__454 rfl (lv_at hl 3 rfl) ?_
  refine lv_aload_n hx hb dL_law__455 rfl (lv_at hl 1 rfl) ?_
  refine lv_iload hx hb dL_law__456 (lv_at hl 5 rfl) ?_
  refine lv_iconst (v := 1) hx hb dL_law__458 (by decide) ?_
  refine lv_iadd hx hb dL_law__459 ?_
  obtain ⟨hi6, h⟩ := gc_s h
  refine va_sld hx hb hX hbl hbA G.2 (gin hi6) dL_law__460 ?_
  obtain ⟨r8, c9, hc7, h⟩ := gb2_s h
  refine gx_calli F G (va_runV (As := [.int (xs (i + 1).toNatClampNeg)]) (rest := []) (gx_fix F) (c_X10_book l sa D ad cy N H.size (Nat.le_trans (by decide) hN) hI cd5.1 cd5.2 hc7) (cwV 1 hts gL_law__X10_book rfl rfl rfl (by decide +kernel) ⟨by decide, by decide⟩) (gx_rec F G ht55 (gwe_10 hk55) rfl) rfl rfl hl.1 rfl (lv_room (Nat.le_of_ble_eq_true rfl)) dL_law__461 ⟨by show kc + 1 + 0 ≤ 600128; omega, by show ks + 6 + 0 ≤ 7301098; omega⟩) (fun H locs G => ?_)
  obtain ⟨cd10, ecd10⟩ : ∃ z : gm × gm, z = (cd5.1, c9) := ⟨_, rfl⟩
  replace G : gW D ad cy N A s.heap cd10.1 cd10.2 H locs := by rw [ecd10]; exact G
  replace h := gv_s h cd10 ecd10
  refine lv_istore (lv' := [(6, .int r8), (5, .int r3), (0, .ref b), (1, .ref (ad 0)), (2, .ref (ad 55)), (3, .ref (ad 530)), (4, .int i)]) hx hb dL_law__464 hl (by decide) rfl (fun ls hl => ?_)
  refine lv_aload_n hx hb dL_law__466 rfl (lv_at hl 4 rfl) ?_
  obtain ⟨r12, hc11, h⟩ := gb_s h
  refine gx_calli F G (va_runV (As := []) (rest := []) (gx_fix F) (c_X10_thrown l sa D ad cy N H.size (Nat.le_trans (by decide) hN) hI cd10.1 cd10.2 hc11) (cwV 0 hts gL_law__X10_thrown rfl rfl rfl (by decide +kernel) ⟨by decide, by decide⟩) (gx_rec F G ht55 (gwe_10 hk55) rfl) rfl rfl hl.1 rfl (lv_room (Nat.le_of_ble_eq_true rfl)) dL_law__467 ⟨by show kc + 1 + 0 ≤ 600128; omega, by show ks + 6 + 0 ≤ 7301098; omega⟩) (fun H locs G => ?_)
  refine lv_iload hx hb dL_law__470 (lv_at hl 1 rfl) ?_
  refine lv_icmp_eq (tgt := 477) hx hb dL_law__472 (by decide) (fun q13 => ?_) (fun q13 => ?_)
  · replace h := gt_s q13 h
    refine lv_iload hx hb dL_law__477 (lv_at hl 1 rfl) ?_
    refine lv_if_ne (tgt := 494) hx hb dL_law__479 (by decide) (fun q14 => ?_) (fun q14 => ?_)
    · replace h := gf_s q14 h
      refine lv_goto (tgt := 2288) hx hb dL_law__494 (by decide) ?_
      cases h
      exact J _ _ _ G (lv_sub hl [2, 3, 4, 5, 6] rfl)
    · replace h := gt_s q14 h
      refine lv_aload_n hx hb dL_law__482 rfl (lv_at hl 5 rfl) ?_
      refine lv_iconst (v := 0) hx hb dL_law__483 (by decide) ?_
      refine gx_la F G hk530 ht530 hn530 (by decide) dL_law__484 ?_
      refine lv_iload hx hb dL_law__485 (lv_at hl 0 rfl) ?_
      refine lv_i2l hx hb dL_law__487 rfl ?_
      refine W.lcmp hx hb dL_law__488 ?_
      refine lv_if_eq (tgt := 494) hx hb dL_law__489 (by decide) (fun q15 => ?_) (fun q15 => ?_)
      · replace h := gt_s q15 h
        refine lv_goto (tgt := 2288) hx hb dL_law__494 (by decide) ?_
        cases h
        exact J _ _ _ G (lv_sub hl [2, 3, 4, 5, 6] rfl)
      · replace h := gf_s q15 h
        refine lv_iconst (v := 0) hx hb dL_law__492 (by decide) ?_
        cases h
  · replace h := gf_s q13 h
    refine lv_iconst (v := 0) hx hb dL_law__475 (by decide) ?_
    cases h
def m_law_5 (n : Nat) (xs : Nat → Int32) (L : Nat) (i : Int32) (cd : gm × gm) : Option (gm × gm) :=
  gb (m_X9_fault 0 cd.1) (fun (r2 : Int32) => gb2 (m_X10_fault 55 cd.2) (fun (r4 : Int32) (c5 : gm) => gv ((cd.1, c5) : gm × gm) (fun (cd6 : gm × gm) => (if r2 = r4 then some cd6 else none))))
set_option maxHeartbeats 4000000 in
set_option maxRecDepth 100000 in
theorem law_5 {p : Program} {l : Launch} {e : Env} {s : State} {m : MethodId} {below : List Frame} {meth : Method} {cod : Code} {H : Heap} {locs : List Loc} {Q : State → Prop} {sa : gSa} {D : va_G} {A : Nat → Prop} {ad : Nat → Nat} {cy : Nat → ClassId} {N : Nat} (hlt : l.stackTraces = false) (hN : 531 ≤ N) {b L n kc ks : Nat} {xs : Nat → Int32} {ls : Array Slot} {i : Int32} {cd cd2 : gm × gm} (F : gF sa D ad cy N A p s m #[Value.ref b] cod cL_law_ 8 wsL_law_ RL) (hX : va_X b L xs s s.heap) (hbl : b < s.heap.size) (hbA : ¬ A b) (hkc : kc + 1 ≤ 600128) (hks : ks + 6 ≤ 7301098) (h : m_law_5 n xs L i cd = some cd2) (G : gW D ad cy N A s.heap cd.1 cd.2 H locs) (hl : lv_has ls 8 [(0, .ref b), (1, .ref (ad 0)), (2, .ref (ad 55)), (3, .ref (ad 530)), (4, .int i)]) (J : ∀ (H : Heap) (locs : List Loc) (ls : Array Slot), gW D ad cy N A s.heap cd2.1 cd2.2 H locs → lv_has ls 8 [(0, .ref b), (1, .ref (ad 0)), (2, .ref (ad 55)), (3, .ref (ad 530)), (4, .int i)] → W p l e room_1 s m #[Value.ref b] below meth cod H locs (kc + 1) (ks + 6) Q (F0 m 2288 ls [])) : W p l e room_1 s m #[Value.ref b] below meth cod H locs kc ks Q (F0 m 497 ls []) := by
  obtain ⟨hx, hb, hml, hown, hts, hK, hI, hA, hZ, hZZ⟩ := id F
  have hk0 : gck 0 = 9 := rfl
  have hk55 : gck 55 = 10 := rfl
  have hk530 : gck 530 = 26 := rfl
  have hn530 : gal 530 = 1 := rfl
  have ht0 : 0 < N := Nat.lt_of_lt_of_le (by decide) hN
  have ht55 : 55 < N := Nat.lt_of_lt_of_le (by decide) hN
  have ht530 : 530 < N := Nat.lt_of_lt_of_le (by decide) hN
  unfold m_law_5 at h
  refine lv_aload_n hx hb dL_law__497 rfl (lv_at hl 1 rfl) ?_
  obtain ⟨r2, hc1, h⟩ := gb_s h
  refine gx_calli F G (va_runV (As := []) (rest := []) (gx_fix F) (c_X9_fault l sa D ad cy N H.size (Nat.le_trans (by decide) hN) hI cd.1 cd.2 hc1) (cwV 0 hts gL_law__X9_fault rfl rfl rfl (by decide +kernel) ⟨by decide, by decide⟩) (gx_rec F G ht0 (gwe_9 hk0) rfl) rfl rfl hl.1 rfl (lv_room (Nat.le_of_ble_eq_true rfl)) dL_law__498 ⟨by show kc + 0 ≤ 600128; omega, by show ks + 0 ≤ 7301098; omega⟩) (fun H locs G => ?_)
  refine lv_aload_n hx hb dL_law__501 rfl (lv_at hl 2 rfl) ?_
  obtain ⟨r4, c5, hc3, h⟩ := gb2_s h
  refine gx_calli F G (va_runV (As := []) (rest := [.int r2]) (gx_fix F) (c_X10_fault l sa D ad cy N H.size (Nat.le_trans (by decide) hN) hI cd.1 cd.2 hc3) (cwV 0 hts gL_law__X10_fault rfl rfl rfl (by decide +kernel) ⟨by decide, by decide⟩) (gx_rec F G ht55 (gwe_10 hk55) rfl) rfl rfl hl.1 rfl (lv_room (Nat.le_of_ble_eq_true rfl)) dL_law__502 ⟨by show kc + 0 ≤ 600128; omega, by show ks + 0 ≤ 7301098; omega⟩) (fun H locs G => ?_)
  obtain ⟨cd6, ecd6⟩ : ∃ z : gm × gm, z = (cd.1, c5) := ⟨_, rfl⟩
  replace G : gW D ad cy N A s.heap cd6.1 cd6.2 H locs := by rw [ecd6]; exact G
  replace h := gv_s h cd6 ecd6
  refine lv_icmp_eq (tgt := 2288) hx hb dL_law__505 (by decide) (fun q7 => ?_) (fun q7 => ?_)
  · replace h := gt_s q7 h
    cases h
    exact W.widen (k := kc + 1) (n := ks + 6) (by omega) (by omega) (J _ _ _ G hl)
  · replace h := gf_s q7 h
    refine lv_iconst (v := 0) hx hb dL_law__508 (by decide) ?_
    cases h
def m_law_6 (n : Nat) (xs : Nat → Int32) (L : Nat) (i : Int32) (cd : gm × gm) : Option (gm × gm) :=
  gb2 (m_X9_undo 0 cd.1) (fun (r2 : Int32) (c3 : gm) => gv ((c3, cd.2) : gm × gm) (fun (cd4 : gm × gm) => gb2 (m_X10_undo n 55 cd4.2) (fun (r6 : Int32) (c7 : gm) => gv ((cd4.1, c7) : gm × gm) (fun (cd8 : gm × gm) => (if r2 = r6 then some cd8 else none)))))
set_option maxHeartbeats 4000000 in
set_option maxRecDepth 100000 in
theorem law_6 {p : Program} {l : Launch} {e : Env} {s : State} {m : MethodId} {below : List Frame} {meth : Method} {cod : Code} {H : Heap} {locs : List Loc} {Q : State → Prop} {sa : gSa} {D : va_G} {A : Nat → Prop} {ad : Nat → Nat} {cy : Nat → ClassId} {N : Nat} (hlt : l.stackTraces = false) (hN : 531 ≤ N) {b L n kc ks : Nat} {xs : Nat → Int32} {ls : Array Slot} {i : Int32} {cd cd2 : gm × gm} (F : gF sa D ad cy N A p s m #[Value.ref b] cod cL_law_ 8 wsL_law_ RL) (hX : va_X b L xs s s.heap) (hbl : b < s.heap.size) (hbA : ¬ A b) (hkc : kc + 1 ≤ 600128) (hks : ks + 6 ≤ 7301098) (h : m_law_6 n xs L i cd = some cd2) (G : gW D ad cy N A s.heap cd.1 cd.2 H locs) (hl : lv_has ls 8 [(0, .ref b), (1, .ref (ad 0)), (2, .ref (ad 55)), (3, .ref (ad 530)), (4, .int i)]) (J : ∀ (H : Heap) (locs : List Loc) (ls : Array Slot), gW D ad cy N A s.heap cd2.1 cd2.2 H locs → lv_has ls 8 [(0, .ref b), (1, .ref (ad 0)), (2, .ref (ad 55)), (3, .ref (ad 530)), (4, .int i)] → W p l e room_1 s m #[Value.ref b] below meth cod H locs (kc + 1) (ks + 6) Q (F0 m 2288 ls [])) : W p l e room_1 s m #[Value.ref b] below meth cod H locs kc ks Q (F0 m 510 ls []) := by
  obtain ⟨hx, hb, hml, hown, hts, hK, hI, hA, hZ, hZZ⟩ := id F
  have hk0 : gck 0 = 9 := rfl
  have hk55 : gck 55 = 10 := rfl
  have hk530 : gck 530 = 26 := rfl
  have hn530 : gal 530 = 1 := rfl
  have ht0 : 0 < N := Nat.lt_of_lt_of_le (by decide) hN
  have ht55 : 55 < N := Nat.lt_of_lt_of_le (by decide) hN
  have ht530 : 530 < N := Nat.lt_of_lt_of_le (by decide) hN
  unfold m_law_6 at h
  refine lv_aload_n hx hb dL_law__510 rfl (lv_at hl 1 rfl) ?_
  obtain ⟨r2, c3, hc1, h⟩ := gb2_s h
  refine gx_calli F G (va_runV (As := []) (rest := []) (gx_fix F) (c_X9_undo l sa D ad cy N H.size (Nat.le_trans (by decide) hN) hI cd.1 cd.2 hc1) (cwV 0 hts gL_law__X9_undo rfl rfl rfl (by decide +kernel) ⟨by decide, by decide⟩) (gx_rec F G ht0 (gwe_9 hk0) rfl) rfl rfl hl.1 rfl (lv_room (Nat.le_of_ble_eq_true rfl)) dL_law__511 ⟨by show kc + 0 ≤ 600128; omega, by show ks + 0 ≤ 7301098; omega⟩) (fun H locs G => ?_)
  obtain ⟨cd4, ecd4⟩ : ∃ z : gm × gm, z = (c3, cd.2) := ⟨_, rfl⟩
  replace G : gW D ad cy N A s.heap cd4.1 cd4.2 H locs := by rw [ecd4]; exact G
  replace h := gv_s h cd4 ecd4
  refine lv_aload_n hx hb dL_law__514 rfl (lv_at hl 2 rfl) ?_
  obtain ⟨r6, c7, hc5, h⟩ := gb2_s h
  refine gx_calli F G (va_runV (As := []) (rest := [.int r2]) (gx_fix F) (c_X10_undo l sa D ad cy N H.size (Nat.le_trans (by decide) hN) hI cd4.1 cd4.2 hc5) (cwV 0 hts gL_law__X10_undo rfl rfl rfl (by decide +kernel) ⟨by decide, by decide⟩) (gx_rec F G ht55 (gwe_10 hk55) rfl) rfl rfl hl.1 rfl (lv_room (Nat.le_of_ble_eq_true rfl)) dL_law__515 ⟨by show kc + 0 ≤ 600128; omega, by show ks + 0 ≤ 7301098; omega⟩) (fun H locs G => ?_)
  obtain ⟨cd8, ecd8⟩ : ∃ z : gm × gm, z = (cd4.1, c7) := ⟨_, rfl⟩
  replace G : gW D ad cy N A s.heap cd8.1 cd8.2 H locs := by rw [ecd8]; exact G
  replace h := gv_s h cd8 ecd8
  refine lv_icmp_eq (tgt := 2288) hx hb dL_law__518 (by decide) (fun q9 => ?_) (fun q9 => ?_)
  · replace h := gt_s q9 h
    cases h
    exact W.widen (k := kc + 1) (n := ks + 6) (by omega) (by omega) (J _ _ _ G hl)
  · replace h := gf_s q9 h
    refine lv_iconst (v := 0) hx hb dL_law__521 (by decide) ?_
    cases h
def m_law_7 (n : Nat) (xs : Nat → Int32) (L : Nat) (i : Int32) (cd : gm × gm) : Option (gm × gm) :=
  gc (0 ≤ (i + 1).toInt ∧ (i + 1).toInt < (L : Nat)) (gb2 (m_L_told n 0 (xs (i + 1).toNatClampNeg) 530 cd.1) (fun (r3 : Int32) (c4 : gm) => gv ((c4, cd.2) : gm × gm) (fun (cd5 : gm × gm) => gc (0 ≤ (i + 1).toInt ∧ (i + 1).toInt < (L : Nat)) (gb2 (m_X10_told n 55 (xs (i + 1).toNatClampNeg) cd5.2) (fun (r8 : Int32) (c9 : gm) => gv ((cd5.1, c9) : gm × gm) (fun (cd10 : gm × gm) => gb (m_X10_thrown 55 cd10.2) (fun (r12 : Int32) => (if r12 = r3 then (if r3 = 0 then (if (lg_cmp (cd10.1.2.1 530 (0 : Int32).toNatClampNeg) (Int32.toInt64 r8)) = 0 then some cd10 else none) else some cd10) else none))))))))
set_option maxHeartbeats 4000000 in
set_option maxRecDepth 100000 in
theorem law_7 {p : Program} {l : Launch} {e : Env} {s : State} {m : MethodId} {below : List Frame} {meth : Method} {cod : Code} {H : Heap} {locs : List Loc} {Q : State → Prop} {sa : gSa} {D : va_G} {A : Nat → Prop} {ad : Nat → Nat} {cy : Nat → ClassId} {N : Nat} (hlt : l.stackTraces = false) (hN : 531 ≤ N) {b L n kc ks : Nat} {xs : Nat → Int32} {ls : Array Slot} {i : Int32} {cd cd2 : gm × gm} (F : gF sa D ad cy N A p s m #[Value.ref b] cod cL_law_ 8 wsL_law_ RL) (hX : va_X b L xs s s.heap) (hbl : b < s.heap.size) (hbA : ¬ A b) (hkc : kc + 1 ≤ 600128) (hks : ks + 6 ≤ 7301098) (h : m_law_7 n xs L i cd = some cd2) (G : gW D ad cy N A s.heap cd.1 cd.2 H locs) (hl : lv_has ls 8 [(0, .ref b), (1, .ref (ad 0)), (2, .ref (ad 55)), (3, .ref (ad 530)), (4, .int i)]) (J : ∀ (H : Heap) (locs : List Loc) (ls : Array Slot), gW D ad cy N A s.heap cd2.1 cd2.2 H locs → lv_has ls 8 [(0, .ref b), (1, .ref (ad 0)), (2, .ref (ad 55)), (3, .ref (ad 530)), (4, .int i)] → W p l e room_1 s m #[Value.ref b] below meth cod H locs (kc + 1) (ks + 6) Q (F0 m 2288 ls [])) : W p l e room_1 s m #[Value.ref b] below meth cod H locs kc ks Q (F0 m 523 ls []) := by
  obtain ⟨hx, hb, hml, hown, hts, hK, hI, hA, hZ, hZZ⟩ := id F
  have hk0 : gck 0 = 9 := rfl
  have hk55 : gck 55 = 10 := rfl
  have hk530 : gck 530 = 26 := rfl
  have hn530 : gal 530 = 1 := rfl
  have ht0 : 0 < N := Nat.lt_of_lt_of_le (by decide) hN
  have ht55 : 55 < N := Nat.lt_of_lt_of_le (by decide) hN
  have ht530 : 530 < N := Nat.lt_of_lt_of_le (by decide) hN
  unfold m_law_7 at h
  refine lv_aload_n hx hb dL_law__523 rfl (lv_at hl 1 rfl) ?_
  refine lv_aload_n hx hb dL_law__524 rfl (lv_at hl 0 rfl) ?_
  refine lv_iload hx hb dL_law__525 (lv_at hl 4 rfl) ?_
  refine lv_iconst (v := 1) hx hb dL_law__527 (by decide) ?_
  refine lv_iadd hx hb dL_law__528 ?_
  obtain ⟨hi1, h⟩ := gc_s h
  refine va_sld hx hb hX hbl hbA G.2 (gin hi1) dL_law__529 ?_
  refine lv_aload_n hx hb dL_law__530 rfl (lv_at hl 3 rfl) ?_
  obtain ⟨r3, c4, hc2, h⟩ := gb2_s h
  refine gx_calliX F G (vx_runSW (As := [.ref (ad 0), .int (xs (i + 1).toNatClampNeg), .ref (ad 530)]) (rest := []) (gx_fix F) (c_L_told l hlt sa D ad cy N H.size hN hI cd.1 cd.2 hc2) (vx_cwSW 3 hts gL_law__L_told rfl rfl rfl (by decide +kernel) ⟨by decide, by decide⟩) (gx_pre F G) rfl rfl hl.1 rfl (lv_room (Nat.le_of_ble_eq_true rfl)) dL_law__531 ⟨by show kc + 1 ≤ 600128; omega, by show ks + 6 ≤ 7301098; omega⟩) (fun H locs G => ?_)
  obtain ⟨cd5, ecd5⟩ : ∃ z : gm × gm, z = (c4, cd.2) := ⟨_, rfl⟩
  replace G : gW D ad cy N A s.heap cd5.1 cd5.2 H locs := by rw [ecd5]; exact G
  replace h := gv_s h cd5 ecd5
  refine lv_istore (lv' := [(5, .int r3), (0, .ref b), (1, .ref (ad 0)), (2, .ref (ad 55)), (3, .ref (ad 530)), (4, .int i)]) hx hb dL_law__534 hl (by decide) rfl (fun ls hl => ?_)
  refine lv_aload_n hx hb dL_law__536 rfl (lv_at hl 3 rfl) ?_
  refine lv_aload_n hx hb dL_law__537 rfl (lv_at hl 1 rfl) ?_
  refine lv_iload hx hb dL_law__538 (lv_at hl 5 rfl) ?_
  refine lv_iconst (v := 1) hx hb dL_law__540 (by decide) ?_
  refine lv_iadd hx hb dL_law__541 ?_
  obtain ⟨hi6, h⟩ := gc_s h
  refine va_sld hx hb hX hbl hbA G.2 (gin hi6) dL_law__542 ?_
  obtain ⟨r8, c9, hc7, h⟩ := gb2_s h
  refine gx_calli F G (va_runV (As := [.int (xs (i + 1).toNatClampNeg)]) (rest := []) (gx_fix F) (c_X10_told l sa D ad cy N H.size (Nat.le_trans (by decide) hN) hI cd5.1 cd5.2 hc7) (cwV 1 hts gL_law__X10_told rfl rfl rfl (by decide +kernel) ⟨by decide, by decide⟩) (gx_rec F G ht55 (gwe_10 hk55) rfl) rfl rfl hl.1 rfl (lv_room (Nat.le_of_ble_eq_true rfl)) dL_law__543 ⟨by show kc + 1 + 0 ≤ 600128; omega, by show ks + 6 + 0 ≤ 7301098; omega⟩) (fun H locs G => ?_)
  obtain ⟨cd10, ecd10⟩ : ∃ z : gm × gm, z = (cd5.1, c9) := ⟨_, rfl⟩
  replace G : gW D ad cy N A s.heap cd10.1 cd10.2 H locs := by rw [ecd10]; exact G
  replace h := gv_s h cd10 ecd10
  refine lv_istore (lv' := [(6, .int r8), (5, .int r3), (0, .ref b), (1, .ref (ad 0)), (2, .ref (ad 55)), (3, .ref (ad 530)), (4, .int i)]) hx hb dL_law__546 hl (by decide) rfl (fun ls hl => ?_)
  refine lv_aload_n hx hb dL_law__548 rfl (lv_at hl 4 rfl) ?_
  obtain ⟨r12, hc11, h⟩ := gb_s h
  refine gx_calli F G (va_runV (As := []) (rest := []) (gx_fix F) (c_X10_thrown l sa D ad cy N H.size (Nat.le_trans (by decide) hN) hI cd10.1 cd10.2 hc11) (cwV 0 hts gL_law__X10_thrown rfl rfl rfl (by decide +kernel) ⟨by decide, by decide⟩) (gx_rec F G ht55 (gwe_10 hk55) rfl) rfl rfl hl.1 rfl (lv_room (Nat.le_of_ble_eq_true rfl)) dL_law__549 ⟨by show kc + 1 + 0 ≤ 600128; omega, by show ks + 6 + 0 ≤ 7301098; omega⟩) (fun H locs G => ?_)
  refine lv_iload hx hb dL_law__552 (lv_at hl 1 rfl) ?_
  refine lv_icmp_eq (tgt := 559) hx hb dL_law__554 (by decide) (fun q13 => ?_) (fun q13 => ?_)
  · replace h := gt_s q13 h
    refine lv_iload hx hb dL_law__559 (lv_at hl 1 rfl) ?_
    refine lv_if_ne (tgt := 576) hx hb dL_law__561 (by decide) (fun q14 => ?_) (fun q14 => ?_)
    · replace h := gf_s q14 h
      refine lv_goto (tgt := 2288) hx hb dL_law__576 (by decide) ?_
      cases h
      exact J _ _ _ G (lv_sub hl [2, 3, 4, 5, 6] rfl)
    · replace h := gt_s q14 h
      refine lv_aload_n hx hb dL_law__564 rfl (lv_at hl 5 rfl) ?_
      refine lv_iconst (v := 0) hx hb dL_law__565 (by decide) ?_
      refine gx_la F G hk530 ht530 hn530 (by decide) dL_law__566 ?_
      refine lv_iload hx hb dL_law__567 (lv_at hl 0 rfl) ?_
      refine lv_i2l hx hb dL_law__569 rfl ?_
      refine W.lcmp hx hb dL_law__570 ?_
      refine lv_if_eq (tgt := 576) hx hb dL_law__571 (by decide) (fun q15 => ?_) (fun q15 => ?_)
      · replace h := gt_s q15 h
        refine lv_goto (tgt := 2288) hx hb dL_law__576 (by decide) ?_
        cases h
        exact J _ _ _ G (lv_sub hl [2, 3, 4, 5, 6] rfl)
      · replace h := gf_s q15 h
        refine lv_iconst (v := 0) hx hb dL_law__574 (by decide) ?_
        cases h
  · replace h := gf_s q13 h
    refine lv_iconst (v := 0) hx hb dL_law__557 (by decide) ?_
    cases h
def m_law_8 (n : Nat) (xs : Nat → Int32) (L : Nat) (i : Int32) (cd : gm × gm) : Option (gm × gm) :=
  gc (0 ≤ (i + 1).toInt ∧ (i + 1).toInt < (L : Nat)) (gc (0 ≤ (i + 2).toInt ∧ (i + 2).toInt < (L : Nat)) (gb2 (m_L_thing n 0 (xs (i + 1).toNatClampNeg) (xs (i + 2).toNatClampNeg) 530 cd.1) (fun (r4 : Int32) (c5 : gm) => gv ((c5, cd.2) : gm × gm) (fun (cd6 : gm × gm) => gc (0 ≤ (i + 1).toInt ∧ (i + 1).toInt < (L : Nat)) (gc (0 ≤ (i + 2).toInt ∧ (i + 2).toInt < (L : Nat)) (gb2 (m_X10_thing n 55 (xs (i + 1).toNatClampNeg) (xs (i + 2).toNatClampNeg) cd6.2) (fun (r10 : Int32) (c11 : gm) => gv ((cd6.1, c11) : gm × gm) (fun (cd12 : gm × gm) => gb (m_X10_thrown 55 cd12.2) (fun (r14 : Int32) => (if r14 = r4 then (if r4 = 0 then (if (lg_cmp (cd12.1.2.1 530 (0 : Int32).toNatClampNeg) (Int32.toInt64 r10)) = 0 then some cd12 else none) else some cd12) else none))))))))))
set_option maxHeartbeats 4000000 in
set_option maxRecDepth 100000 in
theorem law_8 {p : Program} {l : Launch} {e : Env} {s : State} {m : MethodId} {below : List Frame} {meth : Method} {cod : Code} {H : Heap} {locs : List Loc} {Q : State → Prop} {sa : gSa} {D : va_G} {A : Nat → Prop} {ad : Nat → Nat} {cy : Nat → ClassId} {N : Nat} (hlt : l.stackTraces = false) (hN : 531 ≤ N) {b L n kc ks : Nat} {xs : Nat → Int32} {ls : Array Slot} {i : Int32} {cd cd2 : gm × gm} (F : gF sa D ad cy N A p s m #[Value.ref b] cod cL_law_ 8 wsL_law_ RL) (hX : va_X b L xs s s.heap) (hbl : b < s.heap.size) (hbA : ¬ A b) (hkc : kc + 1 ≤ 600128) (hks : ks + 6 ≤ 7301098) (h : m_law_8 n xs L i cd = some cd2) (G : gW D ad cy N A s.heap cd.1 cd.2 H locs) (hl : lv_has ls 8 [(0, .ref b), (1, .ref (ad 0)), (2, .ref (ad 55)), (3, .ref (ad 530)), (4, .int i)]) (J : ∀ (H : Heap) (locs : List Loc) (ls : Array Slot), gW D ad cy N A s.heap cd2.1 cd2.2 H locs → lv_has ls 8 [(0, .ref b), (1, .ref (ad 0)), (2, .ref (ad 55)), (3, .ref (ad 530)), (4, .int i)] → W p l e room_1 s m #[Value.ref b] below meth cod H locs (kc + 1) (ks + 6) Q (F0 m 2288 ls [])) : W p l e room_1 s m #[Value.ref b] below meth cod H locs kc ks Q (F0 m 579 ls []) := by
  obtain ⟨hx, hb, hml, hown, hts, hK, hI, hA, hZ, hZZ⟩ := id F
  have hk0 : gck 0 = 9 := rfl
  have hk55 : gck 55 = 10 := rfl
  have hk530 : gck 530 = 26 := rfl
  have hn530 : gal 530 = 1 := rfl
  have ht0 : 0 < N := Nat.lt_of_lt_of_le (by decide) hN
  have ht55 : 55 < N := Nat.lt_of_lt_of_le (by decide) hN
  have ht530 : 530 < N := Nat.lt_of_lt_of_le (by decide) hN
  unfold m_law_8 at h
  refine lv_aload_n hx hb dL_law__579 rfl (lv_at hl 1 rfl) ?_
  refine lv_aload_n hx hb dL_law__580 rfl (lv_at hl 0 rfl) ?_
  refine lv_iload hx hb dL_law__581 (lv_at hl 4 rfl) ?_
  refine lv_iconst (v := 1) hx hb dL_law__583 (by decide) ?_
  refine lv_iadd hx hb dL_law__584 ?_
  obtain ⟨hi1, h⟩ := gc_s h
  refine va_sld hx hb hX hbl hbA G.2 (gin hi1) dL_law__585 ?_
  refine lv_aload_n hx hb dL_law__586 rfl (lv_at hl 0 rfl) ?_
  refine lv_iload hx hb dL_law__587 (lv_at hl 4 rfl) ?_
  refine lv_iconst (v := 2) hx hb dL_law__589 (by decide) ?_
  refine lv_iadd hx hb dL_law__590 ?_
  obtain ⟨hi2, h⟩ := gc_s h
  refine va_sld hx hb hX hbl hbA G.2 (gin hi2) dL_law__591 ?_
  refine lv_aload_n hx hb dL_law__592 rfl (lv_at hl 3 rfl) ?_
  obtain ⟨r4, c5, hc3, h⟩ := gb2_s h
  refine gx_calliX F G (vx_runSW (As := [.ref (ad 0), .int (xs (i + 1).toNatClampNeg), .int (xs (i + 2).toNatClampNeg), .ref (ad 530)]) (rest := []) (gx_fix F) (c_L_thing l hlt sa D ad cy N H.size hN hI cd.1 cd.2 hc3) (vx_cwSW 4 hts gL_law__L_thing rfl rfl rfl (by decide +kernel) ⟨by decide, by decide⟩) (gx_pre F G) rfl rfl hl.1 rfl (lv_room (Nat.le_of_ble_eq_true rfl)) dL_law__593 ⟨by show kc + 1 ≤ 600128; omega, by show ks + 6 ≤ 7301098; omega⟩) (fun H locs G => ?_)
  obtain ⟨cd6, ecd6⟩ : ∃ z : gm × gm, z = (c5, cd.2) := ⟨_, rfl⟩
  replace G : gW D ad cy N A s.heap cd6.1 cd6.2 H locs := by rw [ecd6]; exact G
  replace h := gv_s h cd6 ecd6
  refine lv_istore (lv' := [(5, .int r4), (0, .ref b), (1, .ref (ad 0)), (2, .ref (ad 55)), (3, .ref (ad 530)), (4, .int i)]) hx hb dL_law__596 hl (by decide) rfl (fun ls hl => ?_)
  refine lv_aload_n hx hb dL_law__598 rfl (lv_at hl 3 rfl) ?_
  refine lv_aload_n hx hb dL_law__599 rfl (lv_at hl 1 rfl) ?_
  refine lv_iload hx hb dL_law__600 (lv_at hl 5 rfl) ?_
  refine lv_iconst (v := 1) hx hb dL_law__602 (by decide) ?_
  refine lv_iadd hx hb dL_law__603 ?_
  obtain ⟨hi7, h⟩ := gc_s h
  refine va_sld hx hb hX hbl hbA G.2 (gin hi7) dL_law__604 ?_
  refine lv_aload_n hx hb dL_law__605 rfl (lv_at hl 1 rfl) ?_
  refine lv_iload hx hb dL_law__606 (lv_at hl 5 rfl) ?_
  refine lv_iconst (v := 2) hx hb dL_law__608 (by decide) ?_
  refine lv_iadd hx hb dL_law__609 ?_
  obtain ⟨hi8, h⟩ := gc_s h
  refine va_sld hx hb hX hbl hbA G.2 (gin hi8) dL_law__610 ?_
  obtain ⟨r10, c11, hc9, h⟩ := gb2_s h
  refine gx_calli F G (va_runV (As := [.int (xs (i + 1).toNatClampNeg), .int (xs (i + 2).toNatClampNeg)]) (rest := []) (gx_fix F) (c_X10_thing l sa D ad cy N H.size (Nat.le_trans (by decide) hN) hI cd6.1 cd6.2 hc9) (cwV 2 hts gL_law__X10_thing rfl rfl rfl (by decide +kernel) ⟨by decide, by decide⟩) (gx_rec F G ht55 (gwe_10 hk55) rfl) rfl rfl hl.1 rfl (lv_room (Nat.le_of_ble_eq_true rfl)) dL_law__611 ⟨by show kc + 1 + 0 ≤ 600128; omega, by show ks + 6 + 0 ≤ 7301098; omega⟩) (fun H locs G => ?_)
  obtain ⟨cd12, ecd12⟩ : ∃ z : gm × gm, z = (cd6.1, c11) := ⟨_, rfl⟩
  replace G : gW D ad cy N A s.heap cd12.1 cd12.2 H locs := by rw [ecd12]; exact G
  replace h := gv_s h cd12 ecd12
  refine lv_istore (lv' := [(6, .int r10), (5, .int r4), (0, .ref b), (1, .ref (ad 0)), (2, .ref (ad 55)), (3, .ref (ad 530)), (4, .int i)]) hx hb dL_law__614 hl (by decide) rfl (fun ls hl => ?_)
  refine lv_aload_n hx hb dL_law__616 rfl (lv_at hl 4 rfl) ?_
  obtain ⟨r14, hc13, h⟩ := gb_s h
  refine gx_calli F G (va_runV (As := []) (rest := []) (gx_fix F) (c_X10_thrown l sa D ad cy N H.size (Nat.le_trans (by decide) hN) hI cd12.1 cd12.2 hc13) (cwV 0 hts gL_law__X10_thrown rfl rfl rfl (by decide +kernel) ⟨by decide, by decide⟩) (gx_rec F G ht55 (gwe_10 hk55) rfl) rfl rfl hl.1 rfl (lv_room (Nat.le_of_ble_eq_true rfl)) dL_law__617 ⟨by show kc + 1 + 0 ≤ 600128; omega, by show ks + 6 + 0 ≤ 7301098; omega⟩) (fun H locs G => ?_)
  refine lv_iload hx hb dL_law__620 (lv_at hl 1 rfl) ?_
  refine lv_icmp_eq (tgt := 627) hx hb dL_law__622 (by decide) (fun q15 => ?_) (fun q15 => ?_)
  · replace h := gt_s q15 h
    refine lv_iload hx hb dL_law__627 (lv_at hl 1 rfl) ?_
    refine lv_if_ne (tgt := 644) hx hb dL_law__629 (by decide) (fun q16 => ?_) (fun q16 => ?_)
    · replace h := gf_s q16 h
      refine lv_goto (tgt := 2288) hx hb dL_law__644 (by decide) ?_
      cases h
      exact J _ _ _ G (lv_sub hl [2, 3, 4, 5, 6] rfl)
    · replace h := gt_s q16 h
      refine lv_aload_n hx hb dL_law__632 rfl (lv_at hl 5 rfl) ?_
      refine lv_iconst (v := 0) hx hb dL_law__633 (by decide) ?_
      refine gx_la F G hk530 ht530 hn530 (by decide) dL_law__634 ?_
      refine lv_iload hx hb dL_law__635 (lv_at hl 0 rfl) ?_
      refine lv_i2l hx hb dL_law__637 rfl ?_
      refine W.lcmp hx hb dL_law__638 ?_
      refine lv_if_eq (tgt := 644) hx hb dL_law__639 (by decide) (fun q17 => ?_) (fun q17 => ?_)
      · replace h := gt_s q17 h
        refine lv_goto (tgt := 2288) hx hb dL_law__644 (by decide) ?_
        cases h
        exact J _ _ _ G (lv_sub hl [2, 3, 4, 5, 6] rfl)
      · replace h := gf_s q17 h
        refine lv_iconst (v := 0) hx hb dL_law__642 (by decide) ?_
        cases h
  · replace h := gf_s q15 h
    refine lv_iconst (v := 0) hx hb dL_law__625 (by decide) ?_
    cases h
def m_law_9 (n : Nat) (xs : Nat → Int32) (L : Nat) (i : Int32) (cd : gm × gm) : Option (gm × gm) :=
  gc (0 ≤ (i + 1).toInt ∧ (i + 1).toInt < (L : Nat)) (gc (0 ≤ (i + 2).toInt ∧ (i + 2).toInt < (L : Nat)) (gb2 (m_L_cry 0 (xs (i + 1).toNatClampNeg) (xs (i + 2).toNatClampNeg) 530 cd.1) (fun (r4 : Int32) (c5 : gm) => gv ((c5, cd.2) : gm × gm) (fun (cd6 : gm × gm) => gc (0 ≤ (i + 1).toInt ∧ (i + 1).toInt < (L : Nat)) (gc (0 ≤ (i + 2).toInt ∧ (i + 2).toInt < (L : Nat)) (gb2 (m_X10_cry 55 (xs (i + 1).toNatClampNeg) (xs (i + 2).toNatClampNeg) cd6.2) (fun (r10 : Int32) (c11 : gm) => gv ((cd6.1, c11) : gm × gm) (fun (cd12 : gm × gm) => gb (m_X10_thrown 55 cd12.2) (fun (r14 : Int32) => (if r14 = r4 then (if r4 = 0 then (if (lg_cmp (cd12.1.2.1 530 (0 : Int32).toNatClampNeg) (Int32.toInt64 r10)) = 0 then some cd12 else none) else some cd12) else none))))))))))
set_option maxHeartbeats 4000000 in
set_option maxRecDepth 100000 in
theorem law_9 {p : Program} {l : Launch} {e : Env} {s : State} {m : MethodId} {below : List Frame} {meth : Method} {cod : Code} {H : Heap} {locs : List Loc} {Q : State → Prop} {sa : gSa} {D : va_G} {A : Nat → Prop} {ad : Nat → Nat} {cy : Nat → ClassId} {N : Nat} (hlt : l.stackTraces = false) (hN : 531 ≤ N) {b L n kc ks : Nat} {xs : Nat → Int32} {ls : Array Slot} {i : Int32} {cd cd2 : gm × gm} (F : gF sa D ad cy N A p s m #[Value.ref b] cod cL_law_ 8 wsL_law_ RL) (hX : va_X b L xs s s.heap) (hbl : b < s.heap.size) (hbA : ¬ A b) (hkc : kc + 1 ≤ 600128) (hks : ks + 6 ≤ 7301098) (h : m_law_9 n xs L i cd = some cd2) (G : gW D ad cy N A s.heap cd.1 cd.2 H locs) (hl : lv_has ls 8 [(0, .ref b), (1, .ref (ad 0)), (2, .ref (ad 55)), (3, .ref (ad 530)), (4, .int i)]) (J : ∀ (H : Heap) (locs : List Loc) (ls : Array Slot), gW D ad cy N A s.heap cd2.1 cd2.2 H locs → lv_has ls 8 [(0, .ref b), (1, .ref (ad 0)), (2, .ref (ad 55)), (3, .ref (ad 530)), (4, .int i)] → W p l e room_1 s m #[Value.ref b] below meth cod H locs (kc + 1) (ks + 6) Q (F0 m 2288 ls [])) : W p l e room_1 s m #[Value.ref b] below meth cod H locs kc ks Q (F0 m 647 ls []) := by
  obtain ⟨hx, hb, hml, hown, hts, hK, hI, hA, hZ, hZZ⟩ := id F
  have hk0 : gck 0 = 9 := rfl
  have hk55 : gck 55 = 10 := rfl
  have hk530 : gck 530 = 26 := rfl
  have hn530 : gal 530 = 1 := rfl
  have ht0 : 0 < N := Nat.lt_of_lt_of_le (by decide) hN
  have ht55 : 55 < N := Nat.lt_of_lt_of_le (by decide) hN
  have ht530 : 530 < N := Nat.lt_of_lt_of_le (by decide) hN
  unfold m_law_9 at h
  refine lv_aload_n hx hb dL_law__647 rfl (lv_at hl 1 rfl) ?_
  refine lv_aload_n hx hb dL_law__648 rfl (lv_at hl 0 rfl) ?_
  refine lv_iload hx hb dL_law__649 (lv_at hl 4 rfl) ?_
  refine lv_iconst (v := 1) hx hb dL_law__651 (by decide) ?_
  refine lv_iadd hx hb dL_law__652 ?_
  obtain ⟨hi1, h⟩ := gc_s h
  refine va_sld hx hb hX hbl hbA G.2 (gin hi1) dL_law__653 ?_
  refine lv_aload_n hx hb dL_law__654 rfl (lv_at hl 0 rfl) ?_
  refine lv_iload hx hb dL_law__655 (lv_at hl 4 rfl) ?_
  refine lv_iconst (v := 2) hx hb dL_law__657 (by decide) ?_
  refine lv_iadd hx hb dL_law__658 ?_
  obtain ⟨hi2, h⟩ := gc_s h
  refine va_sld hx hb hX hbl hbA G.2 (gin hi2) dL_law__659 ?_
  refine lv_aload_n hx hb dL_law__660 rfl (lv_at hl 3 rfl) ?_
  obtain ⟨r4, c5, hc3, h⟩ := gb2_s h
  refine gx_calliX F G (vx_runSW (As := [.ref (ad 0), .int (xs (i + 1).toNatClampNeg), .int (xs (i + 2).toNatClampNeg), .ref (ad 530)]) (rest := []) (gx_fix F) (c_L_cry l hlt sa D ad cy N H.size hN hI cd.1 cd.2 hc3) (vx_cwSW 4 hts gL_law__L_cry rfl rfl rfl (by decide +kernel) ⟨by decide, by decide⟩) (gx_pre F G) rfl rfl hl.1 rfl (lv_room (Nat.le_of_ble_eq_true rfl)) dL_law__661 ⟨by show kc + 1 ≤ 600128; omega, by show ks + 6 ≤ 7301098; omega⟩) (fun H locs G => ?_)
  obtain ⟨cd6, ecd6⟩ : ∃ z : gm × gm, z = (c5, cd.2) := ⟨_, rfl⟩
  replace G : gW D ad cy N A s.heap cd6.1 cd6.2 H locs := by rw [ecd6]; exact G
  replace h := gv_s h cd6 ecd6
  refine lv_istore (lv' := [(5, .int r4), (0, .ref b), (1, .ref (ad 0)), (2, .ref (ad 55)), (3, .ref (ad 530)), (4, .int i)]) hx hb dL_law__664 hl (by decide) rfl (fun ls hl => ?_)
  refine lv_aload_n hx hb dL_law__666 rfl (lv_at hl 3 rfl) ?_
  refine lv_aload_n hx hb dL_law__667 rfl (lv_at hl 1 rfl) ?_
  refine lv_iload hx hb dL_law__668 (lv_at hl 5 rfl) ?_
  refine lv_iconst (v := 1) hx hb dL_law__670 (by decide) ?_
  refine lv_iadd hx hb dL_law__671 ?_
  obtain ⟨hi7, h⟩ := gc_s h
  refine va_sld hx hb hX hbl hbA G.2 (gin hi7) dL_law__672 ?_
  refine lv_aload_n hx hb dL_law__673 rfl (lv_at hl 1 rfl) ?_
  refine lv_iload hx hb dL_law__674 (lv_at hl 5 rfl) ?_
  refine lv_iconst (v := 2) hx hb dL_law__676 (by decide) ?_
  refine lv_iadd hx hb dL_law__677 ?_
  obtain ⟨hi8, h⟩ := gc_s h
  refine va_sld hx hb hX hbl hbA G.2 (gin hi8) dL_law__678 ?_
  obtain ⟨r10, c11, hc9, h⟩ := gb2_s h
  refine gx_calli F G (va_runV (As := [.int (xs (i + 1).toNatClampNeg), .int (xs (i + 2).toNatClampNeg)]) (rest := []) (gx_fix F) (c_X10_cry l sa D ad cy N H.size (Nat.le_trans (by decide) hN) hI cd6.1 cd6.2 hc9) (cwV 2 hts gL_law__X10_cry rfl rfl rfl (by decide +kernel) ⟨by decide, by decide⟩) (gx_rec F G ht55 (gwe_10 hk55) rfl) rfl rfl hl.1 rfl (lv_room (Nat.le_of_ble_eq_true rfl)) dL_law__679 ⟨by show kc + 1 + 0 ≤ 600128; omega, by show ks + 6 + 0 ≤ 7301098; omega⟩) (fun H locs G => ?_)
  obtain ⟨cd12, ecd12⟩ : ∃ z : gm × gm, z = (cd6.1, c11) := ⟨_, rfl⟩
  replace G : gW D ad cy N A s.heap cd12.1 cd12.2 H locs := by rw [ecd12]; exact G
  replace h := gv_s h cd12 ecd12
  refine lv_istore (lv' := [(6, .int r10), (5, .int r4), (0, .ref b), (1, .ref (ad 0)), (2, .ref (ad 55)), (3, .ref (ad 530)), (4, .int i)]) hx hb dL_law__682 hl (by decide) rfl (fun ls hl => ?_)
  refine lv_aload_n hx hb dL_law__684 rfl (lv_at hl 4 rfl) ?_
  obtain ⟨r14, hc13, h⟩ := gb_s h
  refine gx_calli F G (va_runV (As := []) (rest := []) (gx_fix F) (c_X10_thrown l sa D ad cy N H.size (Nat.le_trans (by decide) hN) hI cd12.1 cd12.2 hc13) (cwV 0 hts gL_law__X10_thrown rfl rfl rfl (by decide +kernel) ⟨by decide, by decide⟩) (gx_rec F G ht55 (gwe_10 hk55) rfl) rfl rfl hl.1 rfl (lv_room (Nat.le_of_ble_eq_true rfl)) dL_law__685 ⟨by show kc + 1 + 0 ≤ 600128; omega, by show ks + 6 + 0 ≤ 7301098; omega⟩) (fun H locs G => ?_)
  refine lv_iload hx hb dL_law__688 (lv_at hl 1 rfl) ?_
  refine lv_icmp_eq (tgt := 695) hx hb dL_law__690 (by decide) (fun q15 => ?_) (fun q15 => ?_)
  · replace h := gt_s q15 h
    refine lv_iload hx hb dL_law__695 (lv_at hl 1 rfl) ?_
    refine lv_if_ne (tgt := 712) hx hb dL_law__697 (by decide) (fun q16 => ?_) (fun q16 => ?_)
    · replace h := gf_s q16 h
      refine lv_goto (tgt := 2288) hx hb dL_law__712 (by decide) ?_
      cases h
      exact J _ _ _ G (lv_sub hl [2, 3, 4, 5, 6] rfl)
    · replace h := gt_s q16 h
      refine lv_aload_n hx hb dL_law__700 rfl (lv_at hl 5 rfl) ?_
      refine lv_iconst (v := 0) hx hb dL_law__701 (by decide) ?_
      refine gx_la F G hk530 ht530 hn530 (by decide) dL_law__702 ?_
      refine lv_iload hx hb dL_law__703 (lv_at hl 0 rfl) ?_
      refine lv_i2l hx hb dL_law__705 rfl ?_
      refine W.lcmp hx hb dL_law__706 ?_
      refine lv_if_eq (tgt := 712) hx hb dL_law__707 (by decide) (fun q17 => ?_) (fun q17 => ?_)
      · replace h := gt_s q17 h
        refine lv_goto (tgt := 2288) hx hb dL_law__712 (by decide) ?_
        cases h
        exact J _ _ _ G (lv_sub hl [2, 3, 4, 5, 6] rfl)
      · replace h := gf_s q17 h
        refine lv_iconst (v := 0) hx hb dL_law__710 (by decide) ?_
        cases h
  · replace h := gf_s q15 h
    refine lv_iconst (v := 0) hx hb dL_law__693 (by decide) ?_
    cases h
def m_law_10 (n : Nat) (xs : Nat → Int32) (L : Nat) (i : Int32) (cd : gm × gm) : Option (gm × gm) :=
  gc (0 ≤ (i + 1).toInt ∧ (i + 1).toInt < (L : Nat)) (gc (0 ≤ (i + 2).toInt ∧ (i + 2).toInt < (L : Nat)) (gc (0 ≤ (i + 3).toInt ∧ (i + 3).toInt < (L : Nat)) (gc (0 ≤ (i + 4).toInt ∧ (i + 4).toInt < (L : Nat)) (gb2 (m_L_stands 0 (xs (i + 1).toNatClampNeg) (xs (i + 2).toNatClampNeg) (xs (i + 3).toNatClampNeg) (xs (i + 4).toNatClampNeg) 530 cd.1) (fun (r6 : Int32) (c7 : gm) => gv ((c7, cd.2) : gm × gm) (fun (cd8 : gm × gm) => gc (0 ≤ (i + 1).toInt ∧ (i + 1).toInt < (L : Nat)) (gc (0 ≤ (i + 2).toInt ∧ (i + 2).toInt < (L : Nat)) (gc (0 ≤ (i + 3).toInt ∧ (i + 3).toInt < (L : Nat)) (gc (0 ≤ (i + 4).toInt ∧ (i + 4).toInt < (L : Nat)) (gb2 (m_X10_stands 55 (xs (i + 1).toNatClampNeg) (xs (i + 2).toNatClampNeg) (xs (i + 3).toNatClampNeg) (xs (i + 4).toNatClampNeg) cd8.2) (fun (r14 : Int32) (c15 : gm) => gv ((cd8.1, c15) : gm × gm) (fun (cd16 : gm × gm) => gb (m_X10_thrown 55 cd16.2) (fun (r18 : Int32) => (if r18 = r6 then (if r6 = 0 then (if (lg_cmp (cd16.1.2.1 530 (0 : Int32).toNatClampNeg) (Int32.toInt64 r14)) = 0 then some cd16 else none) else some cd16) else none))))))))))))))
set_option maxHeartbeats 4000000 in
set_option maxRecDepth 100000 in
theorem law_10 {p : Program} {l : Launch} {e : Env} {s : State} {m : MethodId} {below : List Frame} {meth : Method} {cod : Code} {H : Heap} {locs : List Loc} {Q : State → Prop} {sa : gSa} {D : va_G} {A : Nat → Prop} {ad : Nat → Nat} {cy : Nat → ClassId} {N : Nat} (hlt : l.stackTraces = false) (hN : 531 ≤ N) {b L n kc ks : Nat} {xs : Nat → Int32} {ls : Array Slot} {i : Int32} {cd cd2 : gm × gm} (F : gF sa D ad cy N A p s m #[Value.ref b] cod cL_law_ 8 wsL_law_ RL) (hX : va_X b L xs s s.heap) (hbl : b < s.heap.size) (hbA : ¬ A b) (hkc : kc + 1 ≤ 600128) (hks : ks + 6 ≤ 7301098) (h : m_law_10 n xs L i cd = some cd2) (G : gW D ad cy N A s.heap cd.1 cd.2 H locs) (hl : lv_has ls 8 [(0, .ref b), (1, .ref (ad 0)), (2, .ref (ad 55)), (3, .ref (ad 530)), (4, .int i)]) (J : ∀ (H : Heap) (locs : List Loc) (ls : Array Slot), gW D ad cy N A s.heap cd2.1 cd2.2 H locs → lv_has ls 8 [(0, .ref b), (1, .ref (ad 0)), (2, .ref (ad 55)), (3, .ref (ad 530)), (4, .int i)] → W p l e room_1 s m #[Value.ref b] below meth cod H locs (kc + 1) (ks + 6) Q (F0 m 2288 ls [])) : W p l e room_1 s m #[Value.ref b] below meth cod H locs kc ks Q (F0 m 715 ls []) := by
  obtain ⟨hx, hb, hml, hown, hts, hK, hI, hA, hZ, hZZ⟩ := id F
  have hk0 : gck 0 = 9 := rfl
  have hk55 : gck 55 = 10 := rfl
  have hk530 : gck 530 = 26 := rfl
  have hn530 : gal 530 = 1 := rfl
  have ht0 : 0 < N := Nat.lt_of_lt_of_le (by decide) hN
  have ht55 : 55 < N := Nat.lt_of_lt_of_le (by decide) hN
  have ht530 : 530 < N := Nat.lt_of_lt_of_le (by decide) hN
  unfold m_law_10 at h
  refine lv_aload_n hx hb dL_law__715 rfl (lv_at hl 1 rfl) ?_
  refine lv_aload_n hx hb dL_law__716 rfl (lv_at hl 0 rfl) ?_
  refine lv_iload hx hb dL_law__717 (lv_at hl 4 rfl) ?_
  refine lv_iconst (v := 1) hx hb dL_law__719 (by decide) ?_
  refine lv_iadd hx hb dL_law__720 ?_
  obtain ⟨hi1, h⟩ := gc_s h
  refine va_sld hx hb hX hbl hbA G.2 (gin hi1) dL_law__721 ?_
  refine lv_aload_n hx hb dL_law__722 rfl (lv_at hl 0 rfl) ?_
  refine lv_iload hx hb dL_law__723 (lv_at hl 4 rfl) ?_
  refine lv_iconst (v := 2) hx hb dL_law__725 (by decide) ?_
  refine lv_iadd hx hb dL_law__726 ?_
  obtain ⟨hi2, h⟩ := gc_s h
  refine va_sld hx hb hX hbl hbA G.2 (gin hi2) dL_law__727 ?_
  refine lv_aload_n hx hb dL_law__728 rfl (lv_at hl 0 rfl) ?_
  refine lv_iload hx hb dL_law__729 (lv_at hl 4 rfl) ?_
  refine lv_iconst (v := 3) hx hb dL_law__731 (by decide) ?_
  refine lv_iadd hx hb dL_law__732 ?_
  obtain ⟨hi3, h⟩ := gc_s h
  refine va_sld hx hb hX hbl hbA G.2 (gin hi3) dL_law__733 ?_
  refine lv_aload_n hx hb dL_law__734 rfl (lv_at hl 0 rfl) ?_
  refine lv_iload hx hb dL_law__735 (lv_at hl 4 rfl) ?_
  refine lv_iconst (v := 4) hx hb dL_law__737 (by decide) ?_
  refine lv_iadd hx hb dL_law__738 ?_
  obtain ⟨hi4, h⟩ := gc_s h
  refine va_sld hx hb hX hbl hbA G.2 (gin hi4) dL_law__739 ?_
  refine lv_aload_n hx hb dL_law__740 rfl (lv_at hl 3 rfl) ?_
  obtain ⟨r6, c7, hc5, h⟩ := gb2_s h
  refine gx_calliX F G (vx_runSW (As := [.ref (ad 0), .int (xs (i + 1).toNatClampNeg), .int (xs (i + 2).toNatClampNeg), .int (xs (i + 3).toNatClampNeg), .int (xs (i + 4).toNatClampNeg), .ref (ad 530)]) (rest := []) (gx_fix F) (c_L_stands l hlt sa D ad cy N H.size hN hI cd.1 cd.2 hc5) (vx_cwSW 6 hts gL_law__L_stands rfl rfl rfl (by decide +kernel) ⟨by decide, by decide⟩) (gx_pre F G) rfl rfl hl.1 rfl (lv_room (Nat.le_of_ble_eq_true rfl)) dL_law__741 ⟨by show kc + 1 ≤ 600128; omega, by show ks + 6 ≤ 7301098; omega⟩) (fun H locs G => ?_)
  obtain ⟨cd8, ecd8⟩ : ∃ z : gm × gm, z = (c7, cd.2) := ⟨_, rfl⟩
  replace G : gW D ad cy N A s.heap cd8.1 cd8.2 H locs := by rw [ecd8]; exact G
  replace h := gv_s h cd8 ecd8
  refine lv_istore (lv' := [(5, .int r6), (0, .ref b), (1, .ref (ad 0)), (2, .ref (ad 55)), (3, .ref (ad 530)), (4, .int i)]) hx hb dL_law__744 hl (by decide) rfl (fun ls hl => ?_)
  refine lv_aload_n hx hb dL_law__746 rfl (lv_at hl 3 rfl) ?_
  refine lv_aload_n hx hb dL_law__747 rfl (lv_at hl 1 rfl) ?_
  refine lv_iload hx hb dL_law__748 (lv_at hl 5 rfl) ?_
  refine lv_iconst (v := 1) hx hb dL_law__750 (by decide) ?_
  refine lv_iadd hx hb dL_law__751 ?_
  obtain ⟨hi9, h⟩ := gc_s h
  refine va_sld hx hb hX hbl hbA G.2 (gin hi9) dL_law__752 ?_
  refine lv_aload_n hx hb dL_law__753 rfl (lv_at hl 1 rfl) ?_
  refine lv_iload hx hb dL_law__754 (lv_at hl 5 rfl) ?_
  refine lv_iconst (v := 2) hx hb dL_law__756 (by decide) ?_
  refine lv_iadd hx hb dL_law__757 ?_
  obtain ⟨hi10, h⟩ := gc_s h
  refine va_sld hx hb hX hbl hbA G.2 (gin hi10) dL_law__758 ?_
  refine lv_aload_n hx hb dL_law__759 rfl (lv_at hl 1 rfl) ?_
  refine lv_iload hx hb dL_law__760 (lv_at hl 5 rfl) ?_
  refine lv_iconst (v := 3) hx hb dL_law__762 (by decide) ?_
  refine lv_iadd hx hb dL_law__763 ?_
  obtain ⟨hi11, h⟩ := gc_s h
  refine va_sld hx hb hX hbl hbA G.2 (gin hi11) dL_law__764 ?_
  refine lv_aload_n hx hb dL_law__765 rfl (lv_at hl 1 rfl) ?_
  refine lv_iload hx hb dL_law__766 (lv_at hl 5 rfl) ?_
  refine lv_iconst (v := 4) hx hb dL_law__768 (by decide) ?_
  refine lv_iadd hx hb dL_law__769 ?_
  obtain ⟨hi12, h⟩ := gc_s h
  refine va_sld hx hb hX hbl hbA G.2 (gin hi12) dL_law__770 ?_
  obtain ⟨r14, c15, hc13, h⟩ := gb2_s h
  refine gx_calli F G (va_runV (As := [.int (xs (i + 1).toNatClampNeg), .int (xs (i + 2).toNatClampNeg), .int (xs (i + 3).toNatClampNeg), .int (xs (i + 4).toNatClampNeg)]) (rest := []) (gx_fix F) (c_X10_stands l sa D ad cy N H.size (Nat.le_trans (by decide) hN) hI cd8.1 cd8.2 hc13) (cwV 4 hts gL_law__X10_stands rfl rfl rfl (by decide +kernel) ⟨by decide, by decide⟩) (gx_rec F G ht55 (gwe_10 hk55) rfl) rfl rfl hl.1 rfl (lv_room (Nat.le_of_ble_eq_true rfl)) dL_law__771 ⟨by show kc + 1 + 0 ≤ 600128; omega, by show ks + 6 + 0 ≤ 7301098; omega⟩) (fun H locs G => ?_)
  obtain ⟨cd16, ecd16⟩ : ∃ z : gm × gm, z = (cd8.1, c15) := ⟨_, rfl⟩
  replace G : gW D ad cy N A s.heap cd16.1 cd16.2 H locs := by rw [ecd16]; exact G
  replace h := gv_s h cd16 ecd16
  refine lv_istore (lv' := [(6, .int r14), (5, .int r6), (0, .ref b), (1, .ref (ad 0)), (2, .ref (ad 55)), (3, .ref (ad 530)), (4, .int i)]) hx hb dL_law__774 hl (by decide) rfl (fun ls hl => ?_)
  refine lv_aload_n hx hb dL_law__776 rfl (lv_at hl 4 rfl) ?_
  obtain ⟨r18, hc17, h⟩ := gb_s h
  refine gx_calli F G (va_runV (As := []) (rest := []) (gx_fix F) (c_X10_thrown l sa D ad cy N H.size (Nat.le_trans (by decide) hN) hI cd16.1 cd16.2 hc17) (cwV 0 hts gL_law__X10_thrown rfl rfl rfl (by decide +kernel) ⟨by decide, by decide⟩) (gx_rec F G ht55 (gwe_10 hk55) rfl) rfl rfl hl.1 rfl (lv_room (Nat.le_of_ble_eq_true rfl)) dL_law__777 ⟨by show kc + 1 + 0 ≤ 600128; omega, by show ks + 6 + 0 ≤ 7301098; omega⟩) (fun H locs G => ?_)
  refine lv_iload hx hb dL_law__780 (lv_at hl 1 rfl) ?_
  refine lv_icmp_eq (tgt := 787) hx hb dL_law__782 (by decide) (fun q19 => ?_) (fun q19 => ?_)
  · replace h := gt_s q19 h
    refine lv_iload hx hb dL_law__787 (lv_at hl 1 rfl) ?_
    refine lv_if_ne (tgt := 804) hx hb dL_law__789 (by decide) (fun q20 => ?_) (fun q20 => ?_)
    · replace h := gf_s q20 h
      refine lv_goto (tgt := 2288) hx hb dL_law__804 (by decide) ?_
      cases h
      exact J _ _ _ G (lv_sub hl [2, 3, 4, 5, 6] rfl)
    · replace h := gt_s q20 h
      refine lv_aload_n hx hb dL_law__792 rfl (lv_at hl 5 rfl) ?_
      refine lv_iconst (v := 0) hx hb dL_law__793 (by decide) ?_
      refine gx_la F G hk530 ht530 hn530 (by decide) dL_law__794 ?_
      refine lv_iload hx hb dL_law__795 (lv_at hl 0 rfl) ?_
      refine lv_i2l hx hb dL_law__797 rfl ?_
      refine W.lcmp hx hb dL_law__798 ?_
      refine lv_if_eq (tgt := 804) hx hb dL_law__799 (by decide) (fun q21 => ?_) (fun q21 => ?_)
      · replace h := gt_s q21 h
        refine lv_goto (tgt := 2288) hx hb dL_law__804 (by decide) ?_
        cases h
        exact J _ _ _ G (lv_sub hl [2, 3, 4, 5, 6] rfl)
      · replace h := gf_s q21 h
        refine lv_iconst (v := 0) hx hb dL_law__802 (by decide) ?_
        cases h
  · replace h := gf_s q19 h
    refine lv_iconst (v := 0) hx hb dL_law__785 (by decide) ?_
    cases h
def m_law_11 (n : Nat) (xs : Nat → Int32) (L : Nat) (i : Int32) (cd : gm × gm) : Option (gm × gm) :=
  gc (0 ≤ (i + 1).toInt ∧ (i + 1).toInt < (L : Nat)) (gc (0 ≤ (i + 2).toInt ∧ (i + 2).toInt < (L : Nat)) (gc (0 ≤ (i + 3).toInt ∧ (i + 3).toInt < (L : Nat)) (gc (0 ≤ (i + 4).toInt ∧ (i + 4).toInt < (L : Nat)) (gc (0 ≤ (i + 5).toInt ∧ (i + 5).toInt < (L : Nat)) (gc (0 ≤ (i + 6).toInt ∧ (i + 6).toInt < (L : Nat)) (gc (0 ≤ (i + 7).toInt ∧ (i + 7).toInt < (L : Nat)) (gb2 (m_L_would n 0 (xs (i + 1).toNatClampNeg) (xs (i + 2).toNatClampNeg) (xs (i + 3).toNatClampNeg) (xs (i + 4).toNatClampNeg) (xs (i + 5).toNatClampNeg) (xs (i + 6).toNatClampNeg) (xs (i + 7).toNatClampNeg) 530 cd.1) (fun (r9 : Int32) (c10 : gm) => gv ((c10, cd.2) : gm × gm) (fun (cd11 : gm × gm) => gc (0 ≤ (i + 1).toInt ∧ (i + 1).toInt < (L : Nat)) (gc (0 ≤ (i + 2).toInt ∧ (i + 2).toInt < (L : Nat)) (gc (0 ≤ (i + 3).toInt ∧ (i + 3).toInt < (L : Nat)) (gc (0 ≤ (i + 4).toInt ∧ (i + 4).toInt < (L : Nat)) (gc (0 ≤ (i + 5).toInt ∧ (i + 5).toInt < (L : Nat)) (gc (0 ≤ (i + 6).toInt ∧ (i + 6).toInt < (L : Nat)) (gc (0 ≤ (i + 7).toInt ∧ (i + 7).toInt < (L : Nat)) (gb2 (m_X10_would n 55 (xs (i + 1).toNatClampNeg) (xs (i + 2).toNatClampNeg) (xs (i + 3).toNatClampNeg) (xs (i + 4).toNatClampNeg) (xs (i + 5).toNatClampNeg) (xs (i + 6).toNatClampNeg) (xs (i + 7).toNatClampNeg) cd11.2) (fun (r20 : Int32) (c21 : gm) => gv ((cd11.1, c21) : gm × gm) (fun (cd22 : gm × gm) => gb (m_X10_thrown 55 cd22.2) (fun (r24 : Int32) => (if r24 = r9 then (if r9 = 0 then (if (lg_cmp (cd22.1.2.1 530 (0 : Int32).toNatClampNeg) (Int32.toInt64 r20)) = 0 then some cd22 else none) else some cd22) else none))))))))))))))))))))
set_option maxHeartbeats 4000000 in
set_option maxRecDepth 100000 in
theorem law_11 {p : Program} {l : Launch} {e : Env} {s : State} {m : MethodId} {below : List Frame} {meth : Method} {cod : Code} {H : Heap} {locs : List Loc} {Q : State → Prop} {sa : gSa} {D : va_G} {A : Nat → Prop} {ad : Nat → Nat} {cy : Nat → ClassId} {N : Nat} (hlt : l.stackTraces = false) (hN : 531 ≤ N) {b L n kc ks : Nat} {xs : Nat → Int32} {ls : Array Slot} {i : Int32} {cd cd2 : gm × gm} (F : gF sa D ad cy N A p s m #[Value.ref b] cod cL_law_ 8 wsL_law_ RL) (hX : va_X b L xs s s.heap) (hbl : b < s.heap.size) (hbA : ¬ A b) (hkc : kc + 1 ≤ 600128) (hks : ks + 6 ≤ 7301098) (h : m_law_11 n xs L i cd = some cd2) (G : gW D ad cy N A s.heap cd.1 cd.2 H locs) (hl : lv_has ls 8 [(0, .ref b), (1, .ref (ad 0)), (2, .ref (ad 55)), (3, .ref (ad 530)), (4, .int i)]) (J : ∀ (H : Heap) (locs : List Loc) (ls : Array Slot), gW D ad cy N A s.heap cd2.1 cd2.2 H locs → lv_has ls 8 [(0, .ref b), (1, .ref (ad 0)), (2, .ref (ad 55)), (3, .ref (ad 530)), (4, .int i)] → W p l e room_1 s m #[Value.ref b] below meth cod H locs (kc + 1) (ks + 6) Q (F0 m 2288 ls [])) : W p l e room_1 s m #[Value.ref b] below meth cod H locs kc ks Q (F0 m 807 ls []) := by
  obtain ⟨hx, hb, hml, hown, hts, hK, hI, hA, hZ, hZZ⟩ := id F
  have hk0 : gck 0 = 9 := rfl
  have hk55 : gck 55 = 10 := rfl
  have hk530 : gck 530 = 26 := rfl
  have hn530 : gal 530 = 1 := rfl
  have ht0 : 0 < N := Nat.lt_of_lt_of_le (by decide) hN
  have ht55 : 55 < N := Nat.lt_of_lt_of_le (by decide) hN
  have ht530 : 530 < N := Nat.lt_of_lt_of_le (by decide) hN
  unfold m_law_11 at h
  refine lv_aload_n hx hb dL_law__807 rfl (lv_at hl 1 rfl) ?_
  refine lv_aload_n hx hb dL_law__808 rfl (lv_at hl 0 rfl) ?_
  refine lv_iload hx hb dL_law__809 (lv_at hl 4 rfl) ?_
  refine lv_iconst (v := 1) hx hb dL_law__811 (by decide) ?_
  refine lv_iadd hx hb dL_law__812 ?_
  obtain ⟨hi1, h⟩ := gc_s h
  refine va_sld hx hb hX hbl hbA G.2 (gin hi1) dL_law__813 ?_
  refine lv_aload_n hx hb dL_law__814 rfl (lv_at hl 0 rfl) ?_
  refine lv_iload hx hb dL_law__815 (lv_at hl 4 rfl) ?_
  refine lv_iconst (v := 2) hx hb dL_law__817 (by decide) ?_
  refine lv_iadd hx hb dL_law__818 ?_
  obtain ⟨hi2, h⟩ := gc_s h
  refine va_sld hx hb hX hbl hbA G.2 (gin hi2) dL_law__819 ?_
  refine lv_aload_n hx hb dL_law__820 rfl (lv_at hl 0 rfl) ?_
  refine lv_iload hx hb dL_law__821 (lv_at hl 4 rfl) ?_
  refine lv_iconst (v := 3) hx hb dL_law__823 (by decide) ?_
  refine lv_iadd hx hb dL_law__824 ?_
  obtain ⟨hi3, h⟩ := gc_s h
  refine va_sld hx hb hX hbl hbA G.2 (gin hi3) dL_law__825 ?_
  refine lv_aload_n hx hb dL_law__826 rfl (lv_at hl 0 rfl) ?_
  refine lv_iload hx hb dL_law__827 (lv_at hl 4 rfl) ?_
  refine lv_iconst (v := 4) hx hb dL_law__829 (by decide) ?_
  refine lv_iadd hx hb dL_law__830 ?_
  obtain ⟨hi4, h⟩ := gc_s h
  refine va_sld hx hb hX hbl hbA G.2 (gin hi4) dL_law__831 ?_
  refine lv_aload_n hx hb dL_law__832 rfl (lv_at hl 0 rfl) ?_
  refine lv_iload hx hb dL_law__833 (lv_at hl 4 rfl) ?_
  refine lv_iconst (v := 5) hx hb dL_law__835 (by decide) ?_
  refine lv_iadd hx hb dL_law__836 ?_
  obtain ⟨hi5, h⟩ := gc_s h
  refine va_sld hx hb hX hbl hbA G.2 (gin hi5) dL_law__837 ?_
  refine lv_aload_n hx hb dL_law__838 rfl (lv_at hl 0 rfl) ?_
  refine lv_iload hx hb dL_law__839 (lv_at hl 4 rfl) ?_
  refine lv_bipush (v := 6) hx hb dL_law__841 (by decide) ?_
  refine lv_iadd hx hb dL_law__843 ?_
  obtain ⟨hi6, h⟩ := gc_s h
  refine va_sld hx hb hX hbl hbA G.2 (gin hi6) dL_law__844 ?_
  refine lv_aload_n hx hb dL_law__845 rfl (lv_at hl 0 rfl) ?_
  refine lv_iload hx hb dL_law__846 (lv_at hl 4 rfl) ?_
  refine lv_bipush (v := 7) hx hb dL_law__848 (by decide) ?_
  refine lv_iadd hx hb dL_law__850 ?_
  obtain ⟨hi7, h⟩ := gc_s h
  refine va_sld hx hb hX hbl hbA G.2 (gin hi7) dL_law__851 ?_
  refine lv_aload_n hx hb dL_law__852 rfl (lv_at hl 3 rfl) ?_
  obtain ⟨r9, c10, hc8, h⟩ := gb2_s h
  refine gx_calliX F G (vx_runSW (As := [.ref (ad 0), .int (xs (i + 1).toNatClampNeg), .int (xs (i + 2).toNatClampNeg), .int (xs (i + 3).toNatClampNeg), .int (xs (i + 4).toNatClampNeg), .int (xs (i + 5).toNatClampNeg), .int (xs (i + 6).toNatClampNeg), .int (xs (i + 7).toNatClampNeg), .ref (ad 530)]) (rest := []) (gx_fix F) (c_L_would l hlt sa D ad cy N H.size hN hI cd.1 cd.2 hc8) (vx_cwSW 9 hts gL_law__L_would rfl rfl rfl (by decide +kernel) ⟨by decide, by decide⟩) (gx_pre F G) rfl rfl hl.1 rfl (lv_room (Nat.le_of_ble_eq_true rfl)) dL_law__853 ⟨by show kc + 1 ≤ 600128; omega, by show ks + 6 ≤ 7301098; omega⟩) (fun H locs G => ?_)
  obtain ⟨cd11, ecd11⟩ : ∃ z : gm × gm, z = (c10, cd.2) := ⟨_, rfl⟩
  replace G : gW D ad cy N A s.heap cd11.1 cd11.2 H locs := by rw [ecd11]; exact G
  replace h := gv_s h cd11 ecd11
  refine lv_istore (lv' := [(5, .int r9), (0, .ref b), (1, .ref (ad 0)), (2, .ref (ad 55)), (3, .ref (ad 530)), (4, .int i)]) hx hb dL_law__856 hl (by decide) rfl (fun ls hl => ?_)
  refine lv_aload_n hx hb dL_law__858 rfl (lv_at hl 3 rfl) ?_
  refine lv_aload_n hx hb dL_law__859 rfl (lv_at hl 1 rfl) ?_
  refine lv_iload hx hb dL_law__860 (lv_at hl 5 rfl) ?_
  refine lv_iconst (v := 1) hx hb dL_law__862 (by decide) ?_
  refine lv_iadd hx hb dL_law__863 ?_
  obtain ⟨hi12, h⟩ := gc_s h
  refine va_sld hx hb hX hbl hbA G.2 (gin hi12) dL_law__864 ?_
  refine lv_aload_n hx hb dL_law__865 rfl (lv_at hl 1 rfl) ?_
  refine lv_iload hx hb dL_law__866 (lv_at hl 5 rfl) ?_
  refine lv_iconst (v := 2) hx hb dL_law__868 (by decide) ?_
  refine lv_iadd hx hb dL_law__869 ?_
  obtain ⟨hi13, h⟩ := gc_s h
  refine va_sld hx hb hX hbl hbA G.2 (gin hi13) dL_law__870 ?_
  refine lv_aload_n hx hb dL_law__871 rfl (lv_at hl 1 rfl) ?_
  refine lv_iload hx hb dL_law__872 (lv_at hl 5 rfl) ?_
  refine lv_iconst (v := 3) hx hb dL_law__874 (by decide) ?_
  refine lv_iadd hx hb dL_law__875 ?_
  obtain ⟨hi14, h⟩ := gc_s h
  refine va_sld hx hb hX hbl hbA G.2 (gin hi14) dL_law__876 ?_
  refine lv_aload_n hx hb dL_law__877 rfl (lv_at hl 1 rfl) ?_
  refine lv_iload hx hb dL_law__878 (lv_at hl 5 rfl) ?_
  refine lv_iconst (v := 4) hx hb dL_law__880 (by decide) ?_
  refine lv_iadd hx hb dL_law__881 ?_
  obtain ⟨hi15, h⟩ := gc_s h
  refine va_sld hx hb hX hbl hbA G.2 (gin hi15) dL_law__882 ?_
  refine lv_aload_n hx hb dL_law__883 rfl (lv_at hl 1 rfl) ?_
  refine lv_iload hx hb dL_law__884 (lv_at hl 5 rfl) ?_
  refine lv_iconst (v := 5) hx hb dL_law__886 (by decide) ?_
  refine lv_iadd hx hb dL_law__887 ?_
  obtain ⟨hi16, h⟩ := gc_s h
  refine va_sld hx hb hX hbl hbA G.2 (gin hi16) dL_law__888 ?_
  refine lv_aload_n hx hb dL_law__889 rfl (lv_at hl 1 rfl) ?_
  refine lv_iload hx hb dL_law__890 (lv_at hl 5 rfl) ?_
  refine lv_bipush (v := 6) hx hb dL_law__892 (by decide) ?_
  refine lv_iadd hx hb dL_law__894 ?_
  obtain ⟨hi17, h⟩ := gc_s h
  refine va_sld hx hb hX hbl hbA G.2 (gin hi17) dL_law__895 ?_
  refine lv_aload_n hx hb dL_law__896 rfl (lv_at hl 1 rfl) ?_
  refine lv_iload hx hb dL_law__897 (lv_at hl 5 rfl) ?_
  refine lv_bipush (v := 7) hx hb dL_law__899 (by decide) ?_
  refine lv_iadd hx hb dL_law__901 ?_
  obtain ⟨hi18, h⟩ := gc_s h
  refine va_sld hx hb hX hbl hbA G.2 (gin hi18) dL_law__902 ?_
  obtain ⟨r20, c21, hc19, h⟩ := gb2_s h
  refine gx_calli F G (va_runV (As := [.int (xs (i + 1).toNatClampNeg), .int (xs (i + 2).toNatClampNeg), .int (xs (i + 3).toNatClampNeg), .int (xs (i + 4).toNatClampNeg), .int (xs (i + 5).toNatClampNeg), .int (xs (i + 6).toNatClampNeg), .int (xs (i + 7).toNatClampNeg)]) (rest := []) (gx_fix F) (c_X10_would l sa D ad cy N H.size (Nat.le_trans (by decide) hN) hI cd11.1 cd11.2 hc19) (cwV 7 hts gL_law__X10_would rfl rfl rfl (by decide +kernel) ⟨by decide, by decide⟩) (gx_rec F G ht55 (gwe_10 hk55) rfl) rfl rfl hl.1 rfl (lv_room (Nat.le_of_ble_eq_true rfl)) dL_law__903 ⟨by show kc + 1 + 0 ≤ 600128; omega, by show ks + 6 + 0 ≤ 7301098; omega⟩) (fun H locs G => ?_)
  obtain ⟨cd22, ecd22⟩ : ∃ z : gm × gm, z = (cd11.1, c21) := ⟨_, rfl⟩
  replace G : gW D ad cy N A s.heap cd22.1 cd22.2 H locs := by rw [ecd22]; exact G
  replace h := gv_s h cd22 ecd22
  refine lv_istore (lv' := [(6, .int r20), (5, .int r9), (0, .ref b), (1, .ref (ad 0)), (2, .ref (ad 55)), (3, .ref (ad 530)), (4, .int i)]) hx hb dL_law__906 hl (by decide) rfl (fun ls hl => ?_)
  refine lv_aload_n hx hb dL_law__908 rfl (lv_at hl 4 rfl) ?_
  obtain ⟨r24, hc23, h⟩ := gb_s h
  refine gx_calli F G (va_runV (As := []) (rest := []) (gx_fix F) (c_X10_thrown l sa D ad cy N H.size (Nat.le_trans (by decide) hN) hI cd22.1 cd22.2 hc23) (cwV 0 hts gL_law__X10_thrown rfl rfl rfl (by decide +kernel) ⟨by decide, by decide⟩) (gx_rec F G ht55 (gwe_10 hk55) rfl) rfl rfl hl.1 rfl (lv_room (Nat.le_of_ble_eq_true rfl)) dL_law__909 ⟨by show kc + 1 + 0 ≤ 600128; omega, by show ks + 6 + 0 ≤ 7301098; omega⟩) (fun H locs G => ?_)
  refine lv_iload hx hb dL_law__912 (lv_at hl 1 rfl) ?_
  refine lv_icmp_eq (tgt := 919) hx hb dL_law__914 (by decide) (fun q25 => ?_) (fun q25 => ?_)
  · replace h := gt_s q25 h
    refine lv_iload hx hb dL_law__919 (lv_at hl 1 rfl) ?_
    refine lv_if_ne (tgt := 936) hx hb dL_law__921 (by decide) (fun q26 => ?_) (fun q26 => ?_)
    · replace h := gf_s q26 h
      refine lv_goto (tgt := 2288) hx hb dL_law__936 (by decide) ?_
      cases h
      exact J _ _ _ G (lv_sub hl [2, 3, 4, 5, 6] rfl)
    · replace h := gt_s q26 h
      refine lv_aload_n hx hb dL_law__924 rfl (lv_at hl 5 rfl) ?_
      refine lv_iconst (v := 0) hx hb dL_law__925 (by decide) ?_
      refine gx_la F G hk530 ht530 hn530 (by decide) dL_law__926 ?_
      refine lv_iload hx hb dL_law__927 (lv_at hl 0 rfl) ?_
      refine lv_i2l hx hb dL_law__929 rfl ?_
      refine W.lcmp hx hb dL_law__930 ?_
      refine lv_if_eq (tgt := 936) hx hb dL_law__931 (by decide) (fun q27 => ?_) (fun q27 => ?_)
      · replace h := gt_s q27 h
        refine lv_goto (tgt := 2288) hx hb dL_law__936 (by decide) ?_
        cases h
        exact J _ _ _ G (lv_sub hl [2, 3, 4, 5, 6] rfl)
      · replace h := gf_s q27 h
        refine lv_iconst (v := 0) hx hb dL_law__934 (by decide) ?_
        cases h
  · replace h := gf_s q25 h
    refine lv_iconst (v := 0) hx hb dL_law__917 (by decide) ?_
    cases h
def m_law_12 (n : Nat) (xs : Nat → Int32) (L : Nat) (i : Int32) (cd : gm × gm) : Option (gm × gm) :=
  gc (0 ≤ (i + 1).toInt ∧ (i + 1).toInt < (L : Nat)) (gc (0 ≤ (i + 2).toInt ∧ (i + 2).toInt < (L : Nat)) (gb2 (m_L_ahead n 0 (xs (i + 1).toNatClampNeg) (xs (i + 2).toNatClampNeg) 530 cd.1) (fun (r4 : Int32) (c5 : gm) => gv ((c5, cd.2) : gm × gm) (fun (cd6 : gm × gm) => gc (0 ≤ (i + 1).toInt ∧ (i + 1).toInt < (L : Nat)) (gc (0 ≤ (i + 2).toInt ∧ (i + 2).toInt < (L : Nat)) (gb2 (m_X10_ahead n 55 (xs (i + 1).toNatClampNeg) (xs (i + 2).toNatClampNeg) cd6.2) (fun (r10 : Int32) (c11 : gm) => gv ((cd6.1, c11) : gm × gm) (fun (cd12 : gm × gm) => gb (m_X10_thrown 55 cd12.2) (fun (r14 : Int32) => (if r14 = r4 then (if r4 = 0 then (if (lg_cmp (cd12.1.2.1 530 (0 : Int32).toNatClampNeg) (Int32.toInt64 r10)) = 0 then some cd12 else none) else some cd12) else none))))))))))
set_option maxHeartbeats 4000000 in
set_option maxRecDepth 100000 in
theorem law_12 {p : Program} {l : Launch} {e : Env} {s : State} {m : MethodId} {below : List Frame} {meth : Method} {cod : Code} {H : Heap} {locs : List Loc} {Q : State → Prop} {sa : gSa} {D : va_G} {A : Nat → Prop} {ad : Nat → Nat} {cy : Nat → ClassId} {N : Nat} (hlt : l.stackTraces = false) (hN : 531 ≤ N) {b L n kc ks : Nat} {xs : Nat → Int32} {ls : Array Slot} {i : Int32} {cd cd2 : gm × gm} (F : gF sa D ad cy N A p s m #[Value.ref b] cod cL_law_ 8 wsL_law_ RL) (hX : va_X b L xs s s.heap) (hbl : b < s.heap.size) (hbA : ¬ A b) (hkc : kc + 1 ≤ 600128) (hks : ks + 6 ≤ 7301098) (h : m_law_12 n xs L i cd = some cd2) (G : gW D ad cy N A s.heap cd.1 cd.2 H locs) (hl : lv_has ls 8 [(0, .ref b), (1, .ref (ad 0)), (2, .ref (ad 55)), (3, .ref (ad 530)), (4, .int i)]) (J : ∀ (H : Heap) (locs : List Loc) (ls : Array Slot), gW D ad cy N A s.heap cd2.1 cd2.2 H locs → lv_has ls 8 [(0, .ref b), (1, .ref (ad 0)), (2, .ref (ad 55)), (3, .ref (ad 530)), (4, .int i)] → W p l e room_1 s m #[Value.ref b] below meth cod H locs (kc + 1) (ks + 6) Q (F0 m 2288 ls [])) : W p l e room_1 s m #[Value.ref b] below meth cod H locs kc ks Q (F0 m 939 ls []) := by
  obtain ⟨hx, hb, hml, hown, hts, hK, hI, hA, hZ, hZZ⟩ := id F
  have hk0 : gck 0 = 9 := rfl
  have hk55 : gck 55 = 10 := rfl
  have hk530 : gck 530 = 26 := rfl
  have hn530 : gal 530 = 1 := rfl
  have ht0 : 0 < N := Nat.lt_of_lt_of_le (by decide) hN
  have ht55 : 55 < N := Nat.lt_of_lt_of_le (by decide) hN
  have ht530 : 530 < N := Nat.lt_of_lt_of_le (by decide) hN
  unfold m_law_12 at h
  refine lv_aload_n hx hb dL_law__939 rfl (lv_at hl 1 rfl) ?_
  refine lv_aload_n hx hb dL_law__940 rfl (lv_at hl 0 rfl) ?_
  refine lv_iload hx hb dL_law__941 (lv_at hl 4 rfl) ?_
  refine lv_iconst (v := 1) hx hb dL_law__943 (by decide) ?_
  refine lv_iadd hx hb dL_law__944 ?_
  obtain ⟨hi1, h⟩ := gc_s h
  refine va_sld hx hb hX hbl hbA G.2 (gin hi1) dL_law__945 ?_
  refine lv_aload_n hx hb dL_law__946 rfl (lv_at hl 0 rfl) ?_
  refine lv_iload hx hb dL_law__947 (lv_at hl 4 rfl) ?_
  refine lv_iconst (v := 2) hx hb dL_law__949 (by decide) ?_
  refine lv_iadd hx hb dL_law__950 ?_
  obtain ⟨hi2, h⟩ := gc_s h
  refine va_sld hx hb hX hbl hbA G.2 (gin hi2) dL_law__951 ?_
  refine lv_aload_n hx hb dL_law__952 rfl (lv_at hl 3 rfl) ?_
  obtain ⟨r4, c5, hc3, h⟩ := gb2_s h
  refine gx_calliX F G (vx_runSW (As := [.ref (ad 0), .int (xs (i + 1).toNatClampNeg), .int (xs (i + 2).toNatClampNeg), .ref (ad 530)]) (rest := []) (gx_fix F) (c_L_ahead l hlt sa D ad cy N H.size hN hI cd.1 cd.2 hc3) (vx_cwSW 4 hts gL_law__L_ahead rfl rfl rfl (by decide +kernel) ⟨by decide, by decide⟩) (gx_pre F G) rfl rfl hl.1 rfl (lv_room (Nat.le_of_ble_eq_true rfl)) dL_law__953 ⟨by show kc + 1 ≤ 600128; omega, by show ks + 6 ≤ 7301098; omega⟩) (fun H locs G => ?_)
  obtain ⟨cd6, ecd6⟩ : ∃ z : gm × gm, z = (c5, cd.2) := ⟨_, rfl⟩
  replace G : gW D ad cy N A s.heap cd6.1 cd6.2 H locs := by rw [ecd6]; exact G
  replace h := gv_s h cd6 ecd6
  refine lv_istore (lv' := [(5, .int r4), (0, .ref b), (1, .ref (ad 0)), (2, .ref (ad 55)), (3, .ref (ad 530)), (4, .int i)]) hx hb dL_law__956 hl (by decide) rfl (fun ls hl => ?_)
  refine lv_aload_n hx hb dL_law__958 rfl (lv_at hl 3 rfl) ?_
  refine lv_aload_n hx hb dL_law__959 rfl (lv_at hl 1 rfl) ?_
  refine lv_iload hx hb dL_law__960 (lv_at hl 5 rfl) ?_
  refine lv_iconst (v := 1) hx hb dL_law__962 (by decide) ?_
  refine lv_iadd hx hb dL_law__963 ?_
  obtain ⟨hi7, h⟩ := gc_s h
  refine va_sld hx hb hX hbl hbA G.2 (gin hi7) dL_law__964 ?_
  refine lv_aload_n hx hb dL_law__965 rfl (lv_at hl 1 rfl) ?_
  refine lv_iload hx hb dL_law__966 (lv_at hl 5 rfl) ?_
  refine lv_iconst (v := 2) hx hb dL_law__968 (by decide) ?_
  refine lv_iadd hx hb dL_law__969 ?_
  obtain ⟨hi8, h⟩ := gc_s h
  refine va_sld hx hb hX hbl hbA G.2 (gin hi8) dL_law__970 ?_
  obtain ⟨r10, c11, hc9, h⟩ := gb2_s h
  refine gx_calli F G (va_runV (As := [.int (xs (i + 1).toNatClampNeg), .int (xs (i + 2).toNatClampNeg)]) (rest := []) (gx_fix F) (c_X10_ahead l sa D ad cy N H.size (Nat.le_trans (by decide) hN) hI cd6.1 cd6.2 hc9) (cwV 2 hts gL_law__X10_ahead rfl rfl rfl (by decide +kernel) ⟨by decide, by decide⟩) (gx_rec F G ht55 (gwe_10 hk55) rfl) rfl rfl hl.1 rfl (lv_room (Nat.le_of_ble_eq_true rfl)) dL_law__971 ⟨by show kc + 1 + 0 ≤ 600128; omega, by show ks + 6 + 0 ≤ 7301098; omega⟩) (fun H locs G => ?_)
  obtain ⟨cd12, ecd12⟩ : ∃ z : gm × gm, z = (cd6.1, c11) := ⟨_, rfl⟩
  replace G : gW D ad cy N A s.heap cd12.1 cd12.2 H locs := by rw [ecd12]; exact G
  replace h := gv_s h cd12 ecd12
  refine lv_istore (lv' := [(6, .int r10), (5, .int r4), (0, .ref b), (1, .ref (ad 0)), (2, .ref (ad 55)), (3, .ref (ad 530)), (4, .int i)]) hx hb dL_law__974 hl (by decide) rfl (fun ls hl => ?_)
  refine lv_aload_n hx hb dL_law__976 rfl (lv_at hl 4 rfl) ?_
  obtain ⟨r14, hc13, h⟩ := gb_s h
  refine gx_calli F G (va_runV (As := []) (rest := []) (gx_fix F) (c_X10_thrown l sa D ad cy N H.size (Nat.le_trans (by decide) hN) hI cd12.1 cd12.2 hc13) (cwV 0 hts gL_law__X10_thrown rfl rfl rfl (by decide +kernel) ⟨by decide, by decide⟩) (gx_rec F G ht55 (gwe_10 hk55) rfl) rfl rfl hl.1 rfl (lv_room (Nat.le_of_ble_eq_true rfl)) dL_law__977 ⟨by show kc + 1 + 0 ≤ 600128; omega, by show ks + 6 + 0 ≤ 7301098; omega⟩) (fun H locs G => ?_)
  refine lv_iload hx hb dL_law__980 (lv_at hl 1 rfl) ?_
  refine lv_icmp_eq (tgt := 987) hx hb dL_law__982 (by decide) (fun q15 => ?_) (fun q15 => ?_)
  · replace h := gt_s q15 h
    refine lv_iload hx hb dL_law__987 (lv_at hl 1 rfl) ?_
    refine lv_if_ne (tgt := 1004) hx hb dL_law__989 (by decide) (fun q16 => ?_) (fun q16 => ?_)
    · replace h := gf_s q16 h
      refine lv_goto (tgt := 2288) hx hb dL_law__1004 (by decide) ?_
      cases h
      exact J _ _ _ G (lv_sub hl [2, 3, 4, 5, 6] rfl)
    · replace h := gt_s q16 h
      refine lv_aload_n hx hb dL_law__992 rfl (lv_at hl 5 rfl) ?_
      refine lv_iconst (v := 0) hx hb dL_law__993 (by decide) ?_
      refine gx_la F G hk530 ht530 hn530 (by decide) dL_law__994 ?_
      refine lv_iload hx hb dL_law__995 (lv_at hl 0 rfl) ?_
      refine lv_i2l hx hb dL_law__997 rfl ?_
      refine W.lcmp hx hb dL_law__998 ?_
      refine lv_if_eq (tgt := 1004) hx hb dL_law__999 (by decide) (fun q17 => ?_) (fun q17 => ?_)
      · replace h := gt_s q17 h
        refine lv_goto (tgt := 2288) hx hb dL_law__1004 (by decide) ?_
        cases h
        exact J _ _ _ G (lv_sub hl [2, 3, 4, 5, 6] rfl)
      · replace h := gf_s q17 h
        refine lv_iconst (v := 0) hx hb dL_law__1002 (by decide) ?_
        cases h
  · replace h := gf_s q15 h
    refine lv_iconst (v := 0) hx hb dL_law__985 (by decide) ?_
    cases h
def m_law_13 (n : Nat) (xs : Nat → Int32) (L : Nat) (i : Int32) (cd : gm × gm) : Option (gm × gm) :=
  gc (0 ≤ (i + 1).toInt ∧ (i + 1).toInt < (L : Nat)) (gc (0 ≤ (i + 2).toInt ∧ (i + 2).toInt < (L : Nat)) (gc (0 ≤ (i + 3).toInt ∧ (i + 3).toInt < (L : Nat)) (gb2 (m_L_worth n 0 (xs (i + 1).toNatClampNeg) (xs (i + 2).toNatClampNeg) (xs (i + 3).toNatClampNeg) 530 cd.1) (fun (r5 : Int32) (c6 : gm) => gv ((c6, cd.2) : gm × gm) (fun (cd7 : gm × gm) => gc (0 ≤ (i + 1).toInt ∧ (i + 1).toInt < (L : Nat)) (gc (0 ≤ (i + 2).toInt ∧ (i + 2).toInt < (L : Nat)) (gc (0 ≤ (i + 3).toInt ∧ (i + 3).toInt < (L : Nat)) (gb2 (m_X10_worth n 55 (xs (i + 1).toNatClampNeg) (xs (i + 2).toNatClampNeg) (xs (i + 3).toNatClampNeg) cd7.2) (fun (r12 : Int64) (c13 : gm) => gv ((cd7.1, c13) : gm × gm) (fun (cd14 : gm × gm) => gb (m_X10_thrown 55 cd14.2) (fun (r16 : Int32) => (if r16 = r5 then (if r5 = 0 then (if (lg_cmp (cd14.1.2.1 530 (0 : Int32).toNatClampNeg) r12) = 0 then some cd14 else none) else some cd14) else none))))))))))))
set_option maxHeartbeats 4000000 in
set_option maxRecDepth 100000 in
theorem law_13 {p : Program} {l : Launch} {e : Env} {s : State} {m : MethodId} {below : List Frame} {meth : Method} {cod : Code} {H : Heap} {locs : List Loc} {Q : State → Prop} {sa : gSa} {D : va_G} {A : Nat → Prop} {ad : Nat → Nat} {cy : Nat → ClassId} {N : Nat} (hlt : l.stackTraces = false) (hN : 531 ≤ N) {b L n kc ks : Nat} {xs : Nat → Int32} {ls : Array Slot} {i : Int32} {cd cd2 : gm × gm} (F : gF sa D ad cy N A p s m #[Value.ref b] cod cL_law_ 8 wsL_law_ RL) (hX : va_X b L xs s s.heap) (hbl : b < s.heap.size) (hbA : ¬ A b) (hkc : kc + 1 ≤ 600128) (hks : ks + 6 ≤ 7301098) (h : m_law_13 n xs L i cd = some cd2) (G : gW D ad cy N A s.heap cd.1 cd.2 H locs) (hl : lv_has ls 8 [(0, .ref b), (1, .ref (ad 0)), (2, .ref (ad 55)), (3, .ref (ad 530)), (4, .int i)]) (J : ∀ (H : Heap) (locs : List Loc) (ls : Array Slot), gW D ad cy N A s.heap cd2.1 cd2.2 H locs → lv_has ls 8 [(0, .ref b), (1, .ref (ad 0)), (2, .ref (ad 55)), (3, .ref (ad 530)), (4, .int i)] → W p l e room_1 s m #[Value.ref b] below meth cod H locs (kc + 1) (ks + 6) Q (F0 m 2288 ls [])) : W p l e room_1 s m #[Value.ref b] below meth cod H locs kc ks Q (F0 m 1007 ls []) := by
  obtain ⟨hx, hb, hml, hown, hts, hK, hI, hA, hZ, hZZ⟩ := id F
  have hk0 : gck 0 = 9 := rfl
  have hk55 : gck 55 = 10 := rfl
  have hk530 : gck 530 = 26 := rfl
  have hn530 : gal 530 = 1 := rfl
  have ht0 : 0 < N := Nat.lt_of_lt_of_le (by decide) hN
  have ht55 : 55 < N := Nat.lt_of_lt_of_le (by decide) hN
  have ht530 : 530 < N := Nat.lt_of_lt_of_le (by decide) hN
  unfold m_law_13 at h
  refine lv_aload_n hx hb dL_law__1007 rfl (lv_at hl 1 rfl) ?_
  refine lv_aload_n hx hb dL_law__1008 rfl (lv_at hl 0 rfl) ?_
  refine lv_iload hx hb dL_law__1009 (lv_at hl 4 rfl) ?_
  refine lv_iconst (v := 1) hx hb dL_law__1011 (by decide) ?_
  refine lv_iadd hx hb dL_law__1012 ?_
  obtain ⟨hi1, h⟩ := gc_s h
  refine va_sld hx hb hX hbl hbA G.2 (gin hi1) dL_law__1013 ?_
  refine lv_aload_n hx hb dL_law__1014 rfl (lv_at hl 0 rfl) ?_
  refine lv_iload hx hb dL_law__1015 (lv_at hl 4 rfl) ?_
  refine lv_iconst (v := 2) hx hb dL_law__1017 (by decide) ?_
  refine lv_iadd hx hb dL_law__1018 ?_
  obtain ⟨hi2, h⟩ := gc_s h
  refine va_sld hx hb hX hbl hbA G.2 (gin hi2) dL_law__1019 ?_
  refine lv_aload_n hx hb dL_law__1020 rfl (lv_at hl 0 rfl) ?_
  refine lv_iload hx hb dL_law__1021 (lv_at hl 4 rfl) ?_
  refine lv_iconst (v := 3) hx hb dL_law__1023 (by decide) ?_
  refine lv_iadd hx hb dL_law__1024 ?_
  obtain ⟨hi3, h⟩ := gc_s h
  refine va_sld hx hb hX hbl hbA G.2 (gin hi3) dL_law__1025 ?_
  refine lv_aload_n hx hb dL_law__1026 rfl (lv_at hl 3 rfl) ?_
  obtain ⟨r5, c6, hc4, h⟩ := gb2_s h
  refine gx_calliX F G (vx_runSW (As := [.ref (ad 0), .int (xs (i + 1).toNatClampNeg), .int (xs (i + 2).toNatClampNeg), .int (xs (i + 3).toNatClampNeg), .ref (ad 530)]) (rest := []) (gx_fix F) (c_L_worth l hlt sa D ad cy N H.size hN hI cd.1 cd.2 hc4) (vx_cwSW 5 hts gL_law__L_worth rfl rfl rfl (by decide +kernel) ⟨by decide, by decide⟩) (gx_pre F G) rfl rfl hl.1 rfl (lv_room (Nat.le_of_ble_eq_true rfl)) dL_law__1027 ⟨by show kc + 1 ≤ 600128; omega, by show ks + 6 ≤ 7301098; omega⟩) (fun H locs G => ?_)
  obtain ⟨cd7, ecd7⟩ : ∃ z : gm × gm, z = (c6, cd.2) := ⟨_, rfl⟩
  replace G : gW D ad cy N A s.heap cd7.1 cd7.2 H locs := by rw [ecd7]; exact G
  replace h := gv_s h cd7 ecd7
  refine lv_istore (lv' := [(5, .int r5), (0, .ref b), (1, .ref (ad 0)), (2, .ref (ad 55)), (3, .ref (ad 530)), (4, .int i)]) hx hb dL_law__1030 hl (by decide) rfl (fun ls hl => ?_)
  refine lv_aload_n hx hb dL_law__1032 rfl (lv_at hl 3 rfl) ?_
  refine lv_aload_n hx hb dL_law__1033 rfl (lv_at hl 1 rfl) ?_
  refine lv_iload hx hb dL_law__1034 (lv_at hl 5 rfl) ?_
  refine lv_iconst (v := 1) hx hb dL_law__1036 (by decide) ?_
  refine lv_iadd hx hb dL_law__1037 ?_
  obtain ⟨hi8, h⟩ := gc_s h
  refine va_sld hx hb hX hbl hbA G.2 (gin hi8) dL_law__1038 ?_
  refine lv_aload_n hx hb dL_law__1039 rfl (lv_at hl 1 rfl) ?_
  refine lv_iload hx hb dL_law__1040 (lv_at hl 5 rfl) ?_
  refine lv_iconst (v := 2) hx hb dL_law__1042 (by decide) ?_
  refine lv_iadd hx hb dL_law__1043 ?_
  obtain ⟨hi9, h⟩ := gc_s h
  refine va_sld hx hb hX hbl hbA G.2 (gin hi9) dL_law__1044 ?_
  refine lv_aload_n hx hb dL_law__1045 rfl (lv_at hl 1 rfl) ?_
  refine lv_iload hx hb dL_law__1046 (lv_at hl 5 rfl) ?_
  refine lv_iconst (v := 3) hx hb dL_law__1048 (by decide) ?_
  refine lv_iadd hx hb dL_law__1049 ?_
  obtain ⟨hi10, h⟩ := gc_s h
  refine va_sld hx hb hX hbl hbA G.2 (gin hi10) dL_law__1050 ?_
  obtain ⟨r12, c13, hc11, h⟩ := gb2_s h
  refine gx_calll F G (va_runV (As := [.int (xs (i + 1).toNatClampNeg), .int (xs (i + 2).toNatClampNeg), .int (xs (i + 3).toNatClampNeg)]) (rest := []) (gx_fix F) (c_X10_worth l sa D ad cy N H.size (Nat.le_trans (by decide) hN) hI cd7.1 cd7.2 hc11) (cwV 3 hts gL_law__X10_worth rfl rfl rfl (by decide +kernel) ⟨by decide, by decide⟩) (gx_rec F G ht55 (gwe_10 hk55) rfl) rfl rfl hl.1 rfl (lv_room (Nat.le_of_ble_eq_true rfl)) dL_law__1051 ⟨by show kc + 1 + 0 ≤ 600128; omega, by show ks + 6 + 0 ≤ 7301098; omega⟩) (fun H locs G => ?_)
  obtain ⟨cd14, ecd14⟩ : ∃ z : gm × gm, z = (cd7.1, c13) := ⟨_, rfl⟩
  replace G : gW D ad cy N A s.heap cd14.1 cd14.2 H locs := by rw [ecd14]; exact G
  replace h := gv_s h cd14 ecd14
  refine lv_lstore (lv' := [(6, .long r12), (5, .int r5), (0, .ref b), (1, .ref (ad 0)), (2, .ref (ad 55)), (3, .ref (ad 530)), (4, .int i)]) hx hb dL_law__1054 hl (by decide) rfl (fun ls hl => ?_)
  refine lv_aload_n hx hb dL_law__1056 rfl (lv_at hl 4 rfl) ?_
  obtain ⟨r16, hc15, h⟩ := gb_s h
  refine gx_calli F G (va_runV (As := []) (rest := []) (gx_fix F) (c_X10_thrown l sa D ad cy N H.size (Nat.le_trans (by decide) hN) hI cd14.1 cd14.2 hc15) (cwV 0 hts gL_law__X10_thrown rfl rfl rfl (by decide +kernel) ⟨by decide, by decide⟩) (gx_rec F G ht55 (gwe_10 hk55) rfl) rfl rfl hl.1 rfl (lv_room (Nat.le_of_ble_eq_true rfl)) dL_law__1057 ⟨by show kc + 1 + 0 ≤ 600128; omega, by show ks + 6 + 0 ≤ 7301098; omega⟩) (fun H locs G => ?_)
  refine lv_iload hx hb dL_law__1060 (lv_at hl 1 rfl) ?_
  refine lv_icmp_eq (tgt := 1067) hx hb dL_law__1062 (by decide) (fun q17 => ?_) (fun q17 => ?_)
  · replace h := gt_s q17 h
    refine lv_iload hx hb dL_law__1067 (lv_at hl 1 rfl) ?_
    refine lv_if_ne (tgt := 1083) hx hb dL_law__1069 (by decide) (fun q18 => ?_) (fun q18 => ?_)
    · replace h := gf_s q18 h
      refine lv_goto (tgt := 2288) hx hb dL_law__1083 (by decide) ?_
      cases h
      exact J _ _ _ G (lv_sub hl [2, 3, 4, 5, 6] rfl)
    · replace h := gt_s q18 h
      refine lv_aload_n hx hb dL_law__1072 rfl (lv_at hl 5 rfl) ?_
      refine lv_iconst (v := 0) hx hb dL_law__1073 (by decide) ?_
      refine gx_la F G hk530 ht530 hn530 (by decide) dL_law__1074 ?_
      refine lv_lload hx hb dL_law__1075 (lv_at hl 0 rfl) ?_
      refine W.lcmp hx hb dL_law__1077 ?_
      refine lv_if_eq (tgt := 1083) hx hb dL_law__1078 (by decide) (fun q19 => ?_) (fun q19 => ?_)
      · replace h := gt_s q19 h
        refine lv_goto (tgt := 2288) hx hb dL_law__1083 (by decide) ?_
        cases h
        exact J _ _ _ G (lv_sub hl [2, 3, 4, 5, 6] rfl)
      · replace h := gf_s q19 h
        refine lv_iconst (v := 0) hx hb dL_law__1081 (by decide) ?_
        cases h
  · replace h := gf_s q17 h
    refine lv_iconst (v := 0) hx hb dL_law__1065 (by decide) ?_
    cases h
def m_law_14 (n : Nat) (xs : Nat → Int32) (L : Nat) (i : Int32) (cd : gm × gm) : Option (gm × gm) :=
  gc (0 ≤ (i + 1).toInt ∧ (i + 1).toInt < (L : Nat)) (gb2 (m_L_fattest n 0 (xs (i + 1).toNatClampNeg) 530 cd.1) (fun (r3 : Int32) (c4 : gm) => gv ((c4, cd.2) : gm × gm) (fun (cd5 : gm × gm) => gc (0 ≤ (i + 1).toInt ∧ (i + 1).toInt < (L : Nat)) (gb2 (m_X10_fattest n 55 (xs (i + 1).toNatClampNeg) cd5.2) (fun (r8 : Int64) (c9 : gm) => gv ((cd5.1, c9) : gm × gm) (fun (cd10 : gm × gm) => gb (m_X10_thrown 55 cd10.2) (fun (r12 : Int32) => (if r12 = r3 then (if r3 = 0 then (if (lg_cmp (cd10.1.2.1 530 (0 : Int32).toNatClampNeg) r8) = 0 then some cd10 else none) else some cd10) else none))))))))
set_option maxHeartbeats 4000000 in
set_option maxRecDepth 100000 in
theorem law_14 {p : Program} {l : Launch} {e : Env} {s : State} {m : MethodId} {below : List Frame} {meth : Method} {cod : Code} {H : Heap} {locs : List Loc} {Q : State → Prop} {sa : gSa} {D : va_G} {A : Nat → Prop} {ad : Nat → Nat} {cy : Nat → ClassId} {N : Nat} (hlt : l.stackTraces = false) (hN : 531 ≤ N) {b L n kc ks : Nat} {xs : Nat → Int32} {ls : Array Slot} {i : Int32} {cd cd2 : gm × gm} (F : gF sa D ad cy N A p s m #[Value.ref b] cod cL_law_ 8 wsL_law_ RL) (hX : va_X b L xs s s.heap) (hbl : b < s.heap.size) (hbA : ¬ A b) (hkc : kc + 1 ≤ 600128) (hks : ks + 6 ≤ 7301098) (h : m_law_14 n xs L i cd = some cd2) (G : gW D ad cy N A s.heap cd.1 cd.2 H locs) (hl : lv_has ls 8 [(0, .ref b), (1, .ref (ad 0)), (2, .ref (ad 55)), (3, .ref (ad 530)), (4, .int i)]) (J : ∀ (H : Heap) (locs : List Loc) (ls : Array Slot), gW D ad cy N A s.heap cd2.1 cd2.2 H locs → lv_has ls 8 [(0, .ref b), (1, .ref (ad 0)), (2, .ref (ad 55)), (3, .ref (ad 530)), (4, .int i)] → W p l e room_1 s m #[Value.ref b] below meth cod H locs (kc + 1) (ks + 6) Q (F0 m 2288 ls [])) : W p l e room_1 s m #[Value.ref b] below meth cod H locs kc ks Q (F0 m 1086 ls []) := by
  obtain ⟨hx, hb, hml, hown, hts, hK, hI, hA, hZ, hZZ⟩ := id F
  have hk0 : gck 0 = 9 := rfl
  have hk55 : gck 55 = 10 := rfl
  have hk530 : gck 530 = 26 := rfl
  have hn530 : gal 530 = 1 := rfl
  have ht0 : 0 < N := Nat.lt_of_lt_of_le (by decide) hN
  have ht55 : 55 < N := Nat.lt_of_lt_of_le (by decide) hN
  have ht530 : 530 < N := Nat.lt_of_lt_of_le (by decide) hN
  unfold m_law_14 at h
  refine lv_aload_n hx hb dL_law__1086 rfl (lv_at hl 1 rfl) ?_
  refine lv_aload_n hx hb dL_law__1087 rfl (lv_at hl 0 rfl) ?_
  refine lv_iload hx hb dL_law__1088 (lv_at hl 4 rfl) ?_
  refine lv_iconst (v := 1) hx hb dL_law__1090 (by decide) ?_
  refine lv_iadd hx hb dL_law__1091 ?_
  obtain ⟨hi1, h⟩ := gc_s h
  refine va_sld hx hb hX hbl hbA G.2 (gin hi1) dL_law__1092 ?_
  refine lv_aload_n hx hb dL_law__1093 rfl (lv_at hl 3 rfl) ?_
  obtain ⟨r3, c4, hc2, h⟩ := gb2_s h
  refine gx_calliX F G (vx_runSW (As := [.ref (ad 0), .int (xs (i + 1).toNatClampNeg), .ref (ad 530)]) (rest := []) (gx_fix F) (c_L_fattest l hlt sa D ad cy N H.size hN hI cd.1 cd.2 hc2) (vx_cwSW 3 hts gL_law__L_fattest rfl rfl rfl (by decide +kernel) ⟨by decide, by decide⟩) (gx_pre F G) rfl rfl hl.1 rfl (lv_room (Nat.le_of_ble_eq_true rfl)) dL_law__1094 ⟨by show kc + 1 ≤ 600128; omega, by show ks + 6 ≤ 7301098; omega⟩) (fun H locs G => ?_)
  obtain ⟨cd5, ecd5⟩ : ∃ z : gm × gm, z = (c4, cd.2) := ⟨_, rfl⟩
  replace G : gW D ad cy N A s.heap cd5.1 cd5.2 H locs := by rw [ecd5]; exact G
  replace h := gv_s h cd5 ecd5
  refine lv_istore (lv' := [(5, .int r3), (0, .ref b), (1, .ref (ad 0)), (2, .ref (ad 55)), (3, .ref (ad 530)), (4, .int i)]) hx hb dL_law__1097 hl (by decide) rfl (fun ls hl => ?_)
  refine lv_aload_n hx hb dL_law__1099 rfl (lv_at hl 3 rfl) ?_
  refine lv_aload_n hx hb dL_law__1100 rfl (lv_at hl 1 rfl) ?_
  refine lv_iload hx hb dL_law__1101 (lv_at hl 5 rfl) ?_
  refine lv_iconst (v := 1) hx hb dL_law__1103 (by decide) ?_
  refine lv_iadd hx hb dL_law__1104 ?_
  obtain ⟨hi6, h⟩ := gc_s h
  refine va_sld hx hb hX hbl hbA G.2 (gin hi6) dL_law__1105 ?_
  obtain ⟨r8, c9, hc7, h⟩ := gb2_s h
  refine gx_calll F G (va_runV (As := [.int (xs (i + 1).toNatClampNeg)]) (rest := []) (gx_fix F) (c_X10_fattest l sa D ad cy N H.size (Nat.le_trans (by decide) hN) hI cd5.1 cd5.2 hc7) (cwV 1 hts gL_law__X10_fattest rfl rfl rfl (by decide +kernel) ⟨by decide, by decide⟩) (gx_rec F G ht55 (gwe_10 hk55) rfl) rfl rfl hl.1 rfl (lv_room (Nat.le_of_ble_eq_true rfl)) dL_law__1106 ⟨by show kc + 1 + 0 ≤ 600128; omega, by show ks + 6 + 0 ≤ 7301098; omega⟩) (fun H locs G => ?_)
  obtain ⟨cd10, ecd10⟩ : ∃ z : gm × gm, z = (cd5.1, c9) := ⟨_, rfl⟩
  replace G : gW D ad cy N A s.heap cd10.1 cd10.2 H locs := by rw [ecd10]; exact G
  replace h := gv_s h cd10 ecd10
  refine lv_lstore (lv' := [(6, .long r8), (5, .int r3), (0, .ref b), (1, .ref (ad 0)), (2, .ref (ad 55)), (3, .ref (ad 530)), (4, .int i)]) hx hb dL_law__1109 hl (by decide) rfl (fun ls hl => ?_)
  refine lv_aload_n hx hb dL_law__1111 rfl (lv_at hl 4 rfl) ?_
  obtain ⟨r12, hc11, h⟩ := gb_s h
  refine gx_calli F G (va_runV (As := []) (rest := []) (gx_fix F) (c_X10_thrown l sa D ad cy N H.size (Nat.le_trans (by decide) hN) hI cd10.1 cd10.2 hc11) (cwV 0 hts gL_law__X10_thrown rfl rfl rfl (by decide +kernel) ⟨by decide, by decide⟩) (gx_rec F G ht55 (gwe_10 hk55) rfl) rfl rfl hl.1 rfl (lv_room (Nat.le_of_ble_eq_true rfl)) dL_law__1112 ⟨by show kc + 1 + 0 ≤ 600128; omega, by show ks + 6 + 0 ≤ 7301098; omega⟩) (fun H locs G => ?_)
  refine lv_iload hx hb dL_law__1115 (lv_at hl 1 rfl) ?_
  refine lv_icmp_eq (tgt := 1122) hx hb dL_law__1117 (by decide) (fun q13 => ?_) (fun q13 => ?_)
  · replace h := gt_s q13 h
    refine lv_iload hx hb dL_law__1122 (lv_at hl 1 rfl) ?_
    refine lv_if_ne (tgt := 1138) hx hb dL_law__1124 (by decide) (fun q14 => ?_) (fun q14 => ?_)
    · replace h := gf_s q14 h
      refine lv_goto (tgt := 2288) hx hb dL_law__1138 (by decide) ?_
      cases h
      exact J _ _ _ G (lv_sub hl [2, 3, 4, 5, 6] rfl)
    · replace h := gt_s q14 h
      refine lv_aload_n hx hb dL_law__1127 rfl (lv_at hl 5 rfl) ?_
      refine lv_iconst (v := 0) hx hb dL_law__1128 (by decide) ?_
      refine gx_la F G hk530 ht530 hn530 (by decide) dL_law__1129 ?_
      refine lv_lload hx hb dL_law__1130 (lv_at hl 0 rfl) ?_
      refine W.lcmp hx hb dL_law__1132 ?_
      refine lv_if_eq (tgt := 1138) hx hb dL_law__1133 (by decide) (fun q15 => ?_) (fun q15 => ?_)
      · replace h := gt_s q15 h
        refine lv_goto (tgt := 2288) hx hb dL_law__1138 (by decide) ?_
        cases h
        exact J _ _ _ G (lv_sub hl [2, 3, 4, 5, 6] rfl)
      · replace h := gf_s q15 h
        refine lv_iconst (v := 0) hx hb dL_law__1136 (by decide) ?_
        cases h
  · replace h := gf_s q13 h
    refine lv_iconst (v := 0) hx hb dL_law__1120 (by decide) ?_
    cases h
def m_law_15 (n : Nat) (xs : Nat → Int32) (L : Nat) (i : Int32) (cd : gm × gm) : Option (gm × gm) :=
  gb2 (m_X9_fat n 0 cd.1) (fun (r2 : Int32) (c3 : gm) => gv ((c3, cd.2) : gm × gm) (fun (cd4 : gm × gm) => gb2 (m_X10_fat n 55 cd4.2) (fun (r6 : Int32) (c7 : gm) => gv ((cd4.1, c7) : gm × gm) (fun (cd8 : gm × gm) => (if r2 = r6 then some cd8 else none)))))
set_option maxHeartbeats 4000000 in
set_option maxRecDepth 100000 in
theorem law_15 {p : Program} {l : Launch} {e : Env} {s : State} {m : MethodId} {below : List Frame} {meth : Method} {cod : Code} {H : Heap} {locs : List Loc} {Q : State → Prop} {sa : gSa} {D : va_G} {A : Nat → Prop} {ad : Nat → Nat} {cy : Nat → ClassId} {N : Nat} (hlt : l.stackTraces = false) (hN : 531 ≤ N) {b L n kc ks : Nat} {xs : Nat → Int32} {ls : Array Slot} {i : Int32} {cd cd2 : gm × gm} (F : gF sa D ad cy N A p s m #[Value.ref b] cod cL_law_ 8 wsL_law_ RL) (hX : va_X b L xs s s.heap) (hbl : b < s.heap.size) (hbA : ¬ A b) (hkc : kc + 1 ≤ 600128) (hks : ks + 6 ≤ 7301098) (h : m_law_15 n xs L i cd = some cd2) (G : gW D ad cy N A s.heap cd.1 cd.2 H locs) (hl : lv_has ls 8 [(0, .ref b), (1, .ref (ad 0)), (2, .ref (ad 55)), (3, .ref (ad 530)), (4, .int i)]) (J : ∀ (H : Heap) (locs : List Loc) (ls : Array Slot), gW D ad cy N A s.heap cd2.1 cd2.2 H locs → lv_has ls 8 [(0, .ref b), (1, .ref (ad 0)), (2, .ref (ad 55)), (3, .ref (ad 530)), (4, .int i)] → W p l e room_1 s m #[Value.ref b] below meth cod H locs (kc + 1) (ks + 6) Q (F0 m 2288 ls [])) : W p l e room_1 s m #[Value.ref b] below meth cod H locs kc ks Q (F0 m 1141 ls []) := by
  obtain ⟨hx, hb, hml, hown, hts, hK, hI, hA, hZ, hZZ⟩ := id F
  have hk0 : gck 0 = 9 := rfl
  have hk55 : gck 55 = 10 := rfl
  have hk530 : gck 530 = 26 := rfl
  have hn530 : gal 530 = 1 := rfl
  have ht0 : 0 < N := Nat.lt_of_lt_of_le (by decide) hN
  have ht55 : 55 < N := Nat.lt_of_lt_of_le (by decide) hN
  have ht530 : 530 < N := Nat.lt_of_lt_of_le (by decide) hN
  unfold m_law_15 at h
  refine lv_aload_n hx hb dL_law__1141 rfl (lv_at hl 1 rfl) ?_
  obtain ⟨r2, c3, hc1, h⟩ := gb2_s h
  refine gx_calli F G (va_runV (As := []) (rest := []) (gx_fix F) (c_X9_fat l sa D ad cy N H.size (Nat.le_trans (by decide) hN) hI cd.1 cd.2 hc1) (cwV 0 hts gL_law__X9_fat rfl rfl rfl (by decide +kernel) ⟨by decide, by decide⟩) (gx_rec F G ht0 (gwe_9 hk0) rfl) rfl rfl hl.1 rfl (lv_room (Nat.le_of_ble_eq_true rfl)) dL_law__1142 ⟨by show kc + 0 ≤ 600128; omega, by show ks + 0 ≤ 7301098; omega⟩) (fun H locs G => ?_)
  obtain ⟨cd4, ecd4⟩ : ∃ z : gm × gm, z = (c3, cd.2) := ⟨_, rfl⟩
  replace G : gW D ad cy N A s.heap cd4.1 cd4.2 H locs := by rw [ecd4]; exact G
  replace h := gv_s h cd4 ecd4
  refine lv_aload_n hx hb dL_law__1145 rfl (lv_at hl 2 rfl) ?_
  obtain ⟨r6, c7, hc5, h⟩ := gb2_s h
  refine gx_calli F G (va_runV (As := []) (rest := [.int r2]) (gx_fix F) (c_X10_fat l sa D ad cy N H.size (Nat.le_trans (by decide) hN) hI cd4.1 cd4.2 hc5) (cwV 0 hts gL_law__X10_fat rfl rfl rfl (by decide +kernel) ⟨by decide, by decide⟩) (gx_rec F G ht55 (gwe_10 hk55) rfl) rfl rfl hl.1 rfl (lv_room (Nat.le_of_ble_eq_true rfl)) dL_law__1146 ⟨by show kc + 0 ≤ 600128; omega, by show ks + 0 ≤ 7301098; omega⟩) (fun H locs G => ?_)
  obtain ⟨cd8, ecd8⟩ : ∃ z : gm × gm, z = (cd4.1, c7) := ⟨_, rfl⟩
  replace G : gW D ad cy N A s.heap cd8.1 cd8.2 H locs := by rw [ecd8]; exact G
  replace h := gv_s h cd8 ecd8
  refine lv_icmp_eq (tgt := 2288) hx hb dL_law__1149 (by decide) (fun q9 => ?_) (fun q9 => ?_)
  · replace h := gt_s q9 h
    cases h
    exact W.widen (k := kc + 1) (n := ks + 6) (by omega) (by omega) (J _ _ _ G hl)
  · replace h := gf_s q9 h
    refine lv_iconst (v := 0) hx hb dL_law__1152 (by decide) ?_
    cases h
def m_law_16 (n : Nat) (xs : Nat → Int32) (L : Nat) (i : Int32) (cd : gm × gm) : Option (gm × gm) :=
  gb2 (m_X9_mend n 0 cd.1) (fun (r2 : Int32) (c3 : gm) => gv ((c3, cd.2) : gm × gm) (fun (cd4 : gm × gm) => gb2 (m_X10_mend n 55 cd4.2) (fun (r6 : Int32) (c7 : gm) => gv ((cd4.1, c7) : gm × gm) (fun (cd8 : gm × gm) => (if r2 = r6 then some cd8 else none)))))
set_option maxHeartbeats 4000000 in
set_option maxRecDepth 100000 in
theorem law_16 {p : Program} {l : Launch} {e : Env} {s : State} {m : MethodId} {below : List Frame} {meth : Method} {cod : Code} {H : Heap} {locs : List Loc} {Q : State → Prop} {sa : gSa} {D : va_G} {A : Nat → Prop} {ad : Nat → Nat} {cy : Nat → ClassId} {N : Nat} (hlt : l.stackTraces = false) (hN : 531 ≤ N) {b L n kc ks : Nat} {xs : Nat → Int32} {ls : Array Slot} {i : Int32} {cd cd2 : gm × gm} (F : gF sa D ad cy N A p s m #[Value.ref b] cod cL_law_ 8 wsL_law_ RL) (hX : va_X b L xs s s.heap) (hbl : b < s.heap.size) (hbA : ¬ A b) (hkc : kc + 1 ≤ 600128) (hks : ks + 6 ≤ 7301098) (h : m_law_16 n xs L i cd = some cd2) (G : gW D ad cy N A s.heap cd.1 cd.2 H locs) (hl : lv_has ls 8 [(0, .ref b), (1, .ref (ad 0)), (2, .ref (ad 55)), (3, .ref (ad 530)), (4, .int i)]) (J : ∀ (H : Heap) (locs : List Loc) (ls : Array Slot), gW D ad cy N A s.heap cd2.1 cd2.2 H locs → lv_has ls 8 [(0, .ref b), (1, .ref (ad 0)), (2, .ref (ad 55)), (3, .ref (ad 530)), (4, .int i)] → W p l e room_1 s m #[Value.ref b] below meth cod H locs (kc + 1) (ks + 6) Q (F0 m 2288 ls [])) : W p l e room_1 s m #[Value.ref b] below meth cod H locs kc ks Q (F0 m 1154 ls []) := by
  obtain ⟨hx, hb, hml, hown, hts, hK, hI, hA, hZ, hZZ⟩ := id F
  have hk0 : gck 0 = 9 := rfl
  have hk55 : gck 55 = 10 := rfl
  have hk530 : gck 530 = 26 := rfl
  have hn530 : gal 530 = 1 := rfl
  have ht0 : 0 < N := Nat.lt_of_lt_of_le (by decide) hN
  have ht55 : 55 < N := Nat.lt_of_lt_of_le (by decide) hN
  have ht530 : 530 < N := Nat.lt_of_lt_of_le (by decide) hN
  unfold m_law_16 at h
  refine lv_aload_n hx hb dL_law__1154 rfl (lv_at hl 1 rfl) ?_
  obtain ⟨r2, c3, hc1, h⟩ := gb2_s h
  refine gx_calli F G (va_runV (As := []) (rest := []) (gx_fix F) (c_X9_mend l sa D ad cy N H.size (Nat.le_trans (by decide) hN) hI cd.1 cd.2 hc1) (cwV 0 hts gL_law__X9_mend rfl rfl rfl (by decide +kernel) ⟨by decide, by decide⟩) (gx_rec F G ht0 (gwe_9 hk0) rfl) rfl rfl hl.1 rfl (lv_room (Nat.le_of_ble_eq_true rfl)) dL_law__1155 ⟨by show kc + 0 ≤ 600128; omega, by show ks + 0 ≤ 7301098; omega⟩) (fun H locs G => ?_)
  obtain ⟨cd4, ecd4⟩ : ∃ z : gm × gm, z = (c3, cd.2) := ⟨_, rfl⟩
  replace G : gW D ad cy N A s.heap cd4.1 cd4.2 H locs := by rw [ecd4]; exact G
  replace h := gv_s h cd4 ecd4
  refine lv_aload_n hx hb dL_law__1158 rfl (lv_at hl 2 rfl) ?_
  obtain ⟨r6, c7, hc5, h⟩ := gb2_s h
  refine gx_calli F G (va_runV (As := []) (rest := [.int r2]) (gx_fix F) (c_X10_mend l sa D ad cy N H.size (Nat.le_trans (by decide) hN) hI cd4.1 cd4.2 hc5) (cwV 0 hts gL_law__X10_mend rfl rfl rfl (by decide +kernel) ⟨by decide, by decide⟩) (gx_rec F G ht55 (gwe_10 hk55) rfl) rfl rfl hl.1 rfl (lv_room (Nat.le_of_ble_eq_true rfl)) dL_law__1159 ⟨by show kc + 0 ≤ 600128; omega, by show ks + 0 ≤ 7301098; omega⟩) (fun H locs G => ?_)
  obtain ⟨cd8, ecd8⟩ : ∃ z : gm × gm, z = (cd4.1, c7) := ⟨_, rfl⟩
  replace G : gW D ad cy N A s.heap cd8.1 cd8.2 H locs := by rw [ecd8]; exact G
  replace h := gv_s h cd8 ecd8
  refine lv_icmp_eq (tgt := 2288) hx hb dL_law__1162 (by decide) (fun q9 => ?_) (fun q9 => ?_)
  · replace h := gt_s q9 h
    cases h
    exact W.widen (k := kc + 1) (n := ks + 6) (by omega) (by omega) (J _ _ _ G hl)
  · replace h := gf_s q9 h
    refine lv_iconst (v := 0) hx hb dL_law__1165 (by decide) ?_
    cases h
def m_law_17 (n : Nat) (xs : Nat → Int32) (L : Nat) (i : Int32) (cd : gm × gm) : Option (gm × gm) :=
  gc (0 ≤ (i + 1).toInt ∧ (i + 1).toInt < (L : Nat)) (gc (0 ≤ (i + 2).toInt ∧ (i + 2).toInt < (L : Nat)) (gb2 (m_L_match n 0 (xs (i + 1).toNatClampNeg) (xs (i + 2).toNatClampNeg) 530 cd.1) (fun (r4 : Int32) (c5 : gm) => gv ((c5, cd.2) : gm × gm) (fun (cd6 : gm × gm) => gc (0 ≤ (i + 1).toInt ∧ (i + 1).toInt < (L : Nat)) (gc (0 ≤ (i + 2).toInt ∧ (i + 2).toInt < (L : Nat)) (gb2 (m_X10_match n 55 (xs (i + 1).toNatClampNeg) (xs (i + 2).toNatClampNeg) cd6.2) (fun (r10 : Int32) (c11 : gm) => gv ((cd6.1, c11) : gm × gm) (fun (cd12 : gm × gm) => gb (m_X10_thrown 55 cd12.2) (fun (r14 : Int32) => (if r14 = r4 then (if r4 = 0 then (if (lg_cmp (cd12.1.2.1 530 (0 : Int32).toNatClampNeg) (Int32.toInt64 r10)) = 0 then some cd12 else none) else some cd12) else none))))))))))
set_option maxHeartbeats 4000000 in
set_option maxRecDepth 100000 in
theorem law_17 {p : Program} {l : Launch} {e : Env} {s : State} {m : MethodId} {below : List Frame} {meth : Method} {cod : Code} {H : Heap} {locs : List Loc} {Q : State → Prop} {sa : gSa} {D : va_G} {A : Nat → Prop} {ad : Nat → Nat} {cy : Nat → ClassId} {N : Nat} (hlt : l.stackTraces = false) (hN : 531 ≤ N) {b L n kc ks : Nat} {xs : Nat → Int32} {ls : Array Slot} {i : Int32} {cd cd2 : gm × gm} (F : gF sa D ad cy N A p s m #[Value.ref b] cod cL_law_ 8 wsL_law_ RL) (hX : va_X b L xs s s.heap) (hbl : b < s.heap.size) (hbA : ¬ A b) (hkc : kc + 1 ≤ 600128) (hks : ks + 6 ≤ 7301098) (h : m_law_17 n xs L i cd = some cd2) (G : gW D ad cy N A s.heap cd.1 cd.2 H locs) (hl : lv_has ls 8 [(0, .ref b), (1, .ref (ad 0)), (2, .ref (ad 55)), (3, .ref (ad 530)), (4, .int i)]) (J : ∀ (H : Heap) (locs : List Loc) (ls : Array Slot), gW D ad cy N A s.heap cd2.1 cd2.2 H locs → lv_has ls 8 [(0, .ref b), (1, .ref (ad 0)), (2, .ref (ad 55)), (3, .ref (ad 530)), (4, .int i)] → W p l e room_1 s m #[Value.ref b] below meth cod H locs (kc + 1) (ks + 6) Q (F0 m 2288 ls [])) : W p l e room_1 s m #[Value.ref b] below meth cod H locs kc ks Q (F0 m 1167 ls []) := by
  obtain ⟨hx, hb, hml, hown, hts, hK, hI, hA, hZ, hZZ⟩ := id F
  have hk0 : gck 0 = 9 := rfl
  have hk55 : gck 55 = 10 := rfl
  have hk530 : gck 530 = 26 := rfl
  have hn530 : gal 530 = 1 := rfl
  have ht0 : 0 < N := Nat.lt_of_lt_of_le (by decide) hN
  have ht55 : 55 < N := Nat.lt_of_lt_of_le (by decide) hN
  have ht530 : 530 < N := Nat.lt_of_lt_of_le (by decide) hN
  unfold m_law_17 at h
  refine lv_aload_n hx hb dL_law__1167 rfl (lv_at hl 1 rfl) ?_
  refine lv_aload_n hx hb dL_law__1168 rfl (lv_at hl 0 rfl) ?_
  refine lv_iload hx hb dL_law__1169 (lv_at hl 4 rfl) ?_
  refine lv_iconst (v := 1) hx hb dL_law__1171 (by decide) ?_
  refine lv_iadd hx hb dL_law__1172 ?_
  obtain ⟨hi1, h⟩ := gc_s h
  refine va_sld hx hb hX hbl hbA G.2 (gin hi1) dL_law__1173 ?_
  refine lv_aload_n hx hb dL_law__1174 rfl (lv_at hl 0 rfl) ?_
  refine lv_iload hx hb dL_law__1175 (lv_at hl 4 rfl) ?_
  refine lv_iconst (v := 2) hx hb dL_law__1177 (by decide) ?_
  refine lv_iadd hx hb dL_law__1178 ?_
  obtain ⟨hi2, h⟩ := gc_s h
  refine va_sld hx hb hX hbl hbA G.2 (gin hi2) dL_law__1179 ?_
  refine lv_aload_n hx hb dL_law__1180 rfl (lv_at hl 3 rfl) ?_
  obtain ⟨r4, c5, hc3, h⟩ := gb2_s h
  refine gx_calliX F G (vx_runSW (As := [.ref (ad 0), .int (xs (i + 1).toNatClampNeg), .int (xs (i + 2).toNatClampNeg), .ref (ad 530)]) (rest := []) (gx_fix F) (c_L_match l hlt sa D ad cy N H.size hN hI cd.1 cd.2 hc3) (vx_cwSW 4 hts gL_law__L_match rfl rfl rfl (by decide +kernel) ⟨by decide, by decide⟩) (gx_pre F G) rfl rfl hl.1 rfl (lv_room (Nat.le_of_ble_eq_true rfl)) dL_law__1181 ⟨by show kc + 1 ≤ 600128; omega, by show ks + 6 ≤ 7301098; omega⟩) (fun H locs G => ?_)
  obtain ⟨cd6, ecd6⟩ : ∃ z : gm × gm, z = (c5, cd.2) := ⟨_, rfl⟩
  replace G : gW D ad cy N A s.heap cd6.1 cd6.2 H locs := by rw [ecd6]; exact G
  replace h := gv_s h cd6 ecd6
  refine lv_istore (lv' := [(5, .int r4), (0, .ref b), (1, .ref (ad 0)), (2, .ref (ad 55)), (3, .ref (ad 530)), (4, .int i)]) hx hb dL_law__1184 hl (by decide) rfl (fun ls hl => ?_)
  refine lv_aload_n hx hb dL_law__1186 rfl (lv_at hl 3 rfl) ?_
  refine lv_aload_n hx hb dL_law__1187 rfl (lv_at hl 1 rfl) ?_
  refine lv_iload hx hb dL_law__1188 (lv_at hl 5 rfl) ?_
  refine lv_iconst (v := 1) hx hb dL_law__1190 (by decide) ?_
  refine lv_iadd hx hb dL_law__1191 ?_
  obtain ⟨hi7, h⟩ := gc_s h
  refine va_sld hx hb hX hbl hbA G.2 (gin hi7) dL_law__1192 ?_
  refine lv_aload_n hx hb dL_law__1193 rfl (lv_at hl 1 rfl) ?_
  refine lv_iload hx hb dL_law__1194 (lv_at hl 5 rfl) ?_
  refine lv_iconst (v := 2) hx hb dL_law__1196 (by decide) ?_
  refine lv_iadd hx hb dL_law__1197 ?_
  obtain ⟨hi8, h⟩ := gc_s h
  refine va_sld hx hb hX hbl hbA G.2 (gin hi8) dL_law__1198 ?_
  obtain ⟨r10, c11, hc9, h⟩ := gb2_s h
  refine gx_calli F G (va_runV (As := [.int (xs (i + 1).toNatClampNeg), .int (xs (i + 2).toNatClampNeg)]) (rest := []) (gx_fix F) (c_X10_match l sa D ad cy N H.size (Nat.le_trans (by decide) hN) hI cd6.1 cd6.2 hc9) (cwV 2 hts gL_law__X10_match rfl rfl rfl (by decide +kernel) ⟨by decide, by decide⟩) (gx_rec F G ht55 (gwe_10 hk55) rfl) rfl rfl hl.1 rfl (lv_room (Nat.le_of_ble_eq_true rfl)) dL_law__1199 ⟨by show kc + 1 + 0 ≤ 600128; omega, by show ks + 6 + 0 ≤ 7301098; omega⟩) (fun H locs G => ?_)
  obtain ⟨cd12, ecd12⟩ : ∃ z : gm × gm, z = (cd6.1, c11) := ⟨_, rfl⟩
  replace G : gW D ad cy N A s.heap cd12.1 cd12.2 H locs := by rw [ecd12]; exact G
  replace h := gv_s h cd12 ecd12
  refine lv_istore (lv' := [(6, .int r10), (5, .int r4), (0, .ref b), (1, .ref (ad 0)), (2, .ref (ad 55)), (3, .ref (ad 530)), (4, .int i)]) hx hb dL_law__1202 hl (by decide) rfl (fun ls hl => ?_)
  refine lv_aload_n hx hb dL_law__1204 rfl (lv_at hl 4 rfl) ?_
  obtain ⟨r14, hc13, h⟩ := gb_s h
  refine gx_calli F G (va_runV (As := []) (rest := []) (gx_fix F) (c_X10_thrown l sa D ad cy N H.size (Nat.le_trans (by decide) hN) hI cd12.1 cd12.2 hc13) (cwV 0 hts gL_law__X10_thrown rfl rfl rfl (by decide +kernel) ⟨by decide, by decide⟩) (gx_rec F G ht55 (gwe_10 hk55) rfl) rfl rfl hl.1 rfl (lv_room (Nat.le_of_ble_eq_true rfl)) dL_law__1205 ⟨by show kc + 1 + 0 ≤ 600128; omega, by show ks + 6 + 0 ≤ 7301098; omega⟩) (fun H locs G => ?_)
  refine lv_iload hx hb dL_law__1208 (lv_at hl 1 rfl) ?_
  refine lv_icmp_eq (tgt := 1215) hx hb dL_law__1210 (by decide) (fun q15 => ?_) (fun q15 => ?_)
  · replace h := gt_s q15 h
    refine lv_iload hx hb dL_law__1215 (lv_at hl 1 rfl) ?_
    refine lv_if_ne (tgt := 1232) hx hb dL_law__1217 (by decide) (fun q16 => ?_) (fun q16 => ?_)
    · replace h := gf_s q16 h
      refine lv_goto (tgt := 2288) hx hb dL_law__1232 (by decide) ?_
      cases h
      exact J _ _ _ G (lv_sub hl [2, 3, 4, 5, 6] rfl)
    · replace h := gt_s q16 h
      refine lv_aload_n hx hb dL_law__1220 rfl (lv_at hl 5 rfl) ?_
      refine lv_iconst (v := 0) hx hb dL_law__1221 (by decide) ?_
      refine gx_la F G hk530 ht530 hn530 (by decide) dL_law__1222 ?_
      refine lv_iload hx hb dL_law__1223 (lv_at hl 0 rfl) ?_
      refine lv_i2l hx hb dL_law__1225 rfl ?_
      refine W.lcmp hx hb dL_law__1226 ?_
      refine lv_if_eq (tgt := 1232) hx hb dL_law__1227 (by decide) (fun q17 => ?_) (fun q17 => ?_)
      · replace h := gt_s q17 h
        refine lv_goto (tgt := 2288) hx hb dL_law__1232 (by decide) ?_
        cases h
        exact J _ _ _ G (lv_sub hl [2, 3, 4, 5, 6] rfl)
      · replace h := gf_s q17 h
        refine lv_iconst (v := 0) hx hb dL_law__1230 (by decide) ?_
        cases h
  · replace h := gf_s q15 h
    refine lv_iconst (v := 0) hx hb dL_law__1213 (by decide) ?_
    cases h
