section GL
variable {p : Program} {l : Launch} {e : Env} {R : Room} {s : State} {m : MethodId} {args : Array Value} {below : List Frame} {meth : Method} {c : Code} {H : Heap} {locs : List Loc} {cells slots : Nat} {Q : State → Prop}
variable {cc : ByteArray} {pc nL : Nat} {ls : Array Slot} {rest : List Value} {sa : gSa} {D : va_G} {A : Nat → Prop} {H0 : Heap} {ad : Nat → Nat} {cy : Nat → ClassId} {N : Nat} {cm dm : gm} {Ts : List Cond} {own : String}
theorem gx_ls (F : gF sa D ad cy N A p s m args c cc nL Ts own) (G : gW D ad cy N A H0 cm dm H locs) {t n : Nat} {x : Int64} {y : Int32} (hk : gck t = 26) (ht : t < N) (hn : gal t = n) (hi : 0 ≤ y.toInt ∧ y.toInt < n) (hdg : decode cc pc = .ok (.lastore, 1)) (kk : ∀ (H1 : Heap) (locs1 : List Loc), gW D ad cy N A H0 (gm_l cm t (vp_updL (cm.2.1 t) y.toNatClampNeg x)) dm H1 locs1 → W p l e R s m args below meth c H1 locs1 cells slots Q (F0 m (pc + 1) ls rest)) : W p l e R s m args below meth c H locs cells slots Q (F0 m pc ls (.long x :: .int y :: .ref (ad t) :: rest)) := by
  obtain ⟨hx, hb, -, hown, hts, hK, hI, hA, -, -⟩ := F
  refine va_last hx hb hK G.1 (gwl_D hI hA) G.2 t 3 (by rw [gwl_at ht, gwe_26 hk]) rfl (gin (hn ▸ hi)) hdg (fun H1 locs1 hP hD hS => ?_)
  rw [gwl_set (c2 := gm_l cm t (vp_updL (cm.2.1 t) y.toNatClampNeg x)) (d2 := dm) (by rw [gwe_26 hk]; simp [gm_l, va_up_self]) (fun i h => gwe_lc h)] at hP
  exact kk H1 locs1 ⟨hP, hS⟩
theorem gx_la (F : gF sa D ad cy N A p s m args c cc nL Ts own) (G : gW D ad cy N A H0 cm dm H locs) {t n : Nat} {y : Int32} (hk : gck t = 26) (ht : t < N) (hn : gal t = n) (hi : 0 ≤ y.toInt ∧ y.toInt < n) (hdg : decode cc pc = .ok (.laload, 1)) (kk : W p l e R s m args below meth c H locs cells slots Q (F0 m (pc + 1) ls (.long (cm.2.1 t y.toNatClampNeg) :: rest))) : W p l e R s m args below meth c H locs cells slots Q (F0 m pc ls (.int y :: .ref (ad t) :: rest)) := by
  obtain ⟨hx, hb, -, hown, hts, hK, -, -, -, -⟩ := F
  exact va_lald hx hb hK G.1 t 3 (by rw [gwl_at ht, gwe_26 hk]) rfl (gin (hn ▸ hi)) hdg kk
theorem gx_xci (F : gF sa D ad cy N A p s m args c cc nL Ts own) (G : gW D ad cy N A s.heap cm dm H locs) {st0 : List Value} {a : Array Value} {k : Nat} {cm2 dm2 : gm} (hr : vx_Run p l e R s m args below meth c H locs cells slots 1 6 (F0 m pc ls st0) rest (va_Qi (fun (_ : Int32) (_ : Unit) => False) (fun _ _ => True) (gA ad N H.size) a) (vx_X (fun (_ : Unit) => True) (fun E _ U => E = gxn k ∧ gE D ad cy N cm2 dm2 U) (gA ad N H.size)) (gA ad N H.size)) (kk : ∀ (ce : Cell) (q9 : Addr) (H1 : Heap) (locs1 : List Loc), gW D ad cy N A s.heap cm2 dm2 H1 locs1 → H1[q9]? = some ce → ce.vm = .none → s.vm.findClass (gxn k) = some ce.cls → vx_W p l e R s m args below meth c H1 locs1 (cells + 1) (slots + 6) Q (F0 m pc ls rest) q9) : W p l e R s m args below meth c H locs cells slots Q (F0 m pc ls st0) := by
  obtain ⟨hx, hb, -, hown, hts, hK, hI, hA, hZ, -⟩ := F
  have hm := gA_mono (sz := H.size) hA (fun q h => hZ q (Nat.le_trans G.2.1 h))
  refine vx_calli hr G.2 (fun q _ h => hm q h) hm (fun q _ h => hm q h) (fun E ce q9 u t H1 locs1 ht hvm hp hB hz hk hS hc hv hcl => ?_) (fun r u t H1 locs1 ht hvm hw hB hz hk hS => hw.elim)
  obtain ⟨rfl, hB1, hB2⟩ := hB
  exact kk ce q9 H1 locs1 ⟨by rw [← ht]; exact hB1, hS⟩ hc hv hcl
theorem gx_xcl (F : gF sa D ad cy N A p s m args c cc nL Ts own) (G : gW D ad cy N A s.heap cm dm H locs) {st0 : List Value} {a : Array Value} {k : Nat} {cm2 dm2 : gm} (hr : vx_Run p l e R s m args below meth c H locs cells slots 1 6 (F0 m pc ls st0) rest (va_Ql (fun (_ : Int64) (_ : Unit) => False) (fun _ _ => True) (gA ad N H.size) a) (vx_X (fun (_ : Unit) => True) (fun E _ U => E = gxn k ∧ gE D ad cy N cm2 dm2 U) (gA ad N H.size)) (gA ad N H.size)) (kk : ∀ (ce : Cell) (q9 : Addr) (H1 : Heap) (locs1 : List Loc), gW D ad cy N A s.heap cm2 dm2 H1 locs1 → H1[q9]? = some ce → ce.vm = .none → s.vm.findClass (gxn k) = some ce.cls → vx_W p l e R s m args below meth c H1 locs1 (cells + 1) (slots + 6) Q (F0 m pc ls rest) q9) : W p l e R s m args below meth c H locs cells slots Q (F0 m pc ls st0) := by
  obtain ⟨hx, hb, -, hown, hts, hK, hI, hA, hZ, -⟩ := F
  have hm := gA_mono (sz := H.size) hA (fun q h => hZ q (Nat.le_trans G.2.1 h))
  refine vx_calll hr G.2 (fun q _ h => hm q h) hm (fun q _ h => hm q h) (fun E ce q9 u t H1 locs1 ht hvm hp hB hz hk hS hc hv hcl => ?_) (fun r u t H1 locs1 ht hvm hw hB hz hk hS => hw.elim)
  obtain ⟨rfl, hB1, hB2⟩ := hB
  exact kk ce q9 H1 locs1 ⟨by rw [← ht]; exact hB1, hS⟩ hc hv hcl
/-- a call whose callee returned or threw: the two roads of a wrapper -/
def gbw {α β : Type} (x : Option (α ⊕ (Nat × gm))) (k : α → Option β) (kx : Nat → gm → Option β) : Option β := match x with
  | none => none
  | some (.inl a) => k a
  | some (.inr e) => kx e.1 e.2
theorem gbw_s {α β : Type} {x : Option (α ⊕ (Nat × gm))} {k : α → Option β} {kx : Nat → gm → Option β} {r : β} (h : gbw x k kx = some r) : (∃ a, x = some (.inl a) ∧ k a = some r) ∨ ∃ q c, x = some (.inr (q, c)) ∧ kx q c = some r := by
  match x, h with
  | some (.inl a), h => exact Or.inl ⟨a, rfl, h⟩
  | some (.inr (q, c)), h => exact Or.inr ⟨q, c, rfl, h⟩
end GL
theorem gal26 {i : Nat} (h : gck i = 26) : gal i = 1 := by
  have e : i = 530 := by
    unfold gck at h
    repeat' (split at h)
    all_goals omega
  rw [e]
  rfl
def m_L_market (n : Nat) (t : Nat) (a1 : Int32) (o : Nat) (c : gm) : Option (Int32 × gm) :=
  gc (gck t = 9) (gc (gck o = 26) (gbw (m_X9_market n t a1 c) (fun (q : Int32 × gm) => some (0, gm_l q.2 o (vp_updL (q.2.2.1 o) (0 : Int32).toNatClampNeg q.1.toInt64))) (fun (k : Nat) (c1 : gm) => if k = 1 then some (1, c1) else if k = 0 then none else none)))
abbrev rmL_market : Room := { frames := 9, cells := 1, slots := 6, locals := 194 }
set_option maxHeartbeats 4000000 in
set_option maxRecDepth 100000 in
theorem c_L_market (l : Launch) (hlt : l.stackTraces = false) (sa : gSa) (D : va_G) (ad : Nat → Nat) (cy : Nat → ClassId) (N sz : Nat) (hN : 531 ≤ N) (hI : gI ad N) (c d0 : gm) {n : Nat} {t : Nat} {a1 : Int32} {o : Nat} {rZ : Int32} {cZ : gm} (h : m_L_market n t a1 o c = some (rZ, cZ)) : Met l yL_market wsL_market rmL_market (va_Pc [.ref (ad t), .int a1, .ref (ad o)] (gP sa D ad cy N sz c d0)) (va_Qi (fun (z : Int32) (_ : Unit) => z = rZ) (fun _ U => gE D ad cy N cZ d0 U) (gA ad N sz)) 1 6 (gA ad N sz) := by
  refine va_MetW (cc := cL_market) (maxL := 4) (ret := (some .int)) (hh := [(0, 9, 12, 13)]) (by decide) rfl ?_
  intro p e s m args below meth cod s₁ B hml hv
  obtain ⟨rfl, hsz, hP, hK, hZ⟩ := hv
  have hx := B.exec
  have hb := B.bytes
  have hr := B.returns
  have hts := atoms_spec (ws := wsL_market) B.pre
  have htab := vx_table (x := yL_market) B (hts _ List.mem_cons_self)
  have hown : s.vm.findClass RL = some m.cls := findClass_of_methodNamed B.named
  have hlocks := B.notSynchronized
  subst hsz
  have hl := lv_entry ([.ref (ad t), .int a1, .ref (ad o)]) (n := 4) (Nat.le_of_ble_eq_true rfl)
  rw [lg_entry_eq]
  generalize (lg_sl ([.ref (ad t), .int a1, .ref (ad o)]) ++ List.replicate (4 - (lg_sl ([.ref (ad t), .int a1, .ref (ad o)])).length) Slot.unset).toArray = ls at hl ⊢
  have hl : lv_has ls 4 [(0, .ref (ad t)), (1, .int a1), (2, .ref (ad o))] := hl
  generalize hargs : ([.ref (ad t), .int a1, .ref (ad o)] : List Value).toArray = args at *
  generalize hAe : gA ad N s.heap.size = A
  have F : gF sa D ad cy N A p s m args cod cL_market 4 wsL_market RL := ⟨hx, hb, hml, hown, hts, hK, hI, by rw [← hAe]; exact gA_ad, by rw [← hAe]; exact gA_sz, by rw [← hAe]; exact hZ⟩
  have G : gW D ad cy N A s.heap c d0 s.heap [] := ⟨hP, va_S.rf⟩
  suffices hgen : ∀ (H : Heap) (locs : List Loc), gW D ad cy N A s.heap c d0 H locs → W p l e rmL_market s m args below meth cod H locs 0 0 (MQ below (va_Qi (fun (z : Int32) (_ : Unit) => z = rZ) (fun _ U => gE D ad cy N cZ d0 U) A) args s 1 6 A) (F0 m 0 ls []) from hgen _ _ G
  clear G
  intro H locs G
  unfold m_L_market at h
  obtain ⟨hk, h⟩ := gc_s h
  obtain ⟨hk2, h⟩ := gc_s h
  have ht : t < N := Nat.lt_of_lt_of_le (gck_lt9 hk) (Nat.le_trans (by decide) hN)
  have ht2 : o < N := Nat.lt_of_lt_of_le (gck_lt26 hk2) hN
  refine lv_aload_n hx hb dL_market_0 rfl (lv_at hl 2 rfl) ?_
  refine lv_iconst (v := 0) hx hb dL_market_1 (by decide) ?_
  refine lv_aload_n hx hb dL_market_2 rfl (lv_at hl 0 rfl) ?_
  refine lv_iload_n hx hb dL_market_3 rfl (lv_at hl 1 rfl) ?_
  rcases gbw_s h with ⟨⟨r1, c1⟩, hc, h⟩ | ⟨k1, c1, hc, h⟩
  · refine gx_calli F G (va_runV (As := [.int a1]) (rest := [.int 0, .ref (ad o)]) (gx_fix F) (c_X9_market l sa D ad cy N H.size (Nat.le_trans (by decide) hN) hI c d0 hc) (cwV 1 hts gL_market_X9_market rfl rfl rfl (by decide +kernel) ⟨by decide, by decide⟩) (gx_rec F G ht (gwe_9 hk) rfl) rfl rfl hl.1 rfl (lv_room (Nat.le_of_ble_eq_true rfl)) dL_market_4 ⟨by decide, by decide⟩) (fun H locs G => ?_)
    refine lv_i2l hx hb dL_market_7 rfl ?_
    refine gx_ls F G hk2 ht2 (n := 1) (by rw [gal26 hk2]) (by decide) dL_market_8 (fun H locs G => ?_)
    refine lv_goto (tgt := 15) hx hb dL_market_9 (by decide) ?_
    refine lv_iconst (v := 0) hx hb dL_market_15 (by decide) ?_
    cases h
    exact W.widen (k := 1) (n := 6) (by decide) (by decide) (gx_iret F G hr hlocks dL_market_16)
  · refine gx_xci F G (vx_runV (As := [.int a1]) (rest := [.int 0, .ref (ad o)]) (gx_fix F) (cx_X9_market l hlt sa D ad cy N H.size (Nat.le_trans (by decide) hN) hI c d0 hc) (cwV 1 hts gL_market_X9_market rfl rfl rfl (by decide +kernel) ⟨by decide, by decide⟩) (gx_rec F G ht (gwe_9 hk) rfl) rfl rfl hl.1 rfl (lv_room (Nat.le_of_ble_eq_true rfl)) dL_market_4 ⟨by decide, by decide⟩) (fun ce q9 H locs G hce hv hcl => ?_)
    by_cases hk1 : k1 = 1
    · replace h := gt_s hk1 h
      subst hk1
      refine vx_catch (E := "java/lang/IllegalArgumentException") (name := "java/lang/IllegalArgumentException") hown [] ⟨0, 9, 12, 13⟩ [] htab (fun z hz => nomatch hz) (by decide) (by decide) (hts (.classLink RL 13 "java/lang/IllegalArgumentException") (by decide +kernel)) (va_Nw.use rfl F.2.2.2.2.2.2.2.2.2.2.2.2.2.2.2.1.1) hce hv hcl ?_
      refine lv_astore_n (lv' := [(3, .ref q9), (0, .ref (ad t)), (1, .int a1), (2, .ref (ad o))]) hx hb dL_market_12 rfl hl (by decide) rfl (fun ls hl => ?_)
      refine lv_iconst (v := 1) hx hb dL_market_13 (by decide) ?_
      cases h
      exact gx_iret F G hr hlocks dL_market_14
    · replace h := gf_s hk1 h
      by_cases hk0 : k1 = 0
      · replace h := gt_s hk0 h
        subst hk0
        cases h
      · replace h := gf_s hk0 h
        cases h
def m_L_law (n : Nat) (t : Nat) (a1 : Int32) (o : Nat) (c : gm) : Option (Int32 × gm) :=
  gc (gck t = 9) (gc (gck o = 26) (gbw (m_X9_law n t a1 c) (fun (q : Int32 × gm) => some (0, gm_l q.2 o (vp_updL (q.2.2.1 o) (0 : Int32).toNatClampNeg q.1.toInt64))) (fun (k : Nat) (c1 : gm) => if k = 1 then some (1, c1) else if k = 0 then none else none)))
abbrev rmL_law : Room := { frames := 58, cells := 1, slots := 6, locals := 1367 }
set_option maxHeartbeats 4000000 in
set_option maxRecDepth 100000 in
theorem c_L_law (l : Launch) (hlt : l.stackTraces = false) (sa : gSa) (D : va_G) (ad : Nat → Nat) (cy : Nat → ClassId) (N sz : Nat) (hN : 531 ≤ N) (hI : gI ad N) (c d0 : gm) {n : Nat} {t : Nat} {a1 : Int32} {o : Nat} {rZ : Int32} {cZ : gm} (h : m_L_law n t a1 o c = some (rZ, cZ)) : Met l yL_law wsL_law rmL_law (va_Pc [.ref (ad t), .int a1, .ref (ad o)] (gP sa D ad cy N sz c d0)) (va_Qi (fun (z : Int32) (_ : Unit) => z = rZ) (fun _ U => gE D ad cy N cZ d0 U) (gA ad N sz)) 1 6 (gA ad N sz) := by
  refine va_MetW (cc := cL_law) (maxL := 4) (ret := (some .int)) (hh := [(0, 9, 12, 13)]) (by decide) rfl ?_
  intro p e s m args below meth cod s₁ B hml hv
  obtain ⟨rfl, hsz, hP, hK, hZ⟩ := hv
  have hx := B.exec
  have hb := B.bytes
  have hr := B.returns
  have hts := atoms_spec (ws := wsL_law) B.pre
  have htab := vx_table (x := yL_market) B (hts _ List.mem_cons_self)
  have hown : s.vm.findClass RL = some m.cls := findClass_of_methodNamed B.named
  have hlocks := B.notSynchronized
  subst hsz
  have hl := lv_entry ([.ref (ad t), .int a1, .ref (ad o)]) (n := 4) (Nat.le_of_ble_eq_true rfl)
  rw [lg_entry_eq]
  generalize (lg_sl ([.ref (ad t), .int a1, .ref (ad o)]) ++ List.replicate (4 - (lg_sl ([.ref (ad t), .int a1, .ref (ad o)])).length) Slot.unset).toArray = ls at hl ⊢
  have hl : lv_has ls 4 [(0, .ref (ad t)), (1, .int a1), (2, .ref (ad o))] := hl
  generalize hargs : ([.ref (ad t), .int a1, .ref (ad o)] : List Value).toArray = args at *
  generalize hAe : gA ad N s.heap.size = A
  have F : gF sa D ad cy N A p s m args cod cL_law 4 wsL_law RL := ⟨hx, hb, hml, hown, hts, hK, hI, by rw [← hAe]; exact gA_ad, by rw [← hAe]; exact gA_sz, by rw [← hAe]; exact hZ⟩
  have G : gW D ad cy N A s.heap c d0 s.heap [] := ⟨hP, va_S.rf⟩
  suffices hgen : ∀ (H : Heap) (locs : List Loc), gW D ad cy N A s.heap c d0 H locs → W p l e rmL_law s m args below meth cod H locs 0 0 (MQ below (va_Qi (fun (z : Int32) (_ : Unit) => z = rZ) (fun _ U => gE D ad cy N cZ d0 U) A) args s 1 6 A) (F0 m 0 ls []) from hgen _ _ G
  clear G
  intro H locs G
  unfold m_L_law at h
  obtain ⟨hk, h⟩ := gc_s h
  obtain ⟨hk2, h⟩ := gc_s h
  have ht : t < N := Nat.lt_of_lt_of_le (gck_lt9 hk) (Nat.le_trans (by decide) hN)
  have ht2 : o < N := Nat.lt_of_lt_of_le (gck_lt26 hk2) hN
  refine lv_aload_n hx hb dL_law_0 rfl (lv_at hl 2 rfl) ?_
  refine lv_iconst (v := 0) hx hb dL_law_1 (by decide) ?_
  refine lv_aload_n hx hb dL_law_2 rfl (lv_at hl 0 rfl) ?_
  refine lv_iload_n hx hb dL_law_3 rfl (lv_at hl 1 rfl) ?_
  rcases gbw_s h with ⟨⟨r1, c1⟩, hc, h⟩ | ⟨k1, c1, hc, h⟩
  · refine gx_calli F G (va_runV (As := [.int a1]) (rest := [.int 0, .ref (ad o)]) (gx_fix F) (c_X9_law l sa D ad cy N H.size (Nat.le_trans (by decide) hN) hI c d0 hc) (cwV 1 hts gL_law_X9_law rfl rfl rfl (by decide +kernel) ⟨by decide, by decide⟩) (gx_rec F G ht (gwe_9 hk) rfl) rfl rfl hl.1 rfl (lv_room (Nat.le_of_ble_eq_true rfl)) dL_law_4 ⟨by decide, by decide⟩) (fun H locs G => ?_)
    refine lv_i2l hx hb dL_law_7 rfl ?_
    refine gx_ls F G hk2 ht2 (n := 1) (by rw [gal26 hk2]) (by decide) dL_law_8 (fun H locs G => ?_)
    refine lv_goto (tgt := 15) hx hb dL_law_9 (by decide) ?_
    refine lv_iconst (v := 0) hx hb dL_law_15 (by decide) ?_
    cases h
    exact W.widen (k := 1) (n := 6) (by decide) (by decide) (gx_iret F G hr hlocks dL_law_16)
  · refine gx_xci F G (vx_runV (As := [.int a1]) (rest := [.int 0, .ref (ad o)]) (gx_fix F) (cx_X9_law l hlt sa D ad cy N H.size (Nat.le_trans (by decide) hN) hI c d0 hc) (cwV 1 hts gL_law_X9_law rfl rfl rfl (by decide +kernel) ⟨by decide, by decide⟩) (gx_rec F G ht (gwe_9 hk) rfl) rfl rfl hl.1 rfl (lv_room (Nat.le_of_ble_eq_true rfl)) dL_law_4 ⟨by decide, by decide⟩) (fun ce q9 H locs G hce hv hcl => ?_)
    by_cases hk1 : k1 = 1
    · replace h := gt_s hk1 h
      subst hk1
      refine vx_catch (E := "java/lang/IllegalArgumentException") (name := "java/lang/IllegalArgumentException") hown [] ⟨0, 9, 12, 13⟩ [] htab (fun z hz => nomatch hz) (by decide) (by decide) (hts (.classLink RL 13 "java/lang/IllegalArgumentException") (by decide +kernel)) (va_Nw.use rfl F.2.2.2.2.2.2.2.2.2.2.2.2.2.2.2.1.1) hce hv hcl ?_
      refine lv_astore_n (lv' := [(3, .ref q9), (0, .ref (ad t)), (1, .int a1), (2, .ref (ad o))]) hx hb dL_law_12 rfl hl (by decide) rfl (fun ls hl => ?_)
      refine lv_iconst (v := 1) hx hb dL_law_13 (by decide) ?_
      cases h
      exact gx_iret F G hr hlocks dL_law_14
    · replace h := gf_s hk1 h
      by_cases hk0 : k1 = 0
      · replace h := gt_s hk0 h
        subst hk0
        cases h
      · replace h := gf_s hk0 h
        cases h
def m_L_work (n : Nat) (t : Nat) (a1 : Int32) (o : Nat) (c : gm) : Option (Int32 × gm) :=
  gc (gck t = 9) (gc (gck o = 26) (gbw (m_X9_work n t a1 c) (fun (q : Int32 × gm) => some (0, gm_l q.2 o (vp_updL (q.2.2.1 o) (0 : Int32).toNatClampNeg q.1.toInt64))) (fun (k : Nat) (c1 : gm) => if k = 1 then some (1, c1) else if k = 0 then none else none)))
abbrev rmL_work : Room := { frames := 45, cells := 1, slots := 6, locals := 1071 }
set_option maxHeartbeats 4000000 in
set_option maxRecDepth 100000 in
theorem c_L_work (l : Launch) (hlt : l.stackTraces = false) (sa : gSa) (D : va_G) (ad : Nat → Nat) (cy : Nat → ClassId) (N sz : Nat) (hN : 531 ≤ N) (hI : gI ad N) (c d0 : gm) {n : Nat} {t : Nat} {a1 : Int32} {o : Nat} {rZ : Int32} {cZ : gm} (h : m_L_work n t a1 o c = some (rZ, cZ)) : Met l yL_work wsL_work rmL_work (va_Pc [.ref (ad t), .int a1, .ref (ad o)] (gP sa D ad cy N sz c d0)) (va_Qi (fun (z : Int32) (_ : Unit) => z = rZ) (fun _ U => gE D ad cy N cZ d0 U) (gA ad N sz)) 1 6 (gA ad N sz) := by
  refine va_MetW (cc := cL_work) (maxL := 4) (ret := (some .int)) (hh := [(0, 9, 12, 13)]) (by decide) rfl ?_
  intro p e s m args below meth cod s₁ B hml hv
  obtain ⟨rfl, hsz, hP, hK, hZ⟩ := hv
  have hx := B.exec
  have hb := B.bytes
  have hr := B.returns
  have hts := atoms_spec (ws := wsL_work) B.pre
  have htab := vx_table (x := yL_market) B (hts _ List.mem_cons_self)
  have hown : s.vm.findClass RL = some m.cls := findClass_of_methodNamed B.named
  have hlocks := B.notSynchronized
  subst hsz
  have hl := lv_entry ([.ref (ad t), .int a1, .ref (ad o)]) (n := 4) (Nat.le_of_ble_eq_true rfl)
  rw [lg_entry_eq]
  generalize (lg_sl ([.ref (ad t), .int a1, .ref (ad o)]) ++ List.replicate (4 - (lg_sl ([.ref (ad t), .int a1, .ref (ad o)])).length) Slot.unset).toArray = ls at hl ⊢
  have hl : lv_has ls 4 [(0, .ref (ad t)), (1, .int a1), (2, .ref (ad o))] := hl
  generalize hargs : ([.ref (ad t), .int a1, .ref (ad o)] : List Value).toArray = args at *
  generalize hAe : gA ad N s.heap.size = A
  have F : gF sa D ad cy N A p s m args cod cL_work 4 wsL_work RL := ⟨hx, hb, hml, hown, hts, hK, hI, by rw [← hAe]; exact gA_ad, by rw [← hAe]; exact gA_sz, by rw [← hAe]; exact hZ⟩
  have G : gW D ad cy N A s.heap c d0 s.heap [] := ⟨hP, va_S.rf⟩
  suffices hgen : ∀ (H : Heap) (locs : List Loc), gW D ad cy N A s.heap c d0 H locs → W p l e rmL_work s m args below meth cod H locs 0 0 (MQ below (va_Qi (fun (z : Int32) (_ : Unit) => z = rZ) (fun _ U => gE D ad cy N cZ d0 U) A) args s 1 6 A) (F0 m 0 ls []) from hgen _ _ G
  clear G
  intro H locs G
  unfold m_L_work at h
  obtain ⟨hk, h⟩ := gc_s h
  obtain ⟨hk2, h⟩ := gc_s h
  have ht : t < N := Nat.lt_of_lt_of_le (gck_lt9 hk) (Nat.le_trans (by decide) hN)
  have ht2 : o < N := Nat.lt_of_lt_of_le (gck_lt26 hk2) hN
  refine lv_aload_n hx hb dL_work_0 rfl (lv_at hl 2 rfl) ?_
  refine lv_iconst (v := 0) hx hb dL_work_1 (by decide) ?_
  refine lv_aload_n hx hb dL_work_2 rfl (lv_at hl 0 rfl) ?_
  refine lv_iload_n hx hb dL_work_3 rfl (lv_at hl 1 rfl) ?_
  rcases gbw_s h with ⟨⟨r1, c1⟩, hc, h⟩ | ⟨k1, c1, hc, h⟩
  · refine gx_calli F G (va_runV (As := [.int a1]) (rest := [.int 0, .ref (ad o)]) (gx_fix F) (c_X9_work l sa D ad cy N H.size (Nat.le_trans (by decide) hN) hI c d0 hc) (cwV 1 hts gL_work_X9_work rfl rfl rfl (by decide +kernel) ⟨by decide, by decide⟩) (gx_rec F G ht (gwe_9 hk) rfl) rfl rfl hl.1 rfl (lv_room (Nat.le_of_ble_eq_true rfl)) dL_work_4 ⟨by decide, by decide⟩) (fun H locs G => ?_)
    refine lv_i2l hx hb dL_work_7 rfl ?_
    refine gx_ls F G hk2 ht2 (n := 1) (by rw [gal26 hk2]) (by decide) dL_work_8 (fun H locs G => ?_)
    refine lv_goto (tgt := 15) hx hb dL_work_9 (by decide) ?_
    refine lv_iconst (v := 0) hx hb dL_work_15 (by decide) ?_
    cases h
    exact W.widen (k := 1) (n := 6) (by decide) (by decide) (gx_iret F G hr hlocks dL_work_16)
  · refine gx_xci F G (vx_runV (As := [.int a1]) (rest := [.int 0, .ref (ad o)]) (gx_fix F) (cx_X9_work l hlt sa D ad cy N H.size (Nat.le_trans (by decide) hN) hI c d0 hc) (cwV 1 hts gL_work_X9_work rfl rfl rfl (by decide +kernel) ⟨by decide, by decide⟩) (gx_rec F G ht (gwe_9 hk) rfl) rfl rfl hl.1 rfl (lv_room (Nat.le_of_ble_eq_true rfl)) dL_work_4 ⟨by decide, by decide⟩) (fun ce q9 H locs G hce hv hcl => ?_)
    by_cases hk1 : k1 = 1
    · replace h := gt_s hk1 h
      subst hk1
      refine vx_catch (E := "java/lang/IllegalArgumentException") (name := "java/lang/IllegalArgumentException") hown [] ⟨0, 9, 12, 13⟩ [] htab (fun z hz => nomatch hz) (by decide) (by decide) (hts (.classLink RL 13 "java/lang/IllegalArgumentException") (by decide +kernel)) (va_Nw.use rfl F.2.2.2.2.2.2.2.2.2.2.2.2.2.2.2.1.1) hce hv hcl ?_
      refine lv_astore_n (lv' := [(3, .ref q9), (0, .ref (ad t)), (1, .int a1), (2, .ref (ad o))]) hx hb dL_work_12 rfl hl (by decide) rfl (fun ls hl => ?_)
      refine lv_iconst (v := 1) hx hb dL_work_13 (by decide) ?_
      cases h
      exact gx_iret F G hr hlocks dL_work_14
    · replace h := gf_s hk1 h
      by_cases hk0 : k1 = 0
      · replace h := gt_s hk0 h
        subst hk0
        cases h
      · replace h := gf_s hk0 h
        cases h
def m_L_book (n : Nat) (t : Nat) (a1 : Int32) (o : Nat) (c : gm) : Option (Int32 × gm) :=
  gc (gck t = 9) (gc (gck o = 26) (gbw (m_X9_book n t a1 c) (fun (q : Int32 × gm) => some (0, gm_l q.2 o (vp_updL (q.2.2.1 o) (0 : Int32).toNatClampNeg q.1.toInt64))) (fun (k : Nat) (c1 : gm) => if k = 1 then some (1, c1) else if k = 0 then none else none)))
abbrev rmL_book : Room := { frames := 8, cells := 1, slots := 6, locals := 151 }
set_option maxHeartbeats 4000000 in
set_option maxRecDepth 100000 in
theorem c_L_book (l : Launch) (hlt : l.stackTraces = false) (sa : gSa) (D : va_G) (ad : Nat → Nat) (cy : Nat → ClassId) (N sz : Nat) (hN : 531 ≤ N) (hI : gI ad N) (c d0 : gm) {n : Nat} {t : Nat} {a1 : Int32} {o : Nat} {rZ : Int32} {cZ : gm} (h : m_L_book n t a1 o c = some (rZ, cZ)) : Met l yL_book wsL_book rmL_book (va_Pc [.ref (ad t), .int a1, .ref (ad o)] (gP sa D ad cy N sz c d0)) (va_Qi (fun (z : Int32) (_ : Unit) => z = rZ) (fun _ U => gE D ad cy N cZ d0 U) (gA ad N sz)) 1 6 (gA ad N sz) := by
  refine va_MetW (cc := cL_book) (maxL := 4) (ret := (some .int)) (hh := [(0, 9, 12, 13)]) (by decide) rfl ?_
  intro p e s m args below meth cod s₁ B hml hv
  obtain ⟨rfl, hsz, hP, hK, hZ⟩ := hv
  have hx := B.exec
  have hb := B.bytes
  have hr := B.returns
  have hts := atoms_spec (ws := wsL_book) B.pre
  have htab := vx_table (x := yL_market) B (hts _ List.mem_cons_self)
  have hown : s.vm.findClass RL = some m.cls := findClass_of_methodNamed B.named
  have hlocks := B.notSynchronized
  subst hsz
  have hl := lv_entry ([.ref (ad t), .int a1, .ref (ad o)]) (n := 4) (Nat.le_of_ble_eq_true rfl)
  rw [lg_entry_eq]
  generalize (lg_sl ([.ref (ad t), .int a1, .ref (ad o)]) ++ List.replicate (4 - (lg_sl ([.ref (ad t), .int a1, .ref (ad o)])).length) Slot.unset).toArray = ls at hl ⊢
  have hl : lv_has ls 4 [(0, .ref (ad t)), (1, .int a1), (2, .ref (ad o))] := hl
  generalize hargs : ([.ref (ad t), .int a1, .ref (ad o)] : List Value).toArray = args at *
  generalize hAe : gA ad N s.heap.size = A
  have F : gF sa D ad cy N A p s m args cod cL_book 4 wsL_book RL := ⟨hx, hb, hml, hown, hts, hK, hI, by rw [← hAe]; exact gA_ad, by rw [← hAe]; exact gA_sz, by rw [← hAe]; exact hZ⟩
  have G : gW D ad cy N A s.heap c d0 s.heap [] := ⟨hP, va_S.rf⟩
  suffices hgen : ∀ (H : Heap) (locs : List Loc), gW D ad cy N A s.heap c d0 H locs → W p l e rmL_book s m args below meth cod H locs 0 0 (MQ below (va_Qi (fun (z : Int32) (_ : Unit) => z = rZ) (fun _ U => gE D ad cy N cZ d0 U) A) args s 1 6 A) (F0 m 0 ls []) from hgen _ _ G
  clear G
  intro H locs G
  unfold m_L_book at h
  obtain ⟨hk, h⟩ := gc_s h
  obtain ⟨hk2, h⟩ := gc_s h
  have ht : t < N := Nat.lt_of_lt_of_le (gck_lt9 hk) (Nat.le_trans (by decide) hN)
  have ht2 : o < N := Nat.lt_of_lt_of_le (gck_lt26 hk2) hN
  refine lv_aload_n hx hb dL_book_0 rfl (lv_at hl 2 rfl) ?_
  refine lv_iconst (v := 0) hx hb dL_book_1 (by decide) ?_
  refine lv_aload_n hx hb dL_book_2 rfl (lv_at hl 0 rfl) ?_
  refine lv_iload_n hx hb dL_book_3 rfl (lv_at hl 1 rfl) ?_
  rcases gbw_s h with ⟨⟨r1, c1⟩, hc, h⟩ | ⟨k1, c1, hc, h⟩
  · refine gx_calli F G (va_runV (As := [.int a1]) (rest := [.int 0, .ref (ad o)]) (gx_fix F) (c_X9_book l sa D ad cy N H.size (Nat.le_trans (by decide) hN) hI c d0 hc) (cwV 1 hts gL_book_X9_book rfl rfl rfl (by decide +kernel) ⟨by decide, by decide⟩) (gx_rec F G ht (gwe_9 hk) rfl) rfl rfl hl.1 rfl (lv_room (Nat.le_of_ble_eq_true rfl)) dL_book_4 ⟨by decide, by decide⟩) (fun H locs G => ?_)
    refine lv_i2l hx hb dL_book_7 rfl ?_
    refine gx_ls F G hk2 ht2 (n := 1) (by rw [gal26 hk2]) (by decide) dL_book_8 (fun H locs G => ?_)
    refine lv_goto (tgt := 15) hx hb dL_book_9 (by decide) ?_
    refine lv_iconst (v := 0) hx hb dL_book_15 (by decide) ?_
    cases h
    exact W.widen (k := 1) (n := 6) (by decide) (by decide) (gx_iret F G hr hlocks dL_book_16)
  · refine gx_xci F G (vx_runV (As := [.int a1]) (rest := [.int 0, .ref (ad o)]) (gx_fix F) (cx_X9_book l hlt sa D ad cy N H.size (Nat.le_trans (by decide) hN) hI c d0 hc) (cwV 1 hts gL_book_X9_book rfl rfl rfl (by decide +kernel) ⟨by decide, by decide⟩) (gx_rec F G ht (gwe_9 hk) rfl) rfl rfl hl.1 rfl (lv_room (Nat.le_of_ble_eq_true rfl)) dL_book_4 ⟨by decide, by decide⟩) (fun ce q9 H locs G hce hv hcl => ?_)
    by_cases hk1 : k1 = 1
    · replace h := gt_s hk1 h
      subst hk1
      refine vx_catch (E := "java/lang/IllegalArgumentException") (name := "java/lang/IllegalArgumentException") hown [] ⟨0, 9, 12, 13⟩ [] htab (fun z hz => nomatch hz) (by decide) (by decide) (hts (.classLink RL 13 "java/lang/IllegalArgumentException") (by decide +kernel)) (va_Nw.use rfl F.2.2.2.2.2.2.2.2.2.2.2.2.2.2.2.1.1) hce hv hcl ?_
      refine lv_astore_n (lv' := [(3, .ref q9), (0, .ref (ad t)), (1, .int a1), (2, .ref (ad o))]) hx hb dL_book_12 rfl hl (by decide) rfl (fun ls hl => ?_)
      refine lv_iconst (v := 1) hx hb dL_book_13 (by decide) ?_
      cases h
      exact gx_iret F G hr hlocks dL_book_14
    · replace h := gf_s hk1 h
      by_cases hk0 : k1 = 0
      · replace h := gt_s hk0 h
        subst hk0
        cases h
      · replace h := gf_s hk0 h
        cases h
def m_L_told (n : Nat) (t : Nat) (a1 : Int32) (o : Nat) (c : gm) : Option (Int32 × gm) :=
  gc (gck t = 9) (gc (gck o = 26) (gbw (m_X9_told n t a1 c) (fun (q : Int32 × gm) => some (0, gm_l q.2 o (vp_updL (q.2.2.1 o) (0 : Int32).toNatClampNeg q.1.toInt64))) (fun (k : Nat) (c1 : gm) => if k = 1 then some (1, c1) else if k = 0 then none else none)))
abbrev rmL_told : Room := { frames := 8, cells := 1, slots := 6, locals := 132 }
set_option maxHeartbeats 4000000 in
set_option maxRecDepth 100000 in
theorem c_L_told (l : Launch) (hlt : l.stackTraces = false) (sa : gSa) (D : va_G) (ad : Nat → Nat) (cy : Nat → ClassId) (N sz : Nat) (hN : 531 ≤ N) (hI : gI ad N) (c d0 : gm) {n : Nat} {t : Nat} {a1 : Int32} {o : Nat} {rZ : Int32} {cZ : gm} (h : m_L_told n t a1 o c = some (rZ, cZ)) : Met l yL_told wsL_told rmL_told (va_Pc [.ref (ad t), .int a1, .ref (ad o)] (gP sa D ad cy N sz c d0)) (va_Qi (fun (z : Int32) (_ : Unit) => z = rZ) (fun _ U => gE D ad cy N cZ d0 U) (gA ad N sz)) 1 6 (gA ad N sz) := by
  refine va_MetW (cc := cL_told) (maxL := 4) (ret := (some .int)) (hh := [(0, 9, 12, 13)]) (by decide) rfl ?_
  intro p e s m args below meth cod s₁ B hml hv
  obtain ⟨rfl, hsz, hP, hK, hZ⟩ := hv
  have hx := B.exec
  have hb := B.bytes
  have hr := B.returns
  have hts := atoms_spec (ws := wsL_told) B.pre
  have htab := vx_table (x := yL_market) B (hts _ List.mem_cons_self)
  have hown : s.vm.findClass RL = some m.cls := findClass_of_methodNamed B.named
  have hlocks := B.notSynchronized
  subst hsz
  have hl := lv_entry ([.ref (ad t), .int a1, .ref (ad o)]) (n := 4) (Nat.le_of_ble_eq_true rfl)
  rw [lg_entry_eq]
  generalize (lg_sl ([.ref (ad t), .int a1, .ref (ad o)]) ++ List.replicate (4 - (lg_sl ([.ref (ad t), .int a1, .ref (ad o)])).length) Slot.unset).toArray = ls at hl ⊢
  have hl : lv_has ls 4 [(0, .ref (ad t)), (1, .int a1), (2, .ref (ad o))] := hl
  generalize hargs : ([.ref (ad t), .int a1, .ref (ad o)] : List Value).toArray = args at *
  generalize hAe : gA ad N s.heap.size = A
  have F : gF sa D ad cy N A p s m args cod cL_told 4 wsL_told RL := ⟨hx, hb, hml, hown, hts, hK, hI, by rw [← hAe]; exact gA_ad, by rw [← hAe]; exact gA_sz, by rw [← hAe]; exact hZ⟩
  have G : gW D ad cy N A s.heap c d0 s.heap [] := ⟨hP, va_S.rf⟩
  suffices hgen : ∀ (H : Heap) (locs : List Loc), gW D ad cy N A s.heap c d0 H locs → W p l e rmL_told s m args below meth cod H locs 0 0 (MQ below (va_Qi (fun (z : Int32) (_ : Unit) => z = rZ) (fun _ U => gE D ad cy N cZ d0 U) A) args s 1 6 A) (F0 m 0 ls []) from hgen _ _ G
  clear G
  intro H locs G
  unfold m_L_told at h
  obtain ⟨hk, h⟩ := gc_s h
  obtain ⟨hk2, h⟩ := gc_s h
  have ht : t < N := Nat.lt_of_lt_of_le (gck_lt9 hk) (Nat.le_trans (by decide) hN)
  have ht2 : o < N := Nat.lt_of_lt_of_le (gck_lt26 hk2) hN
  refine lv_aload_n hx hb dL_told_0 rfl (lv_at hl 2 rfl) ?_
  refine lv_iconst (v := 0) hx hb dL_told_1 (by decide) ?_
  refine lv_aload_n hx hb dL_told_2 rfl (lv_at hl 0 rfl) ?_
  refine lv_iload_n hx hb dL_told_3 rfl (lv_at hl 1 rfl) ?_
  rcases gbw_s h with ⟨⟨r1, c1⟩, hc, h⟩ | ⟨k1, c1, hc, h⟩
  · refine gx_calli F G (va_runV (As := [.int a1]) (rest := [.int 0, .ref (ad o)]) (gx_fix F) (c_X9_told l sa D ad cy N H.size (Nat.le_trans (by decide) hN) hI c d0 hc) (cwV 1 hts gL_told_X9_told rfl rfl rfl (by decide +kernel) ⟨by decide, by decide⟩) (gx_rec F G ht (gwe_9 hk) rfl) rfl rfl hl.1 rfl (lv_room (Nat.le_of_ble_eq_true rfl)) dL_told_4 ⟨by decide, by decide⟩) (fun H locs G => ?_)
    refine lv_i2l hx hb dL_told_7 rfl ?_
    refine gx_ls F G hk2 ht2 (n := 1) (by rw [gal26 hk2]) (by decide) dL_told_8 (fun H locs G => ?_)
    refine lv_goto (tgt := 15) hx hb dL_told_9 (by decide) ?_
    refine lv_iconst (v := 0) hx hb dL_told_15 (by decide) ?_
    cases h
    exact W.widen (k := 1) (n := 6) (by decide) (by decide) (gx_iret F G hr hlocks dL_told_16)
  · refine gx_xci F G (vx_runV (As := [.int a1]) (rest := [.int 0, .ref (ad o)]) (gx_fix F) (cx_X9_told l hlt sa D ad cy N H.size (Nat.le_trans (by decide) hN) hI c d0 hc) (cwV 1 hts gL_told_X9_told rfl rfl rfl (by decide +kernel) ⟨by decide, by decide⟩) (gx_rec F G ht (gwe_9 hk) rfl) rfl rfl hl.1 rfl (lv_room (Nat.le_of_ble_eq_true rfl)) dL_told_4 ⟨by decide, by decide⟩) (fun ce q9 H locs G hce hv hcl => ?_)
    by_cases hk1 : k1 = 1
    · replace h := gt_s hk1 h
      subst hk1
      refine vx_catch (E := "java/lang/IllegalArgumentException") (name := "java/lang/IllegalArgumentException") hown [] ⟨0, 9, 12, 13⟩ [] htab (fun z hz => nomatch hz) (by decide) (by decide) (hts (.classLink RL 13 "java/lang/IllegalArgumentException") (by decide +kernel)) (va_Nw.use rfl F.2.2.2.2.2.2.2.2.2.2.2.2.2.2.2.1.1) hce hv hcl ?_
      refine lv_astore_n (lv' := [(3, .ref q9), (0, .ref (ad t)), (1, .int a1), (2, .ref (ad o))]) hx hb dL_told_12 rfl hl (by decide) rfl (fun ls hl => ?_)
      refine lv_iconst (v := 1) hx hb dL_told_13 (by decide) ?_
      cases h
      exact gx_iret F G hr hlocks dL_told_14
    · replace h := gf_s hk1 h
      by_cases hk0 : k1 = 0
      · replace h := gt_s hk0 h
        subst hk0
        cases h
      · replace h := gf_s hk0 h
        cases h
def m_L_thing (n : Nat) (t : Nat) (a1 : Int32) (a2 : Int32) (o : Nat) (c : gm) : Option (Int32 × gm) :=
  gc (gck t = 9) (gc (gck o = 26) (gbw (m_X9_thing n t a1 a2 c) (fun (q : Int32 × gm) => some (0, gm_l q.2 o (vp_updL (q.2.2.1 o) (0 : Int32).toNatClampNeg q.1.toInt64))) (fun (k : Nat) (c1 : gm) => if k = 1 then some (2, c1) else if k = 0 then some (1, c1) else none)))
abbrev rmL_thing : Room := { frames := 9, cells := 1, slots := 6, locals := 154 }
set_option maxHeartbeats 4000000 in
set_option maxRecDepth 100000 in
theorem c_L_thing (l : Launch) (hlt : l.stackTraces = false) (sa : gSa) (D : va_G) (ad : Nat → Nat) (cy : Nat → ClassId) (N sz : Nat) (hN : 531 ≤ N) (hI : gI ad N) (c d0 : gm) {n : Nat} {t : Nat} {a1 : Int32} {a2 : Int32} {o : Nat} {rZ : Int32} {cZ : gm} (h : m_L_thing n t a1 a2 o c = some (rZ, cZ)) : Met l yL_thing wsL_thing rmL_thing (va_Pc [.ref (ad t), .int a1, .int a2, .ref (ad o)] (gP sa D ad cy N sz c d0)) (va_Qi (fun (z : Int32) (_ : Unit) => z = rZ) (fun _ U => gE D ad cy N cZ d0 U) (gA ad N sz)) 1 6 (gA ad N sz) := by
  refine va_MetW (cc := cL_thing) (maxL := 5) (ret := (some .int)) (hh := [(0, 10, 13, 31), (0, 10, 17, 13)]) (by decide) rfl ?_
  intro p e s m args below meth cod s₁ B hml hv
  obtain ⟨rfl, hsz, hP, hK, hZ⟩ := hv
  have hx := B.exec
  have hb := B.bytes
  have hr := B.returns
  have hts := atoms_spec (ws := wsL_thing) B.pre
  have htab := vx_table (x := yL_market) B (hts _ List.mem_cons_self)
  have hown : s.vm.findClass RL = some m.cls := findClass_of_methodNamed B.named
  have hlocks := B.notSynchronized
  subst hsz
  have hl := lv_entry ([.ref (ad t), .int a1, .int a2, .ref (ad o)]) (n := 5) (Nat.le_of_ble_eq_true rfl)
  rw [lg_entry_eq]
  generalize (lg_sl ([.ref (ad t), .int a1, .int a2, .ref (ad o)]) ++ List.replicate (5 - (lg_sl ([.ref (ad t), .int a1, .int a2, .ref (ad o)])).length) Slot.unset).toArray = ls at hl ⊢
  have hl : lv_has ls 5 [(0, .ref (ad t)), (1, .int a1), (2, .int a2), (3, .ref (ad o))] := hl
  generalize hargs : ([.ref (ad t), .int a1, .int a2, .ref (ad o)] : List Value).toArray = args at *
  generalize hAe : gA ad N s.heap.size = A
  have F : gF sa D ad cy N A p s m args cod cL_thing 5 wsL_thing RL := ⟨hx, hb, hml, hown, hts, hK, hI, by rw [← hAe]; exact gA_ad, by rw [← hAe]; exact gA_sz, by rw [← hAe]; exact hZ⟩
  have G : gW D ad cy N A s.heap c d0 s.heap [] := ⟨hP, va_S.rf⟩
  suffices hgen : ∀ (H : Heap) (locs : List Loc), gW D ad cy N A s.heap c d0 H locs → W p l e rmL_thing s m args below meth cod H locs 0 0 (MQ below (va_Qi (fun (z : Int32) (_ : Unit) => z = rZ) (fun _ U => gE D ad cy N cZ d0 U) A) args s 1 6 A) (F0 m 0 ls []) from hgen _ _ G
  clear G
  intro H locs G
  unfold m_L_thing at h
  obtain ⟨hk, h⟩ := gc_s h
  obtain ⟨hk2, h⟩ := gc_s h
  have ht : t < N := Nat.lt_of_lt_of_le (gck_lt9 hk) (Nat.le_trans (by decide) hN)
  have ht2 : o < N := Nat.lt_of_lt_of_le (gck_lt26 hk2) hN
  refine lv_aload_n hx hb dL_thing_0 rfl (lv_at hl 3 rfl) ?_
  refine lv_iconst (v := 0) hx hb dL_thing_1 (by decide) ?_
  refine lv_aload_n hx hb dL_thing_2 rfl (lv_at hl 0 rfl) ?_
  refine lv_iload_n hx hb dL_thing_3 rfl (lv_at hl 1 rfl) ?_
  refine lv_iload_n hx hb dL_thing_4 rfl (lv_at hl 2 rfl) ?_
  rcases gbw_s h with ⟨⟨r1, c1⟩, hc, h⟩ | ⟨k1, c1, hc, h⟩
  · refine gx_calli F G (va_runV (As := [.int a1, .int a2]) (rest := [.int 0, .ref (ad o)]) (gx_fix F) (c_X9_thing l sa D ad cy N H.size (Nat.le_trans (by decide) hN) hI c d0 hc) (cwV 2 hts gL_thing_X9_thing rfl rfl rfl (by decide +kernel) ⟨by decide, by decide⟩) (gx_rec F G ht (gwe_9 hk) rfl) rfl rfl hl.1 rfl (lv_room (Nat.le_of_ble_eq_true rfl)) dL_thing_5 ⟨by decide, by decide⟩) (fun H locs G => ?_)
    refine lv_i2l hx hb dL_thing_8 rfl ?_
    refine gx_ls F G hk2 ht2 (n := 1) (by rw [gal26 hk2]) (by decide) dL_thing_9 (fun H locs G => ?_)
    refine lv_goto (tgt := 21) hx hb dL_thing_10 (by decide) ?_
    refine lv_iconst (v := 0) hx hb dL_thing_21 (by decide) ?_
    cases h
    exact W.widen (k := 1) (n := 6) (by decide) (by decide) (gx_iret F G hr hlocks dL_thing_22)
  · refine gx_xci F G (vx_runV (As := [.int a1, .int a2]) (rest := [.int 0, .ref (ad o)]) (gx_fix F) (cx_X9_thing l hlt sa D ad cy N H.size (Nat.le_trans (by decide) hN) hI c d0 hc) (cwV 2 hts gL_thing_X9_thing rfl rfl rfl (by decide +kernel) ⟨by decide, by decide⟩) (gx_rec F G ht (gwe_9 hk) rfl) rfl rfl hl.1 rfl (lv_room (Nat.le_of_ble_eq_true rfl)) dL_thing_5 ⟨by decide, by decide⟩) (fun ce q9 H locs G hce hv hcl => ?_)
    by_cases hk1 : k1 = 1
    · replace h := gt_s hk1 h
      subst hk1
      refine vx_catch (E := "java/lang/IllegalArgumentException") (name := "java/lang/IllegalArgumentException") hown [⟨0, 10, 13, 31⟩] ⟨0, 10, 17, 13⟩ [] htab (fun z hz => by rw [List.mem_singleton.mp hz]; exact Or.inr ⟨by decide, "java/util/NoSuchElementException", hts (.classLink RL 31 "java/util/NoSuchElementException") (by decide +kernel), F.2.2.2.2.2.2.2.2.2.2.2.2.2.2.2.2⟩) (by decide) (by decide) (hts (.classLink RL 13 "java/lang/IllegalArgumentException") (by decide +kernel)) (va_Nw.use rfl F.2.2.2.2.2.2.2.2.2.2.2.2.2.2.2.1.1) hce hv hcl ?_
      refine lv_astore (lv' := [(4, .ref q9), (0, .ref (ad t)), (1, .int a1), (2, .int a2), (3, .ref (ad o))]) hx hb dL_thing_17 hl (by decide) rfl (fun ls hl => ?_)
      refine lv_iconst (v := 2) hx hb dL_thing_19 (by decide) ?_
      cases h
      exact gx_iret F G hr hlocks dL_thing_20
    · replace h := gf_s hk1 h
      by_cases hk0 : k1 = 0
      · replace h := gt_s hk0 h
        subst hk0
        refine vx_catch (E := "java/util/NoSuchElementException") (name := "java/util/NoSuchElementException") hown [] ⟨0, 10, 13, 31⟩ [⟨0, 10, 17, 13⟩] htab (fun z hz => nomatch hz) (by decide) (by decide) (hts (.classLink RL 31 "java/util/NoSuchElementException") (by decide +kernel)) (va_Nw.use rfl F.2.2.2.2.2.2.2.2.2.2.2.2.2.2.2.1.2) hce hv hcl ?_
        refine lv_astore (lv' := [(4, .ref q9), (0, .ref (ad t)), (1, .int a1), (2, .int a2), (3, .ref (ad o))]) hx hb dL_thing_13 hl (by decide) rfl (fun ls hl => ?_)
        refine lv_iconst (v := 1) hx hb dL_thing_15 (by decide) ?_
        cases h
        exact gx_iret F G hr hlocks dL_thing_16
      · replace h := gf_s hk0 h
        cases h
def m_L_cry (t : Nat) (a1 : Int32) (a2 : Int32) (o : Nat) (c : gm) : Option (Int32 × gm) :=
  gc (gck t = 9) (gc (gck o = 26) (gbw (m_X9_cry t a1 a2 c) (fun (q : Int32 × gm) => some (0, gm_l q.2 o (vp_updL (q.2.2.1 o) (0 : Int32).toNatClampNeg q.1.toInt64))) (fun (k : Nat) (c1 : gm) => if k = 1 then some (2, c1) else if k = 0 then some (1, c1) else none)))
abbrev rmL_cry : Room := { frames := 8, cells := 1, slots := 6, locals := 133 }
set_option maxHeartbeats 4000000 in
set_option maxRecDepth 100000 in
theorem c_L_cry (l : Launch) (hlt : l.stackTraces = false) (sa : gSa) (D : va_G) (ad : Nat → Nat) (cy : Nat → ClassId) (N sz : Nat) (hN : 531 ≤ N) (hI : gI ad N) (c d0 : gm) {t : Nat} {a1 : Int32} {a2 : Int32} {o : Nat} {rZ : Int32} {cZ : gm} (h : m_L_cry t a1 a2 o c = some (rZ, cZ)) : Met l yL_cry wsL_cry rmL_cry (va_Pc [.ref (ad t), .int a1, .int a2, .ref (ad o)] (gP sa D ad cy N sz c d0)) (va_Qi (fun (z : Int32) (_ : Unit) => z = rZ) (fun _ U => gE D ad cy N cZ d0 U) (gA ad N sz)) 1 6 (gA ad N sz) := by
  refine va_MetW (cc := cL_cry) (maxL := 5) (ret := (some .int)) (hh := [(0, 10, 13, 31), (0, 10, 17, 13)]) (by decide) rfl ?_
  intro p e s m args below meth cod s₁ B hml hv
  obtain ⟨rfl, hsz, hP, hK, hZ⟩ := hv
  have hx := B.exec
  have hb := B.bytes
  have hr := B.returns
  have hts := atoms_spec (ws := wsL_cry) B.pre
  have htab := vx_table (x := yL_market) B (hts _ List.mem_cons_self)
  have hown : s.vm.findClass RL = some m.cls := findClass_of_methodNamed B.named
  have hlocks := B.notSynchronized
  subst hsz
  have hl := lv_entry ([.ref (ad t), .int a1, .int a2, .ref (ad o)]) (n := 5) (Nat.le_of_ble_eq_true rfl)
  rw [lg_entry_eq]
  generalize (lg_sl ([.ref (ad t), .int a1, .int a2, .ref (ad o)]) ++ List.replicate (5 - (lg_sl ([.ref (ad t), .int a1, .int a2, .ref (ad o)])).length) Slot.unset).toArray = ls at hl ⊢
  have hl : lv_has ls 5 [(0, .ref (ad t)), (1, .int a1), (2, .int a2), (3, .ref (ad o))] := hl
  generalize hargs : ([.ref (ad t), .int a1, .int a2, .ref (ad o)] : List Value).toArray = args at *
  generalize hAe : gA ad N s.heap.size = A
  have F : gF sa D ad cy N A p s m args cod cL_cry 5 wsL_cry RL := ⟨hx, hb, hml, hown, hts, hK, hI, by rw [← hAe]; exact gA_ad, by rw [← hAe]; exact gA_sz, by rw [← hAe]; exact hZ⟩
  have G : gW D ad cy N A s.heap c d0 s.heap [] := ⟨hP, va_S.rf⟩
  suffices hgen : ∀ (H : Heap) (locs : List Loc), gW D ad cy N A s.heap c d0 H locs → W p l e rmL_cry s m args below meth cod H locs 0 0 (MQ below (va_Qi (fun (z : Int32) (_ : Unit) => z = rZ) (fun _ U => gE D ad cy N cZ d0 U) A) args s 1 6 A) (F0 m 0 ls []) from hgen _ _ G
  clear G
  intro H locs G
  unfold m_L_cry at h
  obtain ⟨hk, h⟩ := gc_s h
  obtain ⟨hk2, h⟩ := gc_s h
  have ht : t < N := Nat.lt_of_lt_of_le (gck_lt9 hk) (Nat.le_trans (by decide) hN)
  have ht2 : o < N := Nat.lt_of_lt_of_le (gck_lt26 hk2) hN
  refine lv_aload_n hx hb dL_cry_0 rfl (lv_at hl 3 rfl) ?_
  refine lv_iconst (v := 0) hx hb dL_cry_1 (by decide) ?_
  refine lv_aload_n hx hb dL_cry_2 rfl (lv_at hl 0 rfl) ?_
  refine lv_iload_n hx hb dL_cry_3 rfl (lv_at hl 1 rfl) ?_
  refine lv_iload_n hx hb dL_cry_4 rfl (lv_at hl 2 rfl) ?_
  rcases gbw_s h with ⟨⟨r1, c1⟩, hc, h⟩ | ⟨k1, c1, hc, h⟩
  · refine gx_calli F G (va_runV (As := [.int a1, .int a2]) (rest := [.int 0, .ref (ad o)]) (gx_fix F) (c_X9_cry l sa D ad cy N H.size (Nat.le_trans (by decide) hN) hI c d0 hc) (cwV 2 hts gL_cry_X9_cry rfl rfl rfl (by decide +kernel) ⟨by decide, by decide⟩) (gx_rec F G ht (gwe_9 hk) rfl) rfl rfl hl.1 rfl (lv_room (Nat.le_of_ble_eq_true rfl)) dL_cry_5 ⟨by decide, by decide⟩) (fun H locs G => ?_)
    refine lv_i2l hx hb dL_cry_8 rfl ?_
    refine gx_ls F G hk2 ht2 (n := 1) (by rw [gal26 hk2]) (by decide) dL_cry_9 (fun H locs G => ?_)
    refine lv_goto (tgt := 21) hx hb dL_cry_10 (by decide) ?_
    refine lv_iconst (v := 0) hx hb dL_cry_21 (by decide) ?_
    cases h
    exact W.widen (k := 1) (n := 6) (by decide) (by decide) (gx_iret F G hr hlocks dL_cry_22)
  · refine gx_xci F G (vx_runV (As := [.int a1, .int a2]) (rest := [.int 0, .ref (ad o)]) (gx_fix F) (cx_X9_cry l hlt sa D ad cy N H.size (Nat.le_trans (by decide) hN) hI c d0 hc) (cwV 2 hts gL_cry_X9_cry rfl rfl rfl (by decide +kernel) ⟨by decide, by decide⟩) (gx_rec F G ht (gwe_9 hk) rfl) rfl rfl hl.1 rfl (lv_room (Nat.le_of_ble_eq_true rfl)) dL_cry_5 ⟨by decide, by decide⟩) (fun ce q9 H locs G hce hv hcl => ?_)
    by_cases hk1 : k1 = 1
    · replace h := gt_s hk1 h
      subst hk1
      refine vx_catch (E := "java/lang/IllegalArgumentException") (name := "java/lang/IllegalArgumentException") hown [⟨0, 10, 13, 31⟩] ⟨0, 10, 17, 13⟩ [] htab (fun z hz => by rw [List.mem_singleton.mp hz]; exact Or.inr ⟨by decide, "java/util/NoSuchElementException", hts (.classLink RL 31 "java/util/NoSuchElementException") (by decide +kernel), F.2.2.2.2.2.2.2.2.2.2.2.2.2.2.2.2⟩) (by decide) (by decide) (hts (.classLink RL 13 "java/lang/IllegalArgumentException") (by decide +kernel)) (va_Nw.use rfl F.2.2.2.2.2.2.2.2.2.2.2.2.2.2.2.1.1) hce hv hcl ?_
      refine lv_astore (lv' := [(4, .ref q9), (0, .ref (ad t)), (1, .int a1), (2, .int a2), (3, .ref (ad o))]) hx hb dL_cry_17 hl (by decide) rfl (fun ls hl => ?_)
      refine lv_iconst (v := 2) hx hb dL_cry_19 (by decide) ?_
      cases h
      exact gx_iret F G hr hlocks dL_cry_20
    · replace h := gf_s hk1 h
      by_cases hk0 : k1 = 0
      · replace h := gt_s hk0 h
        subst hk0
        refine vx_catch (E := "java/util/NoSuchElementException") (name := "java/util/NoSuchElementException") hown [] ⟨0, 10, 13, 31⟩ [⟨0, 10, 17, 13⟩] htab (fun z hz => nomatch hz) (by decide) (by decide) (hts (.classLink RL 31 "java/util/NoSuchElementException") (by decide +kernel)) (va_Nw.use rfl F.2.2.2.2.2.2.2.2.2.2.2.2.2.2.2.1.2) hce hv hcl ?_
        refine lv_astore (lv' := [(4, .ref q9), (0, .ref (ad t)), (1, .int a1), (2, .int a2), (3, .ref (ad o))]) hx hb dL_cry_13 hl (by decide) rfl (fun ls hl => ?_)
        refine lv_iconst (v := 1) hx hb dL_cry_15 (by decide) ?_
        cases h
        exact gx_iret F G hr hlocks dL_cry_16
      · replace h := gf_s hk0 h
        cases h
def m_L_stands (t : Nat) (a1 : Int32) (a2 : Int32) (a3 : Int32) (a4 : Int32) (o : Nat) (c : gm) : Option (Int32 × gm) :=
  gc (gck t = 9) (gc (gck o = 26) (gbw (m_X9_stands t a1 a2 a3 a4 c) (fun (q : Int32 × gm) => some (0, gm_l q.2 o (vp_updL (q.2.2.1 o) (0 : Int32).toNatClampNeg q.1.toInt64))) (fun (k : Nat) (c1 : gm) => if k = 1 then some (2, c1) else if k = 0 then some (1, c1) else none)))
abbrev rmL_stands : Room := { frames := 9, cells := 1, slots := 6, locals := 156 }
set_option maxHeartbeats 4000000 in
set_option maxRecDepth 100000 in
theorem c_L_stands (l : Launch) (hlt : l.stackTraces = false) (sa : gSa) (D : va_G) (ad : Nat → Nat) (cy : Nat → ClassId) (N sz : Nat) (hN : 531 ≤ N) (hI : gI ad N) (c d0 : gm) {t : Nat} {a1 : Int32} {a2 : Int32} {a3 : Int32} {a4 : Int32} {o : Nat} {rZ : Int32} {cZ : gm} (h : m_L_stands t a1 a2 a3 a4 o c = some (rZ, cZ)) : Met l yL_stands wsL_stands rmL_stands (va_Pc [.ref (ad t), .int a1, .int a2, .int a3, .int a4, .ref (ad o)] (gP sa D ad cy N sz c d0)) (va_Qi (fun (z : Int32) (_ : Unit) => z = rZ) (fun _ U => gE D ad cy N cZ d0 U) (gA ad N sz)) 1 6 (gA ad N sz) := by
  refine va_MetW (cc := cL_stands) (maxL := 7) (ret := (some .int)) (hh := [(0, 14, 17, 31), (0, 14, 21, 13)]) (by decide) rfl ?_
  intro p e s m args below meth cod s₁ B hml hv
  obtain ⟨rfl, hsz, hP, hK, hZ⟩ := hv
  have hx := B.exec
  have hb := B.bytes
  have hr := B.returns
  have hts := atoms_spec (ws := wsL_stands) B.pre
  have htab := vx_table (x := yL_market) B (hts _ List.mem_cons_self)
  have hown : s.vm.findClass RL = some m.cls := findClass_of_methodNamed B.named
  have hlocks := B.notSynchronized
  subst hsz
  have hl := lv_entry ([.ref (ad t), .int a1, .int a2, .int a3, .int a4, .ref (ad o)]) (n := 7) (Nat.le_of_ble_eq_true rfl)
  rw [lg_entry_eq]
  generalize (lg_sl ([.ref (ad t), .int a1, .int a2, .int a3, .int a4, .ref (ad o)]) ++ List.replicate (7 - (lg_sl ([.ref (ad t), .int a1, .int a2, .int a3, .int a4, .ref (ad o)])).length) Slot.unset).toArray = ls at hl ⊢
  have hl : lv_has ls 7 [(0, .ref (ad t)), (1, .int a1), (2, .int a2), (3, .int a3), (4, .int a4), (5, .ref (ad o))] := hl
  generalize hargs : ([.ref (ad t), .int a1, .int a2, .int a3, .int a4, .ref (ad o)] : List Value).toArray = args at *
  generalize hAe : gA ad N s.heap.size = A
  have F : gF sa D ad cy N A p s m args cod cL_stands 7 wsL_stands RL := ⟨hx, hb, hml, hown, hts, hK, hI, by rw [← hAe]; exact gA_ad, by rw [← hAe]; exact gA_sz, by rw [← hAe]; exact hZ⟩
  have G : gW D ad cy N A s.heap c d0 s.heap [] := ⟨hP, va_S.rf⟩
  suffices hgen : ∀ (H : Heap) (locs : List Loc), gW D ad cy N A s.heap c d0 H locs → W p l e rmL_stands s m args below meth cod H locs 0 0 (MQ below (va_Qi (fun (z : Int32) (_ : Unit) => z = rZ) (fun _ U => gE D ad cy N cZ d0 U) A) args s 1 6 A) (F0 m 0 ls []) from hgen _ _ G
  clear G
  intro H locs G
  unfold m_L_stands at h
  obtain ⟨hk, h⟩ := gc_s h
  obtain ⟨hk2, h⟩ := gc_s h
  have ht : t < N := Nat.lt_of_lt_of_le (gck_lt9 hk) (Nat.le_trans (by decide) hN)
  have ht2 : o < N := Nat.lt_of_lt_of_le (gck_lt26 hk2) hN
  refine lv_aload hx hb dL_stands_0 (lv_at hl 5 rfl) ?_
  refine lv_iconst (v := 0) hx hb dL_stands_2 (by decide) ?_
  refine lv_aload_n hx hb dL_stands_3 rfl (lv_at hl 0 rfl) ?_
  refine lv_iload_n hx hb dL_stands_4 rfl (lv_at hl 1 rfl) ?_
  refine lv_iload_n hx hb dL_stands_5 rfl (lv_at hl 2 rfl) ?_
  refine lv_iload_n hx hb dL_stands_6 rfl (lv_at hl 3 rfl) ?_
  refine lv_iload hx hb dL_stands_7 (lv_at hl 4 rfl) ?_
  rcases gbw_s h with ⟨⟨r1, c1⟩, hc, h⟩ | ⟨k1, c1, hc, h⟩
  · refine gx_calli F G (va_runV (As := [.int a1, .int a2, .int a3, .int a4]) (rest := [.int 0, .ref (ad o)]) (gx_fix F) (c_X9_stands l sa D ad cy N H.size (Nat.le_trans (by decide) hN) hI c d0 hc) (cwV 4 hts gL_stands_X9_stands rfl rfl rfl (by decide +kernel) ⟨by decide, by decide⟩) (gx_rec F G ht (gwe_9 hk) rfl) rfl rfl hl.1 rfl (lv_room (Nat.le_of_ble_eq_true rfl)) dL_stands_9 ⟨by decide, by decide⟩) (fun H locs G => ?_)
    refine lv_i2l hx hb dL_stands_12 rfl ?_
    refine gx_ls F G hk2 ht2 (n := 1) (by rw [gal26 hk2]) (by decide) dL_stands_13 (fun H locs G => ?_)
    refine lv_goto (tgt := 25) hx hb dL_stands_14 (by decide) ?_
    refine lv_iconst (v := 0) hx hb dL_stands_25 (by decide) ?_
    cases h
    exact W.widen (k := 1) (n := 6) (by decide) (by decide) (gx_iret F G hr hlocks dL_stands_26)
  · refine gx_xci F G (vx_runV (As := [.int a1, .int a2, .int a3, .int a4]) (rest := [.int 0, .ref (ad o)]) (gx_fix F) (cx_X9_stands l hlt sa D ad cy N H.size (Nat.le_trans (by decide) hN) hI c d0 hc) (cwV 4 hts gL_stands_X9_stands rfl rfl rfl (by decide +kernel) ⟨by decide, by decide⟩) (gx_rec F G ht (gwe_9 hk) rfl) rfl rfl hl.1 rfl (lv_room (Nat.le_of_ble_eq_true rfl)) dL_stands_9 ⟨by decide, by decide⟩) (fun ce q9 H locs G hce hv hcl => ?_)
    by_cases hk1 : k1 = 1
    · replace h := gt_s hk1 h
      subst hk1
      refine vx_catch (E := "java/lang/IllegalArgumentException") (name := "java/lang/IllegalArgumentException") hown [⟨0, 14, 17, 31⟩] ⟨0, 14, 21, 13⟩ [] htab (fun z hz => by rw [List.mem_singleton.mp hz]; exact Or.inr ⟨by decide, "java/util/NoSuchElementException", hts (.classLink RL 31 "java/util/NoSuchElementException") (by decide +kernel), F.2.2.2.2.2.2.2.2.2.2.2.2.2.2.2.2⟩) (by decide) (by decide) (hts (.classLink RL 13 "java/lang/IllegalArgumentException") (by decide +kernel)) (va_Nw.use rfl F.2.2.2.2.2.2.2.2.2.2.2.2.2.2.2.1.1) hce hv hcl ?_
      refine lv_astore (lv' := [(6, .ref q9), (0, .ref (ad t)), (1, .int a1), (2, .int a2), (3, .int a3), (4, .int a4), (5, .ref (ad o))]) hx hb dL_stands_21 hl (by decide) rfl (fun ls hl => ?_)
      refine lv_iconst (v := 2) hx hb dL_stands_23 (by decide) ?_
      cases h
      exact gx_iret F G hr hlocks dL_stands_24
    · replace h := gf_s hk1 h
      by_cases hk0 : k1 = 0
      · replace h := gt_s hk0 h
        subst hk0
        refine vx_catch (E := "java/util/NoSuchElementException") (name := "java/util/NoSuchElementException") hown [] ⟨0, 14, 17, 31⟩ [⟨0, 14, 21, 13⟩] htab (fun z hz => nomatch hz) (by decide) (by decide) (hts (.classLink RL 31 "java/util/NoSuchElementException") (by decide +kernel)) (va_Nw.use rfl F.2.2.2.2.2.2.2.2.2.2.2.2.2.2.2.1.2) hce hv hcl ?_
        refine lv_astore (lv' := [(6, .ref q9), (0, .ref (ad t)), (1, .int a1), (2, .int a2), (3, .int a3), (4, .int a4), (5, .ref (ad o))]) hx hb dL_stands_17 hl (by decide) rfl (fun ls hl => ?_)
        refine lv_iconst (v := 1) hx hb dL_stands_19 (by decide) ?_
        cases h
        exact gx_iret F G hr hlocks dL_stands_20
      · replace h := gf_s hk0 h
        cases h
def m_L_would (n : Nat) (t : Nat) (a1 : Int32) (a2 : Int32) (a3 : Int32) (a4 : Int32) (a5 : Int32) (a6 : Int32) (a7 : Int32) (o : Nat) (c : gm) : Option (Int32 × gm) :=
  gc (gck t = 9) (gc (gck o = 26) (gbw (m_X9_would n t a1 a2 a3 a4 a5 a6 a7 c) (fun (q : Int32 × gm) => some (0, gm_l q.2 o (vp_updL (q.2.2.1 o) (0 : Int32).toNatClampNeg q.1.toInt64))) (fun (k : Nat) (c1 : gm) => if k = 1 then some (1, c1) else if k = 0 then none else none)))
abbrev rmL_would : Room := { frames := 8, cells := 1, slots := 6, locals := 138 }
set_option maxHeartbeats 4000000 in
set_option maxRecDepth 100000 in
theorem c_L_would (l : Launch) (hlt : l.stackTraces = false) (sa : gSa) (D : va_G) (ad : Nat → Nat) (cy : Nat → ClassId) (N sz : Nat) (hN : 531 ≤ N) (hI : gI ad N) (c d0 : gm) {n : Nat} {t : Nat} {a1 : Int32} {a2 : Int32} {a3 : Int32} {a4 : Int32} {a5 : Int32} {a6 : Int32} {a7 : Int32} {o : Nat} {rZ : Int32} {cZ : gm} (h : m_L_would n t a1 a2 a3 a4 a5 a6 a7 o c = some (rZ, cZ)) : Met l yL_would wsL_would rmL_would (va_Pc [.ref (ad t), .int a1, .int a2, .int a3, .int a4, .int a5, .int a6, .int a7, .ref (ad o)] (gP sa D ad cy N sz c d0)) (va_Qi (fun (z : Int32) (_ : Unit) => z = rZ) (fun _ U => gE D ad cy N cZ d0 U) (gA ad N sz)) 1 6 (gA ad N sz) := by
  refine va_MetW (cc := cL_would) (maxL := 10) (ret := (some .int)) (hh := [(0, 20, 23, 13)]) (by decide) rfl ?_
  intro p e s m args below meth cod s₁ B hml hv
  obtain ⟨rfl, hsz, hP, hK, hZ⟩ := hv
  have hx := B.exec
  have hb := B.bytes
  have hr := B.returns
  have hts := atoms_spec (ws := wsL_would) B.pre
  have htab := vx_table (x := yL_market) B (hts _ List.mem_cons_self)
  have hown : s.vm.findClass RL = some m.cls := findClass_of_methodNamed B.named
  have hlocks := B.notSynchronized
  subst hsz
  have hl := lv_entry ([.ref (ad t), .int a1, .int a2, .int a3, .int a4, .int a5, .int a6, .int a7, .ref (ad o)]) (n := 10) (Nat.le_of_ble_eq_true rfl)
  rw [lg_entry_eq]
  generalize (lg_sl ([.ref (ad t), .int a1, .int a2, .int a3, .int a4, .int a5, .int a6, .int a7, .ref (ad o)]) ++ List.replicate (10 - (lg_sl ([.ref (ad t), .int a1, .int a2, .int a3, .int a4, .int a5, .int a6, .int a7, .ref (ad o)])).length) Slot.unset).toArray = ls at hl ⊢
  have hl : lv_has ls 10 [(0, .ref (ad t)), (1, .int a1), (2, .int a2), (3, .int a3), (4, .int a4), (5, .int a5), (6, .int a6), (7, .int a7), (8, .ref (ad o))] := hl
  generalize hargs : ([.ref (ad t), .int a1, .int a2, .int a3, .int a4, .int a5, .int a6, .int a7, .ref (ad o)] : List Value).toArray = args at *
  generalize hAe : gA ad N s.heap.size = A
  have F : gF sa D ad cy N A p s m args cod cL_would 10 wsL_would RL := ⟨hx, hb, hml, hown, hts, hK, hI, by rw [← hAe]; exact gA_ad, by rw [← hAe]; exact gA_sz, by rw [← hAe]; exact hZ⟩
  have G : gW D ad cy N A s.heap c d0 s.heap [] := ⟨hP, va_S.rf⟩
  suffices hgen : ∀ (H : Heap) (locs : List Loc), gW D ad cy N A s.heap c d0 H locs → W p l e rmL_would s m args below meth cod H locs 0 0 (MQ below (va_Qi (fun (z : Int32) (_ : Unit) => z = rZ) (fun _ U => gE D ad cy N cZ d0 U) A) args s 1 6 A) (F0 m 0 ls []) from hgen _ _ G
  clear G
  intro H locs G
  unfold m_L_would at h
  obtain ⟨hk, h⟩ := gc_s h
  obtain ⟨hk2, h⟩ := gc_s h
  have ht : t < N := Nat.lt_of_lt_of_le (gck_lt9 hk) (Nat.le_trans (by decide) hN)
  have ht2 : o < N := Nat.lt_of_lt_of_le (gck_lt26 hk2) hN
  refine lv_aload hx hb dL_would_0 (lv_at hl 8 rfl) ?_
  refine lv_iconst (v := 0) hx hb dL_would_2 (by decide) ?_
  refine lv_aload_n hx hb dL_would_3 rfl (lv_at hl 0 rfl) ?_
  refine lv_iload_n hx hb dL_would_4 rfl (lv_at hl 1 rfl) ?_
  refine lv_iload_n hx hb dL_would_5 rfl (lv_at hl 2 rfl) ?_
  refine lv_iload_n hx hb dL_would_6 rfl (lv_at hl 3 rfl) ?_
  refine lv_iload hx hb dL_would_7 (lv_at hl 4 rfl) ?_
  refine lv_iload hx hb dL_would_9 (lv_at hl 5 rfl) ?_
  refine lv_iload hx hb dL_would_11 (lv_at hl 6 rfl) ?_
  refine lv_iload hx hb dL_would_13 (lv_at hl 7 rfl) ?_
  rcases gbw_s h with ⟨⟨r1, c1⟩, hc, h⟩ | ⟨k1, c1, hc, h⟩
  · refine gx_calli F G (va_runV (As := [.int a1, .int a2, .int a3, .int a4, .int a5, .int a6, .int a7]) (rest := [.int 0, .ref (ad o)]) (gx_fix F) (c_X9_would l sa D ad cy N H.size (Nat.le_trans (by decide) hN) hI c d0 hc) (cwV 7 hts gL_would_X9_would rfl rfl rfl (by decide +kernel) ⟨by decide, by decide⟩) (gx_rec F G ht (gwe_9 hk) rfl) rfl rfl hl.1 rfl (lv_room (Nat.le_of_ble_eq_true rfl)) dL_would_15 ⟨by decide, by decide⟩) (fun H locs G => ?_)
    refine lv_i2l hx hb dL_would_18 rfl ?_
    refine gx_ls F G hk2 ht2 (n := 1) (by rw [gal26 hk2]) (by decide) dL_would_19 (fun H locs G => ?_)
    refine lv_goto (tgt := 27) hx hb dL_would_20 (by decide) ?_
    refine lv_iconst (v := 0) hx hb dL_would_27 (by decide) ?_
    cases h
    exact W.widen (k := 1) (n := 6) (by decide) (by decide) (gx_iret F G hr hlocks dL_would_28)
  · refine gx_xci F G (vx_runV (As := [.int a1, .int a2, .int a3, .int a4, .int a5, .int a6, .int a7]) (rest := [.int 0, .ref (ad o)]) (gx_fix F) (cx_X9_would l hlt sa D ad cy N H.size (Nat.le_trans (by decide) hN) hI c d0 hc) (cwV 7 hts gL_would_X9_would rfl rfl rfl (by decide +kernel) ⟨by decide, by decide⟩) (gx_rec F G ht (gwe_9 hk) rfl) rfl rfl hl.1 rfl (lv_room (Nat.le_of_ble_eq_true rfl)) dL_would_15 ⟨by decide, by decide⟩) (fun ce q9 H locs G hce hv hcl => ?_)
    by_cases hk1 : k1 = 1
    · replace h := gt_s hk1 h
      subst hk1
      refine vx_catch (E := "java/lang/IllegalArgumentException") (name := "java/lang/IllegalArgumentException") hown [] ⟨0, 20, 23, 13⟩ [] htab (fun z hz => nomatch hz) (by decide) (by decide) (hts (.classLink RL 13 "java/lang/IllegalArgumentException") (by decide +kernel)) (va_Nw.use rfl F.2.2.2.2.2.2.2.2.2.2.2.2.2.2.2.1.1) hce hv hcl ?_
      refine lv_astore (lv' := [(9, .ref q9), (0, .ref (ad t)), (1, .int a1), (2, .int a2), (3, .int a3), (4, .int a4), (5, .int a5), (6, .int a6), (7, .int a7), (8, .ref (ad o))]) hx hb dL_would_23 hl (by decide) rfl (fun ls hl => ?_)
      refine lv_iconst (v := 1) hx hb dL_would_25 (by decide) ?_
      cases h
      exact gx_iret F G hr hlocks dL_would_26
    · replace h := gf_s hk1 h
      by_cases hk0 : k1 = 0
      · replace h := gt_s hk0 h
        subst hk0
        cases h
      · replace h := gf_s hk0 h
        cases h
def m_L_ahead (n : Nat) (t : Nat) (a1 : Int32) (a2 : Int32) (o : Nat) (c : gm) : Option (Int32 × gm) :=
  gc (gck t = 9) (gc (gck o = 26) (gbw (m_X9_ahead n t a1 a2 c) (fun (q : Int32 × gm) => some (0, gm_l q.2 o (vp_updL (q.2.2.1 o) (0 : Int32).toNatClampNeg q.1.toInt64))) (fun (k : Nat) (c1 : gm) => if k = 1 then some (1, c1) else if k = 0 then none else none)))
abbrev rmL_ahead : Room := { frames := 8, cells := 1, slots := 6, locals := 134 }
set_option maxHeartbeats 4000000 in
set_option maxRecDepth 100000 in
theorem c_L_ahead (l : Launch) (hlt : l.stackTraces = false) (sa : gSa) (D : va_G) (ad : Nat → Nat) (cy : Nat → ClassId) (N sz : Nat) (hN : 531 ≤ N) (hI : gI ad N) (c d0 : gm) {n : Nat} {t : Nat} {a1 : Int32} {a2 : Int32} {o : Nat} {rZ : Int32} {cZ : gm} (h : m_L_ahead n t a1 a2 o c = some (rZ, cZ)) : Met l yL_ahead wsL_ahead rmL_ahead (va_Pc [.ref (ad t), .int a1, .int a2, .ref (ad o)] (gP sa D ad cy N sz c d0)) (va_Qi (fun (z : Int32) (_ : Unit) => z = rZ) (fun _ U => gE D ad cy N cZ d0 U) (gA ad N sz)) 1 6 (gA ad N sz) := by
  refine va_MetW (cc := cL_ahead) (maxL := 5) (ret := (some .int)) (hh := [(0, 10, 13, 13)]) (by decide) rfl ?_
  intro p e s m args below meth cod s₁ B hml hv
  obtain ⟨rfl, hsz, hP, hK, hZ⟩ := hv
  have hx := B.exec
  have hb := B.bytes
  have hr := B.returns
  have hts := atoms_spec (ws := wsL_ahead) B.pre
  have htab := vx_table (x := yL_market) B (hts _ List.mem_cons_self)
  have hown : s.vm.findClass RL = some m.cls := findClass_of_methodNamed B.named
  have hlocks := B.notSynchronized
  subst hsz
  have hl := lv_entry ([.ref (ad t), .int a1, .int a2, .ref (ad o)]) (n := 5) (Nat.le_of_ble_eq_true rfl)
  rw [lg_entry_eq]
  generalize (lg_sl ([.ref (ad t), .int a1, .int a2, .ref (ad o)]) ++ List.replicate (5 - (lg_sl ([.ref (ad t), .int a1, .int a2, .ref (ad o)])).length) Slot.unset).toArray = ls at hl ⊢
  have hl : lv_has ls 5 [(0, .ref (ad t)), (1, .int a1), (2, .int a2), (3, .ref (ad o))] := hl
  generalize hargs : ([.ref (ad t), .int a1, .int a2, .ref (ad o)] : List Value).toArray = args at *
  generalize hAe : gA ad N s.heap.size = A
  have F : gF sa D ad cy N A p s m args cod cL_ahead 5 wsL_ahead RL := ⟨hx, hb, hml, hown, hts, hK, hI, by rw [← hAe]; exact gA_ad, by rw [← hAe]; exact gA_sz, by rw [← hAe]; exact hZ⟩
  have G : gW D ad cy N A s.heap c d0 s.heap [] := ⟨hP, va_S.rf⟩
  suffices hgen : ∀ (H : Heap) (locs : List Loc), gW D ad cy N A s.heap c d0 H locs → W p l e rmL_ahead s m args below meth cod H locs 0 0 (MQ below (va_Qi (fun (z : Int32) (_ : Unit) => z = rZ) (fun _ U => gE D ad cy N cZ d0 U) A) args s 1 6 A) (F0 m 0 ls []) from hgen _ _ G
  clear G
  intro H locs G
  unfold m_L_ahead at h
  obtain ⟨hk, h⟩ := gc_s h
  obtain ⟨hk2, h⟩ := gc_s h
  have ht : t < N := Nat.lt_of_lt_of_le (gck_lt9 hk) (Nat.le_trans (by decide) hN)
  have ht2 : o < N := Nat.lt_of_lt_of_le (gck_lt26 hk2) hN
  refine lv_aload_n hx hb dL_ahead_0 rfl (lv_at hl 3 rfl) ?_
  refine lv_iconst (v := 0) hx hb dL_ahead_1 (by decide) ?_
  refine lv_aload_n hx hb dL_ahead_2 rfl (lv_at hl 0 rfl) ?_
  refine lv_iload_n hx hb dL_ahead_3 rfl (lv_at hl 1 rfl) ?_
  refine lv_iload_n hx hb dL_ahead_4 rfl (lv_at hl 2 rfl) ?_
  rcases gbw_s h with ⟨⟨r1, c1⟩, hc, h⟩ | ⟨k1, c1, hc, h⟩
  · refine gx_calli F G (va_runV (As := [.int a1, .int a2]) (rest := [.int 0, .ref (ad o)]) (gx_fix F) (c_X9_ahead l sa D ad cy N H.size (Nat.le_trans (by decide) hN) hI c d0 hc) (cwV 2 hts gL_ahead_X9_ahead rfl rfl rfl (by decide +kernel) ⟨by decide, by decide⟩) (gx_rec F G ht (gwe_9 hk) rfl) rfl rfl hl.1 rfl (lv_room (Nat.le_of_ble_eq_true rfl)) dL_ahead_5 ⟨by decide, by decide⟩) (fun H locs G => ?_)
    refine lv_i2l hx hb dL_ahead_8 rfl ?_
    refine gx_ls F G hk2 ht2 (n := 1) (by rw [gal26 hk2]) (by decide) dL_ahead_9 (fun H locs G => ?_)
    refine lv_goto (tgt := 17) hx hb dL_ahead_10 (by decide) ?_
    refine lv_iconst (v := 0) hx hb dL_ahead_17 (by decide) ?_
    cases h
    exact W.widen (k := 1) (n := 6) (by decide) (by decide) (gx_iret F G hr hlocks dL_ahead_18)
  · refine gx_xci F G (vx_runV (As := [.int a1, .int a2]) (rest := [.int 0, .ref (ad o)]) (gx_fix F) (cx_X9_ahead l hlt sa D ad cy N H.size (Nat.le_trans (by decide) hN) hI c d0 hc) (cwV 2 hts gL_ahead_X9_ahead rfl rfl rfl (by decide +kernel) ⟨by decide, by decide⟩) (gx_rec F G ht (gwe_9 hk) rfl) rfl rfl hl.1 rfl (lv_room (Nat.le_of_ble_eq_true rfl)) dL_ahead_5 ⟨by decide, by decide⟩) (fun ce q9 H locs G hce hv hcl => ?_)
    by_cases hk1 : k1 = 1
    · replace h := gt_s hk1 h
      subst hk1
      refine vx_catch (E := "java/lang/IllegalArgumentException") (name := "java/lang/IllegalArgumentException") hown [] ⟨0, 10, 13, 13⟩ [] htab (fun z hz => nomatch hz) (by decide) (by decide) (hts (.classLink RL 13 "java/lang/IllegalArgumentException") (by decide +kernel)) (va_Nw.use rfl F.2.2.2.2.2.2.2.2.2.2.2.2.2.2.2.1.1) hce hv hcl ?_
      refine lv_astore (lv' := [(4, .ref q9), (0, .ref (ad t)), (1, .int a1), (2, .int a2), (3, .ref (ad o))]) hx hb dL_ahead_13 hl (by decide) rfl (fun ls hl => ?_)
      refine lv_iconst (v := 1) hx hb dL_ahead_15 (by decide) ?_
      cases h
      exact gx_iret F G hr hlocks dL_ahead_16
    · replace h := gf_s hk1 h
      by_cases hk0 : k1 = 0
      · replace h := gt_s hk0 h
        subst hk0
        cases h
      · replace h := gf_s hk0 h
        cases h
def m_L_worth (n : Nat) (t : Nat) (a1 : Int32) (a2 : Int32) (a3 : Int32) (o : Nat) (c : gm) : Option (Int32 × gm) :=
  gc (gck t = 9) (gc (gck o = 26) (gbw (m_X9_worth n t a1 a2 a3 c) (fun (q : Int64 × gm) => some (0, gm_l q.2 o (vp_updL (q.2.2.1 o) (0 : Int32).toNatClampNeg q.1))) (fun (k : Nat) (c1 : gm) => if k = 1 then some (2, c1) else if k = 0 then some (1, c1) else none)))
abbrev rmL_worth : Room := { frames := 17, cells := 1, slots := 6, locals := 567 }
set_option maxHeartbeats 4000000 in
set_option maxRecDepth 100000 in
theorem c_L_worth (l : Launch) (hlt : l.stackTraces = false) (sa : gSa) (D : va_G) (ad : Nat → Nat) (cy : Nat → ClassId) (N sz : Nat) (hN : 531 ≤ N) (hI : gI ad N) (c d0 : gm) {n : Nat} {t : Nat} {a1 : Int32} {a2 : Int32} {a3 : Int32} {o : Nat} {rZ : Int32} {cZ : gm} (h : m_L_worth n t a1 a2 a3 o c = some (rZ, cZ)) : Met l yL_worth wsL_worth rmL_worth (va_Pc [.ref (ad t), .int a1, .int a2, .int a3, .ref (ad o)] (gP sa D ad cy N sz c d0)) (va_Qi (fun (z : Int32) (_ : Unit) => z = rZ) (fun _ U => gE D ad cy N cZ d0 U) (gA ad N sz)) 1 6 (gA ad N sz) := by
  refine va_MetW (cc := cL_worth) (maxL := 6) (ret := (some .int)) (hh := [(0, 11, 14, 31), (0, 11, 18, 13)]) (by decide) rfl ?_
  intro p e s m args below meth cod s₁ B hml hv
  obtain ⟨rfl, hsz, hP, hK, hZ⟩ := hv
  have hx := B.exec
  have hb := B.bytes
  have hr := B.returns
  have hts := atoms_spec (ws := wsL_worth) B.pre
  have htab := vx_table (x := yL_market) B (hts _ List.mem_cons_self)
  have hown : s.vm.findClass RL = some m.cls := findClass_of_methodNamed B.named
  have hlocks := B.notSynchronized
  subst hsz
  have hl := lv_entry ([.ref (ad t), .int a1, .int a2, .int a3, .ref (ad o)]) (n := 6) (Nat.le_of_ble_eq_true rfl)
  rw [lg_entry_eq]
  generalize (lg_sl ([.ref (ad t), .int a1, .int a2, .int a3, .ref (ad o)]) ++ List.replicate (6 - (lg_sl ([.ref (ad t), .int a1, .int a2, .int a3, .ref (ad o)])).length) Slot.unset).toArray = ls at hl ⊢
  have hl : lv_has ls 6 [(0, .ref (ad t)), (1, .int a1), (2, .int a2), (3, .int a3), (4, .ref (ad o))] := hl
  generalize hargs : ([.ref (ad t), .int a1, .int a2, .int a3, .ref (ad o)] : List Value).toArray = args at *
  generalize hAe : gA ad N s.heap.size = A
  have F : gF sa D ad cy N A p s m args cod cL_worth 6 wsL_worth RL := ⟨hx, hb, hml, hown, hts, hK, hI, by rw [← hAe]; exact gA_ad, by rw [← hAe]; exact gA_sz, by rw [← hAe]; exact hZ⟩
  have G : gW D ad cy N A s.heap c d0 s.heap [] := ⟨hP, va_S.rf⟩
  suffices hgen : ∀ (H : Heap) (locs : List Loc), gW D ad cy N A s.heap c d0 H locs → W p l e rmL_worth s m args below meth cod H locs 0 0 (MQ below (va_Qi (fun (z : Int32) (_ : Unit) => z = rZ) (fun _ U => gE D ad cy N cZ d0 U) A) args s 1 6 A) (F0 m 0 ls []) from hgen _ _ G
  clear G
  intro H locs G
  unfold m_L_worth at h
  obtain ⟨hk, h⟩ := gc_s h
  obtain ⟨hk2, h⟩ := gc_s h
  have ht : t < N := Nat.lt_of_lt_of_le (gck_lt9 hk) (Nat.le_trans (by decide) hN)
  have ht2 : o < N := Nat.lt_of_lt_of_le (gck_lt26 hk2) hN
  refine lv_aload hx hb dL_worth_0 (lv_at hl 4 rfl) ?_
  refine lv_iconst (v := 0) hx hb dL_worth_2 (by decide) ?_
  refine lv_aload_n hx hb dL_worth_3 rfl (lv_at hl 0 rfl) ?_
  refine lv_iload_n hx hb dL_worth_4 rfl (lv_at hl 1 rfl) ?_
  refine lv_iload_n hx hb dL_worth_5 rfl (lv_at hl 2 rfl) ?_
  refine lv_iload_n hx hb dL_worth_6 rfl (lv_at hl 3 rfl) ?_
  rcases gbw_s h with ⟨⟨r1, c1⟩, hc, h⟩ | ⟨k1, c1, hc, h⟩
  · refine gx_calll F G (va_runV (As := [.int a1, .int a2, .int a3]) (rest := [.int 0, .ref (ad o)]) (gx_fix F) (c_X9_worth l sa D ad cy N H.size (Nat.le_trans (by decide) hN) hI c d0 hc) (cwV 3 hts gL_worth_X9_worth rfl rfl rfl (by decide +kernel) ⟨by decide, by decide⟩) (gx_rec F G ht (gwe_9 hk) rfl) rfl rfl hl.1 rfl (lv_room (Nat.le_of_ble_eq_true rfl)) dL_worth_7 ⟨by decide, by decide⟩) (fun H locs G => ?_)
    refine gx_ls F G hk2 ht2 (n := 1) (by rw [gal26 hk2]) (by decide) dL_worth_10 (fun H locs G => ?_)
    refine lv_goto (tgt := 22) hx hb dL_worth_11 (by decide) ?_
    refine lv_iconst (v := 0) hx hb dL_worth_22 (by decide) ?_
    cases h
    exact W.widen (k := 1) (n := 6) (by decide) (by decide) (gx_iret F G hr hlocks dL_worth_23)
  · refine gx_xcl F G (vx_runV (As := [.int a1, .int a2, .int a3]) (rest := [.int 0, .ref (ad o)]) (gx_fix F) (cx_X9_worth l hlt sa D ad cy N H.size (Nat.le_trans (by decide) hN) hI c d0 hc) (cwV 3 hts gL_worth_X9_worth rfl rfl rfl (by decide +kernel) ⟨by decide, by decide⟩) (gx_rec F G ht (gwe_9 hk) rfl) rfl rfl hl.1 rfl (lv_room (Nat.le_of_ble_eq_true rfl)) dL_worth_7 ⟨by decide, by decide⟩) (fun ce q9 H locs G hce hv hcl => ?_)
    by_cases hk1 : k1 = 1
    · replace h := gt_s hk1 h
      subst hk1
      refine vx_catch (E := "java/lang/IllegalArgumentException") (name := "java/lang/IllegalArgumentException") hown [⟨0, 11, 14, 31⟩] ⟨0, 11, 18, 13⟩ [] htab (fun z hz => by rw [List.mem_singleton.mp hz]; exact Or.inr ⟨by decide, "java/util/NoSuchElementException", hts (.classLink RL 31 "java/util/NoSuchElementException") (by decide +kernel), F.2.2.2.2.2.2.2.2.2.2.2.2.2.2.2.2⟩) (by decide) (by decide) (hts (.classLink RL 13 "java/lang/IllegalArgumentException") (by decide +kernel)) (va_Nw.use rfl F.2.2.2.2.2.2.2.2.2.2.2.2.2.2.2.1.1) hce hv hcl ?_
      refine lv_astore (lv' := [(5, .ref q9), (0, .ref (ad t)), (1, .int a1), (2, .int a2), (3, .int a3), (4, .ref (ad o))]) hx hb dL_worth_18 hl (by decide) rfl (fun ls hl => ?_)
      refine lv_iconst (v := 2) hx hb dL_worth_20 (by decide) ?_
      cases h
      exact gx_iret F G hr hlocks dL_worth_21
    · replace h := gf_s hk1 h
      by_cases hk0 : k1 = 0
      · replace h := gt_s hk0 h
        subst hk0
        refine vx_catch (E := "java/util/NoSuchElementException") (name := "java/util/NoSuchElementException") hown [] ⟨0, 11, 14, 31⟩ [⟨0, 11, 18, 13⟩] htab (fun z hz => nomatch hz) (by decide) (by decide) (hts (.classLink RL 31 "java/util/NoSuchElementException") (by decide +kernel)) (va_Nw.use rfl F.2.2.2.2.2.2.2.2.2.2.2.2.2.2.2.1.2) hce hv hcl ?_
        refine lv_astore (lv' := [(5, .ref q9), (0, .ref (ad t)), (1, .int a1), (2, .int a2), (3, .int a3), (4, .ref (ad o))]) hx hb dL_worth_14 hl (by decide) rfl (fun ls hl => ?_)
        refine lv_iconst (v := 1) hx hb dL_worth_16 (by decide) ?_
        cases h
        exact gx_iret F G hr hlocks dL_worth_17
      · replace h := gf_s hk0 h
        cases h
def m_L_fattest (n : Nat) (t : Nat) (a1 : Int32) (o : Nat) (c : gm) : Option (Int32 × gm) :=
  gc (gck t = 9) (gc (gck o = 26) (gbw (m_X9_fattest n t a1 c) (fun (q : Int64 × gm) => some (0, gm_l q.2 o (vp_updL (q.2.2.1 o) (0 : Int32).toNatClampNeg q.1))) (fun (k : Nat) (c1 : gm) => if k = 1 then some (1, c1) else if k = 0 then none else none)))
abbrev rmL_fattest : Room := { frames := 17, cells := 1, slots := 6, locals := 564 }
set_option maxHeartbeats 4000000 in
set_option maxRecDepth 100000 in
theorem c_L_fattest (l : Launch) (hlt : l.stackTraces = false) (sa : gSa) (D : va_G) (ad : Nat → Nat) (cy : Nat → ClassId) (N sz : Nat) (hN : 531 ≤ N) (hI : gI ad N) (c d0 : gm) {n : Nat} {t : Nat} {a1 : Int32} {o : Nat} {rZ : Int32} {cZ : gm} (h : m_L_fattest n t a1 o c = some (rZ, cZ)) : Met l yL_fattest wsL_fattest rmL_fattest (va_Pc [.ref (ad t), .int a1, .ref (ad o)] (gP sa D ad cy N sz c d0)) (va_Qi (fun (z : Int32) (_ : Unit) => z = rZ) (fun _ U => gE D ad cy N cZ d0 U) (gA ad N sz)) 1 6 (gA ad N sz) := by
  refine va_MetW (cc := cL_fattest) (maxL := 4) (ret := (some .int)) (hh := [(0, 8, 11, 13)]) (by decide) rfl ?_
  intro p e s m args below meth cod s₁ B hml hv
  obtain ⟨rfl, hsz, hP, hK, hZ⟩ := hv
  have hx := B.exec
  have hb := B.bytes
  have hr := B.returns
  have hts := atoms_spec (ws := wsL_fattest) B.pre
  have htab := vx_table (x := yL_market) B (hts _ List.mem_cons_self)
  have hown : s.vm.findClass RL = some m.cls := findClass_of_methodNamed B.named
  have hlocks := B.notSynchronized
  subst hsz
  have hl := lv_entry ([.ref (ad t), .int a1, .ref (ad o)]) (n := 4) (Nat.le_of_ble_eq_true rfl)
  rw [lg_entry_eq]
  generalize (lg_sl ([.ref (ad t), .int a1, .ref (ad o)]) ++ List.replicate (4 - (lg_sl ([.ref (ad t), .int a1, .ref (ad o)])).length) Slot.unset).toArray = ls at hl ⊢
  have hl : lv_has ls 4 [(0, .ref (ad t)), (1, .int a1), (2, .ref (ad o))] := hl
  generalize hargs : ([.ref (ad t), .int a1, .ref (ad o)] : List Value).toArray = args at *
  generalize hAe : gA ad N s.heap.size = A
  have F : gF sa D ad cy N A p s m args cod cL_fattest 4 wsL_fattest RL := ⟨hx, hb, hml, hown, hts, hK, hI, by rw [← hAe]; exact gA_ad, by rw [← hAe]; exact gA_sz, by rw [← hAe]; exact hZ⟩
  have G : gW D ad cy N A s.heap c d0 s.heap [] := ⟨hP, va_S.rf⟩
  suffices hgen : ∀ (H : Heap) (locs : List Loc), gW D ad cy N A s.heap c d0 H locs → W p l e rmL_fattest s m args below meth cod H locs 0 0 (MQ below (va_Qi (fun (z : Int32) (_ : Unit) => z = rZ) (fun _ U => gE D ad cy N cZ d0 U) A) args s 1 6 A) (F0 m 0 ls []) from hgen _ _ G
  clear G
  intro H locs G
  unfold m_L_fattest at h
  obtain ⟨hk, h⟩ := gc_s h
  obtain ⟨hk2, h⟩ := gc_s h
  have ht : t < N := Nat.lt_of_lt_of_le (gck_lt9 hk) (Nat.le_trans (by decide) hN)
  have ht2 : o < N := Nat.lt_of_lt_of_le (gck_lt26 hk2) hN
  refine lv_aload_n hx hb dL_fattest_0 rfl (lv_at hl 2 rfl) ?_
  refine lv_iconst (v := 0) hx hb dL_fattest_1 (by decide) ?_
  refine lv_aload_n hx hb dL_fattest_2 rfl (lv_at hl 0 rfl) ?_
  refine lv_iload_n hx hb dL_fattest_3 rfl (lv_at hl 1 rfl) ?_
  rcases gbw_s h with ⟨⟨r1, c1⟩, hc, h⟩ | ⟨k1, c1, hc, h⟩
  · refine gx_calll F G (va_runV (As := [.int a1]) (rest := [.int 0, .ref (ad o)]) (gx_fix F) (c_X9_fattest l sa D ad cy N H.size (Nat.le_trans (by decide) hN) hI c d0 hc) (cwV 1 hts gL_fattest_X9_fattest rfl rfl rfl (by decide +kernel) ⟨by decide, by decide⟩) (gx_rec F G ht (gwe_9 hk) rfl) rfl rfl hl.1 rfl (lv_room (Nat.le_of_ble_eq_true rfl)) dL_fattest_4 ⟨by decide, by decide⟩) (fun H locs G => ?_)
    refine gx_ls F G hk2 ht2 (n := 1) (by rw [gal26 hk2]) (by decide) dL_fattest_7 (fun H locs G => ?_)
    refine lv_goto (tgt := 14) hx hb dL_fattest_8 (by decide) ?_
    refine lv_iconst (v := 0) hx hb dL_fattest_14 (by decide) ?_
    cases h
    exact W.widen (k := 1) (n := 6) (by decide) (by decide) (gx_iret F G hr hlocks dL_fattest_15)
  · refine gx_xcl F G (vx_runV (As := [.int a1]) (rest := [.int 0, .ref (ad o)]) (gx_fix F) (cx_X9_fattest l hlt sa D ad cy N H.size (Nat.le_trans (by decide) hN) hI c d0 hc) (cwV 1 hts gL_fattest_X9_fattest rfl rfl rfl (by decide +kernel) ⟨by decide, by decide⟩) (gx_rec F G ht (gwe_9 hk) rfl) rfl rfl hl.1 rfl (lv_room (Nat.le_of_ble_eq_true rfl)) dL_fattest_4 ⟨by decide, by decide⟩) (fun ce q9 H locs G hce hv hcl => ?_)
    by_cases hk1 : k1 = 1
    · replace h := gt_s hk1 h
      subst hk1
      refine vx_catch (E := "java/lang/IllegalArgumentException") (name := "java/lang/IllegalArgumentException") hown [] ⟨0, 8, 11, 13⟩ [] htab (fun z hz => nomatch hz) (by decide) (by decide) (hts (.classLink RL 13 "java/lang/IllegalArgumentException") (by decide +kernel)) (va_Nw.use rfl F.2.2.2.2.2.2.2.2.2.2.2.2.2.2.2.1.1) hce hv hcl ?_
      refine lv_astore_n (lv' := [(3, .ref q9), (0, .ref (ad t)), (1, .int a1), (2, .ref (ad o))]) hx hb dL_fattest_11 rfl hl (by decide) rfl (fun ls hl => ?_)
      refine lv_iconst (v := 1) hx hb dL_fattest_12 (by decide) ?_
      cases h
      exact gx_iret F G hr hlocks dL_fattest_13
    · replace h := gf_s hk1 h
      by_cases hk0 : k1 = 0
      · replace h := gt_s hk0 h
        subst hk0
        cases h
      · replace h := gf_s hk0 h
        cases h
def m_L_match (n : Nat) (t : Nat) (a1 : Int32) (a2 : Int32) (o : Nat) (c : gm) : Option (Int32 × gm) :=
  gc (gck t = 9) (gc (gck o = 26) (gbw (m_X9_match n t a1 a2 c) (fun (q : Int32 × gm) => some (0, gm_l q.2 o (vp_updL (q.2.2.1 o) (0 : Int32).toNatClampNeg q.1.toInt64))) (fun (k : Nat) (c1 : gm) => if k = 1 then some (1, c1) else if k = 0 then none else none)))
abbrev rmL_match : Room := { frames := 9, cells := 1, slots := 6, locals := 154 }
set_option maxHeartbeats 4000000 in
set_option maxRecDepth 100000 in
theorem c_L_match (l : Launch) (hlt : l.stackTraces = false) (sa : gSa) (D : va_G) (ad : Nat → Nat) (cy : Nat → ClassId) (N sz : Nat) (hN : 531 ≤ N) (hI : gI ad N) (c d0 : gm) {n : Nat} {t : Nat} {a1 : Int32} {a2 : Int32} {o : Nat} {rZ : Int32} {cZ : gm} (h : m_L_match n t a1 a2 o c = some (rZ, cZ)) : Met l yL_match wsL_match rmL_match (va_Pc [.ref (ad t), .int a1, .int a2, .ref (ad o)] (gP sa D ad cy N sz c d0)) (va_Qi (fun (z : Int32) (_ : Unit) => z = rZ) (fun _ U => gE D ad cy N cZ d0 U) (gA ad N sz)) 1 6 (gA ad N sz) := by
  refine va_MetW (cc := cL_match) (maxL := 5) (ret := (some .int)) (hh := [(0, 10, 13, 13)]) (by decide) rfl ?_
  intro p e s m args below meth cod s₁ B hml hv
  obtain ⟨rfl, hsz, hP, hK, hZ⟩ := hv
  have hx := B.exec
  have hb := B.bytes
  have hr := B.returns
  have hts := atoms_spec (ws := wsL_match) B.pre
  have htab := vx_table (x := yL_market) B (hts _ List.mem_cons_self)
  have hown : s.vm.findClass RL = some m.cls := findClass_of_methodNamed B.named
  have hlocks := B.notSynchronized
  subst hsz
  have hl := lv_entry ([.ref (ad t), .int a1, .int a2, .ref (ad o)]) (n := 5) (Nat.le_of_ble_eq_true rfl)
  rw [lg_entry_eq]
  generalize (lg_sl ([.ref (ad t), .int a1, .int a2, .ref (ad o)]) ++ List.replicate (5 - (lg_sl ([.ref (ad t), .int a1, .int a2, .ref (ad o)])).length) Slot.unset).toArray = ls at hl ⊢
  have hl : lv_has ls 5 [(0, .ref (ad t)), (1, .int a1), (2, .int a2), (3, .ref (ad o))] := hl
  generalize hargs : ([.ref (ad t), .int a1, .int a2, .ref (ad o)] : List Value).toArray = args at *
  generalize hAe : gA ad N s.heap.size = A
  have F : gF sa D ad cy N A p s m args cod cL_match 5 wsL_match RL := ⟨hx, hb, hml, hown, hts, hK, hI, by rw [← hAe]; exact gA_ad, by rw [← hAe]; exact gA_sz, by rw [← hAe]; exact hZ⟩
  have G : gW D ad cy N A s.heap c d0 s.heap [] := ⟨hP, va_S.rf⟩
  suffices hgen : ∀ (H : Heap) (locs : List Loc), gW D ad cy N A s.heap c d0 H locs → W p l e rmL_match s m args below meth cod H locs 0 0 (MQ below (va_Qi (fun (z : Int32) (_ : Unit) => z = rZ) (fun _ U => gE D ad cy N cZ d0 U) A) args s 1 6 A) (F0 m 0 ls []) from hgen _ _ G
  clear G
  intro H locs G
  unfold m_L_match at h
  obtain ⟨hk, h⟩ := gc_s h
  obtain ⟨hk2, h⟩ := gc_s h
  have ht : t < N := Nat.lt_of_lt_of_le (gck_lt9 hk) (Nat.le_trans (by decide) hN)
  have ht2 : o < N := Nat.lt_of_lt_of_le (gck_lt26 hk2) hN
  refine lv_aload_n hx hb dL_match_0 rfl (lv_at hl 3 rfl) ?_
  refine lv_iconst (v := 0) hx hb dL_match_1 (by decide) ?_
  refine lv_aload_n hx hb dL_match_2 rfl (lv_at hl 0 rfl) ?_
  refine lv_iload_n hx hb dL_match_3 rfl (lv_at hl 1 rfl) ?_
  refine lv_iload_n hx hb dL_match_4 rfl (lv_at hl 2 rfl) ?_
  rcases gbw_s h with ⟨⟨r1, c1⟩, hc, h⟩ | ⟨k1, c1, hc, h⟩
  · refine gx_calli F G (va_runV (As := [.int a1, .int a2]) (rest := [.int 0, .ref (ad o)]) (gx_fix F) (c_X9_match l sa D ad cy N H.size (Nat.le_trans (by decide) hN) hI c d0 hc) (cwV 2 hts gL_match_X9_match rfl rfl rfl (by decide +kernel) ⟨by decide, by decide⟩) (gx_rec F G ht (gwe_9 hk) rfl) rfl rfl hl.1 rfl (lv_room (Nat.le_of_ble_eq_true rfl)) dL_match_5 ⟨by decide, by decide⟩) (fun H locs G => ?_)
    refine lv_i2l hx hb dL_match_8 rfl ?_
    refine gx_ls F G hk2 ht2 (n := 1) (by rw [gal26 hk2]) (by decide) dL_match_9 (fun H locs G => ?_)
    refine lv_goto (tgt := 17) hx hb dL_match_10 (by decide) ?_
    refine lv_iconst (v := 0) hx hb dL_match_17 (by decide) ?_
    cases h
    exact W.widen (k := 1) (n := 6) (by decide) (by decide) (gx_iret F G hr hlocks dL_match_18)
  · refine gx_xci F G (vx_runV (As := [.int a1, .int a2]) (rest := [.int 0, .ref (ad o)]) (gx_fix F) (cx_X9_match l hlt sa D ad cy N H.size (Nat.le_trans (by decide) hN) hI c d0 hc) (cwV 2 hts gL_match_X9_match rfl rfl rfl (by decide +kernel) ⟨by decide, by decide⟩) (gx_rec F G ht (gwe_9 hk) rfl) rfl rfl hl.1 rfl (lv_room (Nat.le_of_ble_eq_true rfl)) dL_match_5 ⟨by decide, by decide⟩) (fun ce q9 H locs G hce hv hcl => ?_)
    by_cases hk1 : k1 = 1
    · replace h := gt_s hk1 h
      subst hk1
      refine vx_catch (E := "java/lang/IllegalArgumentException") (name := "java/lang/IllegalArgumentException") hown [] ⟨0, 10, 13, 13⟩ [] htab (fun z hz => nomatch hz) (by decide) (by decide) (hts (.classLink RL 13 "java/lang/IllegalArgumentException") (by decide +kernel)) (va_Nw.use rfl F.2.2.2.2.2.2.2.2.2.2.2.2.2.2.2.1.1) hce hv hcl ?_
      refine lv_astore (lv' := [(4, .ref q9), (0, .ref (ad t)), (1, .int a1), (2, .int a2), (3, .ref (ad o))]) hx hb dL_match_13 hl (by decide) rfl (fun ls hl => ?_)
      refine lv_iconst (v := 1) hx hb dL_match_15 (by decide) ?_
      cases h
      exact gx_iret F G hr hlocks dL_match_16
    · replace h := gf_s hk1 h
      by_cases hk0 : k1 = 0
      · replace h := gt_s hk0 h
        subst hk0
        cases h
      · replace h := gf_s hk0 h
        cases h
def m_L_fewest (n : Nat) (t : Nat) (a1 : Int32) (o : Nat) (c : gm) : Option (Int32 × gm) :=
  gc (gck t = 9) (gc (gck o = 26) (gbw (m_X9_fewest n t a1 c) (fun (q : Int32 × gm) => some (0, gm_l q.2 o (vp_updL (q.2.2.1 o) (0 : Int32).toNatClampNeg q.1.toInt64))) (fun (k : Nat) (c1 : gm) => if k = 1 then some (1, c1) else if k = 0 then none else none)))
abbrev rmL_fewest : Room := { frames := 8, cells := 1, slots := 6, locals := 132 }
set_option maxHeartbeats 4000000 in
set_option maxRecDepth 100000 in
theorem c_L_fewest (l : Launch) (hlt : l.stackTraces = false) (sa : gSa) (D : va_G) (ad : Nat → Nat) (cy : Nat → ClassId) (N sz : Nat) (hN : 531 ≤ N) (hI : gI ad N) (c d0 : gm) {n : Nat} {t : Nat} {a1 : Int32} {o : Nat} {rZ : Int32} {cZ : gm} (h : m_L_fewest n t a1 o c = some (rZ, cZ)) : Met l yL_fewest wsL_fewest rmL_fewest (va_Pc [.ref (ad t), .int a1, .ref (ad o)] (gP sa D ad cy N sz c d0)) (va_Qi (fun (z : Int32) (_ : Unit) => z = rZ) (fun _ U => gE D ad cy N cZ d0 U) (gA ad N sz)) 1 6 (gA ad N sz) := by
  refine va_MetW (cc := cL_fewest) (maxL := 4) (ret := (some .int)) (hh := [(0, 9, 12, 13)]) (by decide) rfl ?_
  intro p e s m args below meth cod s₁ B hml hv
  obtain ⟨rfl, hsz, hP, hK, hZ⟩ := hv
  have hx := B.exec
  have hb := B.bytes
  have hr := B.returns
  have hts := atoms_spec (ws := wsL_fewest) B.pre
  have htab := vx_table (x := yL_market) B (hts _ List.mem_cons_self)
  have hown : s.vm.findClass RL = some m.cls := findClass_of_methodNamed B.named
  have hlocks := B.notSynchronized
  subst hsz
  have hl := lv_entry ([.ref (ad t), .int a1, .ref (ad o)]) (n := 4) (Nat.le_of_ble_eq_true rfl)
  rw [lg_entry_eq]
  generalize (lg_sl ([.ref (ad t), .int a1, .ref (ad o)]) ++ List.replicate (4 - (lg_sl ([.ref (ad t), .int a1, .ref (ad o)])).length) Slot.unset).toArray = ls at hl ⊢
  have hl : lv_has ls 4 [(0, .ref (ad t)), (1, .int a1), (2, .ref (ad o))] := hl
  generalize hargs : ([.ref (ad t), .int a1, .ref (ad o)] : List Value).toArray = args at *
  generalize hAe : gA ad N s.heap.size = A
  have F : gF sa D ad cy N A p s m args cod cL_fewest 4 wsL_fewest RL := ⟨hx, hb, hml, hown, hts, hK, hI, by rw [← hAe]; exact gA_ad, by rw [← hAe]; exact gA_sz, by rw [← hAe]; exact hZ⟩
  have G : gW D ad cy N A s.heap c d0 s.heap [] := ⟨hP, va_S.rf⟩
  suffices hgen : ∀ (H : Heap) (locs : List Loc), gW D ad cy N A s.heap c d0 H locs → W p l e rmL_fewest s m args below meth cod H locs 0 0 (MQ below (va_Qi (fun (z : Int32) (_ : Unit) => z = rZ) (fun _ U => gE D ad cy N cZ d0 U) A) args s 1 6 A) (F0 m 0 ls []) from hgen _ _ G
  clear G
  intro H locs G
  unfold m_L_fewest at h
  obtain ⟨hk, h⟩ := gc_s h
  obtain ⟨hk2, h⟩ := gc_s h
  have ht : t < N := Nat.lt_of_lt_of_le (gck_lt9 hk) (Nat.le_trans (by decide) hN)
  have ht2 : o < N := Nat.lt_of_lt_of_le (gck_lt26 hk2) hN
  refine lv_aload_n hx hb dL_fewest_0 rfl (lv_at hl 2 rfl) ?_
  refine lv_iconst (v := 0) hx hb dL_fewest_1 (by decide) ?_
  refine lv_aload_n hx hb dL_fewest_2 rfl (lv_at hl 0 rfl) ?_
  refine lv_iload_n hx hb dL_fewest_3 rfl (lv_at hl 1 rfl) ?_
  rcases gbw_s h with ⟨⟨r1, c1⟩, hc, h⟩ | ⟨k1, c1, hc, h⟩
  · refine gx_calli F G (va_runV (As := [.int a1]) (rest := [.int 0, .ref (ad o)]) (gx_fix F) (c_X9_fewest l sa D ad cy N H.size (Nat.le_trans (by decide) hN) hI c d0 hc) (cwV 1 hts gL_fewest_X9_fewest rfl rfl rfl (by decide +kernel) ⟨by decide, by decide⟩) (gx_rec F G ht (gwe_9 hk) rfl) rfl rfl hl.1 rfl (lv_room (Nat.le_of_ble_eq_true rfl)) dL_fewest_4 ⟨by decide, by decide⟩) (fun H locs G => ?_)
    refine lv_i2l hx hb dL_fewest_7 rfl ?_
    refine gx_ls F G hk2 ht2 (n := 1) (by rw [gal26 hk2]) (by decide) dL_fewest_8 (fun H locs G => ?_)
    refine lv_goto (tgt := 15) hx hb dL_fewest_9 (by decide) ?_
    refine lv_iconst (v := 0) hx hb dL_fewest_15 (by decide) ?_
    cases h
    exact W.widen (k := 1) (n := 6) (by decide) (by decide) (gx_iret F G hr hlocks dL_fewest_16)
  · refine gx_xci F G (vx_runV (As := [.int a1]) (rest := [.int 0, .ref (ad o)]) (gx_fix F) (cx_X9_fewest l hlt sa D ad cy N H.size (Nat.le_trans (by decide) hN) hI c d0 hc) (cwV 1 hts gL_fewest_X9_fewest rfl rfl rfl (by decide +kernel) ⟨by decide, by decide⟩) (gx_rec F G ht (gwe_9 hk) rfl) rfl rfl hl.1 rfl (lv_room (Nat.le_of_ble_eq_true rfl)) dL_fewest_4 ⟨by decide, by decide⟩) (fun ce q9 H locs G hce hv hcl => ?_)
    by_cases hk1 : k1 = 1
    · replace h := gt_s hk1 h
      subst hk1
      refine vx_catch (E := "java/lang/IllegalArgumentException") (name := "java/lang/IllegalArgumentException") hown [] ⟨0, 9, 12, 13⟩ [] htab (fun z hz => nomatch hz) (by decide) (by decide) (hts (.classLink RL 13 "java/lang/IllegalArgumentException") (by decide +kernel)) (va_Nw.use rfl F.2.2.2.2.2.2.2.2.2.2.2.2.2.2.2.1.1) hce hv hcl ?_
      refine lv_astore_n (lv' := [(3, .ref q9), (0, .ref (ad t)), (1, .int a1), (2, .ref (ad o))]) hx hb dL_fewest_12 rfl hl (by decide) rfl (fun ls hl => ?_)
      refine lv_iconst (v := 1) hx hb dL_fewest_13 (by decide) ?_
      cases h
      exact gx_iret F G hr hlocks dL_fewest_14
    · replace h := gf_s hk1 h
      by_cases hk0 : k1 = 0
      · replace h := gt_s hk0 h
        subst hk0
        cases h
      · replace h := gf_s hk0 h
        cases h
def m_L_level (n : Nat) (t : Nat) (a1 : Int32) (a2 : Int32) (o : Nat) (c : gm) : Option (Int32 × gm) :=
  gc (gck t = 9) (gc (gck o = 26) (gbw (m_X9_level n t a1 a2 c) (fun (q : Int32 × gm) => some (0, gm_l q.2 o (vp_updL (q.2.2.1 o) (0 : Int32).toNatClampNeg q.1.toInt64))) (fun (k : Nat) (c1 : gm) => if k = 1 then some (1, c1) else if k = 0 then none else none)))
abbrev rmL_level : Room := { frames := 9, cells := 1, slots := 6, locals := 154 }
set_option maxHeartbeats 4000000 in
set_option maxRecDepth 100000 in
theorem c_L_level (l : Launch) (hlt : l.stackTraces = false) (sa : gSa) (D : va_G) (ad : Nat → Nat) (cy : Nat → ClassId) (N sz : Nat) (hN : 531 ≤ N) (hI : gI ad N) (c d0 : gm) {n : Nat} {t : Nat} {a1 : Int32} {a2 : Int32} {o : Nat} {rZ : Int32} {cZ : gm} (h : m_L_level n t a1 a2 o c = some (rZ, cZ)) : Met l yL_level wsL_level rmL_level (va_Pc [.ref (ad t), .int a1, .int a2, .ref (ad o)] (gP sa D ad cy N sz c d0)) (va_Qi (fun (z : Int32) (_ : Unit) => z = rZ) (fun _ U => gE D ad cy N cZ d0 U) (gA ad N sz)) 1 6 (gA ad N sz) := by
  refine va_MetW (cc := cL_level) (maxL := 5) (ret := (some .int)) (hh := [(0, 10, 13, 13)]) (by decide) rfl ?_
  intro p e s m args below meth cod s₁ B hml hv
  obtain ⟨rfl, hsz, hP, hK, hZ⟩ := hv
  have hx := B.exec
  have hb := B.bytes
  have hr := B.returns
  have hts := atoms_spec (ws := wsL_level) B.pre
  have htab := vx_table (x := yL_market) B (hts _ List.mem_cons_self)
  have hown : s.vm.findClass RL = some m.cls := findClass_of_methodNamed B.named
  have hlocks := B.notSynchronized
  subst hsz
  have hl := lv_entry ([.ref (ad t), .int a1, .int a2, .ref (ad o)]) (n := 5) (Nat.le_of_ble_eq_true rfl)
  rw [lg_entry_eq]
  generalize (lg_sl ([.ref (ad t), .int a1, .int a2, .ref (ad o)]) ++ List.replicate (5 - (lg_sl ([.ref (ad t), .int a1, .int a2, .ref (ad o)])).length) Slot.unset).toArray = ls at hl ⊢
  have hl : lv_has ls 5 [(0, .ref (ad t)), (1, .int a1), (2, .int a2), (3, .ref (ad o))] := hl
  generalize hargs : ([.ref (ad t), .int a1, .int a2, .ref (ad o)] : List Value).toArray = args at *
  generalize hAe : gA ad N s.heap.size = A
  have F : gF sa D ad cy N A p s m args cod cL_level 5 wsL_level RL := ⟨hx, hb, hml, hown, hts, hK, hI, by rw [← hAe]; exact gA_ad, by rw [← hAe]; exact gA_sz, by rw [← hAe]; exact hZ⟩
  have G : gW D ad cy N A s.heap c d0 s.heap [] := ⟨hP, va_S.rf⟩
  suffices hgen : ∀ (H : Heap) (locs : List Loc), gW D ad cy N A s.heap c d0 H locs → W p l e rmL_level s m args below meth cod H locs 0 0 (MQ below (va_Qi (fun (z : Int32) (_ : Unit) => z = rZ) (fun _ U => gE D ad cy N cZ d0 U) A) args s 1 6 A) (F0 m 0 ls []) from hgen _ _ G
  clear G
  intro H locs G
  unfold m_L_level at h
  obtain ⟨hk, h⟩ := gc_s h
  obtain ⟨hk2, h⟩ := gc_s h
  have ht : t < N := Nat.lt_of_lt_of_le (gck_lt9 hk) (Nat.le_trans (by decide) hN)
  have ht2 : o < N := Nat.lt_of_lt_of_le (gck_lt26 hk2) hN
  refine lv_aload_n hx hb dL_level_0 rfl (lv_at hl 3 rfl) ?_
  refine lv_iconst (v := 0) hx hb dL_level_1 (by decide) ?_
  refine lv_aload_n hx hb dL_level_2 rfl (lv_at hl 0 rfl) ?_
  refine lv_iload_n hx hb dL_level_3 rfl (lv_at hl 1 rfl) ?_
  refine lv_iload_n hx hb dL_level_4 rfl (lv_at hl 2 rfl) ?_
  rcases gbw_s h with ⟨⟨r1, c1⟩, hc, h⟩ | ⟨k1, c1, hc, h⟩
  · refine gx_calli F G (va_runV (As := [.int a1, .int a2]) (rest := [.int 0, .ref (ad o)]) (gx_fix F) (c_X9_level l sa D ad cy N H.size (Nat.le_trans (by decide) hN) hI c d0 hc) (cwV 2 hts gL_level_X9_level rfl rfl rfl (by decide +kernel) ⟨by decide, by decide⟩) (gx_rec F G ht (gwe_9 hk) rfl) rfl rfl hl.1 rfl (lv_room (Nat.le_of_ble_eq_true rfl)) dL_level_5 ⟨by decide, by decide⟩) (fun H locs G => ?_)
    refine lv_i2l hx hb dL_level_8 rfl ?_
    refine gx_ls F G hk2 ht2 (n := 1) (by rw [gal26 hk2]) (by decide) dL_level_9 (fun H locs G => ?_)
    refine lv_goto (tgt := 17) hx hb dL_level_10 (by decide) ?_
    refine lv_iconst (v := 0) hx hb dL_level_17 (by decide) ?_
    cases h
    exact W.widen (k := 1) (n := 6) (by decide) (by decide) (gx_iret F G hr hlocks dL_level_18)
  · refine gx_xci F G (vx_runV (As := [.int a1, .int a2]) (rest := [.int 0, .ref (ad o)]) (gx_fix F) (cx_X9_level l hlt sa D ad cy N H.size (Nat.le_trans (by decide) hN) hI c d0 hc) (cwV 2 hts gL_level_X9_level rfl rfl rfl (by decide +kernel) ⟨by decide, by decide⟩) (gx_rec F G ht (gwe_9 hk) rfl) rfl rfl hl.1 rfl (lv_room (Nat.le_of_ble_eq_true rfl)) dL_level_5 ⟨by decide, by decide⟩) (fun ce q9 H locs G hce hv hcl => ?_)
    by_cases hk1 : k1 = 1
    · replace h := gt_s hk1 h
      subst hk1
      refine vx_catch (E := "java/lang/IllegalArgumentException") (name := "java/lang/IllegalArgumentException") hown [] ⟨0, 10, 13, 13⟩ [] htab (fun z hz => nomatch hz) (by decide) (by decide) (hts (.classLink RL 13 "java/lang/IllegalArgumentException") (by decide +kernel)) (va_Nw.use rfl F.2.2.2.2.2.2.2.2.2.2.2.2.2.2.2.1.1) hce hv hcl ?_
      refine lv_astore (lv' := [(4, .ref q9), (0, .ref (ad t)), (1, .int a1), (2, .int a2), (3, .ref (ad o))]) hx hb dL_level_13 hl (by decide) rfl (fun ls hl => ?_)
      refine lv_iconst (v := 1) hx hb dL_level_15 (by decide) ?_
      cases h
      exact gx_iret F G hr hlocks dL_level_16
    · replace h := gf_s hk1 h
      by_cases hk0 : k1 = 0
      · replace h := gt_s hk0 h
        subst hk0
        cases h
      · replace h := gf_s hk0 h
        cases h
def m_L_fits (n : Nat) (t : Nat) (a1 : Int32) (o : Nat) (c : gm) : Option (Int32 × gm) :=
  gc (gck t = 9) (gc (gck o = 26) (gbw (m_X9_fits n t a1 c) (fun (q : Int32 × gm) => some (0, gm_l q.2 o (vp_updL (q.2.2.1 o) (0 : Int32).toNatClampNeg q.1.toInt64))) (fun (k : Nat) (c1 : gm) => if k = 1 then some (1, c1) else if k = 0 then none else none)))
abbrev rmL_fits : Room := { frames := 8, cells := 1, slots := 6, locals := 132 }
set_option maxHeartbeats 4000000 in
set_option maxRecDepth 100000 in
theorem c_L_fits (l : Launch) (hlt : l.stackTraces = false) (sa : gSa) (D : va_G) (ad : Nat → Nat) (cy : Nat → ClassId) (N sz : Nat) (hN : 531 ≤ N) (hI : gI ad N) (c d0 : gm) {n : Nat} {t : Nat} {a1 : Int32} {o : Nat} {rZ : Int32} {cZ : gm} (h : m_L_fits n t a1 o c = some (rZ, cZ)) : Met l yL_fits wsL_fits rmL_fits (va_Pc [.ref (ad t), .int a1, .ref (ad o)] (gP sa D ad cy N sz c d0)) (va_Qi (fun (z : Int32) (_ : Unit) => z = rZ) (fun _ U => gE D ad cy N cZ d0 U) (gA ad N sz)) 1 6 (gA ad N sz) := by
  refine va_MetW (cc := cL_fits) (maxL := 4) (ret := (some .int)) (hh := [(0, 9, 12, 13)]) (by decide) rfl ?_
  intro p e s m args below meth cod s₁ B hml hv
  obtain ⟨rfl, hsz, hP, hK, hZ⟩ := hv
  have hx := B.exec
  have hb := B.bytes
  have hr := B.returns
  have hts := atoms_spec (ws := wsL_fits) B.pre
  have htab := vx_table (x := yL_market) B (hts _ List.mem_cons_self)
  have hown : s.vm.findClass RL = some m.cls := findClass_of_methodNamed B.named
  have hlocks := B.notSynchronized
  subst hsz
  have hl := lv_entry ([.ref (ad t), .int a1, .ref (ad o)]) (n := 4) (Nat.le_of_ble_eq_true rfl)
  rw [lg_entry_eq]
  generalize (lg_sl ([.ref (ad t), .int a1, .ref (ad o)]) ++ List.replicate (4 - (lg_sl ([.ref (ad t), .int a1, .ref (ad o)])).length) Slot.unset).toArray = ls at hl ⊢
  have hl : lv_has ls 4 [(0, .ref (ad t)), (1, .int a1), (2, .ref (ad o))] := hl
  generalize hargs : ([.ref (ad t), .int a1, .ref (ad o)] : List Value).toArray = args at *
  generalize hAe : gA ad N s.heap.size = A
  have F : gF sa D ad cy N A p s m args cod cL_fits 4 wsL_fits RL := ⟨hx, hb, hml, hown, hts, hK, hI, by rw [← hAe]; exact gA_ad, by rw [← hAe]; exact gA_sz, by rw [← hAe]; exact hZ⟩
  have G : gW D ad cy N A s.heap c d0 s.heap [] := ⟨hP, va_S.rf⟩
  suffices hgen : ∀ (H : Heap) (locs : List Loc), gW D ad cy N A s.heap c d0 H locs → W p l e rmL_fits s m args below meth cod H locs 0 0 (MQ below (va_Qi (fun (z : Int32) (_ : Unit) => z = rZ) (fun _ U => gE D ad cy N cZ d0 U) A) args s 1 6 A) (F0 m 0 ls []) from hgen _ _ G
  clear G
  intro H locs G
  unfold m_L_fits at h
  obtain ⟨hk, h⟩ := gc_s h
  obtain ⟨hk2, h⟩ := gc_s h
  have ht : t < N := Nat.lt_of_lt_of_le (gck_lt9 hk) (Nat.le_trans (by decide) hN)
  have ht2 : o < N := Nat.lt_of_lt_of_le (gck_lt26 hk2) hN
  refine lv_aload_n hx hb dL_fits_0 rfl (lv_at hl 2 rfl) ?_
  refine lv_iconst (v := 0) hx hb dL_fits_1 (by decide) ?_
  refine lv_aload_n hx hb dL_fits_2 rfl (lv_at hl 0 rfl) ?_
  refine lv_iload_n hx hb dL_fits_3 rfl (lv_at hl 1 rfl) ?_
  rcases gbw_s h with ⟨⟨r1, c1⟩, hc, h⟩ | ⟨k1, c1, hc, h⟩
  · refine gx_calli F G (va_runV (As := [.int a1]) (rest := [.int 0, .ref (ad o)]) (gx_fix F) (c_X9_fits l sa D ad cy N H.size (Nat.le_trans (by decide) hN) hI c d0 hc) (cwV 1 hts gL_fits_X9_fits rfl rfl rfl (by decide +kernel) ⟨by decide, by decide⟩) (gx_rec F G ht (gwe_9 hk) rfl) rfl rfl hl.1 rfl (lv_room (Nat.le_of_ble_eq_true rfl)) dL_fits_4 ⟨by decide, by decide⟩) (fun H locs G => ?_)
    refine lv_i2l hx hb dL_fits_7 rfl ?_
    refine gx_ls F G hk2 ht2 (n := 1) (by rw [gal26 hk2]) (by decide) dL_fits_8 (fun H locs G => ?_)
    refine lv_goto (tgt := 15) hx hb dL_fits_9 (by decide) ?_
    refine lv_iconst (v := 0) hx hb dL_fits_15 (by decide) ?_
    cases h
    exact W.widen (k := 1) (n := 6) (by decide) (by decide) (gx_iret F G hr hlocks dL_fits_16)
  · refine gx_xci F G (vx_runV (As := [.int a1]) (rest := [.int 0, .ref (ad o)]) (gx_fix F) (cx_X9_fits l hlt sa D ad cy N H.size (Nat.le_trans (by decide) hN) hI c d0 hc) (cwV 1 hts gL_fits_X9_fits rfl rfl rfl (by decide +kernel) ⟨by decide, by decide⟩) (gx_rec F G ht (gwe_9 hk) rfl) rfl rfl hl.1 rfl (lv_room (Nat.le_of_ble_eq_true rfl)) dL_fits_4 ⟨by decide, by decide⟩) (fun ce q9 H locs G hce hv hcl => ?_)
    by_cases hk1 : k1 = 1
    · replace h := gt_s hk1 h
      subst hk1
      refine vx_catch (E := "java/lang/IllegalArgumentException") (name := "java/lang/IllegalArgumentException") hown [] ⟨0, 9, 12, 13⟩ [] htab (fun z hz => nomatch hz) (by decide) (by decide) (hts (.classLink RL 13 "java/lang/IllegalArgumentException") (by decide +kernel)) (va_Nw.use rfl F.2.2.2.2.2.2.2.2.2.2.2.2.2.2.2.1.1) hce hv hcl ?_
      refine lv_astore_n (lv' := [(3, .ref q9), (0, .ref (ad t)), (1, .int a1), (2, .ref (ad o))]) hx hb dL_fits_12 rfl hl (by decide) rfl (fun ls hl => ?_)
      refine lv_iconst (v := 1) hx hb dL_fits_13 (by decide) ?_
      cases h
      exact gx_iret F G hr hlocks dL_fits_14
    · replace h := gf_s hk1 h
      by_cases hk0 : k1 = 0
      · replace h := gt_s hk0 h
        subst hk0
        cases h
      · replace h := gf_s hk0 h
        cases h
def m_L_look (n : Nat) (t : Nat) (a1 : Int32) (o : Nat) (c : gm) : Option (Int32 × gm) :=
  gc (gck t = 9) (gc (gck o = 26) (gbw (m_X9_look n t a1 c) (fun (q : Int32 × gm) => some (0, gm_l q.2 o (vp_updL (q.2.2.1 o) (0 : Int32).toNatClampNeg q.1.toInt64))) (fun (k : Nat) (c1 : gm) => if k = 1 then some (1, c1) else if k = 0 then none else none)))
abbrev rmL_look : Room := { frames := 8, cells := 1, slots := 6, locals := 155 }
set_option maxHeartbeats 4000000 in
set_option maxRecDepth 100000 in
theorem c_L_look (l : Launch) (hlt : l.stackTraces = false) (sa : gSa) (D : va_G) (ad : Nat → Nat) (cy : Nat → ClassId) (N sz : Nat) (hN : 531 ≤ N) (hI : gI ad N) (c d0 : gm) {n : Nat} {t : Nat} {a1 : Int32} {o : Nat} {rZ : Int32} {cZ : gm} (h : m_L_look n t a1 o c = some (rZ, cZ)) : Met l yL_look wsL_look rmL_look (va_Pc [.ref (ad t), .int a1, .ref (ad o)] (gP sa D ad cy N sz c d0)) (va_Qi (fun (z : Int32) (_ : Unit) => z = rZ) (fun _ U => gE D ad cy N cZ d0 U) (gA ad N sz)) 1 6 (gA ad N sz) := by
  refine va_MetW (cc := cL_look) (maxL := 4) (ret := (some .int)) (hh := [(0, 9, 12, 13)]) (by decide) rfl ?_
  intro p e s m args below meth cod s₁ B hml hv
  obtain ⟨rfl, hsz, hP, hK, hZ⟩ := hv
  have hx := B.exec
  have hb := B.bytes
  have hr := B.returns
  have hts := atoms_spec (ws := wsL_look) B.pre
  have htab := vx_table (x := yL_market) B (hts _ List.mem_cons_self)
  have hown : s.vm.findClass RL = some m.cls := findClass_of_methodNamed B.named
  have hlocks := B.notSynchronized
  subst hsz
  have hl := lv_entry ([.ref (ad t), .int a1, .ref (ad o)]) (n := 4) (Nat.le_of_ble_eq_true rfl)
  rw [lg_entry_eq]
  generalize (lg_sl ([.ref (ad t), .int a1, .ref (ad o)]) ++ List.replicate (4 - (lg_sl ([.ref (ad t), .int a1, .ref (ad o)])).length) Slot.unset).toArray = ls at hl ⊢
  have hl : lv_has ls 4 [(0, .ref (ad t)), (1, .int a1), (2, .ref (ad o))] := hl
  generalize hargs : ([.ref (ad t), .int a1, .ref (ad o)] : List Value).toArray = args at *
  generalize hAe : gA ad N s.heap.size = A
  have F : gF sa D ad cy N A p s m args cod cL_look 4 wsL_look RL := ⟨hx, hb, hml, hown, hts, hK, hI, by rw [← hAe]; exact gA_ad, by rw [← hAe]; exact gA_sz, by rw [← hAe]; exact hZ⟩
  have G : gW D ad cy N A s.heap c d0 s.heap [] := ⟨hP, va_S.rf⟩
  suffices hgen : ∀ (H : Heap) (locs : List Loc), gW D ad cy N A s.heap c d0 H locs → W p l e rmL_look s m args below meth cod H locs 0 0 (MQ below (va_Qi (fun (z : Int32) (_ : Unit) => z = rZ) (fun _ U => gE D ad cy N cZ d0 U) A) args s 1 6 A) (F0 m 0 ls []) from hgen _ _ G
  clear G
  intro H locs G
  unfold m_L_look at h
  obtain ⟨hk, h⟩ := gc_s h
  obtain ⟨hk2, h⟩ := gc_s h
  have ht : t < N := Nat.lt_of_lt_of_le (gck_lt9 hk) (Nat.le_trans (by decide) hN)
  have ht2 : o < N := Nat.lt_of_lt_of_le (gck_lt26 hk2) hN
  refine lv_aload_n hx hb dL_look_0 rfl (lv_at hl 2 rfl) ?_
  refine lv_iconst (v := 0) hx hb dL_look_1 (by decide) ?_
  refine lv_aload_n hx hb dL_look_2 rfl (lv_at hl 0 rfl) ?_
  refine lv_iload_n hx hb dL_look_3 rfl (lv_at hl 1 rfl) ?_
  rcases gbw_s h with ⟨⟨r1, c1⟩, hc, h⟩ | ⟨k1, c1, hc, h⟩
  · refine gx_calli F G (va_runV (As := [.int a1]) (rest := [.int 0, .ref (ad o)]) (gx_fix F) (c_X9_look l sa D ad cy N H.size (Nat.le_trans (by decide) hN) hI c d0 hc) (cwV 1 hts gL_look_X9_look rfl rfl rfl (by decide +kernel) ⟨by decide, by decide⟩) (gx_rec F G ht (gwe_9 hk) rfl) rfl rfl hl.1 rfl (lv_room (Nat.le_of_ble_eq_true rfl)) dL_look_4 ⟨by decide, by decide⟩) (fun H locs G => ?_)
    refine lv_i2l hx hb dL_look_7 rfl ?_
    refine gx_ls F G hk2 ht2 (n := 1) (by rw [gal26 hk2]) (by decide) dL_look_8 (fun H locs G => ?_)
    refine lv_goto (tgt := 15) hx hb dL_look_9 (by decide) ?_
    refine lv_iconst (v := 0) hx hb dL_look_15 (by decide) ?_
    cases h
    exact W.widen (k := 1) (n := 6) (by decide) (by decide) (gx_iret F G hr hlocks dL_look_16)
  · refine gx_xci F G (vx_runV (As := [.int a1]) (rest := [.int 0, .ref (ad o)]) (gx_fix F) (cx_X9_look l hlt sa D ad cy N H.size (Nat.le_trans (by decide) hN) hI c d0 hc) (cwV 1 hts gL_look_X9_look rfl rfl rfl (by decide +kernel) ⟨by decide, by decide⟩) (gx_rec F G ht (gwe_9 hk) rfl) rfl rfl hl.1 rfl (lv_room (Nat.le_of_ble_eq_true rfl)) dL_look_4 ⟨by decide, by decide⟩) (fun ce q9 H locs G hce hv hcl => ?_)
    by_cases hk1 : k1 = 1
    · replace h := gt_s hk1 h
      subst hk1
      refine vx_catch (E := "java/lang/IllegalArgumentException") (name := "java/lang/IllegalArgumentException") hown [] ⟨0, 9, 12, 13⟩ [] htab (fun z hz => nomatch hz) (by decide) (by decide) (hts (.classLink RL 13 "java/lang/IllegalArgumentException") (by decide +kernel)) (va_Nw.use rfl F.2.2.2.2.2.2.2.2.2.2.2.2.2.2.2.1.1) hce hv hcl ?_
      refine lv_astore_n (lv' := [(3, .ref q9), (0, .ref (ad t)), (1, .int a1), (2, .ref (ad o))]) hx hb dL_look_12 rfl hl (by decide) rfl (fun ls hl => ?_)
      refine lv_iconst (v := 1) hx hb dL_look_13 (by decide) ?_
      cases h
      exact gx_iret F G hr hlocks dL_look_14
    · replace h := gf_s hk1 h
      by_cases hk0 : k1 = 0
      · replace h := gt_s hk0 h
        subst hk0
        cases h
      · replace h := gf_s hk0 h
        cases h
def m_L_falsely (n : Nat) (t : Nat) (a1 : Int32) (o : Nat) (c : gm) : Option (Int32 × gm) :=
  gc (gck t = 9) (gc (gck o = 26) (gbw (m_X9_falsely n t a1 c) (fun (q : Int32 × gm) => some (0, gm_l q.2 o (vp_updL (q.2.2.1 o) (0 : Int32).toNatClampNeg q.1.toInt64))) (fun (k : Nat) (c1 : gm) => if k = 1 then some (1, c1) else if k = 0 then none else none)))
abbrev rmL_falsely : Room := { frames := 8, cells := 1, slots := 6, locals := 134 }
set_option maxHeartbeats 4000000 in
set_option maxRecDepth 100000 in
theorem c_L_falsely (l : Launch) (hlt : l.stackTraces = false) (sa : gSa) (D : va_G) (ad : Nat → Nat) (cy : Nat → ClassId) (N sz : Nat) (hN : 531 ≤ N) (hI : gI ad N) (c d0 : gm) {n : Nat} {t : Nat} {a1 : Int32} {o : Nat} {rZ : Int32} {cZ : gm} (h : m_L_falsely n t a1 o c = some (rZ, cZ)) : Met l yL_falsely wsL_falsely rmL_falsely (va_Pc [.ref (ad t), .int a1, .ref (ad o)] (gP sa D ad cy N sz c d0)) (va_Qi (fun (z : Int32) (_ : Unit) => z = rZ) (fun _ U => gE D ad cy N cZ d0 U) (gA ad N sz)) 1 6 (gA ad N sz) := by
  refine va_MetW (cc := cL_falsely) (maxL := 4) (ret := (some .int)) (hh := [(0, 9, 12, 13)]) (by decide) rfl ?_
  intro p e s m args below meth cod s₁ B hml hv
  obtain ⟨rfl, hsz, hP, hK, hZ⟩ := hv
  have hx := B.exec
  have hb := B.bytes
  have hr := B.returns
  have hts := atoms_spec (ws := wsL_falsely) B.pre
  have htab := vx_table (x := yL_market) B (hts _ List.mem_cons_self)
  have hown : s.vm.findClass RL = some m.cls := findClass_of_methodNamed B.named
  have hlocks := B.notSynchronized
  subst hsz
  have hl := lv_entry ([.ref (ad t), .int a1, .ref (ad o)]) (n := 4) (Nat.le_of_ble_eq_true rfl)
  rw [lg_entry_eq]
  generalize (lg_sl ([.ref (ad t), .int a1, .ref (ad o)]) ++ List.replicate (4 - (lg_sl ([.ref (ad t), .int a1, .ref (ad o)])).length) Slot.unset).toArray = ls at hl ⊢
  have hl : lv_has ls 4 [(0, .ref (ad t)), (1, .int a1), (2, .ref (ad o))] := hl
  generalize hargs : ([.ref (ad t), .int a1, .ref (ad o)] : List Value).toArray = args at *
  generalize hAe : gA ad N s.heap.size = A
  have F : gF sa D ad cy N A p s m args cod cL_falsely 4 wsL_falsely RL := ⟨hx, hb, hml, hown, hts, hK, hI, by rw [← hAe]; exact gA_ad, by rw [← hAe]; exact gA_sz, by rw [← hAe]; exact hZ⟩
  have G : gW D ad cy N A s.heap c d0 s.heap [] := ⟨hP, va_S.rf⟩
  suffices hgen : ∀ (H : Heap) (locs : List Loc), gW D ad cy N A s.heap c d0 H locs → W p l e rmL_falsely s m args below meth cod H locs 0 0 (MQ below (va_Qi (fun (z : Int32) (_ : Unit) => z = rZ) (fun _ U => gE D ad cy N cZ d0 U) A) args s 1 6 A) (F0 m 0 ls []) from hgen _ _ G
  clear G
  intro H locs G
  unfold m_L_falsely at h
  obtain ⟨hk, h⟩ := gc_s h
  obtain ⟨hk2, h⟩ := gc_s h
  have ht : t < N := Nat.lt_of_lt_of_le (gck_lt9 hk) (Nat.le_trans (by decide) hN)
  have ht2 : o < N := Nat.lt_of_lt_of_le (gck_lt26 hk2) hN
  refine lv_aload_n hx hb dL_falsely_0 rfl (lv_at hl 2 rfl) ?_
  refine lv_iconst (v := 0) hx hb dL_falsely_1 (by decide) ?_
  refine lv_aload_n hx hb dL_falsely_2 rfl (lv_at hl 0 rfl) ?_
  refine lv_iload_n hx hb dL_falsely_3 rfl (lv_at hl 1 rfl) ?_
  rcases gbw_s h with ⟨⟨r1, c1⟩, hc, h⟩ | ⟨k1, c1, hc, h⟩
  · refine gx_calli F G (va_runV (As := [.int a1]) (rest := [.int 0, .ref (ad o)]) (gx_fix F) (c_X9_falsely l sa D ad cy N H.size (Nat.le_trans (by decide) hN) hI c d0 hc) (cwV 1 hts gL_falsely_X9_falsely rfl rfl rfl (by decide +kernel) ⟨by decide, by decide⟩) (gx_rec F G ht (gwe_9 hk) rfl) rfl rfl hl.1 rfl (lv_room (Nat.le_of_ble_eq_true rfl)) dL_falsely_4 ⟨by decide, by decide⟩) (fun H locs G => ?_)
    refine lv_i2l hx hb dL_falsely_7 rfl ?_
    refine gx_ls F G hk2 ht2 (n := 1) (by rw [gal26 hk2]) (by decide) dL_falsely_8 (fun H locs G => ?_)
    refine lv_goto (tgt := 15) hx hb dL_falsely_9 (by decide) ?_
    refine lv_iconst (v := 0) hx hb dL_falsely_15 (by decide) ?_
    cases h
    exact W.widen (k := 1) (n := 6) (by decide) (by decide) (gx_iret F G hr hlocks dL_falsely_16)
  · refine gx_xci F G (vx_runV (As := [.int a1]) (rest := [.int 0, .ref (ad o)]) (gx_fix F) (cx_X9_falsely l hlt sa D ad cy N H.size (Nat.le_trans (by decide) hN) hI c d0 hc) (cwV 1 hts gL_falsely_X9_falsely rfl rfl rfl (by decide +kernel) ⟨by decide, by decide⟩) (gx_rec F G ht (gwe_9 hk) rfl) rfl rfl hl.1 rfl (lv_room (Nat.le_of_ble_eq_true rfl)) dL_falsely_4 ⟨by decide, by decide⟩) (fun ce q9 H locs G hce hv hcl => ?_)
    by_cases hk1 : k1 = 1
    · replace h := gt_s hk1 h
      subst hk1
      refine vx_catch (E := "java/lang/IllegalArgumentException") (name := "java/lang/IllegalArgumentException") hown [] ⟨0, 9, 12, 13⟩ [] htab (fun z hz => nomatch hz) (by decide) (by decide) (hts (.classLink RL 13 "java/lang/IllegalArgumentException") (by decide +kernel)) (va_Nw.use rfl F.2.2.2.2.2.2.2.2.2.2.2.2.2.2.2.1.1) hce hv hcl ?_
      refine lv_astore_n (lv' := [(3, .ref q9), (0, .ref (ad t)), (1, .int a1), (2, .ref (ad o))]) hx hb dL_falsely_12 rfl hl (by decide) rfl (fun ls hl => ?_)
      refine lv_iconst (v := 1) hx hb dL_falsely_13 (by decide) ?_
      cases h
      exact gx_iret F G hr hlocks dL_falsely_14
    · replace h := gf_s hk1 h
      by_cases hk0 : k1 = 0
      · replace h := gt_s hk0 h
        subst hk0
        cases h
      · replace h := gf_s hk0 h
        cases h
def m_L_sellers (n : Nat) (t : Nat) (a1 : Int32) (a2 : Int32) (a3 : Int32) (o : Nat) (c : gm) : Option (Int32 × gm) :=
  gc (gck t = 9) (gc (gck o = 26) (gbw (m_X9_sellers n t a1 a2 a3 c) (fun (q : Int32 × gm) => some (0, gm_l q.2 o (vp_updL (q.2.2.1 o) (0 : Int32).toNatClampNeg q.1.toInt64))) (fun (k : Nat) (c1 : gm) => if k = 1 then some (1, c1) else if k = 0 then none else none)))
abbrev rmL_sellers : Room := { frames := 8, cells := 1, slots := 6, locals := 140 }
set_option maxHeartbeats 4000000 in
set_option maxRecDepth 100000 in
theorem c_L_sellers (l : Launch) (hlt : l.stackTraces = false) (sa : gSa) (D : va_G) (ad : Nat → Nat) (cy : Nat → ClassId) (N sz : Nat) (hN : 531 ≤ N) (hI : gI ad N) (c d0 : gm) {n : Nat} {t : Nat} {a1 : Int32} {a2 : Int32} {a3 : Int32} {o : Nat} {rZ : Int32} {cZ : gm} (h : m_L_sellers n t a1 a2 a3 o c = some (rZ, cZ)) : Met l yL_sellers wsL_sellers rmL_sellers (va_Pc [.ref (ad t), .int a1, .int a2, .int a3, .ref (ad o)] (gP sa D ad cy N sz c d0)) (va_Qi (fun (z : Int32) (_ : Unit) => z = rZ) (fun _ U => gE D ad cy N cZ d0 U) (gA ad N sz)) 1 6 (gA ad N sz) := by
  refine va_MetW (cc := cL_sellers) (maxL := 6) (ret := (some .int)) (hh := [(0, 12, 15, 13)]) (by decide) rfl ?_
  intro p e s m args below meth cod s₁ B hml hv
  obtain ⟨rfl, hsz, hP, hK, hZ⟩ := hv
  have hx := B.exec
  have hb := B.bytes
  have hr := B.returns
  have hts := atoms_spec (ws := wsL_sellers) B.pre
  have htab := vx_table (x := yL_market) B (hts _ List.mem_cons_self)
  have hown : s.vm.findClass RL = some m.cls := findClass_of_methodNamed B.named
  have hlocks := B.notSynchronized
  subst hsz
  have hl := lv_entry ([.ref (ad t), .int a1, .int a2, .int a3, .ref (ad o)]) (n := 6) (Nat.le_of_ble_eq_true rfl)
  rw [lg_entry_eq]
  generalize (lg_sl ([.ref (ad t), .int a1, .int a2, .int a3, .ref (ad o)]) ++ List.replicate (6 - (lg_sl ([.ref (ad t), .int a1, .int a2, .int a3, .ref (ad o)])).length) Slot.unset).toArray = ls at hl ⊢
  have hl : lv_has ls 6 [(0, .ref (ad t)), (1, .int a1), (2, .int a2), (3, .int a3), (4, .ref (ad o))] := hl
  generalize hargs : ([.ref (ad t), .int a1, .int a2, .int a3, .ref (ad o)] : List Value).toArray = args at *
  generalize hAe : gA ad N s.heap.size = A
  have F : gF sa D ad cy N A p s m args cod cL_sellers 6 wsL_sellers RL := ⟨hx, hb, hml, hown, hts, hK, hI, by rw [← hAe]; exact gA_ad, by rw [← hAe]; exact gA_sz, by rw [← hAe]; exact hZ⟩
  have G : gW D ad cy N A s.heap c d0 s.heap [] := ⟨hP, va_S.rf⟩
  suffices hgen : ∀ (H : Heap) (locs : List Loc), gW D ad cy N A s.heap c d0 H locs → W p l e rmL_sellers s m args below meth cod H locs 0 0 (MQ below (va_Qi (fun (z : Int32) (_ : Unit) => z = rZ) (fun _ U => gE D ad cy N cZ d0 U) A) args s 1 6 A) (F0 m 0 ls []) from hgen _ _ G
  clear G
  intro H locs G
  unfold m_L_sellers at h
  obtain ⟨hk, h⟩ := gc_s h
  obtain ⟨hk2, h⟩ := gc_s h
  have ht : t < N := Nat.lt_of_lt_of_le (gck_lt9 hk) (Nat.le_trans (by decide) hN)
  have ht2 : o < N := Nat.lt_of_lt_of_le (gck_lt26 hk2) hN
  refine lv_aload hx hb dL_sellers_0 (lv_at hl 4 rfl) ?_
  refine lv_iconst (v := 0) hx hb dL_sellers_2 (by decide) ?_
  refine lv_aload_n hx hb dL_sellers_3 rfl (lv_at hl 0 rfl) ?_
  refine lv_iload_n hx hb dL_sellers_4 rfl (lv_at hl 1 rfl) ?_
  refine lv_iload_n hx hb dL_sellers_5 rfl (lv_at hl 2 rfl) ?_
  refine lv_iload_n hx hb dL_sellers_6 rfl (lv_at hl 3 rfl) ?_
  rcases gbw_s h with ⟨⟨r1, c1⟩, hc, h⟩ | ⟨k1, c1, hc, h⟩
  · refine gx_calli F G (va_runV (As := [.int a1, .int a2, .int a3]) (rest := [.int 0, .ref (ad o)]) (gx_fix F) (c_X9_sellers l sa D ad cy N H.size (Nat.le_trans (by decide) hN) hI c d0 hc) (cwV 3 hts gL_sellers_X9_sellers rfl rfl rfl (by decide +kernel) ⟨by decide, by decide⟩) (gx_rec F G ht (gwe_9 hk) rfl) rfl rfl hl.1 rfl (lv_room (Nat.le_of_ble_eq_true rfl)) dL_sellers_7 ⟨by decide, by decide⟩) (fun H locs G => ?_)
    refine lv_i2l hx hb dL_sellers_10 rfl ?_
    refine gx_ls F G hk2 ht2 (n := 1) (by rw [gal26 hk2]) (by decide) dL_sellers_11 (fun H locs G => ?_)
    refine lv_goto (tgt := 19) hx hb dL_sellers_12 (by decide) ?_
    refine lv_iconst (v := 0) hx hb dL_sellers_19 (by decide) ?_
    cases h
    exact W.widen (k := 1) (n := 6) (by decide) (by decide) (gx_iret F G hr hlocks dL_sellers_20)
  · refine gx_xci F G (vx_runV (As := [.int a1, .int a2, .int a3]) (rest := [.int 0, .ref (ad o)]) (gx_fix F) (cx_X9_sellers l hlt sa D ad cy N H.size (Nat.le_trans (by decide) hN) hI c d0 hc) (cwV 3 hts gL_sellers_X9_sellers rfl rfl rfl (by decide +kernel) ⟨by decide, by decide⟩) (gx_rec F G ht (gwe_9 hk) rfl) rfl rfl hl.1 rfl (lv_room (Nat.le_of_ble_eq_true rfl)) dL_sellers_7 ⟨by decide, by decide⟩) (fun ce q9 H locs G hce hv hcl => ?_)
    by_cases hk1 : k1 = 1
    · replace h := gt_s hk1 h
      subst hk1
      refine vx_catch (E := "java/lang/IllegalArgumentException") (name := "java/lang/IllegalArgumentException") hown [] ⟨0, 12, 15, 13⟩ [] htab (fun z hz => nomatch hz) (by decide) (by decide) (hts (.classLink RL 13 "java/lang/IllegalArgumentException") (by decide +kernel)) (va_Nw.use rfl F.2.2.2.2.2.2.2.2.2.2.2.2.2.2.2.1.1) hce hv hcl ?_
      refine lv_astore (lv' := [(5, .ref q9), (0, .ref (ad t)), (1, .int a1), (2, .int a2), (3, .int a3), (4, .ref (ad o))]) hx hb dL_sellers_15 hl (by decide) rfl (fun ls hl => ?_)
      refine lv_iconst (v := 1) hx hb dL_sellers_17 (by decide) ?_
      cases h
      exact gx_iret F G hr hlocks dL_sellers_18
    · replace h := gf_s hk1 h
      by_cases hk0 : k1 = 0
      · replace h := gt_s hk0 h
        subst hk0
        cases h
      · replace h := gf_s hk0 h
        cases h
def m_L_even (n : Nat) (t : Nat) (a1 : Int32) (a2 : Int32) (a3 : Int32) (o : Nat) (c : gm) : Option (Int32 × gm) :=
  gc (gck t = 9) (gc (gck o = 26) (gbw (m_X9_even n t a1 a2 a3 c) (fun (q : Int64 × gm) => some (0, gm_l q.2 o (vp_updL (q.2.2.1 o) (0 : Int32).toNatClampNeg q.1))) (fun (k : Nat) (c1 : gm) => if k = 1 then some (1, c1) else if k = 0 then none else none)))
abbrev rmL_even : Room := { frames := 8, cells := 1, slots := 6, locals := 139 }
set_option maxHeartbeats 4000000 in
set_option maxRecDepth 100000 in
theorem c_L_even (l : Launch) (hlt : l.stackTraces = false) (sa : gSa) (D : va_G) (ad : Nat → Nat) (cy : Nat → ClassId) (N sz : Nat) (hN : 531 ≤ N) (hI : gI ad N) (c d0 : gm) {n : Nat} {t : Nat} {a1 : Int32} {a2 : Int32} {a3 : Int32} {o : Nat} {rZ : Int32} {cZ : gm} (h : m_L_even n t a1 a2 a3 o c = some (rZ, cZ)) : Met l yL_even wsL_even rmL_even (va_Pc [.ref (ad t), .int a1, .int a2, .int a3, .ref (ad o)] (gP sa D ad cy N sz c d0)) (va_Qi (fun (z : Int32) (_ : Unit) => z = rZ) (fun _ U => gE D ad cy N cZ d0 U) (gA ad N sz)) 1 6 (gA ad N sz) := by
  refine va_MetW (cc := cL_even) (maxL := 6) (ret := (some .int)) (hh := [(0, 11, 14, 13)]) (by decide) rfl ?_
  intro p e s m args below meth cod s₁ B hml hv
  obtain ⟨rfl, hsz, hP, hK, hZ⟩ := hv
  have hx := B.exec
  have hb := B.bytes
  have hr := B.returns
  have hts := atoms_spec (ws := wsL_even) B.pre
  have htab := vx_table (x := yL_market) B (hts _ List.mem_cons_self)
  have hown : s.vm.findClass RL = some m.cls := findClass_of_methodNamed B.named
  have hlocks := B.notSynchronized
  subst hsz
  have hl := lv_entry ([.ref (ad t), .int a1, .int a2, .int a3, .ref (ad o)]) (n := 6) (Nat.le_of_ble_eq_true rfl)
  rw [lg_entry_eq]
  generalize (lg_sl ([.ref (ad t), .int a1, .int a2, .int a3, .ref (ad o)]) ++ List.replicate (6 - (lg_sl ([.ref (ad t), .int a1, .int a2, .int a3, .ref (ad o)])).length) Slot.unset).toArray = ls at hl ⊢
  have hl : lv_has ls 6 [(0, .ref (ad t)), (1, .int a1), (2, .int a2), (3, .int a3), (4, .ref (ad o))] := hl
  generalize hargs : ([.ref (ad t), .int a1, .int a2, .int a3, .ref (ad o)] : List Value).toArray = args at *
  generalize hAe : gA ad N s.heap.size = A
  have F : gF sa D ad cy N A p s m args cod cL_even 6 wsL_even RL := ⟨hx, hb, hml, hown, hts, hK, hI, by rw [← hAe]; exact gA_ad, by rw [← hAe]; exact gA_sz, by rw [← hAe]; exact hZ⟩
  have G : gW D ad cy N A s.heap c d0 s.heap [] := ⟨hP, va_S.rf⟩
  suffices hgen : ∀ (H : Heap) (locs : List Loc), gW D ad cy N A s.heap c d0 H locs → W p l e rmL_even s m args below meth cod H locs 0 0 (MQ below (va_Qi (fun (z : Int32) (_ : Unit) => z = rZ) (fun _ U => gE D ad cy N cZ d0 U) A) args s 1 6 A) (F0 m 0 ls []) from hgen _ _ G
  clear G
  intro H locs G
  unfold m_L_even at h
  obtain ⟨hk, h⟩ := gc_s h
  obtain ⟨hk2, h⟩ := gc_s h
  have ht : t < N := Nat.lt_of_lt_of_le (gck_lt9 hk) (Nat.le_trans (by decide) hN)
  have ht2 : o < N := Nat.lt_of_lt_of_le (gck_lt26 hk2) hN
  refine lv_aload hx hb dL_even_0 (lv_at hl 4 rfl) ?_
  refine lv_iconst (v := 0) hx hb dL_even_2 (by decide) ?_
  refine lv_aload_n hx hb dL_even_3 rfl (lv_at hl 0 rfl) ?_
  refine lv_iload_n hx hb dL_even_4 rfl (lv_at hl 1 rfl) ?_
  refine lv_iload_n hx hb dL_even_5 rfl (lv_at hl 2 rfl) ?_
  refine lv_iload_n hx hb dL_even_6 rfl (lv_at hl 3 rfl) ?_
  rcases gbw_s h with ⟨⟨r1, c1⟩, hc, h⟩ | ⟨k1, c1, hc, h⟩
  · refine gx_calll F G (va_runV (As := [.int a1, .int a2, .int a3]) (rest := [.int 0, .ref (ad o)]) (gx_fix F) (c_X9_even l sa D ad cy N H.size (Nat.le_trans (by decide) hN) hI c d0 hc) (cwV 3 hts gL_even_X9_even rfl rfl rfl (by decide +kernel) ⟨by decide, by decide⟩) (gx_rec F G ht (gwe_9 hk) rfl) rfl rfl hl.1 rfl (lv_room (Nat.le_of_ble_eq_true rfl)) dL_even_7 ⟨by decide, by decide⟩) (fun H locs G => ?_)
    refine gx_ls F G hk2 ht2 (n := 1) (by rw [gal26 hk2]) (by decide) dL_even_10 (fun H locs G => ?_)
    refine lv_goto (tgt := 18) hx hb dL_even_11 (by decide) ?_
    refine lv_iconst (v := 0) hx hb dL_even_18 (by decide) ?_
    cases h
    exact W.widen (k := 1) (n := 6) (by decide) (by decide) (gx_iret F G hr hlocks dL_even_19)
  · refine gx_xcl F G (vx_runV (As := [.int a1, .int a2, .int a3]) (rest := [.int 0, .ref (ad o)]) (gx_fix F) (cx_X9_even l hlt sa D ad cy N H.size (Nat.le_trans (by decide) hN) hI c d0 hc) (cwV 3 hts gL_even_X9_even rfl rfl rfl (by decide +kernel) ⟨by decide, by decide⟩) (gx_rec F G ht (gwe_9 hk) rfl) rfl rfl hl.1 rfl (lv_room (Nat.le_of_ble_eq_true rfl)) dL_even_7 ⟨by decide, by decide⟩) (fun ce q9 H locs G hce hv hcl => ?_)
    by_cases hk1 : k1 = 1
    · replace h := gt_s hk1 h
      subst hk1
      refine vx_catch (E := "java/lang/IllegalArgumentException") (name := "java/lang/IllegalArgumentException") hown [] ⟨0, 11, 14, 13⟩ [] htab (fun z hz => nomatch hz) (by decide) (by decide) (hts (.classLink RL 13 "java/lang/IllegalArgumentException") (by decide +kernel)) (va_Nw.use rfl F.2.2.2.2.2.2.2.2.2.2.2.2.2.2.2.1.1) hce hv hcl ?_
      refine lv_astore (lv' := [(5, .ref q9), (0, .ref (ad t)), (1, .int a1), (2, .int a2), (3, .int a3), (4, .ref (ad o))]) hx hb dL_even_14 hl (by decide) rfl (fun ls hl => ?_)
      refine lv_iconst (v := 1) hx hb dL_even_16 (by decide) ?_
      cases h
      exact gx_iret F G hr hlocks dL_even_17
    · replace h := gf_s hk1 h
      by_cases hk0 : k1 = 0
      · replace h := gt_s hk0 h
        subst hk0
        cases h
      · replace h := gf_s hk0 h
        cases h
def m_L_share (n : Nat) (t : Nat) (a1 : Int32) (a2 : Int32) (a3 : Int32) (o : Nat) (c : gm) : Option (Int32 × gm) :=
  gc (gck t = 9) (gc (gck o = 26) (gbw (m_X9_share n t a1 a2 a3 c) (fun (q : Int32 × gm) => some (0, gm_l q.2 o (vp_updL (q.2.2.1 o) (0 : Int32).toNatClampNeg q.1.toInt64))) (fun (k : Nat) (c1 : gm) => if k = 1 then some (2, c1) else if k = 0 then some (1, c1) else none)))
abbrev rmL_share : Room := { frames := 9, cells := 1, slots := 6, locals := 155 }
set_option maxHeartbeats 4000000 in
set_option maxRecDepth 100000 in
theorem c_L_share (l : Launch) (hlt : l.stackTraces = false) (sa : gSa) (D : va_G) (ad : Nat → Nat) (cy : Nat → ClassId) (N sz : Nat) (hN : 531 ≤ N) (hI : gI ad N) (c d0 : gm) {n : Nat} {t : Nat} {a1 : Int32} {a2 : Int32} {a3 : Int32} {o : Nat} {rZ : Int32} {cZ : gm} (h : m_L_share n t a1 a2 a3 o c = some (rZ, cZ)) : Met l yL_share wsL_share rmL_share (va_Pc [.ref (ad t), .int a1, .int a2, .int a3, .ref (ad o)] (gP sa D ad cy N sz c d0)) (va_Qi (fun (z : Int32) (_ : Unit) => z = rZ) (fun _ U => gE D ad cy N cZ d0 U) (gA ad N sz)) 1 6 (gA ad N sz) := by
  refine va_MetW (cc := cL_share) (maxL := 6) (ret := (some .int)) (hh := [(0, 12, 15, 31), (0, 12, 19, 13)]) (by decide) rfl ?_
  intro p e s m args below meth cod s₁ B hml hv
  obtain ⟨rfl, hsz, hP, hK, hZ⟩ := hv
  have hx := B.exec
  have hb := B.bytes
  have hr := B.returns
  have hts := atoms_spec (ws := wsL_share) B.pre
  have htab := vx_table (x := yL_market) B (hts _ List.mem_cons_self)
  have hown : s.vm.findClass RL = some m.cls := findClass_of_methodNamed B.named
  have hlocks := B.notSynchronized
  subst hsz
  have hl := lv_entry ([.ref (ad t), .int a1, .int a2, .int a3, .ref (ad o)]) (n := 6) (Nat.le_of_ble_eq_true rfl)
  rw [lg_entry_eq]
  generalize (lg_sl ([.ref (ad t), .int a1, .int a2, .int a3, .ref (ad o)]) ++ List.replicate (6 - (lg_sl ([.ref (ad t), .int a1, .int a2, .int a3, .ref (ad o)])).length) Slot.unset).toArray = ls at hl ⊢
  have hl : lv_has ls 6 [(0, .ref (ad t)), (1, .int a1), (2, .int a2), (3, .int a3), (4, .ref (ad o))] := hl
  generalize hargs : ([.ref (ad t), .int a1, .int a2, .int a3, .ref (ad o)] : List Value).toArray = args at *
  generalize hAe : gA ad N s.heap.size = A
  have F : gF sa D ad cy N A p s m args cod cL_share 6 wsL_share RL := ⟨hx, hb, hml, hown, hts, hK, hI, by rw [← hAe]; exact gA_ad, by rw [← hAe]; exact gA_sz, by rw [← hAe]; exact hZ⟩
  have G : gW D ad cy N A s.heap c d0 s.heap [] := ⟨hP, va_S.rf⟩
  suffices hgen : ∀ (H : Heap) (locs : List Loc), gW D ad cy N A s.heap c d0 H locs → W p l e rmL_share s m args below meth cod H locs 0 0 (MQ below (va_Qi (fun (z : Int32) (_ : Unit) => z = rZ) (fun _ U => gE D ad cy N cZ d0 U) A) args s 1 6 A) (F0 m 0 ls []) from hgen _ _ G
  clear G
  intro H locs G
  unfold m_L_share at h
  obtain ⟨hk, h⟩ := gc_s h
  obtain ⟨hk2, h⟩ := gc_s h
  have ht : t < N := Nat.lt_of_lt_of_le (gck_lt9 hk) (Nat.le_trans (by decide) hN)
  have ht2 : o < N := Nat.lt_of_lt_of_le (gck_lt26 hk2) hN
  refine lv_aload hx hb dL_share_0 (lv_at hl 4 rfl) ?_
  refine lv_iconst (v := 0) hx hb dL_share_2 (by decide) ?_
  refine lv_aload_n hx hb dL_share_3 rfl (lv_at hl 0 rfl) ?_
  refine lv_iload_n hx hb dL_share_4 rfl (lv_at hl 1 rfl) ?_
  refine lv_iload_n hx hb dL_share_5 rfl (lv_at hl 2 rfl) ?_
  refine lv_iload_n hx hb dL_share_6 rfl (lv_at hl 3 rfl) ?_
  rcases gbw_s h with ⟨⟨r1, c1⟩, hc, h⟩ | ⟨k1, c1, hc, h⟩
  · refine gx_calli F G (va_runV (As := [.int a1, .int a2, .int a3]) (rest := [.int 0, .ref (ad o)]) (gx_fix F) (c_X9_share l sa D ad cy N H.size (Nat.le_trans (by decide) hN) hI c d0 hc) (cwV 3 hts gL_share_X9_share rfl rfl rfl (by decide +kernel) ⟨by decide, by decide⟩) (gx_rec F G ht (gwe_9 hk) rfl) rfl rfl hl.1 rfl (lv_room (Nat.le_of_ble_eq_true rfl)) dL_share_7 ⟨by decide, by decide⟩) (fun H locs G => ?_)
    refine lv_i2l hx hb dL_share_10 rfl ?_
    refine gx_ls F G hk2 ht2 (n := 1) (by rw [gal26 hk2]) (by decide) dL_share_11 (fun H locs G => ?_)
    refine lv_goto (tgt := 23) hx hb dL_share_12 (by decide) ?_
    refine lv_iconst (v := 0) hx hb dL_share_23 (by decide) ?_
    cases h
    exact W.widen (k := 1) (n := 6) (by decide) (by decide) (gx_iret F G hr hlocks dL_share_24)
  · refine gx_xci F G (vx_runV (As := [.int a1, .int a2, .int a3]) (rest := [.int 0, .ref (ad o)]) (gx_fix F) (cx_X9_share l hlt sa D ad cy N H.size (Nat.le_trans (by decide) hN) hI c d0 hc) (cwV 3 hts gL_share_X9_share rfl rfl rfl (by decide +kernel) ⟨by decide, by decide⟩) (gx_rec F G ht (gwe_9 hk) rfl) rfl rfl hl.1 rfl (lv_room (Nat.le_of_ble_eq_true rfl)) dL_share_7 ⟨by decide, by decide⟩) (fun ce q9 H locs G hce hv hcl => ?_)
    by_cases hk1 : k1 = 1
    · replace h := gt_s hk1 h
      subst hk1
      refine vx_catch (E := "java/lang/IllegalArgumentException") (name := "java/lang/IllegalArgumentException") hown [⟨0, 12, 15, 31⟩] ⟨0, 12, 19, 13⟩ [] htab (fun z hz => by rw [List.mem_singleton.mp hz]; exact Or.inr ⟨by decide, "java/util/NoSuchElementException", hts (.classLink RL 31 "java/util/NoSuchElementException") (by decide +kernel), F.2.2.2.2.2.2.2.2.2.2.2.2.2.2.2.2⟩) (by decide) (by decide) (hts (.classLink RL 13 "java/lang/IllegalArgumentException") (by decide +kernel)) (va_Nw.use rfl F.2.2.2.2.2.2.2.2.2.2.2.2.2.2.2.1.1) hce hv hcl ?_
      refine lv_astore (lv' := [(5, .ref q9), (0, .ref (ad t)), (1, .int a1), (2, .int a2), (3, .int a3), (4, .ref (ad o))]) hx hb dL_share_19 hl (by decide) rfl (fun ls hl => ?_)
      refine lv_iconst (v := 2) hx hb dL_share_21 (by decide) ?_
      cases h
      exact gx_iret F G hr hlocks dL_share_22
    · replace h := gf_s hk1 h
      by_cases hk0 : k1 = 0
      · replace h := gt_s hk0 h
        subst hk0
        refine vx_catch (E := "java/util/NoSuchElementException") (name := "java/util/NoSuchElementException") hown [] ⟨0, 12, 15, 31⟩ [⟨0, 12, 19, 13⟩] htab (fun z hz => nomatch hz) (by decide) (by decide) (hts (.classLink RL 31 "java/util/NoSuchElementException") (by decide +kernel)) (va_Nw.use rfl F.2.2.2.2.2.2.2.2.2.2.2.2.2.2.2.1.2) hce hv hcl ?_
        refine lv_astore (lv' := [(5, .ref q9), (0, .ref (ad t)), (1, .int a1), (2, .int a2), (3, .int a3), (4, .ref (ad o))]) hx hb dL_share_15 hl (by decide) rfl (fun ls hl => ?_)
        refine lv_iconst (v := 1) hx hb dL_share_17 (by decide) ?_
        cases h
        exact gx_iret F G hr hlocks dL_share_18
      · replace h := gf_s hk0 h
        cases h
def m_L_heaviest (n : Nat) (t : Nat) (a1 : Int32) (o : Nat) (c : gm) : Option (Int32 × gm) :=
  gc (gck t = 9) (gc (gck o = 26) (gbw (m_X9_heaviest n t a1 c) (fun (q : Int32 × gm) => some (0, gm_l q.2 o (vp_updL (q.2.2.1 o) (0 : Int32).toNatClampNeg q.1.toInt64))) (fun (k : Nat) (c1 : gm) => if k = 1 then some (1, c1) else if k = 0 then none else none)))
abbrev rmL_heaviest : Room := { frames := 8, cells := 1, slots := 6, locals := 133 }
set_option maxHeartbeats 4000000 in
set_option maxRecDepth 100000 in
theorem c_L_heaviest (l : Launch) (hlt : l.stackTraces = false) (sa : gSa) (D : va_G) (ad : Nat → Nat) (cy : Nat → ClassId) (N sz : Nat) (hN : 531 ≤ N) (hI : gI ad N) (c d0 : gm) {n : Nat} {t : Nat} {a1 : Int32} {o : Nat} {rZ : Int32} {cZ : gm} (h : m_L_heaviest n t a1 o c = some (rZ, cZ)) : Met l yL_heaviest wsL_heaviest rmL_heaviest (va_Pc [.ref (ad t), .int a1, .ref (ad o)] (gP sa D ad cy N sz c d0)) (va_Qi (fun (z : Int32) (_ : Unit) => z = rZ) (fun _ U => gE D ad cy N cZ d0 U) (gA ad N sz)) 1 6 (gA ad N sz) := by
  refine va_MetW (cc := cL_heaviest) (maxL := 4) (ret := (some .int)) (hh := [(0, 9, 12, 13)]) (by decide) rfl ?_
  intro p e s m args below meth cod s₁ B hml hv
  obtain ⟨rfl, hsz, hP, hK, hZ⟩ := hv
  have hx := B.exec
  have hb := B.bytes
  have hr := B.returns
  have hts := atoms_spec (ws := wsL_heaviest) B.pre
  have htab := vx_table (x := yL_market) B (hts _ List.mem_cons_self)
  have hown : s.vm.findClass RL = some m.cls := findClass_of_methodNamed B.named
  have hlocks := B.notSynchronized
  subst hsz
  have hl := lv_entry ([.ref (ad t), .int a1, .ref (ad o)]) (n := 4) (Nat.le_of_ble_eq_true rfl)
  rw [lg_entry_eq]
  generalize (lg_sl ([.ref (ad t), .int a1, .ref (ad o)]) ++ List.replicate (4 - (lg_sl ([.ref (ad t), .int a1, .ref (ad o)])).length) Slot.unset).toArray = ls at hl ⊢
  have hl : lv_has ls 4 [(0, .ref (ad t)), (1, .int a1), (2, .ref (ad o))] := hl
  generalize hargs : ([.ref (ad t), .int a1, .ref (ad o)] : List Value).toArray = args at *
  generalize hAe : gA ad N s.heap.size = A
  have F : gF sa D ad cy N A p s m args cod cL_heaviest 4 wsL_heaviest RL := ⟨hx, hb, hml, hown, hts, hK, hI, by rw [← hAe]; exact gA_ad, by rw [← hAe]; exact gA_sz, by rw [← hAe]; exact hZ⟩
  have G : gW D ad cy N A s.heap c d0 s.heap [] := ⟨hP, va_S.rf⟩
  suffices hgen : ∀ (H : Heap) (locs : List Loc), gW D ad cy N A s.heap c d0 H locs → W p l e rmL_heaviest s m args below meth cod H locs 0 0 (MQ below (va_Qi (fun (z : Int32) (_ : Unit) => z = rZ) (fun _ U => gE D ad cy N cZ d0 U) A) args s 1 6 A) (F0 m 0 ls []) from hgen _ _ G
  clear G
  intro H locs G
  unfold m_L_heaviest at h
  obtain ⟨hk, h⟩ := gc_s h
  obtain ⟨hk2, h⟩ := gc_s h
  have ht : t < N := Nat.lt_of_lt_of_le (gck_lt9 hk) (Nat.le_trans (by decide) hN)
  have ht2 : o < N := Nat.lt_of_lt_of_le (gck_lt26 hk2) hN
  refine lv_aload_n hx hb dL_heaviest_0 rfl (lv_at hl 2 rfl) ?_
  refine lv_iconst (v := 0) hx hb dL_heaviest_1 (by decide) ?_
  refine lv_aload_n hx hb dL_heaviest_2 rfl (lv_at hl 0 rfl) ?_
  refine lv_iload_n hx hb dL_heaviest_3 rfl (lv_at hl 1 rfl) ?_
  rcases gbw_s h with ⟨⟨r1, c1⟩, hc, h⟩ | ⟨k1, c1, hc, h⟩
  · refine gx_calli F G (va_runV (As := [.int a1]) (rest := [.int 0, .ref (ad o)]) (gx_fix F) (c_X9_heaviest l sa D ad cy N H.size (Nat.le_trans (by decide) hN) hI c d0 hc) (cwV 1 hts gL_heaviest_X9_heaviest rfl rfl rfl (by decide +kernel) ⟨by decide, by decide⟩) (gx_rec F G ht (gwe_9 hk) rfl) rfl rfl hl.1 rfl (lv_room (Nat.le_of_ble_eq_true rfl)) dL_heaviest_4 ⟨by decide, by decide⟩) (fun H locs G => ?_)
    refine lv_i2l hx hb dL_heaviest_7 rfl ?_
    refine gx_ls F G hk2 ht2 (n := 1) (by rw [gal26 hk2]) (by decide) dL_heaviest_8 (fun H locs G => ?_)
    refine lv_goto (tgt := 15) hx hb dL_heaviest_9 (by decide) ?_
    refine lv_iconst (v := 0) hx hb dL_heaviest_15 (by decide) ?_
    cases h
    exact W.widen (k := 1) (n := 6) (by decide) (by decide) (gx_iret F G hr hlocks dL_heaviest_16)
  · refine gx_xci F G (vx_runV (As := [.int a1]) (rest := [.int 0, .ref (ad o)]) (gx_fix F) (cx_X9_heaviest l hlt sa D ad cy N H.size (Nat.le_trans (by decide) hN) hI c d0 hc) (cwV 1 hts gL_heaviest_X9_heaviest rfl rfl rfl (by decide +kernel) ⟨by decide, by decide⟩) (gx_rec F G ht (gwe_9 hk) rfl) rfl rfl hl.1 rfl (lv_room (Nat.le_of_ble_eq_true rfl)) dL_heaviest_4 ⟨by decide, by decide⟩) (fun ce q9 H locs G hce hv hcl => ?_)
    by_cases hk1 : k1 = 1
    · replace h := gt_s hk1 h
      subst hk1
      refine vx_catch (E := "java/lang/IllegalArgumentException") (name := "java/lang/IllegalArgumentException") hown [] ⟨0, 9, 12, 13⟩ [] htab (fun z hz => nomatch hz) (by decide) (by decide) (hts (.classLink RL 13 "java/lang/IllegalArgumentException") (by decide +kernel)) (va_Nw.use rfl F.2.2.2.2.2.2.2.2.2.2.2.2.2.2.2.1.1) hce hv hcl ?_
      refine lv_astore_n (lv' := [(3, .ref q9), (0, .ref (ad t)), (1, .int a1), (2, .ref (ad o))]) hx hb dL_heaviest_12 rfl hl (by decide) rfl (fun ls hl => ?_)
      refine lv_iconst (v := 1) hx hb dL_heaviest_13 (by decide) ?_
      cases h
      exact gx_iret F G hr hlocks dL_heaviest_14
    · replace h := gf_s hk1 h
      by_cases hk0 : k1 = 0
      · replace h := gt_s hk0 h
        subst hk0
        cases h
      · replace h := gf_s hk0 h
        cases h
def m_L_above (n : Nat) (t : Nat) (a1 : Int32) (o : Nat) (c : gm) : Option (Int32 × gm) :=
  gc (gck t = 9) (gc (gck o = 26) (gbw (m_X9_above n t a1 c) (fun (q : Int32 × gm) => some (0, gm_l q.2 o (vp_updL (q.2.2.1 o) (0 : Int32).toNatClampNeg q.1.toInt64))) (fun (k : Nat) (c1 : gm) => if k = 1 then none else if k = 0 then some (1, c1) else none)))
abbrev rmL_above : Room := { frames := 17, cells := 1, slots := 6, locals := 567 }
set_option maxHeartbeats 4000000 in
set_option maxRecDepth 100000 in
theorem c_L_above (l : Launch) (hlt : l.stackTraces = false) (sa : gSa) (D : va_G) (ad : Nat → Nat) (cy : Nat → ClassId) (N sz : Nat) (hN : 531 ≤ N) (hI : gI ad N) (c d0 : gm) {n : Nat} {t : Nat} {a1 : Int32} {o : Nat} {rZ : Int32} {cZ : gm} (h : m_L_above n t a1 o c = some (rZ, cZ)) : Met l yL_above wsL_above rmL_above (va_Pc [.ref (ad t), .int a1, .ref (ad o)] (gP sa D ad cy N sz c d0)) (va_Qi (fun (z : Int32) (_ : Unit) => z = rZ) (fun _ U => gE D ad cy N cZ d0 U) (gA ad N sz)) 1 6 (gA ad N sz) := by
  refine va_MetW (cc := cL_above) (maxL := 4) (ret := (some .int)) (hh := [(0, 9, 12, 31)]) (by decide) rfl ?_
  intro p e s m args below meth cod s₁ B hml hv
  obtain ⟨rfl, hsz, hP, hK, hZ⟩ := hv
  have hx := B.exec
  have hb := B.bytes
  have hr := B.returns
  have hts := atoms_spec (ws := wsL_above) B.pre
  have htab := vx_table (x := yL_market) B (hts _ List.mem_cons_self)
  have hown : s.vm.findClass RL = some m.cls := findClass_of_methodNamed B.named
  have hlocks := B.notSynchronized
  subst hsz
  have hl := lv_entry ([.ref (ad t), .int a1, .ref (ad o)]) (n := 4) (Nat.le_of_ble_eq_true rfl)
  rw [lg_entry_eq]
  generalize (lg_sl ([.ref (ad t), .int a1, .ref (ad o)]) ++ List.replicate (4 - (lg_sl ([.ref (ad t), .int a1, .ref (ad o)])).length) Slot.unset).toArray = ls at hl ⊢
  have hl : lv_has ls 4 [(0, .ref (ad t)), (1, .int a1), (2, .ref (ad o))] := hl
  generalize hargs : ([.ref (ad t), .int a1, .ref (ad o)] : List Value).toArray = args at *
  generalize hAe : gA ad N s.heap.size = A
  have F : gF sa D ad cy N A p s m args cod cL_above 4 wsL_above RL := ⟨hx, hb, hml, hown, hts, hK, hI, by rw [← hAe]; exact gA_ad, by rw [← hAe]; exact gA_sz, by rw [← hAe]; exact hZ⟩
  have G : gW D ad cy N A s.heap c d0 s.heap [] := ⟨hP, va_S.rf⟩
  suffices hgen : ∀ (H : Heap) (locs : List Loc), gW D ad cy N A s.heap c d0 H locs → W p l e rmL_above s m args below meth cod H locs 0 0 (MQ below (va_Qi (fun (z : Int32) (_ : Unit) => z = rZ) (fun _ U => gE D ad cy N cZ d0 U) A) args s 1 6 A) (F0 m 0 ls []) from hgen _ _ G
  clear G
  intro H locs G
  unfold m_L_above at h
  obtain ⟨hk, h⟩ := gc_s h
  obtain ⟨hk2, h⟩ := gc_s h
  have ht : t < N := Nat.lt_of_lt_of_le (gck_lt9 hk) (Nat.le_trans (by decide) hN)
  have ht2 : o < N := Nat.lt_of_lt_of_le (gck_lt26 hk2) hN
  refine lv_aload_n hx hb dL_above_0 rfl (lv_at hl 2 rfl) ?_
  refine lv_iconst (v := 0) hx hb dL_above_1 (by decide) ?_
  refine lv_aload_n hx hb dL_above_2 rfl (lv_at hl 0 rfl) ?_
  refine lv_iload_n hx hb dL_above_3 rfl (lv_at hl 1 rfl) ?_
  rcases gbw_s h with ⟨⟨r1, c1⟩, hc, h⟩ | ⟨k1, c1, hc, h⟩
  · refine gx_calli F G (va_runV (As := [.int a1]) (rest := [.int 0, .ref (ad o)]) (gx_fix F) (c_X9_above l sa D ad cy N H.size (Nat.le_trans (by decide) hN) hI c d0 hc) (cwV 1 hts gL_above_X9_above rfl rfl rfl (by decide +kernel) ⟨by decide, by decide⟩) (gx_rec F G ht (gwe_9 hk) rfl) rfl rfl hl.1 rfl (lv_room (Nat.le_of_ble_eq_true rfl)) dL_above_4 ⟨by decide, by decide⟩) (fun H locs G => ?_)
    refine lv_i2l hx hb dL_above_7 rfl ?_
    refine gx_ls F G hk2 ht2 (n := 1) (by rw [gal26 hk2]) (by decide) dL_above_8 (fun H locs G => ?_)
    refine lv_goto (tgt := 15) hx hb dL_above_9 (by decide) ?_
    refine lv_iconst (v := 0) hx hb dL_above_15 (by decide) ?_
    cases h
    exact W.widen (k := 1) (n := 6) (by decide) (by decide) (gx_iret F G hr hlocks dL_above_16)
  · refine gx_xci F G (vx_runV (As := [.int a1]) (rest := [.int 0, .ref (ad o)]) (gx_fix F) (cx_X9_above l hlt sa D ad cy N H.size (Nat.le_trans (by decide) hN) hI c d0 hc) (cwV 1 hts gL_above_X9_above rfl rfl rfl (by decide +kernel) ⟨by decide, by decide⟩) (gx_rec F G ht (gwe_9 hk) rfl) rfl rfl hl.1 rfl (lv_room (Nat.le_of_ble_eq_true rfl)) dL_above_4 ⟨by decide, by decide⟩) (fun ce q9 H locs G hce hv hcl => ?_)
    by_cases hk1 : k1 = 1
    · replace h := gt_s hk1 h
      subst hk1
      cases h
    · replace h := gf_s hk1 h
      by_cases hk0 : k1 = 0
      · replace h := gt_s hk0 h
        subst hk0
        refine vx_catch (E := "java/util/NoSuchElementException") (name := "java/util/NoSuchElementException") hown [] ⟨0, 9, 12, 31⟩ [] htab (fun z hz => nomatch hz) (by decide) (by decide) (hts (.classLink RL 31 "java/util/NoSuchElementException") (by decide +kernel)) (va_Nw.use rfl F.2.2.2.2.2.2.2.2.2.2.2.2.2.2.2.1.2) hce hv hcl ?_
        refine lv_astore_n (lv' := [(3, .ref q9), (0, .ref (ad t)), (1, .int a1), (2, .ref (ad o))]) hx hb dL_above_12 rfl hl (by decide) rfl (fun ls hl => ?_)
        refine lv_iconst (v := 1) hx hb dL_above_13 (by decide) ?_
        cases h
        exact gx_iret F G hr hlocks dL_above_14
      · replace h := gf_s hk0 h
        cases h
def m_L_alike (n : Nat) (t : Nat) (a1 : Int32) (o : Nat) (c : gm) : Option (Int32 × gm) :=
  gc (gck t = 9) (gc (gck o = 26) (gbw (m_X9_alike n t a1 c) (fun (q : Int32 × gm) => some (0, gm_l q.2 o (vp_updL (q.2.2.1 o) (0 : Int32).toNatClampNeg q.1.toInt64))) (fun (k : Nat) (c1 : gm) => if k = 1 then some (1, c1) else if k = 0 then none else none)))
abbrev rmL_alike : Room := { frames := 8, cells := 1, slots := 6, locals := 136 }
set_option maxHeartbeats 4000000 in
set_option maxRecDepth 100000 in
theorem c_L_alike (l : Launch) (hlt : l.stackTraces = false) (sa : gSa) (D : va_G) (ad : Nat → Nat) (cy : Nat → ClassId) (N sz : Nat) (hN : 531 ≤ N) (hI : gI ad N) (c d0 : gm) {n : Nat} {t : Nat} {a1 : Int32} {o : Nat} {rZ : Int32} {cZ : gm} (h : m_L_alike n t a1 o c = some (rZ, cZ)) : Met l yL_alike wsL_alike rmL_alike (va_Pc [.ref (ad t), .int a1, .ref (ad o)] (gP sa D ad cy N sz c d0)) (va_Qi (fun (z : Int32) (_ : Unit) => z = rZ) (fun _ U => gE D ad cy N cZ d0 U) (gA ad N sz)) 1 6 (gA ad N sz) := by
  refine va_MetW (cc := cL_alike) (maxL := 4) (ret := (some .int)) (hh := [(0, 9, 12, 13)]) (by decide) rfl ?_
  intro p e s m args below meth cod s₁ B hml hv
  obtain ⟨rfl, hsz, hP, hK, hZ⟩ := hv
  have hx := B.exec
  have hb := B.bytes
  have hr := B.returns
  have hts := atoms_spec (ws := wsL_alike) B.pre
  have htab := vx_table (x := yL_market) B (hts _ List.mem_cons_self)
  have hown : s.vm.findClass RL = some m.cls := findClass_of_methodNamed B.named
  have hlocks := B.notSynchronized
  subst hsz
  have hl := lv_entry ([.ref (ad t), .int a1, .ref (ad o)]) (n := 4) (Nat.le_of_ble_eq_true rfl)
  rw [lg_entry_eq]
  generalize (lg_sl ([.ref (ad t), .int a1, .ref (ad o)]) ++ List.replicate (4 - (lg_sl ([.ref (ad t), .int a1, .ref (ad o)])).length) Slot.unset).toArray = ls at hl ⊢
  have hl : lv_has ls 4 [(0, .ref (ad t)), (1, .int a1), (2, .ref (ad o))] := hl
  generalize hargs : ([.ref (ad t), .int a1, .ref (ad o)] : List Value).toArray = args at *
  generalize hAe : gA ad N s.heap.size = A
  have F : gF sa D ad cy N A p s m args cod cL_alike 4 wsL_alike RL := ⟨hx, hb, hml, hown, hts, hK, hI, by rw [← hAe]; exact gA_ad, by rw [← hAe]; exact gA_sz, by rw [← hAe]; exact hZ⟩
  have G : gW D ad cy N A s.heap c d0 s.heap [] := ⟨hP, va_S.rf⟩
  suffices hgen : ∀ (H : Heap) (locs : List Loc), gW D ad cy N A s.heap c d0 H locs → W p l e rmL_alike s m args below meth cod H locs 0 0 (MQ below (va_Qi (fun (z : Int32) (_ : Unit) => z = rZ) (fun _ U => gE D ad cy N cZ d0 U) A) args s 1 6 A) (F0 m 0 ls []) from hgen _ _ G
  clear G
  intro H locs G
  unfold m_L_alike at h
  obtain ⟨hk, h⟩ := gc_s h
  obtain ⟨hk2, h⟩ := gc_s h
  have ht : t < N := Nat.lt_of_lt_of_le (gck_lt9 hk) (Nat.le_trans (by decide) hN)
  have ht2 : o < N := Nat.lt_of_lt_of_le (gck_lt26 hk2) hN
  refine lv_aload_n hx hb dL_alike_0 rfl (lv_at hl 2 rfl) ?_
  refine lv_iconst (v := 0) hx hb dL_alike_1 (by decide) ?_
  refine lv_aload_n hx hb dL_alike_2 rfl (lv_at hl 0 rfl) ?_
  refine lv_iload_n hx hb dL_alike_3 rfl (lv_at hl 1 rfl) ?_
  rcases gbw_s h with ⟨⟨r1, c1⟩, hc, h⟩ | ⟨k1, c1, hc, h⟩
  · refine gx_calli F G (va_runV (As := [.int a1]) (rest := [.int 0, .ref (ad o)]) (gx_fix F) (c_X9_alike l sa D ad cy N H.size (Nat.le_trans (by decide) hN) hI c d0 hc) (cwV 1 hts gL_alike_X9_alike rfl rfl rfl (by decide +kernel) ⟨by decide, by decide⟩) (gx_rec F G ht (gwe_9 hk) rfl) rfl rfl hl.1 rfl (lv_room (Nat.le_of_ble_eq_true rfl)) dL_alike_4 ⟨by decide, by decide⟩) (fun H locs G => ?_)
    refine lv_i2l hx hb dL_alike_7 rfl ?_
    refine gx_ls F G hk2 ht2 (n := 1) (by rw [gal26 hk2]) (by decide) dL_alike_8 (fun H locs G => ?_)
    refine lv_goto (tgt := 15) hx hb dL_alike_9 (by decide) ?_
    refine lv_iconst (v := 0) hx hb dL_alike_15 (by decide) ?_
    cases h
    exact W.widen (k := 1) (n := 6) (by decide) (by decide) (gx_iret F G hr hlocks dL_alike_16)
  · refine gx_xci F G (vx_runV (As := [.int a1]) (rest := [.int 0, .ref (ad o)]) (gx_fix F) (cx_X9_alike l hlt sa D ad cy N H.size (Nat.le_trans (by decide) hN) hI c d0 hc) (cwV 1 hts gL_alike_X9_alike rfl rfl rfl (by decide +kernel) ⟨by decide, by decide⟩) (gx_rec F G ht (gwe_9 hk) rfl) rfl rfl hl.1 rfl (lv_room (Nat.le_of_ble_eq_true rfl)) dL_alike_4 ⟨by decide, by decide⟩) (fun ce q9 H locs G hce hv hcl => ?_)
    by_cases hk1 : k1 = 1
    · replace h := gt_s hk1 h
      subst hk1
      refine vx_catch (E := "java/lang/IllegalArgumentException") (name := "java/lang/IllegalArgumentException") hown [] ⟨0, 9, 12, 13⟩ [] htab (fun z hz => nomatch hz) (by decide) (by decide) (hts (.classLink RL 13 "java/lang/IllegalArgumentException") (by decide +kernel)) (va_Nw.use rfl F.2.2.2.2.2.2.2.2.2.2.2.2.2.2.2.1.1) hce hv hcl ?_
      refine lv_astore_n (lv' := [(3, .ref q9), (0, .ref (ad t)), (1, .int a1), (2, .ref (ad o))]) hx hb dL_alike_12 rfl hl (by decide) rfl (fun ls hl => ?_)
      refine lv_iconst (v := 1) hx hb dL_alike_13 (by decide) ?_
      cases h
      exact gx_iret F G hr hlocks dL_alike_14
    · replace h := gf_s hk1 h
      by_cases hk0 : k1 = 0
      · replace h := gt_s hk0 h
        subst hk0
        cases h
      · replace h := gf_s hk0 h
        cases h
def m_L_against (n : Nat) (t : Nat) (a1 : Int32) (a2 : Int32) (o : Nat) (c : gm) : Option (Int32 × gm) :=
  gc (gck t = 9) (gc (gck o = 26) (gbw (m_X9_against n t a1 a2 c) (fun (q : Int32 × gm) => some (0, gm_l q.2 o (vp_updL (q.2.2.1 o) (0 : Int32).toNatClampNeg q.1.toInt64))) (fun (k : Nat) (c1 : gm) => if k = 1 then none else if k = 0 then some (1, c1) else none)))
abbrev rmL_against : Room := { frames := 9, cells := 1, slots := 6, locals := 155 }
set_option maxHeartbeats 4000000 in
set_option maxRecDepth 100000 in
theorem c_L_against (l : Launch) (hlt : l.stackTraces = false) (sa : gSa) (D : va_G) (ad : Nat → Nat) (cy : Nat → ClassId) (N sz : Nat) (hN : 531 ≤ N) (hI : gI ad N) (c d0 : gm) {n : Nat} {t : Nat} {a1 : Int32} {a2 : Int32} {o : Nat} {rZ : Int32} {cZ : gm} (h : m_L_against n t a1 a2 o c = some (rZ, cZ)) : Met l yL_against wsL_against rmL_against (va_Pc [.ref (ad t), .int a1, .int a2, .ref (ad o)] (gP sa D ad cy N sz c d0)) (va_Qi (fun (z : Int32) (_ : Unit) => z = rZ) (fun _ U => gE D ad cy N cZ d0 U) (gA ad N sz)) 1 6 (gA ad N sz) := by
  refine va_MetW (cc := cL_against) (maxL := 5) (ret := (some .int)) (hh := [(0, 10, 13, 31)]) (by decide) rfl ?_
  intro p e s m args below meth cod s₁ B hml hv
  obtain ⟨rfl, hsz, hP, hK, hZ⟩ := hv
  have hx := B.exec
  have hb := B.bytes
  have hr := B.returns
  have hts := atoms_spec (ws := wsL_against) B.pre
  have htab := vx_table (x := yL_market) B (hts _ List.mem_cons_self)
  have hown : s.vm.findClass RL = some m.cls := findClass_of_methodNamed B.named
  have hlocks := B.notSynchronized
  subst hsz
  have hl := lv_entry ([.ref (ad t), .int a1, .int a2, .ref (ad o)]) (n := 5) (Nat.le_of_ble_eq_true rfl)
  rw [lg_entry_eq]
  generalize (lg_sl ([.ref (ad t), .int a1, .int a2, .ref (ad o)]) ++ List.replicate (5 - (lg_sl ([.ref (ad t), .int a1, .int a2, .ref (ad o)])).length) Slot.unset).toArray = ls at hl ⊢
  have hl : lv_has ls 5 [(0, .ref (ad t)), (1, .int a1), (2, .int a2), (3, .ref (ad o))] := hl
  generalize hargs : ([.ref (ad t), .int a1, .int a2, .ref (ad o)] : List Value).toArray = args at *
  generalize hAe : gA ad N s.heap.size = A
  have F : gF sa D ad cy N A p s m args cod cL_against 5 wsL_against RL := ⟨hx, hb, hml, hown, hts, hK, hI, by rw [← hAe]; exact gA_ad, by rw [← hAe]; exact gA_sz, by rw [← hAe]; exact hZ⟩
  have G : gW D ad cy N A s.heap c d0 s.heap [] := ⟨hP, va_S.rf⟩
  suffices hgen : ∀ (H : Heap) (locs : List Loc), gW D ad cy N A s.heap c d0 H locs → W p l e rmL_against s m args below meth cod H locs 0 0 (MQ below (va_Qi (fun (z : Int32) (_ : Unit) => z = rZ) (fun _ U => gE D ad cy N cZ d0 U) A) args s 1 6 A) (F0 m 0 ls []) from hgen _ _ G
  clear G
  intro H locs G
  unfold m_L_against at h
  obtain ⟨hk, h⟩ := gc_s h
  obtain ⟨hk2, h⟩ := gc_s h
  have ht : t < N := Nat.lt_of_lt_of_le (gck_lt9 hk) (Nat.le_trans (by decide) hN)
  have ht2 : o < N := Nat.lt_of_lt_of_le (gck_lt26 hk2) hN
  refine lv_aload_n hx hb dL_against_0 rfl (lv_at hl 3 rfl) ?_
  refine lv_iconst (v := 0) hx hb dL_against_1 (by decide) ?_
  refine lv_aload_n hx hb dL_against_2 rfl (lv_at hl 0 rfl) ?_
  refine lv_iload_n hx hb dL_against_3 rfl (lv_at hl 1 rfl) ?_
  refine lv_iload_n hx hb dL_against_4 rfl (lv_at hl 2 rfl) ?_
  rcases gbw_s h with ⟨⟨r1, c1⟩, hc, h⟩ | ⟨k1, c1, hc, h⟩
  · refine gx_calli F G (va_runV (As := [.int a1, .int a2]) (rest := [.int 0, .ref (ad o)]) (gx_fix F) (c_X9_against l sa D ad cy N H.size (Nat.le_trans (by decide) hN) hI c d0 hc) (cwV 2 hts gL_against_X9_against rfl rfl rfl (by decide +kernel) ⟨by decide, by decide⟩) (gx_rec F G ht (gwe_9 hk) rfl) rfl rfl hl.1 rfl (lv_room (Nat.le_of_ble_eq_true rfl)) dL_against_5 ⟨by decide, by decide⟩) (fun H locs G => ?_)
    refine lv_i2l hx hb dL_against_8 rfl ?_
    refine gx_ls F G hk2 ht2 (n := 1) (by rw [gal26 hk2]) (by decide) dL_against_9 (fun H locs G => ?_)
    refine lv_goto (tgt := 17) hx hb dL_against_10 (by decide) ?_
    refine lv_iconst (v := 0) hx hb dL_against_17 (by decide) ?_
    cases h
    exact W.widen (k := 1) (n := 6) (by decide) (by decide) (gx_iret F G hr hlocks dL_against_18)
  · refine gx_xci F G (vx_runV (As := [.int a1, .int a2]) (rest := [.int 0, .ref (ad o)]) (gx_fix F) (cx_X9_against l hlt sa D ad cy N H.size (Nat.le_trans (by decide) hN) hI c d0 hc) (cwV 2 hts gL_against_X9_against rfl rfl rfl (by decide +kernel) ⟨by decide, by decide⟩) (gx_rec F G ht (gwe_9 hk) rfl) rfl rfl hl.1 rfl (lv_room (Nat.le_of_ble_eq_true rfl)) dL_against_5 ⟨by decide, by decide⟩) (fun ce q9 H locs G hce hv hcl => ?_)
    by_cases hk1 : k1 = 1
    · replace h := gt_s hk1 h
      subst hk1
      cases h
    · replace h := gf_s hk1 h
      by_cases hk0 : k1 = 0
      · replace h := gt_s hk0 h
        subst hk0
        refine vx_catch (E := "java/util/NoSuchElementException") (name := "java/util/NoSuchElementException") hown [] ⟨0, 10, 13, 31⟩ [] htab (fun z hz => nomatch hz) (by decide) (by decide) (hts (.classLink RL 31 "java/util/NoSuchElementException") (by decide +kernel)) (va_Nw.use rfl F.2.2.2.2.2.2.2.2.2.2.2.2.2.2.2.1.2) hce hv hcl ?_
        refine lv_astore (lv' := [(4, .ref q9), (0, .ref (ad t)), (1, .int a1), (2, .int a2), (3, .ref (ad o))]) hx hb dL_against_13 hl (by decide) rfl (fun ls hl => ?_)
        refine lv_iconst (v := 1) hx hb dL_against_15 (by decide) ?_
        cases h
        exact gx_iret F G hr hlocks dL_against_16
      · replace h := gf_s hk0 h
        cases h
def m_L_fair (n : Nat) (t : Nat) (a1 : Int32) (a2 : Int32) (a3 : Int32) (a4 : Int32) (o : Nat) (c : gm) : Option (Int32 × gm) :=
  gc (gck t = 9) (gc (gck o = 26) (gbw (m_X9_fair n t a1 a2 a3 a4 c) (fun (q : Int32 × gm) => some (0, gm_l q.2 o (vp_updL (q.2.2.1 o) (0 : Int32).toNatClampNeg q.1.toInt64))) (fun (k : Nat) (c1 : gm) => if k = 1 then some (1, c1) else if k = 0 then none else none)))
abbrev rmL_fair : Room := { frames := 8, cells := 1, slots := 6, locals := 165 }
set_option maxHeartbeats 4000000 in
set_option maxRecDepth 100000 in
theorem c_L_fair (l : Launch) (hlt : l.stackTraces = false) (sa : gSa) (D : va_G) (ad : Nat → Nat) (cy : Nat → ClassId) (N sz : Nat) (hN : 531 ≤ N) (hI : gI ad N) (c d0 : gm) {n : Nat} {t : Nat} {a1 : Int32} {a2 : Int32} {a3 : Int32} {a4 : Int32} {o : Nat} {rZ : Int32} {cZ : gm} (h : m_L_fair n t a1 a2 a3 a4 o c = some (rZ, cZ)) : Met l yL_fair wsL_fair rmL_fair (va_Pc [.ref (ad t), .int a1, .int a2, .int a3, .int a4, .ref (ad o)] (gP sa D ad cy N sz c d0)) (va_Qi (fun (z : Int32) (_ : Unit) => z = rZ) (fun _ U => gE D ad cy N cZ d0 U) (gA ad N sz)) 1 6 (gA ad N sz) := by
  refine va_MetW (cc := cL_fair) (maxL := 7) (ret := (some .int)) (hh := [(0, 14, 17, 13)]) (by decide) rfl ?_
  intro p e s m args below meth cod s₁ B hml hv
  obtain ⟨rfl, hsz, hP, hK, hZ⟩ := hv
  have hx := B.exec
  have hb := B.bytes
  have hr := B.returns
  have hts := atoms_spec (ws := wsL_fair) B.pre
  have htab := vx_table (x := yL_market) B (hts _ List.mem_cons_self)
  have hown : s.vm.findClass RL = some m.cls := findClass_of_methodNamed B.named
  have hlocks := B.notSynchronized
  subst hsz
  have hl := lv_entry ([.ref (ad t), .int a1, .int a2, .int a3, .int a4, .ref (ad o)]) (n := 7) (Nat.le_of_ble_eq_true rfl)
  rw [lg_entry_eq]
  generalize (lg_sl ([.ref (ad t), .int a1, .int a2, .int a3, .int a4, .ref (ad o)]) ++ List.replicate (7 - (lg_sl ([.ref (ad t), .int a1, .int a2, .int a3, .int a4, .ref (ad o)])).length) Slot.unset).toArray = ls at hl ⊢
  have hl : lv_has ls 7 [(0, .ref (ad t)), (1, .int a1), (2, .int a2), (3, .int a3), (4, .int a4), (5, .ref (ad o))] := hl
  generalize hargs : ([.ref (ad t), .int a1, .int a2, .int a3, .int a4, .ref (ad o)] : List Value).toArray = args at *
  generalize hAe : gA ad N s.heap.size = A
  have F : gF sa D ad cy N A p s m args cod cL_fair 7 wsL_fair RL := ⟨hx, hb, hml, hown, hts, hK, hI, by rw [← hAe]; exact gA_ad, by rw [← hAe]; exact gA_sz, by rw [← hAe]; exact hZ⟩
  have G : gW D ad cy N A s.heap c d0 s.heap [] := ⟨hP, va_S.rf⟩
  suffices hgen : ∀ (H : Heap) (locs : List Loc), gW D ad cy N A s.heap c d0 H locs → W p l e rmL_fair s m args below meth cod H locs 0 0 (MQ below (va_Qi (fun (z : Int32) (_ : Unit) => z = rZ) (fun _ U => gE D ad cy N cZ d0 U) A) args s 1 6 A) (F0 m 0 ls []) from hgen _ _ G
  clear G
  intro H locs G
  unfold m_L_fair at h
  obtain ⟨hk, h⟩ := gc_s h
  obtain ⟨hk2, h⟩ := gc_s h
  have ht : t < N := Nat.lt_of_lt_of_le (gck_lt9 hk) (Nat.le_trans (by decide) hN)
  have ht2 : o < N := Nat.lt_of_lt_of_le (gck_lt26 hk2) hN
  refine lv_aload hx hb dL_fair_0 (lv_at hl 5 rfl) ?_
  refine lv_iconst (v := 0) hx hb dL_fair_2 (by decide) ?_
  refine lv_aload_n hx hb dL_fair_3 rfl (lv_at hl 0 rfl) ?_
  refine lv_iload_n hx hb dL_fair_4 rfl (lv_at hl 1 rfl) ?_
  refine lv_iload_n hx hb dL_fair_5 rfl (lv_at hl 2 rfl) ?_
  refine lv_iload_n hx hb dL_fair_6 rfl (lv_at hl 3 rfl) ?_
  refine lv_iload hx hb dL_fair_7 (lv_at hl 4 rfl) ?_
  rcases gbw_s h with ⟨⟨r1, c1⟩, hc, h⟩ | ⟨k1, c1, hc, h⟩
  · refine gx_calli F G (va_runV (As := [.int a1, .int a2, .int a3, .int a4]) (rest := [.int 0, .ref (ad o)]) (gx_fix F) (c_X9_fair l sa D ad cy N H.size (Nat.le_trans (by decide) hN) hI c d0 hc) (cwV 4 hts gL_fair_X9_fair rfl rfl rfl (by decide +kernel) ⟨by decide, by decide⟩) (gx_rec F G ht (gwe_9 hk) rfl) rfl rfl hl.1 rfl (lv_room (Nat.le_of_ble_eq_true rfl)) dL_fair_9 ⟨by decide, by decide⟩) (fun H locs G => ?_)
    refine lv_i2l hx hb dL_fair_12 rfl ?_
    refine gx_ls F G hk2 ht2 (n := 1) (by rw [gal26 hk2]) (by decide) dL_fair_13 (fun H locs G => ?_)
    refine lv_goto (tgt := 21) hx hb dL_fair_14 (by decide) ?_
    refine lv_iconst (v := 0) hx hb dL_fair_21 (by decide) ?_
    cases h
    exact W.widen (k := 1) (n := 6) (by decide) (by decide) (gx_iret F G hr hlocks dL_fair_22)
  · refine gx_xci F G (vx_runV (As := [.int a1, .int a2, .int a3, .int a4]) (rest := [.int 0, .ref (ad o)]) (gx_fix F) (cx_X9_fair l hlt sa D ad cy N H.size (Nat.le_trans (by decide) hN) hI c d0 hc) (cwV 4 hts gL_fair_X9_fair rfl rfl rfl (by decide +kernel) ⟨by decide, by decide⟩) (gx_rec F G ht (gwe_9 hk) rfl) rfl rfl hl.1 rfl (lv_room (Nat.le_of_ble_eq_true rfl)) dL_fair_9 ⟨by decide, by decide⟩) (fun ce q9 H locs G hce hv hcl => ?_)
    by_cases hk1 : k1 = 1
    · replace h := gt_s hk1 h
      subst hk1
      refine vx_catch (E := "java/lang/IllegalArgumentException") (name := "java/lang/IllegalArgumentException") hown [] ⟨0, 14, 17, 13⟩ [] htab (fun z hz => nomatch hz) (by decide) (by decide) (hts (.classLink RL 13 "java/lang/IllegalArgumentException") (by decide +kernel)) (va_Nw.use rfl F.2.2.2.2.2.2.2.2.2.2.2.2.2.2.2.1.1) hce hv hcl ?_
      refine lv_astore (lv' := [(6, .ref q9), (0, .ref (ad t)), (1, .int a1), (2, .int a2), (3, .int a3), (4, .int a4), (5, .ref (ad o))]) hx hb dL_fair_17 hl (by decide) rfl (fun ls hl => ?_)
      refine lv_iconst (v := 1) hx hb dL_fair_19 (by decide) ?_
      cases h
      exact gx_iret F G hr hlocks dL_fair_20
    · replace h := gf_s hk1 h
      by_cases hk0 : k1 = 0
      · replace h := gt_s hk0 h
        subst hk0
        cases h
      · replace h := gf_s hk0 h
        cases h
def m_L_span (n : Nat) (t : Nat) (a1 : Int32) (a2 : Int32) (a3 : Int32) (a4 : Int32) (a5 : Int32) (a6 : Int32) (o : Nat) (c : gm) : Option (Int32 × gm) :=
  gc (gck t = 9) (gc (gck o = 26) (gbw (m_X9_span n t a1 a2 a3 a4 a5 a6 c) (fun (q : Int32 × gm) => some (0, gm_l q.2 o (vp_updL (q.2.2.1 o) (0 : Int32).toNatClampNeg q.1.toInt64))) (fun (k : Nat) (c1 : gm) => if k = 1 then some (1, c1) else if k = 0 then none else none)))
abbrev rmL_span : Room := { frames := 8, cells := 1, slots := 6, locals := 172 }
set_option maxHeartbeats 4000000 in
set_option maxRecDepth 100000 in
theorem c_L_span (l : Launch) (hlt : l.stackTraces = false) (sa : gSa) (D : va_G) (ad : Nat → Nat) (cy : Nat → ClassId) (N sz : Nat) (hN : 531 ≤ N) (hI : gI ad N) (c d0 : gm) {n : Nat} {t : Nat} {a1 : Int32} {a2 : Int32} {a3 : Int32} {a4 : Int32} {a5 : Int32} {a6 : Int32} {o : Nat} {rZ : Int32} {cZ : gm} (h : m_L_span n t a1 a2 a3 a4 a5 a6 o c = some (rZ, cZ)) : Met l yL_span wsL_span rmL_span (va_Pc [.ref (ad t), .int a1, .int a2, .int a3, .int a4, .int a5, .int a6, .ref (ad o)] (gP sa D ad cy N sz c d0)) (va_Qi (fun (z : Int32) (_ : Unit) => z = rZ) (fun _ U => gE D ad cy N cZ d0 U) (gA ad N sz)) 1 6 (gA ad N sz) := by
  refine va_MetW (cc := cL_span) (maxL := 9) (ret := (some .int)) (hh := [(0, 18, 21, 13)]) (by decide) rfl ?_
  intro p e s m args below meth cod s₁ B hml hv
  obtain ⟨rfl, hsz, hP, hK, hZ⟩ := hv
  have hx := B.exec
  have hb := B.bytes
  have hr := B.returns
  have hts := atoms_spec (ws := wsL_span) B.pre
  have htab := vx_table (x := yL_market) B (hts _ List.mem_cons_self)
  have hown : s.vm.findClass RL = some m.cls := findClass_of_methodNamed B.named
  have hlocks := B.notSynchronized
  subst hsz
  have hl := lv_entry ([.ref (ad t), .int a1, .int a2, .int a3, .int a4, .int a5, .int a6, .ref (ad o)]) (n := 9) (Nat.le_of_ble_eq_true rfl)
  rw [lg_entry_eq]
  generalize (lg_sl ([.ref (ad t), .int a1, .int a2, .int a3, .int a4, .int a5, .int a6, .ref (ad o)]) ++ List.replicate (9 - (lg_sl ([.ref (ad t), .int a1, .int a2, .int a3, .int a4, .int a5, .int a6, .ref (ad o)])).length) Slot.unset).toArray = ls at hl ⊢
  have hl : lv_has ls 9 [(0, .ref (ad t)), (1, .int a1), (2, .int a2), (3, .int a3), (4, .int a4), (5, .int a5), (6, .int a6), (7, .ref (ad o))] := hl
  generalize hargs : ([.ref (ad t), .int a1, .int a2, .int a3, .int a4, .int a5, .int a6, .ref (ad o)] : List Value).toArray = args at *
  generalize hAe : gA ad N s.heap.size = A
  have F : gF sa D ad cy N A p s m args cod cL_span 9 wsL_span RL := ⟨hx, hb, hml, hown, hts, hK, hI, by rw [← hAe]; exact gA_ad, by rw [← hAe]; exact gA_sz, by rw [← hAe]; exact hZ⟩
  have G : gW D ad cy N A s.heap c d0 s.heap [] := ⟨hP, va_S.rf⟩
  suffices hgen : ∀ (H : Heap) (locs : List Loc), gW D ad cy N A s.heap c d0 H locs → W p l e rmL_span s m args below meth cod H locs 0 0 (MQ below (va_Qi (fun (z : Int32) (_ : Unit) => z = rZ) (fun _ U => gE D ad cy N cZ d0 U) A) args s 1 6 A) (F0 m 0 ls []) from hgen _ _ G
  clear G
  intro H locs G
  unfold m_L_span at h
  obtain ⟨hk, h⟩ := gc_s h
  obtain ⟨hk2, h⟩ := gc_s h
  have ht : t < N := Nat.lt_of_lt_of_le (gck_lt9 hk) (Nat.le_trans (by decide) hN)
  have ht2 : o < N := Nat.lt_of_lt_of_le (gck_lt26 hk2) hN
  refine lv_aload hx hb dL_span_0 (lv_at hl 7 rfl) ?_
  refine lv_iconst (v := 0) hx hb dL_span_2 (by decide) ?_
  refine lv_aload_n hx hb dL_span_3 rfl (lv_at hl 0 rfl) ?_
  refine lv_iload_n hx hb dL_span_4 rfl (lv_at hl 1 rfl) ?_
  refine lv_iload_n hx hb dL_span_5 rfl (lv_at hl 2 rfl) ?_
  refine lv_iload_n hx hb dL_span_6 rfl (lv_at hl 3 rfl) ?_
  refine lv_iload hx hb dL_span_7 (lv_at hl 4 rfl) ?_
  refine lv_iload hx hb dL_span_9 (lv_at hl 5 rfl) ?_
  refine lv_iload hx hb dL_span_11 (lv_at hl 6 rfl) ?_
  rcases gbw_s h with ⟨⟨r1, c1⟩, hc, h⟩ | ⟨k1, c1, hc, h⟩
  · refine gx_calli F G (va_runV (As := [.int a1, .int a2, .int a3, .int a4, .int a5, .int a6]) (rest := [.int 0, .ref (ad o)]) (gx_fix F) (c_X9_span l sa D ad cy N H.size (Nat.le_trans (by decide) hN) hI c d0 hc) (cwV 6 hts gL_span_X9_span rfl rfl rfl (by decide +kernel) ⟨by decide, by decide⟩) (gx_rec F G ht (gwe_9 hk) rfl) rfl rfl hl.1 rfl (lv_room (Nat.le_of_ble_eq_true rfl)) dL_span_13 ⟨by decide, by decide⟩) (fun H locs G => ?_)
    refine lv_i2l hx hb dL_span_16 rfl ?_
    refine gx_ls F G hk2 ht2 (n := 1) (by rw [gal26 hk2]) (by decide) dL_span_17 (fun H locs G => ?_)
    refine lv_goto (tgt := 25) hx hb dL_span_18 (by decide) ?_
    refine lv_iconst (v := 0) hx hb dL_span_25 (by decide) ?_
    cases h
    exact W.widen (k := 1) (n := 6) (by decide) (by decide) (gx_iret F G hr hlocks dL_span_26)
  · refine gx_xci F G (vx_runV (As := [.int a1, .int a2, .int a3, .int a4, .int a5, .int a6]) (rest := [.int 0, .ref (ad o)]) (gx_fix F) (cx_X9_span l hlt sa D ad cy N H.size (Nat.le_trans (by decide) hN) hI c d0 hc) (cwV 6 hts gL_span_X9_span rfl rfl rfl (by decide +kernel) ⟨by decide, by decide⟩) (gx_rec F G ht (gwe_9 hk) rfl) rfl rfl hl.1 rfl (lv_room (Nat.le_of_ble_eq_true rfl)) dL_span_13 ⟨by decide, by decide⟩) (fun ce q9 H locs G hce hv hcl => ?_)
    by_cases hk1 : k1 = 1
    · replace h := gt_s hk1 h
      subst hk1
      refine vx_catch (E := "java/lang/IllegalArgumentException") (name := "java/lang/IllegalArgumentException") hown [] ⟨0, 18, 21, 13⟩ [] htab (fun z hz => nomatch hz) (by decide) (by decide) (hts (.classLink RL 13 "java/lang/IllegalArgumentException") (by decide +kernel)) (va_Nw.use rfl F.2.2.2.2.2.2.2.2.2.2.2.2.2.2.2.1.1) hce hv hcl ?_
      refine lv_astore (lv' := [(8, .ref q9), (0, .ref (ad t)), (1, .int a1), (2, .int a2), (3, .int a3), (4, .int a4), (5, .int a5), (6, .int a6), (7, .ref (ad o))]) hx hb dL_span_21 hl (by decide) rfl (fun ls hl => ?_)
      refine lv_iconst (v := 1) hx hb dL_span_23 (by decide) ?_
      cases h
      exact gx_iret F G hr hlocks dL_span_24
    · replace h := gf_s hk1 h
      by_cases hk0 : k1 = 0
      · replace h := gt_s hk0 h
        subst hk0
        cases h
      · replace h := gf_s hk0 h
        cases h
