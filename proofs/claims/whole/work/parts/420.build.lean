set_option maxRecDepth 16384
/-! the making of the cells: ad the address of the i-th cell made, N cells so far, E what each holds -/
def gbl (ad : Nat → Nat) (N : Nat) (E : Nat → va_E) : va_W := (List.range N).map (fun i => (ad i, E i))
theorem gbl_at {ad : Nat → Nat} {N : Nat} {E : Nat → va_E} {i : Nat} (h : i < N) : (gbl ad N E)[i]? = some (ad i, E i) := by
  unfold gbl
  rw [List.getElem?_map, List.getElem?_range h]
  rfl
theorem gbl_no {ad : Nat → Nat} {N : Nat} {E : Nat → va_E} {i : Nat} (h : ¬ i < N) : (gbl ad N E)[i]? = none := by
  unfold gbl
  rw [List.getElem?_map, List.getElem?_eq_none (by rw [List.length_range]; omega)]
  rfl
theorem gbl_inv {ad : Nat → Nat} {N : Nat} {E : Nat → va_E} {k : Nat} {q : Nat × va_E} (h : (gbl ad N E)[k]? = some q) : k < N ∧ q = (ad k, E k) := by
  by_cases hk : k < N
  · rw [gbl_at hk] at h
    exact ⟨hk, (Option.some.inj h).symm⟩
  · rw [gbl_no hk] at h
    cases h
theorem gbl_len {ad : Nat → Nat} {N : Nat} {E : Nat → va_E} : (gbl ad N E).length = N := by
  unfold gbl
  rw [List.length_map, List.length_range]
theorem gbl_set {ad : Nat → Nat} {N : Nat} {E : Nat → va_E} {t : Nat} {x : va_E} : (gbl ad N E).set t (ad t, x) = gbl ad N (va_up E t x) := by
  apply List.ext_getElem?
  intro k
  by_cases hk : k < N
  · rw [gbl_at hk, List.getElem?_set]
    by_cases e : t = k
    · subst e
      rw [if_pos rfl, if_pos (by rw [gbl_len]; exact hk), va_up_self]
    · rw [if_neg e, gbl_at hk, va_up_ne _ _ (fun q => e q.symm)]
  · rw [gbl_no hk]
    apply List.getElem?_eq_none
    rw [List.length_set, gbl_len]
    omega
theorem gbl_app {ad : Nat → Nat} {N : Nat} {E : Nat → va_E} {q : Nat} {x : va_E} : gbl ad N E ++ [(q, x)] = gbl (va_up ad N q) (N + 1) (va_up E N x) := by
  unfold gbl
  rw [List.range_succ, List.map_append]
  congr 1
  · apply List.map_congr_left
    intro i hi
    have := List.mem_range.mp hi
    rw [va_up_ne _ _ (by omega), va_up_ne _ _ (by omega)]
  · simp only [List.map_cons, List.map_nil, va_up_self]
def jn {α : Type} (N : Nat) (f g : Nat → α) : Nat → α := fun i => if i < N then f i else g (i - N)
theorem jn_l {α : Type} {N : Nat} {f g : Nat → α} {i : Nat} (h : i < N) : jn N f g i = f i := if_pos h
theorem jn_r {α : Type} {N : Nat} {f g : Nat → α} {i : Nat} (h : ¬ i < N) : jn N f g i = g (i - N) := if_neg h
theorem gbl_jn {ad r : Nat → Nat} {N n : Nat} {E F : Nat → va_E} : gbl ad N E ++ gbl r n F = gbl (jn N ad r) (N + n) (jn N E F) := by
  apply List.ext_getElem?
  intro k
  by_cases hk : k < N
  · rw [List.getElem?_append_left (by rw [gbl_len]; exact hk), gbl_at hk, gbl_at (by omega), jn_l hk, jn_l hk]
  · rw [List.getElem?_append_right (by rw [gbl_len]; omega), gbl_len]
    by_cases h2 : k - N < n
    · rw [gbl_at h2, gbl_at (by omega), jn_r hk, jn_r hk]
    · rw [gbl_no h2, gbl_no (by omega)]
theorem gbl_row {n : Nat} {r : Nat → Nat} {f : Nat → va_E} {x : va_E} : va_pl ([] ++ (List.range n).map r) (vr_up f ((List.range n).map r) x) = gbl r n (fun _ => x) := by
  unfold va_pl gbl
  rw [List.nil_append, List.map_map]
  apply List.map_congr_left
  intro i hi
  show (r i, vr_up f ((List.range n).map r) x (r i)) = (r i, x)
  rw [vr_up_in (List.mem_map.mpr ⟨i, hi, rfl⟩)]
theorem ra_u {U : State} {a b : ClassId} {ty : FieldType} (h1 : va_RA U a ty) (h2 : va_RA U b ty) : a = b := by
  cases ty with
  | object C =>
    obtain ⟨_, _, _, _, _, x⟩ := h1
    obtain ⟨_, _, _, _, _, y⟩ := h2
    exact Option.some.inj (x.symm.trans y)
  | _ => exact Option.some.inj (Eq.trans (Eq.symm h1) h2)
def gQc (D : va_G) (cy : Nat → ClassId) (A : Nat → Prop) (p : Program) (s : State) (m : MethodId) (args : Array Value) (c : Code) (cc : ByteArray) (nL : Nat) (Ts : List Cond) (own : String) : Prop :=
  p.tables.exec = Jvm.exec ∧ c.code = cc ∧ c.maxLocals = nL ∧ s.vm.findClass own = some m.cls ∧ (∀ w ∈ Ts, w.before args s = true) ∧ va_K D vwCl (gty cy) s ∧ ∀ q, s.heap.size ≤ q → A q
def gQg (D : va_G) (A : Nat → Prop) (H0 : Heap) (ad : Nat → Nat) (N : Nat) (E : Nat → va_E) (H : Heap) (locs : List Loc) : Prop := va_P D vwCl (gbl ad N E) H ∧ va_D A (gbl ad N E) ∧ va_S A H0 H locs
section GB
variable {p : Program} {l : Launch} {e : Env} {R : Room} {s : State} {m : MethodId} {args : Array Value} {below : List Frame} {meth : Method} {c : Code} {H : Heap} {locs : List Loc} {cells slots : Nat} {Q : State → Prop}
variable {cc : ByteArray} {pc nL : Nat} {ls : Array Slot} {rest : List Value} {D : va_G} {A : Nat → Prop} {H0 : Heap} {ad : Nat → Nat} {cy : Nat → ClassId} {N : Nat} {E : Nat → va_E} {Ts : List Cond} {own : String}
theorem gq_new (F : gQc D cy A p s m args c cc nL Ts own) (G : gQg D A s.heap ad N E H locs) {ci n index : Nat} {C : String} {T : u_T} {fs : List Value} (hc : vwCl[ci]? = some (C, T, n)) (hin : ∀ w ∈ u_ws C T n, w ∈ Ts) (ty : Nat → FieldType) (hty : ∀ k, k < n → parseFieldDescriptor (T k).2.2.1 = some (ty k)) (hcl : Cond.classLink own index C ∈ Ts) (hinst : Cond.instantiable C n ∈ Ts) (hini : Cond.initialized C ∈ Ts) (hfs : ∀ j, j < n → defaultValue (ty j) = vp_V fs j) (hcells : cells + 1 ≤ R.cells) (hslots : slots + n ≤ R.slots) (hdg : decode cc pc = .ok (.new index, 3))
    (kk : ∀ (q : Nat) (H1 : Heap), gQg D A s.heap (va_up ad N q) (N + 1) (va_up E N (.inr (ci, fs))) H1 locs → W p l e R s m args below meth c H1 locs (cells + 1) (slots + n) Q (F0 m (pc + 3) ls (.ref q :: rest))) : W p l e R s m args below meth c H locs cells slots Q (F0 m pc ls rest) := by
  obtain ⟨hx, hb, -, hown, hts, hK, hA⟩ := F
  refine va_new hx hb hts hin ty hty hown (hts _ hcl) (hts _ hinst) (hts _ hini) hK G.1 G.2.1 G.2.2 hA hc hfs hcells hslots hdg (fun q H1 hP hD hS => ?_)
  rw [gbl_app] at hP hD
  exact kk q H1 ⟨hP, hD, hS⟩
theorem gq_newa (F : gQc D cy A p s m args c cc nL Ts own) (G : gQg D A s.heap ad N E H locs) {atype : ArrayType} {ty : FieldType} (k : Nat) {cK : ClassId} (hk : (gty cy)[k]? = some (cK, ty)) (hty : newarray.typeOf atype = ty) (harr : Cond.arrayClass (newarray.typeOf atype) ∈ Ts) {n : Int32} {N' : Nat} {a0 : vp_A} (ha : ∀ cA : ClassId, vp_cell cA a0 = arrV cA N' (fun _ => defaultValue ty)) (hn : ¬ n < 0) (hN : n.toNatClampNeg = N') (hbytes : N' * componentBytes ty ≤ 536870912) (hcells : cells + 1 ≤ R.cells) (hslots : slots + N' ≤ R.slots) (hdg : decode cc pc = .ok (.newarray atype, 2))
    (kk : ∀ (q : Nat) (H1 : Heap), gQg D A s.heap (va_up ad N q) (N + 1) (va_up E N (.inl (cK, a0))) H1 locs → W p l e R s m args below meth c H1 locs (cells + 1) (slots + N') Q (F0 m (pc + 2) ls (.ref q :: rest))) : W p l e R s m args below meth c H locs cells slots Q (F0 m pc ls (.int n :: rest)) := by
  obtain ⟨hx, hb, -, hown, hts, hK, hA⟩ := F
  refine va_newa hx hb (hts _ harr) hty hK G.1 G.2.1 G.2.2 hA ha hn hN hbytes hcells hslots hdg (fun q cA H1 hK1 hP hD hS => ?_)
  have e : cA = cK := ra_u (hK1.2 5 (cA, ty) rfl).2 (hK.2 k _ hk).2
  subst e
  rw [gbl_app] at hP hD
  exact kk q H1 ⟨hP, hD, hS⟩
theorem gq_put (F : gQc D cy A p s m args c cc nL Ts own) (G : gQg D A H0 ad N E H locs) {ci n index : Nat} {C : String} {T : u_T} {fs : List Value} (t : Nat) (ht : t < N) (he : E t = .inr (ci, fs)) (hc : vwCl[ci]? = some (C, T, n)) (hin : ∀ w ∈ u_ws C T n, w ∈ Ts) (ty0 : Nat → FieldType) (hty : ∀ k, k < n → parseFieldDescriptor (T k).2.2.1 = some (ty0 k)) (hnm : ∀ a, a < n → ∀ b, b < n → a ≠ b → (T a).2.1 ≠ (T b).2.1) (k : Nat) (hk : k < n) (hl : Cond.fieldLink own index (T k).1 (T k).2.1 (T k).2.2.1 ∈ Ts) (hfin : (T k).2.2.2 = false) {ty : FieldType} {v : Value} (hd : parseFieldDescriptor (T k).2.2.1 = some ty) (hn : narrow ty v = v) (hfit : fits ty v = true) (hlen : k < fs.length) {a : Nat} (ha : ad t = a) (hdg : decode cc pc = .ok (.putfield index, 3))
    (kk : ∀ (H1 : Heap) (locs1 : List Loc), gQg D A H0 ad N (va_up E t (.inr (ci, fs.set k v))) H1 locs1 → W p l e R s m args below meth c H1 locs1 cells slots Q (F0 m (pc + 3) ls rest)) : W p l e R s m args below meth c H locs cells slots Q (F0 m pc ls (v :: .ref a :: rest)) := by
  obtain ⟨hx, hb, -, hown, hts, hK, hA⟩ := F
  subst ha
  refine va_put hx hb hts hin ty0 hty hnm hown hK G.1 G.2.1 G.2.2 t (by rw [gbl_at ht, he]) hc k hk (hts _ hl) (fun _ h => h) hfin hd hn hfit hlen hdg (fun H1 locs1 hP hD hS => ?_)
  rw [gbl_set] at hP hD
  exact kk H1 locs1 ⟨hP, hD, hS⟩
theorem gq_putF (F : gQc D cy A p s m args c cc nL Ts own) (G : gQg D A H0 ad N E H locs) {ci n index : Nat} {C : String} {T : u_T} {fs : List Value} (t : Nat) (ht : t < N) (he : E t = .inr (ci, fs)) (hc : vwCl[ci]? = some (C, T, n)) (hin : ∀ w ∈ u_ws C T n, w ∈ Ts) (ty0 : Nat → FieldType) (hty : ∀ k, k < n → parseFieldDescriptor (T k).2.2.1 = some (ty0 k)) (hnm : ∀ a, a < n → ∀ b, b < n → a ≠ b → (T a).2.1 ≠ (T b).2.1) (k : Nat) (hk : k < n) (hl : Cond.fieldLink own index (T k).1 (T k).2.1 (T k).2.2.1 ∈ Ts) (hfin : (T k).2.2.2 = true) (hin2 : meth.name = "<init>") (hdecl : (T k).1 = own) {ty : FieldType} {v : Value} (hd : parseFieldDescriptor (T k).2.2.1 = some ty) (hn : narrow ty v = v) (hfit : fits ty v = true) (hlen : k < fs.length) {a : Nat} (ha : ad t = a) (hdg : decode cc pc = .ok (.putfield index, 3))
    (kk : ∀ (H1 : Heap) (locs1 : List Loc), gQg D A H0 ad N (va_up E t (.inr (ci, fs.set k v))) H1 locs1 → W p l e R s m args below meth c H1 locs1 cells slots Q (F0 m (pc + 3) ls rest)) : W p l e R s m args below meth c H locs cells slots Q (F0 m pc ls (v :: .ref a :: rest)) := by
  obtain ⟨hx, hb, -, hown, hts, hK, hA⟩ := F
  subst ha
  refine va_putF hx hb hts hin ty0 hty hnm hown hK G.1 G.2.1 G.2.2 t (by rw [gbl_at ht, he]) hc k hk (hts _ hl) (fun _ h => h) hfin hin2 hdecl hd hn hfit hlen hdg (fun H1 locs1 hP hD hS => ?_)
  rw [gbl_set] at hP hD
  exact kk H1 locs1 ⟨hP, hD, hS⟩
theorem gq_get (F : gQc D cy A p s m args c cc nL Ts own) (G : gQg D A H0 ad N E H locs) {ci n index : Nat} {C : String} {T : u_T} {fs : List Value} (t : Nat) (ht : t < N) (he : E t = .inr (ci, fs)) (hc : vwCl[ci]? = some (C, T, n)) (hin : ∀ w ∈ u_ws C T n, w ∈ Ts) (k : Nat) (hk : k < n) (hl : Cond.fieldLink own index (T k).1 (T k).2.1 (T k).2.2.1 ∈ Ts) {v : Value} (hv : fs[k]? = some v) {a : Nat} (ha : ad t = a) (hdg : decode cc pc = .ok (.getfield index, 3)) (kk : W p l e R s m args below meth c H locs cells slots Q (F0 m (pc + 3) ls (v :: rest))) : W p l e R s m args below meth c H locs cells slots Q (F0 m pc ls (.ref a :: rest)) := by
  obtain ⟨hx, hb, -, hown, hts, hK, -⟩ := F
  subst ha
  exact va_get hx hb hts hin hown hK G.1 t (by rw [gbl_at ht, he]) hc k hk (hts _ hl) (fun _ h => h) hv hdg kk
theorem gq_is (F : gQc D cy A p s m args c cc nL Ts own) (G : gQg D A H0 ad N E H locs) {n : Nat} {f : Nat → Int32} {x y : Int32} (t : Nat) (ht : t < N) (he : E t = .inl (cy 0, n, .inl f)) (hi : 0 ≤ y.toInt ∧ y.toInt < n) {a : Nat} (ha : ad t = a) (hdg : decode cc pc = .ok (.iastore, 1)) (kk : ∀ (H1 : Heap) (locs1 : List Loc), gQg D A H0 ad N (va_up E t (.inl (cy 0, n, .inl (upd f y.toNatClampNeg x)))) H1 locs1 → W p l e R s m args below meth c H1 locs1 cells slots Q (F0 m (pc + 1) ls rest)) : W p l e R s m args below meth c H locs cells slots Q (F0 m pc ls (.int x :: .int y :: .ref a :: rest)) := by
  obtain ⟨hx, hb, -, hown, hts, hK, -⟩ := F
  subst ha
  refine va_iast hx hb hK G.1 G.2.1 G.2.2 t 0 (by rw [gbl_at ht, he]) rfl (gin hi) hdg (fun H1 locs1 hP hD hS => ?_)
  rw [gbl_set] at hP hD
  exact kk H1 locs1 ⟨hP, hD, hS⟩
theorem gq_mna (F : gQc D cy A p s m args c cc nL Ts own) (G : gQg D A s.heap ad N E H locs) {index : Nat} (hclink : Cond.classLink own index ("[" ++ (FieldType.array .int).toString) ∈ Ts) (hover : va_AOA .int s) (harr : Cond.arrayClass .int ∈ Ts) {n k : Int32} {N' K' : Nat} (hn : ¬ n < 0) (hk : ¬ k < 0) (hN : n.toNatClampNeg = N') (hM : k.toNatClampNeg = K') (hb1 : N' * 4 ≤ 536870912) (hb2 : K' * componentBytes .int ≤ 536870912) (hb3 : K' ≤ 536870912) (hcells : cells + (1 + N') ≤ R.cells) (hslots : slots + (N' + N' * K') ≤ R.slots) (hdg : decode cc pc = .ok (.multianewarray index 2, 4))
    (kk : ∀ (q : Nat) (r : Nat → Nat) (H1 : Heap), gQg D A s.heap (jn (N + 1) (va_up ad N q) r) (N + 1 + N') (jn (N + 1) (va_up E N (.inl (cy 4, N', .inr (.inr (.inr (.inr (fun i => if i < N' then some (r i) else none))))))) (fun _ => .inl (cy 0, K', .inl (fun _ => 0)))) H1 locs → W p l e R s m args below meth c H1 locs (cells + 1 + N') (slots + N' + N' * K') Q (F0 m (pc + 4) ls (.ref q :: rest))) : W p l e R s m args below meth c H locs cells slots Q (F0 m pc ls (.int k :: .int n :: rest)) := by
  obtain ⟨hx, hb, -, hown, hts, hK, hA⟩ := F
  have hcy : s.vm.findClass (FieldType.array .int).toString = some (cy 0) := (hK.2 0 (cy 0, .int) rfl).2
  refine va_mna (X := gbl ad N E) (L := []) (f := fun _ => .inr (0, [])) (ty := .int) (cy := cy 0) (z := (K', .inl (fun _ => 0))) hx hb hown (hts _ hclink) hover (hts _ harr) hcy hK (by rw [show va_pl [] (fun _ => (.inr (0, []) : va_E)) = [] from rfl, List.append_nil]; exact G.1) (by rw [show va_pl [] (fun _ => (.inr (0, []) : va_E)) = [] from rfl, List.append_nil]; exact G.2.1) G.2.2 hA hn hk hN hM hb1 hb2 hb3 rfl rfl hcells hslots (fun c9 => by rw [vp_cell_i]; exact arrV_new c9 K' (.int 0)) hdg (fun q r cA H1 h1 h2 hK1 hP hD hS => ?_)
  have e : cA = cy 4 := ra_u (hK1.2 5 (cA, .array .int) rfl).2 (hK.2 4 _ rfl).2
  subst e
  rw [gbl_app, gbl_row, gbl_jn] at hP hD
  exact kk q r H1 ⟨hP, hD, hS⟩
theorem aoa_mv {u U : State} (hvm : u.vm.Alike U.vm) (h : va_AOA .int u) : va_AOA .int U := by
  obtain ⟨comp, c, k, h1, h2, h3, h4, h5⟩ := arrayOverA_spec h
  obtain ⟨k', hk', he⟩ := hvm.2.2 _ _ h3
  have hi : (U.vm.classes.findIdx? fun (x : Class) => match x.kind with | .array component _ => component == comp | _ => false) = some c := by
    rw [hvm.findIdx?_eq _ (fun _ => rfl)]
    exact h2
  have hkind : k'.kind = .array comp (.array .int) := by rw [he]; exact h4
  have f1 : U.vm.findClass (FieldType.array .int).toString = some comp := by rw [hvm.findClass]; exact h1
  have f2 : U.vm.findClass ("[" ++ (FieldType.array .int).toString) = some c := by rw [hvm.findClass]; exact h5
  unfold va_AOA Cond.before Cond.holds
  simp only [Cond.value]
  rw [f1, Option.bind_some]
  refine (congrArg (fun o : Option Nat => (o.bind (fun c => (U.vm.classes[c]?).map fun (k : Class) => match k.kind with | .array _ ty => decide (ty = FieldType.array .int) && decide (U.vm.findClass ("[" ++ (FieldType.array .int).toString) = some c) | _ => false) == some true)) hi).trans ?_
  simp [hk', hkind, f2]
/-- what the making of one object may touch: the object, and what is new -/
def gAi (h0 sz : Nat) : Nat → Prop := fun q => q = h0 ∨ sz ≤ q
def gPi (D : va_G) (cy : Nat → ClassId) (h0 sz ci : Nat) (fs : List Value) (Z : State → Prop) (U : State) : Prop := U.heap.size = sz ∧ va_P D vwCl [(h0, .inr (ci, fs))] U.heap ∧ va_K D vwCl (gty cy) U ∧ Z U
theorem gq_pre (F : gQc D cy A p s m args c cc nL Ts own) (G : gQg D A s.heap ad (N + 1) E H locs) {h0 ci : Nat} {fs : List Value} {Z : State → Prop} (ha : ad N = h0) (he : E N = .inr (ci, fs)) (hzb : ∀ (U : State) (g : JFrame) (mk : MethodId) (a : Array Value), Z U → Z (U.calling g mk a)) (hzw : ∀ U : State, s.WarmedH U.vm → Z U) : PreS s H (va_Pc [.ref h0] (gPi D cy h0 H.size ci fs Z)) [.ref h0] := by
  obtain ⟨hx, hb, -, hown, hts, hK, hA⟩ := F
  refine ⟨fun a U g mk q => by obtain ⟨q0, q1, qP, qK, qZ⟩ := q; exact ⟨q0, q1, qP, va_K.moved (u := U) (U := U.calling g mk a) (Vm.Alike.refl U.vm) qK, hzb U g mk a qZ⟩, fun U hU hW => ⟨rfl, by rw [hU], ?_, va_K.moved hW.alike hK, hzw U hW⟩⟩
  intro k q hq
  have hz : k < 1 := (List.getElem?_eq_some_iff.mp hq).1
  rw [show k = 0 by omega] at hq
  cases hq
  have := G.1 N _ (gbl_at (by omega))
  rw [ha, he] at this
  rw [hU]
  exact this
theorem gq_call (F : gQc D cy A p s m args c cc nL Ts own) (G : gQg D A s.heap ad (N + 1) E H locs) {h0 n mc ms : Nat} {st0 : List Value} {a : Array Value} {Ef : (Nat → Nat) → Nat → va_E} (ha : ad N = h0) (hr : va_Run p l e R s m args below meth c H locs cells slots mc ms (F0 m pc ls st0) rest (va_Qv (fun (r : Nat → Nat) => r 0 = h0) (fun r U => va_P D vwCl (gbl r n (Ef r)) U.heap ∧ va_D (gAi h0 H.size) (gbl r n (Ef r))) (gAi h0 H.size) a) (gAi h0 H.size))
    (kk : ∀ (r : Nat → Nat) (H1 : Heap) (locs1 : List Loc), r 0 = h0 → gQg D A s.heap (jn N ad r) (N + n) (jn N E (Ef r)) H1 locs1 → W p l e R s m args below meth c H1 locs1 (cells + mc) (slots + ms) Q (F0 m (pc + 3) ls rest)) : W p l e R s m args below meth c H locs cells slots Q (F0 m pc ls st0) := by
  obtain ⟨hx, hb, -, hown, hts, hK, hA⟩ := F
  obtain ⟨hP, hD, hS⟩ := G
  have hAN : A h0 := by rw [← ha]; exact hD.2 N _ (gbl_at (by omega))
  have hAi : ∀ q, gAi h0 H.size q → A q := fun q hq => by
    rcases hq with rfl | hq
    · exact hAN
    · exact hA q (Nat.le_trans hS.1 hq)
  refine va_callv hr hS (fun q _ h => hAi q h) hAi (fun r t H1 locs1 ht hvm hw hB hz hk hS1 => kk r H1 locs1 hw ?_)
  obtain ⟨hP1, hD1⟩ := hB
  rw [ht] at hP1
  have old : ∀ i, i < N → ad i < H.size ∧ ¬ gAi h0 H.size (ad i) := fun i hi => by
    have h1 : ad i < H.size := (hP i _ (gbl_at (by omega))).lt
    refine ⟨h1, fun q => ?_⟩
    rcases q with q | q
    · have := hD.1 i N _ _ (gbl_at (by omega)) (gbl_at (by omega)) (by rw [ha]; exact q)
      omega
    · omega
  unfold gQg
  rw [← gbl_jn]
  have hPl : va_P D vwCl (gbl ad N E) H1 := fun k q hq => by
    obtain ⟨h1, rfl⟩ := gbl_inv hq
    exact (hP k _ (gbl_at (by omega))).kept (hk _ (old k h1).1 (old k h1).2)
  refine ⟨hPl.app hP1, ⟨fun i j x y hi hj hxy => ?_, fun k q hq => ?_⟩, hS1⟩
  · by_cases h1 : i < N <;> by_cases h2 : j < N
    · rw [List.getElem?_append_left (by rw [gbl_len]; exact h1)] at hi
      rw [List.getElem?_append_left (by rw [gbl_len]; exact h2)] at hj
      obtain ⟨-, rfl⟩ := gbl_inv hi
      obtain ⟨-, rfl⟩ := gbl_inv hj
      exact hD.1 i j _ _ (gbl_at (by omega)) (gbl_at (by omega)) hxy
    · rw [List.getElem?_append_left (by rw [gbl_len]; exact h1)] at hi
      rw [List.getElem?_append_right (by rw [gbl_len]; omega)] at hj
      obtain ⟨-, rfl⟩ := gbl_inv hi
      have hg := hD1.2 _ _ hj
      rw [← show ad i = y.1 from hxy] at hg
      exact absurd hg (old i h1).2
    · rw [List.getElem?_append_right (by rw [gbl_len]; omega)] at hi
      rw [List.getElem?_append_left (by rw [gbl_len]; exact h2)] at hj
      obtain ⟨-, rfl⟩ := gbl_inv hj
      have hg := hD1.2 _ _ hi
      rw [show x.1 = ad j from hxy] at hg
      exact absurd hg (old j h2).2
    · rw [List.getElem?_append_right (by rw [gbl_len]; omega)] at hi hj
      have := hD1.1 _ _ _ _ hi hj hxy
      rw [gbl_len] at this
      omega
  · by_cases h1 : k < N
    · rw [List.getElem?_append_left (by rw [gbl_len]; exact h1)] at hq
      obtain ⟨-, rfl⟩ := gbl_inv hq
      exact hD.2 k _ (gbl_at (by omega))
    · rw [List.getElem?_append_right (by rw [gbl_len]; omega)] at hq
      exact hAi _ (hD1.2 _ _ hq)
theorem gq_vret (F : gQc D cy A p s m args c cc nL Ts own) (G : gQg D A s.heap ad N E H locs) {h0 : Nat} {Ef : (Nat → Nat) → Nat → va_E} (h0e : ad 0 = h0) (he : ∀ i, i < N → E i = Ef ad i) (hr : meth.sig.returnType = none) (hlk : meth.locks = false) (hdg : decode cc pc = .ok (.return_, 1)) : W p l e R s m args below meth c H locs cells slots (MQ below (va_Qv (fun (r : Nat → Nat) => r 0 = h0) (fun r U => va_P D vwCl (gbl r N (Ef r)) U.heap ∧ va_D A (gbl r N (Ef r))) A) args s cells slots A) (F0 m pc ls []) := by
  obtain ⟨hx, hb, -, hown, hts, hK, -⟩ := F
  have ee : gbl ad N E = gbl ad N (Ef ad) := by
    unfold gbl
    apply List.map_congr_left
    intro i hi
    rw [he i (List.mem_range.mp hi)]
  obtain ⟨hP, hD, hS⟩ := G
  rw [ee] at hP hD
  exact W.vret hx hb hr (fun t ht hW => ⟨⟨ad, rfl, h0e, by rw [ht]; exact hP, hD⟩, hS.F ht⟩) hS.2.2 hdg hlk
theorem gq_start {h0 ci : Nat} {fs : List Value} {U : State} (hP : va_P D vwCl [(h0, .inr (ci, fs))] U.heap) : gQg D (gAi h0 U.heap.size) U.heap (fun _ => h0) 1 (fun _ => .inr (ci, fs)) U.heap [] := by
  refine ⟨hP, ⟨fun i j x y hi hj _ => ?_, fun k q hq => ?_⟩, va_S.rf⟩
  · have := (gbl_inv hi).1
    have := (gbl_inv hj).1
    omega
  · obtain ⟨-, rfl⟩ := gbl_inv hq
    exact Or.inl rfl
/-- a call over the whole world made so far, which stays as many cells -/
def gAw (ad : Nat → Nat) (N sz : Nat) : Nat → Prop := fun q => (∃ i, i < N ∧ q = ad i) ∨ sz ≤ q
def gPw (D : va_G) (cy : Nat → ClassId) (ad : Nat → Nat) (N : Nat) (E : Nat → va_E) (sz : Nat) (Z : State → Prop) (U : State) : Prop := U.heap.size = sz ∧ va_P D vwCl (gbl ad N E) U.heap ∧ va_K D vwCl (gty cy) U ∧ va_D (fun _ => True) (gbl ad N E) ∧ Z U
theorem gbl_dd {B : Nat → Prop} {E2 : Nat → va_E} (h : va_D A (gbl ad N E)) (hB : ∀ i, i < N → B (ad i)) : va_D B (gbl ad N E2) := by
  refine ⟨fun i j x y hi hj hxy => ?_, fun k q hq => ?_⟩
  · obtain ⟨h1, rfl⟩ := gbl_inv hi
    obtain ⟨h2, rfl⟩ := gbl_inv hj
    exact h.1 i j _ _ (gbl_at h1) (gbl_at h2) hxy
  · obtain ⟨h1, rfl⟩ := gbl_inv hq
    exact hB k h1
theorem gAw_A (F : gQc D cy A p s m args c cc nL Ts own) (G : gQg D A s.heap ad N E H locs) : ∀ q, gAw ad N H.size q → A q := fun q hq => by
  rcases hq with ⟨i, hi, rfl⟩ | hq
  · exact G.2.1.2 i _ (gbl_at hi)
  · exact F.2.2.2.2.2.2 q (Nat.le_trans G.2.2.1 hq)
theorem gq_prew (F : gQc D cy A p s m args c cc nL Ts own) (G : gQg D A s.heap ad N E H locs) {As : List Value} {Z : State → Prop} (hzb : ∀ (U : State) (g : JFrame) (mk : MethodId) (a : Array Value), Z U → Z (U.calling g mk a)) (hzw : ∀ U : State, U.heap = H → s.WarmedH U.vm → Z U) : PreS s H (va_Pc As (gPw D cy ad N E H.size Z)) As := by
  obtain ⟨hx, hb, -, hown, hts, hK, hA⟩ := F
  exact ⟨fun a U g mk q => by obtain ⟨q0, q1, qP, qK, qD, qZ⟩ := q; exact ⟨q0, q1, qP, va_K.moved (u := U) (U := U.calling g mk a) (Vm.Alike.refl U.vm) qK, qD, hzb U g mk a qZ⟩, fun U hU hW => ⟨rfl, by rw [hU], by rw [hU]; exact G.1, va_K.moved hW.alike hK, gbl_dd G.2.1 (fun _ _ => trivial), hzw U hU hW⟩⟩
theorem gq_recw (F : gQc D cy A p s m args c cc nL Ts own) (G : gQg D A s.heap ad N E H locs) {t ci n a : Nat} {C : String} {T : u_T} {fs : List Value} (ht : t < N) (he : E t = .inr (ci, fs)) (hc : vwCl[ci]? = some (C, T, n)) (ha : ad t = a) {As : List Value} {Z : State → Prop} (hzb : ∀ (U : State) (g : JFrame) (mk : MethodId) (a : Array Value), Z U → Z (U.calling g mk a)) (hzw : ∀ U : State, U.heap = H → s.WarmedH U.vm → Z U) : PreV s H C a (va_Pc (.ref a :: As) (gPw D cy ad N E H.size Z)) As := by
  subst ha
  obtain ⟨h1, h2⟩ := gq_prew F G (As := .ref (ad t) :: As) hzb hzw
  exact ⟨h1, va_recv F.2.2.2.2.2.1 G.1 hc (q0 := t) (by rw [gbl_at ht, he]), h2⟩
theorem gq_callw (F : gQc D cy A p s m args c cc nL Ts own) (G : gQg D A s.heap ad N E H locs) {st0 : List Value} {a : Array Value} {E2 : Nat → va_E} (hr : va_Run p l e R s m args below meth c H locs cells slots 0 0 (F0 m pc ls st0) rest (va_Qv (fun (_ : Unit) => True) (fun _ U => va_P D vwCl (gbl ad N E2) U.heap) (gAw ad N H.size) a) (gAw ad N H.size))
    (kk : ∀ (H1 : Heap) (locs1 : List Loc), gQg D A s.heap ad N E2 H1 locs1 → W p l e R s m args below meth c H1 locs1 cells slots Q (F0 m (pc + 3) ls rest)) : W p l e R s m args below meth c H locs cells slots Q (F0 m pc ls st0) := by
  have hAi := gAw_A F G
  refine va_callv hr G.2.2 (fun q _ h => hAi q h) hAi (fun u t H1 locs1 ht hvm hw hB hz hk hS1 => kk H1 locs1 ⟨by rw [← ht]; exact hB, gbl_dd G.2.1 (fun i hi => G.2.1.2 i _ (gbl_at hi)), hS1⟩)
theorem gq_vretw (F : gQc D cy A p s m args c cc nL Ts own) (G : gQg D A s.heap ad N E H locs) {E2 : Nat → va_E} (he : ∀ i, i < N → E i = E2 i) (hr : meth.sig.returnType = none) (hlk : meth.locks = false) (hdg : decode cc pc = .ok (.return_, 1)) : W p l e R s m args below meth c H locs cells slots (MQ below (va_Qv (fun (_ : Unit) => True) (fun _ U => va_P D vwCl (gbl ad N E2) U.heap) A) args s cells slots A) (F0 m pc ls []) := by
  obtain ⟨hx, hb, -, hown, hts, hK, -⟩ := F
  have ee : gbl ad N E = gbl ad N E2 := by
    unfold gbl
    apply List.map_congr_left
    intro i hi
    rw [he i (List.mem_range.mp hi)]
  obtain ⟨hP, hD, hS⟩ := G
  rw [ee] at hP
  exact W.vret hx hb hr (fun t ht hW => ⟨⟨(), rfl, trivial, by show va_P D vwCl (gbl ad N E2) t.heap; rw [ht]; exact hP⟩, hS.F ht⟩) hS.2.2 hdg hlk
end GB
