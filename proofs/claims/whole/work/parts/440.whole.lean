set_option maxRecDepth 16384
/-- the cells before the last do not see its address -/
theorem gk_5 : ∀ i, i < 530 → gck i = 22 ∨ gck i = 24 ∨ (gck i = 25 ∧ i + 1 + gal i ≤ 530) ∨ i ≤ 55 := by decide +kernel
set_option maxHeartbeats 4000000 in
theorem gwe_up {D : va_G} {ad : Nat → Nat} {cy : Nat → ClassId} {d : gm} {q i a : Nat} {H : Heap} (h : i < 530) (hh : va_at D vwCl (a, gwe ad cy gc0 d i) H) : va_at D vwCl (a, gwe (va_up ad 530 q) cy gc0 d i) H := by
  rcases gk_5 i h with hk | hk | ⟨hk, hl⟩ | hk
  · rw [gwe_22 hk] at hh ⊢
    exact hh
  · rw [gwe_24 hk] at hh ⊢
    exact hh
  · rw [gwe_25 hk] at hh ⊢
    have e0 : H[a]? = some (vp_cell (cy 4) (gal i, .inr (.inr (.inr (.inr (fun k => some (ad (i + 1 + k)))))))) := hh
    show H[a]? = some (vp_cell (cy 4) (gal i, .inr (.inr (.inr (.inr (fun k => some (va_up ad 530 q (i + 1 + k))))))))
    rw [vp_cell_q] at e0 ⊢
    rw [e0]
    congr 1
    apply arrV_cg
    intro j hj
    rw [va_up_ne _ _ (by omega)]
  · rcases (show i = 0 ∨ i = 1 ∨ i = 2 ∨ i = 3 ∨ i = 4 ∨ i = 5 ∨ i = 6 ∨ i = 7 ∨ i = 8 ∨ i = 9 ∨ i = 10 ∨ i = 11 ∨ i = 12 ∨ i = 13 ∨ i = 14 ∨ i = 15 ∨ i = 16 ∨ i = 17 ∨ i = 18 ∨ i = 19 ∨ i = 20 ∨ i = 21 ∨ i = 22 ∨ i = 23 ∨ i = 24 ∨ i = 25 ∨ i = 26 ∨ i = 27 ∨ i = 28 ∨ i = 29 ∨ i = 30 ∨ i = 31 ∨ i = 32 ∨ i = 33 ∨ i = 34 ∨ i = 35 ∨ i = 36 ∨ i = 37 ∨ i = 38 ∨ i = 39 ∨ i = 40 ∨ i = 41 ∨ i = 42 ∨ i = 43 ∨ i = 44 ∨ i = 45 ∨ i = 46 ∨ i = 47 ∨ i = 48 ∨ i = 49 ∨ i = 50 ∨ i = 51 ∨ i = 52 ∨ i = 53 ∨ i = 54 ∨ i = 55 by omega) with rfl | rfl | rfl | rfl | rfl | rfl | rfl | rfl | rfl | rfl | rfl | rfl | rfl | rfl | rfl | rfl | rfl | rfl | rfl | rfl | rfl | rfl | rfl | rfl | rfl | rfl | rfl | rfl | rfl | rfl | rfl | rfl | rfl | rfl | rfl | rfl | rfl | rfl | rfl | rfl | rfl | rfl | rfl | rfl | rfl | rfl | rfl | rfl | rfl | rfl | rfl | rfl | rfl | rfl | rfl | rfl <;> exact hh
set_option maxHeartbeats 4000000 in
set_option maxRecDepth 100000 in
theorem whole_start {p : Program} {e : Env} {s : State} {m : MethodId} {below : List Frame} {meth : Method} {c : Code} (l : Launch) (hlt : l.stackTraces = false) {b L : Nat} {xs : Nat → Int32} (hL : L ≤ 512) (C0 : lw_At p s m meth c b L xs) : W p l e room_1 s m #[Value.ref b] below meth c s.heap [] 0 0 (lw_Z below #[Value.ref b] s) (entryFrame m ([Value.ref b] : List Value).toArray 8) := by
  obtain ⟨hx, hb, hr, hml, hown, htb, hX, hbl, hlocks, hgv⟩ := id C0
  have hts : ∀ w ∈ wsL_law_, w.before #[Value.ref b] s = true := fun w hw => htb w (wsL_law__in w hw)
  obtain ⟨sa, hZ⟩ := given_Z htb hgv
  obtain ⟨D, cy, hK⟩ := given_K htb
  obtain ⟨e1, d1, hi1, hi2, hR⟩ := init_rel (N := 1200) (by decide)
  have hNs : ∀ U : State, s.WarmedH U.vm → gNs U := fun U hW => ⟨va_Nw.warmM hW (va_Nw.of rfl (htb (.methodLinkNest RX9 9 yX7_init "LeaningMarket") (by decide +kernel))), va_Nw.warmM hW (va_Nw.of rfl (htb (.methodLinkNest RX9 18 yX6_init "LeaningMarket") (by decide +kernel))), va_Nw.warmM hW (va_Nw.of rfl (htb (.methodLinkNest RX9 28 yX8_init "LeaningMarket") (by decide +kernel))), va_Nw.warmM hW (va_Nw.of rfl (htb (.methodLinkNest RX9 35 yX5_init "LeaningMarket") (by decide +kernel))), va_Nw.warmM hW (va_Nw.of rfl (htb (.methodLinkNest RX9 42 yX1_init "LeaningMarket") (by decide +kernel))), va_Nw.warmM hW (va_Nw.of rfl (htb (.methodLinkNest RX9 49 yX4_init "LeaningMarket") (by decide +kernel))), va_Nw.warmM hW (va_Nw.of rfl (htb (.methodLinkNest RX9 56 yX2_init "LeaningMarket") (by decide +kernel))), va_Nw.warmM hW (va_Nw.of rfl (htb (.methodLinkNest RX9 73 yX0_init "LeaningMarket") (by decide +kernel))), va_Nw.warmM hW (va_Nw.of rfl (htb (.methodLinkNest RX2 9 yX6_init "LeaningMarket") (by decide +kernel)))⟩
  have hNb : ∀ (U : State) (g : JFrame) (mk : MethodId) (a : Array Value), gNs U → gNs (U.calling g mk a) := fun U g mk a h => by
    obtain ⟨h1, h2, h3, h4, h5, h6, h7, h8, h9⟩ := h
    exact ⟨va_Nw.same (u := U) rfl rfl h1, va_Nw.same (u := U) rfl rfl h2, va_Nw.same (u := U) rfl rfl h3, va_Nw.same (u := U) rfl rfl h4, va_Nw.same (u := U) rfl rfl h5, va_Nw.same (u := U) rfl rfl h6, va_Nw.same (u := U) rfl rfl h7, va_Nw.same (u := U) rfl rfl h8, va_Nw.same (u := U) rfl rfl h9⟩
  have hl := lv_entry ([.ref b]) (n := 8) (Nat.le_of_ble_eq_true rfl)
  rw [lg_entry_eq]
  generalize (lg_sl ([.ref b]) ++ List.replicate (8 - (lg_sl ([.ref b])).length) Slot.unset).toArray = ls at hl ⊢
  have hl : lv_has ls 8 [(0, .ref b)] := hl
  have F : gQc D cy (fun q => s.heap.size ≤ q) p s m #[Value.ref b] c cL_law_ 8 wsL_law_ RL := ⟨hx, hb, hml, hown, hts, hK, fun _ h => h⟩
  have G : gQg D (fun q => s.heap.size ≤ q) s.heap (fun _ => 0) 0 (fun _ => .inr (0, [])) s.heap [] := ⟨fun k q h => absurd (gbl_inv h).1 (by omega), ⟨fun i j p q h => absurd (gbl_inv h).1 (by omega), fun k q h => absurd (gbl_inv h).1 (by omega)⟩, va_S.rf⟩
  refine gq_new F G (ci := 9) (n := 15) (fs := [.null, .null, .null, .null, .null, .null, .null, .null, .null, .null, .null, .null, .int 0, .int 0, .int 0]) rfl inlX9 tyX9 tyX9_ok (by decide +kernel) (by decide +kernel) (by decide +kernel) (fun j hj => by rcases (show j = 0 ∨ j = 1 ∨ j = 2 ∨ j = 3 ∨ j = 4 ∨ j = 5 ∨ j = 6 ∨ j = 7 ∨ j = 8 ∨ j = 9 ∨ j = 10 ∨ j = 11 ∨ j = 12 ∨ j = 13 ∨ j = 14 by omega) with rfl | rfl | rfl | rfl | rfl | rfl | rfl | rfl | rfl | rfl | rfl | rfl | rfl | rfl | rfl <;> rfl) (by show 0 + 1 ≤ _; decide) (by show 0 + 15 ≤ _; decide) dL_law__0 (fun q0 H G => ?_)
  refine W.widen (k := 1) (n := 15) (by omega) (by omega) ?_
  refine lv_dup hx hb dL_law__3 rfl ?_
  refine gq_call F G (N := 0) (n := 55) (Ef := fun r : Nat → Nat => gwe r cy gc0 gd0) rfl (va_runI (As := []) (rest := [.ref q0]) ⟨hx, hb, hml, hown, hts⟩ (ci_X9 l D cy gd0 q0 H.size) (cwI 0 hts gL_law__X9_init rfl rfl rfl (hts (.initialized RX9) (by decide +kernel)) (hts (.methodLink RL 102 yX9_init) (by decide +kernel)) (hts (.instanceMethod yX9_init) (by decide +kernel)) rfl (by decide +kernel) ⟨by decide, by decide⟩) (gq_pre F G (N := 0) rfl rfl hNb hNs) rfl rfl hl.1 rfl (lv_room (Nat.le_of_ble_eq_true rfl)) dL_law__4 ⟨by show 1 + 54 ≤ _; decide, by show 15 + 7965 ≤ _; decide⟩) (fun r H locs er G => ?_)
  subst er
  refine W.widen (k := 55) (n := 7980) (by omega) (by omega) ?_
  have G : gQg D (fun q => s.heap.size ≤ q) s.heap r 55 (fun i => gwe r cy gc0 gd0 i) H locs := by
    have ej : ∀ {α : Type} (f g : Nat → α), jn 0 f g = g := fun f g => by
      funext i
      rw [jn_r (by omega), Nat.sub_zero]
    rw [ej, ej] at G
    exact G
  refine lv_astore_n (lv' := [(1, .ref (r 0)), (0, .ref b)]) hx hb dL_law__7 rfl hl (by decide) rfl (fun ls hl => ?_)
  refine gq_new F G (ci := 10) (n := 46) (fs := [.int 0, .int 0, .int 0, .int 0, .int 0, .int 0, .int 0, .int 0, .int 0, .null, .null, .null, .null, .null, .null, .null, .null, .int 0, .int 0, .null, .null, .null, .null, .null, .null, .null, .int 0, .null, .null, .null, .null, .null, .int 0, .int 0, .int 0, .int 0, .int 0, .int 0, .int 0, .long 0, .long 0, .null, .int 0, .null, .null, .int 0]) rfl inlX10 tyX10 tyX10_ok (by decide +kernel) (by decide +kernel) (by decide +kernel) (fun j hj => by rcases (show j = 0 ∨ j = 1 ∨ j = 2 ∨ j = 3 ∨ j = 4 ∨ j = 5 ∨ j = 6 ∨ j = 7 ∨ j = 8 ∨ j = 9 ∨ j = 10 ∨ j = 11 ∨ j = 12 ∨ j = 13 ∨ j = 14 ∨ j = 15 ∨ j = 16 ∨ j = 17 ∨ j = 18 ∨ j = 19 ∨ j = 20 ∨ j = 21 ∨ j = 22 ∨ j = 23 ∨ j = 24 ∨ j = 25 ∨ j = 26 ∨ j = 27 ∨ j = 28 ∨ j = 29 ∨ j = 30 ∨ j = 31 ∨ j = 32 ∨ j = 33 ∨ j = 34 ∨ j = 35 ∨ j = 36 ∨ j = 37 ∨ j = 38 ∨ j = 39 ∨ j = 40 ∨ j = 41 ∨ j = 42 ∨ j = 43 ∨ j = 44 ∨ j = 45 by omega) with rfl | rfl | rfl | rfl | rfl | rfl | rfl | rfl | rfl | rfl | rfl | rfl | rfl | rfl | rfl | rfl | rfl | rfl | rfl | rfl | rfl | rfl | rfl | rfl | rfl | rfl | rfl | rfl | rfl | rfl | rfl | rfl | rfl | rfl | rfl | rfl | rfl | rfl | rfl | rfl | rfl | rfl | rfl | rfl | rfl | rfl <;> rfl) (by show 55 + 1 ≤ _; decide) (by show 7980 + 46 ≤ _; decide) dL_law__8 (fun q1 H G => ?_)
  refine W.widen (k := 56) (n := 8026) (by omega) (by omega) ?_
  refine lv_dup hx hb dL_law__11 rfl ?_
  have e0 : va_up r 55 q1 0 = r 0 := rfl
  have e55 : va_up r 55 q1 55 = q1 := rfl
  have eE : gbl (va_up r 55 q1) 56 (va_up (fun i => gwe r cy gc0 gd0 i) 55 (.inr (10, [.int 0, .int 0, .int 0, .int 0, .int 0, .int 0, .int 0, .int 0, .int 0, .null, .null, .null, .null, .null, .null, .null, .null, .int 0, .int 0, .null, .null, .null, .null, .null, .null, .null, .int 0, .null, .null, .null, .null, .null, .int 0, .int 0, .int 0, .int 0, .int 0, .int 0, .int 0, .long 0, .long 0, .null, .int 0, .null, .null, .int 0]))) = gbl (va_up r 55 q1) 56 (e56 (va_up r 55 q1) cy) := by
    unfold gbl
    apply List.map_congr_left
    intro i hi
    have hi := List.mem_range.mp hi
    by_cases h5 : i = 55
    · subst h5; rfl
    · rcases (show i = 0 ∨ i = 1 ∨ i = 2 ∨ i = 3 ∨ i = 4 ∨ i = 5 ∨ i = 6 ∨ i = 7 ∨ i = 8 ∨ i = 9 ∨ i = 10 ∨ i = 11 ∨ i = 12 ∨ i = 13 ∨ i = 14 ∨ i = 15 ∨ i = 16 ∨ i = 17 ∨ i = 18 ∨ i = 19 ∨ i = 20 ∨ i = 21 ∨ i = 22 ∨ i = 23 ∨ i = 24 ∨ i = 25 ∨ i = 26 ∨ i = 27 ∨ i = 28 ∨ i = 29 ∨ i = 30 ∨ i = 31 ∨ i = 32 ∨ i = 33 ∨ i = 34 ∨ i = 35 ∨ i = 36 ∨ i = 37 ∨ i = 38 ∨ i = 39 ∨ i = 40 ∨ i = 41 ∨ i = 42 ∨ i = 43 ∨ i = 44 ∨ i = 45 ∨ i = 46 ∨ i = 47 ∨ i = 48 ∨ i = 49 ∨ i = 50 ∨ i = 51 ∨ i = 52 ∨ i = 53 ∨ i = 54 by omega) with rfl | rfl | rfl | rfl | rfl | rfl | rfl | rfl | rfl | rfl | rfl | rfl | rfl | rfl | rfl | rfl | rfl | rfl | rfl | rfl | rfl | rfl | rfl | rfl | rfl | rfl | rfl | rfl | rfl | rfl | rfl | rfl | rfl | rfl | rfl | rfl | rfl | rfl | rfl | rfl | rfl | rfl | rfl | rfl | rfl | rfl | rfl | rfl | rfl | rfl | rfl | rfl | rfl | rfl | rfl <;> rfl
  have G : gQg D (fun q => s.heap.size ≤ q) s.heap (va_up r 55 q1) 56 (e56 (va_up r 55 q1) cy) H locs := by
    unfold gQg at G ⊢
    rw [eE] at G
    exact G
  rw [← e0] at hl
  generalize va_up r 55 q1 = ad at *
  subst e55
  have hAw := gAw_A F G
  refine va_callv (va_runI (As := []) (rest := [.ref (ad 55)]) ⟨hx, hb, hml, hown, hts⟩ (ci_X10 l sa D cy ad H.size hi1 hi2) (cwI 0 hts gL_law__X10_init rfl rfl rfl (hts (.initialized RX10) (by decide +kernel)) (hts (.methodLink RL 105 yX10_init) (by decide +kernel)) (hts (.instanceMethod yX10_init) (by decide +kernel)) rfl (by decide +kernel) ⟨by decide, by decide⟩) (gq_prew F G (As := [.ref (ad 55)]) (fun U g mk a h => ⟨gZ_blind h.1, aoa_mv (u := U) (U := U.calling g mk a) (Vm.Alike.refl U.vm) h.2⟩) (fun U hU hW => ⟨gZ_call hZ G.2.2 hAw hU hW, aoa_mv hW.alike (va_AOA.of (htb (.arrayOver (.array .int)) (by decide +kernel)))⟩)) rfl rfl hl.1 rfl (lv_room (Nat.le_of_ble_eq_true rfl)) dL_law__12 ⟨by show 56 + 474 ≤ _; decide, by show 8026 + 8139 ≤ _; decide⟩) G.2.2 (fun q _ h => hAw q h) hAw (fun a9 t H1 locs1 ht hvm hw hB hz hk hS => ?_)
  refine W.widen (k := 530) (n := 16165) (by omega) (by omega) ?_
  obtain ⟨hP9, hI9, hA9⟩ := hB
  rw [ht] at hP9
  rw [← hw 0 (by decide)] at hl
  rw [← hw 55 (by decide)]
  have hl : lv_has ls 8 [(1, .ref (a9 0)), (0, .ref b)] := hl
  refine lv_astore_n (lv' := [(2, .ref (a9 55)), (1, .ref (a9 0)), (0, .ref b)]) hx hb dL_law__15 rfl hl (by decide) rfl (fun ls hl => ?_)
  refine lv_iconst (v := 1) hx hb dL_law__16 (by decide) ?_
  have hD9 : va_D (fun q => s.heap.size ≤ q) (gbl a9 530 (fun i => gwe a9 cy gc0 d1 i)) := ⟨fun i j x y hi hj hxy => by
    obtain ⟨h1, rfl⟩ := gbl_inv hi
    obtain ⟨h2, rfl⟩ := gbl_inv hj
    exact hI9 i j h1 h2 hxy, fun k q hq => by
    obtain ⟨h1, rfl⟩ := gbl_inv hq
    exact hAw _ (hA9 k h1)⟩
  have G : gQg D (fun q => s.heap.size ≤ q) s.heap a9 530 (fun i => gwe a9 cy gc0 d1 i) H1 locs1 := ⟨hP9, hD9, hS⟩
  refine gq_newa F G 3 rfl rfl (by decide +kernel) (N' := 1) (a0 := (1, .inr (.inl (fun _ => 0)))) (fun _ => rfl) (by decide) rfl (by decide) (by show 530 + 1 ≤ _; decide) (by show 16165 + 1 ≤ _; decide) dL_law__17 (fun q3 H G => ?_)
  refine W.widen (k := 531) (n := 16166) (by omega) (by omega) ?_
  have hP3 : va_P D vwCl (gwl (va_up a9 530 q3) cy 531 gc0 d1) H := fun k x hx => by
    by_cases hk : k < 531
    · rw [gwl_at hk] at hx
      obtain rfl := Option.some.inj hx
      have h0 := G.1 k _ (gbl_at hk)
      by_cases h5 : k = 530
      · subst h5
        exact h0
      · have h1 : va_at D vwCl (va_up a9 530 q3 k, gwe a9 cy gc0 d1 k) H := by
          have h2 := h0
          rw [va_up_ne (fun i => gwe a9 cy gc0 d1 i) _ h5] at h2
          exact h2
        exact gwe_up (by omega) h1
    · rw [gwl_no hk] at hx
      cases hx
  obtain ⟨hI3, hA3⟩ := gbl_I G.2.1
  have hS3 := G.2.2
  have f0 : va_up a9 530 q3 0 = a9 0 := rfl
  have f55 : va_up a9 530 q3 55 = a9 55 := rfl
  have f530 : va_up a9 530 q3 530 = q3 := rfl
  rw [← f0, ← f55] at hl
  generalize va_up a9 530 q3 = az at *
  subst f530
  refine lv_astore_n (lv' := [(3, .ref (az 530)), (2, .ref (az 55)), (1, .ref (az 0)), (0, .ref b)]) hx hb dL_law__19 rfl hl (by decide) rfl (fun ls hl => ?_)
  refine lv_iconst (v := 0) hx hb dL_law__20 (by decide) ?_
  refine lv_istore (lv' := [(4, .int 0), (3, .ref (az 530)), (2, .ref (az 55)), (1, .ref (az 0)), (0, .ref b)]) hx hb dL_law__21 hl (by decide) rfl (fun ls hl => ?_)
  have FF : gF sa D az cy 531 (fun q => s.heap.size ≤ q) p s m #[Value.ref b] c cL_law_ 8 wsL_law_ RL := ⟨hx, hb, hml, hown, hts, hK, hI3, hA3, fun _ h => h, hZ⟩
  exact lw_loop hlt FF hr hlocks hX hbl hL 64 0 531 16166 gc0 d1 H _ ls (by omega) (by omega) (by omega) (by omega) hR ⟨hP3, hS3⟩ (lv_sub hl [4, 3, 2, 1, 0] rfl)
