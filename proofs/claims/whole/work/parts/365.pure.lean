set_option maxRecDepth 16384
/-! all amounts, by the model -/
def gBy2 (D : Nat → Nat → Prop) (d : gm) : Prop := ∀ k, 1 ≤ k → k ≤ 480 → (d.1 528 k = -1 ∧ ∀ z, ¬ D k z) ∨ ∃ b, b < 256 ∧ d.1 528 k = nI b ∧ gLv (D k) pOn b
theorem gBy2_c {D D' : Nat → Nat → Prop} {d : gm} (h : gBy2 D d) (e : ∀ k z, 1 ≤ k → (D k z ↔ D' k z)) : gBy2 D' d := by
  intro k h1 h2
  rcases h k h1 h2 with ⟨a, b⟩ | ⟨b, hb, eb, l⟩
  · exact Or.inl ⟨a, fun z hz => b z ((e k z h1).2 hz)⟩
  · exact Or.inr ⟨b, hb, eb, (e k b h1).1 l.1, fun z hz => l.2 z ((e k z h1).2 hz)⟩
theorem i_addn {a : Int32} {A : Int} {w : Nat} (h : a.toInt = A) (hA : -100000 ≤ A ∧ A ≤ 100000) (hw : w ≤ 60) : (a + nI w).toInt = A + w := by
  rw [Int32.toInt_add, n_ti (by omega), h]
  exact Int.bmod_eq_of_le (by omega) (by omega)
theorem i_subn {a : Int32} {A : Int} {w : Nat} (h : a.toInt = A) (hA : -100000 ≤ A ∧ A ≤ 100000) (hw : w ≤ 60) : (a - nI w).toInt = A - w := by
  rw [Int32.toInt_sub, n_ti (by omega), h]
  exact Int.bmod_eq_of_le (by omega) (by omega)
theorem pOn_b {z : Nat} (h : z < 256) : pOn z < 1000 := Nat.lt_of_le_of_lt (on_t 10 (by omega) z (by omega)) (by decide)
/-- the end of a laying: the amount's set is the lesser one -/
theorem leaf_d {th u N dd : Nat} {x a4 : Int32} {A : Int} {D : Nat → Nat → Prop} {d : gm} (h59 : d.1 59 0 = nI th) (h8 : th ≤ 8) (hu : u < 256) (ha : a4.toInt = A) (hA : A ≤ 480) (hN : 20 < N) (h : gBy2 D d) : ∃ d2, m_X10_laysFrom (dd + 1) N 55 (nI th) x (nI u) a4 d = some d2 ∧ gBy2 (fun k z => D k z ∨ (z = u ∧ (k : Int) = A)) d2 ∧ fr (fun i => i = 528) d d2 := by
  by_cases q0 : a4 ≤ 0
  · refine ⟨d, ?_, gBy2_c h (fun k z hk => ⟨Or.inl, fun e => ?_⟩), fun _ _ => rfl, rfl⟩
    · show m_X10_laysFrom_b (m_X10_laysFrom dd) N 55 (nI th) x (nI u) a4 d = _
      unfold m_X10_laysFrom_b; simp only [gj_e]
      rw [gc_1 (show gck 55 = 10 from rfl), n_cl0, h59, if_pos rfl, if_pos q0]
    · rcases e with e | ⟨-, e⟩
      · exact e
      · rw [Int32.le_iff_toInt_le, i_0, ha] at q0; omega
  have hA1 : 1 ≤ A := by rw [Int32.le_iff_toInt_le, i_0, ha] at q0; omega
  obtain ⟨n, rfl⟩ : ∃ n : Nat, A = n := ⟨A.toNat, by omega⟩
  have e4 : a4 = nI n := Int32.toInt_inj.1 (by rw [ha, n_ti (by omega)])
  subst e4
  obtain ⟨d3, ed3⟩ : ∃ z, z = gm_r d 528 (upd (d.1 528) n (nI u)) := ⟨_, rfl⟩
  have f3 : fr (fun i => i = 528) d d3 := ⟨fun i hi => by rw [ed3, gr_n _ _ hi], by rw [ed3]; rfl⟩
  have d3n : d3.1 528 n = nI u := by rw [ed3, gr_s, up_s]
  have d3k : ∀ k, k ≠ n → d3.1 528 k = d.1 528 k := fun k hk => by rw [ed3, gr_s, up_n _ _ hk]
  have take : gLv (fun z => D n z ∨ (z = u ∧ (n : Int) = n)) pOn u → gBy2 (fun k z => D k z ∨ (z = u ∧ (k : Int) = n)) d3 := by
    intro hl k h1 h2
    by_cases e : k = n
    · rw [e]; exact Or.inr ⟨u, hu, d3n, hl⟩
    · rw [d3k k e]
      have hD : ∀ z, (D k z ∨ (z = u ∧ (k : Int) = n)) ↔ D k z := fun z => ⟨fun q => q.resolve_right (fun w => e (by have := w.2; omega)), Or.inl⟩
      rcases h k h1 h2 with ⟨a, b⟩ | ⟨b, hb, eb, l⟩
      · exact Or.inl ⟨a, fun z hz => b z ((hD z).1 hz)⟩
      · exact Or.inr ⟨b, hb, eb, Or.inl l.1, fun z hz => l.2 z ((hD z).1 hz)⟩
  have X0 : m_X10_laysFrom (dd + 1) N 55 (nI th) x (nI u) (nI n) d = (if d.1 528 n = -1 then some d3 else gb (m_X10_ones N (d.1 528 n)) (fun (r38 : Int32) => (if nI (pOn u) < r38 then some d3 else (if nI (pOn u) = r38 then (if d.1 528 n ≤ nI u then some d else some d3) else some d)))) := by
    show m_X10_laysFrom_b (m_X10_laysFrom dd) N 55 (nI th) x (nI u) (nI n) d = _
    unfold m_X10_laysFrom_b; simp only [gj_e]
    have g : 0 ≤ (nI n).toInt ∧ (nI n).toInt < 481 := n_rg (by omega) (by omega)
    rw [gc_1 (show gck 55 = 10 from rfl), n_cl0, h59, if_pos rfl, if_neg q0]
    have eo : m_X10_ones N (nI u) = some (nI (pOn u)) := on_on (by omega) hN
    simp only [gc_1 g, eo, gb_e]
    rw [n_cl (by omega), gv_e, ← ed3]
    by_cases q : d.1 528 n = -1
    · rw [if_pos q, if_pos q]
    · rw [if_neg q, if_neg q]
      cases m_X10_ones N (d.1 528 n) with
      | none => rfl
      | some w => rfl
  rcases h n (by omega) (by omega) with ⟨e1, e2⟩ | ⟨b, hb, eb, l⟩
  · refine ⟨d3, by rw [X0, if_pos e1], take ⟨Or.inr ⟨rfl, rfl⟩, fun z hz => ?_⟩, f3⟩
    rcases hz with hz | ⟨rfl, -⟩
    · exact absurd hz (e2 z)
    · exact Or.inr ⟨rfl, Nat.le_refl _⟩
  have ob := pOn_b hb
  have ou := pOn_b hu
  have nb : ¬ d.1 528 n = -1 := by rw [eb, n_ne (by omega)]; exact fun z => z
  rw [if_neg nb, eb, gb_x (on_on (by omega) hN)] at X0
  have keep : (pOn b < pOn u ∨ (pOn b = pOn u ∧ b ≤ u)) → gBy2 (fun k z => D k z ∨ (z = u ∧ (k : Int) = n)) d := by
    intro hl k h1 h2
    by_cases e : k = n
    · rw [e]
      refine Or.inr ⟨b, hb, eb, Or.inl l.1, fun z hz => ?_⟩
      rcases hz with hz | ⟨rfl, -⟩
      · exact l.2 z hz
      · exact hl
    · have hD : ∀ z, (D k z ∨ (z = u ∧ (k : Int) = n)) ↔ D k z := fun z => ⟨fun q => q.resolve_right (fun w => e (by have := w.2; omega)), Or.inl⟩
      rcases h k h1 h2 with ⟨a, b⟩ | ⟨b, hb, eb, l⟩
      · exact Or.inl ⟨a, fun z hz => b z ((hD z).1 hz)⟩
      · exact Or.inr ⟨b, hb, eb, Or.inl l.1, fun z hz => l.2 z ((hD z).1 hz)⟩
  have new : (pOn u < pOn b ∨ (pOn u = pOn b ∧ u ≤ b)) → gLv (fun z => D n z ∨ (z = u ∧ (n : Int) = n)) pOn u := by
    intro hl
    refine ⟨Or.inr ⟨rfl, rfl⟩, fun z hz => ?_⟩
    rcases hz with hz | ⟨rfl, -⟩
    · have := l.2 z hz
      omega
    · exact Or.inr ⟨rfl, Nat.le_refl _⟩
  by_cases q1 : pOn u < pOn b
  · exact ⟨d3, by rw [X0, if_pos (by rw [n_lt (by omega) (by omega)]; exact q1)], take (new (Or.inl q1)), f3⟩
  have n1 : ¬ nI (pOn u) < nI (pOn b) := by rw [n_lt (by omega) (by omega)]; exact q1
  by_cases q2 : pOn u = pOn b
  · have e2 : nI (pOn u) = nI (pOn b) := by rw [q2]
    by_cases q3 : b ≤ u
    · exact ⟨d, by rw [X0, if_neg n1, if_pos e2, if_pos (by rw [n_le (by omega) (by omega)]; exact q3)], keep (Or.inr ⟨q2.symm, q3⟩), fun _ _ => rfl, rfl⟩
    · exact ⟨d3, by rw [X0, if_neg n1, if_pos e2, if_neg (by rw [n_le (by omega) (by omega)]; exact q3)], take (new (Or.inr ⟨q2, by omega⟩)), f3⟩
  · exact ⟨d, by rw [X0, if_neg n1, if_neg (by rw [n_eq (by omega) (by omega)]; exact q2)], keep (Or.inl (by omega)), fun _ _ => rfl, rfl⟩
theorem from_d {th m x N : Nat} {r : Nat → Int32} (hR : gRow th m r) (h8 : th ≤ 8) (hx : x < 256) (hN : 20 < N) : ∀ q dd i u A a4 D d, q + i = th → q + 1 ≤ dd → u < 2 ^ i → a4.toInt = A → -(60 * (i : Int)) ≤ A → A ≤ 60 * (i : Int) → d.1 503 = r → d.1 59 0 = nI th → gBy2 D d → ∃ d2, m_X10_laysFrom dd N 55 (nI i) (nI x) (nI u) a4 d = some d2 ∧ gBy2 (fun k z => D k z ∨ rch x r q i u A z k) d2 ∧ fr (fun i => i = 528) d d2 := by
  intro q
  induction q with
  | zero =>
    intro dd i u A a4 D d hq hd hu ha hA1 hA2 h503 h59 h
    obtain ⟨e, rfl⟩ : ∃ e, dd = e + 1 := ⟨dd - 1, by omega⟩
    obtain rfl : i = th := by omega
    have := p2_9 i (by omega)
    exact leaf_d h59 h8 (by omega) ha (by omega) hN h
  | succ q ih =>
    intro dd i u A a4 D d hq hd hu ha hA1 hA2 h503 h59 h
    obtain ⟨e, rfl⟩ : ∃ e, dd = e + 1 := ⟨dd - 1, by omega⟩
    have hp : 2 ^ (i + 1) = 2 ^ i + 2 ^ i := by rw [Nat.pow_succ]; omega
    obtain ⟨-, -, b3, -⟩ := bt_lo i (by omega) u hu
    obtain ⟨ew, w1, w60⟩ := pWt_e hR (show i < th by omega)
    obtain ⟨d3, e3, g3, f3⟩ := ih e (i + 1) u A a4 D d (by omega) (by omega) (by omega) ha (by omega) (by omega) h503 h59 h
    have r3 : d3.1 503 = r := by rw [f3.1 503 (by omega)]; exact h503
    have k3 : d3.1 59 0 = nI th := by rw [f3.1 59 (by omega)]; exact h59
    have ni : ¬ nI i = nI th := by rw [n_eq (by omega) (by omega)]; omega
    have z0 : (0 : Int32) + nI i = nI i := Int32.zero_add _
    by_cases qb : x / 2 ^ i % 2 = 1
    · obtain ⟨d4, e4, g4, f4⟩ := ih e (i + 1) (u + 2 ^ i) (A + pWt r i) (a4 + nI (pWt r i)) _ d3 (by omega) (by omega) (by omega) (i_addn ha (by omega) w60) (by omega) (by omega) r3 k3 g3
      have r4 : d4.1 503 = r := by rw [f4.1 503 (by omega)]; exact r3
      have k4 : d4.1 59 0 = nI th := by rw [f4.1 59 (by omega)]; exact k3
      obtain ⟨d5, e5, g5, f5⟩ := ih e (i + 1) (u + 2 ^ i) (A - pWt r i) (a4 - nI (pWt r i)) _ d4 (by omega) (by omega) (by omega) (i_subn ha (by omega) w60) (by omega) (by omega) r4 k4 g4
      refine ⟨d5, ?_, gBy2_c g5 (fun k z _ => ?_), fun j hj => by rw [f5.1 j hj, f4.1 j hj, f3.1 j hj], by rw [f5.2, f4.2, f3.2]⟩
      · show m_X10_laysFrom_b (m_X10_laysFrom e) N 55 (nI i) (nI x) (nI u) a4 d = _
        unfold m_X10_laysFrom_b; simp only [gj_e]
        rw [gc_1 (show gck 55 = 10 from rfl), n_cl0, h59, if_neg ni, n_s, gb_x e3, gb_x (has_e hx (by omega)), if_pos qb, if_neg (show ¬ (1 : Int32) = 0 by decide), z0, n_cl (by omega), r3, ew, sh_th i (by omega), b3]
        repeat rw [gc_1 (n_rg (by omega) (by omega))]
        rw [gb_x e4, gc_1 (n_rg (by omega) (by omega)), r4, ew, gb_x e5]
      · show ((D k z ∨ rch x r q (i + 1) u A z k) ∨ rch x r q (i + 1) (u + 2 ^ i) (A + pWt r i) z k) ∨ rch x r q (i + 1) (u + 2 ^ i) (A - pWt r i) z k ↔ D k z ∨ (rch x r q (i + 1) u A z k ∨ (x / 2 ^ i % 2 = 1 ∧ (rch x r q (i + 1) (u + 2 ^ i) (A + pWt r i) z k ∨ rch x r q (i + 1) (u + 2 ^ i) (A - pWt r i) z k)))
        constructor
        · rintro (((p | p) | p) | p)
          · exact Or.inl p
          · exact Or.inr (Or.inl p)
          · exact Or.inr (Or.inr ⟨qb, Or.inl p⟩)
          · exact Or.inr (Or.inr ⟨qb, Or.inr p⟩)
        · rintro (p | p | ⟨-, p | p⟩)
          · exact Or.inl (Or.inl (Or.inl p))
          · exact Or.inl (Or.inl (Or.inr p))
          · exact Or.inl (Or.inr p)
          · exact Or.inr p
    · refine ⟨d3, ?_, gBy2_c g3 (fun k z _ => ?_), f3⟩
      · show m_X10_laysFrom_b (m_X10_laysFrom e) N 55 (nI i) (nI x) (nI u) a4 d = _
        unfold m_X10_laysFrom_b; simp only [gj_e]
        rw [gc_1 (show gck 55 = 10 from rfl), n_cl0, h59, if_neg ni, n_s, gb_x e3, gb_x (has_e hx (by omega)), if_neg qb, if_pos rfl]
      · show (D k z ∨ rch x r q (i + 1) u A z k) ↔ D k z ∨ (rch x r q (i + 1) u A z k ∨ (x / 2 ^ i % 2 = 1 ∧ (rch x r q (i + 1) (u + 2 ^ i) (A + pWt r i) z k ∨ rch x r q (i + 1) (u + 2 ^ i) (A - pWt r i) z k)))
        constructor
        · rintro (p | p)
          · exact Or.inl p
          · exact Or.inr (Or.inl p)
        · rintro (p | p | ⟨p, -⟩)
          · exact Or.inl p
          · exact Or.inr p
          · exact absurd p qb
theorem amt_d {th m x N : Nat} {d : gm} (hR : gRow th m (d.1 503)) (h59 : d.1 59 0 = nI th) (h8 : th ≤ 8) (hx : x < 256) (hN : 600 < N) : ∃ d2, m_X10_laysAmounts N 55 (nI x) d = some d2 ∧ gBy2 (gMak (d.1 503) th x) d2 ∧ fr (fun i => i = 528) d d2 := by
  obtain ⟨d3, e3, f3, g3⟩ := gloop_inv (f := gu2 (fun (y2 : Int32) (c3 : gm) => m_X10_laysAmounts_L2 55 y2 c3)) (fun q (A : Int32 × gm) => ∃ i d3, q + i = 481 ∧ A = (nI i, d3) ∧ fr (fun i => i = 528) d d3 ∧ ∀ y, y < i → d3.1 528 y = -1) (fun d2 => fr (fun i => i = 528) d d2 ∧ ∀ y, y < 481 → d2.1 528 y = -1) (by
    rintro q A ⟨i, d3, hi, rfl, f3, h2⟩
    by_cases qi : i < 481
    · left
      refine ⟨(nI (i + 1), gm_r d3 528 (upd (d3.1 528) i (-1))), 481 - (i + 1), ?_, by omega, i + 1, _, by omega, rfl, ⟨fun j hj => by rw [gr_n _ _ hj]; exact f3.1 j hj, f3.2⟩, fun y hy => ?_⟩
      · show m_X10_laysAmounts_L2 55 (nI i) d3 = _
        unfold m_X10_laysAmounts_L2
        rw [if_neg (by rw [n_l480, n_lt (by omega) (by omega)]; omega), gc_1 (show gck 55 = 10 from rfl), gc_1 (n_rg (by omega) (by omega)), gv_e, gv_e, n_cl (by omega), n_s]
      · rw [gr_s]
        by_cases qy : y = i
        · rw [qy, up_s]
        · rw [up_n _ _ qy]; exact h2 y (by omega)
    · right
      refine ⟨d3, ?_, f3, fun y hy => h2 y (by omega)⟩
      show m_X10_laysAmounts_L2 55 (nI i) d3 = _
      unfold m_X10_laysAmounts_L2
      rw [if_pos (by rw [n_l480, n_lt (by omega) (by omega)]; omega)]) (n := N) (r := 481) (a := (0, d)) ⟨0, d, by omega, rfl, ⟨fun _ _ => rfl, rfl⟩, fun y hy => by omega⟩ (by omega)
  have b3 : gBy2 (fun _ _ => False) d3 := fun k h1 h2 => Or.inl ⟨g3 k (by omega), fun _ h => h⟩
  obtain ⟨d2, e2, g2, f2⟩ := from_d (N := N) hR h8 hx (by omega) th 12 0 0 0 0 (fun _ _ => False) d3 (by omega) (by omega) (by decide) rfl (by omega) (by omega) (f3.1 503 (by omega)) (by rw [f3.1 59 (by omega)]; exact h59) b3
  refine ⟨d2, ?_, gBy2_c g2 (fun k z _ => ?_), fun i hi => by rw [f2.1 i hi, f3.1 i hi], by rw [f2.2, f3.2]⟩
  · unfold m_X10_laysAmounts
    rw [gb_x e3, gc_1 (show gck 55 = 10 from rfl), show m_X10_laysFrom 12 N 55 0 (nI x) 0 0 d3 = some d2 from e2, gb_e]
  · rw [← rch_e h8 z]
    exact ⟨fun p => p.resolve_left (fun q => q), Or.inr⟩
