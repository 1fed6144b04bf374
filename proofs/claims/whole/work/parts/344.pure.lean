set_option maxRecDepth 16384
/-! reading a work: the kinds of step -/
def stBr (rc : rC) (N : Nat) (th l x9 : Int32) (c5 : gm) : Nat → Option (Int32 × gm) := fun i => match i with
  | 0 => gb2 (m_X8_add 15 0 c5) (fun (r74 : Int32) (c75 : gm) => (if r74 = 0 then some (0, c75) else gb2 (m_X8_readWeigh N 15 1 th x9 c75) (fun (r78 : Int32) (c79 : gm) => (if r78 = 0 then some (0, c79) else some (1, c79)))))
  | 1 => gb2 (m_X8_add 15 1 c5) (fun (r66 : Int32) (c67 : gm) => (if r66 = 0 then some (0, c67) else gb2 (m_X8_readPart N 15 1 0 9 x9 1 c67) (fun (r70 : Int32) (c71 : gm) => (if r70 = 0 then some (0, c71) else some (1, c71)))))
  | 2 => gb2 (m_X8_add 15 2 c5) (fun (r54 : Int32) (c55 : gm) => (if r54 = 0 then some (0, c55) else gb2 (m_X8_readPart N 15 1 0 (th - 1) x9 1 c55) (fun (r58 : Int32) (c59 : gm) => (if r58 = 0 then some (0, c59) else gb2 (m_X8_readPart N 15 1 1 30 x9 2 c59) (fun (r62 : Int32) (c63 : gm) => (if r62 = 0 then some (0, c63) else some (1, c63)))))))
  | 3 => gb2 (m_X8_add 15 3 c5) (fun (r50 : Int32) (c51 : gm) => gc (r50 = 0 ∨ r50 = 1) (some (r50, c51)))
  | 4 => gb2 (m_X8_add 15 4 c5) (fun (r46 : Int32) (c47 : gm) => gc (r46 = 0 ∨ r46 = 1) (some (r46, c47)))
  | _ => (if l < 6 then gb2 (m_X8_add 15 5 c5) (fun (r30 : Int32) (c31 : gm) => (if r30 = 0 then some (0, c31) else gb2 (m_X8_readAgain rc N 15 1 th l x9 c31) (fun (r34 : Int32) (c35 : gm) => (if r34 = 0 then some (0, c35) else some (1, c35))))) else gb2 (m_X7_fail 1 3 (c5.1 1 4) c5) (fun (r38 : Int32) (c39 : gm) => gc (r38 = 0 ∨ r38 = 1) (some (r38, c39))))
theorem stBr_0 (rc : rC) (N : Nat) (th l x9 : Int32) (c5 : gm) : stBr rc N th l x9 c5 0 = gb2 (m_X8_add 15 0 c5) (fun (r74 : Int32) (c75 : gm) => (if r74 = 0 then some (0, c75) else gb2 (m_X8_readWeigh N 15 1 th x9 c75) (fun (r78 : Int32) (c79 : gm) => (if r78 = 0 then some (0, c79) else some (1, c79))))) := rfl
theorem stBr_1 (rc : rC) (N : Nat) (th l x9 : Int32) (c5 : gm) : stBr rc N th l x9 c5 1 = gb2 (m_X8_add 15 1 c5) (fun (r66 : Int32) (c67 : gm) => (if r66 = 0 then some (0, c67) else gb2 (m_X8_readPart N 15 1 0 9 x9 1 c67) (fun (r70 : Int32) (c71 : gm) => (if r70 = 0 then some (0, c71) else some (1, c71))))) := rfl
theorem stBr_2 (rc : rC) (N : Nat) (th l x9 : Int32) (c5 : gm) : stBr rc N th l x9 c5 2 = gb2 (m_X8_add 15 2 c5) (fun (r54 : Int32) (c55 : gm) => (if r54 = 0 then some (0, c55) else gb2 (m_X8_readPart N 15 1 0 (th - 1) x9 1 c55) (fun (r58 : Int32) (c59 : gm) => (if r58 = 0 then some (0, c59) else gb2 (m_X8_readPart N 15 1 1 30 x9 2 c59) (fun (r62 : Int32) (c63 : gm) => (if r62 = 0 then some (0, c63) else some (1, c63))))))) := rfl
theorem stBr_3 (rc : rC) (N : Nat) (th l x9 : Int32) (c5 : gm) : stBr rc N th l x9 c5 3 = gb2 (m_X8_add 15 3 c5) (fun (r50 : Int32) (c51 : gm) => gc (r50 = 0 ∨ r50 = 1) (some (r50, c51))) := rfl
theorem stBr_4 (rc : rC) (N : Nat) (th l x9 : Int32) (c5 : gm) : stBr rc N th l x9 c5 4 = gb2 (m_X8_add 15 4 c5) (fun (r46 : Int32) (c47 : gm) => gc (r46 = 0 ∨ r46 = 1) (some (r46, c47))) := rfl
theorem stBr_5 (rc : rC) (N : Nat) (th l x9 : Int32) (c5 : gm) : stBr rc N th l x9 c5 5 = (if l < 6 then gb2 (m_X8_add 15 5 c5) (fun (r30 : Int32) (c31 : gm) => (if r30 = 0 then some (0, c31) else gb2 (m_X8_readAgain rc N 15 1 th l x9 c31) (fun (r34 : Int32) (c35 : gm) => (if r34 = 0 then some (0, c35) else some (1, c35))))) else gb2 (m_X7_fail 1 3 (c5.1 1 4) c5) (fun (r38 : Int32) (c39 : gm) => gc (r38 = 0 ∨ r38 = 1) (some (r38, c39)))) := rfl
theorem rstep_e (rc : rC) (N : Nat) (th l : Int32) (c : gm) : m_X8_readStep rc N 15 1 th l c = gc (gck 1 = 7) (gb2 (m_X7_takeWord N 1 c) (fun (r4 : Int32) (c5 : gm) => (if r4 = 0 then some (0, c5) else gc (gck 15 = 8) (gv (c5.1 15 1) (fun (x9 : Int32) => wsel N c5 (stBr rc N th l x9 c5) (gb2 (m_X7_fail 1 1 (c5.1 1 4) c5) (fun (r42 : Int32) (c43 : gm) => gc (r42 = 0 ∨ r42 = 1) (some (r42, c43))))))))) := rfl
/-- the end of a step: x what the class comes to, y the reference -/
def stX (N : Nat) (x : Option (Int32 × gm)) : Option (Int32 × gm) := gb2 x (fun (r17 : Int32) (c18 : gm) => if r17 = 0 then some (0, c18) else m_X7_takeSign N 1 59 c18)
theorem stX_0 {N : Nat} {c : gm} : stX N (some (0, c)) = some (0, c) := by unfold stX; rw [gb2_e, if_pos rfl]
theorem stX_1 {N : Nat} {c : gm} : stX N (some (1, c)) = m_X7_takeSign N 1 59 c := by unfold stX; rw [gb2_e, if_neg (by decide)]
theorem fin_two {n th l z s a7 z2 N : Nat} {b : Nat → Nat} {W : gm → gm → Nat → Nat → Prop} {c d c7 d7 : gm} {x : Option (Int32 × gm)} {y : Option gm} (hx : x = some (1, c7)) (hy : y = rsE N z d7) (I7 : gIn n b c7 d7 a7) (hz : z < 38) (hzz : z < z2) (ha : 4 * z2 + s ≤ 4 * z + (a7 + 1)) (c15 : c7.1 15 1 = nI z2) (d26 : d7.1 55 26 = nI z2) (L7 : d7.1 55 8 = nI l) (f : fwC z c c7) (g : fwD z d d7) (K7 : c7.1 1 7 = c.1 1 7) (hN : 700 < N) (S : ∀ c2 d2, (∀ i, i ≠ 1 → c2.1 i = c7.1 i) → (∀ i, i ≠ 55 → i ≠ 423 + z → d2.1 i = d7.1 i) → d2.1 (423 + z) = upd (d7.1 (423 + z)) 5 (nI z2) → gSs th W c2 d2 z z2) : gWo n b th W l z s c d (stX N x) y := by
  subst hx
  rw [stX_1, hy]
  rcases end_two (z := z) I7 (by omega) hN with ⟨c2, d2, a2, ha2, t1, t2, I2, f2, r2, g2⟩ | ⟨c2, d1, d2, t1, t2, f2, g2, h2, tl⟩
  · left
    rw [d26] at r2
    exact ⟨c2, d2, a2, z2, t1, t2, I2, hzz, by omega, by rw [f2.1 15 (by omega)]; exact c15, by rw [g2.2.2 26 (by omega)]; exact d26, S c2 d2 (fun i i1 => f2.1 i i1) (fun i i1 i2 => g2.1 i i1 i2) r2, by rw [g2.2.2 8 (by omega)]; exact L7, fwC_t f (fwC_f (frc_F f2)) (Nat.le_refl z), fwD_t g (fwD_p g2 (by omega)) (Nat.le_refl z), by rw [f2.2.2 7 (by omega) (by omega) (by omega)]; exact K7⟩
  · exact wo_no (by omega) t1 t2 (fwC_t f (fwC_f f2) (Nat.le_refl z)) (fwD_t g g2 (Nat.le_refl z)) h2 tl
/-- a part failed -/
theorem bad_two {n th l z s a7 N : Nat} {b : Nat → Nat} {W : gm → gm → Nat → Nat → Prop} {c d c7 d7 c2 d1 d2 : gm} {x : Option (Int32 × gm)} {y : Option gm} (hx : x = some (0, c2)) (hy : y = some d2) (hz : z < 38) (f : fwC z c c7) (g : fwD z d d7) (hO : gNo n c7 d7 c2 d1) (tl : gTl n z d1 d2) : gWo n b th W l z s c d (stX N x) y := by
  subst hx
  rw [stX_0]
  exact wo_no (by omega) rfl hy (fwC_t f (fwC_f hO.1) (Nat.le_refl z)) (fwD_t g (fwD_f hO.2.1) (Nat.le_refl z)) hO.2.2 tl
theorem rsA_3 {rs : rD} {N z k : Nat} {d : gm} (hk : k = 3 ∨ k = 4) : rsA rs N z (nI k) d = rsE N z d := by
  unfold rsA rsB rsC rsD
  rcases hk with rfl | rfl
  · rw [if_neg (show ¬ nI 3 = 0 by decide), if_neg (show ¬ nI 3 = 2 by decide), if_neg (show ¬ nI 3 = 0 by decide), if_neg (show ¬ nI 3 = 1 by decide), if_neg (show ¬ nI 3 = 5 by decide)]
  · rw [if_neg (show ¬ nI 4 = 0 by decide), if_neg (show ¬ nI 4 = 2 by decide), if_neg (show ¬ nI 4 = 0 by decide), if_neg (show ¬ nI 4 = 1 by decide), if_neg (show ¬ nI 4 = 5 by decide)]
theorem rsA_1 {rs : rD} {N z : Nat} {d : gm} (hz : z < 80) : rsA rs N z (nI 1) d = gb2 (m_X10_number N 55 0 9 d) (fun (r67 : Int32) (c68 : gm) => rsD rs N z (nI 1) (gm_r c68 (422 + 1 + z) (upd (c68.1 (422 + 1 + z)) 1 r67))) := by
  unfold rsA rsB rsC
  rw [if_neg (show ¬ nI 1 = 0 by decide), if_neg (show ¬ nI 1 = 2 by decide), if_neg (show ¬ nI 1 = 0 by decide), if_pos (show nI 1 = 1 from rfl)]
  exact congrArg (gb2 (m_X10_number N 55 0 9 d)) (funext fun r => funext fun c => by rw [gc_1 (r_6 hz (by simp)), gv_e, n_cl1])
theorem rsD_n {rs : rD} {N z k : Nat} {d : gm} (hk : k < 5) : rsD rs N z (nI k) d = rsE N z d := by
  unfold rsD
  rw [if_neg (by rw [n_l5, n_eq (by omega) (by decide)]; omega)]
theorem rsC_n {rs : rD} {N z k : Nat} {d : gm} (hk : k = 0 ∨ k = 2) : rsC rs N z (nI k) d = rsE N z d := by
  unfold rsC
  rw [if_neg (by rw [n_l1, n_eq (by omega) (by decide)]; omega), rsD_n (by omega)]
theorem rsA_02 {rs : rD} {N z k th : Nat} {d : gm} (hk : k = 0 ∨ k = 2) (hz : z < 80) (h59 : d.1 59 0 = nI th) : rsA rs N z (nI k) d = gb2 (m_X10_number N 55 0 (nI th - 1) d) (fun (r67 : Int32) (c68 : gm) => rsS rs N z (nI k) (if k = 0 then 9 else 30) (gm_r c68 (422 + 1 + z) (upd (c68.1 (422 + 1 + z)) 1 r67))) := by
  have e : rsF rs N z (nI k) d = gb2 (m_X10_number N 55 0 (nI th - 1) d) (fun (r67 : Int32) (c68 : gm) => rsS rs N z (nI k) (if k = 0 then 9 else 30) (gm_r c68 (422 + 1 + z) (upd (c68.1 (422 + 1 + z)) 1 r67))) := by
    unfold rsF
    rw [n_cl0, h59]
    refine congrArg (gb2 (m_X10_number N 55 0 (nI th - 1) d)) (funext fun r => funext fun c => ?_)
    rw [gc_1 (r_6 hz (by simp)), gv_e, n_cl1]
    rcases hk with rfl | rfl
    · rw [if_pos (show nI 0 = 0 from rfl), if_pos (show (0 : Nat) = 0 from rfl)]
    · rw [if_neg (show ¬ nI 2 = 0 by decide), if_neg (show ¬ (2 : Nat) = 0 by decide)]
  unfold rsA
  rcases hk with rfl | rfl
  · rw [if_pos (show nI 0 = 0 from rfl)]; exact e
  · rw [if_neg (show ¬ nI 2 = 0 by decide), if_pos (show nI 2 = 2 from rfl)]; exact e
theorem rsS_e {rs : rD} {N z : Nat} {r4 v : Int32} {d : gm} (hz : z < 80) : rsS rs N z r4 v d = gb2 (m_X10_number N 55 1 v d) (fun (r67 : Int32) (c68 : gm) => rsB rs N z r4 (gm_r c68 (422 + 1 + z) (upd (c68.1 (422 + 1 + z)) 2 r67))) := by
  unfold rsS
  exact congrArg (gb2 (m_X10_number N 55 1 v d)) (funext fun r => funext fun c => by rw [gc_1 (r_6 hz (by simp)), gv_e, i_2])
theorem simple_two {n th l z s e k N : Nat} {b : Nat → Nat} {W : gm → gm → Nat → Nat → Prop} {rc : rC} {rs : rD} {c d : gm} (hk : k < 5) (hb : gNb n b d s) (hc : gTc n b c) (h3 : c.1 1 3 = nI e) (ee : e = pScan (pLt b) n s) (hse : s + 3 ≤ e) (h1 : c.1 15 1 = nI z) (h26 : d.1 55 26 = nI z) (hz : z < 38) (h8 : d.1 55 8 = nI l) (h59 : d.1 59 0 = nI th) (hth : th ≤ 8) (hN : 700 < N) : gWo n b th W l z s c d (stX N (stBr rc N (nI th) (nI l) (nI z) c k)) (rsM rs N (nI k) d) := by
  obtain ⟨c6, d6, e1, e2, I6, c615, d626, c616, d6r, f6, g6, k1, k8⟩ := start_two (k := k) (rs := rs) hb hc h3 ee h1 h26 hz hN
  have L6 : d6.1 55 8 = nI l := by rw [k8]; exact h8
  have K6 : c6.1 1 7 = c.1 1 7 := by rw [k1]
  have h596 : d6.1 59 0 = nI th := by rw [g6.1 59 (by omega) (by omega)]; exact h59
  rw [e2]
  clear e2
  have hz8 : z < 80 := by omega
  by_cases k34 : k = 3 ∨ k = 4
  · rw [rsA_3 k34]
    refine fin_two (c7 := c6) (d7 := d6) (z2 := z + 1) ?_ rfl I6 hz (by omega) (by omega) c615 d626 L6 f6 g6 K6 hN (fun c2 d2 q1 q2 q3 => Or.inl ⟨⟨k, hk, ?_, ?_, ?_, fun q => by omega, fun q => by omega, fun q => by omega⟩, rfl⟩)
    · rcases k34 with rfl | rfl
      · rw [stBr_3]
        rw [show m_X8_add 15 3 c = some (1, c6) from e1, gb2_e, gc_1 (Or.inr rfl)]
      · rw [stBr_4]
        rw [show m_X8_add 15 4 c = some (1, c6) from e1, gb2_e, gc_1 (Or.inr rfl)]
    · rw [q1 16 (by omega), c616, up_s]
    · rw [q3, up_n _ _ (by omega), d6r, up_s]
    · rw [q3, up_s]
  by_cases k1' : k = 1
  · subst k1'
    rw [rsA_1 hz8]
    have X0 : stBr rc N (nI th) (nI l) (nI z) c 1 = gb2 (m_X8_readPart N 15 1 0 9 (nI z) 1 c6) (fun (r70 : Int32) (c71 : gm) => (if r70 = 0 then some (0, c71) else some (1, c71))) := by
      rw [stBr_1]
      rw [show m_X8_add 15 1 c = some (1, c6) from e1, gb2_e, if_neg (by decide)]
    rw [X0]
    rcases part_two (lo := 0) (H := 10) (hi := 9) (k := 1) I6 hN (by omega) (by omega) (by decide) hz (by omega) with ⟨c7, d1, d7, a7, v, ha7, v0, vH, n1, n2, ed7, I7, c716, d7r, f7, g7⟩ | ⟨c7, d1, n1, n2, hO⟩
    · rw [show m_X10_number N 55 0 9 d6 = some (nI v, d1) from n2, gb2_e, ← ed7, rsD_n (by omega)]
      refine fin_two (c7 := c7) (d7 := d7) (z2 := z + 1) ?_ rfl I7 hz (by omega) (by omega) (by rw [f7.1 15 (by omega) (by omega)]; exact c615) (by rw [g7.2.2 26 (by omega)]; exact d626) (by rw [g7.2.2 8 (by omega)]; exact L6) (fwC_t f6 (fwC_p f7 c716) (Nat.le_refl z)) (fwD_t g6 (fwD_p g7 hz8) (Nat.le_refl z)) (by rw [f7.2.2 7 (by omega) (by omega) (by omega)]; exact K6) hN (fun c2 d2 q1 q2 q3 => Or.inl ⟨⟨1, by omega, ?_, ?_, ?_, fun q => by omega, fun q => ⟨v, by omega, ?_, ?_⟩, fun q => by omega⟩, rfl⟩)
      · rw [show m_X8_readPart N 15 1 0 9 (nI z) 1 c6 = some (1, c7) from n1, gb2_e, if_neg (by decide)]
      · rw [q1 16 (by omega), c716, up_n _ _ (by omega), c616, up_s]
      · rw [q3, up_n _ _ (by omega), d7r, up_n _ _ (by omega), d6r, up_s]
      · rw [q3, up_s]
      · rw [q1 16 (by omega), c716, up_s]
      · rw [q3, up_n _ _ (by omega), d7r, up_s]
    · have hF := gFt_o I6.2.1 hO
      have g1 := gTl_w (z := z) (upd (d1.1 (422 + 1 + z)) 1 0) hF
      obtain ⟨d4, e4, g4⟩ := rsD_f (rs := rs) (r4 := nI 1) (gFt_l hF g1) hz8 hN
      exact bad_two (a7 := 0) (c2 := c7) (d1 := d1) (by rw [show m_X8_readPart N 15 1 0 9 (nI z) 1 c6 = some (0, c7) from n1, gb2_e, if_pos rfl]) (by rw [show m_X10_number N 55 0 9 d6 = some (0, d1) from n2, gb2_e]; exact e4) hz f6 g6 hO (gTl_t g1 g4)
  have k02 : k = 0 ∨ k = 2 := by omega
  rw [rsA_02 k02 hz8 h596]
  have P1 := part_two (lo := 0) (H := th) (hi := nI th - 1) (k := 1) (z := z) I6 hN (by omega) (by omega) rfl hz (by omega)
  rcases k02 with rfl | rfl
  rotate_left
  · -- feed
    have X0 : stBr rc N (nI th) (nI l) (nI z) c 2 = gb2 (m_X8_readPart N 15 1 0 (nI th - 1) (nI z) 1 c6) (fun (r58 : Int32) (c59 : gm) => (if r58 = 0 then some (0, c59) else gb2 (m_X8_readPart N 15 1 1 30 (nI z) 2 c59) (fun (r62 : Int32) (c63 : gm) => (if r62 = 0 then some (0, c63) else some (1, c63))))) := by
      rw [stBr_2]
      rw [show m_X8_add 15 2 c = some (1, c6) from e1, gb2_e, if_neg (by decide)]
    rw [X0, if_neg (show ¬ (2 : Nat) = 0 by decide)]
    rcases P1 with ⟨c7, d1, d7, a7, v, ha7, v0, vH, n1, n2, ed7, I7, c716, d7r, f7, g7⟩ | ⟨c7, d1, n1, n2, hO⟩
    rotate_left
    · have hF := gFt_o I6.2.1 hO
      have g1 := gTl_w (z := z) (upd (d1.1 (422 + 1 + z)) 1 0) hF
      obtain ⟨d4, e4, g4⟩ := rsS_f (rs := rs) (r4 := nI 2) (v := 30) (gFt_l hF g1) hz8 hN
      exact bad_two (a7 := 0) (c2 := c7) (d1 := d1) (by rw [show m_X8_readPart N 15 1 0 (nI th - 1) (nI z) 1 c6 = some (0, c7) from n1, gb2_e, if_pos rfl]) (by rw [show m_X10_number N 55 0 (nI th - 1) d6 = some (0, d1) from n2, gb2_e]; exact e4) hz f6 g6 hO (gTl_t g1 g4)
    rw [show m_X8_readPart N 15 1 0 (nI th - 1) (nI z) 1 c6 = some (1, c7) from n1, gb2_e, if_neg (by decide), show m_X10_number N 55 0 (nI th - 1) d6 = some (nI v, d1) from n2, gb2_e, ← ed7, rsS_e hz8]
    have F7 := fwC_t f6 (fwC_p f7 c716) (Nat.le_refl z)
    have G7 := fwD_t g6 (fwD_p g7 hz8) (Nat.le_refl z)
    rcases part_two (lo := 1) (H := 31) (hi := 30) (k := 2) I7 hN (by omega) (by omega) (by decide) hz (by omega) with ⟨c8, d2, d8, a8, w, ha8, w0, wH, n1, n2, ed8, I8, c816, d8r, f8, g8⟩ | ⟨c8, d2, n1, n2, hO⟩
    · rw [show m_X10_number N 55 1 30 d7 = some (nI w, d2) from n2, gb2_e, ← ed8]
      have eB : rsB rs N z (nI 2) d8 = rsE N z d8 := by unfold rsB; rw [if_neg (show ¬ nI 2 = 0 by decide), rsC_n (Or.inr rfl)]
      rw [eB]
      refine fin_two (c7 := c8) (d7 := d8) (z2 := z + 1) ?_ rfl I8 hz (by omega) (by omega) (by rw [f8.1 15 (by omega) (by omega), f7.1 15 (by omega) (by omega)]; exact c615) (by rw [g8.2.2 26 (by omega), g7.2.2 26 (by omega)]; exact d626) (by rw [g8.2.2 8 (by omega), g7.2.2 8 (by omega)]; exact L6) (fwC_t F7 (fwC_p f8 c816) (Nat.le_refl z)) (fwD_t G7 (fwD_p g8 hz8) (Nat.le_refl z)) (by rw [f8.2.2 7 (by omega) (by omega) (by omega), f7.2.2 7 (by omega) (by omega) (by omega)]; exact K6) hN (fun c2 d2 q1 q2 q3 => Or.inl ⟨⟨2, by omega, ?_, ?_, ?_, fun q => by omega, fun q => by omega, fun q => ⟨v, w, vH, w0, by omega, ?_, ?_, ?_, ?_⟩⟩, rfl⟩)
      · rw [show m_X8_readPart N 15 1 1 30 (nI z) 2 c7 = some (1, c8) from n1, gb2_e, if_neg (by decide)]
      · rw [q1 16 (by omega), c816, up_n _ _ (by omega), c716, up_n _ _ (by omega), c616, up_s]
      · rw [q3, up_n _ _ (by omega), d8r, up_n _ _ (by omega), d7r, up_n _ _ (by omega), d6r, up_s]
      · rw [q3, up_s]
      · rw [q1 16 (by omega), c816, up_n _ _ (by omega), c716, up_s]
      · rw [q1 16 (by omega), c816, up_s]
      · rw [q3, up_n _ _ (by omega), d8r, up_n _ _ (by omega), d7r, up_s]
      · rw [q3, up_n _ _ (by omega), d8r, up_s]
    · have hF := gFt_o I7.2.1 hO
      have g1 := gTl_w (z := z) (upd (d2.1 (422 + 1 + z)) 2 0) hF
      obtain ⟨d4, e4, g4⟩ := rsB_f (rs := rs) (r4 := nI 2) (gFt_l hF g1) hz8 hN
      exact bad_two (a7 := 0) (c2 := c8) (d1 := d2) (by rw [show m_X8_readPart N 15 1 1 30 (nI z) 2 c7 = some (0, c8) from n1, gb2_e, if_pos rfl]) (by rw [show m_X10_number N 55 1 30 d7 = some (0, d2) from n2, gb2_e]; exact e4) hz F7 G7 hO (gTl_t g1 g4)
  -- weigh
  have X0 : stBr rc N (nI th) (nI l) (nI z) c 0 = gb2 (gb2 (m_X8_readPart N 15 1 0 (nI th - 1) (nI z) 1 c6) (fun (r4 : Int32) (c5 : gm) => (if r4 = 0 then some (0, c5) else gb2 (m_X8_readPart N 15 1 1 9 (nI z) 2 c5) (fun (r8 : Int32) (c9 : gm) => (if r8 = 0 then some (0, c9) else gb (m_X8_part 15 (nI z) 1 c9) (fun (r12 : Int32) => gc (gck 1 = 7) (gb2 (m_X7_takeOther N 1 (nI th) r12 c9) (fun (r16 : Int32) (c17 : gm) => (if r16 = 0 then some (0, c17) else gb (m_X8_put 15 (nI z) 3 (c17.1 1 5) c17) (fun (c21 : gm) => gb2 (m_X8_readPart N 15 1 1 9 (nI z) 4 c21) (fun (r23 : Int32) (c24 : gm) => gc (r23 = 0 ∨ r23 = 1) (some (r23, c24))))))))))))) (fun (r78 : Int32) (c79 : gm) => (if r78 = 0 then some (0, c79) else some (1, c79))) := by
    rw [stBr_0]
    rw [show m_X8_add 15 0 c = some (1, c6) from e1, gb2_e, if_neg (by decide)]
    unfold m_X8_readWeigh
    rw [gc_1 (show gck 15 = 8 from rfl)]
  rw [X0, if_pos (show (0 : Nat) = 0 from rfl)]
  rcases P1 with ⟨c7, d1, d7, a7, v, ha7, v0, vH, n1, n2, ed7, I7, c716, d7r, f7, g7⟩ | ⟨c7, d1, n1, n2, hO⟩
  rotate_left
  · have hF := gFt_o I6.2.1 hO
    have g1 := gTl_w (z := z) (upd (d1.1 (422 + 1 + z)) 1 0) hF
    obtain ⟨d4, e4, g4⟩ := rsS_f (rs := rs) (r4 := nI 0) (v := 9) (gFt_l hF g1) hz8 hN
    exact bad_two (a7 := 0) (c2 := c7) (d1 := d1) (by rw [show m_X8_readPart N 15 1 0 (nI th - 1) (nI z) 1 c6 = some (0, c7) from n1, gb2_e, if_pos rfl, gb2_e, if_pos rfl]) (by rw [show m_X10_number N 55 0 (nI th - 1) d6 = some (0, d1) from n2, gb2_e]; exact e4) hz f6 g6 hO (gTl_t g1 g4)
  rw [show m_X8_readPart N 15 1 0 (nI th - 1) (nI z) 1 c6 = some (1, c7) from n1, gb2_e, if_neg (by decide), show m_X10_number N 55 0 (nI th - 1) d6 = some (nI v, d1) from n2, gb2_e, ← ed7, rsS_e hz8]
  have F7 := fwC_t f6 (fwC_p f7 c716) (Nat.le_refl z)
  have G7 := fwD_t g6 (fwD_p g7 hz8) (Nat.le_refl z)
  clear n1 n2 X0
  rcases part_two (lo := 1) (H := 10) (hi := 9) (k := 2) I7 hN (by omega) (by omega) (by decide) hz (by omega) with ⟨c8, d2, d8, a8, w, ha8, w0, wH, n1, n2, ed8, I8, c816, d8r, f8, g8⟩ | ⟨c8, d2, n1, n2, hO⟩
  rotate_left
  · have hF := gFt_o I7.2.1 hO
    have g1 := gTl_w (z := z) (upd (d2.1 (422 + 1 + z)) 2 0) hF
    obtain ⟨d4, e4, g4⟩ := rsB_f (rs := rs) (r4 := nI 0) (gFt_l hF g1) hz8 hN
    exact bad_two (a7 := 0) (c2 := c8) (d1 := d2) (by rw [show m_X8_readPart N 15 1 1 9 (nI z) 2 c7 = some (0, c8) from n1, gb2_e, if_pos rfl, gb2_e, if_pos rfl]) (by rw [show m_X10_number N 55 1 9 d7 = some (0, d2) from n2, gb2_e]; exact e4) hz F7 G7 hO (gTl_t g1 g4)
  have F8 := fwC_t F7 (fwC_p f8 c816) (Nat.le_refl z)
  have G8 := fwD_t G7 (fwD_p g8 hz8) (Nat.le_refl z)
  have p8 : c8.1 16 (5 * z + 1) = nI v := by rw [c816, up_n _ _ (by omega), c716, up_s]
  have q8 : d8.1 (422 + 1 + z) 1 = nI v := by rw [show 422 + 1 + z = 423 + z by omega, d8r, up_n _ _ (by omega), d7r, up_s]
  have h598 : d8.1 59 0 = nI th := by rw [g8.1 59 (by omega) (by omega), g7.1 59 (by omega) (by omega)]; exact h596
  have eB : rsB rs N z (nI 0) d8 = gb2 (m_X10_otherThing N 55 (nI v) (nI th) d8) (fun (r78 : Int32) (c79 : gm) => gb2 (m_X10_number N 55 1 9 (gm_r c79 (422 + 1 + z) (upd (c79.1 (422 + 1 + z)) 3 r78))) (fun (r83 : Int32) (c84 : gm) => gc (0 ≤ (4 : Int32).toInt ∧ (4 : Int32).toInt < ((gal (422 + 1 + z)) : Nat)) (gv (gm_r c84 (422 + 1 + z) (upd (c84.1 (422 + 1 + z)) (4 : Int32).toNatClampNeg r83)) (fun (c86 : gm) => rsC rs N z (nI 0) c86)))) := by
    unfold rsB
    rw [if_pos (show nI 0 = 0 from rfl), gc_1 (r_6 hz8 (by simp)), n_cl1, q8, n_cl0, h598]
    exact congrArg (gb2 (m_X10_otherThing N 55 (nI v) (nI th) d8)) (funext fun r => funext fun c => by rw [gc_1 (r_6 hz8 (by simp)), gv_e]; rfl)
  rw [show m_X8_readPart N 15 1 1 9 (nI z) 2 c7 = some (1, c8) from n1, gb2_e, if_neg (by decide), show m_X8_part 15 (nI z) 1 c8 = some (c8.1 16 (5 * z + 1)) from part_c8 (k := 1) hz (by omega), gb_e, p8, gc_1 (show gck 1 = 7 from rfl), show m_X10_number N 55 1 9 d7 = some (nI w, d2) from n2, gb2_e, ← ed8, eB]
  clear n1 n2 eB
  rcases oth_two (H := th) (v1 := v) I8 hN (by omega) (by omega) with ⟨c9, d9, a9, y, ha9, yH, yv, n1, n2, hO, g59⟩ | ⟨c9, d9, uu, n1, n2, hO⟩
  rotate_left
  · have hF := gFt_o I8.2.1 hO
    have g1 := gTl_w (z := z) (upd (d9.1 (422 + 1 + z)) 3 uu) hF
    obtain ⟨d4, e4, g4⟩ := rsB4_f (rs := rs) (r4 := nI 0) (gFt_l hF g1) hz8 hN
    exact bad_two (a7 := 0) (c2 := c9) (d1 := d9) (by rw [gb2_x n1, if_pos rfl, gb2_e, if_pos rfl]) (by rw [gb2_x n2]; exact e4) hz F8 G8 hO (gTl_t g1 g4)
  have I9 := gIn_o I8 hO
  obtain ⟨c10, ec10⟩ : ∃ q, q = gm_r c9 16 (upd (c9.1 16) (5 * z + 3) (nI y)) := ⟨_, rfl⟩
  obtain ⟨d10, ed10⟩ : ∃ q, q = gm_r d9 (422 + 1 + z) (upd (d9.1 (422 + 1 + z)) 3 (nI y)) := ⟨_, rfl⟩
  have I10 : gIn n b c10 d10 a9 := by rw [ec10, ed10]; exact gIn_u (gIn_c I9 (gr_n _ _ (by omega)) (gr_n _ _ (by omega))) _ (by omega)
  have c1016 : c10.1 16 = upd (c8.1 16) (5 * z + 3) (nI y) := by rw [ec10, gr_s, hO.1.1 16 (by omega)]
  have d10r : d10.1 (423 + z) = upd (d8.1 (423 + z)) 3 (nI y) := by rw [ed10, show 423 + z = 422 + 1 + z by omega, gr_s, hO.2.1.1 _ (by omega)]
  have fp : fpC c8 c10 := ⟨fun i i1 i2 => by rw [ec10, gr_n _ _ i2, hO.1.1 i i1], by rw [ec10]; exact hO.1.2.1, fun k k3 k4 k5 => by rw [ec10, gr_n _ _ (by omega), hO.1.2.2 k k3 k4 k5]⟩
  have gp : fpD z d8 d10 := ⟨fun i i1 i2 => by rw [ed10, gr_n _ _ (by omega), hO.2.1.1 i i1], by rw [ed10]; exact hO.2.1.2.1, fun k k4 => by rw [ed10, gr_n _ _ (by omega), hO.2.1.2.2 k k4]⟩
  have F10 := fwC_t F8 (fwC_p fp c1016) (Nat.le_refl z)
  have G10 := fwD_t G8 (fwD_p gp hz8) (Nat.le_refl z)
  rw [gb2_x n1, if_neg (by decide), g59, show m_X8_put 15 (nI z) 3 (nI y) c9 = some c10 by rw [ec10]; exact put_c8 (k := 3) hz (by omega), gb_e, gb2_x n2, ← ed10]
  clear n1 n2
  rcases part_two (lo := 1) (H := 10) (hi := 9) (k := 4) I10 hN (by omega) (by omega) (by decide) hz (by omega) with ⟨c11, d3, d11, a11, u, ha11, u0, uH, n1, n2, ed11, I11, c1116, d11r, f11, g11⟩ | ⟨c11, d3, n1, n2, hO2⟩
  rotate_left
  · have hF := gFt_o I10.2.1 hO2
    have g1 := gTl_w (z := z) (upd (d3.1 (422 + 1 + z)) (4 : Int32).toNatClampNeg 0) hF
    obtain ⟨d4, e4, g4⟩ := rsC_f (rs := rs) (r4 := nI 0) (gFt_l hF g1) hz8 hN
    exact bad_two (a7 := 0) (c2 := c11) (d1 := d3) (by rw [show m_X8_readPart N 15 1 1 9 (nI z) 4 c10 = some (0, c11) from n1, gb2_e, gc_1 (Or.inl rfl), gb2_e, if_pos rfl]) (by rw [show m_X10_number N 55 1 9 d10 = some (0, d3) from n2, gb2_e, gc_1 (r_6 hz8 (by simp)), gv_e]; exact e4) hz F10 G10 hO2 (gTl_t g1 g4)
  refine fin_two (c7 := c11) (d7 := d11) (z2 := z + 1) ?_ ?_ I11 hz (by omega) (by omega) (by rw [f11.1 15 (by omega) (by omega), fp.1 15 (by omega) (by omega), f8.1 15 (by omega) (by omega), f7.1 15 (by omega) (by omega)]; exact c615) (by rw [g11.2.2 26 (by omega), gp.2.2 26 (by omega), g8.2.2 26 (by omega), g7.2.2 26 (by omega)]; exact d626) (by rw [g11.2.2 8 (by omega), gp.2.2 8 (by omega), g8.2.2 8 (by omega), g7.2.2 8 (by omega)]; exact L6) (fwC_t F10 (fwC_p f11 c1116) (Nat.le_refl z)) (fwD_t G10 (fwD_p g11 hz8) (Nat.le_refl z)) (by rw [f11.2.2 7 (by omega) (by omega) (by omega), fp.2.2 7 (by omega) (by omega) (by omega), f8.2.2 7 (by omega) (by omega) (by omega), f7.2.2 7 (by omega) (by omega) (by omega)]; exact K6) hN (fun c2 d2 q1 q2 q3 => Or.inl ⟨⟨0, by omega, ?_, ?_, ?_, fun q => ⟨v, w, y, u, vH, w0, by omega, yH, fun t => yv t.symm, u0, by omega, ⟨?_, ?_, ?_, ?_⟩, ?_, ?_, ?_, ?_⟩, fun q => by omega, fun q => by omega⟩, rfl⟩)
  · rw [show m_X8_readPart N 15 1 1 9 (nI z) 4 c10 = some (1, c11) from n1, gb2_e, gc_1 (Or.inr rfl), gb2_e, if_neg (by decide)]
  · rw [show m_X10_number N 55 1 9 d10 = some (nI u, d3) from n2, gb2_e, gc_1 (r_6 hz8 (by simp)), gv_e, show (4 : Int32).toNatClampNeg = 4 from rfl, ← ed11, rsC_n (Or.inl rfl)]
  · rw [q1 16 (by omega), c1116, up_n _ _ (by omega), c1016, up_n _ _ (by omega), c816, up_n _ _ (by omega), c716, up_n _ _ (by omega), c616, up_s]
  · rw [q3, up_n _ _ (by omega), d11r, up_n _ _ (by omega), d10r, up_n _ _ (by omega), d8r, up_n _ _ (by omega), d7r, up_n _ _ (by omega), d6r, up_s]
  · rw [q3, up_s]
  · rw [q1 16 (by omega), c1116, up_n _ _ (by omega), c1016, up_n _ _ (by omega), c816, up_n _ _ (by omega), c716, up_s]
  · rw [q1 16 (by omega), c1116, up_n _ _ (by omega), c1016, up_n _ _ (by omega), c816, up_s]
  · rw [q1 16 (by omega), c1116, up_n _ _ (by omega), c1016, up_s]
  · rw [q1 16 (by omega), c1116, up_s]
  · rw [q3, up_n _ _ (by omega), d11r, up_n _ _ (by omega), d10r, up_n _ _ (by omega), d8r, up_n _ _ (by omega), d7r, up_s]
  · rw [q3, up_n _ _ (by omega), d11r, up_n _ _ (by omega), d10r, up_n _ _ (by omega), d8r, up_s]
  · rw [q3, up_n _ _ (by omega), d11r, up_n _ _ (by omega), d10r, up_s]
  · rw [q3, up_n _ _ (by omega), d11r, up_s]
