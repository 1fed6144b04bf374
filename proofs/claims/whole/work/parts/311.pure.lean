set_option maxRecDepth 16384
/-! the whole relation of the class's memory and the reference's, between two calls -/
/-- a row that is kept: f the class's, g the reference's -/
def gKp (th : Nat) (f g : Nat → Int32) : Prop := ∃ m, gRow th m g ∧ f 56 = nI m ∧ f 57 = g 57 ∧ f 58 = g 59 ∧ f 59 = g 58 ∧ (∀ a, a < th → f a = g a ∧ f (8 + a) = g (8 + a)) ∧ ∀ k, k < 4 * m → f (16 + k) = g (16 + k)
def pBy (b : Nat) : Int32 := (Int32.toInt8 (nI b)).toInt32
def gBy (x y : Int32) : Prop := ∃ b, b < 256 ∧ y = nI b ∧ x = pBy b
def gTp (c d : gm) : Prop := ∃ k, k ≤ 600 ∧ c.1 1 1 = nI k ∧ d.1 55 1 = nI k ∧ ∀ j, j < k → gBy (c.1 2 j) (d.1 56 j)
def gPt (c : gm) : Prop := ((c.2.2 0 = 33 ∧ c.2.2 1 = 38) ∨ (c.2.2 0 = 38 ∧ c.2.2 1 = 33)) ∧ ((c.2.2 2 = 43 ∧ c.2.2 3 = 49) ∨ (c.2.2 2 = 49 ∧ c.2.2 3 = 43))
def gBk (bk th : Nat) (c d : gm) : Prop := ∃ z, z ≤ 6 ∧ c.1 bk 5 = nI z ∧ d.1 55 32 = nI z ∧ ∀ k, k < z → ∃ a b r, a < th ∧ b < th ∧ r ≤ 2 ∧ c.1 (bk + 1) k = nI a ∧ c.1 (bk + 2) k = nI b ∧ c.1 (bk + 3) k = nI r ∧ d.1 (407 + k) 0 = nI a ∧ d.1 (407 + k) 1 = nI b ∧ d.1 (407 + k) 2 = nI r
def gPs (th : Nat) (c d : gm) : Prop := ∃ w, w ≤ 16 ∧ c.1 17 3 = nI w ∧ d.1 55 33 = nI w ∧ ∀ k, k < w → gKp th (fun j => c.1 18 (60 * k + j)) (d.1 (507 + k))
def gIm (th : Nat) (c d : gm) : Prop := ∃ q, q ≤ 3 ∧ c.1 17 4 = nI q ∧ d.1 55 35 = nI q ∧ ∀ i, i < q → ∃ w, w ≤ 16 ∧ c.1 20 i = nI w ∧ d.1 (524 + i) 0 = nI w ∧ gKp th (fun j => c.1 19 (1020 * i + (960 + j))) (fun j => d.1 (524 + i) (1 + j)) ∧ ∀ k, k < w → gKp th (fun j => c.1 19 (1020 * i + (60 * k + j))) (fun j => d.1 (524 + i) (61 + (60 * k + j)))
def gTo (th : Nat) (c d : gm) : Prop := (∀ a, a < th → c.1 4 a = d.1 61 a) ∧ c.1 24 0 = 0
def gCn (c d : gm) : Prop := c.1 1 7 = d.1 55 3 ∧ c.1 0 12 = d.1 55 34 ∧ c.1 0 13 = d.1 57 0 ∧ c.1 0 14 = d.1 57 1
def gRl (th m p : Nat) (c d : gm) : Prop := gPt c ∧ p ≤ 9 ∧ gR2 3 503 (c.2.2 0) th m (nI p) c d ∧ gTo th c d ∧ gTp c d ∧ gCn c d ∧ gBk (c.2.2 2) th c d ∧ gPs th c d ∧ gIm th c d
def gRel (c d : gm) : Prop := ∃ th m p, gRl th m p c d
/-- what the relation reads is the same, but for the counts -/
def gSm (c c2 d d2 : gm) : Prop := c2.2.2 = c.2.2 ∧ (∀ i, (2 ≤ i ∧ i ≤ 6) ∨ i = 8 ∨ i = 24 ∨ (17 ≤ i ∧ i ≤ 20) ∨ i = c.2.2 0 ∨ i = c.2.2 0 + 1 ∨ i = c.2.2 0 + 2 ∨ i = c.2.2 2 + 1 ∨ i = c.2.2 2 + 2 ∨ i = c.2.2 2 + 3 → c2.1 i = c.1 i) ∧ c2.1 1 1 = c.1 1 1 ∧ c2.1 (c.2.2 2) 5 = c.1 (c.2.2 2) 5 ∧ (∀ k, k = 1 ∨ k = 17 ∨ k = 32 ∨ k = 33 ∨ k = 35 → d2.1 55 k = d.1 55 k) ∧ ∀ i, i = 56 ∨ i = 59 ∨ i = 61 ∨ (85 ≤ i ∧ i ≤ 244) ∨ (407 ≤ i ∧ i ≤ 412) ∨ i = 503 ∨ (507 ≤ i ∧ i ≤ 522) ∨ (524 ≤ i ∧ i ≤ 526) → d2.1 i = d.1 i
theorem gRl_sm {th m p : Nat} {c c2 d d2 : gm} (h : gRl th m p c d) (s : gSm c c2 d d2) (hn : gCn c2 d2) : gRl th m p c2 d2 := by
  obtain ⟨h1, hp, ⟨r1, r2, r3, r4⟩, h3, h4, -, h6, h7, h8⟩ := h
  obtain ⟨s1, s2, s3, s4, s5, s6⟩ := s
  have e2 := s2 2 (by omega)
  have e3 := s2 3 (by omega)
  have e4 := s2 4 (by omega)
  have e5 := s2 5 (by omega)
  have e6 := s2 6 (by omega)
  have e8 := s2 8 (by omega)
  have e17 := s2 17 (by omega)
  have e18 := s2 18 (by omega)
  have e19 := s2 19 (by omega)
  have e20 := s2 20 (by omega)
  have f503 := s6 503 (by omega)
  have f59 := s6 59 (by omega)
  have f61 := s6 61 (by omega)
  have f56 := s6 56 (by omega)
  refine ⟨by unfold gPt; rw [s1]; exact h1, hp, ⟨?_, ?_, ?_, ?_⟩, ?_, ?_, hn, ?_, ?_, ?_⟩
  · rw [f503]; exact gSt_fr r1 e3 e5 e6 e8
  · rw [f503]; exact r2
  · unfold gMd; rw [f59]; exact r3
  · rw [s1]; exact gLw_fr r4 (s2 _ (by omega)) (s2 _ (by omega)) (s2 _ (by omega)) (s5 17 (by omega)) (fun k hk => s6 _ (by omega))
  · unfold gTo; rw [e4, f61, s2 24 (by omega)]; exact h3
  · unfold gTp; rw [s3, e2, f56, s5 1 (by omega)]; exact h4
  · rw [s1]
    obtain ⟨z, hz, b1, b2, b3⟩ := h6
    refine ⟨z, hz, by rw [s4]; exact b1, by rw [s5 32 (by omega)]; exact b2, fun k hk => ?_⟩
    rw [s2 (c.2.2 2 + 1) (by omega), s2 (c.2.2 2 + 2) (by omega), s2 (c.2.2 2 + 3) (by omega), s6 (407 + k) (by omega)]
    exact b3 k hk
  · obtain ⟨w, hw, b1, b2, b3⟩ := h7
    refine ⟨w, hw, by rw [e17]; exact b1, by rw [s5 33 (by omega)]; exact b2, fun k hk => ?_⟩
    rw [e18, s6 (507 + k) (by omega)]
    exact b3 k hk
  · obtain ⟨q, hq, b1, b2, b3⟩ := h8
    refine ⟨q, hq, by rw [e17]; exact b1, by rw [s5 35 (by omega)]; exact b2, fun i hi => ?_⟩
    rw [e19, e20, s6 (524 + i) (by omega)]
    exact b3 i hi
theorem gSm_r (c d : gm) : gSm c c d d := ⟨rfl, fun _ _ => rfl, rfl, rfl, fun _ _ => rfl, fun _ _ => rfl⟩
/-- the out cell is none of it -/
theorem gRl_out {th m p : Nat} {c d : gm} (h : gRl th m p c d) (i : Nat) (f : Nat → Int64) : gRl th m p (gm_l c i f) d := h
def cIll (c : gm) : gm := gm_r c 0 (upd (c.1 0) 14 (c.1 0 14 + 1))
def cNse (c : gm) : gm := gm_r c 0 (upd (c.1 0) 13 (c.1 0 13 + 1))
def dZ (d : gm) : gm := gm_r d 55 (upd (d.1 55) 0 0)
def dBad (d : gm) (w : Int32) (k : Nat) : gm := gm_r (gm_r d 55 (upd (d.1 55) 0 w)) 57 (upd (d.1 57) k (d.1 57 k + 1))
theorem dZ_n (d : gm) {i : Nat} (h : i ≠ 55) : (dZ d).1 i = d.1 i := gr_n _ _ h
theorem dZ_0 (d : gm) : (dZ d).1 55 0 = 0 := by unfold dZ; rw [gr_s, up_s]
theorem dZ_k (d : gm) {k : Nat} (h : k ≠ 0) : (dZ d).1 55 k = d.1 55 k := by unfold dZ; rw [gr_s, up_n _ _ h]
theorem gRl_dZ {th m p : Nat} {c d : gm} (h : gRl th m p c d) : gRl th m p c (dZ d) := by
  refine gRl_sm h ⟨rfl, fun _ _ => rfl, rfl, rfl, fun k hk => dZ_k d (by omega), fun i hi => dZ_n d (by omega)⟩ ?_
  have g := h.2.2.2.2.2.1
  unfold gCn at g ⊢
  rw [dZ_k d (by omega), dZ_k d (by omega), dZ_n d (by omega)]
  exact g
theorem dBad_0 (d : gm) (w : Int32) (k : Nat) : (dBad d w k).1 55 0 = w := by unfold dBad; rw [gr_n _ _ (by omega), gr_s, up_s]
theorem gRl_ill {th m p : Nat} {c d : gm} (h : gRl th m p c d) (w : Int32) : gRl th m p (cIll c) (dBad d w 1) := by
  refine gRl_sm h ⟨rfl, fun i hi => gr_n _ _ (by have := h.1; unfold gPt at this; omega), by unfold cIll; rw [gr_n _ _ (by omega)], by unfold cIll; rw [gr_n _ _ (by have := h.1; unfold gPt at this; omega)], fun k hk => by unfold dBad; rw [gr_n _ _ (by omega), gr_s, up_n _ _ (by omega)], fun i hi => by unfold dBad; rw [gr_n _ _ (by omega), gr_n _ _ (by omega)]⟩ ?_
  obtain ⟨g1, g2, g3, g4⟩ := h.2.2.2.2.2.1
  unfold gCn cIll dBad
  rw [gr_n _ _ (show 1 ≠ 0 by omega), gr_s, gr_n _ _ (show 55 ≠ 57 by omega), gr_s, gr_s, up_n _ _ (show 12 ≠ 14 by omega), up_n _ _ (show 13 ≠ 14 by omega), up_s, up_n _ _ (show 3 ≠ 0 by omega), up_n _ _ (show 34 ≠ 0 by omega), up_n _ _ (show 0 ≠ 1 by omega), up_s, g4]
  exact ⟨g1, g2, g3, rfl⟩
theorem gRl_nse {th m p : Nat} {c d : gm} (h : gRl th m p c d) (w : Int32) : gRl th m p (cNse c) (dBad d w 0) := by
  refine gRl_sm h ⟨rfl, fun i hi => gr_n _ _ (by have := h.1; unfold gPt at this; omega), by unfold cNse; rw [gr_n _ _ (by omega)], by unfold cNse; rw [gr_n _ _ (by have := h.1; unfold gPt at this; omega)], fun k hk => by unfold dBad; rw [gr_n _ _ (by omega), gr_s, up_n _ _ (by omega)], fun i hi => by unfold dBad; rw [gr_n _ _ (by omega), gr_n _ _ (by omega)]⟩ ?_
  obtain ⟨g1, g2, g3, g4⟩ := h.2.2.2.2.2.1
  unfold gCn cNse dBad
  rw [gr_n _ _ (show 1 ≠ 0 by omega), gr_s, gr_n _ _ (show 55 ≠ 57 by omega), gr_s, gr_s, up_n _ _ (show 12 ≠ 13 by omega), up_n _ _ (show 14 ≠ 13 by omega), up_s, up_n _ _ (show 3 ≠ 0 by omega), up_n _ _ (show 34 ≠ 0 by omega), up_n _ _ (show 1 ≠ 0 by omega), up_s, g3]
  exact ⟨g1, g2, rfl, g4⟩
/-- an answer, or a refusal: k the class's throw (1 illegal, 0 none such), w the reference's word of it -/
def gAns {α : Type} (w1 w0 : Int32) (x : Option ((α × gm) ⊕ (Nat × gm))) (y : Option (α × gm)) : Prop := (∃ r c2 d2, x = some (.inl (r, c2)) ∧ y = some (r, d2) ∧ d2.1 55 0 = 0 ∧ gRel c2 d2) ∨ (∃ v c2 d2, x = some (.inr (1, c2)) ∧ y = some (v, d2) ∧ d2.1 55 0 = w1 ∧ ¬ w1 = 0 ∧ gRel c2 d2) ∨ ∃ v c2 d2, x = some (.inr (0, c2)) ∧ y = some (v, d2) ∧ d2.1 55 0 = w0 ∧ ¬ w0 = 0 ∧ gRel c2 d2
theorem ans_i {α : Type} {th m p : Nat} {w1 w0 : Int32} {c d d1 : gm} {x : Option ((α × gm) ⊕ (Nat × gm))} {y : Option (α × gm)} {v : α} (h : gRl th m p c d1) (hw : ¬ w1 = 0) (hx : x = some (.inr (1, cIll c))) (hy : y = some (v, dBad d1 w1 1)) : gAns w1 w0 x y := Or.inr (Or.inl ⟨v, _, _, hx, hy, dBad_0 _ _ _, hw, th, m, p, gRl_ill h w1⟩)
theorem ans_n {α : Type} {th m p : Nat} {w1 w0 : Int32} {c d d1 : gm} {x : Option ((α × gm) ⊕ (Nat × gm))} {y : Option (α × gm)} {v : α} (h : gRl th m p c d1) (hw : ¬ w0 = 0) (hx : x = some (.inr (0, cNse c))) (hy : y = some (v, dBad d1 w0 0)) : gAns w1 w0 x y := Or.inr (Or.inr ⟨v, _, _, hx, hy, dBad_0 _ _ _, hw, th, m, p, gRl_nse h w0⟩)
theorem ans_o {α : Type} {th m p : Nat} {w1 w0 : Int32} {c2 d2 : gm} {x : Option ((α × gm) ⊕ (Nat × gm))} {y : Option (α × gm)} {r : α} (h : gRl th m p c2 d2) (h0 : d2.1 55 0 = 0) (hx : x = some (.inl (r, c2))) (hy : y = some (r, d2)) : gAns w1 w0 x y := Or.inl ⟨r, c2, d2, hx, hy, h0, th, m, p, h⟩
/-- demands of the class, refusals of the reference -/
theorem dm_1 (c : gm) : m_X9_demand 0 1 c = some (.inl c) := by unfold m_X9_demand; rw [if_neg (by decide)]; rfl
theorem dm_0 (c : gm) : m_X9_demand 0 0 c = some (.inr (1, cIll c)) := by unfold m_X9_demand; rw [if_pos rfl]; rfl
theorem dp_1 (c : gm) : m_X9_demandPresent 0 1 c = some (.inl c) := by unfold m_X9_demandPresent; rw [if_neg (by decide)]; rfl
theorem dp_0 (c : gm) : m_X9_demandPresent 0 0 c = some (.inr (0, cNse c)) := by unfold m_X9_demandPresent; rw [if_pos rfl]; rfl
theorem dt_1 {th m : Nat} {pl x : Int32} {r : Nat → Int32} {c : gm} (h : gSt 3 c th m pl r) (hx : 0 ≤ x ∧ x < nI th) : m_X9_demandThing 0 x c = some (.inl c) := by
  unfold m_X9_demandThing
  rw [gc_1 (show gck 0 = 9 from rfl), cs_thing h, gb_e, if_pos hx, gbx_x1 (dp_1 c)]
  rfl
theorem dt_0 {th m : Nat} {pl x : Int32} {r : Nat → Int32} {c : gm} (h : gSt 3 c th m pl r) (hx : ¬ (0 ≤ x ∧ x < nI th)) : m_X9_demandThing 0 x c = some (.inr (0, cNse c)) := by
  unfold m_X9_demandThing
  rw [gc_1 (show gck 0 = 9 from rfl), cs_thing h, gb_e, if_neg hx, gbx_x2 (dp_0 c)]
theorem in_1 {a x y : Int32} (h : x ≤ a ∧ a ≤ y) : m_X10_in a x y = some 1 := by
  unfold m_X10_in
  rw [if_neg (fun q => Int32.lt_irrefl (Int32.lt_of_lt_of_le q h.1)), if_neg (fun q => Int32.lt_irrefl (Int32.lt_of_lt_of_le q h.2))]
theorem in_0 {a x y : Int32} (h : ¬ (x ≤ a ∧ a ≤ y)) : m_X10_in a x y = some 0 := by
  unfold m_X10_in
  by_cases q : a < x
  · rw [if_pos q]
  · rw [if_neg q, if_pos]
    rw [Int32.not_lt] at q
    exact Int32.not_le.mp (fun q2 => h ⟨q, q2⟩)
theorem mt_e {th : Nat} (h8 : th < 2147483648) (x : Int32) : (0 ≤ x ∧ x ≤ nI th - 1) ↔ (0 ≤ x ∧ x < nI th) := by
  by_cases q : 0 ≤ x
  · obtain ⟨k, hk, rfl⟩ := n_ex (fun q2 => Int32.lt_irrefl (Int32.lt_of_lt_of_le q2 q))
    rcases Nat.eq_zero_or_pos th with rfl | hp
    · constructor
      · rintro ⟨-, h⟩
        exfalso
        rw [Int32.le_iff_toInt_le, n_ti hk, show (nI 0 - 1).toInt = -1 from by decide] at h
        omega
      · rintro ⟨-, h⟩
        rw [n_lt hk (by decide)] at h
        omega
    · rw [n_l1, n_su hp, n_le hk (by omega), n_lt hk (by omega)]
      constructor
      · rintro ⟨a, b⟩; exact ⟨a, by omega⟩
      · rintro ⟨a, b⟩; exact ⟨a, by omega⟩
  · exact ⟨fun h => absurd h.1 q, fun h => absurd h.1 q⟩
theorem mt_1 {th : Nat} {x : Int32} {d : gm} (h8 : th ≤ 8) (h : d.1 59 0 = nI th) (hx : 0 ≤ x ∧ x < nI th) : m_X10_isThing 55 x d = some 1 := by
  unfold m_X10_isThing
  rw [gc_1 (show gck 55 = 10 from rfl), n_cl0, h, gb_x (in_1 ((mt_e (by omega) x).mpr hx)), gc_1 (Or.inr rfl)]
theorem mt_0 {th : Nat} {x : Int32} {d : gm} (h8 : th ≤ 8) (h : d.1 59 0 = nI th) (hx : ¬ (0 ≤ x ∧ x < nI th)) : m_X10_isThing 55 x d = some 0 := by
  unfold m_X10_isThing
  rw [gc_1 (show gck 55 = 10 from rfl), n_cl0, h, gb_x (in_0 (fun q => hx ((mt_e (by omega) x).mp q))), gc_1 (Or.inl rfl)]
theorem bd_0 {d : gm} {w r : Int32} (h : d.1 55 0 = 0) : m_X10_bad 55 0 w r d = some (0, d) := by
  unfold m_X10_bad; simp only [gj_e]
  rw [if_pos trivial, gc_1 (show gck 55 = 10 from rfl), if_pos h]
theorem bd_1 {d : gm} {w : Int32} {k : Nat} (h : d.1 55 0 = 0) (hw : ¬ w = 0) (hk : k < 2) : m_X10_bad 55 1 w (nI k) d = some (1, dBad d w k) := by
  unfold m_X10_bad; simp only [gj_e]
  have e : (0 ≤ (nI k).toInt ∧ (nI k).toInt < 2) := by rw [n_ti (by omega)]; omega
  rw [if_neg (by decide), gc_1 (show gck 55 = 10 from rfl), if_pos h, gv_e, gc_1 e, gc_1 e, gv_e, n_cl (by omega), gc_1 (show gck 55 = 10 from rfl), gr_n _ _ (show 57 ≠ 55 by omega)]
  rw [show gm_r (gm_r d 55 (upd (d.1 55) 0 w)) 57 (upd (d.1 57) k (d.1 57 k + 1)) = dBad d w k from rfl, dBad_0, if_neg hw]
theorem bd_i {d : gm} {w : Int32} (h : d.1 55 0 = 0) (hw : ¬ w = 0) : m_X10_bad 55 1 w 1 d = some (1, dBad d w 1) := bd_1 (k := 1) h hw (by omega)
theorem bd_n {d : gm} {w : Int32} (h : d.1 55 0 = 0) (hw : ¬ w = 0) : m_X10_bad 55 1 w 0 d = some (1, dBad d w 0) := bd_1 (k := 0) h hw (by omega)
theorem i_nlt {a b : Int32} (h : a ≤ b) : ¬ b < a := fun q => Int32.lt_irrefl (Int32.lt_of_lt_of_le q h)
theorem i_or {a x y : Int32} (h : ¬ (x ≤ a ∧ a ≤ y)) : a < x ∨ (¬ a < x ∧ y < a) := by
  by_cases q : a < x
  · exact Or.inl q
  · exact Or.inr ⟨q, Int32.not_le.mp (fun q2 => h ⟨Int32.not_lt.mp q, q2⟩)⟩
/-- a number between two is one of these -/
theorem i_ex {a : Int32} {y : Nat} (hy : y < 2147483648) (h : 0 ≤ a ∧ a ≤ nI y) : ∃ k, k ≤ y ∧ a = nI k := by
  obtain ⟨k, hk, rfl⟩ := n_ex (i_nlt h.1)
  exact ⟨k, by have := h.2; rwa [n_le hk hy] at this, rfl⟩
theorem i_ex2 {a : Int32} {y : Nat} (hy : y < 2147483648) (h : 0 ≤ a ∧ a < nI y) : ∃ k, k < y ∧ a = nI k := by
  obtain ⟨k, hk, rfl⟩ := n_ex (i_nlt h.1)
  exact ⟨k, by have := h.2; rwa [n_lt hk hy] at this, rfl⟩
