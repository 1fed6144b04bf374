set_option maxRecDepth 16384
/-! level, and all amounts that can be laid -/
theorem gRl_pn {th m p : Nat} {c d c2 d2 : gm} (h : gRl th m p c d) (f : fr (fun i => i = 23 ∨ i = 24 ∨ i = 25) c c2) (h0 : c2.1 24 0 = 0) (fd : ∀ i, ¬ SD i → d2.1 i = d.1 i) (f5 : ∀ k, k = 1 ∨ k = 3 ∨ k = 17 ∨ (32 ≤ k ∧ k ≤ 35) → d2.1 55 k = d.1 55 k) : gRl th m p c2 d2 := by
  refine gRl_sc (gRl_24 (f := c2.1 24) h h0) (by rw [f.2]; rfl) (fun i hi => ?_) fd f5
  unfold SC at hi
  by_cases q : i = 24
  · rw [q, gr_s]
  · rw [gr_n _ _ q]
    exact f.1 i (by omega)
theorem in_01 (a : Int32) : m_X10_in a 0 1 = (if a = 0 then some 1 else if a = 1 then some 1 else some 0) := by
  rw [← ip_e]; rfl
theorem level_two {th m p n : Nat} {c d : gm} (h : gRl th m p c d) (hn : 1100 < n) (a b : Int32) : gAns 1 0 (m_X9_level n 0 a b c) (m_X10_level n 55 a b d) := by
  have hZ := gRl_dZ h
  have z0 := dZ_0 d
  obtain ⟨hP, hp, ⟨hS, hRw, hM, hL⟩, hTo, hTp, hCn, hBk, hPs, hIm⟩ := id hZ
  have h8 := hS.2.1
  have p2 := p2_9 th (by omega)
  obtain ⟨m0, m3, -⟩ := id hM
  by_cases qa : 0 ≤ a ∧ a < nI (2 ^ th)
  rotate_left
  · refine ans_i (v := 0) (d := d) hZ (by decide) ?_ ?_
    · unfold m_X9_level
      rw [gc_1 (show gck 0 = 9 from rfl), gbx_x2 (db_0 hS qa)]
    · unfold m_X10_level; simp only [gj_e]
      rw [gc_1 (show gck 55 = 10 from rfl), gv_e, show gm_r d 55 (upd (d.1 55) 0 0) = dZ d from rfl, gb_x (ms_0 h8 m0 qa), if_pos rfl, gb2_x (bd_i z0 (by decide)), if_neg (by decide)]
  by_cases qb : b = 0 ∨ b = 1
  rotate_left
  · have n0 : ¬ b = 0 := fun q => qb (Or.inl q)
    have n1 : ¬ b = 1 := fun q => qb (Or.inr q)
    refine ans_i (v := 0) (d := d) hZ (by decide) ?_ ?_
    · unfold m_X9_level; simp only [gj_e]
      rw [gc_1 (show gck 0 = 9 from rfl), gbx_x1 (db_1 hS qa), if_neg n0, if_neg n1, gbx_x2 (dm_0 c)]
    · unfold m_X10_level; simp only [gj_e]
      rw [gc_1 (show gck 55 = 10 from rfl), gv_e, show gm_r d 55 (upd (d.1 55) 0 0) = dZ d from rfl, gb_x (ms_1 h8 m0 qa), if_neg (by decide), in_01, if_neg n0, if_neg n1, gb_e, if_pos rfl, gb2_x (bd_i z0 (by decide)), if_neg (by decide)]
  obtain ⟨x, hx, rfl⟩ := i_ex2 (by omega) qa
  obtain ⟨c2, e1, f1, z1, hc⟩ := lay_c (N := n) hS hRw (by omega) hTo.2 hx
  obtain ⟨u, v, e2, hd⟩ := lay_d (N := n) hRw m0 h8 hx (by omega)
  have hG : gRl th m p c2 (dZ d) := gRl_pn hZ ⟨fun i hi => f1.1 i (by omega), f1.2⟩ z1 (fun _ _ => rfl) (fun _ _ => rfl)
  have hr : ∃ w, m_X10_more 0 v = some w ∧ c2.1 23 2 = w ∧ c2.1 23 3 = u := by
    rcases hc with ⟨k3, k2, kn⟩ | ⟨y, k3, k2, kl⟩
    · rcases hd with ⟨l3, l2, ln⟩ | ⟨y', l3, l2, ll⟩
      · exact ⟨0, by rw [l2]; rfl, k2, by rw [k3, l3]⟩
      · exact absurd ll.1 (kn y')
    · rcases hd with ⟨l3, l2, ln⟩ | ⟨y', l3, l2, ll⟩
      · exact absurd kl.1 (ln y)
      · have := gLv_u kl ll
        subst this
        refine ⟨v, ?_, by rw [k2, l2], by rw [k3, l3]⟩
        have b1 := pSm_b hRw y th (Nat.le_refl _)
        have b2 := pSm_b hRw x th (Nat.le_refl _)
        have hD : dif (2 * pSm ((dZ d).1 503) y th) (pSm ((dZ d).1 503) x th) < 100000 := by unfold dif; split <;> omega
        unfold m_X10_more
        rw [l2, if_pos (by rw [show (0 : Int32) = nI 0 from rfl, n_le (by omega) (by omega)]; omega)]
  obtain ⟨w, w1, w2, w3⟩ := hr
  rcases qb with rfl | rfl
  · refine ans_o (r := w) hG z0 ?_ ?_
    · unfold m_X9_level; simp only [gj_e]
      rw [gc_1 (show gck 0 = 9 from rfl), gbx_x1 (db_1 hS qa), if_pos trivial, gbx_x1 (dm_1 c), gb_x e1, if_pos trivial, w2, gok_e]
    · unfold m_X10_level; simp only [gj_e]
      rw [gc_1 (show gck 55 = 10 from rfl), gv_e, show gm_r d 55 (upd (d.1 55) 0 0) = dZ d from rfl, gb_x (ms_1 h8 m0 qa), if_neg (by decide), in_01, if_pos rfl, gb_e, if_neg (by decide), gb2_x (bd_0 z0), if_pos rfl, gv_e, gb_x e2, gu2_e, if_neg (by decide), gb_x w1]
  · refine ans_o (r := u) hG z0 ?_ ?_
    · unfold m_X9_level; simp only [gj_e]
      rw [gc_1 (show gck 0 = 9 from rfl), gbx_x1 (db_1 hS qa), if_neg (show ¬ (1 : Int32) = 0 by decide), if_pos trivial, gbx_x1 (dm_1 c), gb_x e1, if_neg (show ¬ (1 : Int32) = 0 by decide), w3, gok_e]
    · unfold m_X10_level; simp only [gj_e]
      rw [gc_1 (show gck 55 = 10 from rfl), gv_e, show gm_r d 55 (upd (d.1 55) 0 0) = dZ d from rfl, gb_x (ms_1 h8 m0 qa), if_neg (by decide), in_01, if_neg (show ¬ (1 : Int32) = 0 by decide), if_pos rfl, gb_e, if_neg (by decide), gb2_x (bd_0 z0), if_pos rfl, gv_e, gb_x e2, gu2_e, if_pos trivial]
/-- which sets come out at which amounts -/
def rch (x : Nat) (r : Nat → Int32) : Nat → Nat → Nat → Int → Nat → Int → Prop
  | 0, _, u, A, z, k => z = u ∧ k = A
  | q + 1, i, u, A, z, k => rch x r q (i + 1) u A z k ∨ (x / 2 ^ i % 2 = 1 ∧ (rch x r q (i + 1) (u + 2 ^ i) (A + pWt r i) z k ∨ rch x r q (i + 1) (u + 2 ^ i) (A - pWt r i) z k))
def gMak (r : Nat → Int32) (th x n z : Nat) : Prop := z < 2 ^ th ∧ z &&& x = z ∧ ∃ l, l &&& z = l ∧ 2 * pSm r l th = pSm r z th + n
theorem btz {u i j : Nat} (hu : u < 2 ^ i) (hj : i ≤ j) : u / 2 ^ j % 2 = 0 := by
  rw [Nat.div_eq_of_lt (Nat.lt_of_lt_of_le hu (Nat.pow_le_pow_right (by omega) hj))]
theorem bts {u i : Nat} (hu : u < 2 ^ i) (hi : i < 8) (j : Nat) : (u + 2 ^ i) / 2 ^ j % 2 = (if j < i then u / 2 ^ j % 2 else if j = i then 1 else 0) := by
  obtain ⟨-, b2, -, b4⟩ := bt_lo i hi u hu
  by_cases q : j < i
  · rw [if_pos q, b4 j q]
  · rw [if_neg q]
    by_cases q2 : j = i
    · rw [if_pos q2, q2, b2]
    · rw [if_neg q2]
      exact btz (i := i + 1) (by rw [Nat.pow_succ]; omega) (by omega)
theorem rch_s {x : Nat} {r : Nat → Int32} {z : Nat} {k : Int} : ∀ q i u A l, i + q ≤ 8 → u < 2 ^ i → l < 2 ^ i → l &&& u = l → u &&& x = u → A = 2 * (pSm r l i : Int) - pSm r u i → rch x r q i u A z k → z < 2 ^ (i + q) ∧ z &&& x = z ∧ ∃ l', l' &&& z = l' ∧ k = 2 * (pSm r l' (i + q) : Int) - pSm r z (i + q) := by
  intro q
  induction q with
  | zero =>
    rintro i u A l hi hu hl s1 s2 hA ⟨rfl, rfl⟩
    exact ⟨hu, s2, l, s1, hA⟩
  | succ q ih =>
    intro i u A l hi hu hl s1 s2 hA h
    have hp : 2 ^ (i + 1) = 2 ^ i + 2 ^ i := by rw [Nat.pow_succ]; omega
    obtain ⟨u1, u2⟩ := pSm_l (r := r) (a := i) (u := u) (by omega) hu
    obtain ⟨l1, l2⟩ := pSm_l (r := r) (a := i) (u := l) (by omega) hl
    rw [show i + (q + 1) = i + 1 + q by omega]
    rcases h with h | ⟨hb, h⟩
    · exact ih (i + 1) u A l (by omega) (by omega) (by omega) s1 s2 (by rw [u1, l1]; exact hA) h
    · have s3 : (u + 2 ^ i) &&& x = u + 2 ^ i := by
        apply sub_2
        intro j hj
        rw [bts hu (by omega) j] at hj
        by_cases q1 : j < i
        · rw [if_pos q1] at hj; exact sub_1 s2 j hj
        · rw [if_neg q1] at hj
          by_cases q2 : j = i
          · rw [q2]; exact hb
          · rw [if_neg q2] at hj; omega
      rcases h with h | h
      · refine ih (i + 1) (u + 2 ^ i) (A + pWt r i) (l + 2 ^ i) (by omega) (by omega) (by omega) ?_ s3 (by rw [u2, l2, hA]; omega) h
        apply sub_2
        intro j hj
        rw [bts hl (by omega) j] at hj
        rw [bts hu (by omega) j]
        by_cases q1 : j < i
        · rw [if_pos q1] at hj ⊢; exact sub_1 s1 j hj
        · rw [if_neg q1] at hj ⊢
          by_cases q2 : j = i
          · rw [if_pos q2]
          · rw [if_neg q2] at hj; omega
      · refine ih (i + 1) (u + 2 ^ i) (A - pWt r i) l (by omega) (by omega) (by omega) ?_ s3 (by rw [u2, l1, hA]; omega) h
        apply sub_2
        intro j hj
        rw [bts hu (by omega) j]
        by_cases q1 : j < i
        · rw [if_pos q1]; exact sub_1 s1 j hj
        · rw [btz hl (by omega)] at hj; omega
theorem rch_c {x th z l : Nat} {r : Nat → Int32} (hz : z < 2 ^ th) (sz : z &&& x = z) (sl : l &&& z = l) : ∀ q i, i + q = th → rch x r q i (z % 2 ^ i) (2 * (pSm r l i : Int) - pSm r z i) z (2 * (pSm r l th : Int) - pSm r z th) := by
  intro q
  induction q with
  | zero =>
    intro i hi
    obtain rfl : i = th := by omega
    exact ⟨(Nat.mod_eq_of_lt hz).symm, rfl⟩
  | succ q ih =>
    intro i hi
    have h := ih (i + 1) (by omega)
    have e := Nat.mod_pow_succ (b := 2) (k := i) (x := z)
    by_cases qz : z / 2 ^ i % 2 = 1
    · right
      refine ⟨sub_1 sz i qz, ?_⟩
      rw [qz, Nat.mul_one] at e
      rw [e, pSm_s, pSm_s, if_pos qz] at h
      by_cases ql : l / 2 ^ i % 2 = 1
      · left
        rw [if_pos ql] at h
        rw [show (2 * (pSm r l i : Int) - pSm r z i) + pWt r i = 2 * ((pSm r l i + pWt r i : Nat) : Int) - ((pSm r z i + pWt r i : Nat) : Int) by omega]
        exact h
      · right
        rw [if_neg ql] at h
        rw [show (2 * (pSm r l i : Int) - pSm r z i) - pWt r i = 2 * ((pSm r l i + 0 : Nat) : Int) - ((pSm r z i + pWt r i : Nat) : Int) by omega]
        exact h
    · left
      have q0 : z / 2 ^ i % 2 = 0 := by omega
      have ql : ¬ l / 2 ^ i % 2 = 1 := fun e => qz (sub_1 sl i e)
      rw [q0, Nat.mul_zero, Nat.add_zero] at e
      rw [e, pSm_s, pSm_s, if_neg qz, if_neg ql] at h
      exact h
theorem rch_e {x th n : Nat} {r : Nat → Int32} (h8 : th ≤ 8) (z : Nat) : rch x r th 0 0 0 z n ↔ gMak r th x n z := by
  constructor
  · intro h
    obtain ⟨h1, h2, l, h3, h4⟩ := rch_s (x := x) (r := r) th 0 0 0 0 (by omega) (by decide) (by decide) rfl (Nat.zero_and x) rfl h
    rw [Nat.zero_add] at h1 h4
    exact ⟨h1, h2, l, h3, by omega⟩
  · rintro ⟨h1, h2, l, h3, h4⟩
    have := rch_c (r := r) h1 h2 h3 th 0 (by omega)
    rw [show (2 * (pSm r l th : Int) - pSm r z th) = (n : Int) by omega, show z % 2 ^ 0 = 0 from Nat.mod_one z] at this
    exact this
