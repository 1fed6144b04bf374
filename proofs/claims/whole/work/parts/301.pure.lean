set_option maxRecDepth 16384
theorem n_ti {k : Nat} (h : k < 2147483648) : (nI k).toInt = k := by
  unfold nI
  rw [Int32.toInt_ofNat_of_lt (by simpa using h)]
theorem n_cl {k : Nat} (h : k < 2147483648) : (nI k).toNatClampNeg = k := by
  rw [Int32.toNatClampNeg, n_ti h, Int.toNat_natCast]
theorem n_lt {a b : Nat} (ha : a < 2147483648) (hb : b < 2147483648) : (nI a < nI b) = (a < b) := by
  apply propext
  rw [Int32.lt_iff_toInt_lt, n_ti ha, n_ti hb]
  omega
theorem n_le {a b : Nat} (ha : a < 2147483648) (hb : b < 2147483648) : (nI a ≤ nI b) = (a ≤ b) := by
  apply propext
  rw [Int32.le_iff_toInt_le, n_ti ha, n_ti hb]
  omega
theorem n_eq {a b : Nat} (ha : a < 2147483648) (hb : b < 2147483648) : (nI a = nI b) = (a = b) := by
  apply propext
  rw [← Int32.toInt_inj, n_ti ha, n_ti hb]
  omega
theorem n_ad (a b : Nat) : nI a + nI b = nI (a + b) := by
  unfold nI
  exact (Int32.ofNat_add a b).symm
theorem n_s (a : Nat) : nI a + 1 = nI (a + 1) := n_ad a 1
theorem n_mu (a b : Nat) : nI a * nI b = nI (a * b) := by
  unfold nI
  exact (Int32.ofNat_mul a b).symm
theorem n_su {a b : Nat} (h : b ≤ a) : nI a - nI b = nI (a - b) := by
  have e : nI a = nI (a - b) + nI b := by rw [n_ad]; congr 1; omega
  rw [e]
  exact Int32.add_sub_cancel _ _
theorem n_pr {a : Nat} (h : 1 ≤ a) : nI a + (-1) = nI (a - 1) := by
  rw [← n_su h, Int32.sub_eq_add_neg]
  rfl
theorem n_ne {a : Nat} (h : a < 2147483648) : (nI a = -1) = False := by
  apply propext
  constructor
  · intro e
    have e2 := congrArg Int32.toInt e
    rw [n_ti h, show (-1 : Int32).toInt = -1 from by decide] at e2
    omega
  · exact False.elim
theorem n_nn {a : Nat} (h : a < 2147483648) : (-1 = nI a) = False := by
  rw [eq_comm (a := (-1 : Int32)), n_ne h]
theorem n_ng {a : Nat} (h : a < 2147483648) : (nI a < nI 0) = False := by
  rw [n_lt h (by decide)]
  simp
theorem n_of {x : Int32} (h : 0 ≤ x.toInt) : x = nI x.toNatClampNeg := by
  rw [← Int32.toInt_inj, n_ti]
  · rw [Int32.toNatClampNeg]; omega
  · rw [Int32.toNatClampNeg]
    have := Int32.toInt_lt x
    omega
/-- a number that is none below 0 is some nI -/
theorem n_ex {x : Int32} (h : ¬ x < 0) : ∃ k, k < 2147483648 ∧ x = nI k := by
  rw [Int32.lt_iff_toInt_lt] at h
  have h0 : 0 ≤ x.toInt := by
    have : (0 : Int32).toInt = 0 := rfl
    omega
  refine ⟨x.toNatClampNeg, ?_, n_of h0⟩
  rw [Int32.toNatClampNeg]
  have := Int32.toInt_lt x
  omega
theorem n_l0 : (0 : Int32) = nI 0 := rfl
theorem n_l1 : (1 : Int32) = nI 1 := rfl
theorem n_l2 : (2 : Int32) = nI 2 := rfl
theorem n_l3 : (3 : Int32) = nI 3 := rfl
theorem n_l4 : (4 : Int32) = nI 4 := rfl
theorem n_l5 : (5 : Int32) = nI 5 := rfl
theorem n_l6 : (6 : Int32) = nI 6 := rfl
theorem n_l7 : (7 : Int32) = nI 7 := rfl
theorem n_l8 : (8 : Int32) = nI 8 := rfl
theorem n_l9 : (9 : Int32) = nI 9 := rfl
theorem n_l10 : (10 : Int32) = nI 10 := rfl
theorem n_l11 : (11 : Int32) = nI 11 := rfl
theorem n_l12 : (12 : Int32) = nI 12 := rfl
theorem n_l13 : (13 : Int32) = nI 13 := rfl
theorem n_l14 : (14 : Int32) = nI 14 := rfl
theorem n_l15 : (15 : Int32) = nI 15 := rfl
theorem n_l16 : (16 : Int32) = nI 16 := rfl
theorem n_l18 : (18 : Int32) = nI 18 := rfl
theorem n_l20 : (20 : Int32) = nI 20 := rfl
theorem n_l22 : (22 : Int32) = nI 22 := rfl
theorem n_l24 : (24 : Int32) = nI 24 := rfl
theorem n_l26 : (26 : Int32) = nI 26 := rfl
theorem n_l27 : (27 : Int32) = nI 27 := rfl
theorem n_l30 : (30 : Int32) = nI 30 := rfl
theorem n_l32 : (32 : Int32) = nI 32 := rfl
theorem n_l38 : (38 : Int32) = nI 38 := rfl
theorem n_l40 : (40 : Int32) = nI 40 := rfl
theorem n_l42 : (42 : Int32) = nI 42 := rfl
theorem n_l43 : (43 : Int32) = nI 43 := rfl
theorem n_l45 : (45 : Int32) = nI 45 := rfl
theorem n_l47 : (47 : Int32) = nI 47 := rfl
theorem n_l48 : (48 : Int32) = nI 48 := rfl
theorem n_l56 : (56 : Int32) = nI 56 := rfl
theorem n_l57 : (57 : Int32) = nI 57 := rfl
theorem n_l58 : (58 : Int32) = nI 58 := rfl
theorem n_l59 : (59 : Int32) = nI 59 := rfl
theorem n_l60 : (60 : Int32) = nI 60 := rfl
theorem n_l61 : (61 : Int32) = nI 61 := rfl
theorem n_l80 : (80 : Int32) = nI 80 := rfl
theorem n_l91 : (91 : Int32) = nI 91 := rfl
theorem n_l93 : (93 : Int32) = nI 93 := rfl
theorem n_l96 : (96 : Int32) = nI 96 := rfl
theorem n_l97 : (97 : Int32) = nI 97 := rfl
theorem n_l99 : (99 : Int32) = nI 99 := rfl
theorem n_l100 : (100 : Int32) = nI 100 := rfl
theorem n_l122 : (122 : Int32) = nI 122 := rfl
theorem n_l150 : (150 : Int32) = nI 150 := rfl
theorem n_l160 : (160 : Int32) = nI 160 := rfl
theorem n_l190 : (190 : Int32) = nI 190 := rfl
theorem n_l200 : (200 : Int32) = nI 200 := rfl
theorem n_l255 : (255 : Int32) = nI 255 := rfl
theorem n_l256 : (256 : Int32) = nI 256 := rfl
theorem n_l300 : (300 : Int32) = nI 300 := rfl
theorem n_l480 : (480 : Int32) = nI 480 := rfl
theorem n_l481 : (481 : Int32) = nI 481 := rfl
theorem n_l580 : (580 : Int32) = nI 580 := rfl
theorem n_l600 : (600 : Int32) = nI 600 := rfl
theorem n_l960 : (960 : Int32) = nI 960 := rfl
theorem n_l999 : (999 : Int32) = nI 999 := rfl
theorem n_l1020 : (1020 : Int32) = nI 1020 := rfl
theorem n_l1024 : (1024 : Int32) = nI 1024 := rfl
theorem n_l3060 : (3060 : Int32) = nI 3060 := rfl
theorem n_l9999 : (9999 : Int32) = nI 9999 := rfl
theorem n_l100000 : (100000 : Int32) = nI 100000 := rfl
theorem n_l1000000 : (1000000 : Int32) = nI 1000000 := rfl
theorem gloop_run {α β : Type} {f : α → Option (α ⊕ β)} (S : Nat → α) (m : Nat) (b : β) (hs : ∀ k, k < m → f (S k) = some (.inl (S (k + 1)))) (he : f (S m) = some (.inr b)) {n : Nat} (hn : m < n) : gloop f n (S 0) = some b := by
  suffices h : ∀ j k n, k + j = m → j < n → gloop f n (S k) = some b from h m 0 n (by omega) hn
  intro j
  induction j with
  | zero =>
    intro k n e hn
    obtain ⟨n, rfl⟩ : ∃ q, n = q + 1 := ⟨n - 1, by omega⟩
    obtain rfl : k = m := by omega
    rw [gloop, he]
  | succ j ih =>
    intro k n e hn
    obtain ⟨n, rfl⟩ : ∃ q, n = q + 1 := ⟨n - 1, by omega⟩
    rw [gloop, hs k (by omega)]
    exact ih (k + 1) n (by omega) (by omega)
theorem gloop_inv {α β : Type} {f : α → Option (α ⊕ β)} (I : Nat → α → Prop) (post : β → Prop) (h : ∀ r a, I r a → (∃ a2 r2, f a = some (.inl a2) ∧ r2 < r ∧ I r2 a2) ∨ ∃ b, f a = some (.inr b) ∧ post b) {n r : Nat} {a : α} (hi : I r a) (hn : r < n) : ∃ b, gloop f n a = some b ∧ post b := by
  induction n generalizing r a with
  | zero => omega
  | succ n ih =>
    rcases h r a hi with ⟨a2, r2, e, hr, h2⟩ | ⟨b, e, hb⟩
    · obtain ⟨b, e2, hb⟩ := ih h2 (by omega)
      exact ⟨b, by rw [gloop, e]; exact e2, hb⟩
    · exact ⟨b, by rw [gloop, e], hb⟩
/-- two loops side by side -/
theorem gloop_two {α β γ δ : Type} {f : α → Option (α ⊕ β)} {g : γ → Option (γ ⊕ δ)} (I : Nat → α → γ → Prop) (post : β → δ → Prop) (h : ∀ r a x, I r a x → (∃ a2 x2 r2, f a = some (.inl a2) ∧ g x = some (.inl x2) ∧ r2 < r ∧ I r2 a2 x2) ∨ ∃ b y, f a = some (.inr b) ∧ g x = some (.inr y) ∧ post b y) {n r : Nat} {a : α} {x : γ} (hi : I r a x) (hn : r < n) : ∃ b y, gloop f n a = some b ∧ gloop g n x = some y ∧ post b y := by
  induction n generalizing r a x with
  | zero => omega
  | succ n ih =>
    rcases h r a x hi with ⟨a2, x2, r2, e, e2, hr, h2⟩ | ⟨b, y, e, e2, hb⟩
    · obtain ⟨b, y, e3, e4, hb⟩ := ih h2 (by omega)
      exact ⟨b, y, by rw [gloop, e]; exact e3, by rw [gloop, e2]; exact e4, hb⟩
    · exact ⟨b, y, by rw [gloop, e], by rw [gloop, e2], hb⟩
def pF {α : Type} (g : Nat → α → α) (a : α) : Nat → α
  | 0 => a
  | k + 1 => g k (pF g a k)
theorem gr_s (c : gm) (i : Nat) (f : Nat → Int32) : (gm_r c i f).1 i = f := by simp [gm_r, va_up]
theorem gr_n (c : gm) {i j : Nat} (f : Nat → Int32) (h : j ≠ i) : (gm_r c i f).1 j = c.1 j := by simp [gm_r, va_up, h]
theorem gr_2 (c : gm) (i : Nat) (f : Nat → Int32) : (gm_r c i f).2 = c.2 := rfl
theorem up_s (f : Nat → Int32) (k : Nat) (v : Int32) : upd f k v k = v := by simp [upd]
theorem up_n (f : Nat → Int32) {k j : Nat} (v : Int32) (h : j ≠ k) : upd f k v j = f j := by simp [upd, h]
theorem gv_e {α β : Type} (x : α) (k : α → β) : gv x k = k x := rfl
theorem gj_e {α β : Type} (k : α) (f : α → β) : gj k f = f k := rfl
theorem gu2_e {α β γ : Type} (f : α → β → γ) (a : α) (b : β) : gu2 f (a, b) = f a b := rfl
theorem gb_x {α β : Type} {x : Option α} {a : α} {k : α → Option β} (h : x = some a) : gb x k = k a := by rw [h]; rfl
theorem gb2_x {α β γ : Type} {x : Option (α × β)} {a : α} {b : β} {k : α → β → Option γ} (h : x = some (a, b)) : gb2 x k = k a b := by rw [h]; rfl
theorem gb_e {α β : Type} {a : α} {k : α → Option β} : gb (some a) k = k a := rfl
theorem gb2_e {α β γ : Type} {a : α} {b : β} {k : α → β → Option γ} : gb2 (some (a, b)) k = k a b := rfl
theorem gsm_e1 {α β : Type} {f : β → Option α} {a : α} : gsm f (.inl a) = some a := rfl
theorem gsm_e2 {α β : Type} {f : β → Option α} {b : β} : gsm f (.inr b) = f b := rfl
theorem gbx_e1 {α β : Type} {a : α} {k : α → Option (β ⊕ (Nat × gm))} : gbx (some (.inl a)) k = k a := rfl
theorem gbx_e2 {α β : Type} {e : Nat × gm} {k : α → Option (β ⊕ (Nat × gm))} : gbx (some (.inr e)) k = some (.inr e) := rfl
theorem gbx_x1 {α β : Type} {x : Option (α ⊕ (Nat × gm))} {a : α} {k : α → Option (β ⊕ (Nat × gm))} (h : x = some (.inl a)) : gbx x k = k a := by rw [h]; rfl
theorem gbx_x2 {α β : Type} {x : Option (α ⊕ (Nat × gm))} {e : Nat × gm} {k : α → Option (β ⊕ (Nat × gm))} (h : x = some (.inr e)) : gbx x k = some (.inr e) := by rw [h]; rfl
theorem gok_x {α : Type} {x : Option α} {a : α} (h : x = some a) : gok x = some (.inl a) := by rw [h]; rfl
theorem gok_e {α : Type} {a : α} : gok (some a) = some (.inl a) := rfl
theorem gbw_x1 {α β : Type} {x : Option (α ⊕ (Nat × gm))} {a : α} {k : α → Option β} {kx : Nat → gm → Option β} (h : x = some (.inl a)) : gbw x k kx = k a := by rw [h]; rfl
theorem gbw_x2 {α β : Type} {x : Option (α ⊕ (Nat × gm))} {e : Nat} {g : gm} {k : α → Option β} {kx : Nat → gm → Option β} (h : x = some (.inr (e, g))) : gbw x k kx = kx e g := by rw [h]; rfl
theorem n_in {k : Nat} {M : Int} (h : k < 2147483648) (h2 : (k : Int) < M) : (0 ≤ (nI k).toInt ∧ (nI k).toInt < M) = True := by
  rw [n_ti h]
  exact eq_true ⟨by omega, h2⟩
