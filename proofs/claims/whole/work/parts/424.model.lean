set_option maxRecDepth 16384
/-! the constructor of the reference: its memory when it is new, its cells -/
def gd0 : gm := (fun i => if i = 55 then (fun k => if k = 3 then -1 else 0) else (fun _ => 0), fun _ _ => 0, fun _ => 0)
def e56 (ad : Nat → Nat) (cy : Nat → ClassId) : Nat → va_E := fun i => if i < 55 then gwe ad cy gc0 gd0 i else .inr (10, [.int 0, .int 0, .int 0, .int 0, .int 0, .int 0, .int 0, .int 0, .int 0, .null, .null, .null, .null, .null, .null, .null, .null, .int 0, .int 0, .null, .null, .null, .null, .null, .null, .null, .int 0, .null, .null, .null, .null, .null, .int 0, .int 0, .int 0, .int 0, .int 0, .int 0, .int 0, .long 0, .long 0, .null, .int 0, .null, .null, .int 0])
def mAd (ad : Nat → Nat) (q1 q2 q3 q4 q5 q6 q7 q8 q9 q10 q11 q12 q13 q14 q15 q16 q17 q18 q19 q20 q21 q22 q23 : Nat) (r7 r8 r9 r10 r11 r12 r15 r19 r20 : Nat → Nat) : Nat → Nat := (va_up (va_up (va_up (jn (523 + 1) (va_up (jn (506 + 1) (va_up (va_up (va_up (va_up (jn (422 + 1) (va_up (va_up (va_up (jn (413 + 1) (va_up (jn (406 + 1) (va_up (jn (245 + 1) (va_up (jn (84 + 1) (va_up (jn (73 + 1) (va_up (jn (62 + 1) (va_up (va_up (va_up (va_up (va_up (va_up (va_up ad 56 q1) 57 q2) 58 q3) 59 q4) 60 q5) 61 q6) 62 q7) r7) 73 q8) r8) 84 q9) r9) 245 q10) r10) 406 q11) r11) 413 q12) r12) 420 q13) 421 q14) 422 q15) r15) 503 q16) 504 q17) 505 q18) 506 q19) r19) 523 q20) r20) 527 q21) 528 q22) 529 q23)
def mEn (cy : Nat → ClassId) (ad : Nat → Nat) (q1 q2 q3 q4 q5 q6 q7 q8 q9 q10 q11 q12 q13 q14 q15 q16 q17 q18 q19 q20 q21 q22 q23 : Nat) (r7 r8 r9 r10 r11 r12 r15 r19 r20 : Nat → Nat) : Nat → va_E := (va_up (va_up (va_up (va_up (va_up (va_up (va_up (jn (523 + 1) (va_up (va_up (jn (506 + 1) (va_up (va_up (va_up (va_up (va_up (va_up (va_up (va_up (jn (422 + 1) (va_up (va_up (va_up (va_up (va_up (va_up (jn (413 + 1) (va_up (va_up (jn (406 + 1) (va_up (va_up (jn (245 + 1) (va_up (va_up (jn (84 + 1) (va_up (va_up (jn (73 + 1) (va_up (va_up (jn (62 + 1) (va_up (va_up (va_up (va_up (va_up (va_up (va_up (va_up (va_up (va_up (va_up (va_up (va_up (va_up (e56 ad cy) 55 (.inr (10, ([.int 0, .int 0, .int 0, .int 0, .int 0, .int 0, .int 0, .int 0, .int 0, .null, .null, .null, .null, .null, .null, .null, .null, .int 0, .int 0, .null, .null, .null, .null, .null, .null, .null, .int 0, .null, .null, .null, .null, .null, .int 0, .int 0, .int 0, .int 0, .int 0, .int 0, .int 0, .long 0, .long 0, .null, .int 0, .null, .null, .int 0] : List Value).set 3 (.int (-1))))) 56 (.inl (cy 0, 600, .inl (fun _ => 0)))) 55 (.inr (10, ([.int 0, .int 0, .int 0, .int (-1), .int 0, .int 0, .int 0, .int 0, .int 0, .null, .null, .null, .null, .null, .null, .null, .null, .int 0, .int 0, .null, .null, .null, .null, .null, .null, .null, .int 0, .null, .null, .null, .null, .null, .int 0, .int 0, .int 0, .int 0, .int 0, .int 0, .int 0, .long 0, .long 0, .null, .int 0, .null, .null, .int 0] : List Value).set 9 (.ref q1)))) 57 (.inl (cy 0, 2, .inl (fun _ => 0)))) 55 (.inr (10, ([.int 0, .int 0, .int 0, .int (-1), .int 0, .int 0, .int 0, .int 0, .int 0, .ref q1, .null, .null, .null, .null, .null, .null, .null, .int 0, .int 0, .null, .null, .null, .null, .null, .null, .null, .int 0, .null, .null, .null, .null, .null, .int 0, .int 0, .int 0, .int 0, .int 0, .int 0, .int 0, .long 0, .long 0, .null, .int 0, .null, .null, .int 0] : List Value).set 10 (.ref q2)))) 58 (.inl (cy 0, 4, .inl (fun _ => 0)))) 55 (.inr (10, ([.int 0, .int 0, .int 0, .int (-1), .int 0, .int 0, .int 0, .int 0, .int 0, .ref q1, .ref q2, .null, .null, .null, .null, .null, .null, .int 0, .int 0, .null, .null, .null, .null, .null, .null, .null, .int 0, .null, .null, .null, .null, .null, .int 0, .int 0, .int 0, .int 0, .int 0, .int 0, .int 0, .long 0, .long 0, .null, .int 0, .null, .null, .int 0] : List Value).set 11 (.ref q3)))) 59 (.inl (cy 0, 4, .inl (fun _ => 0)))) 55 (.inr (10, ([.int 0, .int 0, .int 0, .int (-1), .int 0, .int 0, .int 0, .int 0, .int 0, .ref q1, .ref q2, .ref q3, .null, .null, .null, .null, .null, .int 0, .int 0, .null, .null, .null, .null, .null, .null, .null, .int 0, .null, .null, .null, .null, .null, .int 0, .int 0, .int 0, .int 0, .int 0, .int 0, .int 0, .long 0, .long 0, .null, .int 0, .null, .null, .int 0] : List Value).set 12 (.ref q4)))) 60 (.inl (cy 0, 8, .inl (fun _ => 0)))) 55 (.inr (10, ([.int 0, .int 0, .int 0, .int (-1), .int 0, .int 0, .int 0, .int 0, .int 0, .ref q1, .ref q2, .ref q3, .ref q4, .null, .null, .null, .null, .int 0, .int 0, .null, .null, .null, .null, .null, .null, .null, .int 0, .null, .null, .null, .null, .null, .int 0, .int 0, .int 0, .int 0, .int 0, .int 0, .int 0, .long 0, .long 0, .null, .int 0, .null, .null, .int 0] : List Value).set 13 (.ref q5)))) 61 (.inl (cy 0, 8, .inl (fun _ => 0)))) 55 (.inr (10, ([.int 0, .int 0, .int 0, .int (-1), .int 0, .int 0, .int 0, .int 0, .int 0, .ref q1, .ref q2, .ref q3, .ref q4, .ref q5, .null, .null, .null, .int 0, .int 0, .null, .null, .null, .null, .null, .null, .null, .int 0, .null, .null, .null, .null, .null, .int 0, .int 0, .int 0, .int 0, .int 0, .int 0, .int 0, .long 0, .long 0, .null, .int 0, .null, .null, .int 0] : List Value).set 14 (.ref q6)))) 62 (.inl (cy 4, 10, .inr (.inr (.inr (.inr (fun i => if i < 10 then some (r7 i) else none))))))) (fun _ => .inl (cy 0, 4, .inl (fun _ => 0)))) 55 (.inr (10, ([.int 0, .int 0, .int 0, .int (-1), .int 0, .int 0, .int 0, .int 0, .int 0, .ref q1, .ref q2, .ref q3, .ref q4, .ref q5, .ref q6, .null, .null, .int 0, .int 0, .null, .null, .null, .null, .null, .null, .null, .int 0, .null, .null, .null, .null, .null, .int 0, .int 0, .int 0, .int 0, .int 0, .int 0, .int 0, .long 0, .long 0, .null, .int 0, .null, .null, .int 0] : List Value).set 15 (.ref q7)))) 73 (.inl (cy 4, 10, .inr (.inr (.inr (.inr (fun i => if i < 10 then some (r8 i) else none))))))) (fun _ => .inl (cy 0, 4, .inl (fun _ => 0)))) 55 (.inr (10, ([.int 0, .int 0, .int 0, .int (-1), .int 0, .int 0, .int 0, .int 0, .int 0, .ref q1, .ref q2, .ref q3, .ref q4, .ref q5, .ref q6, .ref q7, .null, .int 0, .int 0, .null, .null, .null, .null, .null, .null, .null, .int 0, .null, .null, .null, .null, .null, .int 0, .int 0, .int 0, .int 0, .int 0, .int 0, .int 0, .long 0, .long 0, .null, .int 0, .null, .null, .int 0] : List Value).set 16 (.ref q8)))) 84 (.inl (cy 4, 160, .inr (.inr (.inr (.inr (fun i => if i < 160 then some (r9 i) else none))))))) (fun _ => .inl (cy 0, 2, .inl (fun _ => 0)))) 55 (.inr (10, ([.int 0, .int 0, .int 0, .int (-1), .int 0, .int 0, .int 0, .int 0, .int 0, .ref q1, .ref q2, .ref q3, .ref q4, .ref q5, .ref q6, .ref q7, .ref q8, .int 0, .int 0, .null, .null, .null, .null, .null, .null, .null, .int 0, .null, .null, .null, .null, .null, .int 0, .int 0, .int 0, .int 0, .int 0, .int 0, .int 0, .long 0, .long 0, .null, .int 0, .null, .null, .int 0] : List Value).set 19 (.ref q9)))) 245 (.inl (cy 4, 160, .inr (.inr (.inr (.inr (fun i => if i < 160 then some (r10 i) else none))))))) (fun _ => .inl (cy 0, 2, .inl (fun _ => 0)))) 55 (.inr (10, ([.int 0, .int 0, .int 0, .int (-1), .int 0, .int 0, .int 0, .int 0, .int 0, .ref q1, .ref q2, .ref q3, .ref q4, .ref q5, .ref q6, .ref q7, .ref q8, .int 0, .int 0, .ref q9, .null, .null, .null, .null, .null, .null, .int 0, .null, .null, .null, .null, .null, .int 0, .int 0, .int 0, .int 0, .int 0, .int 0, .int 0, .long 0, .long 0, .null, .int 0, .null, .null, .int 0] : List Value).set 20 (.ref q10)))) 406 (.inl (cy 4, 6, .inr (.inr (.inr (.inr (fun i => if i < 6 then some (r11 i) else none))))))) (fun _ => .inl (cy 0, 3, .inl (fun _ => 0)))) 55 (.inr (10, ([.int 0, .int 0, .int 0, .int (-1), .int 0, .int 0, .int 0, .int 0, .int 0, .ref q1, .ref q2, .ref q3, .ref q4, .ref q5, .ref q6, .ref q7, .ref q8, .int 0, .int 0, .ref q9, .ref q10, .null, .null, .null, .null, .null, .int 0, .null, .null, .null, .null, .null, .int 0, .int 0, .int 0, .int 0, .int 0, .int 0, .int 0, .long 0, .long 0, .null, .int 0, .null, .null, .int 0] : List Value).set 21 (.ref q11)))) 413 (.inl (cy 4, 6, .inr (.inr (.inr (.inr (fun i => if i < 6 then some (r12 i) else none))))))) (fun _ => .inl (cy 0, 3, .inl (fun _ => 0)))) 55 (.inr (10, ([.int 0, .int 0, .int 0, .int (-1), .int 0, .int 0, .int 0, .int 0, .int 0, .ref q1, .ref q2, .ref q3, .ref q4, .ref q5, .ref q6, .ref q7, .ref q8, .int 0, .int 0, .ref q9, .ref q10, .ref q11, .null, .null, .null, .null, .int 0, .null, .null, .null, .null, .null, .int 0, .int 0, .int 0, .int 0, .int 0, .int 0, .int 0, .long 0, .long 0, .null, .int 0, .null, .null, .int 0] : List Value).set 22 (.ref q12)))) 420 (.inl (cy 0, 160, .inl (fun _ => 0)))) 55 (.inr (10, ([.int 0, .int 0, .int 0, .int (-1), .int 0, .int 0, .int 0, .int 0, .int 0, .ref q1, .ref q2, .ref q3, .ref q4, .ref q5, .ref q6, .ref q7, .ref q8, .int 0, .int 0, .ref q9, .ref q10, .ref q11, .ref q12, .null, .null, .null, .int 0, .null, .null, .null, .null, .null, .int 0, .int 0, .int 0, .int 0, .int 0, .int 0, .int 0, .long 0, .long 0, .null, .int 0, .null, .null, .int 0] : List Value).set 23 (.ref q13)))) 421 (.inl (cy 0, 7, .inl (fun _ => 0)))) 55 (.inr (10, ([.int 0, .int 0, .int 0, .int (-1), .int 0, .int 0, .int 0, .int 0, .int 0, .ref q1, .ref q2, .ref q3, .ref q4, .ref q5, .ref q6, .ref q7, .ref q8, .int 0, .int 0, .ref q9, .ref q10, .ref q11, .ref q12, .ref q13, .null, .null, .int 0, .null, .null, .null, .null, .null, .int 0, .int 0, .int 0, .int 0, .int 0, .int 0, .int 0, .long 0, .long 0, .null, .int 0, .null, .null, .int 0] : List Value).set 24 (.ref q14)))) 422 (.inl (cy 4, 80, .inr (.inr (.inr (.inr (fun i => if i < 80 then some (r15 i) else none))))))) (fun _ => .inl (cy 0, 6, .inl (fun _ => 0)))) 55 (.inr (10, ([.int 0, .int 0, .int 0, .int (-1), .int 0, .int 0, .int 0, .int 0, .int 0, .ref q1, .ref q2, .ref q3, .ref q4, .ref q5, .ref q6, .ref q7, .ref q8, .int 0, .int 0, .ref q9, .ref q10, .ref q11, .ref q12, .ref q13, .ref q14, .null, .int 0, .null, .null, .null, .null, .null, .int 0, .int 0, .int 0, .int 0, .int 0, .int 0, .int 0, .long 0, .long 0, .null, .int 0, .null, .null, .int 0] : List Value).set 25 (.ref q15)))) 503 (.inl (cy 0, 60, .inl (fun _ => 0)))) 55 (.inr (10, ([.int 0, .int 0, .int 0, .int (-1), .int 0, .int 0, .int 0, .int 0, .int 0, .ref q1, .ref q2, .ref q3, .ref q4, .ref q5, .ref q6, .ref q7, .ref q8, .int 0, .int 0, .ref q9, .ref q10, .ref q11, .ref q12, .ref q13, .ref q14, .ref q15, .int 0, .null, .null, .null, .null, .null, .int 0, .int 0, .int 0, .int 0, .int 0, .int 0, .int 0, .long 0, .long 0, .null, .int 0, .null, .null, .int 0] : List Value).set 27 (.ref q16)))) 504 (.inl (cy 0, 60, .inl (fun _ => 0)))) 55 (.inr (10, ([.int 0, .int 0, .int 0, .int (-1), .int 0, .int 0, .int 0, .int 0, .int 0, .ref q1, .ref q2, .ref q3, .ref q4, .ref q5, .ref q6, .ref q7, .ref q8, .int 0, .int 0, .ref q9, .ref q10, .ref q11, .ref q12, .ref q13, .ref q14, .ref q15, .int 0, .ref q16, .null, .null, .null, .null, .int 0, .int 0, .int 0, .int 0, .int 0, .int 0, .int 0, .long 0, .long 0, .null, .int 0, .null, .null, .int 0] : List Value).set 28 (.ref q17)))) 505 (.inl (cy 0, 8, .inl (fun _ => 0)))) 55 (.inr (10, ([.int 0, .int 0, .int 0, .int (-1), .int 0, .int 0, .int 0, .int 0, .int 0, .ref q1, .ref q2, .ref q3, .ref q4, .ref q5, .ref q6, .ref q7, .ref q8, .int 0, .int 0, .ref q9, .ref q10, .ref q11, .ref q12, .ref q13, .ref q14, .ref q15, .int 0, .ref q16, .ref q17, .null, .null, .null, .int 0, .int 0, .int 0, .int 0, .int 0, .int 0, .int 0, .long 0, .long 0, .null, .int 0, .null, .null, .int 0] : List Value).set 29 (.ref q18)))) 506 (.inl (cy 4, 16, .inr (.inr (.inr (.inr (fun i => if i < 16 then some (r19 i) else none))))))) (fun _ => .inl (cy 0, 60, .inl (fun _ => 0)))) 55 (.inr (10, ([.int 0, .int 0, .int 0, .int (-1), .int 0, .int 0, .int 0, .int 0, .int 0, .ref q1, .ref q2, .ref q3, .ref q4, .ref q5, .ref q6, .ref q7, .ref q8, .int 0, .int 0, .ref q9, .ref q10, .ref q11, .ref q12, .ref q13, .ref q14, .ref q15, .int 0, .ref q16, .ref q17, .ref q18, .null, .null, .int 0, .int 0, .int 0, .int 0, .int 0, .int 0, .int 0, .long 0, .long 0, .null, .int 0, .null, .null, .int 0] : List Value).set 30 (.ref q19)))) 523 (.inl (cy 4, 3, .inr (.inr (.inr (.inr (fun i => if i < 3 then some (r20 i) else none))))))) (fun _ => .inl (cy 0, 1021, .inl (fun _ => 0)))) 55 (.inr (10, ([.int 0, .int 0, .int 0, .int (-1), .int 0, .int 0, .int 0, .int 0, .int 0, .ref q1, .ref q2, .ref q3, .ref q4, .ref q5, .ref q6, .ref q7, .ref q8, .int 0, .int 0, .ref q9, .ref q10, .ref q11, .ref q12, .ref q13, .ref q14, .ref q15, .int 0, .ref q16, .ref q17, .ref q18, .ref q19, .null, .int 0, .int 0, .int 0, .int 0, .int 0, .int 0, .int 0, .long 0, .long 0, .null, .int 0, .null, .null, .int 0] : List Value).set 31 (.ref q20)))) 527 (.inl (cy 2, 1024, .inl (fun _ => 0)))) 55 (.inr (10, ([.int 0, .int 0, .int 0, .int (-1), .int 0, .int 0, .int 0, .int 0, .int 0, .ref q1, .ref q2, .ref q3, .ref q4, .ref q5, .ref q6, .ref q7, .ref q8, .int 0, .int 0, .ref q9, .ref q10, .ref q11, .ref q12, .ref q13, .ref q14, .ref q15, .int 0, .ref q16, .ref q17, .ref q18, .ref q19, .ref q20, .int 0, .int 0, .int 0, .int 0, .int 0, .int 0, .int 0, .long 0, .long 0, .null, .int 0, .null, .null, .int 0] : List Value).set 41 (.ref q21)))) 528 (.inl (cy 0, 481, .inl (fun _ => 0)))) 55 (.inr (10, ([.int 0, .int 0, .int 0, .int (-1), .int 0, .int 0, .int 0, .int 0, .int 0, .ref q1, .ref q2, .ref q3, .ref q4, .ref q5, .ref q6, .ref q7, .ref q8, .int 0, .int 0, .ref q9, .ref q10, .ref q11, .ref q12, .ref q13, .ref q14, .ref q15, .int 0, .ref q16, .ref q17, .ref q18, .ref q19, .ref q20, .int 0, .int 0, .int 0, .int 0, .int 0, .int 0, .int 0, .long 0, .long 0, .ref q21, .int 0, .null, .null, .int 0] : List Value).set 43 (.ref q22)))) 529 (.inl (cy 0, 3, .inl (fun _ => 0)))) 55 (.inr (10, ([.int 0, .int 0, .int 0, .int (-1), .int 0, .int 0, .int 0, .int 0, .int 0, .ref q1, .ref q2, .ref q3, .ref q4, .ref q5, .ref q6, .ref q7, .ref q8, .int 0, .int 0, .ref q9, .ref q10, .ref q11, .ref q12, .ref q13, .ref q14, .ref q15, .int 0, .ref q16, .ref q17, .ref q18, .ref q19, .ref q20, .int 0, .int 0, .int 0, .int 0, .int 0, .int 0, .int 0, .long 0, .long 0, .ref q21, .int 0, .ref q22, .null, .int 0] : List Value).set 44 (.ref q23))))
theorem arrV_cg {c : ClassId} {n : Nat} {f g : Nat → Value} (h : ∀ j, j < n → f j = g j) : arrV c n f = arrV c n g := by
  unfold arrV
  congr 1
  apply Array.ext
  · simp
  · intro i h1 h2
    simp only [Array.getElem_ofFn]
    exact h i (by simpa using h1)
theorem gd0_z {i : Nat} (h : i ≠ 55) : gd0.1 i = fun _ => 0 := by
  show (if i = 55 then _ else _) = _
  rw [if_neg h]
theorem mk_62 : ∀ i, i < 531 → 62 < i → i < 73 → gck i = 22 ∧ gal i = 4 := by decide +kernel
theorem mk_73 : ∀ i, i < 531 → 73 < i → i < 84 → gck i = 22 ∧ gal i = 4 := by decide +kernel
theorem mk_84 : ∀ i, i < 531 → 84 < i → i < 245 → gck i = 22 ∧ gal i = 2 := by decide +kernel
theorem mk_245 : ∀ i, i < 531 → 245 < i → i < 406 → gck i = 22 ∧ gal i = 2 := by decide +kernel
theorem mk_406 : ∀ i, i < 531 → 406 < i → i < 413 → gck i = 22 ∧ gal i = 3 := by decide +kernel
theorem mk_413 : ∀ i, i < 531 → 413 < i → i < 420 → gck i = 22 ∧ gal i = 3 := by decide +kernel
theorem mk_422 : ∀ i, i < 531 → 422 < i → i < 503 → gck i = 22 ∧ gal i = 6 := by decide +kernel
theorem mk_506 : ∀ i, i < 531 → 506 < i → i < 523 → gck i = 22 ∧ gal i = 60 := by decide +kernel
theorem mk_523 : ∀ i, i < 531 → 523 < i → i < 527 → gck i = 22 ∧ gal i = 1021 := by decide +kernel
theorem mA_62 (ad : Nat → Nat) (q1 q2 q3 q4 q5 q6 q7 q8 q9 q10 q11 q12 q13 q14 q15 q16 q17 q18 q19 q20 q21 q22 q23 : Nat) (r7 r8 r9 r10 r11 r12 r15 r19 r20 : Nat → Nat) {j : Nat} (h : j < 10) : mAd ad q1 q2 q3 q4 q5 q6 q7 q8 q9 q10 q11 q12 q13 q14 q15 q16 q17 q18 q19 q20 q21 q22 q23 r7 r8 r9 r10 r11 r12 r15 r19 r20 (62 + 1 + j) = r7 j := by
  unfold mAd
  simp (disch := omega) only [va_up_ne, jn_l, jn_r]
  try (congr 1; omega)
theorem mE_62 {cy : Nat → ClassId} (ad : Nat → Nat) (q1 q2 q3 q4 q5 q6 q7 q8 q9 q10 q11 q12 q13 q14 q15 q16 q17 q18 q19 q20 q21 q22 q23 : Nat) (r7 r8 r9 r10 r11 r12 r15 r19 r20 : Nat → Nat) {i : Nat} (h1 : 62 < i) (h2 : i < 73) : mEn cy ad q1 q2 q3 q4 q5 q6 q7 q8 q9 q10 q11 q12 q13 q14 q15 q16 q17 q18 q19 q20 q21 q22 q23 r7 r8 r9 r10 r11 r12 r15 r19 r20 i = .inl (cy 0, 4, .inl (fun _ => 0)) := by
  unfold mEn
  simp (disch := omega) only [va_up_ne, jn_l, jn_r]
theorem mA_73 (ad : Nat → Nat) (q1 q2 q3 q4 q5 q6 q7 q8 q9 q10 q11 q12 q13 q14 q15 q16 q17 q18 q19 q20 q21 q22 q23 : Nat) (r7 r8 r9 r10 r11 r12 r15 r19 r20 : Nat → Nat) {j : Nat} (h : j < 10) : mAd ad q1 q2 q3 q4 q5 q6 q7 q8 q9 q10 q11 q12 q13 q14 q15 q16 q17 q18 q19 q20 q21 q22 q23 r7 r8 r9 r10 r11 r12 r15 r19 r20 (73 + 1 + j) = r8 j := by
  unfold mAd
  simp (disch := omega) only [va_up_ne, jn_l, jn_r]
  try (congr 1; omega)
theorem mE_73 {cy : Nat → ClassId} (ad : Nat → Nat) (q1 q2 q3 q4 q5 q6 q7 q8 q9 q10 q11 q12 q13 q14 q15 q16 q17 q18 q19 q20 q21 q22 q23 : Nat) (r7 r8 r9 r10 r11 r12 r15 r19 r20 : Nat → Nat) {i : Nat} (h1 : 73 < i) (h2 : i < 84) : mEn cy ad q1 q2 q3 q4 q5 q6 q7 q8 q9 q10 q11 q12 q13 q14 q15 q16 q17 q18 q19 q20 q21 q22 q23 r7 r8 r9 r10 r11 r12 r15 r19 r20 i = .inl (cy 0, 4, .inl (fun _ => 0)) := by
  unfold mEn
  simp (disch := omega) only [va_up_ne, jn_l, jn_r]
theorem mA_84 (ad : Nat → Nat) (q1 q2 q3 q4 q5 q6 q7 q8 q9 q10 q11 q12 q13 q14 q15 q16 q17 q18 q19 q20 q21 q22 q23 : Nat) (r7 r8 r9 r10 r11 r12 r15 r19 r20 : Nat → Nat) {j : Nat} (h : j < 160) : mAd ad q1 q2 q3 q4 q5 q6 q7 q8 q9 q10 q11 q12 q13 q14 q15 q16 q17 q18 q19 q20 q21 q22 q23 r7 r8 r9 r10 r11 r12 r15 r19 r20 (84 + 1 + j) = r9 j := by
  unfold mAd
  simp (disch := omega) only [va_up_ne, jn_l, jn_r]
  try (congr 1; omega)
theorem mE_84 {cy : Nat → ClassId} (ad : Nat → Nat) (q1 q2 q3 q4 q5 q6 q7 q8 q9 q10 q11 q12 q13 q14 q15 q16 q17 q18 q19 q20 q21 q22 q23 : Nat) (r7 r8 r9 r10 r11 r12 r15 r19 r20 : Nat → Nat) {i : Nat} (h1 : 84 < i) (h2 : i < 245) : mEn cy ad q1 q2 q3 q4 q5 q6 q7 q8 q9 q10 q11 q12 q13 q14 q15 q16 q17 q18 q19 q20 q21 q22 q23 r7 r8 r9 r10 r11 r12 r15 r19 r20 i = .inl (cy 0, 2, .inl (fun _ => 0)) := by
  unfold mEn
  simp (disch := omega) only [va_up_ne, jn_l, jn_r]
theorem mA_245 (ad : Nat → Nat) (q1 q2 q3 q4 q5 q6 q7 q8 q9 q10 q11 q12 q13 q14 q15 q16 q17 q18 q19 q20 q21 q22 q23 : Nat) (r7 r8 r9 r10 r11 r12 r15 r19 r20 : Nat → Nat) {j : Nat} (h : j < 160) : mAd ad q1 q2 q3 q4 q5 q6 q7 q8 q9 q10 q11 q12 q13 q14 q15 q16 q17 q18 q19 q20 q21 q22 q23 r7 r8 r9 r10 r11 r12 r15 r19 r20 (245 + 1 + j) = r10 j := by
  unfold mAd
  simp (disch := omega) only [va_up_ne, jn_l, jn_r]
  try (congr 1; omega)
theorem mE_245 {cy : Nat → ClassId} (ad : Nat → Nat) (q1 q2 q3 q4 q5 q6 q7 q8 q9 q10 q11 q12 q13 q14 q15 q16 q17 q18 q19 q20 q21 q22 q23 : Nat) (r7 r8 r9 r10 r11 r12 r15 r19 r20 : Nat → Nat) {i : Nat} (h1 : 245 < i) (h2 : i < 406) : mEn cy ad q1 q2 q3 q4 q5 q6 q7 q8 q9 q10 q11 q12 q13 q14 q15 q16 q17 q18 q19 q20 q21 q22 q23 r7 r8 r9 r10 r11 r12 r15 r19 r20 i = .inl (cy 0, 2, .inl (fun _ => 0)) := by
  unfold mEn
  simp (disch := omega) only [va_up_ne, jn_l, jn_r]
theorem mA_406 (ad : Nat → Nat) (q1 q2 q3 q4 q5 q6 q7 q8 q9 q10 q11 q12 q13 q14 q15 q16 q17 q18 q19 q20 q21 q22 q23 : Nat) (r7 r8 r9 r10 r11 r12 r15 r19 r20 : Nat → Nat) {j : Nat} (h : j < 6) : mAd ad q1 q2 q3 q4 q5 q6 q7 q8 q9 q10 q11 q12 q13 q14 q15 q16 q17 q18 q19 q20 q21 q22 q23 r7 r8 r9 r10 r11 r12 r15 r19 r20 (406 + 1 + j) = r11 j := by
  unfold mAd
  simp (disch := omega) only [va_up_ne, jn_l, jn_r]
  try (congr 1; omega)
theorem mE_406 {cy : Nat → ClassId} (ad : Nat → Nat) (q1 q2 q3 q4 q5 q6 q7 q8 q9 q10 q11 q12 q13 q14 q15 q16 q17 q18 q19 q20 q21 q22 q23 : Nat) (r7 r8 r9 r10 r11 r12 r15 r19 r20 : Nat → Nat) {i : Nat} (h1 : 406 < i) (h2 : i < 413) : mEn cy ad q1 q2 q3 q4 q5 q6 q7 q8 q9 q10 q11 q12 q13 q14 q15 q16 q17 q18 q19 q20 q21 q22 q23 r7 r8 r9 r10 r11 r12 r15 r19 r20 i = .inl (cy 0, 3, .inl (fun _ => 0)) := by
  unfold mEn
  simp (disch := omega) only [va_up_ne, jn_l, jn_r]
theorem mA_413 (ad : Nat → Nat) (q1 q2 q3 q4 q5 q6 q7 q8 q9 q10 q11 q12 q13 q14 q15 q16 q17 q18 q19 q20 q21 q22 q23 : Nat) (r7 r8 r9 r10 r11 r12 r15 r19 r20 : Nat → Nat) {j : Nat} (h : j < 6) : mAd ad q1 q2 q3 q4 q5 q6 q7 q8 q9 q10 q11 q12 q13 q14 q15 q16 q17 q18 q19 q20 q21 q22 q23 r7 r8 r9 r10 r11 r12 r15 r19 r20 (413 + 1 + j) = r12 j := by
  unfold mAd
  simp (disch := omega) only [va_up_ne, jn_l, jn_r]
  try (congr 1; omega)
theorem mE_413 {cy : Nat → ClassId} (ad : Nat → Nat) (q1 q2 q3 q4 q5 q6 q7 q8 q9 q10 q11 q12 q13 q14 q15 q16 q17 q18 q19 q20 q21 q22 q23 : Nat) (r7 r8 r9 r10 r11 r12 r15 r19 r20 : Nat → Nat) {i : Nat} (h1 : 413 < i) (h2 : i < 420) : mEn cy ad q1 q2 q3 q4 q5 q6 q7 q8 q9 q10 q11 q12 q13 q14 q15 q16 q17 q18 q19 q20 q21 q22 q23 r7 r8 r9 r10 r11 r12 r15 r19 r20 i = .inl (cy 0, 3, .inl (fun _ => 0)) := by
  unfold mEn
  simp (disch := omega) only [va_up_ne, jn_l, jn_r]
theorem mA_422 (ad : Nat → Nat) (q1 q2 q3 q4 q5 q6 q7 q8 q9 q10 q11 q12 q13 q14 q15 q16 q17 q18 q19 q20 q21 q22 q23 : Nat) (r7 r8 r9 r10 r11 r12 r15 r19 r20 : Nat → Nat) {j : Nat} (h : j < 80) : mAd ad q1 q2 q3 q4 q5 q6 q7 q8 q9 q10 q11 q12 q13 q14 q15 q16 q17 q18 q19 q20 q21 q22 q23 r7 r8 r9 r10 r11 r12 r15 r19 r20 (422 + 1 + j) = r15 j := by
  unfold mAd
  simp (disch := omega) only [va_up_ne, jn_l, jn_r]
  try (congr 1; omega)
theorem mE_422 {cy : Nat → ClassId} (ad : Nat → Nat) (q1 q2 q3 q4 q5 q6 q7 q8 q9 q10 q11 q12 q13 q14 q15 q16 q17 q18 q19 q20 q21 q22 q23 : Nat) (r7 r8 r9 r10 r11 r12 r15 r19 r20 : Nat → Nat) {i : Nat} (h1 : 422 < i) (h2 : i < 503) : mEn cy ad q1 q2 q3 q4 q5 q6 q7 q8 q9 q10 q11 q12 q13 q14 q15 q16 q17 q18 q19 q20 q21 q22 q23 r7 r8 r9 r10 r11 r12 r15 r19 r20 i = .inl (cy 0, 6, .inl (fun _ => 0)) := by
  unfold mEn
  simp (disch := omega) only [va_up_ne, jn_l, jn_r]
theorem mA_506 (ad : Nat → Nat) (q1 q2 q3 q4 q5 q6 q7 q8 q9 q10 q11 q12 q13 q14 q15 q16 q17 q18 q19 q20 q21 q22 q23 : Nat) (r7 r8 r9 r10 r11 r12 r15 r19 r20 : Nat → Nat) {j : Nat} (h : j < 16) : mAd ad q1 q2 q3 q4 q5 q6 q7 q8 q9 q10 q11 q12 q13 q14 q15 q16 q17 q18 q19 q20 q21 q22 q23 r7 r8 r9 r10 r11 r12 r15 r19 r20 (506 + 1 + j) = r19 j := by
  unfold mAd
  simp (disch := omega) only [va_up_ne, jn_l, jn_r]
  try (congr 1; omega)
theorem mE_506 {cy : Nat → ClassId} (ad : Nat → Nat) (q1 q2 q3 q4 q5 q6 q7 q8 q9 q10 q11 q12 q13 q14 q15 q16 q17 q18 q19 q20 q21 q22 q23 : Nat) (r7 r8 r9 r10 r11 r12 r15 r19 r20 : Nat → Nat) {i : Nat} (h1 : 506 < i) (h2 : i < 523) : mEn cy ad q1 q2 q3 q4 q5 q6 q7 q8 q9 q10 q11 q12 q13 q14 q15 q16 q17 q18 q19 q20 q21 q22 q23 r7 r8 r9 r10 r11 r12 r15 r19 r20 i = .inl (cy 0, 60, .inl (fun _ => 0)) := by
  unfold mEn
  simp (disch := omega) only [va_up_ne, jn_l, jn_r]
theorem mA_523 (ad : Nat → Nat) (q1 q2 q3 q4 q5 q6 q7 q8 q9 q10 q11 q12 q13 q14 q15 q16 q17 q18 q19 q20 q21 q22 q23 : Nat) (r7 r8 r9 r10 r11 r12 r15 r19 r20 : Nat → Nat) {j : Nat} (h : j < 3) : mAd ad q1 q2 q3 q4 q5 q6 q7 q8 q9 q10 q11 q12 q13 q14 q15 q16 q17 q18 q19 q20 q21 q22 q23 r7 r8 r9 r10 r11 r12 r15 r19 r20 (523 + 1 + j) = r20 j := by
  unfold mAd
  simp (disch := omega) only [va_up_ne, jn_l, jn_r]
  try (congr 1; omega)
theorem mE_523 {cy : Nat → ClassId} (ad : Nat → Nat) (q1 q2 q3 q4 q5 q6 q7 q8 q9 q10 q11 q12 q13 q14 q15 q16 q17 q18 q19 q20 q21 q22 q23 : Nat) (r7 r8 r9 r10 r11 r12 r15 r19 r20 : Nat → Nat) {i : Nat} (h1 : 523 < i) (h2 : i < 527) : mEn cy ad q1 q2 q3 q4 q5 q6 q7 q8 q9 q10 q11 q12 q13 q14 q15 q16 q17 q18 q19 q20 q21 q22 q23 r7 r8 r9 r10 r11 r12 r15 r19 r20 i = .inl (cy 0, 1021, .inl (fun _ => 0)) := by
  unfold mEn
  simp (disch := omega) only [va_up_ne, jn_l, jn_r]
theorem va_atE {D : va_G} {a : Nat} {x y : va_E} {H : Heap} (e : x = y) (h : va_at D vwCl (a, x) H) : va_at D vwCl (a, y) H := by rw [← e]; exact h
set_option maxHeartbeats 4000000 in
theorem m_conv {D : va_G} {cy : Nat → ClassId} {H : Heap} (ad : Nat → Nat) (q1 q2 q3 q4 q5 q6 q7 q8 q9 q10 q11 q12 q13 q14 q15 q16 q17 q18 q19 q20 q21 q22 q23 : Nat) (r7 r8 r9 r10 r11 r12 r15 r19 r20 : Nat → Nat) (h : va_P D vwCl (gbl (mAd ad q1 q2 q3 q4 q5 q6 q7 q8 q9 q10 q11 q12 q13 q14 q15 q16 q17 q18 q19 q20 q21 q22 q23 r7 r8 r9 r10 r11 r12 r15 r19 r20) 530 (mEn cy ad q1 q2 q3 q4 q5 q6 q7 q8 q9 q10 q11 q12 q13 q14 q15 q16 q17 q18 q19 q20 q21 q22 q23 r7 r8 r9 r10 r11 r12 r15 r19 r20)) H) : va_P D vwCl (gwl (mAd ad q1 q2 q3 q4 q5 q6 q7 q8 q9 q10 q11 q12 q13 q14 q15 q16 q17 q18 q19 q20 q21 q22 q23 r7 r8 r9 r10 r11 r12 r15 r19 r20) cy 530 gc0 gd0) H := by
  intro k x hx
  by_cases hk : k < 530
  rotate_left
  · rw [gwl_no hk] at hx
    cases hx
  rw [gwl_at hk] at hx
  obtain rfl := Option.some.inj hx
  have hh := h k _ (gbl_at hk)
  by_cases c0 : k < 56
  · rcases (show k = 0 ∨ k = 1 ∨ k = 2 ∨ k = 3 ∨ k = 4 ∨ k = 5 ∨ k = 6 ∨ k = 7 ∨ k = 8 ∨ k = 9 ∨ k = 10 ∨ k = 11 ∨ k = 12 ∨ k = 13 ∨ k = 14 ∨ k = 15 ∨ k = 16 ∨ k = 17 ∨ k = 18 ∨ k = 19 ∨ k = 20 ∨ k = 21 ∨ k = 22 ∨ k = 23 ∨ k = 24 ∨ k = 25 ∨ k = 26 ∨ k = 27 ∨ k = 28 ∨ k = 29 ∨ k = 30 ∨ k = 31 ∨ k = 32 ∨ k = 33 ∨ k = 34 ∨ k = 35 ∨ k = 36 ∨ k = 37 ∨ k = 38 ∨ k = 39 ∨ k = 40 ∨ k = 41 ∨ k = 42 ∨ k = 43 ∨ k = 44 ∨ k = 45 ∨ k = 46 ∨ k = 47 ∨ k = 48 ∨ k = 49 ∨ k = 50 ∨ k = 51 ∨ k = 52 ∨ k = 53 ∨ k = 54 ∨ k = 55 by omega) with rfl | rfl | rfl | rfl | rfl | rfl | rfl | rfl | rfl | rfl | rfl | rfl | rfl | rfl | rfl | rfl | rfl | rfl | rfl | rfl | rfl | rfl | rfl | rfl | rfl | rfl | rfl | rfl | rfl | rfl | rfl | rfl | rfl | rfl | rfl | rfl | rfl | rfl | rfl | rfl | rfl | rfl | rfl | rfl | rfl | rfl | rfl | rfl | rfl | rfl | rfl | rfl | rfl | rfl | rfl | rfl
    · exact va_atE rfl hh
    · exact va_atE rfl hh
    · exact va_atE rfl hh
    · exact va_atE rfl hh
    · exact va_atE rfl hh
    · exact va_atE rfl hh
    · exact va_atE rfl hh
    · exact va_atE rfl hh
    · exact va_atE rfl hh
    · exact va_atE rfl hh
    · exact va_atE rfl hh
    · exact va_atE rfl hh
    · exact va_atE rfl hh
    · exact va_atE rfl hh
    · exact va_atE rfl hh
    · exact va_atE rfl hh
    · exact va_atE rfl hh
    · exact va_atE rfl hh
    · exact va_atE rfl hh
    · exact va_atE rfl hh
    · exact va_atE rfl hh
    · exact va_atE rfl hh
    · exact va_atE rfl hh
    · exact va_atE rfl hh
    · exact va_atE rfl hh
    · exact va_atE rfl hh
    · exact va_atE rfl hh
    · exact va_atE rfl hh
    · exact va_atE rfl hh
    · exact va_atE rfl hh
    · exact va_atE rfl hh
    · exact va_atE rfl hh
    · exact va_atE rfl hh
    · exact va_atE rfl hh
    · exact va_atE rfl hh
    · exact va_atE rfl hh
    · exact va_atE rfl hh
    · exact va_atE rfl hh
    · exact va_atE rfl hh
    · exact va_atE rfl hh
    · exact va_atE rfl hh
    · exact va_atE rfl hh
    · exact va_atE rfl hh
    · exact va_atE rfl hh
    · exact va_atE rfl hh
    · exact va_atE rfl hh
    · exact va_atE rfl hh
    · exact va_atE rfl hh
    · exact va_atE rfl hh
    · exact va_atE rfl hh
    · exact va_atE rfl hh
    · exact va_atE rfl hh
    · exact va_atE rfl hh
    · exact va_atE rfl hh
    · exact va_atE rfl hh
    · exact va_atE rfl hh
  by_cases c56 : k = 56
  · subst c56
    exact va_atE rfl hh
  by_cases c57 : k = 57
  · subst c57
    exact va_atE rfl hh
  by_cases c58 : k = 58
  · subst c58
    exact va_atE rfl hh
  by_cases c59 : k = 59
  · subst c59
    exact va_atE rfl hh
  by_cases c60 : k = 60
  · subst c60
    exact va_atE rfl hh
  by_cases c61 : k = 61
  · subst c61
    exact va_atE rfl hh
  by_cases c62 : k = 62
  · subst c62
    show H[_]? = some (vp_cell (cy 4) (10, .inr (.inr (.inr (.inr (fun k => some (mAd ad q1 q2 q3 q4 q5 q6 q7 q8 q9 q10 q11 q12 q13 q14 q15 q16 q17 q18 q19 q20 q21 q22 q23 r7 r8 r9 r10 r11 r12 r15 r19 r20 (62 + 1 + k))))))))
    have e0 : H[mAd ad q1 q2 q3 q4 q5 q6 q7 q8 q9 q10 q11 q12 q13 q14 q15 q16 q17 q18 q19 q20 q21 q22 q23 r7 r8 r9 r10 r11 r12 r15 r19 r20 62]? = some (vp_cell (cy 4) (10, .inr (.inr (.inr (.inr (fun i => if i < 10 then some (r7 i) else none)))))) := hh
    rw [vp_cell_q] at e0 ⊢
    rw [e0]
    congr 1
    apply arrV_cg
    intro j hj
    rw [if_pos hj, mA_62 ad q1 q2 q3 q4 q5 q6 q7 q8 q9 q10 q11 q12 q13 q14 q15 q16 q17 q18 q19 q20 q21 q22 q23 r7 r8 r9 r10 r11 r12 r15 r19 r20 hj]
  by_cases d62 : k < 73
  · obtain ⟨g1, g2⟩ := mk_62 k (by omega) (by omega) d62
    refine va_atE ?_ hh
    rw [mE_62 ad q1 q2 q3 q4 q5 q6 q7 q8 q9 q10 q11 q12 q13 q14 q15 q16 q17 q18 q19 q20 q21 q22 q23 r7 r8 r9 r10 r11 r12 r15 r19 r20 (by omega) d62, gwe_22 g1, g2, gd0_z (by omega)]
  by_cases c73 : k = 73
  · subst c73
    show H[_]? = some (vp_cell (cy 4) (10, .inr (.inr (.inr (.inr (fun k => some (mAd ad q1 q2 q3 q4 q5 q6 q7 q8 q9 q10 q11 q12 q13 q14 q15 q16 q17 q18 q19 q20 q21 q22 q23 r7 r8 r9 r10 r11 r12 r15 r19 r20 (73 + 1 + k))))))))
    have e0 : H[mAd ad q1 q2 q3 q4 q5 q6 q7 q8 q9 q10 q11 q12 q13 q14 q15 q16 q17 q18 q19 q20 q21 q22 q23 r7 r8 r9 r10 r11 r12 r15 r19 r20 73]? = some (vp_cell (cy 4) (10, .inr (.inr (.inr (.inr (fun i => if i < 10 then some (r8 i) else none)))))) := hh
    rw [vp_cell_q] at e0 ⊢
    rw [e0]
    congr 1
    apply arrV_cg
    intro j hj
    rw [if_pos hj, mA_73 ad q1 q2 q3 q4 q5 q6 q7 q8 q9 q10 q11 q12 q13 q14 q15 q16 q17 q18 q19 q20 q21 q22 q23 r7 r8 r9 r10 r11 r12 r15 r19 r20 hj]
  by_cases d73 : k < 84
  · obtain ⟨g1, g2⟩ := mk_73 k (by omega) (by omega) d73
    refine va_atE ?_ hh
    rw [mE_73 ad q1 q2 q3 q4 q5 q6 q7 q8 q9 q10 q11 q12 q13 q14 q15 q16 q17 q18 q19 q20 q21 q22 q23 r7 r8 r9 r10 r11 r12 r15 r19 r20 (by omega) d73, gwe_22 g1, g2, gd0_z (by omega)]
  by_cases c84 : k = 84
  · subst c84
    show H[_]? = some (vp_cell (cy 4) (160, .inr (.inr (.inr (.inr (fun k => some (mAd ad q1 q2 q3 q4 q5 q6 q7 q8 q9 q10 q11 q12 q13 q14 q15 q16 q17 q18 q19 q20 q21 q22 q23 r7 r8 r9 r10 r11 r12 r15 r19 r20 (84 + 1 + k))))))))
    have e0 : H[mAd ad q1 q2 q3 q4 q5 q6 q7 q8 q9 q10 q11 q12 q13 q14 q15 q16 q17 q18 q19 q20 q21 q22 q23 r7 r8 r9 r10 r11 r12 r15 r19 r20 84]? = some (vp_cell (cy 4) (160, .inr (.inr (.inr (.inr (fun i => if i < 160 then some (r9 i) else none)))))) := hh
    rw [vp_cell_q] at e0 ⊢
    rw [e0]
    congr 1
    apply arrV_cg
    intro j hj
    rw [if_pos hj, mA_84 ad q1 q2 q3 q4 q5 q6 q7 q8 q9 q10 q11 q12 q13 q14 q15 q16 q17 q18 q19 q20 q21 q22 q23 r7 r8 r9 r10 r11 r12 r15 r19 r20 hj]
  by_cases d84 : k < 245
  · obtain ⟨g1, g2⟩ := mk_84 k (by omega) (by omega) d84
    refine va_atE ?_ hh
    rw [mE_84 ad q1 q2 q3 q4 q5 q6 q7 q8 q9 q10 q11 q12 q13 q14 q15 q16 q17 q18 q19 q20 q21 q22 q23 r7 r8 r9 r10 r11 r12 r15 r19 r20 (by omega) d84, gwe_22 g1, g2, gd0_z (by omega)]
  by_cases c245 : k = 245
  · subst c245
    show H[_]? = some (vp_cell (cy 4) (160, .inr (.inr (.inr (.inr (fun k => some (mAd ad q1 q2 q3 q4 q5 q6 q7 q8 q9 q10 q11 q12 q13 q14 q15 q16 q17 q18 q19 q20 q21 q22 q23 r7 r8 r9 r10 r11 r12 r15 r19 r20 (245 + 1 + k))))))))
    have e0 : H[mAd ad q1 q2 q3 q4 q5 q6 q7 q8 q9 q10 q11 q12 q13 q14 q15 q16 q17 q18 q19 q20 q21 q22 q23 r7 r8 r9 r10 r11 r12 r15 r19 r20 245]? = some (vp_cell (cy 4) (160, .inr (.inr (.inr (.inr (fun i => if i < 160 then some (r10 i) else none)))))) := hh
    rw [vp_cell_q] at e0 ⊢
    rw [e0]
    congr 1
    apply arrV_cg
    intro j hj
    rw [if_pos hj, mA_245 ad q1 q2 q3 q4 q5 q6 q7 q8 q9 q10 q11 q12 q13 q14 q15 q16 q17 q18 q19 q20 q21 q22 q23 r7 r8 r9 r10 r11 r12 r15 r19 r20 hj]
  by_cases d245 : k < 406
  · obtain ⟨g1, g2⟩ := mk_245 k (by omega) (by omega) d245
    refine va_atE ?_ hh
    rw [mE_245 ad q1 q2 q3 q4 q5 q6 q7 q8 q9 q10 q11 q12 q13 q14 q15 q16 q17 q18 q19 q20 q21 q22 q23 r7 r8 r9 r10 r11 r12 r15 r19 r20 (by omega) d245, gwe_22 g1, g2, gd0_z (by omega)]
  by_cases c406 : k = 406
  · subst c406
    show H[_]? = some (vp_cell (cy 4) (6, .inr (.inr (.inr (.inr (fun k => some (mAd ad q1 q2 q3 q4 q5 q6 q7 q8 q9 q10 q11 q12 q13 q14 q15 q16 q17 q18 q19 q20 q21 q22 q23 r7 r8 r9 r10 r11 r12 r15 r19 r20 (406 + 1 + k))))))))
    have e0 : H[mAd ad q1 q2 q3 q4 q5 q6 q7 q8 q9 q10 q11 q12 q13 q14 q15 q16 q17 q18 q19 q20 q21 q22 q23 r7 r8 r9 r10 r11 r12 r15 r19 r20 406]? = some (vp_cell (cy 4) (6, .inr (.inr (.inr (.inr (fun i => if i < 6 then some (r11 i) else none)))))) := hh
    rw [vp_cell_q] at e0 ⊢
    rw [e0]
    congr 1
    apply arrV_cg
    intro j hj
    rw [if_pos hj, mA_406 ad q1 q2 q3 q4 q5 q6 q7 q8 q9 q10 q11 q12 q13 q14 q15 q16 q17 q18 q19 q20 q21 q22 q23 r7 r8 r9 r10 r11 r12 r15 r19 r20 hj]
  by_cases d406 : k < 413
  · obtain ⟨g1, g2⟩ := mk_406 k (by omega) (by omega) d406
    refine va_atE ?_ hh
    rw [mE_406 ad q1 q2 q3 q4 q5 q6 q7 q8 q9 q10 q11 q12 q13 q14 q15 q16 q17 q18 q19 q20 q21 q22 q23 r7 r8 r9 r10 r11 r12 r15 r19 r20 (by omega) d406, gwe_22 g1, g2, gd0_z (by omega)]
  by_cases c413 : k = 413
  · subst c413
    show H[_]? = some (vp_cell (cy 4) (6, .inr (.inr (.inr (.inr (fun k => some (mAd ad q1 q2 q3 q4 q5 q6 q7 q8 q9 q10 q11 q12 q13 q14 q15 q16 q17 q18 q19 q20 q21 q22 q23 r7 r8 r9 r10 r11 r12 r15 r19 r20 (413 + 1 + k))))))))
    have e0 : H[mAd ad q1 q2 q3 q4 q5 q6 q7 q8 q9 q10 q11 q12 q13 q14 q15 q16 q17 q18 q19 q20 q21 q22 q23 r7 r8 r9 r10 r11 r12 r15 r19 r20 413]? = some (vp_cell (cy 4) (6, .inr (.inr (.inr (.inr (fun i => if i < 6 then some (r12 i) else none)))))) := hh
    rw [vp_cell_q] at e0 ⊢
    rw [e0]
    congr 1
    apply arrV_cg
    intro j hj
    rw [if_pos hj, mA_413 ad q1 q2 q3 q4 q5 q6 q7 q8 q9 q10 q11 q12 q13 q14 q15 q16 q17 q18 q19 q20 q21 q22 q23 r7 r8 r9 r10 r11 r12 r15 r19 r20 hj]
  by_cases d413 : k < 420
  · obtain ⟨g1, g2⟩ := mk_413 k (by omega) (by omega) d413
    refine va_atE ?_ hh
    rw [mE_413 ad q1 q2 q3 q4 q5 q6 q7 q8 q9 q10 q11 q12 q13 q14 q15 q16 q17 q18 q19 q20 q21 q22 q23 r7 r8 r9 r10 r11 r12 r15 r19 r20 (by omega) d413, gwe_22 g1, g2, gd0_z (by omega)]
  by_cases c420 : k = 420
  · subst c420
    exact va_atE rfl hh
  by_cases c421 : k = 421
  · subst c421
    exact va_atE rfl hh
  by_cases c422 : k = 422
  · subst c422
    show H[_]? = some (vp_cell (cy 4) (80, .inr (.inr (.inr (.inr (fun k => some (mAd ad q1 q2 q3 q4 q5 q6 q7 q8 q9 q10 q11 q12 q13 q14 q15 q16 q17 q18 q19 q20 q21 q22 q23 r7 r8 r9 r10 r11 r12 r15 r19 r20 (422 + 1 + k))))))))
    have e0 : H[mAd ad q1 q2 q3 q4 q5 q6 q7 q8 q9 q10 q11 q12 q13 q14 q15 q16 q17 q18 q19 q20 q21 q22 q23 r7 r8 r9 r10 r11 r12 r15 r19 r20 422]? = some (vp_cell (cy 4) (80, .inr (.inr (.inr (.inr (fun i => if i < 80 then some (r15 i) else none)))))) := hh
    rw [vp_cell_q] at e0 ⊢
    rw [e0]
    congr 1
    apply arrV_cg
    intro j hj
    rw [if_pos hj, mA_422 ad q1 q2 q3 q4 q5 q6 q7 q8 q9 q10 q11 q12 q13 q14 q15 q16 q17 q18 q19 q20 q21 q22 q23 r7 r8 r9 r10 r11 r12 r15 r19 r20 hj]
  by_cases d422 : k < 503
  · obtain ⟨g1, g2⟩ := mk_422 k (by omega) (by omega) d422
    refine va_atE ?_ hh
    rw [mE_422 ad q1 q2 q3 q4 q5 q6 q7 q8 q9 q10 q11 q12 q13 q14 q15 q16 q17 q18 q19 q20 q21 q22 q23 r7 r8 r9 r10 r11 r12 r15 r19 r20 (by omega) d422, gwe_22 g1, g2, gd0_z (by omega)]
  by_cases c503 : k = 503
  · subst c503
    exact va_atE rfl hh
  by_cases c504 : k = 504
  · subst c504
    exact va_atE rfl hh
  by_cases c505 : k = 505
  · subst c505
    exact va_atE rfl hh
  by_cases c506 : k = 506
  · subst c506
    show H[_]? = some (vp_cell (cy 4) (16, .inr (.inr (.inr (.inr (fun k => some (mAd ad q1 q2 q3 q4 q5 q6 q7 q8 q9 q10 q11 q12 q13 q14 q15 q16 q17 q18 q19 q20 q21 q22 q23 r7 r8 r9 r10 r11 r12 r15 r19 r20 (506 + 1 + k))))))))
    have e0 : H[mAd ad q1 q2 q3 q4 q5 q6 q7 q8 q9 q10 q11 q12 q13 q14 q15 q16 q17 q18 q19 q20 q21 q22 q23 r7 r8 r9 r10 r11 r12 r15 r19 r20 506]? = some (vp_cell (cy 4) (16, .inr (.inr (.inr (.inr (fun i => if i < 16 then some (r19 i) else none)))))) := hh
    rw [vp_cell_q] at e0 ⊢
    rw [e0]
    congr 1
    apply arrV_cg
    intro j hj
    rw [if_pos hj, mA_506 ad q1 q2 q3 q4 q5 q6 q7 q8 q9 q10 q11 q12 q13 q14 q15 q16 q17 q18 q19 q20 q21 q22 q23 r7 r8 r9 r10 r11 r12 r15 r19 r20 hj]
  by_cases d506 : k < 523
  · obtain ⟨g1, g2⟩ := mk_506 k (by omega) (by omega) d506
    refine va_atE ?_ hh
    rw [mE_506 ad q1 q2 q3 q4 q5 q6 q7 q8 q9 q10 q11 q12 q13 q14 q15 q16 q17 q18 q19 q20 q21 q22 q23 r7 r8 r9 r10 r11 r12 r15 r19 r20 (by omega) d506, gwe_22 g1, g2, gd0_z (by omega)]
  by_cases c523 : k = 523
  · subst c523
    show H[_]? = some (vp_cell (cy 4) (3, .inr (.inr (.inr (.inr (fun k => some (mAd ad q1 q2 q3 q4 q5 q6 q7 q8 q9 q10 q11 q12 q13 q14 q15 q16 q17 q18 q19 q20 q21 q22 q23 r7 r8 r9 r10 r11 r12 r15 r19 r20 (523 + 1 + k))))))))
    have e0 : H[mAd ad q1 q2 q3 q4 q5 q6 q7 q8 q9 q10 q11 q12 q13 q14 q15 q16 q17 q18 q19 q20 q21 q22 q23 r7 r8 r9 r10 r11 r12 r15 r19 r20 523]? = some (vp_cell (cy 4) (3, .inr (.inr (.inr (.inr (fun i => if i < 3 then some (r20 i) else none)))))) := hh
    rw [vp_cell_q] at e0 ⊢
    rw [e0]
    congr 1
    apply arrV_cg
    intro j hj
    rw [if_pos hj, mA_523 ad q1 q2 q3 q4 q5 q6 q7 q8 q9 q10 q11 q12 q13 q14 q15 q16 q17 q18 q19 q20 q21 q22 q23 r7 r8 r9 r10 r11 r12 r15 r19 r20 hj]
  by_cases d523 : k < 527
  · obtain ⟨g1, g2⟩ := mk_523 k (by omega) (by omega) d523
    refine va_atE ?_ hh
    rw [mE_523 ad q1 q2 q3 q4 q5 q6 q7 q8 q9 q10 q11 q12 q13 q14 q15 q16 q17 q18 q19 q20 q21 q22 q23 r7 r8 r9 r10 r11 r12 r15 r19 r20 (by omega) d523, gwe_22 g1, g2, gd0_z (by omega)]
  by_cases c527 : k = 527
  · subst c527
    exact va_atE rfl hh
  by_cases c528 : k = 528
  · subst c528
    exact va_atE rfl hh
  by_cases c529 : k = 529
  · subst c529
    exact va_atE rfl hh
  omega
theorem gbl_I {A : Nat → Prop} {ad : Nat → Nat} {N : Nat} {E : Nat → va_E} (h : va_D A (gbl ad N E)) : gI ad N ∧ ∀ i, i < N → A (ad i) := ⟨fun i j hi hj e => h.1 i j _ _ (gbl_at hi) (gbl_at hj) e, fun i hi => h.2 i _ (gbl_at hi)⟩
abbrev rmX10_init : Room := { frames := 2, cells := 474, slots := 8139, locals := 60 }
set_option maxHeartbeats 4000000 in
set_option maxRecDepth 100000 in
theorem ci_X10 (l : Launch) (sa : gSa) (D : va_G) (cy : Nat → ClassId) (ad : Nat → Nat) (sz : Nat) {n : Nat} {e1 d1 : gm} (h1 : m_X10_tellsNothing 55 gd0 = some e1) (h2 : m_X10_beginsAnew n 55 e1 = some d1) : Met l yX10_init wsX10_init rmX10_init (va_Pc [.ref (ad 55)] (gPw D cy ad 56 (e56 ad cy) sz (gZ sa (gAw ad 56 sz)))) (va_Qv (fun (r : Nat → Nat) => ∀ i, i < 56 → r i = ad i) (fun r U => va_P D vwCl (gwl r cy 530 gc0 d1) U.heap ∧ gI r 530 ∧ ∀ i, i < 530 → gAw ad 56 sz (r i)) (gAw ad 56 sz)) 474 8139 (gAw ad 56 sz) := by
  refine Met.ofW (cc := cX10_init) (maxL := 1) (ret := none) (by decide) rfl ?_
  intro p e s m args below meth cod s₁ B hml hv
  obtain ⟨rfl, hsz, hP0, hK0, hD0, hZ0⟩ := hv
  have hx := B.exec
  have hb := B.bytes
  have hr := B.returns
  have hts := atoms_spec (ws := wsX10_init) B.pre
  have hown : s.vm.findClass RX10 = some m.cls := findClass_of_methodNamed B.named
  have hlocks := B.notSynchronized
  have hin2 : meth.name = "<init>" := (name_of_methodNamed B.named B.method).1
  subst hsz
  have hl := lv_entry ([.ref (ad 55)]) (n := 1) (Nat.le_of_ble_eq_true rfl)
  rw [lg_entry_eq]
  generalize (lg_sl ([.ref (ad 55)]) ++ List.replicate (1 - (lg_sl ([.ref (ad 55)])).length) Slot.unset).toArray = ls at hl ⊢
  have hl : lv_has ls 1 [(0, .ref (ad 55))] := hl
  have hin : ∀ w ∈ wsX100, w ∈ wsX10_init := by decide +kernel
  generalize hargs : ([.ref (ad 55)] : List Value).toArray = args at *
  have G : gQg D (gAw ad 56 s.heap.size) s.heap ad 56 (e56 ad cy) s.heap [] := ⟨hP0, gbl_dd hD0 (fun i hi => Or.inl ⟨i, hi, rfl⟩), va_S.rf⟩
  generalize hAe : gAw ad 56 s.heap.size = A at G hZ0 ⊢
  have hA9 : ∀ q, s.heap.size ≤ q → A q := by rw [← hAe]; exact fun q h => Or.inr h
  have F : gQc D cy A p s m args cod cX10_init 1 wsX10_init RX10 := ⟨hx, hb, hml, hown, hts, hK0, hA9⟩
  refine lv_aload_n hx hb dX10_init_0 rfl (lv_at hl 0 rfl) ?_
  refine W.objInit hx hb hown (hts (.methodLink RX10 1 objectInit) (by decide +kernel)) (hts (.instanceMethod objectInit) (by decide +kernel)) (hts _ (List.mem_of_getElem? (l := wsX10_init) (i := 3) rfl)) rfl (by rw [hml]; exact hl.1) rfl dX10_init_1 (Nat.le_of_ble_eq_true rfl) (Nat.le_of_ble_eq_true rfl) ?_
  refine W.eq (g2 := F0 m 4 ls []) rfl ?_
  refine lv_aload_n hx hb dX10_init_4 rfl (lv_at hl 0 rfl) ?_
  refine lv_iconst (v := (-1)) hx hb dX10_init_5 (by decide) ?_
  refine gq_put F G (ci := 10) (n := 46) (fs := [.int 0, .int 0, .int 0, .int 0, .int 0, .int 0, .int 0, .int 0, .int 0, .null, .null, .null, .null, .null, .null, .null, .null, .int 0, .int 0, .null, .null, .null, .null, .null, .null, .null, .int 0, .null, .null, .null, .null, .null, .int 0, .int 0, .int 0, .int 0, .int 0, .int 0, .int 0, .long 0, .long 0, .null, .int 0, .null, .null, .int 0]) 55 (by decide) rfl rfl hin tyX10 tyX10_ok nmX10 3 (by decide) (by decide +kernel) rfl (ty := .int) (by decide +kernel) rfl rfl (Nat.le_of_ble_eq_true rfl) rfl dX10_init_6 (fun H locs G => ?_)
  refine lv_aload_n hx hb dX10_init_9 rfl (lv_at hl 0 rfl) ?_
  refine lv_sipush (v := 600) hx hb dX10_init_10 (by decide) ?_
  refine gq_newa F G 0 rfl rfl (by decide +kernel) (N' := 600) (a0 := (600, .inl (fun _ => 0))) (fun _ => rfl) (by decide) rfl (by decide) (by show 0 + 1 ≤ _; decide) (by show 0 + 600 ≤ _; decide) dX10_init_13 (fun q1 H G => ?_)
  refine W.widen (k := 1) (n := 600) (by omega) (by omega) ?_
  refine gq_putF F G (ci := 10) (n := 46) (fs := [.int 0, .int 0, .int 0, .int (-1), .int 0, .int 0, .int 0, .int 0, .int 0, .null, .null, .null, .null, .null, .null, .null, .null, .int 0, .int 0, .null, .null, .null, .null, .null, .null, .null, .int 0, .null, .null, .null, .null, .null, .int 0, .int 0, .int 0, .int 0, .int 0, .int 0, .int 0, .long 0, .long 0, .null, .int 0, .null, .null, .int 0]) 55 (by decide) rfl rfl hin tyX10 tyX10_ok nmX10 9 (by decide) (by decide +kernel) rfl hin2 rfl (ty := .array .int) (by decide +kernel) rfl rfl (Nat.le_of_ble_eq_true rfl) rfl dX10_init_15 (fun H locs G => ?_)
  refine lv_aload_n hx hb dX10_init_18 rfl (lv_at hl 0 rfl) ?_
  refine lv_iconst (v := 2) hx hb dX10_init_19 (by decide) ?_
  refine gq_newa F G 0 rfl rfl (by decide +kernel) (N' := 2) (a0 := (2, .inl (fun _ => 0))) (fun _ => rfl) (by decide) rfl (by decide) (by show 1 + 1 ≤ _; decide) (by show 600 + 2 ≤ _; decide) dX10_init_20 (fun q2 H G => ?_)
  refine W.widen (k := 2) (n := 602) (by omega) (by omega) ?_
  refine gq_putF F G (ci := 10) (n := 46) (fs := [.int 0, .int 0, .int 0, .int (-1), .int 0, .int 0, .int 0, .int 0, .int 0, .ref q1, .null, .null, .null, .null, .null, .null, .null, .int 0, .int 0, .null, .null, .null, .null, .null, .null, .null, .int 0, .null, .null, .null, .null, .null, .int 0, .int 0, .int 0, .int 0, .int 0, .int 0, .int 0, .long 0, .long 0, .null, .int 0, .null, .null, .int 0]) 55 (by decide) rfl rfl hin tyX10 tyX10_ok nmX10 10 (by decide) (by decide +kernel) rfl hin2 rfl (ty := .array .int) (by decide +kernel) rfl rfl (Nat.le_of_ble_eq_true rfl) rfl dX10_init_22 (fun H locs G => ?_)
  refine lv_aload_n hx hb dX10_init_25 rfl (lv_at hl 0 rfl) ?_
  refine lv_iconst (v := 4) hx hb dX10_init_26 (by decide) ?_
  refine gq_newa F G 0 rfl rfl (by decide +kernel) (N' := 4) (a0 := (4, .inl (fun _ => 0))) (fun _ => rfl) (by decide) rfl (by decide) (by show 2 + 1 ≤ _; decide) (by show 602 + 4 ≤ _; decide) dX10_init_27 (fun q3 H G => ?_)
  refine W.widen (k := 3) (n := 606) (by omega) (by omega) ?_
  refine gq_putF F G (ci := 10) (n := 46) (fs := [.int 0, .int 0, .int 0, .int (-1), .int 0, .int 0, .int 0, .int 0, .int 0, .ref q1, .ref q2, .null, .null, .null, .null, .null, .null, .int 0, .int 0, .null, .null, .null, .null, .null, .null, .null, .int 0, .null, .null, .null, .null, .null, .int 0, .int 0, .int 0, .int 0, .int 0, .int 0, .int 0, .long 0, .long 0, .null, .int 0, .null, .null, .int 0]) 55 (by decide) rfl rfl hin tyX10 tyX10_ok nmX10 11 (by decide) (by decide +kernel) rfl hin2 rfl (ty := .array .int) (by decide +kernel) rfl rfl (Nat.le_of_ble_eq_true rfl) rfl dX10_init_29 (fun H locs G => ?_)
  refine lv_aload_n hx hb dX10_init_32 rfl (lv_at hl 0 rfl) ?_
  refine lv_iconst (v := 4) hx hb dX10_init_33 (by decide) ?_
  refine gq_newa F G 0 rfl rfl (by decide +kernel) (N' := 4) (a0 := (4, .inl (fun _ => 0))) (fun _ => rfl) (by decide) rfl (by decide) (by show 3 + 1 ≤ _; decide) (by show 606 + 4 ≤ _; decide) dX10_init_34 (fun q4 H G => ?_)
  refine W.widen (k := 4) (n := 610) (by omega) (by omega) ?_
  refine gq_putF F G (ci := 10) (n := 46) (fs := [.int 0, .int 0, .int 0, .int (-1), .int 0, .int 0, .int 0, .int 0, .int 0, .ref q1, .ref q2, .ref q3, .null, .null, .null, .null, .null, .int 0, .int 0, .null, .null, .null, .null, .null, .null, .null, .int 0, .null, .null, .null, .null, .null, .int 0, .int 0, .int 0, .int 0, .int 0, .int 0, .int 0, .long 0, .long 0, .null, .int 0, .null, .null, .int 0]) 55 (by decide) rfl rfl hin tyX10 tyX10_ok nmX10 12 (by decide) (by decide +kernel) rfl hin2 rfl (ty := .array .int) (by decide +kernel) rfl rfl (Nat.le_of_ble_eq_true rfl) rfl dX10_init_36 (fun H locs G => ?_)
  refine lv_aload_n hx hb dX10_init_39 rfl (lv_at hl 0 rfl) ?_
  refine lv_bipush (v := 8) hx hb dX10_init_40 (by decide) ?_
  refine gq_newa F G 0 rfl rfl (by decide +kernel) (N' := 8) (a0 := (8, .inl (fun _ => 0))) (fun _ => rfl) (by decide) rfl (by decide) (by show 4 + 1 ≤ _; decide) (by show 610 + 8 ≤ _; decide) dX10_init_42 (fun q5 H G => ?_)
  refine W.widen (k := 5) (n := 618) (by omega) (by omega) ?_
  refine gq_putF F G (ci := 10) (n := 46) (fs := [.int 0, .int 0, .int 0, .int (-1), .int 0, .int 0, .int 0, .int 0, .int 0, .ref q1, .ref q2, .ref q3, .ref q4, .null, .null, .null, .null, .int 0, .int 0, .null, .null, .null, .null, .null, .null, .null, .int 0, .null, .null, .null, .null, .null, .int 0, .int 0, .int 0, .int 0, .int 0, .int 0, .int 0, .long 0, .long 0, .null, .int 0, .null, .null, .int 0]) 55 (by decide) rfl rfl hin tyX10 tyX10_ok nmX10 13 (by decide) (by decide +kernel) rfl hin2 rfl (ty := .array .int) (by decide +kernel) rfl rfl (Nat.le_of_ble_eq_true rfl) rfl dX10_init_44 (fun H locs G => ?_)
  refine lv_aload_n hx hb dX10_init_47 rfl (lv_at hl 0 rfl) ?_
  refine lv_bipush (v := 8) hx hb dX10_init_48 (by decide) ?_
  refine gq_newa F G 0 rfl rfl (by decide +kernel) (N' := 8) (a0 := (8, .inl (fun _ => 0))) (fun _ => rfl) (by decide) rfl (by decide) (by show 5 + 1 ≤ _; decide) (by show 618 + 8 ≤ _; decide) dX10_init_50 (fun q6 H G => ?_)
  refine W.widen (k := 6) (n := 626) (by omega) (by omega) ?_
  refine gq_putF F G (ci := 10) (n := 46) (fs := [.int 0, .int 0, .int 0, .int (-1), .int 0, .int 0, .int 0, .int 0, .int 0, .ref q1, .ref q2, .ref q3, .ref q4, .ref q5, .null, .null, .null, .int 0, .int 0, .null, .null, .null, .null, .null, .null, .null, .int 0, .null, .null, .null, .null, .null, .int 0, .int 0, .int 0, .int 0, .int 0, .int 0, .int 0, .long 0, .long 0, .null, .int 0, .null, .null, .int 0]) 55 (by decide) rfl rfl hin tyX10 tyX10_ok nmX10 14 (by decide) (by decide +kernel) rfl hin2 rfl (ty := .array .int) (by decide +kernel) rfl rfl (Nat.le_of_ble_eq_true rfl) rfl dX10_init_52 (fun H locs G => ?_)
  refine lv_aload_n hx hb dX10_init_55 rfl (lv_at hl 0 rfl) ?_
  refine lv_bipush (v := 10) hx hb dX10_init_56 (by decide) ?_
  refine lv_iconst (v := 4) hx hb dX10_init_58 (by decide) ?_
  refine gq_mna F G (by decide +kernel) (by decide +kernel) (by decide +kernel) (N' := 10) (K' := 4) (by decide) (by decide) rfl rfl (by decide) (by decide) (by decide) (by show 6 + _ ≤ _; decide) (by show 626 + _ ≤ _; decide) dX10_init_59 (fun q7 r7 H G => ?_)
  refine W.widen (k := 17) (n := 676) (by omega) (by omega) ?_
  refine gq_putF F G (ci := 10) (n := 46) (fs := [.int 0, .int 0, .int 0, .int (-1), .int 0, .int 0, .int 0, .int 0, .int 0, .ref q1, .ref q2, .ref q3, .ref q4, .ref q5, .ref q6, .null, .null, .int 0, .int 0, .null, .null, .null, .null, .null, .null, .null, .int 0, .null, .null, .null, .null, .null, .int 0, .int 0, .int 0, .int 0, .int 0, .int 0, .int 0, .long 0, .long 0, .null, .int 0, .null, .null, .int 0]) 55 (by decide) rfl rfl hin tyX10 tyX10_ok nmX10 15 (by decide) (by decide +kernel) rfl hin2 rfl (ty := .array (.array .int)) (by decide +kernel) rfl rfl (Nat.le_of_ble_eq_true rfl) rfl dX10_init_63 (fun H locs G => ?_)
  refine lv_aload_n hx hb dX10_init_66 rfl (lv_at hl 0 rfl) ?_
  refine lv_bipush (v := 10) hx hb dX10_init_67 (by decide) ?_
  refine lv_iconst (v := 4) hx hb dX10_init_69 (by decide) ?_
  refine gq_mna F G (by decide +kernel) (by decide +kernel) (by decide +kernel) (N' := 10) (K' := 4) (by decide) (by decide) rfl rfl (by decide) (by decide) (by decide) (by show 17 + _ ≤ _; decide) (by show 676 + _ ≤ _; decide) dX10_init_70 (fun q8 r8 H G => ?_)
  refine W.widen (k := 28) (n := 726) (by omega) (by omega) ?_
  refine gq_putF F G (ci := 10) (n := 46) (fs := [.int 0, .int 0, .int 0, .int (-1), .int 0, .int 0, .int 0, .int 0, .int 0, .ref q1, .ref q2, .ref q3, .ref q4, .ref q5, .ref q6, .ref q7, .null, .int 0, .int 0, .null, .null, .null, .null, .null, .null, .null, .int 0, .null, .null, .null, .null, .null, .int 0, .int 0, .int 0, .int 0, .int 0, .int 0, .int 0, .long 0, .long 0, .null, .int 0, .null, .null, .int 0]) 55 (by decide) rfl rfl hin tyX10 tyX10_ok nmX10 16 (by decide) (by decide +kernel) rfl hin2 rfl (ty := .array (.array .int)) (by decide +kernel) rfl rfl (Nat.le_of_ble_eq_true rfl) rfl dX10_init_74 (fun H locs G => ?_)
  refine lv_aload_n hx hb dX10_init_77 rfl (lv_at hl 0 rfl) ?_
  refine lv_sipush (v := 160) hx hb dX10_init_78 (by decide) ?_
  refine lv_iconst (v := 2) hx hb dX10_init_81 (by decide) ?_
  refine gq_mna F G (by decide +kernel) (by decide +kernel) (by decide +kernel) (N' := 160) (K' := 2) (by decide) (by decide) rfl rfl (by decide) (by decide) (by decide) (by show 28 + _ ≤ _; decide) (by show 726 + _ ≤ _; decide) dX10_init_82 (fun q9 r9 H G => ?_)
  refine W.widen (k := 189) (n := 1206) (by omega) (by omega) ?_
  refine gq_putF F G (ci := 10) (n := 46) (fs := [.int 0, .int 0, .int 0, .int (-1), .int 0, .int 0, .int 0, .int 0, .int 0, .ref q1, .ref q2, .ref q3, .ref q4, .ref q5, .ref q6, .ref q7, .ref q8, .int 0, .int 0, .null, .null, .null, .null, .null, .null, .null, .int 0, .null, .null, .null, .null, .null, .int 0, .int 0, .int 0, .int 0, .int 0, .int 0, .int 0, .long 0, .long 0, .null, .int 0, .null, .null, .int 0]) 55 (by decide) rfl rfl hin tyX10 tyX10_ok nmX10 19 (by decide) (by decide +kernel) rfl hin2 rfl (ty := .array (.array .int)) (by decide +kernel) rfl rfl (Nat.le_of_ble_eq_true rfl) rfl dX10_init_86 (fun H locs G => ?_)
  refine lv_aload_n hx hb dX10_init_89 rfl (lv_at hl 0 rfl) ?_
  refine lv_sipush (v := 160) hx hb dX10_init_90 (by decide) ?_
  refine lv_iconst (v := 2) hx hb dX10_init_93 (by decide) ?_
  refine gq_mna F G (by decide +kernel) (by decide +kernel) (by decide +kernel) (N' := 160) (K' := 2) (by decide) (by decide) rfl rfl (by decide) (by decide) (by decide) (by show 189 + _ ≤ _; decide) (by show 1206 + _ ≤ _; decide) dX10_init_94 (fun q10 r10 H G => ?_)
  refine W.widen (k := 350) (n := 1686) (by omega) (by omega) ?_
  refine gq_putF F G (ci := 10) (n := 46) (fs := [.int 0, .int 0, .int 0, .int (-1), .int 0, .int 0, .int 0, .int 0, .int 0, .ref q1, .ref q2, .ref q3, .ref q4, .ref q5, .ref q6, .ref q7, .ref q8, .int 0, .int 0, .ref q9, .null, .null, .null, .null, .null, .null, .int 0, .null, .null, .null, .null, .null, .int 0, .int 0, .int 0, .int 0, .int 0, .int 0, .int 0, .long 0, .long 0, .null, .int 0, .null, .null, .int 0]) 55 (by decide) rfl rfl hin tyX10 tyX10_ok nmX10 20 (by decide) (by decide +kernel) rfl hin2 rfl (ty := .array (.array .int)) (by decide +kernel) rfl rfl (Nat.le_of_ble_eq_true rfl) rfl dX10_init_98 (fun H locs G => ?_)
  refine lv_aload_n hx hb dX10_init_101 rfl (lv_at hl 0 rfl) ?_
  refine lv_bipush (v := 6) hx hb dX10_init_102 (by decide) ?_
  refine lv_iconst (v := 3) hx hb dX10_init_104 (by decide) ?_
  refine gq_mna F G (by decide +kernel) (by decide +kernel) (by decide +kernel) (N' := 6) (K' := 3) (by decide) (by decide) rfl rfl (by decide) (by decide) (by decide) (by show 350 + _ ≤ _; decide) (by show 1686 + _ ≤ _; decide) dX10_init_105 (fun q11 r11 H G => ?_)
  refine W.widen (k := 357) (n := 1710) (by omega) (by omega) ?_
  refine gq_putF F G (ci := 10) (n := 46) (fs := [.int 0, .int 0, .int 0, .int (-1), .int 0, .int 0, .int 0, .int 0, .int 0, .ref q1, .ref q2, .ref q3, .ref q4, .ref q5, .ref q6, .ref q7, .ref q8, .int 0, .int 0, .ref q9, .ref q10, .null, .null, .null, .null, .null, .int 0, .null, .null, .null, .null, .null, .int 0, .int 0, .int 0, .int 0, .int 0, .int 0, .int 0, .long 0, .long 0, .null, .int 0, .null, .null, .int 0]) 55 (by decide) rfl rfl hin tyX10 tyX10_ok nmX10 21 (by decide) (by decide +kernel) rfl hin2 rfl (ty := .array (.array .int)) (by decide +kernel) rfl rfl (Nat.le_of_ble_eq_true rfl) rfl dX10_init_109 (fun H locs G => ?_)
  refine lv_aload_n hx hb dX10_init_112 rfl (lv_at hl 0 rfl) ?_
  refine lv_bipush (v := 6) hx hb dX10_init_113 (by decide) ?_
  refine lv_iconst (v := 3) hx hb dX10_init_115 (by decide) ?_
  refine gq_mna F G (by decide +kernel) (by decide +kernel) (by decide +kernel) (N' := 6) (K' := 3) (by decide) (by decide) rfl rfl (by decide) (by decide) (by decide) (by show 357 + _ ≤ _; decide) (by show 1710 + _ ≤ _; decide) dX10_init_116 (fun q12 r12 H G => ?_)
  refine W.widen (k := 364) (n := 1734) (by omega) (by omega) ?_
  refine gq_putF F G (ci := 10) (n := 46) (fs := [.int 0, .int 0, .int 0, .int (-1), .int 0, .int 0, .int 0, .int 0, .int 0, .ref q1, .ref q2, .ref q3, .ref q4, .ref q5, .ref q6, .ref q7, .ref q8, .int 0, .int 0, .ref q9, .ref q10, .ref q11, .null, .null, .null, .null, .int 0, .null, .null, .null, .null, .null, .int 0, .int 0, .int 0, .int 0, .int 0, .int 0, .int 0, .long 0, .long 0, .null, .int 0, .null, .null, .int 0]) 55 (by decide) rfl rfl hin tyX10 tyX10_ok nmX10 22 (by decide) (by decide +kernel) rfl hin2 rfl (ty := .array (.array .int)) (by decide +kernel) rfl rfl (Nat.le_of_ble_eq_true rfl) rfl dX10_init_120 (fun H locs G => ?_)
  refine lv_aload_n hx hb dX10_init_123 rfl (lv_at hl 0 rfl) ?_
  refine lv_sipush (v := 160) hx hb dX10_init_124 (by decide) ?_
  refine gq_newa F G 0 rfl rfl (by decide +kernel) (N' := 160) (a0 := (160, .inl (fun _ => 0))) (fun _ => rfl) (by decide) rfl (by decide) (by show 364 + 1 ≤ _; decide) (by show 1734 + 160 ≤ _; decide) dX10_init_127 (fun q13 H G => ?_)
  refine W.widen (k := 365) (n := 1894) (by omega) (by omega) ?_
  refine gq_putF F G (ci := 10) (n := 46) (fs := [.int 0, .int 0, .int 0, .int (-1), .int 0, .int 0, .int 0, .int 0, .int 0, .ref q1, .ref q2, .ref q3, .ref q4, .ref q5, .ref q6, .ref q7, .ref q8, .int 0, .int 0, .ref q9, .ref q10, .ref q11, .ref q12, .null, .null, .null, .int 0, .null, .null, .null, .null, .null, .int 0, .int 0, .int 0, .int 0, .int 0, .int 0, .int 0, .long 0, .long 0, .null, .int 0, .null, .null, .int 0]) 55 (by decide) rfl rfl hin tyX10 tyX10_ok nmX10 23 (by decide) (by decide +kernel) rfl hin2 rfl (ty := .array .int) (by decide +kernel) rfl rfl (Nat.le_of_ble_eq_true rfl) rfl dX10_init_129 (fun H locs G => ?_)
  refine lv_aload_n hx hb dX10_init_132 rfl (lv_at hl 0 rfl) ?_
  refine lv_bipush (v := 7) hx hb dX10_init_133 (by decide) ?_
  refine gq_newa F G 0 rfl rfl (by decide +kernel) (N' := 7) (a0 := (7, .inl (fun _ => 0))) (fun _ => rfl) (by decide) rfl (by decide) (by show 365 + 1 ≤ _; decide) (by show 1894 + 7 ≤ _; decide) dX10_init_135 (fun q14 H G => ?_)
  refine W.widen (k := 366) (n := 1901) (by omega) (by omega) ?_
  refine gq_putF F G (ci := 10) (n := 46) (fs := [.int 0, .int 0, .int 0, .int (-1), .int 0, .int 0, .int 0, .int 0, .int 0, .ref q1, .ref q2, .ref q3, .ref q4, .ref q5, .ref q6, .ref q7, .ref q8, .int 0, .int 0, .ref q9, .ref q10, .ref q11, .ref q12, .ref q13, .null, .null, .int 0, .null, .null, .null, .null, .null, .int 0, .int 0, .int 0, .int 0, .int 0, .int 0, .int 0, .long 0, .long 0, .null, .int 0, .null, .null, .int 0]) 55 (by decide) rfl rfl hin tyX10 tyX10_ok nmX10 24 (by decide) (by decide +kernel) rfl hin2 rfl (ty := .array .int) (by decide +kernel) rfl rfl (Nat.le_of_ble_eq_true rfl) rfl dX10_init_137 (fun H locs G => ?_)
  refine lv_aload_n hx hb dX10_init_140 rfl (lv_at hl 0 rfl) ?_
  refine lv_bipush (v := 80) hx hb dX10_init_141 (by decide) ?_
  refine lv_bipush (v := 6) hx hb dX10_init_143 (by decide) ?_
  refine gq_mna F G (by decide +kernel) (by decide +kernel) (by decide +kernel) (N' := 80) (K' := 6) (by decide) (by decide) rfl rfl (by decide) (by decide) (by decide) (by show 366 + _ ≤ _; decide) (by show 1901 + _ ≤ _; decide) dX10_init_145 (fun q15 r15 H G => ?_)
  refine W.widen (k := 447) (n := 2461) (by omega) (by omega) ?_
  refine gq_putF F G (ci := 10) (n := 46) (fs := [.int 0, .int 0, .int 0, .int (-1), .int 0, .int 0, .int 0, .int 0, .int 0, .ref q1, .ref q2, .ref q3, .ref q4, .ref q5, .ref q6, .ref q7, .ref q8, .int 0, .int 0, .ref q9, .ref q10, .ref q11, .ref q12, .ref q13, .ref q14, .null, .int 0, .null, .null, .null, .null, .null, .int 0, .int 0, .int 0, .int 0, .int 0, .int 0, .int 0, .long 0, .long 0, .null, .int 0, .null, .null, .int 0]) 55 (by decide) rfl rfl hin tyX10 tyX10_ok nmX10 25 (by decide) (by decide +kernel) rfl hin2 rfl (ty := .array (.array .int)) (by decide +kernel) rfl rfl (Nat.le_of_ble_eq_true rfl) rfl dX10_init_149 (fun H locs G => ?_)
  refine lv_aload_n hx hb dX10_init_152 rfl (lv_at hl 0 rfl) ?_
  refine lv_bipush (v := 60) hx hb dX10_init_153 (by decide) ?_
  refine gq_newa F G 0 rfl rfl (by decide +kernel) (N' := 60) (a0 := (60, .inl (fun _ => 0))) (fun _ => rfl) (by decide) rfl (by decide) (by show 447 + 1 ≤ _; decide) (by show 2461 + 60 ≤ _; decide) dX10_init_155 (fun q16 H G => ?_)
  refine W.widen (k := 448) (n := 2521) (by omega) (by omega) ?_
  refine gq_putF F G (ci := 10) (n := 46) (fs := [.int 0, .int 0, .int 0, .int (-1), .int 0, .int 0, .int 0, .int 0, .int 0, .ref q1, .ref q2, .ref q3, .ref q4, .ref q5, .ref q6, .ref q7, .ref q8, .int 0, .int 0, .ref q9, .ref q10, .ref q11, .ref q12, .ref q13, .ref q14, .ref q15, .int 0, .null, .null, .null, .null, .null, .int 0, .int 0, .int 0, .int 0, .int 0, .int 0, .int 0, .long 0, .long 0, .null, .int 0, .null, .null, .int 0]) 55 (by decide) rfl rfl hin tyX10 tyX10_ok nmX10 27 (by decide) (by decide +kernel) rfl hin2 rfl (ty := .array .int) (by decide +kernel) rfl rfl (Nat.le_of_ble_eq_true rfl) rfl dX10_init_157 (fun H locs G => ?_)
  refine lv_aload_n hx hb dX10_init_160 rfl (lv_at hl 0 rfl) ?_
  refine lv_bipush (v := 60) hx hb dX10_init_161 (by decide) ?_
  refine gq_newa F G 0 rfl rfl (by decide +kernel) (N' := 60) (a0 := (60, .inl (fun _ => 0))) (fun _ => rfl) (by decide) rfl (by decide) (by show 448 + 1 ≤ _; decide) (by show 2521 + 60 ≤ _; decide) dX10_init_163 (fun q17 H G => ?_)
  refine W.widen (k := 449) (n := 2581) (by omega) (by omega) ?_
  refine gq_putF F G (ci := 10) (n := 46) (fs := [.int 0, .int 0, .int 0, .int (-1), .int 0, .int 0, .int 0, .int 0, .int 0, .ref q1, .ref q2, .ref q3, .ref q4, .ref q5, .ref q6, .ref q7, .ref q8, .int 0, .int 0, .ref q9, .ref q10, .ref q11, .ref q12, .ref q13, .ref q14, .ref q15, .int 0, .ref q16, .null, .null, .null, .null, .int 0, .int 0, .int 0, .int 0, .int 0, .int 0, .int 0, .long 0, .long 0, .null, .int 0, .null, .null, .int 0]) 55 (by decide) rfl rfl hin tyX10 tyX10_ok nmX10 28 (by decide) (by decide +kernel) rfl hin2 rfl (ty := .array .int) (by decide +kernel) rfl rfl (Nat.le_of_ble_eq_true rfl) rfl dX10_init_165 (fun H locs G => ?_)
  refine lv_aload_n hx hb dX10_init_168 rfl (lv_at hl 0 rfl) ?_
  refine lv_bipush (v := 8) hx hb dX10_init_169 (by decide) ?_
  refine gq_newa F G 0 rfl rfl (by decide +kernel) (N' := 8) (a0 := (8, .inl (fun _ => 0))) (fun _ => rfl) (by decide) rfl (by decide) (by show 449 + 1 ≤ _; decide) (by show 2581 + 8 ≤ _; decide) dX10_init_171 (fun q18 H G => ?_)
  refine W.widen (k := 450) (n := 2589) (by omega) (by omega) ?_
  refine gq_putF F G (ci := 10) (n := 46) (fs := [.int 0, .int 0, .int 0, .int (-1), .int 0, .int 0, .int 0, .int 0, .int 0, .ref q1, .ref q2, .ref q3, .ref q4, .ref q5, .ref q6, .ref q7, .ref q8, .int 0, .int 0, .ref q9, .ref q10, .ref q11, .ref q12, .ref q13, .ref q14, .ref q15, .int 0, .ref q16, .ref q17, .null, .null, .null, .int 0, .int 0, .int 0, .int 0, .int 0, .int 0, .int 0, .long 0, .long 0, .null, .int 0, .null, .null, .int 0]) 55 (by decide) rfl rfl hin tyX10 tyX10_ok nmX10 29 (by decide) (by decide +kernel) rfl hin2 rfl (ty := .array .int) (by decide +kernel) rfl rfl (Nat.le_of_ble_eq_true rfl) rfl dX10_init_173 (fun H locs G => ?_)
  refine lv_aload_n hx hb dX10_init_176 rfl (lv_at hl 0 rfl) ?_
  refine lv_bipush (v := 16) hx hb dX10_init_177 (by decide) ?_
  refine lv_bipush (v := 60) hx hb dX10_init_179 (by decide) ?_
  refine gq_mna F G (by decide +kernel) (by decide +kernel) (by decide +kernel) (N' := 16) (K' := 60) (by decide) (by decide) rfl rfl (by decide) (by decide) (by decide) (by show 450 + _ ≤ _; decide) (by show 2589 + _ ≤ _; decide) dX10_init_181 (fun q19 r19 H G => ?_)
  refine W.widen (k := 467) (n := 3565) (by omega) (by omega) ?_
  refine gq_putF F G (ci := 10) (n := 46) (fs := [.int 0, .int 0, .int 0, .int (-1), .int 0, .int 0, .int 0, .int 0, .int 0, .ref q1, .ref q2, .ref q3, .ref q4, .ref q5, .ref q6, .ref q7, .ref q8, .int 0, .int 0, .ref q9, .ref q10, .ref q11, .ref q12, .ref q13, .ref q14, .ref q15, .int 0, .ref q16, .ref q17, .ref q18, .null, .null, .int 0, .int 0, .int 0, .int 0, .int 0, .int 0, .int 0, .long 0, .long 0, .null, .int 0, .null, .null, .int 0]) 55 (by decide) rfl rfl hin tyX10 tyX10_ok nmX10 30 (by decide) (by decide +kernel) rfl hin2 rfl (ty := .array (.array .int)) (by decide +kernel) rfl rfl (Nat.le_of_ble_eq_true rfl) rfl dX10_init_185 (fun H locs G => ?_)
  refine lv_aload_n hx hb dX10_init_188 rfl (lv_at hl 0 rfl) ?_
  refine lv_iconst (v := 3) hx hb dX10_init_189 (by decide) ?_
  refine lv_sipush (v := 1021) hx hb dX10_init_190 (by decide) ?_
  refine gq_mna F G (by decide +kernel) (by decide +kernel) (by decide +kernel) (N' := 3) (K' := 1021) (by decide) (by decide) rfl rfl (by decide) (by decide) (by decide) (by show 467 + _ ≤ _; decide) (by show 3565 + _ ≤ _; decide) dX10_init_193 (fun q20 r20 H G => ?_)
  refine W.widen (k := 471) (n := 6631) (by omega) (by omega) ?_
  refine gq_putF F G (ci := 10) (n := 46) (fs := [.int 0, .int 0, .int 0, .int (-1), .int 0, .int 0, .int 0, .int 0, .int 0, .ref q1, .ref q2, .ref q3, .ref q4, .ref q5, .ref q6, .ref q7, .ref q8, .int 0, .int 0, .ref q9, .ref q10, .ref q11, .ref q12, .ref q13, .ref q14, .ref q15, .int 0, .ref q16, .ref q17, .ref q18, .ref q19, .null, .int 0, .int 0, .int 0, .int 0, .int 0, .int 0, .int 0, .long 0, .long 0, .null, .int 0, .null, .null, .int 0]) 55 (by decide) rfl rfl hin tyX10 tyX10_ok nmX10 31 (by decide) (by decide +kernel) rfl hin2 rfl (ty := .array (.array .int)) (by decide +kernel) rfl rfl (Nat.le_of_ble_eq_true rfl) rfl dX10_init_197 (fun H locs G => ?_)
  refine lv_aload_n hx hb dX10_init_200 rfl (lv_at hl 0 rfl) ?_
  refine lv_sipush (v := 1024) hx hb dX10_init_201 (by decide) ?_
  refine gq_newa F G 2 rfl rfl (by decide +kernel) (N' := 1024) (a0 := (1024, .inl (fun _ => 0))) (fun _ => rfl) (by decide) rfl (by decide) (by show 471 + 1 ≤ _; decide) (by show 6631 + 1024 ≤ _; decide) dX10_init_204 (fun q21 H G => ?_)
  refine W.widen (k := 472) (n := 7655) (by omega) (by omega) ?_
  refine gq_putF F G (ci := 10) (n := 46) (fs := [.int 0, .int 0, .int 0, .int (-1), .int 0, .int 0, .int 0, .int 0, .int 0, .ref q1, .ref q2, .ref q3, .ref q4, .ref q5, .ref q6, .ref q7, .ref q8, .int 0, .int 0, .ref q9, .ref q10, .ref q11, .ref q12, .ref q13, .ref q14, .ref q15, .int 0, .ref q16, .ref q17, .ref q18, .ref q19, .ref q20, .int 0, .int 0, .int 0, .int 0, .int 0, .int 0, .int 0, .long 0, .long 0, .null, .int 0, .null, .null, .int 0]) 55 (by decide) rfl rfl hin tyX10 tyX10_ok nmX10 41 (by decide) (by decide +kernel) rfl hin2 rfl (ty := .array .boolean) (by decide +kernel) rfl rfl (Nat.le_of_ble_eq_true rfl) rfl dX10_init_206 (fun H locs G => ?_)
  refine lv_aload_n hx hb dX10_init_209 rfl (lv_at hl 0 rfl) ?_
  refine lv_sipush (v := 481) hx hb dX10_init_210 (by decide) ?_
  refine gq_newa F G 0 rfl rfl (by decide +kernel) (N' := 481) (a0 := (481, .inl (fun _ => 0))) (fun _ => rfl) (by decide) rfl (by decide) (by show 472 + 1 ≤ _; decide) (by show 7655 + 481 ≤ _; decide) dX10_init_213 (fun q22 H G => ?_)
  refine W.widen (k := 473) (n := 8136) (by omega) (by omega) ?_
  refine gq_putF F G (ci := 10) (n := 46) (fs := [.int 0, .int 0, .int 0, .int (-1), .int 0, .int 0, .int 0, .int 0, .int 0, .ref q1, .ref q2, .ref q3, .ref q4, .ref q5, .ref q6, .ref q7, .ref q8, .int 0, .int 0, .ref q9, .ref q10, .ref q11, .ref q12, .ref q13, .ref q14, .ref q15, .int 0, .ref q16, .ref q17, .ref q18, .ref q19, .ref q20, .int 0, .int 0, .int 0, .int 0, .int 0, .int 0, .int 0, .long 0, .long 0, .ref q21, .int 0, .null, .null, .int 0]) 55 (by decide) rfl rfl hin tyX10 tyX10_ok nmX10 43 (by decide) (by decide +kernel) rfl hin2 rfl (ty := .array .int) (by decide +kernel) rfl rfl (Nat.le_of_ble_eq_true rfl) rfl dX10_init_215 (fun H locs G => ?_)
  refine lv_aload_n hx hb dX10_init_218 rfl (lv_at hl 0 rfl) ?_
  refine lv_iconst (v := 3) hx hb dX10_init_219 (by decide) ?_
  refine gq_newa F G 0 rfl rfl (by decide +kernel) (N' := 3) (a0 := (3, .inl (fun _ => 0))) (fun _ => rfl) (by decide) rfl (by decide) (by show 473 + 1 ≤ _; decide) (by show 8136 + 3 ≤ _; decide) dX10_init_220 (fun q23 H G => ?_)
  refine W.widen (k := 474) (n := 8139) (by omega) (by omega) ?_
  refine gq_putF F G (ci := 10) (n := 46) (fs := [.int 0, .int 0, .int 0, .int (-1), .int 0, .int 0, .int 0, .int 0, .int 0, .ref q1, .ref q2, .ref q3, .ref q4, .ref q5, .ref q6, .ref q7, .ref q8, .int 0, .int 0, .ref q9, .ref q10, .ref q11, .ref q12, .ref q13, .ref q14, .ref q15, .int 0, .ref q16, .ref q17, .ref q18, .ref q19, .ref q20, .int 0, .int 0, .int 0, .int 0, .int 0, .int 0, .int 0, .long 0, .long 0, .ref q21, .int 0, .ref q22, .null, .int 0]) 55 (by decide) rfl rfl hin tyX10 tyX10_ok nmX10 44 (by decide) (by decide +kernel) rfl hin2 rfl (ty := .array .int) (by decide +kernel) rfl rfl (Nat.le_of_ble_eq_true rfl) rfl dX10_init_222 (fun H locs G => ?_)
  refine lv_aload_n hx hb dX10_init_225 rfl (lv_at hl 0 rfl) ?_
  have hW : va_P D vwCl (gwl (mAd ad q1 q2 q3 q4 q5 q6 q7 q8 q9 q10 q11 q12 q13 q14 q15 q16 q17 q18 q19 q20 q21 q22 q23 r7 r8 r9 r10 r11 r12 r15 r19 r20) cy 530 gc0 gd0) H := m_conv ad q1 q2 q3 q4 q5 q6 q7 q8 q9 q10 q11 q12 q13 q14 q15 q16 q17 q18 q19 q20 q21 q22 q23 r7 r8 r9 r10 r11 r12 r15 r19 r20 G.1
  obtain ⟨hI, hAd⟩ := gbl_I G.2.1
  have hS := G.2.2
  have hI : gI (mAd ad q1 q2 q3 q4 q5 q6 q7 q8 q9 q10 q11 q12 q13 q14 q15 q16 q17 q18 q19 q20 q21 q22 q23 r7 r8 r9 r10 r11 r12 r15 r19 r20) 530 := hI
  have hAd : ∀ i, i < 530 → A ((mAd ad q1 q2 q3 q4 q5 q6 q7 q8 q9 q10 q11 q12 q13 q14 q15 q16 q17 q18 q19 q20 q21 q22 q23 r7 r8 r9 r10 r11 r12 r15 r19 r20) i) := hAd
  have h55 : mAd ad q1 q2 q3 q4 q5 q6 q7 q8 q9 q10 q11 q12 q13 q14 q15 q16 q17 q18 q19 q20 q21 q22 q23 r7 r8 r9 r10 r11 r12 r15 r19 r20 55 = ad 55 := rfl
  have h56 : ∀ i, i < 56 → mAd ad q1 q2 q3 q4 q5 q6 q7 q8 q9 q10 q11 q12 q13 q14 q15 q16 q17 q18 q19 q20 q21 q22 q23 r7 r8 r9 r10 r11 r12 r15 r19 r20 i = ad i := by
    intro i hi
    unfold mAd
    simp (disch := omega) only [va_up_ne, jn_l, jn_r]
  clear G F
  generalize mAd ad q1 q2 q3 q4 q5 q6 q7 q8 q9 q10 q11 q12 q13 q14 q15 q16 q17 q18 q19 q20 q21 q22 q23 r7 r8 r9 r10 r11 r12 r15 r19 r20 = a9 at hW hI hAd h55 h56
  have F : gF sa D a9 cy 530 A p s m args cod cX10_init 1 wsX10_init RX10 := ⟨hx, hb, hml, hown, hts, hK0, hI, hAd, hA9, hZ0⟩
  have G : gW D a9 cy 530 A s.heap gc0 gd0 H locs := ⟨hW, hS⟩
  rw [← h55]
  rw [← h55] at hl
  refine gx_callv F G (va_runV (As := []) (rest := []) (gx_fix F) (c_X10_tellsNothing l sa D a9 cy 530 H.size (by decide) hI gc0 gd0 h1) (cwV 0 hts gX10_init_X10_tellsNothing rfl rfl rfl (by decide +kernel) ⟨by decide, by decide⟩) (gx_rec F G (t := 55) (by decide) (gwe_10 rfl) rfl) rfl rfl hl.1 rfl (lv_room (Nat.le_of_ble_eq_true rfl)) dX10_init_226 ⟨by show 474 + 0 ≤ _; decide, by show 8139 + 0 ≤ _; decide⟩) (fun H locs G => ?_)
  refine lv_aload_n hx hb dX10_init_229 rfl (lv_at hl 0 rfl) ?_
  refine gx_callv F G (va_runV (As := []) (rest := []) (gx_fix F) (c_X10_beginsAnew l sa D a9 cy 530 H.size (by decide) hI gc0 e1 h2) (cwV 0 hts gX10_init_X10_beginsAnew rfl rfl rfl (by decide +kernel) ⟨by decide, by decide⟩) (gx_rec F G (t := 55) (by decide) (gwe_10 rfl) rfl) rfl rfl hl.1 rfl (lv_room (Nat.le_of_ble_eq_true rfl)) dX10_init_230 ⟨by show 474 + 0 ≤ _; decide, by show 8139 + 0 ≤ _; decide⟩) (fun H locs G => ?_)
  subst hAe
  exact W.vret hx hb hr (fun t ht hW => ⟨⟨a9, rfl, h56, by rw [ht]; exact G.1, hI, hAd⟩, G.2.F ht⟩) G.2.2.2 dX10_init_233 hlocks
