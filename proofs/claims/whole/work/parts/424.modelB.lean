set_option maxRecDepth 16384
theorem va_atE {D : va_G} {a : Nat} {x y : va_E} {H : Heap} (e : x = y) (h : va_at D vwCl (a, x) H) : va_at D vwCl (a, y) H := by rw [← e]; exact h
set_option maxHeartbeats 4000000 in
theorem m_conv {D : va_G} {cy : Nat → ClassId} {H : Heap} (ad : Nat → Nat) (q1 q2 q3 q4 q5 q6 q7 q8 q9 q10 q11 q12 q13 q14 q15 q16 q17 q18 q19 q20 q21 q22 q23 : Nat) (r7 r8 r9 r10 r11 r12 r15 r19 r20 : Nat → Nat) (h : va_P D vwCl (gbl (mAd ad q1 q2 q3 q4 q5 q6 q7 q8 q9 q10 q11 q12 q13 q14 q15 q16 q17 q18 q19 q20 q21 q22 q23 r7 r8 r9 r10 r11 r12 r15 r19 r20) 530 (mEn cy ad q1 q2 q3 q4 q5 q6 q7 q8 q9 q10 q11 q12 q13 q14 q15 q16 q17 q18 q19 q20 q21 q22 q23 r7 r8 r9 r10 r11 r12 r15 r19 r20)) H) : va_P D vwCl (gwl (mAd ad q1 q2 q3 q4 q5 q6 q7 q8 q9 q10 q11 q12 q13 q14 q15 q16 q17 q18 q19 q20 q21 q22 q23 r7 r8 r9 r10 r11 r12 r15 r19 r20) cy 530 gc0 gd0) H := by
  intro k x hx
  by_cases hk : k < 530
  rotate_left
  · rw [gwl_no hk] at hx
    cases hx
  rw [gwl_at hk] at hx
  obtain rfl := Option.some.inj hx
  have hh := h k _ (gbl_at hk)
  by_cases c0 : k < 56
  · rcases (show k = 0 ∨ k = 1 ∨ k = 2 ∨ k = 3 ∨ k = 4 ∨ k = 5 ∨ k = 6 ∨ k = 7 ∨ k = 8 ∨ k = 9 ∨ k = 10 ∨ k = 11 ∨ k = 12 ∨ k = 13 ∨ k = 14 ∨ k = 15 ∨ k = 16 ∨ k = 17 ∨ k = 18 ∨ k = 19 ∨ k = 20 ∨ k = 21 ∨ k = 22 ∨ k = 23 ∨ k = 24 ∨ k = 25 ∨ k = 26 ∨ k = 27 ∨ k = 28 ∨ k = 29 ∨ k = 30 ∨ k = 31 ∨ k = 32 ∨ k = 33 ∨ k = 34 ∨ k = 35 ∨ k = 36 ∨ k = 37 ∨ k = 38 ∨ k = 39 ∨ k = 40 ∨ k = 41 ∨ k = 42 ∨ k = 43 ∨ k = 44 ∨ k = 45 ∨ k = 46 ∨ k = 47 ∨ k = 48 ∨ k = 49 ∨ k = 50 ∨ k = 51 ∨ k = 52 ∨ k = 53 ∨ k = 54 ∨ k = 55 by omega) with rfl | rfl | rfl | rfl | rfl | rfl | rfl | rfl | rfl | rfl | rfl | rfl | rfl | rfl | rfl | rfl | rfl | rfl | rfl | rfl | rfl | rfl | rfl | rfl | rfl | rfl | rfl | rfl | rfl | rfl | rfl | rfl | rfl | rfl | rfl | rfl | rfl | rfl | rfl | rfl | rfl | rfl | rfl | rfl | rfl | rfl | rfl | rfl | rfl | rfl | rfl | rfl | rfl | rfl | rfl | rfl
    · exact va_atE rfl hh
    · exact va_atE rfl hh
    · exact va_atE rfl hh
    · exact va_atE rfl hh
    · exact va_atE rfl hh
    · exact va_atE rfl hh
    · exact va_atE rfl hh
    · exact va_atE rfl hh
    · exact va_atE rfl hh
    · exact va_atE rfl hh
    · exact va_atE rfl hh
    · exact va_atE rfl hh
    · exact va_atE rfl hh
    · exact va_atE rfl hh
    · exact va_atE rfl hh
    · exact va_atE rfl hh
    · exact va_atE rfl hh
    · exact va_atE rfl hh
    · exact va_atE rfl hh
    · exact va_atE rfl hh
    · exact va_atE rfl hh
    · exact va_atE rfl hh
    · exact va_atE rfl hh
    · exact va_atE rfl hh
    · exact va_atE rfl hh
    · exact va_atE rfl hh
    · exact va_atE rfl hh
    · exact va_atE rfl hh
    · exact va_atE rfl hh
    · exact va_atE rfl hh
    · exact va_atE rfl hh
    · exact va_atE rfl hh
    · exact va_atE rfl hh
    · exact va_atE rfl hh
    · exact va_atE rfl hh
    · exact va_atE rfl hh
    · exact va_atE rfl hh
    · exact va_atE rfl hh
    · exact va_atE rfl hh
    · exact va_atE rfl hh
    · exact va_atE rfl hh
    · exact va_atE rfl hh
    · exact va_atE rfl hh
    · exact va_atE rfl hh
    · exact va_atE rfl hh
    · exact va_atE rfl hh
    · exact va_atE rfl hh
    · exact va_atE rfl hh
    · exact va_atE rfl hh
    · exact va_atE rfl hh
    · exact va_atE rfl hh
    · exact va_atE rfl hh
    · exact va_atE rfl hh
    · exact va_atE rfl hh
    · exact va_atE rfl hh
    · exact va_atE rfl hh
  by_cases c56 : k = 56
  · subst c56
    exact va_atE rfl hh
  by_cases c57 : k = 57
  · subst c57
    exact va_atE rfl hh
  by_cases c58 : k = 58
  · subst c58
    exact va_atE rfl hh
  by_cases c59 : k = 59
  · subst c59
    exact va_atE rfl hh
  by_cases c60 : k = 60
  · subst c60
    exact va_atE rfl hh
  by_cases c61 : k = 61
  · subst c61
    exact va_atE rfl hh
  by_cases c62 : k = 62
  · subst c62
    show H[_]? = some (vp_cell (cy 4) (10, .inr (.inr (.inr (.inr (fun k => some (mAd ad q1 q2 q3 q4 q5 q6 q7 q8 q9 q10 q11 q12 q13 q14 q15 q16 q17 q18 q19 q20 q21 q22 q23 r7 r8 r9 r10 r11 r12 r15 r19 r20 (62 + 1 + k))))))))
    have e0 : H[mAd ad q1 q2 q3 q4 q5 q6 q7 q8 q9 q10 q11 q12 q13 q14 q15 q16 q17 q18 q19 q20 q21 q22 q23 r7 r8 r9 r10 r11 r12 r15 r19 r20 62]? = some (vp_cell (cy 4) (10, .inr (.inr (.inr (.inr (fun i => if i < 10 then some (r7 i) else none)))))) := hh
    rw [vp_cell_q] at e0 ⊢
    rw [e0]
    congr 1
    try (apply arrV_cg; intro j hj; rw [if_pos hj, mA_62 ad q1 q2 q3 q4 q5 q6 q7 q8 q9 q10 q11 q12 q13 q14 q15 q16 q17 q18 q19 q20 q21 q22 q23 r7 r8 r9 r10 r11 r12 r15 r19 r20 hj])
  by_cases d62 : k < 73
  · obtain ⟨g1, g2⟩ := mk_62 k (by omega) (by omega) d62
    refine va_atE ?_ hh
    rw [mE_62 ad q1 q2 q3 q4 q5 q6 q7 q8 q9 q10 q11 q12 q13 q14 q15 q16 q17 q18 q19 q20 q21 q22 q23 r7 r8 r9 r10 r11 r12 r15 r19 r20 (by omega) d62, gwe_22 g1, g2, gd0_z (by omega)]
  by_cases c73 : k = 73
  · subst c73
    show H[_]? = some (vp_cell (cy 4) (10, .inr (.inr (.inr (.inr (fun k => some (mAd ad q1 q2 q3 q4 q5 q6 q7 q8 q9 q10 q11 q12 q13 q14 q15 q16 q17 q18 q19 q20 q21 q22 q23 r7 r8 r9 r10 r11 r12 r15 r19 r20 (73 + 1 + k))))))))
    have e0 : H[mAd ad q1 q2 q3 q4 q5 q6 q7 q8 q9 q10 q11 q12 q13 q14 q15 q16 q17 q18 q19 q20 q21 q22 q23 r7 r8 r9 r10 r11 r12 r15 r19 r20 73]? = some (vp_cell (cy 4) (10, .inr (.inr (.inr (.inr (fun i => if i < 10 then some (r8 i) else none)))))) := hh
    rw [vp_cell_q] at e0 ⊢
    rw [e0]
    congr 1
    try (apply arrV_cg; intro j hj; rw [if_pos hj, mA_73 ad q1 q2 q3 q4 q5 q6 q7 q8 q9 q10 q11 q12 q13 q14 q15 q16 q17 q18 q19 q20 q21 q22 q23 r7 r8 r9 r10 r11 r12 r15 r19 r20 hj])
  by_cases d73 : k < 84
  · obtain ⟨g1, g2⟩ := mk_73 k (by omega) (by omega) d73
    refine va_atE ?_ hh
    rw [mE_73 ad q1 q2 q3 q4 q5 q6 q7 q8 q9 q10 q11 q12 q13 q14 q15 q16 q17 q18 q19 q20 q21 q22 q23 r7 r8 r9 r10 r11 r12 r15 r19 r20 (by omega) d73, gwe_22 g1, g2, gd0_z (by omega)]
  by_cases c84 : k = 84
  · subst c84
    show H[_]? = some (vp_cell (cy 4) (160, .inr (.inr (.inr (.inr (fun k => some (mAd ad q1 q2 q3 q4 q5 q6 q7 q8 q9 q10 q11 q12 q13 q14 q15 q16 q17 q18 q19 q20 q21 q22 q23 r7 r8 r9 r10 r11 r12 r15 r19 r20 (84 + 1 + k))))))))
    have e0 : H[mAd ad q1 q2 q3 q4 q5 q6 q7 q8 q9 q10 q11 q12 q13 q14 q15 q16 q17 q18 q19 q20 q21 q22 q23 r7 r8 r9 r10 r11 r12 r15 r19 r20 84]? = some (vp_cell (cy 4) (160, .inr (.inr (.inr (.inr (fun i => if i < 160 then some (r9 i) else none)))))) := hh
    rw [vp_cell_q] at e0 ⊢
    rw [e0]
    congr 1
    try (apply arrV_cg; intro j hj; rw [if_pos hj, mA_84 ad q1 q2 q3 q4 q5 q6 q7 q8 q9 q10 q11 q12 q13 q14 q15 q16 q17 q18 q19 q20 q21 q22 q23 r7 r8 r9 r10 r11 r12 r15 r19 r20 hj])
  by_cases d84 : k < 245
  · obtain ⟨g1, g2⟩ := mk_84 k (by omega) (by omega) d84
    refine va_atE ?_ hh
    rw [mE_84 ad q1 q2 q3 q4 q5 q6 q7 q8 q9 q10 q11 q12 q13 q14 q15 q16 q17 q18 q19 q20 q21 q22 q23 r7 r8 r9 r10 r11 r12 r15 r19 r20 (by omega) d84, gwe_22 g1, g2, gd0_z (by omega)]
  by_cases c245 : k = 245
  · subst c245
    show H[_]? = some (vp_cell (cy 4) (160, .inr (.inr (.inr (.inr (fun k => some (mAd ad q1 q2 q3 q4 q5 q6 q7 q8 q9 q10 q11 q12 q13 q14 q15 q16 q17 q18 q19 q20 q21 q22 q23 r7 r8 r9 r10 r11 r12 r15 r19 r20 (245 + 1 + k))))))))
    have e0 : H[mAd ad q1 q2 q3 q4 q5 q6 q7 q8 q9 q10 q11 q12 q13 q14 q15 q16 q17 q18 q19 q20 q21 q22 q23 r7 r8 r9 r10 r11 r12 r15 r19 r20 245]? = some (vp_cell (cy 4) (160, .inr (.inr (.inr (.inr (fun i => if i < 160 then some (r10 i) else none)))))) := hh
    rw [vp_cell_q] at e0 ⊢
    rw [e0]
    congr 1
    try (apply arrV_cg; intro j hj; rw [if_pos hj, mA_245 ad q1 q2 q3 q4 q5 q6 q7 q8 q9 q10 q11 q12 q13 q14 q15 q16 q17 q18 q19 q20 q21 q22 q23 r7 r8 r9 r10 r11 r12 r15 r19 r20 hj])
  by_cases d245 : k < 406
  · obtain ⟨g1, g2⟩ := mk_245 k (by omega) (by omega) d245
    refine va_atE ?_ hh
    rw [mE_245 ad q1 q2 q3 q4 q5 q6 q7 q8 q9 q10 q11 q12 q13 q14 q15 q16 q17 q18 q19 q20 q21 q22 q23 r7 r8 r9 r10 r11 r12 r15 r19 r20 (by omega) d245, gwe_22 g1, g2, gd0_z (by omega)]
  by_cases c406 : k = 406
  · subst c406
    show H[_]? = some (vp_cell (cy 4) (6, .inr (.inr (.inr (.inr (fun k => some (mAd ad q1 q2 q3 q4 q5 q6 q7 q8 q9 q10 q11 q12 q13 q14 q15 q16 q17 q18 q19 q20 q21 q22 q23 r7 r8 r9 r10 r11 r12 r15 r19 r20 (406 + 1 + k))))))))
    have e0 : H[mAd ad q1 q2 q3 q4 q5 q6 q7 q8 q9 q10 q11 q12 q13 q14 q15 q16 q17 q18 q19 q20 q21 q22 q23 r7 r8 r9 r10 r11 r12 r15 r19 r20 406]? = some (vp_cell (cy 4) (6, .inr (.inr (.inr (.inr (fun i => if i < 6 then some (r11 i) else none)))))) := hh
    rw [vp_cell_q] at e0 ⊢
    rw [e0]
    congr 1
    try (apply arrV_cg; intro j hj; rw [if_pos hj, mA_406 ad q1 q2 q3 q4 q5 q6 q7 q8 q9 q10 q11 q12 q13 q14 q15 q16 q17 q18 q19 q20 q21 q22 q23 r7 r8 r9 r10 r11 r12 r15 r19 r20 hj])
  by_cases d406 : k < 413
  · obtain ⟨g1, g2⟩ := mk_406 k (by omega) (by omega) d406
    refine va_atE ?_ hh
    rw [mE_406 ad q1 q2 q3 q4 q5 q6 q7 q8 q9 q10 q11 q12 q13 q14 q15 q16 q17 q18 q19 q20 q21 q22 q23 r7 r8 r9 r10 r11 r12 r15 r19 r20 (by omega) d406, gwe_22 g1, g2, gd0_z (by omega)]
  by_cases c413 : k = 413
  · subst c413
    show H[_]? = some (vp_cell (cy 4) (6, .inr (.inr (.inr (.inr (fun k => some (mAd ad q1 q2 q3 q4 q5 q6 q7 q8 q9 q10 q11 q12 q13 q14 q15 q16 q17 q18 q19 q20 q21 q22 q23 r7 r8 r9 r10 r11 r12 r15 r19 r20 (413 + 1 + k))))))))
    have e0 : H[mAd ad q1 q2 q3 q4 q5 q6 q7 q8 q9 q10 q11 q12 q13 q14 q15 q16 q17 q18 q19 q20 q21 q22 q23 r7 r8 r9 r10 r11 r12 r15 r19 r20 413]? = some (vp_cell (cy 4) (6, .inr (.inr (.inr (.inr (fun i => if i < 6 then some (r12 i) else none)))))) := hh
    rw [vp_cell_q] at e0 ⊢
    rw [e0]
    congr 1
    try (apply arrV_cg; intro j hj; rw [if_pos hj, mA_413 ad q1 q2 q3 q4 q5 q6 q7 q8 q9 q10 q11 q12 q13 q14 q15 q16 q17 q18 q19 q20 q21 q22 q23 r7 r8 r9 r10 r11 r12 r15 r19 r20 hj])
  by_cases d413 : k < 420
  · obtain ⟨g1, g2⟩ := mk_413 k (by omega) (by omega) d413
    refine va_atE ?_ hh
    rw [mE_413 ad q1 q2 q3 q4 q5 q6 q7 q8 q9 q10 q11 q12 q13 q14 q15 q16 q17 q18 q19 q20 q21 q22 q23 r7 r8 r9 r10 r11 r12 r15 r19 r20 (by omega) d413, gwe_22 g1, g2, gd0_z (by omega)]
  by_cases c420 : k = 420
  · subst c420
    exact va_atE rfl hh
  by_cases c421 : k = 421
  · subst c421
    exact va_atE rfl hh
  by_cases c422 : k = 422
  · subst c422
    show H[_]? = some (vp_cell (cy 4) (80, .inr (.inr (.inr (.inr (fun k => some (mAd ad q1 q2 q3 q4 q5 q6 q7 q8 q9 q10 q11 q12 q13 q14 q15 q16 q17 q18 q19 q20 q21 q22 q23 r7 r8 r9 r10 r11 r12 r15 r19 r20 (422 + 1 + k))))))))
    have e0 : H[mAd ad q1 q2 q3 q4 q5 q6 q7 q8 q9 q10 q11 q12 q13 q14 q15 q16 q17 q18 q19 q20 q21 q22 q23 r7 r8 r9 r10 r11 r12 r15 r19 r20 422]? = some (vp_cell (cy 4) (80, .inr (.inr (.inr (.inr (fun i => if i < 80 then some (r15 i) else none)))))) := hh
    rw [vp_cell_q] at e0 ⊢
    rw [e0]
    congr 1
    try (apply arrV_cg; intro j hj; rw [if_pos hj, mA_422 ad q1 q2 q3 q4 q5 q6 q7 q8 q9 q10 q11 q12 q13 q14 q15 q16 q17 q18 q19 q20 q21 q22 q23 r7 r8 r9 r10 r11 r12 r15 r19 r20 hj])
  by_cases d422 : k < 503
  · obtain ⟨g1, g2⟩ := mk_422 k (by omega) (by omega) d422
    refine va_atE ?_ hh
    rw [mE_422 ad q1 q2 q3 q4 q5 q6 q7 q8 q9 q10 q11 q12 q13 q14 q15 q16 q17 q18 q19 q20 q21 q22 q23 r7 r8 r9 r10 r11 r12 r15 r19 r20 (by omega) d422, gwe_22 g1, g2, gd0_z (by omega)]
  by_cases c503 : k = 503
  · subst c503
    exact va_atE rfl hh
  by_cases c504 : k = 504
  · subst c504
    exact va_atE rfl hh
  by_cases c505 : k = 505
  · subst c505
    exact va_atE rfl hh
  by_cases c506 : k = 506
  · subst c506
    show H[_]? = some (vp_cell (cy 4) (16, .inr (.inr (.inr (.inr (fun k => some (mAd ad q1 q2 q3 q4 q5 q6 q7 q8 q9 q10 q11 q12 q13 q14 q15 q16 q17 q18 q19 q20 q21 q22 q23 r7 r8 r9 r10 r11 r12 r15 r19 r20 (506 + 1 + k))))))))
    have e0 : H[mAd ad q1 q2 q3 q4 q5 q6 q7 q8 q9 q10 q11 q12 q13 q14 q15 q16 q17 q18 q19 q20 q21 q22 q23 r7 r8 r9 r10 r11 r12 r15 r19 r20 506]? = some (vp_cell (cy 4) (16, .inr (.inr (.inr (.inr (fun i => if i < 16 then some (r19 i) else none)))))) := hh
    rw [vp_cell_q] at e0 ⊢
    rw [e0]
    congr 1
    try (apply arrV_cg; intro j hj; rw [if_pos hj, mA_506 ad q1 q2 q3 q4 q5 q6 q7 q8 q9 q10 q11 q12 q13 q14 q15 q16 q17 q18 q19 q20 q21 q22 q23 r7 r8 r9 r10 r11 r12 r15 r19 r20 hj])
  by_cases d506 : k < 523
  · obtain ⟨g1, g2⟩ := mk_506 k (by omega) (by omega) d506
    refine va_atE ?_ hh
    rw [mE_506 ad q1 q2 q3 q4 q5 q6 q7 q8 q9 q10 q11 q12 q13 q14 q15 q16 q17 q18 q19 q20 q21 q22 q23 r7 r8 r9 r10 r11 r12 r15 r19 r20 (by omega) d506, gwe_22 g1, g2, gd0_z (by omega)]
  by_cases c523 : k = 523
  · subst c523
    show H[_]? = some (vp_cell (cy 4) (3, .inr (.inr (.inr (.inr (fun k => some (mAd ad q1 q2 q3 q4 q5 q6 q7 q8 q9 q10 q11 q12 q13 q14 q15 q16 q17 q18 q19 q20 q21 q22 q23 r7 r8 r9 r10 r11 r12 r15 r19 r20 (523 + 1 + k))))))))
    have e0 : H[mAd ad q1 q2 q3 q4 q5 q6 q7 q8 q9 q10 q11 q12 q13 q14 q15 q16 q17 q18 q19 q20 q21 q22 q23 r7 r8 r9 r10 r11 r12 r15 r19 r20 523]? = some (vp_cell (cy 4) (3, .inr (.inr (.inr (.inr (fun i => if i < 3 then some (r20 i) else none)))))) := hh
    rw [vp_cell_q] at e0 ⊢
    rw [e0]
    congr 1
    try (apply arrV_cg; intro j hj; rw [if_pos hj, mA_523 ad q1 q2 q3 q4 q5 q6 q7 q8 q9 q10 q11 q12 q13 q14 q15 q16 q17 q18 q19 q20 q21 q22 q23 r7 r8 r9 r10 r11 r12 r15 r19 r20 hj])
  by_cases d523 : k < 527
  · obtain ⟨g1, g2⟩ := mk_523 k (by omega) (by omega) d523
    refine va_atE ?_ hh
    rw [mE_523 ad q1 q2 q3 q4 q5 q6 q7 q8 q9 q10 q11 q12 q13 q14 q15 q16 q17 q18 q19 q20 q21 q22 q23 r7 r8 r9 r10 r11 r12 r15 r19 r20 (by omega) d523, gwe_22 g1, g2, gd0_z (by omega)]
  by_cases c527 : k = 527
  · subst c527
    exact va_atE rfl hh
  by_cases c528 : k = 528
  · subst c528
    exact va_atE rfl hh
  by_cases c529 : k = 529
  · subst c529
    exact va_atE rfl hh
  omega
