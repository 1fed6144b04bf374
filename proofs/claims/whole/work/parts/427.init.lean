set_option maxRecDepth 16384
/-! the two when they are new: related -/
theorem tells_0 : ∃ e1, m_X10_tellsNothing 55 gd0 = some e1 ∧ (∀ i, i ≠ 58 → e1.1 i = gd0.1 i) ∧ e1.2 = gd0.2 ∧ e1.1 58 0 = 0 ∧ e1.1 58 1 = 0 ∧ e1.1 58 2 = 9 ∧ e1.1 58 3 = 0 := by
  refine ⟨_, rfl, fun i hi => ?_, rfl, rfl, rfl, rfl, rfl⟩
  rw [gr_n _ _ hi, gr_n _ _ hi, gr_n _ _ hi, gr_n _ _ hi]
theorem init_rel {N : Nat} (hN : 300 < N) : ∃ e1 d1, m_X10_tellsNothing 55 gd0 = some e1 ∧ m_X10_beginsAnew N 55 e1 = some d1 ∧ gRel gc0 d1 := by
  obtain ⟨e1, h1, f1, g1, t0, t1, t2, t3⟩ := tells_0
  obtain ⟨d1, h2, f2, g2, s59, s61, s503, -, s56, s57, s58, s5, s17, s0⟩ := anew_d (d := e1) (th := 0) (m := 0) t0 t1 (by omega) (by omega) hN
  have z55 : ∀ s, s < 17 ∨ s = 36 → d1.1 55 s = gd0.1 55 s := fun s hs => by rw [s0 s hs, f1 55 (by omega)]
  refine ⟨e1, d1, h1, h2, 0, 0, 0, ⟨Or.inl ⟨rfl, rfl⟩, Or.inl ⟨rfl, rfl⟩⟩, by omega, ⟨⟨rfl, by omega, rfl, rfl, ?_, rfl, ?_, ?_, fun a ha => by omega, fun a ha => by omega, fun k hk => by omega⟩, ⟨by omega, s56, fun a ha => by omega, fun c hc => by omega, 9, by omega, ?_⟩, ⟨?_, ?_, by omega⟩, ?_⟩, ⟨fun a ha => by omega, rfl⟩, ⟨0, by omega, rfl, ?_, fun j hj => by omega⟩, ⟨?_, ?_, ?_, ?_⟩, ⟨0, by omega, rfl, s17 32 (by omega), fun k hk => by omega⟩, ⟨0, by omega, rfl, s17 33 (by omega), fun k hk => by omega⟩, ⟨0, by omega, rfl, s17 35 (by omega), fun k hk => by omega⟩⟩
  · rw [s57, t2]; rfl
  · rw [s5]; rfl
  · rw [s58]; rfl
  · rw [s57, t2]; rfl
  · rw [s59 0 (by omega), t0]; rfl
  · rw [s59 3 (by omega), t3]; rfl
  · exact usual_l rfl rfl ⟨rfl, rfl, rfl, rfl, rfl⟩ (s17 17 (by omega))
  · rw [z55 1 (by omega)]; rfl
  · rw [z55 3 (by omega)]; rfl
  · rw [s17 34 (by omega)]; rfl
  · rw [f2 57 (by omega) (by omega) (by omega) (by omega) (by omega), f1 57 (by omega)]; rfl
  · rw [f2 57 (by omega) (by omega) (by omega) (by omega) (by omega), f1 57 (by omega)]; rfl
