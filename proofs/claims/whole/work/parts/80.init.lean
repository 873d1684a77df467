/-! PURE: at the start -/
theorem Inv_0 : Inv mm_I0 mm_L0 := by
  have z : ∀ t, t ≠ 10 → t ≠ 43 → mm_I0 t = fun _ => 0 := fun t h1 h2 => by
    unfold mm_I0
    rw [if_neg h1, if_neg h2]
  have d10 : ∀ d, d < 8 → mm_I0 10 d = -1 := by decide
  have d43 : ∀ d, d < 8 → mm_I0 43 d = -1 := by decide
  refine ⟨0, 0, ⟨by decide, by rw [z 2 (by decide) (by decide)]; rfl, by rw [z 36 (by decide) (by decide)]; rfl, fun n hn => absurd hn (by omega)⟩, ⟨id, fun i hi => absurd hi (by omega), fun i j _ hj => absurd hj (by omega), fun n hn => absurd hn (by omega)⟩, fun d hd => ⟨by rw [d10 d hd, d43 d hd], Or.inl (d10 d hd)⟩, fun t ht => ?_, fun p hp => ?_, ?_⟩
  · refine ⟨0, by decide, by rw [z (18 + t) (by omega) (by omega)]; rfl, by rw [z 44 (by decide) (by decide)]; rfl, fun j hj => absurd hj (by omega)⟩
  · refine ⟨fun i hi => by rw [z 47 (by decide) (by decide), z (30 + p) (by omega) (by omega)], by rw [z (24 + p) (by omega) (by omega)]; exact Or.inl rfl, by rw [z 48 (by decide) (by decide), z (24 + p) (by omega) (by omega)], rfl, rfl⟩
  · refine ⟨by decide, by rw [z 14 (by decide) (by decide)]; rfl, by rw [z 36 (by decide) (by decide)]; rfl, fun r hr => absurd hr (by omega), fun r _ _ => by rw [z 17 (by decide) (by decide)], fun r p hr => absurd hr (by omega)⟩
