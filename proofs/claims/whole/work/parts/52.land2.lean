/-! ===== a Land passes a DAY ===== -/
theorem LR_cg {μ : Mm} {p : Nat} {z y : Nat → Nat} (h : LR μ p z) (h2 : z 2 ≤ 5) (h3 : z 3 ≤ 7) (e : ∀ x, x < 58 → z x = y x) : LR μ p y := by
  obtain ⟨r0, r1, r2, r3, r4, r5, r6, r7, r8⟩ := h
  have lv : lvz z (z 3) = lvz y (z 3) := lvz_cg _ (fun a ha => e _ (by omega))
  unfold LR
  rw [← e 0 (by decide), ← e 1 (by decide), ← e 2 (by decide), ← e 3 (by decide), ← e 4 (by decide), ← e 5 (by decide), ← lv]
  refine ⟨r0, r1, r2, r3, r4, r5, r6, fun t ht => ?_, fun a ha => ?_⟩
  · rw [← e _ (by omega), ← e _ (by omega)]
    exact r7 t ht
  · rw [← e _ (by omega), ← e _ (by omega), ← e _ (by omega), ← e _ (by omega), ← e _ (by omega), ← e _ (by omega)]
    exact r8 a ha
theorem dz_dead2 {z : Nat → Nat} (hz : VL z) {q : Nat} (hq : q < z 3) (h : ¬ z (21 + 6 * q) = 0) : dz 0 z (21 + 6 * q) = z (21 + 6 * q) := by
  have h2 := hz.2.2.1
  rw [dz_5 hq]
  unfold ndd
  rw [tz_ge (by omega), if_neg (fun c => h c.1)]
theorem dz_live2 {z : Nat → Nat} (hz : VL z) {q : Nat} (hq : q < z 3) (h : z (21 + 6 * q) = 0) : dz 0 z (21 + 6 * q) = 0 ∨ dz 0 z (21 + 6 * q) = z 4 + 1 := by
  have h2 := hz.2.2.1
  rw [dz_5 hq]
  unfold ndd
  rw [tz_ge (i := 21 + 6 * q) (by omega), tz_lo (i := 4) (by decide)]
  split
  · exact Or.inr rfl
  · exact Or.inl h
theorem dc_1 {z : Nat → Nat} (hz : VL z) {q : Nat} (hq : q < z 3) (h : z (21 + 6 * q) = 0) (h2 : ¬ dz 0 z (21 + 6 * q) = 0) : dc (tz 0 z (z 2)) (q + 1) = dc (tz 0 z (z 2)) q + 1 := by
  have v2 := hz.2.2.1
  rw [dz_5 hq] at h2
  unfold ndd at h2
  show dc (tz 0 z (z 2)) q + (if _ then 1 else 0) = _
  split
  · rfl
  · rename_i c
    rw [if_neg c, tz_ge (by omega)] at h2
    exact absurd h h2
theorem dc_0 {z : Nat → Nat} (hz : VL z) {q : Nat} (hq : q < z 3) (h : ¬ z (21 + 6 * q) = 0 ∨ dz 0 z (21 + 6 * q) = 0) : dc (tz 0 z (z 2)) (q + 1) = dc (tz 0 z (z 2)) q := by
  have v2 := hz.2.2.1
  show dc (tz 0 z (z 2)) q + (if _ then 1 else 0) = _
  split
  · rename_i c
    have c1 := c.1
    rw [tz_ge (by omega)] at c1
    rcases h with h | h
    · exact absurd c1 h
    · rw [dz_5 hq] at h
      unfold ndd at h
      rw [if_pos c] at h
      exact absurd h (by omega)
  · rfl
