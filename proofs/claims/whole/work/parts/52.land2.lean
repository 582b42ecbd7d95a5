/-! ===== a Land passes a DAY ===== -/
theorem LR_cg {μ : Mm} {p : Nat} {z y : Nat → Nat} (h : LR μ p z) (h2 : z 2 ≤ 5) (h3 : z 3 ≤ 7) (e : ∀ x, x < 58 → z x = y x) : LR μ p y := by
  obtain ⟨r0, r1, r2, r3, r4, r5, r6, r7, r8⟩ := h
  have lv : lvz z (z 3) = lvz y (z 3) := lvz_cg _ (fun a ha => e _ (by omega))
  unfold LR
  rw [← e 0 (by decide), ← e 1 (by decide), ← e 2 (by decide), ← e 3 (by decide), ← e 4 (by decide), ← e 5 (by decide), ← lv]
  refine ⟨r0, r1, r2, r3, r4, r5, r6, fun t ht => ?_, fun a ha => ?_⟩
  · rw [← e _ (by omega), ← e _ (by omega)]
    exact r7 t ht
  · rw [← e _ (by omega), ← e _ (by omega), ← e _ (by omega), ← e _ (by omega), ← e _ (by omega), ← e _ (by omega)]
    exact r8 a ha
theorem dz_dead2 {z : Nat → Nat} (hz : VL z) {q : Nat} (hq : q < z 3) (h : ¬ z (21 + 6 * q) = 0) : dz 0 z (21 + 6 * q) = z (21 + 6 * q) := by
  have h2 := hz.2.2.1
  rw [dz_5 hq]
  unfold ndd
  rw [tz_ge (by omega), if_neg (fun c => h c.1)]
theorem dz_live2 {z : Nat → Nat} (hz : VL z) {q : Nat} (hq : q < z 3) (h : z (21 + 6 * q) = 0) : dz 0 z (21 + 6 * q) = 0 ∨ dz 0 z (21 + 6 * q) = z 4 + 1 := by
  have h2 := hz.2.2.1
  rw [dz_5 hq]
  unfold ndd
  rw [tz_ge (i := 21 + 6 * q) (by omega), tz_lo (i := 4) (by decide)]
  split
  · exact Or.inr rfl
  · exact Or.inl h
theorem dc_1 {z : Nat → Nat} (hz : VL z) {q : Nat} (hq : q < z 3) (h : z (21 + 6 * q) = 0) (h2 : ¬ dz 0 z (21 + 6 * q) = 0) : dc (tz 0 z (z 2)) (q + 1) = dc (tz 0 z (z 2)) q + 1 := by
  have v2 := hz.2.2.1
  rw [dz_5 hq] at h2
  unfold ndd at h2
  show dc (tz 0 z (z 2)) q + (if _ then 1 else 0) = _
  split
  · rfl
  · rename_i c
    rw [if_neg c, tz_ge (by omega)] at h2
    exact absurd h h2
theorem dc_0 {z : Nat → Nat} (hz : VL z) {q : Nat} (hq : q < z 3) (h : ¬ z (21 + 6 * q) = 0 ∨ dz 0 z (21 + 6 * q) = 0) : dc (tz 0 z (z 2)) (q + 1) = dc (tz 0 z (z 2)) q := by
  have v2 := hz.2.2.1
  show dc (tz 0 z (z 2)) q + (if _ then 1 else 0) = _
  split
  · rename_i c
    have c1 := c.1
    rw [tz_ge (by omega)] at c1
    rcases h with h | h
    · exact absurd c1 h
    · rw [dz_5 hq] at h
      unfold ndd at h
      rw [if_pos c] at h
      exact absurd h (by omega)
  · rfl
theorem LR_setp {μ : Mm} {p : Nat} {z : Nat → Nat} {e c q v : Nat} (h : LR μ p z) (h2 : z 2 ≤ 5) (hc : (e = 5 ∧ c = 18) ∨ (e = 7 ∧ c = 20)) : LR (up μ (p + e) q (nI v)) p (un z (c + 6 * q) v) := by
  obtain ⟨r0, r1, r2, r3, r4, r5, r6, r7, r8⟩ := h
  have lo : ∀ i, i < 16 → un z (c + 6 * q) v i = z i := fun i hi => un_n _ _ (by omega)
  have lv : lvz (un z (c + 6 * q) v) (z 3) = lvz z (z 3) := lvz_cg _ (fun a _ => un_n _ _ (by omega))
  have cell : ∀ a, a ≠ p + e → (up μ (p + e) q (nI v)) a = μ a := fun a ha => by rw [up_eq]; exact upc_n _ _ ha
  have here : ∀ a, (up μ (p + e) q (nI v)) (p + e) a = if a = q then nI v else μ (p + e) a := fun a => by rw [up_eq, upc_s]; rfl
  have un1 : ∀ a, un z (c + 6 * q) v (c + 6 * a) = if a = q then v else z (c + 6 * a) := fun a => by
    by_cases ea : a = q
    · rw [if_pos ea, ea, un_s]
    · rw [if_neg ea, un_n _ _ (by omega)]
  have un2 : ∀ b a, 16 ≤ b → b ≤ 21 → b ≠ c → un z (c + 6 * q) v (b + 6 * a) = z (b + 6 * a) := fun b a h1 h2 h3 => un_n _ _ (by omega)
  unfold LR
  rw [lo 0 (by decide), lo 1 (by decide), lo 2 (by decide), lo 3 (by decide), lo 4 (by decide), lo 5 (by decide), lv, cell p (by omega), cell (p + 1) (by omega), cell (p + 2) (by omega)]
  refine ⟨r0, r1, r2, r3, r4, r5, r6, fun t ht => ?_, fun a ha => ?_⟩
  · rw [lo _ (by omega), lo _ (by omega)]
    exact r7 t ht
  · obtain ⟨q0, q1, q2, q3, q4, q5⟩ := r8 a ha
    rcases hc with ⟨rfl, rfl⟩ | ⟨rfl, rfl⟩
    · rw [cell (p + 3) (by omega), cell (p + 4) (by omega), cell (p + 6) (by omega), cell (p + 7) (by omega), cell (p + 8) (by omega), un2 16 a (by decide) (by decide) (by decide), un2 17 a (by decide) (by decide) (by decide), un2 19 a (by decide) (by decide) (by decide), un2 20 a (by decide) (by decide) (by decide), un2 21 a (by decide) (by decide) (by decide), un1 a, here a]
      refine ⟨q0, q1, ?_, q3, q4, q5⟩
      split
      · rfl
      · exact q2
    · rw [cell (p + 3) (by omega), cell (p + 4) (by omega), cell (p + 5) (by omega), cell (p + 6) (by omega), cell (p + 8) (by omega), un2 16 a (by decide) (by decide) (by decide), un2 17 a (by decide) (by decide) (by decide), un2 18 a (by decide) (by decide) (by decide), un2 19 a (by decide) (by decide) (by decide), un2 21 a (by decide) (by decide) (by decide), un1 a, here a]
      refine ⟨q0, q1, q2, q3, ?_, q5⟩
      split
      · rfl
      · exact q4
