/-! ===== names, safest, meet ===== -/
theorem VL_un {z : Nat → Nat} {q c v : Nat} (hz : VL z) (hc : 16 ≤ c) (hc' : c ≤ 21) (h6 : c = 16 → 1 ≤ v ∧ v ≤ 5) (h7 : c = 17 → v < z 2) (h8 : c = 18 → v < z 0) (h9 : c = 19 → v ≤ 9) (h10 : c = 20 → v ≤ 60) (h11 : c = 21 → v ≤ z 4) : VL (un z (c + 6 * q) v) := by
  obtain ⟨v0, v1, v2, v3, v4, v5, v6, v7, v8⟩ := hz
  have lo : ∀ i, i < 16 → un z (c + 6 * q) v i = z i := fun i hi => un_n _ _ (by omega)
  unfold VL
  rw [lo 0 (by decide), lo 1 (by decide), lo 2 (by decide), lo 3 (by decide), lo 4 (by decide), lo 5 (by decide)]
  refine ⟨v0, v1, v2, v3, v4, v5, v6, fun t ht => ?_, fun p hp => ?_⟩
  · rw [lo _ (by omega), lo _ (by omega)]
    exact v7 t ht
  · obtain ⟨⟨w1, w1'⟩, w2, w3, w4, w5, w6⟩ := v8 p hp
    have e : ∀ e, 16 ≤ e → e ≤ 21 → un z (c + 6 * q) v (e + 6 * p) = v ∧ c = e ∨ un z (c + 6 * q) v (e + 6 * p) = z (e + 6 * p) := by
      intro e he he'
      by_cases h : e + 6 * p = c + 6 * q
      · left
        rw [h, un_s]
        exact ⟨rfl, by omega⟩
      · right
        exact un_n _ _ h
    have e6 := e 16 (by decide) (by decide)
    have e7 := e 17 (by decide) (by decide)
    have e8 := e 18 (by decide) (by decide)
    have e9 := e 19 (by decide) (by decide)
    have e10 := e 20 (by decide) (by decide)
    have e11 := e 21 (by decide) (by decide)
    refine ⟨⟨?_, ?_⟩, ?_, ?_, ?_, ?_, ?_⟩
    · rcases e6 with ⟨a, b⟩ | a
      · rw [a]; exact (h6 b).1
      · rw [a]; exact w1
    · rcases e6 with ⟨a, b⟩ | a
      · rw [a]; exact (h6 b).2
      · rw [a]; exact w1'
    · rcases e7 with ⟨a, b⟩ | a
      · rw [a]; exact h7 b
      · rw [a]; exact w2
    · rcases e8 with ⟨a, b⟩ | a
      · rw [a]; exact h8 b
      · rw [a]; exact w3
    · rcases e9 with ⟨a, b⟩ | a
      · rw [a]; exact h9 b
      · rw [a]; exact w4
    · rcases e10 with ⟨a, b⟩ | a
      · rw [a]; exact h10 b
      · rw [a]; exact w5
    · rcases e11 with ⟨a, b⟩ | a
      · rw [a]; exact h11 b
      · rw [a]; exact w6
theorem ten {P : Nat → Prop} (h0 : P 0) (h1 : P 1) (h2 : P 2) (h3 : P 3) (h4 : P 4) (h5 : P 5) (h6 : P 6) (h7 : P 7) (h8 : P 8) (h9 : P 9) : ∀ j, j < 10 → P j := by
  intro j hj
  rcases (show j = 0 ∨ j = 1 ∨ j = 2 ∨ j = 3 ∨ j = 4 ∨ j = 5 ∨ j = 6 ∨ j = 7 ∨ j = 8 ∨ j = 9 by omega) with rfl | rfl | rfl | rfl | rfl | rfl | rfl | rfl | rfl | rfl
  all_goals assumption
/-- another name -/
theorem FM_name {g : Nat → Int32} {z : Nat → Nat} {q t : Nat} (h : FM g (pj z q)) (ht : t < 5) : FM (upd (upd g 3 (nI (z (6 + 2 * t)))) 4 (nI (if z 5 / 2 ^ t % 2 = 0 then z (7 + 2 * t) else 0))) (pj (un z (17 + 6 * q) t) q) := by
  have a : ∀ i, i < 16 → un z (17 + 6 * q) t i = z i := fun i hi => un_n _ _ (by omega)
  have b : un z (17 + 6 * q) t (17 + 6 * q) = t := un_s _ _ _
  have e : ∀ e, e ≠ 17 → 16 ≤ e → e ≤ 21 → un z (17 + 6 * q) t (e + 6 * q) = z (e + 6 * q) := fun e h1 h2 h3 => un_n _ _ (by omega)
  refine ten ?_ ?_ ?_ ?_ ?_ ?_ ?_ ?_ ?_ ?_
  · show g 0 = nI (un z (17 + 6 * q) t 0)
    rw [a 0 (by decide)]; exact h 0 (by decide)
  · show g 1 = nI (un z (17 + 6 * q) t 1)
    rw [a 1 (by decide)]; exact h 1 (by decide)
  · show g 2 = nI (un z (17 + 6 * q) t 4)
    rw [a 4 (by decide)]; exact h 2 (by decide)
  · show nI (z (6 + 2 * t)) = nI (un z (17 + 6 * q) t (6 + 2 * un z (17 + 6 * q) t (17 + 6 * q)))
    rw [b, a _ (by omega)]
  · show nI (if z 5 / 2 ^ t % 2 = 0 then z (7 + 2 * t) else 0) = nI (if un z (17 + 6 * q) t 5 / 2 ^ un z (17 + 6 * q) t (17 + 6 * q) % 2 = 0 then un z (17 + 6 * q) t (7 + 2 * un z (17 + 6 * q) t (17 + 6 * q)) else 0)
    rw [b, a 5 (by decide), a _ (by omega)]
  · show g 5 = nI (un z (17 + 6 * q) t (16 + 6 * q))
    rw [e 16 (by decide) (by decide) (by decide)]; exact h 5 (by decide)
  · show g 6 = nI (un z (17 + 6 * q) t (18 + 6 * q))
    rw [e 18 (by decide) (by decide) (by decide)]; exact h 6 (by decide)
  · show g 7 = nI (un z (17 + 6 * q) t (19 + 6 * q))
    rw [e 19 (by decide) (by decide) (by decide)]; exact h 7 (by decide)
  · show g 8 = nI (un z (17 + 6 * q) t (20 + 6 * q))
    rw [e 20 (by decide) (by decide) (by decide)]; exact h 8 (by decide)
  · show g 9 = nI (if un z (17 + 6 * q) t (21 + 6 * q) = 0 then 1 else 0)
    rw [e 21 (by decide) (by decide) (by decide)]; exact h 9 (by decide)
/-- another sort, PLACE or step -/
theorem FM_own {g : Nat → Int32} {z : Nat → Nat} {q j c v : Nat} (h : FM g (pj z q)) (h17 : z (17 + 6 * q) < 5) (hc : (c = 16 ∧ j = 5) ∨ (c = 18 ∧ j = 6) ∨ (c = 19 ∧ j = 7) ∨ (c = 20 ∧ j = 8)) : FM (upd g j (nI v)) (pj (un z (c + 6 * q) v) q) := by
  have a : ∀ i, i < 16 → un z (c + 6 * q) v i = z i := fun i hi => un_n _ _ (by omega)
  have b : un z (c + 6 * q) v (17 + 6 * q) = z (17 + 6 * q) := un_n _ _ (by omega)
  have b2 : un z (c + 6 * q) v (21 + 6 * q) = z (21 + 6 * q) := un_n _ _ (by omega)
  have n1 : ∀ i, i ≠ j → i < 10 → upd g j (nI v) i = nI (pj z q i) := fun i hi h10 => by rw [upd_n _ _ hi]; exact h i h10
  have lo : ∀ t, t < 16 → un z (c + 6 * q) v t = z t := a
  refine ten ?_ ?_ ?_ ?_ ?_ ?_ ?_ ?_ ?_ ?_
  · rw [n1 0 (by omega) (by decide)]
    show nI (z 0) = nI (un z (c + 6 * q) v 0)
    rw [a 0 (by decide)]
  · rw [n1 1 (by omega) (by decide)]
    show nI (z 1) = nI (un z (c + 6 * q) v 1)
    rw [a 1 (by decide)]
  · rw [n1 2 (by omega) (by decide)]
    show nI (z 4) = nI (un z (c + 6 * q) v 4)
    rw [a 4 (by decide)]
  · rw [n1 3 (by omega) (by decide)]
    show nI (z (6 + 2 * z (17 + 6 * q))) = nI (un z (c + 6 * q) v (6 + 2 * un z (c + 6 * q) v (17 + 6 * q)))
    rw [b, a _ (by omega)]
  · rw [n1 4 (by omega) (by decide)]
    show nI (if z 5 / 2 ^ z (17 + 6 * q) % 2 = 0 then z (7 + 2 * z (17 + 6 * q)) else 0) = nI (if un z (c + 6 * q) v 5 / 2 ^ un z (c + 6 * q) v (17 + 6 * q) % 2 = 0 then un z (c + 6 * q) v (7 + 2 * un z (c + 6 * q) v (17 + 6 * q)) else 0)
    rw [b, a 5 (by decide), a _ (by omega)]
  · show upd g j (nI v) 5 = nI (un z (c + 6 * q) v (16 + 6 * q))
    by_cases e : c = 16
    · obtain rfl : j = 5 := by omega
      subst e
      rw [upd_s, un_s]
    · rw [n1 5 (by omega) (by decide), un_n _ _ (by omega)]
      rfl
  · show upd g j (nI v) 6 = nI (un z (c + 6 * q) v (18 + 6 * q))
    by_cases e : c = 18
    · obtain rfl : j = 6 := by omega
      subst e
      rw [upd_s, un_s]
    · rw [n1 6 (by omega) (by decide), un_n _ _ (by omega)]
      rfl
  · show upd g j (nI v) 7 = nI (un z (c + 6 * q) v (19 + 6 * q))
    by_cases e : c = 19
    · obtain rfl : j = 7 := by omega
      subst e
      rw [upd_s, un_s]
    · rw [n1 7 (by omega) (by decide), un_n _ _ (by omega)]
      rfl
  · show upd g j (nI v) 8 = nI (un z (c + 6 * q) v (20 + 6 * q))
    by_cases e : c = 20
    · obtain rfl : j = 8 := by omega
      subst e
      rw [upd_s, un_s]
    · rw [n1 8 (by omega) (by decide), un_n _ _ (by omega)]
      rfl
  · rw [n1 9 (by omega) (by decide)]
    show nI (if z (21 + 6 * q) = 0 then 1 else 0) = nI (if un z (c + 6 * q) v (21 + 6 * q) = 0 then 1 else 0)
    rw [b2]
