/-! ===== a PERSON of a row, DAY by DAY ===== -/
def pj (z : Nat → Nat) (q : Nat) : Nat → Nat := fun j =>
  if j = 0 then z 0 else if j = 1 then z 1 else if j = 2 then z 4 else if j = 3 then z (6 + 2 * z (17 + 6 * q)) else if j = 4 then (if z 5 / 2 ^ z (17 + 6 * q) % 2 = 0 then z (7 + 2 * z (17 + 6 * q)) else 0) else if j = 5 then z (16 + 6 * q) else if j = 6 then z (18 + 6 * q) else if j = 7 then z (19 + 6 * q) else if j = 8 then z (20 + 6 * q) else (if z (21 + 6 * q) = 0 then 1 else 0)
theorem pj_VF {z : Nat → Nat} (hz : VL z) {q : Nat} (hq : q < z 3) : VF (pj z q) := by
  obtain ⟨v0, v1, v2, v3, v4, v5, v6, v7, v8⟩ := hz
  obtain ⟨⟨w1, w1'⟩, w2, w3, w4, w5, w6⟩ := v8 q hq
  obtain ⟨t1, t2⟩ := v7 _ w2
  refine ⟨⟨show 2 ≤ z 0 by omega, v0⟩, v1, v4, t1, ?_, ⟨w1, w1'⟩, w3, w4, w5, ?_⟩
  · show (if z 5 / 2 ^ z (17 + 6 * q) % 2 = 0 then z (7 + 2 * z (17 + 6 * q)) else 0) ≤ 15
    split
    · exact t2
    · omega
  · show (if z (21 + 6 * q) = 0 then 1 else 0) ≤ 1
    split <;> omega
theorem dz_hd {s i : Nat} {z : Nat → Nat} (h : i < 6) (h4 : i ≠ 4) : dz s z i = z i := by
  unfold dz dz1
  rw [un_n _ _ h4, pz_out (by omega), tz_lo h]
theorem dz_4 {s : Nat} {z : Nat → Nat} : dz s z 4 = z 4 + 1 := by
  unfold dz dz1
  rw [un_s, tz_lo (by decide)]
theorem dz_t {s t : Nat} {z : Nat → Nat} (h : t < z 2) (h5 : z 2 ≤ 5) : dz s z (6 + 2 * t) = mv s z t := by
  unfold dz dz1
  rw [un_n _ _ (by omega), pz_out (by omega), tz_ev h]
theorem dz_g {s t : Nat} {z : Nat → Nat} (h5 : t < 5) : dz s z (7 + 2 * t) = z (7 + 2 * t) := by
  unfold dz dz1
  rw [un_n _ _ (by omega), pz_out (by omega), tz_od]
theorem tz_3 {s : Nat} {z : Nat → Nat} : tz s z (z 2) 3 = z 3 := tz_lo (by decide)
theorem dz_c {s i : Nat} {z : Nat → Nat} (h : 16 ≤ i) (h5 : z 2 ≤ 5) (c2 : (i - 16) % 6 ≠ 2) (c5 : (i - 16) % 6 ≠ 5) (c4 : (i - 16) % 6 ≠ 4) : dz s z i = z i := by
  unfold dz dz1
  rw [un_n _ _ (by omega), pz_c c2 c5 c4, tz_ge (by omega)]
theorem dz_2 {s q : Nat} {z : Nat → Nat} (h : q < z 3) : dz s z (18 + 6 * q) = np (tz s z (z 2)) q := by
  unfold dz dz1
  rw [un_n _ _ (by omega), tz_3, pz_2 h]
theorem dz_5 {s q : Nat} {z : Nat → Nat} (h : q < z 3) : dz s z (21 + 6 * q) = ndd (tz s z (z 2)) q := by
  unfold dz dz1
  rw [un_n _ _ (by omega), tz_3, pz_5 h]
theorem dz_i {s q : Nat} {z : Nat → Nat} (h : q < z 3) (h5 : z 2 ≤ 5) : dz s z (20 + 6 * q) = z (20 + 6 * q) - 1 := by
  unfold dz dz1
  rw [un_n _ _ (by omega), tz_3, pz_4 h, tz_ge (by omega)]
theorem np_lt {z : Nat → Nat} {q : Nat} (hn : 0 < z 0) (ha : z (18 + 6 * q) < z 0) : np z q < z 0 := by
  unfold np
  split
  · exact gz_lt hn ha
  · exact ha
theorem VL_dz {s : Nat} {z : Nat → Nat} (hz : VL z) (h4 : z 4 < 2000) : VL (dz s z) := by
  have hz1 := VL_tz (s := s) hz
  have hm := fun t => mv_lt (s := s) hz (t := t)
  obtain ⟨u0, u1, u2, u3, u4, u5, u6, u7, u8⟩ := hz1
  obtain ⟨v0, v1, v2, v3, v4, v5, v6, v7, v8⟩ := hz
  unfold VL
  rw [dz_hd (i := 0) (by decide) (by decide), dz_hd (i := 1) (by decide) (by decide), dz_hd (i := 2) (by decide) (by decide), dz_hd (i := 3) (by decide) (by decide), dz_4, dz_hd (i := 5) (by decide) (by decide)]
  refine ⟨v0, v1, v2, v3, by omega, v5, v6, fun t ht => ?_, fun q hq => ?_⟩
  · rw [dz_t ht v2, dz_g (by omega)]
    exact ⟨hm t ht, (v7 t ht).2⟩
  · obtain ⟨w1, w2, w3, w4, w5, w6⟩ := v8 q hq
    obtain ⟨x1, x2, x3, x4, x5, x6⟩ := u8 q (by rw [tz_3]; exact hq)
    have a0 : tz s z (z 2) 0 = z 0 := tz_lo (by decide)
    have a4 : tz s z (z 2) 4 = z 4 := tz_lo (by decide)
    rw [dz_c (i := 16 + 6 * q) (by omega) v2 (by omega) (by omega) (by omega), dz_c (i := 17 + 6 * q) (by omega) v2 (by omega) (by omega) (by omega), dz_2 hq, dz_c (i := 19 + 6 * q) (by omega) v2 (by omega) (by omega) (by omega), dz_i hq v2, dz_5 hq]
    refine ⟨w1, w2, ?_, w4, by omega, ?_⟩
    · have := np_lt (z := tz s z (z 2)) (q := q) (by omega) x3
      rw [a0] at this
      exact this
    · unfold ndd
      split
      · omega
      · rw [a4] at x6
        omega
theorem mod_up {t n : Nat} (h : t < n) : (t + 1) % n = if t + 1 = n then 0 else t + 1 := by
  by_cases e : t + 1 = n
  · rw [if_pos e, e, Nat.mod_self]
  · rw [if_neg e, Nat.mod_eq_of_lt (by omega)]
theorem mod_dn {a n : Nat} (h : a < n) : (a + n - 1) % n = if a = 0 then n - 1 else a - 1 := by
  by_cases e : a = 0
  · rw [if_pos e, e, Nat.mod_eq_of_lt (by omega)]
    omega
  · rw [if_neg e, show a + n - 1 = a - 1 + n by omega, Nat.add_mod_right, Nat.mod_eq_of_lt (by omega)]
theorem chase {t a n : Nat} (ht : t < n) (ha : a < n) : ((t + 1) % n = a) ↔ (t = (a + n - 1) % n) := by
  rw [mod_up ht, mod_dn ha]
  split <;> split <;> omega
theorem tF_pj {z : Nat → Nat} (hz : VL z) {q : Nat} (hq : q < z 3) : tF (pj z q) = tz 0 z (z 2) (6 + 2 * z (17 + 6 * q)) := by
  obtain ⟨v0, v1, v2, v3, v4, v5, v6, v7, v8⟩ := hz
  obtain ⟨w1, w2, w3, w4, w5, w6⟩ := v8 q hq
  obtain ⟨t1, t2⟩ := v7 _ w2
  rw [tz_ev w2]
  unfold mv
  rw [Nat.or_zero]
  show (z (6 + 2 * z (17 + 6 * q)) + (if z 5 / 2 ^ z (17 + 6 * q) % 2 = 0 then z (7 + 2 * z (17 + 6 * q)) else 0)) % z 0 = _
  split
  · rfl
  · rw [Nat.add_zero, Nat.mod_eq_of_lt t1]
theorem gF_pj {z : Nat → Nat} (hz : VL z) {q : Nat} (hq : q < z 3) : gF (un (pj z q) 3 (tF (pj z q))) = gz (tz 0 z (z 2)) q := by
  have hm := mv_lt (s := 0) hz (t := z (17 + 6 * q))
  have ht := tF_pj hz hq
  obtain ⟨v0, v1, v2, v3, v4, v5, v6, v7, v8⟩ := hz
  obtain ⟨w1, w2, w3, w4, w5, w6⟩ := v8 q hq
  have hm := hm w2
  unfold gF gz
  rw [tz_lo (i := 0) (by decide), tz_lo (i := 1) (by decide), tz_ge (i := 16 + 6 * q) (by omega), tz_ge (i := 17 + 6 * q) (by omega), tz_ge (i := 18 + 6 * q) (by omega), tz_ge (i := 19 + 6 * q) (by omega), ← ht]
  have e3 : un (pj z q) 3 (tF (pj z q)) 3 = tF (pj z q) := un_s _ _ _
  have e0 : un (pj z q) 3 (tF (pj z q)) 0 = z 0 := rfl
  have e1 : un (pj z q) 3 (tF (pj z q)) 1 = z 1 := rfl
  have e5 : un (pj z q) 3 (tF (pj z q)) 5 = z (16 + 6 * q) := rfl
  have e6 : un (pj z q) 3 (tF (pj z q)) 6 = z (18 + 6 * q) := rfl
  have e7 : un (pj z q) 3 (tF (pj z q)) 7 = z (19 + 6 * q) := rfl
  rw [e0, e1, e3, e5, e6, e7]
  have htl : tF (pj z q) < z 0 := by
    rw [ht, tz_ev w2]
    exact hm
  have hc := chase (t := tF (pj z q)) (a := z (18 + 6 * q)) htl w3
  have hs : ∀ (P Q : Prop) [Decidable P] [Decidable Q] (x y : Nat), (P ↔ Q) → (if P then x else y) = (if Q then x else y) := by
    intro P Q _ _ x y h
    by_cases hp : P
    · rw [if_pos hp, if_pos (h.mp hp)]
    · rw [if_neg hp, if_neg (fun c => hp (h.mpr c))]
  rw [hs _ _ _ _ hc, hs _ _ ((z (18 + 6 * q) + z 1) % z 0) _ hc, hs ((z (18 + 6 * q) + z (19 + 6 * q)) % z 0 = tF (pj z q)) (tF (pj z q) = (z (18 + 6 * q) + z (19 + 6 * q)) % z 0) _ _ ⟨Eq.symm, Eq.symm⟩]
theorem pF_pj {z : Nat → Nat} (hz : VL z) {q : Nat} (hq : q < z 3) : pF (pj z q) = np (tz 0 z (z 2)) q := by
  have hg := gF_pj hz hq
  obtain ⟨v0, v1, v2, v3, v4, v5, v6, v7, v8⟩ := hz
  unfold pF np
  rw [hg, tz_ge (i := 21 + 6 * q) (by omega), tz_ge (i := 20 + 6 * q) (by omega), tz_ge (i := 18 + 6 * q) (by omega)]
  have e9 : pj z q 9 = if z (21 + 6 * q) = 0 then 1 else 0 := rfl
  have e8 : pj z q 8 = z (20 + 6 * q) := rfl
  have e6 : pj z q 6 = z (18 + 6 * q) := rfl
  rw [e9, e8, e6]
  by_cases c : z (21 + 6 * q) = 0
  · rw [if_pos c]
    by_cases c2 : z (20 + 6 * q) = 0
    · rw [if_pos ⟨by decide, c2⟩, if_pos ⟨c, c2⟩]
    · rw [if_neg (fun h => c2 h.2), if_neg (fun h => c2 h.2)]
  · rw [if_neg c, if_neg (fun h => h.1 rfl), if_neg (fun h => c h.1)]
/-- ONE DAY: the class's PERSON is the reference's -/
theorem pj_dz {z : Nat → Nat} (hz : VL z) {q : Nat} (hq : q < z 3) : ∀ j, j < 10 → dayF (pj z q) j = pj (dz 0 z) q j := by
  have hp := pF_pj hz hq
  have ht := tF_pj hz hq
  have hz' := hz
  obtain ⟨v0, v1, v2, v3, v4, v5, v6, v7, v8⟩ := hz
  obtain ⟨w1, w2, w3, w4, w5, w6⟩ := v8 q hq
  have n17 : dz 0 z (17 + 6 * q) = z (17 + 6 * q) := dz_c (by omega) v2 (by omega) (by omega) (by omega)
  intro j hj
  rcases (show j = 0 ∨ j = 1 ∨ j = 2 ∨ j = 3 ∨ j = 4 ∨ j = 5 ∨ j = 6 ∨ j = 7 ∨ j = 8 ∨ j = 9 by omega) with rfl | rfl | rfl | rfl | rfl | rfl | rfl | rfl | rfl | rfl
  · show z 0 = dz 0 z 0
    rw [dz_hd (by decide) (by decide)]
  · show z 1 = dz 0 z 1
    rw [dz_hd (by decide) (by decide)]
  · show z 4 + 1 = dz 0 z 4
    rw [dz_4]
  · show tF (pj z q) = dz 0 z (6 + 2 * dz 0 z (17 + 6 * q))
    rw [n17, dz_t w2 v2, ht, tz_ev w2]
  · show (if z 5 / 2 ^ z (17 + 6 * q) % 2 = 0 then z (7 + 2 * z (17 + 6 * q)) else 0) = (if dz 0 z 5 / 2 ^ dz 0 z (17 + 6 * q) % 2 = 0 then dz 0 z (7 + 2 * dz 0 z (17 + 6 * q)) else 0)
    rw [n17, dz_hd (i := 5) (by decide) (by decide), dz_g (by omega)]
  · show z (16 + 6 * q) = dz 0 z (16 + 6 * q)
    rw [dz_c (by omega) v2 (by omega) (by omega) (by omega)]
  · show pF (pj z q) = dz 0 z (18 + 6 * q)
    rw [dz_2 hq, hp]
  · show z (19 + 6 * q) = dz 0 z (19 + 6 * q)
    rw [dz_c (by omega) v2 (by omega) (by omega) (by omega)]
  · show z (20 + 6 * q) - 1 = dz 0 z (20 + 6 * q)
    rw [dz_i hq v2]
  · show lF (pj z q) = if dz 0 z (21 + 6 * q) = 0 then 1 else 0
    rw [dz_5 hq]
    unfold lF ndd
    rw [hp, ht, tz_ge (i := 21 + 6 * q) (by omega), tz_ge (i := 16 + 6 * q) (by omega), tz_ge (i := 17 + 6 * q) (by omega), tz_lo (i := 1) (by decide), tz_lo (i := 4) (by decide)]
    have e9 : pj z q 9 = if z (21 + 6 * q) = 0 then 1 else 0 := rfl
    have e5 : pj z q 5 = z (16 + 6 * q) := rfl
    have e1 : pj z q 1 = z 1 := rfl
    have e2 : pj z q 2 = z 4 := rfl
    rw [e9, e5, e1, e2]
    by_cases c : z (21 + 6 * q) = 0
    · rw [if_pos c]
      by_cases c2 : (z (16 + 6 * q) = 5 → z 1 ≤ z 4) ∧ tz 0 z (z 2) (6 + 2 * z (17 + 6 * q)) = np (tz 0 z (z 2)) q
      · have k1 : z (21 + 6 * q) = 0 ∧ (z (16 + 6 * q) = 5 → z 1 ≤ z 4) ∧ tz 0 z (z 2) (6 + 2 * z (17 + 6 * q)) = np (tz 0 z (z 2)) q := ⟨c, c2⟩
        have k2 : ¬ (1 : Nat) = 0 ∧ np (tz 0 z (z 2)) q = tz 0 z (z 2) (6 + 2 * z (17 + 6 * q)) ∧ (z (16 + 6 * q) = 5 → z 1 ≤ z 4) := ⟨by decide, c2.2.symm, c2.1⟩
        rw [if_pos k1, if_pos k2, if_neg (show ¬ z 4 + 1 = 0 by omega)]
      · have k1 : ¬ (z (21 + 6 * q) = 0 ∧ (z (16 + 6 * q) = 5 → z 1 ≤ z 4) ∧ tz 0 z (z 2) (6 + 2 * z (17 + 6 * q)) = np (tz 0 z (z 2)) q) := fun h => c2 h.2
        have k2 : ¬ (¬ (1 : Nat) = 0 ∧ np (tz 0 z (z 2)) q = tz 0 z (z 2) (6 + 2 * z (17 + 6 * q)) ∧ (z (16 + 6 * q) = 5 → z 1 ≤ z 4)) := fun h => c2 ⟨h.2.2, h.2.1.symm⟩
        rw [if_neg k1, if_neg k2, if_pos c]
    · have k1 : ¬ (z (21 + 6 * q) = 0 ∧ (z (16 + 6 * q) = 5 → z 1 ≤ z 4) ∧ tz 0 z (z 2) (6 + 2 * z (17 + 6 * q)) = np (tz 0 z (z 2)) q) := fun h => c h.1
      have k2 : ¬ (¬ (0 : Nat) = 0 ∧ np (tz 0 z (z 2)) q = tz 0 z (z 2) (6 + 2 * z (17 + 6 * q)) ∧ (z (16 + 6 * q) = 5 → z 1 ≤ z 4)) := fun h => h.1 rfl
      rw [if_neg c, if_neg k1, if_neg k2, if_neg c]
