/-! ===== a DAY of a row, as numbers ===== -/
theorem up_upc (μ : Mm) (k j : Nat) (f : Nat → Int32) (v : Int32) : up (upc μ k f) k j v = upc μ k (upd f j v) := by
  rw [up_eq, upc_s, upc_upc]
/-- where THING t is behind a DAY in which the THINGS of s stand still -/
def mv (s : Nat) (z : Nat → Nat) (t : Nat) : Nat := if (z 5 ||| s) / 2 ^ t % 2 = 0 then (z (6 + 2 * t) + z (7 + 2 * t)) % z 0 else z (6 + 2 * t)
/-- the row when k THINGS have gone -/
def tz (s : Nat) (z : Nat → Nat) (k : Nat) : Nat → Nat := fun i => if 6 ≤ i ∧ i < 6 + 2 * k ∧ i % 2 = 0 then mv s z ((i - 6) / 2) else z i
theorem tz_lo {s k i : Nat} {z : Nat → Nat} (h : i < 6) : tz s z k i = z i := if_neg (by omega)
theorem tz_ge {s k i : Nat} {z : Nat → Nat} (h : 6 + 2 * k ≤ i) : tz s z k i = z i := if_neg (by omega)
theorem tz_od {s k j : Nat} {z : Nat → Nat} : tz s z k (7 + 2 * j) = z (7 + 2 * j) := if_neg (by omega)
theorem tz_ev {s k j : Nat} {z : Nat → Nat} (h : j < k) : tz s z k (6 + 2 * j) = mv s z j := by
  unfold tz
  rw [if_pos (by omega), show (6 + 2 * j - 6) / 2 = j by omega]
theorem tz_0 {s : Nat} {z : Nat → Nat} : tz s z 0 = z := by
  funext i
  exact if_neg (by omega)
theorem tz_s {s k : Nat} {z : Nat → Nat} : un (tz s z k) (6 + 2 * k) (mv s z k) = tz s z (k + 1) := by
  funext i
  unfold un
  by_cases h : i = 6 + 2 * k
  · subst h
    rw [if_pos rfl, tz_ev (by omega)]
  · rw [if_neg h]
    unfold tz
    by_cases h2 : 6 ≤ i ∧ i < 6 + 2 * k ∧ i % 2 = 0
    · rw [if_pos h2, if_pos (by omega)]
    · rw [if_neg h2, if_neg (by omega)]
theorem or_lt {a b : Nat} (h1 : a < 32) (h2 : b < 32) : a ||| b < 32 := Nat.or_lt_two_pow (n := 5) h1 h2
set_option maxHeartbeats 1000000 in
theorem s_day1 {d : Nat} {μ : Mm} {K : Int32 → Mm → Prop} {r s : Nat} {z : Nat → Nat} (hr : r = 283 ∨ r = 285) (hz : VL z) (hs : s < 32)
    (k : ∀ f, LM f (tz s z (z 2)) → jX8_day d K 72 [some (.ref r), none, some (.int 0), some (.int 0), none, none] [] (upc μ r f)) :
    ∀ n t f, t + n = z 2 → LM f (tz s z t) → jX8_day d K 2 [some (.ref r), some (.int (nI s)), some (.int (nI t)), none, none, none] [] (upc μ r f) := by
  obtain ⟨v0, v1, v2, v3, v4, v5, v6, v7, v8⟩ := hz
  have hor := or_lt v5 hs
  intro n
  induction n with
  | zero =>
    intro t f ht hf
    obtain rfl : t = z 2 := by omega
    rcases hr with rfl | rfl
    · refine k_X8_day_283_2 ?_
      try simp (disch := omega) only [lt0, lt1, lt2, lt3, lt4, lt5, lt6, lt7, lt8, lt9, lt10, lt11, lt12, lt13, lt14, lt15, lt16, lt17, lt18, lt19, lt20, lt21, lt22, lt23, lt24, lt25, lt26, lt27, lt28, lt29, lt30, lt31, lt32, lt33, lt34, lt35, lt36, lt37, lt38, lt39, lt40, lt41, lt42, lt43, lt44, lt45, lt46, lt47, lt48, lt49, lt50, lt51, lt52, lt53, lt54, lt55, lt56, lt57, lt58, lt59, lt60, lt61, lt62, lt63, lt64, lt97, lt98, lt99, lt100, lt107, lt110, lt114, lt115, lt116, lt119, lt122, lt208, lt255, lt999, lt1000, nI_add, pk_mul, nI_clamp, vp_t, nI_leI, nI_ltI, nI_eq, true_and, and_true, true_implies, false_implies, not_true_eq_false, not_false_eq_true, eq_self, implies_true, true_or, or_true, Nat.add_zero, Nat.reduceAdd, Nat.reduceMul, Nat.reduceEqDiff, Nat.reduceLeDiff, Nat.reduceLT, Nat.reduceSub, upc_s, hf _, tz_lo]
      exact br_t (Nat.le_refl _) (k f hf)
    · refine k_X8_day_285_2 ?_
      try simp (disch := omega) only [lt0, lt1, lt2, lt3, lt4, lt5, lt6, lt7, lt8, lt9, lt10, lt11, lt12, lt13, lt14, lt15, lt16, lt17, lt18, lt19, lt20, lt21, lt22, lt23, lt24, lt25, lt26, lt27, lt28, lt29, lt30, lt31, lt32, lt33, lt34, lt35, lt36, lt37, lt38, lt39, lt40, lt41, lt42, lt43, lt44, lt45, lt46, lt47, lt48, lt49, lt50, lt51, lt52, lt53, lt54, lt55, lt56, lt57, lt58, lt59, lt60, lt61, lt62, lt63, lt64, lt97, lt98, lt99, lt100, lt107, lt110, lt114, lt115, lt116, lt119, lt122, lt208, lt255, lt999, lt1000, nI_add, pk_mul, nI_clamp, vp_t, nI_leI, nI_ltI, nI_eq, true_and, and_true, true_implies, false_implies, not_true_eq_false, not_false_eq_true, eq_self, implies_true, true_or, or_true, Nat.add_zero, Nat.reduceAdd, Nat.reduceMul, Nat.reduceEqDiff, Nat.reduceLeDiff, Nat.reduceLT, Nat.reduceSub, upc_s, hf _, tz_lo]
      exact br_t (Nat.le_refl _) (k f hf)
  | succ n ih =>
    intro t f ht hf
    obtain ⟨w1, w2⟩ := v7 t (by omega)
    have e1 : tz s z t (6 + 2 * t) = z (6 + 2 * t) := tz_ge (by omega)
    have e2 : tz s z t (7 + 2 * t) = z (7 + 2 * t) := tz_od
    have e3 : 6 + 2 * t + 1 = 7 + 2 * t := by omega
    rcases hr with rfl | rfl
    · refine k_X8_day_283_2 ?_
      try simp (disch := omega) only [lt0, lt1, lt2, lt3, lt4, lt5, lt6, lt7, lt8, lt9, lt10, lt11, lt12, lt13, lt14, lt15, lt16, lt17, lt18, lt19, lt20, lt21, lt22, lt23, lt24, lt25, lt26, lt27, lt28, lt29, lt30, lt31, lt32, lt33, lt34, lt35, lt36, lt37, lt38, lt39, lt40, lt41, lt42, lt43, lt44, lt45, lt46, lt47, lt48, lt49, lt50, lt51, lt52, lt53, lt54, lt55, lt56, lt57, lt58, lt59, lt60, lt61, lt62, lt63, lt64, lt97, lt98, lt99, lt100, lt107, lt110, lt114, lt115, lt116, lt119, lt122, lt208, lt255, lt999, lt1000, nI_add, pk_mul, nI_clamp, vp_t, nI_leI, nI_ltI, nI_eq, true_and, and_true, true_implies, false_implies, not_true_eq_false, not_false_eq_true, eq_self, implies_true, true_or, or_true, Nat.add_zero, Nat.reduceAdd, Nat.reduceMul, Nat.reduceEqDiff, Nat.reduceLeDiff, Nat.reduceLT, Nat.reduceSub, upc_s, hf _, tz_lo, nI_or, sh_b, e3, e1, e2, rem_n, up_upc]
      refine br_f (by omega) (nr_c (fun c => ?_) (fun c => ?_))
      · refine ih (t + 1) _ (by omega) ?_
        rw [← tz_s]
        exact hf.up (by unfold mv; rw [if_neg c])
      · refine ⟨by omega, ih (t + 1) _ (by omega) ?_⟩
        rw [← tz_s]
        exact hf.up (by unfold mv; rw [if_pos c])
    · refine k_X8_day_285_2 ?_
      try simp (disch := omega) only [lt0, lt1, lt2, lt3, lt4, lt5, lt6, lt7, lt8, lt9, lt10, lt11, lt12, lt13, lt14, lt15, lt16, lt17, lt18, lt19, lt20, lt21, lt22, lt23, lt24, lt25, lt26, lt27, lt28, lt29, lt30, lt31, lt32, lt33, lt34, lt35, lt36, lt37, lt38, lt39, lt40, lt41, lt42, lt43, lt44, lt45, lt46, lt47, lt48, lt49, lt50, lt51, lt52, lt53, lt54, lt55, lt56, lt57, lt58, lt59, lt60, lt61, lt62, lt63, lt64, lt97, lt98, lt99, lt100, lt107, lt110, lt114, lt115, lt116, lt119, lt122, lt208, lt255, lt999, lt1000, nI_add, pk_mul, nI_clamp, vp_t, nI_leI, nI_ltI, nI_eq, true_and, and_true, true_implies, false_implies, not_true_eq_false, not_false_eq_true, eq_self, implies_true, true_or, or_true, Nat.add_zero, Nat.reduceAdd, Nat.reduceMul, Nat.reduceEqDiff, Nat.reduceLeDiff, Nat.reduceLT, Nat.reduceSub, upc_s, hf _, tz_lo, nI_or, sh_b, e3, e1, e2, rem_n, up_upc]
      refine br_f (by omega) (nr_c (fun c => ?_) (fun c => ?_))
      · refine ih (t + 1) _ (by omega) ?_
        rw [← tz_s]
        exact hf.up (by unfold mv; rw [if_neg c])
      · refine ⟨by omega, ih (t + 1) _ (by omega) ?_⟩
        rw [← tz_s]
        exact hf.up (by unfold mv; rw [if_pos c])
theorem mv_lt {s : Nat} {z : Nat → Nat} (hz : VL z) {t : Nat} (ht : t < z 2) : mv s z t < z 0 := by
  obtain ⟨v0, v1, v2, v3, v4, v5, v6, v7, v8⟩ := hz
  unfold mv
  split
  · exact Nat.mod_lt _ (by omega)
  · exact (v7 t ht).1
theorem VL_tz {s : Nat} {z : Nat → Nat} (hz : VL z) : VL (tz s z (z 2)) := by
  have hm := fun t => mv_lt (s := s) hz (t := t)
  obtain ⟨v0, v1, v2, v3, v4, v5, v6, v7, v8⟩ := hz
  unfold VL
  rw [tz_lo (by decide), tz_lo (by decide), tz_lo (by decide), tz_lo (by decide), tz_lo (by decide), tz_lo (by decide)]
  refine ⟨v0, v1, v2, v3, v4, v5, v6, fun t ht => ?_, fun q hq => ?_⟩
  · rw [tz_ev ht, tz_od]
    exact ⟨hm t ht, (v7 t ht).2⟩
  · rw [tz_ge (by omega), tz_ge (by omega), tz_ge (by omega), tz_ge (by omega), tz_ge (by omega), tz_ge (by omega)]
    exact v8 q hq
/-- PEOPLE: where one is, and whether he died, behind the DAY -/
def np (z : Nat → Nat) (q : Nat) : Nat := if z (21 + 6 * q) = 0 ∧ z (20 + 6 * q) = 0 then gz z q else z (18 + 6 * q)
def nd5 (z : Nat → Nat) (q : Nat) : Prop := z (21 + 6 * q) = 0 ∧ (z (16 + 6 * q) = 5 → z 1 ≤ z 4) ∧ z (6 + 2 * z (17 + 6 * q)) = np z q
def ndd (z : Nat → Nat) (q : Nat) : Nat := if z (21 + 6 * q) = 0 ∧ (z (16 + 6 * q) = 5 → z 1 ≤ z 4) ∧ z (6 + 2 * z (17 + 6 * q)) = np z q then z 4 + 1 else z (21 + 6 * q)
def pz (z : Nat → Nat) (k : Nat) : Nat → Nat := fun i => if 16 ≤ i ∧ i < 16 + 6 * k then (if (i - 16) % 6 = 2 then np z ((i - 16) / 6) else if (i - 16) % 6 = 5 then ndd z ((i - 16) / 6) else if (i - 16) % 6 = 4 then z i - 1 else z i) else z i
def dc (z : Nat → Nat) : Nat → Nat
  | 0 => 0
  | k + 1 => dc z k + (if z (21 + 6 * k) = 0 ∧ (z (16 + 6 * k) = 5 → z 1 ≤ z 4) ∧ z (6 + 2 * z (17 + 6 * k)) = np z k then 1 else 0)
theorem pz_out {z : Nat → Nat} {k i : Nat} (h : i < 16 ∨ 16 + 6 * k ≤ i) : pz z k i = z i := if_neg (by omega)
theorem pz_0 {z : Nat → Nat} : pz z 0 = z := by
  funext i
  exact if_neg (by omega)
theorem pz_2 {z : Nat → Nat} {k q : Nat} (h : q < k) : pz z k (18 + 6 * q) = np z q := by
  unfold pz
  rw [if_pos (by omega), if_pos (by omega), show (18 + 6 * q - 16) / 6 = q by omega]
theorem pz_5 {z : Nat → Nat} {k q : Nat} (h : q < k) : pz z k (21 + 6 * q) = ndd z q := by
  unfold pz
  rw [if_pos (by omega), if_neg (by omega), if_pos (by omega), show (21 + 6 * q - 16) / 6 = q by omega]
theorem pz_4 {z : Nat → Nat} {k q : Nat} (h : q < k) : pz z k (20 + 6 * q) = z (20 + 6 * q) - 1 := by
  unfold pz
  rw [if_pos (by omega), if_neg (by omega), if_neg (by omega), if_pos (by omega)]
theorem pz_c {z : Nat → Nat} {k i : Nat} (h2 : (i - 16) % 6 ≠ 2) (h5 : (i - 16) % 6 ≠ 5) (h4 : (i - 16) % 6 ≠ 4) : pz z k i = z i := by
  unfold pz
  by_cases hb : 16 ≤ i ∧ i < 16 + 6 * k
  · rw [if_pos hb, if_neg h2, if_neg h5, if_neg h4]
  · rw [if_neg hb]
theorem pz_s {z : Nat → Nat} {q i : Nat} : un (un (un (pz z q) (18 + 6 * q) (np z q)) (21 + 6 * q) (ndd z q)) (20 + 6 * q) (z (20 + 6 * q) - 1) i = pz z (q + 1) i := by
  unfold un
  by_cases h4 : i = 20 + 6 * q
  · rw [if_pos h4, h4, pz_4 (by omega)]
  · rw [if_neg h4]
    by_cases h5 : i = 21 + 6 * q
    · rw [if_pos h5, h5, pz_5 (by omega)]
    · rw [if_neg h5]
      by_cases h2 : i = 18 + 6 * q
      · rw [if_pos h2, h2, pz_2 (by omega)]
      · rw [if_neg h2]
        unfold pz
        by_cases hb : 16 ≤ i ∧ i < 16 + 6 * q
        · rw [if_pos hb, if_pos (show 16 ≤ i ∧ i < 16 + 6 * (q + 1) by omega)]
        · rw [if_neg hb]
          by_cases hc : 16 ≤ i ∧ i < 16 + 6 * (q + 1)
          · rw [if_pos hc, if_neg (by omega), if_neg (by omega), if_neg (by omega)]
          · rw [if_neg hc]
