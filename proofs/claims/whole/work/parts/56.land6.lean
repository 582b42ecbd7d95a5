/-! ===== a Land passes a DAY: its THINGS; days ===== -/
theorem LR_thingp {μ : Mm} {p : Nat} {z : Nat → Nat} {t v : Nat} (h : LR μ p z) (ht : t < 5) : LR (up μ (p + 1) t (nI v)) p (un z (6 + 2 * t) v) := by
  obtain ⟨r0, r1, r2, r3, r4, r5, r6, r7, r8⟩ := h
  have lo : ∀ i, i < 6 → un z (6 + 2 * t) v i = z i := fun i hi => un_n _ _ (by omega)
  have lv : lvz (un z (6 + 2 * t) v) (z 3) = lvz z (z 3) := lvz_cg _ (fun a _ => un_n _ _ (by omega))
  have cell : ∀ a, a ≠ p + 1 → (up μ (p + 1) t (nI v)) a = μ a := fun a ha => by rw [up_eq]; exact upc_n _ _ ha
  have here : (up μ (p + 1) t (nI v)) (p + 1) = upd (μ (p + 1)) t (nI v) := by rw [up_eq, upc_s]
  unfold LR
  rw [lo 0 (by decide), lo 1 (by decide), lo 2 (by decide), lo 3 (by decide), lo 4 (by decide), lo 5 (by decide), lv, here, cell p (by omega), cell (p + 2) (by omega), cell (p + 3) (by omega), cell (p + 4) (by omega), cell (p + 5) (by omega), cell (p + 6) (by omega), cell (p + 7) (by omega), cell (p + 8) (by omega)]
  refine ⟨r0, r1, r2, r3, r4, r5, r6, fun a ha => ?_, fun a ha => ?_⟩
  · rw [un_n (j := 7 + 2 * a) _ _ (by omega)]
    refine ⟨?_, (r7 a ha).2⟩
    by_cases e : a = t
    · subst e
      rw [upd_s, un_s]
    · rw [upd_n _ _ e, un_n _ _ (by omega)]
      exact (r7 a ha).1
  · rw [un_n _ _ (by omega), un_n _ _ (by omega), un_n _ _ (by omega), un_n _ _ (by omega), un_n _ _ (by omega), un_n _ _ (by omega)]
    exact r8 a ha
theorem LR_dayp {μ : Mm} {p : Nat} {z : Nat → Nat} {v : Nat} (h : LR μ p z) : LR (up μ p 2 (nI v)) p (un z 4 v) := by
  obtain ⟨r0, r1, r2, r3, r4, r5, r6, r7, r8⟩ := h
  have lv : lvz (un z 4 v) (z 3) = lvz z (z 3) := lvz_cg _ (fun a _ => un_n _ _ (by omega))
  have cell : ∀ a, a ≠ p → (up μ p 2 (nI v)) a = μ a := fun a ha => by rw [up_eq]; exact upc_n _ _ ha
  have here : (up μ p 2 (nI v)) p = upd (μ p) 2 (nI v) := by rw [up_eq, upc_s]
  unfold LR
  rw [show un z 4 v 3 = z 3 from rfl, lv, here, cell (p + 1) (by omega), cell (p + 2) (by omega), cell (p + 3) (by omega), cell (p + 4) (by omega), cell (p + 5) (by omega), cell (p + 6) (by omega), cell (p + 7) (by omega), cell (p + 8) (by omega)]
  refine ⟨r0, r1, rfl, r3, r4, r5, r6, fun a ha => ?_, fun a ha => ?_⟩
  · rw [un_n _ _ (by omega), un_n _ _ (by omega)]
    exact r7 a ha
  · rw [un_n _ _ (by omega), un_n _ _ (by omega), un_n _ _ (by omega), un_n _ _ (by omega), un_n _ _ (by omega), un_n _ _ (by omega)]
    exact r8 a ha
/-- PEOPLE have had their DAY, and the first t THINGS -/
def th (z : Nat → Nat) (t : Nat) : Nat → Nat := fun x => if 6 ≤ x ∧ x < 6 + 2 * t ∧ x % 2 = 0 then dz 0 z x else hp z (z 3) x
theorem th_0 {z : Nat → Nat} {x : Nat} : th z 0 x = hp z (z 3) x := if_neg (by omega)
theorem th_lo {z : Nat → Nat} {t x : Nat} (h : x < 6) : th z t x = z x := by
  unfold th
  rw [if_neg (by omega), hp_out (by omega)]
theorem th_od {z : Nat → Nat} {t a : Nat} (h : a < 5) : th z t (7 + 2 * a) = z (7 + 2 * a) := by
  unfold th
  rw [if_neg (by omega), hp_out (by omega)]
theorem th_ge {z : Nat → Nat} {t x : Nat} (h : 6 + 2 * t ≤ x) (h2 : x < 16) : th z t x = z x := by
  unfold th
  rw [if_neg (by omega), hp_out (by omega)]
theorem th_suc {z : Nat → Nat} {t : Nat} (ht : t < z 2) (h5 : z 2 ≤ 5) (x : Nat) : un (th z t) (6 + 2 * t) (mv 0 z t) x = th z (t + 1) x := by
  by_cases e : x = 6 + 2 * t
  · subst e
    rw [un_s]
    unfold th
    rw [if_pos (by omega), dz_t ht h5]
  · rw [un_n _ _ e]
    unfold th
    by_cases c : 6 ≤ x ∧ x < 6 + 2 * t ∧ x % 2 = 0
    · rw [if_pos c, if_pos (by omega)]
    · rw [if_neg c, if_neg (by omega)]
theorem dz_same {z : Nat → Nat} {x : Nat} (h5 : z 2 ≤ 5) (h4 : x ≠ 4) (ht : ¬ (6 ≤ x ∧ x < 6 + 2 * z 2 ∧ x % 2 = 0)) (hq : x < 16 ∨ 16 + 6 * z 3 ≤ x) : dz 0 z x = z x := by
  unfold dz dz1
  rw [un_n _ _ h4, tz_3, pz_out hq]
  exact if_neg ht
theorem th_end {z : Nat → Nat} (h5 : z 2 ≤ 5) (x : Nat) : un (th z (z 2)) 4 (z 4 + 1) x = dz 0 z x := by
  by_cases e : x = 4
  · subst e
    rw [un_s, dz_4]
  · rw [un_n _ _ e]
    unfold th
    by_cases c : 6 ≤ x ∧ x < 6 + 2 * z 2 ∧ x % 2 = 0
    · rw [if_pos c]
    · rw [if_neg c]
      by_cases q : 16 ≤ x ∧ x < 16 + 6 * z 3
      · rw [hp_in q.1 q.2]
      · rw [hp_out (by omega), dz_same h5 e c (by omega)]
theorem s_passT {d : Nat} {μ : Mm} {K : Int32 → Mm → Prop} {L : Nat} {z : Nat → Nat} {a : Int32} (hL : L = 16 ∨ L = 25) (hz : VL z) (k : ∀ ν, LR ν L (dz 0 z) → (∀ a, a ≠ 271 → a < L ∨ L + 8 < a → ν a = μ a) → K a ν) : ∀ m t ν, t + m = z 2 → LR ν L (th z t) → (∀ a, a ≠ 271 → a < L ∨ L + 8 < a → ν a = μ a) → jX4_passDay (d + 3) K 96 [some (.ref L), none, some (.int a), some (.int (nI t)), none] [] ν := by
  obtain ⟨v0, v1, v2, v3, v4, v5, v6, v7, v8⟩ := hz
  intro m
  induction m with
  | zero =>
    intro t ν ht lr fr
    obtain rfl : t = z 2 := by omega
    have r3 : ν L 3 = nI (z 2) := by rw [lr.2.2.2.1, th_lo (by decide)]
    have r2 : ν L 2 = nI (z 4) := by rw [lr.2.2.1, th_lo (by decide)]
    have fin : K a (up ν L 2 (nI (z 4 + 1))) := by
      refine k _ (LR_cg (LR_dayp lr) ?_ ?_ (fun x _ => th_end v2 x)) (fun a h1 h2 => ?_)
      · rw [un_n _ _ (by decide), th_lo (by decide)]
        exact v2
      · rw [un_n _ _ (by decide), th_lo (by decide)]
        exact v3
      · rw [up_eq, upc_n _ _ (by omega)]
        exact fr a h1 h2
    rcases hL with rfl | rfl
    · refine k_X4_passDay_16_96 ?_
      rw [r3, r2, n_suc]
      exact br_t (nI_le (Nat.le_refl _) (by omega)) fin
    · refine k_X4_passDay_25_96 ?_
      rw [r3, r2, n_suc]
      exact br_t (nI_le (Nat.le_refl _) (by omega)) fin
  | succ m ih =>
    intro t ν ht lr fr
    have r3 : ν L 3 = nI (z 2) := by rw [lr.2.2.2.1, th_lo (by decide)]
    have r0 : ν L 0 = nI (z 0) := by rw [lr.1, th_lo (by decide)]
    have r5 : ν L 5 = nI (z 5) := by rw [lr.2.2.2.2.2.1, th_lo (by decide)]
    have w := v7 t (by omega)
    have o2 : th z t 2 = z 2 := th_lo (by decide)
    have r7 := lr.2.2.2.2.2.2.2.1 t (by rw [o2]; omega)
    have ra : ν (L + 1) t = nI (z (6 + 2 * t)) := by rw [r7.1, th_ge (by omega) (by omega)]
    have rb : ν (L + 2) t = nI (z (7 + 2 * t)) := by rw [r7.2, th_od (by omega)]
    have go : ∀ v, v = mv 0 z t → jX4_passDay (d + 3) K 96 [some (.ref L), none, some (.int a), some (.int (nI (t + 1))), none] [] (up ν (L + 1) t (nI v)) := by
      intro v hv
      subst hv
      refine ih (t + 1) _ (by omega) (LR_cg (LR_thingp lr (by omega)) ?_ ?_ (fun x _ => th_suc (by omega) v2 x)) (fun a h1 h2 => ?_)
      · rw [un_n _ _ (by omega), o2]
        exact v2
      · rw [un_n _ _ (by omega), th_lo (by decide)]
        exact v3
      · rw [up_eq, upc_n _ _ (by omega)]
        exact fr a h1 h2
    have m0 : z 5 / 2 ^ t % 2 = 0 → (z (6 + 2 * t) + z (7 + 2 * t)) % z 0 = mv 0 z t := by
      intro c
      unfold mv
      rw [Nat.or_zero, if_pos c]
    have m1 : ¬ z 5 / 2 ^ t % 2 = 0 → z (6 + 2 * t) = mv 0 z t := by
      intro c
      unfold mv
      rw [Nat.or_zero, if_neg c]
    rcases hL with rfl | rfl
    · refine k_X4_passDay_16_96 ?_
      rw [r3, n_suc, nI_clamp (by omega)]
      refine br_f (by rw [nI_leI (by omega) (by omega)]; omega) (s_isNailed (n := z 5) (by decide) r5 v5 (by omega) (fun c => br_t rfl ⟨vp_in_nI (by omega) (by decide), vp_in_nI (by omega) (by decide), ?_⟩) (fun c => br_f (by decide) ⟨vp_in_nI (by omega) (by decide), vp_in_nI (by omega) (by decide), ?_⟩))
      · rw [show ν 17 t = _ from ra, show ν 18 t = _ from rb, r0, nI_add]
        exact s_wrap (by omega) (by omega) (by omega) ⟨vp_in_nI (by omega) (by decide), go _ (m0 c)⟩
      · rw [show ν 17 t = _ from ra]
        exact go _ (m1 c)
    · refine k_X4_passDay_25_96 ?_
      rw [r3, n_suc, nI_clamp (by omega)]
      refine br_f (by rw [nI_leI (by omega) (by omega)]; omega) (s_isNailed (n := z 5) (by decide) r5 v5 (by omega) (fun c => br_t rfl ⟨vp_in_nI (by omega) (by decide), vp_in_nI (by omega) (by decide), ?_⟩) (fun c => br_f (by decide) ⟨vp_in_nI (by omega) (by decide), vp_in_nI (by omega) (by decide), ?_⟩))
      · rw [show ν 26 t = _ from ra, show ν 27 t = _ from rb, r0, nI_add]
        exact s_wrap (by omega) (by omega) (by omega) ⟨vp_in_nI (by omega) (by decide), go _ (m0 c)⟩
      · rw [show ν 26 t = _ from ra]
        exact go _ (m1 c)
theorem s_passLand {d : Nat} {μ : Mm} {K : Int32 → Mm → Prop} {L : Nat} {z : Nat → Nat} (hL : L = 16 ∨ L = 25) (hz : VL z) (lr : LR μ L z) (k : ∀ ν, LR ν L (dz 0 z) → (∀ a, a ≠ 271 → a < L ∨ L + 8 < a → ν a = μ a) → K (nI (dd 0 z)) ν) : cI (cM (d + 4)) 29 [.ref L, .ref 271] μ K := by
  have v2 := hz.2.2.1
  have v3 := hz.2.2.2.1
  have h9 := s_passP (d := d) (μ := μ) (K := K) hL hz (fun ν hν fr => s_passT (a := nI (dd 0 z)) hL hz k (z 2) 0 ν (by omega) (LR_cg hν (by rw [hp_out (by omega)]; exact v2) (by rw [hp_out (by omega)]; exact v3) (fun x _ => th_0.symm)) fr) (z 3) 0 μ (by omega) (LR_cg lr v2 v3 (fun x _ => (hp_out (by omega)).symm)) (fun _ _ _ => rfl)
  rcases hL with rfl | rfl
  · exact e_X4_passDay_16 h9
  · exact e_X4_passDay_25 h9
