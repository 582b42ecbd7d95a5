/-! ===== nails ===== -/
def bs (s : Nat) : Nat → Nat
  | 0 => 0
  | k + 1 => bs s k + s / 2 ^ k % 2
theorem bs_le (s : Nat) : ∀ k, bs s k ≤ k
  | 0 => Nat.le_refl _
  | k + 1 => by
    have := bs_le s k
    show bs s k + s / 2 ^ k % 2 ≤ k + 1
    omega
theorem s_bits {d : Nat} {μ : Mm} {K : Int32 → Mm → Prop} {s : Nat} (hs : s < 2 ^ 31) (k : K (nI (bs s 12)) μ) : cI (cM (d + 1)) 140 [.int (nI s)] μ K := by
  have key : ∀ m i, i + m = 12 → jX8_bits d K 4 [some (.int (nI s)), some (.int (nI (bs s i))), some (.int (nI i))] [] μ := by
    intro m
    induction m with
    | zero =>
      intro i hi
      obtain rfl : i = 12 := by omega
      exact k_X8_bits_4 (br_t (by decide) k)
    | succ m ih =>
      intro i hi
      refine k_X8_bits_4 (br_f (by rw [show (12 : Int32) = nI 12 from rfl, nI_leI (by omega) (by omega)]; omega) ?_)
      rw [show ((nI s >>> (nI i &&& 31)) &&& 1) = nI (s / 2 ^ i % 2) from sh_b hs (by omega), nI_add, n_suc]
      exact ih (i + 1) (by omega)
  exact e_X8_bits (key 12 0 (by decide))
theorem it9_le : ∀ n (φ : Nat → Nat), itF n φ 9 ≤ φ 9
  | 0, _ => Nat.le_refl _
  | n + 1, φ => by
    refine Nat.le_trans (it9_le n (dayF φ)) ?_
    show lF φ ≤ φ 9
    unfold lF
    split <;> omega
theorem itF_cg : ∀ n {φ ψ : Nat → Nat}, (∀ j, j < 10 → φ j = ψ j) → ∀ j, j < 10 → itF n φ j = itF n ψ j
  | 0, _, _, h => h
  | n + 1, _, _, h => itF_cg n (dayF_cg h)
theorem VL_5 {z : Nat → Nat} {v : Nat} (hz : VL z) (hv : v < 32) : VL (un z 5 v) := by
  obtain ⟨v0, v1, v2, v3, v4, v5, v6, v7, v8⟩ := hz
  have e : ∀ i, i ≠ 5 → un z 5 v i = z i := fun i hi => un_n _ _ hi
  unfold VL
  rw [e 0 (by decide), e 1 (by decide), e 2 (by decide), e 3 (by decide), e 4 (by decide), un_s]
  refine ⟨v0, v1, v2, v3, v4, hv, v6, fun a ha => ?_, fun q hq => ?_⟩
  · rw [e _ (by omega), e _ (by omega)]
    exact v7 a ha
  · rw [e _ (by omega), e _ (by omega), e _ (by omega), e _ (by omega), e _ (by omega), e _ (by omega)]
    exact v8 q hq
theorem or_bit : ∀ a, a < 32 → ∀ s, s < 32 → ∀ b, b < 5 → ((a ||| s) / 2 ^ b % 2 = 0 ↔ (a / 2 ^ b % 2 = 0 ∧ s / 2 ^ b % 2 = 0)) := by decide +kernel
theorem and_bit : ∀ a, a < 32 → ∀ s, s < 32 → ∀ b, b < 5 → s &&& a = 0 → s / 2 ^ b % 2 = 1 → a / 2 ^ b % 2 = 0 := by decide +kernel
theorem and_pow : ∀ a, a < 32 → ∀ b, b < 5 → ¬ 2 ^ b &&& a = 0 → a / 2 ^ b % 2 = 1 := by decide +kernel
theorem bit_pow : ∀ b, b < 5 → 2 ^ b / 2 ^ b % 2 = 1 := by decide
theorem bit_ge : ∀ s, s < 32 → ∀ b, b < 5 → s / 2 ^ b % 2 = 1 → 2 ^ b ≤ s := by decide +kernel
theorem bs_pow : ∀ b, b < 5 → bs (2 ^ b) 12 = 1 := by decide +kernel
theorem bs_pos : ∀ s, s < 32 → 0 < s → 1 ≤ bs s 12 := by decide +kernel
/-- whether he lives behind n DAYS, when the THINGS of s are nailed down too -/
def nT (n q : Nat) (z : Nat → Nat) (s : Nat) : Nat := itZ n (un z 5 (z 5 ||| s)) (21 + 6 * q)
theorem nT_0 {n q s : Nat} {z : Nat → Nat} (hz : VL z) (hq : q < z 3) (hn : z 4 + n ≤ 2000) (hs : s < 32) (hb : s / 2 ^ z (17 + 6 * q) % 2 = 0) : nT n q z s = 0 ↔ itZ n z (21 + 6 * q) = 0 := by
  obtain ⟨v0, v1, v2, v3, v4, v5, v6, v7, v8⟩ := id hz
  have w2 := (v8 q hq).2.1
  have e : ∀ i, i ≠ 5 → un z 5 (z 5 ||| s) i = z i := fun i hi => un_n _ _ hi
  have hp : ∀ j, j < 10 → pj z q j = pj (un z 5 (z 5 ||| s)) q j := by
    refine ten (e 0 (by decide)).symm (e 1 (by decide)).symm (e 4 (by decide)).symm ?_ ?_ (e _ (by omega)).symm (e _ (by omega)).symm (e _ (by omega)).symm (e _ (by omega)).symm ?_
    · show z (6 + 2 * z (17 + 6 * q)) = un z 5 (z 5 ||| s) (6 + 2 * un z 5 (z 5 ||| s) (17 + 6 * q))
      rw [e (17 + 6 * q) (by omega), e _ (by omega)]
    · show (if z 5 / 2 ^ z (17 + 6 * q) % 2 = 0 then z (7 + 2 * z (17 + 6 * q)) else 0) = (if un z 5 (z 5 ||| s) 5 / 2 ^ un z 5 (z 5 ||| s) (17 + 6 * q) % 2 = 0 then un z 5 (z 5 ||| s) (7 + 2 * un z 5 (z 5 ||| s) (17 + 6 * q)) else 0)
      rw [e (17 + 6 * q) (by omega), e (7 + 2 * z (17 + 6 * q)) (by omega), un_s]
      have h := or_bit (z 5) v5 s hs (z (17 + 6 * q)) (by omega)
      by_cases c : z 5 / 2 ^ z (17 + 6 * q) % 2 = 0
      · rw [if_pos c, if_pos (h.mpr ⟨c, hb⟩)]
      · rw [if_neg c, if_neg (fun c2 => c (h.mp c2).1)]
    · show (if z (21 + 6 * q) = 0 then 1 else 0) = (if un z 5 (z 5 ||| s) (21 + 6 * q) = 0 then 1 else 0)
      rw [e _ (by omega)]
  have a1 := it_pj (q := q) n z (pj z q) (fun _ _ => rfl) hz hn hq 9 (by decide)
  have a2 := it_pj (q := q) n (un z 5 (z 5 ||| s)) (pj z q) hp (VL_5 hz (or_lt v5 hs)) (by rw [e 4 (by decide)]; exact hn) (by rw [e 3 (by decide)]; exact hq) 9 (by decide)
  rw [a1] at a2
  have a3 : (if itZ n z (21 + 6 * q) = 0 then 1 else 0) = (if nT n q z s = 0 then 1 else 0) := a2
  by_cases c : nT n q z s = 0
  · rw [if_pos c] at a3
    refine ⟨fun _ => ?_, fun _ => c⟩
    by_cases c2 : itZ n z (21 + 6 * q) = 0
    · exact c2
    · rw [if_neg c2] at a3
      exact absurd a3 (by decide)
  · rw [if_neg c] at a3
    refine ⟨fun h => absurd h c, fun c2 => ?_⟩
    rw [if_pos c2] at a3
    exact absurd a3 (by decide)
theorem nT_1 {n q s : Nat} {z : Nat → Nat} (hz : VL z) (hq : q < z 3) (hn : z 4 + n ≤ 2000) (hs : s < 32) (hb : s / 2 ^ z (17 + 6 * q) % 2 = 1) : nT n q z s = 0 ↔ ¬ itF n (un (pj z q) 4 0) 9 = 0 := by
  obtain ⟨v0, v1, v2, v3, v4, v5, v6, v7, v8⟩ := id hz
  have w2 := (v8 q hq).2.1
  have e : ∀ i, i ≠ 5 → un z 5 (z 5 ||| s) i = z i := fun i hi => un_n _ _ hi
  have hp : ∀ j, j < 10 → un (pj z q) 4 0 j = pj (un z 5 (z 5 ||| s)) q j := by
    refine ten (e 0 (by decide)).symm (e 1 (by decide)).symm (e 4 (by decide)).symm ?_ ?_ (e _ (by omega)).symm (e _ (by omega)).symm (e _ (by omega)).symm (e _ (by omega)).symm ?_
    · show z (6 + 2 * z (17 + 6 * q)) = un z 5 (z 5 ||| s) (6 + 2 * un z 5 (z 5 ||| s) (17 + 6 * q))
      rw [e (17 + 6 * q) (by omega), e _ (by omega)]
    · show 0 = (if un z 5 (z 5 ||| s) 5 / 2 ^ un z 5 (z 5 ||| s) (17 + 6 * q) % 2 = 0 then un z 5 (z 5 ||| s) (7 + 2 * un z 5 (z 5 ||| s) (17 + 6 * q)) else 0)
      rw [e (17 + 6 * q) (by omega), un_s]
      have h := or_bit (z 5) v5 s hs (z (17 + 6 * q)) (by omega)
      rw [if_neg (fun c => by have := (h.mp c).2; omega)]
    · show (if z (21 + 6 * q) = 0 then 1 else 0) = (if un z 5 (z 5 ||| s) (21 + 6 * q) = 0 then 1 else 0)
      rw [e _ (by omega)]
  have a2 := it_pj (q := q) n (un z 5 (z 5 ||| s)) (un (pj z q) 4 0) hp (VL_5 hz (or_lt v5 hs)) (by rw [e 4 (by decide)]; exact hn) (by rw [e 3 (by decide)]; exact hq) 9 (by decide)
  have a3 : itF n (un (pj z q) 4 0) 9 = (if nT n q z s = 0 then 1 else 0) := a2
  rw [a3]
  by_cases c : nT n q z s = 0
  · rw [if_pos c]
    exact ⟨fun _ => by decide, fun _ => c⟩
  · rw [if_neg c]
    exact ⟨fun h => absurd h c, fun h => absurd rfl h⟩
/-- his THING is nailed down already -/
theorem nT_n {n q : Nat} {z : Nat → Nat} (hz : VL z) (hq : q < z 3) (hn : z 4 + n ≤ 2000) (hb : z 5 / 2 ^ z (17 + 6 * q) % 2 = 1) : itZ n z (21 + 6 * q) = 0 ↔ ¬ itF n (un (pj z q) 4 0) 9 = 0 := by
  have hp : ∀ j, j < 10 → un (pj z q) 4 0 j = pj z q j := by
    refine ten rfl rfl rfl rfl ?_ rfl rfl rfl rfl rfl
    show 0 = (if z 5 / 2 ^ z (17 + 6 * q) % 2 = 0 then z (7 + 2 * z (17 + 6 * q)) else 0)
    rw [if_neg (by omega)]
  have a3 : itF n (un (pj z q) 4 0) 9 = (if itZ n z (21 + 6 * q) = 0 then 1 else 0) := it_pj (q := q) n z (un (pj z q) 4 0) hp hz hn hq 9 (by decide)
  rw [a3]
  by_cases c : itZ n z (21 + 6 * q) = 0
  · rw [if_pos c]
    exact ⟨fun _ => by decide, fun _ => c⟩
  · rw [if_neg c]
    exact ⟨fun h => absurd h c, fun h => absurd rfl h⟩
theorem s_nailsL {d : Nat} {μ : Mm} {K : Int32 → Mm → Prop} {n q : Nat} {w : Int32} {z : Nat → Nat} {B : Nat → Int32} (lm : LM (μ 283) z) (hz : VL z) (hq : q < z 3) (hn : z 4 + n ≤ 2000)
    (h1 : ∀ s, s < 32 → ¬ s &&& z 5 = 0 → B (s + 1) = B s) (h2 : ∀ s, s < 32 → s &&& z 5 = 0 → B s = -1000000 → nT n q z s = 0 → B (s + 1) = nI s) (h3 : ∀ s, s < 32 → s &&& z 5 = 0 → B s = -1000000 → ¬ nT n q z s = 0 → B (s + 1) = B s) (h4 : ∀ s, s < 32 → ¬ B s = -1000000 → ∃ c, c < 32 ∧ B s = nI c ∧ bs c 12 ≤ bs s 12 ∧ B (s + 1) = B s)
    (k : ∀ f, (B (2 ^ z 2) = -1000000 → K (B (2 ^ z 2)) (upc μ 285 f)) ∧ (¬ B (2 ^ z 2) = -1000000 → ((¬ w = 1 → cI (cM (d + 5)) 140 [.int (B (2 ^ z 2))] (upc μ 285 f) (fun x ν => K x ν)) ∧ (w = 1 → K (B (2 ^ z 2)) (upc μ 285 f))))) :
    ∀ m s f, s + m = 2 ^ z 2 → jX8_nails (d + 5) K 59 [some (.ref 279), some (.int (nI q)), some (.int (nI n)), some (.int w), some (.int (B s)), some (.int (nI s)), none] [] (upc μ 285 f) := by
  obtain ⟨v0, v1, v2, v3, v4, v5, v6, v7, v8⟩ := id hz
  have p5 : 2 ^ z 2 ≤ 2 ^ 5 := Nat.pow_le_pow_right (by decide) v2
  have l2 : ∀ f, (upc μ 285 f) 283 (2 : Int32).toNatClampNeg = nI (z 2) := fun f => lm 2 (by decide)
  have l5 : ∀ f, (upc μ 285 f) 283 (5 : Int32).toNatClampNeg = nI (z 5) := fun f => lm 5 (by decide)
  have sh : (1 : Int32) <<< (nI (z 2) &&& 31) = nI (2 ^ z 2) := sh_1 (by omega)
  intro m
  induction m with
  | zero =>
    intro s f hs
    obtain rfl : s = 2 ^ z 2 := by omega
    refine k_X8_nails_59 ⟨vp_in_nI (n := 2) (by decide) (by decide), ?_⟩
    rw [l2, sh]
    exact br_t (nI_le (Nat.le_refl _) (by omega)) (k f)
  | succ m ih =>
    intro s f hs
    have s32 : s < 32 := by omega
    have test : B s = -1000000 → s &&& z 5 = 0 → cV (cM (d + 5)) 138 [.ref 279] (upc μ 285 f) (fun μ105 => (vp_in 5 58 ∧ (vp_in 5 58 ∧ (cI (cM (d + 5)) 136 [.ref 285, .int (nI n)] (up μ105 285 (5 : Int32).toNatClampNeg ((μ105 285 (5 : Int32).toNatClampNeg) ||| nI s)) (fun x124 μ124 => (cI (cM (d + 5)) 132 [.ref 285, .int (nI q)] μ124 (fun x134 μ134 => ((x134 = 0 → jX8_nails (d + 5) K 59 [some (.ref 279), some (.int (nI q)), some (.int (nI n)), some (.int w), some (.int (B s)), some (.int (nI s + 1)), none] [] μ134) ∧ (¬ x134 = 0 → jX8_nails (d + 5) K 59 [some (.ref 279), some (.int (nI q)), some (.int (nI n)), some (.int w), some (.int (nI s)), some (.int (nI s + 1)), none] [] μ134))))))))) := by
      intro hB ha
      refine s_layThen (z := z) lm (fun f1 hf1 => ⟨vp_in_nI (n := 5) (by decide) (by decide), vp_in_nI (n := 5) (by decide) (by decide), ?_⟩)
      have hf5 : (upc (upc μ 285 f) 285 f1) 285 (5 : Int32).toNatClampNeg = nI (z 5) := by rw [upc_s]; exact hf1 5 (by decide)
      rw [hf5, nI_or, upc_upc, up_upc, n_suc]
      have vz' := VL_5 hz (or_lt v5 s32)
      have w := itZ_VL n (un z 5 (z 5 ||| s)) vz' hn
      refine s_daysOf (z := un z 5 (z 5 ||| s)) (Or.inr rfl) (show LM (upd f1 (5 : Int32).toNatClampNeg (nI (z 5 ||| s))) _ from hf1.up rfl) vz' hn (fun f2 hf2 => ?_)
      have w2 := (w.1.2.2.2.2.2.2.2.2 q (by rw [w.2.1]; exact hq)).2.2.2.2.2
      rw [w.2.2.2.2.1] at w2
      have w3 : itZ n (un z 5 (z 5 ||| s)) (21 + 6 * q) ≤ z 4 + n := w2
      rw [upc_upc]
      refine s_lives (Or.inr rfl) (z := itZ n (un z 5 (z 5 ||| s))) hf2 (by omega) (by omega) (fun c => br_t rfl ?_) (fun c => br_f (by decide) ?_)
      · have := ih (s + 1) f2 (by omega)
        rw [h3 s s32 ha hB c] at this
        exact this
      · have := ih (s + 1) f2 (by omega)
        rw [h2 s s32 ha hB c] at this
        exact this
    refine k_X8_nails_59 ⟨vp_in_nI (n := 2) (by decide) (by decide), ?_⟩
    rw [l2, sh, l5, nI_and, show (nI (s &&& z 5) = 0) = (s &&& z 5 = 0) from propext (nI_eq (b := 0) (by have := Nat.and_le_left (n := s) (m := z 5); omega) (by decide))]
    refine br_f (by rw [nI_leI (by omega) (by omega)]; omega) ⟨vp_in_nI (n := 5) (by decide) (by decide), nr_c (fun ha => ?_) (fun ha => br_c (fun hB => test hB ha) (fun hB => ?_))⟩
    · rw [n_suc]
      have := ih (s + 1) f (by omega)
      rw [h1 s s32 ha] at this
      exact this
    · obtain ⟨c, hc, hBc, hbs, hB1⟩ := h4 s s32 hB
      have b1 := bs_le s 12
      have go := ih (s + 1) f (by omega)
      rw [hB1] at go
      rw [hBc] at go ⊢
      refine s_bits (by omega) (s_bits (by omega) (br_t ?_ ?_))
      · exact nI_le hbs (by omega)
      · rw [n_suc]
        exact go
theorem s_nailsM {d : Nat} {μ : Mm} {K : Int32 → Mm → Prop} {n q : Nat} {w : Int32} {z : Nat → Nat} (lm : LM (μ 283) z) (hz : VL z) (hq : q < z 3) (hn : z 4 + n ≤ 2000) (hw : w = 0 ∨ w = 1)
    (k0 : itZ n z (21 + 6 * q) = 0 → ∀ f, K 0 (upc μ 285 f)) (k1 : ¬ itZ n z (21 + 6 * q) = 0 → ¬ itF n (un (pj z q) 4 0) 9 = 0 → ∀ f, K (if w = 0 then 1 else nI (2 ^ z (17 + 6 * q))) (upc μ 285 f)) (k2 : ¬ itZ n z (21 + 6 * q) = 0 → itF n (un (pj z q) 4 0) 9 = 0 → ∀ f, K (-1000000) (upc μ 285 f)) :
    jX8_nails (d + 5) K 59 [some (.ref 279), some (.int (nI q)), some (.int (nI n)), some (.int w), some (.int (-1000000)), some (.int 0), none] [] μ := by
  obtain ⟨v0, v1, v2, v3, v4, v5, v6, v7, v8⟩ := id hz
  have w2 := (v8 q hq).2.1
  have nn : ¬ (0 : Int32) = -1000000 := by decide
  have pE : ∀ x, x ≤ z 2 → 2 ^ x ≤ 2 ^ z 2 := fun x hx => Nat.pow_le_pow_right (by decide) hx
  have p5 : 2 ^ z 2 ≤ 2 ^ 5 := Nat.pow_le_pow_right (by decide) v2
  have pL : 2 ^ z (17 + 6 * q) < 2 ^ z 2 := Nat.pow_lt_pow_right (by decide) w2
  have pP : 0 < 2 ^ z 2 := Nat.two_pow_pos _
  by_cases c0 : itZ n z (21 + 6 * q) = 0
  · have := s_nailsL (d := d) (μ := μ) (K := K) (w := w) (B := fun s => if s = 0 then -1000000 else 0) lm hz hq hn
      (fun s hs ha => ?_) (fun s hs ha hB hT => ?_) (fun s hs ha hB hT => ?_) (fun s hs hB => ?_) (fun f => ?_) (2 ^ z 2) 0 (μ 285) (by omega)
    · rw [upc_id] at this
      exact this
    · have hs0 : s ≠ 0 := fun e => ha (by rw [e]; exact Nat.zero_and _)
      show (if s + 1 = 0 then (-1000000 : Int32) else 0) = (if s = 0 then -1000000 else 0)
      rw [if_neg (by omega), if_neg hs0]
    · have hs0 : s = 0 := by
        by_cases e : s = 0
        · exact e
        · exact absurd ((show (if s = 0 then (-1000000 : Int32) else 0) = 0 from if_neg e) ▸ hB) nn
      subst hs0
      rfl
    · have hs0 : s = 0 := by
        by_cases e : s = 0
        · exact e
        · exact absurd ((show (if s = 0 then (-1000000 : Int32) else 0) = 0 from if_neg e) ▸ hB) nn
      subst hs0
      exact absurd ((nT_0 hz hq hn (by decide) (by rw [Nat.zero_div])).mpr c0) hT
    · have hs0 : s ≠ 0 := fun e => hB (if_pos e)
      refine ⟨0, by decide, if_neg hs0, Nat.zero_le _, ?_⟩
      show (if s + 1 = 0 then (-1000000 : Int32) else 0) = (if s = 0 then -1000000 else 0)
      rw [if_neg (by omega), if_neg hs0]
    · rw [show (if 2 ^ z 2 = 0 then (-1000000 : Int32) else 0) = 0 from if_neg (by omega)]
      exact br_f nn ⟨fun _ => s_bits (s := 0) (by decide) (k0 c0 f), fun _ => k0 c0 f⟩
  · by_cases c1 : itF n (un (pj z q) 4 0) 9 = 0
    · have := s_nailsL (d := d) (μ := μ) (K := K) (w := w) (B := fun _ => -1000000) lm hz hq hn
        (fun s hs ha => rfl) (fun s hs ha hB hT => ?_) (fun s hs ha hB hT => rfl) (fun s hs hB => absurd rfl hB) (fun f => br_t rfl (k2 c0 c1 f)) (2 ^ z 2) 0 (μ 285) (by omega)
      · rw [upc_id] at this
        exact this
      · rcases Nat.mod_two_eq_zero_or_one (s / 2 ^ z (17 + 6 * q)) with e | e
        · exact absurd ((nT_0 hz hq hn hs e).mp hT) c0
        · exact absurd c1 ((nT_1 hz hq hn hs e).mp hT)
    · have nb : ¬ nI (2 ^ z (17 + 6 * q)) = -1000000 := nI_nn (by omega)
      have := s_nailsL (d := d) (μ := μ) (K := K) (w := w) (B := fun s => if s ≤ 2 ^ z (17 + 6 * q) then -1000000 else nI (2 ^ z (17 + 6 * q))) lm hz hq hn
        (fun s hs ha => ?_) (fun s hs ha hB hT => ?_) (fun s hs ha hB hT => ?_) (fun s hs hB => ?_) (fun f => ?_) (2 ^ z 2) 0 (μ 285) (by omega)
      · rw [upc_id] at this
        exact this
      · show (if s + 1 ≤ 2 ^ z (17 + 6 * q) then (-1000000 : Int32) else nI (2 ^ z (17 + 6 * q))) = (if s ≤ 2 ^ z (17 + 6 * q) then -1000000 else nI (2 ^ z (17 + 6 * q)))
        by_cases e : s = 2 ^ z (17 + 6 * q)
        · rw [e] at ha
          exact absurd ((nT_n hz hq hn (and_pow _ v5 _ (by omega) ha)).mpr c1) c0
        · by_cases e2 : s ≤ 2 ^ z (17 + 6 * q)
          · rw [if_pos e2, if_pos (by omega)]
          · rw [if_neg e2, if_neg (by omega)]
      · have hle : s ≤ 2 ^ z (17 + 6 * q) := by
          by_cases e : s ≤ 2 ^ z (17 + 6 * q)
          · exact e
          · exact absurd ((show (if s ≤ 2 ^ z (17 + 6 * q) then (-1000000 : Int32) else nI (2 ^ z (17 + 6 * q))) = _ from if_neg e) ▸ hB) nb
        rcases Nat.mod_two_eq_zero_or_one (s / 2 ^ z (17 + 6 * q)) with e | e
        · exact absurd ((nT_0 hz hq hn hs e).mp hT) c0
        · have := bit_ge s hs _ (by omega) e
          obtain rfl : s = 2 ^ z (17 + 6 * q) := by omega
          exact if_neg (by omega)
      · have hle : s ≤ 2 ^ z (17 + 6 * q) := by
          by_cases e : s ≤ 2 ^ z (17 + 6 * q)
          · exact e
          · exact absurd ((show (if s ≤ 2 ^ z (17 + 6 * q) then (-1000000 : Int32) else nI (2 ^ z (17 + 6 * q))) = _ from if_neg e) ▸ hB) nb
        show (if s + 1 ≤ 2 ^ z (17 + 6 * q) then (-1000000 : Int32) else nI (2 ^ z (17 + 6 * q))) = (if s ≤ 2 ^ z (17 + 6 * q) then -1000000 else nI (2 ^ z (17 + 6 * q)))
        by_cases e : s = 2 ^ z (17 + 6 * q)
        · refine absurd ((nT_1 hz hq hn hs ?_).mpr c1) hT
          rw [e]
          exact bit_pow _ (by omega)
        · rw [if_pos hle, if_pos (by omega)]
      · have hgt : ¬ s ≤ 2 ^ z (17 + 6 * q) := fun e => hB (if_pos e)
        refine ⟨2 ^ z (17 + 6 * q), by omega, if_neg hgt, ?_, ?_⟩
        · rw [bs_pow _ (by omega)]
          exact bs_pos s hs (Nat.lt_of_le_of_lt (Nat.zero_le _) (Nat.lt_of_not_le hgt))
        · show (if s + 1 ≤ 2 ^ z (17 + 6 * q) then (-1000000 : Int32) else nI (2 ^ z (17 + 6 * q))) = (if s ≤ 2 ^ z (17 + 6 * q) then -1000000 else nI (2 ^ z (17 + 6 * q)))
          rw [if_neg hgt, if_neg (by omega)]
      · rw [show (if 2 ^ z 2 ≤ 2 ^ z (17 + 6 * q) then (-1000000 : Int32) else nI (2 ^ z (17 + 6 * q))) = nI (2 ^ z (17 + 6 * q)) from if_neg (by omega)]
        refine br_f nb ⟨fun hw1 => s_bits (by omega) ?_, fun hw1 => ?_⟩
        · rw [bs_pow _ (by omega)]
          have := k1 c0 c1 f
          rw [if_pos (by rcases hw with h | h; exact h; exact absurd h hw1)] at this
          exact this
        · have := k1 c0 c1 f
          rw [if_neg (by rw [hw1]; decide)] at this
          exact this
theorem op_nails {μ : Mm} {K : Int32 → Mm → Prop} {x y w : Int32} (hI : Inv μ) (k : ∀ a μ1, Nx 157 [.ref 279, .int x, .int y, .int w] a μ1 → K a μ1) : cI (cM 30) 72 [.ref 0, .int x, .int y, .int w] μ K := by
  obtain ⟨z, hz⟩ := hI.2.2.2.2.1
  obtain ⟨vz, v9, lr, lm⟩ := hz
  have vz' := vz
  obtain ⟨v0, v1, v2, v3, v4, v5, v6, v7, v8⟩ := vz
  have r0 := lr.1
  have r3 := lr.2.2.2.1
  have r4 := lr.2.2.2.2.1
  have r5 := lr.2.2.2.2.2.1
  have r6 := lr.2.2.2.2.2.2.1
  have l0 := lm 0 (by decide)
  have l2 := lm 2 (by decide)
  have l3 := lm 3 (by decide)
  have l5 := lm 5 (by decide)
  refine e_X7_nails (s_isPerson r4 (by omega) (fun hx => br_f (by decide) ?_) (fun hx => br_t rfl (k _ _ (fun G g => e_X8_nails (s_isPersonM (μ := up μ 279 0 0) l3 (by omega) (fun h => absurd h hx) (fun _ => br_t rfl (g _ (Inv.q hI (fun k hk => by simp (disch := omega) only [up_eq, upc_n]) (fun j hj => by simp (disch := omega) only [up_eq, upc_s, upc_n, upd_n])))))))))
  refine s_out (a := 1) (b := 60) (by decide) (by decide) (fun hy => nr_t rfl ?_) (fun hy => nr_f (by decide) (k _ _ (fun G g => e_X8_nails (s_isPersonM (μ := up μ 279 0 0) l3 (by omega) (fun _ => br_f (by decide) (s_in (a := 1) (b := 60) (by decide) (by decide) rfl rfl (fun h => absurd h hy) (fun _ => br_t rfl (g _ (Inv.q hI (fun k hk => by simp (disch := omega) only [up_eq, upc_n]) (fun j hj => by simp (disch := omega) only [up_eq, upc_s, upc_n, upd_n])))))) (fun h => absurd hx h)))))
  refine s_out (a := 0) (b := 1) (by decide) (by decide) (fun hw => br_t rfl ?_) (fun hw => br_f (by decide) (k _ _ (fun G g => e_X8_nails (s_isPersonM (μ := up μ 279 0 0) l3 (by omega) (fun _ => br_f (by decide) (s_in (a := 1) (b := 60) (by decide) (by decide) rfl rfl (fun _ => br_f (by decide) (s_in (a := 0) (b := 1) (by decide) (by decide) rfl rfl (fun h => absurd h hw) (fun _ => nr_t rfl (g _ (Inv.q hI (fun k hk => by simp (disch := omega) only [up_eq, upc_n]) (fun j hj => by simp (disch := omega) only [up_eq, upc_s, upc_n, upd_n])))))) (fun h => absurd hy h))) (fun h => absurd hx h)))))
  have hx' := hx
  have hy' := hy
  have hw' := hw
  obtain ⟨q, hq, rfl⟩ := hx
  obtain ⟨n, -, hn, rfl⟩ := hy
  have w01 : w = 0 ∨ w = 1 := by
    obtain ⟨b, -, hb, rfl⟩ := hw
    rcases (show b = 0 ∨ b = 1 by omega) with rfl | rfl
    · exact Or.inl rfl
    · exact Or.inr rfl
  have w6 := (v8 q hq).2.2.2.2.2
  have w2 := (v8 q hq).2.1
  refine s_isLiving (z := z) (by decide) r6 v3 hq (fun c => nr_t rfl ?_) (fun c => nr_f (by decide) ?_)
  · refine k _ _ (fun G g => e_X8_nails (s_isPersonM (μ := up μ 279 0 0) l3 (by omega) (fun _ => br_f (by decide) (s_in (a := 1) (b := 60) (by decide) (by decide) rfl rfl (fun _ => br_f (by decide) (s_in (a := 0) (b := 1) (by decide) (by decide) rfl rfl (fun _ => nr_f (by decide) (s_lives (Or.inl rfl) (LM_th lm) (by omega) (by omega) (fun _ => nr_t rfl (g _ (Inv.q hI (fun k hk => by simp (disch := omega) only [up_eq, upc_n]) (fun j hj => by simp (disch := omega) only [up_eq, upc_s, upc_n, upd_n])))) (fun c2 => absurd c2 c))) (fun h => absurd hw' h))) (fun h => absurd hy' h))) (fun h => absurd hx' h)))
  have mod : ∀ (f : Nat → Int32) (a : Int32), (itZ n z (21 + 6 * q) = 0 → a = 0) → (¬ itZ n z (21 + 6 * q) = 0 → ¬ itF n (un (pj z q) 4 0) 9 = 0 → a = (if w = 0 then 1 else nI (2 ^ z (17 + 6 * q)))) → (¬ itZ n z (21 + 6 * q) = 0 → itF n (un (pj z q) 4 0) 9 = 0 → a = -1000000) → K a (upc μ 271 f) := by
    intro f a a0 a1 a2
    refine k _ _ (fun G g => e_X8_nails (s_isPersonM (μ := up (upc μ 271 f) 279 0 0) l3 (by omega) (fun _ => br_f (by decide) (s_in (a := 1) (b := 60) (by decide) (by decide) rfl rfl (fun _ => br_f (by decide) (s_in (a := 0) (b := 1) (by decide) (by decide) rfl rfl (fun _ => nr_f (by decide) (s_lives (Or.inl rfl) (z := z) lm (by omega) (by omega) (fun c2 => absurd c c2) (fun _ => nr_f (by decide) ?_))) (fun h => absurd hw' h))) (fun h => absurd hy' h))) (fun h => absurd hx' h)))
    refine s_nailsM (d := 24) (z := z) lm vz' hq (by omega) w01 (fun c0 f2 => ?_) (fun c0 c1 f2 => ?_) (fun c0 c1 f2 => ?_)
    · rw [← a0 c0]
      exact g _ (Inv.q hI (fun k hk => by simp (disch := omega) only [up_eq, upc_n]) (fun j hj => by simp (disch := omega) only [up_eq, upc_s, upc_n, upd_n]))
    · rw [← a1 c0 c1]
      exact g _ (Inv.q hI (fun k hk => by simp (disch := omega) only [up_eq, upc_n]) (fun j hj => by simp (disch := omega) only [up_eq, upc_s, upc_n, upd_n]))
    · rw [← a2 c0 c1]
      exact g _ (Inv.q hI (fun k hk => by simp (disch := omega) only [up_eq, upc_n]) (fun j hj => by simp (disch := omega) only [up_eq, upc_s, upc_n, upd_n]))
  refine s_begin (by decide) lr vz' hq (fun f hf => s_livesP hf vz' hq (by omega) (fun c1 f2 => br_t rfl ?_) (fun c1 f2 _ => br_f (by decide) (mod f2 _ (fun _ => rfl) (fun c2 => absurd c1 c2) (fun c2 => absurd c1 c2))))
  refine s_begin (by decide) (LR_271 lr) vz' hq (fun f3 hf3 => ?_)
  rw [upc_upc, up_upc]
  have hv := pj_VF vz' hq
  have hv4 : VF (un (pj z q) 4 0) := by
    obtain ⟨b0, b1, b2, b3, b4, b5, b6, b7, b8, b9⟩ := hv
    exact ⟨b0, b1, b2, b3, Nat.zero_le _, b5, b6, b7, b8, b9⟩
  refine s_livesB (φ := un (pj z q) 4 0) (Or.inl rfl) (hf3.up rfl) hv4 (show z 4 + n ≤ 2000 by omega) (fun f4 _ => ?_)
  have l9 := it9_le n (un (pj z q) 4 0)
  have l9' : itF n (un (pj z q) 4 0) 9 ≤ 1 := Nat.le_trans l9 hv4.2.2.2.2.2.2.2.2.2
  rw [show (nI (itF n (un (pj z q) 4 0) 9) = 0) = (itF n (un (pj z q) 4 0) 9 = 0) from propext (nI_eq (b := 0) (by omega) (by decide))]
  refine nr_c (fun c2 => nr_c (fun c3 => ⟨vp_in_nI (by omega) (by decide), ?_⟩) (fun c3 => ?_)) (fun c2 => mod f4 _ (fun h => absurd h c1) (fun _ h => absurd c2 h) (fun _ _ => rfl))
  · rw [nI_clamp (by omega), show (upc μ 271 f4) 20 q = nI (z (17 + 6 * q)) from (lr.2.2.2.2.2.2.2.2 q hq).2.1, show (1 : Int32) <<< (nI (z (17 + 6 * q)) &&& 31) = nI (2 ^ z (17 + 6 * q)) from sh_1 (by omega)]
    exact mod f4 _ (fun h => absurd h c1) (fun _ _ => (if_neg c3).symm) (fun _ h => absurd h c2)
  · exact mod f4 _ (fun h => absurd h c1) (fun _ _ => (if_pos c3).symm) (fun _ h => absurd h c2)
