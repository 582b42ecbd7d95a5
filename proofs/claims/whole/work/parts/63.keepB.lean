/-! ===== keepDays: the reference ===== -/
/-- all but how long he is kept in is as told -/
def as8 (φ ψ : Nat → Nat) : Prop := ∀ j, j < 10 → j ≠ 8 → φ j = ψ j
theorem pj_un8 {z : Nat → Nat} {q v : Nat} {ψ : Nat → Nat} (h17 : z (17 + 6 * q) < 5) (h : as8 (pj z q) ψ) : ∀ j, j < 10 → un ψ 8 v j = pj (un z (20 + 6 * q) v) q j := by
  have a : ∀ i, i < 16 → un z (20 + 6 * q) v i = z i := fun i hi => un_n _ _ (by omega)
  have b : ∀ c, c < 20 → 16 ≤ c → un z (20 + 6 * q) v (c + 6 * q) = z (c + 6 * q) := fun c h1 h2 => un_n _ _ (by omega)
  have b1 : un z (20 + 6 * q) v (21 + 6 * q) = z (21 + 6 * q) := un_n _ _ (by omega)
  refine ten ?_ ?_ ?_ ?_ ?_ ?_ ?_ ?_ ?_ ?_
  · show ψ 0 = un z (20 + 6 * q) v 0
    rw [a 0 (by decide)]; exact (h 0 (by decide) (by decide)).symm
  · show ψ 1 = un z (20 + 6 * q) v 1
    rw [a 1 (by decide)]; exact (h 1 (by decide) (by decide)).symm
  · show ψ 2 = un z (20 + 6 * q) v 4
    rw [a 4 (by decide)]; exact (h 2 (by decide) (by decide)).symm
  · show ψ 3 = un z (20 + 6 * q) v (6 + 2 * un z (20 + 6 * q) v (17 + 6 * q))
    rw [b 17 (by decide) (by decide), a _ (by omega)]; exact (h 3 (by decide) (by decide)).symm
  · show ψ 4 = (if un z (20 + 6 * q) v 5 / 2 ^ un z (20 + 6 * q) v (17 + 6 * q) % 2 = 0 then un z (20 + 6 * q) v (7 + 2 * un z (20 + 6 * q) v (17 + 6 * q)) else 0)
    rw [b 17 (by decide) (by decide), a 5 (by decide), a _ (by omega)]; exact (h 4 (by decide) (by decide)).symm
  · show ψ 5 = un z (20 + 6 * q) v (16 + 6 * q)
    rw [b 16 (by decide) (by decide)]; exact (h 5 (by decide) (by decide)).symm
  · show ψ 6 = un z (20 + 6 * q) v (18 + 6 * q)
    rw [b 18 (by decide) (by decide)]; exact (h 6 (by decide) (by decide)).symm
  · show ψ 7 = un z (20 + 6 * q) v (19 + 6 * q)
    rw [b 19 (by decide) (by decide)]; exact (h 7 (by decide) (by decide)).symm
  · show v = un z (20 + 6 * q) v (20 + 6 * q)
    rw [un_s]
  · show ψ 9 = (if un z (20 + 6 * q) v (21 + 6 * q) = 0 then 1 else 0)
    rw [b1]; exact (h 9 (by decide) (by decide)).symm
theorem live1 {z : Nat → Nat} {q : Nat} : (if z (21 + 6 * q) = 0 then 1 else 0) = 0 ↔ ¬ z (21 + 6 * q) = 0 := by
  by_cases c : z (21 + 6 * q) = 0
  · rw [if_pos c]
    exact ⟨fun h => absurd h (by decide), fun h => absurd c h⟩
  · rw [if_neg c]
    exact ⟨fun _ => c, fun _ => rfl⟩
theorem s_diesKept {d : Nat} {μ : Mm} {K : Int32 → Mm → Prop} {q S : Nat} {φ : Nat → Nat} (hS : S < 4096) (h9 : φ 9 = 1) : ∀ m i a (z : Nat → Nat) f, i + m = 60 → LM f z → VL z → z 4 + m + 1 ≤ 2000 → q < z 3 → z (21 + 6 * q) = 0 → as8 (pj z q) (st φ i a) → (∀ f, K (orN (kb φ m i a (S / 2 ^ i))) (upc μ 285 f)) → jX8_diesKept (d + 4) K 2 [some (.ref 279), some (.int (nI q)), some (.int (nI S)), some (.int (nI i)), none] [] (upc μ 285 f) := by
  -- one look, one DAY
  have step : ∀ i a (z : Nat → Nat) f, i ≤ 60 → LM f z → VL z → z 4 + 1 ≤ 2000 → q < z 3 → z (21 + 6 * q) = 0 → as8 (pj z q) (st φ i a) → (∀ x (z' : Nat → Nat), LM x z' → VL z' → z' 4 = z 4 + 1 → z' 3 = z 3 → (∀ j, j < 10 → pj z' q j = dayF (un (st φ i a) 8 (S / 2 ^ i % 2)) j) → jX8_diesKept (d + 4) K 2 [some (.ref 279), some (.int (nI q)), some (.int (nI S)), some (.int (nI (i + 1))), none] [] (upc μ 285 x)) → jX8_diesKept (d + 4) K 2 [some (.ref 279), some (.int (nI q)), some (.int (nI S)), some (.int (nI i)), none] [] (upc μ 285 f) := by
    intro i a z f hi hf hz h4 hq hl has next
    obtain ⟨v0, v1, v2, v3, v4, v5, v6, v7, v8⟩ := id hz
    obtain ⟨w1, w2, w3, w4, w5, w6⟩ := v8 q hq
    have a4 : (16 : Int32) + 6 * nI q + 4 = nI (20 + 6 * q) := by
      rw [show (6 : Int32) = nI 6 from rfl, pk_mul, show (16 : Int32) = nI 16 from rfl, nI_add, show (4 : Int32) = nI 4 from rfl, nI_add]
      exact congrArg nI (by omega)
    have hb : S / 2 ^ i % 2 ≤ 1 := by omega
    have hz' : VL (un z (20 + 6 * q) (S / 2 ^ i % 2)) := VL_un hz (by decide) (by decide) (by omega) (by omega) (by omega) (by omega) (fun _ => by omega) (by omega)
    have e4 : un z (20 + 6 * q) (S / 2 ^ i % 2) 4 = z 4 := un_n _ _ (by omega)
    have e3 : un z (20 + 6 * q) (S / 2 ^ i % 2) 3 = z 3 := un_n _ _ (by omega)
    have go : ∀ v : Int32, v = nI (S / 2 ^ i % 2) → cI (cM (d + 4)) 135 [.ref 285, .int 0] (up (upc μ 285 f) 285 (nI (20 + 6 * q)).toNatClampNeg v) (fun x55 μ55 => jX8_diesKept (d + 4) K 2 [some (.ref 279), some (.int (nI q)), some (.int (nI S)), some (.int (nI i + 1)), none] [] μ55) := by
      intro v hv
      subst hv
      rw [nI_clamp (by omega), up_upc]
      refine s_day (s := 0) (z := un z (20 + 6 * q) (S / 2 ^ i % 2)) (Or.inr rfl) (hf.up rfl) hz' (by decide) (fun x hx => ?_)
      rw [upc_upc, n_suc]
      refine next x _ hx (VL_dz hz' (by omega)) (by rw [dz_4, e4]) (by rw [dz_hd (by decide) (by decide), e3]) (fun j hj => ?_)
      rw [← pj_dz hz' (by rw [e3]; exact hq) j hj]
      exact (dayF_cg (pj_un8 (by omega) has) j hj).symm
    refine k_X8_diesKept_2 ?_
    rw [a4, show (60 : Int32) = nI 60 from rfl, nI_ltI (by omega) (by omega), show (12 : Int32) = nI 12 from rfl, nI_leI (by omega) (by omega)]
    refine br_f (by omega) (s_lives (Or.inr rfl) (show LM ((upc μ 285 f) 285) z from hf) (by omega) (by omega) (fun c => absurd hl c) (fun _ => nr_f (by decide) (br_c (fun c => ⟨vp_in_nI (by omega) (by decide), go _ ?_⟩) (fun c => ⟨vp_in_nI (by omega) (by decide), go _ (sh_b (by omega) (by omega))⟩))))
    have p12 : 2 ^ 12 ≤ 2 ^ i := Nat.pow_le_pow_right (by decide) c
    rw [Nat.div_eq_of_lt (show S < 2 ^ i by omega)]
    rfl
  intro m
  induction m with
  | zero =>
    intro i a z f hi hf hz h4 hq hl has k
    obtain rfl : i = 60 := by omega
    refine step 60 a z f (by omega) hf hz (by omega) hq hl has (fun x z' _ _ _ _ _ => ?_)
    refine k_X8_diesKept_2 (br_t (by decide) (k x))
  | succ m ih =>
    intro i a z f hi hf hz h4 hq hl has k
    refine step i a z f (by omega) hf hz (by omega) hq hl has (fun x z' hx vz' h4' h3' hp => ?_)
    have p9 := hp 9 (by decide)
    have hd2 : S / 2 ^ i / 2 = S / 2 ^ (i + 1) := by rw [Nat.div_div_eq_div_mul, Nat.pow_succ]
    have hb : S / 2 ^ i % 2 = 0 ∨ S / 2 ^ i % 2 = 1 := by omega
    -- he dies in it
    have die : dayF (un (st φ i a) 8 (S / 2 ^ i % 2)) 9 = 0 → K (nI (i + 1)) (upc μ 285 x) → jX8_diesKept (d + 4) K 2 [some (.ref 279), some (.int (nI q)), some (.int (nI S)), some (.int (nI (i + 1))), none] [] (upc μ 285 x) := by
      intro c kk
      rw [c] at p9
      have hdead : ¬ z' (21 + 6 * q) = 0 := live1.mp p9
      have w6 := (vz'.2.2.2.2.2.2.2.2 q (by omega)).2.2.2.2.2
      have v3 := vz'.2.2.2.1
      have v4 := vz'.2.2.2.2.1
      refine k_X8_diesKept_2 (br_f (by rw [show (60 : Int32) = nI 60 from rfl, nI_ltI (by omega) (by omega)]; omega) (s_lives (Or.inr rfl) (show LM ((upc μ 285 x) 285) z' from hx) (by omega) (by omega) (fun _ => nr_t rfl kk) (fun c2 => absurd c2 hdead)))
    have live : ∀ a', (∀ j, j < 10 → dayF (un (st φ i a) 8 (S / 2 ^ i % 2)) j = st φ (i + 1) a' j) → (∀ f, K (orN (kb φ m (i + 1) a' (S / 2 ^ (i + 1)))) (upc μ 285 f)) → jX8_diesKept (d + 4) K 2 [some (.ref 279), some (.int (nI q)), some (.int (nI S)), some (.int (nI (i + 1))), none] [] (upc μ 285 x) := by
      intro a' e kk
      have e9 := e 9 (by decide)
      rw [← p9, show st φ (i + 1) a' 9 = φ 9 from rfl, h9] at e9
      have hal : z' (21 + 6 * q) = 0 := Decidable.byContradiction (fun c => by
        have := live1.mpr c
        have e9' : (if z' (21 + 6 * q) = 0 then 1 else 0) = 1 := e9
        omega)
      refine ih (i + 1) a' z' x (by omega) hx vz' (by omega) (by omega) hal (fun j hj _ => ?_) kk
      rw [hp j hj, e j hj]
    rcases hb with hb | hb
    · have e0 : kb φ (m + 1) i a (S / 2 ^ i) = if fl φ i a = 0 then i + 1 else kb φ m (i + 1) (fp φ i a) (S / 2 ^ i / 2) := if_neg (by omega)
      have us : ∀ j, j < 10 → un (st φ i a) 8 (S / 2 ^ i % 2) j = st φ i a j := by
        rw [hb]
        exact ten rfl rfl rfl rfl rfl rfl rfl rfl rfl rfl
      rw [e0, hd2] at k
      by_cases hf0 : fl φ i a = 0
      · rw [if_pos hf0] at k
        refine die ?_ ?_
        · rw [dayF_cg us 9 (by decide)]
          exact hf0
        · have := k x
          unfold orN at this
          rw [if_neg (by omega)] at this
          exact this
      · rw [if_neg hf0] at k
        exact live (fp φ i a) (fun j hj => by rw [dayF_cg us j hj]; exact st_free hf0 j hj) k
    · have e0 : kb φ (m + 1) i a (S / 2 ^ i) = if kq φ i a = 0 then i + 1 else kb φ m (i + 1) a (S / 2 ^ i / 2) := if_pos hb
      rw [e0, hd2] at k
      rw [hb] at die live
      by_cases hf0 : kq φ i a = 0
      · rw [if_pos hf0] at k
        refine die hf0 ?_
        have := k x
        unfold orN at this
        rw [if_neg (by omega)] at this
        exact this
      · rw [if_neg hf0] at k
        exact live a (st_kept hf0) k
