/-! ===== called, who, steps ===== -/
def seen (z : Nat → Nat) (q : Nat) : Int32 := if z (21 + 6 * q) = 0 then nI (z (18 + 6 * q)) else -1
def so (R : Nat → Int32) (q : Nat) : Nat → Nat → (Nat → Nat) → Nat
  | 0, _, _ => 1
  | m + 1, k, z => if R k = seen (dz 0 z) q then so R q m (k + 1) (dz 0 z) else 0
theorem s_fitsC {d : Nat} {μ : Mm} {K : Int32 → Mm → Prop} {q r i n : Nat} {R : Nat → Int32} (hr : r < 8) (hin : i + n ≤ 40) (hR : ∀ k, k < n → μ 2 (40 * r + (i + k)) = R k) {z : Nat → Nat} {g : Nat → Int32} (hg : FM g (pj z q)) (hz : VL z) (hq : q < z 3) (h4 : z 4 + n ≤ 2000) (k0 : so R q n 0 z = 0 → ∀ f, K 0 (upc μ 271 f)) (k1 : ¬ so R q n 0 z = 0 → ∀ f, K 1 (upc μ 271 f)) : cI (cM (d + 4)) 102 [.ref 0, .int (nI r), .int (nI i), .int (nI n)] (upc μ 271 g) K := by
  have key : ∀ m k (z : Nat → Nat) g, k + m = n → FM g (pj z q) → VL z → q < z 3 → z 4 + m ≤ 2000 → (so R q m k z = 0 → ∀ f, K 0 (upc μ 271 f)) → (¬ so R q m k z = 0 → ∀ f, K 1 (upc μ 271 f)) → jX7_fits (d + 3) K 3 [some (.ref 0), some (.int (nI r)), some (.int (nI i)), some (.int (nI n)), some (.int (nI k)), none] [] (upc μ 271 g) := by
    intro m
    induction m with
    | zero =>
      intro k z g hk hg hz hq h4 j0 j1
      obtain rfl : k = n := by omega
      exact k_X7_fits_3 (br_t (nI_le (Nat.le_refl _) (by omega)) ⟨Or.inr rfl, j1 (show ¬ 1 = 0 by decide) g⟩)
    | succ m ih =>
      intro k z g hk hg hz hq h4 j0 j1
      have e : so R q (m + 1) k z = if R k = seen (dz 0 z) q then so R q m (k + 1) (dz 0 z) else 0 := rfl
      refine k_X7_fits_3 (br_f (by rw [nI_leI (by omega) (by omega)]; omega) (s_passDay (Or.inl rfl) hg (pj_VF hz hq) (fun x hx => ?_)))
      have hx' := FM_cg hx (pj_dz hz hq)
      have x9 : x 9 = nI (if dz 0 z (21 + 6 * q) = 0 then 1 else 0) := hx' 9 (by decide)
      have x6 : x 6 = nI (dz 0 z (18 + 6 * q)) := hx' 6 (by decide)
      have it : ∀ (G : Int32 → Mm → Prop), G (R k) (upc μ 271 x) → cI (cM (d + 3)) 44 [.ref 1, .int (nI r), .int (nI i + nI k)] (upc μ 271 x) G := by
        intro G hG
        refine e_X6_item ?_
        rw [show (40 : Int32) = nI 40 from rfl, pk_mul, nI_add, nI_add, nI_clamp (by omega), show (upc μ 271 x) 2 = μ 2 from rfl, show r * 40 + (i + k) = 40 * r + (i + k) by omega, hR k (by omega)]
        exact ⟨vp_in_nI (by omega) (by decide), hG⟩
      have go : R k = seen (dz 0 z) q → jX7_fits (d + 3) K 3 [some (.ref 0), some (.int (nI r)), some (.int (nI i)), some (.int (nI n)), some (.int (nI k + 1)), none] [] (upc μ 271 x) := by
        intro hs
        rw [e, if_pos hs] at j0 j1
        rw [n_suc]
        exact ih (k + 1) (dz 0 z) x (by omega) hx' (VL_dz hz (by omega)) (by rw [dz_hd (by decide) (by decide)]; exact hq) (by rw [dz_4]; omega) j0 j1
      have no : ¬ R k = seen (dz 0 z) q → K 0 (upc μ 271 x) := by
        intro hs
        rw [e, if_neg hs] at j0
        exact j0 rfl x
      rw [upc_s, x9, x6]
      by_cases c : dz 0 z (21 + 6 * q) = 0
      · have es : seen (dz 0 z) q = nI (dz 0 z (18 + 6 * q)) := if_pos c
        rw [es] at go no
        rw [if_pos c]
        exact br_f (by decide) (it _ (br_c go (fun h => ⟨Or.inl rfl, no h⟩)))
      · have es : seen (dz 0 z) q = -1 := if_neg c
        rw [es] at go no
        rw [if_neg c]
        exact br_t rfl (it _ (br_c go (fun h => ⟨Or.inl rfl, no h⟩)))
  exact e_X7_fits (key n 0 z g (by omega) hg hz hq h4 k0 k1)
theorem s_isSo {d : Nat} {μ : Mm} {K : Int32 → Mm → Prop} {q s n : Nat} {R : Nat → Int32} (hs : s + n ≤ 320) (hR : ∀ k, k < n → μ 282 (s + k) = R k) {z : Nat → Nat} {f : Nat → Int32} (hf : LM f z) (hz : VL z) (hq : q < z 3) (h4 : z 4 + n ≤ 2000) (k0 : so R q n 0 z = 0 → ∀ f, K 0 (upc μ 285 f)) (k1 : ¬ so R q n 0 z = 0 → ∀ f, K 1 (upc μ 285 f)) : cI (cM (d + 5)) 162 [.ref 279, .int (nI q), .int (nI s), .int (nI n)] (upc μ 285 f) K := by
  have key0 : ∀ m k (z : Nat → Nat) f, k + m = n → LM f z → VL z → q < z 3 → z 4 + m ≤ 2000 → (∀ f, K 0 (upc μ 285 f)) → jX8_isSo (d + 4) K 6 [some (.ref 279), some (.int (nI q)), some (.int (nI s)), some (.int (nI n)), some (.int 0), some (.int (nI k)), none] [] (upc μ 285 f) := by
    intro m
    induction m with
    | zero =>
      intro k z f hk hf hz hq h4 j0
      obtain rfl : k = n := by omega
      exact k_X8_isSo_6 (br_t (nI_le (Nat.le_refl _) (by omega)) ⟨Or.inl rfl, j0 f⟩)
    | succ m ih =>
      intro k z f hk hf hz hq h4 j0
      refine k_X8_isSo_6 (br_f (by rw [nI_leI (by omega) (by omega)]; omega) (s_day (s := 0) (z := z) (Or.inr rfl) (by rw [upc_s]; exact hf) hz (by decide) (fun f2 h2 => br_t rfl ?_)))
      rw [upc_upc, n_suc]
      exact ih (k + 1) (dz 0 z) f2 (by omega) h2 (VL_dz hz (by omega)) (by rw [dz_hd (by decide) (by decide)]; exact hq) (by rw [dz_4]; omega) j0
  have key : ∀ m k (z : Nat → Nat) f, k + m = n → LM f z → VL z → q < z 3 → z 4 + m ≤ 2000 → (so R q m k z = 0 → ∀ f, K 0 (upc μ 285 f)) → (¬ so R q m k z = 0 → ∀ f, K 1 (upc μ 285 f)) → jX8_isSo (d + 4) K 6 [some (.ref 279), some (.int (nI q)), some (.int (nI s)), some (.int (nI n)), some (.int 1), some (.int (nI k)), none] [] (upc μ 285 f) := by
    intro m
    induction m with
    | zero =>
      intro k z f hk hf hz hq h4 j0 j1
      obtain rfl : k = n := by omega
      exact k_X8_isSo_6 (br_t (nI_le (Nat.le_refl _) (by omega)) ⟨Or.inr rfl, j1 (show ¬ 1 = 0 by decide) f⟩)
    | succ m ih =>
      intro k z f hk hf hz hq h4 j0 j1
      have e : so R q (m + 1) k z = if R k = seen (dz 0 z) q then so R q m (k + 1) (dz 0 z) else 0 := rfl
      have vd := VL_dz (s := 0) hz (by omega)
      have q3 : q < dz 0 z 3 := by rw [dz_hd (by decide) (by decide)]; exact hq
      have d4 : dz 0 z 4 = z 4 + 1 := dz_4
      have wq := (vd.2.2.2.2.2.2.2.2 q q3).2.2.2.2.2
      have w3 := vd.2.2.2.1
      refine k_X8_isSo_6 (br_f (by rw [nI_leI (by omega) (by omega)]; omega) (s_day (s := 0) (z := z) (Or.inr rfl) (by rw [upc_s]; exact hf) hz (by decide) (fun f2 h2 => br_f (by decide) ?_)))
      rw [upc_upc, n_suc]
      have l2 : LM ((upc μ 285 f2) 285) (dz 0 z) := by rw [upc_s]; exact h2
      have rd : (nI s + nI k).toNatClampNeg = s + k := by rw [nI_add, nI_clamp (by omega)]
      have vp : vp_in (nI s + nI k) 320 := by rw [nI_add]; exact vp_in_nI (by omega) (by decide)
      have go : R k = seen (dz 0 z) q → jX8_isSo (d + 4) K 6 [some (.ref 279), some (.int (nI q)), some (.int (nI s)), some (.int (nI n)), some (.int 1), some (.int (nI (k + 1))), none] [] (upc μ 285 f2) := by
        intro hs
        rw [e, if_pos hs] at j0 j1
        exact ih (k + 1) (dz 0 z) f2 (by omega) h2 vd q3 (by omega) j0 j1
      have no : ¬ R k = seen (dz 0 z) q → jX8_isSo (d + 4) K 6 [some (.ref 279), some (.int (nI q)), some (.int (nI s)), some (.int (nI n)), some (.int 0), some (.int (nI (k + 1))), none] [] (upc μ 285 f2) := by
        intro hs
        rw [e, if_neg hs] at j0
        exact key0 m (k + 1) (dz 0 z) f2 (by omega) h2 vd q3 (by omega) (j0 rfl)
      rw [rd]
      refine s_lives (Or.inr rfl) l2 (by omega) (by omega) (fun c => br_t rfl ⟨vp, ?_⟩) (fun c => br_f (by decide) (s_of (c := 2) (Or.inr rfl) l2 (by omega) (by decide) ⟨vp, ?_⟩))
      · have es : seen (dz 0 z) q = -1 := if_neg c
        rw [es] at go no
        rw [show (upc μ 285 f2) 282 = μ 282 from rfl, hR k (by omega)]
        exact nr_c (fun h => no (fun e => h e.symm)) (fun h => go h.symm)
      · have es : seen (dz 0 z) q = nI (dz 0 z (18 + 6 * q)) := if_pos c
        rw [es] at go no
        rw [show 16 + 6 * q + 2 = 18 + 6 * q by omega, show (upc μ 285 f2) 282 = μ 282 from rfl, hR k (by omega)]
        exact nr_c (fun h => no (fun e => h e.symm)) (fun h => go h.symm)
  exact e_X8_isSo (key n 0 z f (by omega) hf hz hq h4 k0 k1)
