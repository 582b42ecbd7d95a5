/-! ===== ACTS: the ring and the row ===== -/
def AC (μ : Mm) (n o : Nat) (zs : Nat → Nat → Nat) : Prop := n ≤ 24 ∧ o < 24 ∧ μ 53 2 = nI n ∧ μ 53 1 = nI o ∧ ∀ j, j < n → LR μ (55 + 9 * ((o + j) % 24)) (zs j)
def AM (μ : Mm) (n : Nat) (zs : Nat → Nat → Nat) : Prop := μ 279 9 = nI n ∧ ∀ j, j < n → ∀ i, i < 58 → μ 286 (58 * j + i) = nI (zs j i)
def pn (n : Nat) : Nat := if n < 24 then n + 1 else 24
def pu (n : Nat) (zs : Nat → Nat → Nat) (z : Nat → Nat) : Nat → Nat → Nat := fun j => if n < 24 then (if j = n then z else zs j) else (if j = 23 then z else zs (j + 1))
theorem lo_55 : ∀ i, i < 24 → lo (55 + 9 * i) = 0 := by decide
theorem ob_55 : ∀ i, i < 24 → ob (55 + 9 * i) = 4 := by decide
theorem tg_54 (i : Nat) : tg 54 i = 55 + 9 * i := rfl
theorem s_remember {d : Nat} {μ : Mm} {K : Mm → Prop} {n o : Nat} {zs : Nat → Nat → Nat} {z : Nat → Nat} (h : AC μ n o zs) (hz : LR μ 16 z) (h2 : z 2 ≤ 5) (h3 : z 3 ≤ 7) (k : ∀ μ' o', AC μ' (pn n) o' (pu n zs z) → (∀ a, a < 53 ∨ 270 < a → μ' a = μ a) → K μ') : cV (cM (d + 2)) 1 [.ref 53, .ref 16] μ K := by
  obtain ⟨hn, ho, a2, a1, a3⟩ := h
  have hm : (o + n) % 24 < 24 := Nat.mod_lt _ (by decide)
  have er : nI o + nI n - (nI o + nI n) / 24 * 24 = nI ((o + n) % 24) := by
    rw [nI_add]
    exact rem_n (by omega) (by decide) (by decide)
  refine e_X0_remember ⟨by decide, ?_⟩
  rw [a1, a2, er, nI_clamp (by omega), tg_54, ob_55 _ hm]
  refine ⟨vp_in_nI hm (by decide), ?_⟩
  refine s_become (by omega) (lo_55 _ hm) (by decide) (by decide) (by omega) hz h2 h3 (fun ν hν fr => ?_)
  have f53 : ν 53 = μ 53 := fr 53 (by omega)
  rw [f53, a1, a2]
  rw [show ((24 : Int32) ≤ nI n) = (24 ≤ n) from propext (nI_leI (a := 24) (by omega) (by omega))]
  refine br_c (fun c => ⟨by decide, ?_⟩) (fun c => ?_)
  · obtain rfl : n = 24 := by omega
    have er2 : nI o + 1 - (nI o + 1) / 24 * 24 = nI ((o + 1) % 24) := by
      rw [n_suc]
      exact rem_n (by omega) (by decide) (by decide)
    rw [er2]
    refine k _ ((o + 1) % 24) ⟨by decide, Nat.mod_lt _ (by decide), ?_, ?_, fun j hj => ?_⟩ (fun a ha => ?_)
    · rw [up_eq, upc_s, upd_n _ _ (by decide), f53]
      exact a2
    · rw [up_eq, upc_s, upd_s]
    · have hj : j < 24 := hj
      have fr2 : ∀ {y : Nat → Nat} {P : Nat}, 54 < P → LR ν P y → LR (up ν 53 1 (nI ((o + 1) % 24))) P y := fun hP q => q.fr (fun i hi => by rw [up_eq]; exact upc_n _ _ (by omega))
      show LR _ _ (if 24 < 24 then _ else (if j = 23 then z else zs (j + 1)))
      rw [if_neg (by decide)]
      by_cases e : j = 23
      · rw [if_pos e]
        subst e
        refine fr2 (by omega) ?_
        rw [show ((o + 1) % 24 + 23) % 24 = (o + 24) % 24 by omega]
        exact hν
      · rw [if_neg e]
        refine fr2 (by omega) ?_
        rw [show ((o + 1) % 24 + j) % 24 = (o + (j + 1)) % 24 by omega]
        exact (a3 (j + 1) (by omega)).fr (fun i hi => fr _ (by omega))
    · rw [up_eq, upc_n _ _ (by omega)]
      exact fr a (by omega)
  · rw [n_suc]
    have en : pn n = n + 1 := if_pos (by omega)
    refine k _ o ⟨by rw [en]; omega, ho, ?_, ?_, fun j hj => ?_⟩ (fun a ha => ?_)
    · rw [up_eq, upc_s, upd_s, en]
    · rw [up_eq, upc_s, upd_n _ _ (by decide), f53]
      exact a1
    · rw [en] at hj
      have fr2 : ∀ {y : Nat → Nat} {P : Nat}, 54 < P → LR ν P y → LR (up ν 53 2 (nI (n + 1))) P y := fun hP q => q.fr (fun i hi => by rw [up_eq]; exact upc_n _ _ (by omega))
      show LR _ _ (if n < 24 then (if j = n then z else zs j) else _)
      rw [if_pos (by omega)]
      by_cases e : j = n
      · rw [if_pos e]
        subst e
        exact fr2 (by omega) hν
      · rw [if_neg e]
        refine fr2 (by omega) ((a3 j (by omega)).fr (fun i hi => fr _ (by omega)))
    · rw [up_eq, upc_n _ _ (by omega)]
      exact fr a (by omega)
theorem s_keep {d : Nat} {μ : Mm} {K : Mm → Prop} {n : Nat} {zs : Nat → Nat → Nat} {z : Nat → Nat} (h : AM μ n zs) (hn : n ≤ 24) (hz : LM (μ 283) z) (k : ∀ f g, AM (upc (upc μ 286 f) 279 g) (pn n) (pu n zs z) → (∀ j, j ≠ 9 → g j = μ 279 j) → K (upc (upc μ 286 f) 279 g)) : cV (cM (d + 1)) 141 [.ref 279] μ K := by
  obtain ⟨h9, hs⟩ := h
  have put : ∀ m i c f (g : Nat → Int32), i + m = 58 → c < 24 → g 9 = nI c → (∀ j, j ≠ 9 → g j = μ 279 j) → (∀ a, a < i → f (58 * c + a) = nI (z a)) → (∀ f2 g2, (∀ x, x < 58 * c → f2 x = f x) → (∀ a, a < 58 → f2 (58 * c + a) = nI (z a)) → g2 9 = nI (c + 1) → (∀ j, j ≠ 9 → g2 j = μ 279 j) → K (upc (upc μ 286 f2) 279 g2)) → jX8_keep d K 51 [some (.ref 279), some (.int (nI i))] [] (upc (upc μ 286 f) 279 g) := by
    intro m
    induction m with
    | zero =>
      intro i c f g hi hc g9 gj fa kk
      obtain rfl : i = 58 := by omega
      refine k_X8_keep_51 (br_t (by decide) ?_)
      rw [upc_s, g9, n_suc, up_eq, upc_s, upc_upc]
      exact kk f _ (fun _ _ => rfl) fa (upd_s _ _ _) (fun j hj => by rw [upd_n _ _ hj]; exact gj j hj)
    | succ m ih =>
      intro i c f g hi hc g9 gj fa kk
      refine k_X8_keep_51 (br_f (by rw [show (58 : Int32) = nI 58 from rfl, nI_leI (by omega) (by omega)]; omega) ?_)
      rw [upc_s, g9, n_suc, show (58 : Int32) = nI 58 from rfl, pk_mul, nI_add, nI_clamp (by omega), nI_clamp (by omega)]
      refine ⟨vp_in_nI (by omega) (by decide), vp_in_nI (by omega) (by decide), ?_⟩
      rw [show (upc (upc μ 286 f) 279 g) 283 i = μ 283 i from rfl, hz i (by omega)]
      have e : up (upc (upc μ 286 f) 279 g) 286 (58 * c + i) (nI (z i)) = upc (upc μ 286 (upd f (58 * c + i) (nI (z i)))) 279 g := by
        refine Mm_ext (fun a => ?_)
        by_cases c279 : a = 279
        · subst c279; rfl
        by_cases c286 : a = 286
        · subst c286; rfl
        simp (disch := omega) only [up_eq, upc_n]
      rw [e]
      refine ih (i + 1) c _ g (by omega) hc g9 gj (fun a ha => ?_) (fun f2 g2 q1 q2 q3 q4 => kk f2 g2 (fun x hx => ?_) q2 q3 q4)
      · by_cases ea : a = i
        · subst ea
          exact upd_s _ _ _
        · rw [upd_n _ _ (by omega)]
          exact fa a (by omega)
      · rw [q1 x hx, upd_n _ _ (by omega)]
  refine e_X8_keep ?_
  rw [h9, show (24 : Int32) = nI 24 from rfl, nI_eq (by omega) (by omega)]
  refine nr_c (fun c => ?_) (fun c => ?_)
  · have en : pn n = n + 1 := if_pos (by omega)
    have := put 58 0 n (μ 286) (μ 279) (by decide) (by omega) h9 (fun _ _ => rfl) (fun a ha => absurd ha (by omega)) (fun f2 g2 q1 q2 q3 q4 => k f2 g2 ⟨by rw [en]; exact q3, fun j hj i hi => ?_⟩ q4)
    · rw [upc_id, upc_id] at this
      exact this
    · rw [en] at hj
      show f2 (58 * j + i) = nI ((if n < 24 then (if j = n then z else zs j) else _) i)
      rw [if_pos (by omega)]
      by_cases e : j = n
      · rw [if_pos e, e]
        exact q2 i hi
      · rw [if_neg e, q1 _ (by omega)]
        exact hs j (by omega) i hi
  · subst c
    have shift : ∀ m i f, i + m = 1334 → (∀ x, x < i → f x = μ 286 (x + 58)) → (∀ x, i ≤ x → f x = μ 286 x) → jX8_keep d K 11 [some (.ref 279), some (.int (nI i))] [] (upc μ 286 f) := by
      intro m
      induction m with
      | zero =>
        intro i f hi f1 f2
        obtain rfl : i = 1334 := by omega
        refine k_X8_keep_11 (br_t (by decide) ?_)
        rw [show (upc μ 286 f) 279 9 = μ 279 9 from rfl, h9, show nI 24 - 1 = nI 23 from rfl, up_eq, show (upc μ 286 f) 279 = μ 279 from rfl]
        refine put 58 0 23 f _ (by decide) (by decide) (upd_s _ _ _) (fun j hj => upd_n _ _ hj) (fun a ha => absurd ha (by omega)) (fun f3 g2 q1 q2 q3 q4 => k f3 g2 ⟨q3, fun j hj i hi => ?_⟩ q4)
        have hj : j < 24 := hj
        show f3 (58 * j + i) = nI ((if 24 < 24 then _ else (if j = 23 then z else zs (j + 1))) i)
        rw [if_neg (by decide)]
        by_cases e : j = 23
        · rw [if_pos e, e]
          exact q2 i hi
        · rw [if_neg e, q1 _ (by omega), f1 _ (by omega), show 58 * j + i + 58 = 58 * (j + 1) + i by omega]
          exact hs (j + 1) (by omega) i hi
      | succ m ih =>
        intro i f hi f1 f2
        refine k_X8_keep_11 (br_f (by rw [show (1334 : Int32) = nI 1334 from rfl, nI_leI (by omega) (by omega)]; omega) ?_)
        rw [n_suc, show (58 : Int32) = nI 58 from rfl, nI_add, nI_clamp (by omega), nI_clamp (by omega), up_eq, upc_upc, upc_s]
        refine ⟨vp_in_nI (by omega) (by decide), vp_in_nI (by omega) (by decide), ih (i + 1) _ (by omega) (fun x hx => ?_) (fun x hx => ?_)⟩
        · by_cases e : x = i
          · subst e
            rw [upd_s]
            exact f2 _ (by omega)
          · rw [upd_n _ _ e]
            exact f1 x (by omega)
        · rw [upd_n _ _ (by omega)]
          exact f2 x (by omega)
    have := shift 1334 0 (μ 286) (by decide) (fun x hx => absurd hx (by omega)) (fun _ _ => rfl)
    rw [upc_id] at this
    exact this
