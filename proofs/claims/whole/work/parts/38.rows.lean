/-! ===== row, set, drop, feed ===== -/
theorem n_suc (i : Nat) : nI i + 1 = nI (i + 1) := by rw [show (1 : Int32) = nI 1 from rfl, nI_add]
theorem Inv.r {μ μ' : Mm} (h : Inv μ) (e : ∀ k, (5 ≤ k ∧ k < 25) ∨ (34 ≤ k ∧ k ≤ 270) ∨ k = 277 ∨ k = 278 ∨ k = 283 ∨ (286 ≤ k ∧ k ≤ 290) → μ' k = μ k) (e9 : ∀ j, ¬ j = 0 → ¬ j = 1 → μ' 279 j = μ 279 j) (hs : μ' 0 10 = μ' 279 1) (hr : IR μ') : Inv μ' := by
  obtain ⟨h1, h2, h3, h4, ⟨z, h5⟩, h6, h7, h8⟩ := h
  have f : ∀ k, (5 ≤ k ∧ k < 25) ∨ (34 ≤ k ∧ k ≤ 270) ∨ k = 277 ∨ k = 278 ∨ k = 283 ∨ (286 ≤ k ∧ k ≤ 290) → ∀ j, μ' k j = μ k j := fun k hk j => by rw [e k hk]
  exact ⟨hr, hs, h3.fr (f _ (by omega) _) (e9 _ (by decide) (by decide)) (e _ (by omega)) (e _ (by omega)), h4.fr (f _ (by omega) _) (e9 _ (by decide) (by decide)), ⟨z, h5.fr (fun k a b => e k (by omega)) (e _ (by omega))⟩, h6.fr (e _ (by omega)) (e9 _ (by decide) (by decide)) (fun k a b => e k (by omega)) (e _ (by omega)), h7.fr (fun k a b => e k (by omega)) (e _ (by omega)) (e _ (by omega)), h8.fr (f _ (by omega) _) (e9 _ (by decide) (by decide)) (e _ (by omega)) (e _ (by omega))⟩
theorem s_make {d : Nat} {μ : Mm} {K : Mm → Prop} {r n : Nat} {l : Int32} (hr : r < 8) (hn : n ≤ 40) (k : ∀ f, (∀ i, i < n → f (40 * r + i) = 0) → (∀ j, j < 40 * r ∨ 40 * r + 40 ≤ j → f j = μ 2 j) → K (upc (up (up μ 3 r l) 4 r (nI n)) 2 f)) : cV (cM (d + 1)) 47 [.ref 1, .int (nI r), .int l, .int (nI n)] μ K := by
  refine e_X6_make ⟨vp_in_nI hr (by decide), vp_in_nI hr (by decide), ?_⟩
  rw [nI_clamp (by omega)]
  have key : ∀ m i f, i + m = n → (∀ a, a < i → f (40 * r + a) = 0) → (∀ j, j < 40 * r ∨ 40 * r + 40 ≤ j → f j = μ 2 j) → jX6_make d K 17 [some (.ref 1), some (.int (nI r)), none, some (.int (nI n)), some (.int (nI i))] [] (upc (up (up μ 3 r l) 4 r (nI n)) 2 f) := by
    intro m
    induction m with
    | zero =>
      intro i f hi h1 h2
      obtain rfl : i = n := by omega
      exact k_X6_make_17 (br_t (nI_le (Nat.le_refl _) (by omega)) (k f h1 h2))
    | succ m ih =>
      intro i f hi h1 h2
      refine k_X6_make_17 (br_f (by rw [nI_leI (by omega) (by omega)]; omega) ?_)
      rw [n_suc, show (40 : Int32) = nI 40 from rfl, pk_mul, nI_add, nI_clamp (by omega), show r * 40 + i = 40 * r + i by omega]
      refine ⟨vp_in_nI (by omega) (by decide), ?_⟩
      rw [up_eq, upc_upc, upc_s]
      refine ih (i + 1) _ (by omega) (fun a ha => ?_) (fun j hj => ?_)
      · by_cases c : a = i
        · subst c
          exact upd_s _ _ _
        · rw [upd_n _ _ (by omega)]
          exact h1 a (by omega)
      · rw [upd_n _ _ (by omega)]
        exact h2 j hj
  have := key n 0 ((up (up μ 3 r l) 4 r (nI n)) 2) (by omega) (fun a ha => absurd ha (by omega)) (fun j hj => rfl)
  rw [upc_id] at this
  exact this
theorem s_clear {d : Nat} {μ : Mm} {K : Int32 → Mm → Prop} {r n : Nat} (hr : r < 8) (hn : n ≤ 40) (k : ∀ f, (∀ i, i < 40 → f (40 * r + i) = 0) → (∀ j, j < 40 * r ∨ 40 * r + 40 ≤ j → f j = μ 282 j) → K (nI n) (upc μ 282 f)) : jX8_row d K 65 [some (.ref 279), some (.int (nI r)), none, some (.int (nI n)), some (.int 0)] [] μ := by
  have key : ∀ m i f, i + m = 40 → (∀ a, a < i → f (40 * r + a) = 0) → (∀ j, j < 40 * r ∨ 40 * r + 40 ≤ j → f j = μ 282 j) → jX8_row d K 65 [some (.ref 279), some (.int (nI r)), none, some (.int (nI n)), some (.int (nI i))] [] (upc μ 282 f) := by
    intro m
    induction m with
    | zero =>
      intro i f hi h1 h2
      obtain rfl : i = 40 := by omega
      exact k_X8_row_65 (br_t (by decide) (k f h1 h2))
    | succ m ih =>
      intro i f hi h1 h2
      refine k_X8_row_65 (br_f (by rw [show (40 : Int32) = nI 40 from rfl, nI_leI (by omega) (by omega)]; omega) ?_)
      rw [n_suc, show (40 : Int32) = nI 40 from rfl, pk_mul, nI_add, nI_clamp (by omega)]
      refine ⟨vp_in_nI (by omega) (by decide), ?_⟩
      rw [up_eq, upc_upc, upc_s]
      refine ih (i + 1) _ (by omega) (fun a ha => ?_) (fun j hj => ?_)
      · by_cases c : a = i
        · subst c
          exact upd_s _ _ _
        · rw [upd_n _ _ (by omega)]
          exact h1 a (by omega)
      · rw [upd_n _ _ (by omega)]
        exact h2 j hj
  have := key 40 0 (μ 282) (by omega) (fun a ha => absurd ha (by omega)) (fun j hj => rfl)
  rw [upc_id] at this
  exact this
theorem Inv.r' {μ μ' : Mm} (h : Inv μ) {c2 c3 c4 c0 m9 m0 m1 m2 : Nat → Int32} (e : μ' = upc (upc (upc (upc (upc (upc (upc (upc μ 2 c2) 3 c3) 4 c4) 0 c0) 279 m9) 280 m0) 281 m1) 282 m2) (e9 : ∀ j, ¬ j = 0 → ¬ j = 1 → m9 j = μ 279 j) (hs : c0 10 = m9 1) (hr : ∀ r, r < 8 → (m0 r < 0 ∧ c4 r = -1) ∨ (∃ n, n ≤ 40 ∧ (m0 r = 0 ∨ m0 r = 1 ∨ m0 r = 2) ∧ c3 r = m0 r ∧ c4 r = nI n ∧ m1 r = nI n ∧ ∀ i, i < n → c2 (40 * r + i) = m2 (40 * r + i))) : Inv μ' := by
  subst e
  refine Inv.r h (fun k hk => by simp (disch := omega) only [upc_n]) (fun j h0 h1 => ?_) ?_ ?_
  · show m9 j = _
    exact e9 j h0 h1
  · exact hs
  · exact hr
theorem Mm_ext {μ ν : Mm} (h : ∀ k, μ k = ν k) : μ = ν := funext h
theorem op_row {μ : Mm} {K : Int32 → Mm → Prop} {x y w : Int32} (hI : Inv μ) (k : ∀ a μ1, Nx 108 [.ref 279, .int x, .int y, .int w] a μ1 → K a μ1) : cI (cM 30) 52 [.ref 0, .int x, .int y, .int w] μ K := by
  have hR := hI.1
  refine e_X7_row (s_isRow (fun hx => br_f (by decide) ?_) (fun hx => br_t rfl (k _ _ (fun G g => e_X8_row (s_isRowM (fun h => absurd h hx) (fun _ => br_t rfl (g _ (Inv.q hI (fun k hk => by simp (disch := omega) only [up_eq, upc_n]) (fun j hj => by simp (disch := omega) only [up_eq, upc_s, upc_n, upd_n])))))))))
  refine s_out (a := 0) (b := 2) (by decide) (by decide) (fun hy => nr_t rfl ?_) (fun hy => nr_f (by decide) (k _ _ (fun G g => e_X8_row (s_isRowM (fun _ => br_f (by decide) (s_in (a := 0) (b := 2) (by decide) (by decide) rfl rfl (fun h => absurd h hy) (fun _ => br_t rfl (g _ (Inv.q hI (fun k hk => by simp (disch := omega) only [up_eq, upc_n]) (fun j hj => by simp (disch := omega) only [up_eq, upc_s, upc_n, upd_n])))))) (fun h => absurd hx h)))))
  refine br_c (fun hw => br_c (fun hw0 => ?_) (fun hw0 => ?_)) (fun hw => k _ _ (fun G g => e_X8_row (s_isRowM (fun _ => br_f (by decide) (s_in (a := 0) (b := 2) (by decide) (by decide) rfl rfl (fun _ => br_f (by decide) (br_f hw (g _ (Inv.q hI (fun k hk => by simp (disch := omega) only [up_eq, upc_n]) (fun j hj => by simp (disch := omega) only [up_eq, upc_s, upc_n, upd_n]))))) (fun h => absurd hy h))) (fun h => absurd hx h))))
  · have hx' := hx
    have hy' := hy
    obtain ⟨r, -, hr, rfl⟩ := hx
    obtain ⟨l, -, hl, rfl⟩ := hy
    obtain ⟨n, hn, rfl⟩ := nI_of (x := w) (nlt.mpr hw0)
    rw [show (40 : Int32) = nI 40 from rfl, nI_leI (by omega) (by omega)] at hw
    have hw1 : nI n ≤ 40 := by rw [show (40 : Int32) = nI 40 from rfl, nI_leI (by omega) (by omega)]; exact hw
    refine s_make (by omega) hw (fun f f1 f2 => e_X7_sound ?_)
    refine k _ _ (fun G g => e_X8_row (s_isRowM (fun _ => br_f (by decide) (s_in (a := 0) (b := 2) (by decide) (by decide) rfl rfl (fun _ => br_f (by decide) (br_t hw1 (br_t hw0 ⟨vp_in_nI (by omega) (by decide), vp_in_nI (by omega) (by decide), ?_⟩))) (fun h => absurd hy' h))) (fun h => absurd hx' h)))
    refine s_clear (by omega) hw (fun f3 h1 h2 => g _ ?_)
    rw [nI_clamp (by omega)]
    refine Inv.r' hI (c2 := f) (c3 := upd (μ 3) r (nI l)) (c4 := upd (μ 4) r (nI n)) (c0 := upd (μ 0) 10 0) (m9 := upd (upd (μ 279) 0 0) 1 0) (m0 := upd (μ 280) r (nI l)) (m1 := upd (μ 281) r (nI n)) (m2 := f3) ?_ (fun j h0 h1 => by rw [upd_n _ _ h1, upd_n _ _ h0]) rfl (fun a ha => ?_)
    · refine Mm_ext (fun a => ?_)
      by_cases c0 : a = 0
      · subst c0; rfl
      by_cases c2 : a = 2
      · subst c2; rfl
      by_cases c3 : a = 3
      · subst c3; rfl
      by_cases c4 : a = 4
      · subst c4; rfl
      by_cases c9 : a = 279
      · subst c9; rfl
      by_cases d0 : a = 280
      · subst d0; rfl
      by_cases d1 : a = 281
      · subst d1; rfl
      by_cases d2 : a = 282
      · subst d2; rfl
      simp (disch := omega) only [up_eq, upc_n]
    · by_cases c : a = r
      · subst c
        rw [upd_s, upd_s, upd_s, upd_s]
        refine Or.inr ⟨n, hw, ?_, rfl, rfl, rfl, fun i hi => by rw [f1 i hi, h1 i (by omega)]⟩
        rcases (show l = 0 ∨ l = 1 ∨ l = 2 by omega) with rfl | rfl | rfl
        · exact Or.inl rfl
        · exact Or.inr (Or.inl rfl)
        · exact Or.inr (Or.inr rfl)
      · rw [upd_n _ _ c, upd_n _ _ c, upd_n _ _ c, upd_n _ _ c]
        rcases hR a ha with g1 | ⟨n', g1, g2, g3, g4, g5, g6⟩
        · exact Or.inl g1
        · refine Or.inr ⟨n', g1, g2, g3, g4, g5, fun i hi => ?_⟩
          rw [f2 _ (by omega), h2 _ (by omega)]
          exact g6 i hi
  · refine e_X7_found (k _ _ (fun G g => e_X8_row (s_isRowM (fun _ => br_f (by decide) (s_in (a := 0) (b := 2) (by decide) (by decide) rfl rfl (fun _ => br_f (by decide) (br_t hw (br_f hw0 (e_X8_finding (g _ (Inv.s hI (fun k hk => by simp (disch := omega) only [up_eq, upc_n]) (fun j hj hj1 => by simp (disch := omega) only [up_eq, upc_s, upc_n, upd_n]) (by simp (disch := omega) only [up_eq, upc_s, upc_n, upd_n, upd_s]))))))) (fun h => absurd hy h))) (fun h => absurd hx h))))
theorem op_drop {μ : Mm} {K : Int32 → Mm → Prop} {x : Int32} (hI : Inv μ) (k : ∀ a μ1, Nx 111 [.ref 279, .int x] a μ1 → K a μ1) : cI (cM 30) 55 [.ref 0, .int x] μ K := by
  have hR := hI.1
  refine e_X7_drop (s_isRow (fun hx => nr_f (by decide) ?_) (fun hx => nr_t rfl (k _ _ (fun G g => e_X8_drop (s_isRowM (fun h => absurd h hx) (fun _ => nr_t rfl (g _ (Inv.q hI (fun k hk => by simp (disch := omega) only [up_eq, upc_n]) (fun j hj => by simp (disch := omega) only [up_eq, upc_s, upc_n, upd_n])))))))))
  have hx' := hx
  obtain ⟨r, -, hr, rfl⟩ := hx
  have cl : (nI r).toNatClampNeg = r := nI_clamp (by omega)
  have vp : vp_in (nI r) 8 := vp_in_nI (by omega) (by decide)
  refine s_missing hR (by omega) (fun c => br_f (by decide) (e_X7_found (k _ _ (fun G g => e_X8_drop (s_isRowM (fun _ => nr_f (by decide) ⟨vp, ?_⟩) (fun h => absurd hx' h)))))) (fun c => br_t rfl (e_X6_lose ⟨vp, vp, e_X7_sound (k _ _ (fun G g => e_X8_drop (s_isRowM (fun _ => nr_f (by decide) ⟨vp, ?_⟩) (fun h => absurd hx' h))))⟩))
  · rw [cl]
    exact br_f (nle.mpr c) (e_X8_finding (g _ (Inv.s hI (fun k hk => by simp (disch := omega) only [up_eq, upc_n]) (fun j hj hj1 => by simp (disch := omega) only [up_eq, upc_s, upc_n, upd_n]) (by simp (disch := omega) only [up_eq, upc_s, upc_n, upd_n, upd_s]))))
  · rw [cl] at g ⊢
    refine br_t (nlt.mp c) ⟨vp, vp, ?_⟩
    rcases hR r (by omega) with ⟨g1, -⟩ | ⟨n, g1, g2, g3, g4, g5, g6⟩
    · exact absurd g1 c
    rw [g4] at g
    rw [show (up (up (up μ 4 r (-1)) 0 10 0) 279 0 0) 281 r = μ 281 r from rfl, g5]
    refine g _ (Inv.r' hI (c2 := μ 2) (c3 := μ 3) (c4 := upd (μ 4) r (-1)) (c0 := upd (μ 0) 10 0) (m9 := upd (upd (μ 279) 0 0) 1 0) (m0 := upd (μ 280) r (-1)) (m1 := μ 281) (m2 := μ 282) ?_ (fun j h0 h1 => by rw [upd_n _ _ h1, upd_n _ _ h0]) rfl (fun a ha => ?_))
    · refine Mm_ext (fun a => ?_)
      by_cases c0 : a = 0
      · subst c0; rfl
      by_cases c2 : a = 2
      · subst c2; rfl
      by_cases c3 : a = 3
      · subst c3; rfl
      by_cases c4 : a = 4
      · subst c4; rfl
      by_cases c9 : a = 279
      · subst c9; rfl
      by_cases d0 : a = 280
      · subst d0; rfl
      by_cases d1 : a = 281
      · subst d1; rfl
      by_cases d2 : a = 282
      · subst d2; rfl
      simp (disch := omega) only [up_eq, upc_n]
    · by_cases c : a = r
      · subst c
        rw [upd_s, upd_s]
        exact Or.inl ⟨by decide, rfl⟩
      · rw [upd_n _ _ c, upd_n _ _ c]
        exact hR a ha
theorem op_feed {μ : Mm} {K : Int32 → Mm → Prop} {x : Int32} (hI : Inv μ) (k : ∀ a μ1, Nx 112 [.ref 279, .int x] a μ1 → K a μ1) : cI (cM 30) 56 [.ref 0, .int x] μ K := by
  obtain ⟨n, hn, t1, t2, t3⟩ := hI.2.2.1
  refine e_X7_feed (s_out (a := 0) (b := 255) (by decide) (by decide) (fun hx => br_t rfl ?_) (fun hx => br_f (by decide) (k _ _ (fun G g => e_X8_feed (s_in (a := 0) (b := 255) (by decide) (by decide) rfl rfl (fun h => absurd h hx) (fun _ => nr_t rfl (g _ (Inv.q hI (fun k hk => by simp (disch := omega) only [up_eq, upc_n]) (fun j hj => by simp (disch := omega) only [up_eq, upc_s, upc_n, upd_n])))))))))
  have hx' := hx
  obtain ⟨b, -, hb, rfl⟩ := hx
  refine e_X5_take ?_
  rw [t1, show (100 : Int32) = nI 100 from rfl, nI_ltI (by omega) (by omega), nI_clamp (by omega), n_suc]
  refine br_c (fun c => ⟨vp_in_nI c (by decide), Or.inr rfl, br_f (by decide) ?_⟩) (fun c => ⟨Or.inl rfl, br_t rfl (k _ _ (fun G g => e_X8_feed (s_in (a := 0) (b := 255) (by decide) (by decide) rfl rfl (fun _ => nr_f (by decide) (nr_t ?_ (g _ (Inv.q hI (fun k hk => by simp (disch := omega) only [up_eq, upc_n]) (fun j hj => by simp (disch := omega) only [up_eq, upc_s, upc_n, upd_n]))))) (fun h => absurd hx' h))))⟩)
  · rw [show (up (up μ 6 n (nI b)) 5 2 (nI (n + 1))) 5 2 = nI (n + 1) from rfl]
    refine k _ _ (fun G g => e_X8_feed (s_in (a := 0) (b := 255) (by decide) (by decide) rfl rfl (fun _ => nr_f (by decide) ?_) (fun h => absurd hx' h)))
    rw [show (up (up (up μ 6 n (nI b)) 5 2 (nI (n + 1))) 279 0 0) 279 11 = μ 279 11 from rfl, t2, nI_clamp (by omega), n_suc]
    refine nr_f (by rw [show (100 : Int32) = nI 100 from rfl, nI_eq (by omega) (by omega)]; omega) ⟨vp_in_nI c (by decide), g _ ?_⟩
    obtain ⟨h1, h2, h3, h4, ⟨z, h5⟩, h6, h7, h8⟩ := hI
    refine ⟨h1.fr rfl rfl rfl rfl rfl rfl, h2.fr rfl rfl, ⟨n + 1, by omega, rfl, rfl, fun i hi => ?_⟩, h4.fr rfl rfl, ⟨z, h5.fr (fun k a b => by simp (disch := omega) only [up_eq, upc_n]) rfl⟩, h6.fr rfl rfl (fun k a b => by simp (disch := omega) only [up_eq, upc_n]) rfl, h7.fr (fun k a b => by simp (disch := omega) only [up_eq, upc_n]) rfl rfl, h8.fr rfl rfl rfl rfl⟩
    show ∃ b', b' < 256 ∧ upd (μ 6) n (nI b) i = nI b' ∧ upd (μ 287) n (nI b) i = nI b'
    by_cases ci : i = n
    · subst ci
      exact ⟨b, by omega, upd_s _ _ _, upd_s _ _ _⟩
    · rw [upd_n _ _ ci, upd_n _ _ ci]
      exact t3 i (by omega)
  · show μ 279 11 = nI 100
    rw [t2, show n = 100 by omega]
