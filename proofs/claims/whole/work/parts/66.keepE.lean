/-! ===== keepDays: the class's search ===== -/
theorem kU_cpy (μ : Mm) (f t u : Nat → Int32) (n : Nat) : cpc (kU μ f t u) 275 0 276 0 n = kU μ f t (va_cpy t u 0 0 n) := by
  rw [cpc_eq, kU_6]
  rfl
theorem s_fillL {d : Nat} {μ : Mm} {K : Mm → Prop} {a M n P : Nat} {q c : Int32} {f u : Nat → Int32} (ha : a < P) (hP : P ≤ 16) (hM : M ≤ 12) {t0 : Nat → Int32}
    (k : ∀ g, (∀ i, i ≤ M → g (a * 13 + i) = c) → (∀ i, i < a * 13 ∨ a * 13 + 13 ≤ i → g i = t0 i) → jX3_search d K 3 [some (.ref 273), some (.ref 16), some (.int q), some (.int (nI n)), some (.int (nI M)), some (.int (nI (a + 1))), none, none, none] [] (kU μ f g u)) :
    ∀ r i g, i + r = M + 1 → (∀ j, j < i → g (a * 13 + j) = c) → (∀ i, i < a * 13 ∨ a * 13 + 13 ≤ i → g i = t0 i) → jX3_search d K 59 [some (.ref 273), some (.ref 16), some (.int q), some (.int (nI n)), some (.int (nI M)), some (.int (nI a)), none, some (.int c), some (.int (nI i))] [] (kU μ f g u) := by
  intro r
  induction r with
  | zero =>
    intro i g hi hg fr
    obtain rfl : i = M + 1 := by omega
    refine k_X3_search_59 (br_t (by rw [nI_ltI (by omega) (by omega)]; omega) ?_)
    rw [n_suc]
    exact k g (fun j hj => hg j (by omega)) fr
  | succ r ih =>
    intro i g hi hg fr
    have e1 : nI a * 13 + nI i = nI (a * 13 + i) := by rw [show nI a * 13 = nI (a * 13) from pk_mul a 13, nI_add]
    refine k_X3_search_59 (br_f (by rw [nI_ltI (by omega) (by omega)]; omega) ?_)
    rw [e1, nI_clamp (by omega), n_suc, up_eq, kU_5]
    refine ⟨vp_in_nI (by omega) (by decide), ih (i + 1) _ (by omega) (fun j hj => ?_) (fun j hj => ?_)⟩
    · show upd g (a * 13 + i) c (a * 13 + j) = c
      by_cases e : j = i
      · subst e
        exact upd_s _ _ _
      · rw [upd_n _ _ (by omega)]
        exact hg j (by omega)
    · show upd g (a * 13 + i) c j = t0 j
      rw [upd_n _ _ (by omega)]
      exact fr j hj
theorem s_search3 {d : Nat} {μ : Mm} {K : Mm → Prop} {z : Nat → Nat} {q n M : Nat} {u : Nat → Int32} (lr : LR μ 16 z) (hz : VL z) (hq : q < z 3) (h4 : z 4 ≤ 999) (hl : z (21 + 6 * q) = 0) (hn : n ≤ 12) (hM : M ≤ 12)
    (k : ∀ f t, TB t (pj z q) 0 n M (z 0) → jX3_search (d + 4) K 98 [some (.ref 273), some (.ref 16), some (.int (nI q)), none, some (.int (nI M)), some (.int (nI n - 1)), none, none, none] [] (kU μ f t u)) :
    ∀ r i f t, i + r = z 0 → TB t (pj z q) 0 n M i → jX3_search (d + 4) K 3 [some (.ref 273), some (.ref 16), some (.int (nI q)), some (.int (nI n)), some (.int (nI M)), some (.int (nI i)), none, none, none] [] (kU μ f t u) := by
  have v0 := hz.1
  have hv := pj_VF hz hq
  have h9 : ¬ pj z q 9 = 0 := by
    show ¬ (if z (21 + 6 * q) = 0 then 1 else 0) = 0
    rw [if_pos hl]
    decide
  have r0 : ∀ f t, (kU μ f t u) 16 0 = nI (z 0) := fun f t => by rw [kU_n (by decide)]; exact lr.1
  intro r
  induction r with
  | zero =>
    intro i f t hi ht
    obtain rfl : i = z 0 := by omega
    refine k_X3_search_3 ?_
    rw [r0]
    exact br_t (nI_le (Nat.le_refl _) (by omega)) (k f t ht)
  | succ r ih =>
    intro i f t hi ht
    refine k_X3_search_3 ?_
    rw [r0]
    refine br_f (by rw [nI_leI (by omega) (by omega)]; omega) (s_stand (kU_LR lr) hz hq hn (fun x hx => ?_))
    rw [show (60 : Int32) - nI n = nI (60 - n) from sub_n (a := 60) (by omega)]
    refine s_diesB (n := 60 - n) (Or.inr (Or.inr rfl)) hx (VF_st hv (show z 4 + n ≤ 2000 by omega) (show i < z 0 by omega)) (show z 4 + n + (60 - n) ≤ 2000 by omega) (by omega) (fun x2 => ?_)
    rw [kU_4]
    obtain ⟨b1, b2⟩ := kb_tail (φ := pj z q) h9 (60 - n) 0 n i (by omega)
    rw [Nat.zero_add] at b1 b2
    -- what is written is the cost
    have fill : ∀ y, y = kb (pj z q) (60 - n) n i 0 → jX3_search (d + 4) K 59 [some (.ref 273), some (.ref 16), some (.int (nI q)), some (.int (nI n)), some (.int (nI M)), some (.int (nI i)), none, some (.int (((61 : Int32) - nI y) * 65536)), some (.int 0)] [] (kU μ x2 t u) := by
      intro y hy
      have yl := (kb_ge (φ := pj z q) (60 - n) n i 0 (by omega)).2
      have ec : ((61 : Int32) - nI y) * 65536 = nI (kV (pj z q) 0 n i 0) := by
        rw [show (61 : Int32) - nI y = nI (61 - y) from sub_n (a := 61) (by omega), hy]
        exact pk_mul _ 65536
      rw [ec]
      refine s_fillL (P := z 0) (by omega) v0 hM (fun g g1 g2 => ih (i + 1) x2 g (by omega) (fun b hb c hc => ?_)) (M + 1) 0 t (by omega) (fun j hj => absurd hj (by omega)) (fun _ _ => rfl)
      by_cases e : b = i
      · subst e
        exact g1 c hc
      · rw [g2 _ (by omega)]
        exact ht b (by omega) c hc
    rw [show (61 : Int32) = nI 61 from rfl, nI_ltI (by omega) (by omega), nI_add]
    refine br_c (fun c => e_X3_earlyCost (fill _ ?_)) (fun c => e_X3_earlyCost (fill 61 ?_))
    · rw [b1, if_neg (by omega)]
      omega
    · rw [b1, if_pos (by omega)]
theorem s_search124 {d : Nat} {μ : Mm} {K : Mm → Prop} {z : Nat → Nat} {q e D M : Nat} {u : Nat → Int32} (lr : LR μ 16 z) (hz : VL z) (hq : q < z 3) (h4 : z 4 ≤ 999) (hD : D ≤ 11) (hM : M ≤ 12) (h6 : TB u (pj z q) e (D + 1) M (z 0))
    (k : ∀ f t, TB t (pj z q) (e + 1) D M (z 0) → jX3_search (d + 5) K 98 [some (.ref 273), some (.ref 16), some (.int (nI q)), none, some (.int (nI M)), some (.int (nI D + -1)), none, none, none] [] (kU μ f t u)) :
    ∀ r i f t, i + r = z 0 → TB t (pj z q) (e + 1) D M i → jX3_search (d + 5) K 124 [some (.ref 273), some (.ref 16), some (.int (nI q)), none, some (.int (nI M)), some (.int (nI D)), some (.int (nI i)), none, none] [] (kU μ f t u) := by
  have v0 := hz.1
  have r0 : ∀ f t, (kU μ f t u) 16 0 = nI (z 0) := fun f t => by rw [kU_n (by decide)]; exact lr.1
  intro r
  induction r with
  | zero =>
    intro i f t hi ht
    obtain rfl : i = z 0 := by omega
    refine k_X3_search_124 ?_
    rw [r0]
    exact br_t (nI_le (Nat.le_refl _) (by omega)) (k f t ht)
  | succ r ih =>
    intro i f t hi ht
    refine k_X3_search_124 ?_
    rw [r0, n_suc]
    refine br_f (by rw [nI_leI (by omega) (by omega)]; omega) (s_weigh lr hz hq h4 hD hM (by omega) h6 (fun f' g g1 g2 => ih (i + 1) f' g (by omega) (fun b hb c hc => ?_)))
    by_cases eb : b = i
    · subst eb
      exact g1 c hc
    · rw [g2 _ (by omega)]
      exact ht b (by omega) c hc
theorem s_search98 {d : Nat} {μ : Mm} {K : Mm → Prop} {z : Nat → Nat} {q n M : Nat} (lr : LR μ 16 z) (hz : VL z) (hq : q < z 3) (h4 : z 4 ≤ 999) (hn : n ≤ 12) (hM : M ≤ 12)
    (k : ∀ f t u, K (up (up (kU μ f t u) 273 3 (nI (61 - kV (pj z q) n 0 (z (18 + 6 * q)) M / 65536))) 273 4 (nI (kV (pj z q) n 0 (z (18 + 6 * q)) M % 4096)))) :
    ∀ D e f t u, D + e = n → TB t (pj z q) e D M (z 0) → jX3_search (d + 5) K 98 [some (.ref 273), some (.ref 16), some (.int (nI q)), none, some (.int (nI M)), some (.int (nI D - 1)), none, none, none] [] (kU μ f t u) := by
  have v0 := hz.1
  have v3 := hz.2.2.2.1
  have w3 := (hz.2.2.2.2.2.2.2.2 q hq).2.2.1
  intro D
  induction D with
  | zero =>
    intro e f t u he ht
    obtain rfl : e = n := by omega
    have vl := kV_le (φ := pj z q) e 0 (z (18 + 6 * q)) M
    have r21 : (kU μ f t u) 21 (nI q).toNatClampNeg = nI (z (18 + 6 * q)) := by
      rw [nI_clamp (by omega), kU_n (by decide)]
      exact (lr.2.2.2.2.2.2.2.2 q hq).2.2.1
    have e1 : nI (z (18 + 6 * q)) * 13 + nI M = nI (z (18 + 6 * q) * 13 + M) := by rw [show nI (z (18 + 6 * q)) * 13 = nI (z (18 + 6 * q) * 13) from pk_mul _ 13, nI_add]
    have r5 : (kU μ f t u) 275 (nI (z (18 + 6 * q) * 13 + M)).toNatClampNeg = nI (kV (pj z q) e 0 (z (18 + 6 * q)) M) := by
      rw [nI_clamp (by omega)]
      exact ht _ w3 M (Nat.le_refl _)
    have d1 : nI (kV (pj z q) e 0 (z (18 + 6 * q)) M) / 65536 = nI (kV (pj z q) e 0 (z (18 + 6 * q)) M / 65536) := pk_div (d := 65536) (by omega) (by decide) (by decide)
    have d2 : nI (kV (pj z q) e 0 (z (18 + 6 * q)) M) - nI (kV (pj z q) e 0 (z (18 + 6 * q)) M) / 4096 * 4096 = nI (kV (pj z q) e 0 (z (18 + 6 * q)) M % 4096) := rem_n (b := 4096) (by omega) (by decide) (by decide)
    refine k_X3_search_98 (br_t (by decide) ?_)
    rw [r21, e1, r5, d2, d1, show (61 : Int32) - nI (kV (pj z q) e 0 (z (18 + 6 * q)) M / 65536) = nI (61 - kV (pj z q) e 0 (z (18 + 6 * q)) M / 65536) from sub_n (a := 61) (by omega)]
    exact ⟨vp_in_nI (by omega) (by decide), vp_in_nI (by omega) (by decide), by decide, by decide, k f t u⟩
  | succ D ih =>
    intro e f t u he ht
    have eD : nI (D + 1) - 1 = nI D := nI_pred D
    rw [eD]
    refine k_X3_search_98 (br_f (nneg (by omega)) ⟨by decide, by decide, by decide, by decide, by decide, ?_⟩)
    rw [show (0 : Int32).toNatClampNeg = 0 from rfl, show (nI 208).toNatClampNeg = 208 from rfl, kU_cpy]
    refine s_search124 (d := d) (e := e) lr hz hq h4 (by omega) hM (fun b hb c hc => ?_) (fun f2 t2 ht2 => ?_) (z 0) 0 f t (by omega) (fun b hb => absurd hb (by omega))
    · rw [cpy_0 (by omega)]
      exact ht b hb c hc
    · rw [show nI D + -1 = nI D - 1 from (Int32.sub_eq_add_neg _ _).symm]
      exact ih (e + 1) f2 t2 _ (by omega) ht2
theorem s_search {d : Nat} {μ : Mm} {K : Mm → Prop} {z : Nat → Nat} {q n M : Nat} (lr : LR μ 16 z) (hz : VL z) (hq : q < z 3) (h4 : z 4 ≤ 999) (hl : z (21 + 6 * q) = 0) (hn : n ≤ 12) (hM : M ≤ 12)
    (k : ∀ f t u, K (up (up (kU μ f t u) 273 3 (nI (61 - kV (pj z q) n 0 (z (18 + 6 * q)) M / 65536))) 273 4 (nI (kV (pj z q) n 0 (z (18 + 6 * q)) M % 4096)))) : cV (cM (d + 6)) 18 [.ref 273, .ref 16, .int (nI q), .int (nI n), .int (nI M)] μ K := by
  have := s_search3 (d := d + 1) (μ := μ) (K := K) (u := μ 276) lr hz hq h4 hl hn hM (fun f t ht => s_search98 (d := d) lr hz hq h4 hn hM k n 0 f t (μ 276) (by omega) ht) (z 0) 0 (μ 274) (μ 275) (by omega) (fun b hb => absurd hb (by omega))
  rw [kU_id] at this
  exact e_X3_search this
theorem op_keepDays {μ : Mm} {K : Int32 → Mm → Prop} {x y w v : Int32} (hI : Inv μ) (k : ∀ a μ1, Nx 156 [.ref 279, .int x, .int y, .int w, .int v] a μ1 → K a μ1) : cI (cM 30) 71 [.ref 0, .int x, .int y, .int w, .int v] μ K := by
  obtain ⟨z, hz⟩ := hI.2.2.2.2.1
  obtain ⟨vz, v9, lr, lm⟩ := hz
  have vz' := vz
  obtain ⟨v0, v1, v2, v3, v4, v5, v6, v7, v8⟩ := vz
  have r0 := lr.1
  have r3 := lr.2.2.2.1
  have r4 := lr.2.2.2.2.1
  have r5 := lr.2.2.2.2.2.1
  have r6 := lr.2.2.2.2.2.2.1
  have l0 := lm 0 (by decide)
  have l2 := lm 2 (by decide)
  have l3 := lm 3 (by decide)
  have l5 := lm 5 (by decide)
  refine e_X7_keepDays (s_isPerson r4 (by omega) (fun hx => br_f (by decide) ?_) (fun hx => br_t rfl (k _ _ (fun G g => e_X8_keepDays (s_isPersonM (μ := up μ 279 0 0) l3 (by omega) (fun h => absurd h hx) (fun _ => br_t rfl (g _ (Inv.q hI (fun k hk => by simp (disch := omega) only [up_eq, upc_n]) (fun j hj => by simp (disch := omega) only [up_eq, upc_s, upc_n, upd_n])))))))))
  refine s_out (a := 1) (b := 12) (by decide) (by decide) (fun hy => nr_t rfl ?_) (fun hy => nr_f (by decide) (k _ _ (fun G g => e_X8_keepDays (s_isPersonM (μ := up μ 279 0 0) l3 (by omega) (fun _ => br_f (by decide) (s_in (a := 1) (b := 12) (by decide) (by decide) rfl rfl (fun h => absurd h hy) (fun _ => br_t rfl (g _ (Inv.q hI (fun k hk => by simp (disch := omega) only [up_eq, upc_n]) (fun j hj => by simp (disch := omega) only [up_eq, upc_s, upc_n, upd_n])))))) (fun h => absurd hx h)))))
  refine s_out (a := 0) (b := 12) (by decide) (by decide) (fun hw => nr_t rfl ?_) (fun hw => nr_f (by decide) (k _ _ (fun G g => e_X8_keepDays (s_isPersonM (μ := up μ 279 0 0) l3 (by omega) (fun _ => br_f (by decide) (s_in (a := 1) (b := 12) (by decide) (by decide) rfl rfl (fun _ => br_f (by decide) (s_in (a := 0) (b := 12) (by decide) (by decide) rfl rfl (fun h => absurd h hw) (fun _ => br_t rfl (g _ (Inv.q hI (fun k hk => by simp (disch := omega) only [up_eq, upc_n]) (fun j hj => by simp (disch := omega) only [up_eq, upc_s, upc_n, upd_n])))))) (fun h => absurd hy h))) (fun h => absurd hx h)))))
  refine s_out (a := 0) (b := 1) (by decide) (by decide) (fun hv => br_t rfl ?_) (fun hv => br_f (by decide) (k _ _ (fun G g => e_X8_keepDays (s_isPersonM (μ := up μ 279 0 0) l3 (by omega) (fun _ => br_f (by decide) (s_in (a := 1) (b := 12) (by decide) (by decide) rfl rfl (fun _ => br_f (by decide) (s_in (a := 0) (b := 12) (by decide) (by decide) rfl rfl (fun _ => br_f (by decide) (s_in (a := 0) (b := 1) (by decide) (by decide) rfl rfl (fun h => absurd h hv) (fun _ => nr_t rfl (g _ (Inv.q hI (fun k hk => by simp (disch := omega) only [up_eq, upc_n]) (fun j hj => by simp (disch := omega) only [up_eq, upc_s, upc_n, upd_n])))))) (fun h => absurd hw h))) (fun h => absurd hy h))) (fun h => absurd hx h)))))
  have hx' := hx
  have hy' := hy
  have hw' := hw
  have hv' := hv
  obtain ⟨q, hq, rfl⟩ := hx
  obtain ⟨n, -, hn, rfl⟩ := hy
  obtain ⟨M, -, hM, rfl⟩ := hw
  have v01 : v = 0 ∨ v = 1 := by
    obtain ⟨b, -, hb, rfl⟩ := hv
    rcases (show b = 0 ∨ b = 1 by omega) with rfl | rfl
    · exact Or.inl rfl
    · exact Or.inr rfl
  have w6 := (v8 q hq).2.2.2.2.2
  refine s_isLiving (z := z) (by decide) r6 v3 hq (fun c => nr_t rfl ?_) (fun c => nr_f (by decide) ?_)
  · refine k _ _ (fun G g => e_X8_keepDays (s_isPersonM (μ := up μ 279 0 0) l3 (by omega) (fun _ => br_f (by decide) (s_in (a := 1) (b := 12) (by decide) (by decide) rfl rfl (fun _ => br_f (by decide) (s_in (a := 0) (b := 12) (by decide) (by decide) rfl rfl (fun _ => br_f (by decide) (s_in (a := 0) (b := 1) (by decide) (by decide) rfl rfl (fun _ => nr_f (by decide) (s_lives (Or.inl rfl) (LM_th lm) (by omega) (by omega) (fun _ => nr_t rfl (g _ (Inv.q hI (fun k hk => by simp (disch := omega) only [up_eq, upc_n]) (fun j hj => by simp (disch := omega) only [up_eq, upc_s, upc_n, upd_n])))) (fun c2 => absurd c2 c))) (fun h => absurd hv' h))) (fun h => absurd hw' h))) (fun h => absurd hy' h))) (fun h => absurd hx' h)))
  refine s_search (d := 23) lr vz' hq v9 c hn hM (fun f t u => ?_)
  generalize hN : up (up (kU μ f t u) 273 3 (nI (61 - kV (pj z q) n 0 (z (18 + 6 * q)) M / 65536))) 273 4 (nI (kV (pj z q) n 0 (z (18 + 6 * q)) M % 4096)) = ν
  have n4 : ν 273 4 = nI (kV (pj z q) n 0 (z (18 + 6 * q)) M % 4096) := by rw [← hN, up_eq, upc_s, upd_s]
  have n3 : ν 273 3 = nI (61 - kV (pj z q) n 0 (z (18 + 6 * q)) M / 65536) := by rw [← hN, up_eq, upc_s, upd_n _ _ (by decide), up_eq, upc_s, upd_s]
  have fr : ∀ a, a < 273 ∨ 276 < a → ν a = μ a := by
    intro a ha
    rw [← hN, up_eq, upc_n _ _ (by omega), up_eq, upc_n _ _ (by omega), kU_n (by omega)]
  have f3 : (up ν 279 0 0) 283 = μ 283 := by rw [up_eq, upc_n _ _ (by decide), fr 283 (by decide)]
  have l3' : (up ν 279 0 0) 283 3 = nI (z 3) := by rw [f3]; exact l3
  have lm' : LM ((up ν 279 0 0) 283) z := by rw [f3]; exact lm
  have inv : ∀ f', Inv (upc (up ν 279 0 0) 285 f') := fun f' => Inv.q hI (fun k hk => by rw [upc_n _ _ (by omega), up_eq, upc_n _ _ (by omega)]; exact fr k (by omega)) (fun j hj => by rw [upc_n _ _ (by decide), up_eq, upc_s, upd_n _ _ hj, fr 279 (by decide)])
  have mod : ∀ a, (¬ v = 1 → a = orN (61 - kV (pj z q) n 0 (z (18 + 6 * q)) M / 65536)) → (v = 1 → a = nI (kV (pj z q) n 0 (z (18 + 6 * q)) M % 4096)) → K a ν := by
    intro a a0 a1
    refine k _ _ (fun G g => e_X8_keepDays (s_isPersonM (μ := up ν 279 0 0) l3' (by omega) (fun _ => br_f (by decide) (s_in (a := 1) (b := 12) (by decide) (by decide) rfl rfl (fun _ => br_f (by decide) (s_in (a := 0) (b := 12) (by decide) (by decide) rfl rfl (fun _ => br_f (by decide) (s_in (a := 0) (b := 1) (by decide) (by decide) rfl rfl (fun _ => nr_f (by decide) (s_lives (Or.inl rfl) lm' (by omega) (by omega) (fun c2 => absurd c c2) (fun _ => nr_f (by decide) ?_))) (fun h => absurd hv' h))) (fun h => absurd hw' h))) (fun h => absurd hy' h))) (fun h => absurd hx' h)))
    refine s_keepM (d := 24) lm' vz' hq v9 c hn hM (fun h f' => ?_) (fun h f' => ?_)
    · rw [← a0 h]
      exact g _ (inv f')
    · rw [← a1 h]
      exact g _ (inv f')
  rw [n3, n4]
  refine nr_c (fun h => mod _ (fun h1 => ?_) (fun _ => rfl)) (fun h => s_orNone (by omega) (mod _ (fun _ => rfl) (fun h1 => ?_)))
  · rcases v01 with e | e
    · exact absurd e h
    · exact absurd e h1
  · rw [h] at h1
    exact absurd h1 (by decide)
