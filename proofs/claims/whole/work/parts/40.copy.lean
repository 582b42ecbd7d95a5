/-! ===== copy ===== -/
theorem lsum {a b c : Nat} (ha : a < 2 ^ 31) (hb : b < 2 ^ 31) (hc : c < 2 ^ 31) : 0 < lg_cmp ((nI a).toInt64 + (nI b).toInt64) (nI c).toInt64 ↔ c < a + b := by
  rw [cmp_gt, l_lt, Int64.toInt_add, Int32.toInt_toInt64, Int32.toInt_toInt64, Int32.toInt_toInt64, nI_toInt ha, nI_toInt hb, nI_toInt hc]
  rw [Int.bmod_def]
  split <;> omega
theorem lsum2 {a b c : Nat} (ha : a < 2 ^ 31) (hb : b < 2 ^ 31) (hc : c < 2 ^ 31) : lg_cmp ((nI a).toInt64 + (nI b).toInt64) (nI c).toInt64 ≤ 0 ↔ a + b ≤ c := by
  rw [← nlt, lsum ha hb hc]
  omega
theorem s_cpy {d : Nat} {μ : Mm} {K : Int32 → Mm → Prop} {a i b j n : Nat} {l6 : Int32} (ha : a < 8) (hb : b < 8) (hi : i + n ≤ 40) (hj : j + n ≤ 40) (h6 : (l6 = 0 ∧ i < j) ∨ (¬ l6 = 0 ∧ j ≤ i)) (k : K (nI n) (upc μ 282 (va_cpy (μ 282) (μ 282) (40 * a + i) (40 * b + j) n))) : jX8_copy d K 143 [some (.ref 279), some (.int (nI a)), some (.int (nI i)), some (.int (nI b)), some (.int (nI j)), some (.int (nI n)), some (.int l6), some (.int 0), none] [] μ := by
  have e40 : (40 : Int32) = nI 40 := rfl
  rcases h6 with ⟨rfl, h6⟩ | ⟨h0, h6⟩
  · have key : ∀ m c f, c + m = n → (∀ x, f x = if 40 * b + j + (n - c) ≤ x ∧ x < 40 * b + j + n then μ 282 (40 * a + i + (x - (40 * b + j))) else μ 282 x) → jX8_copy d K 143 [some (.ref 279), some (.int (nI a)), some (.int (nI i)), some (.int (nI b)), some (.int (nI j)), some (.int (nI n)), some (.int 0), some (.int (nI c)), none] [] (upc μ 282 f) := by
      intro m
      induction m with
      | zero =>
        intro c f hc hf
        obtain rfl : c = n := by omega
        have : f = va_cpy (μ 282) (μ 282) (40 * a + i) (40 * b + j) c := by
          funext x
          rw [hf x, Nat.sub_self]
          rfl
        rw [this]
        exact k_X8_copy_143 (br_t (nI_le (Nat.le_refl _) (by omega)) k)
      | succ m ih =>
        intro c f hc hf
        refine k_X8_copy_143 (br_f (by rw [nI_leI (by omega) (by omega)]; omega) (br_t rfl ?_))
        rw [n_suc, e40, show nI n - 1 = nI (n - 1) from sub_n (b := 1) (by omega), sub_n (by omega), pk_mul, nI_add, nI_add, pk_mul, nI_add, nI_add, nI_clamp (by omega), nI_clamp (by omega)]
        refine ⟨vp_in_nI (by omega) (by decide), vp_in_nI (by omega) (by decide), ?_⟩
        rw [up_eq, upc_upc, upc_s]
        refine ih (c + 1) _ (by omega) (fun x => ?_)
        have h1 : f (40 * a + i + (n - 1 - c)) = μ 282 (40 * a + i + (n - 1 - c)) := by
          rw [hf, if_neg]
          by_cases hab : a = b
          · subst hab; omega
          · omega
        by_cases e : x = 40 * b + j + (n - 1 - c)
        · rw [e, upd_s, h1, if_pos (by omega)]
          congr 1
          omega
        · rw [upd_n _ _ e, hf x]
          by_cases e2 : 40 * b + j + (n - c) ≤ x ∧ x < 40 * b + j + n
          · rw [if_pos e2, if_pos (by omega)]
          · rw [if_neg e2, if_neg (by omega)]
    have := key n 0 (μ 282) (by omega) (fun x => by rw [if_neg (by omega)])
    rw [upc_id] at this
    exact this
  · have key : ∀ m c f, c + m = n → (∀ x, f x = if 40 * b + j ≤ x ∧ x < 40 * b + j + c then μ 282 (40 * a + i + (x - (40 * b + j))) else μ 282 x) → jX8_copy d K 143 [some (.ref 279), some (.int (nI a)), some (.int (nI i)), some (.int (nI b)), some (.int (nI j)), some (.int (nI n)), some (.int l6), some (.int (nI c)), none] [] (upc μ 282 f) := by
      intro m
      induction m with
      | zero =>
        intro c f hc hf
        obtain rfl : c = n := by omega
        have : f = va_cpy (μ 282) (μ 282) (40 * a + i) (40 * b + j) c := by
          funext x
          rw [hf x]
          rfl
        rw [this]
        exact k_X8_copy_143 (br_t (nI_le (Nat.le_refl _) (by omega)) k)
      | succ m ih =>
        intro c f hc hf
        refine k_X8_copy_143 (br_f (by rw [nI_leI (by omega) (by omega)]; omega) (br_f h0 ?_))
        rw [n_suc, e40, pk_mul, nI_add, nI_add, pk_mul, nI_add, nI_add, nI_clamp (by omega), nI_clamp (by omega)]
        refine ⟨vp_in_nI (by omega) (by decide), vp_in_nI (by omega) (by decide), ?_⟩
        rw [up_eq, upc_upc, upc_s]
        refine ih (c + 1) _ (by omega) (fun x => ?_)
        have h1 : f (40 * a + i + c) = μ 282 (40 * a + i + c) := by
          rw [hf, if_neg]
          by_cases hab : a = b
          · subst hab; omega
          · omega
        by_cases e : x = 40 * b + j + c
        · rw [e, upd_s, h1, if_pos (by omega)]
          congr 1
          omega
        · rw [upd_n _ _ e, hf x]
          by_cases e2 : 40 * b + j ≤ x ∧ x < 40 * b + j + c
          · rw [if_pos e2, if_pos (by omega)]
          · rw [if_neg e2, if_neg (by omega)]
    have := key n 0 (μ 282) (by omega) (fun x => by rw [if_neg (by omega)])
    rw [upc_id] at this
    exact this
theorem op_copy {μ : Mm} {K : Int32 → Mm → Prop} {x y w v u : Int32} (hI : Inv μ) (k : ∀ a μ1, Nx 110 [.ref 279, .int x, .int y, .int w, .int v, .int u] a μ1 → K a μ1) : cI (cM 30) 54 [.ref 0, .int x, .int y, .int w, .int v, .int u] μ K := by
  have hR := hI.1
  refine e_X7_copy (s_isRow (fun hx => br_f (by decide) ?_) (fun hx => br_t rfl (k _ _ (fun G g => e_X8_copy (s_isRowM (fun h => absurd h hx) (fun _ => br_t rfl (g _ (Inv.q hI (fun k hk => by simp (disch := omega) only [up_eq, upc_n]) (fun j hj => by simp (disch := omega) only [up_eq, upc_s, upc_n, upd_n])))))))))
  refine s_isRow (fun hw => nr_f (by decide) ?_) (fun hw => nr_t rfl (k _ _ (fun G g => e_X8_copy (s_isRowM (fun _ => br_f (by decide) (s_isRowM (fun h => absurd h hw) (fun _ => nr_t rfl (g _ (Inv.q hI (fun k hk => by simp (disch := omega) only [up_eq, upc_n]) (fun j hj => by simp (disch := omega) only [up_eq, upc_s, upc_n, upd_n])))))) (fun h => absurd hx h)))))
  have hx' := hx
  have hw' := hw
  obtain ⟨a, -, ha, rfl⟩ := hx
  obtain ⟨b, -, hb, rfl⟩ := hw
  have cla : (nI a).toNatClampNeg = a := nI_clamp (by omega)
  have clb : (nI b).toNatClampNeg = b := nI_clamp (by omega)
  have vpa : vp_in (nI a) 8 := vp_in_nI (by omega) (by decide)
  have vpb : vp_in (nI b) 8 := vp_in_nI (by omega) (by decide)
  refine s_missing hR (by omega) (fun ca => nr_f (by decide) (e_X7_found (k _ _ (fun G g => e_X8_copy (s_isRowM (fun _ => br_f (by decide) (s_isRowM (fun _ => nr_f (by decide) ⟨vpa, ?_⟩) (fun h => absurd hw' h))) (fun h => absurd hx' h)))))) (fun ca => nr_t rfl ?_)
  · rw [cla]
    exact br_t ca (e_X8_finding (g _ (Inv.s hI (fun k hk => by simp (disch := omega) only [up_eq, upc_n]) (fun j hj hj1 => by simp (disch := omega) only [up_eq, upc_s, upc_n, upd_n]) (by simp (disch := omega) only [up_eq, upc_s, upc_n, upd_n, upd_s]))))
  refine s_missing hR (by omega) (fun cb => br_f (by decide) (e_X7_found (k _ _ (fun G g => e_X8_copy (s_isRowM (fun _ => br_f (by decide) (s_isRowM (fun _ => nr_f (by decide) ⟨vpa, ?_⟩) (fun h => absurd hw' h))) (fun h => absurd hx' h)))))) (fun cb => br_t rfl ?_)
  · rw [cla, clb]
    exact br_f ca ⟨vpb, br_f (nle.mpr cb) (e_X8_finding (g _ (Inv.s hI (fun k hk => by simp (disch := omega) only [up_eq, upc_n]) (fun j hj hj1 => by simp (disch := omega) only [up_eq, upc_s, upc_n, upd_n]) (by simp (disch := omega) only [up_eq, upc_s, upc_n, upd_n, upd_s]))))⟩
  rcases hR a (by omega) with ⟨g1, -⟩ | ⟨sa, a1, a2, a3, a4, a5, a6⟩
  · exact absurd g1 ca
  rcases hR b (by omega) with ⟨g1, -⟩ | ⟨sb, b1, b2, b3, b4, b5, b6⟩
  · exact absurd g1 cb
  refine e_X6_laneOf ⟨vpa, e_X6_laneOf ⟨vpb, ?_⟩⟩
  rw [cla, clb, a3, b3]
  have go : ∀ (ν : Mm) (G : Int32 → Mm → Prop), ν 280 = μ 280 → ν 281 = μ 281 → ((μ 280 a = μ 280 b → ((y < 0 → (cI (cM 29) 106 [.ref 279, .int 2] (up (up ν 279 0 0) 279 1 0) G)) ∧ (¬ y < 0 → ((v < 0 → (cI (cM 29) 106 [.ref 279, .int 2] (up (up ν 279 0 0) 279 1 0) G)) ∧ (¬ v < 0 → ((u < 0 → (cI (cM 29) 106 [.ref 279, .int 2] (up (up ν 279 0 0) 279 1 0) G)) ∧ (¬ u < 0 → ((0 < (lg_cmp (y.toInt64 + u.toInt64) (nI sa).toInt64) → (cI (cM 29) 106 [.ref 279, .int 2] (up (up ν 279 0 0) 279 1 0) G)) ∧ (¬ 0 < (lg_cmp (y.toInt64 + u.toInt64) (nI sa).toInt64) → (((lg_cmp (v.toInt64 + u.toInt64) (nI sb).toInt64) ≤ 0 → ((y < v → jX8_copy 29 G 143 [some (.ref 279), some (.int (nI a)), some (.int y), some (.int (nI b)), some (.int v), some (.int u), some (.int 0), some (.int 0), none] [] (up (up ν 279 0 0) 279 1 0)) ∧ (¬ y < v → jX8_copy 29 G 143 [some (.ref 279), some (.int (nI a)), some (.int y), some (.int (nI b)), some (.int v), some (.int u), some (.int 1), some (.int 0), none] [] (up (up ν 279 0 0) 279 1 0)))) ∧ (¬ (lg_cmp (v.toInt64 + u.toInt64) (nI sb).toInt64) ≤ 0 → (cI (cM 29) 106 [.ref 279, .int 2] (up (up ν 279 0 0) 279 1 0) G)))))))))))) ∧ (¬ μ 280 a = μ 280 b → (cI (cM 29) 106 [.ref 279, .int 5] (up (up ν 279 0 0) 279 1 0) G))) → cI (cM 30) 110 [.ref 279, .int (nI a), .int y, .int (nI b), .int v, .int u] ν G := by
    intro ν G n0 n1 h
    refine e_X8_copy (s_isRowM (fun _ => br_f (by decide) (s_isRowM (fun _ => nr_f (by decide) ⟨vpa, ?_⟩) (fun h => absurd hw' h))) (fun h => absurd hx' h))
    rw [cla, clb, show (up ν 279 0 0) 280 = μ 280 from n0, show (up ν 279 0 0) 281 = μ 281 from n1, a5, b5]
    refine br_f ca ⟨vpb, br_t (nlt.mp cb) ⟨vpa, vpb, ?_⟩⟩
    exact ⟨fun e => ⟨fun c1 => (h.1 e).1 c1, fun c1 => ⟨fun c2 => ((h.1 e).2 c1).1 c2, fun c2 => ⟨fun c3 => (((h.1 e).2 c1).2 c2).1 c3, fun c3 => ⟨vpa, ⟨fun c4 => ((((h.1 e).2 c1).2 c2).2 c3).1 c4, fun c4 => ⟨vpb, ((((h.1 e).2 c1).2 c2).2 c3).2 c4⟩⟩⟩⟩⟩⟩, h.2⟩
  refine br_c (fun ce => ?_) (fun ce => e_X7_found (k _ _ (fun G g => go (up μ 0 10 5) G rfl rfl (br_f ce (e_X8_finding (g _ (Inv.s hI (fun k hk => by simp (disch := omega) only [up_eq, upc_n]) (fun j hj hj1 => by simp (disch := omega) only [up_eq, upc_s, upc_n, upd_n]) (by simp (disch := omega) only [up_eq, upc_s, upc_n, upd_n, upd_s]))))))))
  have bad : ¬ (hd y u sa ∧ hd v u sb) → cI (cM 29) 103 [.ref 0, .int 2] μ K := by
    intro hn
    refine e_X7_found (k _ _ (fun G g => go (up μ 0 10 2) G rfl rfl (br_t ce ?_)))
    have B : cI (cM 29) 106 [.ref 279, .int 2] (up (up (up μ 0 10 2) 279 0 0) 279 1 0) G := e_X8_finding (g _ (Inv.s hI (fun k hk => by simp (disch := omega) only [up_eq, upc_n]) (fun j hj hj1 => by simp (disch := omega) only [up_eq, upc_s, upc_n, upd_n]) (by simp (disch := omega) only [up_eq, upc_s, upc_n, upd_n, upd_s])))
    refine br_c (fun _ => B) (fun c1 => br_c (fun _ => B) (fun c2 => br_c (fun _ => B) (fun c3 => br_c (fun _ => B) (fun c4 => br_c (fun c5 => ?_) (fun _ => B)))))
    obtain ⟨i, hi, rfl⟩ := nI_of c1
    obtain ⟨j, hj, rfl⟩ := nI_of c2
    obtain ⟨n, hn', rfl⟩ := nI_of c3
    rw [lsum hi hn' (by omega)] at c4
    rw [lsum2 hj hn' (by omega)] at c5
    exact absurd ⟨⟨i, n, rfl, rfl, by omega⟩, ⟨j, n, rfl, rfl, by omega⟩⟩ hn
  refine s_holds (by omega) a4 a1 (fun h1 => br_f (by decide) (s_holds (by omega) b4 b1 (fun h2 => nr_f (by decide) ?_) (fun h2 => nr_t rfl (bad (fun q => h2 q.2))))) (fun h1 => br_t rfl (bad (fun q => h1 q.1)))
  obtain ⟨i, n, rfl, rfl, h1⟩ := h1
  obtain ⟨j, n', rfl, e', h2⟩ := h2
  rw [nI_eq (by omega) (by omega)] at e'
  subst e'
  have e40 : (40 : Int32) = nI 40 := rfl
  have sc : (nI a * 40 + nI i).toNatClampNeg = 40 * a + i := by rw [e40, pk_mul, nI_add, nI_clamp (by omega)]; omega
  have dc : (nI b * 40 + nI j).toNatClampNeg = 40 * b + j := by rw [e40, pk_mul, nI_add, nI_clamp (by omega)]; omega
  refine e_X6_bring ⟨by rw [e40, pk_mul, nI_add]; exact nneg (by omega), by rw [e40, pk_mul, nI_add]; exact nneg (by omega), nneg (by omega), by rw [sc, nI_clamp (by omega)]; omega, by rw [dc, nI_clamp (by omega)]; omega, ?_⟩
  rw [sc, dc, nI_clamp (by omega), cpc_eq]
  refine e_X7_sound (k _ _ (fun G g => go _ G rfl rfl (br_t ce (br_f (nneg (by omega)) (br_f (nneg (by omega)) (br_f (nneg (by omega)) (br_f (by rw [lsum (by omega) (by omega) (by omega)]; omega) (br_t (by rw [lsum2 (by omega) (by omega) (by omega)]; omega) ?_))))))))
  have fin : G (nI n) (upc (up (up (up (upc μ 2 (va_cpy (μ 2) (μ 2) (40 * a + i) (40 * b + j) n)) 0 10 0) 279 0 0) 279 1 0) 282 (va_cpy (μ 282) (μ 282) (40 * a + i) (40 * b + j) n)) := by
    refine g _ (Inv.r' hI (c2 := va_cpy (μ 2) (μ 2) (40 * a + i) (40 * b + j) n) (c3 := μ 3) (c4 := μ 4) (c0 := upd (μ 0) 10 0) (m9 := upd (upd (μ 279) 0 0) 1 0) (m0 := μ 280) (m1 := μ 281) (m2 := va_cpy (μ 282) (μ 282) (40 * a + i) (40 * b + j) n) ?_ (fun j h0 h1 => by rw [upd_n _ _ h1, upd_n _ _ h0]) rfl (fun r hr => ?_))
    · skip
      refine Mm_ext (fun a => ?_)
      by_cases c0 : a = 0
      · subst c0; rfl
      by_cases c2 : a = 2
      · subst c2; rfl
      by_cases c3 : a = 3
      · subst c3; rfl
      by_cases c4 : a = 4
      · subst c4; rfl
      by_cases c279 : a = 279
      · subst c279; rfl
      by_cases c280 : a = 280
      · subst c280; rfl
      by_cases c281 : a = 281
      · subst c281; rfl
      by_cases c282 : a = 282
      · subst c282; rfl
      simp (disch := omega) only [up_eq, upc_n]
    · rcases hR r hr with q1 | ⟨m, q1, q2, q3, q4, q5, q6⟩
      · exact Or.inl q1
      · refine Or.inr ⟨m, q1, q2, q3, q4, q5, fun c hc => ?_⟩
        show (if 40 * b + j ≤ 40 * r + c ∧ 40 * r + c < 40 * b + j + n then μ 2 (40 * a + i + (40 * r + c - (40 * b + j))) else μ 2 (40 * r + c)) = (if 40 * b + j ≤ 40 * r + c ∧ 40 * r + c < 40 * b + j + n then μ 282 (40 * a + i + (40 * r + c - (40 * b + j))) else μ 282 (40 * r + c))
        by_cases e : 40 * b + j ≤ 40 * r + c ∧ 40 * r + c < 40 * b + j + n
        · rw [if_pos e, if_pos e, Nat.add_assoc]
          exact a6 _ (by omega)
        · rw [if_neg e, if_neg e]
          exact q6 c hc
  rw [nI_ltI (by omega) (by omega)]
  exact br_c (fun c => s_cpy (by omega) (by omega) (by omega) (by omega) (Or.inl ⟨rfl, c⟩) fin) (fun c => s_cpy (by omega) (by omega) (by omega) (by omega) (Or.inr ⟨by decide, by omega⟩) fin)
