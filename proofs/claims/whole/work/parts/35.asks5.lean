/-! ===== meet, person, thing, trace, count, namesakes ===== -/
theorem dz_dead {z : Nat → Nat} (hz : VL z) {q : Nat} (hq : q < z 3) (h : ¬ z (21 + 6 * q) = 0) : ¬ dz 0 z (21 + 6 * q) = 0 := by
  have a : dayF (pj z q) 9 = if dz 0 z (21 + 6 * q) = 0 then 1 else 0 := pj_dz hz hq 9 (by decide)
  have b : dayF (pj z q) 9 = 0 := dead_day (show (if z (21 + 6 * q) = 0 then 1 else 0) = 0 from if_neg h)
  intro c
  rw [b, if_pos c] at a
  exact absurd a (by decide)
def mt (p q : Nat) : Nat → Nat → (Nat → Nat) → Int32
  | 0, _, _ => -1000000
  | m + 1, k, z => if z (21 + 6 * p) = 0 then (if z (21 + 6 * q) = 0 then (if z (18 + 6 * p) = z (18 + 6 * q) then nI k else mt p q m (k + 1) (dz 0 z)) else mt p q m (k + 1) (dz 0 z)) else mt p q m (k + 1) (dz 0 z)
theorem mt_dead {p q : Nat} : ∀ m k (z : Nat → Nat), VL z → z 4 + m ≤ 2000 → p < z 3 → q < z 3 → (¬ z (21 + 6 * p) = 0 ∨ ¬ z (21 + 6 * q) = 0) → mt p q m k z = -1000000
  | 0, _, _, _, _, _, _, _ => rfl
  | m + 1, k, z, hz, h4, hp, hq, h => by
    have i2 := mt_dead (p := p) (q := q) m (k + 1) (dz 0 z) (VL_dz hz (by omega)) (by rw [dz_4]; omega) (by rw [dz_hd (by decide) (by decide)]; exact hp) (by rw [dz_hd (by decide) (by decide)]; exact hq) (h.elim (fun c => Or.inl (dz_dead hz hp c)) (fun c => Or.inr (dz_dead hz hq c)))
    show (if _ then _ else _) = _
    by_cases c : z (21 + 6 * p) = 0
    · rw [if_pos c]
      by_cases c2 : z (21 + 6 * q) = 0
      · rcases h with h | h
        · exact absurd c h
        · exact absurd c2 h
      · rw [if_neg c2]
        exact i2
    · rw [if_neg c]
      exact i2
theorem s_meetM {μ : Mm} {K : Int32 → Mm → Prop} {p q : Nat} : ∀ m i (z : Nat → Nat) f, i + m = 61 → LM f z → VL z → z 4 + m ≤ 2000 → p < z 3 → q < z 3 → (∀ f, K (mt p q m i z) (upc μ 285 f)) → jX8_meet 29 K 35 [some (.ref 279), some (.int (nI p)), some (.int (nI q)), some (.int (nI i)), none] [] (upc μ 285 f) := by
  intro m
  induction m with
  | zero =>
    intro i z f hi hf hz h4 hp hq k
    refine k_X8_meet_35 ?_
    try simp (disch := omega) only [lt0, lt1, lt2, lt3, lt4, lt5, lt6, lt7, lt8, lt9, lt10, lt11, lt12, lt13, lt14, lt15, lt16, lt17, lt18, lt19, lt20, lt21, lt22, lt23, lt24, lt25, lt26, lt27, lt28, lt29, lt30, lt31, lt32, lt33, lt34, lt35, lt36, lt37, lt38, lt39, lt40, lt41, lt42, lt43, lt44, lt45, lt46, lt47, lt48, lt49, lt50, lt51, lt52, lt53, lt54, lt55, lt56, lt57, lt58, lt59, lt60, lt61, lt62, lt63, lt64, lt97, lt98, lt99, lt100, lt107, lt110, lt114, lt115, lt116, lt119, lt122, lt208, lt255, lt999, lt1000, nI_add, pk_mul, nI_clamp, vp_t, nI_leI, nI_ltI, nI_eq, true_and, and_true, true_implies, false_implies, not_true_eq_false, not_false_eq_true, eq_self, implies_true, true_or, or_true, Nat.add_zero, Nat.reduceAdd, Nat.reduceMul, Nat.reduceEqDiff, Nat.reduceLeDiff, Nat.reduceLT, Nat.reduceSub]
    exact br_t (by omega) (k f)
  | succ m ih =>
    intro i z f hi hf hz h4 hp hq k
    have hf' : LM ((upc μ 285 f) 285) z := by rw [upc_s]; exact hf
    obtain ⟨v0, v1, v2, v3, v4, v5, v6, v7, v8⟩ := hz
    have hz : VL z := ⟨v0, v1, v2, v3, v4, v5, v6, v7, v8⟩
    have p1 := v8 p hp
    have q1 := v8 q hq
    have e : mt p q (m + 1) i z = if z (21 + 6 * p) = 0 then (if z (21 + 6 * q) = 0 then (if z (18 + 6 * p) = z (18 + 6 * q) then nI i else mt p q m (i + 1) (dz 0 z)) else mt p q m (i + 1) (dz 0 z)) else mt p q m (i + 1) (dz 0 z) := rfl
    have go : (mt p q (m + 1) i z = mt p q m (i + 1) (dz 0 z)) → cI (cM 29) 135 [.ref 285, .int 0] (upc μ 285 f) (fun x91 μ91 => jX8_meet 29 K 35 [some (.ref 279), some (.int (nI p)), some (.int (nI q)), some (.int (nI (i + 1))), none] [] μ91) := by
      intro e2
      refine s_day (s := 0) (Or.inr rfl) hf' hz (by decide) (fun f2 h2 => ?_)
      rw [upc_upc]
      refine ih (i + 1) (dz 0 z) f2 (by omega) h2 (VL_dz hz (by omega)) (by rw [dz_4]; omega) (by rw [dz_hd (by decide) (by decide)]; exact hp) (by rw [dz_hd (by decide) (by decide)]; exact hq) ?_
      rw [← e2]
      exact k
    refine k_X8_meet_35 ?_
    rw [show nI i + 1 = nI (i + 1) by rw [show (1 : Int32) = nI 1 from rfl, nI_add], show (60 : Int32) = nI 60 from rfl, nI_ltI (by omega) (by omega)]
    refine br_f (by omega) (s_lives (Or.inr rfl) hf' (by omega) (by omega) (fun c => br_t rfl (go (by rw [e, if_neg c]))) (fun c => br_f (by decide) ?_))
    refine s_lives (Or.inr rfl) hf' (by omega) (by omega) (fun c2 => br_t rfl (go (by rw [e, if_pos c, if_neg c2]))) (fun c2 => br_f (by decide) ?_)
    refine s_of (c := 2) (Or.inr rfl) hf' (by omega) (by decide) (s_of (c := 2) (Or.inr rfl) hf' (by omega) (by decide) ?_)
    rw [show 16 + 6 * p + 2 = 18 + 6 * p by omega, show 16 + 6 * q + 2 = 18 + 6 * q by omega, nI_eq (by omega) (by omega)]
    refine nr_c (fun c3 => go (by rw [e, if_pos c, if_pos c2, if_neg c3])) (fun c3 => ?_)
    rw [e, if_pos c, if_pos c2, if_pos c3] at k
    exact k f
theorem FM_cg {g : Nat → Int32} {φ ψ : Nat → Nat} (h : FM g φ) (e : ∀ j, j < 10 → φ j = ψ j) : FM g ψ := fun j hj => by rw [h j hj, e j hj]
theorem s_meetC {μ : Mm} {K : Int32 → Mm → Prop} {p q : Nat} : ∀ m i (z : Nat → Nat) (ν : Mm), i + m = 61 → FM (ν 271) (pj z p) → FM (ν 272) (pj z q) → (∀ k, k ≠ 271 → k ≠ 272 → ν k = μ k) → VL z → z 4 + m ≤ 2000 → p < z 3 → q < z 3 → (∀ ν' : Mm, (∀ k, k ≠ 271 → k ≠ 272 → ν' k = μ k) → K (mt p q m i z) ν') → jX7_meet 29 K 50 [some (.ref 0), none, none, some (.int (nI i))] [] ν := by
  intro m
  induction m with
  | zero =>
    intro i z ν hi h1 h2 fr hz h4 hp hq k
    refine k_X7_meet_50 ?_
    try simp (disch := omega) only [lt0, lt1, lt2, lt3, lt4, lt5, lt6, lt7, lt8, lt9, lt10, lt11, lt12, lt13, lt14, lt15, lt16, lt17, lt18, lt19, lt20, lt21, lt22, lt23, lt24, lt25, lt26, lt27, lt28, lt29, lt30, lt31, lt32, lt33, lt34, lt35, lt36, lt37, lt38, lt39, lt40, lt41, lt42, lt43, lt44, lt45, lt46, lt47, lt48, lt49, lt50, lt51, lt52, lt53, lt54, lt55, lt56, lt57, lt58, lt59, lt60, lt61, lt62, lt63, lt64, lt97, lt98, lt99, lt100, lt107, lt110, lt114, lt115, lt116, lt119, lt122, lt208, lt255, lt999, lt1000, nI_add, pk_mul, nI_clamp, vp_t, nI_leI, nI_ltI, nI_eq, true_and, and_true, true_implies, false_implies, not_true_eq_false, not_false_eq_true, eq_self, implies_true, true_or, or_true, Nat.add_zero, Nat.reduceAdd, Nat.reduceMul, Nat.reduceEqDiff, Nat.reduceLeDiff, Nat.reduceLT, Nat.reduceSub]
    exact br_t (by omega) (k ν fr)
  | succ m ih =>
    intro i z ν hi h1 h2 fr hz h4 hp hq k
    obtain ⟨v0, v1, v2, v3, v4, v5, v6, v7, v8⟩ := hz
    have hz : VL z := ⟨v0, v1, v2, v3, v4, v5, v6, v7, v8⟩
    have p1 := v8 p hp
    have q1 := v8 q hq
    have a9 : ν 271 9 = nI (if z (21 + 6 * p) = 0 then 1 else 0) := h1 9 (by decide)
    have b9 : ν 272 9 = nI (if z (21 + 6 * q) = 0 then 1 else 0) := h2 9 (by decide)
    have a6 : ν 271 6 = nI (z (18 + 6 * p)) := h1 6 (by decide)
    have b6 : ν 272 6 = nI (z (18 + 6 * q)) := h2 6 (by decide)
    have e : mt p q (m + 1) i z = if z (21 + 6 * p) = 0 then (if z (21 + 6 * q) = 0 then (if z (18 + 6 * p) = z (18 + 6 * q) then nI i else mt p q m (i + 1) (dz 0 z)) else mt p q m (i + 1) (dz 0 z)) else mt p q m (i + 1) (dz 0 z) := rfl
    have dead : (¬ z (21 + 6 * p) = 0 ∨ ¬ z (21 + 6 * q) = 0) → K (-1000000) ν := by
      intro h
      have := k ν fr
      rw [mt_dead (m + 1) i z hz h4 hp hq h] at this
      exact this
    refine k_X7_meet_50 ?_
    rw [show nI i + 1 = nI (i + 1) by rw [show (1 : Int32) = nI 1 from rfl, nI_add], show (60 : Int32) = nI 60 from rfl, nI_ltI (by omega) (by omega), a9, b9, a6, b6, nI_eq (by omega) (by omega)]
    refine br_f (by omega) ?_
    by_cases c : z (21 + 6 * p) = 0
    · rw [if_pos c]
      refine br_f (by decide) ?_
      by_cases c2 : z (21 + 6 * q) = 0
      · rw [if_pos c2]
        refine nr_f (by decide) (nr_c (fun c3 => ?_) (fun c3 => ?_))
        · have s1 := s_passDay (d := 26) (μ := ν) (g := ν 271) (K := fun μ102 => (cV (cM 29) 14 [.ref 272] μ102 (fun μ109 => jX7_meet 29 K 50 [some (.ref 0), none, none, some (.int (nI (i + 1)))] [] μ109))) (Or.inl rfl) h1 (pj_VF hz hp) (fun x hx => by
            have s2 := s_passDay (d := 26) (μ := upc ν 271 x) (g := (upc ν 271 x) 272) (K := fun μ109 => jX7_meet 29 K 50 [some (.ref 0), none, none, some (.int (nI (i + 1)))] [] μ109) (Or.inr (Or.inl rfl)) (φ := pj z q) (by rw [upc_n _ _ (by decide)]; exact h2) (pj_VF hz hq) (fun y hy => by
              refine ih (i + 1) (dz 0 z) _ (by omega) ?_ ?_ ?_ (VL_dz hz (by omega)) (by rw [dz_4]; omega) (by rw [dz_hd (by decide) (by decide)]; exact hp) (by rw [dz_hd (by decide) (by decide)]; exact hq) ?_
              · rw [upc_n _ _ (by decide), upc_s]
                exact FM_cg hx (pj_dz hz hp)
              · rw [upc_s]
                exact FM_cg hy (pj_dz hz hq)
              · intro a ha hb
                rw [upc_n _ _ hb, upc_n _ _ ha]
                exact fr a ha hb
              · rw [e, if_pos c, if_pos c2, if_neg c3] at k
                exact k)
            rw [upc_id] at s2
            exact s2)
          rw [upc_id] at s1
          exact s1
        · rw [e, if_pos c, if_pos c2, if_pos c3] at k
          exact k ν fr
      · rw [if_neg c2]
        exact nr_t rfl (dead (Or.inr c2))
    · rw [if_neg c]
      exact br_t rfl (dead (Or.inl c))
theorem op_meet {μ : Mm} {K : Int32 → Mm → Prop} {x y : Int32} (hI : Inv μ) (k : ∀ a μ1, Nx 160 [.ref 279, .int x, .int y] a μ1 → K a μ1) : cI (cM 30) 75 [.ref 0, .int x, .int y] μ K := by
  obtain ⟨z, hz⟩ := hI.2.2.2.2.1
  obtain ⟨vz, v9, lr, lm⟩ := hz
  have vz' := vz
  obtain ⟨v0, v1, v2, v3, v4, v5, v6, v7, v8⟩ := vz
  have r0 := lr.1
  have r3 := lr.2.2.2.1
  have r4 := lr.2.2.2.2.1
  have r5 := lr.2.2.2.2.2.1
  have r6 := lr.2.2.2.2.2.2.1
  have l0 := lm 0 (by decide)
  have l2 := lm 2 (by decide)
  have l3 := lm 3 (by decide)
  have l5 := lm 5 (by decide)
  refine e_X7_meet (s_isPerson r4 (by omega) (fun hx => br_f (by decide) ?_) (fun hx => br_t rfl (k _ _ (fun G g => e_X8_meet (s_isPersonM (μ := up μ 279 0 0) l3 (by omega) (fun h => absurd h hx) (fun _ => br_t rfl (g _ (Inv.q hI (fun k hk => by simp (disch := omega) only [up_eq, upc_n]) (fun j hj => by simp (disch := omega) only [up_eq, upc_s, upc_n, upd_n])))))))))
  refine s_isPerson r4 (by omega) (fun hy => br_f (by decide) ?_) (fun hy => br_t rfl (k _ _ (fun G g => e_X8_meet (s_isPersonM (μ := up μ 279 0 0) l3 (by omega) (fun _ => br_f (by decide) (s_isPersonM (μ := up μ 279 0 0) l3 (by omega) (fun h => absurd h hy) (fun _ => br_t rfl (g _ (Inv.q hI (fun k hk => by simp (disch := omega) only [up_eq, upc_n]) (fun j hj => by simp (disch := omega) only [up_eq, upc_s, upc_n, upd_n])))))) (fun h => absurd hx h)))))
  refine nr_c (fun hxy => ?_) (fun hxy => k _ _ (fun G g => e_X8_meet (s_isPersonM (μ := up μ 279 0 0) l3 (by omega) (fun _ => br_f (by decide) (s_isPersonM (μ := up μ 279 0 0) l3 (by omega) (fun _ => br_f (by decide) (nr_t hxy (g _ (Inv.q hI (fun k hk => by simp (disch := omega) only [up_eq, upc_n]) (fun j hj => by simp (disch := omega) only [up_eq, upc_s, upc_n, upd_n]))))) (fun h => absurd hy h))) (fun h => absurd hx h))))
  obtain ⟨p, hp, rfl⟩ := hx
  obtain ⟨q, hq, rfl⟩ := hy
  refine s_begin (by decide) lr vz' hp (fun f hf => s_begin (by decide) (LR_271 lr) vz' hq (fun f2 hf2 => ?_))
  refine s_meetC (μ := μ) (p := p) (q := q) 61 0 z _ (by decide) (by rw [upc_n _ _ (by decide), upc_s]; exact hf) (by rw [upc_s]; exact hf2) (fun a ha hb => by rw [upc_n _ _ hb, upc_n _ _ ha]) vz' (by omega) hp hq (fun ν fr => ?_)
  have hI : Inv ν := Inv.q hI (fun k hk => fr k (by omega) (by omega)) (fun j _ => by rw [fr 279 (by decide) (by decide)])
  have f3 : ν 283 = μ 283 := fr 283 (by decide) (by decide)
  have l3' : (up ν 279 0 0) 283 3 = nI (z 3) := by
    show ν 283 3 = _
    rw [f3]
    exact l3
  have lm' : LM ((up ν 279 0 0) 283) z := by
    show LM (ν 283) z
    rw [f3]
    exact lm
  refine k _ _ (fun G g => e_X8_meet (s_isPersonM (μ := up ν 279 0 0) l3' (by omega) (fun _ => br_f (by decide) (s_isPersonM (μ := up ν 279 0 0) l3' (by omega) (fun _ => br_f (by decide) (nr_f hxy (s_layThen (z := z) lm' (fun f3 h3 => ?_)))) (fun h => absurd ⟨q, hq, rfl⟩ h))) (fun h => absurd ⟨p, hp, rfl⟩ h)))
  exact s_meetM 61 0 z f3 (by decide) h3 vz' (by omega) hp hq (fun f4 => g _ (Inv.q hI (fun k hk => by simp (disch := omega) only [up_eq, upc_n]) (fun j hj => by simp (disch := omega) only [up_eq, upc_s, upc_n, upd_n])))
theorem op_person {μ : Mm} {K : Int32 → Mm → Prop} {x y : Int32} (hI : Inv μ) (k : ∀ a μ1, Nx 150 [.ref 279, .int x, .int y] a μ1 → K a μ1) : cI (cM 30) 66 [.ref 0, .int x, .int y] μ K := by
  obtain ⟨z, hz⟩ := hI.2.2.2.2.1
  obtain ⟨vz, v9, lr, lm⟩ := hz
  have vz' := vz
  obtain ⟨v0, v1, v2, v3, v4, v5, v6, v7, v8⟩ := vz
  have r0 := lr.1
  have r3 := lr.2.2.2.1
  have r4 := lr.2.2.2.2.1
  have r5 := lr.2.2.2.2.2.1
  have r6 := lr.2.2.2.2.2.2.1
  have l0 := lm 0 (by decide)
  have l2 := lm 2 (by decide)
  have l3 := lm 3 (by decide)
  have l5 := lm 5 (by decide)
  have B : ∀ b, ¬ inN x (z 3) → b = -1000001 → K b μ := fun b hx hb => by
    subst hb
    exact k _ _ (fun G g => e_X8_person (s_isPersonM (μ := up μ 279 0 0) l3 (by omega) (fun h => absurd h hx) (fun _ => nr_t rfl (g _ (Inv.q hI (fun k hk => by simp (disch := omega) only [up_eq, upc_n]) (fun j hj => by simp (disch := omega) only [up_eq, upc_s, upc_n, upd_n]))))))
  refine e_X7_person (s_isPerson r4 (by omega) (fun hx => nr_f (by decide) ?_) (fun hx => nr_t rfl (B _ hx rfl)))
  obtain ⟨q, hq, rfl⟩ := hx
  obtain ⟨q0, q1, q2, q3, q4, q5⟩ := lr.2.2.2.2.2.2.2.2 q hq
  have w := v8 q hq
  have lmt : LM ((up μ 279 0 0) 283) z := lm
  have P : ∀ b, (∀ G : Int32 → Mm → Prop, G b (up μ 279 0 0) → ((y = 0 → (cI (cM 29) 131 [.ref 283, .int (nI q), .int 1] (up μ 279 0 0) (fun x62 μ62 => G x62 μ62))) ∧ (¬ y = 0 → ((y = 1 → (cI (cM 29) 131 [.ref 283, .int (nI q), .int 2] (up μ 279 0 0) (fun x72 μ72 => G x72 μ72))) ∧ (¬ y = 1 → ((y = 2 → (cI (cM 29) 131 [.ref 283, .int (nI q), .int 3] (up μ 279 0 0) (fun x82 μ82 => G x82 μ82))) ∧ (¬ y = 2 → ((y = 3 → (cI (cM 29) 132 [.ref 283, .int (nI q)] (up μ 279 0 0) (fun x91 μ91 => ((x91 = 0 → G 0 μ91) ∧ (¬ x91 = 0 → G 1 μ91))))) ∧ (¬ y = 3 → ((y = 4 → (cI (cM 29) 131 [.ref 283, .int (nI q), .int 4] (up μ 279 0 0) (fun x109 μ109 => G x109 μ109))) ∧ (¬ y = 4 → ((y = 5 → (cI (cM 29) 132 [.ref 283, .int (nI q)] (up μ 279 0 0) (fun x118 μ118 => ((x118 = 0 → (cI (cM 29) 131 [.ref 283, .int (nI q), .int 5] μ118 (fun x135 μ135 => G (x135 - 1) μ135))) ∧ (¬ x118 = 0 → G (-1000000) μ118))))) ∧ (¬ y = 5 → G (-1000001) (up μ 279 0 0)))))))))))))) → K b μ := by
    intro b hb
    refine k _ _ (fun G g => e_X8_person (s_isPersonM (μ := up μ 279 0 0) l3 (by omega) (fun _ => nr_f (by decide) ?_) (fun h => absurd ⟨q, hq, rfl⟩ h)))
    exact hb G (g _ (Inv.q hI (fun k hk => by simp (disch := omega) only [up_eq, upc_n]) (fun j hj => by simp (disch := omega) only [up_eq, upc_s, upc_n, upd_n])))
  have rd : ∀ c, c < 6 → ∀ (G : Int32 → Mm → Prop), G (nI (z (16 + 6 * q + c))) (up μ 279 0 0) → cI (cM 29) 131 [.ref 283, .int (nI q), .int (nI c)] (up μ 279 0 0) G := fun c hc G hG => s_of (c := c) (Or.inl rfl) lmt (by omega) hc hG
  have vp : vp_in (nI q) 7 := vp_in_nI (by omega) (by decide)
  have cl : (nI q).toNatClampNeg = q := nI_clamp (by omega)
  rw [cl]
  refine br_c (fun y0 => ⟨vp, P _ (fun G hG => br_t y0 (rd 1 (by decide) G ?_))⟩) (fun y0 => ?_)
  · rw [show 16 + 6 * q + 1 = 17 + 6 * q by omega, ← q1]; exact hG
  refine br_c (fun y1 => ⟨vp, P _ (fun G hG => br_f y0 (br_t y1 (rd 2 (by decide) G ?_)))⟩) (fun y1 => ?_)
  · rw [show 16 + 6 * q + 2 = 18 + 6 * q by omega, ← q2]; exact hG
  refine br_c (fun y2 => ⟨vp, P _ (fun G hG => br_f y0 (br_f y1 (br_t y2 (rd 3 (by decide) G ?_))))⟩) (fun y2 => ?_)
  · rw [show 16 + 6 * q + 3 = 19 + 6 * q by omega, ← q3]; exact hG
  refine br_c (fun y3 => ?_) (fun y3 => ?_)
  · refine s_isLiving (z := z) (by decide) r6 v3 hq (fun c => br_t rfl ?_) (fun c => br_f (by decide) ?_)
    · exact P _ (fun G hG => br_f y0 (br_f y1 (br_f y2 (br_t y3 (s_lives (Or.inl rfl) lmt (by omega) (by omega) (fun _ => br_t rfl hG) (fun c2 => absurd c2 c))))))
    · exact P _ (fun G hG => br_f y0 (br_f y1 (br_f y2 (br_t y3 (s_lives (Or.inl rfl) lmt (by omega) (by omega) (fun c2 => absurd c c2) (fun _ => br_f (by decide) hG))))))
  refine br_c (fun y4 => ⟨vp, P _ (fun G hG => br_f y0 (br_f y1 (br_f y2 (br_f y3 (br_t y4 (rd 4 (by decide) G ?_))))))⟩) (fun y4 => ?_)
  · rw [show 16 + 6 * q + 4 = 20 + 6 * q by omega, ← q4]; exact hG
  refine br_c (fun y5 => ⟨vp, P _ (fun G hG => br_f y0 (br_f y1 (br_f y2 (br_f y3 (br_f y4 (br_t y5 ?_))))))⟩) (fun y5 => P _ (fun G hG => br_f y0 (br_f y1 (br_f y2 (br_f y3 (br_f y4 (br_f y5 hG)))))))
  refine s_lives (Or.inl rfl) lmt (by omega) (by omega) (fun c => br_t rfl (rd 5 (by decide) _ ?_)) (fun c => br_f (by decide) ?_)
  · rw [show 16 + 6 * q + 5 = 21 + 6 * q by omega]
    have q5' : μ 24 q = dOn (z (21 + 6 * q)) := q5
    unfold dOn at q5'
    rw [if_neg c] at q5'
    have e1 : nI (z (21 + 6 * q)) - 1 = nI (z (21 + 6 * q) - 1) := sub_n (b := 1) (by omega)
    rw [e1, ← q5']
    exact hG
  · have q5' : μ 24 q = dOn (z (21 + 6 * q)) := q5
    unfold dOn at q5'
    rw [if_pos c] at q5'
    rw [← q5']
    exact hG
