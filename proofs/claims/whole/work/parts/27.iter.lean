/-! ===== many DAYS ===== -/
def itZ : Nat → (Nat → Nat) → Nat → Nat
  | 0, z => z
  | n + 1, z => itZ n (dz 0 z)
def sd : Nat → (Nat → Nat) → Nat
  | 0, _ => 0
  | n + 1, z => dd 0 z + sd n (dz 0 z)
def itF : Nat → (Nat → Nat) → Nat → Nat
  | 0, φ => φ
  | n + 1, φ => itF n (dayF φ)
theorem gF_cg {φ ψ : Nat → Nat} (h : ∀ j, j < 10 → φ j = ψ j) : gF φ = gF ψ := by
  unfold gF
  rw [h 0 (by decide), h 1 (by decide), h 3 (by decide), h 5 (by decide), h 6 (by decide), h 7 (by decide)]
theorem tF_cg {φ ψ : Nat → Nat} (h : ∀ j, j < 10 → φ j = ψ j) : tF φ = tF ψ := by
  unfold tF
  rw [h 0 (by decide), h 3 (by decide), h 4 (by decide)]
theorem un_cg {φ ψ : Nat → Nat} (h : ∀ j, j < 10 → φ j = ψ j) (i v : Nat) : ∀ j, j < 10 → un φ i v j = un ψ i v j := by
  intro j hj
  unfold un
  split
  · rfl
  · exact h j hj
theorem pF_cg {φ ψ : Nat → Nat} (h : ∀ j, j < 10 → φ j = ψ j) : pF φ = pF ψ := by
  unfold pF
  rw [h 6 (by decide), h 8 (by decide), h 9 (by decide), tF_cg h, gF_cg (un_cg h 3 (tF ψ))]
theorem lF_cg {φ ψ : Nat → Nat} (h : ∀ j, j < 10 → φ j = ψ j) : lF φ = lF ψ := by
  unfold lF
  rw [pF_cg h, tF_cg h, h 9 (by decide), h 5 (by decide), h 1 (by decide), h 2 (by decide)]
theorem dayF_cg {φ ψ : Nat → Nat} (h : ∀ j, j < 10 → φ j = ψ j) : ∀ j, j < 10 → dayF φ j = dayF ψ j := by
  unfold dayF
  rw [tF_cg h, pF_cg h, lF_cg h, h 2 (by decide), h 8 (by decide)]
  exact un_cg (un_cg (un_cg (un_cg (un_cg h _ _) _ _) _ _) _ _) _ _
theorem VF_day {φ : Nat → Nat} (h : VF φ) (h2 : φ 2 < 2000) : VF (dayF φ) := by
  obtain ⟨⟨v0, v0'⟩, v1, v2, v3, v4, ⟨v5, v5'⟩, v6, v7, v8, v9⟩ := h
  have ht : tF φ < φ 0 := Nat.mod_lt _ (by omega)
  have hgl : gF (un φ 3 (tF φ)) < φ 0 := gF_lt (φ := un φ 3 (tF φ)) (show 0 < φ 0 by omega) v6
  have hp : pF φ < φ 0 := by
    unfold pF
    split
    · exact hgl
    · exact v6
  have hl : lF φ ≤ 1 := by
    unfold lF
    split
    · omega
    · exact v9
  exact ⟨⟨v0, v0'⟩, v1, show φ 2 + 1 ≤ 2000 by omega, ht, v4, ⟨v5, v5'⟩, hp, v7, show φ 8 - 1 ≤ 60 by omega, hl⟩
theorem VF_cg {φ ψ : Nat → Nat} (h : ∀ j, j < 10 → φ j = ψ j) (hv : VF φ) : VF ψ := by
  unfold VF at hv ⊢
  rw [h 0 (by decide), h 1 (by decide), h 2 (by decide), h 3 (by decide), h 4 (by decide), h 5 (by decide), h 6 (by decide), h 7 (by decide), h 8 (by decide), h 9 (by decide)] at hv
  exact hv
theorem dead_day {φ : Nat → Nat} (h : φ 9 = 0) : dayF φ 9 = 0 := by
  show lF φ = 0
  unfold lF
  rw [if_neg (fun c => c.1 h), h]
theorem dead_it : ∀ n {φ : Nat → Nat}, φ 9 = 0 → itF n φ 9 = 0
  | 0, _, h => h
  | n + 1, _, h => dead_it n (dead_day h)
theorem it_pj {q : Nat} : ∀ n (z φ : Nat → Nat), (∀ j, j < 10 → φ j = pj z q j) → VL z → z 4 + n ≤ 2000 → q < z 3 → ∀ j, j < 10 → itF n φ j = pj (itZ n z) q j
  | 0, _, _, h, _, _, _ => h
  | n + 1, z, φ, h, hz, h4, hq => by
    refine it_pj n (dz 0 z) (dayF φ) (fun j hj => ?_) (VL_dz hz (by omega)) (by rw [dz_4]; omega) (by rw [dz_hd (by decide) (by decide)]; exact hq)
    rw [dayF_cg h j hj, pj_dz hz hq j hj]
theorem itZ_VL : ∀ n (z : Nat → Nat), VL z → z 4 + n ≤ 2000 → VL (itZ n z) ∧ itZ n z 3 = z 3 ∧ itZ n z 0 = z 0 ∧ itZ n z 2 = z 2 ∧ itZ n z 4 = z 4 + n ∧ itZ n z 5 = z 5
  | 0, z, h, _ => ⟨h, rfl, rfl, rfl, rfl, rfl⟩
  | n + 1, z, h, h4 => by
    obtain ⟨a, b, c, e, f, g⟩ := itZ_VL n (dz 0 z) (VL_dz h (by omega)) (by rw [dz_4]; omega)
    refine ⟨a, ?_, ?_, ?_, ?_, ?_⟩
    · show itZ n (dz 0 z) 3 = z 3
      rw [b, dz_hd (by decide) (by decide)]
    · show itZ n (dz 0 z) 0 = z 0
      rw [c, dz_hd (by decide) (by decide)]
    · show itZ n (dz 0 z) 2 = z 2
      rw [e, dz_hd (by decide) (by decide)]
    · show itZ n (dz 0 z) 4 = z 4 + (n + 1)
      rw [f, dz_4]
      omega
    · show itZ n (dz 0 z) 5 = z 5
      rw [g, dz_hd (by decide) (by decide)]
theorem dc_le : ∀ (z : Nat → Nat) k, dc z k ≤ k
  | _, 0 => Nat.le_refl _
  | z, k + 1 => by
    have := dc_le z k
    show dc z k + _ ≤ k + 1
    split <;> omega
theorem s_daysOf {d : Nat} {μ : Mm} {K : Int32 → Mm → Prop} {r n : Nat} {z : Nat → Nat} (hr : r = 283 ∨ r = 285) (h : LM (μ r) z) (hz : VL z) (hn : z 4 + n ≤ 2000) (k : ∀ f, LM f (itZ n z) → K (nI (sd n z)) (upc μ r f)) : cI (cM (d + 5)) 136 [.ref r, .int (nI n)] μ K := by
  have key : ∀ m i acc (z : Nat → Nat) f, i + m = n → LM f z → VL z → z 4 + m ≤ 2000 → (∀ f, LM f (itZ m z) → K (nI (acc + sd m z)) (upc μ r f)) → jX8_daysOf (d + 4) K 4 [some (.ref r), some (.int (nI n)), some (.int (nI acc)), some (.int (nI i))] [] (upc μ r f) := by
    intro m
    induction m with
    | zero =>
      intro i acc z f hi hf hz h4 k2
      obtain rfl : i = n := by omega
      rcases hr with rfl | rfl
      · refine k_X8_daysOf_283_4 ?_
        try simp (disch := omega) only [lt0, lt1, lt2, lt3, lt4, lt5, lt6, lt7, lt8, lt9, lt10, lt11, lt12, lt13, lt14, lt15, lt16, lt17, lt18, lt19, lt20, lt21, lt22, lt23, lt24, lt25, lt26, lt27, lt28, lt29, lt30, lt31, lt32, lt33, lt34, lt35, lt36, lt37, lt38, lt39, lt40, lt41, lt42, lt43, lt44, lt45, lt46, lt47, lt48, lt49, lt50, lt51, lt52, lt53, lt54, lt55, lt56, lt57, lt58, lt59, lt60, lt61, lt62, lt63, lt64, lt97, lt98, lt99, lt100, lt107, lt110, lt114, lt115, lt116, lt119, lt122, lt208, lt255, lt999, lt1000, nI_add, pk_mul, nI_clamp, vp_t, nI_leI, nI_ltI, nI_eq, true_and, and_true, true_implies, false_implies, not_true_eq_false, not_false_eq_true, eq_self, implies_true, true_or, or_true, Nat.add_zero, Nat.reduceAdd, Nat.reduceMul, Nat.reduceEqDiff, Nat.reduceLeDiff, Nat.reduceLT, Nat.reduceSub]
        exact br_t (Nat.le_refl _) (k2 f hf)
      · refine k_X8_daysOf_285_4 ?_
        try simp (disch := omega) only [lt0, lt1, lt2, lt3, lt4, lt5, lt6, lt7, lt8, lt9, lt10, lt11, lt12, lt13, lt14, lt15, lt16, lt17, lt18, lt19, lt20, lt21, lt22, lt23, lt24, lt25, lt26, lt27, lt28, lt29, lt30, lt31, lt32, lt33, lt34, lt35, lt36, lt37, lt38, lt39, lt40, lt41, lt42, lt43, lt44, lt45, lt46, lt47, lt48, lt49, lt50, lt51, lt52, lt53, lt54, lt55, lt56, lt57, lt58, lt59, lt60, lt61, lt62, lt63, lt64, lt97, lt98, lt99, lt100, lt107, lt110, lt114, lt115, lt116, lt119, lt122, lt208, lt255, lt999, lt1000, nI_add, pk_mul, nI_clamp, vp_t, nI_leI, nI_ltI, nI_eq, true_and, and_true, true_implies, false_implies, not_true_eq_false, not_false_eq_true, eq_self, implies_true, true_or, or_true, Nat.add_zero, Nat.reduceAdd, Nat.reduceMul, Nat.reduceEqDiff, Nat.reduceLeDiff, Nat.reduceLT, Nat.reduceSub]
        exact br_t (Nat.le_refl _) (k2 f hf)
    | succ m ih =>
      intro i acc z f hi hf hz h4 k2
      have go : ∀ x, LM x (dz 0 z) → jX8_daysOf (d + 4) K 4 [some (.ref r), some (.int (nI n)), some (.int (nI (acc + dd 0 z))), some (.int (nI (i + 1)))] [] (upc μ r x) := by
        intro x hx
        refine ih (i + 1) (acc + dd 0 z) (dz 0 z) x (by omega) hx (VL_dz hz (by omega)) (by rw [dz_4]; omega) (fun f hf => ?_)
        have := k2 f hf
        rw [show acc + sd (m + 1) z = acc + dd 0 z + sd m (dz 0 z) by show acc + (dd 0 z + sd m (dz 0 z)) = _; omega] at this
        exact this
      rcases hr with rfl | rfl
      · refine k_X8_daysOf_283_4 ?_
        try simp (disch := omega) only [lt0, lt1, lt2, lt3, lt4, lt5, lt6, lt7, lt8, lt9, lt10, lt11, lt12, lt13, lt14, lt15, lt16, lt17, lt18, lt19, lt20, lt21, lt22, lt23, lt24, lt25, lt26, lt27, lt28, lt29, lt30, lt31, lt32, lt33, lt34, lt35, lt36, lt37, lt38, lt39, lt40, lt41, lt42, lt43, lt44, lt45, lt46, lt47, lt48, lt49, lt50, lt51, lt52, lt53, lt54, lt55, lt56, lt57, lt58, lt59, lt60, lt61, lt62, lt63, lt64, lt97, lt98, lt99, lt100, lt107, lt110, lt114, lt115, lt116, lt119, lt122, lt208, lt255, lt999, lt1000, nI_add, pk_mul, nI_clamp, vp_t, nI_leI, nI_ltI, nI_eq, true_and, and_true, true_implies, false_implies, not_true_eq_false, not_false_eq_true, eq_self, implies_true, true_or, or_true, Nat.add_zero, Nat.reduceAdd, Nat.reduceMul, Nat.reduceEqDiff, Nat.reduceLeDiff, Nat.reduceLT, Nat.reduceSub]
        refine br_f (by omega) (s_day (Or.inl rfl) (show LM ((upc μ 283 f) 283) _ from hf) hz (by decide) (fun x hx => ?_))
        try simp (disch := omega) only [lt0, lt1, lt2, lt3, lt4, lt5, lt6, lt7, lt8, lt9, lt10, lt11, lt12, lt13, lt14, lt15, lt16, lt17, lt18, lt19, lt20, lt21, lt22, lt23, lt24, lt25, lt26, lt27, lt28, lt29, lt30, lt31, lt32, lt33, lt34, lt35, lt36, lt37, lt38, lt39, lt40, lt41, lt42, lt43, lt44, lt45, lt46, lt47, lt48, lt49, lt50, lt51, lt52, lt53, lt54, lt55, lt56, lt57, lt58, lt59, lt60, lt61, lt62, lt63, lt64, lt97, lt98, lt99, lt100, lt107, lt110, lt114, lt115, lt116, lt119, lt122, lt208, lt255, lt999, lt1000, nI_add, pk_mul, nI_clamp, vp_t, nI_leI, nI_ltI, nI_eq, true_and, and_true, true_implies, false_implies, not_true_eq_false, not_false_eq_true, eq_self, implies_true, true_or, or_true, Nat.add_zero, Nat.reduceAdd, Nat.reduceMul, Nat.reduceEqDiff, Nat.reduceLeDiff, Nat.reduceLT, Nat.reduceSub]
        rw [upc_upc]
        exact go x hx
      · refine k_X8_daysOf_285_4 ?_
        try simp (disch := omega) only [lt0, lt1, lt2, lt3, lt4, lt5, lt6, lt7, lt8, lt9, lt10, lt11, lt12, lt13, lt14, lt15, lt16, lt17, lt18, lt19, lt20, lt21, lt22, lt23, lt24, lt25, lt26, lt27, lt28, lt29, lt30, lt31, lt32, lt33, lt34, lt35, lt36, lt37, lt38, lt39, lt40, lt41, lt42, lt43, lt44, lt45, lt46, lt47, lt48, lt49, lt50, lt51, lt52, lt53, lt54, lt55, lt56, lt57, lt58, lt59, lt60, lt61, lt62, lt63, lt64, lt97, lt98, lt99, lt100, lt107, lt110, lt114, lt115, lt116, lt119, lt122, lt208, lt255, lt999, lt1000, nI_add, pk_mul, nI_clamp, vp_t, nI_leI, nI_ltI, nI_eq, true_and, and_true, true_implies, false_implies, not_true_eq_false, not_false_eq_true, eq_self, implies_true, true_or, or_true, Nat.add_zero, Nat.reduceAdd, Nat.reduceMul, Nat.reduceEqDiff, Nat.reduceLeDiff, Nat.reduceLT, Nat.reduceSub]
        refine br_f (by omega) (s_day (Or.inr rfl) (show LM ((upc μ 285 f) 285) _ from hf) hz (by decide) (fun x hx => ?_))
        try simp (disch := omega) only [lt0, lt1, lt2, lt3, lt4, lt5, lt6, lt7, lt8, lt9, lt10, lt11, lt12, lt13, lt14, lt15, lt16, lt17, lt18, lt19, lt20, lt21, lt22, lt23, lt24, lt25, lt26, lt27, lt28, lt29, lt30, lt31, lt32, lt33, lt34, lt35, lt36, lt37, lt38, lt39, lt40, lt41, lt42, lt43, lt44, lt45, lt46, lt47, lt48, lt49, lt50, lt51, lt52, lt53, lt54, lt55, lt56, lt57, lt58, lt59, lt60, lt61, lt62, lt63, lt64, lt97, lt98, lt99, lt100, lt107, lt110, lt114, lt115, lt116, lt119, lt122, lt208, lt255, lt999, lt1000, nI_add, pk_mul, nI_clamp, vp_t, nI_leI, nI_ltI, nI_eq, true_and, and_true, true_implies, false_implies, not_true_eq_false, not_false_eq_true, eq_self, implies_true, true_or, or_true, Nat.add_zero, Nat.reduceAdd, Nat.reduceMul, Nat.reduceEqDiff, Nat.reduceLeDiff, Nat.reduceLT, Nat.reduceSub]
        rw [upc_upc]
        exact go x hx
  have h9 := key n 0 0 z (μ r) (by omega) h hz hn (fun f hf => by rw [Nat.zero_add]; exact k f hf)
  rw [upc_id] at h9
  rcases hr with rfl | rfl
  · exact e_X8_daysOf_283 h9
  · exact e_X8_daysOf_285 h9
theorem s_layThen {d : Nat} {μ : Mm} {K : Mm → Prop} {z : Nat → Nat} (h : LM (μ 283) z) (k : ∀ f, LM f z → K (upc μ 285 f)) : cV (cM (d + 1)) 138 [.ref 279] μ K := by
  have key : ∀ m i f, i + m = 58 → (∀ j, j < i → f j = nI (z j)) → jX8_layThen d K 2 [some (.ref 279), some (.int (nI i))] [] (upc μ 285 f) := by
    intro m
    induction m with
    | zero =>
      intro i f hi hf
      obtain rfl : i = 58 := by omega
      refine k_X8_layThen_2 ?_
      try simp (disch := omega) only [lt0, lt1, lt2, lt3, lt4, lt5, lt6, lt7, lt8, lt9, lt10, lt11, lt12, lt13, lt14, lt15, lt16, lt17, lt18, lt19, lt20, lt21, lt22, lt23, lt24, lt25, lt26, lt27, lt28, lt29, lt30, lt31, lt32, lt33, lt34, lt35, lt36, lt37, lt38, lt39, lt40, lt41, lt42, lt43, lt44, lt45, lt46, lt47, lt48, lt49, lt50, lt51, lt52, lt53, lt54, lt55, lt56, lt57, lt58, lt59, lt60, lt61, lt62, lt63, lt64, lt97, lt98, lt99, lt100, lt107, lt110, lt114, lt115, lt116, lt119, lt122, lt208, lt255, lt999, lt1000, nI_add, pk_mul, nI_clamp, vp_t, nI_leI, nI_ltI, nI_eq, true_and, and_true, true_implies, false_implies, not_true_eq_false, not_false_eq_true, eq_self, implies_true, true_or, or_true, Nat.add_zero, Nat.reduceAdd, Nat.reduceMul, Nat.reduceEqDiff, Nat.reduceLeDiff, Nat.reduceLT, Nat.reduceSub]
      exact k f hf
    | succ m ih =>
      intro i f hi hf
      have e1 : upc μ 285 f 283 = μ 283 := rfl
      refine k_X8_layThen_2 ?_
      try simp (disch := omega) only [lt0, lt1, lt2, lt3, lt4, lt5, lt6, lt7, lt8, lt9, lt10, lt11, lt12, lt13, lt14, lt15, lt16, lt17, lt18, lt19, lt20, lt21, lt22, lt23, lt24, lt25, lt26, lt27, lt28, lt29, lt30, lt31, lt32, lt33, lt34, lt35, lt36, lt37, lt38, lt39, lt40, lt41, lt42, lt43, lt44, lt45, lt46, lt47, lt48, lt49, lt50, lt51, lt52, lt53, lt54, lt55, lt56, lt57, lt58, lt59, lt60, lt61, lt62, lt63, lt64, lt97, lt98, lt99, lt100, lt107, lt110, lt114, lt115, lt116, lt119, lt122, lt208, lt255, lt999, lt1000, nI_add, pk_mul, nI_clamp, vp_t, nI_leI, nI_ltI, nI_eq, true_and, and_true, true_implies, false_implies, not_true_eq_false, not_false_eq_true, eq_self, implies_true, true_or, or_true, Nat.add_zero, Nat.reduceAdd, Nat.reduceMul, Nat.reduceEqDiff, Nat.reduceLeDiff, Nat.reduceLT, Nat.reduceSub, e1, h _, up_upc]
      refine br_f (by omega) (ih (i + 1) _ (by omega) (fun j hj => ?_))
      by_cases e : j = i
      · subst e
        rw [upd_s]
      · rw [upd_n _ _ e]
        exact hf j (by omega)
  have h9 := key 58 0 (μ 285) (by omega) (fun j hj => absurd hj (by omega))
  rw [upc_id] at h9
  exact e_X8_layThen h9
/-- behind how many DAYS one dies first: k of them gone, m looks left; 61: not in 60 -/
def dy : Nat → Nat → (Nat → Nat) → Nat → Nat
  | 0, _, _, _ => 61
  | m + 1, k, z, p => if z (21 + 6 * p) = 0 then dy m (k + 1) (dz 0 z) p else k
def dyF : Nat → Nat → (Nat → Nat) → Nat
  | 0, _, _ => 61
  | m + 1, k, φ => if φ 9 = 0 then k else dyF m (k + 1) (dayF φ)
theorem dyF_eq {q : Nat} : ∀ m k (z φ : Nat → Nat), (∀ j, j < 10 → φ j = pj z q j) → VL z → z 4 + m ≤ 2000 → q < z 3 → dyF m k φ = dy m k z q
  | 0, _, _, _, _, _, _, _ => rfl
  | m + 1, k, z, φ, h, hz, h4, hq => by
    show (if φ 9 = 0 then k else dyF m (k + 1) (dayF φ)) = (if z (21 + 6 * q) = 0 then dy m (k + 1) (dz 0 z) q else k)
    have h9 : φ 9 = if z (21 + 6 * q) = 0 then 1 else 0 := h 9 (by decide)
    rw [h9]
    by_cases c : z (21 + 6 * q) = 0
    · rw [if_pos c, if_neg (by decide), if_pos c]
      refine dyF_eq m (k + 1) (dz 0 z) (dayF φ) (fun j hj => ?_) (VL_dz hz (by omega)) (by rw [dz_4]; omega) (by rw [dz_hd (by decide) (by decide)]; exact hq)
      rw [dayF_cg h j hj, pj_dz hz hq j hj]
    · rw [if_neg c, if_pos rfl, if_neg c]
def orN (n : Nat) : Int32 := if n = 61 then -1000000 else nI n
theorem dy_le : ∀ m k (z : Nat → Nat) p, k + m ≤ 61 → dy m k z p ≤ 61
  | 0, _, _, _, _ => Nat.le_refl _
  | m + 1, k, z, p, h => by
    show (if z (21 + 6 * p) = 0 then dy m (k + 1) (dz 0 z) p else k) ≤ 61
    split
    · exact dy_le m (k + 1) (dz 0 z) p (by omega)
    · omega
theorem s_diesBy {d : Nat} {μ : Mm} {K : Int32 → Mm → Prop} {p : Nat} {z : Nat → Nat} (h : LM (μ 285) z) (hz : VL z) (hp : p < z 3) (h4 : z 4 + 61 ≤ 2000) (k : ∀ f, K (orN (dy 61 0 z p)) (upc μ 285 f)) : cI (cM (d + 5)) 139 [.ref 279, .int (nI p)] μ K := by
  have key : ∀ m i (z : Nat → Nat) f, i + m = 61 → LM f z → VL z → z 4 + m ≤ 2000 → p < z 3 → (∀ f, K (orN (dy m i z p)) (upc μ 285 f)) → jX8_diesBy (d + 4) K 2 [some (.ref 279), some (.int (nI p)), some (.int (nI i)), none] [] (upc μ 285 f) := by
    intro m
    induction m with
    | zero =>
      intro i z f hi hf hz h4 hp k
      obtain rfl : i = 61 := by omega
      refine k_X8_diesBy_2 ?_
      try simp (disch := omega) only [lt0, lt1, lt2, lt3, lt4, lt5, lt6, lt7, lt8, lt9, lt10, lt11, lt12, lt13, lt14, lt15, lt16, lt17, lt18, lt19, lt20, lt21, lt22, lt23, lt24, lt25, lt26, lt27, lt28, lt29, lt30, lt31, lt32, lt33, lt34, lt35, lt36, lt37, lt38, lt39, lt40, lt41, lt42, lt43, lt44, lt45, lt46, lt47, lt48, lt49, lt50, lt51, lt52, lt53, lt54, lt55, lt56, lt57, lt58, lt59, lt60, lt61, lt62, lt63, lt64, lt97, lt98, lt99, lt100, lt107, lt110, lt114, lt115, lt116, lt119, lt122, lt208, lt255, lt999, lt1000, nI_add, pk_mul, nI_clamp, vp_t, nI_leI, nI_ltI, nI_eq, true_and, and_true, true_implies, false_implies, not_true_eq_false, not_false_eq_true, eq_self, implies_true, true_or, or_true, Nat.add_zero, Nat.reduceAdd, Nat.reduceMul, Nat.reduceEqDiff, Nat.reduceLeDiff, Nat.reduceLT, Nat.reduceSub]
      exact k f
    | succ m ih =>
      intro i z f hi hf hz h4 hp k
      have hz' := hz
      obtain ⟨v0, v1, v2, v3, v4, v5, v6, v7, v8⟩ := hz
      obtain ⟨w1, w2, w3, w4, w5, w6⟩ := v8 p hp
      refine k_X8_diesBy_2 ?_
      try simp (disch := omega) only [lt0, lt1, lt2, lt3, lt4, lt5, lt6, lt7, lt8, lt9, lt10, lt11, lt12, lt13, lt14, lt15, lt16, lt17, lt18, lt19, lt20, lt21, lt22, lt23, lt24, lt25, lt26, lt27, lt28, lt29, lt30, lt31, lt32, lt33, lt34, lt35, lt36, lt37, lt38, lt39, lt40, lt41, lt42, lt43, lt44, lt45, lt46, lt47, lt48, lt49, lt50, lt51, lt52, lt53, lt54, lt55, lt56, lt57, lt58, lt59, lt60, lt61, lt62, lt63, lt64, lt97, lt98, lt99, lt100, lt107, lt110, lt114, lt115, lt116, lt119, lt122, lt208, lt255, lt999, lt1000, nI_add, pk_mul, nI_clamp, vp_t, nI_leI, nI_ltI, nI_eq, true_and, and_true, true_implies, false_implies, not_true_eq_false, not_false_eq_true, eq_self, implies_true, true_or, or_true, Nat.add_zero, Nat.reduceAdd, Nat.reduceMul, Nat.reduceEqDiff, Nat.reduceLeDiff, Nat.reduceLT, Nat.reduceSub]
      refine br_f (by omega) (s_lives (Or.inr rfl) (show LM ((upc μ 285 f) 285) _ from hf) (by omega) (by omega) (fun c => ?_) (fun c => ?_))
      · refine nr_t rfl ?_
        have := k f
        rw [show dy (m + 1) i z p = i by show (if z (21 + 6 * p) = 0 then _ else _) = _; rw [if_neg c]] at this
        unfold orN at this
        rw [if_neg (by omega)] at this
        exact this
      · refine nr_f (by decide) (s_day (Or.inr rfl) (show LM ((upc μ 285 f) 285) _ from hf) hz' (by decide) (fun x hx => ?_))
        try simp (disch := omega) only [lt0, lt1, lt2, lt3, lt4, lt5, lt6, lt7, lt8, lt9, lt10, lt11, lt12, lt13, lt14, lt15, lt16, lt17, lt18, lt19, lt20, lt21, lt22, lt23, lt24, lt25, lt26, lt27, lt28, lt29, lt30, lt31, lt32, lt33, lt34, lt35, lt36, lt37, lt38, lt39, lt40, lt41, lt42, lt43, lt44, lt45, lt46, lt47, lt48, lt49, lt50, lt51, lt52, lt53, lt54, lt55, lt56, lt57, lt58, lt59, lt60, lt61, lt62, lt63, lt64, lt97, lt98, lt99, lt100, lt107, lt110, lt114, lt115, lt116, lt119, lt122, lt208, lt255, lt999, lt1000, nI_add, pk_mul, nI_clamp, vp_t, nI_leI, nI_ltI, nI_eq, true_and, and_true, true_implies, false_implies, not_true_eq_false, not_false_eq_true, eq_self, implies_true, true_or, or_true, Nat.add_zero, Nat.reduceAdd, Nat.reduceMul, Nat.reduceEqDiff, Nat.reduceLeDiff, Nat.reduceLT, Nat.reduceSub]
        rw [upc_upc]
        refine ih (i + 1) (dz 0 z) x (by omega) hx (VL_dz hz' (by omega)) (by rw [dz_4]; omega) (by rw [dz_hd (by decide) (by decide)]; exact hp) (fun f => ?_)
        have := k f
        rw [show dy (m + 1) i z p = dy m (i + 1) (dz 0 z) p by show (if z (21 + 6 * p) = 0 then _ else _) = _; rw [if_pos c]] at this
        exact this
  have h9 := key 61 0 z (μ 285) (by omega) h hz h4 hp k
  rw [upc_id] at h9
  exact e_X8_diesBy h9
