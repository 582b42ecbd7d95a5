/-! ===== the reference: a DAY of a row ===== -/
/-- a LAND (or what comes of it) as numbers -/
def VL (z : Nat → Nat) : Prop := z 0 ≤ 16 ∧ z 1 ≤ 9 ∧ z 2 ≤ 5 ∧ z 3 ≤ 7 ∧ z 4 ≤ 2000 ∧ z 5 < 32 ∧ ((z 0 = 0 ∧ z 2 = 0 ∧ z 3 = 0) ∨ (2 ≤ z 0 ∧ 1 ≤ z 2 ∧ 1 ≤ z 3)) ∧
  (∀ t, t < z 2 → z (6 + 2 * t) < z 0 ∧ z (7 + 2 * t) ≤ 15) ∧
  (∀ q, q < z 3 → (1 ≤ z (16 + 6 * q) ∧ z (16 + 6 * q) ≤ 5) ∧ z (17 + 6 * q) < z 2 ∧ z (18 + 6 * q) < z 0 ∧ z (19 + 6 * q) ≤ 9 ∧ z (20 + 6 * q) ≤ 60 ∧ z (21 + 6 * q) ≤ z 4)
theorem s_of {d : Nat} {μ : Mm} {K : Int32 → Mm → Prop} {r q c : Nat} {z : Nat → Nat} (hr : r = 283 ∨ r = 285) (h : LM (μ r) z) (hq : q < 7) (hc : c < 6) (k : K (nI (z (16 + 6 * q + c))) μ) : cI (cM (d + 1)) 131 [.ref r, .int (nI q), .int (nI c)] μ K := by
  rcases hr with rfl | rfl
  · refine e_X8_of_283 ?_
    try simp (disch := omega) only [lt0, lt1, lt2, lt3, lt4, lt5, lt6, lt7, lt8, lt9, lt10, lt11, lt12, lt13, lt14, lt15, lt16, lt17, lt18, lt19, lt20, lt21, lt22, lt23, lt24, lt25, lt26, lt27, lt28, lt29, lt30, lt31, lt32, lt33, lt34, lt35, lt36, lt37, lt38, lt39, lt40, lt41, lt42, lt43, lt44, lt45, lt46, lt47, lt48, lt49, lt50, lt51, lt52, lt53, lt54, lt55, lt56, lt57, lt58, lt59, lt60, lt61, lt62, lt63, lt64, lt97, lt98, lt99, lt100, lt107, lt110, lt114, lt115, lt116, lt119, lt122, lt208, lt255, lt999, lt1000, nI_add, pk_mul, nI_clamp, vp_t, nI_leI, nI_ltI, nI_eq, true_and, and_true, true_implies, false_implies, not_true_eq_false, not_false_eq_true, eq_self, implies_true, true_or, or_true, Nat.add_zero, Nat.reduceAdd, Nat.reduceMul, Nat.reduceEqDiff, Nat.reduceLeDiff, Nat.reduceLT, Nat.reduceSub, h _]
    exact k
  · refine e_X8_of_285 ?_
    try simp (disch := omega) only [lt0, lt1, lt2, lt3, lt4, lt5, lt6, lt7, lt8, lt9, lt10, lt11, lt12, lt13, lt14, lt15, lt16, lt17, lt18, lt19, lt20, lt21, lt22, lt23, lt24, lt25, lt26, lt27, lt28, lt29, lt30, lt31, lt32, lt33, lt34, lt35, lt36, lt37, lt38, lt39, lt40, lt41, lt42, lt43, lt44, lt45, lt46, lt47, lt48, lt49, lt50, lt51, lt52, lt53, lt54, lt55, lt56, lt57, lt58, lt59, lt60, lt61, lt62, lt63, lt64, lt97, lt98, lt99, lt100, lt107, lt110, lt114, lt115, lt116, lt119, lt122, lt208, lt255, lt999, lt1000, nI_add, pk_mul, nI_clamp, vp_t, nI_leI, nI_ltI, nI_eq, true_and, and_true, true_implies, false_implies, not_true_eq_false, not_false_eq_true, eq_self, implies_true, true_or, or_true, Nat.add_zero, Nat.reduceAdd, Nat.reduceMul, Nat.reduceEqDiff, Nat.reduceLeDiff, Nat.reduceLT, Nat.reduceSub, h _]
    exact k
/-- whether one lives, as the machine says it -/
def lz (z : Nat → Nat) (q : Nat) : Nat := if z (21 + 6 * q) = 0 then 1 else 0
theorem s_lives {d : Nat} {μ : Mm} {K : Int32 → Mm → Prop} {r q : Nat} {z : Nat → Nat} (hr : r = 283 ∨ r = 285) (h : LM (μ r) z) (hz : z (21 + 6 * q) < 5000) (hq : q < 7) (k0 : ¬ z (21 + 6 * q) = 0 → K 0 μ) (k1 : z (21 + 6 * q) = 0 → K 1 μ) : cI (cM (d + 2)) 132 [.ref r, .int (nI q)] μ K := by
  have key : ∀ x : Int32, x = nI (z (21 + 6 * q)) → (¬ x = 0 → (((0 : Int32) = 0 ∨ (0 : Int32) = 1) ∧ K 0 μ)) ∧ (x = 0 → (((1 : Int32) = 0 ∨ (1 : Int32) = 1) ∧ K 1 μ)) := by
    intro x hx
    subst hx
    refine nr_c (fun n => ⟨Or.inl rfl, k0 (fun e => n (by rw [e]; rfl))⟩) (fun n => ⟨Or.inr rfl, k1 ?_⟩)
    exact (nI_eq (by omega) (by omega)).mp (show nI (z (21 + 6 * q)) = nI 0 from n)
  rcases hr with rfl | rfl
  · refine e_X8_lives_283 (s_of (c := 5) (Or.inl rfl) h hq (by decide) (key _ ?_))
    rw [show 16 + 6 * q + 5 = 21 + 6 * q by omega]
  · refine e_X8_lives_285 (s_of (c := 5) (Or.inr rfl) h hq (by decide) (key _ ?_))
    rw [show 16 + 6 * q + 5 = 21 + 6 * q by omega]
theorem s_nameAt {d : Nat} {μ : Mm} {K : Int32 → Mm → Prop} {r q : Nat} {z : Nat → Nat} (hr : r = 283 ∨ r = 285) (h : LM (μ r) z) (hq : q < 7) (hn : z (17 + 6 * q) < 5) (k : K (nI (z (6 + 2 * z (17 + 6 * q)))) μ) : cI (cM (d + 2)) 133 [.ref r, .int (nI q)] μ K := by
  rcases hr with rfl | rfl
  · refine e_X8_nameAt_283 (s_of (c := 1) (Or.inl rfl) h hq (by decide) ?_)
    rw [show 16 + 6 * q + 1 = 17 + 6 * q by omega]
    try simp (disch := omega) only [lt0, lt1, lt2, lt3, lt4, lt5, lt6, lt7, lt8, lt9, lt10, lt11, lt12, lt13, lt14, lt15, lt16, lt17, lt18, lt19, lt20, lt21, lt22, lt23, lt24, lt25, lt26, lt27, lt28, lt29, lt30, lt31, lt32, lt33, lt34, lt35, lt36, lt37, lt38, lt39, lt40, lt41, lt42, lt43, lt44, lt45, lt46, lt47, lt48, lt49, lt50, lt51, lt52, lt53, lt54, lt55, lt56, lt57, lt58, lt59, lt60, lt61, lt62, lt63, lt64, lt97, lt98, lt99, lt100, lt107, lt110, lt114, lt115, lt116, lt119, lt122, lt208, lt255, lt999, lt1000, nI_add, pk_mul, nI_clamp, vp_t, nI_leI, nI_ltI, nI_eq, true_and, and_true, true_implies, false_implies, not_true_eq_false, not_false_eq_true, eq_self, implies_true, true_or, or_true, Nat.add_zero, Nat.reduceAdd, Nat.reduceMul, Nat.reduceEqDiff, Nat.reduceLeDiff, Nat.reduceLT, Nat.reduceSub, h _]
    exact k
  · refine e_X8_nameAt_285 (s_of (c := 1) (Or.inr rfl) h hq (by decide) ?_)
    rw [show 16 + 6 * q + 1 = 17 + 6 * q by omega]
    try simp (disch := omega) only [lt0, lt1, lt2, lt3, lt4, lt5, lt6, lt7, lt8, lt9, lt10, lt11, lt12, lt13, lt14, lt15, lt16, lt17, lt18, lt19, lt20, lt21, lt22, lt23, lt24, lt25, lt26, lt27, lt28, lt29, lt30, lt31, lt32, lt33, lt34, lt35, lt36, lt37, lt38, lt39, lt40, lt41, lt42, lt43, lt44, lt45, lt46, lt47, lt48, lt49, lt50, lt51, lt52, lt53, lt54, lt55, lt56, lt57, lt58, lt59, lt60, lt61, lt62, lt63, lt64, lt97, lt98, lt99, lt100, lt107, lt110, lt114, lt115, lt116, lt119, lt122, lt208, lt255, lt999, lt1000, nI_add, pk_mul, nI_clamp, vp_t, nI_leI, nI_ltI, nI_eq, true_and, and_true, true_implies, false_implies, not_true_eq_false, not_false_eq_true, eq_self, implies_true, true_or, or_true, Nat.add_zero, Nat.reduceAdd, Nat.reduceMul, Nat.reduceEqDiff, Nat.reduceLeDiff, Nat.reduceLT, Nat.reduceSub, h _]
    exact k
