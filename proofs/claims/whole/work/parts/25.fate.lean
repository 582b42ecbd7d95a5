/-! ===== the class: one PERSON and his THING ===== -/
def FM (g : Nat → Int32) (φ : Nat → Nat) : Prop := ∀ j, j < 10 → g j = nI (φ j)
theorem FM.up {f : Nat → Int32} {z : Nat → Nat} (h : FM f z) {i : Nat} {v : Int32} {n : Nat} (hv : v = nI n) : FM (upd f i v) (un z i n) := by
  intro j hj
  unfold upd un
  by_cases e : j = i
  · rw [if_pos e, if_pos e, hv]
  · rw [if_neg e, if_neg e, h j hj]
theorem FM.cg {f : Nat → Int32} {z y : Nat → Nat} (h : FM f z) (e : ∀ i, i < 10 → z i = y i) : FM f y := fun i hi => by rw [h i hi, e i hi]
/-- the numbers of a PERSON who can go on -/
def VF (φ : Nat → Nat) : Prop := (2 ≤ φ 0 ∧ φ 0 ≤ 16) ∧ φ 1 ≤ 9 ∧ φ 2 ≤ 2000 ∧ φ 3 < φ 0 ∧ φ 4 ≤ 15 ∧ (1 ≤ φ 5 ∧ φ 5 ≤ 5) ∧ φ 6 < φ 0 ∧ φ 7 ≤ 9 ∧ φ 8 ≤ 60 ∧ φ 9 ≤ 1
theorem s_wrap {d : Nat} {μ : Mm} {K : Int32 → Mm → Prop} {a n : Nat} (ha : a < 5000) (h1 : 1 ≤ n) (hn : n < 5000) (k : K (nI (a % n)) μ) : cI (cM (d + 1)) 93 [.int (nI a), .int (nI n)] μ K := by
  refine e_X7_wrap ?_
  try simp (disch := omega) only [lt0, lt1, lt2, lt3, lt4, lt5, lt6, lt7, lt8, lt9, lt10, lt11, lt12, lt13, lt14, lt15, lt16, lt17, lt18, lt19, lt20, lt21, lt22, lt23, lt24, lt25, lt26, lt27, lt28, lt29, lt30, lt31, lt32, lt33, lt34, lt35, lt36, lt37, lt38, lt39, lt40, lt41, lt42, lt43, lt44, lt45, lt46, lt47, lt48, lt49, lt50, lt51, lt52, lt53, lt54, lt55, lt56, lt57, lt58, lt59, lt60, lt61, lt62, lt63, lt64, lt97, lt98, lt99, lt100, lt107, lt110, lt114, lt115, lt116, lt119, lt122, lt208, lt255, lt999, lt1000, nI_add, pk_mul, nI_clamp, vp_t, nI_leI, nI_ltI, nI_eq, true_and, and_true, true_implies, false_implies, not_true_eq_false, not_false_eq_true, eq_self, implies_true, true_or, or_true, Nat.add_zero, Nat.reduceAdd, Nat.reduceMul, Nat.reduceEqDiff, Nat.reduceLeDiff, Nat.reduceLT, Nat.reduceSub, rem_n]
  exact br_t h1 ⟨by omega, k⟩
/-- where he goes; φ 3 is where his THING is by then -/
def gF (φ : Nat → Nat) : Nat :=
  if φ 5 = 1 then (φ 6 + φ 7) % φ 0
  else if φ 5 = 2 then (if (φ 6 + φ 7) % φ 0 = φ 3 then φ 6 else (φ 6 + φ 7) % φ 0)
  else if φ 5 = 3 then (φ 6 + 2 * φ 7) % φ 0
  else if φ 5 = 4 then (if (φ 3 + 1) % φ 0 = φ 6 then (φ 6 + 1) % φ 0 else φ 6)
  else (if (φ 3 + 1) % φ 0 = φ 6 then (φ 6 + φ 1) % φ 0 else φ 6)
theorem gF_lt {φ : Nat → Nat} (hn : 0 < φ 0) (ha : φ 6 < φ 0) : gF φ < φ 0 := by
  unfold gF
  have h1 := fun x => Nat.mod_lt x hn
  split
  · exact h1 _
  · split
    · split
      · exact ha
      · exact h1 _
    · split
      · exact h1 _
      · split
        · split
          · exact h1 _
          · exact ha
        · split
          · exact h1 _
          · exact ha
set_option maxHeartbeats 1000000 in
theorem s_goal {d : Nat} {μ : Mm} {K : Int32 → Mm → Prop} {f : Nat} {φ : Nat → Nat} (hf : f = 271 ∨ f = 272 ∨ f = 274) (h : FM (μ f) φ) (hv : VF φ) (k : K (nI (gF φ)) μ) : cI (cM (d + 2)) 15 [.ref f] μ K := by
  obtain ⟨⟨v0, v0'⟩, v1, v2, v3, v4, ⟨v5, v5'⟩, v6, v7, v8, v9⟩ := hv
  have hb : ∀ x, x % φ 0 < 16 := fun x => Nat.lt_of_lt_of_le (Nat.mod_lt x (by omega)) v0'
  have b1 := hb (φ 6 + φ 7)
  have b2 := hb (φ 3 + 1)
  unfold gF at k
  rcases hf with rfl | rfl | rfl
  · refine e_X2_goal_271 ?_
    try simp (disch := omega) only [lt0, lt1, lt2, lt3, lt4, lt5, lt6, lt7, lt8, lt9, lt10, lt11, lt12, lt13, lt14, lt15, lt16, lt17, lt18, lt19, lt20, lt21, lt22, lt23, lt24, lt25, lt26, lt27, lt28, lt29, lt30, lt31, lt32, lt33, lt34, lt35, lt36, lt37, lt38, lt39, lt40, lt41, lt42, lt43, lt44, lt45, lt46, lt47, lt48, lt49, lt50, lt51, lt52, lt53, lt54, lt55, lt56, lt57, lt58, lt59, lt60, lt61, lt62, lt63, lt64, lt97, lt98, lt99, lt100, lt107, lt110, lt114, lt115, lt116, lt119, lt122, lt208, lt255, lt999, lt1000, nI_add, pk_mul, nI_clamp, vp_t, nI_leI, nI_ltI, nI_eq, true_and, and_true, true_implies, false_implies, not_true_eq_false, not_false_eq_true, eq_self, implies_true, true_or, or_true, Nat.add_zero, Nat.reduceAdd, Nat.reduceMul, Nat.reduceEqDiff, Nat.reduceLeDiff, Nat.reduceLT, Nat.reduceSub, h _]
    refine s_wrap (by omega) (by omega) (by omega) ?_
    try simp (disch := omega) only [lt0, lt1, lt2, lt3, lt4, lt5, lt6, lt7, lt8, lt9, lt10, lt11, lt12, lt13, lt14, lt15, lt16, lt17, lt18, lt19, lt20, lt21, lt22, lt23, lt24, lt25, lt26, lt27, lt28, lt29, lt30, lt31, lt32, lt33, lt34, lt35, lt36, lt37, lt38, lt39, lt40, lt41, lt42, lt43, lt44, lt45, lt46, lt47, lt48, lt49, lt50, lt51, lt52, lt53, lt54, lt55, lt56, lt57, lt58, lt59, lt60, lt61, lt62, lt63, lt64, lt97, lt98, lt99, lt100, lt107, lt110, lt114, lt115, lt116, lt119, lt122, lt208, lt255, lt999, lt1000, nI_add, pk_mul, nI_clamp, vp_t, nI_leI, nI_ltI, nI_eq, true_and, and_true, true_implies, false_implies, not_true_eq_false, not_false_eq_true, eq_self, implies_true, true_or, or_true, Nat.add_zero, Nat.reduceAdd, Nat.reduceMul, Nat.reduceEqDiff, Nat.reduceLeDiff, Nat.reduceLT, Nat.reduceSub, h _]
    refine s_wrap (by omega) (by omega) (by omega) ?_
    try simp (disch := omega) only [lt0, lt1, lt2, lt3, lt4, lt5, lt6, lt7, lt8, lt9, lt10, lt11, lt12, lt13, lt14, lt15, lt16, lt17, lt18, lt19, lt20, lt21, lt22, lt23, lt24, lt25, lt26, lt27, lt28, lt29, lt30, lt31, lt32, lt33, lt34, lt35, lt36, lt37, lt38, lt39, lt40, lt41, lt42, lt43, lt44, lt45, lt46, lt47, lt48, lt49, lt50, lt51, lt52, lt53, lt54, lt55, lt56, lt57, lt58, lt59, lt60, lt61, lt62, lt63, lt64, lt97, lt98, lt99, lt100, lt107, lt110, lt114, lt115, lt116, lt119, lt122, lt208, lt255, lt999, lt1000, nI_add, pk_mul, nI_clamp, vp_t, nI_leI, nI_ltI, nI_eq, true_and, and_true, true_implies, false_implies, not_true_eq_false, not_false_eq_true, eq_self, implies_true, true_or, or_true, Nat.add_zero, Nat.reduceAdd, Nat.reduceMul, Nat.reduceEqDiff, Nat.reduceLeDiff, Nat.reduceLT, Nat.reduceSub, h _]
    refine nr_c (fun c1 => ?_) (fun c1 => ?_)
    · rw [if_neg c1, if_neg c1] at k
      refine br_c (fun c2 => ?_) (fun c2 => br_c (fun c3 => ?_) (fun c3 => br_c (fun c4 => ?_) (fun c4 => br_c (fun c5 => ?_) (fun c5 => br_c (fun c6 => ?_) (fun c6 => absurd v5 (by omega))))))
      · rw [if_pos c2] at k
        exact k
      · rw [if_neg c2, if_pos c3] at k
        refine nr_c (fun c7 => ?_) (fun c7 => ?_)
        · rw [if_neg c7] at k
          exact k
        · rw [if_pos c7] at k
          exact k
      · rw [if_neg c2, if_neg c3, if_pos c4] at k
        exact s_wrap (by omega) (by omega) (by omega) k
      · rw [if_neg c2, if_neg c3, if_neg c4, if_pos c5] at k
        exact k
      · rw [if_neg c2, if_neg c3, if_neg c4, if_neg c5] at k
        exact k
    · rw [if_pos c1, if_pos c1] at k
      refine br_c (fun c2 => ?_) (fun c2 => br_c (fun c3 => ?_) (fun c3 => br_c (fun c4 => ?_) (fun c4 => br_c (fun c5 => ?_) (fun c5 => br_c (fun c6 => ?_) (fun c6 => absurd v5 (by omega))))))
      · rw [if_pos c2] at k
        exact k
      · rw [if_neg c2, if_pos c3] at k
        refine nr_c (fun c7 => ?_) (fun c7 => ?_)
        · rw [if_neg c7] at k
          exact k
        · rw [if_pos c7] at k
          exact k
      · rw [if_neg c2, if_neg c3, if_pos c4] at k
        exact s_wrap (by omega) (by omega) (by omega) k
      · rw [if_neg c2, if_neg c3, if_neg c4, if_pos c5] at k
        exact s_wrap (by omega) (by omega) (by omega) k
      · rw [if_neg c2, if_neg c3, if_neg c4, if_neg c5] at k
        exact s_wrap (by omega) (by omega) (by omega) k
  · refine e_X2_goal_272 ?_
    try simp (disch := omega) only [lt0, lt1, lt2, lt3, lt4, lt5, lt6, lt7, lt8, lt9, lt10, lt11, lt12, lt13, lt14, lt15, lt16, lt17, lt18, lt19, lt20, lt21, lt22, lt23, lt24, lt25, lt26, lt27, lt28, lt29, lt30, lt31, lt32, lt33, lt34, lt35, lt36, lt37, lt38, lt39, lt40, lt41, lt42, lt43, lt44, lt45, lt46, lt47, lt48, lt49, lt50, lt51, lt52, lt53, lt54, lt55, lt56, lt57, lt58, lt59, lt60, lt61, lt62, lt63, lt64, lt97, lt98, lt99, lt100, lt107, lt110, lt114, lt115, lt116, lt119, lt122, lt208, lt255, lt999, lt1000, nI_add, pk_mul, nI_clamp, vp_t, nI_leI, nI_ltI, nI_eq, true_and, and_true, true_implies, false_implies, not_true_eq_false, not_false_eq_true, eq_self, implies_true, true_or, or_true, Nat.add_zero, Nat.reduceAdd, Nat.reduceMul, Nat.reduceEqDiff, Nat.reduceLeDiff, Nat.reduceLT, Nat.reduceSub, h _]
    refine s_wrap (by omega) (by omega) (by omega) ?_
    try simp (disch := omega) only [lt0, lt1, lt2, lt3, lt4, lt5, lt6, lt7, lt8, lt9, lt10, lt11, lt12, lt13, lt14, lt15, lt16, lt17, lt18, lt19, lt20, lt21, lt22, lt23, lt24, lt25, lt26, lt27, lt28, lt29, lt30, lt31, lt32, lt33, lt34, lt35, lt36, lt37, lt38, lt39, lt40, lt41, lt42, lt43, lt44, lt45, lt46, lt47, lt48, lt49, lt50, lt51, lt52, lt53, lt54, lt55, lt56, lt57, lt58, lt59, lt60, lt61, lt62, lt63, lt64, lt97, lt98, lt99, lt100, lt107, lt110, lt114, lt115, lt116, lt119, lt122, lt208, lt255, lt999, lt1000, nI_add, pk_mul, nI_clamp, vp_t, nI_leI, nI_ltI, nI_eq, true_and, and_true, true_implies, false_implies, not_true_eq_false, not_false_eq_true, eq_self, implies_true, true_or, or_true, Nat.add_zero, Nat.reduceAdd, Nat.reduceMul, Nat.reduceEqDiff, Nat.reduceLeDiff, Nat.reduceLT, Nat.reduceSub, h _]
    refine s_wrap (by omega) (by omega) (by omega) ?_
    try simp (disch := omega) only [lt0, lt1, lt2, lt3, lt4, lt5, lt6, lt7, lt8, lt9, lt10, lt11, lt12, lt13, lt14, lt15, lt16, lt17, lt18, lt19, lt20, lt21, lt22, lt23, lt24, lt25, lt26, lt27, lt28, lt29, lt30, lt31, lt32, lt33, lt34, lt35, lt36, lt37, lt38, lt39, lt40, lt41, lt42, lt43, lt44, lt45, lt46, lt47, lt48, lt49, lt50, lt51, lt52, lt53, lt54, lt55, lt56, lt57, lt58, lt59, lt60, lt61, lt62, lt63, lt64, lt97, lt98, lt99, lt100, lt107, lt110, lt114, lt115, lt116, lt119, lt122, lt208, lt255, lt999, lt1000, nI_add, pk_mul, nI_clamp, vp_t, nI_leI, nI_ltI, nI_eq, true_and, and_true, true_implies, false_implies, not_true_eq_false, not_false_eq_true, eq_self, implies_true, true_or, or_true, Nat.add_zero, Nat.reduceAdd, Nat.reduceMul, Nat.reduceEqDiff, Nat.reduceLeDiff, Nat.reduceLT, Nat.reduceSub, h _]
    refine nr_c (fun c1 => ?_) (fun c1 => ?_)
    · rw [if_neg c1, if_neg c1] at k
      refine br_c (fun c2 => ?_) (fun c2 => br_c (fun c3 => ?_) (fun c3 => br_c (fun c4 => ?_) (fun c4 => br_c (fun c5 => ?_) (fun c5 => br_c (fun c6 => ?_) (fun c6 => absurd v5 (by omega))))))
      · rw [if_pos c2] at k
        exact k
      · rw [if_neg c2, if_pos c3] at k
        refine nr_c (fun c7 => ?_) (fun c7 => ?_)
        · rw [if_neg c7] at k
          exact k
        · rw [if_pos c7] at k
          exact k
      · rw [if_neg c2, if_neg c3, if_pos c4] at k
        exact s_wrap (by omega) (by omega) (by omega) k
      · rw [if_neg c2, if_neg c3, if_neg c4, if_pos c5] at k
        exact k
      · rw [if_neg c2, if_neg c3, if_neg c4, if_neg c5] at k
        exact k
    · rw [if_pos c1, if_pos c1] at k
      refine br_c (fun c2 => ?_) (fun c2 => br_c (fun c3 => ?_) (fun c3 => br_c (fun c4 => ?_) (fun c4 => br_c (fun c5 => ?_) (fun c5 => br_c (fun c6 => ?_) (fun c6 => absurd v5 (by omega))))))
      · rw [if_pos c2] at k
        exact k
      · rw [if_neg c2, if_pos c3] at k
        refine nr_c (fun c7 => ?_) (fun c7 => ?_)
        · rw [if_neg c7] at k
          exact k
        · rw [if_pos c7] at k
          exact k
      · rw [if_neg c2, if_neg c3, if_pos c4] at k
        exact s_wrap (by omega) (by omega) (by omega) k
      · rw [if_neg c2, if_neg c3, if_neg c4, if_pos c5] at k
        exact s_wrap (by omega) (by omega) (by omega) k
      · rw [if_neg c2, if_neg c3, if_neg c4, if_neg c5] at k
        exact s_wrap (by omega) (by omega) (by omega) k
  · refine e_X2_goal_274 ?_
    try simp (disch := omega) only [lt0, lt1, lt2, lt3, lt4, lt5, lt6, lt7, lt8, lt9, lt10, lt11, lt12, lt13, lt14, lt15, lt16, lt17, lt18, lt19, lt20, lt21, lt22, lt23, lt24, lt25, lt26, lt27, lt28, lt29, lt30, lt31, lt32, lt33, lt34, lt35, lt36, lt37, lt38, lt39, lt40, lt41, lt42, lt43, lt44, lt45, lt46, lt47, lt48, lt49, lt50, lt51, lt52, lt53, lt54, lt55, lt56, lt57, lt58, lt59, lt60, lt61, lt62, lt63, lt64, lt97, lt98, lt99, lt100, lt107, lt110, lt114, lt115, lt116, lt119, lt122, lt208, lt255, lt999, lt1000, nI_add, pk_mul, nI_clamp, vp_t, nI_leI, nI_ltI, nI_eq, true_and, and_true, true_implies, false_implies, not_true_eq_false, not_false_eq_true, eq_self, implies_true, true_or, or_true, Nat.add_zero, Nat.reduceAdd, Nat.reduceMul, Nat.reduceEqDiff, Nat.reduceLeDiff, Nat.reduceLT, Nat.reduceSub, h _]
    refine s_wrap (by omega) (by omega) (by omega) ?_
    try simp (disch := omega) only [lt0, lt1, lt2, lt3, lt4, lt5, lt6, lt7, lt8, lt9, lt10, lt11, lt12, lt13, lt14, lt15, lt16, lt17, lt18, lt19, lt20, lt21, lt22, lt23, lt24, lt25, lt26, lt27, lt28, lt29, lt30, lt31, lt32, lt33, lt34, lt35, lt36, lt37, lt38, lt39, lt40, lt41, lt42, lt43, lt44, lt45, lt46, lt47, lt48, lt49, lt50, lt51, lt52, lt53, lt54, lt55, lt56, lt57, lt58, lt59, lt60, lt61, lt62, lt63, lt64, lt97, lt98, lt99, lt100, lt107, lt110, lt114, lt115, lt116, lt119, lt122, lt208, lt255, lt999, lt1000, nI_add, pk_mul, nI_clamp, vp_t, nI_leI, nI_ltI, nI_eq, true_and, and_true, true_implies, false_implies, not_true_eq_false, not_false_eq_true, eq_self, implies_true, true_or, or_true, Nat.add_zero, Nat.reduceAdd, Nat.reduceMul, Nat.reduceEqDiff, Nat.reduceLeDiff, Nat.reduceLT, Nat.reduceSub, h _]
    refine s_wrap (by omega) (by omega) (by omega) ?_
    try simp (disch := omega) only [lt0, lt1, lt2, lt3, lt4, lt5, lt6, lt7, lt8, lt9, lt10, lt11, lt12, lt13, lt14, lt15, lt16, lt17, lt18, lt19, lt20, lt21, lt22, lt23, lt24, lt25, lt26, lt27, lt28, lt29, lt30, lt31, lt32, lt33, lt34, lt35, lt36, lt37, lt38, lt39, lt40, lt41, lt42, lt43, lt44, lt45, lt46, lt47, lt48, lt49, lt50, lt51, lt52, lt53, lt54, lt55, lt56, lt57, lt58, lt59, lt60, lt61, lt62, lt63, lt64, lt97, lt98, lt99, lt100, lt107, lt110, lt114, lt115, lt116, lt119, lt122, lt208, lt255, lt999, lt1000, nI_add, pk_mul, nI_clamp, vp_t, nI_leI, nI_ltI, nI_eq, true_and, and_true, true_implies, false_implies, not_true_eq_false, not_false_eq_true, eq_self, implies_true, true_or, or_true, Nat.add_zero, Nat.reduceAdd, Nat.reduceMul, Nat.reduceEqDiff, Nat.reduceLeDiff, Nat.reduceLT, Nat.reduceSub, h _]
    refine nr_c (fun c1 => ?_) (fun c1 => ?_)
    · rw [if_neg c1, if_neg c1] at k
      refine br_c (fun c2 => ?_) (fun c2 => br_c (fun c3 => ?_) (fun c3 => br_c (fun c4 => ?_) (fun c4 => br_c (fun c5 => ?_) (fun c5 => br_c (fun c6 => ?_) (fun c6 => absurd v5 (by omega))))))
      · rw [if_pos c2] at k
        exact k
      · rw [if_neg c2, if_pos c3] at k
        refine nr_c (fun c7 => ?_) (fun c7 => ?_)
        · rw [if_neg c7] at k
          exact k
        · rw [if_pos c7] at k
          exact k
      · rw [if_neg c2, if_neg c3, if_pos c4] at k
        exact s_wrap (by omega) (by omega) (by omega) k
      · rw [if_neg c2, if_neg c3, if_neg c4, if_pos c5] at k
        exact k
      · rw [if_neg c2, if_neg c3, if_neg c4, if_neg c5] at k
        exact k
    · rw [if_pos c1, if_pos c1] at k
      refine br_c (fun c2 => ?_) (fun c2 => br_c (fun c3 => ?_) (fun c3 => br_c (fun c4 => ?_) (fun c4 => br_c (fun c5 => ?_) (fun c5 => br_c (fun c6 => ?_) (fun c6 => absurd v5 (by omega))))))
      · rw [if_pos c2] at k
        exact k
      · rw [if_neg c2, if_pos c3] at k
        refine nr_c (fun c7 => ?_) (fun c7 => ?_)
        · rw [if_neg c7] at k
          exact k
        · rw [if_pos c7] at k
          exact k
      · rw [if_neg c2, if_neg c3, if_pos c4] at k
        exact s_wrap (by omega) (by omega) (by omega) k
      · rw [if_neg c2, if_neg c3, if_neg c4, if_pos c5] at k
        exact s_wrap (by omega) (by omega) (by omega) k
      · rw [if_neg c2, if_neg c3, if_neg c4, if_neg c5] at k
        exact s_wrap (by omega) (by omega) (by omega) k
/-- behind a DAY: his THING, his PLACE, whether he lives -/
def tF (φ : Nat → Nat) : Nat := (φ 3 + φ 4) % φ 0
def pF (φ : Nat → Nat) : Nat := if ¬ φ 9 = 0 ∧ φ 8 = 0 then gF (un φ 3 (tF φ)) else φ 6
def lF (φ : Nat → Nat) : Nat := if ¬ φ 9 = 0 ∧ pF φ = tF φ ∧ (φ 5 = 5 → φ 1 ≤ φ 2) then 0 else φ 9
def dayF (φ : Nat → Nat) : Nat → Nat := un (un (un (un (un φ 3 (tF φ)) 6 (pF φ)) 9 (lF φ)) 2 (φ 2 + 1)) 8 (φ 8 - 1)
set_option maxHeartbeats 2000000 in
theorem s_passDay {d : Nat} {μ : Mm} {K : Mm → Prop} {f : Nat} {φ : Nat → Nat} {g : Nat → Int32} (hf : f = 271 ∨ f = 272 ∨ f = 274) (h : FM g φ) (hv : VF φ) (k : ∀ x, FM x (dayF φ) → K (upc μ f x)) : cV (cM (d + 3)) 14 [.ref f] (upc μ f g) K := by
  have hv0 := hv
  obtain ⟨⟨v0, v0'⟩, v1, v2, v3, v4, ⟨v5, v5'⟩, v6, v7, v8, v9⟩ := hv
  have ht : tF φ < φ 0 := Nat.mod_lt _ (by omega)
  have hv3 : VF (un φ 3 (tF φ)) := ⟨⟨v0, v0'⟩, v1, v2, ht, v4, ⟨v5, v5'⟩, v6, v7, v8, v9⟩
  have hgl : gF (un φ 3 (tF φ)) < φ 0 := gF_lt (φ := un φ 3 (tF φ)) (show 0 < φ 0 by omega) v6
  have fin : ∀ x, FM x (un (un (un φ 3 (tF φ)) 6 (pF φ)) 9 (lF φ)) → jX2_passDay (d + 2) K 84 [some (.ref f)] [] (upc μ f x) := by
    intro x hx
    have x2 : x 2 = nI (φ 2) := hx 2 (by decide)
    have x8 : x 8 = nI (φ 8) := hx 8 (by decide)
    have e8 : (if nI (φ 8) - nI 1 < nI 0 then nI 0 else nI (φ 8) - nI 1) = nI (φ 8 - 1) := by
      by_cases c : φ 8 = 0
      · rw [c]
        rfl
      · rw [sub_n (by omega), if_neg]
        rw [nI_ltI (by omega) (by omega)]
        omega
    have hm : FM (upd (upd x 2 (nI (φ 2 + 1))) 8 (nI (φ 8 - 1))) (dayF φ) := (hx.up rfl).up rfl
    rcases hf with rfl | rfl | rfl
    · refine k_X2_passDay_271_84 ?_
      try simp (disch := omega) only [lt0, lt1, lt2, lt3, lt4, lt5, lt6, lt7, lt8, lt9, lt10, lt11, lt12, lt13, lt14, lt15, lt16, lt17, lt18, lt19, lt20, lt21, lt22, lt23, lt24, lt25, lt26, lt27, lt28, lt29, lt30, lt31, lt32, lt33, lt34, lt35, lt36, lt37, lt38, lt39, lt40, lt41, lt42, lt43, lt44, lt45, lt46, lt47, lt48, lt49, lt50, lt51, lt52, lt53, lt54, lt55, lt56, lt57, lt58, lt59, lt60, lt61, lt62, lt63, lt64, lt97, lt98, lt99, lt100, lt107, lt110, lt114, lt115, lt116, lt119, lt122, lt208, lt255, lt999, lt1000, nI_add, pk_mul, nI_clamp, vp_t, nI_leI, nI_ltI, nI_eq, true_and, and_true, true_implies, false_implies, not_true_eq_false, not_false_eq_true, eq_self, implies_true, true_or, or_true, Nat.add_zero, Nat.reduceAdd, Nat.reduceMul, Nat.reduceEqDiff, Nat.reduceLeDiff, Nat.reduceLT, Nat.reduceSub, upc_s, up_upc, x2, x8, e8]
      exact k _ hm
    · refine k_X2_passDay_272_84 ?_
      try simp (disch := omega) only [lt0, lt1, lt2, lt3, lt4, lt5, lt6, lt7, lt8, lt9, lt10, lt11, lt12, lt13, lt14, lt15, lt16, lt17, lt18, lt19, lt20, lt21, lt22, lt23, lt24, lt25, lt26, lt27, lt28, lt29, lt30, lt31, lt32, lt33, lt34, lt35, lt36, lt37, lt38, lt39, lt40, lt41, lt42, lt43, lt44, lt45, lt46, lt47, lt48, lt49, lt50, lt51, lt52, lt53, lt54, lt55, lt56, lt57, lt58, lt59, lt60, lt61, lt62, lt63, lt64, lt97, lt98, lt99, lt100, lt107, lt110, lt114, lt115, lt116, lt119, lt122, lt208, lt255, lt999, lt1000, nI_add, pk_mul, nI_clamp, vp_t, nI_leI, nI_ltI, nI_eq, true_and, and_true, true_implies, false_implies, not_true_eq_false, not_false_eq_true, eq_self, implies_true, true_or, or_true, Nat.add_zero, Nat.reduceAdd, Nat.reduceMul, Nat.reduceEqDiff, Nat.reduceLeDiff, Nat.reduceLT, Nat.reduceSub, upc_s, up_upc, x2, x8, e8]
      exact k _ hm
    · refine k_X2_passDay_274_84 ?_
      try simp (disch := omega) only [lt0, lt1, lt2, lt3, lt4, lt5, lt6, lt7, lt8, lt9, lt10, lt11, lt12, lt13, lt14, lt15, lt16, lt17, lt18, lt19, lt20, lt21, lt22, lt23, lt24, lt25, lt26, lt27, lt28, lt29, lt30, lt31, lt32, lt33, lt34, lt35, lt36, lt37, lt38, lt39, lt40, lt41, lt42, lt43, lt44, lt45, lt46, lt47, lt48, lt49, lt50, lt51, lt52, lt53, lt54, lt55, lt56, lt57, lt58, lt59, lt60, lt61, lt62, lt63, lt64, lt97, lt98, lt99, lt100, lt107, lt110, lt114, lt115, lt116, lt119, lt122, lt208, lt255, lt999, lt1000, nI_add, pk_mul, nI_clamp, vp_t, nI_leI, nI_ltI, nI_eq, true_and, and_true, true_implies, false_implies, not_true_eq_false, not_false_eq_true, eq_self, implies_true, true_or, or_true, Nat.add_zero, Nat.reduceAdd, Nat.reduceMul, Nat.reduceEqDiff, Nat.reduceLeDiff, Nat.reduceLT, Nat.reduceSub, upc_s, up_upc, x2, x8, e8]
      exact k _ hm
  -- the look whether he dies, at a PLACE pl
  have look : ∀ x, FM x (un (un φ 3 (tF φ)) 6 (pF φ)) → (φ 9 = 0 → jX2_passDay (d + 2) K 84 [some (.ref f)] [] (upc μ f x)) ∧ (¬ φ 9 = 0 → ((¬ pF φ = tF φ → jX2_passDay (d + 2) K 84 [some (.ref f)] [] (upc μ f x)) ∧ (pF φ = tF φ → ((¬ φ 5 = 5 → jX2_passDay (d + 2) K 84 [some (.ref f)] [] (upc μ f (upd x 9 (nI 0)))) ∧ (φ 5 = 5 → ((φ 2 < φ 1 → jX2_passDay (d + 2) K 84 [some (.ref f)] [] (upc μ f x)) ∧ (¬ φ 2 < φ 1 → jX2_passDay (d + 2) K 84 [some (.ref f)] [] (upc μ f (upd x 9 (nI 0)))))))))) := by
    intro x hx
    have stay : ¬ (¬ φ 9 = 0 ∧ pF φ = tF φ ∧ (φ 5 = 5 → φ 1 ≤ φ 2)) → jX2_passDay (d + 2) K 84 [some (.ref f)] [] (upc μ f x) := by
      intro c
      refine fin x (hx.cg fun i hi => ?_)
      unfold lF
      rw [if_neg c]
      by_cases e : i = 9
      · subst e
        rw [un_s]
        rfl
      · rw [un_n _ _ e]
    have die : (¬ φ 9 = 0 ∧ pF φ = tF φ ∧ (φ 5 = 5 → φ 1 ≤ φ 2)) → jX2_passDay (d + 2) K 84 [some (.ref f)] [] (upc μ f (upd x 9 (nI 0))) := by
      intro c
      refine fin _ (hx.up ?_)
      unfold lF
      rw [if_pos c]
    refine br_c (fun c => stay (fun q => q.1 c)) (fun c => nr_c (fun c2 => stay (fun q => c2 q.2.1)) (fun c2 => nr_c (fun c3 => die ⟨c, c2, fun q => absurd q c3⟩) (fun c3 => br_c (fun c4 => stay (fun q => by have := q.2.2 c3; omega)) (fun c4 => die ⟨c, c2, fun _ => by omega⟩))))
  have hpl : pF φ < φ 0 := by
    unfold pF
    split
    · exact hgl
    · exact v6
  have h3 : FM (upd g 3 (nI (tF φ))) (un φ 3 (tF φ)) := h.up rfl
  have t3 : (φ 3 + φ 4) % φ 0 = tF φ := rfl
  rcases hf with rfl | rfl | rfl
  · refine e_X2_passDay_271 ?_
    try simp (disch := omega) only [lt0, lt1, lt2, lt3, lt4, lt5, lt6, lt7, lt8, lt9, lt10, lt11, lt12, lt13, lt14, lt15, lt16, lt17, lt18, lt19, lt20, lt21, lt22, lt23, lt24, lt25, lt26, lt27, lt28, lt29, lt30, lt31, lt32, lt33, lt34, lt35, lt36, lt37, lt38, lt39, lt40, lt41, lt42, lt43, lt44, lt45, lt46, lt47, lt48, lt49, lt50, lt51, lt52, lt53, lt54, lt55, lt56, lt57, lt58, lt59, lt60, lt61, lt62, lt63, lt64, lt97, lt98, lt99, lt100, lt107, lt110, lt114, lt115, lt116, lt119, lt122, lt208, lt255, lt999, lt1000, nI_add, pk_mul, nI_clamp, vp_t, nI_leI, nI_ltI, nI_eq, true_and, and_true, true_implies, false_implies, not_true_eq_false, not_false_eq_true, eq_self, implies_true, true_or, or_true, Nat.add_zero, Nat.reduceAdd, Nat.reduceMul, Nat.reduceEqDiff, Nat.reduceLeDiff, Nat.reduceLT, Nat.reduceSub, upc_s, h _]
    refine s_wrap (by omega) (by omega) (by omega) ?_
    rw [t3]
    try simp (disch := omega) only [lt0, lt1, lt2, lt3, lt4, lt5, lt6, lt7, lt8, lt9, lt10, lt11, lt12, lt13, lt14, lt15, lt16, lt17, lt18, lt19, lt20, lt21, lt22, lt23, lt24, lt25, lt26, lt27, lt28, lt29, lt30, lt31, lt32, lt33, lt34, lt35, lt36, lt37, lt38, lt39, lt40, lt41, lt42, lt43, lt44, lt45, lt46, lt47, lt48, lt49, lt50, lt51, lt52, lt53, lt54, lt55, lt56, lt57, lt58, lt59, lt60, lt61, lt62, lt63, lt64, lt97, lt98, lt99, lt100, lt107, lt110, lt114, lt115, lt116, lt119, lt122, lt208, lt255, lt999, lt1000, nI_add, pk_mul, nI_clamp, vp_t, nI_leI, nI_ltI, nI_eq, true_and, and_true, true_implies, false_implies, not_true_eq_false, not_false_eq_true, eq_self, implies_true, true_or, or_true, Nat.add_zero, Nat.reduceAdd, Nat.reduceMul, Nat.reduceEqDiff, Nat.reduceLeDiff, Nat.reduceLT, Nat.reduceSub, upc_s, up_upc, h _]
    have lk := look
    refine br_c (fun c9 => ?_) (fun c9 => nr_c (fun c8 => ?_) (fun c8 => ?_))
    · refine br_t c9 ?_
      refine (look _ (h3.cg fun i hi => ?_)).1 c9
      unfold pF
      rw [if_neg (fun q => q.1 c9)]
      by_cases e : i = 6
      · subst e
        rw [un_s]
        rfl
      · rw [un_n _ _ e]
    · have e6 : pF φ = φ 6 := by
        unfold pF
        rw [if_neg (fun q => c8 q.2)]
      have lk := look _ (h3.cg fun i hi => by
        rw [e6]
        by_cases e : i = 6
        · subst e
          rw [un_s]
          rfl
        · rw [un_n _ _ e])
      rw [e6] at lk
      try simp (disch := omega) only [lt0, lt1, lt2, lt3, lt4, lt5, lt6, lt7, lt8, lt9, lt10, lt11, lt12, lt13, lt14, lt15, lt16, lt17, lt18, lt19, lt20, lt21, lt22, lt23, lt24, lt25, lt26, lt27, lt28, lt29, lt30, lt31, lt32, lt33, lt34, lt35, lt36, lt37, lt38, lt39, lt40, lt41, lt42, lt43, lt44, lt45, lt46, lt47, lt48, lt49, lt50, lt51, lt52, lt53, lt54, lt55, lt56, lt57, lt58, lt59, lt60, lt61, lt62, lt63, lt64, lt97, lt98, lt99, lt100, lt107, lt110, lt114, lt115, lt116, lt119, lt122, lt208, lt255, lt999, lt1000, nI_add, pk_mul, nI_clamp, vp_t, nI_leI, nI_ltI, nI_eq, true_and, and_true, true_implies, false_implies, not_true_eq_false, not_false_eq_true, eq_self, implies_true, true_or, or_true, Nat.add_zero, Nat.reduceAdd, Nat.reduceMul, Nat.reduceEqDiff, Nat.reduceLeDiff, Nat.reduceLT, Nat.reduceSub, true_or, or_true]
      exact lk
    · have e6 : pF φ = gF (un φ 3 (tF φ)) := by
        unfold pF
        rw [if_pos ⟨c9, c8⟩]
      refine s_goal (Or.inl rfl) (show FM ((upc μ 271 (upd g 3 (nI (tF φ)))) 271) _ from h3) hv3 ?_
      have lk := look _ (h3.up (i := 6) (v := nI (gF (un φ 3 (tF φ)))) (by rw [e6]))
      rw [e6] at lk
      have y9 : upd g 3 (nI (tF φ)) 9 = nI (φ 9) := h 9 (by decide)
      have y5 : upd g 3 (nI (tF φ)) 5 = nI (φ 5) := h 5 (by decide)
      have y2 : upd g 3 (nI (tF φ)) 2 = nI (φ 2) := h 2 (by decide)
      have y1 : upd g 3 (nI (tF φ)) 1 = nI (φ 1) := h 1 (by decide)
      have y3 : upd g 3 (nI (tF φ)) 3 = nI (tF φ) := upd_s _ _ _
      try simp (disch := omega) only [lt0, lt1, lt2, lt3, lt4, lt5, lt6, lt7, lt8, lt9, lt10, lt11, lt12, lt13, lt14, lt15, lt16, lt17, lt18, lt19, lt20, lt21, lt22, lt23, lt24, lt25, lt26, lt27, lt28, lt29, lt30, lt31, lt32, lt33, lt34, lt35, lt36, lt37, lt38, lt39, lt40, lt41, lt42, lt43, lt44, lt45, lt46, lt47, lt48, lt49, lt50, lt51, lt52, lt53, lt54, lt55, lt56, lt57, lt58, lt59, lt60, lt61, lt62, lt63, lt64, lt97, lt98, lt99, lt100, lt107, lt110, lt114, lt115, lt116, lt119, lt122, lt208, lt255, lt999, lt1000, nI_add, pk_mul, nI_clamp, vp_t, nI_leI, nI_ltI, nI_eq, true_and, and_true, true_implies, false_implies, not_true_eq_false, not_false_eq_true, eq_self, implies_true, true_or, or_true, Nat.add_zero, Nat.reduceAdd, Nat.reduceMul, Nat.reduceEqDiff, Nat.reduceLeDiff, Nat.reduceLT, Nat.reduceSub, upc_s, up_upc, y9, y5, y2, y1, y3, true_or, or_true]
      exact lk
  · refine e_X2_passDay_272 ?_
    try simp (disch := omega) only [lt0, lt1, lt2, lt3, lt4, lt5, lt6, lt7, lt8, lt9, lt10, lt11, lt12, lt13, lt14, lt15, lt16, lt17, lt18, lt19, lt20, lt21, lt22, lt23, lt24, lt25, lt26, lt27, lt28, lt29, lt30, lt31, lt32, lt33, lt34, lt35, lt36, lt37, lt38, lt39, lt40, lt41, lt42, lt43, lt44, lt45, lt46, lt47, lt48, lt49, lt50, lt51, lt52, lt53, lt54, lt55, lt56, lt57, lt58, lt59, lt60, lt61, lt62, lt63, lt64, lt97, lt98, lt99, lt100, lt107, lt110, lt114, lt115, lt116, lt119, lt122, lt208, lt255, lt999, lt1000, nI_add, pk_mul, nI_clamp, vp_t, nI_leI, nI_ltI, nI_eq, true_and, and_true, true_implies, false_implies, not_true_eq_false, not_false_eq_true, eq_self, implies_true, true_or, or_true, Nat.add_zero, Nat.reduceAdd, Nat.reduceMul, Nat.reduceEqDiff, Nat.reduceLeDiff, Nat.reduceLT, Nat.reduceSub, upc_s, h _]
    refine s_wrap (by omega) (by omega) (by omega) ?_
    rw [t3]
    try simp (disch := omega) only [lt0, lt1, lt2, lt3, lt4, lt5, lt6, lt7, lt8, lt9, lt10, lt11, lt12, lt13, lt14, lt15, lt16, lt17, lt18, lt19, lt20, lt21, lt22, lt23, lt24, lt25, lt26, lt27, lt28, lt29, lt30, lt31, lt32, lt33, lt34, lt35, lt36, lt37, lt38, lt39, lt40, lt41, lt42, lt43, lt44, lt45, lt46, lt47, lt48, lt49, lt50, lt51, lt52, lt53, lt54, lt55, lt56, lt57, lt58, lt59, lt60, lt61, lt62, lt63, lt64, lt97, lt98, lt99, lt100, lt107, lt110, lt114, lt115, lt116, lt119, lt122, lt208, lt255, lt999, lt1000, nI_add, pk_mul, nI_clamp, vp_t, nI_leI, nI_ltI, nI_eq, true_and, and_true, true_implies, false_implies, not_true_eq_false, not_false_eq_true, eq_self, implies_true, true_or, or_true, Nat.add_zero, Nat.reduceAdd, Nat.reduceMul, Nat.reduceEqDiff, Nat.reduceLeDiff, Nat.reduceLT, Nat.reduceSub, upc_s, up_upc, h _]
    have lk := look
    refine br_c (fun c9 => ?_) (fun c9 => nr_c (fun c8 => ?_) (fun c8 => ?_))
    · refine br_t c9 ?_
      refine (look _ (h3.cg fun i hi => ?_)).1 c9
      unfold pF
      rw [if_neg (fun q => q.1 c9)]
      by_cases e : i = 6
      · subst e
        rw [un_s]
        rfl
      · rw [un_n _ _ e]
    · have e6 : pF φ = φ 6 := by
        unfold pF
        rw [if_neg (fun q => c8 q.2)]
      have lk := look _ (h3.cg fun i hi => by
        rw [e6]
        by_cases e : i = 6
        · subst e
          rw [un_s]
          rfl
        · rw [un_n _ _ e])
      rw [e6] at lk
      try simp (disch := omega) only [lt0, lt1, lt2, lt3, lt4, lt5, lt6, lt7, lt8, lt9, lt10, lt11, lt12, lt13, lt14, lt15, lt16, lt17, lt18, lt19, lt20, lt21, lt22, lt23, lt24, lt25, lt26, lt27, lt28, lt29, lt30, lt31, lt32, lt33, lt34, lt35, lt36, lt37, lt38, lt39, lt40, lt41, lt42, lt43, lt44, lt45, lt46, lt47, lt48, lt49, lt50, lt51, lt52, lt53, lt54, lt55, lt56, lt57, lt58, lt59, lt60, lt61, lt62, lt63, lt64, lt97, lt98, lt99, lt100, lt107, lt110, lt114, lt115, lt116, lt119, lt122, lt208, lt255, lt999, lt1000, nI_add, pk_mul, nI_clamp, vp_t, nI_leI, nI_ltI, nI_eq, true_and, and_true, true_implies, false_implies, not_true_eq_false, not_false_eq_true, eq_self, implies_true, true_or, or_true, Nat.add_zero, Nat.reduceAdd, Nat.reduceMul, Nat.reduceEqDiff, Nat.reduceLeDiff, Nat.reduceLT, Nat.reduceSub, true_or, or_true]
      exact lk
    · have e6 : pF φ = gF (un φ 3 (tF φ)) := by
        unfold pF
        rw [if_pos ⟨c9, c8⟩]
      refine s_goal (Or.inr (Or.inl rfl)) (show FM ((upc μ 272 (upd g 3 (nI (tF φ)))) 272) _ from h3) hv3 ?_
      have lk := look _ (h3.up (i := 6) (v := nI (gF (un φ 3 (tF φ)))) (by rw [e6]))
      rw [e6] at lk
      have y9 : upd g 3 (nI (tF φ)) 9 = nI (φ 9) := h 9 (by decide)
      have y5 : upd g 3 (nI (tF φ)) 5 = nI (φ 5) := h 5 (by decide)
      have y2 : upd g 3 (nI (tF φ)) 2 = nI (φ 2) := h 2 (by decide)
      have y1 : upd g 3 (nI (tF φ)) 1 = nI (φ 1) := h 1 (by decide)
      have y3 : upd g 3 (nI (tF φ)) 3 = nI (tF φ) := upd_s _ _ _
      try simp (disch := omega) only [lt0, lt1, lt2, lt3, lt4, lt5, lt6, lt7, lt8, lt9, lt10, lt11, lt12, lt13, lt14, lt15, lt16, lt17, lt18, lt19, lt20, lt21, lt22, lt23, lt24, lt25, lt26, lt27, lt28, lt29, lt30, lt31, lt32, lt33, lt34, lt35, lt36, lt37, lt38, lt39, lt40, lt41, lt42, lt43, lt44, lt45, lt46, lt47, lt48, lt49, lt50, lt51, lt52, lt53, lt54, lt55, lt56, lt57, lt58, lt59, lt60, lt61, lt62, lt63, lt64, lt97, lt98, lt99, lt100, lt107, lt110, lt114, lt115, lt116, lt119, lt122, lt208, lt255, lt999, lt1000, nI_add, pk_mul, nI_clamp, vp_t, nI_leI, nI_ltI, nI_eq, true_and, and_true, true_implies, false_implies, not_true_eq_false, not_false_eq_true, eq_self, implies_true, true_or, or_true, Nat.add_zero, Nat.reduceAdd, Nat.reduceMul, Nat.reduceEqDiff, Nat.reduceLeDiff, Nat.reduceLT, Nat.reduceSub, upc_s, up_upc, y9, y5, y2, y1, y3, true_or, or_true]
      exact lk
  · refine e_X2_passDay_274 ?_
    try simp (disch := omega) only [lt0, lt1, lt2, lt3, lt4, lt5, lt6, lt7, lt8, lt9, lt10, lt11, lt12, lt13, lt14, lt15, lt16, lt17, lt18, lt19, lt20, lt21, lt22, lt23, lt24, lt25, lt26, lt27, lt28, lt29, lt30, lt31, lt32, lt33, lt34, lt35, lt36, lt37, lt38, lt39, lt40, lt41, lt42, lt43, lt44, lt45, lt46, lt47, lt48, lt49, lt50, lt51, lt52, lt53, lt54, lt55, lt56, lt57, lt58, lt59, lt60, lt61, lt62, lt63, lt64, lt97, lt98, lt99, lt100, lt107, lt110, lt114, lt115, lt116, lt119, lt122, lt208, lt255, lt999, lt1000, nI_add, pk_mul, nI_clamp, vp_t, nI_leI, nI_ltI, nI_eq, true_and, and_true, true_implies, false_implies, not_true_eq_false, not_false_eq_true, eq_self, implies_true, true_or, or_true, Nat.add_zero, Nat.reduceAdd, Nat.reduceMul, Nat.reduceEqDiff, Nat.reduceLeDiff, Nat.reduceLT, Nat.reduceSub, upc_s, h _]
    refine s_wrap (by omega) (by omega) (by omega) ?_
    rw [t3]
    try simp (disch := omega) only [lt0, lt1, lt2, lt3, lt4, lt5, lt6, lt7, lt8, lt9, lt10, lt11, lt12, lt13, lt14, lt15, lt16, lt17, lt18, lt19, lt20, lt21, lt22, lt23, lt24, lt25, lt26, lt27, lt28, lt29, lt30, lt31, lt32, lt33, lt34, lt35, lt36, lt37, lt38, lt39, lt40, lt41, lt42, lt43, lt44, lt45, lt46, lt47, lt48, lt49, lt50, lt51, lt52, lt53, lt54, lt55, lt56, lt57, lt58, lt59, lt60, lt61, lt62, lt63, lt64, lt97, lt98, lt99, lt100, lt107, lt110, lt114, lt115, lt116, lt119, lt122, lt208, lt255, lt999, lt1000, nI_add, pk_mul, nI_clamp, vp_t, nI_leI, nI_ltI, nI_eq, true_and, and_true, true_implies, false_implies, not_true_eq_false, not_false_eq_true, eq_self, implies_true, true_or, or_true, Nat.add_zero, Nat.reduceAdd, Nat.reduceMul, Nat.reduceEqDiff, Nat.reduceLeDiff, Nat.reduceLT, Nat.reduceSub, upc_s, up_upc, h _]
    have lk := look
    refine br_c (fun c9 => ?_) (fun c9 => nr_c (fun c8 => ?_) (fun c8 => ?_))
    · refine br_t c9 ?_
      refine (look _ (h3.cg fun i hi => ?_)).1 c9
      unfold pF
      rw [if_neg (fun q => q.1 c9)]
      by_cases e : i = 6
      · subst e
        rw [un_s]
        rfl
      · rw [un_n _ _ e]
    · have e6 : pF φ = φ 6 := by
        unfold pF
        rw [if_neg (fun q => c8 q.2)]
      have lk := look _ (h3.cg fun i hi => by
        rw [e6]
        by_cases e : i = 6
        · subst e
          rw [un_s]
          rfl
        · rw [un_n _ _ e])
      rw [e6] at lk
      try simp (disch := omega) only [lt0, lt1, lt2, lt3, lt4, lt5, lt6, lt7, lt8, lt9, lt10, lt11, lt12, lt13, lt14, lt15, lt16, lt17, lt18, lt19, lt20, lt21, lt22, lt23, lt24, lt25, lt26, lt27, lt28, lt29, lt30, lt31, lt32, lt33, lt34, lt35, lt36, lt37, lt38, lt39, lt40, lt41, lt42, lt43, lt44, lt45, lt46, lt47, lt48, lt49, lt50, lt51, lt52, lt53, lt54, lt55, lt56, lt57, lt58, lt59, lt60, lt61, lt62, lt63, lt64, lt97, lt98, lt99, lt100, lt107, lt110, lt114, lt115, lt116, lt119, lt122, lt208, lt255, lt999, lt1000, nI_add, pk_mul, nI_clamp, vp_t, nI_leI, nI_ltI, nI_eq, true_and, and_true, true_implies, false_implies, not_true_eq_false, not_false_eq_true, eq_self, implies_true, true_or, or_true, Nat.add_zero, Nat.reduceAdd, Nat.reduceMul, Nat.reduceEqDiff, Nat.reduceLeDiff, Nat.reduceLT, Nat.reduceSub, true_or, or_true]
      exact lk
    · have e6 : pF φ = gF (un φ 3 (tF φ)) := by
        unfold pF
        rw [if_pos ⟨c9, c8⟩]
      refine s_goal (Or.inr (Or.inr rfl)) (show FM ((upc μ 274 (upd g 3 (nI (tF φ)))) 274) _ from h3) hv3 ?_
      have lk := look _ (h3.up (i := 6) (v := nI (gF (un φ 3 (tF φ)))) (by rw [e6]))
      rw [e6] at lk
      have y9 : upd g 3 (nI (tF φ)) 9 = nI (φ 9) := h 9 (by decide)
      have y5 : upd g 3 (nI (tF φ)) 5 = nI (φ 5) := h 5 (by decide)
      have y2 : upd g 3 (nI (tF φ)) 2 = nI (φ 2) := h 2 (by decide)
      have y1 : upd g 3 (nI (tF φ)) 1 = nI (φ 1) := h 1 (by decide)
      have y3 : upd g 3 (nI (tF φ)) 3 = nI (tF φ) := upd_s _ _ _
      try simp (disch := omega) only [lt0, lt1, lt2, lt3, lt4, lt5, lt6, lt7, lt8, lt9, lt10, lt11, lt12, lt13, lt14, lt15, lt16, lt17, lt18, lt19, lt20, lt21, lt22, lt23, lt24, lt25, lt26, lt27, lt28, lt29, lt30, lt31, lt32, lt33, lt34, lt35, lt36, lt37, lt38, lt39, lt40, lt41, lt42, lt43, lt44, lt45, lt46, lt47, lt48, lt49, lt50, lt51, lt52, lt53, lt54, lt55, lt56, lt57, lt58, lt59, lt60, lt61, lt62, lt63, lt64, lt97, lt98, lt99, lt100, lt107, lt110, lt114, lt115, lt116, lt119, lt122, lt208, lt255, lt999, lt1000, nI_add, pk_mul, nI_clamp, vp_t, nI_leI, nI_ltI, nI_eq, true_and, and_true, true_implies, false_implies, not_true_eq_false, not_false_eq_true, eq_self, implies_true, true_or, or_true, Nat.add_zero, Nat.reduceAdd, Nat.reduceMul, Nat.reduceEqDiff, Nat.reduceLeDiff, Nat.reduceLT, Nat.reduceSub, upc_s, up_upc, y9, y5, y2, y1, y3, true_or, or_true]
      exact lk
