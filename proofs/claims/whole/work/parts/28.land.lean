/-! ===== the class: DAYS of one; a Land's numbers ===== -/
theorem s_livesB {d : Nat} {μ : Mm} {K : Int32 → Mm → Prop} {f n : Nat} {φ : Nat → Nat} {g : Nat → Int32} (hf : f = 271 ∨ f = 272 ∨ f = 274) (h : FM g φ) (hv : VF φ) (h2 : φ 2 + n ≤ 2000) (k : ∀ x, (¬ itF n φ 9 = 0 → FM x (itF n φ)) → K (nI (itF n φ 9)) (upc μ f x)) : cI (cM (d + 4)) 16 [.ref f, .int (nI n)] (upc μ f g) K := by
  have key : ∀ m i (φ : Nat → Nat) g, i + m = n → FM g φ → VF φ → φ 2 + m ≤ 2000 → (∀ x, (¬ itF m φ 9 = 0 → FM x (itF m φ)) → K (nI (itF m φ 9)) (upc μ f x)) → jX2_livesBehind (d + 3) K 2 [some (.ref f), some (.int (nI n)), some (.int (nI i))] [] (upc μ f g) := by
    intro m
    induction m with
    | zero =>
      intro i φ g hi hg hv h2 k2
      have v9 := hv.2.2.2.2.2.2.2.2.2
      have g9 : g 9 = nI (φ 9) := hg 9 (by decide)
      have h01 : φ 9 = 0 ∨ φ 9 = 1 := by omega
      obtain rfl : i = n := by omega
      have kk := k2 g (fun _ => hg)
      rcases hf with rfl | rfl | rfl
      · refine k_X2_livesBehind_271_2 ?_
        try simp (disch := omega) only [lt0, lt1, lt2, lt3, lt4, lt5, lt6, lt7, lt8, lt9, lt10, lt11, lt12, lt13, lt14, lt15, lt16, lt17, lt18, lt19, lt20, lt21, lt22, lt23, lt24, lt25, lt26, lt27, lt28, lt29, lt30, lt31, lt32, lt33, lt34, lt35, lt36, lt37, lt38, lt39, lt40, lt41, lt42, lt43, lt44, lt45, lt46, lt47, lt48, lt49, lt50, lt51, lt52, lt53, lt54, lt55, lt56, lt57, lt58, lt59, lt60, lt61, lt62, lt63, lt64, lt97, lt98, lt99, lt100, lt107, lt110, lt114, lt115, lt116, lt119, lt122, lt208, lt255, lt999, lt1000, nI_add, pk_mul, nI_clamp, vp_t, nI_leI, nI_ltI, nI_eq, true_and, and_true, true_implies, false_implies, not_true_eq_false, not_false_eq_true, eq_self, implies_true, true_or, or_true, Nat.add_zero, Nat.reduceAdd, Nat.reduceMul, Nat.reduceEqDiff, Nat.reduceLeDiff, Nat.reduceLT, Nat.reduceSub, upc_s, g9]
        exact br_t (Nat.le_refl _) ⟨h01, kk⟩
      · refine k_X2_livesBehind_272_2 ?_
        try simp (disch := omega) only [lt0, lt1, lt2, lt3, lt4, lt5, lt6, lt7, lt8, lt9, lt10, lt11, lt12, lt13, lt14, lt15, lt16, lt17, lt18, lt19, lt20, lt21, lt22, lt23, lt24, lt25, lt26, lt27, lt28, lt29, lt30, lt31, lt32, lt33, lt34, lt35, lt36, lt37, lt38, lt39, lt40, lt41, lt42, lt43, lt44, lt45, lt46, lt47, lt48, lt49, lt50, lt51, lt52, lt53, lt54, lt55, lt56, lt57, lt58, lt59, lt60, lt61, lt62, lt63, lt64, lt97, lt98, lt99, lt100, lt107, lt110, lt114, lt115, lt116, lt119, lt122, lt208, lt255, lt999, lt1000, nI_add, pk_mul, nI_clamp, vp_t, nI_leI, nI_ltI, nI_eq, true_and, and_true, true_implies, false_implies, not_true_eq_false, not_false_eq_true, eq_self, implies_true, true_or, or_true, Nat.add_zero, Nat.reduceAdd, Nat.reduceMul, Nat.reduceEqDiff, Nat.reduceLeDiff, Nat.reduceLT, Nat.reduceSub, upc_s, g9]
        exact br_t (Nat.le_refl _) ⟨h01, kk⟩
      · refine k_X2_livesBehind_274_2 ?_
        try simp (disch := omega) only [lt0, lt1, lt2, lt3, lt4, lt5, lt6, lt7, lt8, lt9, lt10, lt11, lt12, lt13, lt14, lt15, lt16, lt17, lt18, lt19, lt20, lt21, lt22, lt23, lt24, lt25, lt26, lt27, lt28, lt29, lt30, lt31, lt32, lt33, lt34, lt35, lt36, lt37, lt38, lt39, lt40, lt41, lt42, lt43, lt44, lt45, lt46, lt47, lt48, lt49, lt50, lt51, lt52, lt53, lt54, lt55, lt56, lt57, lt58, lt59, lt60, lt61, lt62, lt63, lt64, lt97, lt98, lt99, lt100, lt107, lt110, lt114, lt115, lt116, lt119, lt122, lt208, lt255, lt999, lt1000, nI_add, pk_mul, nI_clamp, vp_t, nI_leI, nI_ltI, nI_eq, true_and, and_true, true_implies, false_implies, not_true_eq_false, not_false_eq_true, eq_self, implies_true, true_or, or_true, Nat.add_zero, Nat.reduceAdd, Nat.reduceMul, Nat.reduceEqDiff, Nat.reduceLeDiff, Nat.reduceLT, Nat.reduceSub, upc_s, g9]
        exact br_t (Nat.le_refl _) ⟨h01, kk⟩
    | succ m ih =>
      intro i φ g hi hg hv h2 k2
      have v9 := hv.2.2.2.2.2.2.2.2.2
      have g9 : g 9 = nI (φ 9) := hg 9 (by decide)
      have h01 : φ 9 = 0 ∨ φ 9 = 1 := by omega
      have dead : φ 9 = 0 → K (nI (φ 9)) (upc μ f g) := by
        intro c
        have e : itF (m + 1) φ 9 = 0 := dead_it (m + 1) c
        have := k2 g (fun c2 => absurd e c2)
        rw [e] at this
        rw [c]
        exact this
      have go : ∀ x, FM x (dayF φ) → jX2_livesBehind (d + 3) K 2 [some (.ref f), some (.int (nI n)), some (.int (nI (i + 1)))] [] (upc μ f x) := fun x hx => ih (i + 1) (dayF φ) x (by omega) hx (VF_day hv (by omega)) (show φ 2 + 1 + m ≤ 2000 by omega) k2
      rcases hf with rfl | rfl | rfl
      · refine k_X2_livesBehind_271_2 ?_
        try simp (disch := omega) only [lt0, lt1, lt2, lt3, lt4, lt5, lt6, lt7, lt8, lt9, lt10, lt11, lt12, lt13, lt14, lt15, lt16, lt17, lt18, lt19, lt20, lt21, lt22, lt23, lt24, lt25, lt26, lt27, lt28, lt29, lt30, lt31, lt32, lt33, lt34, lt35, lt36, lt37, lt38, lt39, lt40, lt41, lt42, lt43, lt44, lt45, lt46, lt47, lt48, lt49, lt50, lt51, lt52, lt53, lt54, lt55, lt56, lt57, lt58, lt59, lt60, lt61, lt62, lt63, lt64, lt97, lt98, lt99, lt100, lt107, lt110, lt114, lt115, lt116, lt119, lt122, lt208, lt255, lt999, lt1000, nI_add, pk_mul, nI_clamp, vp_t, nI_leI, nI_ltI, nI_eq, true_and, and_true, true_implies, false_implies, not_true_eq_false, not_false_eq_true, eq_self, implies_true, true_or, or_true, Nat.add_zero, Nat.reduceAdd, Nat.reduceMul, Nat.reduceEqDiff, Nat.reduceLeDiff, Nat.reduceLT, Nat.reduceSub, upc_s, g9]
        refine br_f (by omega) (br_c (fun c => ⟨h01, dead c⟩) (fun c => s_passDay (Or.inl rfl) hg hv (fun x hx => ?_)))
        try simp (disch := omega) only [lt0, lt1, lt2, lt3, lt4, lt5, lt6, lt7, lt8, lt9, lt10, lt11, lt12, lt13, lt14, lt15, lt16, lt17, lt18, lt19, lt20, lt21, lt22, lt23, lt24, lt25, lt26, lt27, lt28, lt29, lt30, lt31, lt32, lt33, lt34, lt35, lt36, lt37, lt38, lt39, lt40, lt41, lt42, lt43, lt44, lt45, lt46, lt47, lt48, lt49, lt50, lt51, lt52, lt53, lt54, lt55, lt56, lt57, lt58, lt59, lt60, lt61, lt62, lt63, lt64, lt97, lt98, lt99, lt100, lt107, lt110, lt114, lt115, lt116, lt119, lt122, lt208, lt255, lt999, lt1000, nI_add, pk_mul, nI_clamp, vp_t, nI_leI, nI_ltI, nI_eq, true_and, and_true, true_implies, false_implies, not_true_eq_false, not_false_eq_true, eq_self, implies_true, true_or, or_true, Nat.add_zero, Nat.reduceAdd, Nat.reduceMul, Nat.reduceEqDiff, Nat.reduceLeDiff, Nat.reduceLT, Nat.reduceSub]
        exact go x hx
      · refine k_X2_livesBehind_272_2 ?_
        try simp (disch := omega) only [lt0, lt1, lt2, lt3, lt4, lt5, lt6, lt7, lt8, lt9, lt10, lt11, lt12, lt13, lt14, lt15, lt16, lt17, lt18, lt19, lt20, lt21, lt22, lt23, lt24, lt25, lt26, lt27, lt28, lt29, lt30, lt31, lt32, lt33, lt34, lt35, lt36, lt37, lt38, lt39, lt40, lt41, lt42, lt43, lt44, lt45, lt46, lt47, lt48, lt49, lt50, lt51, lt52, lt53, lt54, lt55, lt56, lt57, lt58, lt59, lt60, lt61, lt62, lt63, lt64, lt97, lt98, lt99, lt100, lt107, lt110, lt114, lt115, lt116, lt119, lt122, lt208, lt255, lt999, lt1000, nI_add, pk_mul, nI_clamp, vp_t, nI_leI, nI_ltI, nI_eq, true_and, and_true, true_implies, false_implies, not_true_eq_false, not_false_eq_true, eq_self, implies_true, true_or, or_true, Nat.add_zero, Nat.reduceAdd, Nat.reduceMul, Nat.reduceEqDiff, Nat.reduceLeDiff, Nat.reduceLT, Nat.reduceSub, upc_s, g9]
        refine br_f (by omega) (br_c (fun c => ⟨h01, dead c⟩) (fun c => s_passDay (Or.inr (Or.inl rfl)) hg hv (fun x hx => ?_)))
        try simp (disch := omega) only [lt0, lt1, lt2, lt3, lt4, lt5, lt6, lt7, lt8, lt9, lt10, lt11, lt12, lt13, lt14, lt15, lt16, lt17, lt18, lt19, lt20, lt21, lt22, lt23, lt24, lt25, lt26, lt27, lt28, lt29, lt30, lt31, lt32, lt33, lt34, lt35, lt36, lt37, lt38, lt39, lt40, lt41, lt42, lt43, lt44, lt45, lt46, lt47, lt48, lt49, lt50, lt51, lt52, lt53, lt54, lt55, lt56, lt57, lt58, lt59, lt60, lt61, lt62, lt63, lt64, lt97, lt98, lt99, lt100, lt107, lt110, lt114, lt115, lt116, lt119, lt122, lt208, lt255, lt999, lt1000, nI_add, pk_mul, nI_clamp, vp_t, nI_leI, nI_ltI, nI_eq, true_and, and_true, true_implies, false_implies, not_true_eq_false, not_false_eq_true, eq_self, implies_true, true_or, or_true, Nat.add_zero, Nat.reduceAdd, Nat.reduceMul, Nat.reduceEqDiff, Nat.reduceLeDiff, Nat.reduceLT, Nat.reduceSub]
        exact go x hx
      · refine k_X2_livesBehind_274_2 ?_
        try simp (disch := omega) only [lt0, lt1, lt2, lt3, lt4, lt5, lt6, lt7, lt8, lt9, lt10, lt11, lt12, lt13, lt14, lt15, lt16, lt17, lt18, lt19, lt20, lt21, lt22, lt23, lt24, lt25, lt26, lt27, lt28, lt29, lt30, lt31, lt32, lt33, lt34, lt35, lt36, lt37, lt38, lt39, lt40, lt41, lt42, lt43, lt44, lt45, lt46, lt47, lt48, lt49, lt50, lt51, lt52, lt53, lt54, lt55, lt56, lt57, lt58, lt59, lt60, lt61, lt62, lt63, lt64, lt97, lt98, lt99, lt100, lt107, lt110, lt114, lt115, lt116, lt119, lt122, lt208, lt255, lt999, lt1000, nI_add, pk_mul, nI_clamp, vp_t, nI_leI, nI_ltI, nI_eq, true_and, and_true, true_implies, false_implies, not_true_eq_false, not_false_eq_true, eq_self, implies_true, true_or, or_true, Nat.add_zero, Nat.reduceAdd, Nat.reduceMul, Nat.reduceEqDiff, Nat.reduceLeDiff, Nat.reduceLT, Nat.reduceSub, upc_s, g9]
        refine br_f (by omega) (br_c (fun c => ⟨h01, dead c⟩) (fun c => s_passDay (Or.inr (Or.inr rfl)) hg hv (fun x hx => ?_)))
        try simp (disch := omega) only [lt0, lt1, lt2, lt3, lt4, lt5, lt6, lt7, lt8, lt9, lt10, lt11, lt12, lt13, lt14, lt15, lt16, lt17, lt18, lt19, lt20, lt21, lt22, lt23, lt24, lt25, lt26, lt27, lt28, lt29, lt30, lt31, lt32, lt33, lt34, lt35, lt36, lt37, lt38, lt39, lt40, lt41, lt42, lt43, lt44, lt45, lt46, lt47, lt48, lt49, lt50, lt51, lt52, lt53, lt54, lt55, lt56, lt57, lt58, lt59, lt60, lt61, lt62, lt63, lt64, lt97, lt98, lt99, lt100, lt107, lt110, lt114, lt115, lt116, lt119, lt122, lt208, lt255, lt999, lt1000, nI_add, pk_mul, nI_clamp, vp_t, nI_leI, nI_ltI, nI_eq, true_and, and_true, true_implies, false_implies, not_true_eq_false, not_false_eq_true, eq_self, implies_true, true_or, or_true, Nat.add_zero, Nat.reduceAdd, Nat.reduceMul, Nat.reduceEqDiff, Nat.reduceLeDiff, Nat.reduceLT, Nat.reduceSub]
        exact go x hx
  have h9 := key n 0 φ g (by omega) h hv h2 k
  rcases hf with rfl | rfl | rfl
  · exact e_X2_livesBehind_271 h9
  · exact e_X2_livesBehind_272 h9
  · exact e_X2_livesBehind_274 h9
theorem s_diesB {d : Nat} {μ : Mm} {K : Int32 → Mm → Prop} {f n : Nat} {φ : Nat → Nat} {g : Nat → Int32} (hf : f = 271 ∨ f = 272 ∨ f = 274) (h : FM g φ) (hv : VF φ) (h2 : φ 2 + n ≤ 2000) (hn : n ≤ 60) (k : ∀ x, K (nI (dyF (n + 1) 0 φ)) (upc μ f x)) : cI (cM (d + 4)) 17 [.ref f, .int (nI n)] (upc μ f g) K := by
  have key : ∀ m i (φ : Nat → Nat) g, i + m = n → FM g φ → VF φ → φ 2 + m ≤ 2000 → ¬ φ 9 = 0 → (∀ x, K (nI (dyF (m + 1) i φ)) (upc μ f x)) → jX2_diesBehind (d + 3) K 11 [some (.ref f), some (.int (nI n)), some (.int (nI (i + 1)))] [] (upc μ f g) := by
    intro m
    induction m with
    | zero =>
      intro i φ g hi hg hv h2 hal k2
      obtain rfl : i = n := by omega
      have kk := k2 g
      rw [show dyF (0 + 1) i φ = 61 by show (if φ 9 = 0 then _ else _) = _; rw [if_neg hal]; rfl] at kk
      rcases hf with rfl | rfl | rfl
      · refine k_X2_diesBehind_271_11 ?_
        try simp (disch := omega) only [lt0, lt1, lt2, lt3, lt4, lt5, lt6, lt7, lt8, lt9, lt10, lt11, lt12, lt13, lt14, lt15, lt16, lt17, lt18, lt19, lt20, lt21, lt22, lt23, lt24, lt25, lt26, lt27, lt28, lt29, lt30, lt31, lt32, lt33, lt34, lt35, lt36, lt37, lt38, lt39, lt40, lt41, lt42, lt43, lt44, lt45, lt46, lt47, lt48, lt49, lt50, lt51, lt52, lt53, lt54, lt55, lt56, lt57, lt58, lt59, lt60, lt61, lt62, lt63, lt64, lt97, lt98, lt99, lt100, lt107, lt110, lt114, lt115, lt116, lt119, lt122, lt208, lt255, lt999, lt1000, nI_add, pk_mul, nI_clamp, vp_t, nI_leI, nI_ltI, nI_eq, true_and, and_true, true_implies, false_implies, not_true_eq_false, not_false_eq_true, eq_self, implies_true, true_or, or_true, Nat.add_zero, Nat.reduceAdd, Nat.reduceMul, Nat.reduceEqDiff, Nat.reduceLeDiff, Nat.reduceLT, Nat.reduceSub, upc_s]
        exact br_t (by omega) kk
      · refine k_X2_diesBehind_272_11 ?_
        try simp (disch := omega) only [lt0, lt1, lt2, lt3, lt4, lt5, lt6, lt7, lt8, lt9, lt10, lt11, lt12, lt13, lt14, lt15, lt16, lt17, lt18, lt19, lt20, lt21, lt22, lt23, lt24, lt25, lt26, lt27, lt28, lt29, lt30, lt31, lt32, lt33, lt34, lt35, lt36, lt37, lt38, lt39, lt40, lt41, lt42, lt43, lt44, lt45, lt46, lt47, lt48, lt49, lt50, lt51, lt52, lt53, lt54, lt55, lt56, lt57, lt58, lt59, lt60, lt61, lt62, lt63, lt64, lt97, lt98, lt99, lt100, lt107, lt110, lt114, lt115, lt116, lt119, lt122, lt208, lt255, lt999, lt1000, nI_add, pk_mul, nI_clamp, vp_t, nI_leI, nI_ltI, nI_eq, true_and, and_true, true_implies, false_implies, not_true_eq_false, not_false_eq_true, eq_self, implies_true, true_or, or_true, Nat.add_zero, Nat.reduceAdd, Nat.reduceMul, Nat.reduceEqDiff, Nat.reduceLeDiff, Nat.reduceLT, Nat.reduceSub, upc_s]
        exact br_t (by omega) kk
      · refine k_X2_diesBehind_274_11 ?_
        try simp (disch := omega) only [lt0, lt1, lt2, lt3, lt4, lt5, lt6, lt7, lt8, lt9, lt10, lt11, lt12, lt13, lt14, lt15, lt16, lt17, lt18, lt19, lt20, lt21, lt22, lt23, lt24, lt25, lt26, lt27, lt28, lt29, lt30, lt31, lt32, lt33, lt34, lt35, lt36, lt37, lt38, lt39, lt40, lt41, lt42, lt43, lt44, lt45, lt46, lt47, lt48, lt49, lt50, lt51, lt52, lt53, lt54, lt55, lt56, lt57, lt58, lt59, lt60, lt61, lt62, lt63, lt64, lt97, lt98, lt99, lt100, lt107, lt110, lt114, lt115, lt116, lt119, lt122, lt208, lt255, lt999, lt1000, nI_add, pk_mul, nI_clamp, vp_t, nI_leI, nI_ltI, nI_eq, true_and, and_true, true_implies, false_implies, not_true_eq_false, not_false_eq_true, eq_self, implies_true, true_or, or_true, Nat.add_zero, Nat.reduceAdd, Nat.reduceMul, Nat.reduceEqDiff, Nat.reduceLeDiff, Nat.reduceLT, Nat.reduceSub, upc_s]
        exact br_t (by omega) kk
    | succ m ih =>
      intro i φ g hi hg hv h2 hal k2
      have e1 : dyF (m + 1 + 1) i φ = dyF (m + 1) (i + 1) (dayF φ) := by
        show (if φ 9 = 0 then _ else _) = _
        rw [if_neg hal]
      rw [e1] at k2
      have hv' := VF_day hv (by omega)
      have v9 := hv'.2.2.2.2.2.2.2.2.2
      have go : ∀ x, FM x (dayF φ) → ¬ dayF φ 9 = 0 → jX2_diesBehind (d + 3) K 11 [some (.ref f), some (.int (nI n)), some (.int (nI (i + 1 + 1)))] [] (upc μ f x) := fun x hx hne => ih (i + 1) (dayF φ) x (by omega) hx hv' (show φ 2 + 1 + m ≤ 2000 by omega) hne k2
      have die : ∀ x, dayF φ 9 = 0 → K (nI (i + 1)) (upc μ f x) := by
        intro x c
        have := k2 x
        rw [show dyF (m + 1) (i + 1) (dayF φ) = i + 1 by show (if dayF φ 9 = 0 then _ else _) = _; rw [if_pos c]] at this
        exact this
      rcases hf with rfl | rfl | rfl
      · refine k_X2_diesBehind_271_11 ?_
        try simp (disch := omega) only [lt0, lt1, lt2, lt3, lt4, lt5, lt6, lt7, lt8, lt9, lt10, lt11, lt12, lt13, lt14, lt15, lt16, lt17, lt18, lt19, lt20, lt21, lt22, lt23, lt24, lt25, lt26, lt27, lt28, lt29, lt30, lt31, lt32, lt33, lt34, lt35, lt36, lt37, lt38, lt39, lt40, lt41, lt42, lt43, lt44, lt45, lt46, lt47, lt48, lt49, lt50, lt51, lt52, lt53, lt54, lt55, lt56, lt57, lt58, lt59, lt60, lt61, lt62, lt63, lt64, lt97, lt98, lt99, lt100, lt107, lt110, lt114, lt115, lt116, lt119, lt122, lt208, lt255, lt999, lt1000, nI_add, pk_mul, nI_clamp, vp_t, nI_leI, nI_ltI, nI_eq, true_and, and_true, true_implies, false_implies, not_true_eq_false, not_false_eq_true, eq_self, implies_true, true_or, or_true, Nat.add_zero, Nat.reduceAdd, Nat.reduceMul, Nat.reduceEqDiff, Nat.reduceLeDiff, Nat.reduceLT, Nat.reduceSub, upc_s]
        refine br_f (by omega) (s_passDay (Or.inl rfl) hg hv (fun x hx => ?_))
        have x9 : x 9 = nI (dayF φ 9) := hx 9 (by decide)
        try simp (disch := omega) only [lt0, lt1, lt2, lt3, lt4, lt5, lt6, lt7, lt8, lt9, lt10, lt11, lt12, lt13, lt14, lt15, lt16, lt17, lt18, lt19, lt20, lt21, lt22, lt23, lt24, lt25, lt26, lt27, lt28, lt29, lt30, lt31, lt32, lt33, lt34, lt35, lt36, lt37, lt38, lt39, lt40, lt41, lt42, lt43, lt44, lt45, lt46, lt47, lt48, lt49, lt50, lt51, lt52, lt53, lt54, lt55, lt56, lt57, lt58, lt59, lt60, lt61, lt62, lt63, lt64, lt97, lt98, lt99, lt100, lt107, lt110, lt114, lt115, lt116, lt119, lt122, lt208, lt255, lt999, lt1000, nI_add, pk_mul, nI_clamp, vp_t, nI_leI, nI_ltI, nI_eq, true_and, and_true, true_implies, false_implies, not_true_eq_false, not_false_eq_true, eq_self, implies_true, true_or, or_true, Nat.add_zero, Nat.reduceAdd, Nat.reduceMul, Nat.reduceEqDiff, Nat.reduceLeDiff, Nat.reduceLT, Nat.reduceSub, upc_s, x9]
        exact nr_c (fun c => go x hx c) (fun c => die x c)
      · refine k_X2_diesBehind_272_11 ?_
        try simp (disch := omega) only [lt0, lt1, lt2, lt3, lt4, lt5, lt6, lt7, lt8, lt9, lt10, lt11, lt12, lt13, lt14, lt15, lt16, lt17, lt18, lt19, lt20, lt21, lt22, lt23, lt24, lt25, lt26, lt27, lt28, lt29, lt30, lt31, lt32, lt33, lt34, lt35, lt36, lt37, lt38, lt39, lt40, lt41, lt42, lt43, lt44, lt45, lt46, lt47, lt48, lt49, lt50, lt51, lt52, lt53, lt54, lt55, lt56, lt57, lt58, lt59, lt60, lt61, lt62, lt63, lt64, lt97, lt98, lt99, lt100, lt107, lt110, lt114, lt115, lt116, lt119, lt122, lt208, lt255, lt999, lt1000, nI_add, pk_mul, nI_clamp, vp_t, nI_leI, nI_ltI, nI_eq, true_and, and_true, true_implies, false_implies, not_true_eq_false, not_false_eq_true, eq_self, implies_true, true_or, or_true, Nat.add_zero, Nat.reduceAdd, Nat.reduceMul, Nat.reduceEqDiff, Nat.reduceLeDiff, Nat.reduceLT, Nat.reduceSub, upc_s]
        refine br_f (by omega) (s_passDay (Or.inr (Or.inl rfl)) hg hv (fun x hx => ?_))
        have x9 : x 9 = nI (dayF φ 9) := hx 9 (by decide)
        try simp (disch := omega) only [lt0, lt1, lt2, lt3, lt4, lt5, lt6, lt7, lt8, lt9, lt10, lt11, lt12, lt13, lt14, lt15, lt16, lt17, lt18, lt19, lt20, lt21, lt22, lt23, lt24, lt25, lt26, lt27, lt28, lt29, lt30, lt31, lt32, lt33, lt34, lt35, lt36, lt37, lt38, lt39, lt40, lt41, lt42, lt43, lt44, lt45, lt46, lt47, lt48, lt49, lt50, lt51, lt52, lt53, lt54, lt55, lt56, lt57, lt58, lt59, lt60, lt61, lt62, lt63, lt64, lt97, lt98, lt99, lt100, lt107, lt110, lt114, lt115, lt116, lt119, lt122, lt208, lt255, lt999, lt1000, nI_add, pk_mul, nI_clamp, vp_t, nI_leI, nI_ltI, nI_eq, true_and, and_true, true_implies, false_implies, not_true_eq_false, not_false_eq_true, eq_self, implies_true, true_or, or_true, Nat.add_zero, Nat.reduceAdd, Nat.reduceMul, Nat.reduceEqDiff, Nat.reduceLeDiff, Nat.reduceLT, Nat.reduceSub, upc_s, x9]
        exact nr_c (fun c => go x hx c) (fun c => die x c)
      · refine k_X2_diesBehind_274_11 ?_
        try simp (disch := omega) only [lt0, lt1, lt2, lt3, lt4, lt5, lt6, lt7, lt8, lt9, lt10, lt11, lt12, lt13, lt14, lt15, lt16, lt17, lt18, lt19, lt20, lt21, lt22, lt23, lt24, lt25, lt26, lt27, lt28, lt29, lt30, lt31, lt32, lt33, lt34, lt35, lt36, lt37, lt38, lt39, lt40, lt41, lt42, lt43, lt44, lt45, lt46, lt47, lt48, lt49, lt50, lt51, lt52, lt53, lt54, lt55, lt56, lt57, lt58, lt59, lt60, lt61, lt62, lt63, lt64, lt97, lt98, lt99, lt100, lt107, lt110, lt114, lt115, lt116, lt119, lt122, lt208, lt255, lt999, lt1000, nI_add, pk_mul, nI_clamp, vp_t, nI_leI, nI_ltI, nI_eq, true_and, and_true, true_implies, false_implies, not_true_eq_false, not_false_eq_true, eq_self, implies_true, true_or, or_true, Nat.add_zero, Nat.reduceAdd, Nat.reduceMul, Nat.reduceEqDiff, Nat.reduceLeDiff, Nat.reduceLT, Nat.reduceSub, upc_s]
        refine br_f (by omega) (s_passDay (Or.inr (Or.inr rfl)) hg hv (fun x hx => ?_))
        have x9 : x 9 = nI (dayF φ 9) := hx 9 (by decide)
        try simp (disch := omega) only [lt0, lt1, lt2, lt3, lt4, lt5, lt6, lt7, lt8, lt9, lt10, lt11, lt12, lt13, lt14, lt15, lt16, lt17, lt18, lt19, lt20, lt21, lt22, lt23, lt24, lt25, lt26, lt27, lt28, lt29, lt30, lt31, lt32, lt33, lt34, lt35, lt36, lt37, lt38, lt39, lt40, lt41, lt42, lt43, lt44, lt45, lt46, lt47, lt48, lt49, lt50, lt51, lt52, lt53, lt54, lt55, lt56, lt57, lt58, lt59, lt60, lt61, lt62, lt63, lt64, lt97, lt98, lt99, lt100, lt107, lt110, lt114, lt115, lt116, lt119, lt122, lt208, lt255, lt999, lt1000, nI_add, pk_mul, nI_clamp, vp_t, nI_leI, nI_ltI, nI_eq, true_and, and_true, true_implies, false_implies, not_true_eq_false, not_false_eq_true, eq_self, implies_true, true_or, or_true, Nat.add_zero, Nat.reduceAdd, Nat.reduceMul, Nat.reduceEqDiff, Nat.reduceLeDiff, Nat.reduceLT, Nat.reduceSub, upc_s, x9]
        exact nr_c (fun c => go x hx c) (fun c => die x c)
  have v9 := hv.2.2.2.2.2.2.2.2.2
  have g9 : g 9 = nI (φ 9) := h 9 (by decide)
  have dead : φ 9 = 0 → K (nI 0) (upc μ f g) := by
    intro c
    have := k g
    rw [show dyF (n + 1) 0 φ = 0 by show (if φ 9 = 0 then _ else _) = _; rw [if_pos c]] at this
    exact this
  have go : ¬ φ 9 = 0 → jX2_diesBehind (d + 3) K 11 [some (.ref f), some (.int (nI n)), some (.int (nI 1))] [] (upc μ f g) := fun c => key n 0 φ g (by omega) h hv h2 c k
  rcases hf with rfl | rfl | rfl
  · refine e_X2_diesBehind_271 ?_
    try simp (disch := omega) only [lt0, lt1, lt2, lt3, lt4, lt5, lt6, lt7, lt8, lt9, lt10, lt11, lt12, lt13, lt14, lt15, lt16, lt17, lt18, lt19, lt20, lt21, lt22, lt23, lt24, lt25, lt26, lt27, lt28, lt29, lt30, lt31, lt32, lt33, lt34, lt35, lt36, lt37, lt38, lt39, lt40, lt41, lt42, lt43, lt44, lt45, lt46, lt47, lt48, lt49, lt50, lt51, lt52, lt53, lt54, lt55, lt56, lt57, lt58, lt59, lt60, lt61, lt62, lt63, lt64, lt97, lt98, lt99, lt100, lt107, lt110, lt114, lt115, lt116, lt119, lt122, lt208, lt255, lt999, lt1000, nI_add, pk_mul, nI_clamp, vp_t, nI_leI, nI_ltI, nI_eq, true_and, and_true, true_implies, false_implies, not_true_eq_false, not_false_eq_true, eq_self, implies_true, true_or, or_true, Nat.add_zero, Nat.reduceAdd, Nat.reduceMul, Nat.reduceEqDiff, Nat.reduceLeDiff, Nat.reduceLT, Nat.reduceSub, upc_s, g9]
    exact nr_c go dead
  · refine e_X2_diesBehind_272 ?_
    try simp (disch := omega) only [lt0, lt1, lt2, lt3, lt4, lt5, lt6, lt7, lt8, lt9, lt10, lt11, lt12, lt13, lt14, lt15, lt16, lt17, lt18, lt19, lt20, lt21, lt22, lt23, lt24, lt25, lt26, lt27, lt28, lt29, lt30, lt31, lt32, lt33, lt34, lt35, lt36, lt37, lt38, lt39, lt40, lt41, lt42, lt43, lt44, lt45, lt46, lt47, lt48, lt49, lt50, lt51, lt52, lt53, lt54, lt55, lt56, lt57, lt58, lt59, lt60, lt61, lt62, lt63, lt64, lt97, lt98, lt99, lt100, lt107, lt110, lt114, lt115, lt116, lt119, lt122, lt208, lt255, lt999, lt1000, nI_add, pk_mul, nI_clamp, vp_t, nI_leI, nI_ltI, nI_eq, true_and, and_true, true_implies, false_implies, not_true_eq_false, not_false_eq_true, eq_self, implies_true, true_or, or_true, Nat.add_zero, Nat.reduceAdd, Nat.reduceMul, Nat.reduceEqDiff, Nat.reduceLeDiff, Nat.reduceLT, Nat.reduceSub, upc_s, g9]
    exact nr_c go dead
  · refine e_X2_diesBehind_274 ?_
    try simp (disch := omega) only [lt0, lt1, lt2, lt3, lt4, lt5, lt6, lt7, lt8, lt9, lt10, lt11, lt12, lt13, lt14, lt15, lt16, lt17, lt18, lt19, lt20, lt21, lt22, lt23, lt24, lt25, lt26, lt27, lt28, lt29, lt30, lt31, lt32, lt33, lt34, lt35, lt36, lt37, lt38, lt39, lt40, lt41, lt42, lt43, lt44, lt45, lt46, lt47, lt48, lt49, lt50, lt51, lt52, lt53, lt54, lt55, lt56, lt57, lt58, lt59, lt60, lt61, lt62, lt63, lt64, lt97, lt98, lt99, lt100, lt107, lt110, lt114, lt115, lt116, lt119, lt122, lt208, lt255, lt999, lt1000, nI_add, pk_mul, nI_clamp, vp_t, nI_leI, nI_ltI, nI_eq, true_and, and_true, true_implies, false_implies, not_true_eq_false, not_false_eq_true, eq_self, implies_true, true_or, or_true, Nat.add_zero, Nat.reduceAdd, Nat.reduceMul, Nat.reduceEqDiff, Nat.reduceLeDiff, Nat.reduceLT, Nat.reduceSub, upc_s, g9]
    exact nr_c go dead
/-- who lives, as bits -/
def lvz (z : Nat → Nat) : Nat → Nat
  | 0 => 0
  | k + 1 => lvz z k + (if z (21 + 6 * k) = 0 then 2 ^ k else 0)
theorem lvz_lt (z : Nat → Nat) : ∀ k, lvz z k < 2 ^ k
  | 0 => Nat.one_pos
  | k + 1 => by
    have := lvz_lt z k
    show lvz z k + _ < 2 ^ (k + 1)
    rw [Nat.pow_succ]
    split <;> omega
theorem bit_low {a b k q : Nat} (h : q < k) : (a + b * 2 ^ k) / 2 ^ q % 2 = a / 2 ^ q % 2 := by
  obtain ⟨m, rfl⟩ : ∃ m, k = q + (m + 1) := ⟨k - q - 1, by omega⟩
  rw [Nat.pow_add, show b * (2 ^ q * 2 ^ (m + 1)) = 2 ^ q * (b * 2 ^ (m + 1)) by rw [← Nat.mul_assoc, Nat.mul_comm b, Nat.mul_assoc], Nat.add_mul_div_left _ _ (Nat.pow_pos (by decide)), Nat.pow_succ, ← Nat.mul_assoc, Nat.add_mul_mod_self_right]
theorem lvz_bit (z : Nat → Nat) : ∀ k q, q < k → lvz z k / 2 ^ q % 2 = if z (21 + 6 * q) = 0 then 1 else 0
  | 0, q, h => absurd h (by omega)
  | k + 1, q, h => by
    have hlt := lvz_lt z k
    have e : lvz z (k + 1) = lvz z k + (if z (21 + 6 * k) = 0 then 1 else 0) * 2 ^ k := by
      show lvz z k + _ = _
      split <;> simp
    rw [e]
    by_cases c : q = k
    · subst c
      rw [Nat.mul_comm, Nat.add_mul_div_left _ _ (Nat.pow_pos (by decide)), Nat.div_eq_of_lt hlt, Nat.zero_add]
      split <;> rfl
    · rw [bit_low (by omega)]
      exact lvz_bit z k q (by omega)
def dOn (n : Nat) : Int32 := if n = 0 then -1000000 else nI (n - 1)
/-- the Land at p holds z -/
def LR (μ : Mm) (p : Nat) (z : Nat → Nat) : Prop := μ p 0 = nI (z 0) ∧ μ p 1 = nI (z 1) ∧ μ p 2 = nI (z 4) ∧ μ p 3 = nI (z 2) ∧ μ p 4 = nI (z 3) ∧ μ p 5 = nI (z 5) ∧ μ p 6 = nI (lvz z (z 3)) ∧
  (∀ t, t < z 2 → μ (p + 1) t = nI (z (6 + 2 * t)) ∧ μ (p + 2) t = nI (z (7 + 2 * t))) ∧
  (∀ q, q < z 3 → μ (p + 3) q = nI (z (16 + 6 * q)) ∧ μ (p + 4) q = nI (z (17 + 6 * q)) ∧ μ (p + 5) q = nI (z (18 + 6 * q)) ∧ μ (p + 6) q = nI (z (19 + 6 * q)) ∧ μ (p + 7) q = nI (z (20 + 6 * q)) ∧ μ (p + 8) q = dOn (z (21 + 6 * q)))
theorem LR.fr {μ μ' : Mm} {p : Nat} {z : Nat → Nat} (h : LR μ p z) (e : ∀ i, i < 9 → μ' (p + i) = μ (p + i)) : LR μ' p z := by
  have e0 : μ' p = μ p := e 0 (by decide)
  unfold LR at h ⊢
  rw [e0, e 1 (by decide), e 2 (by decide), e 3 (by decide), e 4 (by decide), e 5 (by decide), e 6 (by decide), e 7 (by decide), e 8 (by decide)]
  exact h
theorem s_isLiving {d : Nat} {μ : Mm} {K : Int32 → Mm → Prop} {p q : Nat} {z : Nat → Nat} (hp : p = 16 ∨ p = 25) (h : μ p 6 = nI (lvz z (z 3))) (hz : z 3 ≤ 7) (hq : q < z 3) (k0 : ¬ z (21 + 6 * q) = 0 → K 0 μ) (k1 : z (21 + 6 * q) = 0 → K 1 μ) : cI (cM (d + 1)) 23 [.ref p, .int (nI q)] μ K := by
  have hl := lvz_lt z (z 3)
  have h7 : 2 ^ z 3 ≤ 2 ^ 7 := Nat.pow_le_pow_right (by decide) hz
  have hb := lvz_bit z (z 3) q hq
  have hx : ((nI (lvz z (z 3)) >>> (nI q &&& nI 31)) &&& nI 1) = nI (if z (21 + 6 * q) = 0 then 1 else 0) := by rw [sh_b (by omega) (by omega), hb]
  rcases hp with rfl | rfl
  · refine e_X4_isLiving_16 ?_
    rw [h]
    try simp (disch := omega) only [lt0, lt1, lt2, lt3, lt4, lt5, lt6, lt7, lt8, lt9, lt10, lt11, lt12, lt13, lt14, lt15, lt16, lt17, lt18, lt19, lt20, lt21, lt22, lt23, lt24, lt25, lt26, lt27, lt28, lt29, lt30, lt31, lt32, lt33, lt34, lt35, lt36, lt37, lt38, lt39, lt40, lt41, lt42, lt43, lt44, lt45, lt46, lt47, lt48, lt49, lt50, lt51, lt52, lt53, lt54, lt55, lt56, lt57, lt58, lt59, lt60, lt61, lt62, lt63, lt64, lt97, lt98, lt99, lt100, lt107, lt110, lt114, lt115, lt116, lt119, lt122, lt208, lt255, lt999, lt1000, nI_add, pk_mul, nI_clamp, vp_t, nI_leI, nI_ltI, nI_eq, true_and, and_true, true_implies, false_implies, not_true_eq_false, not_false_eq_true, eq_self, implies_true, true_or, or_true, Nat.add_zero, Nat.reduceAdd, Nat.reduceMul, Nat.reduceEqDiff, Nat.reduceLeDiff, Nat.reduceLT, Nat.reduceSub, hx]
    by_cases c : z (21 + 6 * q) = 0
    · rw [if_pos c]
      exact nr_t rfl (k1 c)
    · rw [if_neg c]
      exact nr_f (by decide) (k0 c)
  · refine e_X4_isLiving_25 ?_
    rw [h]
    try simp (disch := omega) only [lt0, lt1, lt2, lt3, lt4, lt5, lt6, lt7, lt8, lt9, lt10, lt11, lt12, lt13, lt14, lt15, lt16, lt17, lt18, lt19, lt20, lt21, lt22, lt23, lt24, lt25, lt26, lt27, lt28, lt29, lt30, lt31, lt32, lt33, lt34, lt35, lt36, lt37, lt38, lt39, lt40, lt41, lt42, lt43, lt44, lt45, lt46, lt47, lt48, lt49, lt50, lt51, lt52, lt53, lt54, lt55, lt56, lt57, lt58, lt59, lt60, lt61, lt62, lt63, lt64, lt97, lt98, lt99, lt100, lt107, lt110, lt114, lt115, lt116, lt119, lt122, lt208, lt255, lt999, lt1000, nI_add, pk_mul, nI_clamp, vp_t, nI_leI, nI_ltI, nI_eq, true_and, and_true, true_implies, false_implies, not_true_eq_false, not_false_eq_true, eq_self, implies_true, true_or, or_true, Nat.add_zero, Nat.reduceAdd, Nat.reduceMul, Nat.reduceEqDiff, Nat.reduceLeDiff, Nat.reduceLT, Nat.reduceSub, hx]
    by_cases c : z (21 + 6 * q) = 0
    · rw [if_pos c]
      exact nr_t rfl (k1 c)
    · rw [if_neg c]
      exact nr_f (by decide) (k0 c)
theorem s_isNailed {d : Nat} {μ : Mm} {K : Int32 → Mm → Prop} {p t n : Nat} (hp : p = 16 ∨ p = 25) (h : μ p 5 = nI n) (hn : n < 32) (ht : t < 5) (k0 : n / 2 ^ t % 2 = 0 → K 0 μ) (k1 : ¬ n / 2 ^ t % 2 = 0 → K 1 μ) : cI (cM (d + 1)) 24 [.ref p, .int (nI t)] μ K := by
  have hx : ((nI n >>> (nI t &&& nI 31)) &&& nI 1) = nI (n / 2 ^ t % 2) := sh_b (by omega) (by omega)
  have h01 : n / 2 ^ t % 2 = 0 ∨ n / 2 ^ t % 2 = 1 := by omega
  rcases hp with rfl | rfl
  · refine e_X4_isNailed_16 ?_
    rw [h]
    try simp (disch := omega) only [lt0, lt1, lt2, lt3, lt4, lt5, lt6, lt7, lt8, lt9, lt10, lt11, lt12, lt13, lt14, lt15, lt16, lt17, lt18, lt19, lt20, lt21, lt22, lt23, lt24, lt25, lt26, lt27, lt28, lt29, lt30, lt31, lt32, lt33, lt34, lt35, lt36, lt37, lt38, lt39, lt40, lt41, lt42, lt43, lt44, lt45, lt46, lt47, lt48, lt49, lt50, lt51, lt52, lt53, lt54, lt55, lt56, lt57, lt58, lt59, lt60, lt61, lt62, lt63, lt64, lt97, lt98, lt99, lt100, lt107, lt110, lt114, lt115, lt116, lt119, lt122, lt208, lt255, lt999, lt1000, nI_add, pk_mul, nI_clamp, vp_t, nI_leI, nI_ltI, nI_eq, true_and, and_true, true_implies, false_implies, not_true_eq_false, not_false_eq_true, eq_self, implies_true, true_or, or_true, Nat.add_zero, Nat.reduceAdd, Nat.reduceMul, Nat.reduceEqDiff, Nat.reduceLeDiff, Nat.reduceLT, Nat.reduceSub, hx]
    rcases h01 with c | c
    · rw [c] at k0 ⊢
      exact nr_f (by decide) (k0 rfl)
    · rw [c] at k1 ⊢
      exact nr_t rfl (k1 (by decide))
  · refine e_X4_isNailed_25 ?_
    rw [h]
    try simp (disch := omega) only [lt0, lt1, lt2, lt3, lt4, lt5, lt6, lt7, lt8, lt9, lt10, lt11, lt12, lt13, lt14, lt15, lt16, lt17, lt18, lt19, lt20, lt21, lt22, lt23, lt24, lt25, lt26, lt27, lt28, lt29, lt30, lt31, lt32, lt33, lt34, lt35, lt36, lt37, lt38, lt39, lt40, lt41, lt42, lt43, lt44, lt45, lt46, lt47, lt48, lt49, lt50, lt51, lt52, lt53, lt54, lt55, lt56, lt57, lt58, lt59, lt60, lt61, lt62, lt63, lt64, lt97, lt98, lt99, lt100, lt107, lt110, lt114, lt115, lt116, lt119, lt122, lt208, lt255, lt999, lt1000, nI_add, pk_mul, nI_clamp, vp_t, nI_leI, nI_ltI, nI_eq, true_and, and_true, true_implies, false_implies, not_true_eq_false, not_false_eq_true, eq_self, implies_true, true_or, or_true, Nat.add_zero, Nat.reduceAdd, Nat.reduceMul, Nat.reduceEqDiff, Nat.reduceLeDiff, Nat.reduceLT, Nat.reduceSub, hx]
    rcases h01 with c | c
    · rw [c] at k0 ⊢
      exact nr_f (by decide) (k0 rfl)
    · rw [c] at k1 ⊢
      exact nr_t rfl (k1 (by decide))
