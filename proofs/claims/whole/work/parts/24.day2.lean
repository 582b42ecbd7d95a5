/-! ===== a DAY of a row: PEOPLE ===== -/
theorem gz_pz {z : Nat → Nat} {q : Nat} (hn : z (17 + 6 * q) < 5) : gz (pz z q) q = gz z q := by
  have e0 : pz z q 0 = z 0 := pz_out (by omega)
  have e1 : pz z q 1 = z 1 := pz_out (by omega)
  have e2 : pz z q (16 + 6 * q) = z (16 + 6 * q) := pz_out (by omega)
  have e3 : pz z q (17 + 6 * q) = z (17 + 6 * q) := pz_out (by omega)
  have e4 : pz z q (18 + 6 * q) = z (18 + 6 * q) := pz_out (by omega)
  have e5 : pz z q (19 + 6 * q) = z (19 + 6 * q) := pz_out (by omega)
  have e6 : pz z q (6 + 2 * z (17 + 6 * q)) = z (6 + 2 * z (17 + 6 * q)) := pz_out (by omega)
  unfold gz
  rw [e0, e1, e2, e3, e4, e5, e6]
/-- the row behind the DAY, whose THINGS have gone already -/
def dz1 (z : Nat → Nat) : Nat → Nat := un (pz z (z 3)) 4 (z 4 + 1)
set_option maxHeartbeats 2000000 in
theorem s_day2 {d : Nat} {μ : Mm} {K : Int32 → Mm → Prop} {r : Nat} {z : Nat → Nat} (hr : r = 283 ∨ r = 285) (hz : VL z) (k : ∀ f, LM f (dz1 z) → K (nI (dc z (z 3))) (upc μ r f)) :
    ∀ n q f, q + n = z 3 → LM f (pz z q) → jX8_day (d + 3) K 72 [some (.ref r), none, some (.int (nI (dc z q))), some (.int (nI q)), none, none] [] (upc μ r f) := by
  obtain ⟨v0, v1, v2, v3, v4, v5, v6, v7, v8⟩ := hz
  intro n
  induction n with
  | zero =>
    intro q f hq hf
    obtain rfl : q = z 3 := by omega
    have e4 : pz z (z 3) 4 = z 4 := pz_out (by omega)
    have e3 : pz z (z 3) 3 = z 3 := pz_out (by omega)
    have hl : LM (upd f 4 (nI (z 4 + 1))) (dz1 z) := hf.up rfl
    rcases hr with rfl | rfl
    · refine k_X8_day_283_72 ?_
      try simp (disch := omega) only [lt0, lt1, lt2, lt3, lt4, lt5, lt6, lt7, lt8, lt9, lt10, lt11, lt12, lt13, lt14, lt15, lt16, lt17, lt18, lt19, lt20, lt21, lt22, lt23, lt24, lt25, lt26, lt27, lt28, lt29, lt30, lt31, lt32, lt33, lt34, lt35, lt36, lt37, lt38, lt39, lt40, lt41, lt42, lt43, lt44, lt45, lt46, lt47, lt48, lt49, lt50, lt51, lt52, lt53, lt54, lt55, lt56, lt57, lt58, lt59, lt60, lt61, lt62, lt63, lt64, lt97, lt98, lt99, lt100, lt107, lt110, lt114, lt115, lt116, lt119, lt122, lt208, lt255, lt999, lt1000, nI_add, pk_mul, nI_clamp, vp_t, nI_leI, nI_ltI, nI_eq, true_and, and_true, true_implies, false_implies, not_true_eq_false, not_false_eq_true, eq_self, implies_true, true_or, or_true, Nat.add_zero, Nat.reduceAdd, Nat.reduceMul, Nat.reduceEqDiff, Nat.reduceLeDiff, Nat.reduceLT, Nat.reduceSub, upc_s, hf _, e3, e4, up_upc]
      exact br_t (Nat.le_refl _) (k _ hl)
    · refine k_X8_day_285_72 ?_
      try simp (disch := omega) only [lt0, lt1, lt2, lt3, lt4, lt5, lt6, lt7, lt8, lt9, lt10, lt11, lt12, lt13, lt14, lt15, lt16, lt17, lt18, lt19, lt20, lt21, lt22, lt23, lt24, lt25, lt26, lt27, lt28, lt29, lt30, lt31, lt32, lt33, lt34, lt35, lt36, lt37, lt38, lt39, lt40, lt41, lt42, lt43, lt44, lt45, lt46, lt47, lt48, lt49, lt50, lt51, lt52, lt53, lt54, lt55, lt56, lt57, lt58, lt59, lt60, lt61, lt62, lt63, lt64, lt97, lt98, lt99, lt100, lt107, lt110, lt114, lt115, lt116, lt119, lt122, lt208, lt255, lt999, lt1000, nI_add, pk_mul, nI_clamp, vp_t, nI_leI, nI_ltI, nI_eq, true_and, and_true, true_implies, false_implies, not_true_eq_false, not_false_eq_true, eq_self, implies_true, true_or, or_true, Nat.add_zero, Nat.reduceAdd, Nat.reduceMul, Nat.reduceEqDiff, Nat.reduceLeDiff, Nat.reduceLT, Nat.reduceSub, upc_s, hf _, e3, e4, up_upc]
      exact br_t (Nat.le_refl _) (k _ hl)
  | succ n ih =>
    intro q f hq hf
    obtain ⟨⟨w1, w1'⟩, w2, w3, w4, w5, w6⟩ := v8 q (by omega)
    have wt := (v7 _ w2).1
    have wg : gz z q < z 0 := gz_lt (by omega) w3
    have e0 : pz z q 0 = z 0 := pz_out (by omega)
    have e1 : pz z q 1 = z 1 := pz_out (by omega)
    have e3 : pz z q 3 = z 3 := pz_out (by omega)
    have e4 : pz z q 4 = z 4 := pz_out (by omega)
    have p0 : pz z q (16 + 6 * q) = z (16 + 6 * q) := pz_out (by omega)
    have p1 : pz z q (17 + 6 * q) = z (17 + 6 * q) := pz_out (by omega)
    have p2 : pz z q (18 + 6 * q) = z (18 + 6 * q) := pz_out (by omega)
    have p3 : pz z q (19 + 6 * q) = z (19 + 6 * q) := pz_out (by omega)
    have p4 : pz z q (20 + 6 * q) = z (20 + 6 * q) := pz_out (by omega)
    have p5 : pz z q (21 + 6 * q) = z (21 + 6 * q) := pz_out (by omega)
    have pt : pz z q (6 + 2 * z (17 + 6 * q)) = z (6 + 2 * z (17 + 6 * q)) := pz_out (by omega)
    have a2 : 16 + 6 * q + 2 = 18 + 6 * q := by omega
    have a4 : 16 + 6 * q + 4 = 20 + 6 * q := by omega
    have a5 : 16 + 6 * q + 5 = 21 + 6 * q := by omega
    -- what is owed behind this one: his INSIDE is a DAY less
    have fin : ∀ (g : Nat → Int32) (dn : Nat), LM g (un (un (pz z q) (18 + 6 * q) (np z q)) (21 + 6 * q) (ndd z q)) → dn = dc z (q + 1) → jX8_day (d + 3) K 72 [some (.ref r), none, some (.int (nI dn)), some (.int (nI (q + 1))), none, none] [] (upc μ r (upd g (20 + 6 * q) (nI (z (20 + 6 * q) - 1)))) := by
      intro g dn hg hdn
      subst hdn
      exact ih (q + 1) _ (by omega) ((hg.up rfl).cg (fun i _ => pz_s))
    -- behind his going: whether he may die
    have may : ∀ (g : Nat → Int32) (mm : Int32), z (21 + 6 * q) = 0 → LM g (un (pz z q) (18 + 6 * q) (np z q)) → (mm = 0 ∧ ¬ (z (16 + 6 * q) = 5 → z 1 ≤ z 4) ∨ mm = 1 ∧ (z (16 + 6 * q) = 5 → z 1 ≤ z 4)) → jX8_day (d + 3) K 147 [some (.ref r), none, some (.int (nI (dc z q))), some (.int (nI q)), some (.int (nI (16 + 6 * q))), none] [.int mm] (upc μ r g) := by
      intro g mm hd hg hm
      have g1 : g (17 + 6 * q) = nI (z (17 + 6 * q)) := by rw [hg _ (by omega), un_n _ _ (by omega), p1]
      have g2 : g (18 + 6 * q) = nI (np z q) := by rw [hg _ (by omega), un_s]
      have g4 : g (20 + 6 * q) = nI (z (20 + 6 * q)) := by rw [hg _ (by omega), un_n _ _ (by omega), p4]
      have g5 : g 4 = nI (z 4) := by rw [hg _ (by omega), un_n _ _ (by omega), e4]
      have hnp : np z q < z 0 := by
        unfold np
        split
        · exact wg
        · exact w3
      have hu1 : un (pz z q) (18 + 6 * q) (np z q) (17 + 6 * q) = z (17 + 6 * q) := by rw [un_n _ _ (by omega), p1]
      have hu2 : un (pz z q) (18 + 6 * q) (np z q) (6 + 2 * z (17 + 6 * q)) = z (6 + 2 * z (17 + 6 * q)) := by rw [un_n _ _ (by omega), pt]
      -- nobody dies
      have alive : ¬ ((z (16 + 6 * q) = 5 → z 1 ≤ z 4) ∧ z (6 + 2 * z (17 + 6 * q)) = np z q) → LM g (un (un (pz z q) (18 + 6 * q) (np z q)) (21 + 6 * q) (ndd z q)) ∧ dc z q = dc z (q + 1) := by
        intro hno
        have hn : ¬ (z (21 + 6 * q) = 0 ∧ (z (16 + 6 * q) = 5 → z 1 ≤ z 4) ∧ z (6 + 2 * z (17 + 6 * q)) = np z q) := fun c => hno c.2
        refine ⟨hg.cg (fun i _ => ?_), ?_⟩
        · unfold ndd
          rw [if_neg hn]
          by_cases h9 : i = 21 + 6 * q
          · subst h9
            rw [un_s, un_n _ _ (by omega), p5]
          · rw [un_n _ _ h9]
        · show dc z q = dc z q + _
          rw [if_neg hn, Nat.add_zero]
      have inn : ∀ (x : Nat → Int32) (dn : Nat), x (20 + 6 * q) = nI (z (20 + 6 * q)) → LM x (un (un (pz z q) (18 + 6 * q) (np z q)) (21 + 6 * q) (ndd z q)) → dn = dc z (q + 1) → (z (20 + 6 * q) ≤ 0 → jX8_day (d + 3) K 72 [some (.ref r), none, some (.int (nI dn)), some (.int (nI (q + 1))), none, none] [] (upc μ r (upd x (20 + 6 * q) (nI (z (20 + 6 * q)) - nI 0)))) ∧ (¬ z (20 + 6 * q) ≤ 0 → jX8_day (d + 3) K 72 [some (.ref r), none, some (.int (nI dn)), some (.int (nI (q + 1))), none, none] [] (upc μ r (upd x (20 + 6 * q) (nI (z (20 + 6 * q)) - nI 1)))) := by
        intro x dn hx hx2 hdn
        have h9 := fin x dn hx2 hdn
        refine br_c (fun c => ?_) (fun c => ?_)
        · rw [sub_n (by omega), show z (20 + 6 * q) - 0 = z (20 + 6 * q) - 1 by omega]
          exact h9
        · rw [sub_n (by omega)]
          exact h9
      rcases hr with rfl | rfl
      · refine k_X8_day_283_147 ?_
        try simp (disch := omega) only [lt0, lt1, lt2, lt3, lt4, lt5, lt6, lt7, lt8, lt9, lt10, lt11, lt12, lt13, lt14, lt15, lt16, lt17, lt18, lt19, lt20, lt21, lt22, lt23, lt24, lt25, lt26, lt27, lt28, lt29, lt30, lt31, lt32, lt33, lt34, lt35, lt36, lt37, lt38, lt39, lt40, lt41, lt42, lt43, lt44, lt45, lt46, lt47, lt48, lt49, lt50, lt51, lt52, lt53, lt54, lt55, lt56, lt57, lt58, lt59, lt60, lt61, lt62, lt63, lt64, lt97, lt98, lt99, lt100, lt107, lt110, lt114, lt115, lt116, lt119, lt122, lt208, lt255, lt999, lt1000, nI_add, pk_mul, nI_clamp, vp_t, nI_leI, nI_ltI, nI_eq, true_and, and_true, true_implies, false_implies, not_true_eq_false, not_false_eq_true, eq_self, implies_true, true_or, or_true, Nat.add_zero, Nat.reduceAdd, Nat.reduceMul, Nat.reduceEqDiff, Nat.reduceLeDiff, Nat.reduceLT, Nat.reduceSub, upc_s, up_upc, a2, a4, a5, g1, g2, g4, g5]
        rcases hm with ⟨rfl, hm⟩ | ⟨rfl, hm⟩
        · obtain ⟨h1, h2⟩ := alive (fun c => hm c.1)
          refine br_t rfl ?_
          exact inn g _ g4 h1 h2
        · refine br_f (by decide) (s_nameAt (Or.inl rfl) (show LM ((upc μ 283 g) 283) _ from hg) (by omega) (by rw [hu1]; omega) ?_)
          rw [hu1, hu2]
          try simp (disch := omega) only [lt0, lt1, lt2, lt3, lt4, lt5, lt6, lt7, lt8, lt9, lt10, lt11, lt12, lt13, lt14, lt15, lt16, lt17, lt18, lt19, lt20, lt21, lt22, lt23, lt24, lt25, lt26, lt27, lt28, lt29, lt30, lt31, lt32, lt33, lt34, lt35, lt36, lt37, lt38, lt39, lt40, lt41, lt42, lt43, lt44, lt45, lt46, lt47, lt48, lt49, lt50, lt51, lt52, lt53, lt54, lt55, lt56, lt57, lt58, lt59, lt60, lt61, lt62, lt63, lt64, lt97, lt98, lt99, lt100, lt107, lt110, lt114, lt115, lt116, lt119, lt122, lt208, lt255, lt999, lt1000, nI_add, pk_mul, nI_clamp, vp_t, nI_leI, nI_ltI, nI_eq, true_and, and_true, true_implies, false_implies, not_true_eq_false, not_false_eq_true, eq_self, implies_true, true_or, or_true, Nat.add_zero, Nat.reduceAdd, Nat.reduceMul, Nat.reduceEqDiff, Nat.reduceLeDiff, Nat.reduceLT, Nat.reduceSub, upc_s, up_upc, a2, a4, a5, g1, g2, g4, g5]
          refine nr_c (fun c => ?_) (fun c => ?_)
          · obtain ⟨h1, h2⟩ := alive (fun c2 => c c2.2)
            exact inn g _ g4 h1 h2
          · have hyes : z (21 + 6 * q) = 0 ∧ (z (16 + 6 * q) = 5 → z 1 ≤ z 4) ∧ z (6 + 2 * z (17 + 6 * q)) = np z q := ⟨hd, hm, c⟩
            have hx4 : upd g (21 + 6 * q) (nI (z 4 + 1)) (20 + 6 * q) = nI (z (20 + 6 * q)) := by rw [upd_n _ _ (by omega), g4]
            rw [hx4]
            try simp (disch := omega) only [lt0, lt1, lt2, lt3, lt4, lt5, lt6, lt7, lt8, lt9, lt10, lt11, lt12, lt13, lt14, lt15, lt16, lt17, lt18, lt19, lt20, lt21, lt22, lt23, lt24, lt25, lt26, lt27, lt28, lt29, lt30, lt31, lt32, lt33, lt34, lt35, lt36, lt37, lt38, lt39, lt40, lt41, lt42, lt43, lt44, lt45, lt46, lt47, lt48, lt49, lt50, lt51, lt52, lt53, lt54, lt55, lt56, lt57, lt58, lt59, lt60, lt61, lt62, lt63, lt64, lt97, lt98, lt99, lt100, lt107, lt110, lt114, lt115, lt116, lt119, lt122, lt208, lt255, lt999, lt1000, nI_add, pk_mul, nI_clamp, vp_t, nI_leI, nI_ltI, nI_eq, true_and, and_true, true_implies, false_implies, not_true_eq_false, not_false_eq_true, eq_self, implies_true, true_or, or_true, Nat.add_zero, Nat.reduceAdd, Nat.reduceMul, Nat.reduceEqDiff, Nat.reduceLeDiff, Nat.reduceLT, Nat.reduceSub]
            refine inn _ _ hx4 (hg.up ?_) ?_
            · unfold ndd
              rw [if_pos hyes]
            · show dc z q + 1 = dc z q + _
              rw [if_pos hyes]
      · refine k_X8_day_285_147 ?_
        try simp (disch := omega) only [lt0, lt1, lt2, lt3, lt4, lt5, lt6, lt7, lt8, lt9, lt10, lt11, lt12, lt13, lt14, lt15, lt16, lt17, lt18, lt19, lt20, lt21, lt22, lt23, lt24, lt25, lt26, lt27, lt28, lt29, lt30, lt31, lt32, lt33, lt34, lt35, lt36, lt37, lt38, lt39, lt40, lt41, lt42, lt43, lt44, lt45, lt46, lt47, lt48, lt49, lt50, lt51, lt52, lt53, lt54, lt55, lt56, lt57, lt58, lt59, lt60, lt61, lt62, lt63, lt64, lt97, lt98, lt99, lt100, lt107, lt110, lt114, lt115, lt116, lt119, lt122, lt208, lt255, lt999, lt1000, nI_add, pk_mul, nI_clamp, vp_t, nI_leI, nI_ltI, nI_eq, true_and, and_true, true_implies, false_implies, not_true_eq_false, not_false_eq_true, eq_self, implies_true, true_or, or_true, Nat.add_zero, Nat.reduceAdd, Nat.reduceMul, Nat.reduceEqDiff, Nat.reduceLeDiff, Nat.reduceLT, Nat.reduceSub, upc_s, up_upc, a2, a4, a5, g1, g2, g4, g5]
        rcases hm with ⟨rfl, hm⟩ | ⟨rfl, hm⟩
        · obtain ⟨h1, h2⟩ := alive (fun c => hm c.1)
          refine br_t rfl ?_
          exact inn g _ g4 h1 h2
        · refine br_f (by decide) (s_nameAt (Or.inr rfl) (show LM ((upc μ 285 g) 285) _ from hg) (by omega) (by rw [hu1]; omega) ?_)
          rw [hu1, hu2]
          try simp (disch := omega) only [lt0, lt1, lt2, lt3, lt4, lt5, lt6, lt7, lt8, lt9, lt10, lt11, lt12, lt13, lt14, lt15, lt16, lt17, lt18, lt19, lt20, lt21, lt22, lt23, lt24, lt25, lt26, lt27, lt28, lt29, lt30, lt31, lt32, lt33, lt34, lt35, lt36, lt37, lt38, lt39, lt40, lt41, lt42, lt43, lt44, lt45, lt46, lt47, lt48, lt49, lt50, lt51, lt52, lt53, lt54, lt55, lt56, lt57, lt58, lt59, lt60, lt61, lt62, lt63, lt64, lt97, lt98, lt99, lt100, lt107, lt110, lt114, lt115, lt116, lt119, lt122, lt208, lt255, lt999, lt1000, nI_add, pk_mul, nI_clamp, vp_t, nI_leI, nI_ltI, nI_eq, true_and, and_true, true_implies, false_implies, not_true_eq_false, not_false_eq_true, eq_self, implies_true, true_or, or_true, Nat.add_zero, Nat.reduceAdd, Nat.reduceMul, Nat.reduceEqDiff, Nat.reduceLeDiff, Nat.reduceLT, Nat.reduceSub, upc_s, up_upc, a2, a4, a5, g1, g2, g4, g5]
          refine nr_c (fun c => ?_) (fun c => ?_)
          · obtain ⟨h1, h2⟩ := alive (fun c2 => c c2.2)
            exact inn g _ g4 h1 h2
          · have hyes : z (21 + 6 * q) = 0 ∧ (z (16 + 6 * q) = 5 → z 1 ≤ z 4) ∧ z (6 + 2 * z (17 + 6 * q)) = np z q := ⟨hd, hm, c⟩
            have hx4 : upd g (21 + 6 * q) (nI (z 4 + 1)) (20 + 6 * q) = nI (z (20 + 6 * q)) := by rw [upd_n _ _ (by omega), g4]
            rw [hx4]
            try simp (disch := omega) only [lt0, lt1, lt2, lt3, lt4, lt5, lt6, lt7, lt8, lt9, lt10, lt11, lt12, lt13, lt14, lt15, lt16, lt17, lt18, lt19, lt20, lt21, lt22, lt23, lt24, lt25, lt26, lt27, lt28, lt29, lt30, lt31, lt32, lt33, lt34, lt35, lt36, lt37, lt38, lt39, lt40, lt41, lt42, lt43, lt44, lt45, lt46, lt47, lt48, lt49, lt50, lt51, lt52, lt53, lt54, lt55, lt56, lt57, lt58, lt59, lt60, lt61, lt62, lt63, lt64, lt97, lt98, lt99, lt100, lt107, lt110, lt114, lt115, lt116, lt119, lt122, lt208, lt255, lt999, lt1000, nI_add, pk_mul, nI_clamp, vp_t, nI_leI, nI_ltI, nI_eq, true_and, and_true, true_implies, false_implies, not_true_eq_false, not_false_eq_true, eq_self, implies_true, true_or, or_true, Nat.add_zero, Nat.reduceAdd, Nat.reduceMul, Nat.reduceEqDiff, Nat.reduceLeDiff, Nat.reduceLT, Nat.reduceSub]
            refine inn _ _ hx4 (hg.up ?_) ?_
            · unfold ndd
              rw [if_pos hyes]
            · show dc z q + 1 = dc z q + _
              rw [if_pos hyes]
    rcases hr with rfl | rfl
    · refine k_X8_day_283_72 ?_
      try simp (disch := omega) only [lt0, lt1, lt2, lt3, lt4, lt5, lt6, lt7, lt8, lt9, lt10, lt11, lt12, lt13, lt14, lt15, lt16, lt17, lt18, lt19, lt20, lt21, lt22, lt23, lt24, lt25, lt26, lt27, lt28, lt29, lt30, lt31, lt32, lt33, lt34, lt35, lt36, lt37, lt38, lt39, lt40, lt41, lt42, lt43, lt44, lt45, lt46, lt47, lt48, lt49, lt50, lt51, lt52, lt53, lt54, lt55, lt56, lt57, lt58, lt59, lt60, lt61, lt62, lt63, lt64, lt97, lt98, lt99, lt100, lt107, lt110, lt114, lt115, lt116, lt119, lt122, lt208, lt255, lt999, lt1000, nI_add, pk_mul, nI_clamp, vp_t, nI_leI, nI_ltI, nI_eq, true_and, and_true, true_implies, false_implies, not_true_eq_false, not_false_eq_true, eq_self, implies_true, true_or, or_true, Nat.add_zero, Nat.reduceAdd, Nat.reduceMul, Nat.reduceEqDiff, Nat.reduceLeDiff, Nat.reduceLT, Nat.reduceSub, upc_s, hf _, e3]
      refine br_f (by omega) (s_lives (Or.inl rfl) (show LM ((upc μ 283 f) 283) _ from hf) (by omega) (by omega) (fun c => ?_) (fun c => ?_))
      · rw [p5] at c
        refine br_t rfl ?_
        try simp (disch := omega) only [lt0, lt1, lt2, lt3, lt4, lt5, lt6, lt7, lt8, lt9, lt10, lt11, lt12, lt13, lt14, lt15, lt16, lt17, lt18, lt19, lt20, lt21, lt22, lt23, lt24, lt25, lt26, lt27, lt28, lt29, lt30, lt31, lt32, lt33, lt34, lt35, lt36, lt37, lt38, lt39, lt40, lt41, lt42, lt43, lt44, lt45, lt46, lt47, lt48, lt49, lt50, lt51, lt52, lt53, lt54, lt55, lt56, lt57, lt58, lt59, lt60, lt61, lt62, lt63, lt64, lt97, lt98, lt99, lt100, lt107, lt110, lt114, lt115, lt116, lt119, lt122, lt208, lt255, lt999, lt1000, nI_add, pk_mul, nI_clamp, vp_t, nI_leI, nI_ltI, nI_eq, true_and, and_true, true_implies, false_implies, not_true_eq_false, not_false_eq_true, eq_self, implies_true, true_or, or_true, Nat.add_zero, Nat.reduceAdd, Nat.reduceMul, Nat.reduceEqDiff, Nat.reduceLeDiff, Nat.reduceLT, Nat.reduceSub, upc_s, hf _, e3, e4, p4, a2, a4, a5, up_upc]
        have hnd : ndd z q = z (21 + 6 * q) := by
          unfold ndd
          rw [if_neg (fun c2 => c c2.1)]
        have hnp : np z q = z (18 + 6 * q) := by
          unfold np
          rw [if_neg (fun c2 => c c2.1)]
        have hlm : LM f (un (un (pz z q) (18 + 6 * q) (np z q)) (21 + 6 * q) (ndd z q)) := hf.cg (fun i _ => by
          rw [hnd, hnp]
          by_cases h9 : i = 21 + 6 * q
          · subst h9
            rw [un_s, p5]
          · rw [un_n _ _ h9]
            by_cases h8 : i = 18 + 6 * q
            · subst h8
              rw [un_s, p2]
            · rw [un_n _ _ h8])
        have hdc : dc z q = dc z (q + 1) := by
          show dc z q = dc z q + _
          rw [if_neg (fun c2 => c c2.1), Nat.add_zero]
        have h9 := fin f (dc z q) hlm hdc
        refine br_c (fun c3 => ?_) (fun c3 => ?_)
        · rw [sub_n (by omega), show z (20 + 6 * q) - 0 = z (20 + 6 * q) - 1 by omega]
          exact h9
        · rw [sub_n (by omega)]
          exact h9
      · rw [p5] at c
        refine br_f (by decide) ?_
        have hmay : ∀ (g : Nat → Int32), LM g (un (pz z q) (18 + 6 * q) (np z q)) → (¬ g (16 + 6 * q) = nI 5 → jX8_day (d + 3) K 147 [some (.ref 283), none, some (.int (nI (dc z q))), some (.int (nI q)), some (.int (nI (16 + 6 * q))), none] [.int (nI 1)] (upc μ 283 g)) ∧ (g (16 + 6 * q) = nI 5 → ((g 4 < g 1 → jX8_day (d + 3) K 147 [some (.ref 283), none, some (.int (nI (dc z q))), some (.int (nI q)), some (.int (nI (16 + 6 * q))), none] [.int (nI 0)] (upc μ 283 g)) ∧ (¬ g 4 < g 1 → jX8_day (d + 3) K 147 [some (.ref 283), none, some (.int (nI (dc z q))), some (.int (nI q)), some (.int (nI (16 + 6 * q))), none] [.int (nI 1)] (upc μ 283 g)))) := by
          intro g hg
          have g0 : g (16 + 6 * q) = nI (z (16 + 6 * q)) := by rw [hg _ (by omega), un_n _ _ (by omega), p0]
          have g4 : g 4 = nI (z 4) := by rw [hg _ (by omega), un_n _ _ (by omega), e4]
          have g1 : g 1 = nI (z 1) := by rw [hg _ (by omega), un_n _ _ (by omega), e1]
          rw [g0, g4, g1, nI_eq (by omega) (by omega), nI_ltI (by omega) (by omega)]
          refine nr_c (fun c5 => may g _ c hg (Or.inr ⟨rfl, fun h5 => absurd h5 c5⟩)) (fun c5 => br_c (fun c6 => may g _ c hg (Or.inl ⟨rfl, fun h5 => by have := h5 c5; omega⟩)) (fun c6 => may g _ c hg (Or.inr ⟨rfl, fun _ => by omega⟩)))
        try simp (disch := omega) only [lt0, lt1, lt2, lt3, lt4, lt5, lt6, lt7, lt8, lt9, lt10, lt11, lt12, lt13, lt14, lt15, lt16, lt17, lt18, lt19, lt20, lt21, lt22, lt23, lt24, lt25, lt26, lt27, lt28, lt29, lt30, lt31, lt32, lt33, lt34, lt35, lt36, lt37, lt38, lt39, lt40, lt41, lt42, lt43, lt44, lt45, lt46, lt47, lt48, lt49, lt50, lt51, lt52, lt53, lt54, lt55, lt56, lt57, lt58, lt59, lt60, lt61, lt62, lt63, lt64, lt97, lt98, lt99, lt100, lt107, lt110, lt114, lt115, lt116, lt119, lt122, lt208, lt255, lt999, lt1000, nI_add, pk_mul, nI_clamp, vp_t, nI_leI, nI_ltI, nI_eq, true_and, and_true, true_implies, false_implies, not_true_eq_false, not_false_eq_true, eq_self, implies_true, true_or, or_true, Nat.add_zero, Nat.reduceAdd, Nat.reduceMul, Nat.reduceEqDiff, Nat.reduceLeDiff, Nat.reduceLT, Nat.reduceSub, upc_s, hf _, e3, e4, p4, p2, a2, a4, a5, up_upc]
        refine br_c (fun c3 => ?_) (fun c3 => ?_)
        · refine s_goesTo (Or.inl rfl) (show LM ((upc μ 283 f) 283) _ from hf) (by omega) (by rw [e0]; omega) (by rw [e0]; omega) (by rw [e1]; omega) (by rw [p0]; omega) (by rw [p1]; omega) (by rw [p2, e0]; exact w3) (by rw [p3]; omega) (by rw [p1, pt, e0]; exact wt) ?_
          rw [gz_pz (by omega)]
          try simp (disch := omega) only [lt0, lt1, lt2, lt3, lt4, lt5, lt6, lt7, lt8, lt9, lt10, lt11, lt12, lt13, lt14, lt15, lt16, lt17, lt18, lt19, lt20, lt21, lt22, lt23, lt24, lt25, lt26, lt27, lt28, lt29, lt30, lt31, lt32, lt33, lt34, lt35, lt36, lt37, lt38, lt39, lt40, lt41, lt42, lt43, lt44, lt45, lt46, lt47, lt48, lt49, lt50, lt51, lt52, lt53, lt54, lt55, lt56, lt57, lt58, lt59, lt60, lt61, lt62, lt63, lt64, lt97, lt98, lt99, lt100, lt107, lt110, lt114, lt115, lt116, lt119, lt122, lt208, lt255, lt999, lt1000, nI_add, pk_mul, nI_clamp, vp_t, nI_leI, nI_ltI, nI_eq, true_and, and_true, true_implies, false_implies, not_true_eq_false, not_false_eq_true, eq_self, implies_true, true_or, or_true, Nat.add_zero, Nat.reduceAdd, Nat.reduceMul, Nat.reduceEqDiff, Nat.reduceLeDiff, Nat.reduceLT, Nat.reduceSub, upc_s, hf _, e3, e4, p4, p2, a2, a4, a5, up_upc]
          refine hmay _ (hf.up ?_)
          unfold np
          rw [if_pos ⟨c, by omega⟩]
        · refine hmay _ (hf.up ?_)
          unfold np
          rw [if_neg (fun c9 => c3 (by omega))]
    · refine k_X8_day_285_72 ?_
      try simp (disch := omega) only [lt0, lt1, lt2, lt3, lt4, lt5, lt6, lt7, lt8, lt9, lt10, lt11, lt12, lt13, lt14, lt15, lt16, lt17, lt18, lt19, lt20, lt21, lt22, lt23, lt24, lt25, lt26, lt27, lt28, lt29, lt30, lt31, lt32, lt33, lt34, lt35, lt36, lt37, lt38, lt39, lt40, lt41, lt42, lt43, lt44, lt45, lt46, lt47, lt48, lt49, lt50, lt51, lt52, lt53, lt54, lt55, lt56, lt57, lt58, lt59, lt60, lt61, lt62, lt63, lt64, lt97, lt98, lt99, lt100, lt107, lt110, lt114, lt115, lt116, lt119, lt122, lt208, lt255, lt999, lt1000, nI_add, pk_mul, nI_clamp, vp_t, nI_leI, nI_ltI, nI_eq, true_and, and_true, true_implies, false_implies, not_true_eq_false, not_false_eq_true, eq_self, implies_true, true_or, or_true, Nat.add_zero, Nat.reduceAdd, Nat.reduceMul, Nat.reduceEqDiff, Nat.reduceLeDiff, Nat.reduceLT, Nat.reduceSub, upc_s, hf _, e3]
      refine br_f (by omega) (s_lives (Or.inr rfl) (show LM ((upc μ 285 f) 285) _ from hf) (by omega) (by omega) (fun c => ?_) (fun c => ?_))
      · rw [p5] at c
        refine br_t rfl ?_
        try simp (disch := omega) only [lt0, lt1, lt2, lt3, lt4, lt5, lt6, lt7, lt8, lt9, lt10, lt11, lt12, lt13, lt14, lt15, lt16, lt17, lt18, lt19, lt20, lt21, lt22, lt23, lt24, lt25, lt26, lt27, lt28, lt29, lt30, lt31, lt32, lt33, lt34, lt35, lt36, lt37, lt38, lt39, lt40, lt41, lt42, lt43, lt44, lt45, lt46, lt47, lt48, lt49, lt50, lt51, lt52, lt53, lt54, lt55, lt56, lt57, lt58, lt59, lt60, lt61, lt62, lt63, lt64, lt97, lt98, lt99, lt100, lt107, lt110, lt114, lt115, lt116, lt119, lt122, lt208, lt255, lt999, lt1000, nI_add, pk_mul, nI_clamp, vp_t, nI_leI, nI_ltI, nI_eq, true_and, and_true, true_implies, false_implies, not_true_eq_false, not_false_eq_true, eq_self, implies_true, true_or, or_true, Nat.add_zero, Nat.reduceAdd, Nat.reduceMul, Nat.reduceEqDiff, Nat.reduceLeDiff, Nat.reduceLT, Nat.reduceSub, upc_s, hf _, e3, e4, p4, a2, a4, a5, up_upc]
        have hnd : ndd z q = z (21 + 6 * q) := by
          unfold ndd
          rw [if_neg (fun c2 => c c2.1)]
        have hnp : np z q = z (18 + 6 * q) := by
          unfold np
          rw [if_neg (fun c2 => c c2.1)]
        have hlm : LM f (un (un (pz z q) (18 + 6 * q) (np z q)) (21 + 6 * q) (ndd z q)) := hf.cg (fun i _ => by
          rw [hnd, hnp]
          by_cases h9 : i = 21 + 6 * q
          · subst h9
            rw [un_s, p5]
          · rw [un_n _ _ h9]
            by_cases h8 : i = 18 + 6 * q
            · subst h8
              rw [un_s, p2]
            · rw [un_n _ _ h8])
        have hdc : dc z q = dc z (q + 1) := by
          show dc z q = dc z q + _
          rw [if_neg (fun c2 => c c2.1), Nat.add_zero]
        have h9 := fin f (dc z q) hlm hdc
        refine br_c (fun c3 => ?_) (fun c3 => ?_)
        · rw [sub_n (by omega), show z (20 + 6 * q) - 0 = z (20 + 6 * q) - 1 by omega]
          exact h9
        · rw [sub_n (by omega)]
          exact h9
      · rw [p5] at c
        refine br_f (by decide) ?_
        have hmay : ∀ (g : Nat → Int32), LM g (un (pz z q) (18 + 6 * q) (np z q)) → (¬ g (16 + 6 * q) = nI 5 → jX8_day (d + 3) K 147 [some (.ref 285), none, some (.int (nI (dc z q))), some (.int (nI q)), some (.int (nI (16 + 6 * q))), none] [.int (nI 1)] (upc μ 285 g)) ∧ (g (16 + 6 * q) = nI 5 → ((g 4 < g 1 → jX8_day (d + 3) K 147 [some (.ref 285), none, some (.int (nI (dc z q))), some (.int (nI q)), some (.int (nI (16 + 6 * q))), none] [.int (nI 0)] (upc μ 285 g)) ∧ (¬ g 4 < g 1 → jX8_day (d + 3) K 147 [some (.ref 285), none, some (.int (nI (dc z q))), some (.int (nI q)), some (.int (nI (16 + 6 * q))), none] [.int (nI 1)] (upc μ 285 g)))) := by
          intro g hg
          have g0 : g (16 + 6 * q) = nI (z (16 + 6 * q)) := by rw [hg _ (by omega), un_n _ _ (by omega), p0]
          have g4 : g 4 = nI (z 4) := by rw [hg _ (by omega), un_n _ _ (by omega), e4]
          have g1 : g 1 = nI (z 1) := by rw [hg _ (by omega), un_n _ _ (by omega), e1]
          rw [g0, g4, g1, nI_eq (by omega) (by omega), nI_ltI (by omega) (by omega)]
          refine nr_c (fun c5 => may g _ c hg (Or.inr ⟨rfl, fun h5 => absurd h5 c5⟩)) (fun c5 => br_c (fun c6 => may g _ c hg (Or.inl ⟨rfl, fun h5 => by have := h5 c5; omega⟩)) (fun c6 => may g _ c hg (Or.inr ⟨rfl, fun _ => by omega⟩)))
        try simp (disch := omega) only [lt0, lt1, lt2, lt3, lt4, lt5, lt6, lt7, lt8, lt9, lt10, lt11, lt12, lt13, lt14, lt15, lt16, lt17, lt18, lt19, lt20, lt21, lt22, lt23, lt24, lt25, lt26, lt27, lt28, lt29, lt30, lt31, lt32, lt33, lt34, lt35, lt36, lt37, lt38, lt39, lt40, lt41, lt42, lt43, lt44, lt45, lt46, lt47, lt48, lt49, lt50, lt51, lt52, lt53, lt54, lt55, lt56, lt57, lt58, lt59, lt60, lt61, lt62, lt63, lt64, lt97, lt98, lt99, lt100, lt107, lt110, lt114, lt115, lt116, lt119, lt122, lt208, lt255, lt999, lt1000, nI_add, pk_mul, nI_clamp, vp_t, nI_leI, nI_ltI, nI_eq, true_and, and_true, true_implies, false_implies, not_true_eq_false, not_false_eq_true, eq_self, implies_true, true_or, or_true, Nat.add_zero, Nat.reduceAdd, Nat.reduceMul, Nat.reduceEqDiff, Nat.reduceLeDiff, Nat.reduceLT, Nat.reduceSub, upc_s, hf _, e3, e4, p4, p2, a2, a4, a5, up_upc]
        refine br_c (fun c3 => ?_) (fun c3 => ?_)
        · refine s_goesTo (Or.inr rfl) (show LM ((upc μ 285 f) 285) _ from hf) (by omega) (by rw [e0]; omega) (by rw [e0]; omega) (by rw [e1]; omega) (by rw [p0]; omega) (by rw [p1]; omega) (by rw [p2, e0]; exact w3) (by rw [p3]; omega) (by rw [p1, pt, e0]; exact wt) ?_
          rw [gz_pz (by omega)]
          try simp (disch := omega) only [lt0, lt1, lt2, lt3, lt4, lt5, lt6, lt7, lt8, lt9, lt10, lt11, lt12, lt13, lt14, lt15, lt16, lt17, lt18, lt19, lt20, lt21, lt22, lt23, lt24, lt25, lt26, lt27, lt28, lt29, lt30, lt31, lt32, lt33, lt34, lt35, lt36, lt37, lt38, lt39, lt40, lt41, lt42, lt43, lt44, lt45, lt46, lt47, lt48, lt49, lt50, lt51, lt52, lt53, lt54, lt55, lt56, lt57, lt58, lt59, lt60, lt61, lt62, lt63, lt64, lt97, lt98, lt99, lt100, lt107, lt110, lt114, lt115, lt116, lt119, lt122, lt208, lt255, lt999, lt1000, nI_add, pk_mul, nI_clamp, vp_t, nI_leI, nI_ltI, nI_eq, true_and, and_true, true_implies, false_implies, not_true_eq_false, not_false_eq_true, eq_self, implies_true, true_or, or_true, Nat.add_zero, Nat.reduceAdd, Nat.reduceMul, Nat.reduceEqDiff, Nat.reduceLeDiff, Nat.reduceLT, Nat.reduceSub, upc_s, hf _, e3, e4, p4, p2, a2, a4, a5, up_upc]
          refine hmay _ (hf.up ?_)
          unfold np
          rw [if_pos ⟨c, by omega⟩]
        · refine hmay _ (hf.up ?_)
          unfold np
          rw [if_neg (fun c9 => c3 (by omega))]

/-- a row behind a DAY in which the THINGS of s stand still -/
def dz (s : Nat) (z : Nat → Nat) : Nat → Nat := dz1 (tz s z (z 2))
/-- how many died in it -/
def dd (s : Nat) (z : Nat → Nat) : Nat := dc (tz s z (z 2)) (z 3)
theorem s_day {d : Nat} {μ : Mm} {K : Int32 → Mm → Prop} {r s : Nat} {z : Nat → Nat} (hr : r = 283 ∨ r = 285) (h : LM (μ r) z) (hz : VL z) (hs : s < 32) (k : ∀ f, LM f (dz s z) → K (nI (dd s z)) (upc μ r f)) : cI (cM (d + 4)) 135 [.ref r, .int (nI s)] μ K := by
  have h3 : tz s z (z 2) 3 = z 3 := tz_lo (by decide)
  have key : ∀ f, LM f (tz s z (z 2)) → jX8_day (d + 3) K 72 [some (.ref r), none, some (.int 0), some (.int 0), none, none] [] (upc μ r f) := by
    intro f hf
    refine s_day2 (n := z 3) (q := 0) hr (VL_tz hz) ?_ f (by rw [h3]; omega) (by rw [pz_0]; exact hf)
    intro g hg
    rw [h3]
    exact k g hg
  have h9 := s_day1 (d := d + 3) (μ := μ) hr hz hs key (z 2) 0 (μ r) (by omega) (by rw [tz_0]; exact h)
  rw [upc_id] at h9
  rcases hr with rfl | rfl
  · exact e_X8_day_283 h9
  · exact e_X8_day_285 h9
