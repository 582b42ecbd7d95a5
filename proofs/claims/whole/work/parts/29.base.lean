/-! ===== is it such a number? both sides ===== -/
theorem i_lt (a b : Int32) : a < b ↔ a.toInt < b.toInt := Int32.lt_iff_toInt_lt
theorem i_le (a b : Int32) : a ≤ b ↔ a.toInt ≤ b.toInt := Int32.le_iff_toInt_le
theorem l_lt (a b : Int64) : a < b ↔ a.toInt < b.toInt := Int64.lt_iff_toInt_lt
theorem l_le (a b : Int64) : a ≤ b ↔ a.toInt ≤ b.toInt := Int64.le_iff_toInt_le
theorem w_lt (a b : Int32) : a.toInt64 < b.toInt64 ↔ a < b := by rw [l_lt, i_lt, Int32.toInt_toInt64, Int32.toInt_toInt64]
theorem w_le (a b : Int32) : a.toInt64 ≤ b.toInt64 ↔ a ≤ b := by rw [l_le, i_le, Int32.toInt_toInt64, Int32.toInt_toInt64]
theorem nle {a b : Int32} : ¬ a ≤ b ↔ b < a := by rw [i_le, i_lt]; omega
theorem nlt {a b : Int32} : ¬ a < b ↔ b ≤ a := by rw [i_le, i_lt]; omega
theorem cmp_lt (a b : Int64) : lg_cmp a b < 0 ↔ a < b := by
  unfold lg_cmp
  by_cases h1 : a > b
  · rw [if_pos h1]
    exact ⟨fun h => absurd h (by decide), fun h => absurd (Int64.lt_trans h h1) (Int64.lt_irrefl)⟩
  · rw [if_neg h1]
    by_cases h2 : a = b
    · subst h2
      rw [if_pos rfl]
      exact ⟨fun h => absurd h (by decide), fun h => absurd h h1⟩
    · rw [if_neg h2]
      refine ⟨fun _ => ?_, fun _ => by decide⟩
      rw [gt_iff_lt, l_lt] at h1
      rw [l_lt]
      have : a.toInt ≠ b.toInt := fun e => h2 (Int64.toInt_inj.mp e)
      omega
theorem cmp_gt (a b : Int64) : 0 < lg_cmp a b ↔ b < a := by
  unfold lg_cmp
  by_cases h1 : a > b
  · rw [if_pos h1]
    exact ⟨fun _ => h1, fun _ => by decide⟩
  · rw [if_neg h1]
    by_cases h2 : a = b
    · rw [if_pos h2]
      exact ⟨fun h => absurd h (by decide), fun h => absurd h h1⟩
    · rw [if_neg h2]
      exact ⟨fun h => absurd h (by decide), fun h => absurd h h1⟩
/-- x is a number from a to b -/
def inR (x : Int32) (a b : Nat) : Prop := ∃ n, a ≤ n ∧ n ≤ b ∧ x = nI n
theorem rng {x : Int32} {a b : Nat} (ha : a < 5000) (hb : b < 5000) : (nI a ≤ x ∧ x ≤ nI b) ↔ inR x a b := by
  constructor
  · rintro ⟨h1, h2⟩
    rw [i_le, nI_toInt (by omega)] at h1 h2
    obtain ⟨j, hj, rfl⟩ := nI_of (x := x) (by rw [i_lt]; simp; omega)
    rw [nI_toInt hj] at h1 h2
    exact ⟨j, by omega, by omega, rfl⟩
  · rintro ⟨n, h1, h2, rfl⟩
    exact ⟨nI_le h1 (by omega), nI_le h2 (by omega)⟩
/-- x is a number below n -/
def inN (x : Int32) (n : Nat) : Prop := ∃ q, q < n ∧ x = nI q
theorem rngN {x : Int32} {n : Nat} (hn : n < 5000) : (nI 0 ≤ x ∧ x ≤ nI n - 1) ↔ inN x n := by
  cases n with
  | zero =>
    constructor
    · rintro ⟨h1, h2⟩
      have h3 : nI 0 - 1 = -1 := by decide
      rw [h3] at h2
      rw [i_le] at h1 h2
      have e1 : (nI 0).toInt = 0 := by decide
      have e2 : (-1 : Int32).toInt = -1 := by decide
      omega
    · rintro ⟨q, h, -⟩
      omega
  | succ n =>
    have e : nI (n + 1) - 1 = nI n := nI_pred n
    rw [e, rng (by decide) (by omega)]
    constructor
    · rintro ⟨q, -, h, rfl⟩
      exact ⟨q, by omega, rfl⟩
    · rintro ⟨q, h, rfl⟩
      exact ⟨q, by omega, by omega, rfl⟩
theorem s_outI {d : Nat} {μ : Mm} {K : Int32 → Mm → Prop} {x a b : Int32} (k0 : a ≤ x ∧ x ≤ b → K 0 μ) (k1 : ¬ (a ≤ x ∧ x ≤ b) → K 1 μ) : cI (cM (d + 1)) 92 [.int x, .int a, .int b] μ K := by
  refine e_X7_isOutside (br_c (fun c => ⟨Or.inr rfl, k1 (fun h => (nlt.mpr h.1) c)⟩) (fun c => br_c (fun c2 => ⟨Or.inl rfl, k0 ⟨nlt.mp c, c2⟩⟩) (fun c2 => ⟨Or.inr rfl, k1 (fun h => c2 h.2)⟩)))
theorem s_out {d : Nat} {μ : Mm} {K : Int32 → Mm → Prop} {x : Int32} {a b : Nat} (ha : a < 5000) (hb : b < 5000) (k0 : inR x a b → K 0 μ) (k1 : ¬ inR x a b → K 1 μ) : cI (cM (d + 1)) 92 [.int x, .int (nI a), .int (nI b)] μ K :=
  s_outI (fun h => k0 ((rng ha hb).mp h)) (fun h => k1 (fun c => h ((rng ha hb).mpr c)))
theorem s_inI {d : Nat} {μ : Mm} {K : Int32 → Mm → Prop} {x a b : Int32} {A B : Int64} (hA : A = a.toInt64) (hB : B = b.toInt64) (k1 : a ≤ x ∧ x ≤ b → K 1 μ) (k0 : ¬ (a ≤ x ∧ x ≤ b) → K 0 μ) : cI (cM (d + 1)) 105 [.long x.toInt64, .long A, .long B] μ K := by
  subst hA hB
  refine e_X8_in ?_
  rw [cmp_lt, cmp_gt, w_lt, w_lt]
  exact br_c (fun c => ⟨Or.inl rfl, k0 (fun h => (nlt.mpr h.1) c)⟩) (fun c => br_c (fun c2 => ⟨Or.inl rfl, k0 (fun h => (nlt.mpr h.2) c2)⟩) (fun c2 => ⟨Or.inr rfl, k1 ⟨nlt.mp c, nlt.mp c2⟩⟩))
theorem s_in {d : Nat} {μ : Mm} {K : Int32 → Mm → Prop} {x : Int32} {a b : Nat} {A B : Int64} (ha : a < 5000) (hb : b < 5000) (hA : A = (nI a).toInt64) (hB : B = (nI b).toInt64) (k1 : inR x a b → K 1 μ) (k0 : ¬ inR x a b → K 0 μ) : cI (cM (d + 1)) 105 [.long x.toInt64, .long A, .long B] μ K :=
  s_inI hA hB (fun h => k1 ((rng ha hb).mp h)) (fun h => k0 (fun c => h ((rng ha hb).mpr c)))
theorem s_isRow {d : Nat} {μ : Mm} {K : Int32 → Mm → Prop} {x : Int32} (k1 : inR x 0 7 → K 1 μ) (k0 : ¬ inR x 0 7 → K 0 μ) : cI (cM (d + 2)) 97 [.int x] μ K :=
  e_X7_isRow (s_out (a := 0) (b := 7) (by decide) (by decide) (fun h => nr_t rfl ⟨Or.inr rfl, k1 h⟩) (fun h => nr_f (by decide) ⟨Or.inl rfl, k0 h⟩))
theorem s_isRowM {d : Nat} {μ : Mm} {K : Int32 → Mm → Prop} {x : Int32} (k1 : inR x 0 7 → K 1 μ) (k0 : ¬ inR x 0 7 → K 0 μ) : cI (cM (d + 2)) 107 [.int x] μ K :=
  e_X8_isRow (s_in (a := 0) (b := 7) (by decide) (by decide) rfl rfl (fun h => ⟨Or.inr rfl, k1 h⟩) (fun h => ⟨Or.inl rfl, k0 h⟩))
theorem s_isPerson {d : Nat} {μ : Mm} {K : Int32 → Mm → Prop} {x : Int32} {n : Nat} (h : μ 16 4 = nI n) (hn : n < 5000) (k1 : inN x n → K 1 μ) (k0 : ¬ inN x n → K 0 μ) : cI (cM (d + 2)) 98 [.ref 0, .int x] μ K := by
  refine e_X7_isPerson ?_
  rw [h]
  exact s_outI (fun c => nr_t rfl ⟨Or.inr rfl, k1 ((rngN hn).mp c)⟩) (fun c => nr_f (by decide) ⟨Or.inl rfl, k0 (fun c2 => c ((rngN hn).mpr c2))⟩)
theorem s_isThing {d : Nat} {μ : Mm} {K : Int32 → Mm → Prop} {x : Int32} {n : Nat} (h : μ 16 3 = nI n) (hn : n < 5000) (k1 : inN x n → K 1 μ) (k0 : ¬ inN x n → K 0 μ) : cI (cM (d + 2)) 99 [.ref 0, .int x] μ K := by
  refine e_X7_isThing ?_
  rw [h]
  exact s_outI (fun c => nr_t rfl ⟨Or.inr rfl, k1 ((rngN hn).mp c)⟩) (fun c => nr_f (by decide) ⟨Or.inl rfl, k0 (fun c2 => c ((rngN hn).mpr c2))⟩)
theorem s_isPlace {d : Nat} {μ : Mm} {K : Int32 → Mm → Prop} {x : Int32} {n : Nat} (h : μ 16 0 = nI n) (hn : n < 5000) (k1 : inN x n → K 1 μ) (k0 : ¬ inN x n → K 0 μ) : cI (cM (d + 2)) 100 [.ref 0, .int x] μ K := by
  refine e_X7_isPlace ?_
  rw [h]
  exact s_outI (fun c => nr_t rfl ⟨Or.inr rfl, k1 ((rngN hn).mp c)⟩) (fun c => nr_f (by decide) ⟨Or.inl rfl, k0 (fun c2 => c ((rngN hn).mpr c2))⟩)
theorem s_isPersonM {d : Nat} {μ : Mm} {K : Int32 → Mm → Prop} {x : Int32} {n : Nat} (h : μ 283 3 = nI n) (hn : n < 5000) (k1 : inN x n → K 1 μ) (k0 : ¬ inN x n → K 0 μ) : cI (cM (d + 2)) 128 [.ref 279, .int x] μ K := by
  refine e_X8_isPerson ⟨vp_in_nI (n := 3) (by decide) (by decide), ?_⟩
  rw [show (3 : Int32).toNatClampNeg = 3 from rfl, h]
  exact s_inI (a := 0) rfl rfl (fun c => ⟨Or.inr rfl, k1 ((rngN hn).mp c)⟩) (fun c => ⟨Or.inl rfl, k0 (fun c2 => c ((rngN hn).mpr c2))⟩)
theorem s_isThingM {d : Nat} {μ : Mm} {K : Int32 → Mm → Prop} {x : Int32} {n : Nat} (h : μ 283 2 = nI n) (hn : n < 5000) (k1 : inN x n → K 1 μ) (k0 : ¬ inN x n → K 0 μ) : cI (cM (d + 2)) 129 [.ref 279, .int x] μ K := by
  refine e_X8_isThing ⟨vp_in_nI (n := 2) (by decide) (by decide), ?_⟩
  rw [show (2 : Int32).toNatClampNeg = 2 from rfl, h]
  exact s_inI (a := 0) rfl rfl (fun c => ⟨Or.inr rfl, k1 ((rngN hn).mp c)⟩) (fun c => ⟨Or.inl rfl, k0 (fun c2 => c ((rngN hn).mpr c2))⟩)
theorem s_isPlaceM {d : Nat} {μ : Mm} {K : Int32 → Mm → Prop} {x : Int32} {n : Nat} (h : μ 283 0 = nI n) (hn : n < 5000) (k1 : inN x n → K 1 μ) (k0 : ¬ inN x n → K 0 μ) : cI (cM (d + 2)) 130 [.ref 279, .int x] μ K := by
  refine e_X8_isPlace ⟨vp_in_nI (n := 0) (by decide) (by decide), ?_⟩
  rw [show (0 : Int32).toNatClampNeg = 0 from rfl, h]
  exact s_inI (a := 0) rfl rfl (fun c => ⟨Or.inr rfl, k1 ((rngN hn).mp c)⟩) (fun c => ⟨Or.inl rfl, k0 (fun c2 => c ((rngN hn).mpr c2))⟩)
theorem s_orNone {d : Nat} {μ : Mm} {K : Int32 → Mm → Prop} {n : Nat} (hn : n ≤ 61) (k : K (orN n) μ) : cI (cM (d + 1)) 94 [.int (nI n)] μ K := by
  refine e_X7_orNone ?_
  unfold orN at k
  rw [show (61 : Int32) = nI 61 from rfl, nI_ltI (by omega) (by omega)]
  by_cases c : n = 61
  · rw [if_pos c] at k
    exact br_f (by omega) k
  · rw [if_neg c] at k
    exact br_t (by omega) k
theorem s_isThere {d : Nat} {μ : Mm} {K : Int32 → Mm → Prop} {p n : Nat} (hp : ob p = 4) (h : μ p 0 = nI n) (hn : n < 5000) (k1 : 0 < n → K 1 μ) (k0 : n = 0 → K 0 μ) : cI (cM (d + 1)) 22 [.ref p] μ K := by
  refine e_X4_isThere ?_
  rw [hp, h]
  show (nI n ≤ 0 → _) ∧ _
  rw [show (0 : Int32) = nI 0 from rfl, nI_leI (by omega) (by omega)]
  exact br_c (fun c => ⟨Or.inl rfl, k0 (by omega)⟩) (fun c => ⟨Or.inr rfl, k1 (by omega)⟩)
theorem s_isThereM {d : Nat} {μ : Mm} {K : Int32 → Mm → Prop} {n : Nat} (h : μ 283 0 = nI n) (hn : n < 5000) (k1 : 0 < n → K 1 μ) (k0 : n = 0 → K 0 μ) : cI (cM (d + 1)) 127 [.ref 279] μ K := by
  refine e_X8_isThere ⟨vp_in_nI (n := 0) (by decide) (by decide), ?_⟩
  rw [show (0 : Int32).toNatClampNeg = 0 from rfl, h, show (0 : Int32) = nI 0 from rfl, nI_leI (by omega) (by omega)]
  exact br_c (fun c => ⟨Or.inl rfl, k0 (by omega)⟩) (fun c => ⟨Or.inr rfl, k1 (by omega)⟩)
/-- the class looks one PERSON of a Land out -/
theorem s_callAfter' {d : Nat} {μ : Mm} {K : Mm → Prop} {f L t : Nat} {z : Nat → Nat} {g : Nat → Int32} (hfl : (f = 271 ∧ L = 16) ∨ (f = 272 ∧ L = 16) ∨ (f = 274 ∧ L = 16) ∨ (f = 271 ∧ L = 25)) (h : LR μ L z) (v2 : z 2 ≤ 5) (v5 : z 5 < 32) (ht : t < z 2)
    (k : K (upc μ f (upd (upd g 3 (nI (z (6 + 2 * t)))) 4 (nI (if z 5 / 2 ^ t % 2 = 0 then z (7 + 2 * t) else 0))))) : cV (cM (d + 2)) 13 [.ref f, .ref L, .int (nI t)] (upc μ f g) K := by
  obtain ⟨r0, r1, r2, r3, r4, r5, r6, r7, r8⟩ := h
  obtain ⟨t1, t2⟩ := r7 t ht
  rcases hfl with ⟨rfl, rfl⟩ | ⟨rfl, rfl⟩ | ⟨rfl, rfl⟩ | ⟨rfl, rfl⟩
  · refine e_X2_callAfter_271_16 ?_
    try simp (disch := omega) only [lt0, lt1, lt2, lt3, lt4, lt5, lt6, lt7, lt8, lt9, lt10, lt11, lt12, lt13, lt14, lt15, lt16, lt17, lt18, lt19, lt20, lt21, lt22, lt23, lt24, lt25, lt26, lt27, lt28, lt29, lt30, lt31, lt32, lt33, lt34, lt35, lt36, lt37, lt38, lt39, lt40, lt41, lt42, lt43, lt44, lt45, lt46, lt47, lt48, lt49, lt50, lt51, lt52, lt53, lt54, lt55, lt56, lt57, lt58, lt59, lt60, lt61, lt62, lt63, lt64, lt97, lt98, lt99, lt100, lt107, lt110, lt114, lt115, lt116, lt119, lt122, lt208, lt255, lt999, lt1000, nI_add, pk_mul, nI_clamp, vp_t, nI_leI, nI_ltI, nI_eq, true_and, and_true, true_implies, false_implies, not_true_eq_false, not_false_eq_true, eq_self, implies_true, true_or, or_true, Nat.add_zero, Nat.reduceAdd, Nat.reduceMul, Nat.reduceEqDiff, Nat.reduceLeDiff, Nat.reduceLT, Nat.reduceSub, up_eq, upc_s, upc_n, upc_upc, t1]
    refine s_isNailed (n := z 5) (by decide) r5 v5 (by omega) (fun c => ?_) (fun c => ?_)
    · rw [if_pos c] at k
      try simp (disch := omega) only [lt0, lt1, lt2, lt3, lt4, lt5, lt6, lt7, lt8, lt9, lt10, lt11, lt12, lt13, lt14, lt15, lt16, lt17, lt18, lt19, lt20, lt21, lt22, lt23, lt24, lt25, lt26, lt27, lt28, lt29, lt30, lt31, lt32, lt33, lt34, lt35, lt36, lt37, lt38, lt39, lt40, lt41, lt42, lt43, lt44, lt45, lt46, lt47, lt48, lt49, lt50, lt51, lt52, lt53, lt54, lt55, lt56, lt57, lt58, lt59, lt60, lt61, lt62, lt63, lt64, lt97, lt98, lt99, lt100, lt107, lt110, lt114, lt115, lt116, lt119, lt122, lt208, lt255, lt999, lt1000, nI_add, pk_mul, nI_clamp, vp_t, nI_leI, nI_ltI, nI_eq, true_and, and_true, true_implies, false_implies, not_true_eq_false, not_false_eq_true, eq_self, implies_true, true_or, or_true, Nat.add_zero, Nat.reduceAdd, Nat.reduceMul, Nat.reduceEqDiff, Nat.reduceLeDiff, Nat.reduceLT, Nat.reduceSub, up_eq, upc_s, upc_n, upc_upc, t2]
      exact k
    · rw [if_neg c] at k
      try simp (disch := omega) only [lt0, lt1, lt2, lt3, lt4, lt5, lt6, lt7, lt8, lt9, lt10, lt11, lt12, lt13, lt14, lt15, lt16, lt17, lt18, lt19, lt20, lt21, lt22, lt23, lt24, lt25, lt26, lt27, lt28, lt29, lt30, lt31, lt32, lt33, lt34, lt35, lt36, lt37, lt38, lt39, lt40, lt41, lt42, lt43, lt44, lt45, lt46, lt47, lt48, lt49, lt50, lt51, lt52, lt53, lt54, lt55, lt56, lt57, lt58, lt59, lt60, lt61, lt62, lt63, lt64, lt97, lt98, lt99, lt100, lt107, lt110, lt114, lt115, lt116, lt119, lt122, lt208, lt255, lt999, lt1000, nI_add, pk_mul, nI_clamp, vp_t, nI_leI, nI_ltI, nI_eq, true_and, and_true, true_implies, false_implies, not_true_eq_false, not_false_eq_true, eq_self, implies_true, true_or, or_true, Nat.add_zero, Nat.reduceAdd, Nat.reduceMul, Nat.reduceEqDiff, Nat.reduceLeDiff, Nat.reduceLT, Nat.reduceSub, up_eq, upc_s, upc_n, upc_upc, t2]
      exact k
  · refine e_X2_callAfter_272_16 ?_
    try simp (disch := omega) only [lt0, lt1, lt2, lt3, lt4, lt5, lt6, lt7, lt8, lt9, lt10, lt11, lt12, lt13, lt14, lt15, lt16, lt17, lt18, lt19, lt20, lt21, lt22, lt23, lt24, lt25, lt26, lt27, lt28, lt29, lt30, lt31, lt32, lt33, lt34, lt35, lt36, lt37, lt38, lt39, lt40, lt41, lt42, lt43, lt44, lt45, lt46, lt47, lt48, lt49, lt50, lt51, lt52, lt53, lt54, lt55, lt56, lt57, lt58, lt59, lt60, lt61, lt62, lt63, lt64, lt97, lt98, lt99, lt100, lt107, lt110, lt114, lt115, lt116, lt119, lt122, lt208, lt255, lt999, lt1000, nI_add, pk_mul, nI_clamp, vp_t, nI_leI, nI_ltI, nI_eq, true_and, and_true, true_implies, false_implies, not_true_eq_false, not_false_eq_true, eq_self, implies_true, true_or, or_true, Nat.add_zero, Nat.reduceAdd, Nat.reduceMul, Nat.reduceEqDiff, Nat.reduceLeDiff, Nat.reduceLT, Nat.reduceSub, up_eq, upc_s, upc_n, upc_upc, t1]
    refine s_isNailed (n := z 5) (by decide) r5 v5 (by omega) (fun c => ?_) (fun c => ?_)
    · rw [if_pos c] at k
      try simp (disch := omega) only [lt0, lt1, lt2, lt3, lt4, lt5, lt6, lt7, lt8, lt9, lt10, lt11, lt12, lt13, lt14, lt15, lt16, lt17, lt18, lt19, lt20, lt21, lt22, lt23, lt24, lt25, lt26, lt27, lt28, lt29, lt30, lt31, lt32, lt33, lt34, lt35, lt36, lt37, lt38, lt39, lt40, lt41, lt42, lt43, lt44, lt45, lt46, lt47, lt48, lt49, lt50, lt51, lt52, lt53, lt54, lt55, lt56, lt57, lt58, lt59, lt60, lt61, lt62, lt63, lt64, lt97, lt98, lt99, lt100, lt107, lt110, lt114, lt115, lt116, lt119, lt122, lt208, lt255, lt999, lt1000, nI_add, pk_mul, nI_clamp, vp_t, nI_leI, nI_ltI, nI_eq, true_and, and_true, true_implies, false_implies, not_true_eq_false, not_false_eq_true, eq_self, implies_true, true_or, or_true, Nat.add_zero, Nat.reduceAdd, Nat.reduceMul, Nat.reduceEqDiff, Nat.reduceLeDiff, Nat.reduceLT, Nat.reduceSub, up_eq, upc_s, upc_n, upc_upc, t2]
      exact k
    · rw [if_neg c] at k
      try simp (disch := omega) only [lt0, lt1, lt2, lt3, lt4, lt5, lt6, lt7, lt8, lt9, lt10, lt11, lt12, lt13, lt14, lt15, lt16, lt17, lt18, lt19, lt20, lt21, lt22, lt23, lt24, lt25, lt26, lt27, lt28, lt29, lt30, lt31, lt32, lt33, lt34, lt35, lt36, lt37, lt38, lt39, lt40, lt41, lt42, lt43, lt44, lt45, lt46, lt47, lt48, lt49, lt50, lt51, lt52, lt53, lt54, lt55, lt56, lt57, lt58, lt59, lt60, lt61, lt62, lt63, lt64, lt97, lt98, lt99, lt100, lt107, lt110, lt114, lt115, lt116, lt119, lt122, lt208, lt255, lt999, lt1000, nI_add, pk_mul, nI_clamp, vp_t, nI_leI, nI_ltI, nI_eq, true_and, and_true, true_implies, false_implies, not_true_eq_false, not_false_eq_true, eq_self, implies_true, true_or, or_true, Nat.add_zero, Nat.reduceAdd, Nat.reduceMul, Nat.reduceEqDiff, Nat.reduceLeDiff, Nat.reduceLT, Nat.reduceSub, up_eq, upc_s, upc_n, upc_upc, t2]
      exact k
  · refine e_X2_callAfter_274_16 ?_
    try simp (disch := omega) only [lt0, lt1, lt2, lt3, lt4, lt5, lt6, lt7, lt8, lt9, lt10, lt11, lt12, lt13, lt14, lt15, lt16, lt17, lt18, lt19, lt20, lt21, lt22, lt23, lt24, lt25, lt26, lt27, lt28, lt29, lt30, lt31, lt32, lt33, lt34, lt35, lt36, lt37, lt38, lt39, lt40, lt41, lt42, lt43, lt44, lt45, lt46, lt47, lt48, lt49, lt50, lt51, lt52, lt53, lt54, lt55, lt56, lt57, lt58, lt59, lt60, lt61, lt62, lt63, lt64, lt97, lt98, lt99, lt100, lt107, lt110, lt114, lt115, lt116, lt119, lt122, lt208, lt255, lt999, lt1000, nI_add, pk_mul, nI_clamp, vp_t, nI_leI, nI_ltI, nI_eq, true_and, and_true, true_implies, false_implies, not_true_eq_false, not_false_eq_true, eq_self, implies_true, true_or, or_true, Nat.add_zero, Nat.reduceAdd, Nat.reduceMul, Nat.reduceEqDiff, Nat.reduceLeDiff, Nat.reduceLT, Nat.reduceSub, up_eq, upc_s, upc_n, upc_upc, t1]
    refine s_isNailed (n := z 5) (by decide) r5 v5 (by omega) (fun c => ?_) (fun c => ?_)
    · rw [if_pos c] at k
      try simp (disch := omega) only [lt0, lt1, lt2, lt3, lt4, lt5, lt6, lt7, lt8, lt9, lt10, lt11, lt12, lt13, lt14, lt15, lt16, lt17, lt18, lt19, lt20, lt21, lt22, lt23, lt24, lt25, lt26, lt27, lt28, lt29, lt30, lt31, lt32, lt33, lt34, lt35, lt36, lt37, lt38, lt39, lt40, lt41, lt42, lt43, lt44, lt45, lt46, lt47, lt48, lt49, lt50, lt51, lt52, lt53, lt54, lt55, lt56, lt57, lt58, lt59, lt60, lt61, lt62, lt63, lt64, lt97, lt98, lt99, lt100, lt107, lt110, lt114, lt115, lt116, lt119, lt122, lt208, lt255, lt999, lt1000, nI_add, pk_mul, nI_clamp, vp_t, nI_leI, nI_ltI, nI_eq, true_and, and_true, true_implies, false_implies, not_true_eq_false, not_false_eq_true, eq_self, implies_true, true_or, or_true, Nat.add_zero, Nat.reduceAdd, Nat.reduceMul, Nat.reduceEqDiff, Nat.reduceLeDiff, Nat.reduceLT, Nat.reduceSub, up_eq, upc_s, upc_n, upc_upc, t2]
      exact k
    · rw [if_neg c] at k
      try simp (disch := omega) only [lt0, lt1, lt2, lt3, lt4, lt5, lt6, lt7, lt8, lt9, lt10, lt11, lt12, lt13, lt14, lt15, lt16, lt17, lt18, lt19, lt20, lt21, lt22, lt23, lt24, lt25, lt26, lt27, lt28, lt29, lt30, lt31, lt32, lt33, lt34, lt35, lt36, lt37, lt38, lt39, lt40, lt41, lt42, lt43, lt44, lt45, lt46, lt47, lt48, lt49, lt50, lt51, lt52, lt53, lt54, lt55, lt56, lt57, lt58, lt59, lt60, lt61, lt62, lt63, lt64, lt97, lt98, lt99, lt100, lt107, lt110, lt114, lt115, lt116, lt119, lt122, lt208, lt255, lt999, lt1000, nI_add, pk_mul, nI_clamp, vp_t, nI_leI, nI_ltI, nI_eq, true_and, and_true, true_implies, false_implies, not_true_eq_false, not_false_eq_true, eq_self, implies_true, true_or, or_true, Nat.add_zero, Nat.reduceAdd, Nat.reduceMul, Nat.reduceEqDiff, Nat.reduceLeDiff, Nat.reduceLT, Nat.reduceSub, up_eq, upc_s, upc_n, upc_upc, t2]
      exact k
  · refine e_X2_callAfter_271_25 ?_
    try simp (disch := omega) only [lt0, lt1, lt2, lt3, lt4, lt5, lt6, lt7, lt8, lt9, lt10, lt11, lt12, lt13, lt14, lt15, lt16, lt17, lt18, lt19, lt20, lt21, lt22, lt23, lt24, lt25, lt26, lt27, lt28, lt29, lt30, lt31, lt32, lt33, lt34, lt35, lt36, lt37, lt38, lt39, lt40, lt41, lt42, lt43, lt44, lt45, lt46, lt47, lt48, lt49, lt50, lt51, lt52, lt53, lt54, lt55, lt56, lt57, lt58, lt59, lt60, lt61, lt62, lt63, lt64, lt97, lt98, lt99, lt100, lt107, lt110, lt114, lt115, lt116, lt119, lt122, lt208, lt255, lt999, lt1000, nI_add, pk_mul, nI_clamp, vp_t, nI_leI, nI_ltI, nI_eq, true_and, and_true, true_implies, false_implies, not_true_eq_false, not_false_eq_true, eq_self, implies_true, true_or, or_true, Nat.add_zero, Nat.reduceAdd, Nat.reduceMul, Nat.reduceEqDiff, Nat.reduceLeDiff, Nat.reduceLT, Nat.reduceSub, up_eq, upc_s, upc_n, upc_upc, t1]
    refine s_isNailed (n := z 5) (by decide) r5 v5 (by omega) (fun c => ?_) (fun c => ?_)
    · rw [if_pos c] at k
      try simp (disch := omega) only [lt0, lt1, lt2, lt3, lt4, lt5, lt6, lt7, lt8, lt9, lt10, lt11, lt12, lt13, lt14, lt15, lt16, lt17, lt18, lt19, lt20, lt21, lt22, lt23, lt24, lt25, lt26, lt27, lt28, lt29, lt30, lt31, lt32, lt33, lt34, lt35, lt36, lt37, lt38, lt39, lt40, lt41, lt42, lt43, lt44, lt45, lt46, lt47, lt48, lt49, lt50, lt51, lt52, lt53, lt54, lt55, lt56, lt57, lt58, lt59, lt60, lt61, lt62, lt63, lt64, lt97, lt98, lt99, lt100, lt107, lt110, lt114, lt115, lt116, lt119, lt122, lt208, lt255, lt999, lt1000, nI_add, pk_mul, nI_clamp, vp_t, nI_leI, nI_ltI, nI_eq, true_and, and_true, true_implies, false_implies, not_true_eq_false, not_false_eq_true, eq_self, implies_true, true_or, or_true, Nat.add_zero, Nat.reduceAdd, Nat.reduceMul, Nat.reduceEqDiff, Nat.reduceLeDiff, Nat.reduceLT, Nat.reduceSub, up_eq, upc_s, upc_n, upc_upc, t2]
      exact k
    · rw [if_neg c] at k
      try simp (disch := omega) only [lt0, lt1, lt2, lt3, lt4, lt5, lt6, lt7, lt8, lt9, lt10, lt11, lt12, lt13, lt14, lt15, lt16, lt17, lt18, lt19, lt20, lt21, lt22, lt23, lt24, lt25, lt26, lt27, lt28, lt29, lt30, lt31, lt32, lt33, lt34, lt35, lt36, lt37, lt38, lt39, lt40, lt41, lt42, lt43, lt44, lt45, lt46, lt47, lt48, lt49, lt50, lt51, lt52, lt53, lt54, lt55, lt56, lt57, lt58, lt59, lt60, lt61, lt62, lt63, lt64, lt97, lt98, lt99, lt100, lt107, lt110, lt114, lt115, lt116, lt119, lt122, lt208, lt255, lt999, lt1000, nI_add, pk_mul, nI_clamp, vp_t, nI_leI, nI_ltI, nI_eq, true_and, and_true, true_implies, false_implies, not_true_eq_false, not_false_eq_true, eq_self, implies_true, true_or, or_true, Nat.add_zero, Nat.reduceAdd, Nat.reduceMul, Nat.reduceEqDiff, Nat.reduceLeDiff, Nat.reduceLT, Nat.reduceSub, up_eq, upc_s, upc_n, upc_upc, t2]
      exact k
theorem s_begin' {d : Nat} {μ : Mm} {K : Mm → Prop} {f L q : Nat} {z : Nat → Nat} (hfl : (f = 271 ∧ L = 16) ∨ (f = 272 ∧ L = 16) ∨ (f = 274 ∧ L = 16) ∨ (f = 271 ∧ L = 25)) (h : LR μ L z) (v2 : z 2 ≤ 5) (v3 : z 3 ≤ 7) (v5 : z 5 < 32) (w2 : z (17 + 6 * q) < z 2) (hq : q < z 3) (k : ∀ x, FM x (pj z q) → K (upc μ f x)) : cV (cM (d + 3)) 12 [.ref f, .ref L, .int (nI q)] μ K := by
  have h' := h
  obtain ⟨r0, r1, r2, r3, r4, r5, r6, r7, r8⟩ := h
  obtain ⟨q0, q1, q2, q3, q4, q5⟩ := r8 q hq
  have fin : ∀ (g : Nat → Int32) (lv : Nat), lv = (if z (21 + 6 * q) = 0 then 1 else 0) → K (upc μ f (upd (upd (upd (upd (upd (upd (upd (upd (upd (upd g 0 (nI (z 0))) 1 (nI (z 1))) 2 (nI (z 4))) 5 (nI (z (16 + 6 * q)))) 6 (nI (z (18 + 6 * q)))) 7 (nI (z (19 + 6 * q)))) 8 (nI (z (20 + 6 * q)))) 9 (nI lv)) 3 (nI (z (6 + 2 * z (17 + 6 * q))))) 4 (nI (if z 5 / 2 ^ z (17 + 6 * q) % 2 = 0 then z (7 + 2 * z (17 + 6 * q)) else 0)))) := by
    intro g lv hlv
    subst hlv
    refine k _ (fun j hj => ?_)
    rcases (show j = 0 ∨ j = 1 ∨ j = 2 ∨ j = 3 ∨ j = 4 ∨ j = 5 ∨ j = 6 ∨ j = 7 ∨ j = 8 ∨ j = 9 by omega) with rfl | rfl | rfl | rfl | rfl | rfl | rfl | rfl | rfl | rfl <;> rfl
  rcases hfl with ⟨rfl, rfl⟩ | ⟨rfl, rfl⟩ | ⟨rfl, rfl⟩ | ⟨rfl, rfl⟩
  · refine e_X2_begin_271_16 ?_
    try simp (disch := omega) only [lt0, lt1, lt2, lt3, lt4, lt5, lt6, lt7, lt8, lt9, lt10, lt11, lt12, lt13, lt14, lt15, lt16, lt17, lt18, lt19, lt20, lt21, lt22, lt23, lt24, lt25, lt26, lt27, lt28, lt29, lt30, lt31, lt32, lt33, lt34, lt35, lt36, lt37, lt38, lt39, lt40, lt41, lt42, lt43, lt44, lt45, lt46, lt47, lt48, lt49, lt50, lt51, lt52, lt53, lt54, lt55, lt56, lt57, lt58, lt59, lt60, lt61, lt62, lt63, lt64, lt97, lt98, lt99, lt100, lt107, lt110, lt114, lt115, lt116, lt119, lt122, lt208, lt255, lt999, lt1000, nI_add, pk_mul, nI_clamp, vp_t, nI_leI, nI_ltI, nI_eq, true_and, and_true, true_implies, false_implies, not_true_eq_false, not_false_eq_true, eq_self, implies_true, true_or, or_true, Nat.add_zero, Nat.reduceAdd, Nat.reduceMul, Nat.reduceEqDiff, Nat.reduceLeDiff, Nat.reduceLT, Nat.reduceSub, up_eq, upc_s, upc_n, upc_upc, r0, r1, r2, q0, q2, q3, q4]
    refine s_isLiving (z := z) (by decide) r6 v3 hq (fun c => ?_) (fun c => ?_)
    · try simp (disch := omega) only [lt0, lt1, lt2, lt3, lt4, lt5, lt6, lt7, lt8, lt9, lt10, lt11, lt12, lt13, lt14, lt15, lt16, lt17, lt18, lt19, lt20, lt21, lt22, lt23, lt24, lt25, lt26, lt27, lt28, lt29, lt30, lt31, lt32, lt33, lt34, lt35, lt36, lt37, lt38, lt39, lt40, lt41, lt42, lt43, lt44, lt45, lt46, lt47, lt48, lt49, lt50, lt51, lt52, lt53, lt54, lt55, lt56, lt57, lt58, lt59, lt60, lt61, lt62, lt63, lt64, lt97, lt98, lt99, lt100, lt107, lt110, lt114, lt115, lt116, lt119, lt122, lt208, lt255, lt999, lt1000, nI_add, pk_mul, nI_clamp, vp_t, nI_leI, nI_ltI, nI_eq, true_and, and_true, true_implies, false_implies, not_true_eq_false, not_false_eq_true, eq_self, implies_true, true_or, or_true, Nat.add_zero, Nat.reduceAdd, Nat.reduceMul, Nat.reduceEqDiff, Nat.reduceLeDiff, Nat.reduceLT, Nat.reduceSub, up_eq, upc_s, upc_n, upc_upc, q1]
      exact s_callAfter' (by decide) h' v2 v5 w2 (fin _ 0 (by rw [if_neg c]))
    · try simp (disch := omega) only [lt0, lt1, lt2, lt3, lt4, lt5, lt6, lt7, lt8, lt9, lt10, lt11, lt12, lt13, lt14, lt15, lt16, lt17, lt18, lt19, lt20, lt21, lt22, lt23, lt24, lt25, lt26, lt27, lt28, lt29, lt30, lt31, lt32, lt33, lt34, lt35, lt36, lt37, lt38, lt39, lt40, lt41, lt42, lt43, lt44, lt45, lt46, lt47, lt48, lt49, lt50, lt51, lt52, lt53, lt54, lt55, lt56, lt57, lt58, lt59, lt60, lt61, lt62, lt63, lt64, lt97, lt98, lt99, lt100, lt107, lt110, lt114, lt115, lt116, lt119, lt122, lt208, lt255, lt999, lt1000, nI_add, pk_mul, nI_clamp, vp_t, nI_leI, nI_ltI, nI_eq, true_and, and_true, true_implies, false_implies, not_true_eq_false, not_false_eq_true, eq_self, implies_true, true_or, or_true, Nat.add_zero, Nat.reduceAdd, Nat.reduceMul, Nat.reduceEqDiff, Nat.reduceLeDiff, Nat.reduceLT, Nat.reduceSub, up_eq, upc_s, upc_n, upc_upc, q1]
      exact s_callAfter' (by decide) h' v2 v5 w2 (fin _ 1 (by rw [if_pos c]))
  · refine e_X2_begin_272_16 ?_
    try simp (disch := omega) only [lt0, lt1, lt2, lt3, lt4, lt5, lt6, lt7, lt8, lt9, lt10, lt11, lt12, lt13, lt14, lt15, lt16, lt17, lt18, lt19, lt20, lt21, lt22, lt23, lt24, lt25, lt26, lt27, lt28, lt29, lt30, lt31, lt32, lt33, lt34, lt35, lt36, lt37, lt38, lt39, lt40, lt41, lt42, lt43, lt44, lt45, lt46, lt47, lt48, lt49, lt50, lt51, lt52, lt53, lt54, lt55, lt56, lt57, lt58, lt59, lt60, lt61, lt62, lt63, lt64, lt97, lt98, lt99, lt100, lt107, lt110, lt114, lt115, lt116, lt119, lt122, lt208, lt255, lt999, lt1000, nI_add, pk_mul, nI_clamp, vp_t, nI_leI, nI_ltI, nI_eq, true_and, and_true, true_implies, false_implies, not_true_eq_false, not_false_eq_true, eq_self, implies_true, true_or, or_true, Nat.add_zero, Nat.reduceAdd, Nat.reduceMul, Nat.reduceEqDiff, Nat.reduceLeDiff, Nat.reduceLT, Nat.reduceSub, up_eq, upc_s, upc_n, upc_upc, r0, r1, r2, q0, q2, q3, q4]
    refine s_isLiving (z := z) (by decide) r6 v3 hq (fun c => ?_) (fun c => ?_)
    · try simp (disch := omega) only [lt0, lt1, lt2, lt3, lt4, lt5, lt6, lt7, lt8, lt9, lt10, lt11, lt12, lt13, lt14, lt15, lt16, lt17, lt18, lt19, lt20, lt21, lt22, lt23, lt24, lt25, lt26, lt27, lt28, lt29, lt30, lt31, lt32, lt33, lt34, lt35, lt36, lt37, lt38, lt39, lt40, lt41, lt42, lt43, lt44, lt45, lt46, lt47, lt48, lt49, lt50, lt51, lt52, lt53, lt54, lt55, lt56, lt57, lt58, lt59, lt60, lt61, lt62, lt63, lt64, lt97, lt98, lt99, lt100, lt107, lt110, lt114, lt115, lt116, lt119, lt122, lt208, lt255, lt999, lt1000, nI_add, pk_mul, nI_clamp, vp_t, nI_leI, nI_ltI, nI_eq, true_and, and_true, true_implies, false_implies, not_true_eq_false, not_false_eq_true, eq_self, implies_true, true_or, or_true, Nat.add_zero, Nat.reduceAdd, Nat.reduceMul, Nat.reduceEqDiff, Nat.reduceLeDiff, Nat.reduceLT, Nat.reduceSub, up_eq, upc_s, upc_n, upc_upc, q1]
      exact s_callAfter' (by decide) h' v2 v5 w2 (fin _ 0 (by rw [if_neg c]))
    · try simp (disch := omega) only [lt0, lt1, lt2, lt3, lt4, lt5, lt6, lt7, lt8, lt9, lt10, lt11, lt12, lt13, lt14, lt15, lt16, lt17, lt18, lt19, lt20, lt21, lt22, lt23, lt24, lt25, lt26, lt27, lt28, lt29, lt30, lt31, lt32, lt33, lt34, lt35, lt36, lt37, lt38, lt39, lt40, lt41, lt42, lt43, lt44, lt45, lt46, lt47, lt48, lt49, lt50, lt51, lt52, lt53, lt54, lt55, lt56, lt57, lt58, lt59, lt60, lt61, lt62, lt63, lt64, lt97, lt98, lt99, lt100, lt107, lt110, lt114, lt115, lt116, lt119, lt122, lt208, lt255, lt999, lt1000, nI_add, pk_mul, nI_clamp, vp_t, nI_leI, nI_ltI, nI_eq, true_and, and_true, true_implies, false_implies, not_true_eq_false, not_false_eq_true, eq_self, implies_true, true_or, or_true, Nat.add_zero, Nat.reduceAdd, Nat.reduceMul, Nat.reduceEqDiff, Nat.reduceLeDiff, Nat.reduceLT, Nat.reduceSub, up_eq, upc_s, upc_n, upc_upc, q1]
      exact s_callAfter' (by decide) h' v2 v5 w2 (fin _ 1 (by rw [if_pos c]))
  · refine e_X2_begin_274_16 ?_
    try simp (disch := omega) only [lt0, lt1, lt2, lt3, lt4, lt5, lt6, lt7, lt8, lt9, lt10, lt11, lt12, lt13, lt14, lt15, lt16, lt17, lt18, lt19, lt20, lt21, lt22, lt23, lt24, lt25, lt26, lt27, lt28, lt29, lt30, lt31, lt32, lt33, lt34, lt35, lt36, lt37, lt38, lt39, lt40, lt41, lt42, lt43, lt44, lt45, lt46, lt47, lt48, lt49, lt50, lt51, lt52, lt53, lt54, lt55, lt56, lt57, lt58, lt59, lt60, lt61, lt62, lt63, lt64, lt97, lt98, lt99, lt100, lt107, lt110, lt114, lt115, lt116, lt119, lt122, lt208, lt255, lt999, lt1000, nI_add, pk_mul, nI_clamp, vp_t, nI_leI, nI_ltI, nI_eq, true_and, and_true, true_implies, false_implies, not_true_eq_false, not_false_eq_true, eq_self, implies_true, true_or, or_true, Nat.add_zero, Nat.reduceAdd, Nat.reduceMul, Nat.reduceEqDiff, Nat.reduceLeDiff, Nat.reduceLT, Nat.reduceSub, up_eq, upc_s, upc_n, upc_upc, r0, r1, r2, q0, q2, q3, q4]
    refine s_isLiving (z := z) (by decide) r6 v3 hq (fun c => ?_) (fun c => ?_)
    · try simp (disch := omega) only [lt0, lt1, lt2, lt3, lt4, lt5, lt6, lt7, lt8, lt9, lt10, lt11, lt12, lt13, lt14, lt15, lt16, lt17, lt18, lt19, lt20, lt21, lt22, lt23, lt24, lt25, lt26, lt27, lt28, lt29, lt30, lt31, lt32, lt33, lt34, lt35, lt36, lt37, lt38, lt39, lt40, lt41, lt42, lt43, lt44, lt45, lt46, lt47, lt48, lt49, lt50, lt51, lt52, lt53, lt54, lt55, lt56, lt57, lt58, lt59, lt60, lt61, lt62, lt63, lt64, lt97, lt98, lt99, lt100, lt107, lt110, lt114, lt115, lt116, lt119, lt122, lt208, lt255, lt999, lt1000, nI_add, pk_mul, nI_clamp, vp_t, nI_leI, nI_ltI, nI_eq, true_and, and_true, true_implies, false_implies, not_true_eq_false, not_false_eq_true, eq_self, implies_true, true_or, or_true, Nat.add_zero, Nat.reduceAdd, Nat.reduceMul, Nat.reduceEqDiff, Nat.reduceLeDiff, Nat.reduceLT, Nat.reduceSub, up_eq, upc_s, upc_n, upc_upc, q1]
      exact s_callAfter' (by decide) h' v2 v5 w2 (fin _ 0 (by rw [if_neg c]))
    · try simp (disch := omega) only [lt0, lt1, lt2, lt3, lt4, lt5, lt6, lt7, lt8, lt9, lt10, lt11, lt12, lt13, lt14, lt15, lt16, lt17, lt18, lt19, lt20, lt21, lt22, lt23, lt24, lt25, lt26, lt27, lt28, lt29, lt30, lt31, lt32, lt33, lt34, lt35, lt36, lt37, lt38, lt39, lt40, lt41, lt42, lt43, lt44, lt45, lt46, lt47, lt48, lt49, lt50, lt51, lt52, lt53, lt54, lt55, lt56, lt57, lt58, lt59, lt60, lt61, lt62, lt63, lt64, lt97, lt98, lt99, lt100, lt107, lt110, lt114, lt115, lt116, lt119, lt122, lt208, lt255, lt999, lt1000, nI_add, pk_mul, nI_clamp, vp_t, nI_leI, nI_ltI, nI_eq, true_and, and_true, true_implies, false_implies, not_true_eq_false, not_false_eq_true, eq_self, implies_true, true_or, or_true, Nat.add_zero, Nat.reduceAdd, Nat.reduceMul, Nat.reduceEqDiff, Nat.reduceLeDiff, Nat.reduceLT, Nat.reduceSub, up_eq, upc_s, upc_n, upc_upc, q1]
      exact s_callAfter' (by decide) h' v2 v5 w2 (fin _ 1 (by rw [if_pos c]))
  · refine e_X2_begin_271_25 ?_
    try simp (disch := omega) only [lt0, lt1, lt2, lt3, lt4, lt5, lt6, lt7, lt8, lt9, lt10, lt11, lt12, lt13, lt14, lt15, lt16, lt17, lt18, lt19, lt20, lt21, lt22, lt23, lt24, lt25, lt26, lt27, lt28, lt29, lt30, lt31, lt32, lt33, lt34, lt35, lt36, lt37, lt38, lt39, lt40, lt41, lt42, lt43, lt44, lt45, lt46, lt47, lt48, lt49, lt50, lt51, lt52, lt53, lt54, lt55, lt56, lt57, lt58, lt59, lt60, lt61, lt62, lt63, lt64, lt97, lt98, lt99, lt100, lt107, lt110, lt114, lt115, lt116, lt119, lt122, lt208, lt255, lt999, lt1000, nI_add, pk_mul, nI_clamp, vp_t, nI_leI, nI_ltI, nI_eq, true_and, and_true, true_implies, false_implies, not_true_eq_false, not_false_eq_true, eq_self, implies_true, true_or, or_true, Nat.add_zero, Nat.reduceAdd, Nat.reduceMul, Nat.reduceEqDiff, Nat.reduceLeDiff, Nat.reduceLT, Nat.reduceSub, up_eq, upc_s, upc_n, upc_upc, r0, r1, r2, q0, q2, q3, q4]
    refine s_isLiving (z := z) (by decide) r6 v3 hq (fun c => ?_) (fun c => ?_)
    · try simp (disch := omega) only [lt0, lt1, lt2, lt3, lt4, lt5, lt6, lt7, lt8, lt9, lt10, lt11, lt12, lt13, lt14, lt15, lt16, lt17, lt18, lt19, lt20, lt21, lt22, lt23, lt24, lt25, lt26, lt27, lt28, lt29, lt30, lt31, lt32, lt33, lt34, lt35, lt36, lt37, lt38, lt39, lt40, lt41, lt42, lt43, lt44, lt45, lt46, lt47, lt48, lt49, lt50, lt51, lt52, lt53, lt54, lt55, lt56, lt57, lt58, lt59, lt60, lt61, lt62, lt63, lt64, lt97, lt98, lt99, lt100, lt107, lt110, lt114, lt115, lt116, lt119, lt122, lt208, lt255, lt999, lt1000, nI_add, pk_mul, nI_clamp, vp_t, nI_leI, nI_ltI, nI_eq, true_and, and_true, true_implies, false_implies, not_true_eq_false, not_false_eq_true, eq_self, implies_true, true_or, or_true, Nat.add_zero, Nat.reduceAdd, Nat.reduceMul, Nat.reduceEqDiff, Nat.reduceLeDiff, Nat.reduceLT, Nat.reduceSub, up_eq, upc_s, upc_n, upc_upc, q1]
      exact s_callAfter' (by decide) h' v2 v5 w2 (fin _ 0 (by rw [if_neg c]))
    · try simp (disch := omega) only [lt0, lt1, lt2, lt3, lt4, lt5, lt6, lt7, lt8, lt9, lt10, lt11, lt12, lt13, lt14, lt15, lt16, lt17, lt18, lt19, lt20, lt21, lt22, lt23, lt24, lt25, lt26, lt27, lt28, lt29, lt30, lt31, lt32, lt33, lt34, lt35, lt36, lt37, lt38, lt39, lt40, lt41, lt42, lt43, lt44, lt45, lt46, lt47, lt48, lt49, lt50, lt51, lt52, lt53, lt54, lt55, lt56, lt57, lt58, lt59, lt60, lt61, lt62, lt63, lt64, lt97, lt98, lt99, lt100, lt107, lt110, lt114, lt115, lt116, lt119, lt122, lt208, lt255, lt999, lt1000, nI_add, pk_mul, nI_clamp, vp_t, nI_leI, nI_ltI, nI_eq, true_and, and_true, true_implies, false_implies, not_true_eq_false, not_false_eq_true, eq_self, implies_true, true_or, or_true, Nat.add_zero, Nat.reduceAdd, Nat.reduceMul, Nat.reduceEqDiff, Nat.reduceLeDiff, Nat.reduceLT, Nat.reduceSub, up_eq, upc_s, upc_n, upc_upc, q1]
      exact s_callAfter' (by decide) h' v2 v5 w2 (fin _ 1 (by rw [if_pos c]))
theorem s_callAfter {d : Nat} {μ : Mm} {K : Mm → Prop} {f L t : Nat} {z : Nat → Nat} {g : Nat → Int32} (hfl : (f = 271 ∧ L = 16) ∨ (f = 272 ∧ L = 16) ∨ (f = 274 ∧ L = 16) ∨ (f = 271 ∧ L = 25)) (h : LR μ L z) (hz : VL z) (ht : t < z 2)
    (k : K (upc μ f (upd (upd g 3 (nI (z (6 + 2 * t)))) 4 (nI (if z 5 / 2 ^ t % 2 = 0 then z (7 + 2 * t) else 0))))) : cV (cM (d + 2)) 13 [.ref f, .ref L, .int (nI t)] (upc μ f g) K := s_callAfter' hfl h hz.2.2.1 hz.2.2.2.2.2.1 ht k
theorem s_begin {d : Nat} {μ : Mm} {K : Mm → Prop} {f L q : Nat} {z : Nat → Nat} (hfl : (f = 271 ∧ L = 16) ∨ (f = 272 ∧ L = 16) ∨ (f = 274 ∧ L = 16) ∨ (f = 271 ∧ L = 25)) (h : LR μ L z) (hz : VL z) (hq : q < z 3) (k : ∀ x, FM x (pj z q) → K (upc μ f x)) : cV (cM (d + 3)) 12 [.ref f, .ref L, .int (nI q)] μ K := s_begin' hfl h hz.2.2.1 hz.2.2.2.1 hz.2.2.2.2.2.1 (hz.2.2.2.2.2.2.2.2 q hq).2.1 hq k
