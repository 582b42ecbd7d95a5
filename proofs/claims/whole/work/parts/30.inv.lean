/-! ===== what stands between two calls: the class holds what the reference holds ===== -/
def IR (μ : Mm) : Prop := ∀ r, r < 8 → (μ 280 r < 0 ∧ μ 4 r = -1) ∨ (∃ n, n ≤ 40 ∧ (μ 280 r = 0 ∨ μ 280 r = 1 ∨ μ 280 r = 2) ∧ μ 3 r = μ 280 r ∧ μ 4 r = nI n ∧ μ 281 r = nI n ∧ ∀ i, i < n → μ 2 (40 * r + i) = μ 282 (40 * r + i))
def IS (μ : Mm) : Prop := μ 0 10 = μ 279 1
def IT (μ : Mm) : Prop := ∃ n, n ≤ 100 ∧ μ 5 2 = nI n ∧ μ 279 11 = nI n ∧ ∀ i, i < n → ∃ b, b < 256 ∧ μ 6 i = nI b ∧ μ 287 i = nI b
def IF (μ : Mm) : Prop := μ 5 3 = μ 279 18
def IZ (μ : Mm) (z : Nat → Nat) : Prop := VL z ∧ z 4 ≤ 999 ∧ LR μ 16 z ∧ LM (μ 283) z
def IA (μ : Mm) : Prop := ∃ n o, ∃ zs : Nat → Nat → Nat, n ≤ 24 ∧ o < 24 ∧ μ 53 2 = nI n ∧ μ 279 9 = nI n ∧ μ 53 1 = nI o ∧ ∀ j, j < n → VL (zs j) ∧ zs j 4 ≤ 999 ∧ LR μ (55 + 9 * ((o + j) % 24)) (zs j) ∧ ∀ i, i < 58 → μ 286 (58 * j + i) = nI (zs j i)
def II (μ : Mm) : Prop := ∀ k, k < 2 → (μ 288 k = 0 ∧ μ (35 + 9 * k) 0 = 0) ∨ (μ 288 k = 1 ∧ ∃ z, VL z ∧ 0 < z 0 ∧ z 4 ≤ 999 ∧ LR μ (35 + 9 * k) z ∧ ∀ i, i < 58 → μ 289 (58 * k + i) = nI (z i))
def IX (μ : Mm) : Prop := ∃ n, n ≤ 16 ∧ μ 277 1 = nI n ∧ μ 279 22 = nI n ∧ ∀ i, i < n → μ 278 i = μ 290 i
def Inv (μ : Mm) : Prop := IR μ ∧ IS μ ∧ IT μ ∧ IF μ ∧ (∃ z, IZ μ z) ∧ IA μ ∧ II μ ∧ IX μ
theorem IR.fr {μ μ' : Mm} (h : IR μ) (a : μ' 2 = μ 2) (b : μ' 3 = μ 3) (c : μ' 4 = μ 4) (e : μ' 280 = μ 280) (f : μ' 281 = μ 281) (g : μ' 282 = μ 282) : IR μ' := by
  unfold IR at h ⊢
  rw [a, b, c, e, f, g]
  exact h
theorem IS.fr {μ μ' : Mm} (h : IS μ) (a : μ' 0 = μ 0) (b : μ' 279 1 = μ 279 1) : IS μ' := by
  unfold IS at h ⊢
  rw [a, b]
  exact h
theorem IT.fr {μ μ' : Mm} (h : IT μ) (a : μ' 5 2 = μ 5 2) (b : μ' 279 11 = μ 279 11) (c : μ' 6 = μ 6) (e : μ' 287 = μ 287) : IT μ' := by
  unfold IT at h ⊢
  rw [a, b, c, e]
  exact h
theorem IF.fr {μ μ' : Mm} (h : IF μ) (a : μ' 5 3 = μ 5 3) (b : μ' 279 18 = μ 279 18) : IF μ' := by
  unfold IF at h ⊢
  rw [a, b]
  exact h
theorem IZ.fr {μ μ' : Mm} {z : Nat → Nat} (h : IZ μ z) (a : ∀ k, 16 ≤ k → k ≤ 24 → μ' k = μ k) (b : μ' 283 = μ 283) : IZ μ' z := by
  obtain ⟨h1, h2, h3, h4⟩ := h
  refine ⟨h1, h2, h3.fr (fun i hi => a _ (by omega) (by omega)), ?_⟩
  rw [b]
  exact h4
theorem IA.fr {μ μ' : Mm} (h : IA μ) (a : μ' 53 = μ 53) (b : μ' 279 9 = μ 279 9) (c : ∀ k, 55 ≤ k → k ≤ 270 → μ' k = μ k) (e : μ' 286 = μ 286) : IA μ' := by
  obtain ⟨n, o, zs, h1, h2, h3, h4, h5, h6⟩ := h
  refine ⟨n, o, zs, h1, h2, by rw [a]; exact h3, by rw [b]; exact h4, by rw [a]; exact h5, fun j hj => ?_⟩
  obtain ⟨g1, g2, g3, g4⟩ := h6 j hj
  refine ⟨g1, g2, g3.fr (fun i hi => c _ (by omega) (by omega)), by rw [e]; exact g4⟩
theorem II.fr {μ μ' : Mm} (h : II μ) (c : ∀ k, 35 ≤ k → k ≤ 52 → μ' k = μ k) (a : μ' 288 = μ 288) (e : μ' 289 = μ 289) : II μ' := by
  intro k hk
  rw [a, e, c (35 + 9 * k) (by omega) (by omega)]
  rcases h k hk with g | ⟨g1, z, g2, g3, g4, g5, g6⟩
  · exact Or.inl g
  · exact Or.inr ⟨g1, z, g2, g3, g4, g5.fr (fun i hi => c _ (by omega) (by omega)), g6⟩
theorem IX.fr {μ μ' : Mm} (h : IX μ) (a : μ' 277 1 = μ 277 1) (b : μ' 279 22 = μ 279 22) (c : μ' 278 = μ 278) (e : μ' 290 = μ 290) : IX μ' := by
  unfold IX at h ⊢
  rw [a, b, c, e]
  exact h
/-- a call that only asks -/
theorem Inv.q {μ μ' : Mm} (h : Inv μ) (e : ∀ k, k < 25 ∨ (34 ≤ k ∧ k ≤ 270) ∨ k = 277 ∨ k = 278 ∨ (280 ≤ k ∧ k ≤ 283) ∨ (286 ≤ k ∧ k ≤ 290) → μ' k = μ k) (e9 : ∀ j, ¬ j = 0 → μ' 279 j = μ 279 j) : Inv μ' := by
  obtain ⟨h1, h2, h3, h4, ⟨z, h5⟩, h6, h7, h8⟩ := h
  have f : ∀ k, k < 25 ∨ (34 ≤ k ∧ k ≤ 270) ∨ k = 277 ∨ k = 278 ∨ (280 ≤ k ∧ k ≤ 283) ∨ (286 ≤ k ∧ k ≤ 290) → ∀ j, μ' k j = μ k j := fun k hk j => by rw [e k hk]
  exact ⟨h1.fr (e _ (by omega)) (e _ (by omega)) (e _ (by omega)) (e _ (by omega)) (e _ (by omega)) (e _ (by omega)), h2.fr (e _ (by omega)) (e9 _ (by decide)), h3.fr (f _ (by omega) _) (e9 _ (by decide)) (e _ (by omega)) (e _ (by omega)), h4.fr (f _ (by omega) _) (e9 _ (by decide)), ⟨z, h5.fr (fun k a b => e k (by omega)) (e _ (by omega))⟩, h6.fr (e _ (by omega)) (e9 _ (by decide)) (fun k a b => e k (by omega)) (e _ (by omega)), h7.fr (fun k a b => e k (by omega)) (e _ (by omega)) (e _ (by omega)), h8.fr (f _ (by omega) _) (e9 _ (by decide)) (e _ (by omega)) (e _ (by omega))⟩
/-- the reference answers a too -/
def Nx (j : Nat) (as : List Value) (a : Int32) (μ : Mm) : Prop := ∀ G : Int32 → Mm → Prop, (∀ μ2, Inv μ2 → G a μ2) → cI (cM 30) j as μ G
theorem LM_th {μ : Mm} {z : Nat → Nat} (h : LM (μ 283) z) : LM ((up μ 279 0 0) 283) z := h
theorem op_status {μ : Mm} {K : Int32 → Mm → Prop} (hI : Inv μ) (k : ∀ a μ1, Nx 185 [.ref 279] a μ1 → K a μ1) : cI (cM 30) 91 [.ref 0] μ K := by
  refine e_X7_status (k _ _ (fun G g => e_X8_status ?_))
  have h2 : μ 0 10 = μ 279 1 := hI.2.1
  rw [← h2]
  exact g _ (Inv.q hI (fun k hk => by simp (disch := omega) only [up_eq, upc_n]) (fun j hj => by simp (disch := omega) only [up_eq, upc_s, upc_n, upd_n]))
theorem op_fault {μ : Mm} {K : Int32 → Mm → Prop} (hI : Inv μ) (k : ∀ a μ1, Nx 121 [.ref 279] a μ1 → K a μ1) : cI (cM 30) 58 [.ref 0] μ K := by
  refine e_X7_fault (k _ _ (fun G g => e_X8_fault ?_))
  have h2 : μ 5 3 = μ 279 18 := hI.2.2.2.1
  rw [← h2]
  exact g _ (Inv.q hI (fun k hk => by simp (disch := omega) only [up_eq, upc_n]) (fun j hj => by simp (disch := omega) only [up_eq, upc_s, upc_n, upd_n]))
theorem op_kind {μ : Mm} {K : Int32 → Mm → Prop} {x : Int32} (hI : Inv μ) (k : ∀ a μ1, Nx 175 [.ref 279, .int x] a μ1 → K a μ1) : cI (cM 30) 86 [.ref 0, .int x] μ K := by
  obtain ⟨z, hz⟩ := hI.2.2.2.2.1
  obtain ⟨vz, v9, lr, lm⟩ := hz
  obtain ⟨v0, v1, v2, v3, v4, v5, v6, v7, v8⟩ := vz
  have r4 := lr.2.2.2.2.1
  have l3 := lm 3 (by decide)
  refine e_X7_kind (s_isPerson r4 (by omega) (fun hx => ?_) (fun hx => ?_))
  · obtain ⟨q, hq, rfl⟩ := hx
    obtain ⟨q0, q1, q2, q3, q4, q5⟩ := lr.2.2.2.2.2.2.2.2 q hq
    refine br_f (by decide) ⟨vp_in_nI (by omega) (by decide), ?_⟩
    try simp (disch := omega) only [lt0, lt1, lt2, lt3, lt4, lt5, lt6, lt7, lt8, lt9, lt10, lt11, lt12, lt13, lt14, lt15, lt16, lt17, lt18, lt19, lt20, lt21, lt22, lt23, lt24, lt25, lt26, lt27, lt28, lt29, lt30, lt31, lt32, lt33, lt34, lt35, lt36, lt37, lt38, lt39, lt40, lt41, lt42, lt43, lt44, lt45, lt46, lt47, lt48, lt49, lt50, lt51, lt52, lt53, lt54, lt55, lt56, lt57, lt58, lt59, lt60, lt61, lt62, lt63, lt64, lt97, lt98, lt99, lt100, lt107, lt110, lt114, lt115, lt116, lt119, lt122, lt208, lt255, lt999, lt1000, nI_add, pk_mul, nI_clamp, vp_t, nI_leI, nI_ltI, nI_eq, true_and, and_true, true_implies, false_implies, not_true_eq_false, not_false_eq_true, eq_self, implies_true, true_or, or_true, Nat.add_zero, Nat.reduceAdd, Nat.reduceMul, Nat.reduceEqDiff, Nat.reduceLeDiff, Nat.reduceLT, Nat.reduceSub, q0]
    refine k _ _ (fun G g => e_X8_kind (s_isPersonM (μ := up μ 279 0 0) l3 (by omega) (fun _ => br_f (by decide) (s_of (c := 0) (Or.inl rfl) (LM_th lm) (by omega) (by decide) ?_)) (fun h => absurd ⟨q, hq, rfl⟩ h)))
    exact g _ (Inv.q hI (fun k hk => by simp (disch := omega) only [up_eq, upc_n]) (fun j hj => by simp (disch := omega) only [up_eq, upc_s, upc_n, upd_n]))
  · refine br_t rfl (k _ _ (fun G g => e_X8_kind (s_isPersonM (μ := up μ 279 0 0) l3 (by omega) (fun h => absurd h hx) (fun _ => br_t rfl (g _ (Inv.q hI (fun k hk => by simp (disch := omega) only [up_eq, upc_n]) (fun j hj => by simp (disch := omega) only [up_eq, upc_s, upc_n, upd_n])))))))
theorem op_dies {μ : Mm} {K : Int32 → Mm → Prop} {x : Int32} (hI : Inv μ) (k : ∀ a μ1, Nx 154 [.ref 279, .int x] a μ1 → K a μ1) : cI (cM 30) 70 [.ref 0, .int x] μ K := by
  obtain ⟨z, hz⟩ := hI.2.2.2.2.1
  obtain ⟨vz, v9, lr, lm⟩ := hz
  have vz' := vz
  obtain ⟨v0, v1, v2, v3, v4, v5, v6, v7, v8⟩ := vz
  have r4 := lr.2.2.2.2.1
  have l3 := lm 3 (by decide)
  refine e_X7_dies (s_isPerson r4 (by omega) (fun hx => ?_) (fun hx => ?_))
  · obtain ⟨q, hq, rfl⟩ := hx
    refine nr_f (by decide) (s_begin (by decide) lr vz' hq (fun f hf => ?_))
    refine s_diesB (n := 60) (by decide) hf (pj_VF vz' hq) (show z 4 + 60 ≤ 2000 by omega) (by decide) (fun f2 => ?_)
    rw [dyF_eq (q := q) 61 0 z _ (fun _ _ => rfl) vz' (by omega) hq]
    refine s_orNone (dy_le _ _ _ _ (by decide)) (k _ _ (fun G g => e_X8_dies (s_isPersonM (μ := up (upc μ 271 f2) 279 0 0) l3 (by omega) (fun _ => nr_f (by decide) (s_layThen (z := z) lm (fun f3 h3 => s_diesBy h3 vz' hq (by omega) (fun f4 => ?_)))) (fun h => absurd ⟨q, hq, rfl⟩ h))))
    exact g _ (Inv.q hI (fun k hk => by simp (disch := omega) only [up_eq, upc_n]) (fun j hj => by simp (disch := omega) only [up_eq, upc_s, upc_n, upd_n]))
  · refine nr_t rfl (k _ _ (fun G g => e_X8_dies (s_isPersonM (μ := up μ 279 0 0) l3 (by omega) (fun h => absurd h hx) (fun _ => nr_t rfl (g _ (Inv.q hI (fun k hk => by simp (disch := omega) only [up_eq, upc_n]) (fun j hj => by simp (disch := omega) only [up_eq, upc_s, upc_n, upd_n])))))))
