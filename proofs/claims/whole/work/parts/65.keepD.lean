/-! ===== keepDays: the class's tables ===== -/
def kU (μ : Mm) (f t u : Nat → Int32) : Mm := upc (upc (upc μ 274 f) 275 t) 276 u
theorem kU_id (μ : Mm) : kU μ (μ 274) (μ 275) (μ 276) = μ := by
  unfold kU
  refine Mm_ext (fun a => ?_)
  by_cases c6 : a = 276
  · subst c6; rfl
  by_cases c5 : a = 275
  · subst c5; rfl
  by_cases c4 : a = 274
  · subst c4; rfl
  simp (disch := omega) only [upc_n]
theorem kU_4 (μ : Mm) (f t u x : Nat → Int32) : upc (kU μ f t u) 274 x = kU μ x t u := by
  unfold kU
  refine Mm_ext (fun a => ?_)
  by_cases c6 : a = 276
  · subst c6; rfl
  by_cases c5 : a = 275
  · subst c5; rfl
  by_cases c4 : a = 274
  · subst c4; rfl
  simp (disch := omega) only [upc_n]
theorem kU_5 (μ : Mm) (f t u x : Nat → Int32) : upc (kU μ f t u) 275 x = kU μ f x u := by
  unfold kU
  refine Mm_ext (fun a => ?_)
  by_cases c6 : a = 276
  · subst c6; rfl
  by_cases c5 : a = 275
  · subst c5; rfl
  by_cases c4 : a = 274
  · subst c4; rfl
  simp (disch := omega) only [upc_n]
theorem kU_6 (μ : Mm) (f t u x : Nat → Int32) : upc (kU μ f t u) 276 x = kU μ f t x := by
  unfold kU
  rw [upc_upc]
theorem kU_n {μ : Mm} {f t u : Nat → Int32} {a : Nat} (h : a < 274 ∨ 276 < a) : kU μ f t u a = μ a := by
  unfold kU
  rw [upc_n _ _ (by omega), upc_n _ _ (by omega), upc_n _ _ (by omega)]
theorem kU_LR {μ : Mm} {f t u : Nat → Int32} {z : Nat → Nat} (h : LR μ 16 z) : LR (kU μ f t u) 16 z := h.fr (fun i hi => kU_n (by omega))
theorem s_stand {d : Nat} {μ : Mm} {K : Mm → Prop} {z : Nat → Nat} {q D a : Nat} (lr : LR μ 16 z) (hz : VL z) (hq : q < z 3) (hD : D ≤ 12) (k : ∀ x, FM x (st (pj z q) D a) → K (upc μ 274 x)) : cV (cM (d + 4)) 19 [.ref 273, .ref 16, .int (nI q), .int (nI D), .int (nI a)] μ K := by
  have hv := pj_VF hz hq
  obtain ⟨⟨v0, v0'⟩, v1, v2, v3, v4, v5, v6, v7, v8, v9⟩ := hv
  have hm : D * pj z q 4 ≤ 12 * 15 := Nat.mul_le_mul hD v4
  refine e_X3_stand (s_begin (by decide) lr hz hq (fun f hf => ?_))
  have f3 : (upc μ 274 f) 274 3 = nI (pj z q 3) := hf 3 (by decide)
  have f4 : (upc μ 274 f) 274 4 = nI (pj z q 4) := hf 4 (by decide)
  have f0 : (upc μ 274 f) 274 0 = nI (pj z q 0) := hf 0 (by decide)
  have f2 : (upc μ 274 f) 274 2 = nI (pj z q 2) := hf 2 (by decide)
  rw [f3, f4, f0, pk_mul, nI_add]
  refine s_wrap (by omega) (by omega) (by omega) ?_
  rw [f2, nI_add, up_upc, up_upc, up_upc, up_upc]
  exact k _ ((((hf.up rfl).up rfl).up rfl).up rfl)
/-- a table of least costs -/
def TB (t : Nat → Int32) (φ : Nat → Nat) (e D M P : Nat) : Prop := ∀ b, b < P → ∀ k, k ≤ M → t (b * 13 + k) = nI (kV φ e D b k)
theorem s_weighL {d : Nat} {μ : Mm} {K : Mm → Prop} {φ : Nat → Nat} {e D a M P : Nat} (hD : D ≤ 11) (hM : M ≤ 12) (ha : a < P) (hP : P ≤ 16) (hfp : fp φ D a < P) (h9 : φ 9 ≤ 1) (h6 : TB (μ 276) φ e (D + 1) M P)
    (k : ∀ g, (∀ c, c ≤ M → g (a * 13 + c) = nI (kV φ (e + 1) D a c)) → (∀ i, i < a * 13 ∨ a * 13 + 13 ≤ i → g i = μ 275 i) → K (upc μ 275 g)) :
    ∀ r c g, c + r = M + 1 → (∀ i, i < c → g (a * 13 + i) = nI (kV φ (e + 1) D a i)) → (∀ i, i < a * 13 ∨ a * 13 + 13 ≤ i → g i = μ 275 i) → jX3_weigh d K 94 [some (.ref 273), none, none, some (.int (nI D)), some (.int (nI a)), some (.int (nI M)), some (.int (nI (fl φ D a))), some (.int (nI (fp φ D a) * 13)), some (.int (nI (kq φ D a))), some (.int (nI a * 13)), some (.int (nI ((60 - D) * 65536))), some (.int (nI c)), none] [] (upc μ 275 g) := by
  have fl1 := fl_le (φ := φ) (d := D) (a := a) h9
  have kq1 := kq_le (φ := φ) (d := D) (a := a) h9
  have e13 : ∀ x, nI x * 13 = nI (x * 13) := fun x => pk_mul x 13
  intro r
  induction r with
  | zero =>
    intro c g hc hg fr
    obtain rfl : c = M + 1 := by omega
    refine k_X3_weigh_94 (br_t ?_ (k g (fun i hi => hg i (by omega)) fr))
    rw [nI_ltI (by omega) (by omega)]
    omega
  | succ r ih =>
    intro c g hc hg fr
    have pD : 2 ^ D ≤ 2 ^ 11 := Nat.pow_le_pow_right (by decide) hD
    have vl1 := kV_le (φ := φ) e (D + 1) (fp φ D a) c
    have vl2 := kV_le (φ := φ) e (D + 1) a (c - 1)
    have r1 : (upc μ 275 g) 276 (nI (fp φ D a * 13 + c)).toNatClampNeg = nI (kV φ e (D + 1) (fp φ D a) c) := by
      rw [nI_clamp (by omega)]
      exact h6 _ hfp c (by omega)
    have go : ∀ v : Int32, v = nI (kV φ (e + 1) D a c) → jX3_weigh d K 94 [some (.ref 273), none, none, some (.int (nI D)), some (.int (nI a)), some (.int (nI M)), some (.int (nI (fl φ D a))), some (.int (nI (fp φ D a) * 13)), some (.int (nI (kq φ D a))), some (.int (nI a * 13)), some (.int (nI ((60 - D) * 65536))), some (.int (nI (c + 1))), none] [] (up (upc μ 275 g) 275 (nI (a * 13 + c)).toNatClampNeg v) := by
      intro v hv
      subst hv
      rw [nI_clamp (by omega), up_upc]
      refine ih (c + 1) _ (by omega) (fun i hi => ?_) (fun i hi => ?_)
      · by_cases ei : i = c
        · subst ei
          exact upd_s _ _ _
        · rw [upd_n _ _ (by omega)]
          exact hg i (by omega)
      · rw [upd_n _ _ (by omega)]
        exact fr i hi
    have hvi : vp_in (nI (a * 13 + c)) 208 := vp_in_nI (by omega) (by decide)
    have mn : ∀ X, X ≤ 61 * 65536 → 0 < c → (if nI (kV φ e (D + 1) a (c - 1)) + (4096 : Int32) + ((1 : Int32) <<< (nI D &&& 31)) < nI X then nI (kV φ e (D + 1) a (c - 1)) + (4096 : Int32) + ((1 : Int32) <<< (nI D &&& 31)) else nI X) = nI (if kV φ e (D + 1) a (c - 1) + 4096 + 2 ^ D < X then kV φ e (D + 1) a (c - 1) + 4096 + 2 ^ D else X) := by
      intro X hX _
      rw [show (1 : Int32) <<< (nI D &&& 31) = nI (2 ^ D) from sh_1 (by omega), show nI (kV φ e (D + 1) a (c - 1)) + 4096 = nI (kV φ e (D + 1) a (c - 1) + 4096) from nI_add _ 4096, nI_add]
      have ec : (nI (kV φ e (D + 1) a (c - 1) + 4096 + 2 ^ D) < nI X) ↔ (kV φ e (D + 1) a (c - 1) + 4096 + 2 ^ D < X) := nI_ltI (by omega) (by omega)
      by_cases q : kV φ e (D + 1) a (c - 1) + 4096 + 2 ^ D < X
      · rw [if_pos q, if_pos (ec.mpr q)]
      · rw [if_neg q, if_neg (fun h => q (ec.mp h))]
    have r2 : 0 < c → (upc μ 275 g) 276 (nI a * 13 + nI c - 1).toNatClampNeg = nI (kV φ e (D + 1) a (c - 1)) ∧ vp_in (nI a * 13 + nI c - 1) 208 := by
      intro hc0
      rw [e13, nI_add, show nI (a * 13 + c) - 1 = nI (a * 13 + c - 1) from sub_n (b := 1) (by omega), nI_clamp (by omega)]
      refine ⟨?_, vp_in_nI (by omega) (by decide)⟩
      rw [show a * 13 + c - 1 = a * 13 + (c - 1) by omega]
      exact h6 a ha (c - 1) (by omega)
    have s1 : (nI (fl φ D a) = 0) = (fl φ D a = 0) := propext (nI_eq (b := 0) (by omega) (by decide))
    have s2 : (nI (kq φ D a) = 0) = (kq φ D a = 0) := propext (nI_eq (b := 0) (by omega) (by decide))
    have s3 : (nI c ≤ 0) = (c ≤ 0) := propext (nI_leI (b := 0) (by omega) (by decide))
    have s4 : (nI M < nI c) = (M < c) := propext (nI_ltI (by omega) (by omega))
    have eV : kV φ (e + 1) D a c = vm (if fl φ D a = 0 then (60 - D) * 65536 else kV φ e (D + 1) (fp φ D a) c) (kq φ D a) c (kV φ e (D + 1) a (c - 1) + 4096 + 2 ^ D) := rfl
    unfold vm at eV
    refine k_X3_weigh_94 ?_
    rw [s1, s2, s3, s4, show nI (fp φ D a) * 13 + nI c = nI (fp φ D a * 13 + c) by rw [e13, nI_add], show nI a * 13 + nI c = nI (a * 13 + c) by rw [e13, nI_add], r1, n_suc]
    rw [show nI a * 13 + nI c = nI (a * 13 + c) by rw [e13, nI_add]] at r2
    refine br_f (by omega) (br_c (fun f0 => br_c (fun c0 => ⟨hvi, go _ ?_⟩) (fun c0 => br_c (fun k0 => ⟨hvi, go _ ?_⟩) (fun k0 => ⟨(r2 (by omega)).2, hvi, go _ ?_⟩))) (fun f0 => ⟨vp_in_nI (by omega) (by decide), br_c (fun c0 => ⟨hvi, go _ ?_⟩) (fun c0 => br_c (fun k0 => ⟨hvi, go _ ?_⟩) (fun k0 => ⟨(r2 (by omega)).2, hvi, go _ ?_⟩))⟩))
    · rw [eV, if_pos (by omega), if_pos f0]
    · rw [eV, if_neg (by omega), if_pos k0, if_pos f0]
    · rw [if_neg (by omega), if_neg k0, if_pos f0] at eV
      rw [(r2 (by omega)).1, eV]
      exact mn _ (Nat.mul_le_mul_right _ (by omega)) (by omega)
    · rw [eV, if_pos (by omega), if_neg f0]
    · rw [eV, if_neg (by omega), if_pos k0, if_neg f0]
    · rw [if_neg (by omega), if_neg k0, if_neg f0] at eV
      rw [(r2 (by omega)).1, eV]
      exact mn _ vl1 (by omega)
theorem s_weigh {d : Nat} {μ : Mm} {K : Mm → Prop} {z : Nat → Nat} {q e D a M : Nat} {f t u : Nat → Int32} (lr : LR μ 16 z) (hz : VL z) (hq : q < z 3) (h4 : z 4 ≤ 999) (hD : D ≤ 11) (hM : M ≤ 12) (ha : a < z 0) (h6 : TB u (pj z q) e (D + 1) M (z 0))
    (k : ∀ f' g, (∀ c, c ≤ M → g (a * 13 + c) = nI (kV (pj z q) (e + 1) D a c)) → (∀ i, i < a * 13 ∨ a * 13 + 13 ≤ i → g i = t i) → K (kU μ f' g u)) : cV (cM (d + 5)) 20 [.ref 273, .ref 16, .int (nI q), .int (nI D), .int (nI a), .int (nI M)] (kU μ f t u) K := by
  have hv := pj_VF hz hq
  have h2 : pj z q 2 + D ≤ 2000 := show z 4 + D ≤ 2000 by omega
  have v0 := hz.1
  have hv1 := VF_st (d := D) (a := a) hv h2 ha
  have hv2 := VF_st1 (d := D) (a := a) hv h2 ha
  refine e_X3_weigh (s_stand (kU_LR lr) hz hq (by omega) (fun x hx => s_passDay (Or.inr (Or.inr rfl)) hx hv1 (fun x2 hx2 => ?_)))
  rw [kU_4]
  refine s_stand (kU_LR lr) hz hq (by omega) (fun x3 hx3 => ?_)
  rw [up_upc]
  refine s_passDay (φ := un (st (pj z q) D a) 8 1) (Or.inr (Or.inr rfl)) (hx3.up rfl) hv2 (fun x4 hx4 => e_X3_earlyCost ?_)
  rw [kU_4]
  have a9 : (kU μ x2 t u) 274 9 = nI (fl (pj z q) D a) := hx2 9 (by decide)
  have a6 : (kU μ x2 t u) 274 6 = nI (fp (pj z q) D a) := hx2 6 (by decide)
  have b9 : (kU μ x4 t u) 274 9 = nI (kq (pj z q) D a) := hx4 9 (by decide)
  have b6 : (kU μ x4 t u) 274 6 = nI a := by
    rw [show (kU μ x4 t u) 274 6 = nI (pF (un (st (pj z q) D a) 8 1)) from hx4 6 (by decide), kp_a]
  have ec : ((61 : Int32) - (nI D + 1)) * 65536 = nI ((60 - D) * 65536) := by
    rw [n_suc, show (61 : Int32) - nI (D + 1) = nI (61 - (D + 1)) from sub_n (a := 61) (by omega), show 61 - (D + 1) = 60 - D by omega]
    exact pk_mul _ 65536
  rw [a9, a6, b9, b6, ec]
  have := s_weighL (d := d + 4) (μ := kU μ x4 t u) (K := K) (φ := pj z q) (e := e) (P := z 0) hD hM ha v0 (fp_lt (φ := pj z q) (show 0 < z 0 by omega) ha) hv.2.2.2.2.2.2.2.2.2 h6 (fun g g1 g2 => by rw [kU_5]; exact k x4 g g1 g2) (M + 1) 0 t (by omega) (fun i hi => absurd hi (by omega)) (fun _ _ => rfl)
  rw [kU_5] at this
  exact this
