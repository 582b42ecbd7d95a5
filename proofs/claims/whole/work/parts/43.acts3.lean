/-! ===== carry, nail, keepIn, call, move ===== -/
theorem lvz_cg {z y : Nat → Nat} : ∀ k, (∀ q, q < k → z (21 + 6 * q) = y (21 + 6 * q)) → lvz z k = lvz y k
  | 0, _ => rfl
  | k + 1, h => by
    show lvz z k + _ = lvz y k + _
    rw [lvz_cg k (fun q hq => h q (by omega)), h k (by omega)]
theorem LR_set {μ : Mm} {z : Nat → Nat} {e c q v : Nat} (h : LR μ 16 z) (h2 : z 2 ≤ 5) (hc : (e = 20 ∧ c = 17) ∨ (e = 21 ∧ c = 18) ∨ (e = 23 ∧ c = 20)) : LR (up μ e q (nI v)) 16 (un z (c + 6 * q) v) := by
  obtain ⟨r0, r1, r2, r3, r4, r5, r6, r7, r8⟩ := h
  have lo : ∀ i, i < 16 → un z (c + 6 * q) v i = z i := fun i hi => un_n _ _ (by omega)
  have lv : lvz (un z (c + 6 * q) v) (z 3) = lvz z (z 3) := lvz_cg _ (fun a _ => un_n _ _ (by omega))
  have cell : ∀ a, a ≠ e → (up μ e q (nI v)) a = μ a := fun a ha => by rw [up_eq]; exact upc_n _ _ ha
  have here : ∀ a, (up μ e q (nI v)) e a = if a = q then nI v else μ e a := fun a => by rw [up_eq, upc_s]; rfl
  have un1 : ∀ a, un z (c + 6 * q) v (c + 6 * a) = if a = q then v else z (c + 6 * a) := fun a => by
    by_cases ea : a = q
    · rw [if_pos ea, ea, un_s]
    · rw [if_neg ea, un_n _ _ (by omega)]
  have un2 : ∀ b a, 16 ≤ b → b ≤ 21 → b ≠ c → un z (c + 6 * q) v (b + 6 * a) = z (b + 6 * a) := fun b a h1 h2 h3 => un_n _ _ (by omega)
  unfold LR
  rw [lo 0 (by decide), lo 1 (by decide), lo 2 (by decide), lo 3 (by decide), lo 4 (by decide), lo 5 (by decide), lv, cell 16 (by omega), cell (16 + 1) (by omega), cell (16 + 2) (by omega)]
  refine ⟨r0, r1, r2, r3, r4, r5, r6, fun t ht => ?_, fun a ha => ?_⟩
  · rw [lo _ (by omega), lo _ (by omega)]
    exact r7 t ht
  · obtain ⟨q0, q1, q2, q3, q4, q5⟩ := r8 a ha
    rcases hc with ⟨rfl, rfl⟩ | ⟨rfl, rfl⟩ | ⟨rfl, rfl⟩
    · rw [cell (16 + 3) (by decide), cell (16 + 5) (by decide), cell (16 + 6) (by decide), cell (16 + 7) (by decide), cell (16 + 8) (by decide), un2 16 a (by decide) (by decide) (by decide), un2 18 a (by decide) (by decide) (by decide), un2 19 a (by decide) (by decide) (by decide), un2 20 a (by decide) (by decide) (by decide), un2 21 a (by decide) (by decide) (by decide), un1 a]
      refine ⟨q0, ?_, q2, q3, q4, q5⟩
      rw [show (up μ 20 q (nI v)) (16 + 4) a = _ from here a]
      split
      · rfl
      · exact q1
    · rw [cell (16 + 3) (by decide), cell (16 + 4) (by decide), cell (16 + 6) (by decide), cell (16 + 7) (by decide), cell (16 + 8) (by decide), un2 16 a (by decide) (by decide) (by decide), un2 17 a (by decide) (by decide) (by decide), un2 19 a (by decide) (by decide) (by decide), un2 20 a (by decide) (by decide) (by decide), un2 21 a (by decide) (by decide) (by decide), un1 a]
      refine ⟨q0, q1, ?_, q3, q4, q5⟩
      rw [show (up μ 21 q (nI v)) (16 + 5) a = _ from here a]
      split
      · rfl
      · exact q2
    · rw [cell (16 + 3) (by decide), cell (16 + 4) (by decide), cell (16 + 5) (by decide), cell (16 + 6) (by decide), cell (16 + 8) (by decide), un2 16 a (by decide) (by decide) (by decide), un2 17 a (by decide) (by decide) (by decide), un2 18 a (by decide) (by decide) (by decide), un2 19 a (by decide) (by decide) (by decide), un2 21 a (by decide) (by decide) (by decide), un1 a]
      refine ⟨q0, q1, q2, q3, ?_, q5⟩
      rw [show (up μ 23 q (nI v)) (16 + 7) a = _ from here a]
      split
      · rfl
      · exact q4
theorem LR_thing {μ : Mm} {z : Nat → Nat} {t v : Nat} (h : LR μ 16 z) (ht : t < 5) : LR (up μ 17 t (nI v)) 16 (un z (6 + 2 * t) v) := by
  obtain ⟨r0, r1, r2, r3, r4, r5, r6, r7, r8⟩ := h
  have lo : ∀ i, i < 6 → un z (6 + 2 * t) v i = z i := fun i hi => un_n _ _ (by omega)
  have lv : lvz (un z (6 + 2 * t) v) (z 3) = lvz z (z 3) := lvz_cg _ (fun a _ => un_n _ _ (by omega))
  unfold LR
  rw [lo 0 (by decide), lo 1 (by decide), lo 2 (by decide), lo 3 (by decide), lo 4 (by decide), lo 5 (by decide), lv]
  refine ⟨r0, r1, r2, r3, r4, r5, r6, fun a ha => ?_, fun a ha => ?_⟩
  · rw [un_n (j := 7 + 2 * a) _ _ (by omega)]
    refine ⟨?_, (r7 a ha).2⟩
    show upd (μ 17) t (nI v) a = _
    by_cases e : a = t
    · subst e
      rw [upd_s, un_s]
    · rw [upd_n _ _ e, un_n _ _ (by omega)]
      exact (r7 a ha).1
  · rw [un_n _ _ (by omega), un_n _ _ (by omega), un_n _ _ (by omega), un_n _ _ (by omega), un_n _ _ (by omega), un_n _ _ (by omega)]
    exact r8 a ha
theorem LR_nail {μ : Mm} {z : Nat → Nat} {v : Nat} (h : LR μ 16 z) : LR (up μ 16 5 (nI v)) 16 (un z 5 v) := by
  obtain ⟨r0, r1, r2, r3, r4, r5, r6, r7, r8⟩ := h
  have lv : lvz (un z 5 v) (z 3) = lvz z (z 3) := lvz_cg _ (fun a _ => un_n _ _ (by omega))
  unfold LR
  rw [show un z 5 v 3 = z 3 from rfl, lv]
  refine ⟨r0, r1, r2, r3, r4, rfl, r6, fun a ha => ?_, fun a ha => ?_⟩
  · rw [un_n _ _ (by omega), un_n _ _ (by omega)]
    exact r7 a ha
  · rw [un_n _ _ (by omega), un_n _ _ (by omega), un_n _ _ (by omega), un_n _ _ (by omega), un_n _ _ (by omega), un_n _ _ (by omega)]
    exact r8 a ha
theorem Inv.act {μ μ' : Mm} (hI : Inv μ) {n o' : Nat} {zs : Nat → Nat → Nat} {z z' : Nat → Nat} (vz : VL z) (v9 : z 4 ≤ 999) (hc : AC μ' (pn n) o' (pu n zs z)) (hm : AM μ' (pn n) (pu n zs z)) (hv : ∀ j, j < n → VL (zs j) ∧ zs j 4 ≤ 999) (hn : n ≤ 24) (hz : IZ μ' z') (e : ∀ k, k < 16 ∨ (34 ≤ k ∧ k ≤ 52) ∨ k = 277 ∨ k = 278 ∨ (280 ≤ k ∧ k ≤ 282) ∨ (287 ≤ k ∧ k ≤ 290) → μ' k = μ k) (e9 : ∀ j, ¬ j = 0 → ¬ j = 9 → μ' 279 j = μ 279 j) : Inv μ' := by
  obtain ⟨h1, h2, h3, h4, h5, h6, h7, h8⟩ := hI
  have f : ∀ k, k < 16 ∨ (34 ≤ k ∧ k ≤ 52) ∨ k = 277 ∨ k = 278 ∨ (280 ≤ k ∧ k ≤ 282) ∨ (287 ≤ k ∧ k ≤ 290) → ∀ j, μ' k j = μ k j := fun k hk j => by rw [e k hk]
  have ia : IA μ' := by
    obtain ⟨c1, c2, c3, c4, c5⟩ := hc
    obtain ⟨m1, m2⟩ := hm
    refine ⟨pn n, o', pu n zs z, c1, c2, c3, m1, c4, fun j hj => ?_⟩
    have vp : VL (pu n zs z j) ∧ pu n zs z j 4 ≤ 999 := by
      unfold pu
      unfold pn at hj
      split
      · rw [if_pos (by assumption)] at hj
        split
        · exact ⟨vz, v9⟩
        · exact hv j (by omega)
      · rw [if_neg (by assumption)] at hj
        split
        · exact ⟨vz, v9⟩
        · exact hv (j + 1) (by omega)
    exact ⟨vp.1, vp.2, c5 j hj, m2 j hj⟩
  exact ⟨h1.fr (e _ (by omega)) (e _ (by omega)) (e _ (by omega)) (e _ (by omega)) (e _ (by omega)) (e _ (by omega)), h2.fr (e _ (by omega)) (e9 _ (by decide) (by decide)), h3.fr (f _ (by omega) _) (e9 _ (by decide) (by decide)) (e _ (by omega)) (e _ (by omega)), h4.fr (f _ (by omega) _) (e9 _ (by decide) (by decide)), ⟨z', hz⟩, ia, h7.fr (fun k a b => e k (by omega)) (e _ (by omega)) (e _ (by omega)), h8.fr (f _ (by omega) _) (e9 _ (by decide) (by decide)) (e _ (by omega)) (e _ (by omega))⟩
/-- both sides keep the LAND as it was, then change one number of it -/
theorem s_act {μ : Mm} {K : Mm → Prop} {z : Nat → Nat} {c s v i : Nat} (hI : Inv μ) (hz : IZ μ z) (hc : 16 ≤ c) (hc' : c ≤ 24) (hv' : VL (un z i v)) (h4 : i ≠ 4) (hl : ∀ ν : Mm, LR ν 16 z → LR (up ν c s (nI v)) 16 (un z i v)) (k : ∀ ν : Mm, (∀ a, a < 53 ∨ 270 < a → ν a = μ a) → (∀ {d : Nat} (G : Mm → Prop) (ρ : Mm), (∀ a, a ≠ 279 → ρ a = (up ν c s (nI v)) a) → (∀ j, j ≠ 0 → ρ 279 j = μ 279 j) → (∀ σ : Mm, LM (σ 283) z → Inv (up σ 283 i (nI v)) → G σ) → cV (cM (d + 1)) 141 [.ref 279] ρ G) → K ν) : cV (cM 29) 1 [.ref 53, .ref 16] μ K := by
  have hI' := hI
  obtain ⟨vz, v9, lr, lm⟩ := hz
  obtain ⟨n, o, zs, a1, a2, a3, a4, a5, a6⟩ := hI.2.2.2.2.2.1
  refine s_remember (n := n) (o := o) (zs := zs) (z := z) ⟨a1, a2, a3, a5, fun j hj => (a6 j hj).2.2.1⟩ lr vz.2.2.1 vz.2.2.2.1 (fun ν o' hac fr => ?_)
  have lrν : LR ν 16 z := lr.fr (fun i hi => fr _ (by omega))
  refine k ν fr (fun {d} G ρ r1 r2 hG => ?_)
  have cell : ∀ a, a ≠ c → (up ν c s (nI v)) a = ν a := fun a ha => by rw [up_eq]; exact upc_n _ _ ha
  have lmρ : LM (ρ 283) z := by
    rw [r1 283 (by decide), cell 283 (by omega), fr 283 (by omega)]
    exact lm
  refine s_keep (n := n) (zs := zs) (z := z) ⟨by rw [r2 9 (by decide)]; exact a4, fun j hj i hi => by rw [r1 286 (by decide), cell 286 (by omega), fr 286 (by omega)]; exact (a6 j hj).2.2.2 i hi⟩ a1 lmρ (fun f g ham hg => hG _ ?_ ?_)
  · exact lmρ
  have S : ∀ a, a ≠ 283 → a ≠ 279 → a ≠ 286 → a ≠ c → (up (upc (upc ρ 286 f) 279 g) 283 i (nI v)) a = ν a := by
    intro a h1 h2 h3 h4
    rw [up_eq, upc_n _ _ h1, upc_n _ _ h2, upc_n _ _ h3, r1 a h2, cell a h4]
  refine Inv.act hI' (n := n) (o' := o') (zs := zs) (z := z) (z' := un z i v) vz v9 ?_ ?_ (fun j hj => ⟨(a6 j hj).1, (a6 j hj).2.1⟩) a1 ?_ (fun a ha => ?_) (fun j h0 h9 => ?_)
  · obtain ⟨c1, c2, c3, c4, c5⟩ := hac
    refine ⟨c1, c2, ?_, ?_, fun j hj => (c5 j hj).fr (fun b hb => S _ (by omega) (by omega) (by omega) (by omega))⟩
    · rw [S 53 (by decide) (by decide) (by decide) (by omega)]
      exact c3
    · rw [S 53 (by decide) (by decide) (by decide) (by omega)]
      exact c4
  · exact ham
  · refine ⟨hv', by rw [un_n _ _ (fun h => h4 h.symm)]; exact v9, (hl ν lrν).fr (fun b hb => ?_), ?_⟩
    · rw [up_eq, upc_n _ _ (by omega), upc_n _ _ (by omega), upc_n _ _ (by omega), r1 _ (by omega)]
    · rw [up_eq, upc_s]
      exact LM.up lmρ rfl
  · rw [S a (by omega) (by omega) (by omega) (by omega)]
    exact fr a (by omega)
  · show g j = _
    rw [hg j h9, r2 j h0]
