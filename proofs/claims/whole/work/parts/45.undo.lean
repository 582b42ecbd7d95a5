/-! ===== undo, image, restore ===== -/
theorem Inv.g {μ μ' : Mm} (hI : Inv μ) {z' : Nat → Nat} (hz : IZ μ' z') (ha : IA μ') (hi : II μ') (e : ∀ k, k < 16 ∨ k = 277 ∨ k = 278 ∨ (280 ≤ k ∧ k ≤ 282) ∨ k = 287 ∨ k = 290 → μ' k = μ k) (e9 : ∀ j, ¬ j = 0 → ¬ j = 9 → μ' 279 j = μ 279 j) : Inv μ' := by
  obtain ⟨h1, h2, h3, h4, h5, h6, h7, h8⟩ := hI
  have f : ∀ k, k < 16 ∨ k = 277 ∨ k = 278 ∨ (280 ≤ k ∧ k ≤ 282) ∨ k = 287 ∨ k = 290 → ∀ j, μ' k j = μ k j := fun k hk j => by rw [e k hk]
  exact ⟨h1.fr (e _ (by omega)) (e _ (by omega)) (e _ (by omega)) (e _ (by omega)) (e _ (by omega)) (e _ (by omega)), h2.fr (e _ (by omega)) (e9 _ (by decide) (by decide)), h3.fr (f _ (by omega) _) (e9 _ (by decide) (by decide)) (e _ (by omega)) (e _ (by omega)), h4.fr (f _ (by omega) _) (e9 _ (by decide) (by decide)), ⟨z', hz⟩, ha, hi, h8.fr (f _ (by omega) _) (e9 _ (by decide) (by decide)) (e _ (by omega)) (e _ (by omega))⟩
theorem s_undoM {d : Nat} {μ : Mm} {K : Int32 → Mm → Prop} {n : Nat} {z : Nat → Nat} (h9 : μ 279 9 = nI n) (hn : n < 24) (h : ∀ i, i < 58 → μ 286 (58 * n + i) = nI (z i)) (k : ∀ f, LM f z → K (nI n) (upc μ 283 f)) : jX8_undo d K 27 [some (.ref 279), some (.int 0)] [] μ := by
  have key : ∀ m i f, i + m = 58 → (∀ a, a < i → f a = nI (z a)) → jX8_undo d K 27 [some (.ref 279), some (.int (nI i))] [] (upc μ 283 f) := by
    intro m
    induction m with
    | zero =>
      intro i f hi hf
      obtain rfl : i = 58 := by omega
      refine k_X8_undo_27 (br_t (by decide) ?_)
      rw [show (upc μ 283 f) 279 9 = μ 279 9 from rfl, h9]
      exact k f hf
    | succ m ih =>
      intro i f hi hf
      refine k_X8_undo_27 (br_f (by rw [show (58 : Int32) = nI 58 from rfl, nI_leI (by omega) (by omega)]; omega) ?_)
      rw [show (upc μ 283 f) 279 9 = μ 279 9 from rfl, h9, n_suc, show (58 : Int32) = nI 58 from rfl, pk_mul, nI_add, nI_clamp (by omega), nI_clamp (by omega)]
      refine ⟨vp_in_nI (by omega) (by decide), vp_in_nI (by omega) (by decide), ?_⟩
      rw [show (upc μ 283 f) 286 = μ 286 from rfl, h i (by omega), up_eq, upc_upc, upc_s]
      refine ih (i + 1) _ (by omega) (fun a ha => ?_)
      by_cases e : a = i
      · subst e
        exact upd_s _ _ _
      · rw [upd_n _ _ e]
        exact hf a (by omega)
  have := key 58 0 (μ 283) (by decide) (fun a ha => absurd ha (by omega))
  rw [upc_id] at this
  exact this
theorem op_undo {μ : Mm} {K : Int32 → Mm → Prop} (hI : Inv μ) (k : ∀ a μ1, Nx 149 [.ref 279] a μ1 → K a μ1) : cI (cM 30) 59 [.ref 0] μ K := by
  obtain ⟨n, o, zs, a1, a2, a3, a4, a5, a6⟩ := hI.2.2.2.2.2.1
  refine e_X7_undo (e_X0_takeBack ?_)
  rw [a3, a5]
  by_cases c : n = 0
  · subst c
    refine nr_t rfl ⟨Or.inl rfl, br_t rfl (k _ _ (fun G g => e_X8_undo ?_))⟩
    rw [a4]
    exact nr_t rfl (g _ (Inv.q hI (fun k hk => by simp (disch := omega) only [up_eq, upc_n]) (fun j hj => by simp (disch := omega) only [up_eq, upc_s, upc_n, upd_n])))
  · refine nr_f (by rw [show (0 : Int32) = nI 0 from rfl, nI_eq (by omega) (by omega)]; exact c) ⟨by decide, ?_⟩
    have hm : (o + (n - 1)) % 24 < 24 := Nat.mod_lt _ (by decide)
    have en : nI n - 1 = nI (n - 1) := sub_n (b := 1) (by omega)
    have er : nI o + nI (n - 1) - (nI o + nI (n - 1)) / 24 * 24 = nI ((o + (n - 1)) % 24) := by
      rw [nI_add]
      exact rem_n (by omega) (by decide) (by decide)
    rw [en, er, nI_clamp (by omega), tg_54]
    refine ⟨vp_in_nI hm (by decide), ?_⟩
    obtain ⟨vz, v9, lr, was⟩ := a6 (n - 1) (by omega)
    refine s_become (by decide) (by decide) (by omega) (lo_55 _ hm) (by omega) (lr.fr (fun i hi => by rw [up_eq]; exact upc_n _ _ (by omega))) vz.2.2.1 vz.2.2.2.1 (fun ν hν fr => ⟨Or.inr rfl, br_f (by decide) ?_⟩)
    have f53 : ν 53 = upd (μ 53) 2 (nI (n - 1)) := by rw [fr 53 (by decide), up_eq, upc_s]
    have fa : ∀ a, (a < 16 ∨ 24 < a) → a ≠ 53 → ν a = μ a := fun a ha h53 => by rw [fr a (by omega), up_eq]; exact upc_n _ _ h53
    rw [f53, upd_s]
    refine k _ _ (fun G g => e_X8_undo ?_)
    rw [show ν 279 9 = nI n by rw [fa 279 (by decide) (by decide)]; exact a4, en]
    refine nr_f (by rw [show (0 : Int32) = nI 0 from rfl, nI_eq (by omega) (by omega)]; exact c) ?_
    refine s_undoM (n := n - 1) (z := zs (n - 1)) rfl (by omega) (fun i hi => ?_) (fun f hf => g _ ?_)
    · show ν 286 _ = _
      rw [fa 286 (by decide) (by decide)]
      exact was i hi
    have S : ∀ a, a ≠ 283 → a ≠ 279 → (upc (up (up ν 279 0 0) 279 9 (nI (n - 1))) 283 f) a = ν a := fun a h1 h2 => by rw [upc_n _ _ h1, up_eq, upc_n _ _ h2, up_eq, upc_n _ _ h2]
    refine Inv.g hI (z' := zs (n - 1)) ⟨vz, v9, hν.fr (fun i hi => S _ (by omega) (by omega)), hf⟩ ⟨n - 1, o, zs, by omega, a2, ?_, rfl, ?_, fun j hj => ?_⟩ ?_ (fun a ha => ?_) (fun j h0 h9 => ?_)
    · rw [S 53 (by decide) (by decide), f53, upd_s]
    · rw [S 53 (by decide) (by decide), f53, upd_n _ _ (by decide)]
      exact a5
    · obtain ⟨b1, b2, b3, b4⟩ := a6 j (by omega)
      refine ⟨b1, b2, b3.fr (fun i hi => ?_), ?_⟩
      · rw [S _ (by omega) (by omega)]
        exact fa _ (by omega) (by omega)
      · rw [S 286 (by decide) (by decide), fa 286 (by decide) (by decide)]
        exact b4
    · refine hI.2.2.2.2.2.2.1.fr (fun a h1 h2 => ?_) ?_ ?_
      · rw [S _ (by omega) (by omega)]
        exact fa _ (by omega) (by omega)
      · rw [S 288 (by decide) (by decide), fa 288 (by decide) (by decide)]
      · rw [S 289 (by decide) (by decide), fa 289 (by decide) (by decide)]
    · rw [S _ (by omega) (by omega)]
      exact fa _ (by omega) (by omega)
    · rw [upc_n _ _ (by decide), up_eq, upc_s, upd_n _ _ h9, up_eq, upc_s, upd_n _ _ h0, fa 279 (by decide) (by decide)]
theorem lo_35 : ∀ i, i < 2 → lo (35 + 9 * i) = 0 := by decide
theorem ob_35 : ∀ i, i < 2 → ob (35 + 9 * i) = 4 := by decide
theorem tg_34 (i : Nat) : tg 34 i = 35 + 9 * i := rfl
theorem s_imageM {d : Nat} {μ : Mm} {K : Int32 → Mm → Prop} {c : Nat} {z : Nat → Nat} (hc : c < 2) (h : LM (μ 283) z) (k : ∀ f, (∀ i, i < 58 → f (58 * c + i) = nI (z i)) → (∀ x, (x < 58 * c ∨ 58 * c + 58 ≤ x) → f x = μ 289 x) → K 1 (up (upc μ 289 f) 288 c 1)) : jX8_image d K 30 [some (.ref 279), some (.int (nI c)), some (.int 0)] [] μ := by
  have key : ∀ m i f, i + m = 58 → (∀ a, a < i → f (58 * c + a) = nI (z a)) → (∀ x, (x < 58 * c ∨ 58 * c + 58 ≤ x) → f x = μ 289 x) → jX8_image d K 30 [some (.ref 279), some (.int (nI c)), some (.int (nI i))] [] (upc μ 289 f) := by
    intro m
    induction m with
    | zero =>
      intro i f hi hf hx
      obtain rfl : i = 58 := by omega
      refine k_X8_image_30 (br_t (by decide) ⟨vp_in_nI hc (by decide), Or.inr rfl, ?_⟩)
      rw [nI_clamp (by omega)]
      exact k f hf hx
    | succ m ih =>
      intro i f hi hf hx
      refine k_X8_image_30 (br_f (by rw [show (58 : Int32) = nI 58 from rfl, nI_leI (by omega) (by omega)]; omega) ?_)
      rw [n_suc, show (58 : Int32) = nI 58 from rfl, pk_mul, nI_add, nI_clamp (by omega), nI_clamp (by omega)]
      refine ⟨vp_in_nI (by omega) (by decide), vp_in_nI (by omega) (by decide), ?_⟩
      rw [show (upc μ 289 f) 283 = μ 283 from rfl, h i (by omega), up_eq, upc_upc, upc_s]
      refine ih (i + 1) _ (by omega) (fun a ha => ?_) (fun x hh => ?_)
      · by_cases e : a = i
        · subst e
          exact upd_s _ _ _
        · rw [upd_n _ _ (by omega)]
          exact hf a (by omega)
      · rw [upd_n _ _ (by omega)]
        exact hx x hh
  have := key 58 0 (μ 289) (by decide) (fun a ha => absurd ha (by omega)) (fun _ _ => rfl)
  rw [upc_id] at this
  exact this
theorem s_restoreM {d : Nat} {μ : Mm} {K : Int32 → Mm → Prop} {c : Nat} {z : Nat → Nat} (hc : c < 2) (h : ∀ i, i < 58 → μ 289 (58 * c + i) = nI (z i)) (k : ∀ f, LM f z → K 1 (up (upc μ 283 f) 279 9 0)) : jX8_restore d K 32 [some (.ref 279), some (.int (nI c)), some (.int 0)] [] μ := by
  have key : ∀ m i f, i + m = 58 → (∀ a, a < i → f a = nI (z a)) → jX8_restore d K 32 [some (.ref 279), some (.int (nI c)), some (.int (nI i))] [] (upc μ 283 f) := by
    intro m
    induction m with
    | zero =>
      intro i f hi hf
      obtain rfl : i = 58 := by omega
      exact k_X8_restore_32 (br_t (by decide) (k f hf))
    | succ m ih =>
      intro i f hi hf
      refine k_X8_restore_32 (br_f (by rw [show (58 : Int32) = nI 58 from rfl, nI_leI (by omega) (by omega)]; omega) ?_)
      rw [n_suc, show (58 : Int32) = nI 58 from rfl, pk_mul, nI_add, nI_clamp (by omega), nI_clamp (by omega)]
      refine ⟨vp_in_nI (by omega) (by decide), vp_in_nI (by omega) (by decide), ?_⟩
      rw [show (upc μ 283 f) 289 = μ 289 from rfl, h i (by omega), up_eq, upc_upc, upc_s]
      refine ih (i + 1) _ (by omega) (fun a ha => ?_)
      by_cases e : a = i
      · subst e
        exact upd_s _ _ _
      · rw [upd_n _ _ e]
        exact hf a (by omega)
  have := key 58 0 (μ 283) (by decide) (fun a ha => absurd ha (by omega))
  rw [upc_id] at this
  exact this
theorem op_image {μ : Mm} {K : Int32 → Mm → Prop} {x : Int32} (hI : Inv μ) (k : ∀ a μ1, Nx 172 [.ref 279, .int x] a μ1 → K a μ1) : cI (cM 30) 84 [.ref 0, .int x] μ K := by
  obtain ⟨z, hz⟩ := hI.2.2.2.2.1
  obtain ⟨vz, v9, lr, lm⟩ := hz
  have vz' := vz
  obtain ⟨v0, v1, v2, v3, v4, v5, v6, v7, v8⟩ := vz
  have r0 := lr.1
  have r3 := lr.2.2.2.1
  have r4 := lr.2.2.2.2.1
  have r5 := lr.2.2.2.2.2.1
  have r6 := lr.2.2.2.2.2.2.1
  have l0 := lm 0 (by decide)
  have l2 := lm 2 (by decide)
  have l3 := lm 3 (by decide)
  have l5 := lm 5 (by decide)
  refine e_X7_image (s_out (a := 0) (b := 1) (by decide) (by decide) (fun hx => br_t rfl ?_) (fun hx => br_f (by decide) (k _ _ (fun G g => e_X8_image (s_in (a := 0) (b := 1) (by decide) (by decide) rfl rfl (fun h => absurd h hx) (fun _ => nr_t rfl (g _ (Inv.q hI (fun k hk => by simp (disch := omega) only [up_eq, upc_n]) (fun j hj => by simp (disch := omega) only [up_eq, upc_s, upc_n, upd_n])))))))))
  have hx' := hx
  obtain ⟨c, -, hc, rfl⟩ := hx
  refine s_isThere rfl r0 (by omega) (fun h0 => nr_f (by decide) ⟨vp_in_nI (by omega) (by decide), ?_⟩) (fun h0 => nr_t rfl (k _ _ (fun G g => e_X8_image (s_in (a := 0) (b := 1) (by decide) (by decide) rfl rfl (fun _ => nr_f (by decide) (s_isThereM (μ := up μ 279 0 0) l0 (by omega) (fun h => absurd h (by omega)) (fun _ => nr_t rfl (g _ (Inv.q hI (fun k hk => by simp (disch := omega) only [up_eq, upc_n]) (fun j hj => by simp (disch := omega) only [up_eq, upc_s, upc_n, upd_n])))))) (fun h => absurd hx' h)))))
  rw [nI_clamp (by omega), tg_34, ob_35 c (by omega)]
  refine s_become (by omega) (lo_35 c (by omega)) (by decide) (by decide) (by omega) lr v2 v3 (fun ν hν fr => ?_)
  have f3 : ν 283 = μ 283 := fr 283 (by omega)
  refine k _ _ (fun G g => e_X8_image (s_in (a := 0) (b := 1) (by decide) (by decide) rfl rfl (fun _ => nr_f (by decide) (s_isThereM (n := z 0) (by show ν 283 0 = _; rw [f3]; exact l0) (by omega) (fun _ => nr_f (by decide) ?_) (fun h => absurd h (by omega)))) (fun h => absurd hx' h)))
  refine s_imageM (z := z) (by omega) (by show LM (ν 283) z; rw [f3]; exact lm) (fun f h1 h2 => g _ ?_)
  have S : ∀ a, a ≠ 288 → a ≠ 289 → a ≠ 279 → (up (upc (up ν 279 0 0) 289 f) 288 c 1) a = ν a := fun a h1 h2 h3 => by rw [up_eq, upc_n _ _ h1, upc_n _ _ h2, up_eq, upc_n _ _ h3]
  refine Inv.g hI (z' := z) ⟨vz', v9, lr.fr (fun i hi => ?_), ?_⟩ ?_ (fun b hb => ?_) (fun a ha => ?_) (fun j h0 h9 => ?_)
  · rw [S _ (by omega) (by omega) (by omega)]
    exact fr _ (by omega)
  · rw [S 283 (by decide) (by decide) (by decide), f3]
    exact lm
  · refine hI.2.2.2.2.2.1.fr ?_ ?_ (fun a h1 h2 => ?_) ?_
    · rw [S 53 (by decide) (by decide) (by decide)]
      exact fr 53 (by omega)
    · rw [up_eq, upc_n _ _ (by decide), upc_n _ _ (by decide), up_eq, upc_s, upd_n _ _ (by decide), fr 279 (by omega)]
    · rw [S _ (by omega) (by omega) (by omega)]
      exact fr _ (by omega)
    · rw [S 286 (by decide) (by decide) (by decide)]
      exact fr _ (by omega)
  · have e8 : (up (upc (up ν 279 0 0) 289 f) 288 c 1) 288 = upd (μ 288) c 1 := by rw [up_eq, upc_s, upc_n _ _ (by decide), up_eq, upc_n _ _ (by decide), fr 288 (by omega)]
    have e9 : (up (upc (up ν 279 0 0) 289 f) 288 c 1) 289 = f := by rw [up_eq, upc_n _ _ (by decide), upc_s]
    have h2' : ∀ x, (x < 58 * c ∨ 58 * c + 58 ≤ x) → f x = μ 289 x := fun x hx => by rw [h2 x hx, up_eq, upc_n _ _ (by decide), fr 289 (by omega)]
    rw [e8, e9, S (35 + 9 * b) (by omega) (by omega) (by omega)]
    by_cases e : b = c
    · subst e
      rw [upd_s]
      exact Or.inr ⟨rfl, z, vz', h0, v9, hν.fr (fun i hi => S _ (by omega) (by omega) (by omega)), h1⟩
    · rw [upd_n _ _ e, fr (35 + 9 * b) (by omega)]
      rcases hI.2.2.2.2.2.2.1 b hb with q1 | ⟨q1, y, q2, q3, q4, q5, q6⟩
      · exact Or.inl q1
      · refine Or.inr ⟨q1, y, q2, q3, q4, q5.fr (fun i hi => ?_), fun i hi => ?_⟩
        · rw [S _ (by omega) (by omega) (by omega)]
          exact fr _ (by omega)
        · rw [h2' _ (by omega)]
          exact q6 i hi
  · rw [S _ (by omega) (by omega) (by omega)]
    exact fr _ (by omega)
  · rw [up_eq, upc_n _ _ (by decide), upc_n _ _ (by decide), up_eq, upc_s, upd_n _ _ h0, fr 279 (by omega)]
theorem op_restore {μ : Mm} {K : Int32 → Mm → Prop} {x : Int32} (hI : Inv μ) (k : ∀ a μ1, Nx 173 [.ref 279, .int x] a μ1 → K a μ1) : cI (cM 30) 85 [.ref 0, .int x] μ K := by
  refine e_X7_restore (s_out (a := 0) (b := 1) (by decide) (by decide) (fun hx => br_t rfl ?_) (fun hx => br_f (by decide) (k _ _ (fun G g => e_X8_restore (s_in (a := 0) (b := 1) (by decide) (by decide) rfl rfl (fun h => absurd h hx) (fun _ => nr_t rfl (g _ (Inv.q hI (fun k hk => by simp (disch := omega) only [up_eq, upc_n]) (fun j hj => by simp (disch := omega) only [up_eq, upc_s, upc_n, upd_n])))))))))
  have hx' := hx
  obtain ⟨c, -, hc, rfl⟩ := hx
  have vp : vp_in (nI c) 2 := vp_in_nI (by omega) (by decide)
  rw [nI_clamp (by omega), tg_34, ob_35 c (by omega)]
  refine ⟨vp, ?_⟩
  rcases hI.2.2.2.2.2.2.1 c (by omega) with ⟨q1, q2⟩ | ⟨q1, y, q2, q3, q4, q5, q6⟩
  · refine s_isThere (n := 0) (ob_35 c (by omega)) q2 (by decide) (fun h => absurd h (by omega)) (fun _ => nr_t rfl (k _ _ (fun G g => e_X8_restore (s_in (a := 0) (b := 1) (by decide) (by decide) rfl rfl (fun _ => nr_f (by decide) ⟨vp, ?_⟩) (fun h => absurd hx' h)))))
    rw [nI_clamp (by omega), show (up μ 279 0 0) 288 c = 0 from q1]
    exact nr_t rfl (g _ (Inv.q hI (fun k hk => by simp (disch := omega) only [up_eq, upc_n]) (fun j hj => by simp (disch := omega) only [up_eq, upc_s, upc_n, upd_n])))
  · refine s_isThere (n := y 0) (ob_35 c (by omega)) q5.1 (by have := q2.1; omega) (fun _ => nr_f (by decide) ⟨vp, ?_⟩) (fun h => absurd h (by omega))
    refine s_become (by decide) (by decide) (by omega) (lo_35 c (by omega)) (by omega) q5 q2.2.2.1 q2.2.2.2.1 (fun ν hν fr => e_X0_forget ?_)
    refine k _ _ (fun G g => e_X8_restore (s_in (a := 0) (b := 1) (by decide) (by decide) rfl rfl (fun _ => nr_f (by decide) ⟨vp, ?_⟩) (fun h => absurd hx' h)))
    rw [nI_clamp (by omega), show (up (up ν 53 2 0) 279 0 0) 288 = μ 288 from fr 288 (by decide), q1]
    refine nr_f (by decide) (s_restoreM (z := y) (by omega) (fun i hi => ?_) (fun f hf => g _ ?_))
    · rw [show (up (up ν 53 2 0) 279 0 0) 289 = μ 289 from fr 289 (by decide)]
      exact q6 i hi
    have S : ∀ a, a ≠ 283 → a ≠ 279 → a ≠ 53 → (up (upc (up (up ν 53 2 0) 279 0 0) 283 f) 279 9 0) a = ν a := fun a h1 h2 h3 => by rw [up_eq, upc_n _ _ h2, upc_n _ _ h1, up_eq, upc_n _ _ h2, up_eq, upc_n _ _ h3]
    obtain ⟨n, o, zs, a1, a2, a3, a4, a5, a6⟩ := hI.2.2.2.2.2.1
    refine Inv.g hI (z' := y) ⟨q2, q4, hν.fr (fun i hi => S _ (by omega) (by omega) (by omega)), hf⟩ ⟨0, o, zs, by decide, a2, rfl, rfl, ?_, fun j hj => absurd hj (by omega)⟩ ?_ (fun a ha => ?_) (fun j h0 h9 => ?_)
    · rw [up_eq, upc_n _ _ (by decide), upc_n _ _ (by decide), up_eq, upc_n _ _ (by decide), up_eq, upc_s, upd_n _ _ (by decide), fr 53 (by decide)]
      exact a5
    · refine hI.2.2.2.2.2.2.1.fr (fun a h1 h2 => ?_) ?_ ?_
      · rw [S _ (by omega) (by omega) (by omega)]
        exact fr _ (by omega)
      · rw [S 288 (by decide) (by decide) (by decide)]
        exact fr _ (by omega)
      · rw [S 289 (by decide) (by decide) (by decide)]
        exact fr _ (by omega)
    · rw [S _ (by omega) (by omega) (by omega)]
      exact fr _ (by omega)
    · rw [up_eq, upc_s, upd_n _ _ h9, upc_n _ _ (by decide), up_eq, upc_s, upd_n _ _ h0, up_eq, upc_n _ _ (by decide), fr 279 (by decide)]
