/-! ===== set, copy ===== -/
/-- m ITEMS stand from i on -/
def hd (i n : Int32) (s : Nat) : Prop := ∃ j m, i = nI j ∧ n = nI m ∧ j + m ≤ s
theorem nneg {j : Nat} (h : j < 2 ^ 31) : ¬ nI j < 0 := by
  rw [i_lt, nI_toInt h]
  simp
theorem s_holds {d : Nat} {μ : Mm} {K : Int32 → Mm → Prop} {r s : Nat} {i n : Int32} (hr : r < 8) (h : μ 4 r = nI s) (hs : s ≤ 40) (k1 : hd i n s → K 1 μ) (k0 : ¬ hd i n s → K 0 μ) : cI (cM (d + 1)) 45 [.ref 1, .int (nI r), .int i, .int n] μ K := by
  have vp : vp_in (nI r) 8 := vp_in_nI hr (by decide)
  refine e_X6_holds ?_
  rw [nI_clamp (by omega), h]
  refine br_c (fun c => ⟨Or.inl rfl, k0 ?_⟩) (fun c => br_c (fun c2 => ⟨Or.inl rfl, k0 ?_⟩) (fun c2 => ⟨vp, ?_⟩))
  · rintro ⟨j, m, rfl, rfl, h3⟩
    exact nneg (by omega) c
  · rintro ⟨j, m, rfl, rfl, h3⟩
    exact nneg (by omega) c2
  · obtain ⟨j, hj, rfl⟩ := nI_of c
    obtain ⟨m, hm, rfl⟩ := nI_of c2
    have un : hd (nI j) (nI m) s → j + m ≤ s := by
      rintro ⟨j', m', e1, e2, h3⟩
      rw [nI_eq hj (by omega)] at e1
      rw [nI_eq hm (by omega)] at e2
      omega
    rw [nI_ltI (by omega) (by omega)]
    refine br_c (fun c3 => ⟨Or.inl rfl, k0 (fun q => by have := un q; omega)⟩) (fun c3 => ⟨vp, ?_⟩)
    rw [sub_n (by omega), nI_ltI (by omega) (by omega)]
    exact br_c (fun c4 => ⟨Or.inl rfl, k0 (fun q => by have := un q; omega)⟩) (fun c4 => ⟨Or.inr rfl, k1 ⟨j, m, rfl, rfl, by omega⟩⟩)
theorem s_seek {d : Nat} {μ : Mm} {K : Int32 → Mm → Prop} {r : Nat} {i n : Int32} (h : IR μ) (hr : r < 8) (kn : μ 280 r < 0 → K 1 μ) (k0 : ∀ s, s ≤ 40 → ¬ μ 280 r < 0 → μ 281 r = nI s → hd i n s → K 0 μ) (k2 : ∀ s, s ≤ 40 → ¬ μ 280 r < 0 → μ 281 r = nI s → ¬ hd i n s → K 2 μ) : cI (cM (d + 2)) 46 [.ref 1, .int (nI r), .int i, .int n] μ K := by
  refine e_X6_seek (s_missing h hr (fun c => br_f (by decide) (kn c)) (fun c => br_t rfl ?_))
  rcases h r hr with ⟨g1, -⟩ | ⟨s, g1, g2, g3, g4, g5, g6⟩
  · exact absurd g1 c
  · exact s_holds hr g4 g1 (fun q => br_f (by decide) (k0 s g1 c g5 q)) (fun q => br_t rfl (k2 s g1 c g5 q))
theorem hd_1 {i : Int32} {s : Nat} (hs : s ≤ 40) : hd i 1 s ↔ inN i s := by
  constructor
  · rintro ⟨j, m, rfl, e, h⟩
    rw [show (1 : Int32) = nI 1 from rfl, nI_eq (by omega) (by omega)] at e
    exact ⟨j, by omega, rfl⟩
  · rintro ⟨j, h, rfl⟩
    exact ⟨j, 1, rfl, rfl, by omega⟩
theorem op_set {μ : Mm} {K : Int32 → Mm → Prop} {x y w : Int32} (hI : Inv μ) (k : ∀ a μ1, Nx 109 [.ref 279, .int x, .int y, .int w] a μ1 → K a μ1) : cI (cM 30) 53 [.ref 0, .int x, .int y, .int w] μ K := by
  have hR := hI.1
  refine e_X7_set (s_isRow (fun hx => nr_f (by decide) ?_) (fun hx => nr_t rfl (k _ _ (fun G g => e_X8_set (s_isRowM (fun h => absurd h hx) (fun _ => nr_t rfl (g _ (Inv.q hI (fun k hk => by simp (disch := omega) only [up_eq, upc_n]) (fun j hj => by simp (disch := omega) only [up_eq, upc_s, upc_n, upd_n])))))))))
  have hx' := hx
  obtain ⟨r, -, hr, rfl⟩ := hx
  have cl : (nI r).toNatClampNeg = r := nI_clamp (by omega)
  have vp : vp_in (nI r) 8 := vp_in_nI (by omega) (by decide)
  refine s_seek hR (by omega) (fun c => br_f (by decide) (e_X7_found (k _ _ (fun G g => e_X8_set (s_isRowM (fun _ => nr_f (by decide) ⟨vp, ?_⟩) (fun h => absurd hx' h)))))) (fun s hs c gs hh => br_t rfl ?_) (fun s hs c gs hh => br_f (by decide) (e_X7_found (k _ _ (fun G g => e_X8_set (s_isRowM (fun _ => nr_f (by decide) ⟨vp, ?_⟩) (fun h => absurd hx' h))))))
  · rw [cl]
    exact br_f (nle.mpr c) (e_X8_finding (g _ (Inv.s hI (fun k hk => by simp (disch := omega) only [up_eq, upc_n]) (fun j hj hj1 => by simp (disch := omega) only [up_eq, upc_s, upc_n, upd_n]) (by simp (disch := omega) only [up_eq, upc_s, upc_n, upd_n, upd_s]))))
  · obtain ⟨i, hi, rfl⟩ := (hd_1 hs).mp hh
    have hin := (rngN (x := nI i) (n := s) (by omega)).mpr ⟨i, hi, rfl⟩
    rcases hR r (by omega) with ⟨g1, -⟩ | ⟨n, g1, g2, g3, g4, g5, g6⟩
    · exact absurd g1 c
    have gsn : n = s := by rw [g5, nI_eq (by omega) (by omega)] at gs; exact gs
    subst gsn
    have ca : ((nI r) * 40 + nI i).toNatClampNeg = 40 * r + i := by rw [show (40 : Int32) = nI 40 from rfl, pk_mul, nI_add, nI_clamp (by omega)]; omega
    have va : vp_in ((nI r) * 40 + nI i) 320 := by rw [show (40 : Int32) = nI 40 from rfl, pk_mul, nI_add]; exact vp_in_nI (by omega) (by decide)
    have cb : (40 * (nI r) + nI i).toNatClampNeg = 40 * r + i := by rw [show (40 : Int32) = nI 40 from rfl, pk_mul, nI_add, nI_clamp (by omega)]
    have vb : vp_in (40 * (nI r) + nI i) 320 := by rw [show (40 : Int32) = nI 40 from rfl, pk_mul, nI_add]; exact vp_in_nI (by omega) (by decide)
    have fin : ∀ (v : Int32) (G : Int32 → Mm → Prop), (∀ μ2, Inv μ2 → G v μ2) → G v (up (up (up (up (up μ 2 (40 * r + i) v) 0 10 0) 279 0 0) 279 1 0) 282 (40 * r + i) v) := by
      intro v G g
      refine g _ (Inv.r' hI (c2 := upd (μ 2) (40 * r + i) v) (c3 := μ 3) (c4 := μ 4) (c0 := upd (μ 0) 10 0) (m9 := upd (upd (μ 279) 0 0) 1 0) (m0 := μ 280) (m1 := μ 281) (m2 := upd (μ 282) (40 * r + i) v) ?_ (fun j h0 h1 => by rw [upd_n _ _ h1, upd_n _ _ h0]) rfl (fun a ha => ?_))
      · skip
        refine Mm_ext (fun a => ?_)
        by_cases c0 : a = 0
        · subst c0; rfl
        by_cases c2 : a = 2
        · subst c2; rfl
        by_cases c3 : a = 3
        · subst c3; rfl
        by_cases c4 : a = 4
        · subst c4; rfl
        by_cases c279 : a = 279
        · subst c279; rfl
        by_cases c280 : a = 280
        · subst c280; rfl
        by_cases c281 : a = 281
        · subst c281; rfl
        by_cases c282 : a = 282
        · subst c282; rfl
        simp (disch := omega) only [up_eq, upc_n]
      · rcases hR a ha with q1 | ⟨n', q1, q2, q3, q4, q5, q6⟩
        · exact Or.inl q1
        · refine Or.inr ⟨n', q1, q2, q3, q4, q5, fun b hb => ?_⟩
          by_cases e : 40 * a + b = 40 * r + i
          · rw [e, upd_s, upd_s]
          · rw [upd_n _ _ e, upd_n _ _ e]
            exact q6 b hb
    have mod : ∀ (v : Int32), (∀ G : Int32 → Mm → Prop, G v (up (up (up (up (up μ 2 (40 * r + i) v) 0 10 0) 279 0 0) 279 1 0) 282 (40 * r + i) v) → ((¬ μ 280 r = 0 → (vp_in (nI r) 8 ∧ ((¬ μ 280 r = 1 → G w (up (up (up (up (up μ 2 (40 * r + i) v) 0 10 0) 279 0 0) 279 1 0) 282 (40 * r + i) w)) ∧ (μ 280 r = 1 → G w.toInt16.toInt32 (up (up (up (up (up μ 2 (40 * r + i) v) 0 10 0) 279 0 0) 279 1 0) 282 (40 * r + i) w.toInt16.toInt32))))) ∧ (μ 280 r = 0 → G w.toInt8.toInt32 (up (up (up (up (up μ 2 (40 * r + i) v) 0 10 0) 279 0 0) 279 1 0) 282 (40 * r + i) w.toInt8.toInt32)))) → K v (up (up μ 2 (40 * r + i) v) 0 10 0) := by
      intro v hv
      refine k _ _ (fun G g => e_X8_set (s_isRowM (fun _ => nr_f (by decide) ⟨vp, ?_⟩) (fun h => absurd hx' h)))
      rw [cl]
      refine br_t (nlt.mp c) ⟨vp, ?_⟩
      rw [show (up (up (up μ 2 (40 * r + i) v) 0 10 0) 279 0 0) 281 r = μ 281 r from rfl, g5]
      refine s_inI (a := 0) rfl rfl (fun _ => nr_f (by decide) ⟨vp, ?_⟩) (fun h => absurd hin h)
      have hG := hv G (fin v G g)
      rw [cb, show (up (up (up (up μ 2 (40 * r + i) v) 0 10 0) 279 0 0) 279 1 0) 280 r = μ 280 r from rfl]
      have e282 : ∀ (ν : Mm) (u : Int32), (up ν 282 (40 * r + i) u) 282 (40 * r + i) = u := fun ν u => by rw [up_eq, upc_s, upd_s]
      rw [e282, e282, e282]
      exact ⟨fun c0 => ⟨(hG.1 c0).1, fun c1 => ⟨vb, vb, (hG.1 c0).2.1 c1⟩, fun c1 => ⟨vb, vb, (hG.1 c0).2.2 c1⟩⟩, fun c0 => ⟨vb, vb, hG.2 c0⟩⟩
    refine e_X6_put ⟨vp, ?_⟩
    rw [cl, ca, g3]
    refine nr_c (fun c0 => ⟨vp, nr_c (fun c1 => ⟨va, e_X7_sound (mod _ (fun G hG => nr_f c0 ⟨vp, nr_f c1 hG⟩))⟩) (fun c1 => ⟨va, e_X7_sound (mod _ (fun G hG => nr_f c0 ⟨vp, nr_t c1 hG⟩))⟩)⟩) (fun c0 => ⟨va, e_X7_sound (mod _ (fun G hG => nr_t c0 hG))⟩)
  · rw [cl]
    refine br_t (nlt.mp c) ⟨vp, ?_⟩
    rw [show (up (up μ 0 10 2) 279 0 0) 281 r = μ 281 r from rfl, gs]
    refine s_inI (a := 0) rfl rfl (fun h => absurd ((hd_1 hs).mpr ((rngN (by omega)).mp h)) hh) (fun _ => nr_t rfl (e_X8_finding (g _ (Inv.s hI (fun k hk => by simp (disch := omega) only [up_eq, upc_n]) (fun j hj hj1 => by simp (disch := omega) only [up_eq, upc_s, upc_n, upd_n]) (by simp (disch := omega) only [up_eq, upc_s, upc_n, upd_n, upd_s])))))
