/-! ===== land: the reference reads thing, person ===== -/
def FD (μ ν : Mm) : Prop := (∀ a, a ≠ 279 → a ≠ 284 → ν a = μ a) ∧ (∀ j, j < 12 ∨ 17 < j → ν 279 j = μ 279 j)
theorem FD.tr {μ ν ρ : Mm} (h : FD μ ν) (h2 : FD ν ρ) : FD μ ρ := ⟨fun a ha hb => by rw [h2.1 a ha hb, h.1 a ha hb], fun j hj => by rw [h2.2 j hj, h.2 j hj]⟩
theorem F9.fd {μ ν : Mm} (h : F9 μ ν) : FD μ ν := ⟨fun a ha _ => h.1 a ha, h.2⟩
theorem FD.rf (μ : Mm) : FD μ μ := ⟨fun _ _ _ => rfl, fun _ _ => rfl⟩
def MPo (G1 G2 : Mm → Prop) (μ : Mm) (b : Nat → Nat) (N : Nat) (r : Rr) : Prop := (r.1 = 0 → ∀ ν', MS b N ν' r.2.1 → LM (ν' 284) r.2.2 → FD μ ν' → G1 ν') ∧ (¬ r.1 = 0 → ∀ ν', MF ν' r.1 r.2.1 → FD μ ν' → G2 ν')
theorem MPo.f {G1 G2 : Mm → Prop} {μ ν' : Mm} {b : Nat → Nat} {N e p : Nat} {z : Nat → Nat} (h : MPo G1 G2 μ b N (e, p, z)) (he : ¬ e = 0) (hf : MF ν' e p) (fd : FD μ ν') : G2 ν' := h.2 he ν' hf fd
theorem MPo.s {G1 G2 : Mm → Prop} {μ ν' : Mm} {b : Nat → Nat} {N p : Nat} {z : Nat → Nat} (h : MPo G1 G2 μ b N (0, p, z)) (hm : MS b N ν' p) (hl : LM (ν' 284) z) (fd : FD μ ν') : G1 ν' := h.1 rfl ν' hm hl fd
theorem MPo.tr {G1 G2 : Mm → Prop} {μ ν : Mm} {b : Nat → Nat} {N : Nat} {r : Rr} (h : MPo G1 G2 μ b N r) (f : FD μ ν) : MPo G1 G2 ν b N r := ⟨fun e ν' a1 a2 a3 => h.1 e ν' a1 a2 (f.tr a3), fun e ν' a1 a2 => h.2 e ν' a1 (f.tr a2)⟩
theorem m_thing {d : Nat} {ν : Mm} {G : Mm → Prop} {b : Nat → Nat} {N p : Nat} {z : Nat → Nat} (hN : N ≤ 100) (hb : ∀ i, i < N → b i < 256) (h : MS b N ν p) (q0 : tk b N p = 116) (lm : LM (ν 284) z) (vz : VZ z) (k : MPo G G ν b N (pThing b N p z)) : cV (cM (d + 5)) 124 [.ref 279] ν G := by
  unfold pThing sg nm at k
  obtain ⟨⟨z0, z0'⟩, z1, z2, z3, -⟩ := vz
  rw [if_pos q0] at k
  refine e_X8_readThing ⟨vp_in_nI (n := 2) (by decide) (by decide), ?_⟩
  rw [show ν 284 (2 : Int32).toNatClampNeg = nI (z 2) from lm 2 (by decide), show (nI (z 2) = 5) = (z 2 = 5) from propext (nI_eq (b := 5) (by omega) (by decide))]
  refine nr_c (fun q1 => ?_) (fun q1 => m_bad (k := 3) h (by decide) (fun ν1 a1 f1 => x_letter a1 (x_must a1 ⟨vp_in_nI (n := 0) (by decide) (by decide), x_num a1 (x_sign a1 (x_num a1 (x_sign a1 (nr_f a1.ne ?_))))⟩)))
  rotate_left
  · rw [if_pos q1] at k
    exact k.f (by decide) a1 f1.fd
  rw [if_neg q1] at k
  refine m_letter (c := 116) hb h (by decide) (fun _ => m_must hN hb h (by decide) (by omega) (fun ν1 s1 f1 => ⟨vp_in_nI (n := 0) (by decide) (by decide), ?_⟩)) (fun e => absurd q0 e)
  rw [show ν1 284 (0 : Int32).toNatClampNeg = nI (z 0) by rw [f1.1 284 (by decide)]; exact lm 0 (by decide), show nI (z 0) - 1 = nI (z 0 - 1) from sub_n (b := 1) (by omega)]
  refine m_num (lo := 0) (hi := z 0 - 1) (p := nj b N 1 p) hN hb s1 (by decide) (by omega) (fun q2 q3 ν2 s2 f2 => ?_) (fun q2 q3 ν2 a2 f2 => x_sign a2 (x_num a2 (x_sign a2 (nr_f a2.ne ?_)))) (fun q2 ν2 a2 f2 => x_sign a2 (x_num a2 (x_sign a2 (nr_f a2.ne ?_))))
  rotate_left
  · rw [if_pos q2, if_neg q3] at k
    exact k.f (by decide) a2 (f1.tr f2).fd
  · rw [if_neg q2] at k
    exact k.f (by decide) a2 (f1.tr f2).fd
  rw [if_pos q2, if_pos q3] at k
  refine m_sign (c := 44) (p := nj b N 2 p) hN hb s2 (by decide) (fun q4 ν3 s3 f3 => ?_) (fun q4 ν3 a3 f3 => x_num a3 (x_sign a3 (nr_f a3.ne ?_)))
  rotate_left
  · rw [if_neg q4] at k
    exact k.f (by decide) a3 ((f1.tr f2).tr f3).fd
  rw [if_pos q4] at k
  refine m_num (lo := 0) (hi := 15) (p := nj b N 3 p) hN hb s3 (by decide) (by decide) (fun q5 q6 ν4 s4 f4 => ?_) (fun q5 q6 ν4 a4 f4 => x_sign a4 (nr_f a4.ne ?_)) (fun q5 ν4 a4 f4 => x_sign a4 (nr_f a4.ne ?_))
  rotate_left
  · rw [if_pos q5, if_neg q6] at k
    exact k.f (by decide) a4 (((f1.tr f2).tr f3).tr f4).fd
  · rw [if_neg q5] at k
    exact k.f (by decide) a4 (((f1.tr f2).tr f3).tr f4).fd
  rw [if_pos q5, if_pos q6] at k
  refine m_sign (c := 59) (p := nj b N 4 p) hN hb s4 (by decide) (fun q7 ν5 s5 f5 => nr_t s5.2.2.2.1 ?_) (fun q7 ν5 a5 f5 => nr_f a5.ne ?_)
  rotate_left
  · rw [if_neg q7] at k
    exact k.f (by decide) a5 ((((f1.tr f2).tr f3).tr f4).tr f5).fd
  rw [if_pos q7] at k
  have f := (((f1.tr f2).tr f3).tr f4).tr f5
  have l5 : LM (ν5 284) z := by rw [f.1 284 (by decide)]; exact lm
  generalize vl b N (nj b N 1 p) = v at *
  generalize vl b N (nj b N 3 p) = g at *
  have i1 : (6 : Int32) + 2 * nI (z 2) = nI (6 + 2 * z 2) := by rw [show (2 : Int32) * nI (z 2) = nI (2 * z 2) from pk_mul 2 _]; exact nI_add 6 _
  have i2 : nI (6 + 2 * z 2) + 1 = nI (7 + 2 * z 2) := by rw [n_suc]; exact congrArg nI (by omega)
  have e1 : ν5 284 (2 : Int32).toNatClampNeg = nI (z 2) := l5 2 (by decide)
  rw [e1, i1, nI_clamp (by omega)]
  have e2 : (up ν5 284 (6 + 2 * z 2) (nI v)) 284 (2 : Int32).toNatClampNeg = nI (z 2) := by
    rw [up_eq, upc_s]
    show upd (ν5 284) (6 + 2 * z 2) (nI v) 2 = _
    rw [upd_n _ _ (by omega)]
    exact l5 2 (by decide)
  rw [e2, i1, i2, nI_clamp (by omega)]
  have e3 : (up (up ν5 284 (6 + 2 * z 2) (nI v)) 284 (7 + 2 * z 2) (nI g)) 284 (2 : Int32).toNatClampNeg = nI (z 2) := by
    rw [up_eq, upc_s]
    show upd ((up ν5 284 (6 + 2 * z 2) (nI v)) 284) (7 + 2 * z 2) (nI g) 2 = _
    rw [upd_n _ _ (by omega)]
    exact e2
  rw [e3, n_suc]
  refine ⟨vp_in_nI (n := 2) (by decide) (by decide), vp_in_nI (by omega) (by decide), vp_in_nI (n := 2) (by decide) (by decide), vp_in_nI (by omega) (by decide), vp_in_nI (n := 2) (by decide) (by decide), vp_in_nI (n := 2) (by decide) (by decide), k.s (s5.fr rfl rfl) (((l5.up rfl).up rfl).up rfl) ⟨fun a h1 h2 => ?_, fun j hj => f.2 j hj⟩⟩
  rw [up_eq, upc_n _ _ h2, up_eq, upc_n _ _ h2, up_eq, upc_n _ _ h2]
  exact f.1 a h1
theorem m_person {d : Nat} {ν : Mm} {G : Mm → Prop} {b : Nat → Nat} {N p : Nat} {z : Nat → Nat} (hN : N ≤ 100) (hb : ∀ i, i < N → b i < 256) (h : MS b N ν p) (q0 : ¬ srt (tk b N p) = 0) (lm : LM (ν 284) z) (vz : VZ z) (h21 : 1 ≤ z 2) (k : MPo G G ν b N (pPerson b N p z)) : cV (cM (d + 5)) 125 [.ref 279] ν G := by
  unfold pPerson sg nm at k
  obtain ⟨⟨z0, z0'⟩, z1, z2, z3, -⟩ := vz
  have sl := srt_lo q0
  rw [if_neg q0] at k
  refine e_X8_readPerson ?_
  rw [h.2.2.2.2.2.2.2.2 (by omega)]
  refine s_kindBy (by omega) (fun e => absurd e q0) (fun _ => ⟨vp_in_nI (n := 3) (by decide) (by decide), ?_⟩)
  rw [show ν 284 (3 : Int32).toNatClampNeg = nI (z 3) from lm 3 (by decide), show (nI (z 3) = 7) = (z 3 = 7) from propext (nI_eq (b := 7) (by omega) (by decide))]
  refine nr_c (fun q1 => ?_) (fun q1 => m_bad (k := 3) h (by decide) (fun ν1 a1 f1 => x_must a1 ⟨vp_in_nI (n := 2) (by decide) (by decide), x_num a1 (x_sign a1 ⟨vp_in_nI (n := 0) (by decide) (by decide), x_num a1 (x_sign a1 (x_num a1 (x_sign a1 (nr_f a1.ne ?_))))⟩)⟩))
  rotate_left
  · rw [if_pos q1] at k
    exact k.f (by decide) a1 f1.fd
  rw [if_neg q1] at k
  refine m_must hN hb h (by decide) (by omega) (fun ν1 s1 f1 => ⟨vp_in_nI (n := 2) (by decide) (by decide), ?_⟩)
  rw [show ν1 284 (2 : Int32).toNatClampNeg = nI (z 2) by rw [f1.1 284 (by decide)]; exact lm 2 (by decide), show nI (z 2) - 1 = nI (z 2 - 1) from sub_n (b := 1) (by omega)]
  refine m_num (lo := 0) (hi := z 2 - 1) (p := nj b N 1 p) hN hb s1 (by decide) (by omega) (fun q2 q3 ν2 s2 f2 => ?_) (fun q2 q3 ν2 a2 f2 => x_sign a2 ⟨vp_in_nI (n := 0) (by decide) (by decide), x_num a2 (x_sign a2 (x_num a2 (x_sign a2 (nr_f a2.ne ?_))))⟩) (fun q2 ν2 a2 f2 => x_sign a2 ⟨vp_in_nI (n := 0) (by decide) (by decide), x_num a2 (x_sign a2 (x_num a2 (x_sign a2 (nr_f a2.ne ?_))))⟩)
  rotate_left
  · rw [if_pos q2, if_neg q3] at k
    exact k.f (by decide) a2 (f1.tr f2).fd
  · rw [if_neg q2] at k
    exact k.f (by decide) a2 (f1.tr f2).fd
  rw [if_pos q2, if_pos q3] at k
  refine m_sign (c := 44) (p := nj b N 2 p) hN hb s2 (by decide) (fun q4 ν3 s3 f3 => ⟨vp_in_nI (n := 0) (by decide) (by decide), ?_⟩) (fun q4 ν3 a3 f3 => ⟨vp_in_nI (n := 0) (by decide) (by decide), x_num a3 (x_sign a3 (x_num a3 (x_sign a3 (nr_f a3.ne ?_))))⟩)
  rotate_left
  · rw [if_neg q4] at k
    exact k.f (by decide) a3 ((f1.tr f2).tr f3).fd
  rw [if_pos q4] at k
  have f13 := (f1.tr f2).tr f3
  rw [show ν3 284 (0 : Int32).toNatClampNeg = nI (z 0) by rw [f13.1 284 (by decide)]; exact lm 0 (by decide), show nI (z 0) - 1 = nI (z 0 - 1) from sub_n (b := 1) (by omega)]
  refine m_num (lo := 0) (hi := z 0 - 1) (p := nj b N 3 p) hN hb s3 (by decide) (by omega) (fun q5 q6 ν4 s4 f4 => ?_) (fun q5 q6 ν4 a4 f4 => x_sign a4 (x_num a4 (x_sign a4 (nr_f a4.ne ?_)))) (fun q5 ν4 a4 f4 => x_sign a4 (x_num a4 (x_sign a4 (nr_f a4.ne ?_))))
  rotate_left
  · rw [if_pos q5, if_neg q6] at k
    exact k.f (by decide) a4 (f13.tr f4).fd
  · rw [if_neg q5] at k
    exact k.f (by decide) a4 (f13.tr f4).fd
  rw [if_pos q5, if_pos q6] at k
  refine m_sign (c := 44) (p := nj b N 4 p) hN hb s4 (by decide) (fun q7 ν5 s5 f5 => ?_) (fun q7 ν5 a5 f5 => x_num a5 (x_sign a5 (nr_f a5.ne ?_)))
  rotate_left
  · rw [if_neg q7] at k
    exact k.f (by decide) a5 ((f13.tr f4).tr f5).fd
  rw [if_pos q7] at k
  refine m_num (lo := 0) (hi := 9) (p := nj b N 5 p) hN hb s5 (by decide) (by decide) (fun q8 q9 ν6 s6 f6 => ?_) (fun q8 q9 ν6 a6 f6 => x_sign a6 (nr_f a6.ne ?_)) (fun q8 ν6 a6 f6 => x_sign a6 (nr_f a6.ne ?_))
  rotate_left
  · rw [if_pos q8, if_neg q9] at k
    exact k.f (by decide) a6 (((f13.tr f4).tr f5).tr f6).fd
  · rw [if_neg q8] at k
    exact k.f (by decide) a6 (((f13.tr f4).tr f5).tr f6).fd
  rw [if_pos q8, if_pos q9] at k
  refine m_sign (c := 59) (p := nj b N 6 p) hN hb s6 (by decide) (fun q10 ν7 s7 f7 => nr_t s7.2.2.2.1 ?_) (fun q10 ν7 a7 f7 => nr_f a7.ne ?_)
  rotate_left
  · rw [if_neg q10] at k
    exact k.f (by decide) a7 ((((f13.tr f4).tr f5).tr f6).tr f7).fd
  rw [if_pos q10] at k
  have f := (((f13.tr f4).tr f5).tr f6).tr f7
  have l7 : LM (ν7 284) z := by rw [f.1 284 (by decide)]; exact lm
  generalize vl b N (nj b N 1 p) = v at *
  generalize vl b N (nj b N 3 p) = w at *
  generalize vl b N (nj b N 5 p) = x at *
  have i0 : (16 : Int32) + 6 * nI (z 3) = nI (16 + 6 * z 3) := by rw [show (6 : Int32) * nI (z 3) = nI (6 * z 3) from pk_mul 6 _]; exact nI_add 16 _
  have i1 : nI (16 + 6 * z 3) + 1 = nI (17 + 6 * z 3) := by rw [n_suc]; exact congrArg nI (by omega)
  have i2 : nI (16 + 6 * z 3) + 2 = nI (18 + 6 * z 3) := by rw [show nI (16 + 6 * z 3) + 2 = nI (16 + 6 * z 3 + 2) from nI_add _ 2]; exact congrArg nI (by omega)
  have i3 : nI (16 + 6 * z 3) + 3 = nI (19 + 6 * z 3) := by rw [show nI (16 + 6 * z 3) + 3 = nI (16 + 6 * z 3 + 3) from nI_add _ 3]; exact congrArg nI (by omega)
  have e1 : ν7 284 (3 : Int32).toNatClampNeg = nI (z 3) := l7 3 (by decide)
  rw [e1, i0, i1, i2, i3, nI_clamp (n := 16 + 6 * z 3) (by omega), nI_clamp (n := 17 + 6 * z 3) (by omega), nI_clamp (n := 18 + 6 * z 3) (by omega), nI_clamp (n := 19 + 6 * z 3) (by omega)]
  have lf : LM ((up (up (up (up ν7 284 (16 + 6 * z 3) (nI (srt (tk b N p)))) 284 (17 + 6 * z 3) (nI v)) 284 (18 + 6 * z 3) (nI w)) 284 (19 + 6 * z 3) (nI x)) 284) (un (un (un (un z (16 + 6 * z 3) (srt (tk b N p))) (17 + 6 * z 3) v) (18 + 6 * z 3) w) (19 + 6 * z 3) x) := (((l7.up rfl).up rfl).up rfl).up rfl
  have e3 : (up (up (up (up ν7 284 (16 + 6 * z 3) (nI (srt (tk b N p)))) 284 (17 + 6 * z 3) (nI v)) 284 (18 + 6 * z 3) (nI w)) 284 (19 + 6 * z 3) (nI x)) 284 (3 : Int32).toNatClampNeg = nI (z 3) := by
    rw [show (3 : Int32).toNatClampNeg = 3 from rfl, lf 3 (by decide), un_n _ _ (by omega), un_n _ _ (by omega), un_n _ _ (by omega), un_n _ _ (by omega)]
  rw [e3, n_suc]
  refine ⟨vp_in_nI (n := 3) (by decide) (by decide), vp_in_nI (by omega) (by decide), vp_in_nI (by omega) (by decide), vp_in_nI (by omega) (by decide), vp_in_nI (by omega) (by decide), vp_in_nI (n := 3) (by decide) (by decide), vp_in_nI (n := 3) (by decide) (by decide), k.s (s7.fr rfl rfl) (lf.up rfl) ⟨fun a h1 h2 => ?_, fun j hj => f.2 j hj⟩⟩
  rw [up_eq, upc_n _ _ h2, up_eq, upc_n _ _ h2, up_eq, upc_n _ _ h2, up_eq, upc_n _ _ h2, up_eq, upc_n _ _ h2]
  exact f.1 a h1
