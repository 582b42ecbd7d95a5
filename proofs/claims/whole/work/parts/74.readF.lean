/-! ===== land: the reference reads a tape ===== -/
theorem x_failed {d : Nat} {ν : Mm} {K : Int32 → Mm → Prop} {k p : Nat} (h : MF ν k p) (kk : K 1 (up (up ν 279 11 0) 279 18 (nI k))) : cI (cM (d + 1)) 120 [.ref 279] ν K := by
  have h1 := h.1
  have hgt : ¬ ν 279 16 ≤ 0 := by
    rw [h.2.1, show (0 : Int32) = nI 0 from rfl, nI_leI (by omega) (by omega)]
    omega
  refine e_X8_failed (nr_f h.ne (br_f hgt (br_f hgt ⟨Or.inr rfl, ?_⟩)))
  rw [h.2.1]
  exact kk
theorem m_failed {d : Nat} {ν : Mm} {K : Int32 → Mm → Prop} {b : Nat → Nat} {N p : Nat} (hb : ∀ i, i < N → b i < 256) (h : MS b N ν p) (k0 : tk b N p = 0 → K 0 (up (up ν 279 11 0) 279 18 (ν 279 18))) (k1 : ¬ tk b N p = 0 → ∀ ν', MF ν' 1 p → F9 ν ν' → K 1 (up (up ν' 279 11 0) 279 18 (nI 1))) : cI (cM (d + 2)) 120 [.ref 279] ν K := by
  have tl := tk_le (p := p) hb
  have m4 := h.2.2.2.1
  have hle : ν 279 16 ≤ 0 := by
    rw [m4]
    decide
  refine e_X8_failed (nr_t m4 ?_)
  rw [h.2.2.2.2.2.1, show (mk (tk b N p) = 1) = (tk b N p = 0) from propext (mk_1 tl)]
  refine br_c (fun q => br_t hle (br_t hle ⟨Or.inl rfl, k0 q⟩)) (fun q => m_bad (k := 1) h (by decide) (fun ν' a1 a2 => ?_))
  have hgt : ¬ ν' 279 16 ≤ 0 := by
    rw [a1.2.1]
    decide
  refine br_f hgt (br_f hgt ⟨Or.inr rfl, ?_⟩)
  rw [a1.2.1]
  exact k1 q ν' a1 a2
/-- behind the PEOPLE -/
def gF1 (d : Nat) (G : Int32 → Mm → Prop) (ν : Mm) : Prop := jX8_land d G 156 [some (.ref 279), some (.int 0)] [] (up (up (up ν 279 11 0) 279 18 (ν 279 18)) 279 9 0)
def gF2 (G : Int32 → Mm → Prop) (ν : Mm) : Prop := G (-1000100 - ν 279 17) (up (up ν 279 11 0) 279 18 (ν 279 16))
theorem x_120 {d : Nat} {ν : Mm} {G : Int32 → Mm → Prop} {k p : Nat} (h : MF ν k p) (kk : gF2 G ν) : jX8_land (d + 1) G 120 [some (.ref 279), none] [] ν := by
  refine k_X8_land_120 (x_sort h (br_t rfl (x_failed h (br_f (by decide) ?_))))
  unfold gF2 at kk
  rw [h.2.1] at kk
  rw [show (up (up ν 279 11 0) 279 18 (nI k)) 279 17 = ν 279 17 from rfl]
  exact kk
theorem m_people {d : Nat} {μ : Mm} {G : Int32 → Mm → Prop} {b : Nat → Nat} {N : Nat} (hN : N ≤ 100) (hb : ∀ i, i < N → b i < 256) : ∀ m p (z : Nat → Nat) (ν : Mm), z 3 + m = 8 → MS b N ν p → LM (ν 284) z → VZ z → 1 ≤ z 2 → FD μ ν → MPo (gF1 (d + 5) G) (gF2 G) μ b N (pP b N m p z) → jX8_land (d + 5) G 120 [some (.ref 279), none] [] ν := by
  intro m
  induction m with
  | zero =>
    intro p z ν hm h lm vz h21 fr k
    have := vz.2.2.2.1
    omega
  | succ m ih =>
    intro p z ν hm h lm vz h21 fr k
    have e0 : pP b N (m + 1) p z = if tk b N p = 0 then (0, p, z) else (if (pPerson b N p z).1 = 0 then pP b N m (pPerson b N p z).2.1 (pPerson b N p z).2.2 else pPerson b N p z) := rfl
    rw [e0] at k
    refine k_X8_land_120 (m_sort hb h (fun q => br_f (by decide) ?_) (fun q => br_t rfl (m_failed hb h (fun q2 => br_t rfl ?_) (fun q2 ν' a1 a2 => br_f (by decide) ?_))))
    · have qt : ¬ tk b N p = 0 := fun e => q (by rw [e]; rfl)
      rw [if_neg qt] at k
      refine m_person hN hb h q lm vz h21 ⟨fun e ν' a1 a2 a3 => ?_, fun e ν' a1 a2 => ?_⟩
      · rw [if_pos e] at k
        obtain ⟨o1, o2, o3⟩ := pPerson_ok vz h21 e
        exact ih _ _ ν' (by rw [o2]; omega) a1 a2 o1 (by omega) (fr.tr a3) k
      · rw [if_neg e] at k
        exact x_120 a1 (k.2 e ν' a1 (fr.tr a2))
    · rw [if_pos q2] at k
      exact k.s h lm fr
    · have ep : pPerson b N p z = (1, p, z) := if_pos q
      rw [if_neg q2, ep, if_neg (Nat.succ_ne_zero _)] at k
      have kk := k.f (by decide) a1 (fr.tr a2.fd)
      unfold gF2 at kk
      rw [a1.2.1] at kk
      rw [show (up (up ν' 279 11 0) 279 18 (nI 1)) 279 17 = ν' 279 17 from rfl]
      exact kk
/-- behind the THINGS -/
def gT (d : Nat) (G : Int32 → Mm → Prop) (ν : Mm) : Prop := cI (cM d) 123 [.ref 279] ν (fun x109 μ109 => ((¬ x109 = 0 → jX8_land d G 120 [some (.ref 279), none] [] μ109) ∧ (x109 = 0 → (cV (cM d) 113 [.ref 279, .int 1] μ109 (fun μ117 => jX8_land d G 120 [some (.ref 279), none] [] μ117)))))
theorem x_92 {d : Nat} {ν : Mm} {G : Int32 → Mm → Prop} {k p : Nat} (h : MF ν k p) (kk : gF2 G ν) : jX8_land (d + 1) G 92 [some (.ref 279), none] [] ν := k_X8_land_92 (x_letter h (br_t rfl (x_sort h (nr_t rfl (x_bad h (x_120 h kk))))))
theorem m_things {d : Nat} {μ : Mm} {G : Int32 → Mm → Prop} {b : Nat → Nat} {N : Nat} (hN : N ≤ 100) (hb : ∀ i, i < N → b i < 256) : ∀ m p (z : Nat → Nat) (ν : Mm), z 2 + m = 6 → MS b N ν p → LM (ν 284) z → VZ z → FD μ ν → MPo (gT (d + 5) G) (gF2 G) μ b N (pT b N m p z) → jX8_land (d + 5) G 92 [some (.ref 279), none] [] ν := by
  intro m
  induction m with
  | zero =>
    intro p z ν hm h lm vz fr k
    have := vz.2.2.1
    omega
  | succ m ih =>
    intro p z ν hm h lm vz fr k
    have e0 : pT b N (m + 1) p z = if tk b N p = 116 then (if (pThing b N p z).1 = 0 then pT b N m (pThing b N p z).2.1 (pThing b N p z).2.2 else pThing b N p z) else (0, p, z) := rfl
    rw [e0] at k
    refine k_X8_land_92 (m_letter (c := 116) hb h (by decide) (fun q => br_f (by decide) ?_) (fun q => br_t rfl ?_))
    · rw [if_pos q] at k
      refine m_thing hN hb h q lm vz ⟨fun e ν' a1 a2 a3 => ?_, fun e ν' a1 a2 => ?_⟩
      · rw [if_pos e] at k
        obtain ⟨o1, o2, o3⟩ := pThing_ok vz e
        exact ih _ _ ν' (by rw [o2]; omega) a1 a2 o1 (fr.tr a3) k
      · rw [if_neg e] at k
        exact x_92 a1 (k.2 e ν' a1 (fr.tr a2))
    · rw [if_neg q] at k
      exact k.s h lm fr
/-- law, and whether a thing comes -/
theorem m_law {d : Nat} {ν : Mm} {G : Int32 → Mm → Prop} {b : Nat → Nat} {N : Nat} {μ : Mm} (hN : N ≤ 100) (hb : ∀ i, i < N → b i < 256) (h : MS b N ν 0) (lm : LM (ν 284) z00) (fr : FD μ ν) (k : MPo (gT (d + 5) G) (gF2 G) μ b N (bd (bd (pLaw b N) (pThing b N)) (pT b N 5))) : jX8_land (d + 5) G 11 [some (.ref 279), some (.int 58)] [] ν := by
  -- a FAULT in the law
  have bad : ∀ e p, ¬ e = 0 → pLaw b N = (e, p, z00) → ∀ ν', MF ν' e p → FD μ ν' → gF2 G ν' := by
    intro e p he hp ν' a1 a2
    rw [bd_1 (r := pLaw b N) (by rw [hp]; exact he), bd_1 (r := pLaw b N) (by rw [hp]; exact he), hp] at k
    exact k.2 he ν' a1 a2
  have good : ∀ p z, pLaw b N = (0, p, z) → ∀ ν', MS b N ν' p → LM (ν' 284) z → FD μ ν' → cI (cM (d + 5)) 116 [.ref 279, .int 116] ν' (fun x81 μ81 => ((¬ x81 = 0 → jX8_land (d + 5) G 92 [some (.ref 279), none] [] μ81) ∧ (x81 = 0 → (cV (cM (d + 5)) 113 [.ref 279, .int 1] μ81 (fun μ89 => jX8_land (d + 5) G 92 [some (.ref 279), none] [] μ89))))) := by
    intro p z hp ν' a1 a2 a3
    have e : (pLaw b N).1 = 0 := by rw [hp]
    obtain ⟨o1, o2, o3⟩ := pLaw_ok e
    rw [hp] at o1 o2 o3
    rw [bd_0 (r := pLaw b N) e, hp] at k
    have k' : MPo (gT (d + 5) G) (gF2 G) μ b N (bd (pThing b N p z) (pT b N 5)) := k
    refine m_letter (c := 116) hb a1 (by decide) (fun q => nr_f (by decide) ?_) (fun q => nr_t rfl (m_bad (k := 1) a1 (by decide) (fun ν2 c1 c2 => x_92 c1 ?_)))
    · have o2' : z 2 = 0 := o2
      refine m_things (d := d) (μ := μ) hN hb 6 p z ν' (by omega) a1 a2 o1 a3 ?_
      have e0 : pT b N 6 p z = if tk b N p = 116 then (if (pThing b N p z).1 = 0 then pT b N 5 (pThing b N p z).2.1 (pThing b N p z).2.2 else pThing b N p z) else (0, p, z) := rfl
      rw [e0, if_pos q]
      exact k'
    · have et : pThing b N p z = (1, p, z) := if_neg q
      rw [et, bd_1 (r := ((1, p, z) : Rr)) (Nat.succ_ne_zero _)] at k'
      exact k'.f (by decide) c1 (a3.tr c2.fd)
  have bad' := bad
  unfold pLaw sg nm at bad good
  have u0 : ∀ (ρ : Mm) (v : Int32), (up ρ 284 (0 : Int32).toNatClampNeg v) = up ρ 284 0 v := fun _ _ => rfl
  have u1 : ∀ (ρ : Mm) (v : Int32), (up ρ 284 (1 : Int32).toNatClampNeg v) = up ρ 284 1 v := fun _ _ => rfl
  have xu : ∀ {ρ : Mm} {e p j : Nat} {v : Int32}, MF ρ e p → MF (up ρ 284 j v) e p := fun hh => hh
  have fu : ∀ {ρ : Mm} {j : Nat} {v : Int32}, FD μ ρ → FD μ (up ρ 284 j v) := fun hh => ⟨fun a h1 h2 => by rw [up_eq, upc_n _ _ h2]; exact hh.1 a h1 h2, hh.2⟩
  -- in a FAULT all the rest is passed over
  have pass3 : ∀ {ρ : Mm} {e p : Nat}, MF ρ e p → FD μ ρ → (∀ ρ', MF ρ' e p → FD μ ρ' → gF2 G ρ') → cI (cM (d + 5)) 116 [.ref 279, .int 116] ρ (fun x81 μ81 => ((¬ x81 = 0 → jX8_land (d + 5) G 92 [some (.ref 279), none] [] μ81) ∧ (x81 = 0 → (cV (cM (d + 5)) 113 [.ref 279, .int 1] μ81 (fun μ89 => jX8_land (d + 5) G 92 [some (.ref 279), none] [] μ89))))) := fun hf ff kk => x_letter hf (nr_t rfl (x_bad hf (x_92 hf (kk _ hf ff))))
  refine k_X8_land_11 (br_t (by decide) (m_letter (c := 110) hb h (by decide) (fun q1 => m_must hN hb h (by decide) (by omega) (fun ν1 s1 f1 => ?_)) (fun q1 => m_must0 h (fun ν1 a1 f1 => x_num a1 ⟨vp_in_nI (n := 0) (by decide) (by decide), x_sign (xu a1) (x_num (xu a1) ⟨vp_in_nI (n := 1) (by decide) (by decide), x_sign (xu (xu a1)) (pass3 (xu (xu a1)) (fu (fu (fr.tr f1.fd))) (bad 1 0 (by decide) (if_neg q1)))⟩)⟩))))
  rw [if_pos q1] at bad good
  refine m_num (lo := 2) (hi := 16) (p := nj b N 1 0) hN hb s1 (by decide) (by decide) (fun q2 q3 ν2 s2 f2 => ⟨vp_in_nI (n := 0) (by decide) (by decide), ?_⟩) (fun q2 q3 ν2 a2 f2 => ⟨vp_in_nI (n := 0) (by decide) (by decide), x_sign (xu a2) (x_num (xu a2) ⟨vp_in_nI (n := 1) (by decide) (by decide), x_sign (xu (xu a2)) (pass3 (xu (xu a2)) (fu (fu (fr.tr (f1.tr f2).fd))) (bad 2 _ (by decide) (by rw [if_pos q2, if_neg q3])))⟩)⟩) (fun q2 ν2 a2 f2 => ⟨vp_in_nI (n := 0) (by decide) (by decide), x_sign (xu a2) (x_num (xu a2) ⟨vp_in_nI (n := 1) (by decide) (by decide), x_sign (xu (xu a2)) (pass3 (xu (xu a2)) (fu (fu (fr.tr (f1.tr f2).fd))) (bad 1 _ (by decide) (by rw [if_neg q2])))⟩)⟩)
  rw [if_pos q2, if_pos q3] at bad good
  have g2 := fr.tr (f1.tr f2).fd
  have l2 : LM (ν2 284) z00 := by rw [(f1.tr f2).1 284 (by decide)]; exact lm
  refine m_sign (c := 44) (p := nj b N 2 0) hN hb (MS.fr s2 rfl rfl) (by decide) (fun q4 ν3 s3 f3 => ?_) (fun q4 ν3 a3 f3 => x_num a3 ⟨vp_in_nI (n := 1) (by decide) (by decide), x_sign (xu a3) (pass3 (xu a3) (fu ((fu g2).tr f3.fd)) (bad 1 _ (by decide) (by rw [if_neg q4])))⟩)
  rw [if_pos q4] at bad good
  have g3 := (fu (j := 0) (v := nI (vl b N (nj b N 1 0))) g2).tr f3.fd
  have l3 : LM (ν3 284) (un z00 0 (vl b N (nj b N 1 0))) := by rw [f3.1 284 (by decide)]; exact l2.up rfl
  refine m_num (lo := 0) (hi := 9) (p := nj b N 3 0) hN hb s3 (by decide) (by decide) (fun q5 q6 ν4 s4 f4 => ⟨vp_in_nI (n := 1) (by decide) (by decide), ?_⟩) (fun q5 q6 ν4 a4 f4 => ⟨vp_in_nI (n := 1) (by decide) (by decide), x_sign (xu a4) (pass3 (xu a4) (fu (g3.tr f4.fd)) (bad 2 _ (by decide) (by rw [if_pos q5, if_neg q6])))⟩) (fun q5 ν4 a4 f4 => ⟨vp_in_nI (n := 1) (by decide) (by decide), x_sign (xu a4) (pass3 (xu a4) (fu (g3.tr f4.fd)) (bad 1 _ (by decide) (by rw [if_neg q5])))⟩)
  rw [if_pos q5, if_pos q6] at bad good
  have l4 : LM (ν4 284) (un z00 0 (vl b N (nj b N 1 0))) := by rw [f4.1 284 (by decide)]; exact l3
  have g4 := fu (j := 1) (v := nI (vl b N (nj b N 3 0))) (g3.tr f4.fd)
  refine m_sign (c := 59) (p := nj b N 4 0) hN hb (MS.fr s4 rfl rfl) (by decide) (fun q7 ν5 s5 f5 => ?_) (fun q7 ν5 a5 f5 => pass3 a5 (g4.tr f5.fd) (bad 1 _ (by decide) (by rw [if_neg q7])))
  rw [if_pos q7] at good
  refine good (nj b N 5 0) _ rfl ν5 s5 ?_ (g4.tr f5.fd)
  rw [f5.1 284 (by decide)]
  exact l4.up rfl
theorem pLand_ok {b : Nat → Nat} {N : Nat} (h : (pLand b N).1 = 0) : VL (pLand b N).2.2 ∧ (pLand b N).2.2 4 = 0 ∧ 0 < (pLand b N).2.2 0 := by
  unfold pLand at h ⊢
  by_cases e1 : (pLaw b N).1 = 0
  · rw [bd_0 (r := pLaw b N) e1] at h ⊢
    obtain ⟨o1, o2, o3⟩ := pLaw_ok e1
    by_cases e2 : (pThing b N (pLaw b N).2.1 (pLaw b N).2.2).1 = 0
    · rw [bd_0 (r := pThing b N _ _) e2] at h ⊢
      obtain ⟨t1, t2, t3⟩ := pThing_ok o1 e2
      generalize hr : pT b N 5 (pThing b N (pLaw b N).2.1 (pLaw b N).2.2).2.1 (pThing b N (pLaw b N).2.1 (pLaw b N).2.2).2.2 = r at h ⊢
      by_cases e3 : r.1 = 0
      · rw [bd_0 (r := r) e3] at h ⊢
        obtain ⟨u1, u2, u3⟩ := pT_ok 5 _ _ t1 (by rw [hr]; exact e3)
        rw [hr] at u1 u2 u3
        have h21 : 1 ≤ r.2.2 2 := by omega
        by_cases e4 : (pPerson b N r.2.1 r.2.2).1 = 0
        · rw [bd_0 (r := pPerson b N _ _) e4] at h ⊢
          obtain ⟨w1, w2, w3⟩ := pPerson_ok u1 h21 e4
          obtain ⟨x1, x2, x3, x4⟩ := pP_ok 7 _ _ w1 (by omega) (by rw [w2, u3, t3, o3]) h
          generalize (pP b N 7 (pPerson b N r.2.1 r.2.2).2.1 (pPerson b N r.2.1 r.2.2).2.2).2.2 = z at *
          obtain ⟨⟨y0, y0'⟩, y1, y2, y3, y4, y5, y6, y7, y8⟩ := x1
          refine ⟨⟨y0', y1, y2, y3, by omega, by omega, Or.inr ⟨y0, by omega, by omega⟩, y6, fun q hq => ?_⟩, y4, by omega⟩
          obtain ⟨a1, a2, a3, a4⟩ := y7 q hq
          obtain ⟨c1, c2⟩ := y8 q (by omega)
          exact ⟨a1, a2, a3, a4, by omega, by omega⟩
        · rw [bd_1 (r := pPerson b N _ _) e4] at h
          exact absurd h e4
      · rw [bd_1 (r := r) e3] at h
        exact absurd h e3
    · rw [bd_1 (r := pThing b N _ _) e2, bd_1 (r := pThing b N _ _) e2] at h
      exact absurd h e2
  · rw [bd_1 (r := pLaw b N) e1, bd_1 (r := pLaw b N) e1, bd_1 (r := pLaw b N) e1] at h
    exact absurd h e1
theorem m_clear {d : Nat} {μ : Mm} {G : Int32 → Mm → Prop} (k : ∀ f, LM f z00 → jX8_land d G 11 [some (.ref 279), some (.int 58)] [] (upc μ 284 f)) : ∀ r i f, i + r = 58 → (∀ j, j < i → f j = nI 0) → jX8_land d G 11 [some (.ref 279), some (.int (nI i))] [] (upc μ 284 f) := by
  intro r
  induction r with
  | zero =>
    intro i f hi hf
    obtain rfl : i = 58 := by omega
    exact k f hf
  | succ r ih =>
    intro i f hi hf
    refine k_X8_land_11 (br_f (by rw [show (58 : Int32) = nI 58 from rfl, nI_leI (by omega) (by omega)]; omega) ?_)
    rw [nI_clamp (by omega), n_suc, up_upc]
    refine ⟨vp_in_nI (by omega) (by decide), ih (i + 1) _ (by omega) (fun j hj => ?_)⟩
    by_cases e : j = i
    · subst e
      exact upd_s _ _ _
    · rw [upd_n _ _ e]
      exact hf j (by omega)
theorem m_lay {d : Nat} {μ : Mm} {G : Int32 → Mm → Prop} {z : Nat → Nat} (lm : LM (μ 284) z) (k : ∀ f, LM f z → G (nI (z 3)) (upc μ 283 f)) : ∀ r i f, i + r = 58 → (∀ j, j < i → f j = nI (z j)) → jX8_land d G 156 [some (.ref 279), some (.int (nI i))] [] (upc μ 283 f) := by
  intro r
  induction r with
  | zero =>
    intro i f hi hf
    obtain rfl : i = 58 := by omega
    refine k_X8_land_156 (br_t (by decide) ⟨vp_in_nI (n := 3) (by decide) (by decide), ?_⟩)
    rw [show (upc μ 283 f) 283 (3 : Int32).toNatClampNeg = nI (z 3) from hf 3 (by decide)]
    exact k f hf
  | succ r ih =>
    intro i f hi hf
    refine k_X8_land_156 (br_f (by rw [show (58 : Int32) = nI 58 from rfl, nI_leI (by omega) (by omega)]; omega) ?_)
    rw [nI_clamp (by omega), n_suc, show (upc μ 283 f) 284 i = nI (z i) from lm i (by omega), up_upc]
    refine ⟨vp_in_nI (by omega) (by decide), vp_in_nI (by omega) (by decide), ih (i + 1) _ (by omega) (fun j hj => ?_)⟩
    by_cases e : j = i
    · subst e
      exact upd_s _ _ _
    · rw [upd_n _ _ e]
      exact hf j (by omega)
theorem m_land {d : Nat} {ρ : Mm} {G : Int32 → Mm → Prop} {b : Nat → Nat} {N : Nat} (hN : N ≤ 100) (hb : ∀ i, i < N → b i < 256) (h11 : ρ 279 11 = nI N) (h7 : ∀ i, i < N → ρ 287 i = nI (b i))
    (k1 : (pLand b N).1 = 0 → ∀ ν', ν' 279 11 = 0 → ν' 279 18 = ρ 279 18 → ν' 279 9 = 0 → LM (ν' 283) (pLand b N).2.2 → (∀ a, a ≠ 279 → a ≠ 283 → a ≠ 284 → ν' a = ρ a) → (∀ j, j ≠ 0 → j ≠ 9 → j < 11 ∨ 18 < j → ν' 279 j = ρ 279 j) → G (nI ((pLand b N).2.2 3)) ν')
    (k0 : ¬ (pLand b N).1 = 0 → ∀ ν', ν' 279 11 = 0 → ν' 279 18 = nI (pLand b N).1 → (∀ a, a ≠ 279 → a ≠ 284 → ν' a = ρ a) → (∀ j, j ≠ 0 → j < 11 ∨ 18 < j → ν' 279 j = ρ 279 j) → G (-1000100 - nI (pLand b N).2.1) ν') : cI (cM (d + 6)) 126 [.ref 279] ρ G := by
  have eU : up (up (up ρ 279 0 0) 279 12 0) 279 16 0 = upc ρ 279 (upd (upd (upd (ρ 279) 0 0) 12 0) 16 0) := by
    rw [show up ρ 279 0 0 = upc ρ 279 (upd (ρ 279) 0 0) from rfl, up_upc, up_upc]
  refine e_X8_land (e_X8_begin ?_)
  rw [eU]
  refine s_next (p := 0) hN hb (show (ρ 279) 11 = nI N from h11) h7 rfl rfl (Nat.zero_le _) (fun x hx xj => ?_)
  rw [upc_upc] at hx ⊢
  have fx : ∀ j, j ≠ 0 → j < 12 ∨ 17 < j → x j = ρ 279 j := by
    intro j h0 hj
    rw [xj j (by omega), upc_s, upd_n _ _ (by omega), upd_n _ _ (by omega), upd_n _ _ h0]
  have main : ∀ f, LM f z00 → jX8_land (d + 5) G 11 [some (.ref 279), some (.int 58)] [] (upc (upc ρ 279 x) 284 f) := by
    intro f hf
    refine m_law (μ := upc (upc ρ 279 x) 284 f) hN hb (hx.fr rfl rfl) hf (FD.rf _) ?_
    -- behind the THINGS
    have G2 : ∀ ν' e p, (pLand b N) = (e, p, (pLand b N).2.2) → ¬ e = 0 → MF ν' e p → FD (upc (upc ρ 279 x) 284 f) ν' → gF2 G ν' := by
      intro ν' e p he hne a1 a2
      unfold gF2
      rw [a1.2.2, a1.2.1]
      have k0' := k0 (by rw [he]; exact hne) (up (up ν' 279 11 0) 279 18 (nI e)) rfl (by rw [he]; rfl) (fun a h1 h2 => ?_) (fun j h0 hj => ?_)
      · rw [he] at k0'
        exact k0'
      · rw [up_eq, upc_n _ _ h1, up_eq, upc_n _ _ h1, a2.1 a h1 h2, upc_n _ _ h2, upc_n _ _ h1]
      · rw [up_eq, upc_s, upd_n _ _ (by omega), up_eq, upc_s, upd_n _ _ (by omega), a2.2 j (by omega)]
        exact fx j h0 (by omega)
    have eL : pLand b N = bd (bd (bd (pLaw b N) (pThing b N)) (pT b N 5)) (fun p z => bd (pPerson b N p z) (pP b N 7)) := rfl
    generalize hr : bd (bd (pLaw b N) (pThing b N)) (pT b N 5) = r at eL ⊢
    refine ⟨fun e3 ν' s1 l1 f1 => ?_, fun e3 ν' a1 a2 => ?_⟩
    · -- r is well: its LAND is as told
      have vr : VZ r.2.2 ∧ 1 ≤ r.2.2 2 ∧ r.2.2 3 = 0 := by
        by_cases e1 : (pLaw b N).1 = 0
        · obtain ⟨o1, o2, o3⟩ := pLaw_ok e1
          rw [bd_0 (r := pLaw b N) e1] at hr
          by_cases e2 : (pThing b N (pLaw b N).2.1 (pLaw b N).2.2).1 = 0
          · obtain ⟨t1, t2, t3⟩ := pThing_ok o1 e2
            rw [bd_0 (r := pThing b N _ _) e2] at hr
            obtain ⟨u1, u2, u3⟩ := pT_ok 5 _ _ t1 (by rw [hr]; exact e3)
            rw [hr] at u1 u2 u3
            exact ⟨u1, by omega, by omega⟩
          · rw [bd_1 (r := pThing b N _ _) e2] at hr
            rw [← hr] at e3
            exact absurd e3 e2
        · rw [bd_1 (r := pLaw b N) e1, bd_1 (r := pLaw b N) e1] at hr
          rw [← hr] at e3
          exact absurd e3 e1
      rw [bd_0 (r := r) e3] at eL
      have G1 : (pLand b N).1 = 0 → ∀ ν2, MS b N ν2 (pLand b N).2.1 → LM (ν2 284) (pLand b N).2.2 → FD (upc (upc ρ 279 x) 284 f) ν2 → gF1 (d + 5) G ν2 := by
        intro e ν2 b1 b2 b3
        unfold gF1
        generalize hM : up (up (up ν2 279 11 0) 279 18 (ν2 279 18)) 279 9 0 = M
        have m9 : M 279 = upd (upd (upd (ν2 279) 11 0) 18 (ν2 279 18)) 9 0 := by rw [← hM]; rfl
        have mo : ∀ a, a ≠ 279 → M a = ν2 a := fun a ha => by rw [← hM, up_eq, upc_n _ _ ha, up_eq, upc_n _ _ ha, up_eq, upc_n _ _ ha]
        have lay := m_lay (d := d + 5) (μ := M) (G := G) (z := (pLand b N).2.2) (by rw [mo 284 (by decide)]; exact b2) (fun f2 hf2 => k1 e _ ?_ ?_ ?_ hf2 (fun a h1 h2 h3 => ?_) (fun j h0 h9 hj => ?_)) 58 0 (M 283) (by decide) (fun j hj => absurd hj (by omega))
        · rw [upc_id] at lay
          exact lay
        · rw [upc_n _ _ (by decide), m9]
          rfl
        · rw [upc_n _ _ (by decide), m9]
          show ν2 279 18 = _
          rw [b3.2 18 (by omega)]
          exact fx 18 (by decide) (by omega)
        · rw [upc_n _ _ (by decide), m9]
          rfl
        · rw [upc_n _ _ h2, mo a h1, b3.1 a h1 h3, upc_n _ _ h3, upc_n _ _ h1]
        · rw [upc_n _ _ (by decide), m9, upd_n _ _ h9, upd_n _ _ (by omega), upd_n _ _ (by omega), b3.2 j (by omega)]
          exact fx j h0 (by omega)
      have kp : MPo (gF1 (d + 5) G) (gF2 G) (upc (upc ρ 279 x) 284 f) b N (pLand b N) := ⟨G1, fun e ν2 b1 b2 => G2 ν2 _ _ rfl e b1 b2⟩
      rw [eL] at kp
      have kp' : MPo (gF1 (d + 5) G) (gF2 G) (upc (upc ρ 279 x) 284 f) b N (bd (pPerson b N r.2.1 r.2.2) (pP b N 7)) := kp
      unfold gT
      refine m_sort hb s1 (fun q => nr_f (by decide) ?_) (fun q => nr_t rfl (m_bad (k := 1) s1 (by decide) (fun ν2 c1 c2 => x_120 c1 ?_)))
      · refine m_people (d := d) (μ := upc (upc ρ 279 x) 284 f) hN hb 8 r.2.1 r.2.2 ν' (by omega) s1 l1 vr.1 vr.2.1 f1 ?_
        have qt : ¬ tk b N r.2.1 = 0 := fun e => q (by rw [e]; rfl)
        have e0 : pP b N 8 r.2.1 r.2.2 = if tk b N r.2.1 = 0 then (0, r.2.1, r.2.2) else (if (pPerson b N r.2.1 r.2.2).1 = 0 then pP b N 7 (pPerson b N r.2.1 r.2.2).2.1 (pPerson b N r.2.1 r.2.2).2.2 else pPerson b N r.2.1 r.2.2) := rfl
        rw [e0, if_neg qt]
        exact kp'
      · have ep : pPerson b N r.2.1 r.2.2 = (1, r.2.1, r.2.2) := if_pos q
        rw [ep, bd_1 (r := ((1, r.2.1, r.2.2) : Rr)) (Nat.succ_ne_zero _)] at kp'
        exact kp'.f (by decide) c1 (f1.tr c2.fd)
    · rw [bd_1 (r := r) e3] at eL
      exact G2 ν' r.1 r.2.1 (by rw [eL]) e3 a1 a2
  have fin := m_clear (d := d + 5) (μ := upc ρ 279 x) main 58 0 ((upc ρ 279 x) 284) (by decide) (fun j hj => absurd hj (by omega))
  rw [upc_id] at fin
  exact fin
theorem op_land {μ : Mm} {K : Int32 → Mm → Prop} (hI : Inv μ) (k : ∀ a μ1, Nx 126 [.ref 279] a μ1 → K a μ1) : cI (cM 30) 57 [.ref 0] μ K := by
  obtain ⟨h1, h2, ⟨N, hN, t2, t11, tb⟩, h4, hz, h6, h7, h8⟩ := id hI
  obtain ⟨b, hb0⟩ : ∃ b : Nat → Nat, ∀ i, i < N → b i < 256 ∧ μ 6 i = nI (b i) ∧ μ 287 i = nI (b i) := by
    refine ⟨fun i => if h : i < N then (tb i h).choose else 0, fun i hi => ?_⟩
    show (if h : i < N then (tb i h).choose else 0) < 256 ∧ μ 6 i = nI (if h : i < N then (tb i h).choose else 0) ∧ μ 287 i = nI (if h : i < N then (tb i h).choose else 0)
    rw [dif_pos hi]
    exact (tb i hi).choose_spec
  have hb : ∀ i, i < N → b i < 256 := fun i hi => (hb0 i hi).1
  refine e_X7_land (c_tape (d := 23) hN hb t2 (fun i hi => (hb0 i hi).2.1) ⟨fun e ν' s1 l1 f1 => nr_f (by decide) ?_, fun e ν' a1 => nr_t rfl ?_⟩)
  · obtain ⟨vl, v4, v0⟩ := pLand_ok e
    refine s_become (p := 16) (q := 7) (z := (pLand b N).2.2) (by decide) (by decide) (by decide) (by decide) (by decide) (l1.fr (fun i hi => by rw [up_eq]; exact upc_n _ _ (by omega))) vl.2.2.1 vl.2.2.2.1 (fun ν2 l2 f2 => e_X0_forget ?_)
    generalize hM : up ν2 53 2 0 = M
    have mo : ∀ a, a ≠ 5 → (a < 7 ∨ 24 < a) → a ≠ 53 → M a = μ a := by
      intro a ha hr h53
      rw [← hM, up_eq, upc_n _ _ h53, f2 a (by omega), up_eq, upc_n _ _ ha]
      exact f1.1 a ha (by omega)
    have m5 : M 5 = upd (ν' 5) 2 0 := by
      rw [← hM, up_eq, upc_n _ _ (by decide), f2 5 (by omega), up_eq, upc_s]
    have m53 : M 53 = upd (μ 53) 2 0 := by
      rw [← hM, up_eq, upc_s, f2 53 (by omega), up_eq, upc_n _ _ (by decide), f1.1 53 (by decide) (by omega)]
    have l16 : LR M 16 (pLand b N).2.2 := by
      rw [← hM]
      exact l2.fr (fun i hi => by rw [up_eq]; exact upc_n _ _ (by omega))
    rw [l16.2.2.2.2.1]
    refine k _ _ (fun G g => m_land (d := 24) (b := b) (N := N) hN hb (by rw [mo 279 (by decide) (by omega) (by decide)]; exact t11) (fun i hi => by rw [mo 287 (by decide) (by omega) (by decide)]; exact (hb0 i hi).2.2) (fun _ ν3 n11 n18 n9 ln fo fj => g _ ?_) (fun e2 => absurd e e2))
    have go : ∀ a, a ≠ 279 → a ≠ 283 → a ≠ 284 → a ≠ 5 → (a < 7 ∨ 24 < a) → a ≠ 53 → ν3 a = μ a := fun a q1 q2 q3 q4 q5 q6 => by rw [fo a q1 q2 q3, mo a q4 q5 q6]
    have gj : ∀ j, j ≠ 0 → j ≠ 9 → j < 11 ∨ 18 < j → ν3 279 j = μ 279 j := fun j q1 q2 q3 => by rw [fj j q1 q2 q3, mo 279 (by decide) (by omega) (by decide)]
    obtain ⟨n, o, zs, a1, a2, a3, a4, a5, a6⟩ := h6
    refine ⟨h1.fr (go _ (by decide) (by decide) (by decide) (by decide) (by omega) (by decide)) (go _ (by decide) (by decide) (by decide) (by decide) (by omega) (by decide)) (go _ (by decide) (by decide) (by decide) (by decide) (by omega) (by decide)) (go _ (by decide) (by decide) (by decide) (by decide) (by omega) (by decide)) (go _ (by decide) (by decide) (by decide) (by decide) (by omega) (by decide)) (go _ (by decide) (by decide) (by decide) (by decide) (by omega) (by decide)), h2.fr (go _ (by decide) (by decide) (by decide) (by decide) (by omega) (by decide)) (gj _ (by decide) (by decide) (by omega)), ⟨0, by decide, ?_, n11, fun i hi => absurd hi (by omega)⟩, ?_, ⟨(pLand b N).2.2, vl, by omega, l16.fr (fun i hi => fo _ (by omega) (by omega) (by omega)), ln⟩, ⟨0, o, zs, by decide, a2, ?_, n9, ?_, fun j hj => absurd hj (by omega)⟩, h7.fr (fun a q1 q2 => go _ (by omega) (by omega) (by omega) (by omega) (by omega) (by omega)) (go _ (by decide) (by decide) (by decide) (by decide) (by omega) (by decide)) (go _ (by decide) (by decide) (by decide) (by decide) (by omega) (by decide)), h8.fr (by rw [go 277 (by decide) (by decide) (by decide) (by decide) (by omega) (by decide)]) (gj _ (by decide) (by decide) (by omega)) (go _ (by decide) (by decide) (by decide) (by decide) (by omega) (by decide)) (go _ (by decide) (by decide) (by decide) (by decide) (by omega) (by decide))⟩
    · rw [fo 5 (by decide) (by decide) (by decide), m5]
      rfl
    · show ν3 5 3 = ν3 279 18
      rw [n18, fo 5 (by decide) (by decide) (by decide), m5, mo 279 (by decide) (by omega) (by decide), upd_n _ _ (by decide), f1.2]
      exact h4
    · rw [fo 53 (by decide) (by decide) (by decide), m53]
      rfl
    · rw [fo 53 (by decide) (by decide) (by decide), m53, upd_n _ _ (by decide)]
      exact a5
  · have mo : ∀ a, a ≠ 5 → (a < 7 ∨ 15 < a) → (up ν' 5 2 0) a = μ a := fun a ha hr => by rw [up_eq, upc_n _ _ ha]; exact a1.1 a ha hr
    rw [show (up ν' 5 2 0) 5 4 = nI (pLand b N).2.1 from a1.2.2]
    refine k _ _ (fun G g => m_land (d := 24) (b := b) (N := N) hN hb (by rw [mo 279 (by decide) (by omega)]; exact t11) (fun i hi => by rw [mo 287 (by decide) (by omega)]; exact (hb0 i hi).2.2) (fun e2 => absurd e2 e) (fun _ ν3 n11 n18 fo fj => g _ ?_))
    have go : ∀ a, a ≠ 279 → a ≠ 284 → a ≠ 5 → (a < 7 ∨ 15 < a) → ν3 a = μ a := fun a q1 q2 q3 q4 => by rw [fo a q1 q2, mo a q3 q4]
    have gj : ∀ j, j ≠ 0 → j < 11 ∨ 18 < j → ν3 279 j = μ 279 j := fun j q1 q2 => by rw [fj j q1 q2, mo 279 (by decide) (by omega)]
    obtain ⟨z, hz⟩ := hz
    refine ⟨h1.fr (go _ (by decide) (by decide) (by decide) (by omega)) (go _ (by decide) (by decide) (by decide) (by omega)) (go _ (by decide) (by decide) (by decide) (by omega)) (go _ (by decide) (by decide) (by decide) (by omega)) (go _ (by decide) (by decide) (by decide) (by omega)) (go _ (by decide) (by decide) (by decide) (by omega)), h2.fr (go _ (by decide) (by decide) (by decide) (by omega)) (gj _ (by decide) (by omega)), ⟨0, by decide, ?_, n11, fun i hi => absurd hi (by omega)⟩, ?_, ⟨z, hz.fr (fun a q1 q2 => go _ (by omega) (by omega) (by omega) (by omega)) (go _ (by decide) (by decide) (by decide) (by omega))⟩, h6.fr (go _ (by decide) (by decide) (by decide) (by omega)) (gj _ (by decide) (by omega)) (fun a q1 q2 => go _ (by omega) (by omega) (by omega) (by omega)) (go _ (by decide) (by decide) (by decide) (by omega)), h7.fr (fun a q1 q2 => go _ (by omega) (by omega) (by omega) (by omega)) (go _ (by decide) (by decide) (by decide) (by omega)) (go _ (by decide) (by decide) (by decide) (by omega)), h8.fr (by rw [go 277 (by decide) (by decide) (by decide) (by omega)]) (gj _ (by decide) (by omega)) (go _ (by decide) (by decide) (by decide) (by omega)) (go _ (by decide) (by decide) (by decide) (by omega))⟩
    · rw [fo 5 (by decide) (by decide)]
      rfl
    · show ν3 5 3 = ν3 279 18
      rw [n18, fo 5 (by decide) (by decide)]
      exact a1.2.1
