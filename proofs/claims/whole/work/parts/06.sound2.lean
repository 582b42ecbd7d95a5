/-! ===== switches, calls, copies, ends; tables; a method's contract ===== -/
theorem sw_mono {x : Int32} {d : Nat} {g g' : Nat → Prop} (hg : ∀ t, g t → g' t) : ∀ qs : List (Int32 × Nat), sw x d g qs → sw x d g' qs
  | [], h => hg _ h
  | _ :: qs, h => ⟨fun e => hg _ (h.1 e), fun e => sw_mono hg qs (h.2 e)⟩
/-- where a switch goes -/
def swt (x : Int32) (d : Nat) : List (Int32 × Nat) → Nat
  | [] => d
  | q :: qs => if x = q.1 then q.2 else swt x d qs
theorem sw_e {x : Int32} {d : Nat} {g : Nat → Prop} : ∀ qs : List (Int32 × Nat), sw x d g qs → g (swt x d qs)
  | [], h => h
  | q :: qs, h => by
    unfold swt
    by_cases e : x = q.1
    · rw [if_pos e]; exact h.1 e
    · rw [if_neg e]; exact sw_e qs (h.2 e)
section STEPS
variable {mi : Nat → Mi} {own : String} {cc : ByteArray} {nL lv : Nat} {rt : Option FieldType} {sx : Option (Nat × (Nat → Int32))} {pc nx : Nat}
/-- a lookup switch: its pairs are mine, by their numbers -/
def lkI (pc : Nat) (ps : List (Int × Int)) : List (Int32 × Nat) := ps.map fun q => (Int32.ofInt q.1, ((pc : Int) + q.2).toNat)
theorem ok_look {dflt : Int} {ps : Array (Int × Int)} {len d : Nat} {qs : List (Int32 × Nat)} (hdg : decode cc pc = .ok (.lookupswitch dflt ps, len)) (hp : (ps.toList.zip (ps.toList.drop 1)).all (fun (a, next) => a.1 < next.1) = true)
    (hq : ∀ x : Int32, (pc : Int) + Op.lookupswitch.offset ps.toList dflt x.toInt = ((swt x d qs : Nat) : Int)) : Ok mi own cc nL lv rt sx pc (mSw qs d) := by
  refine ⟨?_, ?_⟩
  · intro w p l e R s m args below meth c cells slots Q CM go ret L st μ hC hR hM h hg hr ls H locs hl hH
    obtain ⟨x, r, rfl, g9⟩ := pI_e h; clear h
    have h := sw_e _ g9
    exact lv_lookup hC.1 hC.2.1 hdg hp rfl (hq x) (hg _ _ _ _ h ls H locs hl hH)
  · intro CM L st μ go go' ret ret' hm h1 h2 h
    obtain ⟨x, r, rfl, g9⟩ := pI_e h; clear h
    exact sw_mono (fun t q => h1 _ _ _ _ q) _ g9
theorem ok_table {dflt lo hi : Int} {offs : Array Int} {len d : Nat} {qs : List (Int32 × Nat)} (hdg : decode cc pc = .ok (.tableswitch dflt lo hi offs, len))
    (hq : ∀ x : Int32, ((x.toInt < lo ∨ hi < x.toInt) → (pc : Int) + dflt = ((swt x d qs : Nat) : Int)) ∧ (¬ x.toInt < lo → ¬ hi < x.toInt → ∃ off, offs[(x.toInt - lo).toNat]? = some off ∧ (pc : Int) + off = ((swt x d qs : Nat) : Int))) : Ok mi own cc nL lv rt sx pc (mSw qs d) := by
  refine ⟨?_, ?_⟩
  · intro w p l e R s m args below meth c cells slots Q CM go ret L st μ hC hR hM h hg hr ls H locs hl hH
    obtain ⟨x, r, rfl, g9⟩ := pI_e h; clear h
    have h := sw_e _ g9
    have h2 := hq x
    by_cases h3 : x.toInt < lo ∨ hi < x.toInt
    · exact lv_tableOut hC.1 hC.2.1 hdg h3 (h2.1 h3) (hg _ _ _ _ h ls H locs hl hH)
    · obtain ⟨off, h4, h5⟩ := h2.2 (fun q => h3 (Or.inl q)) (fun q => h3 (Or.inr q))
      exact lv_tableIn hC.1 hC.2.1 hdg (fun q => h3 (Or.inl q)) (fun q => h3 (Or.inr q)) h4 h5 (hg _ _ _ _ h ls H locs hl hH)
  · intro CM L st μ go go' ret ret' hm h1 h2 h
    obtain ⟨x, r, rfl, g9⟩ := pI_e h; clear h
    exact sw_mono (fun t q => h1 _ _ _ _ q) _ g9
theorem cat2 (v : Value) : v.category ≤ 2 := by cases v <;> simp [Value.category]
theorem cat_sum : ∀ l : List Value, (l.map fun v => v.category).sum ≤ 2 * l.length
  | [] => by simp
  | v :: r => by
    have h1 := cat_sum r
    have h2 := cat2 v
    simp only [List.map_cons, List.sum_cons, List.length_cons]
    omega
theorem Pm_blind (w : Wp) (a : List Value) (μ : Mm) : FrameBlind (Pm w a μ) := by
  intro v U g kb q
  obtain ⟨q0, q1, q2, q3⟩ := q
  exact ⟨q0, q1, va_K.moved (u := U) (U := U.calling g kb v) (Vm.Alike.refl U.vm) q2, nWs.same (s := U) (U := U.calling g kb v) rfl q3⟩
/-- behind a call -/
theorem call_on {w : Wp} {p : Program} {l : Launch} {e : Env} {R : Room} {s : State} {m : MethodId} {args : Array Value} {below : List Frame} {meth : Method} {c : Code} {cells slots : Nat} {Q : State → Prop} {go : Go} {L : Ls} {H : Heap} {locs : List Loc} {ls : Array Slot} {st0 : List Value} {r : List Value} {a : Array Value}
    (hg : ∀ pc' L' st' μ', go pc' L' st' μ' → Wq w p l e R s m args below meth c nL cells slots Q pc' L' st' μ') (hl : Lk w ls nL L) (hS : va_S (fun q => w.2.1 ≤ q) s.heap H locs)
    {Q' : Rt} (hQ : ∀ v μ', Q' v μ' → go (pc + 3) L (v.toList ++ r) μ') (hr : va_Run p l e R s m args below meth c H locs cells slots 0 0 (F0 m pc ls st0) (r.map (sv w)) (Qm w Q' a) (fun q => w.2.1 ≤ q)) : W p l e R s m args below meth c H locs cells slots Q (F0 m pc ls st0) := by
  intro T hT X
  obtain ⟨v, st₀, t, T', L1, h0, X', hL, e1, e2, ⟨⟨v', μ', hv, hq, hP⟩, hz, hk⟩, stp⟩ := hr T hT X
  cases hv
  rw [h0] at hz hk
  obtain ⟨t2, a1, b1⟩ := hg _ _ _ _ (hQ _ _ hq) ls T'.heap (locs ++ L1) hl ⟨by rw [e1]; exact hP, Nat.le_trans hS.1 (by rw [e1]; exact hz), fun q h1 h2 => by rw [e1, hk q (Nat.lt_of_lt_of_le h1 hS.1) h2]; exact hS.2.1 q h1 h2, fun q hq => by
      rcases List.mem_append.mp hq with h | h
      · exact hS.2.2 q h
      · exact hL q h⟩ T' rfl X'
  refine ⟨t2, stp t2 ?_, b1⟩
  have e3 : List.map (sv w) (v'.toList ++ r) = (Option.map (sv w) v').toList ++ List.map (sv w) r := by cases v' <;> simp
  rw [e3] at a1
  exact a1
/-- what a call's row needs of its callee -/
def Cal (mi : Nat → Mi) (j : Nat) (y : MethodName) (n k : Nat) : Prop := (mi j).1 = y ∧ Cond.code (mi j).1 (mi j).2.1 (mi j).2.2.1 (mi j).2.2.2.1 ∈ lw_tbl ∧ (mi j).2.2.1 ≤ 19 ∧ (mi j).2.2.2.2 = k ∧ Cond.initialized y.cls ∈ lw_tbl ∧ (y.cls ≠ "java/lang/invoke/MethodHandle" ∧ y.cls ≠ "java/lang/invoke/VarHandle" ∧ (parseMethodDescriptor y.desc).map (fun d => d.parameters.length) = some n)
theorem cal_good {j : Nat} {y : MethodName} {n k : Nat} (h : Cal mi j y n k) : GoodIn tW (.code (mi j).1 (mi j).2.1 (mi j).2.2.1 (mi j).2.2.2.1 :: tW) := by
  intro x hx
  rcases List.mem_cons.mp hx with rfl | hx
  · exact tW_good _ (tW_of h.2.1 rfl)
  · exact tW_good _ hx
theorem ok_callS {kd j n idx k0 : Nat} {y : MethodName} (hdg : decode cc pc = .ok (.invokestatic idx, 3)) (hj : Cal mi j y n k0) (hv0 : Nat.ble (k0 + 1) lv = true) (hl0 : Cond.methodLink own idx y ∈ lw_tbl) (hs0 : Cond.static y ∈ lw_tbl) (hn : pc + 3 = nx) : Ok mi own cc nL lv rt sx pc (mCallS kd j n nx) := by
  subst hn
  refine ⟨?_, ?_⟩
  · intro w p l e R s m args below meth c cells slots Q CM go ret L st μ hC hR hM h hg hr ls H locs hl hH
    obtain ⟨hk, h⟩ := cond_e h
    rw [Bool.and_eq_true] at hk
    obtain ⟨hk1, hk2⟩ := hk
    have hk1 := beq_e hk1
    have hk2 := ble_e hk2
    obtain ⟨Q', h, hQ⟩ := cK_u h
    have hMet := hM j _ μ _ h
    have hgd := cal_good hj
    obtain ⟨e1, hcd, hml, hlv, hini, hd⟩ := hj
    have hv1 := ble_e hv0
    rw [e1] at hMet hcd hgd
    refine call_on (r := st.drop n) (a := ((st.take n).reverse.map (sv w)).toArray) hg hl hH.2 hQ ?_
    have htw := hC.2.2.2.2.1
    have hR1 := hR.1
    have hR2 := hR.2.1
    exact va_runS (As := (st.take n).reverse.map (sv w)) (rest := (st.drop n).map (sv w)) (Ts := tW) (own := own) ⟨hC.1, hC.2.1, hC.2.2.1, hC.2.2.2.1, htw⟩ hMet
      ⟨callB_of n htw hgd rfl rfl rfl (htw _ (tW_of hini rfl)) (htw _ (tW_of hl0 rfl)) hd ⟨by show (mi j).2.2.2.2 + 1 ≤ _; omega, by show 8 + ((mi j).2.2.1 + 11) + 38 * (mi j).2.2.2.2 ≤ _; omega⟩, htw _ (tW_of hs0 rfl)⟩
      ⟨Pm_blind _ _ _, fun U hU hW => ⟨rfl, by rw [hU]; exact hH.1, va_K.moved hW.alike hC.2.2.2.2.2.1, hC.2.2.2.2.2.2.1.warm hW⟩⟩ rfl (by simpa using hk1) hl.1
      (by show st.map (sv w) = ((st.take n).reverse.map (sv w)).reverse ++ (st.drop n).map (sv w); rw [← List.map_reverse, List.reverse_reverse, ← List.map_append, List.take_append_drop])
      (lv_room (Nat.le_trans (cat_sum _) (by rw [List.length_map]; omega))) hdg ⟨hR.2.2.1, hR.2.2.2⟩
  · intro CM L st μ go go' ret ret' hm h1 h2 h
    obtain ⟨hk, h⟩ := cond_e h
    show cond (Nat.beq (st.take n).length n && Nat.ble (st.drop n).length 4) _ False
    rw [hk]
    exact cK_mono hm (fun v μ q => h1 _ _ _ _ q) h
theorem ok_callSN {kd j n idx k0 : Nat} {y : MethodName} {host : String} (hdg : decode cc pc = .ok (.invokestatic idx, 3)) (hj : Cal mi j y n k0) (hv0 : Nat.ble (k0 + 1) lv = true) (hl0 : Cond.methodLinkNest own idx y host ∈ nW) (hs0 : Cond.static y ∈ lw_tbl) (hn : pc + 3 = nx) : Ok mi own cc nL lv rt sx pc (mCallS kd j n nx) := by
  subst hn
  refine ⟨?_, ?_⟩
  · intro w p l e R s m args below meth c cells slots Q CM go ret L st μ hC hR hM h hg hr ls H locs hl hH
    obtain ⟨hk, h⟩ := cond_e h
    rw [Bool.and_eq_true] at hk
    obtain ⟨hk1, hk2⟩ := hk
    have hk1 := beq_e hk1
    have hk2 := ble_e hk2
    obtain ⟨Q', h, hQ⟩ := cK_u h
    have hMet := hM j _ μ _ h
    have hgd := cal_good hj
    obtain ⟨e1, hcd, hml, hlv, hini, hd⟩ := hj
    have hv1 := ble_e hv0
    rw [e1] at hMet hcd hgd
    refine call_on (r := st.drop n) (a := ((st.take n).reverse.map (sv w)).toArray) hg hl hH.2 hQ ?_
    have htw := hC.2.2.2.2.1
    have hR1 := hR.1
    have hR2 := hR.2.1
    exact va_runSN (As := (st.take n).reverse.map (sv w)) (rest := (st.drop n).map (sv w)) (Ts := tW) (own := own) (host := host) ⟨hC.1, hC.2.1, hC.2.2.1, hC.2.2.2.1, htw⟩ hMet
      ⟨va_cnB n htw hgd rfl rfl rfl (hC.2.2.2.2.2.2.1 _ hl0) (htw _ (tW_of hini rfl)) hd ⟨by show (mi j).2.2.2.2 + 1 ≤ _; omega, by show 8 + ((mi j).2.2.1 + 11) + 38 * (mi j).2.2.2.2 ≤ _; omega⟩, htw _ (tW_of hs0 rfl), trivial⟩
      ⟨Pm_blind _ _ _, fun U hU hW => ⟨rfl, by rw [hU]; exact hH.1, va_K.moved hW.alike hC.2.2.2.2.2.1, hC.2.2.2.2.2.2.1.warm hW⟩⟩ rfl (by simpa using hk1) hl.1
      (by show st.map (sv w) = ((st.take n).reverse.map (sv w)).reverse ++ (st.drop n).map (sv w); rw [← List.map_reverse, List.reverse_reverse, ← List.map_append, List.take_append_drop])
      (lv_room (Nat.le_trans (cat_sum _) (by rw [List.length_map]; omega))) hdg ⟨hR.2.2.1, hR.2.2.2⟩
  · intro CM L st μ go go' ret ret' hm h1 h2 h
    obtain ⟨hk, h⟩ := cond_e h
    show cond (Nat.beq (st.take n).length n && Nat.ble (st.drop n).length 4) _ False
    rw [hk]
    exact cK_mono hm (fun v μ q => h1 _ _ _ _ q) h
theorem ok_callV {kd j n ci idx N k0 : Nat} {y : MethodName} {C : String} {T : u_T} (hdg : decode cc pc = .ok (.invokevirtual idx, 3)) (hj : Cal mi j y n k0) (hv0 : Nat.ble (k0 + 1) lv = true) (hc : vwCl[ci]? = some (C, T, N)) (hl0 : Cond.methodLink own idx y ∈ lw_tbl) (hi0 : Cond.instanceMethod y ∈ lw_tbl) (hse : Cond.selects C y y ∈ lw_tbl) (hn : pc + 3 = nx) : Ok mi own cc nL lv rt sx pc (mCallV kd j n ci nx) := by
  subst hn
  refine ⟨?_, ?_⟩
  · intro w p l e R s m args below meth c cells slots Q CM go ret L st μ hC hR hM h hg hr ls H locs hl hH
    obtain ⟨hk1, h⟩ := cond_e h
    have hk1 := beq_e hk1
    obtain ⟨k, r, hrest, h⟩ := pR_e h
    obtain ⟨hk, h⟩ := cond_e h
    rw [Bool.and_eq_true] at hk
    obtain ⟨hk3, hk2⟩ := hk
    have hk3 := beq_e hk3
    have hk2 := ble_e hk2
    have h9 : ci < 9 := by have := (List.getElem?_eq_some_iff.mp hc).1; simpa using this
    have hlt : k < 291 := ob_lt (by rw [hk3]; exact h9)
    have he := wl_get w μ hlt
    rw [ent_o w (μ k) hk3 h9] at he
    obtain ⟨Q', h, hQ⟩ := cK_u h
    have hMet := hM j _ μ _ h
    have hgd := cal_good hj
    obtain ⟨e1, hcd, hml, hlv, hini, hd⟩ := hj
    have hv1 := ble_e hv0
    rw [e1] at hMet hcd hgd
    refine call_on (r := r) (a := (Value.ref (rr w k) :: (st.take n).reverse.map (sv w)).toArray) hg hl hH.2 hQ ?_
    have htw := hC.2.2.2.2.1
    have hR1 := hR.1
    have hR2 := hR.2.1
    have hstk : st.map (sv w) = ((st.take n).reverse.map (sv w)).reverse ++ .ref (rr w k) :: r.map (sv w) := by
      rw [← List.map_reverse, List.reverse_reverse]
      conv => lhs; rw [← List.take_append_drop n st, hrest]
      rw [List.map_append]
      rfl
    have hrec := va_recv hC.2.2.2.2.2.1 hH.1 hc he
    rw [← rr_lt w hlt] at hrec
    exact va_runV (As := (st.take n).reverse.map (sv w)) (rest := r.map (sv w)) (Ts := tW) (own := own) (C := C) (b := rr w k) ⟨hC.1, hC.2.1, hC.2.2.1, hC.2.2.2.1, htw⟩ hMet
      ⟨callB_of n htw hgd rfl rfl rfl (htw _ (tW_of hini rfl)) (htw _ (tW_of hl0 rfl)) hd ⟨by show (mi j).2.2.2.2 + 1 ≤ _; omega, by show 8 + ((mi j).2.2.1 + 11) + 38 * (mi j).2.2.2.2 ≤ _; omega⟩, htw _ (tW_of hi0 rfl), htw _ (tW_of hse rfl)⟩
      ⟨Pm_blind _ _ _, hrec, fun U hU hW => ⟨rfl, by rw [hU]; exact hH.1, va_K.moved hW.alike hC.2.2.2.2.2.1, hC.2.2.2.2.2.2.1.warm hW⟩⟩ rfl (by simpa using hk1) hl.1 hstk
      (lv_room (Nat.le_trans (cat_sum _) (by rw [List.length_map]; omega))) hdg ⟨hR.2.2.1, hR.2.2.2⟩
  · intro CM L st μ go go' ret ret' hm h1 h2 h
    obtain ⟨hk, h⟩ := cond_e h
    obtain ⟨k, r, hrest, h⟩ := pR_e h
    obtain ⟨hk3, h⟩ := cond_e h
    show cond (Nat.beq (st.take n).length n) _ False
    rw [hk, hrest]
    show cond (Nat.beq (ob k) ci && Nat.ble r.length 4) _ False
    rw [hk3]
    exact cK_mono hm (fun v μ q => h1 _ _ _ _ q) h
theorem ok_cpy {idx : Nat} (hdg : decode cc pc = .ok (.invokestatic idx, 3)) (hl0 : Cond.methodLink own idx arraycopyName ∈ lw_tbl) (hn0 : Cond.native arraycopyName ∈ lw_tbl) (hs0 : Cond.static arraycopyName ∈ lw_tbl) (hi0 : Cond.initialized "java/lang/System" ∈ lw_tbl) (hv0 : Nat.ble 1 lv = true) (hn : pc + 3 = nx) : Ok mi own cc nL lv rt sx pc (mCpy nx) := by
  subst hn
  refine ⟨?_, ?_⟩
  · intro w p l e R s m args below meth c cells slots Q CM go ret L st μ hC hR hM h hg hr ls H locs hl hH
    obtain ⟨n, r, rfl, g9⟩ := pI_e h; clear h; have h := g9; clear g9
    obtain ⟨dp, r, rfl, g9⟩ := pI_e h; clear h; have h := g9; clear g9
    obtain ⟨b, r, rfl, g9⟩ := pR_e h; clear h; have h := g9; clear g9
    obtain ⟨sp, r, rfl, g9⟩ := pI_e h; clear h; have h := g9; clear g9
    obtain ⟨a, r, rfl, g9⟩ := pR_e h; clear h; have h := g9; clear g9
    obtain ⟨hk, h⟩ := cond_e h
    rw [Bool.and_eq_true, Bool.and_eq_true] at hk
    obtain ⟨⟨ha, hb⟩, hk⟩ := hk
    have ha := beq_e ha
    have hb := beq_e hb
    have hk := ble_e hk
    obtain ⟨h1, h2, h3, h4, h5, h⟩ := h
    have hla := (ak_e ha (by decide)).2
    have hlb := (ak_e hb (by decide)).2
    have hea := wl_get w μ hla
    rw [ent_1 w (μ a) ha] at hea
    have heb := wl_get w μ hlb
    rw [ent_1 w (μ b) hb] at heb
    have htw := hC.2.2.2.2.1
    have hv1 := ble_e hv0
    have hR1 := hR.1
    have hR2 := hR.2.1
    show W _ _ _ _ _ _ _ _ _ _ _ _ _ _ _ (F0 m pc ls (.int n :: .int dp :: .ref (rr w b) :: .int sp :: .ref (rr w a) :: r.map (sv w)))
    rw [rr_lt w hla, rr_lt w hlb]
    refine va_copyi hC.1 hC.2.1 (by rw [hC.2.2.1]; exact hl.1.symm) hC.2.2.2.1 (htw _ (tW_of hl0 rfl)) (htw _ (tW_of hn0 rfl)) (htw _ (tW_of hs0 rfl)) (htw _ (tW_of hi0 rfl)) hC.2.2.2.2.2.1 hH.1 (wl_D w μ) hH.2 a b 0 0 hea heb rfl rfl rfl h1 h2 h3 h4 h5 (fun _ _ => rfl) (by omega) ?_ hdg (fun H1 locs1 hP hD hS => ?_)
    · have h6 := cat_sum (r.map (sv w))
      rw [List.length_map] at h6
      have h7 : nativeFrameWords "java/lang/System" "arraycopy" 5 = 7 := by decide
      omega
    · rw [← ent_1 w _ hb, wl_set w μ hlb] at hP
      exact hg _ _ _ _ h ls H1 locs1 hl ⟨hP, hS⟩
  · intro CM L st μ go go' ret ret' hm h1 h2 h
    obtain ⟨n, r, rfl, g9⟩ := pI_e h; clear h; have h := g9; clear g9
    obtain ⟨dp, r, rfl, g9⟩ := pI_e h; clear h; have h := g9; clear g9
    obtain ⟨b, r, rfl, g9⟩ := pR_e h; clear h; have h := g9; clear g9
    obtain ⟨sp, r, rfl, g9⟩ := pI_e h; clear h; have h := g9; clear g9
    obtain ⟨a, r, rfl, g9⟩ := pR_e h; clear h; have h := g9; clear g9
    obtain ⟨hk, h⟩ := cond_e h
    show cond (Nat.beq (ak a) 1 && Nat.beq (ak b) 1 && Nat.ble r.length 4) _ False
    rw [hk]
    exact ⟨h.1, h.2.1, h.2.2.1, h.2.2.2.1, h.2.2.2.2.1, h1 _ _ _ _ h.2.2.2.2.2⟩
theorem ok_max {idx : Nat} (hdg : decode cc pc = .ok (.invokestatic idx, 3)) (hl0 : Cond.methodLink own idx Lib.Math.max.name ∈ lw_tbl) (hs0 : Cond.static Lib.Math.max.name ∈ lw_tbl) (hi0 : Cond.initialized "java/lang/Math" ∈ lw_tbl) (hc0 : Cond.code Lib.Math.max.name Lib.Math.max.code 2 (some .int) ∈ lw_tbl) (hv0 : Nat.ble 1 lv = true) (hn : pc + 3 = nx) : Ok mi own cc nL lv rt sx pc (mMax nx) := by
  subst hn
  refine ⟨?_, ?_⟩
  · intro w p l e R s m args below meth c cells slots Q CM go ret L st μ hC hR hM h hg hr ls H locs hl hH
    obtain ⟨y, r, rfl, g9⟩ := pI_e h; clear h; have h := g9; clear g9
    obtain ⟨x, r, rfl, g9⟩ := pI_e h; clear h; have h := g9; clear g9
    obtain ⟨hk, h⟩ := cond_e h
    have hk := ble_e hk
    have htw := hC.2.2.2.2.1
    have hv1 := ble_e hv0
    have hR1 := hR.1
    have hR2 := hR.2.1
    have h6 := cat_sum (r.map (sv w))
    rw [List.length_map] at h6
    exact va_mmax hC.1 hC.2.1 (by rw [hC.2.2.1]; exact hl.1.symm) hC.2.2.2.1 (htw _ (tW_of hl0 rfl)) (htw _ (tW_of hs0 rfl)) (htw _ (tW_of hi0 rfl)) (htw _ (tW_of hc0 rfl)) (by omega) (by omega) hR.2.2.1 hR.2.2.2 hdg (hg _ _ _ _ h ls H locs hl hH)
  · intro CM L st μ go go' ret ret' hm h1 h2 h
    obtain ⟨y, r, rfl, g9⟩ := pI_e h; clear h; have h := g9; clear g9
    obtain ⟨x, r, rfl, g9⟩ := pI_e h; clear h; have h := g9; clear g9
    obtain ⟨hk, h⟩ := cond_e h
    show cond (Nat.ble r.length 4) _ False
    rw [hk]
    exact h1 _ _ _ _ h
theorem ok_min {idx : Nat} (hdg : decode cc pc = .ok (.invokestatic idx, 3)) (hl0 : Cond.methodLink own idx Lib.Math.min.name ∈ lw_tbl) (hs0 : Cond.static Lib.Math.min.name ∈ lw_tbl) (hi0 : Cond.initialized "java/lang/Math" ∈ lw_tbl) (hc0 : Cond.code Lib.Math.min.name Lib.Math.min.code 2 (some .int) ∈ lw_tbl) (hv0 : Nat.ble 1 lv = true) (hn : pc + 3 = nx) : Ok mi own cc nL lv rt sx pc (mMin nx) := by
  subst hn
  refine ⟨?_, ?_⟩
  · intro w p l e R s m args below meth c cells slots Q CM go ret L st μ hC hR hM h hg hr ls H locs hl hH
    obtain ⟨y, r, rfl, g9⟩ := pI_e h; clear h; have h := g9; clear g9
    obtain ⟨x, r, rfl, g9⟩ := pI_e h; clear h; have h := g9; clear g9
    obtain ⟨hk, h⟩ := cond_e h
    have hk := ble_e hk
    have htw := hC.2.2.2.2.1
    have hv1 := ble_e hv0
    have hR1 := hR.1
    have hR2 := hR.2.1
    have h6 := cat_sum (r.map (sv w))
    rw [List.length_map] at h6
    exact va_mmin hC.1 hC.2.1 (by rw [hC.2.2.1]; exact hl.1.symm) hC.2.2.2.1 (htw _ (tW_of hl0 rfl)) (htw _ (tW_of hs0 rfl)) (htw _ (tW_of hi0 rfl)) (htw _ (tW_of hc0 rfl)) (by omega) (by omega) hR.2.2.1 hR.2.2.2 hdg (hg _ _ _ _ h ls H locs hl hH)
  · intro CM L st μ go go' ret ret' hm h1 h2 h
    obtain ⟨y, r, rfl, g9⟩ := pI_e h; clear h; have h := g9; clear g9
    obtain ⟨x, r, rfl, g9⟩ := pI_e h; clear h; have h := g9; clear g9
    obtain ⟨hk, h⟩ := cond_e h
    show cond (Nat.ble r.length 4) _ False
    rw [hk]
    exact h1 _ _ _ _ h
theorem ok_ri (hdg : decode cc pc = .ok (.ireturn, 1)) (hrt : rt = some .int) : Ok mi own cc nL lv rt sx pc mRI := by
  refine ⟨?_, ?_⟩
  · intro w p l e R s m args below meth c cells slots Q CM go ret L st μ hC hR hM h hg hr ls H locs hl hH
    obtain ⟨x, r, rfl, g9⟩ := pI_e h; clear h
    obtain ⟨rfl, h⟩ := pN_e g9
    exact (hr _ _ h pc ls H locs hH).1 x rfl hrt hdg
  · intro CM L st μ go go' ret ret' hm h1 h2 h
    obtain ⟨x, r, rfl, g9⟩ := pI_e h; clear h
    obtain ⟨rfl, h⟩ := pN_e g9
    exact h2 _ _ h
theorem ok_rz (hdg : decode cc pc = .ok (.ireturn, 1)) (hrt : rt = some .boolean) : Ok mi own cc nL lv rt sx pc mRZ := by
  refine ⟨?_, ?_⟩
  · intro w p l e R s m args below meth c cells slots Q CM go ret L st μ hC hR hM h hg hr ls H locs hl hH
    obtain ⟨x, r, rfl, g9⟩ := pI_e h; clear h
    obtain ⟨rfl, h⟩ := pN_e g9
    exact (hr _ _ h.2 pc ls H locs hH).2.1 x rfl h.1 hrt hdg
  · intro CM L st μ go go' ret ret' hm h1 h2 h
    obtain ⟨x, r, rfl, g9⟩ := pI_e h; clear h
    obtain ⟨rfl, h⟩ := pN_e g9
    exact ⟨h.1, h2 _ _ h.2⟩
theorem ok_rl (hdg : decode cc pc = .ok (.lreturn, 1)) (hrt : rt = some .long) : Ok mi own cc nL lv rt sx pc mRL := by
  refine ⟨?_, ?_⟩
  · intro w p l e R s m args below meth c cells slots Q CM go ret L st μ hC hR hM h hg hr ls H locs hl hH
    obtain ⟨x, r, rfl, g9⟩ := pL_e h; clear h
    obtain ⟨rfl, h⟩ := pN_e g9
    exact (hr _ _ h pc ls H locs hH).2.2.1 x rfl hrt hdg
  · intro CM L st μ go go' ret ret' hm h1 h2 h
    obtain ⟨x, r, rfl, g9⟩ := pL_e h; clear h
    obtain ⟨rfl, h⟩ := pN_e g9
    exact h2 _ _ h
theorem ok_rv (hdg : decode cc pc = .ok (.return_, 1)) (hrt : rt = none) : Ok mi own cc nL lv rt sx pc mRV := by
  refine ⟨?_, ?_⟩
  · intro w p l e R s m args below meth c cells slots Q CM go ret L st μ hC hR hM h hg hr ls H locs hl hH
    obtain ⟨rfl, h⟩ := pN_e h
    exact (hr _ _ h pc ls H locs hH).2.2.2 rfl hrt hdg
  · intro CM L st μ go go' ret ret' hm h1 h2 h
    obtain ⟨rfl, h⟩ := pN_e h
    exact h2 _ _ h
end STEPS
/-- a table whose every place stands for its instruction -/
def Tb (mi : Nat → Mi) (own : String) (cc : ByteArray) (nL lv : Nat) (rt : Option FieldType) (sx : Option (Nat × (Nat → Int32))) (tb : Nat → Sx) : Prop := ∀ pc, Ok mi own cc nL lv rt sx pc (tb pc)
section TABLES
variable {mi : Nat → Mi} {own : String} {cc : ByteArray} {nL lv : Nat} {rt : Option FieldType} {sx : Option (Nat × (Nat → Int32))}
theorem tb_lf {k : Nat} {f : Sx} (h : Ok mi own cc nL lv rt sx k f) : Tb mi own cc nL lv rt sx (lf k f) := by
  intro pc
  unfold lf
  cases e : Nat.beq pc k with
  | true => rw [beq_e e]; exact h
  | false => exact ok_F
theorem tb_nd {k : Nat} {a b : Nat → Sx} (ha : Tb mi own cc nL lv rt sx a) (hb : Tb mi own cc nL lv rt sx b) : Tb mi own cc nL lv rt sx (nd k a b) := by
  intro pc
  unfold nd
  cases Nat.ble k pc with
  | true => exact hb pc
  | false => exact ha pc
theorem rn_mono {tb : Nat → Sx} {ct : List (Nat × List Bool)} {CM : Cm} {ret ret' : Rt} {X X' : Go} (ht : Tb mi own cc nL lv rt sx tb) (hm : CmMono CM) (hX : ∀ pc L st μ, X pc L st μ → X' pc L st μ) (hr : ∀ v μ, ret v μ → ret' v μ) : ∀ (k pc : Nat) (L : Ls) (st : List Value) (μ : Mm), rn tb ct CM ret X k pc L st μ → rn tb ct CM ret' X' k pc L st μ
  | 0, _, _, _, _, h => h
  | k + 1, pc, L, st, μ, h => by
    refine (ht pc).2 CM L st μ _ _ ret ret' hm (fun pc' L' st' μ' q => ?_) hr h
    unfold gc at q ⊢
    cases e : ctl ct pc' with
    | none => rw [e] at q; exact rn_mono ht hm hX hr k pc' L' st' μ' q
    | some kb => rw [e] at q; exact hX _ _ _ _ q
/-- behind a cut: what comes of the run from here -/
theorem Rc_in {tb : Nat → Sx} {ct : List (Nat × List Bool)} {CM : Cm} {ret : Rt} (ht : Tb mi own cc nL lv rt sx tb) (hm : CmMono CM) {pc : Nat} {L : Ls} {st : List Value} {μ : Mm} (h : rn tb ct CM ret (Rc tb ct CM ret) 400 pc L st μ) : Rc tb ct CM ret pc L st μ := by
  intro X hX
  exact hX _ _ _ _ (rn_mono ht hm (fun pc' L' st' μ' q => q X hX) (fun _ _ q => q) 400 pc L st μ h)
theorem Rc_mono {tb : Nat → Sx} {ct : List (Nat × List Bool)} {CM : Cm} {ret ret' : Rt} (ht : Tb mi own cc nL lv rt sx tb) (hm : CmMono CM) (hr : ∀ v μ, ret v μ → ret' v μ) {pc : Nat} {L : Ls} {st : List Value} {μ : Mm} (h : Rc tb ct CM ret pc L st μ) : Rc tb ct CM ret' pc L st μ := by
  intro X hX
  exact h X (fun pc' L' st' μ' q => hX _ _ _ _ (rn_mono ht hm (fun _ _ _ _ q => q) hr 400 pc' L' st' μ' q))
theorem Rc_sound {tb : Nat → Sx} {ct : List (Nat × List Bool)} {CM : Cm} {ret : Rt} (ht : Tb mi own cc nL lv rt sx tb) {w : Wp} {p : Program} {l : Launch} {e : Env} {R : Room} {s : State} {m : MethodId} {args : Array Value} {below : List Frame} {meth : Method} {c : Code} {cells slots : Nat} {Q : State → Prop}
    (hC : Cx w p s m args c own cc nL sx) (hR : Rm lv R cells slots) (hM : CmOk mi w l CM) (hr : Ro w p l e R s m args below meth c cc cells slots Q rt ret) {pc : Nat} {L : Ls} {st : List Value} {μ : Mm} (h : Rc tb ct CM ret pc L st μ) : Wq w p l e R s m args below meth c nL cells slots Q pc L st μ := by
  refine h (Wq w p l e R s m args below meth c nL cells slots Q) ?_
  have key : ∀ (k pc : Nat) (L : Ls) (st : List Value) (μ : Mm), rn tb ct CM ret (Wq w p l e R s m args below meth c nL cells slots Q) k pc L st μ → Wq w p l e R s m args below meth c nL cells slots Q pc L st μ := by
    intro k
    induction k with
    | zero => intro pc L st μ h; exact h.elim
    | succ k ih =>
      intro pc L st μ h
      refine (ht pc).1 w p l e R s m args below meth c cells slots Q CM _ ret L st μ hC hR hM h (fun pc' L' st' μ' q => ?_) hr
      unfold gc at q
      cases e : ctl ct pc' with
      | none => rw [e] at q; exact ih _ _ _ _ q
      | some kb =>
        rw [e] at q
        intro ls H locs hl hH
        exact q ls H locs (hl.mono (mkL_e kb L')) hH
  exact key 400
end TABLES
/-- the program: a method's name, code, locals, answer; its table; its cuts; how many locals beside its arguments -/
abbrev Rec : Type := Mi × (Nat → Sx) × List (Nat × List Bool) × Nat
def RecOk (mi : Nat → Mi) (r : Rec) : Prop := Tb mi r.1.1.cls r.1.2.1 r.1.2.2.1 r.1.2.2.2.2 r.1.2.2.2.1 none r.2.1 ∧ plainName r.1.1.cls = true ∧ (r.1.2.2.2.1 = none ∨ r.1.2.2.2.1 = some .int ∨ r.1.2.2.2.1 = some .boolean ∨ r.1.2.2.2.1 = some .long)
def cMp (pg : Nat → Rec) : Nat → Cm
  | 0 => fun _ _ _ _ => False
  | d + 1 => fun j a μ Q => (il a).length ≤ (pg j).1.2.2.1 ∧ Rc (pg j).2.1 (pg j).2.2.1 (cMp pg d) Q 0 (il a ++ List.replicate (pg j).2.2.2 none) [] μ
theorem cMp_mono {mi : Nat → Mi} {pg : Nat → Rec} (hp : ∀ j, RecOk mi (pg j)) : ∀ d, CmMono (cMp pg d)
  | 0 => fun _ _ _ _ _ _ h => h
  | d + 1 => fun j a μ Q Q' hq h => ⟨h.1, Rc_mono (hp j).1 (cMp_mono hp d) hq h.2⟩
theorem il_len (w : Wp) : ∀ a : List Value, (lg_sl (a.map (sv w))).length = (il a).length
  | [] => rfl
  | v :: r => by
    have ih := il_len w r
    have h1 : lg_sl ((v :: r).map (sv w)) = (if (sv w v).category = 2 then [Slot.val (sv w v), Slot.second] else [Slot.val (sv w v)]) ++ lg_sl (r.map (sv w)) := rfl
    rw [h1, List.length_append, ih, sv_cat]
    cases v <;> simp [il, Value.category] <;> omega
theorem il_args (w : Wp) : ∀ (a : List Value) (k n i : Nat) (v : Value), lg (il a ++ List.replicate k none) i = some v → (n + i, sv w v) ∈ lv_args n (a.map (sv w))
  | [], k, n, i, v, h => by
    exfalso
    have : ∀ k i : Nat, lg (List.replicate k none) i = none := by
      intro k
      induction k with
      | zero => intro i; rfl
      | succ k ih => intro i; cases i with
        | zero => rfl
        | succ i => exact ih i
    rw [show il [] ++ List.replicate k none = List.replicate k none from rfl, this] at h
    cases h
  | x :: r, k, n, i, v, h => by
    have two : ∀ (y : Value), y.category = 2 → lg (some y :: none :: (il r ++ List.replicate k none)) i = some v → (n + i, sv w v) ∈ (n, sv w y) :: lv_args (n + 2) (r.map (sv w)) := by
      intro y hy h
      match i, h with
      | 0, h => simp only [lg, Option.some.injEq] at h; subst h; exact List.mem_cons_self
      | 1, h => simp [lg] at h
      | i + 2, h =>
        have := il_args w r k (n + 2) i v h
        rw [show n + (i + 2) = n + 2 + i by omega]
        exact List.mem_cons_of_mem _ this
    have one : ∀ (y : Value), lg (some y :: (il r ++ List.replicate k none)) i = some v → (n + i, sv w v) ∈ (n, sv w y) :: lv_args (n + 1) (r.map (sv w)) := by
      intro y h
      match i, h with
      | 0, h => simp only [lg, Option.some.injEq] at h; subst h; exact List.mem_cons_self
      | i + 1, h =>
        have := il_args w r k (n + 1) i v h
        rw [show n + (i + 1) = n + 1 + i by omega]
        exact List.mem_cons_of_mem _ this
    cases x with
    | long x => exact two (.long x) rfl h
    | double x => exact two (.double x) rfl h
    | _ => exact one _ h
/-- EVERY METHOD OF THE PROGRAM, AT EVERY DEPTH: what its table comes to is its contract -/
theorem cMp_ok {pg : Nat → Rec} (hp : ∀ j, RecOk (fun j => (pg j).1) (pg j)) (w : Wp) (l : Launch) : ∀ d, CmOk (fun j => (pg j).1) w l (cMp pg d)
  | 0 => fun _ _ _ _ h => h.elim
  | d + 1 => by
    intro j a μ Q h
    obtain ⟨hlen, h⟩ := h
    obtain ⟨hT, hpl, hrt⟩ := hp j
    refine Met.ofW (cc := (pg j).1.2.1) (maxL := (pg j).1.2.2.1) (ret := (pg j).1.2.2.2.1) hpl rfl ?_
    intro p e s m args below meth c s₁ B hml hv
    obtain ⟨rfl, hP, hK, hN⟩ := hv
    have hts := atoms_spec (ws := .code (pg j).1.1 (pg j).1.2.1 (pg j).1.2.2.1 (pg j).1.2.2.2.1 :: tW) B.pre
    have hC : Cx w p s m (a.map (sv w)).toArray c (pg j).1.1.cls (pg j).1.2.1 (pg j).1.2.2.1 none := ⟨B.exec, B.bytes, hml, findClass_of_methodNamed B.named, fun x hx => hts x (List.mem_cons_of_mem _ hx), hK, hN, fun q hq => by cases hq⟩
    have hlocks := B.notSynchronized
    have hx := B.exec
    have hb := B.bytes
    have hre := B.returns
    rw [lg_entry_eq]
    refine Rc_sound hT hC (R := rmd (pg j).1.2.2.2.2) (cells := 0) (slots := 0) ⟨Nat.le_refl _, Nat.le_refl _, Nat.le_refl _, Nat.le_refl _⟩ (cMp_ok hp w l d) ?_ h _ _ _ (Lk.of (lv_entry (a.map (sv w)) (by rw [il_len]; exact hlen)) (fun i v hi => by simpa using il_args w a _ 0 i v hi)) ⟨hP, va_S.rf⟩
    intro v μ' hq pc ls H locs hH
    refine ⟨fun x hv hr hdg => ?_, fun x hv h01 hr hdg => ?_, fun x hv hr hdg => ?_, fun hv hr hdg => ?_⟩
    · subst hv
      exact W.iret hx hb (by rw [hre, hr]) (fun t ht hW => ⟨⟨some (.int x), μ', rfl, hq, by rw [ht]; exact hH.1⟩, hH.2.F ht⟩) hH.2.2.2 hdg
    · subst hv
      exact W.zret (ty := .boolean) hx hb (by rw [hre, hr]) (by rcases h01 with rfl | rfl <;> rfl) (fun t ht hW => ⟨⟨some (.int x), μ', rfl, hq, by rw [ht]; exact hH.1⟩, hH.2.F ht⟩) hH.2.2.2 hdg
    · subst hv
      exact W.lret hx hb (by rw [hre, hr]) (fun t ht hW => ⟨⟨some (.long x), μ', rfl, hq, by rw [ht]; exact hH.1⟩, hH.2.F ht⟩) hH.2.2.2 hdg
    · subst hv
      exact W.vret hx hb (by rw [hre, hr]) (fun t ht hW => ⟨⟨none, μ', rfl, hq, by rw [ht]; exact hH.1⟩, hH.2.F ht⟩) hH.2.2.2 hdg
