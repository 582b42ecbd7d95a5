/-! THE CLAIM OUT OF ONE WALK OF THE LAW'S BODY. Your part is whole_start (and what it stands on); all else here is the same for every law, but numbers. -/
def R_law : String := "NextNamesLaw"
def lw_P (b : Addr) (xs : List Int32) (args : Array Value) (s : State) : Prop := args = #[.ref b] ∧ s.IntsAt b xs ∧ xs.length ≤ 384 ∧ (Jvm.Cond.and given_1 narrow_1).before args s = true
def lw_Q (_ : Array Value) (s : State) (o : Outcome) (t : State) : Prop := o = .returned (some (.int 1)) ∧ Framed s o t [] 600000 7302250
def lw_Z (below : List Frame) (a : Array Value) (s : State) : State → Prop := fun t => ∃ o, t.status = .running ∧ Ended t below o ∧ lw_Q a s o t
/-- the law's own end, with 1 on the stack, nothing written that was there before, its room as the claim has it -/
theorem lw_ret {p : Program} {l : Launch} {e : Env} {s : State} {m : MethodId} {below : List Frame} {meth : Method} {c : Code} {b : Nat} (hx : p.tables.exec = Jvm.exec) (hb : c.code = code) (hr : meth.sig.returnType = ret) (hlocks : meth.locks = false) {pc : Nat} {H : Heap} {ls : Array Slot} (hdg : decode code pc = .ok (.ireturn, 1)) : W p l e room_1 s m #[Value.ref b] below meth c H [] 600000 7302250 (lw_Z below #[Value.ref b] s) (F0 m pc ls [.int 1]) := by
  intro T hT X
  obtain ⟨fs, hret, hrun, hended, hW, hframe⟩ := X.leave (v := some (.int 1)) (hlocks := hlocks) (fun h => by rw [hr] at h; cases h)
  have hmeth' : T.vm.method? m = some meth := X.method'
  refine ⟨T.setFrames fs, ?_, .returned (some (.int 1)), hrun, hended, rfl, ⟨_, rfl⟩, hW, hframe⟩
  jvm_step X.here [X.here.top, hx, hb, hdg, hmeth', hr, ret, narrow_b1]
  (try refine ⟨rfl, ?_⟩); (try refine ⟨rfl, ?_⟩)
  first | (intro acts; rw [hret _ acts rfl rfl rfl]) | rw [hret _ _ rfl rfl rfl]
  exact Steps.refl _
/-- what holds at the law's entry: the machine, the code, the tables' words (any of lw_tbl by 'hts w (by decide +kernel)'), the script of L ints xs at the cell b, what the Statement gives of the start (any of its parts by flat_of_before) -/
def lw_At (p : Program) (s : State) (m : MethodId) (meth : Method) (c : Code) (b L : Nat) (xs : Nat → Int32) : Prop :=
  p.tables.exec = Jvm.exec ∧ c.code = code ∧ meth.sig.returnType = ret ∧ c.maxLocals = 4 ∧ s.vm.findClass R_law = some m.cls ∧ (∀ w ∈ lw_tbl, w.before #[Value.ref b] s = true) ∧ va_X b L xs s s.heap ∧ b < s.heap.size ∧ meth.locks = false ∧ (Jvm.Cond.and given_1 narrow_1).before #[Value.ref b] s = true
theorem nW_in : ∀ x ∈ nW, x ∈ lw_tbl := (List.forall_mem_cons.mpr ⟨mT_3 _ (List.mem_of_getElem? (i := 44) rfl), (List.forall_mem_cons.mpr ⟨mT_3 _ (List.mem_of_getElem? (i := 141) rfl), (List.forall_mem_cons.mpr ⟨mT_3 _ (List.mem_of_getElem? (i := 55) rfl), (List.forall_mem_cons.mpr ⟨mT_2 _ (List.mem_of_getElem? (i := 209) rfl), (fun _ h => absurd h List.not_mem_nil)⟩)⟩)⟩)⟩)
theorem nWL_in : ∀ x ∈ nWL, x ∈ lw_tbl := (List.forall_mem_cons.mpr ⟨mT_1 _ (List.mem_of_getElem? (i := 39) rfl), (List.forall_mem_cons.mpr ⟨mT_1 _ (List.mem_of_getElem? (i := 175) rfl), (List.forall_mem_cons.mpr ⟨mT_1 _ (List.mem_of_getElem? (i := 198) rfl), (List.forall_mem_cons.mpr ⟨mT_2 _ (List.mem_of_getElem? (i := 10) rfl), (List.forall_mem_cons.mpr ⟨mT_2 _ (List.mem_of_getElem? (i := 36) rfl), (List.forall_mem_cons.mpr ⟨mT_1 _ (List.mem_of_getElem? (i := 184) rfl), (List.forall_mem_cons.mpr ⟨mT_2 _ (List.mem_of_getElem? (i := 15) rfl), (List.forall_mem_cons.mpr ⟨mT_1 _ (List.mem_of_getElem? (i := 45) rfl), (fun _ h => absurd h List.not_mem_nil)⟩)⟩)⟩)⟩)⟩)⟩)⟩)⟩)
theorem nW_on : ∀ x ∈ nW, x.onTables = true := by decide
theorem nWL_on : ∀ x ∈ nWL, x.onTables = true := by decide
/-- what the mathematics owes: from the fresh memory the law's loop comes to 1 -/
def LawMath : Prop := ∀ (Lx : Nat) (xs : Nat → Int32), Lx ≤ 384 → jL Lx xs 30 (fun x _ => x = 1) 18 [some (.ref 291), some (.ref 0), some (.ref 279), some (.int 0)] [] μ0
set_option maxRecDepth 100000 in
set_option maxHeartbeats 4000000 in
theorem start_of (hmath : LawMath) {p : Program} {e : Env} {s : State} {m : MethodId} {below : List Frame} {meth : Method} {c : Code} (l : Launch) {b L : Nat} {xs : Nat → Int32} (hL : L ≤ 384) (C0 : lw_At p s m meth c b L xs) : W p l e room_1 s m #[Value.ref b] below meth c s.heap [] 0 0 (lw_Z below #[Value.ref b] s) (entryFrame m ([Value.ref b] : List Value).toArray 4) := by
  obtain ⟨hx, hb, hr, hml, hown, hts, hX, hbl, hlocks, hgv⟩ := id C0
  have htw : ∀ x ∈ tW, x.before #[Value.ref b] s = true := fun x h => hts x (List.mem_filter.mp h).1
  obtain ⟨c0, iS0, hKn0⟩ := u_known (C := RX0) (T := TX0) (N := 3) (n := 3) htw uw_0 (htw _ (tW_of mv_1_178 rfl))
  obtain ⟨c1, iS1, hKn1⟩ := u_known (C := RX1) (T := TX1) (N := 6) (n := 6) htw uw_1 (htw _ (tW_of mv_2_35 rfl))
  obtain ⟨c2, iS2, hKn2⟩ := u_known (C := RX2) (T := TX2) (N := 10) (n := 10) htw uw_2 (htw _ (tW_of mv_1_197 rfl))
  obtain ⟨c3, iS3, hKn3⟩ := u_known (C := RX3) (T := TX3) (N := 5) (n := 5) htw uw_3 (htw _ (tW_of mv_2_9 rfl))
  obtain ⟨c4, iS4, hKn4⟩ := u_known (C := RX4) (T := TX4) (N := 15) (n := 15) htw uw_4 (htw _ (tW_of mv_1_44 rfl))
  obtain ⟨c5, iS5, hKn5⟩ := u_known (C := RX5) (T := TX5) (N := 10) (n := 10) htw uw_5 (htw _ (tW_of mv_1_38 rfl))
  obtain ⟨c6, iS6, hKn6⟩ := u_known (C := RX6) (T := TX6) (N := 3) (n := 3) htw uw_6 (htw _ (tW_of mv_1_21 rfl))
  obtain ⟨c7, iS7, hKn7⟩ := u_known (C := RX7) (T := TX7) (N := 11) (n := 11) htw uw_7 (htw _ (tW_of mv_1_13 rfl))
  obtain ⟨c8, iS8, hKn8⟩ := u_known (C := RX8) (T := TX8) (N := 23) (n := 23) htw uw_8 (htw _ (tW_of mv_4_81 rfl))
  obtain ⟨dC, dI, hKc⟩ : ∃ (dC : Nat → ClassId) (dI : Nat → Nat → Nat), ∀ (k : Nat) (q : vw_C), vwCl[k]? = some q → u_Kn s q.1 q.2.1 q.2.2 (dC k) (dI k) := by
    refine ⟨fun k => if k = 0 then c0 else if k = 1 then c1 else if k = 2 then c2 else if k = 3 then c3 else if k = 4 then c4 else if k = 5 then c5 else if k = 6 then c6 else if k = 7 then c7 else c8, fun k => if k = 0 then iS0 else if k = 1 then iS1 else if k = 2 then iS2 else if k = 3 then iS3 else if k = 4 then iS4 else if k = 5 then iS5 else if k = 6 then iS6 else if k = 7 then iS7 else iS8, ?_⟩
    intro k q hq
    match k, hq with
    | 0, hq => cases hq; exact hKn0
    | 1, hq => cases hq; exact hKn1
    | 2, hq => cases hq; exact hKn2
    | 3, hq => cases hq; exact hKn3
    | 4, hq => cases hq; exact hKn4
    | 5, hq => cases hq; exact hKn5
    | 6, hq => cases hq; exact hKn6
    | 7, hq => cases hq; exact hKn7
    | 8, hq => cases hq; exact hKn8
    | k + 9, hq => simp [vwCl] at hq
  obtain ⟨cI, kI, compI, i1, i2, i3⟩ := Cond.arrayClass_spec (htw _ (tW_of mv_1_36 rfl))
  obtain ⟨cZ, kZ, compZ, z1, z2, z3⟩ := Cond.arrayClass_spec (htw _ (tW_of mv_4_156 rfl))
  obtain ⟨compL, cL, kL, l1, l2, l3, l4, l5⟩ := Cond.arrayOver_spec (hts _ mv_1_176)
  obtain ⟨w, hw⟩ : ∃ w : Wp, w = ((dC, dI), s.heap.size, b, cI, cZ, cL) := ⟨_, rfl⟩
  have hK : va_K w.1 vwCl (tyl w) s := by
    subst hw
    refine ⟨hKc, fun k q hq => ?_⟩
    match k, hq with
    | 0, hq => cases hq; exact ⟨fun n z => ⟨fun k h => (by cases h), kI, i2, compI, i3⟩, i1⟩
    | 1, hq => cases hq; exact ⟨fun n z => ⟨fun k h => (by cases h), kZ, z2, compZ, z3⟩, z1⟩
    | 2, hq => cases hq; exact ⟨fun n z => ⟨fun k h => (by cases h), kL, l3, compL, l4⟩, kL, compL, l3, l4, l1, l5⟩
    | k + 3, hq => simp [tyl] at hq
  have hN : Ns s := ⟨fun x hx => va_Nw.of (nWL_on x hx) (hts x (nWL_in x hx)), va_AO.of (hts _ mv_1_176)⟩
  have hNW : nWs s := fun x hx => va_Nw.of (nW_on x hx) (hts x (nW_in x hx))
  have hB : w.2.1 = s.heap.size := by rw [hw]
  have hbw : w.2.2.1 = b := by rw [hw]
  have M : Mx w p s m #[Value.ref b] c RL cL_law 4 := ⟨hx, hb, hml, hown, htw, hK, hN⟩
  have hC : Cw w s.heap 0 [] s.heap [] := ⟨fun k q h => by simp [cw] at h, fun _ => by omega, va_S.rf⟩
  have hl := lv_entry ([.ref b]) (n := 4) (Nat.le_of_ble_eq_true rfl)
  rw [lg_entry_eq]
  generalize (lg_sl ([.ref b]) ++ List.replicate (4 - (lg_sl ([.ref b])).length) Slot.unset).toArray = ls at hl ⊢
  have hl : lv_has ls 4 [(0, .ref b)] := hl
  refine mk_new (a := 0) M (by omega) hC (ci := 7) (T := TX7) (fs := [.null, .null, .null, .null, .null, .null, .null, .null, .null, .null, .int 0]) rfl uw_7 tyX7 tyX7_ok mv_1_12 mv_1_13 mv_1_1 (fun j hj => by rcases (show j = 0 ∨ j = 1 ∨ j = 2 ∨ j = 3 ∨ j = 4 ∨ j = 5 ∨ j = 6 ∨ j = 7 ∨ j = 8 ∨ j = 9 ∨ j = 10 by omega) with rfl | rfl | rfl | rfl | rfl | rfl | rfl | rfl | rfl | rfl | rfl <;> rfl) (Nat.le_of_ble_eq_true rfl) (Nat.le_of_ble_eq_true rfl) dL_law_0 (fun H hC => ?_)
  refine lv_dup M.1 M.2.1 dL_law_3 rfl ?_
  refine mk_call (y := yX7_init) (bytes := cX7_init) (k := 0) M (by omega) hl hC (c_X7_init l w _ (xl_up (fun q hq => rfl) _ (by decide)) gx_s) (by decide) rfl rfl mv_1_14 mv_1_15 mv_1_16 mv_1_1 rfl (by decide +kernel) ⟨Nat.le_of_ble_eq_true rfl, Nat.le_of_ble_eq_true rfl⟩ ⟨Nat.le_of_ble_eq_true rfl, Nat.le_of_ble_eq_true rfl⟩ (Nat.le_of_ble_eq_true rfl) dL_law_4 (fun H locs hC => ?_)
  refine lv_astore_n (lv' := [(1, .ref (w.2.1 + 0)), (0, .ref b)]) M.1 M.2.1 dL_law_7 rfl hl (by decide) rfl (fun ls hl => ?_)
  refine mk_new (a := 279) M (by omega) hC (ci := 8) (T := TX8) (fs := [.int 0, .int 0, .null, .null, .null, .null, .null, .null, .null, .int 0, .null, .int 0, .int 0, .int 0, .int 0, .int 0, .int 0, .int 0, .int 0, .null, .null, .null, .int 0]) rfl uw_8 tyX8 tyX8_ok mv_4_80 mv_4_81 mv_1_9 (fun j hj => by rcases (show j = 0 ∨ j = 1 ∨ j = 2 ∨ j = 3 ∨ j = 4 ∨ j = 5 ∨ j = 6 ∨ j = 7 ∨ j = 8 ∨ j = 9 ∨ j = 10 ∨ j = 11 ∨ j = 12 ∨ j = 13 ∨ j = 14 ∨ j = 15 ∨ j = 16 ∨ j = 17 ∨ j = 18 ∨ j = 19 ∨ j = 20 ∨ j = 21 ∨ j = 22 by omega) with rfl | rfl | rfl | rfl | rfl | rfl | rfl | rfl | rfl | rfl | rfl | rfl | rfl | rfl | rfl | rfl | rfl | rfl | rfl | rfl | rfl | rfl | rfl <;> rfl) (Nat.le_of_ble_eq_true rfl) (Nat.le_of_ble_eq_true rfl) dL_law_8 (fun H hC => ?_)
  refine lv_dup M.1 M.2.1 dL_law_11 rfl ?_
  refine mk_call (y := yX8_init) (bytes := cX8_init) (k := 279) M (by omega) hl hC (c_X8_init l w _ (xl_up (xl_up (xl_up (fun q hq => rfl) _ (by decide)) _ (by decide)) _ (by decide)) gx_s) (by decide) rfl rfl mv_4_82 mv_4_83 mv_4_84 mv_1_9 rfl (by decide +kernel) ⟨Nat.le_of_ble_eq_true rfl, Nat.le_of_ble_eq_true rfl⟩ ⟨Nat.le_of_ble_eq_true rfl, Nat.le_of_ble_eq_true rfl⟩ (Nat.le_of_ble_eq_true rfl) dL_law_12 (fun H locs hC => ?_)
  refine lv_astore_n (lv' := [(2, .ref (w.2.1 + 279)), (1, .ref (w.2.1 + 0)), (0, .ref b)]) M.1 M.2.1 dL_law_15 rfl hl (by decide) rfl (fun ls hl => ?_)
  refine lv_iconst (v := 0) M.1 M.2.1 dL_law_16 (by decide) ?_
  refine lv_istore_n (lv' := [(3, .int 0), (2, .ref (w.2.1 + 279)), (1, .ref (w.2.1 + 0)), (0, .ref b)]) M.1 M.2.1 dL_law_17 rfl hl (by decide) rfl (fun ls hl => ?_)
  have hC2 : Cw w s.heap 291 [] H locs := hC.eq fun q hq => by
    by_cases h1 : 279 = q
    · subst h1
      rw [gx_s]
      rfl
    · rw [gx_n h1, gx_n h1]
      by_cases h2 : 0 = q
      · subst h2
        rw [gx_s]
        rfl
      · rw [gx_n h2, gx_n h2]
  have hl2 : Lk w ls 4 [some (.ref 291), some (.ref 0), some (.ref 279), some (.int 0)] := by
    have h9 : lv_has ls 4 [(0, .ref b), (1, .ref (w.2.1 + 0)), (2, .ref (w.2.1 + 279)), (3, .int 0)] := lv_sub hl [3, 2, 1, 0] rfl
    rw [← hbw] at h9
    exact h9
  have hCx : Cx w p s m #[Value.ref b] c RL cL_law 4 (some (L, xs)) := ⟨hx, hb, hml, hown, htw, hK, hNW, fun q hq => by cases hq; exact ⟨by rw [hbw]; exact hX, by rw [hbw]; exact hbl, by rw [hbw, hB]; exact hbl⟩⟩
  refine Rc_sound (t_L L xs) hCx ⟨Nat.le_of_ble_eq_true rfl, Nat.le_of_ble_eq_true rfl, Nat.le_of_ble_eq_true rfl, Nat.le_of_ble_eq_true rfl⟩ (cM_ok w l 30) ?_ (hmath L xs hL) ls H locs hl2 ⟨hC2.1, hC2.2.2⟩
  intro v μ' hq pc ls H locs hH
  obtain ⟨x, rfl, h1⟩ := vI_e hq
  have h1 : x = 1 := h1
  subst h1
  refine ⟨fun x hv hrt hdg => (by cases hrt), fun x hv h01 hrt hdg => ?_, fun x hv => (by cases hv), fun hv => (by cases hv)⟩
  cases hv
  refine va_forget (fun q hq => by have := hH.2.2.2 q hq; omega) ?_
  refine W.widen (k := 600000) (n := 7302250) (Nat.le_of_ble_eq_true rfl) (Nat.le_of_ble_eq_true rfl) ?_
  exact lw_ret hx hb hr hlocks hdg
