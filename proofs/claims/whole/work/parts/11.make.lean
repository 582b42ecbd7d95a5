/-! ===== MAKING: the constructors' rows ===== -/
def μ0 : Mm := fun k j => if (k = 4 ∨ k = 280) ∧ j < 8 then -1 else 0
def nWL : List Cond := [.methodLinkNest "NextNames" 18 ⟨"NextNames$Reader", "<init>", "()V"⟩ "NextNames", .methodLinkNest "NextNames" 25 ⟨"NextNames$Land", "<init>", "()V"⟩ "NextNames", .methodLinkNest "NextNames" 46 ⟨"NextNames$Fate", "<init>", "()V"⟩ "NextNames", .methodLinkNest "NextNames" 56 ⟨"NextNames$Keeper", "<init>", "()V"⟩ "NextNames", .methodLinkNest "NextNames" 63 ⟨"NextNames$Asker", "<init>", "()V"⟩ "NextNames", .methodLinkNest "NextNames$Acts" 17 ⟨"NextNames$Land", "<init>", "()V"⟩ "NextNames", .methodLinkNest "NextNames$Keeper" 13 ⟨"NextNames$Fate", "<init>", "()V"⟩ "NextNames", .methodLinkNest "NextNames$Reader" 17 ⟨"NextNames$Land", "<init>", "()V"⟩ "NextNames"]
def Ns (U : State) : Prop := (∀ x ∈ nWL, va_Nw x U) ∧ va_AO "NextNames$Land" U
theorem Ns.warm {s U : State} (hW : s.WarmedH U.vm) (h : Ns s) : Ns U := by
  refine ⟨fun x hx => ?_, h.2.moved hW.alike⟩
  have hz := h.1 x hx
  simp only [nWL, List.mem_cons, List.not_mem_nil, or_false] at hx
  rcases hx with rfl | rfl | rfl | rfl | rfl | rfl | rfl | rfl <;> exact va_Nw.warmM hW hz
theorem Ns.same {s U : State} (hv : s.vm = U.vm) (ha : s.vm.Alike U.vm) (h : Ns s) : Ns U := by
  refine ⟨fun x hx => ?_, h.2.moved ha⟩
  have hz := h.1 x hx
  simp only [nWL, List.mem_cons, List.not_mem_nil, or_false] at hx
  rcases hx with rfl | rfl | rfl | rfl | rfl | rfl | rfl | rfl <;> exact va_Nw.same rfl hv hz
/-- a world in the making: a cells stand, in their last form but for those of X (the first that is told counts) -/
def xl : List (Nat × va_E) → Nat → Option va_E
  | [], _ => none
  | q :: r, k => if q.1 = k then some q.2 else xl r k
def gx (w : Wp) (X : List (Nat × va_E)) (k : Nat) : va_E := (xl X k).getD (ent w (μ0 k) k)
def cw (w : Wp) (a : Nat) (X : List (Nat × va_E)) : va_W := (List.range a).map (fun k => (w.2.1 + k, gx w X k))
theorem xl_s {X : List (Nat × va_E)} {k : Nat} {e : va_E} : xl ((k, e) :: X) k = some e := if_pos rfl
theorem xl_n {X : List (Nat × va_E)} {k j : Nat} {e : va_E} (h : k ≠ j) : xl ((k, e) :: X) j = xl X j := if_neg h
theorem gx_s {w : Wp} {X : List (Nat × va_E)} {k : Nat} {e : va_E} : gx w ((k, e) :: X) k = e := by unfold gx; rw [xl_s]; rfl
theorem gx_n {w : Wp} {X : List (Nat × va_E)} {k j : Nat} {e : va_E} (h : k ≠ j) : gx w ((k, e) :: X) j = gx w X j := by unfold gx; rw [xl_n h]
theorem gx_0 {w : Wp} {X : List (Nat × va_E)} {k : Nat} (h : xl X k = none) : gx w X k = ent w (μ0 k) k := by unfold gx; rw [h]; rfl
theorem cw_get (w : Wp) (X : List (Nat × va_E)) {a k : Nat} (h : k < a) : (cw w a X)[k]? = some (w.2.1 + k, gx w X k) := by
  simp [cw, h]
theorem cw_eq (w : Wp) {X Y : List (Nat × va_E)} {a : Nat} (h : ∀ k, k < a → gx w X k = gx w Y k) : cw w a X = cw w a Y := by
  apply List.ext_getElem?
  intro i
  by_cases hi : i < a
  · rw [cw_get w X hi, cw_get w Y hi, h i hi]
  · simp [cw, hi]
theorem cw_set (w : Wp) (X : List (Nat × va_E)) {a k : Nat} (h : k < a) (e : va_E) : (cw w a X).set k (w.2.1 + k, e) = cw w a ((k, e) :: X) := by
  apply List.ext_getElem?
  intro i
  by_cases hi : i = k
  · subst hi
    rw [List.getElem?_set_self (by simp [cw]; exact h), cw_get _ _ h, gx_s]
  · rw [List.getElem?_set_ne (Ne.symm hi)]
    by_cases hl : i < a
    · rw [cw_get _ _ hl, cw_get _ _ hl, gx_n (Ne.symm hi)]
    · simp [cw, hl]
theorem cw_D (w : Wp) (a : Nat) (X : List (Nat × va_E)) : va_D (fun q => w.2.1 ≤ q) (cw w a X) := by
  have key : ∀ (i : Nat) (p : Nat × va_E), (cw w a X)[i]? = some p → p.1 = w.2.1 + i := by
    intro i p h
    have hl : i < a := by
      have := (List.getElem?_eq_some_iff.mp h).1
      simpa [cw] using this
    rw [cw_get _ _ hl] at h
    cases h
    rfl
  refine ⟨fun i j p q h1 h2 h3 => ?_, fun k q h => ?_⟩
  · have := key i p h1
    have := key j q h2
    omega
  · rw [key k q h]
    exact Nat.le_add_right _ _
theorem cw_push (w : Wp) (a : Nat) (X : List (Nat × va_E)) (e : va_E) : cw w (a + 1) ((a, e) :: X) = cw w a X ++ [(w.2.1 + a, e)] := by
  unfold cw
  rw [List.range_succ, List.map_append]
  congr 1
  · apply List.map_congr_left
    intro k hk
    rw [gx_n (by have := List.mem_range.mp hk; omega)]
  · simp [gx_s]
def Cw (w : Wp) (H0 : Heap) (a : Nat) (X : List (Nat × va_E)) (H : Heap) (locs : List Loc) : Prop := va_P w.1 vwCl (cw w a X) H ∧ (a = 0 → w.2.1 ≤ H.size) ∧ va_S (fun q => w.2.1 ≤ q) H0 H locs
theorem Cw.low {w : Wp} {H0 : Heap} {a : Nat} {X : List (Nat × va_E)} {H : Heap} {locs : List Loc} (h : Cw w H0 a X H locs) : w.2.1 + a ≤ H.size := by
  cases a with
  | zero => exact h.2.1 rfl
  | succ a =>
    have := (h.1 a _ (cw_get w X (Nat.lt_succ_self a))).lt
    exact this
theorem W.size {p : Program} {l : Launch} {e : Env} {R : Room} {s : State} {m : MethodId} {args : Array Value} {below : List Frame} {meth : Method} {c : Code} {H : Heap} {locs : List Loc} {cells slots : Nat} {Q : State → Prop} {g : JFrame} (k : H.size ≤ s.heap.size + cells → W p l e R s m args below meth c H locs cells slots Q g) : W p l e R s m args below meth c H locs cells slots Q g := fun T hT X => k (by rw [← hT]; exact X.heapSize) T hT X
theorem Cw.eq {w : Wp} {H0 : Heap} {a : Nat} {X Y : List (Nat × va_E)} {H : Heap} {locs : List Loc} (h : Cw w H0 a X H locs) (e : ∀ k, k < a → gx w X k = gx w Y k) : Cw w H0 a Y H locs := ⟨by rw [← cw_eq w e]; exact h.1, h.2⟩
/-- a cell more -/
theorem Cw.push {w : Wp} {H0 : Heap} {a : Nat} {X : List (Nat × va_E)} {H H1 : Heap} {locs : List Loc} (h : Cw w H0 a X H locs) (h2 : H.size = w.2.1 + a) {e : va_E} (z : H1.size = w.2.1 + a + 1) (o : ∀ q, q < w.2.1 + a → H1[q]? = H[q]?) (he : va_at w.1 vwCl (w.2.1 + a, e) H1) : Cw w H0 (a + 1) ((a, e) :: X) H1 locs := by
  obtain ⟨h1, -, h3⟩ := h
  refine ⟨?_, fun q => by omega, Nat.le_trans h3.1 (by omega), fun q q1 q2 => ?_, h3.2.2⟩
  · rw [cw_push]
    refine (h1.kept (fun k x hx => o x.1 (by rw [← h2]; exact (h1 k x hx).lt))).app (fun k x hx => ?_)
    have hz : k < 1 := (List.getElem?_eq_some_iff.mp hx).1
    rw [show k = 0 by omega] at hx
    cases hx
    exact he
  · rw [o q (by have := h3.1; omega)]
    exact h3.2.1 q q1 q2
theorem Cw.put {w : Wp} {H0 : Heap} {a k : Nat} {X : List (Nat × va_E)} {H1 : Heap} {locs1 : List Loc} (hk : k < a) {e : va_E} (hP : va_P w.1 vwCl ((cw w a X).set k (w.2.1 + k, e)) H1) (hS : va_S (fun q => w.2.1 ≤ q) H0 H1 locs1) : Cw w H0 a ((k, e) :: X) H1 locs1 := ⟨by rw [← cw_set w X hk]; exact hP, fun q => by omega, hS⟩
/-- what stands while a constructor's body runs -/
def Mx (w : Wp) (p : Program) (s : State) (m : MethodId) (args : Array Value) (c : Code) (own : String) (cc : ByteArray) (nL : Nat) : Prop :=
  p.tables.exec = Jvm.exec ∧ c.code = cc ∧ c.maxLocals = nL ∧ s.vm.findClass own = some m.cls ∧ (∀ x ∈ tW, x.before args s = true) ∧ va_K w.1 vwCl (tyl w) s ∧ Ns s
section MAKE
variable {p : Program} {l : Launch} {e : Env} {R : Room} {s : State} {m : MethodId} {args : Array Value} {below : List Frame} {meth : Method} {c : Code} {H : Heap} {locs : List Loc} {cells slots : Nat} {Q : State → Prop}
variable {w : Wp} {own : String} {cc : ByteArray} {nL pc a : Nat} {X : List (Nat × va_E)} {ls : Array Slot} {rest : List Value} {lvs : List (Nat × Value)}
theorem mk_new {C : String} {T : u_T} {N ci idx : Nat} (M : Mx w p s m args c own cc nL) (hz : s.heap.size + cells = w.2.1 + a) (hC : Cw w s.heap a X H locs) (hc : vwCl[ci]? = some (C, T, N)) (hin : ∀ x ∈ u_ws C T N, x ∈ tW) (ty : Nat → FieldType) (hty : ∀ k, k < N → parseFieldDescriptor (T k).2.2.1 = some (ty k))
    (hl0 : Cond.classLink own idx C ∈ lw_tbl) (hi0 : Cond.instantiable C N ∈ lw_tbl) (hn0 : Cond.initialized C ∈ lw_tbl) {fs : List Value} (hfs : ∀ j, j < N → defaultValue (ty j) = vp_V fs j) (hcells : cells + 1 ≤ R.cells) (hslots : slots + N ≤ R.slots) (hdg : decode cc pc = .ok (.new idx, 3))
    (kk : ∀ H1, Cw w s.heap (a + 1) ((a, .inr (ci, fs)) :: X) H1 locs → W p l e R s m args below meth c H1 locs (cells + 1) (slots + N) Q (F0 m (pc + 3) ls (.ref (w.2.1 + a) :: rest))) : W p l e R s m args below meth c H locs cells slots Q (F0 m pc ls rest) := by
  obtain ⟨hx, hb, hml, hown, hts, hK, hN⟩ := M
  refine W.size fun hs => ?_
  have hsz : H.size = w.2.1 + a := Nat.le_antisymm (by omega) hC.low
  have hKn := hK.1 ci _ hc
  refine W.newcK hx hb hown (hts _ (tW_of hl0 rfl)) (hts _ (tW_of hi0 rfl)) (hts _ (tW_of hn0 rfl)) rfl hdg hcells hslots hKn.2.1 hsz fun H1 kC hkC e1 z1 o1 => ?_
  exact kk H1 (hC.push hsz (by omega) o1 ⟨_, hc, (u_born ty hts hin hKn hkC e1 hty).to hfs⟩)
theorem mk_newi {n : Int32} {N : Nat} (M : Mx w p s m args c own cc nL) (hz : s.heap.size + cells = w.2.1 + a) (hC : Cw w s.heap a X H locs) (hw : Cond.arrayClass .int ∈ lw_tbl) (hn : ¬ n < 0) (hN : n.toNatClampNeg = N) (hbytes : N * 4 ≤ 536870912) (hcells : cells + 1 ≤ R.cells) (hslots : slots + N ≤ R.slots) (hdg : decode cc pc = .ok (.newarray .int, 2))
    (kk : ∀ H1, Cw w s.heap (a + 1) ((a, .inl (w.2.2.2.1, N, .inl (fun _ => 0))) :: X) H1 locs → W p l e R s m args below meth c H1 locs (cells + 1) (slots + N) Q (F0 m (pc + 2) ls (.ref (w.2.1 + a) :: rest))) : W p l e R s m args below meth c H locs cells slots Q (F0 m pc ls (.int n :: rest)) := by
  obtain ⟨hx, hb, hml, hown, hts, hK, hN0⟩ := M
  refine W.size fun hs => ?_
  have hsz : H.size = w.2.1 + a := Nat.le_antisymm (by omega) hC.low
  refine va_newaK hx hb (atype := .int) (hts _ (tW_of hw rfl)) rfl hdg rfl hn hN hbytes hcells hslots hsz fun H1 cA e1 z1 o1 hAr hNm => ?_
  have e2 : cA = w.2.2.2.1 := Option.some.inj (hNm.symm.trans (hK.2 0 _ rfl).2)
  subst e2
  exact kk H1 (hC.push hsz (by omega) o1 e1)
theorem mk_newz {n : Int32} {N : Nat} (M : Mx w p s m args c own cc nL) (hz : s.heap.size + cells = w.2.1 + a) (hC : Cw w s.heap a X H locs) (hw : Cond.arrayClass .boolean ∈ lw_tbl) (hn : ¬ n < 0) (hN : n.toNatClampNeg = N) (hbytes : N * 1 ≤ 536870912) (hcells : cells + 1 ≤ R.cells) (hslots : slots + N ≤ R.slots) (hdg : decode cc pc = .ok (.newarray .boolean, 2))
    (kk : ∀ H1, Cw w s.heap (a + 1) ((a, .inl (w.2.2.2.2.1, N, .inl (fun _ => 0))) :: X) H1 locs → W p l e R s m args below meth c H1 locs (cells + 1) (slots + N) Q (F0 m (pc + 2) ls (.ref (w.2.1 + a) :: rest))) : W p l e R s m args below meth c H locs cells slots Q (F0 m pc ls (.int n :: rest)) := by
  obtain ⟨hx, hb, hml, hown, hts, hK, hN0⟩ := M
  refine W.size fun hs => ?_
  have hsz : H.size = w.2.1 + a := Nat.le_antisymm (by omega) hC.low
  refine va_newaK hx hb (atype := .boolean) (hts _ (tW_of hw rfl)) rfl hdg rfl hn hN hbytes hcells hslots hsz fun H1 cA e1 z1 o1 hAr hNm => ?_
  have e2 : cA = w.2.2.2.2.1 := Option.some.inj (hNm.symm.trans (hK.2 1 _ rfl).2)
  subst e2
  exact kk H1 (hC.push hsz (by omega) o1 e1)
theorem mk_newq {n : Int32} {N idx : Nat} (M : Mx w p s m args c own cc nL) (hz : s.heap.size + cells = w.2.1 + a) (hC : Cw w s.heap a X H locs) (hl0 : Cond.classLink own idx "NextNames$Land" ∈ lw_tbl) (hn : ¬ n < 0) (hN : n.toNatClampNeg = N) (hbytes : N * 4 ≤ 536870912) (hcells : cells + 1 ≤ R.cells) (hslots : slots + N ≤ R.slots) (hdg : decode cc pc = .ok (.anewarray idx, 3))
    (kk : ∀ H1, Cw w s.heap (a + 1) ((a, .inl (w.2.2.2.2.2, N, .inr (.inr (.inr (.inr (fun _ => none)))))) :: X) H1 locs → W p l e R s m args below meth c H1 locs (cells + 1) (slots + N) Q (F0 m (pc + 3) ls (.ref (w.2.1 + a) :: rest))) : W p l e R s m args below meth c H locs cells slots Q (F0 m pc ls (.int n :: rest)) := by
  obtain ⟨hx, hb, hml, hown, hts, hK, hN0⟩ := M
  subst hN
  refine W.size fun hs => ?_
  have hsz : H.size = w.2.1 + a := Nat.le_antisymm (by omega) hC.low
  refine W.anew hx hb hown (hts _ (tW_of hl0 rfl)) (va_AO.use hN0.2) rfl hdg rfl hn hbytes hcells hslots fun cA kA comp f1 f2 f3 f4 => ?_
  have e2 : cA = w.2.2.2.2.2 := by
    obtain ⟨kA', comp', g1, g2, g3, g4⟩ := (hK.2 2 _ rfl).2
    exact Option.some.inj (f1.symm.trans g4)
  subst e2
  rw [hsz]
  refine kk _ (hC.push hsz (by rw [Array.size_push, hsz]) (fun q hq => by rw [Array.getElem?_push, if_neg (by rw [hsz]; omega)]) ?_)
  show (H.push _)[w.2.1 + a]? = some (vp_cell _ _)
  rw [← hsz, Array.getElem?_push_size, arrV_new]
  rfl
/-- a final field that holds a reference -/
theorem mk_put {C : String} {T : u_T} {N ci j idx k v : Nat} {fs : List Value} {ty1 : FieldType} (M : Mx w p s m args c own cc nL) (hi : meth.name = "<init>") (hC : Cw w s.heap a X H locs) (hk : k < a) (he : gx w X k = .inr (ci, fs)) (hc : vwCl[ci]? = some (C, T, N)) (hin : ∀ x ∈ u_ws C T N, x ∈ tW) (ty0 : Nat → FieldType) (hty : ∀ k, k < N → parseFieldDescriptor (T k).2.2.1 = some (ty0 k)) (hnm : ∀ a, a < N → ∀ b, b < N → a ≠ b → (T a).2.1 ≠ (T b).2.1) (hj : j < N)
    (hl0 : Cond.fieldLink own idx (T j).1 (T j).2.1 (T j).2.2.1 ∈ lw_tbl) (hfin : (T j).2.2.2 = true) (hdecl : (T j).1 = own) (hty1 : ty0 j = ty1) (hrt : (∃ n, ty1 = .object n) ∨ ∃ t, ty1 = .array t) (hlf : j < fs.length) (hdg : decode cc pc = .ok (.putfield idx, 3))
    (kk : ∀ H1 locs1, Cw w s.heap a ((k, .inr (ci, fs.set j (.ref v))) :: X) H1 locs1 → W p l e R s m args below meth c H1 locs1 cells slots Q (F0 m (pc + 3) ls rest)) : W p l e R s m args below meth c H locs cells slots Q (F0 m pc ls (.ref v :: .ref (w.2.1 + k) :: rest)) := by
  obtain ⟨hx, hb, hml, hown, hts, hK, hN⟩ := M
  have hg := cw_get w X hk
  rw [he] at hg
  subst hty1
  refine va_putF (D := w.1) (ci := ci) (v := .ref v) (ty := ty0 j) (C := C) (T := T) hx hb hts hin ty0 hty hnm hown hK hC.1 (cw_D w a X) hC.2.2 k hg hc j hj (hts _ (tW_of hl0 rfl)) (fun _ h9 => h9) hfin hi hdecl (hty j hj) (by rcases hrt with ⟨n, h⟩ | ⟨t, h⟩ <;> rw [h] <;> rfl) (by rcases hrt with ⟨n, h⟩ | ⟨t, h⟩ <;> rw [h] <;> rfl) hlf hdg (fun H1 locs1 hP hD hS => ?_)
  exact kk H1 locs1 (Cw.put hk hP hS)
/-- an int field -/
theorem mk_puti {C : String} {T : u_T} {N ci j idx k : Nat} {v : Int32} {fs : List Value} (M : Mx w p s m args c own cc nL) (hC : Cw w s.heap a X H locs) (hk : k < a) (he : gx w X k = .inr (ci, fs)) (hc : vwCl[ci]? = some (C, T, N)) (hin : ∀ x ∈ u_ws C T N, x ∈ tW) (ty0 : Nat → FieldType) (hty : ∀ k, k < N → parseFieldDescriptor (T k).2.2.1 = some (ty0 k)) (hnm : ∀ a, a < N → ∀ b, b < N → a ≠ b → (T a).2.1 ≠ (T b).2.1) (hj : j < N)
    (hl0 : Cond.fieldLink own idx (T j).1 (T j).2.1 (T j).2.2.1 ∈ lw_tbl) (hfin : (T j).2.2.2 = false) (hty1 : ty0 j = .int) (hlf : j < fs.length) (hdg : decode cc pc = .ok (.putfield idx, 3))
    (kk : ∀ H1 locs1, Cw w s.heap a ((k, .inr (ci, fs.set j (.int v))) :: X) H1 locs1 → W p l e R s m args below meth c H1 locs1 cells slots Q (F0 m (pc + 3) ls rest)) : W p l e R s m args below meth c H locs cells slots Q (F0 m pc ls (.int v :: .ref (w.2.1 + k) :: rest)) := by
  obtain ⟨hx, hb, hml, hown, hts, hK, hN⟩ := M
  have hg := cw_get w X hk
  rw [he] at hg
  refine va_put (D := w.1) (ci := ci) (v := .int v) (ty := .int) (C := C) (T := T) hx hb hts hin ty0 hty hnm hown hK hC.1 (cw_D w a X) hC.2.2 k hg hc j hj (hts _ (tW_of hl0 rfl)) (fun _ h9 => h9) hfin (by rw [hty j hj, hty1]) rfl rfl hlf hdg (fun H1 locs1 hP hD hS => ?_)
  exact kk H1 locs1 (Cw.put hk hP hS)
theorem mk_get {C : String} {T : u_T} {N ci j idx k : Nat} {v : Value} {fs : List Value} (M : Mx w p s m args c own cc nL) (hC : Cw w s.heap a X H locs) (hk : k < a) (he : gx w X k = .inr (ci, fs)) (hc : vwCl[ci]? = some (C, T, N)) (hin : ∀ x ∈ u_ws C T N, x ∈ tW) (hj : j < N)
    (hl0 : Cond.fieldLink own idx (T j).1 (T j).2.1 (T j).2.2.1 ∈ lw_tbl) (hv : fs[j]? = some v) (hdg : decode cc pc = .ok (.getfield idx, 3))
    (kk : W p l e R s m args below meth c H locs cells slots Q (F0 m (pc + 3) ls (v :: rest))) : W p l e R s m args below meth c H locs cells slots Q (F0 m pc ls (.ref (w.2.1 + k) :: rest)) := by
  obtain ⟨hx, hb, hml, hown, hts, hK, hN⟩ := M
  have hg := cw_get w X hk
  rw [he] at hg
  exact va_get (D := w.1) (ci := ci) (v := v) (C := C) (T := T) hx hb hts hin hown hK hC.1 k hg hc j hj (hts _ (tW_of hl0 rfl)) (fun _ h9 => h9) hv hdg kk
theorem mk_ast {k n : Nat} {f : Nat → Int32} {i v : Int32} (M : Mx w p s m args c own cc nL) (hC : Cw w s.heap a X H locs) (hk : k < a) (he : gx w X k = .inl (w.2.2.2.1, n, .inl f)) (hi : vp_in i n) (hdg : decode cc pc = .ok (.iastore, 1))
    (kk : ∀ H1 locs1, Cw w s.heap a ((k, .inl (w.2.2.2.1, n, .inl (upd f i.toNatClampNeg v))) :: X) H1 locs1 → W p l e R s m args below meth c H1 locs1 cells slots Q (F0 m (pc + 1) ls rest)) : W p l e R s m args below meth c H locs cells slots Q (F0 m pc ls (.int v :: .int i :: .ref (w.2.1 + k) :: rest)) := by
  obtain ⟨hx, hb, hml, hown, hts, hK, hN⟩ := M
  have hg := cw_get w X hk
  rw [he] at hg
  refine va_iast hx hb hK hC.1 (cw_D w a X) hC.2.2 k 0 hg rfl hi hdg (fun H1 locs1 hP hD hS => ?_)
  exact kk H1 locs1 (Cw.put hk hP hS)
theorem mk_astq {k n v : Nat} {f : Nat → Option Nat} {i : Int32} {vs : List Value} (M : Mx w p s m args c own cc nL) (hC : Cw w s.heap a X H locs) (hk : k < a) (he : gx w X k = .inl (w.2.2.2.2.2, n, .inr (.inr (.inr (.inr f))))) (hv : v < a) (hev : gx w X v = .inr (4, vs)) (hi : vp_in i n) (hdg : decode cc pc = .ok (.aastore, 1))
    (kk : ∀ H1 locs1, Cw w s.heap a ((k, .inl (w.2.2.2.2.2, n, .inr (.inr (.inr (.inr (va_up f i.toNatClampNeg (some (w.2.1 + v)))))))) :: X) H1 locs1 → W p l e R s m args below meth c H1 locs1 cells slots Q (F0 m (pc + 1) ls rest)) : W p l e R s m args below meth c H locs cells slots Q (F0 m pc ls (.ref (w.2.1 + v) :: .int i :: .ref (w.2.1 + k) :: rest)) := by
  obtain ⟨hx, hb, hml, hown, hts, hK, hN⟩ := M
  have hg := cw_get w X hk
  rw [he] at hg
  have hg2 := cw_get w X hv
  rw [hev] at hg2
  refine va_astq (r := (RX4, TX4, 15)) hx hb hK hC.1 (cw_D w a X) hC.2.2 k 2 v 4 hg rfl hg2 rfl hi hdg (fun H1 locs1 hP hD hS => ?_)
  exact kk H1 locs1 (Cw.put hk hP hS)
theorem mk_super {idx : Nat} {x : Nat} (M : Mx w p s m args c own cc nL) (hl : lv_has ls nL lvs) (hl0 : Cond.methodLink own idx objectInit ∈ lw_tbl) (hi0 : Cond.instanceMethod objectInit ∈ lw_tbl) (hc0 : Cond.code objectInit ⟨#[0xb1]⟩ 1 none ∈ lw_tbl) (hf : 1 ≤ R.frames) (hL : 12 ≤ R.locals) (hdg : decode cc pc = .ok (.invokespecial idx, 3))
    (kk : W p l e R s m args below meth c H locs cells slots Q (F0 m (pc + 3) ls [])) : W p l e R s m args below meth c H locs cells slots Q (F0 m pc ls [.ref x]) := by
  obtain ⟨hx, hb, hml, hown, hts, hK, hN⟩ := M
  exact W.objInit hx hb hown (hts _ (tW_of hl0 rfl)) (hts _ (tW_of hi0 rfl)) (hts _ (tW_of hc0 rfl)) rfl (by rw [hml]; exact hl.1) rfl hdg hf (by show 2 * 0 + 0 + 12 ≤ _; omega) kk
end MAKE
/-- a constructor's contract -/
def Pk (w : Wp) (av : List Value) (a : Nat) (X : List (Nat × va_E)) : Array Value → State → Prop := fun v U => v = av.toArray ∧ va_P w.1 vwCl (cw w a X) U.heap ∧ U.heap.size = w.2.1 + a ∧ va_K w.1 vwCl (tyl w) U ∧ Ns U
def Qk (w : Wp) (a : Nat) (X : List (Nat × va_E)) : Array Value → State → Outcome → State → Prop := fun _ st o t => (o = .returned none ∧ va_P w.1 vwCl (cw w a X) t.heap) ∧ va_F (fun q => w.2.1 ≤ q) st t
theorem Pk_blind (w : Wp) (av : List Value) (a : Nat) (X : List (Nat × va_E)) : FrameBlind (Pk w av a X) := by
  intro v U g kb q
  obtain ⟨q0, q1, q2, q3, q4⟩ := q
  exact ⟨q0, q1, q2, va_K.moved (u := U) (U := U.calling g kb v) (Vm.Alike.refl U.vm) q3, Ns.same (s := U) (U := U.calling g kb v) rfl (Vm.Alike.refl U.vm) q4⟩
section MAKECALL
variable {p : Program} {l : Launch} {e : Env} {R : Room} {s : State} {m : MethodId} {args : Array Value} {below : List Frame} {meth : Method} {c : Code} {H : Heap} {locs : List Loc} {cells slots : Nat} {Q : State → Prop}
variable {w : Wp} {own : String} {cc : ByteArray} {nL pc a a2 : Nat} {X X2 : List (Nat × va_E)} {ls : Array Slot} {rest : List Value} {lvs : List (Nat × Value)}
theorem mk_on {mc ms : Nat} {g9 : Array Value} {st0 : List Value} (hC : Cw w s.heap a X H locs) (ha2 : 0 < a2) (hr : va_Run p l e R s m args below meth c H locs cells slots mc ms (F0 m pc ls st0) rest (Qk w a2 X2 g9) (fun q => w.2.1 ≤ q))
    (kk : ∀ H1 locs1, Cw w s.heap a2 X2 H1 locs1 → W p l e R s m args below meth c H1 locs1 (cells + mc) (slots + ms) Q (F0 m (pc + 3) ls rest)) : W p l e R s m args below meth c H locs cells slots Q (F0 m pc ls st0) := by
  intro T hT X'
  obtain ⟨v, st₀, t, T', L1, h0, X1, hL, e1, e2, ⟨⟨hv, hP⟩, hz, hk⟩, stp⟩ := hr T hT X'
  cases hv
  rw [h0] at hz hk
  have hS := hC.2.2
  obtain ⟨t2, a1, b1⟩ := kk T'.heap (locs ++ L1) ⟨by rw [e1]; exact hP, fun q => by omega, Nat.le_trans hS.1 (by rw [e1]; exact hz), fun q h1 h2 => by rw [e1, hk q (Nat.lt_of_lt_of_le h1 hS.1) h2]; exact hS.2.1 q h1 h2, fun q hq => by
      rcases List.mem_append.mp hq with h | h
      · exact hS.2.2 q h
      · exact hL q h⟩ T' rfl X1
  exact ⟨t2, stp t2 a1, b1⟩
theorem mk_call {y : MethodName} {bytes : ByteArray} {maxL idx k mc ms : Nat} {rm : Room} (M : Mx w p s m args c own cc nL) (hz : s.heap.size + cells = w.2.1 + a) (hl : lv_has ls nL lvs) (hC : Cw w s.heap a X H locs) (hM : Met l y (.code y bytes maxL none :: tW) rm (Pk w [.ref (w.2.1 + k)] a X) (Qk w a2 X2) mc ms (fun q => w.2.1 ≤ q)) (ha2 : 0 < a2) (hrc : rm.cells = mc) (hrs : rm.slots = ms)
    (hl0 : Cond.methodLink own idx y ∈ lw_tbl) (hi0 : Cond.instanceMethod y ∈ lw_tbl) (hc0 : Cond.code y bytes maxL none ∈ lw_tbl) (hn0 : Cond.initialized y.cls ∈ lw_tbl) (hy : y.name = "<init>") (hd : y.cls ≠ "java/lang/invoke/MethodHandle" ∧ y.cls ≠ "java/lang/invoke/VarHandle" ∧ (parseMethodDescriptor y.desc).map (fun d => d.parameters.length) = some 0)
    (hR : rm.frames + 1 ≤ R.frames ∧ 8 + (maxL + 11) + rm.locals ≤ R.locals) (hf : cells + mc ≤ R.cells ∧ slots + ms ≤ R.slots) (hrest : (rest.map fun v => v.category).sum ≤ 8) (hdg : decode cc pc = .ok (.invokespecial idx, 3))
    (kk : ∀ H1 locs1, Cw w s.heap a2 X2 H1 locs1 → W p l e R s m args below meth c H1 locs1 (cells + mc) (slots + ms) Q (F0 m (pc + 3) ls rest)) : W p l e R s m args below meth c H locs cells slots Q (F0 m pc ls (.ref (w.2.1 + k) :: rest)) := by
  refine W.size fun hs => ?_
  have hsz : H.size = w.2.1 + a := Nat.le_antisymm (by omega) hC.low
  obtain ⟨hx, hb, hml, hown, hts, hK, hN⟩ := M
  have hgd : GoodIn tW (.code y bytes maxL none :: tW) := by
    intro x hx
    rcases List.mem_cons.mp hx with rfl | hx
    · exact tW_good _ (tW_of hc0 rfl)
    · exact tW_good _ hx
  refine mk_on (g9 := (Value.ref (w.2.1 + k) :: ([] : List Value)).toArray) hC ha2 ?_ kk
  exact va_runI (As := []) (rest := rest) (Ts := tW) (own := own) (b := w.2.1 + k) ⟨hx, hb, hml, hown, hts⟩ hM ⟨callB_of 0 hts hgd rfl hrc hrs (hts _ (tW_of hn0 rfl)) (hts _ (tW_of hl0 rfl)) hd hR, hy, hts _ (tW_of hi0 rfl)⟩
    ⟨Pk_blind _ _ _ _, fun U hU hW => ⟨rfl, by rw [hU]; exact hC.1, by rw [hU]; exact hsz, va_K.moved hW.alike hK, hN.warm hW⟩⟩ rfl rfl hl.1 rfl (lv_room hrest) hdg hf
theorem mk_callN {y : MethodName} {bytes : ByteArray} {maxL idx k mc ms : Nat} {rm : Room} {host : String} (M : Mx w p s m args c own cc nL) (hz : s.heap.size + cells = w.2.1 + a) (hl : lv_has ls nL lvs) (hC : Cw w s.heap a X H locs) (hM : Met l y (.code y bytes maxL none :: tW) rm (Pk w [.ref (w.2.1 + k)] a X) (Qk w a2 X2) mc ms (fun q => w.2.1 ≤ q)) (ha2 : 0 < a2) (hrc : rm.cells = mc) (hrs : rm.slots = ms)
    (hl0 : Cond.methodLinkNest own idx y host ∈ nWL) (hi0 : Cond.instanceMethod y ∈ lw_tbl) (hc0 : Cond.code y bytes maxL none ∈ lw_tbl) (hn0 : Cond.initialized y.cls ∈ lw_tbl) (hy : y.name = "<init>") (hd : y.cls ≠ "java/lang/invoke/MethodHandle" ∧ y.cls ≠ "java/lang/invoke/VarHandle" ∧ (parseMethodDescriptor y.desc).map (fun d => d.parameters.length) = some 0)
    (hR : rm.frames + 1 ≤ R.frames ∧ 8 + (maxL + 11) + rm.locals ≤ R.locals) (hf : cells + mc ≤ R.cells ∧ slots + ms ≤ R.slots) (hrest : (rest.map fun v => v.category).sum ≤ 8) (hdg : decode cc pc = .ok (.invokespecial idx, 3))
    (kk : ∀ H1 locs1, Cw w s.heap a2 X2 H1 locs1 → W p l e R s m args below meth c H1 locs1 (cells + mc) (slots + ms) Q (F0 m (pc + 3) ls rest)) : W p l e R s m args below meth c H locs cells slots Q (F0 m pc ls (.ref (w.2.1 + k) :: rest)) := by
  refine W.size fun hs => ?_
  have hsz : H.size = w.2.1 + a := Nat.le_antisymm (by omega) hC.low
  obtain ⟨hx, hb, hml, hown, hts, hK, hN⟩ := M
  have hgd : GoodIn tW (.code y bytes maxL none :: tW) := by
    intro x hx
    rcases List.mem_cons.mp hx with rfl | hx
    · exact tW_good _ (tW_of hc0 rfl)
    · exact tW_good _ hx
  refine mk_on (g9 := (Value.ref (w.2.1 + k) :: ([] : List Value)).toArray) hC ha2 ?_ kk
  exact va_runIN (As := []) (rest := rest) (Ts := tW) (own := own) (host := host) (b := w.2.1 + k) ⟨hx, hb, hml, hown, hts⟩ hM ⟨va_cnB 0 hts hgd rfl hrc hrs (hN.1 _ hl0) (hts _ (tW_of hn0 rfl)) hd hR, hy, hts _ (tW_of hi0 rfl)⟩
    ⟨Pk_blind _ _ _ _, fun U hU hW => ⟨rfl, by rw [hU]; exact hC.1, by rw [hU]; exact hsz, va_K.moved hW.alike hK, hN.warm hW⟩⟩ rfl rfl hl.1 rfl (lv_room hrest) hdg hf
/-- a contract out of a body's walk -/
theorem mk_met {y : MethodName} {bytes : ByteArray} {maxL k mc ms : Nat} {rm : Room} (hpl : plainName y.cls = true)
    (body : ∀ (p : Program) (e : Env) (s : State) (m : MethodId) (args : Array Value) (below : List Frame) (meth : Method) (c : Code) (ls : Array Slot), Mx w p s m args c y.cls bytes maxL → meth.name = y.name → s.heap.size = w.2.1 + a → lv_has ls maxL [(0, .ref (w.2.1 + k))] → Cw w s.heap a X s.heap [] →
      (∀ (pc : Nat) (ls : Array Slot) (H : Heap) (locs : List Loc), Cw w s.heap a2 X2 H locs → decode bytes pc = .ok (.return_, 1) → W p l e rm s m args below meth c H locs mc ms (MQ below (Qk w a2 X2) args s mc ms (fun q => w.2.1 ≤ q)) (F0 m pc ls [])) →
      W p l e rm s m args below meth c s.heap [] 0 0 (MQ below (Qk w a2 X2) args s mc ms (fun q => w.2.1 ≤ q)) (F0 m 0 ls [])) (h1 : 1 ≤ maxL) : Met l y (.code y bytes maxL none :: tW) rm (Pk w [.ref (w.2.1 + k)] a X) (Qk w a2 X2) mc ms (fun q => w.2.1 ≤ q) := by
  refine Met.ofW (cc := bytes) (maxL := maxL) (ret := none) hpl rfl ?_
  intro p e s m args below meth c s₁ B hml hv
  obtain ⟨rfl, hP, hsz, hK, hN⟩ := hv
  have hts := atoms_spec (ws := .code y bytes maxL none :: tW) B.pre
  have hlocks := B.notSynchronized
  have hx := B.exec
  have hb := B.bytes
  have hre := B.returns
  rw [lg_entry_eq]
  have hl := lv_entry ([.ref (w.2.1 + k)]) (n := maxL) (show 1 ≤ maxL from h1)
  refine body p e s m _ below meth c _ ⟨B.exec, B.bytes, hml, findClass_of_methodNamed B.named, fun x hx => hts x (List.mem_cons_of_mem _ hx), hK, hN⟩ (name_of_methodNamed B.named B.method).1 hsz hl ⟨hP, fun q => by rw [hsz]; omega, va_S.rf⟩ ?_
  intro pc ls H locs hC hdg
  exact W.vret hx hb hre (fun t ht hW => ⟨⟨rfl, by rw [ht]; exact hC.1⟩, hC.2.2.F ht⟩) hC.2.2.2.2 hdg
end MAKECALL

section MAKE2
variable {p : Program} {l : Launch} {e : Env} {R : Room} {s : State} {m : MethodId} {args : Array Value} {below : List Frame} {meth : Method} {c : Code} {H : Heap} {locs : List Loc} {cells slots : Nat} {Q : State → Prop}
variable {w : Wp} {own : String} {cc : ByteArray} {nL pc pc1 pc2 pc3 a a2 k : Nat} {X X2 : List (Nat × va_E)} {ls : Array Slot} {rest : List Value} {lvs : List (Nat × Value)} {C : String} {T : u_T} {N ci j idx : Nat} {fs : List Value}
/-- this.f = new int[n] -/
theorem mk_arr {n : Int32} {n1 : Nat} {ty1 : FieldType} (M : Mx w p s m args c own cc nL) (hi : meth.name = "<init>") (hz : s.heap.size + cells = w.2.1 + a) (h0 : ls[0]? = some (.val (.ref (w.2.1 + k)))) (hC : Cw w s.heap a ((k, .inr (ci, fs)) :: X) H locs) (hk : k < a) (hc : vwCl[ci]? = some (C, T, N)) (hin : ∀ x ∈ u_ws C T N, x ∈ tW) (ty0 : Nat → FieldType) (hty : ∀ k, k < N → parseFieldDescriptor (T k).2.2.1 = some (ty0 k)) (hnm : ∀ a, a < N → ∀ b, b < N → a ≠ b → (T a).2.1 ≠ (T b).2.1) (j : Nat) (hj : j < N)
    (hl0 : Cond.fieldLink own idx (T j).1 (T j).2.1 (T j).2.2.1 ∈ lw_tbl) (hfin : (T j).2.2.2 = true) (hdecl : (T j).1 = own) (hty1 : ty0 j = ty1) (hrt : (∃ n, ty1 = .object n) ∨ ∃ t, ty1 = .array t) (hlf : j < fs.length) (hw : Cond.arrayClass .int ∈ lw_tbl) (hn : ¬ n < 0) (hN : n.toNatClampNeg = n1) (hbytes : n1 * 4 ≤ 536870912) (hcells : cells + 1 ≤ R.cells) (hslots : slots + n1 ≤ R.slots)
    (hlast : (.inl (w.2.2.2.1, n1, .inl (fun _ => 0)) : va_E) = ent w (μ0 a) a) (hXa : xl X a = none)
    (d0 : decode cc pc = .ok (.aload_n 0, 1)) (dp : ∀ {H : Heap} {locs : List Loc} {rest : List Value}, W p l e R s m args below meth c H locs cells slots Q (F0 m pc2 ls (.int n :: rest)) → W p l e R s m args below meth c H locs cells slots Q (F0 m (pc + 1) ls rest)) (d2 : decode cc pc2 = .ok (.newarray .int, 2)) (d3 : decode cc (pc2 + 2) = .ok (.putfield idx, 3))
    (kk : ∀ H1 locs1, Cw w s.heap (a + 1) ((k, .inr (ci, fs.set j (.ref (w.2.1 + a)))) :: X) H1 locs1 → W p l e R s m args below meth c H1 locs1 (cells + 1) (slots + n1) Q (F0 m (pc2 + 5) ls [])) : W p l e R s m args below meth c H locs cells slots Q (F0 m pc ls []) := by
  refine lv_aload_n M.1 M.2.1 d0 rfl h0 ?_
  refine dp ?_
  refine mk_newi M hz hC hw hn hN hbytes hcells hslots d2 (fun H hC => ?_)
  refine mk_put M hi hC (Nat.lt_succ_of_lt hk) (by rw [gx_n (by omega), gx_s]) hc hin ty0 hty hnm hj hl0 hfin hdecl hty1 hrt hlf d3 (fun H locs hC => ?_)
  refine kk H locs (hC.eq fun q hq => ?_)
  by_cases h1 : k = q
  · subst h1
    rw [gx_s, gx_s]
  · rw [gx_n h1, gx_n h1]
    by_cases h2 : a = q
    · subst h2
      rw [gx_s, hlast, gx_0 hXa]
    · rw [gx_n h2, gx_n h1]
/-- this.f = new C2() -/
theorem mk_obj {C2 : String} {T2 : u_T} {N2 ci2 idx2 mc ms : Nat} {fs2 : List Value} {ty1 : FieldType} (M : Mx w p s m args c own cc nL) (hi : meth.name = "<init>") (hz : s.heap.size + cells = w.2.1 + a) (hl : lv_has ls nL lvs) (h0 : ls[0]? = some (.val (.ref (w.2.1 + k)))) (hC : Cw w s.heap a ((k, .inr (ci, fs)) :: X) H locs) (hk : k < a) (hc : vwCl[ci]? = some (C, T, N)) (hin : ∀ x ∈ u_ws C T N, x ∈ tW) (ty0 : Nat → FieldType) (hty : ∀ k, k < N → parseFieldDescriptor (T k).2.2.1 = some (ty0 k)) (hnm : ∀ a, a < N → ∀ b, b < N → a ≠ b → (T a).2.1 ≠ (T b).2.1) (j : Nat) (hj : j < N)
    (hl0 : Cond.fieldLink own idx (T j).1 (T j).2.1 (T j).2.2.1 ∈ lw_tbl) (hfin : (T j).2.2.2 = true) (hdecl : (T j).1 = own) (hty1 : ty0 j = ty1) (hrt : (∃ n, ty1 = .object n) ∨ ∃ t, ty1 = .array t) (hlf : j < fs.length)
    (hc2 : vwCl[ci2]? = some (C2, T2, N2)) (hin2 : ∀ x ∈ u_ws C2 T2 N2, x ∈ tW) (ty2 : Nat → FieldType) (hty2 : ∀ k, k < N2 → parseFieldDescriptor (T2 k).2.2.1 = some (ty2 k)) (hcl2 : Cond.classLink own idx2 C2 ∈ lw_tbl) (hi2 : Cond.instantiable C2 N2 ∈ lw_tbl) (hn2 : Cond.initialized C2 ∈ lw_tbl) (hfs2 : ∀ j, j < N2 → defaultValue (ty2 j) = vp_V fs2 j)
    (hcells : cells + 1 ≤ R.cells) (hslots : slots + N2 ≤ R.slots) (hXa : ∀ q, a ≤ q → xl X q = none) (ha2 : a < a2)
    (d0 : decode cc pc = .ok (.aload_n 0, 1)) (d1 : decode cc (pc + 1) = .ok (.new idx2, 3)) (d2 : decode cc (pc + 4) = .ok (.dup, 1)) (d4 : decode cc (pc + 8) = .ok (.putfield idx, 3))
    (call : ∀ {H : Heap} {locs : List Loc}, Cw w s.heap (a + 1) ((a, .inr (ci2, fs2)) :: (k, .inr (ci, fs)) :: X) H locs → (∀ H1 locs1, Cw w s.heap a2 ((a, ent w (μ0 a) a) :: (a, .inr (ci2, fs2)) :: (k, .inr (ci, fs)) :: X) H1 locs1 → W p l e R s m args below meth c H1 locs1 (cells + 1 + mc) (slots + N2 + ms) Q (F0 m (pc + 5 + 3) ls [.ref (w.2.1 + a), .ref (w.2.1 + k)])) → W p l e R s m args below meth c H locs (cells + 1) (slots + N2) Q (F0 m (pc + 5) ls [.ref (w.2.1 + a), .ref (w.2.1 + a), .ref (w.2.1 + k)]))
    (kk : ∀ H1 locs1, Cw w s.heap a2 ((k, .inr (ci, fs.set j (.ref (w.2.1 + a)))) :: X) H1 locs1 → W p l e R s m args below meth c H1 locs1 (cells + 1 + mc) (slots + N2 + ms) Q (F0 m (pc + 11) ls [])) : W p l e R s m args below meth c H locs cells slots Q (F0 m pc ls []) := by
  refine lv_aload_n M.1 M.2.1 d0 rfl h0 ?_
  refine mk_new M hz hC hc2 hin2 ty2 hty2 hcl2 hi2 hn2 hfs2 hcells hslots d1 (fun H hC => ?_)
  refine lv_dup M.1 M.2.1 d2 rfl ?_
  refine call hC (fun H locs hC => ?_)
  refine mk_put M hi hC (Nat.lt_trans hk ha2) (by rw [gx_n (by omega), gx_n (by omega), gx_s]) hc hin ty0 hty hnm hj hl0 hfin hdecl hty1 hrt hlf d4 (fun H locs hC => ?_)
  refine kk H locs (hC.eq fun q hq => ?_)
  by_cases h1 : k = q
  · subst h1
    rw [gx_s, gx_s]
  · rw [gx_n h1, gx_n h1]
    by_cases h2 : a = q
    · subst h2
      rw [gx_s, gx_0 (hXa _ (Nat.le_refl _))]
    · rw [gx_n h2, gx_n h2, gx_n h1]
end MAKE2
/-- a Land's cells, wherever it lies -/
theorem land_lay : ∀ p, p < 291 → lo p = 0 → p + 8 < 291 ∧ ob p = 4 ∧ (∀ i, i < 8 → ak (p + 1 + i) = 1 ∧ al (p + 1 + i) = (if i < 2 then 5 else 7) ∧ p + 1 + i ≠ 4 ∧ p + 1 + i ≠ 280) ∧ p ≠ 4 ∧ p ≠ 280 := by decide +kernel
theorem μ0_z {k : Nat} (h1 : k ≠ 4) (h2 : k ≠ 280) : μ0 k = fun _ => 0 := by
  funext j
  unfold μ0
  rw [if_neg]
  rintro ⟨h | h, -⟩
  · exact h1 h
  · exact h2 h
theorem ent_z (w : Wp) {k n : Nat} (h : ak k = 1) (hn : al k = n) (h1 : k ≠ 4) (h2 : k ≠ 280) : (.inl (w.2.2.2.1, n, .inl (fun _ => 0)) : va_E) = ent w (μ0 k) k := by
  rw [ent_1 w _ h, hn, μ0_z h1 h2]
