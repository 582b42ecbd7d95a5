/-! ===== what the little machine says of the machine ===== -/
abbrev vwCl : List vw_C := [(RX0, TX0, 3), (RX1, TX1, 6), (RX2, TX2, 10), (RX3, TX3, 5), (RX4, TX4, 15), (RX5, TX5, 10), (RX6, TX6, 3), (RX7, TX7, 11), (RX8, TX8, 23)]
/-- the words that a callee keeps; those on nest mates apart -/
def tW : List Cond := lw_tbl.filter goodWord
theorem tW_of {x : Cond} (h : x ∈ lw_tbl) (hg : goodWord x = true) : x ∈ tW := List.mem_filter.mpr ⟨h, hg⟩
theorem tW_good : GoodIn tW tW := fun x h => ⟨h, good_of_word (List.mem_filter.mp h).2⟩
def nW : List Cond := [.methodLinkNest "NextNames$Fate" 75 ⟨"NextNames", "wrap", "(II)I"⟩ "NextNames", .methodLinkNest "NextNames$Keeper" 72 ⟨"NextNames", "wrap", "(II)I"⟩ "NextNames", .methodLinkNest "NextNames$Land" 88 ⟨"NextNames", "wrap", "(II)I"⟩ "NextNames", .methodLinkNest "NextNames$Reader" 115 ⟨"NextNames", "isOutside", "(III)Z"⟩ "NextNames"]
def nWs (U : State) : Prop := ∀ x ∈ nW, va_Nw x U
theorem nWs.warm {s U : State} (hW : s.WarmedH U.vm) (h : nWs s) : nWs U := by
  intro x hx
  have hz := h x hx
  simp only [nW, List.mem_cons, List.not_mem_nil, or_false] at hx
  rcases hx with rfl | rfl | rfl | rfl <;> exact va_Nw.warmM hW hz
theorem nWs.same {s U : State} (hv : s.vm = U.vm) (h : nWs s) : nWs U := by
  intro x hx
  have hz := h x hx
  simp only [nW, List.mem_cons, List.not_mem_nil, or_false] at hx
  rcases hx with rfl | rfl | rfl | rfl <;> exact va_Nw.same rfl hv hz
/-- a world: the classes' numbers and slots, where the cells begin, where the script lies, the array classes of ints, booleans and Lands -/
abbrev Wp : Type := va_G × Nat × Nat × ClassId × ClassId × ClassId
def rr (w : Wp) (k : Nat) : Nat := if k < 291 then w.2.1 + k else w.2.2.1
def sv (w : Wp) : Value → Value
  | .ref k => .ref (rr w k)
  | v => v
def fv (w : Wp) (k : Nat) (f : Nat → Int32) (j : Nat) : Value := if rf (ob k) j = true then .ref (rr w (tg k j)) else .int (f j)
def ent (w : Wp) (f : Nat → Int32) (k : Nat) : va_E :=
  if ob k < 9 then .inr (ob k, (List.range (nf (ob k))).map (fv w k f))
  else if ak k = 1 then .inl (w.2.2.2.1, al k, .inl f)
  else if ak k = 2 then .inl (w.2.2.2.2.1, al k, .inl f)
  else .inl (w.2.2.2.2.2, al k, .inr (.inr (.inr (.inr (fun j => some (rr w (tg k j)))))))
def wl (w : Wp) (μ : Mm) : va_W := (List.range 291).map (fun k => (w.2.1 + k, ent w (μ k) k))
def tyl (w : Wp) : List (ClassId × FieldType) := [(w.2.2.2.1, .int), (w.2.2.2.2.1, .boolean), (w.2.2.2.2.2, .object "NextNames$Land")]
theorem wl_get (w : Wp) (μ : Mm) {k : Nat} (h : k < 291) : (wl w μ)[k]? = some (w.2.1 + k, ent w (μ k) k) := by
  simp [wl, h]
def upc (μ : Mm) (k : Nat) (f : Nat → Int32) : Mm := fun a => cond (Nat.beq a k) f (μ a)
theorem upc_s (μ : Mm) (k : Nat) (f : Nat → Int32) : upc μ k f k = f := by simp [upc]
theorem upc_n (μ : Mm) {k a : Nat} (f : Nat → Int32) (h : a ≠ k) : upc μ k f a = μ a := by
  unfold upc
  cases hb : Nat.beq a k with
  | false => rfl
  | true => exact absurd (Nat.eq_of_beq_eq_true hb) h
theorem up_eq (μ : Mm) (k j : Nat) (v : Int32) : up μ k j v = upc μ k (upd (μ k) j v) := rfl
theorem cpc_eq (μ : Mm) (ka sp kb dp n : Nat) : cpc μ ka sp kb dp n = upc μ kb (va_cpy (μ ka) (μ kb) sp dp n) := rfl
theorem wl_set (w : Wp) (μ : Mm) {k : Nat} (h : k < 291) (f : Nat → Int32) : (wl w μ).set k (w.2.1 + k, ent w f k) = wl w (upc μ k f) := by
  apply List.ext_getElem?
  intro i
  by_cases hi : i = k
  · subst hi
    rw [List.getElem?_set_self (by simp [wl]; exact h), wl_get _ _ h, upc_s]
  · rw [List.getElem?_set_ne (Ne.symm hi)]
    by_cases hl : i < 291
    · rw [wl_get _ _ hl, wl_get _ _ hl, upc_n _ _ hi]
    · simp [wl, hl]
theorem wl_D (w : Wp) (μ : Mm) : va_D (fun q => w.2.1 ≤ q) (wl w μ) := by
  have key : ∀ (i : Nat) (p : Nat × va_E), (wl w μ)[i]? = some p → p.1 = w.2.1 + i := by
    intro i p h
    have hl : i < 291 := by
      have := (List.getElem?_eq_some_iff.mp h).1
      simpa [wl] using this
    rw [wl_get _ _ hl] at h
    cases h
    rfl
  refine ⟨fun i j p q h1 h2 h3 => ?_, fun k q h => ?_⟩
  · have := key i p h1
    have := key j q h2
    omega
  · rw [key k q h]
    exact Nat.le_add_right _ _
theorem beq_e {a b : Nat} (h : Nat.beq a b = true) : a = b := Nat.eq_of_beq_eq_true h
theorem ble_e {a b : Nat} (h : Nat.ble a b = true) : a ≤ b := Nat.le_of_ble_eq_true h
theorem cond_e {b : Bool} {A : Prop} (h : cond b A False) : b = true ∧ A := by
  cases b with
  | true => exact ⟨rfl, h⟩
  | false => exact h.elim
theorem ob_lt {k : Nat} (h : ob k < 9) : k < 291 := by
  rcases Nat.lt_or_ge k 291 with q | q
  · exact q
  · exfalso
    have hb : ∀ c, c < 291 → Nat.beq k c = false := by
      intro c hc
      cases e : Nat.beq k c with
      | false => rfl
      | true => have := beq_e e; omega
    have hl : ∀ c, c ≤ 291 → Nat.blt k c = false := by
      intro c hc
      cases e : Nat.blt k c with
      | false => rfl
      | true => have := ble_e (show Nat.ble (k + 1) c = true from e); omega
    have h1 : lo k = 99 := by
      unfold lo
      rw [hl 34 (by omega), hl 53 (by omega), hl 271 (by omega), Bool.and_false, Bool.and_false, Bool.and_false]
      rfl
    have h2 : ob k = 99 := by
      unfold ob
      rw [h1, hb 0 (by omega), hb 1 (by omega), hb 5 (by omega), hb 53 (by omega), hb 271 (by omega), hb 272 (by omega), hb 274 (by omega), hb 273 (by omega), hb 277 (by omega), hb 279 (by omega)]
      rfl
    omega
theorem ent_o (w : Wp) (f : Nat → Int32) {k ci : Nat} (h : ob k = ci) (hc : ci < 9) : ent w f k = .inr (ci, (List.range (nf ci)).map (fv w k f)) := by
  subst h
  unfold ent
  rw [if_pos hc]
theorem ak_e {k n : Nat} (h : ak k = n) (hn : n ≠ 0) : ob k = 99 ∧ k < 291 := by
  unfold ak at h
  cases e : (Nat.beq (ob k) 99 && Nat.blt k 291) with
  | false => rw [e] at h; exact absurd h.symm hn
  | true =>
    rw [Bool.and_eq_true] at e
    exact ⟨beq_e e.1, ble_e (show Nat.ble (k + 1) 291 = true from e.2)⟩
theorem ent_1 (w : Wp) (f : Nat → Int32) {k : Nat} (h : ak k = 1) : ent w f k = .inl (w.2.2.2.1, al k, .inl f) := by
  unfold ent
  rw [(ak_e h (by decide)).1, if_neg (by decide), if_pos h]
theorem ent_2 (w : Wp) (f : Nat → Int32) {k : Nat} (h : ak k = 2) : ent w f k = .inl (w.2.2.2.2.1, al k, .inl f) := by
  unfold ent
  rw [(ak_e h (by decide)).1, if_neg (by decide), h, if_neg (by decide), if_pos rfl]
theorem ent_3 (w : Wp) (f : Nat → Int32) {k : Nat} (h : ak k = 3) : ent w f k = .inl (w.2.2.2.2.2, al k, .inr (.inr (.inr (.inr (fun j => some (rr w (tg k j))))))) := by
  unfold ent
  rw [(ak_e h (by decide)).1, if_neg (by decide), h, if_neg (by decide), if_neg (by decide)]
theorem rr_lt (w : Wp) {k : Nat} (h : k < 291) : rr w k = w.2.1 + k := if_pos h
/-- locals -/
def la (w : Wp) : Nat → Ls → List (Nat × Value)
  | _, [] => []
  | n, none :: r => la w (n + 1) r
  | n, some v :: r => (n, sv w v) :: la w (n + 1) r
theorem la_of (w : Wp) : ∀ (L : Ls) (n i : Nat) (v : Value), lg L i = some v → (n + i, sv w v) ∈ la w n L
  | [], n, i, v, h => by simp [lg] at h
  | none :: r, n, 0, v, h => by simp [lg] at h
  | some x :: r, n, 0, v, h => by
    simp only [lg, Option.some.injEq] at h
    subst h
    simp [la]
  | none :: r, n, i + 1, v, h => by
    have := la_of w r (n + 1) i v h
    rw [show n + (i + 1) = n + 1 + i by omega]
    exact this
  | some x :: r, n, i + 1, v, h => by
    have := la_of w r (n + 1) i v h
    rw [show n + (i + 1) = n + 1 + i by omega]
    exact List.mem_cons_of_mem _ this
theorem la_to (w : Wp) : ∀ (L : Ls) (n : Nat) (q : Nat × Value), q ∈ la w n L → ∃ i v, lg L i = some v ∧ q = (n + i, sv w v)
  | [], n, q, h => by simp [la] at h
  | none :: r, n, q, h => by
    obtain ⟨i, v, h1, h2⟩ := la_to w r (n + 1) q h
    exact ⟨i + 1, v, h1, by rw [h2, show n + 1 + i = n + (i + 1) by omega]⟩
  | some x :: r, n, q, h => by
    rcases List.mem_cons.mp h with h | h
    · exact ⟨0, x, rfl, h⟩
    · obtain ⟨i, v, h1, h2⟩ := la_to w r (n + 1) q h
      exact ⟨i + 1, v, h1, by rw [h2, show n + 1 + i = n + (i + 1) by omega]⟩
def Lk (w : Wp) (ls : Array Slot) (nL : Nat) (L : Ls) : Prop := lv_has ls nL (la w 0 L)
theorem Lk.at {w : Wp} {ls : Array Slot} {nL : Nat} {L : Ls} (h : Lk w ls nL L) {i : Nat} {v : Value} (hv : lg L i = some v) : ls[i]? = some (.val (sv w v)) := by
  have := h.2.2 _ (la_of w L 0 i v hv)
  simpa using this
theorem Lk.mono {w : Wp} {ls : Array Slot} {nL : Nat} {L L' : Ls} (h : Lk w ls nL L) (hs : ∀ i v, lg L' i = some v → lg L i = some v) : Lk w ls nL L' := by
  refine ⟨h.1, h.2.1, fun q hq => ?_⟩
  obtain ⟨i, v, h1, h2⟩ := la_to w L' 0 q hq
  subst h2
  exact h.2.2 _ (la_of w L 0 i v (hs i v h1))
theorem Lk.of {w : Wp} {ls : Array Slot} {nL : Nat} {L : Ls} {l : List (Nat × Value)} (h : lv_has ls nL l) (hs : ∀ i v, lg L i = some v → (i, sv w v) ∈ l) : Lk w ls nL L := by
  refine ⟨h.1, h.2.1, fun q hq => ?_⟩
  obtain ⟨i, v, h1, h2⟩ := la_to w L 0 q hq
  subst h2
  have := h.2.2 _ (hs i v h1)
  simpa using this
theorem kl_e {a : Option Value} {v : Value} (h : kl a = some v) : a = some v ∧ v.category = 1 := by
  unfold kl at h
  split at h
  · cases h
  · cases h
  · rename_i h1 h2
    refine ⟨h, ?_⟩
    subst h
    cases v with
    | long x => exact absurd rfl (h1 x)
    | double x => exact absurd rfl (h2 x)
    | _ => rfl
theorem sv_cat (w : Wp) (v : Value) : (sv w v).category = v.category := by cases v <;> rfl
theorem s1_e : ∀ (L : Ls) (i : Nat) (x : Value) (j : Nat) (v : Value), lg (s1 L i x) j = some v → (j = i ∧ v = x) ∨ (j ≠ i ∧ lg L j = some v ∧ ¬ (j + 1 = i ∧ v.category = 2))
  | [], i, x, j, v, h => by simp [s1, lg] at h
  | a :: r, 0, x, 0, v, h => by
    simp only [s1, lg, Option.some.injEq] at h
    exact Or.inl ⟨rfl, h.symm⟩
  | a :: r, 0, x, j + 1, v, h => Or.inr ⟨by omega, h, by omega⟩
  | a :: r, 1, x, 0, v, h => by
    have h1 := kl_e (show kl a = some v from h)
    exact Or.inr ⟨by omega, h1.1, fun q => by omega⟩
  | a :: r, 1, x, j + 1, v, h => by
    rcases s1_e r 0 x j v h with ⟨h1, h2⟩ | ⟨h1, h2, h3⟩
    · exact Or.inl ⟨by omega, h2⟩
    · exact Or.inr ⟨by omega, h2, fun q => h1 (by omega)⟩
  | a :: r, i + 2, x, 0, v, h => Or.inr ⟨by omega, h, by omega⟩
  | a :: r, i + 2, x, j + 1, v, h => by
    rcases s1_e r (i + 1) x j v h with ⟨h1, h2⟩ | ⟨h1, h2, h3⟩
    · exact Or.inl ⟨by omega, h2⟩
    · exact Or.inr ⟨by omega, h2, fun q => h3 ⟨by omega, q.2⟩⟩
theorem hd0_e : ∀ (r : Ls) (j : Nat) (v : Value), lg (hd0 r) j = some v → j ≠ 0 ∧ lg r j = some v
  | [], j, v, h => by simp [hd0, lg] at h
  | a :: r, 0, v, h => by simp [hd0, lg] at h
  | a :: r, j + 1, v, h => ⟨by omega, h⟩
theorem s2_e : ∀ (L : Ls) (i : Nat) (x : Value) (j : Nat) (v : Value), lg (s2 L i x) j = some v → (j = i ∧ v = x) ∨ (j ≠ i ∧ j ≠ i + 1 ∧ lg L j = some v ∧ ¬ (j + 1 = i ∧ v.category = 2))
  | [], i, x, j, v, h => by simp [s2, lg] at h
  | a :: r, 0, x, 0, v, h => by
    simp only [s2, lg, Option.some.injEq] at h
    exact Or.inl ⟨rfl, h.symm⟩
  | a :: r, 0, x, j + 1, v, h => by
    have h1 := hd0_e r j v h
    exact Or.inr ⟨by omega, by omega, h1.2, by omega⟩
  | a :: r, 1, x, 0, v, h => by
    have h1 := kl_e (show kl a = some v from h)
    exact Or.inr ⟨by omega, by omega, h1.1, fun q => by omega⟩
  | a :: r, 1, x, j + 1, v, h => by
    rcases s2_e r 0 x j v h with ⟨h1, h2⟩ | ⟨h1, h2, h3, h4⟩
    · exact Or.inl ⟨by omega, h2⟩
    · exact Or.inr ⟨by omega, by omega, h3, fun q => h1 (by omega)⟩
  | a :: r, i + 2, x, 0, v, h => Or.inr ⟨by omega, by omega, h, by omega⟩
  | a :: r, i + 2, x, j + 1, v, h => by
    rcases s2_e r (i + 1) x j v h with ⟨h1, h2⟩ | ⟨h1, h2, h3, h4⟩
    · exact Or.inl ⟨by omega, h2⟩
    · exact Or.inr ⟨by omega, by omega, h3, fun q => h4 ⟨by omega, q.2⟩⟩
theorem Lk.st1 {w : Wp} {ls : Array Slot} {nL : Nat} {L : Ls} {i : Nat} {x : Value} (h : lv_has ls nL ((i, sv w x) :: (la w 0 L).filter (fun q => !(q.1 == i) && !(q.1 + 1 == i && q.2.category == 2)))) : Lk w ls nL (s1 L i x) := by
  refine Lk.of h fun j v hj => ?_
  rcases s1_e L i x j v hj with ⟨h1, h2⟩ | ⟨h1, h2, h3⟩
  · rw [h1, h2]
    exact List.mem_cons_self
  · refine List.mem_cons_of_mem _ (List.mem_filter.mpr ⟨by simpa using la_of w L 0 j v h2, ?_⟩)
    simp only [sv_cat]
    by_cases h4 : j + 1 = i
    · have h5 : ¬ v.category = 2 := fun q => h3 ⟨h4, q⟩
      simp [h1, h5]
    · simp [h1, h4]
theorem Lk.st2 {w : Wp} {ls : Array Slot} {nL : Nat} {L : Ls} {i : Nat} {x : Value} (h : lv_has ls nL ((i, sv w x) :: (la w 0 L).filter (fun q => !(q.1 == i) && (!(q.1 == i + 1) && !(q.1 + 1 == i && q.2.category == 2))))) : Lk w ls nL (s2 L i x) := by
  refine Lk.of h fun j v hj => ?_
  rcases s2_e L i x j v hj with ⟨h1, h2⟩ | ⟨h1, h1', h2, h3⟩
  · rw [h1, h2]
    exact List.mem_cons_self
  · refine List.mem_cons_of_mem _ (List.mem_filter.mpr ⟨by simpa using la_of w L 0 j v h2, ?_⟩)
    simp only [sv_cat]
    by_cases h4 : j + 1 = i
    · have h5 : ¬ v.category = 2 := fun q => h3 ⟨h4, q⟩
      simp [h1, h1', h5]
    · simp [h1, h1', h4]
theorem mkL_e : ∀ (kb : List Bool) (L : Ls) (i : Nat) (v : Value), lg (mkL kb L) i = some v → lg L i = some v
  | [], L, i, v, h => by cases L <;> simp [mkL, lg] at h
  | b :: bs, [], i, v, h => by simp [mkL, lg] at h
  | true :: bs, x :: xs, 0, v, h => h
  | false :: bs, x :: xs, 0, v, h => by simp [mkL, lg] at h
  | b :: bs, x :: xs, i + 1, v, h => mkL_e bs xs i v h
/-- what stands while a method's body runs -/
def Cx (w : Wp) (p : Program) (s : State) (m : MethodId) (args : Array Value) (c : Code) (own : String) (cc : ByteArray) (nL : Nat) (sx : Option (Nat × (Nat → Int32))) : Prop :=
  p.tables.exec = Jvm.exec ∧ c.code = cc ∧ c.maxLocals = nL ∧ s.vm.findClass own = some m.cls ∧ (∀ x ∈ tW, x.before args s = true) ∧ va_K w.1 vwCl (tyl w) s ∧ nWs s ∧ ∀ q, sx = some q → va_X w.2.2.1 q.1 q.2 s s.heap ∧ w.2.2.1 < s.heap.size ∧ w.2.2.1 < w.2.1
/-- a method's level: how deep its calls go; what room it has for them -/
def Rm (lv : Nat) (R : Room) (cells slots : Nat) : Prop := lv ≤ R.frames ∧ 38 * lv ≤ R.locals ∧ cells ≤ R.cells ∧ slots ≤ R.slots
def rmd (d : Nat) : Room := { frames := d, cells := 0, slots := 0, locals := 38 * d }
def Pm (w : Wp) (a : List Value) (μ : Mm) : Array Value → State → Prop := fun v U => v = (a.map (sv w)).toArray ∧ va_P w.1 vwCl (wl w μ) U.heap ∧ va_K w.1 vwCl (tyl w) U ∧ nWs U
def Qm (w : Wp) (Q : Rt) : Array Value → State → Outcome → State → Prop := fun _ st o t => (∃ (v : Option Value) (μ : Mm), o = .returned (v.map (sv w)) ∧ Q v μ ∧ va_P w.1 vwCl (wl w μ) t.heap) ∧ va_F (fun q => w.2.1 ≤ q) st t
abbrev Mi : Type := MethodName × ByteArray × Nat × Option FieldType × Nat
def CmOk (mi : Nat → Mi) (w : Wp) (l : Launch) (CM : Cm) : Prop := ∀ j a μ Q, CM j a μ Q → Met l (mi j).1 (.code (mi j).1 (mi j).2.1 (mi j).2.2.1 (mi j).2.2.2.1 :: tW) (rmd (mi j).2.2.2.2) (Pm w a μ) (Qm w Q) 0 0 (fun q => w.2.1 ≤ q)
def Hd (w : Wp) (H0 : Heap) (μ : Mm) (H : Heap) (locs : List Loc) : Prop := va_P w.1 vwCl (wl w μ) H ∧ va_S (fun q => w.2.1 ≤ q) H0 H locs
def Wq (w : Wp) (p : Program) (l : Launch) (e : Env) (R : Room) (s : State) (m : MethodId) (args : Array Value) (below : List Frame) (meth : Method) (c : Code) (nL cells slots : Nat) (Q : State → Prop) : Go := fun pc L st μ =>
  ∀ (ls : Array Slot) (H : Heap) (locs : List Loc), Lk w ls nL L → Hd w s.heap μ H locs → W p l e R s m args below meth c H locs cells slots Q (F0 m pc ls (st.map (sv w)))
def Ro (w : Wp) (p : Program) (l : Launch) (e : Env) (R : Room) (s : State) (m : MethodId) (args : Array Value) (below : List Frame) (meth : Method) (c : Code) (cc : ByteArray) (cells slots : Nat) (Q : State → Prop) (rt : Option FieldType) (ret : Rt) : Prop :=
  ∀ v μ, ret v μ → ∀ (pc : Nat) (ls : Array Slot) (H : Heap) (locs : List Loc), Hd w s.heap μ H locs →
    (∀ x, v = some (.int x) → rt = some .int → decode cc pc = .ok (.ireturn, 1) → W p l e R s m args below meth c H locs cells slots Q (F0 m pc ls [.int x])) ∧
    (∀ x, v = some (.int x) → (x = 0 ∨ x = 1) → rt = some .boolean → decode cc pc = .ok (.ireturn, 1) → W p l e R s m args below meth c H locs cells slots Q (F0 m pc ls [.int x])) ∧
    (∀ x, v = some (.long x) → rt = some .long → decode cc pc = .ok (.lreturn, 1) → W p l e R s m args below meth c H locs cells slots Q (F0 m pc ls [.long x])) ∧
    (v = none → rt = none → decode cc pc = .ok (.return_, 1) → W p l e R s m args below meth c H locs cells slots Q (F0 m pc ls []))
/-- a step stands for the instruction at pc -/
def Sn (mi : Nat → Mi) (own : String) (cc : ByteArray) (nL lv : Nat) (rt : Option FieldType) (sx : Option (Nat × (Nat → Int32))) (pc : Nat) (f : Sx) : Prop :=
  ∀ (w : Wp) (p : Program) (l : Launch) (e : Env) (R : Room) (s : State) (m : MethodId) (args : Array Value) (below : List Frame) (meth : Method) (c : Code) (cells slots : Nat) (Q : State → Prop) (CM : Cm) (go : Go) (ret : Rt) (L : Ls) (st : List Value) (μ : Mm),
    Cx w p s m args c own cc nL sx → Rm lv R cells slots → CmOk mi w l CM → f CM L st μ go ret →
    (∀ pc' L' st' μ', go pc' L' st' μ' → Wq w p l e R s m args below meth c nL cells slots Q pc' L' st' μ') →
    Ro w p l e R s m args below meth c cc cells slots Q rt ret → Wq w p l e R s m args below meth c nL cells slots Q pc L st μ
def CmMono (CM : Cm) : Prop := ∀ j a μ (Q Q' : Rt), (∀ v μ, Q v μ → Q' v μ) → CM j a μ Q → CM j a μ Q'
def Mn (f : Sx) : Prop := ∀ (CM : Cm) (L : Ls) (st : List Value) (μ : Mm) (go go' : Go) (ret ret' : Rt), CmMono CM → (∀ pc L st μ, go pc L st μ → go' pc L st μ) → (∀ v μ, ret v μ → ret' v μ) → f CM L st μ go ret → f CM L st μ go' ret'
def Ok (mi : Nat → Mi) (own : String) (cc : ByteArray) (nL lv : Nat) (rt : Option FieldType) (sx : Option (Nat × (Nat → Int32))) (pc : Nat) (f : Sx) : Prop := Sn mi own cc nL lv rt sx pc f ∧ Mn f
section STEPS
variable {mi : Nat → Mi} {own : String} {cc : ByteArray} {nL lv : Nat} {rt : Option FieldType} {sx : Option (Nat × (Nat → Int32))} {pc nx : Nat}
theorem ok_F : Ok mi own cc nL lv rt sx pc mF := ⟨by intro w p l e R s m args below meth c cells slots Q CM go ret L st μ hC hR hM h; exact h.elim, fun CM L st μ go go' ret ret' hm h1 h2 h => h⟩

theorem ok_iconst {n : Int} {x : Int32} (hdg : decode cc pc = .ok (.iconst n, 1)) (hv : Int32.ofInt n = x) (hn : pc + 1 = nx) : Ok mi own cc nL lv rt sx pc (mPush (.int x) nx) := by
  refine ⟨?_, ?_⟩
  · intro w p l e R s m args below meth c cells slots Q CM go ret L st μ hC hR hM h hg hr ls H locs hl hH
    subst hn
    exact lv_iconst hC.1 hC.2.1 hdg hv (hg _ _ _ _ h ls H locs hl hH)
  · intro CM L st μ go go' ret ret' hm h1 h2 h
    exact h1 _ _ _ _ h

theorem ok_bipush {n : Int} {x : Int32} (hdg : decode cc pc = .ok (.bipush n, 2)) (hv : (Int8.ofInt n).toInt32 = x) (hn : pc + 2 = nx) : Ok mi own cc nL lv rt sx pc (mPush (.int x) nx) := by
  refine ⟨?_, ?_⟩
  · intro w p l e R s m args below meth c cells slots Q CM go ret L st μ hC hR hM h hg hr ls H locs hl hH
    subst hn
    exact lv_bipush hC.1 hC.2.1 hdg hv (hg _ _ _ _ h ls H locs hl hH)
  · intro CM L st μ go go' ret ret' hm h1 h2 h
    exact h1 _ _ _ _ h

theorem ok_sipush {n : Int} {x : Int32} (hdg : decode cc pc = .ok (.sipush n, 3)) (hv : (Int16.ofInt n).toInt32 = x) (hn : pc + 3 = nx) : Ok mi own cc nL lv rt sx pc (mPush (.int x) nx) := by
  refine ⟨?_, ?_⟩
  · intro w p l e R s m args below meth c cells slots Q CM go ret L st μ hC hR hM h hg hr ls H locs hl hH
    subst hn
    exact lv_sipush hC.1 hC.2.1 hdg hv (hg _ _ _ _ h ls H locs hl hH)
  · intro CM L st μ go go' ret ret' hm h1 h2 h
    exact h1 _ _ _ _ h

theorem ok_lconst {n : Fin 2} {x : Int64} (hdg : decode cc pc = .ok (.lconst n, 1)) (hv : Int64.ofNat (n : Nat) = x) (hn : pc + 1 = nx) : Ok mi own cc nL lv rt sx pc (mPush (.long x) nx) := by
  refine ⟨?_, ?_⟩
  · intro w p l e R s m args below meth c cells slots Q CM go ret L st μ hC hR hM h hg hr ls H locs hl hH
    subst hn
    exact lv_lconst hC.1 hC.2.1 hdg hv (hg _ _ _ _ h ls H locs hl hH)
  · intro CM L st μ go go' ret ret' hm h1 h2 h
    exact h1 _ _ _ _ h

theorem ok_ldc {i : Nat} {x : Int32} (hdg : decode cc pc = .ok (.ldc i, 2)) (hw : Cond.constant own i x ∈ lw_tbl) (hn : pc + 2 = nx) : Ok mi own cc nL lv rt sx pc (mPush (.int x) nx) := by
  refine ⟨?_, ?_⟩
  · intro w p l e R s m args below meth c cells slots Q CM go ret L st μ hC hR hM h hg hr ls H locs hl hH
    subst hn
    exact lv_ldc hC.1 hC.2.1 hC.2.2.2.1 (hC.2.2.2.2.1 _ (tW_of hw rfl)) hdg (hg _ _ _ _ h ls H locs hl hH)
  · intro CM L st μ go go' ret ret' hm h1 h2 h
    exact h1 _ _ _ _ h

theorem ok_ldcw {i : Nat} {x : Int32} (hdg : decode cc pc = .ok (.ldc_w i, 3)) (hw : Cond.constant own i x ∈ lw_tbl) (hn : pc + 3 = nx) : Ok mi own cc nL lv rt sx pc (mPush (.int x) nx) := by
  refine ⟨?_, ?_⟩
  · intro w p l e R s m args below meth c cells slots Q CM go ret L st μ hC hR hM h hg hr ls H locs hl hH
    subst hn
    exact lv_ldcw hC.1 hC.2.1 hC.2.2.2.1 (hC.2.2.2.2.1 _ (tW_of hw rfl)) hdg (hg _ _ _ _ h ls H locs hl hH)
  · intro CM L st μ go go' ret ret' hm h1 h2 h
    exact h1 _ _ _ _ h

theorem ok_ldc2 {i : Nat} {x : Int64} (hdg : decode cc pc = .ok (.ldc2_w i, 3)) (hw : Cond.constantLong own i x ∈ lw_tbl) (hn : pc + 3 = nx) : Ok mi own cc nL lv rt sx pc (mPush (.long x) nx) := by
  refine ⟨?_, ?_⟩
  · intro w p l e R s m args below meth c cells slots Q CM go ret L st μ hC hR hM h hg hr ls H locs hl hH
    subst hn
    exact lv_ldc2 hC.1 hC.2.1 hC.2.2.2.1 (hC.2.2.2.2.1 _ (tW_of hw rfl)) hdg (hg _ _ _ _ h ls H locs hl hH)
  · intro CM L st μ go go' ret ret' hm h1 h2 h
    exact h1 _ _ _ _ h

theorem ok_iload_n {k : Fin 4} {i : Nat} (hdg : decode cc pc = .ok (.iload_n k, 1)) (hi : (k : Nat) = i) (hn : pc + 1 = nx) : Ok mi own cc nL lv rt sx pc (mLdI i nx) := by
  refine ⟨?_, ?_⟩
  · intro w p l e R s m args below meth c cells slots Q CM go ret L st μ hC hR hM h hg hr ls H locs hl hH
    subst hn
    obtain ⟨x, hx, h⟩ := oI_e h
    exact lv_iload_n hC.1 hC.2.1 hdg hi (hl.at hx) (hg _ _ _ _ h ls H locs hl hH)
  · intro CM L st μ go go' ret ret' hm h1 h2 h
    obtain ⟨x, hx, h⟩ := oI_e h
    show oI (lg L i) _
    rw [hx]
    exact h1 _ _ _ _ h

theorem ok_iload {i : Nat} (hdg : decode cc pc = .ok (.iload i, 2)) (hn : pc + 2 = nx) : Ok mi own cc nL lv rt sx pc (mLdI i nx) := by
  refine ⟨?_, ?_⟩
  · intro w p l e R s m args below meth c cells slots Q CM go ret L st μ hC hR hM h hg hr ls H locs hl hH
    subst hn
    obtain ⟨x, hx, h⟩ := oI_e h
    exact lv_iload hC.1 hC.2.1 hdg (hl.at hx) (hg _ _ _ _ h ls H locs hl hH)
  · intro CM L st μ go go' ret ret' hm h1 h2 h
    obtain ⟨x, hx, h⟩ := oI_e h
    show oI (lg L i) _
    rw [hx]
    exact h1 _ _ _ _ h

theorem ok_lload_n {k : Fin 4} {i : Nat} (hdg : decode cc pc = .ok (.lload_n k, 1)) (hi : (k : Nat) = i) (hn : pc + 1 = nx) : Ok mi own cc nL lv rt sx pc (mLdL i nx) := by
  refine ⟨?_, ?_⟩
  · intro w p l e R s m args below meth c cells slots Q CM go ret L st μ hC hR hM h hg hr ls H locs hl hH
    subst hn
    obtain ⟨x, hx, h⟩ := oL_e h
    exact lv_lload_n hC.1 hC.2.1 hdg hi (hl.at hx) (hg _ _ _ _ h ls H locs hl hH)
  · intro CM L st μ go go' ret ret' hm h1 h2 h
    obtain ⟨x, hx, h⟩ := oL_e h
    show oL (lg L i) _
    rw [hx]
    exact h1 _ _ _ _ h

theorem ok_lload {i : Nat} (hdg : decode cc pc = .ok (.lload i, 2)) (hn : pc + 2 = nx) : Ok mi own cc nL lv rt sx pc (mLdL i nx) := by
  refine ⟨?_, ?_⟩
  · intro w p l e R s m args below meth c cells slots Q CM go ret L st μ hC hR hM h hg hr ls H locs hl hH
    subst hn
    obtain ⟨x, hx, h⟩ := oL_e h
    exact lv_lload hC.1 hC.2.1 hdg (hl.at hx) (hg _ _ _ _ h ls H locs hl hH)
  · intro CM L st μ go go' ret ret' hm h1 h2 h
    obtain ⟨x, hx, h⟩ := oL_e h
    show oL (lg L i) _
    rw [hx]
    exact h1 _ _ _ _ h

theorem ok_aload_n {k : Fin 4} {i : Nat} (hdg : decode cc pc = .ok (.aload_n k, 1)) (hi : (k : Nat) = i) (hn : pc + 1 = nx) : Ok mi own cc nL lv rt sx pc (mLdR i nx) := by
  refine ⟨?_, ?_⟩
  · intro w p l e R s m args below meth c cells slots Q CM go ret L st μ hC hR hM h hg hr ls H locs hl hH
    subst hn
    obtain ⟨x, hx, h⟩ := oR_e h
    exact lv_aload_n hC.1 hC.2.1 hdg hi (hl.at hx) (hg _ _ _ _ h ls H locs hl hH)
  · intro CM L st μ go go' ret ret' hm h1 h2 h
    obtain ⟨x, hx, h⟩ := oR_e h
    show oR (lg L i) _
    rw [hx]
    exact h1 _ _ _ _ h

theorem ok_aload {i : Nat} (hdg : decode cc pc = .ok (.aload i, 2)) (hn : pc + 2 = nx) : Ok mi own cc nL lv rt sx pc (mLdR i nx) := by
  refine ⟨?_, ?_⟩
  · intro w p l e R s m args below meth c cells slots Q CM go ret L st μ hC hR hM h hg hr ls H locs hl hH
    subst hn
    obtain ⟨x, hx, h⟩ := oR_e h
    exact lv_aload hC.1 hC.2.1 hdg (hl.at hx) (hg _ _ _ _ h ls H locs hl hH)
  · intro CM L st μ go go' ret ret' hm h1 h2 h
    obtain ⟨x, hx, h⟩ := oR_e h
    show oR (lg L i) _
    rw [hx]
    exact h1 _ _ _ _ h

theorem ok_istore_n {k : Fin 4} {i : Nat} (hdg : decode cc pc = .ok (.istore_n k, 1)) (hi : (k : Nat) = i) (hb : i < nL) (hn : pc + 1 = nx) : Ok mi own cc nL lv rt sx pc (mStI i nx) := by
  refine ⟨?_, ?_⟩
  · intro w p l e R s m args below meth c cells slots Q CM go ret L st μ hC hR hM h hg hr ls H locs hl hH
    subst hn
    obtain ⟨x, r, rfl, g9⟩ := pI_e h; clear h; have h := g9; clear g9
    exact lv_istore_n hC.1 hC.2.1 hdg hi hl hb rfl (fun ls' hl' => hg _ _ _ _ h ls' H locs (Lk.st1 hl') hH)
  · intro CM L st μ go go' ret ret' hm h1 h2 h
    obtain ⟨x, r, rfl, g9⟩ := pI_e h; clear h; have h := g9; clear g9
    exact h1 _ _ _ _ h

theorem ok_istore {i : Nat} (hdg : decode cc pc = .ok (.istore i, 2)) (hb : i < nL) (hn : pc + 2 = nx) : Ok mi own cc nL lv rt sx pc (mStI i nx) := by
  refine ⟨?_, ?_⟩
  · intro w p l e R s m args below meth c cells slots Q CM go ret L st μ hC hR hM h hg hr ls H locs hl hH
    subst hn
    obtain ⟨x, r, rfl, g9⟩ := pI_e h; clear h; have h := g9; clear g9
    exact lv_istore hC.1 hC.2.1 hdg hl hb rfl (fun ls' hl' => hg _ _ _ _ h ls' H locs (Lk.st1 hl') hH)
  · intro CM L st μ go go' ret ret' hm h1 h2 h
    obtain ⟨x, r, rfl, g9⟩ := pI_e h; clear h; have h := g9; clear g9
    exact h1 _ _ _ _ h

theorem ok_astore_n {k : Fin 4} {i : Nat} (hdg : decode cc pc = .ok (.astore_n k, 1)) (hi : (k : Nat) = i) (hb : i < nL) (hn : pc + 1 = nx) : Ok mi own cc nL lv rt sx pc (mStR i nx) := by
  refine ⟨?_, ?_⟩
  · intro w p l e R s m args below meth c cells slots Q CM go ret L st μ hC hR hM h hg hr ls H locs hl hH
    subst hn
    obtain ⟨x, r, rfl, g9⟩ := pR_e h; clear h; have h := g9; clear g9
    exact lv_astore_n hC.1 hC.2.1 hdg hi hl hb rfl (fun ls' hl' => hg _ _ _ _ h ls' H locs (Lk.st1 hl') hH)
  · intro CM L st μ go go' ret ret' hm h1 h2 h
    obtain ⟨x, r, rfl, g9⟩ := pR_e h; clear h; have h := g9; clear g9
    exact h1 _ _ _ _ h

theorem ok_astore {i : Nat} (hdg : decode cc pc = .ok (.astore i, 2)) (hb : i < nL) (hn : pc + 2 = nx) : Ok mi own cc nL lv rt sx pc (mStR i nx) := by
  refine ⟨?_, ?_⟩
  · intro w p l e R s m args below meth c cells slots Q CM go ret L st μ hC hR hM h hg hr ls H locs hl hH
    subst hn
    obtain ⟨x, r, rfl, g9⟩ := pR_e h; clear h; have h := g9; clear g9
    exact lv_astore hC.1 hC.2.1 hdg hl hb rfl (fun ls' hl' => hg _ _ _ _ h ls' H locs (Lk.st1 hl') hH)
  · intro CM L st μ go go' ret ret' hm h1 h2 h
    obtain ⟨x, r, rfl, g9⟩ := pR_e h; clear h; have h := g9; clear g9
    exact h1 _ _ _ _ h

theorem ok_lstore_n {k : Fin 4} {i : Nat} (hdg : decode cc pc = .ok (.lstore_n k, 1)) (hi : (k : Nat) = i) (hb : i + 1 < nL) (hn : pc + 1 = nx) : Ok mi own cc nL lv rt sx pc (mStL i nx) := by
  refine ⟨?_, ?_⟩
  · intro w p l e R s m args below meth c cells slots Q CM go ret L st μ hC hR hM h hg hr ls H locs hl hH
    subst hn
    obtain ⟨x, r, rfl, g9⟩ := pL_e h; clear h; have h := g9; clear g9
    exact lv_lstore_n hC.1 hC.2.1 hdg hi hl hb rfl (fun ls' hl' => hg _ _ _ _ h ls' H locs (Lk.st2 hl') hH)
  · intro CM L st μ go go' ret ret' hm h1 h2 h
    obtain ⟨x, r, rfl, g9⟩ := pL_e h; clear h; have h := g9; clear g9
    exact h1 _ _ _ _ h

theorem ok_lstore {i : Nat} (hdg : decode cc pc = .ok (.lstore i, 2)) (hb : i + 1 < nL) (hn : pc + 2 = nx) : Ok mi own cc nL lv rt sx pc (mStL i nx) := by
  refine ⟨?_, ?_⟩
  · intro w p l e R s m args below meth c cells slots Q CM go ret L st μ hC hR hM h hg hr ls H locs hl hH
    subst hn
    obtain ⟨x, r, rfl, g9⟩ := pL_e h; clear h; have h := g9; clear g9
    exact lv_lstore hC.1 hC.2.1 hdg hl hb rfl (fun ls' hl' => hg _ _ _ _ h ls' H locs (Lk.st2 hl') hH)
  · intro CM L st μ go go' ret ret' hm h1 h2 h
    obtain ⟨x, r, rfl, g9⟩ := pL_e h; clear h; have h := g9; clear g9
    exact h1 _ _ _ _ h

theorem ok_iinc {i : Nat} {n : Int} {x : Int32} (hdg : decode cc pc = .ok (.iinc i n, 3)) (hx : Int32.ofInt n = x) (hb : i < nL) (hn : pc + 3 = nx) : Ok mi own cc nL lv rt sx pc (mInc i x nx) := by
  refine ⟨?_, ?_⟩
  · intro w p l e R s m args below meth c cells slots Q CM go ret L st μ hC hR hM h hg hr ls H locs hl hH
    subst hn
    obtain ⟨y, hy, h⟩ := oI_e h
    obtain ⟨k, hk⟩ := List.getElem?_of_mem (la_of w L 0 i _ hy)
    rw [Nat.zero_add] at hk
    exact lv_iinc hC.1 hC.2.1 hdg hl hk (by rw [hx]) hb rfl (fun ls' hl' => hg _ _ _ _ h ls' H locs (Lk.st1 (x := .int (y + x)) hl') hH)
  · intro CM L st μ go go' ret ret' hm h1 h2 h
    obtain ⟨y, hy, h⟩ := oI_e h
    show oI (lg L i) _
    rw [hy]
    exact h1 _ _ _ _ h

theorem ok_iadd (hdg : decode cc pc = .ok (.iadd, 1)) (hn : pc + 1 = nx) : Ok mi own cc nL lv rt sx pc (mBin (fun x y => x + y) nx) := by
  refine ⟨?_, ?_⟩
  · intro w p l e R s m args below meth c cells slots Q CM go ret L st μ hC hR hM h hg hr ls H locs hl hH
    subst hn
    obtain ⟨y, r, rfl, g9⟩ := pI_e h; clear h; have h := g9; clear g9
    obtain ⟨x, r, rfl, g9⟩ := pI_e h; clear h; have h := g9; clear g9
    exact lv_iadd hC.1 hC.2.1 hdg (hg _ _ _ _ h ls H locs hl hH)
  · intro CM L st μ go go' ret ret' hm h1 h2 h
    obtain ⟨y, r, rfl, g9⟩ := pI_e h; clear h; have h := g9; clear g9
    obtain ⟨x, r, rfl, g9⟩ := pI_e h; clear h; have h := g9; clear g9
    exact h1 _ _ _ _ h

theorem ok_isub (hdg : decode cc pc = .ok (.isub, 1)) (hn : pc + 1 = nx) : Ok mi own cc nL lv rt sx pc (mBin (fun x y => x - y) nx) := by
  refine ⟨?_, ?_⟩
  · intro w p l e R s m args below meth c cells slots Q CM go ret L st μ hC hR hM h hg hr ls H locs hl hH
    subst hn
    obtain ⟨y, r, rfl, g9⟩ := pI_e h; clear h; have h := g9; clear g9
    obtain ⟨x, r, rfl, g9⟩ := pI_e h; clear h; have h := g9; clear g9
    exact lv_isub hC.1 hC.2.1 hdg (hg _ _ _ _ h ls H locs hl hH)
  · intro CM L st μ go go' ret ret' hm h1 h2 h
    obtain ⟨y, r, rfl, g9⟩ := pI_e h; clear h; have h := g9; clear g9
    obtain ⟨x, r, rfl, g9⟩ := pI_e h; clear h; have h := g9; clear g9
    exact h1 _ _ _ _ h

theorem ok_imul (hdg : decode cc pc = .ok (.imul, 1)) (hn : pc + 1 = nx) : Ok mi own cc nL lv rt sx pc (mBin (fun x y => x * y) nx) := by
  refine ⟨?_, ?_⟩
  · intro w p l e R s m args below meth c cells slots Q CM go ret L st μ hC hR hM h hg hr ls H locs hl hH
    subst hn
    obtain ⟨y, r, rfl, g9⟩ := pI_e h; clear h; have h := g9; clear g9
    obtain ⟨x, r, rfl, g9⟩ := pI_e h; clear h; have h := g9; clear g9
    exact lv_imul hC.1 hC.2.1 hdg (hg _ _ _ _ h ls H locs hl hH)
  · intro CM L st μ go go' ret ret' hm h1 h2 h
    obtain ⟨y, r, rfl, g9⟩ := pI_e h; clear h; have h := g9; clear g9
    obtain ⟨x, r, rfl, g9⟩ := pI_e h; clear h; have h := g9; clear g9
    exact h1 _ _ _ _ h

theorem ok_iand (hdg : decode cc pc = .ok (.iand, 1)) (hn : pc + 1 = nx) : Ok mi own cc nL lv rt sx pc (mBin (fun x y => x &&& y) nx) := by
  refine ⟨?_, ?_⟩
  · intro w p l e R s m args below meth c cells slots Q CM go ret L st μ hC hR hM h hg hr ls H locs hl hH
    subst hn
    obtain ⟨y, r, rfl, g9⟩ := pI_e h; clear h; have h := g9; clear g9
    obtain ⟨x, r, rfl, g9⟩ := pI_e h; clear h; have h := g9; clear g9
    exact lv_iand hC.1 hC.2.1 hdg (hg _ _ _ _ h ls H locs hl hH)
  · intro CM L st μ go go' ret ret' hm h1 h2 h
    obtain ⟨y, r, rfl, g9⟩ := pI_e h; clear h; have h := g9; clear g9
    obtain ⟨x, r, rfl, g9⟩ := pI_e h; clear h; have h := g9; clear g9
    exact h1 _ _ _ _ h

theorem ok_ior (hdg : decode cc pc = .ok (.ior, 1)) (hn : pc + 1 = nx) : Ok mi own cc nL lv rt sx pc (mBin (fun x y => x ||| y) nx) := by
  refine ⟨?_, ?_⟩
  · intro w p l e R s m args below meth c cells slots Q CM go ret L st μ hC hR hM h hg hr ls H locs hl hH
    subst hn
    obtain ⟨y, r, rfl, g9⟩ := pI_e h; clear h; have h := g9; clear g9
    obtain ⟨x, r, rfl, g9⟩ := pI_e h; clear h; have h := g9; clear g9
    exact lv_ior hC.1 hC.2.1 hdg (hg _ _ _ _ h ls H locs hl hH)
  · intro CM L st μ go go' ret ret' hm h1 h2 h
    obtain ⟨y, r, rfl, g9⟩ := pI_e h; clear h; have h := g9; clear g9
    obtain ⟨x, r, rfl, g9⟩ := pI_e h; clear h; have h := g9; clear g9
    exact h1 _ _ _ _ h

theorem ok_ixor (hdg : decode cc pc = .ok (.ixor, 1)) (hn : pc + 1 = nx) : Ok mi own cc nL lv rt sx pc (mBin (fun x y => x ^^^ y) nx) := by
  refine ⟨?_, ?_⟩
  · intro w p l e R s m args below meth c cells slots Q CM go ret L st μ hC hR hM h hg hr ls H locs hl hH
    subst hn
    obtain ⟨y, r, rfl, g9⟩ := pI_e h; clear h; have h := g9; clear g9
    obtain ⟨x, r, rfl, g9⟩ := pI_e h; clear h; have h := g9; clear g9
    exact lv_ixor hC.1 hC.2.1 hdg (hg _ _ _ _ h ls H locs hl hH)
  · intro CM L st μ go go' ret ret' hm h1 h2 h
    obtain ⟨y, r, rfl, g9⟩ := pI_e h; clear h; have h := g9; clear g9
    obtain ⟨x, r, rfl, g9⟩ := pI_e h; clear h; have h := g9; clear g9
    exact h1 _ _ _ _ h

theorem ok_ishl (hdg : decode cc pc = .ok (.ishl, 1)) (hn : pc + 1 = nx) : Ok mi own cc nL lv rt sx pc (mBin (fun x y => x <<< (y &&& 31)) nx) := by
  refine ⟨?_, ?_⟩
  · intro w p l e R s m args below meth c cells slots Q CM go ret L st μ hC hR hM h hg hr ls H locs hl hH
    subst hn
    obtain ⟨y, r, rfl, g9⟩ := pI_e h; clear h; have h := g9; clear g9
    obtain ⟨x, r, rfl, g9⟩ := pI_e h; clear h; have h := g9; clear g9
    exact lv_ishl hC.1 hC.2.1 hdg (hg _ _ _ _ h ls H locs hl hH)
  · intro CM L st μ go go' ret ret' hm h1 h2 h
    obtain ⟨y, r, rfl, g9⟩ := pI_e h; clear h; have h := g9; clear g9
    obtain ⟨x, r, rfl, g9⟩ := pI_e h; clear h; have h := g9; clear g9
    exact h1 _ _ _ _ h

theorem ok_ishr (hdg : decode cc pc = .ok (.ishr, 1)) (hn : pc + 1 = nx) : Ok mi own cc nL lv rt sx pc (mBin (fun x y => x >>> (y &&& 31)) nx) := by
  refine ⟨?_, ?_⟩
  · intro w p l e R s m args below meth c cells slots Q CM go ret L st μ hC hR hM h hg hr ls H locs hl hH
    subst hn
    obtain ⟨y, r, rfl, g9⟩ := pI_e h; clear h; have h := g9; clear g9
    obtain ⟨x, r, rfl, g9⟩ := pI_e h; clear h; have h := g9; clear g9
    exact lv_ishr hC.1 hC.2.1 hdg (hg _ _ _ _ h ls H locs hl hH)
  · intro CM L st μ go go' ret ret' hm h1 h2 h
    obtain ⟨y, r, rfl, g9⟩ := pI_e h; clear h; have h := g9; clear g9
    obtain ⟨x, r, rfl, g9⟩ := pI_e h; clear h; have h := g9; clear g9
    exact h1 _ _ _ _ h

theorem ok_idiv (hdg : decode cc pc = .ok (.idiv, 1)) (hn : pc + 1 = nx) : Ok mi own cc nL lv rt sx pc (mDiv (fun x y => x / y) nx) := by
  refine ⟨?_, ?_⟩
  · intro w p l e R s m args below meth c cells slots Q CM go ret L st μ hC hR hM h hg hr ls H locs hl hH
    subst hn
    obtain ⟨y, r, rfl, g9⟩ := pI_e h; clear h; have h := g9; clear g9
    obtain ⟨x, r, rfl, g9⟩ := pI_e h; clear h; have h := g9; clear g9
    exact lv_idiv hC.1 hC.2.1 hdg h.1 (hg _ _ _ _ h.2 ls H locs hl hH)
  · intro CM L st μ go go' ret ret' hm h1 h2 h
    obtain ⟨y, r, rfl, g9⟩ := pI_e h; clear h; have h := g9; clear g9
    obtain ⟨x, r, rfl, g9⟩ := pI_e h; clear h; have h := g9; clear g9
    exact ⟨h.1, h1 _ _ _ _ h.2⟩

theorem ok_irem (hdg : decode cc pc = .ok (.irem, 1)) (hn : pc + 1 = nx) : Ok mi own cc nL lv rt sx pc (mDiv (fun x y => x - x / y * y) nx) := by
  refine ⟨?_, ?_⟩
  · intro w p l e R s m args below meth c cells slots Q CM go ret L st μ hC hR hM h hg hr ls H locs hl hH
    subst hn
    obtain ⟨y, r, rfl, g9⟩ := pI_e h; clear h; have h := g9; clear g9
    obtain ⟨x, r, rfl, g9⟩ := pI_e h; clear h; have h := g9; clear g9
    exact lv_irem hC.1 hC.2.1 hdg h.1 (hg _ _ _ _ h.2 ls H locs hl hH)
  · intro CM L st μ go go' ret ret' hm h1 h2 h
    obtain ⟨y, r, rfl, g9⟩ := pI_e h; clear h; have h := g9; clear g9
    obtain ⟨x, r, rfl, g9⟩ := pI_e h; clear h; have h := g9; clear g9
    exact ⟨h.1, h1 _ _ _ _ h.2⟩

theorem ok_ineg (hdg : decode cc pc = .ok (.ineg, 1)) (hn : pc + 1 = nx) : Ok mi own cc nL lv rt sx pc (mUn (fun x => -x) nx) := by
  refine ⟨?_, ?_⟩
  · intro w p l e R s m args below meth c cells slots Q CM go ret L st μ hC hR hM h hg hr ls H locs hl hH
    subst hn
    obtain ⟨x, r, rfl, g9⟩ := pI_e h; clear h; have h := g9; clear g9
    exact lv_ineg hC.1 hC.2.1 hdg (hg _ _ _ _ h ls H locs hl hH)
  · intro CM L st μ go go' ret ret' hm h1 h2 h
    obtain ⟨x, r, rfl, g9⟩ := pI_e h; clear h; have h := g9; clear g9
    exact h1 _ _ _ _ h

theorem ok_i2b (hdg : decode cc pc = .ok (.i2b, 1)) (hn : pc + 1 = nx) : Ok mi own cc nL lv rt sx pc (mUn (fun x => x.toInt8.toInt32) nx) := by
  refine ⟨?_, ?_⟩
  · intro w p l e R s m args below meth c cells slots Q CM go ret L st μ hC hR hM h hg hr ls H locs hl hH
    subst hn
    obtain ⟨x, r, rfl, g9⟩ := pI_e h; clear h; have h := g9; clear g9
    exact lv_i2b hC.1 hC.2.1 hdg rfl (hg _ _ _ _ h ls H locs hl hH)
  · intro CM L st μ go go' ret ret' hm h1 h2 h
    obtain ⟨x, r, rfl, g9⟩ := pI_e h; clear h; have h := g9; clear g9
    exact h1 _ _ _ _ h

theorem ok_i2s (hdg : decode cc pc = .ok (.i2s, 1)) (hn : pc + 1 = nx) : Ok mi own cc nL lv rt sx pc (mUn (fun x => x.toInt16.toInt32) nx) := by
  refine ⟨?_, ?_⟩
  · intro w p l e R s m args below meth c cells slots Q CM go ret L st μ hC hR hM h hg hr ls H locs hl hH
    subst hn
    obtain ⟨x, r, rfl, g9⟩ := pI_e h; clear h; have h := g9; clear g9
    exact lv_i2s hC.1 hC.2.1 hdg rfl (hg _ _ _ _ h ls H locs hl hH)
  · intro CM L st μ go go' ret ret' hm h1 h2 h
    obtain ⟨x, r, rfl, g9⟩ := pI_e h; clear h; have h := g9; clear g9
    exact h1 _ _ _ _ h

theorem ok_i2l (hdg : decode cc pc = .ok (.i2l, 1)) (hn : pc + 1 = nx) : Ok mi own cc nL lv rt sx pc (mI2L nx) := by
  refine ⟨?_, ?_⟩
  · intro w p l e R s m args below meth c cells slots Q CM go ret L st μ hC hR hM h hg hr ls H locs hl hH
    subst hn
    obtain ⟨x, r, rfl, g9⟩ := pI_e h; clear h; have h := g9; clear g9
    exact lv_i2l hC.1 hC.2.1 hdg rfl (hg _ _ _ _ h ls H locs hl hH)
  · intro CM L st μ go go' ret ret' hm h1 h2 h
    obtain ⟨x, r, rfl, g9⟩ := pI_e h; clear h; have h := g9; clear g9
    exact h1 _ _ _ _ h

theorem ok_l2i (hdg : decode cc pc = .ok (.l2i, 1)) (hn : pc + 1 = nx) : Ok mi own cc nL lv rt sx pc (mL2I nx) := by
  refine ⟨?_, ?_⟩
  · intro w p l e R s m args below meth c cells slots Q CM go ret L st μ hC hR hM h hg hr ls H locs hl hH
    subst hn
    obtain ⟨x, r, rfl, g9⟩ := pL_e h; clear h; have h := g9; clear g9
    exact lv_l2i hC.1 hC.2.1 hdg rfl (hg _ _ _ _ h ls H locs hl hH)
  · intro CM L st μ go go' ret ret' hm h1 h2 h
    obtain ⟨x, r, rfl, g9⟩ := pL_e h; clear h; have h := g9; clear g9
    exact h1 _ _ _ _ h

theorem ok_ladd (hdg : decode cc pc = .ok (.ladd, 1)) (hn : pc + 1 = nx) : Ok mi own cc nL lv rt sx pc (mLBin (fun x y => x + y) nx) := by
  refine ⟨?_, ?_⟩
  · intro w p l e R s m args below meth c cells slots Q CM go ret L st μ hC hR hM h hg hr ls H locs hl hH
    subst hn
    obtain ⟨y, r, rfl, g9⟩ := pL_e h; clear h; have h := g9; clear g9
    obtain ⟨x, r, rfl, g9⟩ := pL_e h; clear h; have h := g9; clear g9
    exact lv_ladd hC.1 hC.2.1 hdg (hg _ _ _ _ h ls H locs hl hH)
  · intro CM L st μ go go' ret ret' hm h1 h2 h
    obtain ⟨y, r, rfl, g9⟩ := pL_e h; clear h; have h := g9; clear g9
    obtain ⟨x, r, rfl, g9⟩ := pL_e h; clear h; have h := g9; clear g9
    exact h1 _ _ _ _ h

theorem ok_lsub (hdg : decode cc pc = .ok (.lsub, 1)) (hn : pc + 1 = nx) : Ok mi own cc nL lv rt sx pc (mLBin (fun x y => x - y) nx) := by
  refine ⟨?_, ?_⟩
  · intro w p l e R s m args below meth c cells slots Q CM go ret L st μ hC hR hM h hg hr ls H locs hl hH
    subst hn
    obtain ⟨y, r, rfl, g9⟩ := pL_e h; clear h; have h := g9; clear g9
    obtain ⟨x, r, rfl, g9⟩ := pL_e h; clear h; have h := g9; clear g9
    exact lv_lsub hC.1 hC.2.1 hdg (hg _ _ _ _ h ls H locs hl hH)
  · intro CM L st μ go go' ret ret' hm h1 h2 h
    obtain ⟨y, r, rfl, g9⟩ := pL_e h; clear h; have h := g9; clear g9
    obtain ⟨x, r, rfl, g9⟩ := pL_e h; clear h; have h := g9; clear g9
    exact h1 _ _ _ _ h

theorem ok_lmul (hdg : decode cc pc = .ok (.lmul, 1)) (hn : pc + 1 = nx) : Ok mi own cc nL lv rt sx pc (mLBin (fun x y => x * y) nx) := by
  refine ⟨?_, ?_⟩
  · intro w p l e R s m args below meth c cells slots Q CM go ret L st μ hC hR hM h hg hr ls H locs hl hH
    subst hn
    obtain ⟨y, r, rfl, g9⟩ := pL_e h; clear h; have h := g9; clear g9
    obtain ⟨x, r, rfl, g9⟩ := pL_e h; clear h; have h := g9; clear g9
    exact lv_lmul hC.1 hC.2.1 hdg (hg _ _ _ _ h ls H locs hl hH)
  · intro CM L st μ go go' ret ret' hm h1 h2 h
    obtain ⟨y, r, rfl, g9⟩ := pL_e h; clear h; have h := g9; clear g9
    obtain ⟨x, r, rfl, g9⟩ := pL_e h; clear h; have h := g9; clear g9
    exact h1 _ _ _ _ h

theorem ok_ldiv (hdg : decode cc pc = .ok (.ldiv, 1)) (hn : pc + 1 = nx) : Ok mi own cc nL lv rt sx pc (mLDiv (fun x y => x / y) nx) := by
  refine ⟨?_, ?_⟩
  · intro w p l e R s m args below meth c cells slots Q CM go ret L st μ hC hR hM h hg hr ls H locs hl hH
    subst hn
    obtain ⟨y, r, rfl, g9⟩ := pL_e h; clear h; have h := g9; clear g9
    obtain ⟨x, r, rfl, g9⟩ := pL_e h; clear h; have h := g9; clear g9
    exact lv_ldiv hC.1 hC.2.1 hdg h.1 (hg _ _ _ _ h.2 ls H locs hl hH)
  · intro CM L st μ go go' ret ret' hm h1 h2 h
    obtain ⟨y, r, rfl, g9⟩ := pL_e h; clear h; have h := g9; clear g9
    obtain ⟨x, r, rfl, g9⟩ := pL_e h; clear h; have h := g9; clear g9
    exact ⟨h.1, h1 _ _ _ _ h.2⟩

theorem ok_lrem (hdg : decode cc pc = .ok (.lrem, 1)) (hn : pc + 1 = nx) : Ok mi own cc nL lv rt sx pc (mLDiv (fun x y => x - x / y * y) nx) := by
  refine ⟨?_, ?_⟩
  · intro w p l e R s m args below meth c cells slots Q CM go ret L st μ hC hR hM h hg hr ls H locs hl hH
    subst hn
    obtain ⟨y, r, rfl, g9⟩ := pL_e h; clear h; have h := g9; clear g9
    obtain ⟨x, r, rfl, g9⟩ := pL_e h; clear h; have h := g9; clear g9
    exact lv_lrem hC.1 hC.2.1 hdg h.1 (hg _ _ _ _ h.2 ls H locs hl hH)
  · intro CM L st μ go go' ret ret' hm h1 h2 h
    obtain ⟨y, r, rfl, g9⟩ := pL_e h; clear h; have h := g9; clear g9
    obtain ⟨x, r, rfl, g9⟩ := pL_e h; clear h; have h := g9; clear g9
    exact ⟨h.1, h1 _ _ _ _ h.2⟩

theorem ok_lcmp (hdg : decode cc pc = .ok (.lcmp, 1)) (hn : pc + 1 = nx) : Ok mi own cc nL lv rt sx pc (mLCmp nx) := by
  refine ⟨?_, ?_⟩
  · intro w p l e R s m args below meth c cells slots Q CM go ret L st μ hC hR hM h hg hr ls H locs hl hH
    subst hn
    obtain ⟨y, r, rfl, g9⟩ := pL_e h; clear h; have h := g9; clear g9
    obtain ⟨x, r, rfl, g9⟩ := pL_e h; clear h; have h := g9; clear g9
    exact W.lcmp hC.1 hC.2.1 hdg (hg _ _ _ _ h ls H locs hl hH)
  · intro CM L st μ go go' ret ret' hm h1 h2 h
    obtain ⟨y, r, rfl, g9⟩ := pL_e h; clear h; have h := g9; clear g9
    obtain ⟨x, r, rfl, g9⟩ := pL_e h; clear h; have h := g9; clear g9
    exact h1 _ _ _ _ h

theorem ok_dupR (hdg : decode cc pc = .ok (.dup, 1)) (hn : pc + 1 = nx) : Ok mi own cc nL lv rt sx pc (mDupR nx) := by
  refine ⟨?_, ?_⟩
  · intro w p l e R s m args below meth c cells slots Q CM go ret L st μ hC hR hM h hg hr ls H locs hl hH
    subst hn
    obtain ⟨x, r, rfl, g9⟩ := pR_e h; clear h; have h := g9; clear g9
    exact lv_dup hC.1 hC.2.1 hdg rfl (hg _ _ _ _ h ls H locs hl hH)
  · intro CM L st μ go go' ret ret' hm h1 h2 h
    obtain ⟨x, r, rfl, g9⟩ := pR_e h; clear h; have h := g9; clear g9
    exact h1 _ _ _ _ h

theorem ok_dupI (hdg : decode cc pc = .ok (.dup, 1)) (hn : pc + 1 = nx) : Ok mi own cc nL lv rt sx pc (mDupI nx) := by
  refine ⟨?_, ?_⟩
  · intro w p l e R s m args below meth c cells slots Q CM go ret L st μ hC hR hM h hg hr ls H locs hl hH
    subst hn
    obtain ⟨x, r, rfl, g9⟩ := pI_e h; clear h; have h := g9; clear g9
    exact lv_dup hC.1 hC.2.1 hdg rfl (hg _ _ _ _ h ls H locs hl hH)
  · intro CM L st μ go go' ret ret' hm h1 h2 h
    obtain ⟨x, r, rfl, g9⟩ := pI_e h; clear h; have h := g9; clear g9
    exact h1 _ _ _ _ h

theorem ok_dup2 (hdg : decode cc pc = .ok (.dup2, 1)) (hn : pc + 1 = nx) : Ok mi own cc nL lv rt sx pc (mDup2 nx) := by
  refine ⟨?_, ?_⟩
  · intro w p l e R s m args below meth c cells slots Q CM go ret L st μ hC hR hM h hg hr ls H locs hl hH
    subst hn
    obtain ⟨x, r, rfl, g9⟩ := pI_e h; clear h; have h := g9; clear g9
    obtain ⟨a, r, rfl, g9⟩ := pR_e h; clear h; have h := g9; clear g9
    exact lv_dup2_11 hC.1 hC.2.1 hdg rfl rfl (hg _ _ _ _ h ls H locs hl hH)
  · intro CM L st μ go go' ret ret' hm h1 h2 h
    obtain ⟨x, r, rfl, g9⟩ := pI_e h; clear h; have h := g9; clear g9
    obtain ⟨a, r, rfl, g9⟩ := pR_e h; clear h; have h := g9; clear g9
    exact h1 _ _ _ _ h

theorem ok_if_eq {off : Int} {tgt : Nat} (hdg : decode cc pc = .ok (.ifCond .eq off, 3)) (ht : (pc : Int) + off = (tgt : Int)) (hn : pc + 3 = nx) : Ok mi own cc nL lv rt sx pc (mIf (fun x => x = 0) tgt nx) := by
  refine ⟨?_, ?_⟩
  · intro w p l e R s m args below meth c cells slots Q CM go ret L st μ hC hR hM h hg hr ls H locs hl hH
    subst hn
    obtain ⟨x, r, rfl, g9⟩ := pI_e h; clear h; have h := g9; clear g9
    exact lv_if_eq hC.1 hC.2.1 hdg ht (fun q => hg _ _ _ _ (h.1 q) ls H locs hl hH) (fun q => hg _ _ _ _ (h.2 q) ls H locs hl hH)
  · intro CM L st μ go go' ret ret' hm h1 h2 h
    obtain ⟨x, r, rfl, g9⟩ := pI_e h; clear h; have h := g9; clear g9
    exact ⟨fun q => h1 _ _ _ _ (h.1 q), fun q => h1 _ _ _ _ (h.2 q)⟩

theorem ok_if_ne {off : Int} {tgt : Nat} (hdg : decode cc pc = .ok (.ifCond .ne off, 3)) (ht : (pc : Int) + off = (tgt : Int)) (hn : pc + 3 = nx) : Ok mi own cc nL lv rt sx pc (mIfN (fun x => x = 0) tgt nx) := by
  refine ⟨?_, ?_⟩
  · intro w p l e R s m args below meth c cells slots Q CM go ret L st μ hC hR hM h hg hr ls H locs hl hH
    subst hn
    obtain ⟨x, r, rfl, g9⟩ := pI_e h; clear h; have h := g9; clear g9
    exact lv_if_ne hC.1 hC.2.1 hdg ht (fun q => hg _ _ _ _ (h.1 q) ls H locs hl hH) (fun q => hg _ _ _ _ (h.2 q) ls H locs hl hH)
  · intro CM L st μ go go' ret ret' hm h1 h2 h
    obtain ⟨x, r, rfl, g9⟩ := pI_e h; clear h; have h := g9; clear g9
    exact ⟨fun q => h1 _ _ _ _ (h.1 q), fun q => h1 _ _ _ _ (h.2 q)⟩

theorem ok_if_lt {off : Int} {tgt : Nat} (hdg : decode cc pc = .ok (.ifCond .lt off, 3)) (ht : (pc : Int) + off = (tgt : Int)) (hn : pc + 3 = nx) : Ok mi own cc nL lv rt sx pc (mIf (fun x => x < 0) tgt nx) := by
  refine ⟨?_, ?_⟩
  · intro w p l e R s m args below meth c cells slots Q CM go ret L st μ hC hR hM h hg hr ls H locs hl hH
    subst hn
    obtain ⟨x, r, rfl, g9⟩ := pI_e h; clear h; have h := g9; clear g9
    exact lv_if_lt hC.1 hC.2.1 hdg ht (fun q => hg _ _ _ _ (h.1 q) ls H locs hl hH) (fun q => hg _ _ _ _ (h.2 q) ls H locs hl hH)
  · intro CM L st μ go go' ret ret' hm h1 h2 h
    obtain ⟨x, r, rfl, g9⟩ := pI_e h; clear h; have h := g9; clear g9
    exact ⟨fun q => h1 _ _ _ _ (h.1 q), fun q => h1 _ _ _ _ (h.2 q)⟩

theorem ok_if_ge {off : Int} {tgt : Nat} (hdg : decode cc pc = .ok (.ifCond .ge off, 3)) (ht : (pc : Int) + off = (tgt : Int)) (hn : pc + 3 = nx) : Ok mi own cc nL lv rt sx pc (mIf (fun x => 0 ≤ x) tgt nx) := by
  refine ⟨?_, ?_⟩
  · intro w p l e R s m args below meth c cells slots Q CM go ret L st μ hC hR hM h hg hr ls H locs hl hH
    subst hn
    obtain ⟨x, r, rfl, g9⟩ := pI_e h; clear h; have h := g9; clear g9
    exact lv_if_ge hC.1 hC.2.1 hdg ht (fun q => hg _ _ _ _ (h.1 q) ls H locs hl hH) (fun q => hg _ _ _ _ (h.2 q) ls H locs hl hH)
  · intro CM L st μ go go' ret ret' hm h1 h2 h
    obtain ⟨x, r, rfl, g9⟩ := pI_e h; clear h; have h := g9; clear g9
    exact ⟨fun q => h1 _ _ _ _ (h.1 q), fun q => h1 _ _ _ _ (h.2 q)⟩

theorem ok_if_gt {off : Int} {tgt : Nat} (hdg : decode cc pc = .ok (.ifCond .gt off, 3)) (ht : (pc : Int) + off = (tgt : Int)) (hn : pc + 3 = nx) : Ok mi own cc nL lv rt sx pc (mIf (fun x => 0 < x) tgt nx) := by
  refine ⟨?_, ?_⟩
  · intro w p l e R s m args below meth c cells slots Q CM go ret L st μ hC hR hM h hg hr ls H locs hl hH
    subst hn
    obtain ⟨x, r, rfl, g9⟩ := pI_e h; clear h; have h := g9; clear g9
    exact lv_if_gt hC.1 hC.2.1 hdg ht (fun q => hg _ _ _ _ (h.1 q) ls H locs hl hH) (fun q => hg _ _ _ _ (h.2 q) ls H locs hl hH)
  · intro CM L st μ go go' ret ret' hm h1 h2 h
    obtain ⟨x, r, rfl, g9⟩ := pI_e h; clear h; have h := g9; clear g9
    exact ⟨fun q => h1 _ _ _ _ (h.1 q), fun q => h1 _ _ _ _ (h.2 q)⟩

theorem ok_if_le {off : Int} {tgt : Nat} (hdg : decode cc pc = .ok (.ifCond .le off, 3)) (ht : (pc : Int) + off = (tgt : Int)) (hn : pc + 3 = nx) : Ok mi own cc nL lv rt sx pc (mIf (fun x => x ≤ 0) tgt nx) := by
  refine ⟨?_, ?_⟩
  · intro w p l e R s m args below meth c cells slots Q CM go ret L st μ hC hR hM h hg hr ls H locs hl hH
    subst hn
    obtain ⟨x, r, rfl, g9⟩ := pI_e h; clear h; have h := g9; clear g9
    exact lv_if_le hC.1 hC.2.1 hdg ht (fun q => hg _ _ _ _ (h.1 q) ls H locs hl hH) (fun q => hg _ _ _ _ (h.2 q) ls H locs hl hH)
  · intro CM L st μ go go' ret ret' hm h1 h2 h
    obtain ⟨x, r, rfl, g9⟩ := pI_e h; clear h; have h := g9; clear g9
    exact ⟨fun q => h1 _ _ _ _ (h.1 q), fun q => h1 _ _ _ _ (h.2 q)⟩

theorem ok_cp_eq {off : Int} {tgt : Nat} (hdg : decode cc pc = .ok (.if_icmp .eq off, 3)) (ht : (pc : Int) + off = (tgt : Int)) (hn : pc + 3 = nx) : Ok mi own cc nL lv rt sx pc (mCp (fun x y => x = y) tgt nx) := by
  refine ⟨?_, ?_⟩
  · intro w p l e R s m args below meth c cells slots Q CM go ret L st μ hC hR hM h hg hr ls H locs hl hH
    subst hn
    obtain ⟨y, r, rfl, g9⟩ := pI_e h; clear h; have h := g9; clear g9
    obtain ⟨x, r, rfl, g9⟩ := pI_e h; clear h; have h := g9; clear g9
    exact lv_icmp_eq hC.1 hC.2.1 hdg ht (fun q => hg _ _ _ _ (h.1 q) ls H locs hl hH) (fun q => hg _ _ _ _ (h.2 q) ls H locs hl hH)
  · intro CM L st μ go go' ret ret' hm h1 h2 h
    obtain ⟨y, r, rfl, g9⟩ := pI_e h; clear h; have h := g9; clear g9
    obtain ⟨x, r, rfl, g9⟩ := pI_e h; clear h; have h := g9; clear g9
    exact ⟨fun q => h1 _ _ _ _ (h.1 q), fun q => h1 _ _ _ _ (h.2 q)⟩

theorem ok_cp_ne {off : Int} {tgt : Nat} (hdg : decode cc pc = .ok (.if_icmp .ne off, 3)) (ht : (pc : Int) + off = (tgt : Int)) (hn : pc + 3 = nx) : Ok mi own cc nL lv rt sx pc (mCpN (fun x y => x = y) tgt nx) := by
  refine ⟨?_, ?_⟩
  · intro w p l e R s m args below meth c cells slots Q CM go ret L st μ hC hR hM h hg hr ls H locs hl hH
    subst hn
    obtain ⟨y, r, rfl, g9⟩ := pI_e h; clear h; have h := g9; clear g9
    obtain ⟨x, r, rfl, g9⟩ := pI_e h; clear h; have h := g9; clear g9
    exact lv_icmp_ne hC.1 hC.2.1 hdg ht (fun q => hg _ _ _ _ (h.1 q) ls H locs hl hH) (fun q => hg _ _ _ _ (h.2 q) ls H locs hl hH)
  · intro CM L st μ go go' ret ret' hm h1 h2 h
    obtain ⟨y, r, rfl, g9⟩ := pI_e h; clear h; have h := g9; clear g9
    obtain ⟨x, r, rfl, g9⟩ := pI_e h; clear h; have h := g9; clear g9
    exact ⟨fun q => h1 _ _ _ _ (h.1 q), fun q => h1 _ _ _ _ (h.2 q)⟩

theorem ok_cp_lt {off : Int} {tgt : Nat} (hdg : decode cc pc = .ok (.if_icmp .lt off, 3)) (ht : (pc : Int) + off = (tgt : Int)) (hn : pc + 3 = nx) : Ok mi own cc nL lv rt sx pc (mCp (fun x y => x < y) tgt nx) := by
  refine ⟨?_, ?_⟩
  · intro w p l e R s m args below meth c cells slots Q CM go ret L st μ hC hR hM h hg hr ls H locs hl hH
    subst hn
    obtain ⟨y, r, rfl, g9⟩ := pI_e h; clear h; have h := g9; clear g9
    obtain ⟨x, r, rfl, g9⟩ := pI_e h; clear h; have h := g9; clear g9
    exact lv_icmp_lt hC.1 hC.2.1 hdg ht (fun q => hg _ _ _ _ (h.1 q) ls H locs hl hH) (fun q => hg _ _ _ _ (h.2 q) ls H locs hl hH)
  · intro CM L st μ go go' ret ret' hm h1 h2 h
    obtain ⟨y, r, rfl, g9⟩ := pI_e h; clear h; have h := g9; clear g9
    obtain ⟨x, r, rfl, g9⟩ := pI_e h; clear h; have h := g9; clear g9
    exact ⟨fun q => h1 _ _ _ _ (h.1 q), fun q => h1 _ _ _ _ (h.2 q)⟩

theorem ok_cp_ge {off : Int} {tgt : Nat} (hdg : decode cc pc = .ok (.if_icmp .ge off, 3)) (ht : (pc : Int) + off = (tgt : Int)) (hn : pc + 3 = nx) : Ok mi own cc nL lv rt sx pc (mCp (fun x y => y ≤ x) tgt nx) := by
  refine ⟨?_, ?_⟩
  · intro w p l e R s m args below meth c cells slots Q CM go ret L st μ hC hR hM h hg hr ls H locs hl hH
    subst hn
    obtain ⟨y, r, rfl, g9⟩ := pI_e h; clear h; have h := g9; clear g9
    obtain ⟨x, r, rfl, g9⟩ := pI_e h; clear h; have h := g9; clear g9
    exact lv_icmp_ge hC.1 hC.2.1 hdg ht (fun q => hg _ _ _ _ (h.1 q) ls H locs hl hH) (fun q => hg _ _ _ _ (h.2 q) ls H locs hl hH)
  · intro CM L st μ go go' ret ret' hm h1 h2 h
    obtain ⟨y, r, rfl, g9⟩ := pI_e h; clear h; have h := g9; clear g9
    obtain ⟨x, r, rfl, g9⟩ := pI_e h; clear h; have h := g9; clear g9
    exact ⟨fun q => h1 _ _ _ _ (h.1 q), fun q => h1 _ _ _ _ (h.2 q)⟩

theorem ok_cp_gt {off : Int} {tgt : Nat} (hdg : decode cc pc = .ok (.if_icmp .gt off, 3)) (ht : (pc : Int) + off = (tgt : Int)) (hn : pc + 3 = nx) : Ok mi own cc nL lv rt sx pc (mCp (fun x y => y < x) tgt nx) := by
  refine ⟨?_, ?_⟩
  · intro w p l e R s m args below meth c cells slots Q CM go ret L st μ hC hR hM h hg hr ls H locs hl hH
    subst hn
    obtain ⟨y, r, rfl, g9⟩ := pI_e h; clear h; have h := g9; clear g9
    obtain ⟨x, r, rfl, g9⟩ := pI_e h; clear h; have h := g9; clear g9
    exact lv_icmp_gt hC.1 hC.2.1 hdg ht (fun q => hg _ _ _ _ (h.1 q) ls H locs hl hH) (fun q => hg _ _ _ _ (h.2 q) ls H locs hl hH)
  · intro CM L st μ go go' ret ret' hm h1 h2 h
    obtain ⟨y, r, rfl, g9⟩ := pI_e h; clear h; have h := g9; clear g9
    obtain ⟨x, r, rfl, g9⟩ := pI_e h; clear h; have h := g9; clear g9
    exact ⟨fun q => h1 _ _ _ _ (h.1 q), fun q => h1 _ _ _ _ (h.2 q)⟩

theorem ok_cp_le {off : Int} {tgt : Nat} (hdg : decode cc pc = .ok (.if_icmp .le off, 3)) (ht : (pc : Int) + off = (tgt : Int)) (hn : pc + 3 = nx) : Ok mi own cc nL lv rt sx pc (mCp (fun x y => x ≤ y) tgt nx) := by
  refine ⟨?_, ?_⟩
  · intro w p l e R s m args below meth c cells slots Q CM go ret L st μ hC hR hM h hg hr ls H locs hl hH
    subst hn
    obtain ⟨y, r, rfl, g9⟩ := pI_e h; clear h; have h := g9; clear g9
    obtain ⟨x, r, rfl, g9⟩ := pI_e h; clear h; have h := g9; clear g9
    exact lv_icmp_le hC.1 hC.2.1 hdg ht (fun q => hg _ _ _ _ (h.1 q) ls H locs hl hH) (fun q => hg _ _ _ _ (h.2 q) ls H locs hl hH)
  · intro CM L st μ go go' ret ret' hm h1 h2 h
    obtain ⟨y, r, rfl, g9⟩ := pI_e h; clear h; have h := g9; clear g9
    obtain ⟨x, r, rfl, g9⟩ := pI_e h; clear h; have h := g9; clear g9
    exact ⟨fun q => h1 _ _ _ _ (h.1 q), fun q => h1 _ _ _ _ (h.2 q)⟩

theorem ok_goto {off : Int} {tgt : Nat} (hdg : decode cc pc = .ok (.goto off, 3)) (ht : (pc : Int) + off = (tgt : Int)) : Ok mi own cc nL lv rt sx pc (mGoto tgt) := by
  refine ⟨?_, ?_⟩
  · intro w p l e R s m args below meth c cells slots Q CM go ret L st μ hC hR hM h hg hr ls H locs hl hH
    exact lv_goto hC.1 hC.2.1 hdg ht (hg _ _ _ _ h ls H locs hl hH)
  · intro CM L st μ go go' ret ret' hm h1 h2 h
    exact h1 _ _ _ _ h

theorem ok_getI {C : String} {T : u_T} {N ci j idx : Nat} (hdg : decode cc pc = .ok (.getfield idx, 3)) (hc : vwCl[ci]? = some (C, T, N)) (hin : ∀ x ∈ u_ws C T N, x ∈ tW) (hj : j < N) (hN : nf ci = N) (hl0 : Cond.fieldLink own idx (T j).1 (T j).2.1 (T j).2.2.1 ∈ lw_tbl) (hr0 : rf ci j = false) (hn : pc + 3 = nx) : Ok mi own cc nL lv rt sx pc (mGetI ci j nx) := by
  refine ⟨?_, ?_⟩
  · intro w p l e R s m args below meth c cells slots Q CM go ret L st μ hC hR hM h hg hr ls H locs hl hH
    subst hn
    subst hN
    obtain ⟨k, r, rfl, g9⟩ := pR_e h; clear h; have h := g9; clear g9
    obtain ⟨hk, h⟩ := cond_e h
    have hk := beq_e hk
    have h9 : ci < 9 := by have := (List.getElem?_eq_some_iff.mp hc).1; simpa using this
    have hlt : k < 291 := ob_lt (by rw [hk]; exact h9)
    have he := wl_get w μ hlt
    rw [ent_o w (μ k) hk h9] at he
    show W _ _ _ _ _ _ _ _ _ _ _ _ _ _ _ (F0 m pc ls (.ref (rr w k) :: r.map (sv w)))
    rw [rr_lt w hlt]
    exact va_get (D := w.1) (ci := ci) (v := .int (μ k j)) (C := C) (T := T) hC.1 hC.2.1 hC.2.2.2.2.1 hin hC.2.2.2.1 hC.2.2.2.2.2.1 hH.1 k he hc j hj (hC.2.2.2.2.1 _ (tW_of hl0 rfl)) (fun _ h9 => h9) (by simp [hj, fv, hk, hr0]) hdg (hg _ _ _ _ h ls H locs hl hH)
  · intro CM L st μ go go' ret ret' hm h1 h2 h
    obtain ⟨k, r, rfl, g9⟩ := pR_e h; clear h; have h := g9; clear g9
    obtain ⟨hk, h⟩ := cond_e h
    show cond (Nat.beq (ob k) ci) _ False
    rw [hk]
    exact h1 _ _ _ _ h

theorem ok_getR {C : String} {T : u_T} {N ci j idx : Nat} (hdg : decode cc pc = .ok (.getfield idx, 3)) (hc : vwCl[ci]? = some (C, T, N)) (hin : ∀ x ∈ u_ws C T N, x ∈ tW) (hj : j < N) (hN : nf ci = N) (hl0 : Cond.fieldLink own idx (T j).1 (T j).2.1 (T j).2.2.1 ∈ lw_tbl) (hr0 : rf ci j = true) (hn : pc + 3 = nx) : Ok mi own cc nL lv rt sx pc (mGetR ci j nx) := by
  refine ⟨?_, ?_⟩
  · intro w p l e R s m args below meth c cells slots Q CM go ret L st μ hC hR hM h hg hr ls H locs hl hH
    subst hn
    subst hN
    obtain ⟨k, r, rfl, g9⟩ := pR_e h; clear h; have h := g9; clear g9
    obtain ⟨hk, h⟩ := cond_e h
    have hk := beq_e hk
    have h9 : ci < 9 := by have := (List.getElem?_eq_some_iff.mp hc).1; simpa using this
    have hlt : k < 291 := ob_lt (by rw [hk]; exact h9)
    have he := wl_get w μ hlt
    rw [ent_o w (μ k) hk h9] at he
    show W _ _ _ _ _ _ _ _ _ _ _ _ _ _ _ (F0 m pc ls (.ref (rr w k) :: r.map (sv w)))
    rw [rr_lt w hlt]
    exact va_get (D := w.1) (ci := ci) (v := .ref (rr w (tg k j))) (C := C) (T := T) hC.1 hC.2.1 hC.2.2.2.2.1 hin hC.2.2.2.1 hC.2.2.2.2.2.1 hH.1 k he hc j hj (hC.2.2.2.2.1 _ (tW_of hl0 rfl)) (fun _ h9 => h9) (by simp [hj, fv, hk, hr0]) hdg (hg _ _ _ _ h ls H locs hl hH)
  · intro CM L st μ go go' ret ret' hm h1 h2 h
    obtain ⟨k, r, rfl, g9⟩ := pR_e h; clear h; have h := g9; clear g9
    obtain ⟨hk, h⟩ := cond_e h
    show cond (Nat.beq (ob k) ci) _ False
    rw [hk]
    exact h1 _ _ _ _ h

theorem ok_putI {C : String} {T : u_T} {N ci j idx : Nat} (hdg : decode cc pc = .ok (.putfield idx, 3)) (hc : vwCl[ci]? = some (C, T, N)) (hin : ∀ x ∈ u_ws C T N, x ∈ tW) (ty0 : Nat → FieldType) (hty : ∀ k, k < N → parseFieldDescriptor (T k).2.2.1 = some (ty0 k)) (hnm : ∀ a, a < N → ∀ b, b < N → a ≠ b → (T a).2.1 ≠ (T b).2.1) (hj : j < N) (hN : nf ci = N) (hl0 : Cond.fieldLink own idx (T j).1 (T j).2.1 (T j).2.2.1 ∈ lw_tbl) (hr0 : rf ci j = false) (hfin : (T j).2.2.2 = false) (hty0 : ty0 j = .int) (hn : pc + 3 = nx) : Ok mi own cc nL lv rt sx pc (mPutI ci j nx) := by
  refine ⟨?_, ?_⟩
  · intro w p l e R s m args below meth c cells slots Q CM go ret L st μ hC hR hM h hg hr ls H locs hl hH
    subst hn
    subst hN
    obtain ⟨v, r, rfl, g9⟩ := pI_e h; clear h; have h := g9; clear g9
    obtain ⟨k, r, rfl, g9⟩ := pR_e h; clear h; have h := g9; clear g9
    obtain ⟨hk, h⟩ := cond_e h
    have hk := beq_e hk
    have h9 : ci < 9 := by have := (List.getElem?_eq_some_iff.mp hc).1; simpa using this
    have hlt : k < 291 := ob_lt (by rw [hk]; exact h9)
    have he := wl_get w μ hlt
    rw [ent_o w (μ k) hk h9] at he
    have hset : ((List.range (nf ci)).map (fv w k (μ k))).set j (.int v) = (List.range (nf ci)).map (fv w k (upd (μ k) j v)) := by
      apply List.ext_getElem?
      intro i
      by_cases hi : i = j
      · subst hi
        rw [List.getElem?_set_self (by simpa using hj)]
        simp [hj, fv, hk, hr0, upd]
      · rw [List.getElem?_set_ne (Ne.symm hi)]
        by_cases hl2 : i < nf ci
        · simp [hl2, fv, upd, hi]
        · simp [hl2]
    show W _ _ _ _ _ _ _ _ _ _ _ _ _ _ _ (F0 m pc ls (.int v :: .ref (rr w k) :: r.map (sv w)))
    rw [rr_lt w hlt]
    refine va_put (D := w.1) (ci := ci) (v := .int v) (ty := .int) (C := C) (T := T) hC.1 hC.2.1 hC.2.2.2.2.1 hin ty0 hty hnm hC.2.2.2.1 hC.2.2.2.2.2.1 hH.1 (wl_D w μ) hH.2 k he hc j hj (hC.2.2.2.2.1 _ (tW_of hl0 rfl)) (fun _ h9 => h9) hfin (by rw [hty j hj, hty0]) rfl rfl (by simpa using hj) hdg (fun H1 locs1 hP hD hS => ?_)
    rw [hset, ← ent_o w (upd (μ k) j v) hk h9, wl_set w μ hlt] at hP
    exact hg _ _ _ _ h ls H1 locs1 hl ⟨hP, hS⟩
  · intro CM L st μ go go' ret ret' hm h1 h2 h
    obtain ⟨v, r, rfl, g9⟩ := pI_e h; clear h; have h := g9; clear g9
    obtain ⟨k, r, rfl, g9⟩ := pR_e h; clear h; have h := g9; clear g9
    obtain ⟨hk, h⟩ := cond_e h
    show cond (Nat.beq (ob k) ci) _ False
    rw [hk]
    exact h1 _ _ _ _ h

theorem ok_putZ {C : String} {T : u_T} {N ci j idx : Nat} (hdg : decode cc pc = .ok (.putfield idx, 3)) (hc : vwCl[ci]? = some (C, T, N)) (hin : ∀ x ∈ u_ws C T N, x ∈ tW) (ty0 : Nat → FieldType) (hty : ∀ k, k < N → parseFieldDescriptor (T k).2.2.1 = some (ty0 k)) (hnm : ∀ a, a < N → ∀ b, b < N → a ≠ b → (T a).2.1 ≠ (T b).2.1) (hj : j < N) (hN : nf ci = N) (hl0 : Cond.fieldLink own idx (T j).1 (T j).2.1 (T j).2.2.1 ∈ lw_tbl) (hr0 : rf ci j = false) (hfin : (T j).2.2.2 = false) (hty0 : ty0 j = .boolean) (hn : pc + 3 = nx) : Ok mi own cc nL lv rt sx pc (mPutZ ci j nx) := by
  refine ⟨?_, ?_⟩
  · intro w p l e R s m args below meth c cells slots Q CM go ret L st μ hC hR hM h hg hr ls H locs hl hH
    subst hn
    subst hN
    obtain ⟨v, r, rfl, g9⟩ := pI_e h; clear h; have h := g9; clear g9
    obtain ⟨k, r, rfl, g9⟩ := pR_e h; clear h; have h := g9; clear g9
    obtain ⟨hk, h⟩ := cond_e h
    have hk := beq_e hk
    have h9 : ci < 9 := by have := (List.getElem?_eq_some_iff.mp hc).1; simpa using this
    have hlt : k < 291 := ob_lt (by rw [hk]; exact h9)
    have he := wl_get w μ hlt
    rw [ent_o w (μ k) hk h9] at he
    have hset : ((List.range (nf ci)).map (fv w k (μ k))).set j (.int v) = (List.range (nf ci)).map (fv w k (upd (μ k) j v)) := by
      apply List.ext_getElem?
      intro i
      by_cases hi : i = j
      · subst hi
        rw [List.getElem?_set_self (by simpa using hj)]
        simp [hj, fv, hk, hr0, upd]
      · rw [List.getElem?_set_ne (Ne.symm hi)]
        by_cases hl2 : i < nf ci
        · simp [hl2, fv, upd, hi]
        · simp [hl2]
    show W _ _ _ _ _ _ _ _ _ _ _ _ _ _ _ (F0 m pc ls (.int v :: .ref (rr w k) :: r.map (sv w)))
    rw [rr_lt w hlt]
    refine va_put (D := w.1) (ci := ci) (v := .int v) (ty := .boolean) (C := C) (T := T) hC.1 hC.2.1 hC.2.2.2.2.1 hin ty0 hty hnm hC.2.2.2.1 hC.2.2.2.2.2.1 hH.1 (wl_D w μ) hH.2 k he hc j hj (hC.2.2.2.2.1 _ (tW_of hl0 rfl)) (fun _ h9 => h9) hfin (by rw [hty j hj, hty0]) (by rcases h.1 with rfl | rfl <;> rfl) (by rcases h.1 with rfl | rfl <;> rfl) (by simpa using hj) hdg (fun H1 locs1 hP hD hS => ?_)
    rw [hset, ← ent_o w (upd (μ k) j v) hk h9, wl_set w μ hlt] at hP
    exact hg _ _ _ _ h.2 ls H1 locs1 hl ⟨hP, hS⟩
  · intro CM L st μ go go' ret ret' hm h1 h2 h
    obtain ⟨v, r, rfl, g9⟩ := pI_e h; clear h; have h := g9; clear g9
    obtain ⟨k, r, rfl, g9⟩ := pR_e h; clear h; have h := g9; clear g9
    obtain ⟨hk, h⟩ := cond_e h
    show cond (Nat.beq (ob k) ci) _ False
    rw [hk]
    exact ⟨h.1, h1 _ _ _ _ h.2⟩

theorem ok_iaload (hdg : decode cc pc = .ok (.iaload, 1)) (hn : pc + 1 = nx) : Ok mi own cc nL lv rt sx pc (mALd nx) := by
  refine ⟨?_, ?_⟩
  · intro w p l e R s m args below meth c cells slots Q CM go ret L st μ hC hR hM h hg hr ls H locs hl hH
    subst hn
    obtain ⟨i, r, rfl, g9⟩ := pI_e h; clear h; have h := g9; clear g9
    obtain ⟨k, r, rfl, g9⟩ := pR_e h; clear h; have h := g9; clear g9
    obtain ⟨hk, h⟩ := cond_e h
    have hk := beq_e hk
    have hlt : k < 291 := (ak_e hk (by decide)).2
    have he := wl_get w μ hlt
    rw [ent_1 w (μ k) hk] at he
    show W _ _ _ _ _ _ _ _ _ _ _ _ _ _ _ (F0 m pc ls (.int i :: .ref (rr w k) :: r.map (sv w)))
    rw [rr_lt w hlt]
    exact va_iald hC.1 hC.2.1 hC.2.2.2.2.2.1 hH.1 k 0 he rfl h.1 hdg (hg _ _ _ _ h.2 ls H locs hl hH)
  · intro CM L st μ go go' ret ret' hm h1 h2 h
    obtain ⟨i, r, rfl, g9⟩ := pI_e h; clear h; have h := g9; clear g9
    obtain ⟨k, r, rfl, g9⟩ := pR_e h; clear h; have h := g9; clear g9
    obtain ⟨hk, h⟩ := cond_e h
    show cond (Nat.beq (ak k) 1) _ False
    rw [hk]
    exact ⟨h.1, h1 _ _ _ _ h.2⟩

theorem ok_baload (hdg : decode cc pc = .ok (.baload, 1)) (hn : pc + 1 = nx) : Ok mi own cc nL lv rt sx pc (mZLd nx) := by
  refine ⟨?_, ?_⟩
  · intro w p l e R s m args below meth c cells slots Q CM go ret L st μ hC hR hM h hg hr ls H locs hl hH
    subst hn
    obtain ⟨i, r, rfl, g9⟩ := pI_e h; clear h; have h := g9; clear g9
    obtain ⟨k, r, rfl, g9⟩ := pR_e h; clear h; have h := g9; clear g9
    obtain ⟨hk, h⟩ := cond_e h
    have hk := beq_e hk
    have hlt : k < 291 := (ak_e hk (by decide)).2
    have he := wl_get w μ hlt
    rw [ent_2 w (μ k) hk] at he
    show W _ _ _ _ _ _ _ _ _ _ _ _ _ _ _ (F0 m pc ls (.int i :: .ref (rr w k) :: r.map (sv w)))
    rw [rr_lt w hlt]
    exact va_zald hC.1 hC.2.1 hC.2.2.2.2.2.1 hH.1 k 1 he rfl h.1 hdg (hg _ _ _ _ h.2 ls H locs hl hH)
  · intro CM L st μ go go' ret ret' hm h1 h2 h
    obtain ⟨i, r, rfl, g9⟩ := pI_e h; clear h; have h := g9; clear g9
    obtain ⟨k, r, rfl, g9⟩ := pR_e h; clear h; have h := g9; clear g9
    obtain ⟨hk, h⟩ := cond_e h
    show cond (Nat.beq (ak k) 2) _ False
    rw [hk]
    exact ⟨h.1, h1 _ _ _ _ h.2⟩

theorem ok_aaload (hdg : decode cc pc = .ok (.aaload, 1)) (hn : pc + 1 = nx) : Ok mi own cc nL lv rt sx pc (mRLd nx) := by
  refine ⟨?_, ?_⟩
  · intro w p l e R s m args below meth c cells slots Q CM go ret L st μ hC hR hM h hg hr ls H locs hl hH
    subst hn
    obtain ⟨i, r, rfl, g9⟩ := pI_e h; clear h; have h := g9; clear g9
    obtain ⟨k, r, rfl, g9⟩ := pR_e h; clear h; have h := g9; clear g9
    obtain ⟨hk, h⟩ := cond_e h
    have hk := beq_e hk
    have hlt : k < 291 := (ak_e hk (by decide)).2
    have he := wl_get w μ hlt
    rw [ent_3 w (μ k) hk] at he
    show W _ _ _ _ _ _ _ _ _ _ _ _ _ _ _ (F0 m pc ls (.int i :: .ref (rr w k) :: r.map (sv w)))
    rw [rr_lt w hlt]
    exact va_aldq hC.1 hC.2.1 hC.2.2.2.2.2.1 hH.1 k 2 he rfl h.1 hdg (hg _ _ _ _ h.2 ls H locs hl hH)
  · intro CM L st μ go go' ret ret' hm h1 h2 h
    obtain ⟨i, r, rfl, g9⟩ := pI_e h; clear h; have h := g9; clear g9
    obtain ⟨k, r, rfl, g9⟩ := pR_e h; clear h; have h := g9; clear g9
    obtain ⟨hk, h⟩ := cond_e h
    show cond (Nat.beq (ak k) 3) _ False
    rw [hk]
    exact ⟨h.1, h1 _ _ _ _ h.2⟩

theorem ok_iastore (hdg : decode cc pc = .ok (.iastore, 1)) (hn : pc + 1 = nx) : Ok mi own cc nL lv rt sx pc (mASt nx) := by
  refine ⟨?_, ?_⟩
  · intro w p l e R s m args below meth c cells slots Q CM go ret L st μ hC hR hM h hg hr ls H locs hl hH
    subst hn
    obtain ⟨v, r, rfl, g9⟩ := pI_e h; clear h; have h := g9; clear g9
    obtain ⟨i, r, rfl, g9⟩ := pI_e h; clear h; have h := g9; clear g9
    obtain ⟨k, r, rfl, g9⟩ := pR_e h; clear h; have h := g9; clear g9
    obtain ⟨hk, h⟩ := cond_e h
    have hk := beq_e hk
    have hlt : k < 291 := (ak_e hk (by decide)).2
    have he := wl_get w μ hlt
    rw [ent_1 w (μ k) hk] at he
    show W _ _ _ _ _ _ _ _ _ _ _ _ _ _ _ (F0 m pc ls (.int v :: .int i :: .ref (rr w k) :: r.map (sv w)))
    rw [rr_lt w hlt]
    refine va_iast hC.1 hC.2.1 hC.2.2.2.2.2.1 hH.1 (wl_D w μ) hH.2 k 0 he rfl h.1 hdg (fun H1 locs1 hP hD hS => ?_)
    rw [← ent_1 w _ hk, wl_set w μ hlt] at hP
    exact hg _ _ _ _ h.2 ls H1 locs1 hl ⟨hP, hS⟩
  · intro CM L st μ go go' ret ret' hm h1 h2 h
    obtain ⟨v, r, rfl, g9⟩ := pI_e h; clear h; have h := g9; clear g9
    obtain ⟨i, r, rfl, g9⟩ := pI_e h; clear h; have h := g9; clear g9
    obtain ⟨k, r, rfl, g9⟩ := pR_e h; clear h; have h := g9; clear g9
    obtain ⟨hk, h⟩ := cond_e h
    show cond (Nat.beq (ak k) 1) _ False
    rw [hk]
    exact ⟨h.1, h1 _ _ _ _ h.2⟩

theorem ok_bastore (hdg : decode cc pc = .ok (.bastore, 1)) (hn : pc + 1 = nx) : Ok mi own cc nL lv rt sx pc (mZSt nx) := by
  refine ⟨?_, ?_⟩
  · intro w p l e R s m args below meth c cells slots Q CM go ret L st μ hC hR hM h hg hr ls H locs hl hH
    subst hn
    obtain ⟨v, r, rfl, g9⟩ := pI_e h; clear h; have h := g9; clear g9
    obtain ⟨i, r, rfl, g9⟩ := pI_e h; clear h; have h := g9; clear g9
    obtain ⟨k, r, rfl, g9⟩ := pR_e h; clear h; have h := g9; clear g9
    obtain ⟨hk, h⟩ := cond_e h
    have hk := beq_e hk
    have hlt : k < 291 := (ak_e hk (by decide)).2
    have he := wl_get w μ hlt
    rw [ent_2 w (μ k) hk] at he
    show W _ _ _ _ _ _ _ _ _ _ _ _ _ _ _ (F0 m pc ls (.int v :: .int i :: .ref (rr w k) :: r.map (sv w)))
    rw [rr_lt w hlt]
    refine va_zast hC.1 hC.2.1 hC.2.2.2.2.2.1 hH.1 (wl_D w μ) hH.2 k 1 he rfl h.1 hdg (fun H1 locs1 hP hD hS => ?_)
    rw [show vp_nar .boolean v = v by rcases h.2.1 with rfl | rfl <;> rfl, ← ent_2 w _ hk, wl_set w μ hlt] at hP
    exact hg _ _ _ _ h.2.2 ls H1 locs1 hl ⟨hP, hS⟩
  · intro CM L st μ go go' ret ret' hm h1 h2 h
    obtain ⟨v, r, rfl, g9⟩ := pI_e h; clear h; have h := g9; clear g9
    obtain ⟨i, r, rfl, g9⟩ := pI_e h; clear h; have h := g9; clear g9
    obtain ⟨k, r, rfl, g9⟩ := pR_e h; clear h; have h := g9; clear g9
    obtain ⟨hk, h⟩ := cond_e h
    show cond (Nat.beq (ak k) 2) _ False
    rw [hk]
    exact ⟨h.1, h.2.1, h1 _ _ _ _ h.2.2⟩

theorem ok_alen (hdg : decode cc pc = .ok (.arraylength, 1)) (hn : pc + 1 = nx) : Ok mi own cc nL lv rt sx pc (mLen nx) := by
  refine ⟨?_, ?_⟩
  · intro w p l e R s m args below meth c cells slots Q CM go ret L st μ hC hR hM h hg hr ls H locs hl hH
    subst hn
    obtain ⟨k, r, rfl, g9⟩ := pR_e h; clear h; have h := g9; clear g9
    obtain ⟨hk, h⟩ := cond_e h
    have hk := beq_e hk
    have hlt : k < 291 := (ak_e hk (by decide)).2
    have he := wl_get w μ hlt
    rw [ent_1 w (μ k) hk] at he
    show W _ _ _ _ _ _ _ _ _ _ _ _ _ _ _ (F0 m pc ls (.ref (rr w k) :: r.map (sv w)))
    rw [rr_lt w hlt]
    exact va_alen hC.1 hC.2.1 hC.2.2.2.2.2.1 hH.1 k 0 he rfl rfl hdg (hg _ _ _ _ h ls H locs hl hH)
  · intro CM L st μ go go' ret ret' hm h1 h2 h
    obtain ⟨k, r, rfl, g9⟩ := pR_e h; clear h; have h := g9; clear g9
    obtain ⟨hk, h⟩ := cond_e h
    show cond (Nat.beq (ak k) 1) _ False
    rw [hk]
    exact h1 _ _ _ _ h

end STEPS

section SCRIPT
variable {mi : Nat → Mi} {own : String} {cc : ByteArray} {nL lv : Nat} {rt : Option FieldType} {pc nx Lx : Nat} {xs : Nat → Int32}

theorem ok_xld (hdg : decode cc pc = .ok (.iaload, 1)) (hn : pc + 1 = nx) : Ok mi own cc nL lv rt (some (Lx, xs)) pc (mXLd Lx xs nx) := by
  refine ⟨?_, ?_⟩
  · intro w p l e R s m args below meth c cells slots Q CM go ret L st μ hC hR hM h hg hr ls H locs hl hH
    subst hn
    obtain ⟨i, r, rfl, g9⟩ := pI_e h; clear h; have h := g9; clear g9
    obtain ⟨k, r, rfl, g9⟩ := pR_e h; clear h; have h := g9; clear g9
    obtain ⟨hk, h⟩ := cond_e h
    have hk := beq_e hk
    subst hk
    obtain ⟨hX, hbl, hbA⟩ := hC.2.2.2.2.2.2.2 _ rfl
    exact va_sld hC.1 hC.2.1 hX hbl (show ¬ (w.2.1 ≤ w.2.2.1) from Nat.not_le.mpr hbA) hH.2 h.1 hdg (hg _ _ _ _ h.2 ls H locs hl hH)
  · intro CM L st μ go go' ret ret' hm h1 h2 h
    obtain ⟨i, r, rfl, g9⟩ := pI_e h; clear h; have h := g9; clear g9
    obtain ⟨k, r, rfl, g9⟩ := pR_e h; clear h; have h := g9; clear g9
    obtain ⟨hk, h⟩ := cond_e h
    show cond (Nat.beq k 291) _ False
    rw [hk]
    exact ⟨h.1, h1 _ _ _ _ h.2⟩

theorem ok_xlen (hdg : decode cc pc = .ok (.arraylength, 1)) (hn : pc + 1 = nx) : Ok mi own cc nL lv rt (some (Lx, xs)) pc (mXLen Lx nx) := by
  refine ⟨?_, ?_⟩
  · intro w p l e R s m args below meth c cells slots Q CM go ret L st μ hC hR hM h hg hr ls H locs hl hH
    subst hn
    obtain ⟨k, r, rfl, g9⟩ := pR_e h; clear h; have h := g9; clear g9
    obtain ⟨hk, h⟩ := cond_e h
    have hk := beq_e hk
    subst hk
    obtain ⟨hX, hbl, hbA⟩ := hC.2.2.2.2.2.2.2 _ rfl
    exact va_slen hC.1 hC.2.1 hX hbl (show ¬ (w.2.1 ≤ w.2.2.1) from Nat.not_le.mpr hbA) hH.2 hdg (hg _ _ _ _ h ls H locs hl hH)
  · intro CM L st μ go go' ret ret' hm h1 h2 h
    obtain ⟨k, r, rfl, g9⟩ := pR_e h; clear h; have h := g9; clear g9
    obtain ⟨hk, h⟩ := cond_e h
    show cond (Nat.beq k 291) _ False
    rw [hk]
    exact h1 _ _ _ _ h

end SCRIPT
