section MACH
abbrev Mem : Type := (Nat → Nat → Int32) × (Nat → Int64)
def wr (μ : Mem) (c i : Nat) (v : Int32) : Mem := (fun d => if d = c then upd (μ.1 c) i v else μ.1 d, μ.2)
def wrL (μ : Mem) (i : Nat) (v : Int64) : Mem := (μ.1, vp_updL μ.2 i v)
abbrev Geo : Type := (Mem → va_W) × (Nat → Prop) × va_G × (ClassId × ClassId) × (Nat → Nat) × (Nat → Nat)
abbrev gW (G : Geo) : Mem → va_W := G.1
abbrev gA (G : Geo) : Nat → Prop := G.2.1
abbrev gD (G : Geo) : va_G := G.2.2.1
abbrev gT (G : Geo) : List (ClassId × FieldType) := [(G.2.2.2.1.1, .int), (G.2.2.2.1.2, .long)]
abbrev gK (G : Geo) : Nat → Nat := G.2.2.2.2.1
abbrev gV (G : Geo) : Nat → Nat := G.2.2.2.2.2
def sLen : List Nat := [2, 4, 3, 5, 1, 1]
def sByt : List (List Int32) := [[116, 46], [120, 33, 121, 46], [120, 63, 46], [91, 120, 61, 121, 93], [40], [48]]
def sIdx : List Nat := [117, 119, 121, 123, 125, 127]
def sTx : List String := ["t.", "x!y.", "x?.", "[x=y]", "(", "0"]
/-- what holds of the tables and of the String constants, at a state and a heap -/
def St (G : Geo) (U : State) (H : Heap) : Prop :=
  va_K (gD G) vwCl (gT G) U ∧ (∀ μ, va_D (gA G) (gW G μ)) ∧ (∀ w ∈ nestW, va_Nw w U) ∧ vk_S 6 sLen sByt (gK G) (gV G) (gA G) U H ∧ (∀ i, i < 6 → vk_R RX2 (sIdx.getD i 0) (sTx.getD i "") (gK G i) U) ∧
  va_Z "java/lang/String" "COMPACT_STRINGS" "Z" (.int 1) (gA G) U H ∧ True
theorem nestW_tab {w : Cond} (h : isNestW w = true) : w.onTables = true := by
  cases w <;> first | rfl | simp [isNestW] at h
theorem va_Nw_warm {w : Cond} {s U : State} (hn : isNestW w = true) (hW : s.WarmedH U.vm) (h : va_Nw w s) : va_Nw w U := by
  cases w <;> first | exact va_Nw.warmF hW h | exact va_Nw.warmM hW h | simp [isNestW] at hn
theorem St.calling {G : Geo} {U : State} {H : Heap} (h : St G U H) (g : JFrame) (mk : MethodId) (a : Array Value) : St G (U.calling g mk a) H :=
  ⟨va_K.moved (Vm.Alike.refl U.vm) h.1, h.2.1, fun w hw => va_Nw.same (u := U) (U := U.calling g mk a) (nestW_tab (nestW_ok hw)) rfl (h.2.2.1 w hw), vk_S.moved (Vm.Alike.refl U.vm) h.2.2.2.1, fun i hi => vk_R.same rfl (h.2.2.2.2.1 i hi),
    va_Z.moved (Vm.Alike.refl U.vm) h.2.2.2.2.2.1, trivial⟩
theorem St.step {G : Geo} {s U : State} {H : Heap} {locs : List Loc} (h : St G s s.heap) (hS : va_S (gA G) s.heap H locs) (hW : s.WarmedH U.vm) : St G U H :=
  ⟨va_K.moved hW.alike h.1, h.2.1, fun w hw => va_Nw_warm (nestW_ok hw) hW (h.2.2.1 w hw), vk_S.moved hW.alike (vk_S.kept h.2.2.2.1 hS.2.1), fun i hi => vk_R.warm hW (h.2.2.2.2.1 i hi),
    va_Z.moved hW.alike (va_Z.kept h.2.2.2.2.2.1 hS.2.1), trivial⟩
/-- locals by their places: what is held, or nothing known -/
def al : Nat → List (Option Value) → List (Nat × Value)
  | _, [] => []
  | k, none :: r => al (k + 1) r
  | k, some v :: r => (k, v) :: al (k + 1) r
theorem al_mem {lv : List (Option Value)} : ∀ {k j : Nat} {w : Value}, (j, w) ∈ al k lv ↔ ∃ i, j = k + i ∧ lv[i]? = some (some w) := by
  induction lv with
  | nil => intro k j w; simp [al]
  | cons x r ih =>
    intro k j w
    cases x with
    | none =>
      simp only [al, ih]
      constructor
      · rintro ⟨i, h1, h2⟩
        exact ⟨i + 1, by omega, by simpa using h2⟩
      · rintro ⟨i, h1, h2⟩
        cases i with
        | zero => simp at h2
        | succ i => exact ⟨i, by omega, by simpa using h2⟩
    | some v =>
      simp only [al, List.mem_cons, ih, Prod.mk.injEq]
      constructor
      · rintro (⟨h1, h2⟩ | ⟨i, h1, h2⟩)
        · exact ⟨0, by omega, by simp [h2]⟩
        · exact ⟨i + 1, by omega, by simpa using h2⟩
      · rintro ⟨i, h1, h2⟩
        cases i with
        | zero => left; simp at h2; exact ⟨by omega, h2.symm⟩
        | succ i => right; exact ⟨i, by omega, by simpa using h2⟩
theorem al_get {ls : Array Slot} {nL : Nat} {lv : List (Option Value)} (h : lv_has ls nL (al 0 lv)) {i : Nat} {v : Value} (hi : lv[i]? = some (some v)) : ls[i]? = some (.val v) :=
  h.2.2 (i, v) (al_mem.mpr ⟨i, by omega, hi⟩)
/-- the slot ahead holds no long -/
def ok1 (lv : List (Option Value)) : Nat → Bool
  | 0 => true
  | i + 1 => match lv[i]? with
    | some (some v) => v.category == 1
    | _ => true
theorem al_set1 {ls : Array Slot} {nL : Nat} {lv : List (Option Value)} {i : Nat} {v : Value} (hk : ok1 lv i = true) (h : lv_has ls nL ((i, v) :: (al 0 lv).filter (fun q => !(q.1 == i) && !(q.1 + 1 == i && q.2.category == 2)))) : lv_has ls nL (al 0 (lv.set i (some v))) := by
  refine ⟨h.1, h.2.1, fun q hq => ?_⟩
  obtain ⟨j, w⟩ := q
  obtain ⟨i', h1, h2⟩ := al_mem.mp hq
  have h1 : j = i' := by omega
  subst h1
  by_cases hij : j = i
  · subst hij
    have hl : j < lv.length := by
      have := (List.getElem?_eq_some_iff.mp h2).1
      simpa using this
    rw [List.getElem?_set_self hl] at h2
    cases h2
    exact h.2.2 _ List.mem_cons_self
  · rw [List.getElem?_set_ne (Ne.symm hij)] at h2
    refine h.2.2 _ (List.mem_cons_of_mem _ (List.mem_filter.mpr ⟨al_mem.mpr ⟨j, by omega, h2⟩, ?_⟩))
    simp only [Bool.and_eq_true, Bool.not_eq_true', beq_eq_false_iff_ne, ne_eq, Bool.and_eq_false_iff]
    refine ⟨hij, ?_⟩
    by_cases hj : j + 1 = i
    · right
      subst hj
      simp only [ok1, h2, beq_iff_eq] at hk
      omega
    · left; exact hj
theorem al_set2 {ls : Array Slot} {nL : Nat} {lv : List (Option Value)} {i : Nat} {v : Value} (hk : ok1 lv i = true) (h : lv_has ls nL ((i, v) :: (al 0 lv).filter (fun q => !(q.1 == i) && (!(q.1 == i + 1) && !(q.1 + 1 == i && q.2.category == 2))))) : lv_has ls nL (al 0 ((lv.set i (some v)).set (i + 1) none)) := by
  refine ⟨h.1, h.2.1, fun q hq => ?_⟩
  obtain ⟨j, w⟩ := q
  obtain ⟨i', h1, h2⟩ := al_mem.mp hq
  have h1 : j = i' := by omega
  subst h1
  by_cases hij1 : j = i + 1
  · subst hij1
    by_cases hl : i + 1 < (lv.set i (some v)).length
    · rw [List.getElem?_set_self hl] at h2
      cases h2
    · rw [List.getElem?_eq_none (by simpa using hl)] at h2
      cases h2
  · rw [List.getElem?_set_ne (Ne.symm hij1)] at h2
    by_cases hij : j = i
    · subst hij
      have hl : j < lv.length := by
        have := (List.getElem?_eq_some_iff.mp h2).1
        simpa using this
      rw [List.getElem?_set_self hl] at h2
      cases h2
      exact h.2.2 _ List.mem_cons_self
    · rw [List.getElem?_set_ne (Ne.symm hij)] at h2
      refine h.2.2 _ (List.mem_cons_of_mem _ (List.mem_filter.mpr ⟨al_mem.mpr ⟨j, by omega, h2⟩, ?_⟩))
      simp only [Bool.and_eq_true, Bool.not_eq_true', beq_eq_false_iff_ne, ne_eq, Bool.and_eq_false_iff]
      refine ⟨hij, hij1, ?_⟩
      by_cases hj : j + 1 = i
      · right
        subst hj
        simp only [ok1, h2, beq_iff_eq] at hk
        omega
      · left; exact hj
def msk (lv : List (Option Value)) (bs : List Bool) : List (Option Value) := lv.zipWith (fun v b => if b = true then v else none) bs
theorem al_msk {ls : Array Slot} {nL : Nat} {lv : List (Option Value)} {bs : List Bool} (h : lv_has ls nL (al 0 lv)) : lv_has ls nL (al 0 (msk lv bs)) := by
  refine ⟨h.1, h.2.1, fun q hq => ?_⟩
  obtain ⟨j, w⟩ := q
  obtain ⟨i, h1, h2⟩ := al_mem.mp hq
  refine h.2.2 _ (al_mem.mpr ⟨i, h1, ?_⟩)
  simp only [msk, List.getElem?_zipWith] at h2
  revert h2
  cases lv[i]? with
  | none => simp
  | some x =>
    cases bs[i]? with
    | none => simp
    | some b => cases b <;> simp
/-- a contract's room: dp calls open below it -/
abbrev rmD (dp : Nat) : Room := { frames := dp, cells := 0, slots := 0, locals := dp * 40 }
def Qp (G : Geo) (Q : Option Value → Mem → Prop) : Array Value → State → Outcome → State → Prop := fun _ st oc t => (∃ (r : Option Value) (μ' : Mem), oc = .returned r ∧ Q r μ' ∧ va_P (gD G) vwCl (gW G μ') t.heap) ∧ va_F (gA G) st t
def Pp (G : Geo) (av : List Value) (μ : Mem) : Array Value → State → Prop := va_Pc av (fun U => va_P (gD G) vwCl (gW G μ) U.heap ∧ St G U U.heap)
def Ct (G : Geo) (l : Launch) (dp : Nat) (y : MethodName) (b : ByteArray) (nL : Nat) (ret : Option FieldType) (av : List Value) (μ : Mem) (Q : Option Value → Mem → Prop) : Prop :=
  Met l y (Cond.code y b nL ret :: wsG) (rmD dp) (Pp G av μ) (Qp G Q) 0 0 (gA G)
theorem Pp.blind {G : Geo} {av : List Value} {μ : Mem} : FrameBlind (Pp G av μ) := fun a U g mk h => ⟨h.1, h.2.1, h.2.2.calling g mk a⟩
/-- what is fixed in a method's walk -/
def Fx (G : Geo) (p : Program) (R : Room) (s : State) (m : MethodId) (args : Array Value) (meth : Method) (c : Code) (own : String) (cc : ByteArray) (nL : Nat) (ret : Option FieldType) (k n : Nat) : Prop :=
  p.tables.exec = Jvm.exec ∧ c.code = cc ∧ meth.sig.returnType = ret ∧ meth.locks = false ∧ c.maxLocals = nL ∧ s.vm.findClass own = some m.cls ∧ (∀ w ∈ wsG, w.before args s = true) ∧ St G s s.heap ∧ (k ≤ R.cells ∧ n ≤ R.slots)
section VROWS
variable {G : Geo} {p : Program} {l : Launch} {e : Env} {R : Room} {s : State} {m : MethodId} {args : Array Value} {below : List Frame} {meth : Method} {c : Code} {k n : Nat} {Z : State → Prop} {own : String} {cc : ByteArray} {nL pc : Nat} {ret : Option FieldType} {lv : List (Option Value)} {st : List Value} {μ : Mem}
def V (G : Geo) (p : Program) (l : Launch) (e : Env) (R : Room) (s : State) (m : MethodId) (args : Array Value) (below : List Frame) (meth : Method) (c : Code) (nL k n : Nat) (Z : State → Prop) (pc : Nat) (lv : List (Option Value)) (st : List Value) (μ : Mem) : Prop :=
  ∀ (H : Heap) (locs : List Loc) (ls : Array Slot), va_P (gD G) vwCl (gW G μ) H → va_S (gA G) s.heap H locs → lv_has ls nL (al 0 lv) → W p l e R s m args below meth c H locs k n Z (F0 m pc ls st)
theorem V_msk (bs : List Bool) {lv' : List (Option Value)} (h : msk lv bs = lv') (kk : V G p l e R s m args below meth c nL k n Z pc lv' st μ) : V G p l e R s m args below meth c nL k n Z pc lv st μ := fun H locs ls hP hS hl => kk H locs ls hP hS (h ▸ al_msk hl)
theorem V_mem {μ' : Mem} (h : μ = μ') (kk : V G p l e R s m args below meth c nL k n Z pc lv st μ') : V G p l e R s m args below meth c nL k n Z pc lv st μ := h ▸ kk

theorem V_iload_n (F : Fx G p R s m args meth c own cc nL ret k n) {i : Fin 4} {x : Int32} (d : decode cc pc = .ok (.iload_n i, 1)) (h : lv[(i : Nat)]? = some (some (.int x))) (kk : V G p l e R s m args below meth c nL k n Z (pc + 1) lv (.int x :: st) μ) : V G p l e R s m args below meth c nL k n Z pc lv st μ := by
  intro H locs ls hP hS hl
  exact lv_iload_n F.1 F.2.1 d rfl (al_get hl h) (kk H locs ls hP hS hl)
theorem V_iload (F : Fx G p R s m args meth c own cc nL ret k n) {i : Nat} {x : Int32} (d : decode cc pc = .ok (.iload i, 2)) (h : lv[i]? = some (some (.int x))) (kk : V G p l e R s m args below meth c nL k n Z (pc + 2) lv (.int x :: st) μ) : V G p l e R s m args below meth c nL k n Z pc lv st μ := by
  intro H locs ls hP hS hl
  exact lv_iload F.1 F.2.1 d (al_get hl h) (kk H locs ls hP hS hl)
theorem V_lload_n (F : Fx G p R s m args meth c own cc nL ret k n) {i : Fin 4} {x : Int64} (d : decode cc pc = .ok (.lload_n i, 1)) (h : lv[(i : Nat)]? = some (some (.long x))) (kk : V G p l e R s m args below meth c nL k n Z (pc + 1) lv (.long x :: st) μ) : V G p l e R s m args below meth c nL k n Z pc lv st μ := by
  intro H locs ls hP hS hl
  exact lv_lload_n F.1 F.2.1 d rfl (al_get hl h) (kk H locs ls hP hS hl)
theorem V_lload (F : Fx G p R s m args meth c own cc nL ret k n) {i : Nat} {x : Int64} (d : decode cc pc = .ok (.lload i, 2)) (h : lv[i]? = some (some (.long x))) (kk : V G p l e R s m args below meth c nL k n Z (pc + 2) lv (.long x :: st) μ) : V G p l e R s m args below meth c nL k n Z pc lv st μ := by
  intro H locs ls hP hS hl
  exact lv_lload F.1 F.2.1 d (al_get hl h) (kk H locs ls hP hS hl)
theorem V_aload_n (F : Fx G p R s m args meth c own cc nL ret k n) {i : Fin 4} {x : Nat} (d : decode cc pc = .ok (.aload_n i, 1)) (h : lv[(i : Nat)]? = some (some (.ref x))) (kk : V G p l e R s m args below meth c nL k n Z (pc + 1) lv (.ref x :: st) μ) : V G p l e R s m args below meth c nL k n Z pc lv st μ := by
  intro H locs ls hP hS hl
  exact lv_aload_n F.1 F.2.1 d rfl (al_get hl h) (kk H locs ls hP hS hl)
theorem V_aload (F : Fx G p R s m args meth c own cc nL ret k n) {i : Nat} {x : Nat} (d : decode cc pc = .ok (.aload i, 2)) (h : lv[i]? = some (some (.ref x))) (kk : V G p l e R s m args below meth c nL k n Z (pc + 2) lv (.ref x :: st) μ) : V G p l e R s m args below meth c nL k n Z pc lv st μ := by
  intro H locs ls hP hS hl
  exact lv_aload F.1 F.2.1 d (al_get hl h) (kk H locs ls hP hS hl)
theorem V_istore_n (F : Fx G p R s m args meth c own cc nL ret k n) {i : Fin 4} {x : Int32} {lv' : List (Option Value)} (d : decode cc pc = .ok (.istore_n i, 1)) (hn : (i : Nat) < nL) (ho : ok1 lv i = true) (hv : lv.set i (some (.int x)) = lv') (kk : V G p l e R s m args below meth c nL k n Z (pc + 1) lv' st μ) : V G p l e R s m args below meth c nL k n Z pc lv (.int x :: st) μ := by
  intro H locs ls hP hS hl
  exact lv_istore_n F.1 F.2.1 d rfl hl hn rfl (fun ls' hl' => kk H locs ls' hP hS (hv ▸ al_set1 ho hl'))
theorem V_istore (F : Fx G p R s m args meth c own cc nL ret k n) {i : Nat} {x : Int32} {lv' : List (Option Value)} (d : decode cc pc = .ok (.istore i, 2)) (hn : i < nL) (ho : ok1 lv i = true) (hv : lv.set i (some (.int x)) = lv') (kk : V G p l e R s m args below meth c nL k n Z (pc + 2) lv' st μ) : V G p l e R s m args below meth c nL k n Z pc lv (.int x :: st) μ := by
  intro H locs ls hP hS hl
  exact lv_istore F.1 F.2.1 d hl hn rfl (fun ls' hl' => kk H locs ls' hP hS (hv ▸ al_set1 ho hl'))
theorem V_astore_n (F : Fx G p R s m args meth c own cc nL ret k n) {i : Fin 4} {x : Nat} {lv' : List (Option Value)} (d : decode cc pc = .ok (.astore_n i, 1)) (hn : (i : Nat) < nL) (ho : ok1 lv i = true) (hv : lv.set i (some (.ref x)) = lv') (kk : V G p l e R s m args below meth c nL k n Z (pc + 1) lv' st μ) : V G p l e R s m args below meth c nL k n Z pc lv (.ref x :: st) μ := by
  intro H locs ls hP hS hl
  exact lv_astore_n F.1 F.2.1 d rfl hl hn rfl (fun ls' hl' => kk H locs ls' hP hS (hv ▸ al_set1 ho hl'))
theorem V_astore (F : Fx G p R s m args meth c own cc nL ret k n) {i : Nat} {x : Nat} {lv' : List (Option Value)} (d : decode cc pc = .ok (.astore i, 2)) (hn : i < nL) (ho : ok1 lv i = true) (hv : lv.set i (some (.ref x)) = lv') (kk : V G p l e R s m args below meth c nL k n Z (pc + 2) lv' st μ) : V G p l e R s m args below meth c nL k n Z pc lv (.ref x :: st) μ := by
  intro H locs ls hP hS hl
  exact lv_astore F.1 F.2.1 d hl hn rfl (fun ls' hl' => kk H locs ls' hP hS (hv ▸ al_set1 ho hl'))
theorem V_lstore (F : Fx G p R s m args meth c own cc nL ret k n) {i : Nat} {x : Int64} {lv' : List (Option Value)} (d : decode cc pc = .ok (.lstore i, 2)) (hn : i + 1 < nL) (ho : ok1 lv i = true) (hv : (lv.set i (some (.long x))).set (i + 1) none = lv') (kk : V G p l e R s m args below meth c nL k n Z (pc + 2) lv' st μ) : V G p l e R s m args below meth c nL k n Z pc lv (.long x :: st) μ := by
  intro H locs ls hP hS hl
  exact lv_lstore F.1 F.2.1 d hl hn rfl (fun ls' hl' => kk H locs ls' hP hS (hv ▸ al_set2 ho hl'))
theorem V_iinc (F : Fx G p R s m args meth c own cc nL ret k n) {i : Nat} {j : Int} {x : Int32} {lv' : List (Option Value)} (d : decode cc pc = .ok (.iinc i j, 3)) (h : lv[i]? = some (some (.int x))) (hn : i < nL) (ho : ok1 lv i = true) (hv : lv.set i (some (.int (x + Int32.ofInt j))) = lv') (kk : V G p l e R s m args below meth c nL k n Z (pc + 3) lv' st μ) : V G p l e R s m args below meth c nL k n Z pc lv st μ := by
  intro H locs ls hP hS hl
  obtain ⟨q, hq⟩ := List.getElem?_of_mem (al_mem.mpr ⟨i, (by omega : i = 0 + i), h⟩)
  exact lv_iinc F.1 F.2.1 d hl hq rfl hn rfl (fun ls' hl' => kk H locs ls' hP hS (hv ▸ al_set1 ho hl'))
theorem V_iconst (F : Fx G p R s m args meth c own cc nL ret k n) {j : Int} {v : Int32} (d : decode cc pc = .ok (.iconst j, 1)) (hv : Int32.ofInt j = v) (kk : V G p l e R s m args below meth c nL k n Z (pc + 1) lv (.int v :: st) μ) : V G p l e R s m args below meth c nL k n Z pc lv st μ := by
  intro H locs ls hP hS hl
  exact lv_iconst F.1 F.2.1 d hv (kk H locs ls hP hS hl)
theorem V_bipush (F : Fx G p R s m args meth c own cc nL ret k n) {j : Int} {v : Int32} (d : decode cc pc = .ok (.bipush j, 2)) (hv : (Int8.ofInt j).toInt32 = v) (kk : V G p l e R s m args below meth c nL k n Z (pc + 2) lv (.int v :: st) μ) : V G p l e R s m args below meth c nL k n Z pc lv st μ := by
  intro H locs ls hP hS hl
  exact lv_bipush F.1 F.2.1 d hv (kk H locs ls hP hS hl)
theorem V_sipush (F : Fx G p R s m args meth c own cc nL ret k n) {j : Int} {v : Int32} (d : decode cc pc = .ok (.sipush j, 3)) (hv : (Int16.ofInt j).toInt32 = v) (kk : V G p l e R s m args below meth c nL k n Z (pc + 3) lv (.int v :: st) μ) : V G p l e R s m args below meth c nL k n Z pc lv st μ := by
  intro H locs ls hP hS hl
  exact lv_sipush F.1 F.2.1 d hv (kk H locs ls hP hS hl)
theorem V_lconst (F : Fx G p R s m args meth c own cc nL ret k n) {j : Fin 2} {v : Int64} (d : decode cc pc = .ok (.lconst j, 1)) (hv : Int64.ofNat (j : Nat) = v) (kk : V G p l e R s m args below meth c nL k n Z (pc + 1) lv (.long v :: st) μ) : V G p l e R s m args below meth c nL k n Z pc lv st μ := by
  intro H locs ls hP hS hl
  exact lv_lconst F.1 F.2.1 d hv (kk H locs ls hP hS hl)
theorem V_iadd (F : Fx G p R s m args meth c own cc nL ret k n) {x y : Int32} (d : decode cc pc = .ok (.iadd, 1)) (kk : V G p l e R s m args below meth c nL k n Z (pc + 1) lv (.int (x + y) :: st) μ) : V G p l e R s m args below meth c nL k n Z pc lv (.int y :: .int x :: st) μ := by
  intro H locs ls hP hS hl
  exact lv_iadd F.1 F.2.1 d (kk H locs ls hP hS hl)
theorem V_isub (F : Fx G p R s m args meth c own cc nL ret k n) {x y : Int32} (d : decode cc pc = .ok (.isub, 1)) (kk : V G p l e R s m args below meth c nL k n Z (pc + 1) lv (.int (x - y) :: st) μ) : V G p l e R s m args below meth c nL k n Z pc lv (.int y :: .int x :: st) μ := by
  intro H locs ls hP hS hl
  exact lv_isub F.1 F.2.1 d (kk H locs ls hP hS hl)
theorem V_imul (F : Fx G p R s m args meth c own cc nL ret k n) {x y : Int32} (d : decode cc pc = .ok (.imul, 1)) (kk : V G p l e R s m args below meth c nL k n Z (pc + 1) lv (.int (x * y) :: st) μ) : V G p l e R s m args below meth c nL k n Z pc lv (.int y :: .int x :: st) μ := by
  intro H locs ls hP hS hl
  exact lv_imul F.1 F.2.1 d (kk H locs ls hP hS hl)
theorem V_iand (F : Fx G p R s m args meth c own cc nL ret k n) {x y : Int32} (d : decode cc pc = .ok (.iand, 1)) (kk : V G p l e R s m args below meth c nL k n Z (pc + 1) lv (.int (x &&& y) :: st) μ) : V G p l e R s m args below meth c nL k n Z pc lv (.int y :: .int x :: st) μ := by
  intro H locs ls hP hS hl
  exact lv_iand F.1 F.2.1 d (kk H locs ls hP hS hl)
theorem V_ior (F : Fx G p R s m args meth c own cc nL ret k n) {x y : Int32} (d : decode cc pc = .ok (.ior, 1)) (kk : V G p l e R s m args below meth c nL k n Z (pc + 1) lv (.int (x ||| y) :: st) μ) : V G p l e R s m args below meth c nL k n Z pc lv (.int y :: .int x :: st) μ := by
  intro H locs ls hP hS hl
  exact lv_ior F.1 F.2.1 d (kk H locs ls hP hS hl)
theorem V_ishl (F : Fx G p R s m args meth c own cc nL ret k n) {x y : Int32} (d : decode cc pc = .ok (.ishl, 1)) (kk : V G p l e R s m args below meth c nL k n Z (pc + 1) lv (.int (x <<< (y &&& 31)) :: st) μ) : V G p l e R s m args below meth c nL k n Z pc lv (.int y :: .int x :: st) μ := by
  intro H locs ls hP hS hl
  exact lv_ishl F.1 F.2.1 d (kk H locs ls hP hS hl)
theorem V_ishr (F : Fx G p R s m args meth c own cc nL ret k n) {x y : Int32} (d : decode cc pc = .ok (.ishr, 1)) (kk : V G p l e R s m args below meth c nL k n Z (pc + 1) lv (.int (x >>> (y &&& 31)) :: st) μ) : V G p l e R s m args below meth c nL k n Z pc lv (.int y :: .int x :: st) μ := by
  intro H locs ls hP hS hl
  exact lv_ishr F.1 F.2.1 d (kk H locs ls hP hS hl)
theorem V_idiv (F : Fx G p R s m args meth c own cc nL ret k n) {x y : Int32} (d : decode cc pc = .ok (.idiv, 1)) (h : ¬ y = 0) (kk : V G p l e R s m args below meth c nL k n Z (pc + 1) lv (.int (x / y) :: st) μ) : V G p l e R s m args below meth c nL k n Z pc lv (.int y :: .int x :: st) μ := by
  intro H locs ls hP hS hl
  exact lv_idiv F.1 F.2.1 d h (kk H locs ls hP hS hl)
theorem V_irem (F : Fx G p R s m args meth c own cc nL ret k n) {x y : Int32} (d : decode cc pc = .ok (.irem, 1)) (h : ¬ y = 0) (kk : V G p l e R s m args below meth c nL k n Z (pc + 1) lv (.int (x - x / y * y) :: st) μ) : V G p l e R s m args below meth c nL k n Z pc lv (.int y :: .int x :: st) μ := by
  intro H locs ls hP hS hl
  exact lv_irem F.1 F.2.1 d h (kk H locs ls hP hS hl)
theorem V_land (F : Fx G p R s m args meth c own cc nL ret k n) {x y : Int64} (d : decode cc pc = .ok (.land, 1)) (kk : V G p l e R s m args below meth c nL k n Z (pc + 1) lv (.long (x &&& y) :: st) μ) : V G p l e R s m args below meth c nL k n Z pc lv (.long y :: .long x :: st) μ := by
  intro H locs ls hP hS hl
  exact lv_land F.1 F.2.1 d (kk H locs ls hP hS hl)
theorem V_lor (F : Fx G p R s m args meth c own cc nL ret k n) {x y : Int64} (d : decode cc pc = .ok (.lor, 1)) (kk : V G p l e R s m args below meth c nL k n Z (pc + 1) lv (.long (x ||| y) :: st) μ) : V G p l e R s m args below meth c nL k n Z pc lv (.long y :: .long x :: st) μ := by
  intro H locs ls hP hS hl
  exact lv_lor F.1 F.2.1 d (kk H locs ls hP hS hl)
theorem V_lshl (F : Fx G p R s m args meth c own cc nL ret k n) {x : Int64} {y : Int32} (d : decode cc pc = .ok (.lshl, 1)) (kk : V G p l e R s m args below meth c nL k n Z (pc + 1) lv (.long (x <<< (y.toInt64 &&& 63)) :: st) μ) : V G p l e R s m args below meth c nL k n Z pc lv (.int y :: .long x :: st) μ := by
  intro H locs ls hP hS hl
  exact lv_lshl F.1 F.2.1 d rfl (kk H locs ls hP hS hl)
theorem V_lushr (F : Fx G p R s m args meth c own cc nL ret k n) {x : Int64} {y : Int32} (d : decode cc pc = .ok (.lushr, 1)) (kk : V G p l e R s m args below meth c nL k n Z (pc + 1) lv (.long ((x.toUInt64 >>> (y.toInt64.toUInt64 &&& Int64.toUInt64 63)).toInt64) :: st) μ) : V G p l e R s m args below meth c nL k n Z pc lv (.int y :: .long x :: st) μ := by
  intro H locs ls hP hS hl
  exact lv_lushr F.1 F.2.1 d rfl (kk H locs ls hP hS hl)
theorem V_lcmp (F : Fx G p R s m args meth c own cc nL ret k n) {x y : Int64} (d : decode cc pc = .ok (.lcmp, 1)) (kk : V G p l e R s m args below meth c nL k n Z (pc + 1) lv (.int (lg_cmp x y) :: st) μ) : V G p l e R s m args below meth c nL k n Z pc lv (.long y :: .long x :: st) μ := by
  intro H locs ls hP hS hl
  exact W.lcmp F.1 F.2.1 d (kk H locs ls hP hS hl)
theorem V_i2c (F : Fx G p R s m args meth c own cc nL ret k n) {x : Int32} (d : decode cc pc = .ok (.i2c, 1)) (kk : V G p l e R s m args below meth c nL k n Z (pc + 1) lv (.int (x.toUInt32 % 65536).toInt32 :: st) μ) : V G p l e R s m args below meth c nL k n Z pc lv (.int x :: st) μ := by
  intro H locs ls hP hS hl
  exact lv_i2c F.1 F.2.1 d rfl (kk H locs ls hP hS hl)
theorem V_dup (F : Fx G p R s m args meth c own cc nL ret k n) {v : Value} (d : decode cc pc = .ok (.dup, 1)) (h : v.category = 1) (kk : V G p l e R s m args below meth c nL k n Z (pc + 1) lv (v :: v :: st) μ) : V G p l e R s m args below meth c nL k n Z pc lv (v :: st) μ := by
  intro H locs ls hP hS hl
  exact lv_dup F.1 F.2.1 d h (kk H locs ls hP hS hl)
theorem V_pop (F : Fx G p R s m args meth c own cc nL ret k n) {v : Value} (d : decode cc pc = .ok (.pop, 1)) (h : v.category = 1) (kk : V G p l e R s m args below meth c nL k n Z (pc + 1) lv st μ) : V G p l e R s m args below meth c nL k n Z pc lv (v :: st) μ := by
  intro H locs ls hP hS hl
  exact lv_pop F.1 F.2.1 d h (kk H locs ls hP hS hl)
theorem V_dup2 (F : Fx G p R s m args meth c own cc nL ret k n) {v u : Value} (d : decode cc pc = .ok (.dup2, 1)) (h : v.category = 1) (h2 : u.category = 1) (kk : V G p l e R s m args below meth c nL k n Z (pc + 1) lv (v :: u :: v :: u :: st) μ) : V G p l e R s m args below meth c nL k n Z pc lv (v :: u :: st) μ := by
  intro H locs ls hP hS hl
  exact lv_dup2_11 F.1 F.2.1 d h h2 (kk H locs ls hP hS hl)
theorem V_goto (F : Fx G p R s m args meth c own cc nL ret k n) {off : Int} {tgt : Nat} (d : decode cc pc = .ok (.goto off, 3)) (ht : (pc : Int) + off = (tgt : Int)) (kk : V G p l e R s m args below meth c nL k n Z tgt lv st μ) : V G p l e R s m args below meth c nL k n Z pc lv st μ := by
  intro H locs ls hP hS hl
  exact lv_goto F.1 F.2.1 d ht (kk H locs ls hP hS hl)
theorem V_ifnull (F : Fx G p R s m args meth c own cc nL ret k n) {off : Int} {x : Nat} (d : decode cc pc = .ok (.ifnull off, 3)) (kk : V G p l e R s m args below meth c nL k n Z (pc + 3) lv st μ) : V G p l e R s m args below meth c nL k n Z pc lv (.ref x :: st) μ := by
  intro H locs ls hP hS hl
  exact lv_ifnull F.1 F.2.1 d (kk H locs ls hP hS hl)
theorem V_if_eq (F : Fx G p R s m args meth c own cc nL ret k n) {off : Int} {tgt : Nat} {x : Int32} (d : decode cc pc = .ok (.ifCond .eq off, 3)) (ht : (pc : Int) + off = (tgt : Int)) (kt : x = 0 → V G p l e R s m args below meth c nL k n Z tgt lv st μ) (kf : ¬ x = 0 → V G p l e R s m args below meth c nL k n Z (pc + 3) lv st μ) : V G p l e R s m args below meth c nL k n Z pc lv (.int x :: st) μ := by
  intro H locs ls hP hS hl
  exact lv_if_eq F.1 F.2.1 d ht (fun h => kt h H locs ls hP hS hl) (fun h => kf h H locs ls hP hS hl)
theorem V_if_eq_t (F : Fx G p R s m args meth c own cc nL ret k n) {off : Int} {tgt : Nat} {x : Int32} (d : decode cc pc = .ok (.ifCond .eq off, 3)) (ht : (pc : Int) + off = (tgt : Int)) (h0 : x = 0) (kt : V G p l e R s m args below meth c nL k n Z tgt lv st μ) : V G p l e R s m args below meth c nL k n Z pc lv (.int x :: st) μ := by
  intro H locs ls hP hS hl
  exact lv_if_eq F.1 F.2.1 d ht (fun _ => kt H locs ls hP hS hl) (fun h => absurd h0 h)
theorem V_if_eq_f (F : Fx G p R s m args meth c own cc nL ret k n) {off : Int} {tgt : Nat} {x : Int32} (d : decode cc pc = .ok (.ifCond .eq off, 3)) (ht : (pc : Int) + off = (tgt : Int)) (h0 : ¬ x = 0) (kf : V G p l e R s m args below meth c nL k n Z (pc + 3) lv st μ) : V G p l e R s m args below meth c nL k n Z pc lv (.int x :: st) μ := by
  intro H locs ls hP hS hl
  exact lv_if_eq F.1 F.2.1 d ht (fun h => absurd h h0) (fun _ => kf H locs ls hP hS hl)
theorem V_icmp_eq (F : Fx G p R s m args meth c own cc nL ret k n) {off : Int} {tgt : Nat} {x y : Int32} (d : decode cc pc = .ok (.if_icmp .eq off, 3)) (ht : (pc : Int) + off = (tgt : Int)) (kt : x = y → V G p l e R s m args below meth c nL k n Z tgt lv st μ) (kf : ¬ x = y → V G p l e R s m args below meth c nL k n Z (pc + 3) lv st μ) : V G p l e R s m args below meth c nL k n Z pc lv (.int y :: .int x :: st) μ := by
  intro H locs ls hP hS hl
  exact lv_icmp_eq F.1 F.2.1 d ht (fun h => kt h H locs ls hP hS hl) (fun h => kf h H locs ls hP hS hl)
theorem V_icmp_eq_t (F : Fx G p R s m args meth c own cc nL ret k n) {off : Int} {tgt : Nat} {x y : Int32} (d : decode cc pc = .ok (.if_icmp .eq off, 3)) (ht : (pc : Int) + off = (tgt : Int)) (h0 : x = y) (kt : V G p l e R s m args below meth c nL k n Z tgt lv st μ) : V G p l e R s m args below meth c nL k n Z pc lv (.int y :: .int x :: st) μ := by
  intro H locs ls hP hS hl
  exact lv_icmp_eq F.1 F.2.1 d ht (fun _ => kt H locs ls hP hS hl) (fun h => absurd h0 h)
theorem V_icmp_eq_f (F : Fx G p R s m args meth c own cc nL ret k n) {off : Int} {tgt : Nat} {x y : Int32} (d : decode cc pc = .ok (.if_icmp .eq off, 3)) (ht : (pc : Int) + off = (tgt : Int)) (h0 : ¬ x = y) (kf : V G p l e R s m args below meth c nL k n Z (pc + 3) lv st μ) : V G p l e R s m args below meth c nL k n Z pc lv (.int y :: .int x :: st) μ := by
  intro H locs ls hP hS hl
  exact lv_icmp_eq F.1 F.2.1 d ht (fun h => absurd h h0) (fun _ => kf H locs ls hP hS hl)
theorem V_if_ne (F : Fx G p R s m args meth c own cc nL ret k n) {off : Int} {tgt : Nat} {x : Int32} (d : decode cc pc = .ok (.ifCond .ne off, 3)) (ht : (pc : Int) + off = (tgt : Int)) (kt : ¬ x = 0 → V G p l e R s m args below meth c nL k n Z tgt lv st μ) (kf : x = 0 → V G p l e R s m args below meth c nL k n Z (pc + 3) lv st μ) : V G p l e R s m args below meth c nL k n Z pc lv (.int x :: st) μ := by
  intro H locs ls hP hS hl
  exact lv_if_ne F.1 F.2.1 d ht (fun h => kt h H locs ls hP hS hl) (fun h => kf h H locs ls hP hS hl)
theorem V_if_ne_t (F : Fx G p R s m args meth c own cc nL ret k n) {off : Int} {tgt : Nat} {x : Int32} (d : decode cc pc = .ok (.ifCond .ne off, 3)) (ht : (pc : Int) + off = (tgt : Int)) (h0 : ¬ x = 0) (kt : V G p l e R s m args below meth c nL k n Z tgt lv st μ) : V G p l e R s m args below meth c nL k n Z pc lv (.int x :: st) μ := by
  intro H locs ls hP hS hl
  exact lv_if_ne F.1 F.2.1 d ht (fun _ => kt H locs ls hP hS hl) (fun h => absurd h h0)
theorem V_if_ne_f (F : Fx G p R s m args meth c own cc nL ret k n) {off : Int} {tgt : Nat} {x : Int32} (d : decode cc pc = .ok (.ifCond .ne off, 3)) (ht : (pc : Int) + off = (tgt : Int)) (h0 : x = 0) (kf : V G p l e R s m args below meth c nL k n Z (pc + 3) lv st μ) : V G p l e R s m args below meth c nL k n Z pc lv (.int x :: st) μ := by
  intro H locs ls hP hS hl
  exact lv_if_ne F.1 F.2.1 d ht (fun h => absurd h0 h) (fun _ => kf H locs ls hP hS hl)
theorem V_icmp_ne (F : Fx G p R s m args meth c own cc nL ret k n) {off : Int} {tgt : Nat} {x y : Int32} (d : decode cc pc = .ok (.if_icmp .ne off, 3)) (ht : (pc : Int) + off = (tgt : Int)) (kt : ¬ x = y → V G p l e R s m args below meth c nL k n Z tgt lv st μ) (kf : x = y → V G p l e R s m args below meth c nL k n Z (pc + 3) lv st μ) : V G p l e R s m args below meth c nL k n Z pc lv (.int y :: .int x :: st) μ := by
  intro H locs ls hP hS hl
  exact lv_icmp_ne F.1 F.2.1 d ht (fun h => kt h H locs ls hP hS hl) (fun h => kf h H locs ls hP hS hl)
theorem V_icmp_ne_t (F : Fx G p R s m args meth c own cc nL ret k n) {off : Int} {tgt : Nat} {x y : Int32} (d : decode cc pc = .ok (.if_icmp .ne off, 3)) (ht : (pc : Int) + off = (tgt : Int)) (h0 : ¬ x = y) (kt : V G p l e R s m args below meth c nL k n Z tgt lv st μ) : V G p l e R s m args below meth c nL k n Z pc lv (.int y :: .int x :: st) μ := by
  intro H locs ls hP hS hl
  exact lv_icmp_ne F.1 F.2.1 d ht (fun _ => kt H locs ls hP hS hl) (fun h => absurd h h0)
theorem V_icmp_ne_f (F : Fx G p R s m args meth c own cc nL ret k n) {off : Int} {tgt : Nat} {x y : Int32} (d : decode cc pc = .ok (.if_icmp .ne off, 3)) (ht : (pc : Int) + off = (tgt : Int)) (h0 : x = y) (kf : V G p l e R s m args below meth c nL k n Z (pc + 3) lv st μ) : V G p l e R s m args below meth c nL k n Z pc lv (.int y :: .int x :: st) μ := by
  intro H locs ls hP hS hl
  exact lv_icmp_ne F.1 F.2.1 d ht (fun h => absurd h0 h) (fun _ => kf H locs ls hP hS hl)
theorem V_if_lt (F : Fx G p R s m args meth c own cc nL ret k n) {off : Int} {tgt : Nat} {x : Int32} (d : decode cc pc = .ok (.ifCond .lt off, 3)) (ht : (pc : Int) + off = (tgt : Int)) (kt : x < 0 → V G p l e R s m args below meth c nL k n Z tgt lv st μ) (kf : ¬ x < 0 → V G p l e R s m args below meth c nL k n Z (pc + 3) lv st μ) : V G p l e R s m args below meth c nL k n Z pc lv (.int x :: st) μ := by
  intro H locs ls hP hS hl
  exact lv_if_lt F.1 F.2.1 d ht (fun h => kt h H locs ls hP hS hl) (fun h => kf h H locs ls hP hS hl)
theorem V_if_lt_t (F : Fx G p R s m args meth c own cc nL ret k n) {off : Int} {tgt : Nat} {x : Int32} (d : decode cc pc = .ok (.ifCond .lt off, 3)) (ht : (pc : Int) + off = (tgt : Int)) (h0 : x < 0) (kt : V G p l e R s m args below meth c nL k n Z tgt lv st μ) : V G p l e R s m args below meth c nL k n Z pc lv (.int x :: st) μ := by
  intro H locs ls hP hS hl
  exact lv_if_lt F.1 F.2.1 d ht (fun _ => kt H locs ls hP hS hl) (fun h => absurd h0 h)
theorem V_if_lt_f (F : Fx G p R s m args meth c own cc nL ret k n) {off : Int} {tgt : Nat} {x : Int32} (d : decode cc pc = .ok (.ifCond .lt off, 3)) (ht : (pc : Int) + off = (tgt : Int)) (h0 : ¬ x < 0) (kf : V G p l e R s m args below meth c nL k n Z (pc + 3) lv st μ) : V G p l e R s m args below meth c nL k n Z pc lv (.int x :: st) μ := by
  intro H locs ls hP hS hl
  exact lv_if_lt F.1 F.2.1 d ht (fun h => absurd h h0) (fun _ => kf H locs ls hP hS hl)
theorem V_icmp_lt (F : Fx G p R s m args meth c own cc nL ret k n) {off : Int} {tgt : Nat} {x y : Int32} (d : decode cc pc = .ok (.if_icmp .lt off, 3)) (ht : (pc : Int) + off = (tgt : Int)) (kt : x < y → V G p l e R s m args below meth c nL k n Z tgt lv st μ) (kf : ¬ x < y → V G p l e R s m args below meth c nL k n Z (pc + 3) lv st μ) : V G p l e R s m args below meth c nL k n Z pc lv (.int y :: .int x :: st) μ := by
  intro H locs ls hP hS hl
  exact lv_icmp_lt F.1 F.2.1 d ht (fun h => kt h H locs ls hP hS hl) (fun h => kf h H locs ls hP hS hl)
theorem V_icmp_lt_t (F : Fx G p R s m args meth c own cc nL ret k n) {off : Int} {tgt : Nat} {x y : Int32} (d : decode cc pc = .ok (.if_icmp .lt off, 3)) (ht : (pc : Int) + off = (tgt : Int)) (h0 : x < y) (kt : V G p l e R s m args below meth c nL k n Z tgt lv st μ) : V G p l e R s m args below meth c nL k n Z pc lv (.int y :: .int x :: st) μ := by
  intro H locs ls hP hS hl
  exact lv_icmp_lt F.1 F.2.1 d ht (fun _ => kt H locs ls hP hS hl) (fun h => absurd h0 h)
theorem V_icmp_lt_f (F : Fx G p R s m args meth c own cc nL ret k n) {off : Int} {tgt : Nat} {x y : Int32} (d : decode cc pc = .ok (.if_icmp .lt off, 3)) (ht : (pc : Int) + off = (tgt : Int)) (h0 : ¬ x < y) (kf : V G p l e R s m args below meth c nL k n Z (pc + 3) lv st μ) : V G p l e R s m args below meth c nL k n Z pc lv (.int y :: .int x :: st) μ := by
  intro H locs ls hP hS hl
  exact lv_icmp_lt F.1 F.2.1 d ht (fun h => absurd h h0) (fun _ => kf H locs ls hP hS hl)
theorem V_if_ge (F : Fx G p R s m args meth c own cc nL ret k n) {off : Int} {tgt : Nat} {x : Int32} (d : decode cc pc = .ok (.ifCond .ge off, 3)) (ht : (pc : Int) + off = (tgt : Int)) (kt : 0 ≤ x → V G p l e R s m args below meth c nL k n Z tgt lv st μ) (kf : ¬ 0 ≤ x → V G p l e R s m args below meth c nL k n Z (pc + 3) lv st μ) : V G p l e R s m args below meth c nL k n Z pc lv (.int x :: st) μ := by
  intro H locs ls hP hS hl
  exact lv_if_ge F.1 F.2.1 d ht (fun h => kt h H locs ls hP hS hl) (fun h => kf h H locs ls hP hS hl)
theorem V_if_ge_t (F : Fx G p R s m args meth c own cc nL ret k n) {off : Int} {tgt : Nat} {x : Int32} (d : decode cc pc = .ok (.ifCond .ge off, 3)) (ht : (pc : Int) + off = (tgt : Int)) (h0 : 0 ≤ x) (kt : V G p l e R s m args below meth c nL k n Z tgt lv st μ) : V G p l e R s m args below meth c nL k n Z pc lv (.int x :: st) μ := by
  intro H locs ls hP hS hl
  exact lv_if_ge F.1 F.2.1 d ht (fun _ => kt H locs ls hP hS hl) (fun h => absurd h0 h)
theorem V_if_ge_f (F : Fx G p R s m args meth c own cc nL ret k n) {off : Int} {tgt : Nat} {x : Int32} (d : decode cc pc = .ok (.ifCond .ge off, 3)) (ht : (pc : Int) + off = (tgt : Int)) (h0 : ¬ 0 ≤ x) (kf : V G p l e R s m args below meth c nL k n Z (pc + 3) lv st μ) : V G p l e R s m args below meth c nL k n Z pc lv (.int x :: st) μ := by
  intro H locs ls hP hS hl
  exact lv_if_ge F.1 F.2.1 d ht (fun h => absurd h h0) (fun _ => kf H locs ls hP hS hl)
theorem V_icmp_ge (F : Fx G p R s m args meth c own cc nL ret k n) {off : Int} {tgt : Nat} {x y : Int32} (d : decode cc pc = .ok (.if_icmp .ge off, 3)) (ht : (pc : Int) + off = (tgt : Int)) (kt : y ≤ x → V G p l e R s m args below meth c nL k n Z tgt lv st μ) (kf : ¬ y ≤ x → V G p l e R s m args below meth c nL k n Z (pc + 3) lv st μ) : V G p l e R s m args below meth c nL k n Z pc lv (.int y :: .int x :: st) μ := by
  intro H locs ls hP hS hl
  exact lv_icmp_ge F.1 F.2.1 d ht (fun h => kt h H locs ls hP hS hl) (fun h => kf h H locs ls hP hS hl)
theorem V_icmp_ge_t (F : Fx G p R s m args meth c own cc nL ret k n) {off : Int} {tgt : Nat} {x y : Int32} (d : decode cc pc = .ok (.if_icmp .ge off, 3)) (ht : (pc : Int) + off = (tgt : Int)) (h0 : y ≤ x) (kt : V G p l e R s m args below meth c nL k n Z tgt lv st μ) : V G p l e R s m args below meth c nL k n Z pc lv (.int y :: .int x :: st) μ := by
  intro H locs ls hP hS hl
  exact lv_icmp_ge F.1 F.2.1 d ht (fun _ => kt H locs ls hP hS hl) (fun h => absurd h0 h)
theorem V_icmp_ge_f (F : Fx G p R s m args meth c own cc nL ret k n) {off : Int} {tgt : Nat} {x y : Int32} (d : decode cc pc = .ok (.if_icmp .ge off, 3)) (ht : (pc : Int) + off = (tgt : Int)) (h0 : ¬ y ≤ x) (kf : V G p l e R s m args below meth c nL k n Z (pc + 3) lv st μ) : V G p l e R s m args below meth c nL k n Z pc lv (.int y :: .int x :: st) μ := by
  intro H locs ls hP hS hl
  exact lv_icmp_ge F.1 F.2.1 d ht (fun h => absurd h h0) (fun _ => kf H locs ls hP hS hl)
theorem V_if_gt (F : Fx G p R s m args meth c own cc nL ret k n) {off : Int} {tgt : Nat} {x : Int32} (d : decode cc pc = .ok (.ifCond .gt off, 3)) (ht : (pc : Int) + off = (tgt : Int)) (kt : 0 < x → V G p l e R s m args below meth c nL k n Z tgt lv st μ) (kf : ¬ 0 < x → V G p l e R s m args below meth c nL k n Z (pc + 3) lv st μ) : V G p l e R s m args below meth c nL k n Z pc lv (.int x :: st) μ := by
  intro H locs ls hP hS hl
  exact lv_if_gt F.1 F.2.1 d ht (fun h => kt h H locs ls hP hS hl) (fun h => kf h H locs ls hP hS hl)
theorem V_if_gt_t (F : Fx G p R s m args meth c own cc nL ret k n) {off : Int} {tgt : Nat} {x : Int32} (d : decode cc pc = .ok (.ifCond .gt off, 3)) (ht : (pc : Int) + off = (tgt : Int)) (h0 : 0 < x) (kt : V G p l e R s m args below meth c nL k n Z tgt lv st μ) : V G p l e R s m args below meth c nL k n Z pc lv (.int x :: st) μ := by
  intro H locs ls hP hS hl
  exact lv_if_gt F.1 F.2.1 d ht (fun _ => kt H locs ls hP hS hl) (fun h => absurd h0 h)
theorem V_if_gt_f (F : Fx G p R s m args meth c own cc nL ret k n) {off : Int} {tgt : Nat} {x : Int32} (d : decode cc pc = .ok (.ifCond .gt off, 3)) (ht : (pc : Int) + off = (tgt : Int)) (h0 : ¬ 0 < x) (kf : V G p l e R s m args below meth c nL k n Z (pc + 3) lv st μ) : V G p l e R s m args below meth c nL k n Z pc lv (.int x :: st) μ := by
  intro H locs ls hP hS hl
  exact lv_if_gt F.1 F.2.1 d ht (fun h => absurd h h0) (fun _ => kf H locs ls hP hS hl)
theorem V_icmp_gt (F : Fx G p R s m args meth c own cc nL ret k n) {off : Int} {tgt : Nat} {x y : Int32} (d : decode cc pc = .ok (.if_icmp .gt off, 3)) (ht : (pc : Int) + off = (tgt : Int)) (kt : y < x → V G p l e R s m args below meth c nL k n Z tgt lv st μ) (kf : ¬ y < x → V G p l e R s m args below meth c nL k n Z (pc + 3) lv st μ) : V G p l e R s m args below meth c nL k n Z pc lv (.int y :: .int x :: st) μ := by
  intro H locs ls hP hS hl
  exact lv_icmp_gt F.1 F.2.1 d ht (fun h => kt h H locs ls hP hS hl) (fun h => kf h H locs ls hP hS hl)
theorem V_icmp_gt_t (F : Fx G p R s m args meth c own cc nL ret k n) {off : Int} {tgt : Nat} {x y : Int32} (d : decode cc pc = .ok (.if_icmp .gt off, 3)) (ht : (pc : Int) + off = (tgt : Int)) (h0 : y < x) (kt : V G p l e R s m args below meth c nL k n Z tgt lv st μ) : V G p l e R s m args below meth c nL k n Z pc lv (.int y :: .int x :: st) μ := by
  intro H locs ls hP hS hl
  exact lv_icmp_gt F.1 F.2.1 d ht (fun _ => kt H locs ls hP hS hl) (fun h => absurd h0 h)
theorem V_icmp_gt_f (F : Fx G p R s m args meth c own cc nL ret k n) {off : Int} {tgt : Nat} {x y : Int32} (d : decode cc pc = .ok (.if_icmp .gt off, 3)) (ht : (pc : Int) + off = (tgt : Int)) (h0 : ¬ y < x) (kf : V G p l e R s m args below meth c nL k n Z (pc + 3) lv st μ) : V G p l e R s m args below meth c nL k n Z pc lv (.int y :: .int x :: st) μ := by
  intro H locs ls hP hS hl
  exact lv_icmp_gt F.1 F.2.1 d ht (fun h => absurd h h0) (fun _ => kf H locs ls hP hS hl)
theorem V_if_le (F : Fx G p R s m args meth c own cc nL ret k n) {off : Int} {tgt : Nat} {x : Int32} (d : decode cc pc = .ok (.ifCond .le off, 3)) (ht : (pc : Int) + off = (tgt : Int)) (kt : x ≤ 0 → V G p l e R s m args below meth c nL k n Z tgt lv st μ) (kf : ¬ x ≤ 0 → V G p l e R s m args below meth c nL k n Z (pc + 3) lv st μ) : V G p l e R s m args below meth c nL k n Z pc lv (.int x :: st) μ := by
  intro H locs ls hP hS hl
  exact lv_if_le F.1 F.2.1 d ht (fun h => kt h H locs ls hP hS hl) (fun h => kf h H locs ls hP hS hl)
theorem V_if_le_t (F : Fx G p R s m args meth c own cc nL ret k n) {off : Int} {tgt : Nat} {x : Int32} (d : decode cc pc = .ok (.ifCond .le off, 3)) (ht : (pc : Int) + off = (tgt : Int)) (h0 : x ≤ 0) (kt : V G p l e R s m args below meth c nL k n Z tgt lv st μ) : V G p l e R s m args below meth c nL k n Z pc lv (.int x :: st) μ := by
  intro H locs ls hP hS hl
  exact lv_if_le F.1 F.2.1 d ht (fun _ => kt H locs ls hP hS hl) (fun h => absurd h0 h)
theorem V_if_le_f (F : Fx G p R s m args meth c own cc nL ret k n) {off : Int} {tgt : Nat} {x : Int32} (d : decode cc pc = .ok (.ifCond .le off, 3)) (ht : (pc : Int) + off = (tgt : Int)) (h0 : ¬ x ≤ 0) (kf : V G p l e R s m args below meth c nL k n Z (pc + 3) lv st μ) : V G p l e R s m args below meth c nL k n Z pc lv (.int x :: st) μ := by
  intro H locs ls hP hS hl
  exact lv_if_le F.1 F.2.1 d ht (fun h => absurd h h0) (fun _ => kf H locs ls hP hS hl)
theorem V_icmp_le (F : Fx G p R s m args meth c own cc nL ret k n) {off : Int} {tgt : Nat} {x y : Int32} (d : decode cc pc = .ok (.if_icmp .le off, 3)) (ht : (pc : Int) + off = (tgt : Int)) (kt : x ≤ y → V G p l e R s m args below meth c nL k n Z tgt lv st μ) (kf : ¬ x ≤ y → V G p l e R s m args below meth c nL k n Z (pc + 3) lv st μ) : V G p l e R s m args below meth c nL k n Z pc lv (.int y :: .int x :: st) μ := by
  intro H locs ls hP hS hl
  exact lv_icmp_le F.1 F.2.1 d ht (fun h => kt h H locs ls hP hS hl) (fun h => kf h H locs ls hP hS hl)
theorem V_icmp_le_t (F : Fx G p R s m args meth c own cc nL ret k n) {off : Int} {tgt : Nat} {x y : Int32} (d : decode cc pc = .ok (.if_icmp .le off, 3)) (ht : (pc : Int) + off = (tgt : Int)) (h0 : x ≤ y) (kt : V G p l e R s m args below meth c nL k n Z tgt lv st μ) : V G p l e R s m args below meth c nL k n Z pc lv (.int y :: .int x :: st) μ := by
  intro H locs ls hP hS hl
  exact lv_icmp_le F.1 F.2.1 d ht (fun _ => kt H locs ls hP hS hl) (fun h => absurd h0 h)
theorem V_icmp_le_f (F : Fx G p R s m args meth c own cc nL ret k n) {off : Int} {tgt : Nat} {x y : Int32} (d : decode cc pc = .ok (.if_icmp .le off, 3)) (ht : (pc : Int) + off = (tgt : Int)) (h0 : ¬ x ≤ y) (kf : V G p l e R s m args below meth c nL k n Z (pc + 3) lv st μ) : V G p l e R s m args below meth c nL k n Z pc lv (.int y :: .int x :: st) μ := by
  intro H locs ls hP hS hl
  exact lv_icmp_le F.1 F.2.1 d ht (fun h => absurd h h0) (fun _ => kf H locs ls hP hS hl)
theorem V_tableIn (F : Fx G p R s m args meth c own cc nL ret k n) {dflt lo hi : Int} {offs : Array Int} {len : Nat} {x : Int32} {off : Int} {tgt : Nat} (d : decode cc pc = .ok (.tableswitch dflt lo hi offs, len)) (h1 : ¬ x.toInt < lo) (h2 : ¬ hi < x.toInt) (ho : offs[(x.toInt - lo).toNat]? = some off) (ht : (pc : Int) + off = (tgt : Int)) (kk : V G p l e R s m args below meth c nL k n Z tgt lv st μ) : V G p l e R s m args below meth c nL k n Z pc lv (.int x :: st) μ := by
  intro H locs ls hP hS hl
  exact lv_tableIn F.1 F.2.1 d h1 h2 ho ht (kk H locs ls hP hS hl)
theorem V_tableOut (F : Fx G p R s m args meth c own cc nL ret k n) {dflt lo hi : Int} {offs : Array Int} {len : Nat} {x : Int32} {tgt : Nat} (d : decode cc pc = .ok (.tableswitch dflt lo hi offs, len)) (h : x.toInt < lo ∨ hi < x.toInt) (ht : (pc : Int) + dflt = (tgt : Int)) (kk : V G p l e R s m args below meth c nL k n Z tgt lv st μ) : V G p l e R s m args below meth c nL k n Z pc lv (.int x :: st) μ := by
  intro H locs ls hP hS hl
  exact lv_tableOut F.1 F.2.1 d h ht (kk H locs ls hP hS hl)
theorem V_alen (F : Fx G p R s m args meth c own cc nL ret k n) {a q0 : Nat} {cA : ClassId} {x : vp_A} {ty : FieldType} {v : Int32} (d : decode cc pc = .ok (.arraylength, 1)) (t0 : Nat) (ha : (gW G μ)[q0]? = some (a, .inl (cA, x))) (ht : (gT G)[t0]? = some (cA, ty)) (hv : Int32.ofNat x.1 = v) (kk : V G p l e R s m args below meth c nL k n Z (pc + 1) lv (.int v :: st) μ) : V G p l e R s m args below meth c nL k n Z pc lv (.ref a :: st) μ := by
  intro H locs ls hP hS hl
  exact va_alen F.1 F.2.1 F.2.2.2.2.2.2.2.1.1 hP q0 t0 ha ht hv d (kk H locs ls hP hS hl)
theorem V_iald (F : Fx G p R s m args meth c own cc nL ret k n) {a q0 z : Nat} {f : Nat → Int32} {i : Int32} (d : decode cc pc = .ok (.iaload, 1)) (ha : (gW G μ)[q0]? = some (a, .inl (G.2.2.2.1.1, z, .inl f))) (hin : vp_in i z) (kk : V G p l e R s m args below meth c nL k n Z (pc + 1) lv (.int (f i.toNatClampNeg) :: st) μ) : V G p l e R s m args below meth c nL k n Z pc lv (.int i :: .ref a :: st) μ := by
  intro H locs ls hP hS hl
  exact va_iald F.1 F.2.1 F.2.2.2.2.2.2.2.1.1 hP q0 0 ha rfl hin d (kk H locs ls hP hS hl)
theorem V_lald (F : Fx G p R s m args meth c own cc nL ret k n) {a q0 z : Nat} {f : Nat → Int64} {i : Int32} (d : decode cc pc = .ok (.laload, 1)) (ha : (gW G μ)[q0]? = some (a, .inl (G.2.2.2.1.2, z, .inr (.inl f)))) (hin : vp_in i z) (kk : V G p l e R s m args below meth c nL k n Z (pc + 1) lv (.long (f i.toNatClampNeg) :: st) μ) : V G p l e R s m args below meth c nL k n Z pc lv (.int i :: .ref a :: st) μ := by
  intro H locs ls hP hS hl
  exact va_lald F.1 F.2.1 F.2.2.2.2.2.2.2.1.1 hP q0 1 ha rfl hin d (kk H locs ls hP hS hl)
theorem V_iast (F : Fx G p R s m args meth c own cc nL ret k n) {a q0 z : Nat} {f : Nat → Int32} {i x : Int32} {μ' : Mem} (d : decode cc pc = .ok (.iastore, 1)) (ha : (gW G μ)[q0]? = some (a, .inl (G.2.2.2.1.1, z, .inl f))) (hin : vp_in i z) (hm : (gW G μ).set q0 (a, .inl (G.2.2.2.1.1, z, .inl (upd f i.toNatClampNeg x))) = gW G μ') (kk : V G p l e R s m args below meth c nL k n Z (pc + 1) lv st μ') : V G p l e R s m args below meth c nL k n Z pc lv (.int x :: .int i :: .ref a :: st) μ := by
  intro H locs ls hP hS hl
  exact va_iast F.1 F.2.1 F.2.2.2.2.2.2.2.1.1 hP (F.2.2.2.2.2.2.2.1.2.1 μ) hS q0 0 ha rfl hin d (fun H1 locs1 hP1 _ hS1 => kk H1 locs1 ls (hm ▸ hP1) hS1 hl)
theorem V_last (F : Fx G p R s m args meth c own cc nL ret k n) {a q0 z : Nat} {f : Nat → Int64} {i : Int32} {x : Int64} {μ' : Mem} (d : decode cc pc = .ok (.lastore, 1)) (ha : (gW G μ)[q0]? = some (a, .inl (G.2.2.2.1.2, z, .inr (.inl f)))) (hin : vp_in i z) (hm : (gW G μ).set q0 (a, .inl (G.2.2.2.1.2, z, .inr (.inl (vp_updL f i.toNatClampNeg x)))) = gW G μ') (kk : V G p l e R s m args below meth c nL k n Z (pc + 1) lv st μ') : V G p l e R s m args below meth c nL k n Z pc lv (.long x :: .int i :: .ref a :: st) μ := by
  intro H locs ls hP hS hl
  exact va_last F.1 F.2.1 F.2.2.2.2.2.2.2.1.1 hP (F.2.2.2.2.2.2.2.1.2.1 μ) hS q0 1 ha rfl hin d (fun H1 locs1 hP1 _ hS1 => kk H1 locs1 ls (hm ▸ hP1) hS1 hl)
theorem V_getf (F : Fx G p R s m args meth c own cc nL ret k n) {C : String} {T : u_T} {N ci index a : Nat} {fs : List Value} {v : Value} (q0 j : Nat) (hlink : Cond.fieldLink own index C (T j).2.1 (T j).2.2.1 ∈ wsG) (d : decode cc pc = .ok (.getfield index, 3)) (hin : ∀ w ∈ u_ws C T N, w ∈ wsG) (he : (gW G μ)[q0]? = some (a, .inr (ci, fs))) (hc : vwCl[ci]? = some (C, T, N)) (hj : j < N) (hT : (T j).1 = C) (hv : fs[j]? = some v) (kk : V G p l e R s m args below meth c nL k n Z (pc + 3) lv (v :: st) μ) : V G p l e R s m args below meth c nL k n Z pc lv (.ref a :: st) μ := by
  intro H locs ls hP hS hl
  exact va_get F.1 F.2.1 F.2.2.2.2.2.2.1 hin F.2.2.2.2.2.1 F.2.2.2.2.2.2.2.1.1 hP q0 he hc j hj (F.2.2.2.2.2.2.1 _ hlink) (fun x h => by rw [hT] at h; exact h) hv d (kk H locs ls hP hS hl)
theorem V_getN (F : Fx G p R s m args meth c own cc nL ret k n) {C : String} {T : u_T} {N ci index a : Nat} {fs : List Value} {v : Value} (q0 j : Nat) {host : String} (hlink : Cond.fieldLinkNest own index C (T j).2.1 (T j).2.2.1 host ∈ nestW) (d : decode cc pc = .ok (.getfield index, 3)) (hin : ∀ w ∈ u_ws C T N, w ∈ wsG) (he : (gW G μ)[q0]? = some (a, .inr (ci, fs))) (hc : vwCl[ci]? = some (C, T, N)) (hj : j < N) (hT : (T j).1 = C) (hv : fs[j]? = some v) (kk : V G p l e R s m args below meth c nL k n Z (pc + 3) lv (v :: st) μ) : V G p l e R s m args below meth c nL k n Z pc lv (.ref a :: st) μ := by
  intro H locs ls hP hS hl
  exact va_getN F.1 F.2.1 F.2.2.2.2.2.2.1 hin F.2.2.2.2.2.1 F.2.2.2.2.2.2.2.1.1 hP q0 he hc j hj (va_Nw.use (nestW_tab (nestW_ok hlink)) (F.2.2.2.2.2.2.2.1.2.2.1 _ hlink)) (fun x h => by rw [hT] at h; exact h) hv d (kk H locs ls hP hS hl)
theorem V_putf (F : Fx G p R s m args meth c own cc nL ret k n) {C : String} {T : u_T} {N ci index a : Nat} {fs : List Value} {x : Int32} {μ' : Mem} (q0 j : Nat) (hlink : Cond.fieldLink own index C (T j).2.1 (T j).2.2.1 ∈ wsG) (d : decode cc pc = .ok (.putfield index, 3)) (hin : ∀ w ∈ u_ws C T N, w ∈ wsG) (ty0 : Nat → FieldType) (hty : ∀ k, k < N → parseFieldDescriptor (T k).2.2.1 = some (ty0 k)) (hnm : ∀ a, a < N → ∀ b, b < N → a ≠ b → (T a).2.1 ≠ (T b).2.1) (he : (gW G μ)[q0]? = some (a, .inr (ci, fs))) (hc : vwCl[ci]? = some (C, T, N)) (hj : j < N) (hT : (T j).1 = C) (hfin : (T j).2.2.2 = false) (hd : parseFieldDescriptor (T j).2.2.1 = some .int) (hl0 : j < fs.length) (hm : (gW G μ).set q0 (a, .inr (ci, fs.set j (.int x))) = gW G μ') (kk : V G p l e R s m args below meth c nL k n Z (pc + 3) lv st μ') : V G p l e R s m args below meth c nL k n Z pc lv (.int x :: .ref a :: st) μ := by
  intro H locs ls hP hS hl
  exact va_put F.1 F.2.1 F.2.2.2.2.2.2.1 hin ty0 hty hnm F.2.2.2.2.2.1 F.2.2.2.2.2.2.2.1.1 hP (F.2.2.2.2.2.2.2.1.2.1 μ) hS q0 he hc j hj (F.2.2.2.2.2.2.1 _ hlink) (fun x h => by rw [hT] at h; exact h) hfin hd rfl rfl hl0 d (fun H1 locs1 hP1 _ hS1 => kk H1 locs1 ls (hm ▸ hP1) hS1 hl)
theorem V_putN (F : Fx G p R s m args meth c own cc nL ret k n) {C : String} {T : u_T} {N ci index a : Nat} {fs : List Value} {x : Int32} {μ' : Mem} (q0 j : Nat) {host : String} (hlink : Cond.fieldLinkNest own index C (T j).2.1 (T j).2.2.1 host ∈ nestW) (d : decode cc pc = .ok (.putfield index, 3)) (hin : ∀ w ∈ u_ws C T N, w ∈ wsG) (ty0 : Nat → FieldType) (hty : ∀ k, k < N → parseFieldDescriptor (T k).2.2.1 = some (ty0 k)) (hnm : ∀ a, a < N → ∀ b, b < N → a ≠ b → (T a).2.1 ≠ (T b).2.1) (he : (gW G μ)[q0]? = some (a, .inr (ci, fs))) (hc : vwCl[ci]? = some (C, T, N)) (hj : j < N) (hT : (T j).1 = C) (hfin : (T j).2.2.2 = false) (hd : parseFieldDescriptor (T j).2.2.1 = some .int) (hl0 : j < fs.length) (hm : (gW G μ).set q0 (a, .inr (ci, fs.set j (.int x))) = gW G μ') (kk : V G p l e R s m args below meth c nL k n Z (pc + 3) lv st μ') : V G p l e R s m args below meth c nL k n Z pc lv (.int x :: .ref a :: st) μ := by
  intro H locs ls hP hS hl
  exact va_putN F.1 F.2.1 F.2.2.2.2.2.2.1 hin ty0 hty hnm F.2.2.2.2.2.1 F.2.2.2.2.2.2.2.1.1 hP (F.2.2.2.2.2.2.2.1.2.1 μ) hS q0 he hc j hj (va_Nw.use (nestW_tab (nestW_ok hlink)) (F.2.2.2.2.2.2.2.1.2.2.1 _ hlink)) (fun x h => by rw [hT] at h; exact h) hfin hd rfl rfl hl0 d (fun H1 locs1 hP1 _ hS1 => kk H1 locs1 ls (hm ▸ hP1) hS1 hl)
variable {Q : Option Value → Mem → Prop}
theorem V_iret (F : Fx G p R s m args meth c own cc nL (some .int) 0 0) {v : Int32} (d : decode cc pc = .ok (.ireturn, 1)) (hq : Q (some (.int v)) μ) : V G p l e R s m args below meth c nL 0 0 (MQ below (Qp G Q) args s 0 0 (gA G)) pc lv [.int v] μ := by
  intro H locs ls hP hS hl
  exact W.iret F.1 F.2.1 F.2.2.1 (fun t ht hW => ⟨⟨_, μ, rfl, hq, by rw [ht]; exact hP⟩, hS.F ht⟩) hS.2.2 d F.2.2.2.1
theorem V_zret (F : Fx G p R s m args meth c own cc nL (some .boolean) 0 0) {v : Int32} (d : decode cc pc = .ok (.ireturn, 1)) (hv : narrow .boolean (.int v) = .int v) (hq : Q (some (.int v)) μ) : V G p l e R s m args below meth c nL 0 0 (MQ below (Qp G Q) args s 0 0 (gA G)) pc lv [.int v] μ := by
  intro H locs ls hP hS hl
  exact W.zret F.1 F.2.1 F.2.2.1 hv (fun t ht hW => ⟨⟨_, μ, rfl, hq, by rw [ht]; exact hP⟩, hS.F ht⟩) hS.2.2 d F.2.2.2.1
theorem V_xret {ty : FieldType} (F : Fx G p R s m args meth c own cc nL (some ty) 0 0) {v : Int32} (d : decode cc pc = .ok (.ireturn, 1)) (hv : narrow ty (.int v) = .int v) (hq : Q (some (.int v)) μ) : V G p l e R s m args below meth c nL 0 0 (MQ below (Qp G Q) args s 0 0 (gA G)) pc lv [.int v] μ := by
  intro H locs ls hP hS hl
  exact W.zret F.1 F.2.1 F.2.2.1 hv (fun t ht hW => ⟨⟨_, μ, rfl, hq, by rw [ht]; exact hP⟩, hS.F ht⟩) hS.2.2 d F.2.2.2.1
theorem V_lret (F : Fx G p R s m args meth c own cc nL (some .long) 0 0) {v : Int64} (d : decode cc pc = .ok (.lreturn, 1)) (hq : Q (some (.long v)) μ) : V G p l e R s m args below meth c nL 0 0 (MQ below (Qp G Q) args s 0 0 (gA G)) pc lv [.long v] μ := by
  intro H locs ls hP hS hl
  exact W.lret F.1 F.2.1 F.2.2.1 (fun t ht hW => ⟨⟨_, μ, rfl, hq, by rw [ht]; exact hP⟩, hS.F ht⟩) hS.2.2 d F.2.2.2.1
theorem V_vret (F : Fx G p R s m args meth c own cc nL none 0 0) (d : decode cc pc = .ok (.return_, 1)) (hq : Q none μ) : V G p l e R s m args below meth c nL 0 0 (MQ below (Qp G Q) args s 0 0 (gA G)) pc lv [] μ := by
  intro H locs ls hP hS hl
  exact W.vret F.1 F.2.1 F.2.2.1 (fun t ht hW => ⟨⟨_, μ, rfl, hq, by rw [ht]; exact hP⟩, hS.F ht⟩) hS.2.2 d F.2.2.2.1
theorem V_aret {nm : String} (F : Fx G p R s m args meth c own cc nL (some (.object nm)) 0 0) {a : Nat} (d : decode cc pc = .ok (.areturn, 1)) (hq : Q (some (.ref a)) μ) : V G p l e R s m args below meth c nL 0 0 (MQ below (Qp G Q) args s 0 0 (gA G)) pc lv [.ref a] μ := by
  intro H locs ls hP hS hl
  exact W.aret F.1 F.2.1 F.2.2.1 (Or.inl ⟨_, rfl⟩) (Or.inr ⟨_, rfl⟩) (fun t ht hW => ⟨⟨_, μ, rfl, hq, by rw [ht]; exact hP⟩, hS.F ht⟩) hS.2.2 d F.2.2.2.1
theorem V_ldcS (F : Fx G p R s m args meth c own cc nL ret k n) {i : Nat} (hi : i < 6) (ho : own = RX2) (d : decode cc pc = .ok (.ldc (sIdx.getD i 0), 2)) (kk : V G p l e R s m args below meth c nL k n Z (pc + 2) lv (.ref (gK G i) :: st) μ) : V G p l e R s m args below meth c nL k n Z pc lv st μ := by
  intro H locs ls hP hS hl
  exact va_ldcS F.1 F.2.1 F.2.2.2.2.2.1 (ho ▸ F.2.2.2.2.2.2.2.1.2.2.2.2.1 i hi) d (kk H locs ls hP hS hl)
theorem V_max (F : Fx G p R s m args meth c own cc nL ret k n) {x y : Int32} {index : Nat} (hlink : Cond.methodLink own index Lib.Math.max.name ∈ wsG) (d : decode cc pc = .ok (.invokestatic index, 3)) (hR : 1 ≤ R.frames ∧ (st.map fun v => v.category).sum + 13 ≤ R.locals) (kk : V G p l e R s m args below meth c nL k n Z (pc + 3) lv (.int (if x < y then y else x) :: st) μ) : V G p l e R s m args below meth c nL k n Z pc lv (.int y :: .int x :: st) μ := by
  intro H locs ls hP hS hl
  exact va_mmax F.1 F.2.1 (F.2.2.2.2.1.trans hl.1.symm) F.2.2.2.2.2.1 (F.2.2.2.2.2.2.1 _ hlink) (F.2.2.2.2.2.2.1 _ ms_Math_max) (F.2.2.2.2.2.2.1 _ mt_java_lang_Math) (F.2.2.2.2.2.2.1 _ mc_Math_max) hR.1 hR.2 F.2.2.2.2.2.2.2.2.1 F.2.2.2.2.2.2.2.2.2 d (kk H locs ls hP hS hl)
theorem V_min (F : Fx G p R s m args meth c own cc nL ret k n) {x y : Int32} {index : Nat} (hlink : Cond.methodLink own index Lib.Math.min.name ∈ wsG) (d : decode cc pc = .ok (.invokestatic index, 3)) (hR : 1 ≤ R.frames ∧ (st.map fun v => v.category).sum + 13 ≤ R.locals) (kk : V G p l e R s m args below meth c nL k n Z (pc + 3) lv (.int (if y < x then y else x) :: st) μ) : V G p l e R s m args below meth c nL k n Z pc lv (.int y :: .int x :: st) μ := by
  intro H locs ls hP hS hl
  exact va_mmin F.1 F.2.1 (F.2.2.2.2.1.trans hl.1.symm) F.2.2.2.2.2.1 (F.2.2.2.2.2.2.1 _ hlink) (F.2.2.2.2.2.2.1 _ ms_Math_min) (F.2.2.2.2.2.2.1 _ mt_java_lang_Math) (F.2.2.2.2.2.2.1 _ mc_Math_min) hR.1 hR.2 F.2.2.2.2.2.2.2.2.1 F.2.2.2.2.2.2.2.2.2 d (kk H locs ls hP hS hl)
/-- a call, out of its run -/
theorem V_run {As : Array Value} {st0 : List Value} {Qc : Option Value → Mem → Prop} (hr : ∀ (H : Heap) (locs : List Loc) (ls : Array Slot), va_P (gD G) vwCl (gW G μ) H → va_S (gA G) s.heap H locs → ls.size = nL → va_Run p l e R s m args below meth c H locs k n 0 0 (F0 m pc ls st0) st (Qp G Qc As) (gA G))
    (kk : ∀ (r : Option Value) (μ' : Mem), Qc r μ' → V G p l e R s m args below meth c nL k n Z (pc + 3) lv (r.toList ++ st) μ') : V G p l e R s m args below meth c nL k n Z pc lv st0 μ := by
  intro H locs ls hP hS hl T hT X
  obtain ⟨v, st₀, t, T', L, h0, X', hL, e1, e2, ⟨⟨r, μ', hv, hq, hP1⟩, hz, hk⟩, hst⟩ := hr H locs ls hP hS hl.1 T hT X
  cases hv
  rw [h0] at hz hk
  obtain ⟨t2, a1, b1⟩ := kk v μ' hq T'.heap (locs ++ L) ls (by rw [e1]; exact hP1) ⟨Nat.le_trans hS.1 (by rw [e1]; exact hz), fun q h1 h2 => by rw [e1, hk q (Nat.lt_of_lt_of_le h1 hS.1) h2]; exact hS.2.1 q h1 h2, fun q hq => (List.mem_append.mp hq).elim (hS.2.2 q) (hL q)⟩ hl T' rfl X'
  exact ⟨t2, hst t2 a1, b1⟩
/-- what a call asks of its callee's words -/
def MI (y : MethodName) (b : ByteArray) (nLc : Nat) (retc : Option FieldType) (j : Nat) : Prop := Cond.code y b nLc retc ∈ wsG ∧ Cond.initialized y.cls ∈ wsG ∧ (y.cls ≠ "java/lang/invoke/MethodHandle" ∧ y.cls ≠ "java/lang/invoke/VarHandle" ∧ (parseMethodDescriptor y.desc).map (fun d => d.parameters.length) = some j) ∧ plainName y.cls = true
theorem good_code {y : MethodName} {b : ByteArray} {nLc : Nat} {retc : Option FieldType} (h : Cond.code y b nLc retc ∈ wsG) : GoodIn wsG (Cond.code y b nLc retc :: wsG) := fun w hw => by
  rcases List.mem_cons.mp hw with rfl | h2
  · exact ⟨h, good_of_word (wsG_ok h)⟩
  · exact ⟨h2, good_of_word (wsG_ok h2)⟩
theorem room_ok {R : Room} {dp nLc : Nat} (hR : dp + 1 ≤ R.frames ∧ (dp + 1) * 40 ≤ R.locals) (hn : nLc ≤ 21) : (rmD dp).frames + 1 ≤ R.frames ∧ 8 + (nLc + 11) + (rmD dp).locals ≤ R.locals := ⟨hR.1, by show 8 + (nLc + 11) + dp * 40 ≤ R.locals; omega⟩
variable {y : MethodName} {b : ByteArray} {nLc dp index j : Nat} {retc : Option FieldType} {As : List Value} {Qc : Option Value → Mem → Prop}
theorem V_callS (F : Fx G p R s m args meth c own cc nL ret k n) (hC : Ct G l dp y b nLc retc As μ Qc) (hM : MI y b nLc retc j) (hs : Cond.static y ∈ wsG) (hlink : Cond.methodLink own index y ∈ wsG) (d : decode cc pc = .ok (.invokestatic index, 3)) (hR : dp + 1 ≤ R.frames ∧ (dp + 1) * 40 ≤ R.locals) {st0 : List Value} (hst : st0 = As.reverse ++ st) (hn : As.length = j) (hnl : nLc ≤ 21) (hw : (st.map fun v => v.category).sum ≤ 8)
    (kk : ∀ (r : Option Value) (μ' : Mem), Qc r μ' → V G p l e R s m args below meth c nL k n Z (pc + 3) lv (r.toList ++ st) μ') : V G p l e R s m args below meth c nL k n Z pc lv st0 μ := by
  refine V_run (As := As.toArray) (Qc := Qc) (fun H locs ls hP hS hz => ?_) kk
  subst hst
  exact va_runS ⟨F.1, F.2.1, F.2.2.2.2.1, F.2.2.2.2.2.1, F.2.2.2.2.2.2.1⟩ hC ⟨callB_of j F.2.2.2.2.2.2.1 (good_code hM.1) rfl rfl rfl (F.2.2.2.2.2.2.1 _ hM.2.1) (F.2.2.2.2.2.2.1 _ hlink) hM.2.2.1 (room_ok hR hnl), F.2.2.2.2.2.2.1 _ hs⟩
    ⟨Pp.blind, fun U hU hW => ⟨rfl, by rw [hU]; exact hP, by rw [hU]; exact F.2.2.2.2.2.2.2.1.step hS hW⟩⟩ rfl hn hz rfl (lv_room hw) d F.2.2.2.2.2.2.2.2
theorem V_callSN (F : Fx G p R s m args meth c own cc nL ret k n) {host : String} (hC : Ct G l dp y b nLc retc As μ Qc) (hM : MI y b nLc retc j) (hs : Cond.static y ∈ wsG) (hlink : Cond.methodLinkNest own index y host ∈ nestW) (d : decode cc pc = .ok (.invokestatic index, 3)) (hR : dp + 1 ≤ R.frames ∧ (dp + 1) * 40 ≤ R.locals) {st0 : List Value} (hst : st0 = As.reverse ++ st) (hn : As.length = j) (hnl : nLc ≤ 21) (hw : (st.map fun v => v.category).sum ≤ 8)
    (kk : ∀ (r : Option Value) (μ' : Mem), Qc r μ' → V G p l e R s m args below meth c nL k n Z (pc + 3) lv (r.toList ++ st) μ') : V G p l e R s m args below meth c nL k n Z pc lv st0 μ := by
  refine V_run (As := As.toArray) (Qc := Qc) (fun H locs ls hP hS hz => ?_) kk
  subst hst
  exact va_runSN ⟨F.1, F.2.1, F.2.2.2.2.1, F.2.2.2.2.2.1, F.2.2.2.2.2.2.1⟩ hC ⟨va_cnB j F.2.2.2.2.2.2.1 (good_code hM.1) rfl rfl rfl (F.2.2.2.2.2.2.2.1.2.2.1 _ hlink) (F.2.2.2.2.2.2.1 _ hM.2.1) hM.2.2.1 (room_ok hR hnl), F.2.2.2.2.2.2.1 _ hs, trivial⟩
    ⟨Pp.blind, fun U hU hW => ⟨rfl, by rw [hU]; exact hP, by rw [hU]; exact F.2.2.2.2.2.2.2.1.step hS hW⟩⟩ rfl hn hz rfl (lv_room hw) d F.2.2.2.2.2.2.2.2
theorem V_callV (F : Fx G p R s m args meth c own cc nL ret k n) {a ci q0 : Nat} {qc : vw_C} {fs : List Value} (hC : Ct G l dp y b nLc retc (.ref a :: As) μ Qc) (hM : MI y b nLc retc j) (hs : Cond.instanceMethod y ∈ wsG ∧ Cond.selects y.cls y y ∈ wsG) (hlink : Cond.methodLink own index y ∈ wsG) (d : decode cc pc = .ok (.invokevirtual index, 3)) (hR : dp + 1 ≤ R.frames ∧ (dp + 1) * 40 ≤ R.locals) {st0 : List Value} (hst : st0 = As.reverse ++ .ref a :: st) (hn : As.length = j) (hnl : nLc ≤ 21) (hw : (st.map fun v => v.category).sum ≤ 8)
    (he : (gW G μ)[q0]? = some (a, .inr (ci, fs))) (hc : vwCl[ci]? = some qc) (hqc : qc.1 = y.cls) (kk : ∀ (r : Option Value) (μ' : Mem), Qc r μ' → V G p l e R s m args below meth c nL k n Z (pc + 3) lv (r.toList ++ st) μ') : V G p l e R s m args below meth c nL k n Z pc lv st0 μ := by
  refine V_run (As := (Value.ref a :: As).toArray) (Qc := Qc) (fun H locs ls hP hS hz => ?_) kk
  subst hst
  exact va_runV ⟨F.1, F.2.1, F.2.2.2.2.1, F.2.2.2.2.2.1, F.2.2.2.2.2.2.1⟩ hC ⟨callB_of j F.2.2.2.2.2.2.1 (good_code hM.1) rfl rfl rfl (F.2.2.2.2.2.2.1 _ hM.2.1) (F.2.2.2.2.2.2.1 _ hlink) hM.2.2.1 (room_ok hR hnl), F.2.2.2.2.2.2.1 _ hs.1, F.2.2.2.2.2.2.1 _ hs.2⟩
    ⟨Pp.blind, hqc ▸ va_recv F.2.2.2.2.2.2.2.1.1 hP hc he, fun U hU hW => ⟨rfl, by rw [hU]; exact hP, by rw [hU]; exact F.2.2.2.2.2.2.2.1.step hS hW⟩⟩ rfl hn hz rfl (lv_room hw) d F.2.2.2.2.2.2.2.2
theorem V_callVN (F : Fx G p R s m args meth c own cc nL ret k n) {host : String} {a ci q0 : Nat} {qc : vw_C} {fs : List Value} (hC : Ct G l dp y b nLc retc (.ref a :: As) μ Qc) (hM : MI y b nLc retc j) (hs : Cond.instanceMethod y ∈ wsG ∧ Cond.selects y.cls y y ∈ wsG) (hlink : Cond.methodLinkNest own index y host ∈ nestW) (d : decode cc pc = .ok (.invokevirtual index, 3)) (hR : dp + 1 ≤ R.frames ∧ (dp + 1) * 40 ≤ R.locals) {st0 : List Value} (hst : st0 = As.reverse ++ .ref a :: st) (hn : As.length = j) (hnl : nLc ≤ 21) (hw : (st.map fun v => v.category).sum ≤ 8)
    (he : (gW G μ)[q0]? = some (a, .inr (ci, fs))) (hc : vwCl[ci]? = some qc) (hqc : qc.1 = y.cls) (kk : ∀ (r : Option Value) (μ' : Mem), Qc r μ' → V G p l e R s m args below meth c nL k n Z (pc + 3) lv (r.toList ++ st) μ') : V G p l e R s m args below meth c nL k n Z pc lv st0 μ := by
  refine V_run (As := (Value.ref a :: As).toArray) (Qc := Qc) (fun H locs ls hP hS hz => ?_) kk
  subst hst
  exact va_runVN ⟨F.1, F.2.1, F.2.2.2.2.1, F.2.2.2.2.2.1, F.2.2.2.2.2.2.1⟩ hC ⟨va_cnB j F.2.2.2.2.2.2.1 (good_code hM.1) rfl rfl rfl (F.2.2.2.2.2.2.2.1.2.2.1 _ hlink) (F.2.2.2.2.2.2.1 _ hM.2.1) hM.2.2.1 (room_ok hR hnl), F.2.2.2.2.2.2.1 _ hs.1, F.2.2.2.2.2.2.1 _ hs.2⟩
    ⟨Pp.blind, hqc ▸ va_recv F.2.2.2.2.2.2.2.1.1 hP hc he, fun U hU hW => ⟨rfl, by rw [hU]; exact hP, by rw [hU]; exact F.2.2.2.2.2.2.2.1.step hS hW⟩⟩ rfl hn hz rfl (lv_room hw) d F.2.2.2.2.2.2.2.2
end VROWS
/-- a contract, out of a walk of the method's body -/
theorem Ct.of {G : Geo} {l : Launch} {dp : Nat} {y : MethodName} {own : String} {b : ByteArray} {nL j : Nat} {ret : Option FieldType} {av : List Value} {μ : Mem} {Q : Option Value → Mem → Prop} (hM : MI y b nL ret j) (ho : y.cls = own) (lv : List (Option Value)) (hn : (lg_sl av).length ≤ nL) (hlv : al 0 lv = lv_args 0 av)
    (body : ∀ (p : Program) (e : Env) (s : State) (m : MethodId) (below : List Frame) (meth : Method) (c : Code), Fx G p (rmD dp) s m av.toArray meth c own b nL ret 0 0 → V G p l e (rmD dp) s m av.toArray below meth c nL 0 0 (MQ below (Qp G Q) av.toArray s 0 0 (gA G)) 0 lv [] μ) : Ct G l dp y b nL ret av μ Q := by
  refine Met.ofW (cc := b) (maxL := nL) (ret := ret) hM.2.2.2 rfl ?_
  intro p e s m args below meth c s₁ B hml hv
  obtain ⟨rfl, hP, hst⟩ := hv
  have hts := atoms_spec (ws := Cond.code y b nL ret :: wsG) B.pre
  have hown : s.vm.findClass y.cls = some m.cls := findClass_of_methodNamed B.named
  have hl := lv_entry av (n := nL) hn
  rw [lg_entry_eq]
  exact body p e s m below meth c ⟨B.exec, B.bytes, B.returns, B.notSynchronized, hml, ho ▸ hown, fun w hw => hts w (List.mem_cons_of_mem _ hw), hst, Nat.zero_le _, Nat.zero_le _⟩ s.heap [] _ hP va_S.rf (hlv ▸ hl)
end MACH
