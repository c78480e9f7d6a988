section CTOR
abbrev Kp : Type := va_G × (ClassId × ClassId) × (Nat → Nat) × (Nat → Nat)
/-- a geometry whose world is this list -/
abbrev Gc (κ : Kp) (N0 : Nat) (ws : va_W) : Geo := (fun _ => ws, fun q => N0 ≤ q, κ.1, κ.2.1, κ.2.2.1, κ.2.2.2)
abbrev rmC (dp mc ms : Nat) : Room := { frames := dp, cells := mc, slots := ms, locals := dp * 40 }
abbrev aI (κ : Kp) (q N : Nat) (f : Nat → Int32) : Nat × va_E := (q, .inl (κ.2.1.1, N, .inl f))
abbrev aJ (κ : Kp) (q N : Nat) (f : Nat → Int64) : Nat × va_E := (q, .inl (κ.2.1.2, N, .inr (.inl f)))
abbrev ob (q ci : Nat) (fs : List Value) : Nat × va_E := (q, .inr (ci, fs))
abbrev z32 : Nat → Int32 := fun _ => 0
abbrev z64 : Nat → Int64 := fun _ => 0
def Pc0 (κ : Kp) (N0 : Nat) (av : List Value) (w0 : va_W) : Array Value → State → Prop := va_Pc av (fun U => N0 ≤ U.heap.size ∧ va_P κ.1 vwCl w0 U.heap ∧ St (Gc κ N0 w0) U U.heap)
def Qc0 (κ : Kp) (N0 : Nat) (Pr : Option Value → va_W → Prop) : Array Value → State → Outcome → State → Prop := fun _ st oc t => (∃ (r : Option Value) (w1 : va_W), oc = .returned r ∧ Pr r w1 ∧ va_D (fun q => N0 ≤ q) w1 ∧ va_P κ.1 vwCl w1 t.heap) ∧ va_F (fun q => N0 ≤ q) st t
/-- a contract of a method that makes cells -/
def Cc (κ : Kp) (N0 : Nat) (l : Launch) (dp mc ms : Nat) (y : MethodName) (b : ByteArray) (nL : Nat) (ret : Option FieldType) (av : List Value) (w0 : va_W) (Pr : Option Value → va_W → Prop) : Prop :=
  Met l y (Cond.code y b nL ret :: wsG) (rmC dp mc ms) (Pc0 κ N0 av w0) (Qc0 κ N0 Pr) mc ms (fun q => N0 ≤ q)
theorem Pc0.blind {κ : Kp} {N0 : Nat} {av : List Value} {w0 : va_W} : FrameBlind (Pc0 κ N0 av w0) := fun a U g mk h => ⟨h.1, h.2.1, h.2.2.1, h.2.2.2.calling g mk a⟩
theorem rot_at {ws : va_W} {x : Nat × va_E} {k : Nat} {q : Nat × va_E} (h : (x :: ws)[k]? = some q) : (ws ++ [x])[if k = 0 then ws.length else k - 1]? = some q := by
  cases k with
  | zero => simpa using h
  | succ k =>
    have h2 : ws[k]? = some q := by simpa using h
    have hl := (List.getElem?_eq_some_iff.mp h2).1
    rw [if_neg (by omega), Nat.add_sub_cancel, List.getElem?_append_left hl]
    exact h2
theorem rot_P {D : va_G} {ws : va_W} {x : Nat × va_E} {H : Heap} (h : va_P D vwCl (ws ++ [x]) H) : va_P D vwCl (x :: ws) H := fun _ _ hk => h _ _ (rot_at hk)
theorem rot_D {A : Nat → Prop} {ws : va_W} {x : Nat × va_E} (h : va_D A (ws ++ [x])) : va_D A (x :: ws) := by
  refine ⟨fun i j p q hi hj e => ?_, fun _ _ hk => h.2 _ _ (rot_at hk)⟩
  have hij := h.1 _ _ p q (rot_at hi) (rot_at hj) e
  have hi2 := (List.getElem?_eq_some_iff.mp hi).1
  have hj2 := (List.getElem?_eq_some_iff.mp hj).1
  simp only [List.length_cons] at hi2 hj2
  by_cases h1 : i = 0 <;> by_cases h2 : j = 0 <;> simp only [h1, h2, if_true, if_false] at hij <;> omega
section CROWS
variable {κ : Kp} {N0 : Nat} {ws : va_W} {p : Program} {l : Launch} {e : Env} {R : Room} {s : State} {m : MethodId} {args : Array Value} {below : List Frame} {meth : Method} {c : Code} {k n : Nat} {Z : State → Prop} {own : String} {cc : ByteArray} {nL pc : Nat} {ret : Option FieldType} {lv : List (Option Value)} {st : List Value} {μ : Mem}
theorem Fx.world {ws' : va_W} {k' n' : Nat} (F : Fx (Gc κ N0 ws) p R s m args meth c own cc nL ret k n) (hD : va_D (fun q => N0 ≤ q) ws') (hR : k' ≤ R.cells ∧ n' ≤ R.slots) : Fx (Gc κ N0 ws') p R s m args meth c own cc nL ret k' n' :=
  ⟨F.1, F.2.1, F.2.2.1, F.2.2.2.1, F.2.2.2.2.1, F.2.2.2.2.2.1, F.2.2.2.2.2.2.1, ⟨F.2.2.2.2.2.2.2.1.1, fun _ => hD, F.2.2.2.2.2.2.2.1.2.2⟩, hR⟩
theorem Vc_newI (hN : N0 ≤ s.heap.size) (F : Fx (Gc κ N0 ws) p R s m args meth c own cc nL ret k n) {N : Nat} (d : decode cc pc = .ok (.newarray .int, 2)) (hN2 : N < 2 ^ 20) (hR : k + 1 ≤ R.cells ∧ n + N ≤ R.slots)
    (kk : ∀ q : Nat, Fx (Gc κ N0 (aI κ q N z32 :: ws)) p R s m args meth c own cc nL ret (k + 1) (n + N) → V (Gc κ N0 (aI κ q N z32 :: ws)) p l e R s m args below meth c nL (k + 1) (n + N) Z (pc + 2) lv (.ref q :: st) μ) : V (Gc κ N0 ws) p l e R s m args below meth c nL k n Z pc lv (.int (nI N) :: st) μ := by
  intro H locs ls hP hS hl
  refine va_newa (atype := .int) (ty := .int) F.1 F.2.1 (F.2.2.2.2.2.2.1 _ ma_int) rfl F.2.2.2.2.2.2.2.1.1 hP (F.2.2.2.2.2.2.2.1.2.1 μ) hS (fun q h => Nat.le_trans hN h) (N' := N) (a0 := (N, .inl z32)) (fun cA => rfl) (by rw [← nI_0]; exact fun q => by have := (nI_ltI (by omega) (by omega)).mp q; omega) (nI_clamp (by omega)) (by show N * 4 ≤ _; omega) hR.1 hR.2 d ?_
  intro q cA H1 hK1 hP1 hD1 hS1
  have e1 : s.vm.findClass ("[" ++ FieldType.int.toString) = some cA := (hK1.2 2 (cA, .int) rfl).2
  have e2 : s.vm.findClass ("[" ++ FieldType.int.toString) = some κ.2.1.1 := (F.2.2.2.2.2.2.2.1.1.2 0 (κ.2.1.1, .int) rfl).2
  have e3 : cA = κ.2.1.1 := Option.some.inj (e1.symm.trans e2)
  subst e3
  exact kk q (F.world (rot_D hD1) hR) H1 locs ls (rot_P hP1) hS1 hl
theorem Vc_newJ (hN : N0 ≤ s.heap.size) (F : Fx (Gc κ N0 ws) p R s m args meth c own cc nL ret k n) {N : Nat} (d : decode cc pc = .ok (.newarray .long, 2)) (hN2 : N < 2 ^ 20) (hR : k + 1 ≤ R.cells ∧ n + N ≤ R.slots)
    (kk : ∀ q : Nat, Fx (Gc κ N0 (aJ κ q N z64 :: ws)) p R s m args meth c own cc nL ret (k + 1) (n + N) → V (Gc κ N0 (aJ κ q N z64 :: ws)) p l e R s m args below meth c nL (k + 1) (n + N) Z (pc + 2) lv (.ref q :: st) μ) : V (Gc κ N0 ws) p l e R s m args below meth c nL k n Z pc lv (.int (nI N) :: st) μ := by
  intro H locs ls hP hS hl
  refine va_newa (atype := .long) (ty := .long) F.1 F.2.1 (F.2.2.2.2.2.2.1 _ ma_long) rfl F.2.2.2.2.2.2.2.1.1 hP (F.2.2.2.2.2.2.2.1.2.1 μ) hS (fun q h => Nat.le_trans hN h) (N' := N) (a0 := (N, .inr (.inl z64))) (fun cA => rfl) (by rw [← nI_0]; exact fun q => by have := (nI_ltI (by omega) (by omega)).mp q; omega) (nI_clamp (by omega)) (by show N * 8 ≤ _; omega) hR.1 hR.2 d ?_
  intro q cA H1 hK1 hP1 hD1 hS1
  have e1 : s.vm.findClass ("[" ++ FieldType.long.toString) = some cA := (hK1.2 2 (cA, .long) rfl).2
  have e2 : s.vm.findClass ("[" ++ FieldType.long.toString) = some κ.2.1.2 := (F.2.2.2.2.2.2.2.1.1.2 1 (κ.2.1.2, .long) rfl).2
  have e3 : cA = κ.2.1.2 := Option.some.inj (e1.symm.trans e2)
  subst e3
  exact kk q (F.world (rot_D hD1) hR) H1 locs ls (rot_P hP1) hS1 hl
theorem Vc_new (hN : N0 ≤ s.heap.size) (F : Fx (Gc κ N0 ws) p R s m args meth c own cc nL ret k n) {C : String} {T : u_T} {N ci index : Nat} {fs : List Value} (d : decode cc pc = .ok (.new index, 3)) (hin : ∀ w ∈ u_ws C T N, w ∈ wsG) (ty : Nat → FieldType) (hty : ∀ k, k < N → parseFieldDescriptor (T k).2.2.1 = some (ty k)) (hcl : Cond.classLink own index C ∈ wsG) (hinst : Cond.instantiable C N ∈ wsG) (hini : Cond.initialized C ∈ wsG) (hc : vwCl[ci]? = some (C, T, N)) (hfs : ∀ j, j < N → defaultValue (ty j) = vp_V fs j) (hR : k + 1 ≤ R.cells ∧ n + N ≤ R.slots)
    (kk : ∀ q : Nat, Fx (Gc κ N0 (ob q ci fs :: ws)) p R s m args meth c own cc nL ret (k + 1) (n + N) → V (Gc κ N0 (ob q ci fs :: ws)) p l e R s m args below meth c nL (k + 1) (n + N) Z (pc + 3) lv (.ref q :: st) μ) : V (Gc κ N0 ws) p l e R s m args below meth c nL k n Z pc lv st μ := by
  intro H locs ls hP hS hl
  refine va_new F.1 F.2.1 F.2.2.2.2.2.2.1 hin ty hty F.2.2.2.2.2.1 (F.2.2.2.2.2.2.1 _ hcl) (F.2.2.2.2.2.2.1 _ hinst) (F.2.2.2.2.2.2.1 _ hini) F.2.2.2.2.2.2.2.1.1 hP (F.2.2.2.2.2.2.2.1.2.1 μ) hS (fun q h => Nat.le_trans hN h) hc hfs hR.1 hR.2 d ?_
  intro q H1 hP1 hD1 hS1
  exact kk q (F.world (rot_D hD1) hR) H1 locs ls (rot_P hP1) hS1 hl
theorem Vc_putF (F : Fx (Gc κ N0 ws) p R s m args meth c own cc nL ret k n) (hname : meth.name = "<init>") {C : String} {T : u_T} {N ci index a : Nat} {fs : List Value} {v : Value} {ty : FieldType} {ws' : va_W} (q0 j : Nat) (hlink : Cond.fieldLink own index C (T j).2.1 (T j).2.2.1 ∈ wsG) (d : decode cc pc = .ok (.putfield index, 3)) (hin : ∀ w ∈ u_ws C T N, w ∈ wsG) (ty0 : Nat → FieldType) (hty : ∀ k, k < N → parseFieldDescriptor (T k).2.2.1 = some (ty0 k)) (hnm : ∀ a, a < N → ∀ b, b < N → a ≠ b → (T a).2.1 ≠ (T b).2.1) (he : ws[q0]? = some (ob a ci fs)) (hc : vwCl[ci]? = some (C, T, N)) (hj : j < N) (hT : (T j).1 = C) (hfin : (T j).2.2.2 = true) (hdecl : (T j).1 = own) (hd : parseFieldDescriptor (T j).2.2.1 = some ty) (hn : narrow ty v = v) (hfit : fits ty v = true) (hl0 : j < fs.length) (hw : ws.set q0 (ob a ci (fs.set j v)) = ws')
    (kk : Fx (Gc κ N0 ws') p R s m args meth c own cc nL ret k n → V (Gc κ N0 ws') p l e R s m args below meth c nL k n Z (pc + 3) lv st μ) : V (Gc κ N0 ws) p l e R s m args below meth c nL k n Z pc lv (v :: .ref a :: st) μ := by
  intro H locs ls hP hS hl
  subst hw
  exact va_putF F.1 F.2.1 F.2.2.2.2.2.2.1 hin ty0 hty hnm F.2.2.2.2.2.1 F.2.2.2.2.2.2.2.1.1 hP (F.2.2.2.2.2.2.2.1.2.1 μ) hS q0 he hc j hj (F.2.2.2.2.2.2.1 _ hlink) (fun x h => by rw [hT] at h; exact h) hfin hname hdecl hd hn hfit hl0 d (fun H1 locs1 hP1 hD1 hS1 => kk (F.world hD1 F.2.2.2.2.2.2.2.2) H1 locs1 ls hP1 hS1 hl)
theorem Vc_put (F : Fx (Gc κ N0 ws) p R s m args meth c own cc nL ret k n) {C : String} {T : u_T} {N ci index a : Nat} {fs : List Value} {v : Value} {ty : FieldType} {ws' : va_W} (q0 j : Nat) (hlink : Cond.fieldLink own index C (T j).2.1 (T j).2.2.1 ∈ wsG) (d : decode cc pc = .ok (.putfield index, 3)) (hin : ∀ w ∈ u_ws C T N, w ∈ wsG) (ty0 : Nat → FieldType) (hty : ∀ k, k < N → parseFieldDescriptor (T k).2.2.1 = some (ty0 k)) (hnm : ∀ a, a < N → ∀ b, b < N → a ≠ b → (T a).2.1 ≠ (T b).2.1) (he : ws[q0]? = some (ob a ci fs)) (hc : vwCl[ci]? = some (C, T, N)) (hj : j < N) (hT : (T j).1 = C) (hfin : (T j).2.2.2 = false) (hd : parseFieldDescriptor (T j).2.2.1 = some ty) (hn : narrow ty v = v) (hfit : fits ty v = true) (hl0 : j < fs.length) (hw : ws.set q0 (ob a ci (fs.set j v)) = ws')
    (kk : Fx (Gc κ N0 ws') p R s m args meth c own cc nL ret k n → V (Gc κ N0 ws') p l e R s m args below meth c nL k n Z (pc + 3) lv st μ) : V (Gc κ N0 ws) p l e R s m args below meth c nL k n Z pc lv (v :: .ref a :: st) μ := by
  intro H locs ls hP hS hl
  subst hw
  exact va_put F.1 F.2.1 F.2.2.2.2.2.2.1 hin ty0 hty hnm F.2.2.2.2.2.1 F.2.2.2.2.2.2.2.1.1 hP (F.2.2.2.2.2.2.2.1.2.1 μ) hS q0 he hc j hj (F.2.2.2.2.2.2.1 _ hlink) (fun x h => by rw [hT] at h; exact h) hfin hd hn hfit hl0 d (fun H1 locs1 hP1 hD1 hS1 => kk (F.world hD1 F.2.2.2.2.2.2.2.2) H1 locs1 ls hP1 hS1 hl)
theorem Vc_ias (F : Fx (Gc κ N0 ws) p R s m args meth c own cc nL ret k n) {a q0 z j : Nat} {f : Nat → Int32} {x : Int32} {ws' : va_W} (d : decode cc pc = .ok (.iastore, 1)) (ha : ws[q0]? = some (aI κ a z f)) (hj : j < z) (hz : z < 2 ^ 20) (hm : ws.set q0 (aI κ a z (upd f j x)) = ws') (kk : Fx (Gc κ N0 ws') p R s m args meth c own cc nL ret k n → V (Gc κ N0 ws') p l e R s m args below meth c nL k n Z (pc + 1) lv st μ) : V (Gc κ N0 ws) p l e R s m args below meth c nL k n Z pc lv (.int x :: .int (nI j) :: .ref a :: st) μ := by
  intro H locs ls hP hS hl
  have e1 : (nI j).toNatClampNeg = j := nI_clamp (by omega)
  refine va_iast F.1 F.2.1 F.2.2.2.2.2.2.2.1.1 hP (F.2.2.2.2.2.2.2.1.2.1 μ) hS q0 0 ha rfl (vp_in_nI hj (by omega)) d (fun H1 locs1 hP1 hD1 hS1 => ?_)
  rw [e1] at hP1 hD1
  have hP2 : va_P κ.1 vwCl ws' H1 := hm ▸ hP1
  have hD2 : va_D (fun q => N0 ≤ q) ws' := hm ▸ hD1
  exact kk (F.world hD2 F.2.2.2.2.2.2.2.2) H1 locs1 ls hP2 hS1 hl
theorem Vc_obj (F : Fx (Gc κ N0 ws) p R s m args meth c own cc nL ret k n) {index a : Nat} (d : decode cc pc = .ok (.invokespecial index, 3)) (hlink : Cond.methodLink own index objectInit ∈ wsG) (hR : 1 ≤ R.frames ∧ (st.map fun v => v.category).sum + 12 ≤ R.locals) (kk : V (Gc κ N0 ws) p l e R s m args below meth c nL k n Z (pc + 3) lv st μ) : V (Gc κ N0 ws) p l e R s m args below meth c nL k n Z pc lv (.ref a :: st) μ := by
  intro H locs ls hP hS hl
  refine W.objInit F.1 F.2.1 F.2.2.2.2.2.1 (F.2.2.2.2.2.2.1 _ hlink) (F.2.2.2.2.2.2.1 _ mn_objectInit) (F.2.2.2.2.2.2.1 _ mc_objectInit) rfl (hl.1.trans F.2.2.2.2.1.symm) rfl d hR.1 ?_ (kk H locs ls hP hS hl)
  have : 2 * (F0 m pc ls (.ref a :: st)).monitorRoom = 0 := rfl
  omega
theorem Vc_run {As : Array Value} {st0 : List Value} {mc ms : Nat} {Pr : Option Value → va_W → Prop} (F : Fx (Gc κ N0 ws) p R s m args meth c own cc nL ret k n) (hR : k + mc ≤ R.cells ∧ n + ms ≤ R.slots) (hr : ∀ (H : Heap) (locs : List Loc) (ls : Array Slot), va_P κ.1 vwCl ws H → va_S (fun q => N0 ≤ q) s.heap H locs → ls.size = nL → va_Run p l e R s m args below meth c H locs k n mc ms (F0 m pc ls st0) st (Qc0 κ N0 Pr As) (fun q => N0 ≤ q))
    (kk : ∀ (r : Option Value) (w1 : va_W), Pr r w1 → Fx (Gc κ N0 w1) p R s m args meth c own cc nL ret (k + mc) (n + ms) → V (Gc κ N0 w1) p l e R s m args below meth c nL (k + mc) (n + ms) Z (pc + 3) lv (r.toList ++ st) μ) : V (Gc κ N0 ws) p l e R s m args below meth c nL k n Z pc lv st0 μ := by
  intro H locs ls hP hS hl T hT X
  obtain ⟨v, st₀, t, T', L, h0, X', hL, e1, e2, ⟨⟨r, w1, hv, hq, hD1, hP1⟩, hz, hk⟩, hst⟩ := hr H locs ls hP hS hl.1 T hT X
  cases hv
  rw [h0] at hz hk
  obtain ⟨t2, a1, b1⟩ := kk v w1 hq (F.world hD1 hR) T'.heap (locs ++ L) ls (by rw [e1]; exact hP1) ⟨Nat.le_trans hS.1 (by rw [e1]; exact hz), fun q h1 h2 => by rw [e1, hk q (Nat.lt_of_lt_of_le h1 hS.1) h2]; exact hS.2.1 q h1 h2, fun q hq => (List.mem_append.mp hq).elim (hS.2.2 q) (hL q)⟩ hl T' rfl X'
  exact ⟨t2, hst t2 a1, b1⟩
theorem roomC_ok {R : Room} {dp mc ms nLc : Nat} (hR : dp + 1 ≤ R.frames ∧ (dp + 1) * 40 ≤ R.locals) (hn : nLc ≤ 21) : (rmC dp mc ms).frames + 1 ≤ R.frames ∧ 8 + (nLc + 11) + (rmC dp mc ms).locals ≤ R.locals := ⟨hR.1, by show 8 + (nLc + 11) + dp * 40 ≤ R.locals; omega⟩
variable {y : MethodName} {b : ByteArray} {nLc dp mc ms index j : Nat} {retc : Option FieldType} {As : List Value} {Pr : Option Value → va_W → Prop}
theorem Vc_callS (hN : N0 ≤ s.heap.size) (F : Fx (Gc κ N0 ws) p R s m args meth c own cc nL ret k n) (hC : Cc κ N0 l dp mc ms y b nLc retc As ws Pr) (hM : MI y b nLc retc j) (hs : Cond.static y ∈ wsG) (hlink : Cond.methodLink own index y ∈ wsG) (d : decode cc pc = .ok (.invokestatic index, 3)) (hR : dp + 1 ≤ R.frames ∧ (dp + 1) * 40 ≤ R.locals) (hR2 : k + mc ≤ R.cells ∧ n + ms ≤ R.slots) {st0 : List Value} (hst : st0 = As.reverse ++ st) (hn : As.length = j) (hnl : nLc ≤ 21) (hw : (st.map fun v => v.category).sum ≤ 8)
    (kk : ∀ (r : Option Value) (w1 : va_W), Pr r w1 → Fx (Gc κ N0 w1) p R s m args meth c own cc nL ret (k + mc) (n + ms) → V (Gc κ N0 w1) p l e R s m args below meth c nL (k + mc) (n + ms) Z (pc + 3) lv (r.toList ++ st) μ) : V (Gc κ N0 ws) p l e R s m args below meth c nL k n Z pc lv st0 μ := by
  refine Vc_run (As := As.toArray) F hR2 (fun H locs ls hP hS hz => ?_) kk
  subst hst
  exact va_runS ⟨F.1, F.2.1, F.2.2.2.2.1, F.2.2.2.2.2.1, F.2.2.2.2.2.2.1⟩ hC ⟨callB_of j F.2.2.2.2.2.2.1 (good_code hM.1) rfl rfl rfl (F.2.2.2.2.2.2.1 _ hM.2.1) (F.2.2.2.2.2.2.1 _ hlink) hM.2.2.1 (roomC_ok hR hnl), F.2.2.2.2.2.2.1 _ hs⟩
    ⟨Pc0.blind, fun U hU hW => ⟨rfl, by rw [hU]; exact Nat.le_trans hN hS.1, by rw [hU]; exact hP, by rw [hU]; exact F.2.2.2.2.2.2.2.1.step hS hW⟩⟩ rfl hn hz rfl (lv_room hw) d hR2
theorem Vc_callSN (hN : N0 ≤ s.heap.size) (F : Fx (Gc κ N0 ws) p R s m args meth c own cc nL ret k n) {host : String} (hC : Cc κ N0 l dp mc ms y b nLc retc As ws Pr) (hM : MI y b nLc retc j) (hs : Cond.static y ∈ wsG) (hlink : Cond.methodLinkNest own index y host ∈ nestW) (d : decode cc pc = .ok (.invokestatic index, 3)) (hR : dp + 1 ≤ R.frames ∧ (dp + 1) * 40 ≤ R.locals) (hR2 : k + mc ≤ R.cells ∧ n + ms ≤ R.slots) {st0 : List Value} (hst : st0 = As.reverse ++ st) (hn : As.length = j) (hnl : nLc ≤ 21) (hw : (st.map fun v => v.category).sum ≤ 8)
    (kk : ∀ (r : Option Value) (w1 : va_W), Pr r w1 → Fx (Gc κ N0 w1) p R s m args meth c own cc nL ret (k + mc) (n + ms) → V (Gc κ N0 w1) p l e R s m args below meth c nL (k + mc) (n + ms) Z (pc + 3) lv (r.toList ++ st) μ) : V (Gc κ N0 ws) p l e R s m args below meth c nL k n Z pc lv st0 μ := by
  refine Vc_run (As := As.toArray) F hR2 (fun H locs ls hP hS hz => ?_) kk
  subst hst
  exact va_runSN ⟨F.1, F.2.1, F.2.2.2.2.1, F.2.2.2.2.2.1, F.2.2.2.2.2.2.1⟩ hC ⟨va_cnB j F.2.2.2.2.2.2.1 (good_code hM.1) rfl rfl rfl (F.2.2.2.2.2.2.2.1.2.2.1 _ hlink) (F.2.2.2.2.2.2.1 _ hM.2.1) hM.2.2.1 (roomC_ok hR hnl), F.2.2.2.2.2.2.1 _ hs, trivial⟩
    ⟨Pc0.blind, fun U hU hW => ⟨rfl, by rw [hU]; exact Nat.le_trans hN hS.1, by rw [hU]; exact hP, by rw [hU]; exact F.2.2.2.2.2.2.2.1.step hS hW⟩⟩ rfl hn hz rfl (lv_room hw) d hR2
theorem Vc_callI (hN : N0 ≤ s.heap.size) (F : Fx (Gc κ N0 ws) p R s m args meth c own cc nL ret k n) {a : Nat} (hC : Cc κ N0 l dp mc ms y b nLc none (.ref a :: As) ws Pr) (hM : MI y b nLc none j) (hi : y.name = "<init>") (hs : Cond.instanceMethod y ∈ wsG) (hlink : Cond.methodLink own index y ∈ wsG) (d : decode cc pc = .ok (.invokespecial index, 3)) (hR : dp + 1 ≤ R.frames ∧ (dp + 1) * 40 ≤ R.locals) (hR2 : k + mc ≤ R.cells ∧ n + ms ≤ R.slots) {st0 : List Value} (hst : st0 = As.reverse ++ .ref a :: st) (hn : As.length = j) (hnl : nLc ≤ 21) (hw : (st.map fun v => v.category).sum ≤ 8)
    (kk : ∀ (r : Option Value) (w1 : va_W), Pr r w1 → Fx (Gc κ N0 w1) p R s m args meth c own cc nL ret (k + mc) (n + ms) → V (Gc κ N0 w1) p l e R s m args below meth c nL (k + mc) (n + ms) Z (pc + 3) lv (r.toList ++ st) μ) : V (Gc κ N0 ws) p l e R s m args below meth c nL k n Z pc lv st0 μ := by
  refine Vc_run (As := (Value.ref a :: As).toArray) F hR2 (fun H locs ls hP hS hz => ?_) kk
  subst hst
  exact va_runI ⟨F.1, F.2.1, F.2.2.2.2.1, F.2.2.2.2.2.1, F.2.2.2.2.2.2.1⟩ hC ⟨callB_of j F.2.2.2.2.2.2.1 (good_code hM.1) rfl rfl rfl (F.2.2.2.2.2.2.1 _ hM.2.1) (F.2.2.2.2.2.2.1 _ hlink) hM.2.2.1 (roomC_ok hR hnl), hi, F.2.2.2.2.2.2.1 _ hs⟩
    ⟨Pc0.blind, fun U hU hW => ⟨rfl, by rw [hU]; exact Nat.le_trans hN hS.1, by rw [hU]; exact hP, by rw [hU]; exact F.2.2.2.2.2.2.2.1.step hS hW⟩⟩ rfl hn hz rfl (lv_room hw) d hR2
theorem Vc_callIN (hN : N0 ≤ s.heap.size) (F : Fx (Gc κ N0 ws) p R s m args meth c own cc nL ret k n) {host : String} {a : Nat} (hC : Cc κ N0 l dp mc ms y b nLc none (.ref a :: As) ws Pr) (hM : MI y b nLc none j) (hi : y.name = "<init>") (hs : Cond.instanceMethod y ∈ wsG) (hlink : Cond.methodLinkNest own index y host ∈ nestW) (d : decode cc pc = .ok (.invokespecial index, 3)) (hR : dp + 1 ≤ R.frames ∧ (dp + 1) * 40 ≤ R.locals) (hR2 : k + mc ≤ R.cells ∧ n + ms ≤ R.slots) {st0 : List Value} (hst : st0 = As.reverse ++ .ref a :: st) (hn : As.length = j) (hnl : nLc ≤ 21) (hw : (st.map fun v => v.category).sum ≤ 8)
    (kk : ∀ (r : Option Value) (w1 : va_W), Pr r w1 → Fx (Gc κ N0 w1) p R s m args meth c own cc nL ret (k + mc) (n + ms) → V (Gc κ N0 w1) p l e R s m args below meth c nL (k + mc) (n + ms) Z (pc + 3) lv (r.toList ++ st) μ) : V (Gc κ N0 ws) p l e R s m args below meth c nL k n Z pc lv st0 μ := by
  refine Vc_run (As := (Value.ref a :: As).toArray) F hR2 (fun H locs ls hP hS hz => ?_) kk
  subst hst
  exact va_runIN ⟨F.1, F.2.1, F.2.2.2.2.1, F.2.2.2.2.2.1, F.2.2.2.2.2.2.1⟩ hC ⟨va_cnB j F.2.2.2.2.2.2.1 (good_code hM.1) rfl rfl rfl (F.2.2.2.2.2.2.2.1.2.2.1 _ hlink) (F.2.2.2.2.2.2.1 _ hM.2.1) hM.2.2.1 (roomC_ok hR hnl), hi, F.2.2.2.2.2.2.1 _ hs⟩
    ⟨Pc0.blind, fun U hU hW => ⟨rfl, by rw [hU]; exact Nat.le_trans hN hS.1, by rw [hU]; exact hP, by rw [hU]; exact F.2.2.2.2.2.2.2.1.step hS hW⟩⟩ rfl hn hz rfl (lv_room hw) d hR2
theorem Vc_vret {mc ms : Nat} (F : Fx (Gc κ N0 ws) p R s m args meth c own cc nL none mc ms) (d : decode cc pc = .ok (.return_, 1)) (hq : Pr none ws) : V (Gc κ N0 ws) p l e R s m args below meth c nL mc ms (MQ below (Qc0 κ N0 Pr) args s mc ms (fun q => N0 ≤ q)) pc lv [] μ := by
  intro H locs ls hP hS hl
  exact W.vret F.1 F.2.1 F.2.2.1 (fun t ht hW => ⟨⟨_, ws, rfl, hq, F.2.2.2.2.2.2.2.1.2.1 μ, by rw [ht]; exact hP⟩, hS.F ht⟩) hS.2.2 d F.2.2.2.1
theorem Vc_aret {mc ms : Nat} {ty : FieldType} (F : Fx (Gc κ N0 ws) p R s m args meth c own cc nL (some (.array ty)) mc ms) {a : Nat} (d : decode cc pc = .ok (.areturn, 1)) (hq : Pr (some (.ref a)) ws) : V (Gc κ N0 ws) p l e R s m args below meth c nL mc ms (MQ below (Qc0 κ N0 Pr) args s mc ms (fun q => N0 ≤ q)) pc lv [.ref a] μ := by
  intro H locs ls hP hS hl
  exact W.aret F.1 F.2.1 F.2.2.1 (Or.inr ⟨_, rfl⟩) (Or.inr ⟨_, rfl⟩) (fun t ht hW => ⟨⟨_, ws, rfl, hq, F.2.2.2.2.2.2.2.1.2.1 μ, by rw [ht]; exact hP⟩, hS.F ht⟩) hS.2.2 d F.2.2.2.1
end CROWS
theorem Cc.of {κ : Kp} {N0 : Nat} {l : Launch} {dp mc ms : Nat} {y : MethodName} {own : String} {b : ByteArray} {nL j : Nat} {ret : Option FieldType} {av : List Value} {w0 : va_W} {Pr : Option Value → va_W → Prop} (hM : MI y b nL ret j) (ho : y.cls = own) (lv : List (Option Value)) (hn : (lg_sl av).length ≤ nL) (hlv : al 0 lv = lv_args 0 av)
    (body : ∀ (p : Program) (e : Env) (s : State) (m : MethodId) (below : List Frame) (meth : Method) (c : Code) (μ : Mem), N0 ≤ s.heap.size → meth.name = y.name → Fx (Gc κ N0 w0) p (rmC dp mc ms) s m av.toArray meth c own b nL ret 0 0 → V (Gc κ N0 w0) p l e (rmC dp mc ms) s m av.toArray below meth c nL 0 0 (MQ below (Qc0 κ N0 Pr) av.toArray s mc ms (fun q => N0 ≤ q)) 0 lv [] μ) : Cc κ N0 l dp mc ms y b nL ret av w0 Pr := by
  refine Met.ofW (cc := b) (maxL := nL) (ret := ret) hM.2.2.2 rfl ?_
  intro p e s m args below meth c s₁ B hml hv
  obtain ⟨rfl, hN, hP, hst⟩ := hv
  have hts := atoms_spec (ws := Cond.code y b nL ret :: wsG) B.pre
  have hown : s.vm.findClass y.cls = some m.cls := findClass_of_methodNamed B.named
  have hl := lv_entry av (n := nL) hn
  rw [lg_entry_eq]
  exact body p e s m below meth c (fun _ _ => 0, fun _ => 0) hN (name_of_methodNamed B.named B.method).1 ⟨B.exec, B.bytes, B.returns, B.notSynchronized, hml, ho ▸ hown, fun w hw => hts w (List.mem_cons_of_mem _ hw), hst, Nat.zero_le _, Nat.zero_le _⟩ s.heap [] _ hP va_S.rf (hlv ▸ hl)

section CTORS
variable {κ : Kp} {N0 : Nat} {l : Launch} {rest : va_W}
theorem rmRC {dp dq mc ms : Nat} (h : dp + 1 ≤ dq) : dp + 1 ≤ (rmC dq mc ms).frames ∧ (dp + 1) * 40 ≤ (rmC dq mc ms).locals := ⟨h, Nat.mul_le_mul_right 40 h⟩
theorem k_put {a z j : Nat} {f : Nat → Int32} {v : Int32} (hj : j < z) (hz : z < 2 ^ 20) : Cc κ N0 l 0 0 0 yX3_put cX3_put 3 none [.ref a, .int (nI j), .int v] (aI κ a z f :: rest) (fun r w1 => r = none ∧ w1 = aI κ a z (upd f j v) :: rest) := by
  have hj0 : ¬ nI j < 0 := by rw [← nI_0]; exact fun q => by have := (nI_ltI (by omega) (by omega)).mp q; omega
  refine Cc.of (own := RX3) mi_X3_put rfl [some (.ref a), some (.int (nI j)), some (.int v)] (Nat.le_of_ble_eq_true rfl) rfl (fun p₀ e₀ s₀ m₀ b₀ h₀ c₀ μ hN hname F => ?_)
  refine V_aload_n F dX3_put_0 rfl ?_
  refine V_ifnull F dX3_put_1 ?_
  refine V_iload_n F dX3_put_4 rfl ?_
  refine V_if_lt_f F (tgt := 18) dX3_put_5 (by decide) (hj0) ?_
  refine V_iload_n F dX3_put_8 rfl ?_
  refine V_aload_n F dX3_put_9 rfl ?_
  refine V_alen F (v := nI z) (x := (z, .inl f)) (q0 := 0) dX3_put_10 0 rfl rfl rfl ?_
  refine V_icmp_ge_f F (tgt := 18) dX3_put_11 (by decide) (fun hh => by have := (nI_leI (by omega) (by omega)).mp hh; omega) ?_
  refine V_aload_n F dX3_put_14 rfl ?_
  refine V_iload_n F dX3_put_15 rfl ?_
  refine V_iload_n F dX3_put_16 rfl ?_
  refine Vc_ias F (q0 := 0) (ws' := aI κ a z (upd f j v) :: rest) dX3_put_17 rfl hj hz rfl (fun F => ?_)
  exact Vc_vret F dX3_put_18 (⟨rfl, rfl⟩)

theorem k_lengthsOfNew : Cc κ N0 l 2 1 24 yX2_lengthsOfNew cX2_lengthsOfNew 1 (some (.array .int)) [] rest (fun r w1 => ∃ q : Nat, r = some (.ref q) ∧ w1 = aI κ q 24 (upd z32 0 (nI 1)) :: rest) := by
  refine Cc.of (own := RX2) mi_X2_lengthsOfNew rfl [none] (Nat.le_of_ble_eq_true rfl) rfl (fun p₀ e₀ s₀ m₀ b₀ h₀ c₀ μ hN hname F => ?_)
  refine V_bipush F (v := nI 24) dX2_lengthsOfNew_0 (by decide) ?_
  refine Vc_newI hN F (N := 24) dX2_lengthsOfNew_2 (by decide) ⟨Nat.le_of_ble_eq_true rfl, Nat.le_of_ble_eq_true rfl⟩ (fun q F => ?_)
  refine V_astore_n F (lv' := [some (.ref q)]) dX2_lengthsOfNew_4 (by decide) rfl rfl ?_
  refine V_aload_n F dX2_lengthsOfNew_5 rfl ?_
  refine V_iconst F (v := nI 0) dX2_lengthsOfNew_6 (by decide) ?_
  refine V_iconst F (v := nI 0) dX2_lengthsOfNew_7 (by decide) ?_
  refine V_callSi F (c_headOf (k := 0) (by decide)) mi_X2_headOf ms_X2_headOf lk_X2_54 dX2_lengthsOfNew_8 (rmRC (by omega)) rfl rfl (by decide) (Nat.le_of_ble_eq_true rfl) ?_
  refine V_callK F (by decide) (c_slen (by decide)) mi_J0_length_8abf5 mm_J0_length_8abf5 lk_X2_58 dX2_lengthsOfNew_11 (rmRC (by omega)) rfl rfl (by decide) (Nat.le_of_ble_eq_true rfl) rfl ?_
  refine V_val F (v := nI 1) (by decide +kernel) ?_
  refine Vc_callSN hN F (k_put (by decide) (by decide)) mi_X3_put ms_X3_put nk_X2_64 dX2_lengthsOfNew_14 (rmRC (by omega)) ⟨Nat.le_of_ble_eq_true rfl, Nat.le_of_ble_eq_true rfl⟩ rfl rfl (by decide) (Nat.le_of_ble_eq_true rfl) (fun r w1 h F => ?_)
  obtain ⟨rfl, rfl⟩ := h
  refine V_aload_n F dX2_lengthsOfNew_17 rfl ?_
  exact Vc_aret F dX2_lengthsOfNew_18 ⟨q, rfl, rfl⟩

theorem k_Store {a : Nat} : Cc κ N0 l 3 11 360 yX2_init cX2_init 1 none [.ref a] (ob a 1 [.int 0, .null, .null, .null, .null, .null, .null, .null, .null, .null, .null, .null] :: rest) (fun r w1 => r = none ∧ ∃ q0 q1 q2 q3 q4 q5 q6 q7 q8 q9 q10 : Nat, w1 = aJ κ q10 72 z64 :: aI κ q9 72 z32 :: aI κ q8 24 (upd z32 0 (nI 1)) :: aI κ q7 24 z32 :: aI κ q6 24 z32 :: aI κ q5 24 z32 :: aI κ q4 24 z32 :: aI κ q3 24 z32 :: aI κ q2 24 z32 :: aI κ q1 24 z32 :: aI κ q0 24 z32 :: ob a 1 [.int (nI 1), .ref q0, .ref q1, .ref q2, .ref q3, .ref q4, .ref q5, .ref q6, .ref q7, .ref q8, .ref q9, .ref q10] :: rest) := by
  refine Cc.of (own := RX2) mi_X2_init rfl [some (.ref a)] (Nat.le_of_ble_eq_true rfl) rfl (fun p₀ e₀ s₀ m₀ b₀ h₀ c₀ μ hN hname F => ?_)
  refine V_aload_n F dX2_init_0 rfl ?_
  refine Vc_obj F dX2_init_1 lk_X2_3 ⟨Nat.le_of_ble_eq_true rfl, Nat.le_of_ble_eq_true rfl⟩ ?_
  refine V_aload_n F dX2_init_4 rfl ?_
  refine V_bipush F (v := nI 24) dX2_init_5 (by decide) ?_
  refine Vc_newI hN F (N := 24) dX2_init_7 (by decide) ⟨Nat.le_of_ble_eq_true rfl, Nat.le_of_ble_eq_true rfl⟩ (fun q0 F => ?_)
  refine Vc_putF F hname (v := .ref q0) (ty := .array .int) (ws' := aI κ q0 24 z32 :: ob a 1 [.int 0, .ref q0, .null, .null, .null, .null, .null, .null, .null, .null, .null, .null] :: rest) 1 1 lk_X2_9 dX2_init_9 ig_X2 tyX2 tyX2_ok nmX2 rfl rfl (by decide) rfl rfl rfl (by decide +kernel) rfl rfl (Nat.le_of_ble_eq_true rfl) rfl (fun F => ?_)
  refine V_aload_n F dX2_init_12 rfl ?_
  refine V_bipush F (v := nI 24) dX2_init_13 (by decide) ?_
  refine Vc_newI hN F (N := 24) dX2_init_15 (by decide) ⟨Nat.le_of_ble_eq_true rfl, Nat.le_of_ble_eq_true rfl⟩ (fun q1 F => ?_)
  refine Vc_putF F hname (v := .ref q1) (ty := .array .int) (ws' := aI κ q1 24 z32 :: aI κ q0 24 z32 :: ob a 1 [.int 0, .ref q0, .ref q1, .null, .null, .null, .null, .null, .null, .null, .null, .null] :: rest) 2 2 lk_X2_15 dX2_init_17 ig_X2 tyX2 tyX2_ok nmX2 rfl rfl (by decide) rfl rfl rfl (by decide +kernel) rfl rfl (Nat.le_of_ble_eq_true rfl) rfl (fun F => ?_)
  refine V_aload_n F dX2_init_20 rfl ?_
  refine V_bipush F (v := nI 24) dX2_init_21 (by decide) ?_
  refine Vc_newI hN F (N := 24) dX2_init_23 (by decide) ⟨Nat.le_of_ble_eq_true rfl, Nat.le_of_ble_eq_true rfl⟩ (fun q2 F => ?_)
  refine Vc_putF F hname (v := .ref q2) (ty := .array .int) (ws' := aI κ q2 24 z32 :: aI κ q1 24 z32 :: aI κ q0 24 z32 :: ob a 1 [.int 0, .ref q0, .ref q1, .ref q2, .null, .null, .null, .null, .null, .null, .null, .null] :: rest) 3 3 lk_X2_18 dX2_init_25 ig_X2 tyX2 tyX2_ok nmX2 rfl rfl (by decide) rfl rfl rfl (by decide +kernel) rfl rfl (Nat.le_of_ble_eq_true rfl) rfl (fun F => ?_)
  refine V_aload_n F dX2_init_28 rfl ?_
  refine V_bipush F (v := nI 24) dX2_init_29 (by decide) ?_
  refine Vc_newI hN F (N := 24) dX2_init_31 (by decide) ⟨Nat.le_of_ble_eq_true rfl, Nat.le_of_ble_eq_true rfl⟩ (fun q3 F => ?_)
  refine Vc_putF F hname (v := .ref q3) (ty := .array .int) (ws' := aI κ q3 24 z32 :: aI κ q2 24 z32 :: aI κ q1 24 z32 :: aI κ q0 24 z32 :: ob a 1 [.int 0, .ref q0, .ref q1, .ref q2, .ref q3, .null, .null, .null, .null, .null, .null, .null] :: rest) 4 4 lk_X2_21 dX2_init_33 ig_X2 tyX2 tyX2_ok nmX2 rfl rfl (by decide) rfl rfl rfl (by decide +kernel) rfl rfl (Nat.le_of_ble_eq_true rfl) rfl (fun F => ?_)
  refine V_aload_n F dX2_init_36 rfl ?_
  refine V_bipush F (v := nI 24) dX2_init_37 (by decide) ?_
  refine Vc_newI hN F (N := 24) dX2_init_39 (by decide) ⟨Nat.le_of_ble_eq_true rfl, Nat.le_of_ble_eq_true rfl⟩ (fun q4 F => ?_)
  refine Vc_putF F hname (v := .ref q4) (ty := .array .int) (ws' := aI κ q4 24 z32 :: aI κ q3 24 z32 :: aI κ q2 24 z32 :: aI κ q1 24 z32 :: aI κ q0 24 z32 :: ob a 1 [.int 0, .ref q0, .ref q1, .ref q2, .ref q3, .ref q4, .null, .null, .null, .null, .null, .null] :: rest) 5 5 lk_X2_24 dX2_init_41 ig_X2 tyX2 tyX2_ok nmX2 rfl rfl (by decide) rfl rfl rfl (by decide +kernel) rfl rfl (Nat.le_of_ble_eq_true rfl) rfl (fun F => ?_)
  refine V_aload_n F dX2_init_44 rfl ?_
  refine V_bipush F (v := nI 24) dX2_init_45 (by decide) ?_
  refine Vc_newI hN F (N := 24) dX2_init_47 (by decide) ⟨Nat.le_of_ble_eq_true rfl, Nat.le_of_ble_eq_true rfl⟩ (fun q5 F => ?_)
  refine Vc_putF F hname (v := .ref q5) (ty := .array .int) (ws' := aI κ q5 24 z32 :: aI κ q4 24 z32 :: aI κ q3 24 z32 :: aI κ q2 24 z32 :: aI κ q1 24 z32 :: aI κ q0 24 z32 :: ob a 1 [.int 0, .ref q0, .ref q1, .ref q2, .ref q3, .ref q4, .ref q5, .null, .null, .null, .null, .null] :: rest) 6 6 lk_X2_27 dX2_init_49 ig_X2 tyX2 tyX2_ok nmX2 rfl rfl (by decide) rfl rfl rfl (by decide +kernel) rfl rfl (Nat.le_of_ble_eq_true rfl) rfl (fun F => ?_)
  refine V_aload_n F dX2_init_52 rfl ?_
  refine V_bipush F (v := nI 24) dX2_init_53 (by decide) ?_
  refine Vc_newI hN F (N := 24) dX2_init_55 (by decide) ⟨Nat.le_of_ble_eq_true rfl, Nat.le_of_ble_eq_true rfl⟩ (fun q6 F => ?_)
  refine Vc_putF F hname (v := .ref q6) (ty := .array .int) (ws' := aI κ q6 24 z32 :: aI κ q5 24 z32 :: aI κ q4 24 z32 :: aI κ q3 24 z32 :: aI κ q2 24 z32 :: aI κ q1 24 z32 :: aI κ q0 24 z32 :: ob a 1 [.int 0, .ref q0, .ref q1, .ref q2, .ref q3, .ref q4, .ref q5, .ref q6, .null, .null, .null, .null] :: rest) 7 7 lk_X2_30 dX2_init_57 ig_X2 tyX2 tyX2_ok nmX2 rfl rfl (by decide) rfl rfl rfl (by decide +kernel) rfl rfl (Nat.le_of_ble_eq_true rfl) rfl (fun F => ?_)
  refine V_aload_n F dX2_init_60 rfl ?_
  refine V_bipush F (v := nI 24) dX2_init_61 (by decide) ?_
  refine Vc_newI hN F (N := 24) dX2_init_63 (by decide) ⟨Nat.le_of_ble_eq_true rfl, Nat.le_of_ble_eq_true rfl⟩ (fun q7 F => ?_)
  refine Vc_putF F hname (v := .ref q7) (ty := .array .int) (ws' := aI κ q7 24 z32 :: aI κ q6 24 z32 :: aI κ q5 24 z32 :: aI κ q4 24 z32 :: aI κ q3 24 z32 :: aI κ q2 24 z32 :: aI κ q1 24 z32 :: aI κ q0 24 z32 :: ob a 1 [.int 0, .ref q0, .ref q1, .ref q2, .ref q3, .ref q4, .ref q5, .ref q6, .ref q7, .null, .null, .null] :: rest) 8 8 lk_X2_33 dX2_init_65 ig_X2 tyX2 tyX2_ok nmX2 rfl rfl (by decide) rfl rfl rfl (by decide +kernel) rfl rfl (Nat.le_of_ble_eq_true rfl) rfl (fun F => ?_)
  refine V_aload_n F dX2_init_68 rfl ?_
  refine Vc_callS hN F k_lengthsOfNew mi_X2_lengthsOfNew ms_X2_lengthsOfNew lk_X2_36 dX2_init_69 (rmRC (by omega)) ⟨Nat.le_of_ble_eq_true rfl, Nat.le_of_ble_eq_true rfl⟩ rfl rfl (by decide) (Nat.le_of_ble_eq_true rfl) (fun r w1 h F => ?_)
  obtain ⟨q8, rfl, rfl⟩ := h
  refine Vc_putF F hname (v := .ref q8) (ty := .array .int) (ws' := aI κ q8 24 (upd z32 0 (nI 1)) :: aI κ q7 24 z32 :: aI κ q6 24 z32 :: aI κ q5 24 z32 :: aI κ q4 24 z32 :: aI κ q3 24 z32 :: aI κ q2 24 z32 :: aI κ q1 24 z32 :: aI κ q0 24 z32 :: ob a 1 [.int 0, .ref q0, .ref q1, .ref q2, .ref q3, .ref q4, .ref q5, .ref q6, .ref q7, .ref q8, .null, .null] :: rest) 9 9 lk_X2_40 dX2_init_72 ig_X2 tyX2 tyX2_ok nmX2 rfl rfl (by decide) rfl rfl rfl (by decide +kernel) rfl rfl (Nat.le_of_ble_eq_true rfl) rfl (fun F => ?_)
  refine V_aload_n F dX2_init_75 rfl ?_
  refine V_bipush F (v := nI 72) dX2_init_76 (by decide) ?_
  refine Vc_newI hN F (N := 72) dX2_init_78 (by decide) ⟨Nat.le_of_ble_eq_true rfl, Nat.le_of_ble_eq_true rfl⟩ (fun q9 F => ?_)
  refine Vc_putF F hname (v := .ref q9) (ty := .array .int) (ws' := aI κ q9 72 z32 :: aI κ q8 24 (upd z32 0 (nI 1)) :: aI κ q7 24 z32 :: aI κ q6 24 z32 :: aI κ q5 24 z32 :: aI κ q4 24 z32 :: aI κ q3 24 z32 :: aI κ q2 24 z32 :: aI κ q1 24 z32 :: aI κ q0 24 z32 :: ob a 1 [.int 0, .ref q0, .ref q1, .ref q2, .ref q3, .ref q4, .ref q5, .ref q6, .ref q7, .ref q8, .ref q9, .null] :: rest) 10 10 lk_X2_43 dX2_init_80 ig_X2 tyX2 tyX2_ok nmX2 rfl rfl (by decide) rfl rfl rfl (by decide +kernel) rfl rfl (Nat.le_of_ble_eq_true rfl) rfl (fun F => ?_)
  refine V_aload_n F dX2_init_83 rfl ?_
  refine V_bipush F (v := nI 72) dX2_init_84 (by decide) ?_
  refine Vc_newJ hN F (N := 72) dX2_init_86 (by decide) ⟨Nat.le_of_ble_eq_true rfl, Nat.le_of_ble_eq_true rfl⟩ (fun q10 F => ?_)
  refine Vc_putF F hname (v := .ref q10) (ty := .array .long) (ws' := aJ κ q10 72 z64 :: aI κ q9 72 z32 :: aI κ q8 24 (upd z32 0 (nI 1)) :: aI κ q7 24 z32 :: aI κ q6 24 z32 :: aI κ q5 24 z32 :: aI κ q4 24 z32 :: aI κ q3 24 z32 :: aI κ q2 24 z32 :: aI κ q1 24 z32 :: aI κ q0 24 z32 :: ob a 1 [.int 0, .ref q0, .ref q1, .ref q2, .ref q3, .ref q4, .ref q5, .ref q6, .ref q7, .ref q8, .ref q9, .ref q10] :: rest) 11 11 lk_X2_46 dX2_init_88 ig_X2 tyX2 tyX2_ok nmX2 rfl rfl (by decide) rfl rfl rfl (by decide +kernel) rfl rfl (Nat.le_of_ble_eq_true rfl) rfl (fun F => ?_)
  refine V_aload_n F dX2_init_91 rfl ?_
  refine V_iconst F (v := nI 1) dX2_init_92 (by decide) ?_
  refine Vc_put F (v := .int (nI 1)) (ty := .int) (ws' := aJ κ q10 72 z64 :: aI κ q9 72 z32 :: aI κ q8 24 (upd z32 0 (nI 1)) :: aI κ q7 24 z32 :: aI κ q6 24 z32 :: aI κ q5 24 z32 :: aI κ q4 24 z32 :: aI κ q3 24 z32 :: aI κ q2 24 z32 :: aI κ q1 24 z32 :: aI κ q0 24 z32 :: ob a 1 [.int (nI 1), .ref q0, .ref q1, .ref q2, .ref q3, .ref q4, .ref q5, .ref q6, .ref q7, .ref q8, .ref q9, .ref q10] :: rest) 11 0 lk_X2_50 dX2_init_93 ig_X2 tyX2 tyX2_ok nmX2 rfl rfl (by decide) rfl rfl (by decide +kernel) rfl rfl (Nat.le_of_ble_eq_true rfl) rfl (fun F => ?_)
  exact Vc_vret F dX2_init_96 ⟨rfl, q0, q1, q2, q3, q4, q5, q6, q7, q8, q9, q10, rfl⟩

theorem k_Game {a t : Nat} : Cc κ N0 l 1 1 4140 yX0_init cX0_init 2 none [.ref a, .ref t] (ob a 0 [.null, .null] :: rest) (fun r w1 => r = none ∧ ∃ q0 : Nat, w1 = aI κ q0 4140 z32 :: ob a 0 [.ref t, .ref q0] :: rest) := by
  refine Cc.of (own := RX0) mi_X0_init rfl [some (.ref a), some (.ref t)] (Nat.le_of_ble_eq_true rfl) rfl (fun p₀ e₀ s₀ m₀ b₀ h₀ c₀ μ hN hname F => ?_)
  refine V_aload_n F dX0_init_0 rfl ?_
  refine Vc_obj F dX0_init_1 lk_X0_3 ⟨Nat.le_of_ble_eq_true rfl, Nat.le_of_ble_eq_true rfl⟩ ?_
  refine V_aload_n F dX0_init_4 rfl ?_
  refine V_aload_n F dX0_init_5 rfl ?_
  refine Vc_putF F hname (v := .ref t) (ty := .object "NamePassingComparer$Store") (ws' := ob a 0 [.ref t, .null] :: rest) 0 0 lk_X0_9 dX0_init_6 ig_X0 tyX0 tyX0_ok nmX0 rfl rfl (by decide) rfl rfl rfl (by decide +kernel) rfl rfl (Nat.le_of_ble_eq_true rfl) rfl (fun F => ?_)
  refine V_aload_n F dX0_init_9 rfl ?_
  refine V_sipush F (v := nI 4140) dX0_init_10 (by decide) ?_
  refine Vc_newI hN F (N := 4140) dX0_init_13 (by decide) ⟨Nat.le_of_ble_eq_true rfl, Nat.le_of_ble_eq_true rfl⟩ (fun q0 F => ?_)
  refine Vc_putF F hname (v := .ref q0) (ty := .array .int) (ws' := aI κ q0 4140 z32 :: ob a 0 [.ref t, .ref q0] :: rest) 1 1 lk_X0_15 dX0_init_15 ig_X0 tyX0 tyX0_ok nmX0 rfl rfl (by decide) rfl rfl rfl (by decide +kernel) rfl rfl (Nat.le_of_ble_eq_true rfl) rfl (fun F => ?_)
  exact Vc_vret F dX0_init_18 ⟨rfl, q0, rfl⟩

theorem k_NPC {a : Nat} : Cc κ N0 l 4 14 4514 yX3_init cX3_init 1 none [.ref a] (ob a 2 [.null, .null] :: rest) (fun r w1 => r = none ∧ ∃ t u q0 q1 q2 q3 q4 q5 q6 q7 q8 q9 q10 q11 : Nat, w1 = aI κ q11 4140 z32 :: ob u 0 [.ref t, .ref q11] :: aJ κ q10 72 z64 :: aI κ q9 72 z32 :: aI κ q8 24 (upd z32 0 (nI 1)) :: aI κ q7 24 z32 :: aI κ q6 24 z32 :: aI κ q5 24 z32 :: aI κ q4 24 z32 :: aI κ q3 24 z32 :: aI κ q2 24 z32 :: aI κ q1 24 z32 :: aI κ q0 24 z32 :: ob t 1 [.int (nI 1), .ref q0, .ref q1, .ref q2, .ref q3, .ref q4, .ref q5, .ref q6, .ref q7, .ref q8, .ref q9, .ref q10] :: ob a 2 [.ref t, .ref u] :: rest) := by
  refine Cc.of (own := RX3) mi_X3_init rfl [some (.ref a)] (Nat.le_of_ble_eq_true rfl) rfl (fun p₀ e₀ s₀ m₀ b₀ h₀ c₀ μ hN hname F => ?_)
  refine V_aload_n F dX3_init_0 rfl ?_
  refine Vc_obj F dX3_init_1 lk_X3_1 ⟨Nat.le_of_ble_eq_true rfl, Nat.le_of_ble_eq_true rfl⟩ ?_
  refine V_aload_n F dX3_init_4 rfl ?_
  refine Vc_new hN F (ci := 1) (fs := [.int 0, .null, .null, .null, .null, .null, .null, .null, .null, .null, .null, .null]) dX3_init_5 ig_X2 tyX2 tyX2_ok lk_X3_7 mk_X2 mt_X2 rfl (by decide +kernel) ⟨Nat.le_of_ble_eq_true rfl, Nat.le_of_ble_eq_true rfl⟩ (fun t F => ?_)
  refine V_dup F dX3_init_8 rfl ?_
  refine Vc_callIN hN F (k_Store (a := t)) mi_X2_init rfl mn_X2_init nk_X3_9 dX3_init_9 (rmRC (by omega)) ⟨Nat.le_of_ble_eq_true rfl, Nat.le_of_ble_eq_true rfl⟩ rfl rfl (by decide) (Nat.le_of_ble_eq_true rfl) (fun r w1 h F => ?_)
  obtain ⟨rfl, q0, q1, q2, q3, q4, q5, q6, q7, q8, q9, q10, rfl⟩ := h
  refine Vc_putF F hname (v := .ref t) (ty := .object "NamePassingComparer$Store") (ws' := aJ κ q10 72 z64 :: aI κ q9 72 z32 :: aI κ q8 24 (upd z32 0 (nI 1)) :: aI κ q7 24 z32 :: aI κ q6 24 z32 :: aI κ q5 24 z32 :: aI κ q4 24 z32 :: aI κ q3 24 z32 :: aI κ q2 24 z32 :: aI κ q1 24 z32 :: aI κ q0 24 z32 :: ob t 1 [.int (nI 1), .ref q0, .ref q1, .ref q2, .ref q3, .ref q4, .ref q5, .ref q6, .ref q7, .ref q8, .ref q9, .ref q10] :: ob a 2 [.ref t, .null] :: rest) 12 0 lk_X3_10 dX3_init_12 ig_X3 tyX3 tyX3_ok nmX3 rfl rfl (by decide) rfl rfl rfl (by decide +kernel) rfl rfl (Nat.le_of_ble_eq_true rfl) rfl (fun F => ?_)
  refine V_aload_n F dX3_init_15 rfl ?_
  refine Vc_new hN F (ci := 0) (fs := [.null, .null]) dX3_init_16 ig_X0 tyX0 tyX0_ok lk_X3_16 mk_X0 mt_X0 rfl (by decide +kernel) ⟨Nat.le_of_ble_eq_true rfl, Nat.le_of_ble_eq_true rfl⟩ (fun u F => ?_)
  refine V_dup F dX3_init_19 rfl ?_
  refine V_aload_n F dX3_init_20 rfl ?_
  refine V_getf F (C := RX3) (T := TX3) (N := 2) 13 0 lk_X3_10 dX3_init_21 ig_X3 rfl rfl (by decide) rfl rfl ?_
  refine Vc_callIN hN F (k_Game (a := u) (t := t)) mi_X0_init rfl mn_X0_init nk_X3_18 dX3_init_24 (rmRC (by omega)) ⟨Nat.le_of_ble_eq_true rfl, Nat.le_of_ble_eq_true rfl⟩ rfl rfl (by decide) (Nat.le_of_ble_eq_true rfl) (fun r w1 h F => ?_)
  obtain ⟨rfl, q11, rfl⟩ := h
  refine Vc_putF F hname (v := .ref u) (ty := .object "NamePassingComparer$Game") (ws' := aI κ q11 4140 z32 :: ob u 0 [.ref t, .ref q11] :: aJ κ q10 72 z64 :: aI κ q9 72 z32 :: aI κ q8 24 (upd z32 0 (nI 1)) :: aI κ q7 24 z32 :: aI κ q6 24 z32 :: aI κ q5 24 z32 :: aI κ q4 24 z32 :: aI κ q3 24 z32 :: aI κ q2 24 z32 :: aI κ q1 24 z32 :: aI κ q0 24 z32 :: ob t 1 [.int (nI 1), .ref q0, .ref q1, .ref q2, .ref q3, .ref q4, .ref q5, .ref q6, .ref q7, .ref q8, .ref q9, .ref q10] :: ob a 2 [.ref t, .ref u] :: rest) 14 1 lk_X3_21 dX3_init_27 ig_X3 tyX3 tyX3_ok nmX3 rfl rfl (by decide) rfl rfl rfl (by decide +kernel) rfl rfl (Nat.le_of_ble_eq_true rfl) rfl (fun F => ?_)
  exact Vc_vret F dX3_init_30 ⟨rfl, t, u, q0, q1, q2, q3, q4, q5, q6, q7, q8, q9, q10, q11, rfl⟩

end CTORS
end CTOR
