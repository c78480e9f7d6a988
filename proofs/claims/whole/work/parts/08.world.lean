section WORLD
abbrev Gm : Type := (Nat → Nat) × va_G × (ClassId × ClassId) × (Nat → Nat) × (Nat → Nat)
def lenS : Nat → Nat
  | 12 => 72
  | 14 => 4140
  | 25 => 8
  | 30 => 8
  | 31 => 4
  | 32 => 48
  | _ => 24
def isI (c : Nat) : Bool := (3 ≤ c && c ≤ 12) || c == 14 || (16 ≤ c && c ≤ 32)
def wS (cT : ClassId × ClassId) (α : Nat → Nat) (μ : Mem) : va_W := [
  (α 0, .inr (2, [.ref (α 1), .ref (α 2)])),
  (α 1, .inr (1, [.int (μ.1 1 0), .ref (α 3), .ref (α 4), .ref (α 5), .ref (α 6), .ref (α 7), .ref (α 8), .ref (α 9), .ref (α 10), .ref (α 11), .ref (α 12), .ref (α 13)])),
  (α 2, .inr (0, [.ref (α 1), .ref (α 14)])),
  (α 3, .inl (cT.1, 24, .inl (μ.1 3))),
  (α 4, .inl (cT.1, 24, .inl (μ.1 4))),
  (α 5, .inl (cT.1, 24, .inl (μ.1 5))),
  (α 6, .inl (cT.1, 24, .inl (μ.1 6))),
  (α 7, .inl (cT.1, 24, .inl (μ.1 7))),
  (α 8, .inl (cT.1, 24, .inl (μ.1 8))),
  (α 9, .inl (cT.1, 24, .inl (μ.1 9))),
  (α 10, .inl (cT.1, 24, .inl (μ.1 10))),
  (α 11, .inl (cT.1, 24, .inl (μ.1 11))),
  (α 12, .inl (cT.1, 72, .inl (μ.1 12))),
  (α 13, .inl (cT.2, 72, .inr (.inl μ.2))),
  (α 14, .inl (cT.1, 4140, .inl (μ.1 14))),
  (α 15, .inr (3, [.int (μ.1 15 0), .ref (α 16), .ref (α 17), .ref (α 18), .ref (α 19), .ref (α 20), .ref (α 21), .ref (α 22), .ref (α 23), .ref (α 24), .ref (α 25), .ref (α 26), .ref (α 27), .ref (α 28), .ref (α 29), .ref (α 30), .ref (α 31), .ref (α 32), .int (μ.1 15 18)])),
  (α 16, .inl (cT.1, 24, .inl (μ.1 16))),
  (α 17, .inl (cT.1, 24, .inl (μ.1 17))),
  (α 18, .inl (cT.1, 24, .inl (μ.1 18))),
  (α 19, .inl (cT.1, 24, .inl (μ.1 19))),
  (α 20, .inl (cT.1, 24, .inl (μ.1 20))),
  (α 21, .inl (cT.1, 24, .inl (μ.1 21))),
  (α 22, .inl (cT.1, 24, .inl (μ.1 22))),
  (α 23, .inl (cT.1, 24, .inl (μ.1 23))),
  (α 24, .inl (cT.1, 24, .inl (μ.1 24))),
  (α 25, .inl (cT.1, 8, .inl (μ.1 25))),
  (α 26, .inl (cT.1, 24, .inl (μ.1 26))),
  (α 27, .inl (cT.1, 24, .inl (μ.1 27))),
  (α 28, .inl (cT.1, 24, .inl (μ.1 28))),
  (α 29, .inl (cT.1, 24, .inl (μ.1 29))),
  (α 30, .inl (cT.1, 8, .inl (μ.1 30))),
  (α 31, .inl (cT.1, 4, .inl (μ.1 31))),
  (α 32, .inl (cT.1, 48, .inl (μ.1 32)))]
def AS (α : Nat → Nat) : Nat → Prop := fun q => ∃ k, k < 33 ∧ q = α k
abbrev GS (g : Gm) : Geo := (wS g.2.2.1 g.1, AS g.1, g.2.1, g.2.2.1, g.2.2.2.1, g.2.2.2.2)
theorem isI_or {c : Nat} (h : isI c = true) : c = 3 ∨ c = 4 ∨ c = 5 ∨ c = 6 ∨ c = 7 ∨ c = 8 ∨ c = 9 ∨ c = 10 ∨ c = 11 ∨ c = 12 ∨ c = 14 ∨ c = 16 ∨ c = 17 ∨ c = 18 ∨ c = 19 ∨ c = 20 ∨ c = 21 ∨ c = 22 ∨ c = 23 ∨ c = 24 ∨ c = 25 ∨ c = 26 ∨ c = 27 ∨ c = 28 ∨ c = 29 ∨ c = 30 ∨ c = 31 ∨ c = 32 := by
  simp only [isI, Bool.or_eq_true, Bool.and_eq_true, decide_eq_true_eq, beq_iff_eq] at h
  omega
theorem wS_int {g : Gm} {μ : Mem} {c : Nat} (h : isI c = true) : (gW (GS g) μ)[c]? = some (g.1 c, .inl ((GS g).2.2.2.1.1, lenS c, .inl (μ.1 c))) := by
  rcases isI_or h with rfl | rfl | rfl | rfl | rfl | rfl | rfl | rfl | rfl | rfl | rfl | rfl | rfl | rfl | rfl | rfl | rfl | rfl | rfl | rfl | rfl | rfl | rfl | rfl | rfl | rfl | rfl | rfl <;> rfl
theorem wS_set {g : Gm} {μ : Mem} {c i : Nat} {v : Int32} (h : isI c = true) : (gW (GS g) μ).set c (g.1 c, .inl ((GS g).2.2.2.1.1, lenS c, .inl (upd (μ.1 c) i v))) = gW (GS g) (wr μ c i v) := by
  rcases isI_or h with rfl | rfl | rfl | rfl | rfl | rfl | rfl | rfl | rfl | rfl | rfl | rfl | rfl | rfl | rfl | rfl | rfl | rfl | rfl | rfl | rfl | rfl | rfl | rfl | rfl | rfl | rfl | rfl <;> rfl
theorem wr_at (μ : Mem) (c i d j : Nat) (v : Int32) : (wr μ c i v).1 d j = if d = c ∧ j = i then v else μ.1 d j := by
  by_cases hd : d = c
  · subst hd
    by_cases hj : j = i
    · subst hj; simp [wr, upd]
    · simp [wr, upd, hj]
  · simp [wr, hd]
theorem wr_2 (μ : Mem) (c i : Nat) (v : Int32) : (wr μ c i v).2 = μ.2 := rfl
theorem wrL_1 (μ : Mem) (i : Nat) (v : Int64) : (wrL μ i v).1 = μ.1 := rfl
theorem wrL_at (μ : Mem) (i j : Nat) (v : Int64) : (wrL μ i v).2 j = if j = i then v else μ.2 j := rfl
/-- the answer is v, and nothing has changed -/
def Is (v : Value) (μ : Mem) : Option Value → Mem → Prop := fun r μ' => r = some v ∧ μ' = μ
def IsN (μ : Mem) : Option Value → Mem → Prop := fun r μ' => r = none ∧ μ' = μ
theorem rmR {dp dq : Nat} (h : dp + 1 ≤ dq) : dp + 1 ≤ (rmD dq).frames ∧ (dp + 1) * 40 ≤ (rmD dq).locals := ⟨h, Nat.mul_le_mul_right 40 h⟩
theorem rmM {dq q : Nat} (h : 1 ≤ dq) (hq : q ≤ 20) : 1 ≤ (rmD dq).frames ∧ q + 13 ≤ (rmD dq).locals := ⟨h, by show q + 13 ≤ dq * 40; omega⟩
section WROWS
variable {g : Gm} {G : Geo} {p : Program} {l : Launch} {e : Env} {R : Room} {s : State} {m : MethodId} {args : Array Value} {below : List Frame} {meth : Method} {c : Code} {k n : Nat} {Z : State → Prop} {own : String} {cc : ByteArray} {nL pc : Nat} {ret : Option FieldType} {lv : List (Option Value)} {st : List Value} {μ : Mem}

theorem V_ia (F : Fx (GS g) p R s m args meth c own cc nL ret k n) {q j : Nat} {x v : Int32} (d : decode cc pc = .ok (.iaload, 1)) (h : isI q = true) (hx : x = nI j) (hj : j < lenS q) (hv : μ.1 q j = v) (kk : V (GS g) p l e R s m args below meth c nL k n Z (pc + 1) lv (.int v :: st) μ) : V (GS g) p l e R s m args below meth c nL k n Z pc lv (.int x :: .ref (g.1 q) :: st) μ := by
  have hb : j < 2 ^ 31 := by
    have : lenS q ≤ 4140 := by unfold lenS; split <;> omega
    omega
  subst hx; subst hv
  refine V_iald F d (wS_int h) (vp_in_nI hj (by have : lenS q ≤ 4140 := by { unfold lenS; split <;> omega }; omega)) ?_
  have e1 : (nI j).toNatClampNeg = j := nI_clamp hb
  rw [e1]
  exact kk
theorem V_ias (F : Fx (GS g) p R s m args meth c own cc nL ret k n) {q j : Nat} {x v : Int32} (d : decode cc pc = .ok (.iastore, 1)) (h : isI q = true) (hx : x = nI j) (hj : j < lenS q) (kk : V (GS g) p l e R s m args below meth c nL k n Z (pc + 1) lv st (wr μ q j v)) : V (GS g) p l e R s m args below meth c nL k n Z pc lv (.int v :: .int x :: .ref (g.1 q) :: st) μ := by
  have hb : j < 2 ^ 31 := by
    have : lenS q ≤ 4140 := by unfold lenS; split <;> omega
    omega
  subst hx
  have e1 : (nI j).toNatClampNeg = j := nI_clamp hb
  refine V_iast F d (wS_int h) (vp_in_nI hj (by have : lenS q ≤ 4140 := by { unfold lenS; split <;> omega }; omega)) (wS_set h) ?_
  rw [e1]
  exact kk
theorem V_iaddN (F : Fx G p R s m args meth c own cc nL ret k n) {x y : Nat} (d : decode cc pc = .ok (.iadd, 1)) (kk : V G p l e R s m args below meth c nL k n Z (pc + 1) lv (.int (nI (x + y)) :: st) μ) : V G p l e R s m args below meth c nL k n Z pc lv (.int (nI y) :: .int (nI x) :: st) μ := V_iadd F d (by rw [nI_add]; exact kk)
theorem V_imulN (F : Fx G p R s m args meth c own cc nL ret k n) {x y : Nat} (d : decode cc pc = .ok (.imul, 1)) (kk : V G p l e R s m args below meth c nL k n Z (pc + 1) lv (.int (nI (x * y)) :: st) μ) : V G p l e R s m args below meth c nL k n Z pc lv (.int (nI y) :: .int (nI x) :: st) μ := V_imul F d (by rw [show nI x * nI y = nI (x * y) from (Int32.ofNat_mul x y).symm]; exact kk)
theorem V_valL (F : Fx G p R s m args meth c own cc nL ret k n) {u v : Int64} (h : u = v) (kk : V G p l e R s m args below meth c nL k n Z pc lv (.long v :: st) μ) : V G p l e R s m args below meth c nL k n Z pc lv (.long u :: st) μ := h ▸ kk
theorem V_val (F : Fx G p R s m args meth c own cc nL ret k n) {u v : Int32} (h : u = v) (kk : V G p l e R s m args below meth c nL k n Z pc lv (.int v :: st) μ) : V G p l e R s m args below meth c nL k n Z pc lv (.int u :: st) μ := h ▸ kk

theorem V_callSi (F : Fx G p R s m args meth c own cc nL ret k n) {y : MethodName} {b : ByteArray} {nLc dp index j : Nat} {retc : Option FieldType} {As : List Value} {v : Value} (hC : Ct G l dp y b nLc retc As μ (Is v μ)) (hM : MI y b nLc retc j) (hs : Cond.static y ∈ wsG) (hlink : Cond.methodLink own index y ∈ wsG) (d : decode cc pc = .ok (.invokestatic index, 3)) (hR : dp + 1 ≤ R.frames ∧ (dp + 1) * 40 ≤ R.locals) {st0 : List Value} (hst : st0 = As.reverse ++ st) (hn : As.length = j) (hnl : nLc ≤ 21) (hw : (st.map fun v => v.category).sum ≤ 8) (kk : V G p l e R s m args below meth c nL k n Z (pc + 3) lv (v :: st) μ) : V G p l e R s m args below meth c nL k n Z pc lv st0 μ :=
  V_callS F hC hM hs hlink d hR hst hn hnl hw (fun r μ' h => by obtain ⟨rfl, rfl⟩ := h; exact kk)
theorem V_callS0 (F : Fx G p R s m args meth c own cc nL ret k n) {y : MethodName} {b : ByteArray} {nLc dp index j : Nat} {retc : Option FieldType} {As : List Value} {ν : Mem} (hC : Ct G l dp y b nLc retc As μ (IsN ν)) (hM : MI y b nLc retc j) (hs : Cond.static y ∈ wsG) (hlink : Cond.methodLink own index y ∈ wsG) (d : decode cc pc = .ok (.invokestatic index, 3)) (hR : dp + 1 ≤ R.frames ∧ (dp + 1) * 40 ≤ R.locals) {st0 : List Value} (hst : st0 = As.reverse ++ st) (hn : As.length = j) (hnl : nLc ≤ 21) (hw : (st.map fun v => v.category).sum ≤ 8) (kk : V G p l e R s m args below meth c nL k n Z (pc + 3) lv (st) ν) : V G p l e R s m args below meth c nL k n Z pc lv st0 μ :=
  V_callS F hC hM hs hlink d hR hst hn hnl hw (fun r μ' h => by obtain ⟨rfl, rfl⟩ := h; exact kk)
theorem V_callSNi (F : Fx G p R s m args meth c own cc nL ret k n) {y : MethodName} {b : ByteArray} {nLc dp index j : Nat} {retc : Option FieldType} {As : List Value} {v : Value} (hC : Ct G l dp y b nLc retc As μ (Is v μ)) (hM : MI y b nLc retc j) {host : String} (hs : Cond.static y ∈ wsG) (hlink : Cond.methodLinkNest own index y host ∈ nestW) (d : decode cc pc = .ok (.invokestatic index, 3)) (hR : dp + 1 ≤ R.frames ∧ (dp + 1) * 40 ≤ R.locals) {st0 : List Value} (hst : st0 = As.reverse ++ st) (hn : As.length = j) (hnl : nLc ≤ 21) (hw : (st.map fun v => v.category).sum ≤ 8) (kk : V G p l e R s m args below meth c nL k n Z (pc + 3) lv (v :: st) μ) : V G p l e R s m args below meth c nL k n Z pc lv st0 μ :=
  V_callSN F hC hM hs hlink d hR hst hn hnl hw (fun r μ' h => by obtain ⟨rfl, rfl⟩ := h; exact kk)
theorem V_callSN0 (F : Fx G p R s m args meth c own cc nL ret k n) {y : MethodName} {b : ByteArray} {nLc dp index j : Nat} {retc : Option FieldType} {As : List Value} {ν : Mem} (hC : Ct G l dp y b nLc retc As μ (IsN ν)) (hM : MI y b nLc retc j) {host : String} (hs : Cond.static y ∈ wsG) (hlink : Cond.methodLinkNest own index y host ∈ nestW) (d : decode cc pc = .ok (.invokestatic index, 3)) (hR : dp + 1 ≤ R.frames ∧ (dp + 1) * 40 ≤ R.locals) {st0 : List Value} (hst : st0 = As.reverse ++ st) (hn : As.length = j) (hnl : nLc ≤ 21) (hw : (st.map fun v => v.category).sum ≤ 8) (kk : V G p l e R s m args below meth c nL k n Z (pc + 3) lv (st) ν) : V G p l e R s m args below meth c nL k n Z pc lv st0 μ :=
  V_callSN F hC hM hs hlink d hR hst hn hnl hw (fun r μ' h => by obtain ⟨rfl, rfl⟩ := h; exact kk)
theorem V_callVi (F : Fx G p R s m args meth c own cc nL ret k n) {y : MethodName} {b : ByteArray} {nLc dp index j a ci q0 : Nat} {qc : vw_C} {fs : List Value} {retc : Option FieldType} {As : List Value} {v : Value} (hC : Ct G l dp y b nLc retc (.ref a :: As) μ (Is v μ)) (hM : MI y b nLc retc j) (hs : Cond.instanceMethod y ∈ wsG ∧ Cond.selects y.cls y y ∈ wsG) (hlink : Cond.methodLink own index y ∈ wsG) (d : decode cc pc = .ok (.invokevirtual index, 3)) (hR : dp + 1 ≤ R.frames ∧ (dp + 1) * 40 ≤ R.locals) {st0 : List Value} (hst : st0 = As.reverse ++ .ref a :: st) (hn : As.length = j) (hnl : nLc ≤ 21) (hw : (st.map fun v => v.category).sum ≤ 8) (he : (gW G μ)[q0]? = some (a, .inr (ci, fs))) (hc : vwCl[ci]? = some qc) (hqc : qc.1 = y.cls) (kk : V G p l e R s m args below meth c nL k n Z (pc + 3) lv (v :: st) μ) : V G p l e R s m args below meth c nL k n Z pc lv st0 μ :=
  V_callV F hC hM hs hlink d hR hst hn hnl hw he hc hqc (fun r μ' h => by obtain ⟨rfl, rfl⟩ := h; exact kk)
theorem V_callV0 (F : Fx G p R s m args meth c own cc nL ret k n) {y : MethodName} {b : ByteArray} {nLc dp index j a ci q0 : Nat} {qc : vw_C} {fs : List Value} {retc : Option FieldType} {As : List Value} {ν : Mem} (hC : Ct G l dp y b nLc retc (.ref a :: As) μ (IsN ν)) (hM : MI y b nLc retc j) (hs : Cond.instanceMethod y ∈ wsG ∧ Cond.selects y.cls y y ∈ wsG) (hlink : Cond.methodLink own index y ∈ wsG) (d : decode cc pc = .ok (.invokevirtual index, 3)) (hR : dp + 1 ≤ R.frames ∧ (dp + 1) * 40 ≤ R.locals) {st0 : List Value} (hst : st0 = As.reverse ++ .ref a :: st) (hn : As.length = j) (hnl : nLc ≤ 21) (hw : (st.map fun v => v.category).sum ≤ 8) (he : (gW G μ)[q0]? = some (a, .inr (ci, fs))) (hc : vwCl[ci]? = some qc) (hqc : qc.1 = y.cls) (kk : V G p l e R s m args below meth c nL k n Z (pc + 3) lv (st) ν) : V G p l e R s m args below meth c nL k n Z pc lv st0 μ :=
  V_callV F hC hM hs hlink d hR hst hn hnl hw he hc hqc (fun r μ' h => by obtain ⟨rfl, rfl⟩ := h; exact kk)
theorem V_callVNi (F : Fx G p R s m args meth c own cc nL ret k n) {y : MethodName} {b : ByteArray} {nLc dp index j a ci q0 : Nat} {qc : vw_C} {fs : List Value} {retc : Option FieldType} {As : List Value} {v : Value} (hC : Ct G l dp y b nLc retc (.ref a :: As) μ (Is v μ)) (hM : MI y b nLc retc j) {host : String} (hs : Cond.instanceMethod y ∈ wsG ∧ Cond.selects y.cls y y ∈ wsG) (hlink : Cond.methodLinkNest own index y host ∈ nestW) (d : decode cc pc = .ok (.invokevirtual index, 3)) (hR : dp + 1 ≤ R.frames ∧ (dp + 1) * 40 ≤ R.locals) {st0 : List Value} (hst : st0 = As.reverse ++ .ref a :: st) (hn : As.length = j) (hnl : nLc ≤ 21) (hw : (st.map fun v => v.category).sum ≤ 8) (he : (gW G μ)[q0]? = some (a, .inr (ci, fs))) (hc : vwCl[ci]? = some qc) (hqc : qc.1 = y.cls) (kk : V G p l e R s m args below meth c nL k n Z (pc + 3) lv (v :: st) μ) : V G p l e R s m args below meth c nL k n Z pc lv st0 μ :=
  V_callVN F hC hM hs hlink d hR hst hn hnl hw he hc hqc (fun r μ' h => by obtain ⟨rfl, rfl⟩ := h; exact kk)
theorem V_callVN0 (F : Fx G p R s m args meth c own cc nL ret k n) {y : MethodName} {b : ByteArray} {nLc dp index j a ci q0 : Nat} {qc : vw_C} {fs : List Value} {retc : Option FieldType} {As : List Value} {ν : Mem} (hC : Ct G l dp y b nLc retc (.ref a :: As) μ (IsN ν)) (hM : MI y b nLc retc j) {host : String} (hs : Cond.instanceMethod y ∈ wsG ∧ Cond.selects y.cls y y ∈ wsG) (hlink : Cond.methodLinkNest own index y host ∈ nestW) (d : decode cc pc = .ok (.invokevirtual index, 3)) (hR : dp + 1 ≤ R.frames ∧ (dp + 1) * 40 ≤ R.locals) {st0 : List Value} (hst : st0 = As.reverse ++ .ref a :: st) (hn : As.length = j) (hnl : nLc ≤ 21) (hw : (st.map fun v => v.category).sum ≤ 8) (he : (gW G μ)[q0]? = some (a, .inr (ci, fs))) (hc : vwCl[ci]? = some qc) (hqc : qc.1 = y.cls) (kk : V G p l e R s m args below meth c nL k n Z (pc + 3) lv (st) ν) : V G p l e R s m args below meth c nL k n Z pc lv st0 μ :=
  V_callVN F hC hM hs hlink d hR hst hn hnl hw he hc hqc (fun r μ' h => by obtain ⟨rfl, rfl⟩ := h; exact kk)
theorem V_icmp_eq_N (F : Fx G p R s m args meth c own cc nL ret k n) {off : Int} {tgt a b : Nat} (d : decode cc pc = .ok (.if_icmp .eq off, 3)) (ht : (pc : Int) + off = (tgt : Int)) (ha : a < 2 ^ 31) (hb : b < 2 ^ 31) (kt : a = b → V G p l e R s m args below meth c nL k n Z tgt lv st μ) (kf : ¬ a = b → V G p l e R s m args below meth c nL k n Z (pc + 3) lv st μ) : V G p l e R s m args below meth c nL k n Z pc lv (.int (nI b) :: .int (nI a) :: st) μ :=
  V_icmp_eq F d ht (fun h => kt ((nI_eq ha hb).mp h)) (fun h => kf (fun q => h ((nI_eq ha hb).mpr q)))
theorem V_icmp_ne_N (F : Fx G p R s m args meth c own cc nL ret k n) {off : Int} {tgt a b : Nat} (d : decode cc pc = .ok (.if_icmp .ne off, 3)) (ht : (pc : Int) + off = (tgt : Int)) (ha : a < 2 ^ 31) (hb : b < 2 ^ 31) (kt : a ≠ b → V G p l e R s m args below meth c nL k n Z tgt lv st μ) (kf : ¬ (a ≠ b) → V G p l e R s m args below meth c nL k n Z (pc + 3) lv st μ) : V G p l e R s m args below meth c nL k n Z pc lv (.int (nI b) :: .int (nI a) :: st) μ :=
  V_icmp_ne F d ht (fun h => kt ((not_congr (nI_eq ha hb)).mp h)) (fun h => kf (fun q => q ((nI_eq ha hb).mp h)))
theorem V_icmp_lt_N (F : Fx G p R s m args meth c own cc nL ret k n) {off : Int} {tgt a b : Nat} (d : decode cc pc = .ok (.if_icmp .lt off, 3)) (ht : (pc : Int) + off = (tgt : Int)) (ha : a < 2 ^ 31) (hb : b < 2 ^ 31) (kt : a < b → V G p l e R s m args below meth c nL k n Z tgt lv st μ) (kf : ¬ a < b → V G p l e R s m args below meth c nL k n Z (pc + 3) lv st μ) : V G p l e R s m args below meth c nL k n Z pc lv (.int (nI b) :: .int (nI a) :: st) μ :=
  V_icmp_lt F d ht (fun h => kt ((nI_ltI ha hb).mp h)) (fun h => kf (fun q => h ((nI_ltI ha hb).mpr q)))
theorem V_icmp_ge_N (F : Fx G p R s m args meth c own cc nL ret k n) {off : Int} {tgt a b : Nat} (d : decode cc pc = .ok (.if_icmp .ge off, 3)) (ht : (pc : Int) + off = (tgt : Int)) (ha : a < 2 ^ 31) (hb : b < 2 ^ 31) (kt : b ≤ a → V G p l e R s m args below meth c nL k n Z tgt lv st μ) (kf : ¬ b ≤ a → V G p l e R s m args below meth c nL k n Z (pc + 3) lv st μ) : V G p l e R s m args below meth c nL k n Z pc lv (.int (nI b) :: .int (nI a) :: st) μ :=
  V_icmp_ge F d ht (fun h => kt ((nI_leI hb ha).mp h)) (fun h => kf (fun q => h ((nI_leI hb ha).mpr q)))
theorem V_icmp_gt_N (F : Fx G p R s m args meth c own cc nL ret k n) {off : Int} {tgt a b : Nat} (d : decode cc pc = .ok (.if_icmp .gt off, 3)) (ht : (pc : Int) + off = (tgt : Int)) (ha : a < 2 ^ 31) (hb : b < 2 ^ 31) (kt : b < a → V G p l e R s m args below meth c nL k n Z tgt lv st μ) (kf : ¬ b < a → V G p l e R s m args below meth c nL k n Z (pc + 3) lv st μ) : V G p l e R s m args below meth c nL k n Z pc lv (.int (nI b) :: .int (nI a) :: st) μ :=
  V_icmp_gt F d ht (fun h => kt ((nI_ltI hb ha).mp h)) (fun h => kf (fun q => h ((nI_ltI hb ha).mpr q)))
theorem V_icmp_le_N (F : Fx G p R s m args meth c own cc nL ret k n) {off : Int} {tgt a b : Nat} (d : decode cc pc = .ok (.if_icmp .le off, 3)) (ht : (pc : Int) + off = (tgt : Int)) (ha : a < 2 ^ 31) (hb : b < 2 ^ 31) (kt : a ≤ b → V G p l e R s m args below meth c nL k n Z tgt lv st μ) (kf : ¬ a ≤ b → V G p l e R s m args below meth c nL k n Z (pc + 3) lv st μ) : V G p l e R s m args below meth c nL k n Z pc lv (.int (nI b) :: .int (nI a) :: st) μ :=
  V_icmp_le F d ht (fun h => kt ((nI_leI ha hb).mp h)) (fun h => kf (fun q => h ((nI_leI ha hb).mpr q)))
theorem V_pff_15_0 (F : Fx (GS g) p R s m args meth c own cc nL ret k n) {index : Nat} {host : String} {x : Int32} (hlink : Cond.fieldLink own index RX4 (TX4 0).2.1 (TX4 0).2.2.1 ∈ wsG) (d : decode cc pc = .ok (.putfield index, 3)) (kk : V (GS g) p l e R s m args below meth c nL k n Z (pc + 3) lv st (wr μ 15 0 x)) : V (GS g) p l e R s m args below meth c nL k n Z pc lv (.int x :: .ref (g.1 15) :: st) μ :=
  V_putf F 15 0 hlink d ig_X4 tyX4 tyX4_ok nmX4 rfl rfl (by decide) rfl rfl (by decide +kernel) (Nat.le_of_ble_eq_true rfl) (μ' := wr μ 15 0 x) rfl kk
theorem V_pff_15_18 (F : Fx (GS g) p R s m args meth c own cc nL ret k n) {index : Nat} {host : String} {x : Int32} (hlink : Cond.fieldLink own index RX4 (TX4 18).2.1 (TX4 18).2.2.1 ∈ wsG) (d : decode cc pc = .ok (.putfield index, 3)) (kk : V (GS g) p l e R s m args below meth c nL k n Z (pc + 3) lv st (wr μ 15 18 x)) : V (GS g) p l e R s m args below meth c nL k n Z pc lv (.int x :: .ref (g.1 15) :: st) μ :=
  V_putf F 15 18 hlink d ig_X4 tyX4 tyX4_ok nmX4 rfl rfl (by decide) rfl rfl (by decide +kernel) (Nat.le_of_ble_eq_true rfl) (μ' := wr μ 15 18 x) rfl kk
theorem V_pff_1_0 (F : Fx (GS g) p R s m args meth c own cc nL ret k n) {index : Nat} {host : String} {x : Int32} (hlink : Cond.fieldLink own index RX2 (TX2 0).2.1 (TX2 0).2.2.1 ∈ wsG) (d : decode cc pc = .ok (.putfield index, 3)) (kk : V (GS g) p l e R s m args below meth c nL k n Z (pc + 3) lv st (wr μ 1 0 x)) : V (GS g) p l e R s m args below meth c nL k n Z pc lv (.int x :: .ref (g.1 1) :: st) μ :=
  V_putf F 1 0 hlink d ig_X2 tyX2 tyX2_ok nmX2 rfl rfl (by decide) rfl rfl (by decide +kernel) (Nat.le_of_ble_eq_true rfl) (μ' := wr μ 1 0 x) rfl kk
theorem V_pfN_1_0 (F : Fx (GS g) p R s m args meth c own cc nL ret k n) {index : Nat} {host : String} {x : Int32} (hlink : Cond.fieldLinkNest own index RX2 (TX2 0).2.1 (TX2 0).2.2.1 host ∈ nestW) (d : decode cc pc = .ok (.putfield index, 3)) (kk : V (GS g) p l e R s m args below meth c nL k n Z (pc + 3) lv st (wr μ 1 0 x)) : V (GS g) p l e R s m args below meth c nL k n Z pc lv (.int x :: .ref (g.1 1) :: st) μ :=
  V_putN F 1 0 hlink d ig_X2 tyX2 tyX2_ok nmX2 rfl rfl (by decide) rfl rfl (by decide +kernel) (Nat.le_of_ble_eq_true rfl) (μ' := wr μ 1 0 x) rfl kk
theorem nI_max {a b : Nat} (ha : a < 2 ^ 31) (hb : b < 2 ^ 31) : (if nI a < nI b then nI b else nI a) = nI (max a b) := by
  by_cases h : a < b
  · rw [if_pos ((nI_ltI ha hb).mpr h), Nat.max_eq_right (by omega)]
  · rw [if_neg (fun q => h ((nI_ltI ha hb).mp q)), Nat.max_eq_left (by omega)]
theorem nI_min {a b : Nat} (ha : a < 2 ^ 31) (hb : b < 2 ^ 31) : (if nI b < nI a then nI b else nI a) = nI (min a b) := by
  by_cases h : b < a
  · rw [if_pos ((nI_ltI hb ha).mpr h), Nat.min_eq_right (by omega)]
  · rw [if_neg (fun q => h ((nI_ltI hb ha).mp q)), Nat.min_eq_left (by omega)]
theorem V_maxN (F : Fx G p R s m args meth c own cc nL ret k n) {x y index : Nat} (hlink : Cond.methodLink own index Lib.Math.max.name ∈ wsG) (d : decode cc pc = .ok (.invokestatic index, 3)) (hR : 1 ≤ R.frames ∧ (st.map fun v => v.category).sum + 13 ≤ R.locals) (hx : x < 2 ^ 31) (hy : y < 2 ^ 31) (kk : V G p l e R s m args below meth c nL k n Z (pc + 3) lv (.int (nI (max x y)) :: st) μ) : V G p l e R s m args below meth c nL k n Z pc lv (.int (nI y) :: .int (nI x) :: st) μ := V_max F hlink d hR (by rw [nI_max hx hy]; exact kk)
theorem V_minN (F : Fx G p R s m args meth c own cc nL ret k n) {x y index : Nat} (hlink : Cond.methodLink own index Lib.Math.min.name ∈ wsG) (d : decode cc pc = .ok (.invokestatic index, 3)) (hR : 1 ≤ R.frames ∧ (st.map fun v => v.category).sum + 13 ≤ R.locals) (hx : x < 2 ^ 31) (hy : y < 2 ^ 31) (kk : V G p l e R s m args below meth c nL k n Z (pc + 3) lv (.int (nI (min x y)) :: st) μ) : V G p l e R s m args below meth c nL k n Z pc lv (.int (nI y) :: .int (nI x) :: st) μ := V_min F hlink d hR (by rw [nI_min hx hy]; exact kk)
theorem V_isubN (F : Fx G p R s m args meth c own cc nL ret k n) {x y : Nat} (h : y ≤ x) (d : decode cc pc = .ok (.isub, 1)) (kk : V G p l e R s m args below meth c nL k n Z (pc + 1) lv (.int (nI (x - y)) :: st) μ) : V G p l e R s m args below meth c nL k n Z pc lv (.int (nI y) :: .int (nI x) :: st) μ := V_isub F d (by rw [show nI x - nI y = nI (x - y) from (Int32.ofNat_sub x y h).symm]; exact kk)
end WROWS
theorem mi_X3_init : MI yX3_init cX3_init 1 none 0 := ⟨mc_X3_init, mt_X3, ⟨by decide +kernel, by decide +kernel, by decide +kernel⟩, by decide +kernel⟩
theorem mi_X2_init : MI yX2_init cX2_init 1 none 0 := ⟨mc_X2_init, mt_X2, ⟨by decide +kernel, by decide +kernel, by decide +kernel⟩, by decide +kernel⟩
theorem mi_X2_lengthsOfNew : MI yX2_lengthsOfNew cX2_lengthsOfNew 1 (some (.array .int)) 0 := ⟨mc_X2_lengthsOfNew, mt_X2, ⟨by decide +kernel, by decide +kernel, by decide +kernel⟩, by decide +kernel⟩
theorem mi_X2_headOf : MI yX2_headOf cX2_headOf 1 (some (.object "java/lang/String")) 1 := ⟨mc_X2_headOf, mt_X2, ⟨by decide +kernel, by decide +kernel, by decide +kernel⟩, by decide +kernel⟩
theorem mi_J0_length_8abf5 : MI yJ0_length_8abf5 cJ0_length_8abf5 1 (some .int) 0 := ⟨mc_J0_length_8abf5, mt_J0, ⟨by decide +kernel, by decide +kernel, by decide +kernel⟩, by decide +kernel⟩
theorem mm_J0_length_8abf5 : Cond.instanceMethod yJ0_length_8abf5 ∈ wsG ∧ Cond.selects yJ0_length_8abf5.cls yJ0_length_8abf5 yJ0_length_8abf5 ∈ wsG := ⟨mn_J0_length_8abf5, mv_J0_length_8abf5⟩
theorem mi_J0_coder_7d493 : MI yJ0_coder_7d493 cJ0_coder_7d493 1 (some .byte) 0 := ⟨mc_J0_coder_7d493, mt_J0, ⟨by decide +kernel, by decide +kernel, by decide +kernel⟩, by decide +kernel⟩
theorem mm_J0_coder_7d493 : Cond.instanceMethod yJ0_coder_7d493 ∈ wsG ∧ Cond.selects yJ0_coder_7d493.cls yJ0_coder_7d493 yJ0_coder_7d493 ∈ wsG := ⟨mn_J0_coder_7d493, mv_J0_coder_7d493⟩
theorem mi_X3_put : MI yX3_put cX3_put 3 none 3 := ⟨mc_X3_put, mt_X3, ⟨by decide +kernel, by decide +kernel, by decide +kernel⟩, by decide +kernel⟩
theorem mi_X0_init : MI yX0_init cX0_init 2 none 1 := ⟨mc_X0_init, mt_X0, ⟨by decide +kernel, by decide +kernel, by decide +kernel⟩, by decide +kernel⟩
theorem mi_X4_init : MI yX4_init cX4_init 1 none 0 := ⟨mc_X4_init, mt_X4, ⟨by decide +kernel, by decide +kernel, by decide +kernel⟩, by decide +kernel⟩
theorem mi_X3_tau : MI yX3_tau cX3_tau 2 (some .int) 1 := ⟨mc_X3_tau, mt_X3, ⟨by decide +kernel, by decide +kernel, by decide +kernel⟩, by decide +kernel⟩
theorem mm_X3_tau : Cond.instanceMethod yX3_tau ∈ wsG ∧ Cond.selects yX3_tau.cls yX3_tau yX3_tau ∈ wsG := ⟨mn_X3_tau, mv_X3_tau⟩
theorem mi_X2_holds : MI yX2_holds cX2_holds 2 (some .boolean) 1 := ⟨mc_X2_holds, mt_X2, ⟨by decide +kernel, by decide +kernel, by decide +kernel⟩, by decide +kernel⟩
theorem mm_X2_holds : Cond.instanceMethod yX2_holds ∈ wsG ∧ Cond.selects yX2_holds.cls yX2_holds yX2_holds ∈ wsG := ⟨mn_X2_holds, mv_X2_holds⟩
theorem mi_X2_build : MI yX2_build cX2_build 9 (some .int) 5 := ⟨mc_X2_build, mt_X2, ⟨by decide +kernel, by decide +kernel, by decide +kernel⟩, by decide +kernel⟩
theorem mm_X2_build : Cond.instanceMethod yX2_build ∈ wsG ∧ Cond.selects yX2_build.cls yX2_build yX2_build ∈ wsG := ⟨mn_X2_build, mv_X2_build⟩
theorem mi_X3_at : MI yX3_at cX3_at 2 (some .int) 2 := ⟨mc_X3_at, mt_X3, ⟨by decide +kernel, by decide +kernel, by decide +kernel⟩, by decide +kernel⟩
theorem mi_X2_isAction : MI yX2_isAction cX2_isAction 1 (some .boolean) 1 := ⟨mc_X2_isAction, mt_X2, ⟨by decide +kernel, by decide +kernel, by decide +kernel⟩, by decide +kernel⟩
theorem mi_X2_needFor : MI yX2_needFor cX2_needFor 9 (some .int) 5 := ⟨mc_X2_needFor, mt_X2, ⟨by decide +kernel, by decide +kernel, by decide +kernel⟩, by decide +kernel⟩
theorem mm_X2_needFor : Cond.instanceMethod yX2_needFor ∈ wsG ∧ Cond.selects yX2_needFor.cls yX2_needFor yX2_needFor ∈ wsG := ⟨mn_X2_needFor, mv_X2_needFor⟩
theorem mi_X2_lengthFor : MI yX2_lengthFor cX2_lengthFor 5 (some .int) 3 := ⟨mc_X2_lengthFor, mt_X2, ⟨by decide +kernel, by decide +kernel, by decide +kernel⟩, by decide +kernel⟩
theorem mm_X2_lengthFor : Cond.instanceMethod yX2_lengthFor ∈ wsG ∧ Cond.selects yX2_lengthFor.cls yX2_lengthFor yX2_lengthFor ∈ wsG := ⟨mn_X2_lengthFor, mv_X2_lengthFor⟩
theorem mi_X2_putActions : MI yX2_putActions cX2_putActions 9 none 6 := ⟨mc_X2_putActions, mt_X2, ⟨by decide +kernel, by decide +kernel, by decide +kernel⟩, by decide +kernel⟩
theorem mm_X2_putActions : Cond.instanceMethod yX2_putActions ∈ wsG ∧ Cond.selects yX2_putActions.cls yX2_putActions yX2_putActions ∈ wsG := ⟨mn_X2_putActions, mv_X2_putActions⟩
theorem mi_X3_put_ : MI yX3_put_ cX3_put_ 4 none 3 := ⟨mc_X3_put_, mt_X3, ⟨by decide +kernel, by decide +kernel, by decide +kernel⟩, by decide +kernel⟩
theorem mi_X2_copyActions : MI yX2_copyActions cX2_copyActions 9 none 4 := ⟨mc_X2_copyActions, mt_X2, ⟨by decide +kernel, by decide +kernel, by decide +kernel⟩, by decide +kernel⟩
theorem mm_X2_copyActions : Cond.instanceMethod yX2_copyActions ∈ wsG ∧ Cond.selects yX2_copyActions.cls yX2_copyActions yX2_copyActions ∈ wsG := ⟨mn_X2_copyActions, mv_X2_copyActions⟩
theorem mi_X3_at_ : MI yX3_at_ cX3_at_ 2 (some .long) 2 := ⟨mc_X3_at_, mt_X3, ⟨by decide +kernel, by decide +kernel, by decide +kernel⟩, by decide +kernel⟩
theorem mi_X4_tau : MI yX4_tau cX4_tau 2 (some .int) 1 := ⟨mc_X4_tau, mt_X4, ⟨by decide +kernel, by decide +kernel, by decide +kernel⟩, by decide +kernel⟩
theorem mm_X4_tau : Cond.instanceMethod yX4_tau ∈ wsG ∧ Cond.selects yX4_tau.cls yX4_tau yX4_tau ∈ wsG := ⟨mn_X4_tau, mv_X4_tau⟩
theorem mi_X4_isProcess : MI yX4_isProcess cX4_isProcess 2 (some .boolean) 1 := ⟨mc_X4_isProcess, mt_X4, ⟨by decide +kernel, by decide +kernel, by decide +kernel⟩, by decide +kernel⟩
theorem mm_X4_isProcess : Cond.instanceMethod yX4_isProcess ∈ wsG ∧ Cond.selects yX4_isProcess.cls yX4_isProcess yX4_isProcess ∈ wsG := ⟨mn_X4_isProcess, mv_X4_isProcess⟩
theorem mi_X4_in : MI yX4_in cX4_in 3 (some .boolean) 3 := ⟨mc_X4_in, mt_X4, ⟨by decide +kernel, by decide +kernel, by decide +kernel⟩, by decide +kernel⟩
theorem mi_X4_builds : MI yX4_builds cX4_builds 10 (some .int) 5 := ⟨mc_X4_builds, mt_X4, ⟨by decide +kernel, by decide +kernel, by decide +kernel⟩, by decide +kernel⟩
theorem mm_X4_builds : Cond.instanceMethod yX4_builds ∈ wsG ∧ Cond.selects yX4_builds.cls yX4_builds yX4_builds ∈ wsG := ⟨mn_X4_builds, mv_X4_builds⟩
theorem mi_X4_larger : MI yX4_larger cX4_larger 2 (some .int) 2 := ⟨mc_X4_larger, mt_X4, ⟨by decide +kernel, by decide +kernel, by decide +kernel⟩, by decide +kernel⟩
theorem mi_X4_needed : MI yX4_needed cX4_needed 1 (some .int) 1 := ⟨mc_X4_needed, mt_X4, ⟨by decide +kernel, by decide +kernel, by decide +kernel⟩, by decide +kernel⟩
theorem mi_X3_output : MI yX3_output cX3_output 4 (some .int) 3 := ⟨mc_X3_output, mt_X3, ⟨by decide +kernel, by decide +kernel, by decide +kernel⟩, by decide +kernel⟩
theorem mm_X3_output : Cond.instanceMethod yX3_output ∈ wsG ∧ Cond.selects yX3_output.cls yX3_output yX3_output ∈ wsG := ⟨mn_X3_output, mv_X3_output⟩
theorem mi_X3_isName : MI yX3_isName cX3_isName 1 (some .boolean) 1 := ⟨mc_X3_isName, mt_X3, ⟨by decide +kernel, by decide +kernel, by decide +kernel⟩, by decide +kernel⟩
theorem mi_X4_output : MI yX4_output cX4_output 4 (some .int) 3 := ⟨mc_X4_output, mt_X4, ⟨by decide +kernel, by decide +kernel, by decide +kernel⟩, by decide +kernel⟩
theorem mm_X4_output : Cond.instanceMethod yX4_output ∈ wsG ∧ Cond.selects yX4_output.cls yX4_output yX4_output ∈ wsG := ⟨mn_X4_output, mv_X4_output⟩
theorem mi_X4_isName : MI yX4_isName cX4_isName 1 (some .boolean) 1 := ⟨mc_X4_isName, mt_X4, ⟨by decide +kernel, by decide +kernel, by decide +kernel⟩, by decide +kernel⟩
theorem mi_X3_input : MI yX3_input cX3_input 3 (some .int) 2 := ⟨mc_X3_input, mt_X3, ⟨by decide +kernel, by decide +kernel, by decide +kernel⟩, by decide +kernel⟩
theorem mm_X3_input : Cond.instanceMethod yX3_input ∈ wsG ∧ Cond.selects yX3_input.cls yX3_input yX3_input ∈ wsG := ⟨mn_X3_input, mv_X3_input⟩
theorem mi_X4_input : MI yX4_input cX4_input 3 (some .int) 2 := ⟨mc_X4_input, mt_X4, ⟨by decide +kernel, by decide +kernel, by decide +kernel⟩, by decide +kernel⟩
theorem mm_X4_input : Cond.instanceMethod yX4_input ∈ wsG ∧ Cond.selects yX4_input.cls yX4_input yX4_input ∈ wsG := ⟨mn_X4_input, mv_X4_input⟩
theorem mi_X3_match : MI yX3_match cX3_match 4 (some .int) 3 := ⟨mc_X3_match, mt_X3, ⟨by decide +kernel, by decide +kernel, by decide +kernel⟩, by decide +kernel⟩
theorem mm_X3_match : Cond.instanceMethod yX3_match ∈ wsG ∧ Cond.selects yX3_match.cls yX3_match yX3_match ∈ wsG := ⟨mn_X3_match, mv_X3_match⟩
theorem mi_X4_match : MI yX4_match cX4_match 4 (some .int) 3 := ⟨mc_X4_match, mt_X4, ⟨by decide +kernel, by decide +kernel, by decide +kernel⟩, by decide +kernel⟩
theorem mm_X4_match : Cond.instanceMethod yX4_match ∈ wsG ∧ Cond.selects yX4_match.cls yX4_match yX4_match ∈ wsG := ⟨mn_X4_match, mv_X4_match⟩
theorem mi_X3_sum : MI yX3_sum cX3_sum 3 (some .int) 2 := ⟨mc_X3_sum, mt_X3, ⟨by decide +kernel, by decide +kernel, by decide +kernel⟩, by decide +kernel⟩
theorem mm_X3_sum : Cond.instanceMethod yX3_sum ∈ wsG ∧ Cond.selects yX3_sum.cls yX3_sum yX3_sum ∈ wsG := ⟨mn_X3_sum, mv_X3_sum⟩
theorem mi_X4_sum : MI yX4_sum cX4_sum 3 (some .int) 2 := ⟨mc_X4_sum, mt_X4, ⟨by decide +kernel, by decide +kernel, by decide +kernel⟩, by decide +kernel⟩
theorem mm_X4_sum : Cond.instanceMethod yX4_sum ∈ wsG ∧ Cond.selects yX4_sum.cls yX4_sum yX4_sum ∈ wsG := ⟨mn_X4_sum, mv_X4_sum⟩
theorem mi_X3_removeLast : MI yX3_removeLast cX3_removeLast 2 (some .int) 0 := ⟨mc_X3_removeLast, mt_X3, ⟨by decide +kernel, by decide +kernel, by decide +kernel⟩, by decide +kernel⟩
theorem mm_X3_removeLast : Cond.instanceMethod yX3_removeLast ∈ wsG ∧ Cond.selects yX3_removeLast.cls yX3_removeLast yX3_removeLast ∈ wsG := ⟨mn_X3_removeLast, mv_X3_removeLast⟩
theorem mi_X0_forget : MI yX0_forget cX0_forget 5 none 1 := ⟨mc_X0_forget, mt_X0, ⟨by decide +kernel, by decide +kernel, by decide +kernel⟩, by decide +kernel⟩
theorem mm_X0_forget : Cond.instanceMethod yX0_forget ∈ wsG ∧ Cond.selects yX0_forget.cls yX0_forget yX0_forget ∈ wsG := ⟨mn_X0_forget, mv_X0_forget⟩
theorem mi_X0_firstPlace : MI yX0_firstPlace cX0_firstPlace 1 (some .int) 1 := ⟨mc_X0_firstPlace, mt_X0, ⟨by decide +kernel, by decide +kernel, by decide +kernel⟩, by decide +kernel⟩
theorem mi_X4_removeLast : MI yX4_removeLast cX4_removeLast 1 (some .int) 0 := ⟨mc_X4_removeLast, mt_X4, ⟨by decide +kernel, by decide +kernel, by decide +kernel⟩, by decide +kernel⟩
theorem mm_X4_removeLast : Cond.instanceMethod yX4_removeLast ∈ wsG ∧ Cond.selects yX4_removeLast.cls yX4_removeLast yX4_removeLast ∈ wsG := ⟨mn_X4_removeLast, mv_X4_removeLast⟩
theorem mi_X3_processCount : MI yX3_processCount cX3_processCount 1 (some .int) 0 := ⟨mc_X3_processCount, mt_X3, ⟨by decide +kernel, by decide +kernel, by decide +kernel⟩, by decide +kernel⟩
theorem mm_X3_processCount : Cond.instanceMethod yX3_processCount ∈ wsG ∧ Cond.selects yX3_processCount.cls yX3_processCount yX3_processCount ∈ wsG := ⟨mn_X3_processCount, mv_X3_processCount⟩
theorem mi_X4_processCount : MI yX4_processCount cX4_processCount 1 (some .int) 0 := ⟨mc_X4_processCount, mt_X4, ⟨by decide +kernel, by decide +kernel, by decide +kernel⟩, by decide +kernel⟩
theorem mm_X4_processCount : Cond.instanceMethod yX4_processCount ∈ wsG ∧ Cond.selects yX4_processCount.cls yX4_processCount yX4_processCount ∈ wsG := ⟨mn_X4_processCount, mv_X4_processCount⟩
theorem mi_X3_kindOf : MI yX3_kindOf cX3_kindOf 2 (some .int) 1 := ⟨mc_X3_kindOf, mt_X3, ⟨by decide +kernel, by decide +kernel, by decide +kernel⟩, by decide +kernel⟩
theorem mm_X3_kindOf : Cond.instanceMethod yX3_kindOf ∈ wsG ∧ Cond.selects yX3_kindOf.cls yX3_kindOf yX3_kindOf ∈ wsG := ⟨mn_X3_kindOf, mv_X3_kindOf⟩
theorem mi_X4_kindOf : MI yX4_kindOf cX4_kindOf 2 (some .int) 1 := ⟨mc_X4_kindOf, mt_X4, ⟨by decide +kernel, by decide +kernel, by decide +kernel⟩, by decide +kernel⟩
theorem mm_X4_kindOf : Cond.instanceMethod yX4_kindOf ∈ wsG ∧ Cond.selects yX4_kindOf.cls yX4_kindOf yX4_kindOf ∈ wsG := ⟨mn_X4_kindOf, mv_X4_kindOf⟩
theorem mi_X3_partOf : MI yX3_partOf cX3_partOf 3 (some .int) 2 := ⟨mc_X3_partOf, mt_X3, ⟨by decide +kernel, by decide +kernel, by decide +kernel⟩, by decide +kernel⟩
theorem mm_X3_partOf : Cond.instanceMethod yX3_partOf ∈ wsG ∧ Cond.selects yX3_partOf.cls yX3_partOf yX3_partOf ∈ wsG := ⟨mn_X3_partOf, mv_X3_partOf⟩
theorem mi_X2_partsOfKind : MI yX2_partsOfKind cX2_partsOfKind 1 (some .int) 1 := ⟨mc_X2_partsOfKind, mt_X2, ⟨by decide +kernel, by decide +kernel, by decide +kernel⟩, by decide +kernel⟩
theorem mi_X4_partOf : MI yX4_partOf cX4_partOf 4 (some .int) 2 := ⟨mc_X4_partOf, mt_X4, ⟨by decide +kernel, by decide +kernel, by decide +kernel⟩, by decide +kernel⟩
theorem mm_X4_partOf : Cond.instanceMethod yX4_partOf ∈ wsG ∧ Cond.selects yX4_partOf.cls yX4_partOf yX4_partOf ∈ wsG := ⟨mn_X4_partOf, mv_X4_partOf⟩
theorem mi_X3_depthOf : MI yX3_depthOf cX3_depthOf 2 (some .int) 1 := ⟨mc_X3_depthOf, mt_X3, ⟨by decide +kernel, by decide +kernel, by decide +kernel⟩, by decide +kernel⟩
theorem mm_X3_depthOf : Cond.instanceMethod yX3_depthOf ∈ wsG ∧ Cond.selects yX3_depthOf.cls yX3_depthOf yX3_depthOf ∈ wsG := ⟨mn_X3_depthOf, mv_X3_depthOf⟩
theorem mi_X4_depthOf : MI yX4_depthOf cX4_depthOf 2 (some .int) 1 := ⟨mc_X4_depthOf, mt_X4, ⟨by decide +kernel, by decide +kernel, by decide +kernel⟩, by decide +kernel⟩
theorem mm_X4_depthOf : Cond.instanceMethod yX4_depthOf ∈ wsG ∧ Cond.selects yX4_depthOf.cls yX4_depthOf yX4_depthOf ∈ wsG := ⟨mn_X4_depthOf, mv_X4_depthOf⟩
theorem mi_X3_needOf : MI yX3_needOf cX3_needOf 2 (some .int) 1 := ⟨mc_X3_needOf, mt_X3, ⟨by decide +kernel, by decide +kernel, by decide +kernel⟩, by decide +kernel⟩
theorem mm_X3_needOf : Cond.instanceMethod yX3_needOf ∈ wsG ∧ Cond.selects yX3_needOf.cls yX3_needOf yX3_needOf ∈ wsG := ⟨mn_X3_needOf, mv_X3_needOf⟩
theorem mi_X4_needOf : MI yX4_needOf cX4_needOf 2 (some .int) 1 := ⟨mc_X4_needOf, mt_X4, ⟨by decide +kernel, by decide +kernel, by decide +kernel⟩, by decide +kernel⟩
theorem mm_X4_needOf : Cond.instanceMethod yX4_needOf ∈ wsG ∧ Cond.selects yX4_needOf.cls yX4_needOf yX4_needOf ∈ wsG := ⟨mn_X4_needOf, mv_X4_needOf⟩
theorem mi_X3_textLength : MI yX3_textLength cX3_textLength 2 (some .int) 1 := ⟨mc_X3_textLength, mt_X3, ⟨by decide +kernel, by decide +kernel, by decide +kernel⟩, by decide +kernel⟩
theorem mm_X3_textLength : Cond.instanceMethod yX3_textLength ∈ wsG ∧ Cond.selects yX3_textLength.cls yX3_textLength yX3_textLength ∈ wsG := ⟨mn_X3_textLength, mv_X3_textLength⟩
theorem mi_X4_textLength : MI yX4_textLength cX4_textLength 2 (some .int) 1 := ⟨mc_X4_textLength, mt_X4, ⟨by decide +kernel, by decide +kernel, by decide +kernel⟩, by decide +kernel⟩
theorem mm_X4_textLength : Cond.instanceMethod yX4_textLength ∈ wsG ∧ Cond.selects yX4_textLength.cls yX4_textLength yX4_textLength ∈ wsG := ⟨mn_X4_textLength, mv_X4_textLength⟩
theorem mi_X3_textAt : MI yX3_textAt cX3_textAt 3 (some .int) 2 := ⟨mc_X3_textAt, mt_X3, ⟨by decide +kernel, by decide +kernel, by decide +kernel⟩, by decide +kernel⟩
theorem mm_X3_textAt : Cond.instanceMethod yX3_textAt ∈ wsG ∧ Cond.selects yX3_textAt.cls yX3_textAt yX3_textAt ∈ wsG := ⟨mn_X3_textAt, mv_X3_textAt⟩
theorem mi_X2_characterOf : MI yX2_characterOf cX2_characterOf 11 (some .int) 2 := ⟨mc_X2_characterOf, mt_X2, ⟨by decide +kernel, by decide +kernel, by decide +kernel⟩, by decide +kernel⟩
theorem mm_X2_characterOf : Cond.instanceMethod yX2_characterOf ∈ wsG ∧ Cond.selects yX2_characterOf.cls yX2_characterOf yX2_characterOf ∈ wsG := ⟨mn_X2_characterOf, mv_X2_characterOf⟩
theorem mi_X2_headCharacter : MI yX2_headCharacter cX2_headCharacter 5 (some .int) 2 := ⟨mc_X2_headCharacter, mt_X2, ⟨by decide +kernel, by decide +kernel, by decide +kernel⟩, by decide +kernel⟩
theorem mm_X2_headCharacter : Cond.instanceMethod yX2_headCharacter ∈ wsG ∧ Cond.selects yX2_headCharacter.cls yX2_headCharacter yX2_headCharacter ∈ wsG := ⟨mn_X2_headCharacter, mv_X2_headCharacter⟩
theorem mi_J0_charAt_5068e : MI yJ0_charAt_5068e cJ0_charAt_5068e 2 (some .char) 1 := ⟨mc_J0_charAt_5068e, mt_J0, ⟨by decide +kernel, by decide +kernel, by decide +kernel⟩, by decide +kernel⟩
theorem mm_J0_charAt_5068e : Cond.instanceMethod yJ0_charAt_5068e ∈ wsG ∧ Cond.selects yJ0_charAt_5068e.cls yJ0_charAt_5068e yJ0_charAt_5068e ∈ wsG := ⟨mn_J0_charAt_5068e, mv_J0_charAt_5068e⟩
theorem mi_J0_isLatin1_aae02 : MI yJ0_isLatin1_aae02 cJ0_isLatin1_aae02 1 (some .boolean) 0 := ⟨mc_J0_isLatin1_aae02, mt_J0, ⟨by decide +kernel, by decide +kernel, by decide +kernel⟩, by decide +kernel⟩
theorem mm_J0_isLatin1_aae02 : Cond.instanceMethod yJ0_isLatin1_aae02 ∈ wsG ∧ Cond.selects yJ0_isLatin1_aae02.cls yJ0_isLatin1_aae02 yJ0_isLatin1_aae02 ∈ wsG := ⟨mn_J0_isLatin1_aae02, mv_J0_isLatin1_aae02⟩
theorem mi_J1_charAt_3b067 : MI yJ1_charAt_3b067 cJ1_charAt_3b067 2 (some .char) 2 := ⟨mc_J1_charAt_3b067, mt_J1, ⟨by decide +kernel, by decide +kernel, by decide +kernel⟩, by decide +kernel⟩
theorem mi_J0_checkIndex_df160 : MI yJ0_checkIndex_df160 cJ0_checkIndex_df160 2 none 2 := ⟨mc_J0_checkIndex_df160, mt_J0, ⟨by decide +kernel, by decide +kernel, by decide +kernel⟩, by decide +kernel⟩
theorem mi_J3_checkIndex_8e157 : MI yJ3_checkIndex_8e157 cJ3_checkIndex_8e157 3 (some .int) 3 := ⟨mc_J3_checkIndex_8e157, mt_J3, ⟨by decide +kernel, by decide +kernel, by decide +kernel⟩, by decide +kernel⟩
theorem mi_J2_charAt_3b067 : MI yJ2_charAt_3b067 cJ2_charAt_3b067 2 (some .char) 2 := ⟨mc_J2_charAt_3b067, mt_J2, ⟨by decide +kernel, by decide +kernel, by decide +kernel⟩, by decide +kernel⟩
theorem mi_J2_checkIndex_2214a : MI yJ2_checkIndex_2214a cJ2_checkIndex_2214a 2 none 2 := ⟨mc_J2_checkIndex_2214a, mt_J2, ⟨by decide +kernel, by decide +kernel, by decide +kernel⟩, by decide +kernel⟩
theorem mi_J2_length_9d52b : MI yJ2_length_9d52b cJ2_length_9d52b 1 (some .int) 1 := ⟨mc_J2_length_9d52b, mt_J2, ⟨by decide +kernel, by decide +kernel, by decide +kernel⟩, by decide +kernel⟩
theorem mi_J2_getChar_3b067 : MI yJ2_getChar_3b067 cJ2_getChar_3b067 2 (some .char) 2 := ⟨mc_J2_getChar_3b067, mt_J2, ⟨by decide +kernel, by decide +kernel, by decide +kernel⟩, by decide +kernel⟩
theorem mi_X2_letterOf : MI yX2_letterOf cX2_letterOf 1 (some .int) 1 := ⟨mc_X2_letterOf, mt_X2, ⟨by decide +kernel, by decide +kernel, by decide +kernel⟩, by decide +kernel⟩
theorem mi_X4_textAt : MI yX4_textAt cX4_textAt 7 (some .int) 2 := ⟨mc_X4_textAt, mt_X4, ⟨by decide +kernel, by decide +kernel, by decide +kernel⟩, by decide +kernel⟩
theorem mm_X4_textAt : Cond.instanceMethod yX4_textAt ∈ wsG ∧ Cond.selects yX4_textAt.cls yX4_textAt yX4_textAt ∈ wsG := ⟨mn_X4_textAt, mv_X4_textAt⟩
theorem mi_X4_head : MI yX4_head cX4_head 3 (some .int) 2 := ⟨mc_X4_head, mt_X4, ⟨by decide +kernel, by decide +kernel, by decide +kernel⟩, by decide +kernel⟩
theorem mm_X4_head : Cond.instanceMethod yX4_head ∈ wsG ∧ Cond.selects yX4_head.cls yX4_head yX4_head ∈ wsG := ⟨mn_X4_head, mv_X4_head⟩
theorem mi_X4_sign : MI yX4_sign cX4_sign 1 (some .int) 1 := ⟨mc_X4_sign, mt_X4, ⟨by decide +kernel, by decide +kernel, by decide +kernel⟩, by decide +kernel⟩
theorem mi_X3_moveCount : MI yX3_moveCount cX3_moveCount 2 (some .int) 1 := ⟨mc_X3_moveCount, mt_X3, ⟨by decide +kernel, by decide +kernel, by decide +kernel⟩, by decide +kernel⟩
theorem mm_X3_moveCount : Cond.instanceMethod yX3_moveCount ∈ wsG ∧ Cond.selects yX3_moveCount.cls yX3_moveCount yX3_moveCount ∈ wsG := ⟨mn_X3_moveCount, mv_X3_moveCount⟩
theorem mi_X2_isClosed : MI yX2_isClosed cX2_isClosed 2 (some .boolean) 1 := ⟨mc_X2_isClosed, mt_X2, ⟨by decide +kernel, by decide +kernel, by decide +kernel⟩, by decide +kernel⟩
theorem mm_X2_isClosed : Cond.instanceMethod yX2_isClosed ∈ wsG ∧ Cond.selects yX2_isClosed.cls yX2_isClosed yX2_isClosed ∈ wsG := ⟨mn_X2_isClosed, mv_X2_isClosed⟩
theorem mi_X2_movesOf : MI yX2_movesOf cX2_movesOf 4 (some .int) 1 := ⟨mc_X2_movesOf, mt_X2, ⟨by decide +kernel, by decide +kernel, by decide +kernel⟩, by decide +kernel⟩
theorem mm_X2_movesOf : Cond.instanceMethod yX2_movesOf ∈ wsG ∧ Cond.selects yX2_movesOf.cls yX2_movesOf yX2_movesOf ∈ wsG := ⟨mn_X2_movesOf, mv_X2_movesOf⟩
theorem mi_X2_actionIn : MI yX2_actionIn cX2_actionIn 5 (some .int) 3 := ⟨mc_X2_actionIn, mt_X2, ⟨by decide +kernel, by decide +kernel, by decide +kernel⟩, by decide +kernel⟩
theorem mm_X2_actionIn : Cond.instanceMethod yX2_actionIn ∈ wsG ∧ Cond.selects yX2_actionIn.cls yX2_actionIn yX2_actionIn ∈ wsG := ⟨mn_X2_actionIn, mv_X2_actionIn⟩
theorem mi_X2_isOpen : MI yX2_isOpen cX2_isOpen 6 (some .boolean) 2 := ⟨mc_X2_isOpen, mt_X2, ⟨by decide +kernel, by decide +kernel, by decide +kernel⟩, by decide +kernel⟩
theorem mi_X1_areEqual : MI yX1_areEqual cX1_areEqual 3 (some .boolean) 3 := ⟨mc_X1_areEqual, mt_X1, ⟨by decide +kernel, by decide +kernel, by decide +kernel⟩, by decide +kernel⟩
theorem mi_X1_valueOf : MI yX1_valueOf cX1_valueOf 2 (some .int) 2 := ⟨mc_X1_valueOf, mt_X1, ⟨by decide +kernel, by decide +kernel, by decide +kernel⟩, by decide +kernel⟩
theorem mi_X4_moveCount : MI yX4_moveCount cX4_moveCount 3 (some .int) 1 := ⟨mc_X4_moveCount, mt_X4, ⟨by decide +kernel, by decide +kernel, by decide +kernel⟩, by decide +kernel⟩
theorem mm_X4_moveCount : Cond.instanceMethod yX4_moveCount ∈ wsG ∧ Cond.selects yX4_moveCount.cls yX4_moveCount yX4_moveCount ∈ wsG := ⟨mn_X4_moveCount, mv_X4_moveCount⟩
theorem mi_X4_errorOf : MI yX4_errorOf cX4_errorOf 3 (some .int) 2 := ⟨mc_X4_errorOf, mt_X4, ⟨by decide +kernel, by decide +kernel, by decide +kernel⟩, by decide +kernel⟩
theorem mm_X4_errorOf : Cond.instanceMethod yX4_errorOf ∈ wsG ∧ Cond.selects yX4_errorOf.cls yX4_errorOf yX4_errorOf ∈ wsG := ⟨mn_X4_errorOf, mv_X4_errorOf⟩
theorem mi_X4_lists : MI yX4_lists cX4_lists 9 none 3 := ⟨mc_X4_lists, mt_X4, ⟨by decide +kernel, by decide +kernel, by decide +kernel⟩, by decide +kernel⟩
theorem mm_X4_lists : Cond.instanceMethod yX4_lists ∈ wsG ∧ Cond.selects yX4_lists.cls yX4_lists yX4_lists ∈ wsG := ⟨mn_X4_lists, mv_X4_lists⟩
theorem mi_X4_valueOf : MI yX4_valueOf cX4_valueOf 4 (some .int) 2 := ⟨mc_X4_valueOf, mt_X4, ⟨by decide +kernel, by decide +kernel, by decide +kernel⟩, by decide +kernel⟩
theorem mi_X3_moveKind : MI yX3_moveKind cX3_moveKind 4 (some .int) 2 := ⟨mc_X3_moveKind, mt_X3, ⟨by decide +kernel, by decide +kernel, by decide +kernel⟩, by decide +kernel⟩
theorem mm_X3_moveKind : Cond.instanceMethod yX3_moveKind ∈ wsG ∧ Cond.selects yX3_moveKind.cls yX3_moveKind yX3_moveKind ∈ wsG := ⟨mn_X3_moveKind, mv_X3_moveKind⟩
theorem mi_X3_actionOrError : MI yX3_actionOrError cX3_actionOrError 3 (some .int) 2 := ⟨mc_X3_actionOrError, mt_X3, ⟨by decide +kernel, by decide +kernel, by decide +kernel⟩, by decide +kernel⟩
theorem mm_X3_actionOrError : Cond.instanceMethod yX3_actionOrError ∈ wsG ∧ Cond.selects yX3_actionOrError.cls yX3_actionOrError yX3_actionOrError ∈ wsG := ⟨mn_X3_actionOrError, mv_X3_actionOrError⟩
theorem mi_X2_actionOf : MI yX2_actionOf cX2_actionOf 6 (some .int) 2 := ⟨mc_X2_actionOf, mt_X2, ⟨by decide +kernel, by decide +kernel, by decide +kernel⟩, by decide +kernel⟩
theorem mm_X2_actionOf : Cond.instanceMethod yX2_actionOf ∈ wsG ∧ Cond.selects yX2_actionOf.cls yX2_actionOf yX2_actionOf ∈ wsG := ⟨mn_X2_actionOf, mv_X2_actionOf⟩
theorem mi_X4_moveKind : MI yX4_moveKind cX4_moveKind 4 (some .int) 2 := ⟨mc_X4_moveKind, mt_X4, ⟨by decide +kernel, by decide +kernel, by decide +kernel⟩, by decide +kernel⟩
theorem mm_X4_moveKind : Cond.instanceMethod yX4_moveKind ∈ wsG ∧ Cond.selects yX4_moveKind.cls yX4_moveKind yX4_moveKind ∈ wsG := ⟨mn_X4_moveKind, mv_X4_moveKind⟩
theorem mi_X4_moveError : MI yX4_moveError cX4_moveError 4 (some .int) 2 := ⟨mc_X4_moveError, mt_X4, ⟨by decide +kernel, by decide +kernel, by decide +kernel⟩, by decide +kernel⟩
theorem mm_X4_moveError : Cond.instanceMethod yX4_moveError ∈ wsG ∧ Cond.selects yX4_moveError.cls yX4_moveError yX4_moveError ∈ wsG := ⟨mn_X4_moveError, mv_X4_moveError⟩
theorem mi_X3_moveNames : MI yX3_moveNames cX3_moveNames 7 (some .int) 2 := ⟨mc_X3_moveNames, mt_X3, ⟨by decide +kernel, by decide +kernel, by decide +kernel⟩, by decide +kernel⟩
theorem mm_X3_moveNames : Cond.instanceMethod yX3_moveNames ∈ wsG ∧ Cond.selects yX3_moveNames.cls yX3_moveNames yX3_moveNames ∈ wsG := ⟨mn_X3_moveNames, mv_X3_moveNames⟩
theorem mi_X4_moveNames : MI yX4_moveNames cX4_moveNames 4 (some .int) 2 := ⟨mc_X4_moveNames, mt_X4, ⟨by decide +kernel, by decide +kernel, by decide +kernel⟩, by decide +kernel⟩
theorem mm_X4_moveNames : Cond.instanceMethod yX4_moveNames ∈ wsG ∧ Cond.selects yX4_moveNames.cls yX4_moveNames yX4_moveNames ∈ wsG := ⟨mn_X4_moveNames, mv_X4_moveNames⟩
theorem mi_X3_moveTarget : MI yX3_moveTarget cX3_moveTarget 4 (some .int) 2 := ⟨mc_X3_moveTarget, mt_X3, ⟨by decide +kernel, by decide +kernel, by decide +kernel⟩, by decide +kernel⟩
theorem mm_X3_moveTarget : Cond.instanceMethod yX3_moveTarget ∈ wsG ∧ Cond.selects yX3_moveTarget.cls yX3_moveTarget yX3_moveTarget ∈ wsG := ⟨mn_X3_moveTarget, mv_X3_moveTarget⟩
theorem mi_X4_moveTarget : MI yX4_moveTarget cX4_moveTarget 4 (some .int) 2 := ⟨mc_X4_moveTarget, mt_X4, ⟨by decide +kernel, by decide +kernel, by decide +kernel⟩, by decide +kernel⟩
theorem mm_X4_moveTarget : Cond.instanceMethod yX4_moveTarget ∈ wsG ∧ Cond.selects yX4_moveTarget.cls yX4_moveTarget yX4_moveTarget ∈ wsG := ⟨mn_X4_moveTarget, mv_X4_moveTarget⟩
theorem mi_X3_areRelated : MI yX3_areRelated cX3_areRelated 5 (some .int) 3 := ⟨mc_X3_areRelated, mt_X3, ⟨by decide +kernel, by decide +kernel, by decide +kernel⟩, by decide +kernel⟩
theorem mm_X3_areRelated : Cond.instanceMethod yX3_areRelated ∈ wsG ∧ Cond.selects yX3_areRelated.cls yX3_areRelated yX3_areRelated ∈ wsG := ⟨mn_X3_areRelated, mv_X3_areRelated⟩
theorem mi_X3_errorOfPair : MI yX3_errorOfPair cX3_errorOfPair 4 (some .int) 3 := ⟨mc_X3_errorOfPair, mt_X3, ⟨by decide +kernel, by decide +kernel, by decide +kernel⟩, by decide +kernel⟩
theorem mm_X3_errorOfPair : Cond.instanceMethod yX3_errorOfPair ∈ wsG ∧ Cond.selects yX3_errorOfPair.cls yX3_errorOfPair yX3_errorOfPair ∈ wsG := ⟨mn_X3_errorOfPair, mv_X3_errorOfPair⟩
theorem mi_X3_isRelation : MI yX3_isRelation cX3_isRelation 1 (some .boolean) 1 := ⟨mc_X3_isRelation, mt_X3, ⟨by decide +kernel, by decide +kernel, by decide +kernel⟩, by decide +kernel⟩
theorem mi_X0_roundsOf : MI yX0_roundsOf cX0_roundsOf 5 (some .int) 3 := ⟨mc_X0_roundsOf, mt_X0, ⟨by decide +kernel, by decide +kernel, by decide +kernel⟩, by decide +kernel⟩
theorem mm_X0_roundsOf : Cond.instanceMethod yX0_roundsOf ∈ wsG ∧ Cond.selects yX0_roundsOf.cls yX0_roundsOf yX0_roundsOf ∈ wsG := ⟨mn_X0_roundsOf, mv_X0_roundsOf⟩
theorem mi_X0_worth : MI yX0_worth cX0_worth 11 (some .int) 5 := ⟨mc_X0_worth, mt_X0, ⟨by decide +kernel, by decide +kernel, by decide +kernel⟩, by decide +kernel⟩
theorem mm_X0_worth : Cond.instanceMethod yX0_worth ∈ wsG ∧ Cond.selects yX0_worth.cls yX0_worth yX0_worth ∈ wsG := ⟨mn_X0_worth, mv_X0_worth⟩
theorem mi_X0_placeOf : MI yX0_placeOf cX0_placeOf 6 (some .int) 4 := ⟨mc_X0_placeOf, mt_X0, ⟨by decide +kernel, by decide +kernel, by decide +kernel⟩, by decide +kernel⟩
theorem mi_X0_viewOf : MI yX0_viewOf cX0_viewOf 3 (some .int) 1 := ⟨mc_X0_viewOf, mt_X0, ⟨by decide +kernel, by decide +kernel, by decide +kernel⟩, by decide +kernel⟩
theorem mi_X1_with : MI yX1_with cX1_with 2 (some .int) 2 := ⟨mc_X1_with, mt_X1, ⟨by decide +kernel, by decide +kernel, by decide +kernel⟩, by decide +kernel⟩
theorem mi_X0_answerWorth : MI yX0_answerWorth cX0_answerWorth 15 (some .int) 6 := ⟨mc_X0_answerWorth, mt_X0, ⟨by decide +kernel, by decide +kernel, by decide +kernel⟩, by decide +kernel⟩
theorem mm_X0_answerWorth : Cond.instanceMethod yX0_answerWorth ∈ wsG ∧ Cond.selects yX0_answerWorth.cls yX0_answerWorth yX0_answerWorth ∈ wsG := ⟨mn_X0_answerWorth, mv_X0_answerWorth⟩
theorem mi_X1_nextFresh : MI yX1_nextFresh cX1_nextFresh 3 (some .int) 1 := ⟨mc_X1_nextFresh, mt_X1, ⟨by decide +kernel, by decide +kernel, by decide +kernel⟩, by decide +kernel⟩
theorem mi_X0_attackWorth : MI yX0_attackWorth cX0_attackWorth 11 (some .int) 6 := ⟨mc_X0_attackWorth, mt_X0, ⟨by decide +kernel, by decide +kernel, by decide +kernel⟩, by decide +kernel⟩
theorem mm_X0_attackWorth : Cond.instanceMethod yX0_attackWorth ∈ wsG ∧ Cond.selects yX0_attackWorth.cls yX0_attackWorth yX0_attackWorth ∈ wsG := ⟨mn_X0_attackWorth, mv_X0_attackWorth⟩
theorem mi_X0_agree : MI yX0_agree cX0_agree 6 (some .boolean) 3 := ⟨mc_X0_agree, mt_X0, ⟨by decide +kernel, by decide +kernel, by decide +kernel⟩, by decide +kernel⟩
theorem mm_X0_agree : Cond.instanceMethod yX0_agree ∈ wsG ∧ Cond.selects yX0_agree.cls yX0_agree yX0_agree ∈ wsG := ⟨mn_X0_agree, mv_X0_agree⟩
theorem mi_X0_sideWorth : MI yX0_sideWorth cX0_sideWorth 12 (some .int) 5 := ⟨mc_X0_sideWorth, mt_X0, ⟨by decide +kernel, by decide +kernel, by decide +kernel⟩, by decide +kernel⟩
theorem mm_X0_sideWorth : Cond.instanceMethod yX0_sideWorth ∈ wsG ∧ Cond.selects yX0_sideWorth.cls yX0_sideWorth yX0_sideWorth ∈ wsG := ⟨mn_X0_sideWorth, mv_X0_sideWorth⟩
theorem mi_X0_lastChoice : MI yX0_lastChoice cX0_lastChoice 4 (some .int) 3 := ⟨mc_X0_lastChoice, mt_X0, ⟨by decide +kernel, by decide +kernel, by decide +kernel⟩, by decide +kernel⟩
theorem mm_X0_lastChoice : Cond.instanceMethod yX0_lastChoice ∈ wsG ∧ Cond.selects yX0_lastChoice.cls yX0_lastChoice yX0_lastChoice ∈ wsG := ⟨mn_X0_lastChoice, mv_X0_lastChoice⟩
theorem mi_X0_isChosenWith : MI yX0_isChosenWith cX0_isChosenWith 3 (some .boolean) 2 := ⟨mc_X0_isChosenWith, mt_X0, ⟨by decide +kernel, by decide +kernel, by decide +kernel⟩, by decide +kernel⟩
theorem mm_X0_isChosenWith : Cond.instanceMethod yX0_isChosenWith ∈ wsG ∧ Cond.selects yX0_isChosenWith.cls yX0_isChosenWith yX0_isChosenWith ∈ wsG := ⟨mn_X0_isChosenWith, mv_X0_isChosenWith⟩
theorem mi_X0_firstChoice : MI yX0_firstChoice cX0_firstChoice 3 (some .int) 2 := ⟨mc_X0_firstChoice, mt_X0, ⟨by decide +kernel, by decide +kernel, by decide +kernel⟩, by decide +kernel⟩
theorem mm_X0_firstChoice : Cond.instanceMethod yX0_firstChoice ∈ wsG ∧ Cond.selects yX0_firstChoice.cls yX0_firstChoice yX0_firstChoice ∈ wsG := ⟨mn_X0_firstChoice, mv_X0_firstChoice⟩
theorem mi_X4_areRelated : MI yX4_areRelated cX4_areRelated 5 (some .int) 3 := ⟨mc_X4_areRelated, mt_X4, ⟨by decide +kernel, by decide +kernel, by decide +kernel⟩, by decide +kernel⟩
theorem mm_X4_areRelated : Cond.instanceMethod yX4_areRelated ∈ wsG ∧ Cond.selects yX4_areRelated.cls yX4_areRelated yX4_areRelated ∈ wsG := ⟨mn_X4_areRelated, mv_X4_areRelated⟩
theorem mi_X4_pairError : MI yX4_pairError cX4_pairError 4 (some .int) 3 := ⟨mc_X4_pairError, mt_X4, ⟨by decide +kernel, by decide +kernel, by decide +kernel⟩, by decide +kernel⟩
theorem mm_X4_pairError : Cond.instanceMethod yX4_pairError ∈ wsG ∧ Cond.selects yX4_pairError.cls yX4_pairError yX4_pairError ∈ wsG := ⟨mn_X4_pairError, mv_X4_pairError⟩
theorem mi_X4_separated : MI yX4_separated cX4_separated 4 (some .int) 2 := ⟨mc_X4_separated, mt_X4, ⟨by decide +kernel, by decide +kernel, by decide +kernel⟩, by decide +kernel⟩
theorem mm_X4_separated : Cond.instanceMethod yX4_separated ∈ wsG ∧ Cond.selects yX4_separated.cls yX4_separated yX4_separated ∈ wsG := ⟨mn_X4_separated, mv_X4_separated⟩
theorem mi_X4_starts : MI yX4_starts cX4_starts 4 none 3 := ⟨mc_X4_starts, mt_X4, ⟨by decide +kernel, by decide +kernel, by decide +kernel⟩, by decide +kernel⟩
theorem mm_X4_starts : Cond.instanceMethod yX4_starts ∈ wsG ∧ Cond.selects yX4_starts.cls yX4_starts yX4_starts ∈ wsG := ⟨mn_X4_starts, mv_X4_starts⟩
theorem mi_X4_wins : MI yX4_wins cX4_wins 2 (some .boolean) 1 := ⟨mc_X4_wins, mt_X4, ⟨by decide +kernel, by decide +kernel, by decide +kernel⟩, by decide +kernel⟩
theorem mm_X4_wins : Cond.instanceMethod yX4_wins ∈ wsG ∧ Cond.selects yX4_wins.cls yX4_wins yX4_wins ∈ wsG := ⟨mn_X4_wins, mv_X4_wins⟩
theorem mi_X4_wins1 : MI yX4_wins1 cX4_wins1 4 (some .boolean) 0 := ⟨mc_X4_wins1, mt_X4, ⟨by decide +kernel, by decide +kernel, by decide +kernel⟩, by decide +kernel⟩
theorem mm_X4_wins1 : Cond.instanceMethod yX4_wins1 ∈ wsG ∧ Cond.selects yX4_wins1.cls yX4_wins1 yX4_wins1 ∈ wsG := ⟨mn_X4_wins1, mv_X4_wins1⟩
theorem mi_X4_lowest : MI yX4_lowest cX4_lowest 4 (some .int) 3 := ⟨mc_X4_lowest, mt_X4, ⟨by decide +kernel, by decide +kernel, by decide +kernel⟩, by decide +kernel⟩
theorem mm_X4_lowest : Cond.instanceMethod yX4_lowest ∈ wsG ∧ Cond.selects yX4_lowest.cls yX4_lowest yX4_lowest ∈ wsG := ⟨mn_X4_lowest, mv_X4_lowest⟩
theorem mi_X4_highest : MI yX4_highest cX4_highest 5 (some .int) 3 := ⟨mc_X4_highest, mt_X4, ⟨by decide +kernel, by decide +kernel, by decide +kernel⟩, by decide +kernel⟩
theorem mm_X4_highest : Cond.instanceMethod yX4_highest ∈ wsG ∧ Cond.selects yX4_highest.cls yX4_highest yX4_highest ∈ wsG := ⟨mn_X4_highest, mv_X4_highest⟩
theorem mi_X4_holds1 : MI yX4_holds1 cX4_holds1 6 (some .boolean) 3 := ⟨mc_X4_holds1, mt_X4, ⟨by decide +kernel, by decide +kernel, by decide +kernel⟩, by decide +kernel⟩
theorem mm_X4_holds1 : Cond.instanceMethod yX4_holds1 ∈ wsG ∧ Cond.selects yX4_holds1.cls yX4_holds1 yX4_holds1 ∈ wsG := ⟨mn_X4_holds1, mv_X4_holds1⟩
theorem mi_X4_answers : MI yX4_answers cX4_answers 8 (some .boolean) 4 := ⟨mc_X4_answers, mt_X4, ⟨by decide +kernel, by decide +kernel, by decide +kernel⟩, by decide +kernel⟩
theorem mm_X4_answers : Cond.instanceMethod yX4_answers ∈ wsG ∧ Cond.selects yX4_answers.cls yX4_answers yX4_answers ∈ wsG := ⟨mn_X4_answers, mv_X4_answers⟩
theorem mi_X4_wins2 : MI yX4_wins2 cX4_wins2 4 (some .boolean) 0 := ⟨mc_X4_wins2, mt_X4, ⟨by decide +kernel, by decide +kernel, by decide +kernel⟩, by decide +kernel⟩
theorem mm_X4_wins2 : Cond.instanceMethod yX4_wins2 ∈ wsG ∧ Cond.selects yX4_wins2.cls yX4_wins2 yX4_wins2 ∈ wsG := ⟨mn_X4_wins2, mv_X4_wins2⟩
theorem mi_X4_holds2 : MI yX4_holds2 cX4_holds2 6 (some .boolean) 3 := ⟨mc_X4_holds2, mt_X4, ⟨by decide +kernel, by decide +kernel, by decide +kernel⟩, by decide +kernel⟩
theorem mm_X4_holds2 : Cond.instanceMethod yX4_holds2 ∈ wsG ∧ Cond.selects yX4_holds2.cls yX4_holds2 yX4_holds2 ∈ wsG := ⟨mn_X4_holds2, mv_X4_holds2⟩
theorem mi_X4_follows2 : MI yX4_follows2 cX4_follows2 6 (some .boolean) 4 := ⟨mc_X4_follows2, mt_X4, ⟨by decide +kernel, by decide +kernel, by decide +kernel⟩, by decide +kernel⟩
theorem mm_X4_follows2 : Cond.instanceMethod yX4_follows2 ∈ wsG ∧ Cond.selects yX4_follows2.cls yX4_follows2 yX4_follows2 ∈ wsG := ⟨mn_X4_follows2, mv_X4_follows2⟩
theorem mi_X4_next : MI yX4_next cX4_next 10 none 5 := ⟨mc_X4_next, mt_X4, ⟨by decide +kernel, by decide +kernel, by decide +kernel⟩, by decide +kernel⟩
theorem mm_X4_next : Cond.instanceMethod yX4_next ∈ wsG ∧ Cond.selects yX4_next.cls yX4_next yX4_next ∈ wsG := ⟨mn_X4_next, mv_X4_next⟩
theorem mi_X4_wins3 : MI yX4_wins3 cX4_wins3 4 (some .boolean) 0 := ⟨mc_X4_wins3, mt_X4, ⟨by decide +kernel, by decide +kernel, by decide +kernel⟩, by decide +kernel⟩
theorem mm_X4_wins3 : Cond.instanceMethod yX4_wins3 ∈ wsG ∧ Cond.selects yX4_wins3.cls yX4_wins3 yX4_wins3 ∈ wsG := ⟨mn_X4_wins3, mv_X4_wins3⟩
theorem mi_X4_holds3 : MI yX4_holds3 cX4_holds3 6 (some .boolean) 3 := ⟨mc_X4_holds3, mt_X4, ⟨by decide +kernel, by decide +kernel, by decide +kernel⟩, by decide +kernel⟩
theorem mm_X4_holds3 : Cond.instanceMethod yX4_holds3 ∈ wsG ∧ Cond.selects yX4_holds3.cls yX4_holds3 yX4_holds3 ∈ wsG := ⟨mn_X4_holds3, mv_X4_holds3⟩
theorem mi_X4_follows3 : MI yX4_follows3 cX4_follows3 6 (some .boolean) 4 := ⟨mc_X4_follows3, mt_X4, ⟨by decide +kernel, by decide +kernel, by decide +kernel⟩, by decide +kernel⟩
theorem mm_X4_follows3 : Cond.instanceMethod yX4_follows3 ∈ wsG ∧ Cond.selects yX4_follows3.cls yX4_follows3 yX4_follows3 ∈ wsG := ⟨mn_X4_follows3, mv_X4_follows3⟩
theorem mi_X3_rounds : MI yX3_rounds cX3_rounds 5 (some .int) 3 := ⟨mc_X3_rounds, mt_X3, ⟨by decide +kernel, by decide +kernel, by decide +kernel⟩, by decide +kernel⟩
theorem mm_X3_rounds : Cond.instanceMethod yX3_rounds ∈ wsG ∧ Cond.selects yX3_rounds.cls yX3_rounds yX3_rounds ∈ wsG := ⟨mn_X3_rounds, mv_X3_rounds⟩
theorem mi_X4_rounds : MI yX4_rounds cX4_rounds 6 (some .int) 3 := ⟨mc_X4_rounds, mt_X4, ⟨by decide +kernel, by decide +kernel, by decide +kernel⟩, by decide +kernel⟩
theorem mm_X4_rounds : Cond.instanceMethod yX4_rounds ∈ wsG ∧ Cond.selects yX4_rounds.cls yX4_rounds yX4_rounds ∈ wsG := ⟨mn_X4_rounds, mv_X4_rounds⟩
theorem mi_X3_firstAttack : MI yX3_firstAttack cX3_firstAttack 5 (some .int) 3 := ⟨mc_X3_firstAttack, mt_X3, ⟨by decide +kernel, by decide +kernel, by decide +kernel⟩, by decide +kernel⟩
theorem mm_X3_firstAttack : Cond.instanceMethod yX3_firstAttack ∈ wsG ∧ Cond.selects yX3_firstAttack.cls yX3_firstAttack yX3_firstAttack ∈ wsG := ⟨mn_X3_firstAttack, mv_X3_firstAttack⟩
theorem mi_X0_attackOf : MI yX0_attackOf cX0_attackOf 7 (some .int) 3 := ⟨mc_X0_attackOf, mt_X0, ⟨by decide +kernel, by decide +kernel, by decide +kernel⟩, by decide +kernel⟩
theorem mm_X0_attackOf : Cond.instanceMethod yX0_attackOf ∈ wsG ∧ Cond.selects yX0_attackOf.cls yX0_attackOf yX0_attackOf ∈ wsG := ⟨mn_X0_attackOf, mv_X0_attackOf⟩
theorem mi_X0_attackWith : MI yX0_attackWith cX0_attackWith 11 (some .int) 4 := ⟨mc_X0_attackWith, mt_X0, ⟨by decide +kernel, by decide +kernel, by decide +kernel⟩, by decide +kernel⟩
theorem mm_X0_attackWith : Cond.instanceMethod yX0_attackWith ∈ wsG ∧ Cond.selects yX0_attackWith.cls yX0_attackWith yX0_attackWith ∈ wsG := ⟨mn_X0_attackWith, mv_X0_attackWith⟩
theorem mi_X4_firstAttack : MI yX4_firstAttack cX4_firstAttack 9 (some .int) 3 := ⟨mc_X4_firstAttack, mt_X4, ⟨by decide +kernel, by decide +kernel, by decide +kernel⟩, by decide +kernel⟩
theorem mm_X4_firstAttack : Cond.instanceMethod yX4_firstAttack ∈ wsG ∧ Cond.selects yX4_firstAttack.cls yX4_firstAttack yX4_firstAttack ∈ wsG := ⟨mn_X4_firstAttack, mv_X4_firstAttack⟩
theorem mi_X4_holds : MI yX4_holds cX4_holds 5 (some .boolean) 4 := ⟨mc_X4_holds, mt_X4, ⟨by decide +kernel, by decide +kernel, by decide +kernel⟩, by decide +kernel⟩
theorem mm_X4_holds : Cond.instanceMethod yX4_holds ∈ wsG ∧ Cond.selects yX4_holds.cls yX4_holds yX4_holds ∈ wsG := ⟨mn_X4_holds, mv_X4_holds⟩
theorem mi_X3_representative : MI yX3_representative cX3_representative 4 (some .int) 2 := ⟨mc_X3_representative, mt_X3, ⟨by decide +kernel, by decide +kernel, by decide +kernel⟩, by decide +kernel⟩
theorem mm_X3_representative : Cond.instanceMethod yX3_representative ∈ wsG ∧ Cond.selects yX3_representative.cls yX3_representative yX3_representative ∈ wsG := ⟨mn_X3_representative, mv_X3_representative⟩
theorem mi_X3_lowestRelated : MI yX3_lowestRelated cX3_lowestRelated 4 (some .int) 2 := ⟨mc_X3_lowestRelated, mt_X3, ⟨by decide +kernel, by decide +kernel, by decide +kernel⟩, by decide +kernel⟩
theorem mm_X3_lowestRelated : Cond.instanceMethod yX3_lowestRelated ∈ wsG ∧ Cond.selects yX3_lowestRelated.cls yX3_lowestRelated yX3_lowestRelated ∈ wsG := ⟨mn_X3_lowestRelated, mv_X3_lowestRelated⟩
theorem mi_X4_representative : MI yX4_representative cX4_representative 4 (some .int) 2 := ⟨mc_X4_representative, mt_X4, ⟨by decide +kernel, by decide +kernel, by decide +kernel⟩, by decide +kernel⟩
theorem mm_X4_representative : Cond.instanceMethod yX4_representative ∈ wsG ∧ Cond.selects yX4_representative.cls yX4_representative yX4_representative ∈ wsG := ⟨mn_X4_representative, mv_X4_representative⟩
theorem mi_X4_least : MI yX4_least cX4_least 3 (some .int) 1 := ⟨mc_X4_least, mt_X4, ⟨by decide +kernel, by decide +kernel, by decide +kernel⟩, by decide +kernel⟩
theorem mm_X4_least : Cond.instanceMethod yX4_least ∈ wsG ∧ Cond.selects yX4_least.cls yX4_least yX4_least ∈ wsG := ⟨mn_X4_least, mv_X4_least⟩
theorem mi_X3_classCount : MI yX3_classCount cX3_classCount 4 (some .int) 1 := ⟨mc_X3_classCount, mt_X3, ⟨by decide +kernel, by decide +kernel, by decide +kernel⟩, by decide +kernel⟩
theorem mm_X3_classCount : Cond.instanceMethod yX3_classCount ∈ wsG ∧ Cond.selects yX3_classCount.cls yX3_classCount yX3_classCount ∈ wsG := ⟨mn_X3_classCount, mv_X3_classCount⟩
theorem mi_X4_classCount : MI yX4_classCount cX4_classCount 4 (some .int) 1 := ⟨mc_X4_classCount, mt_X4, ⟨by decide +kernel, by decide +kernel, by decide +kernel⟩, by decide +kernel⟩
theorem mm_X4_classCount : Cond.instanceMethod yX4_classCount ∈ wsG ∧ Cond.selects yX4_classCount.cls yX4_classCount yX4_classCount ∈ wsG := ⟨mn_X4_classCount, mv_X4_classCount⟩
end WORLD
