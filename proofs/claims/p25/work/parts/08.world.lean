section WORLD
abbrev Gm : Type := (Nat → Nat) × va_G × (ClassId × ClassId) × (Nat → Nat) × (Nat → Nat)
def lenS : Nat → Nat
  | 12 => 72
  | 14 => 4140
  | _ => 24
def isI (c : Nat) : Bool := (3 ≤ c && c ≤ 12) || c == 14 || (15 ≤ c && c ≤ 16)
def wS (cT : ClassId × ClassId) (α : Nat → Nat) (μ : Mem) : va_W := [
  (α 0, .inr (2, [.ref (α 1), .ref (α 2)])),
  (α 1, .inr (1, [.int (μ.1 1 0), .ref (α 3), .ref (α 4), .ref (α 5), .ref (α 6), .ref (α 7), .ref (α 8), .ref (α 9), .ref (α 10), .ref (α 11), .ref (α 12), .ref (α 13)])),
  (α 2, .inr (0, [.ref (α 1), .ref (α 14)])),
  (α 3, .inl (cT.1, 24, .inl (μ.1 3))),
  (α 4, .inl (cT.1, 24, .inl (μ.1 4))),
  (α 5, .inl (cT.1, 24, .inl (μ.1 5))),
  (α 6, .inl (cT.1, 24, .inl (μ.1 6))),
  (α 7, .inl (cT.1, 24, .inl (μ.1 7))),
  (α 8, .inl (cT.1, 24, .inl (μ.1 8))),
  (α 9, .inl (cT.1, 24, .inl (μ.1 9))),
  (α 10, .inl (cT.1, 24, .inl (μ.1 10))),
  (α 11, .inl (cT.1, 24, .inl (μ.1 11))),
  (α 12, .inl (cT.1, 72, .inl (μ.1 12))),
  (α 13, .inl (cT.2, 72, .inr (.inl μ.2))),
  (α 14, .inl (cT.1, 4140, .inl (μ.1 14))),
  (α 15, .inl (cT.1, 24, .inl (μ.1 15))),
  (α 16, .inl (cT.1, 24, .inl (μ.1 16)))]
def AS (α : Nat → Nat) : Nat → Prop := fun q => ∃ k, k < 17 ∧ q = α k
abbrev GS (g : Gm) : Geo := (wS g.2.2.1 g.1, AS g.1, g.2.1, g.2.2.1, g.2.2.2.1, g.2.2.2.2)
theorem isI_or {c : Nat} (h : isI c = true) : c = 3 ∨ c = 4 ∨ c = 5 ∨ c = 6 ∨ c = 7 ∨ c = 8 ∨ c = 9 ∨ c = 10 ∨ c = 11 ∨ c = 12 ∨ c = 14 ∨ c = 15 ∨ c = 16 := by
  simp only [isI, Bool.or_eq_true, Bool.and_eq_true, decide_eq_true_eq, beq_iff_eq] at h
  omega
theorem wS_int {g : Gm} {μ : Mem} {c : Nat} (h : isI c = true) : (gW (GS g) μ)[c]? = some (g.1 c, .inl ((GS g).2.2.2.1.1, lenS c, .inl (μ.1 c))) := by
  rcases isI_or h with rfl | rfl | rfl | rfl | rfl | rfl | rfl | rfl | rfl | rfl | rfl | rfl | rfl <;> rfl
theorem wS_set {g : Gm} {μ : Mem} {c i : Nat} {v : Int32} (h : isI c = true) : (gW (GS g) μ).set c (g.1 c, .inl ((GS g).2.2.2.1.1, lenS c, .inl (upd (μ.1 c) i v))) = gW (GS g) (wr μ c i v) := by
  rcases isI_or h with rfl | rfl | rfl | rfl | rfl | rfl | rfl | rfl | rfl | rfl | rfl | rfl | rfl <;> rfl
theorem wr_at (μ : Mem) (c i d j : Nat) (v : Int32) : (wr μ c i v).1 d j = if d = c ∧ j = i then v else μ.1 d j := by
  by_cases hd : d = c
  · subst hd
    by_cases hj : j = i
    · subst hj; simp [wr, upd]
    · simp [wr, upd, hj]
  · simp [wr, hd]
theorem wr_2 (μ : Mem) (c i : Nat) (v : Int32) : (wr μ c i v).2 = μ.2 := rfl
theorem wrL_1 (μ : Mem) (i : Nat) (v : Int64) : (wrL μ i v).1 = μ.1 := rfl
theorem wrL_at (μ : Mem) (i j : Nat) (v : Int64) : (wrL μ i v).2 j = if j = i then v else μ.2 j := rfl
/-- the answer is v, and nothing has changed -/
def Is (v : Value) (μ : Mem) : Option Value → Mem → Prop := fun r μ' => r = some v ∧ μ' = μ
def IsN (μ : Mem) : Option Value → Mem → Prop := fun r μ' => r = none ∧ μ' = μ
theorem rmR {dp dq : Nat} (h : dp + 1 ≤ dq) : dp + 1 ≤ (rmD dq).frames ∧ (dp + 1) * 40 ≤ (rmD dq).locals := ⟨h, Nat.mul_le_mul_right 40 h⟩
theorem rmM {dq q : Nat} (h : 1 ≤ dq) (hq : q ≤ 20) : 1 ≤ (rmD dq).frames ∧ q + 13 ≤ (rmD dq).locals := ⟨h, by show q + 13 ≤ dq * 40; omega⟩
section WROWS
variable {g : Gm} {G : Geo} {p : Program} {l : Launch} {e : Env} {R : Room} {s : State} {m : MethodId} {args : Array Value} {below : List Frame} {meth : Method} {c : Code} {k n : Nat} {Z : State → Prop} {own : String} {cc : ByteArray} {nL pc : Nat} {ret : Option FieldType} {lv : List (Option Value)} {st : List Value} {μ : Mem}

theorem V_ia (F : Fx (GS g) p R s m args meth c own cc nL ret k n) {q j : Nat} {x v : Int32} (d : decode cc pc = .ok (.iaload, 1)) (h : isI q = true) (hx : x = nI j) (hj : j < lenS q) (hv : μ.1 q j = v) (kk : V (GS g) p l e R s m args below meth c nL k n Z (pc + 1) lv (.int v :: st) μ) : V (GS g) p l e R s m args below meth c nL k n Z pc lv (.int x :: .ref (g.1 q) :: st) μ := by
  have hb : j < 2 ^ 31 := by
    have : lenS q ≤ 4140 := by unfold lenS; split <;> omega
    omega
  subst hx; subst hv
  refine V_iald F d (wS_int h) (vp_in_nI hj (by have : lenS q ≤ 4140 := by { unfold lenS; split <;> omega }; omega)) ?_
  have e1 : (nI j).toNatClampNeg = j := nI_clamp hb
  rw [e1]
  exact kk
theorem V_ias (F : Fx (GS g) p R s m args meth c own cc nL ret k n) {q j : Nat} {x v : Int32} (d : decode cc pc = .ok (.iastore, 1)) (h : isI q = true) (hx : x = nI j) (hj : j < lenS q) (kk : V (GS g) p l e R s m args below meth c nL k n Z (pc + 1) lv st (wr μ q j v)) : V (GS g) p l e R s m args below meth c nL k n Z pc lv (.int v :: .int x :: .ref (g.1 q) :: st) μ := by
  have hb : j < 2 ^ 31 := by
    have : lenS q ≤ 4140 := by unfold lenS; split <;> omega
    omega
  subst hx
  have e1 : (nI j).toNatClampNeg = j := nI_clamp hb
  refine V_iast F d (wS_int h) (vp_in_nI hj (by have : lenS q ≤ 4140 := by { unfold lenS; split <;> omega }; omega)) (wS_set h) ?_
  rw [e1]
  exact kk
theorem V_iaddN (F : Fx G p R s m args meth c own cc nL ret k n) {x y : Nat} (d : decode cc pc = .ok (.iadd, 1)) (kk : V G p l e R s m args below meth c nL k n Z (pc + 1) lv (.int (nI (x + y)) :: st) μ) : V G p l e R s m args below meth c nL k n Z pc lv (.int (nI y) :: .int (nI x) :: st) μ := V_iadd F d (by rw [nI_add]; exact kk)
theorem V_imulN (F : Fx G p R s m args meth c own cc nL ret k n) {x y : Nat} (d : decode cc pc = .ok (.imul, 1)) (kk : V G p l e R s m args below meth c nL k n Z (pc + 1) lv (.int (nI (x * y)) :: st) μ) : V G p l e R s m args below meth c nL k n Z pc lv (.int (nI y) :: .int (nI x) :: st) μ := V_imul F d (by rw [show nI x * nI y = nI (x * y) from (Int32.ofNat_mul x y).symm]; exact kk)
theorem V_valL (F : Fx G p R s m args meth c own cc nL ret k n) {u v : Int64} (h : u = v) (kk : V G p l e R s m args below meth c nL k n Z pc lv (.long v :: st) μ) : V G p l e R s m args below meth c nL k n Z pc lv (.long u :: st) μ := h ▸ kk
theorem V_val (F : Fx G p R s m args meth c own cc nL ret k n) {u v : Int32} (h : u = v) (kk : V G p l e R s m args below meth c nL k n Z pc lv (.int v :: st) μ) : V G p l e R s m args below meth c nL k n Z pc lv (.int u :: st) μ := h ▸ kk

theorem V_callSi (F : Fx G p R s m args meth c own cc nL ret k n) {y : MethodName} {b : ByteArray} {nLc dp index j : Nat} {retc : Option FieldType} {As : List Value} {v : Value} (hC : Ct G l dp y b nLc retc As μ (Is v μ)) (hM : MI y b nLc retc j) (hs : Cond.static y ∈ wsG) (hlink : Cond.methodLink own index y ∈ wsG) (d : decode cc pc = .ok (.invokestatic index, 3)) (hR : dp + 1 ≤ R.frames ∧ (dp + 1) * 40 ≤ R.locals) {st0 : List Value} (hst : st0 = As.reverse ++ st) (hn : As.length = j) (hnl : nLc ≤ 21) (hw : (st.map fun v => v.category).sum ≤ 8) (kk : V G p l e R s m args below meth c nL k n Z (pc + 3) lv (v :: st) μ) : V G p l e R s m args below meth c nL k n Z pc lv st0 μ :=
  V_callS F hC hM hs hlink d hR hst hn hnl hw (fun r μ' h => by obtain ⟨rfl, rfl⟩ := h; exact kk)
theorem V_callS0 (F : Fx G p R s m args meth c own cc nL ret k n) {y : MethodName} {b : ByteArray} {nLc dp index j : Nat} {retc : Option FieldType} {As : List Value} {ν : Mem} (hC : Ct G l dp y b nLc retc As μ (IsN ν)) (hM : MI y b nLc retc j) (hs : Cond.static y ∈ wsG) (hlink : Cond.methodLink own index y ∈ wsG) (d : decode cc pc = .ok (.invokestatic index, 3)) (hR : dp + 1 ≤ R.frames ∧ (dp + 1) * 40 ≤ R.locals) {st0 : List Value} (hst : st0 = As.reverse ++ st) (hn : As.length = j) (hnl : nLc ≤ 21) (hw : (st.map fun v => v.category).sum ≤ 8) (kk : V G p l e R s m args below meth c nL k n Z (pc + 3) lv (st) ν) : V G p l e R s m args below meth c nL k n Z pc lv st0 μ :=
  V_callS F hC hM hs hlink d hR hst hn hnl hw (fun r μ' h => by obtain ⟨rfl, rfl⟩ := h; exact kk)
theorem V_callSNi (F : Fx G p R s m args meth c own cc nL ret k n) {y : MethodName} {b : ByteArray} {nLc dp index j : Nat} {retc : Option FieldType} {As : List Value} {v : Value} (hC : Ct G l dp y b nLc retc As μ (Is v μ)) (hM : MI y b nLc retc j) {host : String} (hs : Cond.static y ∈ wsG) (hlink : Cond.methodLinkNest own index y host ∈ nestW) (d : decode cc pc = .ok (.invokestatic index, 3)) (hR : dp + 1 ≤ R.frames ∧ (dp + 1) * 40 ≤ R.locals) {st0 : List Value} (hst : st0 = As.reverse ++ st) (hn : As.length = j) (hnl : nLc ≤ 21) (hw : (st.map fun v => v.category).sum ≤ 8) (kk : V G p l e R s m args below meth c nL k n Z (pc + 3) lv (v :: st) μ) : V G p l e R s m args below meth c nL k n Z pc lv st0 μ :=
  V_callSN F hC hM hs hlink d hR hst hn hnl hw (fun r μ' h => by obtain ⟨rfl, rfl⟩ := h; exact kk)
theorem V_callSN0 (F : Fx G p R s m args meth c own cc nL ret k n) {y : MethodName} {b : ByteArray} {nLc dp index j : Nat} {retc : Option FieldType} {As : List Value} {ν : Mem} (hC : Ct G l dp y b nLc retc As μ (IsN ν)) (hM : MI y b nLc retc j) {host : String} (hs : Cond.static y ∈ wsG) (hlink : Cond.methodLinkNest own index y host ∈ nestW) (d : decode cc pc = .ok (.invokestatic index, 3)) (hR : dp + 1 ≤ R.frames ∧ (dp + 1) * 40 ≤ R.locals) {st0 : List Value} (hst : st0 = As.reverse ++ st) (hn : As.length = j) (hnl : nLc ≤ 21) (hw : (st.map fun v => v.category).sum ≤ 8) (kk : V G p l e R s m args below meth c nL k n Z (pc + 3) lv (st) ν) : V G p l e R s m args below meth c nL k n Z pc lv st0 μ :=
  V_callSN F hC hM hs hlink d hR hst hn hnl hw (fun r μ' h => by obtain ⟨rfl, rfl⟩ := h; exact kk)
theorem V_callVi (F : Fx G p R s m args meth c own cc nL ret k n) {y : MethodName} {b : ByteArray} {nLc dp index j a ci q0 : Nat} {qc : vw_C} {fs : List Value} {retc : Option FieldType} {As : List Value} {v : Value} (hC : Ct G l dp y b nLc retc (.ref a :: As) μ (Is v μ)) (hM : MI y b nLc retc j) (hs : Cond.instanceMethod y ∈ wsG ∧ Cond.selects y.cls y y ∈ wsG) (hlink : Cond.methodLink own index y ∈ wsG) (d : decode cc pc = .ok (.invokevirtual index, 3)) (hR : dp + 1 ≤ R.frames ∧ (dp + 1) * 40 ≤ R.locals) {st0 : List Value} (hst : st0 = As.reverse ++ .ref a :: st) (hn : As.length = j) (hnl : nLc ≤ 21) (hw : (st.map fun v => v.category).sum ≤ 8) (he : (gW G μ)[q0]? = some (a, .inr (ci, fs))) (hc : vwCl[ci]? = some qc) (hqc : qc.1 = y.cls) (kk : V G p l e R s m args below meth c nL k n Z (pc + 3) lv (v :: st) μ) : V G p l e R s m args below meth c nL k n Z pc lv st0 μ :=
  V_callV F hC hM hs hlink d hR hst hn hnl hw he hc hqc (fun r μ' h => by obtain ⟨rfl, rfl⟩ := h; exact kk)
theorem V_callV0 (F : Fx G p R s m args meth c own cc nL ret k n) {y : MethodName} {b : ByteArray} {nLc dp index j a ci q0 : Nat} {qc : vw_C} {fs : List Value} {retc : Option FieldType} {As : List Value} {ν : Mem} (hC : Ct G l dp y b nLc retc (.ref a :: As) μ (IsN ν)) (hM : MI y b nLc retc j) (hs : Cond.instanceMethod y ∈ wsG ∧ Cond.selects y.cls y y ∈ wsG) (hlink : Cond.methodLink own index y ∈ wsG) (d : decode cc pc = .ok (.invokevirtual index, 3)) (hR : dp + 1 ≤ R.frames ∧ (dp + 1) * 40 ≤ R.locals) {st0 : List Value} (hst : st0 = As.reverse ++ .ref a :: st) (hn : As.length = j) (hnl : nLc ≤ 21) (hw : (st.map fun v => v.category).sum ≤ 8) (he : (gW G μ)[q0]? = some (a, .inr (ci, fs))) (hc : vwCl[ci]? = some qc) (hqc : qc.1 = y.cls) (kk : V G p l e R s m args below meth c nL k n Z (pc + 3) lv (st) ν) : V G p l e R s m args below meth c nL k n Z pc lv st0 μ :=
  V_callV F hC hM hs hlink d hR hst hn hnl hw he hc hqc (fun r μ' h => by obtain ⟨rfl, rfl⟩ := h; exact kk)
theorem V_callVNi (F : Fx G p R s m args meth c own cc nL ret k n) {y : MethodName} {b : ByteArray} {nLc dp index j a ci q0 : Nat} {qc : vw_C} {fs : List Value} {retc : Option FieldType} {As : List Value} {v : Value} (hC : Ct G l dp y b nLc retc (.ref a :: As) μ (Is v μ)) (hM : MI y b nLc retc j) {host : String} (hs : Cond.instanceMethod y ∈ wsG ∧ Cond.selects y.cls y y ∈ wsG) (hlink : Cond.methodLinkNest own index y host ∈ nestW) (d : decode cc pc = .ok (.invokevirtual index, 3)) (hR : dp + 1 ≤ R.frames ∧ (dp + 1) * 40 ≤ R.locals) {st0 : List Value} (hst : st0 = As.reverse ++ .ref a :: st) (hn : As.length = j) (hnl : nLc ≤ 21) (hw : (st.map fun v => v.category).sum ≤ 8) (he : (gW G μ)[q0]? = some (a, .inr (ci, fs))) (hc : vwCl[ci]? = some qc) (hqc : qc.1 = y.cls) (kk : V G p l e R s m args below meth c nL k n Z (pc + 3) lv (v :: st) μ) : V G p l e R s m args below meth c nL k n Z pc lv st0 μ :=
  V_callVN F hC hM hs hlink d hR hst hn hnl hw he hc hqc (fun r μ' h => by obtain ⟨rfl, rfl⟩ := h; exact kk)
theorem V_callVN0 (F : Fx G p R s m args meth c own cc nL ret k n) {y : MethodName} {b : ByteArray} {nLc dp index j a ci q0 : Nat} {qc : vw_C} {fs : List Value} {retc : Option FieldType} {As : List Value} {ν : Mem} (hC : Ct G l dp y b nLc retc (.ref a :: As) μ (IsN ν)) (hM : MI y b nLc retc j) {host : String} (hs : Cond.instanceMethod y ∈ wsG ∧ Cond.selects y.cls y y ∈ wsG) (hlink : Cond.methodLinkNest own index y host ∈ nestW) (d : decode cc pc = .ok (.invokevirtual index, 3)) (hR : dp + 1 ≤ R.frames ∧ (dp + 1) * 40 ≤ R.locals) {st0 : List Value} (hst : st0 = As.reverse ++ .ref a :: st) (hn : As.length = j) (hnl : nLc ≤ 21) (hw : (st.map fun v => v.category).sum ≤ 8) (he : (gW G μ)[q0]? = some (a, .inr (ci, fs))) (hc : vwCl[ci]? = some qc) (hqc : qc.1 = y.cls) (kk : V G p l e R s m args below meth c nL k n Z (pc + 3) lv (st) ν) : V G p l e R s m args below meth c nL k n Z pc lv st0 μ :=
  V_callVN F hC hM hs hlink d hR hst hn hnl hw he hc hqc (fun r μ' h => by obtain ⟨rfl, rfl⟩ := h; exact kk)
theorem V_icmp_eq_N (F : Fx G p R s m args meth c own cc nL ret k n) {off : Int} {tgt a b : Nat} (d : decode cc pc = .ok (.if_icmp .eq off, 3)) (ht : (pc : Int) + off = (tgt : Int)) (ha : a < 2 ^ 31) (hb : b < 2 ^ 31) (kt : a = b → V G p l e R s m args below meth c nL k n Z tgt lv st μ) (kf : ¬ a = b → V G p l e R s m args below meth c nL k n Z (pc + 3) lv st μ) : V G p l e R s m args below meth c nL k n Z pc lv (.int (nI b) :: .int (nI a) :: st) μ :=
  V_icmp_eq F d ht (fun h => kt ((nI_eq ha hb).mp h)) (fun h => kf (fun q => h ((nI_eq ha hb).mpr q)))
theorem V_icmp_ne_N (F : Fx G p R s m args meth c own cc nL ret k n) {off : Int} {tgt a b : Nat} (d : decode cc pc = .ok (.if_icmp .ne off, 3)) (ht : (pc : Int) + off = (tgt : Int)) (ha : a < 2 ^ 31) (hb : b < 2 ^ 31) (kt : a ≠ b → V G p l e R s m args below meth c nL k n Z tgt lv st μ) (kf : ¬ (a ≠ b) → V G p l e R s m args below meth c nL k n Z (pc + 3) lv st μ) : V G p l e R s m args below meth c nL k n Z pc lv (.int (nI b) :: .int (nI a) :: st) μ :=
  V_icmp_ne F d ht (fun h => kt ((not_congr (nI_eq ha hb)).mp h)) (fun h => kf (fun q => q ((nI_eq ha hb).mp h)))
theorem V_icmp_lt_N (F : Fx G p R s m args meth c own cc nL ret k n) {off : Int} {tgt a b : Nat} (d : decode cc pc = .ok (.if_icmp .lt off, 3)) (ht : (pc : Int) + off = (tgt : Int)) (ha : a < 2 ^ 31) (hb : b < 2 ^ 31) (kt : a < b → V G p l e R s m args below meth c nL k n Z tgt lv st μ) (kf : ¬ a < b → V G p l e R s m args below meth c nL k n Z (pc + 3) lv st μ) : V G p l e R s m args below meth c nL k n Z pc lv (.int (nI b) :: .int (nI a) :: st) μ :=
  V_icmp_lt F d ht (fun h => kt ((nI_ltI ha hb).mp h)) (fun h => kf (fun q => h ((nI_ltI ha hb).mpr q)))
theorem V_icmp_ge_N (F : Fx G p R s m args meth c own cc nL ret k n) {off : Int} {tgt a b : Nat} (d : decode cc pc = .ok (.if_icmp .ge off, 3)) (ht : (pc : Int) + off = (tgt : Int)) (ha : a < 2 ^ 31) (hb : b < 2 ^ 31) (kt : b ≤ a → V G p l e R s m args below meth c nL k n Z tgt lv st μ) (kf : ¬ b ≤ a → V G p l e R s m args below meth c nL k n Z (pc + 3) lv st μ) : V G p l e R s m args below meth c nL k n Z pc lv (.int (nI b) :: .int (nI a) :: st) μ :=
  V_icmp_ge F d ht (fun h => kt ((nI_leI hb ha).mp h)) (fun h => kf (fun q => h ((nI_leI hb ha).mpr q)))
theorem V_icmp_gt_N (F : Fx G p R s m args meth c own cc nL ret k n) {off : Int} {tgt a b : Nat} (d : decode cc pc = .ok (.if_icmp .gt off, 3)) (ht : (pc : Int) + off = (tgt : Int)) (ha : a < 2 ^ 31) (hb : b < 2 ^ 31) (kt : b < a → V G p l e R s m args below meth c nL k n Z tgt lv st μ) (kf : ¬ b < a → V G p l e R s m args below meth c nL k n Z (pc + 3) lv st μ) : V G p l e R s m args below meth c nL k n Z pc lv (.int (nI b) :: .int (nI a) :: st) μ :=
  V_icmp_gt F d ht (fun h => kt ((nI_ltI hb ha).mp h)) (fun h => kf (fun q => h ((nI_ltI hb ha).mpr q)))
theorem V_icmp_le_N (F : Fx G p R s m args meth c own cc nL ret k n) {off : Int} {tgt a b : Nat} (d : decode cc pc = .ok (.if_icmp .le off, 3)) (ht : (pc : Int) + off = (tgt : Int)) (ha : a < 2 ^ 31) (hb : b < 2 ^ 31) (kt : a ≤ b → V G p l e R s m args below meth c nL k n Z tgt lv st μ) (kf : ¬ a ≤ b → V G p l e R s m args below meth c nL k n Z (pc + 3) lv st μ) : V G p l e R s m args below meth c nL k n Z pc lv (.int (nI b) :: .int (nI a) :: st) μ :=
  V_icmp_le F d ht (fun h => kt ((nI_leI ha hb).mp h)) (fun h => kf (fun q => h ((nI_leI ha hb).mpr q)))
theorem V_pff_1_0 (F : Fx (GS g) p R s m args meth c own cc nL ret k n) {index : Nat} {host : String} {x : Int32} (hlink : Cond.fieldLink own index RX2 (TX2 0).2.1 (TX2 0).2.2.1 ∈ wsG) (d : decode cc pc = .ok (.putfield index, 3)) (kk : V (GS g) p l e R s m args below meth c nL k n Z (pc + 3) lv st (wr μ 1 0 x)) : V (GS g) p l e R s m args below meth c nL k n Z pc lv (.int x :: .ref (g.1 1) :: st) μ :=
  V_putf F 1 0 hlink d ig_X2 tyX2 tyX2_ok nmX2 rfl rfl (by decide) rfl rfl (by decide +kernel) (Nat.le_of_ble_eq_true rfl) (μ' := wr μ 1 0 x) rfl kk
theorem V_pfN_1_0 (F : Fx (GS g) p R s m args meth c own cc nL ret k n) {index : Nat} {host : String} {x : Int32} (hlink : Cond.fieldLinkNest own index RX2 (TX2 0).2.1 (TX2 0).2.2.1 host ∈ nestW) (d : decode cc pc = .ok (.putfield index, 3)) (kk : V (GS g) p l e R s m args below meth c nL k n Z (pc + 3) lv st (wr μ 1 0 x)) : V (GS g) p l e R s m args below meth c nL k n Z pc lv (.int x :: .ref (g.1 1) :: st) μ :=
  V_putN F 1 0 hlink d ig_X2 tyX2 tyX2_ok nmX2 rfl rfl (by decide) rfl rfl (by decide +kernel) (Nat.le_of_ble_eq_true rfl) (μ' := wr μ 1 0 x) rfl kk
theorem nI_max {a b : Nat} (ha : a < 2 ^ 31) (hb : b < 2 ^ 31) : (if nI a < nI b then nI b else nI a) = nI (max a b) := by
  by_cases h : a < b
  · rw [if_pos ((nI_ltI ha hb).mpr h), Nat.max_eq_right (by omega)]
  · rw [if_neg (fun q => h ((nI_ltI ha hb).mp q)), Nat.max_eq_left (by omega)]
theorem nI_min {a b : Nat} (ha : a < 2 ^ 31) (hb : b < 2 ^ 31) : (if nI b < nI a then nI b else nI a) = nI (min a b) := by
  by_cases h : b < a
  · rw [if_pos ((nI_ltI hb ha).mpr h), Nat.min_eq_right (by omega)]
  · rw [if_neg (fun q => h ((nI_ltI hb ha).mp q)), Nat.min_eq_left (by omega)]
theorem V_maxN (F : Fx G p R s m args meth c own cc nL ret k n) {x y index : Nat} (hlink : Cond.methodLink own index Lib.Math.max.name ∈ wsG) (d : decode cc pc = .ok (.invokestatic index, 3)) (hR : 1 ≤ R.frames ∧ (st.map fun v => v.category).sum + 13 ≤ R.locals) (hx : x < 2 ^ 31) (hy : y < 2 ^ 31) (kk : V G p l e R s m args below meth c nL k n Z (pc + 3) lv (.int (nI (max x y)) :: st) μ) : V G p l e R s m args below meth c nL k n Z pc lv (.int (nI y) :: .int (nI x) :: st) μ := V_max F hlink d hR (by rw [nI_max hx hy]; exact kk)
theorem V_minN (F : Fx G p R s m args meth c own cc nL ret k n) {x y index : Nat} (hlink : Cond.methodLink own index Lib.Math.min.name ∈ wsG) (d : decode cc pc = .ok (.invokestatic index, 3)) (hR : 1 ≤ R.frames ∧ (st.map fun v => v.category).sum + 13 ≤ R.locals) (hx : x < 2 ^ 31) (hy : y < 2 ^ 31) (kk : V G p l e R s m args below meth c nL k n Z (pc + 3) lv (.int (nI (min x y)) :: st) μ) : V G p l e R s m args below meth c nL k n Z pc lv (.int (nI y) :: .int (nI x) :: st) μ := V_min F hlink d hR (by rw [nI_min hx hy]; exact kk)
theorem V_isubN (F : Fx G p R s m args meth c own cc nL ret k n) {x y : Nat} (h : y ≤ x) (d : decode cc pc = .ok (.isub, 1)) (kk : V G p l e R s m args below meth c nL k n Z (pc + 1) lv (.int (nI (x - y)) :: st) μ) : V G p l e R s m args below meth c nL k n Z pc lv (.int (nI y) :: .int (nI x) :: st) μ := V_isub F d (by rw [show nI x - nI y = nI (x - y) from (Int32.ofNat_sub x y h).symm]; exact kk)
end WROWS
theorem mi_X3_init : MI yX3_init cX3_init 1 none 0 := ⟨mc_X3_init, mt_X3, ⟨by decide +kernel, by decide +kernel, by decide +kernel⟩, by decide +kernel⟩
theorem mi_X2_init : MI yX2_init cX2_init 1 none 0 := ⟨mc_X2_init, mt_X2, ⟨by decide +kernel, by decide +kernel, by decide +kernel⟩, by decide +kernel⟩
theorem mi_X2_lengthsOfNew : MI yX2_lengthsOfNew cX2_lengthsOfNew 1 (some (.array .int)) 0 := ⟨mc_X2_lengthsOfNew, mt_X2, ⟨by decide +kernel, by decide +kernel, by decide +kernel⟩, by decide +kernel⟩
theorem mi_X2_headOf : MI yX2_headOf cX2_headOf 1 (some (.object "java/lang/String")) 1 := ⟨mc_X2_headOf, mt_X2, ⟨by decide +kernel, by decide +kernel, by decide +kernel⟩, by decide +kernel⟩
theorem mi_J0_length_8abf5 : MI yJ0_length_8abf5 cJ0_length_8abf5 1 (some .int) 0 := ⟨mc_J0_length_8abf5, mt_J0, ⟨by decide +kernel, by decide +kernel, by decide +kernel⟩, by decide +kernel⟩
theorem mm_J0_length_8abf5 : Cond.instanceMethod yJ0_length_8abf5 ∈ wsG ∧ Cond.selects yJ0_length_8abf5.cls yJ0_length_8abf5 yJ0_length_8abf5 ∈ wsG := ⟨mn_J0_length_8abf5, mv_J0_length_8abf5⟩
theorem mi_J0_coder_7d493 : MI yJ0_coder_7d493 cJ0_coder_7d493 1 (some .byte) 0 := ⟨mc_J0_coder_7d493, mt_J0, ⟨by decide +kernel, by decide +kernel, by decide +kernel⟩, by decide +kernel⟩
theorem mm_J0_coder_7d493 : Cond.instanceMethod yJ0_coder_7d493 ∈ wsG ∧ Cond.selects yJ0_coder_7d493.cls yJ0_coder_7d493 yJ0_coder_7d493 ∈ wsG := ⟨mn_J0_coder_7d493, mv_J0_coder_7d493⟩
theorem mi_X3_put : MI yX3_put cX3_put 3 none 3 := ⟨mc_X3_put, mt_X3, ⟨by decide +kernel, by decide +kernel, by decide +kernel⟩, by decide +kernel⟩
theorem mi_X0_init : MI yX0_init cX0_init 2 none 1 := ⟨mc_X0_init, mt_X0, ⟨by decide +kernel, by decide +kernel, by decide +kernel⟩, by decide +kernel⟩
theorem mi_L_cell : MI yL_cell cL_cell 2 (some .int) 2 := ⟨mc_L_cell, mt_L, ⟨by decide +kernel, by decide +kernel, by decide +kernel⟩, by decide +kernel⟩
theorem mi_L_adds : MI yL_adds cL_adds 12 (some .int) 5 := ⟨mc_L_adds, mt_L, ⟨by decide +kernel, by decide +kernel, by decide +kernel⟩, by decide +kernel⟩
theorem mi_L_sizes : MI yL_sizes cL_sizes 10 (some .int) 6 := ⟨mc_L_sizes, mt_L, ⟨by decide +kernel, by decide +kernel, by decide +kernel⟩, by decide +kernel⟩
theorem mi_L_most : MI yL_most cL_most 2 (some .int) 2 := ⟨mc_L_most, mt_L, ⟨by decide +kernel, by decide +kernel, by decide +kernel⟩, by decide +kernel⟩
theorem mi_L_named : MI yL_named cL_named 1 (some .int) 1 := ⟨mc_L_named, mt_L, ⟨by decide +kernel, by decide +kernel, by decide +kernel⟩, by decide +kernel⟩
theorem mi_L_builds : MI yL_builds cL_builds 6 (some .int) 6 := ⟨mc_L_builds, mt_L, ⟨by decide +kernel, by decide +kernel, by decide +kernel⟩, by decide +kernel⟩
theorem mi_X3_tau : MI yX3_tau cX3_tau 2 (some .int) 1 := ⟨mc_X3_tau, mt_X3, ⟨by decide +kernel, by decide +kernel, by decide +kernel⟩, by decide +kernel⟩
theorem mm_X3_tau : Cond.instanceMethod yX3_tau ∈ wsG ∧ Cond.selects yX3_tau.cls yX3_tau yX3_tau ∈ wsG := ⟨mn_X3_tau, mv_X3_tau⟩
theorem mi_X2_holds : MI yX2_holds cX2_holds 2 (some .boolean) 1 := ⟨mc_X2_holds, mt_X2, ⟨by decide +kernel, by decide +kernel, by decide +kernel⟩, by decide +kernel⟩
theorem mm_X2_holds : Cond.instanceMethod yX2_holds ∈ wsG ∧ Cond.selects yX2_holds.cls yX2_holds yX2_holds ∈ wsG := ⟨mn_X2_holds, mv_X2_holds⟩
theorem mi_X2_build : MI yX2_build cX2_build 9 (some .int) 5 := ⟨mc_X2_build, mt_X2, ⟨by decide +kernel, by decide +kernel, by decide +kernel⟩, by decide +kernel⟩
theorem mm_X2_build : Cond.instanceMethod yX2_build ∈ wsG ∧ Cond.selects yX2_build.cls yX2_build yX2_build ∈ wsG := ⟨mn_X2_build, mv_X2_build⟩
theorem mi_X3_at : MI yX3_at cX3_at 2 (some .int) 2 := ⟨mc_X3_at, mt_X3, ⟨by decide +kernel, by decide +kernel, by decide +kernel⟩, by decide +kernel⟩
theorem mi_X2_isAction : MI yX2_isAction cX2_isAction 1 (some .boolean) 1 := ⟨mc_X2_isAction, mt_X2, ⟨by decide +kernel, by decide +kernel, by decide +kernel⟩, by decide +kernel⟩
theorem mi_X2_needFor : MI yX2_needFor cX2_needFor 9 (some .int) 5 := ⟨mc_X2_needFor, mt_X2, ⟨by decide +kernel, by decide +kernel, by decide +kernel⟩, by decide +kernel⟩
theorem mm_X2_needFor : Cond.instanceMethod yX2_needFor ∈ wsG ∧ Cond.selects yX2_needFor.cls yX2_needFor yX2_needFor ∈ wsG := ⟨mn_X2_needFor, mv_X2_needFor⟩
theorem mi_X2_lengthFor : MI yX2_lengthFor cX2_lengthFor 5 (some .int) 3 := ⟨mc_X2_lengthFor, mt_X2, ⟨by decide +kernel, by decide +kernel, by decide +kernel⟩, by decide +kernel⟩
theorem mm_X2_lengthFor : Cond.instanceMethod yX2_lengthFor ∈ wsG ∧ Cond.selects yX2_lengthFor.cls yX2_lengthFor yX2_lengthFor ∈ wsG := ⟨mn_X2_lengthFor, mv_X2_lengthFor⟩
theorem mi_X2_putActions : MI yX2_putActions cX2_putActions 9 none 6 := ⟨mc_X2_putActions, mt_X2, ⟨by decide +kernel, by decide +kernel, by decide +kernel⟩, by decide +kernel⟩
theorem mm_X2_putActions : Cond.instanceMethod yX2_putActions ∈ wsG ∧ Cond.selects yX2_putActions.cls yX2_putActions yX2_putActions ∈ wsG := ⟨mn_X2_putActions, mv_X2_putActions⟩
theorem mi_X3_put_ : MI yX3_put_ cX3_put_ 4 none 3 := ⟨mc_X3_put_, mt_X3, ⟨by decide +kernel, by decide +kernel, by decide +kernel⟩, by decide +kernel⟩
theorem mi_X2_copyActions : MI yX2_copyActions cX2_copyActions 9 none 4 := ⟨mc_X2_copyActions, mt_X2, ⟨by decide +kernel, by decide +kernel, by decide +kernel⟩, by decide +kernel⟩
theorem mm_X2_copyActions : Cond.instanceMethod yX2_copyActions ∈ wsG ∧ Cond.selects yX2_copyActions.cls yX2_copyActions yX2_copyActions ∈ wsG := ⟨mn_X2_copyActions, mv_X2_copyActions⟩
theorem mi_X3_at_ : MI yX3_at_ cX3_at_ 2 (some .long) 2 := ⟨mc_X3_at_, mt_X3, ⟨by decide +kernel, by decide +kernel, by decide +kernel⟩, by decide +kernel⟩
theorem mi_X3_output : MI yX3_output cX3_output 4 (some .int) 3 := ⟨mc_X3_output, mt_X3, ⟨by decide +kernel, by decide +kernel, by decide +kernel⟩, by decide +kernel⟩
theorem mm_X3_output : Cond.instanceMethod yX3_output ∈ wsG ∧ Cond.selects yX3_output.cls yX3_output yX3_output ∈ wsG := ⟨mn_X3_output, mv_X3_output⟩
theorem mi_X3_isName : MI yX3_isName cX3_isName 1 (some .boolean) 1 := ⟨mc_X3_isName, mt_X3, ⟨by decide +kernel, by decide +kernel, by decide +kernel⟩, by decide +kernel⟩
theorem mi_X3_input : MI yX3_input cX3_input 3 (some .int) 2 := ⟨mc_X3_input, mt_X3, ⟨by decide +kernel, by decide +kernel, by decide +kernel⟩, by decide +kernel⟩
theorem mm_X3_input : Cond.instanceMethod yX3_input ∈ wsG ∧ Cond.selects yX3_input.cls yX3_input yX3_input ∈ wsG := ⟨mn_X3_input, mv_X3_input⟩
theorem mi_X3_match : MI yX3_match cX3_match 4 (some .int) 3 := ⟨mc_X3_match, mt_X3, ⟨by decide +kernel, by decide +kernel, by decide +kernel⟩, by decide +kernel⟩
theorem mm_X3_match : Cond.instanceMethod yX3_match ∈ wsG ∧ Cond.selects yX3_match.cls yX3_match yX3_match ∈ wsG := ⟨mn_X3_match, mv_X3_match⟩
theorem mi_X3_sum : MI yX3_sum cX3_sum 3 (some .int) 2 := ⟨mc_X3_sum, mt_X3, ⟨by decide +kernel, by decide +kernel, by decide +kernel⟩, by decide +kernel⟩
theorem mm_X3_sum : Cond.instanceMethod yX3_sum ∈ wsG ∧ Cond.selects yX3_sum.cls yX3_sum yX3_sum ∈ wsG := ⟨mn_X3_sum, mv_X3_sum⟩
theorem mi_L_process : MI yL_process cL_process 5 (some .int) 5 := ⟨mc_L_process, mt_L, ⟨by decide +kernel, by decide +kernel, by decide +kernel⟩, by decide +kernel⟩
theorem mi_X3_processCount : MI yX3_processCount cX3_processCount 1 (some .int) 0 := ⟨mc_X3_processCount, mt_X3, ⟨by decide +kernel, by decide +kernel, by decide +kernel⟩, by decide +kernel⟩
theorem mm_X3_processCount : Cond.instanceMethod yX3_processCount ∈ wsG ∧ Cond.selects yX3_processCount.cls yX3_processCount yX3_processCount ∈ wsG := ⟨mn_X3_processCount, mv_X3_processCount⟩
theorem mi_L_related : MI yL_related cL_related 3 (some .boolean) 3 := ⟨mc_L_related, mt_L, ⟨by decide +kernel, by decide +kernel, by decide +kernel⟩, by decide +kernel⟩
theorem mi_X3_areRelated : MI yX3_areRelated cX3_areRelated 5 (some .int) 3 := ⟨mc_X3_areRelated, mt_X3, ⟨by decide +kernel, by decide +kernel, by decide +kernel⟩, by decide +kernel⟩
theorem mm_X3_areRelated : Cond.instanceMethod yX3_areRelated ∈ wsG ∧ Cond.selects yX3_areRelated.cls yX3_areRelated yX3_areRelated ∈ wsG := ⟨mn_X3_areRelated, mv_X3_areRelated⟩
theorem mi_X3_errorOfPair : MI yX3_errorOfPair cX3_errorOfPair 4 (some .int) 3 := ⟨mc_X3_errorOfPair, mt_X3, ⟨by decide +kernel, by decide +kernel, by decide +kernel⟩, by decide +kernel⟩
theorem mm_X3_errorOfPair : Cond.instanceMethod yX3_errorOfPair ∈ wsG ∧ Cond.selects yX3_errorOfPair.cls yX3_errorOfPair yX3_errorOfPair ∈ wsG := ⟨mn_X3_errorOfPair, mv_X3_errorOfPair⟩
theorem mi_X3_isRelation : MI yX3_isRelation cX3_isRelation 1 (some .boolean) 1 := ⟨mc_X3_isRelation, mt_X3, ⟨by decide +kernel, by decide +kernel, by decide +kernel⟩, by decide +kernel⟩
theorem mi_X2_isClosed : MI yX2_isClosed cX2_isClosed 2 (some .boolean) 1 := ⟨mc_X2_isClosed, mt_X2, ⟨by decide +kernel, by decide +kernel, by decide +kernel⟩, by decide +kernel⟩
theorem mm_X2_isClosed : Cond.instanceMethod yX2_isClosed ∈ wsG ∧ Cond.selects yX2_isClosed.cls yX2_isClosed yX2_isClosed ∈ wsG := ⟨mn_X2_isClosed, mv_X2_isClosed⟩
theorem mi_X0_roundsOf : MI yX0_roundsOf cX0_roundsOf 5 (some .int) 3 := ⟨mc_X0_roundsOf, mt_X0, ⟨by decide +kernel, by decide +kernel, by decide +kernel⟩, by decide +kernel⟩
theorem mm_X0_roundsOf : Cond.instanceMethod yX0_roundsOf ∈ wsG ∧ Cond.selects yX0_roundsOf.cls yX0_roundsOf yX0_roundsOf ∈ wsG := ⟨mn_X0_roundsOf, mv_X0_roundsOf⟩
theorem mi_X0_worth : MI yX0_worth cX0_worth 11 (some .int) 5 := ⟨mc_X0_worth, mt_X0, ⟨by decide +kernel, by decide +kernel, by decide +kernel⟩, by decide +kernel⟩
theorem mm_X0_worth : Cond.instanceMethod yX0_worth ∈ wsG ∧ Cond.selects yX0_worth.cls yX0_worth yX0_worth ∈ wsG := ⟨mn_X0_worth, mv_X0_worth⟩
theorem mi_X0_placeOf : MI yX0_placeOf cX0_placeOf 6 (some .int) 4 := ⟨mc_X0_placeOf, mt_X0, ⟨by decide +kernel, by decide +kernel, by decide +kernel⟩, by decide +kernel⟩
theorem mi_X0_viewOf : MI yX0_viewOf cX0_viewOf 3 (some .int) 1 := ⟨mc_X0_viewOf, mt_X0, ⟨by decide +kernel, by decide +kernel, by decide +kernel⟩, by decide +kernel⟩
theorem mi_X1_valueOf : MI yX1_valueOf cX1_valueOf 2 (some .int) 2 := ⟨mc_X1_valueOf, mt_X1, ⟨by decide +kernel, by decide +kernel, by decide +kernel⟩, by decide +kernel⟩
theorem mi_X1_with : MI yX1_with cX1_with 2 (some .int) 2 := ⟨mc_X1_with, mt_X1, ⟨by decide +kernel, by decide +kernel, by decide +kernel⟩, by decide +kernel⟩
theorem mi_X0_firstPlace : MI yX0_firstPlace cX0_firstPlace 1 (some .int) 1 := ⟨mc_X0_firstPlace, mt_X0, ⟨by decide +kernel, by decide +kernel, by decide +kernel⟩, by decide +kernel⟩
theorem mi_X0_answerWorth : MI yX0_answerWorth cX0_answerWorth 15 (some .int) 6 := ⟨mc_X0_answerWorth, mt_X0, ⟨by decide +kernel, by decide +kernel, by decide +kernel⟩, by decide +kernel⟩
theorem mm_X0_answerWorth : Cond.instanceMethod yX0_answerWorth ∈ wsG ∧ Cond.selects yX0_answerWorth.cls yX0_answerWorth yX0_answerWorth ∈ wsG := ⟨mn_X0_answerWorth, mv_X0_answerWorth⟩
theorem mi_X1_nextFresh : MI yX1_nextFresh cX1_nextFresh 3 (some .int) 1 := ⟨mc_X1_nextFresh, mt_X1, ⟨by decide +kernel, by decide +kernel, by decide +kernel⟩, by decide +kernel⟩
theorem mi_X0_attackWorth : MI yX0_attackWorth cX0_attackWorth 11 (some .int) 6 := ⟨mc_X0_attackWorth, mt_X0, ⟨by decide +kernel, by decide +kernel, by decide +kernel⟩, by decide +kernel⟩
theorem mm_X0_attackWorth : Cond.instanceMethod yX0_attackWorth ∈ wsG ∧ Cond.selects yX0_attackWorth.cls yX0_attackWorth yX0_attackWorth ∈ wsG := ⟨mn_X0_attackWorth, mv_X0_attackWorth⟩
theorem mi_X2_actionIn : MI yX2_actionIn cX2_actionIn 5 (some .int) 3 := ⟨mc_X2_actionIn, mt_X2, ⟨by decide +kernel, by decide +kernel, by decide +kernel⟩, by decide +kernel⟩
theorem mm_X2_actionIn : Cond.instanceMethod yX2_actionIn ∈ wsG ∧ Cond.selects yX2_actionIn.cls yX2_actionIn yX2_actionIn ∈ wsG := ⟨mn_X2_actionIn, mv_X2_actionIn⟩
theorem mi_X2_isOpen : MI yX2_isOpen cX2_isOpen 6 (some .boolean) 2 := ⟨mc_X2_isOpen, mt_X2, ⟨by decide +kernel, by decide +kernel, by decide +kernel⟩, by decide +kernel⟩
theorem mi_X1_areEqual : MI yX1_areEqual cX1_areEqual 3 (some .boolean) 3 := ⟨mc_X1_areEqual, mt_X1, ⟨by decide +kernel, by decide +kernel, by decide +kernel⟩, by decide +kernel⟩
theorem mi_X0_agree : MI yX0_agree cX0_agree 6 (some .boolean) 3 := ⟨mc_X0_agree, mt_X0, ⟨by decide +kernel, by decide +kernel, by decide +kernel⟩, by decide +kernel⟩
theorem mm_X0_agree : Cond.instanceMethod yX0_agree ∈ wsG ∧ Cond.selects yX0_agree.cls yX0_agree yX0_agree ∈ wsG := ⟨mn_X0_agree, mv_X0_agree⟩
theorem mi_X0_sideWorth : MI yX0_sideWorth cX0_sideWorth 12 (some .int) 5 := ⟨mc_X0_sideWorth, mt_X0, ⟨by decide +kernel, by decide +kernel, by decide +kernel⟩, by decide +kernel⟩
theorem mm_X0_sideWorth : Cond.instanceMethod yX0_sideWorth ∈ wsG ∧ Cond.selects yX0_sideWorth.cls yX0_sideWorth yX0_sideWorth ∈ wsG := ⟨mn_X0_sideWorth, mv_X0_sideWorth⟩
theorem mi_X0_lastChoice : MI yX0_lastChoice cX0_lastChoice 4 (some .int) 3 := ⟨mc_X0_lastChoice, mt_X0, ⟨by decide +kernel, by decide +kernel, by decide +kernel⟩, by decide +kernel⟩
theorem mm_X0_lastChoice : Cond.instanceMethod yX0_lastChoice ∈ wsG ∧ Cond.selects yX0_lastChoice.cls yX0_lastChoice yX0_lastChoice ∈ wsG := ⟨mn_X0_lastChoice, mv_X0_lastChoice⟩
theorem mi_X0_isChosenWith : MI yX0_isChosenWith cX0_isChosenWith 3 (some .boolean) 2 := ⟨mc_X0_isChosenWith, mt_X0, ⟨by decide +kernel, by decide +kernel, by decide +kernel⟩, by decide +kernel⟩
theorem mm_X0_isChosenWith : Cond.instanceMethod yX0_isChosenWith ∈ wsG ∧ Cond.selects yX0_isChosenWith.cls yX0_isChosenWith yX0_isChosenWith ∈ wsG := ⟨mn_X0_isChosenWith, mv_X0_isChosenWith⟩
theorem mi_X0_firstChoice : MI yX0_firstChoice cX0_firstChoice 3 (some .int) 2 := ⟨mc_X0_firstChoice, mt_X0, ⟨by decide +kernel, by decide +kernel, by decide +kernel⟩, by decide +kernel⟩
theorem mm_X0_firstChoice : Cond.instanceMethod yX0_firstChoice ∈ wsG ∧ Cond.selects yX0_firstChoice.cls yX0_firstChoice yX0_firstChoice ∈ wsG := ⟨mn_X0_firstChoice, mv_X0_firstChoice⟩
theorem mi_X3_rounds : MI yX3_rounds cX3_rounds 5 (some .int) 3 := ⟨mc_X3_rounds, mt_X3, ⟨by decide +kernel, by decide +kernel, by decide +kernel⟩, by decide +kernel⟩
theorem mm_X3_rounds : Cond.instanceMethod yX3_rounds ∈ wsG ∧ Cond.selects yX3_rounds.cls yX3_rounds yX3_rounds ∈ wsG := ⟨mn_X3_rounds, mv_X3_rounds⟩
theorem mi_X3_textLength : MI yX3_textLength cX3_textLength 2 (some .int) 1 := ⟨mc_X3_textLength, mt_X3, ⟨by decide +kernel, by decide +kernel, by decide +kernel⟩, by decide +kernel⟩
theorem mm_X3_textLength : Cond.instanceMethod yX3_textLength ∈ wsG ∧ Cond.selects yX3_textLength.cls yX3_textLength yX3_textLength ∈ wsG := ⟨mn_X3_textLength, mv_X3_textLength⟩
theorem mi_X3_moveCount : MI yX3_moveCount cX3_moveCount 2 (some .int) 1 := ⟨mc_X3_moveCount, mt_X3, ⟨by decide +kernel, by decide +kernel, by decide +kernel⟩, by decide +kernel⟩
theorem mm_X3_moveCount : Cond.instanceMethod yX3_moveCount ∈ wsG ∧ Cond.selects yX3_moveCount.cls yX3_moveCount yX3_moveCount ∈ wsG := ⟨mn_X3_moveCount, mv_X3_moveCount⟩
theorem mi_X2_movesOf : MI yX2_movesOf cX2_movesOf 4 (some .int) 1 := ⟨mc_X2_movesOf, mt_X2, ⟨by decide +kernel, by decide +kernel, by decide +kernel⟩, by decide +kernel⟩
theorem mm_X2_movesOf : Cond.instanceMethod yX2_movesOf ∈ wsG ∧ Cond.selects yX2_movesOf.cls yX2_movesOf yX2_movesOf ∈ wsG := ⟨mn_X2_movesOf, mv_X2_movesOf⟩
theorem mi_X3_removeLast : MI yX3_removeLast cX3_removeLast 2 (some .int) 0 := ⟨mc_X3_removeLast, mt_X3, ⟨by decide +kernel, by decide +kernel, by decide +kernel⟩, by decide +kernel⟩
theorem mm_X3_removeLast : Cond.instanceMethod yX3_removeLast ∈ wsG ∧ Cond.selects yX3_removeLast.cls yX3_removeLast yX3_removeLast ∈ wsG := ⟨mn_X3_removeLast, mv_X3_removeLast⟩
theorem mi_X0_forget : MI yX0_forget cX0_forget 5 none 1 := ⟨mc_X0_forget, mt_X0, ⟨by decide +kernel, by decide +kernel, by decide +kernel⟩, by decide +kernel⟩
theorem mm_X0_forget : Cond.instanceMethod yX0_forget ∈ wsG ∧ Cond.selects yX0_forget.cls yX0_forget yX0_forget ∈ wsG := ⟨mn_X0_forget, mv_X0_forget⟩
theorem mi_X3_firstAttack : MI yX3_firstAttack cX3_firstAttack 5 (some .int) 3 := ⟨mc_X3_firstAttack, mt_X3, ⟨by decide +kernel, by decide +kernel, by decide +kernel⟩, by decide +kernel⟩
theorem mm_X3_firstAttack : Cond.instanceMethod yX3_firstAttack ∈ wsG ∧ Cond.selects yX3_firstAttack.cls yX3_firstAttack yX3_firstAttack ∈ wsG := ⟨mn_X3_firstAttack, mv_X3_firstAttack⟩
theorem mi_X0_attackOf : MI yX0_attackOf cX0_attackOf 7 (some .int) 3 := ⟨mc_X0_attackOf, mt_X0, ⟨by decide +kernel, by decide +kernel, by decide +kernel⟩, by decide +kernel⟩
theorem mm_X0_attackOf : Cond.instanceMethod yX0_attackOf ∈ wsG ∧ Cond.selects yX0_attackOf.cls yX0_attackOf yX0_attackOf ∈ wsG := ⟨mn_X0_attackOf, mv_X0_attackOf⟩
theorem mi_X0_attackWith : MI yX0_attackWith cX0_attackWith 11 (some .int) 4 := ⟨mc_X0_attackWith, mt_X0, ⟨by decide +kernel, by decide +kernel, by decide +kernel⟩, by decide +kernel⟩
theorem mm_X0_attackWith : Cond.instanceMethod yX0_attackWith ∈ wsG ∧ Cond.selects yX0_attackWith.cls yX0_attackWith yX0_attackWith ∈ wsG := ⟨mn_X0_attackWith, mv_X0_attackWith⟩
theorem mi_X3_depthOf : MI yX3_depthOf cX3_depthOf 2 (some .int) 1 := ⟨mc_X3_depthOf, mt_X3, ⟨by decide +kernel, by decide +kernel, by decide +kernel⟩, by decide +kernel⟩
theorem mm_X3_depthOf : Cond.instanceMethod yX3_depthOf ∈ wsG ∧ Cond.selects yX3_depthOf.cls yX3_depthOf yX3_depthOf ∈ wsG := ⟨mn_X3_depthOf, mv_X3_depthOf⟩
theorem mi_X3_needOf : MI yX3_needOf cX3_needOf 2 (some .int) 1 := ⟨mc_X3_needOf, mt_X3, ⟨by decide +kernel, by decide +kernel, by decide +kernel⟩, by decide +kernel⟩
theorem mm_X3_needOf : Cond.instanceMethod yX3_needOf ∈ wsG ∧ Cond.selects yX3_needOf.cls yX3_needOf yX3_needOf ∈ wsG := ⟨mn_X3_needOf, mv_X3_needOf⟩
theorem mi_X3_representative : MI yX3_representative cX3_representative 4 (some .int) 2 := ⟨mc_X3_representative, mt_X3, ⟨by decide +kernel, by decide +kernel, by decide +kernel⟩, by decide +kernel⟩
theorem mm_X3_representative : Cond.instanceMethod yX3_representative ∈ wsG ∧ Cond.selects yX3_representative.cls yX3_representative yX3_representative ∈ wsG := ⟨mn_X3_representative, mv_X3_representative⟩
theorem mi_X3_lowestRelated : MI yX3_lowestRelated cX3_lowestRelated 4 (some .int) 2 := ⟨mc_X3_lowestRelated, mt_X3, ⟨by decide +kernel, by decide +kernel, by decide +kernel⟩, by decide +kernel⟩
theorem mm_X3_lowestRelated : Cond.instanceMethod yX3_lowestRelated ∈ wsG ∧ Cond.selects yX3_lowestRelated.cls yX3_lowestRelated yX3_lowestRelated ∈ wsG := ⟨mn_X3_lowestRelated, mv_X3_lowestRelated⟩
theorem mi_X3_classCount : MI yX3_classCount cX3_classCount 4 (some .int) 1 := ⟨mc_X3_classCount, mt_X3, ⟨by decide +kernel, by decide +kernel, by decide +kernel⟩, by decide +kernel⟩
theorem mm_X3_classCount : Cond.instanceMethod yX3_classCount ∈ wsG ∧ Cond.selects yX3_classCount.cls yX3_classCount yX3_classCount ∈ wsG := ⟨mn_X3_classCount, mv_X3_classCount⟩
end WORLD
