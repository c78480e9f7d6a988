section CELL
theorem lc_L_7 : Cond.constant RL 7 (15485959) ∈ wsG := wsG_mem 349 (by decide +kernel) (by decide +kernel)
theorem lc_L_8 : Cond.constant RL 8 (2147483647) ∈ wsG := wsG_mem 350 (by decide +kernel) (by decide +kernel)
theorem and_nn (w : Int32) : ¬ (w &&& 2147483647) < 0 := by
  have h : (w &&& 2147483647).toBitVec.msb = false := by
    show (w.toBitVec &&& (2147483647 : Int32).toBitVec).msb = false
    rw [BitVec.msb_and, show (2147483647 : Int32).toBitVec.msb = false by decide +kernel, Bool.and_false]
  have h2 : (0 : Int) ≤ (w &&& 2147483647).toInt := by
    show (0 : Int) ≤ (w &&& 2147483647).toBitVec.toInt
    rw [BitVec.toInt_eq_toNat_of_msb h]
    exact Int.natCast_nonneg _
  rw [Int32.lt_iff_toInt_lt]
  exact Int.not_lt.mpr h2
/-- the cell's answer: an int that is no less than 0 -/
def CQ (μ : Mem) : Option Value → Mem → Prop := fun r μ' => (∃ y : Nat, y < 2 ^ 31 ∧ r = some (.int (nI y))) ∧ μ' = μ
def PpX (G : Geo) (b L : Nat) (xs : Nat → Int32) (av : List Value) (μ : Mem) : Array Value → State → Prop := va_Pc av (fun U => va_P (gD G) vwCl (gW G μ) U.heap ∧ St G U U.heap ∧ va_X b L xs U U.heap ∧ b < U.heap.size)
theorem va_X_step {A : Nat → Prop} {b L : Nat} {xs : Nat → Int32} {s U : State} {H : Heap} {locs : List Loc} (h : va_X b L xs s s.heap) (hbl : b < s.heap.size) (hbA : ¬ A b) (hS : va_S A s.heap H locs) (hW : s.WarmedH U.vm) : va_X b L xs U H := by
  obtain ⟨scr, h1, h2, h3, h4, h5⟩ := h
  exact ⟨scr, by rw [hS.2.1 b hbl hbA]; exact h1, State.isArrayOf_alike hW.alike h2, h3, h4, h5⟩
theorem PpX.blind {G : Geo} {b L : Nat} {xs : Nat → Int32} {av : List Value} {μ : Mem} : FrameBlind (PpX G b L xs av μ) := fun a U g mk h => ⟨h.1, h.2.1, h.2.2.1.calling g mk a, by
  obtain ⟨scr, h1, h2, h3⟩ := h.2.2.2.1
  exact ⟨scr, h1, State.isArrayOf_alike (T := U.calling g mk a) (Vm.Alike.refl U.vm) h2, h3⟩, h.2.2.2.2⟩
def CtX (G : Geo) (b L : Nat) (xs : Nat → Int32) (l : Launch) (dp : Nat) (y : MethodName) (cb : ByteArray) (nL : Nat) (ret : Option FieldType) (av : List Value) (μ : Mem) (Q : Option Value → Mem → Prop) : Prop :=
  Met l y (Cond.code y cb nL ret :: wsG) (rmD dp) (PpX G b L xs av μ) (Qp G Q) 0 0 (gA G)
theorem CtX.of {G : Geo} {b L : Nat} {xs : Nat → Int32} {l : Launch} {dp : Nat} {y : MethodName} {own : String} {cb : ByteArray} {nL j : Nat} {ret : Option FieldType} {av : List Value} {μ : Mem} {Q : Option Value → Mem → Prop} (hM : MI y cb nL ret j) (ho : y.cls = own) (lv : List (Option Value)) (hn : (lg_sl av).length ≤ nL) (hlv : al 0 lv = lv_args 0 av)
    (body : ∀ (p : Program) (e : Env) (s : State) (m : MethodId) (below : List Frame) (meth : Method) (c : Code), va_X b L xs s s.heap → b < s.heap.size → Fx G p (rmD dp) s m av.toArray meth c own cb nL ret 0 0 → V G p l e (rmD dp) s m av.toArray below meth c nL 0 0 (MQ below (Qp G Q) av.toArray s 0 0 (gA G)) 0 lv [] μ) : CtX G b L xs l dp y cb nL ret av μ Q := by
  refine Met.ofW (cc := cb) (maxL := nL) (ret := ret) hM.2.2.2 rfl ?_
  intro p e s m args below meth c s₁ B hml hv
  obtain ⟨rfl, hP, hst, hX, hbl⟩ := hv
  have hts := atoms_spec (ws := Cond.code y cb nL ret :: wsG) B.pre
  have hown : s.vm.findClass y.cls = some m.cls := findClass_of_methodNamed B.named
  have hl := lv_entry av (n := nL) hn
  rw [lg_entry_eq]
  exact body p e s m below meth c hX hbl ⟨B.exec, B.bytes, B.returns, B.notSynchronized, hml, ho ▸ hown, fun w hw => hts w (List.mem_cons_of_mem _ hw), hst, Nat.zero_le _, Nat.zero_le _⟩ s.heap [] _ hP va_S.rf (hlv ▸ hl)
section CROWSX
variable {G : Geo} {p : Program} {l : Launch} {e : Env} {R : Room} {s : State} {m : MethodId} {args : Array Value} {below : List Frame} {meth : Method} {c : Code} {k n : Nat} {Z : State → Prop} {own : String} {cc : ByteArray} {nL pc : Nat} {ret : Option FieldType} {lv : List (Option Value)} {st : List Value} {μ : Mem} {b L : Nat} {xs : Nat → Int32}
theorem V_sld (F : Fx G p R s m args meth c own cc nL ret k n) (hX : va_X b L xs s s.heap) (hbl : b < s.heap.size) (hbA : ¬ gA G b) (hL : L ≤ 2048) {j : Nat} (hj : j < L) (d : decode cc pc = .ok (.iaload, 1)) (kk : V G p l e R s m args below meth c nL k n Z (pc + 1) lv (.int (xs j) :: st) μ) : V G p l e R s m args below meth c nL k n Z pc lv (.int (nI j) :: .ref b :: st) μ := by
  intro H locs ls hP hS hl
  refine va_sld F.1 F.2.1 hX hbl hbA hS (vp_in_nI hj (by omega)) d ?_
  rw [nI_clamp (by omega)]
  exact kk H locs ls hP hS hl
theorem V_sln (F : Fx G p R s m args meth c own cc nL ret k n) (hX : va_X b L xs s s.heap) (hbl : b < s.heap.size) (hbA : ¬ gA G b) (d : decode cc pc = .ok (.arraylength, 1)) (kk : V G p l e R s m args below meth c nL k n Z (pc + 1) lv (.int (nI L) :: st) μ) : V G p l e R s m args below meth c nL k n Z pc lv (.ref b :: st) μ := by
  intro H locs ls hP hS hl
  exact va_slen F.1 F.2.1 hX hbl hbA hS d (kk H locs ls hP hS hl)
theorem V_ldcI (F : Fx G p R s m args meth c own cc nL ret k n) {index : Nat} {v : Int32} (hc : Cond.constant own index v ∈ wsG) (d : decode cc pc = .ok (.ldc index, 2)) (kk : V G p l e R s m args below meth c nL k n Z (pc + 2) lv (.int v :: st) μ) : V G p l e R s m args below meth c nL k n Z pc lv st μ := by
  intro H locs ls hP hS hl
  exact lv_ldc F.1 F.2.1 F.2.2.2.2.2.1 (F.2.2.2.2.2.2.1 _ hc) d (kk H locs ls hP hS hl)
theorem V_callX (F : Fx G p R s m args meth c own cc nL ret k n) (hX : va_X b L xs s s.heap) (hbl : b < s.heap.size) (hbA : ¬ gA G b) {y : MethodName} {cb : ByteArray} {nLc dp index j : Nat} {retc : Option FieldType} {As : List Value} {Qc : Option Value → Mem → Prop} (hC : CtX G b L xs l dp y cb nLc retc As μ Qc) (hM : MI y cb nLc retc j) (hs : Cond.static y ∈ wsG) (hlink : Cond.methodLink own index y ∈ wsG) (d : decode cc pc = .ok (.invokestatic index, 3)) (hR : dp + 1 ≤ R.frames ∧ (dp + 1) * 40 ≤ R.locals) {st0 : List Value} (hst : st0 = As.reverse ++ st) (hn : As.length = j) (hnl : nLc ≤ 21) (hw : (st.map fun v => v.category).sum ≤ 8)
    (kk : ∀ (r : Option Value) (μ' : Mem), Qc r μ' → V G p l e R s m args below meth c nL k n Z (pc + 3) lv (r.toList ++ st) μ') : V G p l e R s m args below meth c nL k n Z pc lv st0 μ := by
  refine V_run (As := As.toArray) (Qc := Qc) (fun H locs ls hP hS hz => ?_) kk
  subst hst
  exact va_runS ⟨F.1, F.2.1, F.2.2.2.2.1, F.2.2.2.2.2.1, F.2.2.2.2.2.2.1⟩ hC ⟨callB_of j F.2.2.2.2.2.2.1 (good_code hM.1) rfl rfl rfl (F.2.2.2.2.2.2.1 _ hM.2.1) (F.2.2.2.2.2.2.1 _ hlink) hM.2.2.1 (room_ok hR hnl), F.2.2.2.2.2.2.1 _ hs⟩
    ⟨PpX.blind, fun U hU hW => ⟨rfl, by rw [hU]; exact hP, by rw [hU]; exact F.2.2.2.2.2.2.2.1.step hS hW, by rw [hU]; exact va_X_step hX hbl hbA hS hW, by rw [hU]; exact Nat.lt_of_lt_of_le hbl hS.1⟩⟩ rfl hn hz rfl (lv_room hw) d F.2.2.2.2.2.2.2.2
end CROWSX
variable {g : Gm} {l : Launch} {μ : Mem} {b L : Nat} {xs : Nat → Int32}
theorem c_cell {k : Nat} (hk : k < 2 ^ 20) (hL : L ≤ 2048) (hbA : ¬ AS g.1 b) : CtX (GS g) b L xs l 0 yL_cell cL_cell 2 (some .int) [.ref b, .int (nI k)] μ (CQ μ) := by
  refine CtX.of (own := RL) mi_L_cell rfl [some (.ref b), some (.int (nI k))] (Nat.le_of_ble_eq_true rfl) rfl (fun p₀ e₀ s₀ m₀ b₀ h₀ c₀ hX hbl F => ?_)
  have fin : ∀ w : Int32, V (GS g) p₀ l e₀ (rmD 0) s₀ m₀ #[.ref b, .int (nI k)] b₀ h₀ c₀ 2 0 0 (MQ b₀ (Qp (GS g) (CQ μ)) #[.ref b, .int (nI k)] s₀ 0 0 (gA (GS g))) 19 [some (.ref b), some (.int (nI k))] [.int w] μ := by
    intro w
    refine V_ldcI F lc_L_8 dL_cell_19 ?_
    refine V_iand F dL_cell_21 ?_
    obtain ⟨y, hy, e⟩ := nI_of (and_nn w)
    rw [e]
    exact V_iret F dL_cell_22 ⟨⟨y, hy, rfl⟩, rfl⟩
  refine V_iload_n F dL_cell_0 rfl ?_
  refine V_aload_n F dL_cell_1 rfl ?_
  refine V_sln F hX hbl hbA dL_cell_2 ?_
  refine V_icmp_ge_N F (tgt := 12) dL_cell_3 (by decide) (by omega) (by omega) (fun h => ?_) (fun h => ?_)
  · refine V_ldcI F lc_L_7 dL_cell_12 ?_
    refine V_iload_n F dL_cell_14 rfl ?_
    refine V_imul F dL_cell_15 ?_
    refine V_bipush F (v := nI 109) dL_cell_16 (by decide) ?_
    refine V_iadd F dL_cell_18 ?_
    exact fin _
  · skip
    refine V_aload_n F dL_cell_6 rfl ?_
    refine V_iload_n F dL_cell_7 rfl ?_
    refine V_sld F hX hbl hbA hL (by omega) dL_cell_8 ?_
    refine V_goto F (tgt := 19) dL_cell_9 (by decide) ?_
    exact fin _
end CELL

