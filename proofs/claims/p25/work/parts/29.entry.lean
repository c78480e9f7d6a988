section ENTRY
abbrev lwNar : List Cond := flatC (Jvm.Cond.and given_1 narrow_1)
abbrev lwTm (i : Nat) : Term := .string RX2 (sIdx.getD i 0)
theorem en_ex : ∀ i : Nat, i < 6 → Cond.exactly (lwTm i) "java/lang/String" ∈ lwNar := by decide +kernel
theorem en_co : ∀ i : Nat, i < 6 → Cond.eq (.field (lwTm i) "java/lang/String" "coder" "B") (.int 0) ∈ lwNar := by decide +kernel
theorem en_ar : ∀ i : Nat, i < 6 → Cond.arrayOf (.field (lwTm i) "java/lang/String" "value" "[B") .byte ∈ lwNar := by decide +kernel
theorem en_le : ∀ i : Nat, i < 6 → Cond.eq (.length (.field (lwTm i) "java/lang/String" "value" "[B")) (.int (Int32.ofNat (sLen.getD i 0))) ∈ lwNar := by decide +kernel
theorem en_el : ∀ i : Nat, i < 6 → ∀ j : Nat, j < sLen.getD i 0 → Cond.eq (.elem (.field (lwTm i) "java/lang/String" "value" "[B") (.int (Int32.ofNat j))) (.int ((sByt.getD i []).getD j 0)) ∈ lwNar := by decide +kernel
theorem en_ne : ∀ i : Nat, i < 6 → ∀ j : Nat, j < 6 → i ≠ j → Cond.not (Cond.eq (lwTm i) (lwTm j)) ∈ lwNar ∨ Cond.not (Cond.eq (lwTm j) (lwTm i)) ∈ lwNar := by decide +kernel
theorem en_sr : ∀ i : Nat, i < 6 → Cond.stringRef RX2 (sIdx.getD i 0) (sTx.getD i "") ∈ tables_1 := by decide +kernel
theorem en_l1 : Cond.laysStatic "java/lang/String" "COMPACT_STRINGS" "Z" ∈ tables_1 := by decide +kernel
theorem en_n1 : Cond.eq (.static "java/lang/String" "COMPACT_STRINGS" "Z") (.int 1) ∈ lwNar := by decide +kernel
theorem en_tbl {w : Cond} (h : w ∈ tables_1) : w ∈ lw_tbl := List.mem_append_right _ h
theorem en_arr {args : Array Value} {s : State} {ty : FieldType} (hty : ty = .int ∨ ty = .long) (h : (Cond.arrayClass ty).before args s = true) : ∃ c : ClassId, ArrOfT s c ty ∧ va_RA s c ty := by
  obtain ⟨c, k, comp, h1, h2, h3⟩ := Cond.arrayClass_spec h
  refine ⟨c, fun n z => ⟨fun k h => (by cases h), k, h2, comp, h3⟩, ?_⟩
  rcases hty with rfl | rfl <;> exact h1
/-- what holds at the law's entry, over any world of new cells -/
theorem law_entry {p : Program} {s : State} {m : MethodId} {meth : Method} {c : Code} {b L : Nat} {xs : Nat → Int32} (C0 : lw_At p s m meth c b L xs) : ∃ κ : Kp, ∀ (W : Mem → va_W) (A : Nat → Prop), (∀ q, A q → s.heap.size ≤ q) → (∀ μ, va_D A (W μ)) → St (W, A, κ.1, κ.2.1, κ.2.2.1, κ.2.2.2) s s.heap := by
  obtain ⟨hx, hb, hr, hml, hown, hts, hX, hbl, hlk, hgv⟩ := C0
  have hG : ∀ w ∈ wsG, w.before #[Value.ref b] s = true := fun w hw => hts w (wsG_in hw)
  have hs := flat_of_before _ hgv
  have ht : ∀ w ∈ tables_1, w.before #[Value.ref b] s = true := fun w hw => hts w (en_tbl hw)
  obtain ⟨c0, i0, k0⟩ := u_known (C := RX0) (T := TX0) (N := 2) (n := 2) hG ig_X0 (hG _ mk_X0)
  obtain ⟨c1, i1, k1⟩ := u_known (C := RX2) (T := TX2) (N := 12) (n := 12) hG ig_X2 (hG _ mk_X2)
  obtain ⟨c2, i2, k2⟩ := u_known (C := RX3) (T := TX3) (N := 2) (n := 2) hG ig_X3 (hG _ mk_X3)
  obtain ⟨cI, aI1, aI2⟩ := en_arr (Or.inl rfl) (hG _ ma_int)
  obtain ⟨cJ, aJ1, aJ2⟩ := en_arr (Or.inr rfl) (hG _ ma_long)
  obtain ⟨aK, aV, hS, hE⟩ := vk_Sof (args := #[Value.ref b]) (s := s) (N := 6) (tm := lwTm) (len := sLen) (byt := sByt) (A := fun q => s.heap.size ≤ q) (by decide +kernel) (fun i hi => hs _ (en_ex i hi)) (fun i hi => hs _ (en_co i hi)) (fun i hi => hs _ (en_ar i hi)) (fun i hi => hs _ (en_le i hi)) (fun i hi j hj => hs _ (en_el i hi j hj)) (fun i j hi hj hij => (en_ne i hi j hj hij).imp (fun h => hs _ h) (fun h => hs _ h)) (fun a h1 h2 => by omega)
  refine ⟨((fun c => match c with | 0 => c0 | 1 => c1 | _ => c2, fun c => match c with | 0 => i0 | 1 => i1 | _ => i2), (cI, cJ), aK, aV), fun W A hA hD => ⟨⟨?_, ?_⟩, hD, fun w hw => va_Nw.of (nestW_tab (nestW_ok hw)) (hts w (nestW_in hw)), hS.narrow hA, fun i hi => vk_R.of (ht _ (en_sr i hi)) (hE i hi), ?_, trivial⟩⟩
  · intro c q hq
    match c, hq with
    | 0, hq => cases hq; exact k0
    | 1, hq => cases hq; exact k1
    | 2, hq => cases hq; exact k2
    | c + 3, hq => cases hq
  · intro k q hq
    match k, hq with
    | 0, hq => cases hq; exact ⟨aI1, aI2⟩
    | 1, hq => cases hq; exact ⟨aJ1, aJ2⟩
    | k + 2, hq => cases hq
  · exact va_Zof (ht _ en_l1) (hG _ mt_J0) (va_eqi (hs _ en_n1)) (fun a h1 h2 => by have := hA a h2; omega)
end ENTRY
