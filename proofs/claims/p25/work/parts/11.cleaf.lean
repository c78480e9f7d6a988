section CLEAF
variable {g : Gm} {l : Launch} {μ : Mem}
theorem nI_or (a b : Nat) : nI a ||| nI b = nI (a ||| b) := by
  apply Int32.toBitVec_inj.1
  show BitVec.ofNat 32 a ||| BitVec.ofNat 32 b = BitVec.ofNat 32 (a ||| b)
  apply BitVec.eq_of_getLsbD_eq
  intro i hi
  simp [hi]
theorem or_sum8 {r v : Nat} (h : v < 8) : (r * 8) ||| v = 8 * r + v := by
  have := Nat.shiftLeft_add_eq_or_of_lt (b := v) (i := 3) (by simpa using h) r
  rw [Nat.shiftLeft_eq] at this
  rw [← this]; omega
theorem nI_nz {j : Nat} (hj : j < 2 ^ 31) (h : j ≠ 0) : ¬ nI j = 0 := by
  rw [← nI_0]; exact fun q => h ((nI_eq (by omega) (by omega)).mp q)
theorem and7 (r : Nat) : nI r &&& nI 7 = nI (r % 8) := by
  rw [nx_and]
  congr 1
  exact Nat.and_two_pow_sub_one_eq_mod r 3
theorem c_valueOf {x r : Nat} (hx : x < 6) (hr : r < 2 ^ 31) : Ct (GS g) l (0) yX1_valueOf cX1_valueOf 2 (some .int) [.int (nI x), .int (nI r)] μ (Is (.int (nI (xv r x))) μ) := by
  refine Ct.of (own := RX1) mi_X1_valueOf rfl [some (.int (nI x)), some (.int (nI r))] (Nat.le_of_ble_eq_true rfl) rfl (fun p₀ e₀ s₀ m₀ b₀ h₀ c₀ F => ?_)
  refine V_iload_n F dX1_valueOf_0 rfl ?_
  refine V_iconst F (v := nI 3) dX1_valueOf_1 (by decide) ?_
  refine V_icmp_ge_N F (tgt := 7) dX1_valueOf_2 (by decide) (by omega) (by omega) (fun h => ?_) (fun h => ?_)
  · skip
    refine V_iload_n F dX1_valueOf_7 rfl ?_
    refine V_iconst F (v := nI 3) dX1_valueOf_8 (by decide) ?_
    refine V_iload_n F dX1_valueOf_9 rfl ?_
    refine V_iconst F (v := nI 3) dX1_valueOf_10 (by decide) ?_
    refine V_isubN F (h) dX1_valueOf_11 ?_
    (first | refine V_imulN F dX1_valueOf_12 ?_ | refine V_imul F dX1_valueOf_12 ?_)
    have e : nI r >>> (nI (3 * (x - 3)) &&& 31) = nI (r / 8 ^ (x - 3)) := by
      rcases (by omega : x = 3 ∨ x = 4 ∨ x = 5) with rfl | rfl | rfl
      · exact pk_shrN hr _ 0 (by decide +kernel)
      · exact pk_shrN hr _ 3 (by decide +kernel)
      · exact pk_shrN hr _ 6 (by decide +kernel)
    refine V_ishr F dX1_valueOf_13 ?_
    refine V_val F (e) ?_
    refine V_bipush F (v := nI 7) dX1_valueOf_14 (by decide) ?_
    refine V_iand F dX1_valueOf_16 ?_
    refine V_val F (and7 _) ?_
    exact V_iret F dX1_valueOf_17 (⟨by rw [xv, if_neg (by omega)], rfl⟩)
  · skip
    refine V_iload_n F dX1_valueOf_5 rfl ?_
    exact V_iret F dX1_valueOf_6 (⟨by rw [xv, if_pos (by omega)], rfl⟩)
theorem c_with {r v : Nat} (hr : r < 2 ^ 27) (hv : v < 8) : Ct (GS g) l (0) yX1_with cX1_with 2 (some .int) [.int (nI r), .int (nI v)] μ (Is (.int (nI (8 * r + v))) μ) := by
  refine Ct.of (own := RX1) mi_X1_with rfl [some (.int (nI r)), some (.int (nI v))] (Nat.le_of_ble_eq_true rfl) rfl (fun p₀ e₀ s₀ m₀ b₀ h₀ c₀ F => ?_)
  refine V_iload_n F dX1_with_0 rfl ?_
  refine V_iconst F (v := nI 3) dX1_with_1 (by decide) ?_
  refine V_ishl F dX1_with_2 ?_
  refine V_val F (pk_shlN _ 3 (by decide +kernel) (by omega)) ?_
  refine V_iload_n F dX1_with_3 rfl ?_
  refine V_ior F dX1_with_4 ?_
  refine V_val F ((nI_or _ _).trans (congrArg nI (or_sum8 hv))) ?_
  exact V_iret F dX1_with_5 (⟨rfl, rfl⟩)
theorem c_areEqual {x y r : Nat} (hx : x < 6) (hy : y < 6) (hr : r < 2 ^ 31) : Ct (GS g) l (1) yX1_areEqual cX1_areEqual 3 (some .boolean) [.int (nI x), .int (nI y), .int (nI r)] μ (Is (.int (nI (if xv r x = xv r y then 1 else 0))) μ) := by
  have hb : ∀ x, x < 6 → xv r x < 8 := fun x hx => by unfold xv; split <;> omega
  have hbx := hb x hx
  have hby := hb y hy
  refine Ct.of (own := RX1) mi_X1_areEqual rfl [some (.int (nI x)), some (.int (nI y)), some (.int (nI r))] (Nat.le_of_ble_eq_true rfl) rfl (fun p₀ e₀ s₀ m₀ b₀ h₀ c₀ F => ?_)
  refine V_iload_n F dX1_areEqual_0 rfl ?_
  refine V_iload_n F dX1_areEqual_1 rfl ?_
  refine V_callSi F (c_valueOf hx hr) mi_X1_valueOf ms_X1_valueOf lk_X1_11 dX1_areEqual_2 (rmR (by omega)) rfl rfl (by decide) (Nat.le_of_ble_eq_true rfl) ?_
  refine V_iload_n F dX1_areEqual_5 rfl ?_
  refine V_iload_n F dX1_areEqual_6 rfl ?_
  refine V_callSi F (c_valueOf hy hr) mi_X1_valueOf ms_X1_valueOf lk_X1_11 dX1_areEqual_7 (rmR (by omega)) rfl rfl (by decide) (Nat.le_of_ble_eq_true rfl) ?_
  refine V_icmp_ne_N F (tgt := 17) dX1_areEqual_10 (by decide) (by omega) (by omega) (fun h => ?_) (fun h => ?_)
  · rw [if_neg h]
    refine V_iconst F (v := nI 0) dX1_areEqual_17 (by decide) ?_
    exact V_zret F dX1_areEqual_18 (rfl) (⟨rfl, rfl⟩)
  · rw [if_pos (Classical.not_not.mp h)]
    refine V_iconst F (v := nI 1) dX1_areEqual_13 (by decide) ?_
    refine V_goto F (tgt := 18) dX1_areEqual_14 (by decide) ?_
    exact V_zret F dX1_areEqual_18 (rfl) (⟨rfl, rfl⟩)
theorem c_nextFresh {r : Nat} (hr : r < 2 ^ 31) : Ct (GS g) l (1) yX1_nextFresh cX1_nextFresh 3 (some .int) [.int (nI r)] μ (Is (.int (nI (max (max (max 3 (xv r 3 + 1)) (xv r 4 + 1)) (xv r 5 + 1)))) μ) := by
  have hb : ∀ x, x < 6 → xv r x < 8 := fun x hx => by unfold xv; split <;> omega
  have hb3 := hb 3 (by omega)
  have hb4 := hb 4 (by omega)
  have hb5 := hb 5 (by omega)
  refine Ct.of (own := RX1) mi_X1_nextFresh rfl [some (.int (nI r)), none, none] (Nat.le_of_ble_eq_true rfl) rfl (fun p₀ e₀ s₀ m₀ b₀ h₀ c₀ F => ?_)
  refine V_iconst F (v := nI 3) dX1_nextFresh_0 (by decide) ?_
  refine V_istore_n F (lv' := [_, _, _]) dX1_nextFresh_1 (by decide) rfl rfl ?_
  refine V_iconst F (v := nI 3) dX1_nextFresh_2 (by decide) ?_
  refine V_istore_n F (lv' := [_, _, _]) dX1_nextFresh_3 (by decide) rfl rfl ?_
  refine V_iload_n F dX1_nextFresh_4 rfl ?_
  refine V_bipush F (v := nI 6) dX1_nextFresh_5 (by decide) ?_
  refine V_icmp_ge_f F (tgt := 28) dX1_nextFresh_7 (by decide) (by decide) ?_
  refine V_iload_n F dX1_nextFresh_10 rfl ?_
  refine V_iload_n F dX1_nextFresh_11 rfl ?_
  refine V_iload_n F dX1_nextFresh_12 rfl ?_
  refine V_callSi F (c_valueOf (by omega) hr) mi_X1_valueOf ms_X1_valueOf lk_X1_11 dX1_nextFresh_13 (rmR (by omega)) rfl rfl (by decide) (Nat.le_of_ble_eq_true rfl) ?_
  refine V_iconst F (v := nI 1) dX1_nextFresh_16 (by decide) ?_
  (first | refine V_iaddN F dX1_nextFresh_17 ?_ | refine V_iadd F dX1_nextFresh_17 ?_)
  refine V_maxN F lk_X1_15 dX1_nextFresh_18 (rmM (by omega) (Nat.le_of_ble_eq_true rfl)) (by omega) (by omega) ?_
  refine V_istore_n F (lv' := [_, _, _]) dX1_nextFresh_21 (by decide) rfl rfl ?_
  refine V_iinc F (lv' := [_, _, _]) dX1_nextFresh_22 rfl (by decide) rfl rfl ?_
  refine V_goto F (tgt := 4) dX1_nextFresh_25 (by decide) ?_
  refine V_iload_n F dX1_nextFresh_4 rfl ?_
  refine V_bipush F (v := nI 6) dX1_nextFresh_5 (by decide) ?_
  refine V_icmp_ge_f F (tgt := 28) dX1_nextFresh_7 (by decide) (by decide) ?_
  refine V_iload_n F dX1_nextFresh_10 rfl ?_
  refine V_iload_n F dX1_nextFresh_11 rfl ?_
  refine V_iload_n F dX1_nextFresh_12 rfl ?_
  refine V_callSi F (c_valueOf (x := 4) (by omega) hr) mi_X1_valueOf ms_X1_valueOf lk_X1_11 dX1_nextFresh_13 (rmR (by omega)) rfl rfl (by decide) (Nat.le_of_ble_eq_true rfl) ?_
  refine V_iconst F (v := nI 1) dX1_nextFresh_16 (by decide) ?_
  (first | refine V_iaddN F dX1_nextFresh_17 ?_ | refine V_iadd F dX1_nextFresh_17 ?_)
  refine V_maxN F lk_X1_15 dX1_nextFresh_18 (rmM (by omega) (Nat.le_of_ble_eq_true rfl)) (by omega) (by omega) ?_
  refine V_istore_n F (lv' := [_, _, _]) dX1_nextFresh_21 (by decide) rfl rfl ?_
  refine V_iinc F (lv' := [_, _, _]) dX1_nextFresh_22 rfl (by decide) rfl rfl ?_
  refine V_goto F (tgt := 4) dX1_nextFresh_25 (by decide) ?_
  refine V_iload_n F dX1_nextFresh_4 rfl ?_
  refine V_bipush F (v := nI 6) dX1_nextFresh_5 (by decide) ?_
  refine V_icmp_ge_f F (tgt := 28) dX1_nextFresh_7 (by decide) (by decide) ?_
  refine V_iload_n F dX1_nextFresh_10 rfl ?_
  refine V_iload_n F dX1_nextFresh_11 rfl ?_
  refine V_iload_n F dX1_nextFresh_12 rfl ?_
  refine V_callSi F (c_valueOf (x := 5) (by omega) hr) mi_X1_valueOf ms_X1_valueOf lk_X1_11 dX1_nextFresh_13 (rmR (by omega)) rfl rfl (by decide) (Nat.le_of_ble_eq_true rfl) ?_
  refine V_iconst F (v := nI 1) dX1_nextFresh_16 (by decide) ?_
  (first | refine V_iaddN F dX1_nextFresh_17 ?_ | refine V_iadd F dX1_nextFresh_17 ?_)
  refine V_maxN F lk_X1_15 dX1_nextFresh_18 (rmM (by omega) (Nat.le_of_ble_eq_true rfl)) (by omega) (by omega) ?_
  refine V_istore_n F (lv' := [_, _, _]) dX1_nextFresh_21 (by decide) rfl rfl ?_
  refine V_iinc F (lv' := [_, _, _]) dX1_nextFresh_22 rfl (by decide) rfl rfl ?_
  refine V_goto F (tgt := 4) dX1_nextFresh_25 (by decide) ?_
  refine V_iload_n F dX1_nextFresh_4 rfl ?_
  refine V_bipush F (v := nI 6) dX1_nextFresh_5 (by decide) ?_
  refine V_icmp_ge_t F (tgt := 28) dX1_nextFresh_7 (by decide) (by decide) ?_
  refine V_iload_n F dX1_nextFresh_28 rfl ?_
  exact V_iret F dX1_nextFresh_29 (⟨rfl, rfl⟩)
theorem c_isAction {k : Nat} (hk : k < 6) : Ct (GS g) l (0) yX2_isAction cX2_isAction 1 (some .boolean) [.int (nI k)] μ (Is (.int (nI (if 1 ≤ k ∧ k ≤ 3 then 1 else 0))) μ) := by
  refine Ct.of (own := RX2) mi_X2_isAction rfl [some (.int (nI k))] (Nat.le_of_ble_eq_true rfl) rfl (fun p₀ e₀ s₀ m₀ b₀ h₀ c₀ F => ?_)
  refine V_iload_n F dX2_isAction_0 rfl ?_
  refine V_iconst F (v := nI 1) dX2_isAction_1 (by decide) ?_
  refine V_icmp_eq_N F (tgt := 15) dX2_isAction_2 (by decide) (by omega) (by omega) (fun h => ?_) (fun h => ?_)
  · rw [if_pos (by omega)]
    refine V_iconst F (v := nI 1) dX2_isAction_15 (by decide) ?_
    refine V_goto F (tgt := 20) dX2_isAction_16 (by decide) ?_
    exact V_zret F dX2_isAction_20 (rfl) (⟨rfl, rfl⟩)
  · skip
    refine V_iload_n F dX2_isAction_5 rfl ?_
    refine V_iconst F (v := nI 2) dX2_isAction_6 (by decide) ?_
    refine V_icmp_eq_N F (tgt := 15) dX2_isAction_7 (by decide) (by omega) (by omega) (fun h => ?_) (fun h => ?_)
    · rw [if_pos (by omega)]
      refine V_iconst F (v := nI 1) dX2_isAction_15 (by decide) ?_
      refine V_goto F (tgt := 20) dX2_isAction_16 (by decide) ?_
      exact V_zret F dX2_isAction_20 (rfl) (⟨rfl, rfl⟩)
    · skip
      refine V_iload_n F dX2_isAction_10 rfl ?_
      refine V_iconst F (v := nI 3) dX2_isAction_11 (by decide) ?_
      refine V_icmp_ne_N F (tgt := 19) dX2_isAction_12 (by decide) (by omega) (by omega) (fun h => ?_) (fun h => ?_)
      · rw [if_neg (by omega)]
        refine V_iconst F (v := nI 0) dX2_isAction_19 (by decide) ?_
        exact V_zret F dX2_isAction_20 (rfl) (⟨rfl, rfl⟩)
      · rw [if_pos (by omega)]
        refine V_iconst F (v := nI 1) dX2_isAction_15 (by decide) ?_
        refine V_goto F (tgt := 20) dX2_isAction_16 (by decide) ?_
        exact V_zret F dX2_isAction_20 (rfl) (⟨rfl, rfl⟩)
theorem c_isName_t {j : Nat} (hj : j < 6) : Ct (GS g) l (0) yX3_isName cX3_isName 1 (some .boolean) [.int (nI j)] μ (Is (.int (nI 1)) μ) := by
  refine Ct.of (own := RX3) mi_X3_isName rfl [some (.int (nI j))] (Nat.le_of_ble_eq_true rfl) rfl (fun p₀ e₀ s₀ m₀ b₀ h₀ c₀ F => ?_)
  refine V_iload_n F dX3_isName_0 rfl ?_
  refine V_if_lt_f F (tgt := 14) dX3_isName_1 (by decide) (nI_nn (by omega)) ?_
  refine V_iload_n F dX3_isName_4 rfl ?_
  refine V_bipush F (v := nI 6) dX3_isName_5 (by decide) ?_
  refine V_icmp_ge_N F (tgt := 14) dX3_isName_7 (by decide) (by omega) (by omega) (fun h => ?_) (fun h => ?_)
  · omega
  · skip
    refine V_iconst F (v := nI 1) dX3_isName_10 (by decide) ?_
    refine V_goto F (tgt := 15) dX3_isName_11 (by decide) ?_
    exact V_zret F dX3_isName_15 (rfl) (⟨rfl, rfl⟩)
theorem c_isName_f {p : Int32} (hp : ¬ isP 6 p) : Ct (GS g) l (0) yX3_isName cX3_isName 1 (some .boolean) [.int p] μ (Is (.int (nI 0)) μ) := by
  refine Ct.of (own := RX3) mi_X3_isName rfl [some (.int p)] (Nat.le_of_ble_eq_true rfl) rfl (fun p₀ e₀ s₀ m₀ b₀ h₀ c₀ F => ?_)
  rcases not_isP (by omega) hp with h | ⟨h1, h2⟩
  · skip
    refine V_iload_n F dX3_isName_0 rfl ?_
    refine V_if_lt_t F (tgt := 14) dX3_isName_1 (by decide) (h) ?_
    refine V_iconst F (v := nI 0) dX3_isName_14 (by decide) ?_
    exact V_zret F dX3_isName_15 (rfl) (⟨rfl, rfl⟩)
  · skip
    refine V_iload_n F dX3_isName_0 rfl ?_
    refine V_if_lt_f F (tgt := 14) dX3_isName_1 (by decide) (h1) ?_
    refine V_iload_n F dX3_isName_4 rfl ?_
    refine V_bipush F (v := nI 6) dX3_isName_5 (by decide) ?_
    refine V_icmp_ge_t F (tgt := 14) dX3_isName_7 (by decide) (h2) ?_
    refine V_iconst F (v := nI 0) dX3_isName_14 (by decide) ?_
    exact V_zret F dX3_isName_15 (rfl) (⟨rfl, rfl⟩)
theorem c_isRel_t {j : Nat} (hj : j < 3) : Ct (GS g) l (0) yX3_isRelation cX3_isRelation 1 (some .boolean) [.int (nI j)] μ (Is (.int (nI 1)) μ) := by
  refine Ct.of (own := RX3) mi_X3_isRelation rfl [some (.int (nI j))] (Nat.le_of_ble_eq_true rfl) rfl (fun p₀ e₀ s₀ m₀ b₀ h₀ c₀ F => ?_)
  refine V_iload_n F dX3_isRelation_0 rfl ?_
  refine V_if_lt_f F (tgt := 13) dX3_isRelation_1 (by decide) (nI_nn (by omega)) ?_
  refine V_iload_n F dX3_isRelation_4 rfl ?_
  refine V_iconst F (v := nI 3) dX3_isRelation_5 (by decide) ?_
  refine V_icmp_ge_N F (tgt := 13) dX3_isRelation_6 (by decide) (by omega) (by omega) (fun h => ?_) (fun h => ?_)
  · omega
  · skip
    refine V_iconst F (v := nI 1) dX3_isRelation_9 (by decide) ?_
    refine V_goto F (tgt := 14) dX3_isRelation_10 (by decide) ?_
    exact V_zret F dX3_isRelation_14 (rfl) (⟨rfl, rfl⟩)
theorem c_isRel_f {p : Int32} (hp : ¬ isP 3 p) : Ct (GS g) l (0) yX3_isRelation cX3_isRelation 1 (some .boolean) [.int p] μ (Is (.int (nI 0)) μ) := by
  refine Ct.of (own := RX3) mi_X3_isRelation rfl [some (.int p)] (Nat.le_of_ble_eq_true rfl) rfl (fun p₀ e₀ s₀ m₀ b₀ h₀ c₀ F => ?_)
  rcases not_isP (by omega) hp with h | ⟨h1, h2⟩
  · skip
    refine V_iload_n F dX3_isRelation_0 rfl ?_
    refine V_if_lt_t F (tgt := 13) dX3_isRelation_1 (by decide) (h) ?_
    refine V_iconst F (v := nI 0) dX3_isRelation_13 (by decide) ?_
    exact V_zret F dX3_isRelation_14 (rfl) (⟨rfl, rfl⟩)
  · skip
    refine V_iload_n F dX3_isRelation_0 rfl ?_
    refine V_if_lt_f F (tgt := 13) dX3_isRelation_1 (by decide) (h1) ?_
    refine V_iload_n F dX3_isRelation_4 rfl ?_
    refine V_iconst F (v := nI 3) dX3_isRelation_5 (by decide) ?_
    refine V_icmp_ge_t F (tgt := 13) dX3_isRelation_6 (by decide) (h2) ?_
    refine V_iconst F (v := nI 0) dX3_isRelation_13 (by decide) ?_
    exact V_zret F dX3_isRelation_14 (rfl) (⟨rfl, rfl⟩)
/-- the guards' bits, read against packed values -/
def gsb (w r : Nat) : Bool := (List.range 36).all fun i => !(w.testBit i) || (xv r (i / 6) == xv r (i % 6))
theorem lN_0 : (0 : Int64) = lN 0 := rfl
theorem lN_eq0 {w : Nat} (hw : w < 2 ^ 63) : lN w = 0 ↔ w = 0 := by
  rw [lN_0]; exact pk_lEQ hw (by omega)
theorem c_isOpen {w r : Nat} (hw : w < 2 ^ 36) (hr : r < 2 ^ 31) : Ct (GS g) l (2) yX2_isOpen cX2_isOpen 6 (some .boolean) [.long (lN w), .int (nI r)] μ (Is (.int (nI (if gsb w r = true then 1 else 0))) μ) := by
  have hb : ∀ x, x < 6 → xv r x < 8 := fun x hx => by unfold xv; split <;> omega
  refine Ct.of (own := RX2) mi_X2_isOpen rfl [some (.long (lN w)), none, some (.int (nI r)), none, none, none] (Nat.le_of_ble_eq_true rfl) rfl (fun p₀ e₀ s₀ m₀ b₀ h₀ c₀ F => ?_)
  refine V_lload_n F dX2_isOpen_0 rfl ?_
  refine V_lconst F (v := 0) dX2_isOpen_1 rfl ?_
  refine V_lcmp F dX2_isOpen_2 ?_
  by_cases h0 : w = 0
  · subst h0
    have e : gsb 0 r = true := by simp [gsb]
    rw [if_pos e]
    refine V_if_ne_f F (tgt := 8) dX2_isOpen_3 (by decide) ((lg_cmp_eq _ _).mpr rfl) ?_
    refine V_iconst F (v := nI 1) dX2_isOpen_6 (by decide) ?_
    exact V_zret F dX2_isOpen_7 (rfl) (⟨rfl, rfl⟩)
  · skip
    refine V_if_ne_t F (tgt := 8) dX2_isOpen_3 (by decide) (fun q => h0 ((lN_eq0 (by omega)).mp ((lg_cmp_eq _ _).mp q))) ?_
    have loop : ∀ (k i : Nat), i + k = 36 → (∀ j, j < i → (!(w.testBit j) || (xv r (j / 6) == xv r (j % 6))) = true) → V (GS g) p₀ l e₀ (rmD (2)) s₀ m₀ (List.toArray [.long (lN w), .int (nI r)]) b₀ h₀ c₀ 6 0 0 (MQ b₀ (Qp (GS g) (Is (.int (nI (if gsb w r = true then 1 else 0))) μ)) (List.toArray [.long (lN w), .int (nI r)]) s₀ 0 0 (gA (GS g))) 10 ([some (.long (lN w)), none, some (.int (nI r)), some (.int (nI i)), none, none]) ([]) (μ) := by
      intro k
      induction k with
      | zero =>
        intro i hi hall
        have e : gsb w r = true := List.all_eq_true.mpr fun j hj => hall j (by have := List.mem_range.mp hj; omega)
        rw [if_pos e]
        refine V_iload_n F dX2_isOpen_10 rfl ?_
        refine V_bipush F (v := nI 36) dX2_isOpen_11 (by decide) ?_
        refine V_icmp_ge_N F (tgt := 57) dX2_isOpen_13 (by decide) (by omega) (by omega) (fun h => ?_) (fun h => ?_)
        · skip
          refine V_iconst F (v := nI 1) dX2_isOpen_57 (by decide) ?_
          exact V_zret F dX2_isOpen_58 (rfl) (⟨rfl, rfl⟩)
        · omega
      | succ k ih =>
        intro i hi hall
        refine V_iload_n F dX2_isOpen_10 rfl ?_
        refine V_bipush F (v := nI 36) dX2_isOpen_11 (by decide) ?_
        refine V_icmp_ge_N F (tgt := 57) dX2_isOpen_13 (by decide) (by omega) (by omega) (fun h => ?_) (fun h => ?_)
        · omega
        · skip
          refine V_iload_n F dX2_isOpen_16 rfl ?_
          refine V_bipush F (v := nI 6) dX2_isOpen_17 (by decide) ?_
          refine V_idiv F dX2_isOpen_19 (by decide) ?_
          refine V_val F (pk_div (by omega) (by omega) (by omega)) ?_
          refine V_istore F (lv' := [_, _, _, _, _, _]) dX2_isOpen_20 (by decide) rfl rfl ?_
          refine V_iload_n F dX2_isOpen_22 rfl ?_
          refine V_bipush F (v := nI 6) dX2_isOpen_23 (by decide) ?_
          refine V_irem F dX2_isOpen_25 (by decide) ?_
          refine V_val F (pk_rem (by omega) (by omega) (by omega)) ?_
          refine V_istore F (lv' := [_, _, _, _, _, _]) dX2_isOpen_26 (by decide) rfl rfl ?_
          refine V_lload_n F dX2_isOpen_28 rfl ?_
          refine V_iload_n F dX2_isOpen_29 rfl ?_
          refine V_lushr F dX2_isOpen_30 ?_
          refine V_lconst F (v := 1) dX2_isOpen_31 rfl ?_
          refine V_land F dX2_isOpen_32 ?_
          refine V_valL F (wb_bit (by omega) (by omega)) ?_
          refine V_lconst F (v := 0) dX2_isOpen_33 rfl ?_
          refine V_lcmp F dX2_isOpen_34 ?_
          have hnext : (!(w.testBit i) || (xv r (i / 6) == xv r (i % 6))) = true → V (GS g) p₀ l e₀ (rmD (2)) s₀ m₀ (List.toArray [.long (lN w), .int (nI r)]) b₀ h₀ c₀ 6 0 0 (MQ b₀ (Qp (GS g) (Is (.int (nI (if gsb w r = true then 1 else 0))) μ)) (List.toArray [.long (lN w), .int (nI r)]) s₀ 0 0 (gA (GS g))) 51 ([some (.long (lN w)), none, some (.int (nI r)), some (.int (nI i)), some (.int (nI (i / 6))), some (.int (nI (i % 6)))]) ([]) (μ) := by
            intro hi1
            refine V_iinc F (lv' := [_, _, _, _, _, _]) dX2_isOpen_51 rfl (by decide) rfl rfl ?_
            refine V_goto F (tgt := 10) dX2_isOpen_54 (by decide) ?_
            refine V_msk [true, true, true, true, false, false] (lv' := [some (.long (lN w)), none, some (.int (nI r)), some (.int (nI (i + 1))), none, none]) ?_ (ih (i + 1) (by omega) (fun j hj => ?_))
            · simp only [msk, List.zipWith]
              rw [show nI i + Int32.ofInt 1 = nI (i + 1) from nI_1 i]
              rfl
            · rcases Nat.lt_or_ge j i with h | h
              · exact hall j h
              · rw [show j = i by omega]; exact hi1
          have hbit : w.testBit i = decide (w / 2 ^ i % 2 = 1) := Nat.testBit_eq_decide_div_mod_eq
          by_cases hbi : w / 2 ^ i % 2 = 0
          · skip
            refine V_if_eq_t F (tgt := 51) dX2_isOpen_35 (by decide) ((lg_cmp_eq _ _).mpr (by rw [hbi]; rfl)) ?_
            exact hnext (by rw [hbit, hbi]; rfl)
          · skip
            refine V_if_eq_f F (tgt := 51) dX2_isOpen_35 (by decide) (fun q => hbi ((lN_eq0 (by omega)).mp ((lg_cmp_eq _ _).mp q))) ?_
            refine V_iload F dX2_isOpen_38 rfl ?_
            refine V_iload F dX2_isOpen_40 rfl ?_
            refine V_iload_n F dX2_isOpen_42 rfl ?_
            refine V_callSNi F (c_areEqual (by omega) (by omega) hr) mi_X1_areEqual ms_X1_areEqual nk_X2_106 dX2_isOpen_43 (rmR (by omega)) rfl rfl (by decide) (Nat.le_of_ble_eq_true rfl) ?_
            by_cases he : xv r (i / 6) = xv r (i % 6)
            · rw [if_pos he]
              refine V_if_ne_t F (tgt := 51) dX2_isOpen_46 (by decide) (by decide) ?_
              exact hnext (by simp [he])
            · rw [if_neg he]
              refine V_if_ne_f F (tgt := 51) dX2_isOpen_46 (by decide) (by decide) ?_
              have e : ¬ gsb w r = true := fun q => by
                have := List.all_eq_true.mp q i (List.mem_range.mpr (by omega))
                rw [hbit, show w / 2 ^ i % 2 = 1 by omega] at this
                simp [he] at this
              rw [if_neg e]
              refine V_iconst F (v := nI 0) dX2_isOpen_49 (by decide) ?_
              exact V_zret F dX2_isOpen_50 (rfl) (⟨rfl, rfl⟩)
    refine V_iconst F (v := nI 0) dX2_isOpen_8 (by decide) ?_
    refine V_istore_n F (lv' := [_, _, _, _, _, _]) dX2_isOpen_9 (by decide) rfl rfl ?_
    exact loop 36 0 rfl (fun j hj => absurd hj (Nat.not_lt_zero j))
end CLEAF

