section RES
def rFld (T : Tb) (n f : Nat) (p : Int32) : Int32 := match pj n p with
  | none => -1
  | some j => nI (T f j)
def rPart (T : Tb) (n : Nat) (p i : Int32) : Int32 := match pj n p with
  | none => -1
  | some j => match pj 2 i with
    | none => -1
    | some d => if d = 0 then (if T 0 j = 0 then -4 else nI (T 3 j)) else if T 0 j = 5 then nI (T 4 j) else -4
def rMC (T : Tb) (n : Nat) (p : Int32) : Int32 := match pj n p with
  | none => -1
  | some j => if T 7 j = 0 then nI (mvs T j []).length else -2
def rMv (f : Nat → Nat) (T : Tb) (n : Nat) (p mv : Int32) : Int32 := match pj n p with
  | none => -1
  | some j => if mv < 0 then -1 else if T 7 j = 0 then (match (mvs T j [])[mv.toNatClampNeg]? with
    | none => -4
    | some a => nI (f a)) else -2
def nmf (T : Tb) (a : Nat) : Nat := if T 0 a = 1 then 99 else if T 0 a = 2 then 10 * T 1 a + T 2 a else 10 * T 1 a + 9
end RES
section QUERY
variable {g : Gm} {l : Launch} {μ : Mem} {T : Tb} {n : Nat}
theorem nI_ge0 {j : Nat} (hj : j < 2 ^ 31) : 0 ≤ nI j := by rw [← nI_0]; exact (nI_leI (by omega) hj).mpr (Nat.zero_le _)
theorem mvs_at (hX : WF T n) {p i a : Nat} (hp : p < n) {r : List Nat} (h : (mvs T p r)[i]? = some a) : 0 < a ∧ a < n ∧ 1 ≤ T 0 a ∧ T 0 a ≤ 3 ∧ T 7 a ≤ T 7 p := by
  obtain ⟨h1, h2, h3, h4, h5, h6⟩ := mvs_mem hX hp (List.mem_of_getElem? h)
  exact ⟨h2, by omega, h3, h4, h6⟩
theorem c_depthOf (hX : XRep T n μ) (p : Int32) : Ct (GS g) l (1) yX3_depthOf cX3_depthOf 2 (some .int) [.ref (g.1 0), .int p] μ (Is (.int (rFld T n 5 p)) μ) := by
  have hn := hX.n24
  refine Ct.of (own := RX3) mi_X3_depthOf rfl [some (.ref (g.1 0)), some (.int p)] (Nat.le_of_ble_eq_true rfl) rfl (fun p₀ e₀ s₀ m₀ b₀ h₀ c₀ F => ?_)
  refine V_aload_n F dX3_depthOf_0 rfl ?_
  refine V_getf F (q0 := 0) (j := 0) lk_X3_10 dX3_depthOf_1 ig_X3 rfl rfl (by decide) rfl rfl ?_
  refine V_iload_n F dX3_depthOf_4 rfl ?_
  cases h : pj n p with
  | none =>
    have e : rFld T n 5 p = -1 := by unfold rFld; rw [h]
    rw [e]
    refine V_callVNi F (q0 := 1) (c_holds_f hX.2.1 (by omega) (pj_none h (by omega))) mi_X2_holds mm_X2_holds nk_X3_25 dX3_depthOf_5 (rmR (by omega)) rfl rfl (by decide) (Nat.le_of_ble_eq_true rfl) rfl rfl rfl ?_
    refine V_if_eq_t F (tgt := 25) dX3_depthOf_8 (by decide) (by decide) ?_
    refine V_iconst F (v := (-1)) dX3_depthOf_25 (by decide) ?_
    exact V_iret F dX3_depthOf_26 (⟨rfl, rfl⟩)
  | some j =>
    obtain ⟨hj, rfl⟩ := pj_some h (by omega)
    have e : rFld T n 5 (nI j) = nI (T 5 j) := by unfold rFld; rw [h]
    rw [e]
    refine V_callVNi F (q0 := 1) (c_holds_t hX.2.1 (by omega) hj) mi_X2_holds mm_X2_holds nk_X3_25 dX3_depthOf_5 (rmR (by omega)) rfl rfl (by decide) (Nat.le_of_ble_eq_true rfl) rfl rfl rfl ?_
    refine V_if_eq_f F (tgt := 25) dX3_depthOf_8 (by decide) (by decide) ?_
    refine V_aload_n F dX3_depthOf_11 rfl ?_
    refine V_getf F (q0 := 0) (j := 0) lk_X3_10 dX3_depthOf_12 ig_X3 rfl rfl (by decide) rfl rfl ?_
    refine V_getN F (q0 := 1) (j := 6) nk_X3_62 dX3_depthOf_15 ig_X2 rfl rfl (by decide) rfl rfl ?_
    refine V_iload_n F dX3_depthOf_18 rfl ?_
    refine V_callSi F (c_at (q := 8) rfl (show j < 24 by omega) (hX.fld 5 rfl (by omega) hj)) mi_X3_at ms_X3_at lk_X3_48 dX3_depthOf_19 (rmR (by omega)) rfl rfl (by decide) (Nat.le_of_ble_eq_true rfl) ?_
    refine V_goto F (tgt := 26) dX3_depthOf_22 (by decide) ?_
    exact V_iret F dX3_depthOf_26 (⟨rfl, rfl⟩)
theorem c_needOf (hX : XRep T n μ) (p : Int32) : Ct (GS g) l (1) yX3_needOf cX3_needOf 2 (some .int) [.ref (g.1 0), .int p] μ (Is (.int (rFld T n 7 p)) μ) := by
  have hn := hX.n24
  refine Ct.of (own := RX3) mi_X3_needOf rfl [some (.ref (g.1 0)), some (.int p)] (Nat.le_of_ble_eq_true rfl) rfl (fun p₀ e₀ s₀ m₀ b₀ h₀ c₀ F => ?_)
  refine V_aload_n F dX3_needOf_0 rfl ?_
  refine V_getf F (q0 := 0) (j := 0) lk_X3_10 dX3_needOf_1 ig_X3 rfl rfl (by decide) rfl rfl ?_
  refine V_iload_n F dX3_needOf_4 rfl ?_
  cases h : pj n p with
  | none =>
    have e : rFld T n 7 p = -1 := by unfold rFld; rw [h]
    rw [e]
    refine V_callVNi F (q0 := 1) (c_holds_f hX.2.1 (by omega) (pj_none h (by omega))) mi_X2_holds mm_X2_holds nk_X3_25 dX3_needOf_5 (rmR (by omega)) rfl rfl (by decide) (Nat.le_of_ble_eq_true rfl) rfl rfl rfl ?_
    refine V_if_eq_t F (tgt := 25) dX3_needOf_8 (by decide) (by decide) ?_
    refine V_iconst F (v := (-1)) dX3_needOf_25 (by decide) ?_
    exact V_iret F dX3_needOf_26 (⟨rfl, rfl⟩)
  | some j =>
    obtain ⟨hj, rfl⟩ := pj_some h (by omega)
    have e : rFld T n 7 (nI j) = nI (T 7 j) := by unfold rFld; rw [h]
    rw [e]
    refine V_callVNi F (q0 := 1) (c_holds_t hX.2.1 (by omega) hj) mi_X2_holds mm_X2_holds nk_X3_25 dX3_needOf_5 (rmR (by omega)) rfl rfl (by decide) (Nat.le_of_ble_eq_true rfl) rfl rfl rfl ?_
    refine V_if_eq_f F (tgt := 25) dX3_needOf_8 (by decide) (by decide) ?_
    refine V_aload_n F dX3_needOf_11 rfl ?_
    refine V_getf F (q0 := 0) (j := 0) lk_X3_10 dX3_needOf_12 ig_X3 rfl rfl (by decide) rfl rfl ?_
    refine V_getN F (q0 := 1) (j := 8) nk_X3_65 dX3_needOf_15 ig_X2 rfl rfl (by decide) rfl rfl ?_
    refine V_iload_n F dX3_needOf_18 rfl ?_
    refine V_callSi F (c_at (q := 10) rfl (show j < 24 by omega) (hX.fld 7 rfl (by omega) hj)) mi_X3_at ms_X3_at lk_X3_48 dX3_needOf_19 (rmR (by omega)) rfl rfl (by decide) (Nat.le_of_ble_eq_true rfl) ?_
    refine V_goto F (tgt := 26) dX3_needOf_22 (by decide) ?_
    exact V_iret F dX3_needOf_26 (⟨rfl, rfl⟩)
theorem c_textLength (hX : XRep T n μ) (p : Int32) : Ct (GS g) l (1) yX3_textLength cX3_textLength 2 (some .int) [.ref (g.1 0), .int p] μ (Is (.int (rFld T n 8 p)) μ) := by
  have hn := hX.n24
  refine Ct.of (own := RX3) mi_X3_textLength rfl [some (.ref (g.1 0)), some (.int p)] (Nat.le_of_ble_eq_true rfl) rfl (fun p₀ e₀ s₀ m₀ b₀ h₀ c₀ F => ?_)
  refine V_aload_n F dX3_textLength_0 rfl ?_
  refine V_getf F (q0 := 0) (j := 0) lk_X3_10 dX3_textLength_1 ig_X3 rfl rfl (by decide) rfl rfl ?_
  refine V_iload_n F dX3_textLength_4 rfl ?_
  cases h : pj n p with
  | none =>
    have e : rFld T n 8 p = -1 := by unfold rFld; rw [h]
    rw [e]
    refine V_callVNi F (q0 := 1) (c_holds_f hX.2.1 (by omega) (pj_none h (by omega))) mi_X2_holds mm_X2_holds nk_X3_25 dX3_textLength_5 (rmR (by omega)) rfl rfl (by decide) (Nat.le_of_ble_eq_true rfl) rfl rfl rfl ?_
    refine V_if_eq_t F (tgt := 25) dX3_textLength_8 (by decide) (by decide) ?_
    refine V_iconst F (v := (-1)) dX3_textLength_25 (by decide) ?_
    exact V_iret F dX3_textLength_26 (⟨rfl, rfl⟩)
  | some j =>
    obtain ⟨hj, rfl⟩ := pj_some h (by omega)
    have e : rFld T n 8 (nI j) = nI (T 8 j) := by unfold rFld; rw [h]
    rw [e]
    refine V_callVNi F (q0 := 1) (c_holds_t hX.2.1 (by omega) hj) mi_X2_holds mm_X2_holds nk_X3_25 dX3_textLength_5 (rmR (by omega)) rfl rfl (by decide) (Nat.le_of_ble_eq_true rfl) rfl rfl rfl ?_
    refine V_if_eq_f F (tgt := 25) dX3_textLength_8 (by decide) (by decide) ?_
    refine V_aload_n F dX3_textLength_11 rfl ?_
    refine V_getf F (q0 := 0) (j := 0) lk_X3_10 dX3_textLength_12 ig_X3 rfl rfl (by decide) rfl rfl ?_
    refine V_getN F (q0 := 1) (j := 9) nk_X3_68 dX3_textLength_15 ig_X2 rfl rfl (by decide) rfl rfl ?_
    refine V_iload_n F dX3_textLength_18 rfl ?_
    refine V_callSi F (c_at (q := 11) rfl (show j < 24 by omega) (hX.fld 8 rfl (by omega) hj)) mi_X3_at ms_X3_at lk_X3_48 dX3_textLength_19 (rmR (by omega)) rfl rfl (by decide) (Nat.le_of_ble_eq_true rfl) ?_
    refine V_goto F (tgt := 26) dX3_textLength_22 (by decide) ?_
    exact V_iret F dX3_textLength_26 (⟨rfl, rfl⟩)
theorem c_processCount (hX : XRep T n μ) : Ct (GS g) l (0) yX3_processCount cX3_processCount 1 (some .int) [.ref (g.1 0)] μ (Is (.int (nI n)) μ) := by
  refine Ct.of (own := RX3) mi_X3_processCount rfl [some (.ref (g.1 0))] (Nat.le_of_ble_eq_true rfl) rfl (fun p₀ e₀ s₀ m₀ b₀ h₀ c₀ F => ?_)
  refine V_aload_n F dX3_processCount_0 rfl ?_
  refine V_getf F (q0 := 0) (j := 0) lk_X3_10 dX3_processCount_1 ig_X3 rfl rfl (by decide) rfl rfl ?_
  refine V_getN F (q0 := 1) (j := 0) nk_X3_36 dX3_processCount_4 ig_X2 rfl rfl (by decide) rfl rfl ?_
  refine V_val F (hX.2.1) ?_
  exact V_iret F dX3_processCount_7 (⟨rfl, rfl⟩)
theorem c_moveCount (hX : XRep T n μ) (p : Int32) : Ct (GS g) l (5) yX3_moveCount cX3_moveCount 2 (some .int) [.ref (g.1 0), .int p] μ (Is (.int (rMC T n p)) μ) := by
  have hn := hX.n24
  refine Ct.of (own := RX3) mi_X3_moveCount rfl [some (.ref (g.1 0)), some (.int p)] (Nat.le_of_ble_eq_true rfl) rfl (fun p₀ e₀ s₀ m₀ b₀ h₀ c₀ F => ?_)
  refine V_aload_n F dX3_moveCount_0 rfl ?_
  refine V_getf F (q0 := 0) (j := 0) lk_X3_10 dX3_moveCount_1 ig_X3 rfl rfl (by decide) rfl rfl ?_
  refine V_iload_n F dX3_moveCount_4 rfl ?_
  cases h : pj n p with
  | none =>
    have e : rMC T n p = -1 := by unfold rMC; rw [h]
    rw [e]
    refine V_callVNi F (q0 := 1) (c_holds_f hX.2.1 (by omega) (pj_none h (by omega))) mi_X2_holds mm_X2_holds nk_X3_25 dX3_moveCount_5 (rmR (by omega)) rfl rfl (by decide) (Nat.le_of_ble_eq_true rfl) rfl rfl rfl ?_
    refine V_if_ne_f F (tgt := 13) dX3_moveCount_8 (by decide) (by decide) ?_
    refine V_iconst F (v := (-1)) dX3_moveCount_11 (by decide) ?_
    exact V_iret F dX3_moveCount_12 (⟨rfl, rfl⟩)
  | some j =>
    obtain ⟨hj, rfl⟩ := pj_some h (by omega)
    have h7 := hX.1.need hj
    have e : rMC T n (nI j) = if T 7 j = 0 then nI (mvs T j []).length else -2 := by unfold rMC; rw [h]
    rw [e]
    refine V_callVNi F (q0 := 1) (c_holds_t hX.2.1 (by omega) hj) mi_X2_holds mm_X2_holds nk_X3_25 dX3_moveCount_5 (rmR (by omega)) rfl rfl (by decide) (Nat.le_of_ble_eq_true rfl) rfl rfl rfl ?_
    refine V_if_ne_t F (tgt := 13) dX3_moveCount_8 (by decide) (by decide) ?_
    refine V_aload_n F dX3_moveCount_13 rfl ?_
    refine V_getf F (q0 := 0) (j := 0) lk_X3_10 dX3_moveCount_14 ig_X3 rfl rfl (by decide) rfl rfl ?_
    refine V_iload_n F dX3_moveCount_17 rfl ?_
    refine V_callVNi F (q0 := 1) (c_isClosed (d := T 7 j) (by omega) (hX.fld 7 rfl (by omega) hj) (by omega)) mi_X2_isClosed mm_X2_isClosed nk_X3_75 dX3_moveCount_18 (rmR (by omega)) rfl rfl (by decide) (Nat.le_of_ble_eq_true rfl) rfl rfl rfl ?_
    by_cases h0 : T 7 j = 0
    · rw [if_pos h0, if_pos h0]
      refine V_if_eq_f F (tgt := 35) dX3_moveCount_21 (by decide) (by decide) ?_
      refine V_aload_n F dX3_moveCount_24 rfl ?_
      refine V_getf F (q0 := 0) (j := 0) lk_X3_10 dX3_moveCount_25 ig_X3 rfl rfl (by decide) rfl rfl ?_
      refine V_iload_n F dX3_moveCount_28 rfl ?_
      refine V_callVNi F (q0 := 1) (c_movesOf hX hj h0) mi_X2_movesOf mm_X2_movesOf nk_X3_78 dX3_moveCount_29 (rmR (by omega)) rfl rfl (by decide) (Nat.le_of_ble_eq_true rfl) rfl rfl rfl ?_
      refine V_goto F (tgt := 37) dX3_moveCount_32 (by decide) ?_
      exact V_iret F dX3_moveCount_37 (⟨rfl, rfl⟩)
    · rw [if_neg h0, if_neg h0]
      refine V_if_eq_t F (tgt := 35) dX3_moveCount_21 (by decide) (by decide) ?_
      refine V_bipush F (v := (-2)) dX3_moveCount_35 (by decide) ?_
      exact V_iret F dX3_moveCount_37 (⟨rfl, rfl⟩)
end QUERY

