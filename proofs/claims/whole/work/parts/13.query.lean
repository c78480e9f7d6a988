section RES
def rFld (T : Tb) (n f : Nat) (p : Int32) : Int32 := match pj n p with
  | none => -1
  | some j => nI (T f j)
def rPart (T : Tb) (n : Nat) (p i : Int32) : Int32 := match pj n p with
  | none => -1
  | some j => match pj 2 i with
    | none => -1
    | some d => if d = 0 then (if T 0 j = 0 then -4 else nI (T 3 j)) else if T 0 j = 5 then nI (T 4 j) else -4
def rMC (T : Tb) (n : Nat) (p : Int32) : Int32 := match pj n p with
  | none => -1
  | some j => if T 7 j = 0 then nI (mvs T j []).length else -2
def rMv (f : Nat → Nat) (T : Tb) (n : Nat) (p mv : Int32) : Int32 := match pj n p with
  | none => -1
  | some j => if mv < 0 then -1 else if T 7 j = 0 then (match (mvs T j [])[mv.toNatClampNeg]? with
    | none => -4
    | some a => nI (f a)) else -2
def nmf (T : Tb) (a : Nat) : Nat := if T 0 a = 1 then 99 else if T 0 a = 2 then 10 * T 1 a + T 2 a else 10 * T 1 a + 9
end RES
section QUERY
variable {g : Gm} {l : Launch} {μ : Mem} {T : Tb} {n : Nat}
theorem nI_ge0 {j : Nat} (hj : j < 2 ^ 31) : 0 ≤ nI j := by rw [← nI_0]; exact (nI_leI (by omega) hj).mpr (Nat.zero_le _)
theorem mvs_at (hX : WF T n) {p i a : Nat} (hp : p < n) {r : List Nat} (h : (mvs T p r)[i]? = some a) : 0 < a ∧ a < n ∧ 1 ≤ T 0 a ∧ T 0 a ≤ 3 ∧ T 7 a ≤ T 7 p := by
  obtain ⟨h1, h2, h3, h4, h5, h6⟩ := mvs_mem hX hp (List.mem_of_getElem? h)
  exact ⟨h2, by omega, h3, h4, h6⟩
theorem c_kindOf (hX : XRep T n μ) (p : Int32) : Ct (GS g) l (1) yX3_kindOf cX3_kindOf 2 (some .int) [.ref (g.1 0), .int p] μ (Is (.int (rFld T n 0 p)) μ) := by
  have hn := hX.n24
  refine Ct.of (own := RX3) mi_X3_kindOf rfl [some (.ref (g.1 0)), some (.int p)] (Nat.le_of_ble_eq_true rfl) rfl (fun p₀ e₀ s₀ m₀ b₀ h₀ c₀ F => ?_)
  refine V_aload_n F dX3_kindOf_0 rfl ?_
  refine V_getf F (q0 := 0) (j := 0) lk_X3_10 dX3_kindOf_1 ig_X3 rfl rfl (by decide) rfl rfl ?_
  refine V_iload_n F dX3_kindOf_4 rfl ?_
  cases h : pj n p with
  | none =>
    have e : rFld T n 0 p = -1 := by unfold rFld; rw [h]
    rw [e]
    refine V_callVNi F (q0 := 1) (c_holds_f hX.2.1 (by omega) (pj_none h (by omega))) mi_X2_holds mm_X2_holds nk_X3_25 dX3_kindOf_5 (rmR (by omega)) rfl rfl (by decide) (Nat.le_of_ble_eq_true rfl) rfl rfl rfl ?_
    refine V_if_eq_t F (tgt := 25) dX3_kindOf_8 (by decide) (by decide) ?_
    refine V_iconst F (v := (-1)) dX3_kindOf_25 (by decide) ?_
    exact V_iret F dX3_kindOf_26 (⟨rfl, rfl⟩)
  | some j =>
    obtain ⟨hj, rfl⟩ := pj_some h (by omega)
    have e : rFld T n 0 (nI j) = nI (T 0 j) := by unfold rFld; rw [h]
    rw [e]
    refine V_callVNi F (q0 := 1) (c_holds_t hX.2.1 (by omega) hj) mi_X2_holds mm_X2_holds nk_X3_25 dX3_kindOf_5 (rmR (by omega)) rfl rfl (by decide) (Nat.le_of_ble_eq_true rfl) rfl rfl rfl ?_
    refine V_if_eq_f F (tgt := 25) dX3_kindOf_8 (by decide) (by decide) ?_
    refine V_aload_n F dX3_kindOf_11 rfl ?_
    refine V_getf F (q0 := 0) (j := 0) lk_X3_10 dX3_kindOf_12 ig_X3 rfl rfl (by decide) rfl rfl ?_
    refine V_getN F (q0 := 1) (j := 1) nk_X3_44 dX3_kindOf_15 ig_X2 rfl rfl (by decide) rfl rfl ?_
    refine V_iload_n F dX3_kindOf_18 rfl ?_
    refine V_callSi F (c_at (q := 3) rfl (show j < 24 by omega) (hX.fld 0 rfl (by omega) hj)) mi_X3_at ms_X3_at lk_X3_48 dX3_kindOf_19 (rmR (by omega)) rfl rfl (by decide) (Nat.le_of_ble_eq_true rfl) ?_
    refine V_goto F (tgt := 26) dX3_kindOf_22 (by decide) ?_
    exact V_iret F dX3_kindOf_26 (⟨rfl, rfl⟩)
theorem c_depthOf (hX : XRep T n μ) (p : Int32) : Ct (GS g) l (1) yX3_depthOf cX3_depthOf 2 (some .int) [.ref (g.1 0), .int p] μ (Is (.int (rFld T n 5 p)) μ) := by
  have hn := hX.n24
  refine Ct.of (own := RX3) mi_X3_depthOf rfl [some (.ref (g.1 0)), some (.int p)] (Nat.le_of_ble_eq_true rfl) rfl (fun p₀ e₀ s₀ m₀ b₀ h₀ c₀ F => ?_)
  refine V_aload_n F dX3_depthOf_0 rfl ?_
  refine V_getf F (q0 := 0) (j := 0) lk_X3_10 dX3_depthOf_1 ig_X3 rfl rfl (by decide) rfl rfl ?_
  refine V_iload_n F dX3_depthOf_4 rfl ?_
  cases h : pj n p with
  | none =>
    have e : rFld T n 5 p = -1 := by unfold rFld; rw [h]
    rw [e]
    refine V_callVNi F (q0 := 1) (c_holds_f hX.2.1 (by omega) (pj_none h (by omega))) mi_X2_holds mm_X2_holds nk_X3_25 dX3_depthOf_5 (rmR (by omega)) rfl rfl (by decide) (Nat.le_of_ble_eq_true rfl) rfl rfl rfl ?_
    refine V_if_eq_t F (tgt := 25) dX3_depthOf_8 (by decide) (by decide) ?_
    refine V_iconst F (v := (-1)) dX3_depthOf_25 (by decide) ?_
    exact V_iret F dX3_depthOf_26 (⟨rfl, rfl⟩)
  | some j =>
    obtain ⟨hj, rfl⟩ := pj_some h (by omega)
    have e : rFld T n 5 (nI j) = nI (T 5 j) := by unfold rFld; rw [h]
    rw [e]
    refine V_callVNi F (q0 := 1) (c_holds_t hX.2.1 (by omega) hj) mi_X2_holds mm_X2_holds nk_X3_25 dX3_depthOf_5 (rmR (by omega)) rfl rfl (by decide) (Nat.le_of_ble_eq_true rfl) rfl rfl rfl ?_
    refine V_if_eq_f F (tgt := 25) dX3_depthOf_8 (by decide) (by decide) ?_
    refine V_aload_n F dX3_depthOf_11 rfl ?_
    refine V_getf F (q0 := 0) (j := 0) lk_X3_10 dX3_depthOf_12 ig_X3 rfl rfl (by decide) rfl rfl ?_
    refine V_getN F (q0 := 1) (j := 6) nk_X3_62 dX3_depthOf_15 ig_X2 rfl rfl (by decide) rfl rfl ?_
    refine V_iload_n F dX3_depthOf_18 rfl ?_
    refine V_callSi F (c_at (q := 8) rfl (show j < 24 by omega) (hX.fld 5 rfl (by omega) hj)) mi_X3_at ms_X3_at lk_X3_48 dX3_depthOf_19 (rmR (by omega)) rfl rfl (by decide) (Nat.le_of_ble_eq_true rfl) ?_
    refine V_goto F (tgt := 26) dX3_depthOf_22 (by decide) ?_
    exact V_iret F dX3_depthOf_26 (⟨rfl, rfl⟩)
theorem c_needOf (hX : XRep T n μ) (p : Int32) : Ct (GS g) l (1) yX3_needOf cX3_needOf 2 (some .int) [.ref (g.1 0), .int p] μ (Is (.int (rFld T n 7 p)) μ) := by
  have hn := hX.n24
  refine Ct.of (own := RX3) mi_X3_needOf rfl [some (.ref (g.1 0)), some (.int p)] (Nat.le_of_ble_eq_true rfl) rfl (fun p₀ e₀ s₀ m₀ b₀ h₀ c₀ F => ?_)
  refine V_aload_n F dX3_needOf_0 rfl ?_
  refine V_getf F (q0 := 0) (j := 0) lk_X3_10 dX3_needOf_1 ig_X3 rfl rfl (by decide) rfl rfl ?_
  refine V_iload_n F dX3_needOf_4 rfl ?_
  cases h : pj n p with
  | none =>
    have e : rFld T n 7 p = -1 := by unfold rFld; rw [h]
    rw [e]
    refine V_callVNi F (q0 := 1) (c_holds_f hX.2.1 (by omega) (pj_none h (by omega))) mi_X2_holds mm_X2_holds nk_X3_25 dX3_needOf_5 (rmR (by omega)) rfl rfl (by decide) (Nat.le_of_ble_eq_true rfl) rfl rfl rfl ?_
    refine V_if_eq_t F (tgt := 25) dX3_needOf_8 (by decide) (by decide) ?_
    refine V_iconst F (v := (-1)) dX3_needOf_25 (by decide) ?_
    exact V_iret F dX3_needOf_26 (⟨rfl, rfl⟩)
  | some j =>
    obtain ⟨hj, rfl⟩ := pj_some h (by omega)
    have e : rFld T n 7 (nI j) = nI (T 7 j) := by unfold rFld; rw [h]
    rw [e]
    refine V_callVNi F (q0 := 1) (c_holds_t hX.2.1 (by omega) hj) mi_X2_holds mm_X2_holds nk_X3_25 dX3_needOf_5 (rmR (by omega)) rfl rfl (by decide) (Nat.le_of_ble_eq_true rfl) rfl rfl rfl ?_
    refine V_if_eq_f F (tgt := 25) dX3_needOf_8 (by decide) (by decide) ?_
    refine V_aload_n F dX3_needOf_11 rfl ?_
    refine V_getf F (q0 := 0) (j := 0) lk_X3_10 dX3_needOf_12 ig_X3 rfl rfl (by decide) rfl rfl ?_
    refine V_getN F (q0 := 1) (j := 8) nk_X3_65 dX3_needOf_15 ig_X2 rfl rfl (by decide) rfl rfl ?_
    refine V_iload_n F dX3_needOf_18 rfl ?_
    refine V_callSi F (c_at (q := 10) rfl (show j < 24 by omega) (hX.fld 7 rfl (by omega) hj)) mi_X3_at ms_X3_at lk_X3_48 dX3_needOf_19 (rmR (by omega)) rfl rfl (by decide) (Nat.le_of_ble_eq_true rfl) ?_
    refine V_goto F (tgt := 26) dX3_needOf_22 (by decide) ?_
    exact V_iret F dX3_needOf_26 (⟨rfl, rfl⟩)
theorem c_textLength (hX : XRep T n μ) (p : Int32) : Ct (GS g) l (1) yX3_textLength cX3_textLength 2 (some .int) [.ref (g.1 0), .int p] μ (Is (.int (rFld T n 8 p)) μ) := by
  have hn := hX.n24
  refine Ct.of (own := RX3) mi_X3_textLength rfl [some (.ref (g.1 0)), some (.int p)] (Nat.le_of_ble_eq_true rfl) rfl (fun p₀ e₀ s₀ m₀ b₀ h₀ c₀ F => ?_)
  refine V_aload_n F dX3_textLength_0 rfl ?_
  refine V_getf F (q0 := 0) (j := 0) lk_X3_10 dX3_textLength_1 ig_X3 rfl rfl (by decide) rfl rfl ?_
  refine V_iload_n F dX3_textLength_4 rfl ?_
  cases h : pj n p with
  | none =>
    have e : rFld T n 8 p = -1 := by unfold rFld; rw [h]
    rw [e]
    refine V_callVNi F (q0 := 1) (c_holds_f hX.2.1 (by omega) (pj_none h (by omega))) mi_X2_holds mm_X2_holds nk_X3_25 dX3_textLength_5 (rmR (by omega)) rfl rfl (by decide) (Nat.le_of_ble_eq_true rfl) rfl rfl rfl ?_
    refine V_if_eq_t F (tgt := 25) dX3_textLength_8 (by decide) (by decide) ?_
    refine V_iconst F (v := (-1)) dX3_textLength_25 (by decide) ?_
    exact V_iret F dX3_textLength_26 (⟨rfl, rfl⟩)
  | some j =>
    obtain ⟨hj, rfl⟩ := pj_some h (by omega)
    have e : rFld T n 8 (nI j) = nI (T 8 j) := by unfold rFld; rw [h]
    rw [e]
    refine V_callVNi F (q0 := 1) (c_holds_t hX.2.1 (by omega) hj) mi_X2_holds mm_X2_holds nk_X3_25 dX3_textLength_5 (rmR (by omega)) rfl rfl (by decide) (Nat.le_of_ble_eq_true rfl) rfl rfl rfl ?_
    refine V_if_eq_f F (tgt := 25) dX3_textLength_8 (by decide) (by decide) ?_
    refine V_aload_n F dX3_textLength_11 rfl ?_
    refine V_getf F (q0 := 0) (j := 0) lk_X3_10 dX3_textLength_12 ig_X3 rfl rfl (by decide) rfl rfl ?_
    refine V_getN F (q0 := 1) (j := 9) nk_X3_68 dX3_textLength_15 ig_X2 rfl rfl (by decide) rfl rfl ?_
    refine V_iload_n F dX3_textLength_18 rfl ?_
    refine V_callSi F (c_at (q := 11) rfl (show j < 24 by omega) (hX.fld 8 rfl (by omega) hj)) mi_X3_at ms_X3_at lk_X3_48 dX3_textLength_19 (rmR (by omega)) rfl rfl (by decide) (Nat.le_of_ble_eq_true rfl) ?_
    refine V_goto F (tgt := 26) dX3_textLength_22 (by decide) ?_
    exact V_iret F dX3_textLength_26 (⟨rfl, rfl⟩)
theorem c_processCount (hX : XRep T n μ) : Ct (GS g) l (0) yX3_processCount cX3_processCount 1 (some .int) [.ref (g.1 0)] μ (Is (.int (nI n)) μ) := by
  refine Ct.of (own := RX3) mi_X3_processCount rfl [some (.ref (g.1 0))] (Nat.le_of_ble_eq_true rfl) rfl (fun p₀ e₀ s₀ m₀ b₀ h₀ c₀ F => ?_)
  refine V_aload_n F dX3_processCount_0 rfl ?_
  refine V_getf F (q0 := 0) (j := 0) lk_X3_10 dX3_processCount_1 ig_X3 rfl rfl (by decide) rfl rfl ?_
  refine V_getN F (q0 := 1) (j := 0) nk_X3_36 dX3_processCount_4 ig_X2 rfl rfl (by decide) rfl rfl ?_
  refine V_val F (hX.2.1) ?_
  exact V_iret F dX3_processCount_7 (⟨rfl, rfl⟩)
theorem c_partOf (hX : XRep T n μ) (p i : Int32) : Ct (GS g) l (1) yX3_partOf cX3_partOf 3 (some .int) [.ref (g.1 0), .int p, .int i] μ (Is (.int (rPart T n p i)) μ) := by
  have hn := hX.n24
  refine Ct.of (own := RX3) mi_X3_partOf rfl [some (.ref (g.1 0)), some (.int p), some (.int i)] (Nat.le_of_ble_eq_true rfl) rfl (fun p₀ e₀ s₀ m₀ b₀ h₀ c₀ F => ?_)
  refine V_aload_n F dX3_partOf_0 rfl ?_
  refine V_getf F (q0 := 0) (j := 0) lk_X3_10 dX3_partOf_1 ig_X3 rfl rfl (by decide) rfl rfl ?_
  refine V_iload_n F dX3_partOf_4 rfl ?_
  cases h : pj n p with
  | none =>
    have e : rPart T n p i = -1 := by unfold rPart; rw [h]
    rw [e]
    refine V_callVNi F (q0 := 1) (c_holds_f hX.2.1 (by omega) (pj_none h (by omega))) mi_X2_holds mm_X2_holds nk_X3_25 dX3_partOf_5 (rmR (by omega)) rfl rfl (by decide) (Nat.le_of_ble_eq_true rfl) rfl rfl rfl ?_
    refine V_if_eq_t F (tgt := 20) dX3_partOf_8 (by decide) (by decide) ?_
    refine V_iconst F (v := (-1)) dX3_partOf_20 (by decide) ?_
    exact V_iret F dX3_partOf_21 (⟨rfl, rfl⟩)
  | some j =>
    obtain ⟨hj, rfl⟩ := pj_some h (by omega)
    have hk := hX.1.kind hj
    refine V_callVNi F (q0 := 1) (c_holds_t hX.2.1 (by omega) hj) mi_X2_holds mm_X2_holds nk_X3_25 dX3_partOf_5 (rmR (by omega)) rfl rfl (by decide) (Nat.le_of_ble_eq_true rfl) rfl rfl rfl ?_
    refine V_if_eq_f F (tgt := 20) dX3_partOf_8 (by decide) (by decide) ?_
    refine V_iload_n F dX3_partOf_11 rfl ?_
    cases h2 : pj 2 i with
    | none =>
      have e : rPart T n (nI j) i = -1 := by unfold rPart; rw [h]; simp only [h2]
      rw [e]
      rcases not_isP (by omega) (pj_none h2 (by omega)) with h0 | ⟨h0, h1⟩
      · skip
        refine V_if_lt_t F (tgt := 20) dX3_partOf_12 (by decide) (h0) ?_
        refine V_iconst F (v := (-1)) dX3_partOf_20 (by decide) ?_
        exact V_iret F dX3_partOf_21 (⟨rfl, rfl⟩)
      · skip
        refine V_if_lt_f F (tgt := 20) dX3_partOf_12 (by decide) (h0) ?_
        refine V_iload_n F dX3_partOf_15 rfl ?_
        refine V_iconst F (v := nI 1) dX3_partOf_16 (by decide) ?_
        refine V_icmp_le_f F (tgt := 22) dX3_partOf_17 (by decide) (fun q => by have : (2 : Int32) ≤ 1 := Int32.le_trans h1 q; exact absurd this (by decide)) ?_
        refine V_iconst F (v := (-1)) dX3_partOf_20 (by decide) ?_
        exact V_iret F dX3_partOf_21 (⟨rfl, rfl⟩)
    | some d =>
      obtain ⟨hd, rfl⟩ := pj_some h2 (by omega)
      have e : rPart T n (nI j) (nI d) = if d = 0 then (if T 0 j = 0 then -4 else nI (T 3 j)) else if T 0 j = 5 then nI (T 4 j) else -4 := by unfold rPart; rw [h]; simp only [h2]
      rw [e]
      refine V_if_lt_f F (tgt := 20) dX3_partOf_12 (by decide) (nI_nn (by omega)) ?_
      refine V_iload_n F dX3_partOf_15 rfl ?_
      refine V_iconst F (v := nI 1) dX3_partOf_16 (by decide) ?_
      refine V_icmp_le_t F (tgt := 22) dX3_partOf_17 (by decide) ((nI_leI (by omega) (by omega)).mpr (by omega)) ?_
      refine V_iload_n F dX3_partOf_22 rfl ?_
      refine V_aload_n F dX3_partOf_23 rfl ?_
      refine V_getf F (q0 := 0) (j := 0) lk_X3_10 dX3_partOf_24 ig_X3 rfl rfl (by decide) rfl rfl ?_
      refine V_getN F (q0 := 1) (j := 1) nk_X3_44 dX3_partOf_27 ig_X2 rfl rfl (by decide) rfl rfl ?_
      refine V_iload_n F dX3_partOf_30 rfl ?_
      refine V_callSi F (c_at (q := 3) rfl (show j < 24 by omega) (hX.fld 0 rfl (by omega) hj)) mi_X3_at ms_X3_at lk_X3_48 dX3_partOf_31 (rmR (by omega)) rfl rfl (by decide) (Nat.le_of_ble_eq_true rfl) ?_
      refine V_callSNi F (c_partsOfKind (by omega)) mi_X2_partsOfKind ms_X2_partsOfKind nk_X3_52 dX3_partOf_34 (rmR (by omega)) rfl rfl (by decide) (Nat.le_of_ble_eq_true rfl) ?_
      have hle : (if T 0 j = 0 then 0 else if T 0 j = 5 then 2 else 1) ≤ 2 := by split <;> first | omega | (split <;> omega)
      refine V_icmp_lt_N F (tgt := 43) dX3_partOf_37 (by decide) (by omega) (by omega) (fun hc => ?_) (fun hc => ?_)
      · skip
        refine V_iload_n F dX3_partOf_43 rfl ?_
        by_cases hd0 : d = 0
        · subst hd0
          rw [if_pos rfl, if_neg (by intro q; rw [q] at hc; simp at hc)]
          refine V_if_ne_f F (tgt := 57) dX3_partOf_44 (by decide) (nI_0) ?_
          refine V_aload_n F dX3_partOf_47 rfl ?_
          refine V_getf F (q0 := 0) (j := 0) lk_X3_10 dX3_partOf_48 ig_X3 rfl rfl (by decide) rfl rfl ?_
          refine V_getN F (q0 := 1) (j := 4) nk_X3_56 dX3_partOf_51 ig_X2 rfl rfl (by decide) rfl rfl ?_
          refine V_goto F (tgt := 64) dX3_partOf_54 (by decide) ?_
          refine V_iload_n F dX3_partOf_64 rfl ?_
          refine V_callSi F (c_at (q := 6) rfl (show j < 24 by omega) (hX.fld 3 rfl (by omega) hj)) mi_X3_at ms_X3_at lk_X3_48 dX3_partOf_65 (rmR (by omega)) rfl rfl (by decide) (Nat.le_of_ble_eq_true rfl) ?_
          exact V_iret F dX3_partOf_68 (⟨rfl, rfl⟩)
        · rw [if_neg hd0, if_pos (by split at hc <;> first | omega | (split at hc <;> omega))]
          refine V_if_ne_t F (tgt := 57) dX3_partOf_44 (by decide) (nI_nz (by omega) hd0) ?_
          refine V_aload_n F dX3_partOf_57 rfl ?_
          refine V_getf F (q0 := 0) (j := 0) lk_X3_10 dX3_partOf_58 ig_X3 rfl rfl (by decide) rfl rfl ?_
          refine V_getN F (q0 := 1) (j := 5) nk_X3_59 dX3_partOf_61 ig_X2 rfl rfl (by decide) rfl rfl ?_
          refine V_iload_n F dX3_partOf_64 rfl ?_
          refine V_callSi F (c_at (q := 7) rfl (show j < 24 by omega) (hX.fld 4 rfl (by omega) hj)) mi_X3_at ms_X3_at lk_X3_48 dX3_partOf_65 (rmR (by omega)) rfl rfl (by decide) (Nat.le_of_ble_eq_true rfl) ?_
          exact V_iret F dX3_partOf_68 (⟨rfl, rfl⟩)
      · have e2 : (if d = 0 then (if T 0 j = 0 then (-4 : Int32) else nI (T 3 j)) else if T 0 j = 5 then nI (T 4 j) else -4) = -4 := by
          split at hc
          · rename_i q
            by_cases hd0 : d = 0
            · rw [if_pos hd0, if_pos q]
            · rw [if_neg hd0, if_neg (by omega)]
          · split at hc
            · omega
            · rename_i q
              rw [if_neg (by omega), if_neg q]
        rw [e2]
        refine V_bipush F (v := (-4)) dX3_partOf_40 (by decide) ?_
        exact V_iret F dX3_partOf_42 (⟨rfl, rfl⟩)
theorem c_moveCount (hX : XRep T n μ) (p : Int32) : Ct (GS g) l (5) yX3_moveCount cX3_moveCount 2 (some .int) [.ref (g.1 0), .int p] μ (Is (.int (rMC T n p)) μ) := by
  have hn := hX.n24
  refine Ct.of (own := RX3) mi_X3_moveCount rfl [some (.ref (g.1 0)), some (.int p)] (Nat.le_of_ble_eq_true rfl) rfl (fun p₀ e₀ s₀ m₀ b₀ h₀ c₀ F => ?_)
  refine V_aload_n F dX3_moveCount_0 rfl ?_
  refine V_getf F (q0 := 0) (j := 0) lk_X3_10 dX3_moveCount_1 ig_X3 rfl rfl (by decide) rfl rfl ?_
  refine V_iload_n F dX3_moveCount_4 rfl ?_
  cases h : pj n p with
  | none =>
    have e : rMC T n p = -1 := by unfold rMC; rw [h]
    rw [e]
    refine V_callVNi F (q0 := 1) (c_holds_f hX.2.1 (by omega) (pj_none h (by omega))) mi_X2_holds mm_X2_holds nk_X3_25 dX3_moveCount_5 (rmR (by omega)) rfl rfl (by decide) (Nat.le_of_ble_eq_true rfl) rfl rfl rfl ?_
    refine V_if_ne_f F (tgt := 13) dX3_moveCount_8 (by decide) (by decide) ?_
    refine V_iconst F (v := (-1)) dX3_moveCount_11 (by decide) ?_
    exact V_iret F dX3_moveCount_12 (⟨rfl, rfl⟩)
  | some j =>
    obtain ⟨hj, rfl⟩ := pj_some h (by omega)
    have h7 := hX.1.need hj
    have e : rMC T n (nI j) = if T 7 j = 0 then nI (mvs T j []).length else -2 := by unfold rMC; rw [h]
    rw [e]
    refine V_callVNi F (q0 := 1) (c_holds_t hX.2.1 (by omega) hj) mi_X2_holds mm_X2_holds nk_X3_25 dX3_moveCount_5 (rmR (by omega)) rfl rfl (by decide) (Nat.le_of_ble_eq_true rfl) rfl rfl rfl ?_
    refine V_if_ne_t F (tgt := 13) dX3_moveCount_8 (by decide) (by decide) ?_
    refine V_aload_n F dX3_moveCount_13 rfl ?_
    refine V_getf F (q0 := 0) (j := 0) lk_X3_10 dX3_moveCount_14 ig_X3 rfl rfl (by decide) rfl rfl ?_
    refine V_iload_n F dX3_moveCount_17 rfl ?_
    refine V_callVNi F (q0 := 1) (c_isClosed (d := T 7 j) (by omega) (hX.fld 7 rfl (by omega) hj) (by omega)) mi_X2_isClosed mm_X2_isClosed nk_X3_75 dX3_moveCount_18 (rmR (by omega)) rfl rfl (by decide) (Nat.le_of_ble_eq_true rfl) rfl rfl rfl ?_
    by_cases h0 : T 7 j = 0
    · rw [if_pos h0, if_pos h0]
      refine V_if_eq_f F (tgt := 35) dX3_moveCount_21 (by decide) (by decide) ?_
      refine V_aload_n F dX3_moveCount_24 rfl ?_
      refine V_getf F (q0 := 0) (j := 0) lk_X3_10 dX3_moveCount_25 ig_X3 rfl rfl (by decide) rfl rfl ?_
      refine V_iload_n F dX3_moveCount_28 rfl ?_
      refine V_callVNi F (q0 := 1) (c_movesOf hX hj h0) mi_X2_movesOf mm_X2_movesOf nk_X3_78 dX3_moveCount_29 (rmR (by omega)) rfl rfl (by decide) (Nat.le_of_ble_eq_true rfl) rfl rfl rfl ?_
      refine V_goto F (tgt := 37) dX3_moveCount_32 (by decide) ?_
      exact V_iret F dX3_moveCount_37 (⟨rfl, rfl⟩)
    · rw [if_neg h0, if_neg h0]
      refine V_if_eq_t F (tgt := 35) dX3_moveCount_21 (by decide) (by decide) ?_
      refine V_bipush F (v := (-2)) dX3_moveCount_35 (by decide) ?_
      exact V_iret F dX3_moveCount_37 (⟨rfl, rfl⟩)
theorem c_actionOrError (hX : XRep T n μ) (p mv : Int32) : Ct (GS g) l (5) yX3_actionOrError cX3_actionOrError 3 (some .int) [.ref (g.1 0), .int p, .int mv] μ (Is (.int (rMv id T n p mv)) μ) := by
  have hn := hX.n24
  refine Ct.of (own := RX3) mi_X3_actionOrError rfl [some (.ref (g.1 0)), some (.int p), some (.int mv)] (Nat.le_of_ble_eq_true rfl) rfl (fun p₀ e₀ s₀ m₀ b₀ h₀ c₀ F => ?_)
  refine V_aload_n F dX3_actionOrError_0 rfl ?_
  refine V_getf F (q0 := 0) (j := 0) lk_X3_10 dX3_actionOrError_1 ig_X3 rfl rfl (by decide) rfl rfl ?_
  refine V_iload_n F dX3_actionOrError_4 rfl ?_
  cases h : pj n p with
  | none =>
    have e : rMv id T n p mv = -1 := by unfold rMv; rw [h]
    rw [e]
    refine V_callVNi F (q0 := 1) (c_holds_f hX.2.1 (by omega) (pj_none h (by omega))) mi_X2_holds mm_X2_holds nk_X3_25 dX3_actionOrError_5 (rmR (by omega)) rfl rfl (by decide) (Nat.le_of_ble_eq_true rfl) rfl rfl rfl ?_
    refine V_if_eq_t F (tgt := 15) dX3_actionOrError_8 (by decide) (by decide) ?_
    refine V_iconst F (v := (-1)) dX3_actionOrError_15 (by decide) ?_
    exact V_iret F dX3_actionOrError_16 (⟨rfl, rfl⟩)
  | some j =>
    obtain ⟨hj, rfl⟩ := pj_some h (by omega)
    have h7 := hX.1.need hj
    refine V_callVNi F (q0 := 1) (c_holds_t hX.2.1 (by omega) hj) mi_X2_holds mm_X2_holds nk_X3_25 dX3_actionOrError_5 (rmR (by omega)) rfl rfl (by decide) (Nat.le_of_ble_eq_true rfl) rfl rfl rfl ?_
    refine V_if_eq_f F (tgt := 15) dX3_actionOrError_8 (by decide) (by decide) ?_
    refine V_iload_n F dX3_actionOrError_11 rfl ?_
    by_cases hm : mv < 0
    · have e : rMv id T n (nI j) mv = -1 := by unfold rMv; rw [h]; simp only [if_pos hm]
      rw [e]
      refine V_if_ge_f F (tgt := 17) dX3_actionOrError_12 (by decide) (fun q => Int32.not_lt.mpr q hm) ?_
      refine V_iconst F (v := (-1)) dX3_actionOrError_15 (by decide) ?_
      exact V_iret F dX3_actionOrError_16 (⟨rfl, rfl⟩)
    · obtain ⟨i, hi, rfl⟩ := nI_of hm
      have e : rMv id T n (nI j) (nI i) = if T 7 j = 0 then ri (mvs T j [])[i]? else -2 := by
        unfold rMv; rw [h]; simp only [if_neg hm, nI_clamp hi]
        cases (mvs T j [])[i]? <;> rfl
      rw [e]
      refine V_if_ge_t F (tgt := 17) dX3_actionOrError_12 (by decide) (nI_ge0 hi) ?_
      refine V_aload_n F dX3_actionOrError_17 rfl ?_
      refine V_getf F (q0 := 0) (j := 0) lk_X3_10 dX3_actionOrError_18 ig_X3 rfl rfl (by decide) rfl rfl ?_
      refine V_iload_n F dX3_actionOrError_21 rfl ?_
      refine V_callVNi F (q0 := 1) (c_isClosed (d := T 7 j) (by omega) (hX.fld 7 rfl (by omega) hj) (by omega)) mi_X2_isClosed mm_X2_isClosed nk_X3_75 dX3_actionOrError_22 (rmR (by omega)) rfl rfl (by decide) (Nat.le_of_ble_eq_true rfl) rfl rfl rfl ?_
      by_cases h0 : T 7 j = 0
      · rw [if_pos h0, if_pos h0]
        refine V_if_eq_f F (tgt := 40) dX3_actionOrError_25 (by decide) (by decide) ?_
        refine V_aload_n F dX3_actionOrError_28 rfl ?_
        refine V_getf F (q0 := 0) (j := 0) lk_X3_10 dX3_actionOrError_29 ig_X3 rfl rfl (by decide) rfl rfl ?_
        refine V_iload_n F dX3_actionOrError_32 rfl ?_
        refine V_iload_n F dX3_actionOrError_33 rfl ?_
        refine V_callVNi F (q0 := 1) (c_actionOf hX hj h0 hi) mi_X2_actionOf mm_X2_actionOf nk_X3_106 dX3_actionOrError_34 (rmR (by omega)) rfl rfl (by decide) (Nat.le_of_ble_eq_true rfl) rfl rfl rfl ?_
        refine V_goto F (tgt := 42) dX3_actionOrError_37 (by decide) ?_
        exact V_iret F dX3_actionOrError_42 (⟨rfl, rfl⟩)
      · rw [if_neg h0, if_neg h0]
        refine V_if_eq_t F (tgt := 40) dX3_actionOrError_25 (by decide) (by decide) ?_
        refine V_bipush F (v := (-2)) dX3_actionOrError_40 (by decide) ?_
        exact V_iret F dX3_actionOrError_42 (⟨rfl, rfl⟩)
/-- the answer about a move: an error below 0, or the action -/
theorem rMv_cases (hX : WF T n) (f : Nat → Nat) (p mv : Int32) : (rMv id T n p mv < 0 ∧ rMv f T n p mv = rMv id T n p mv) ∨ ∃ a, a < n ∧ 0 < a ∧ 1 ≤ T 0 a ∧ T 0 a ≤ 3 ∧ rMv id T n p mv = nI a ∧ rMv f T n p mv = nI (f a) := by
  unfold rMv
  cases h : pj n p with
  | none => exact Or.inl ⟨(by decide : (-1 : Int32) < 0), rfl⟩
  | some j =>
    have hj := (pj_some h (by have := hX.1.2; omega)).1
    simp only
    by_cases hm : mv < 0
    · simp only [if_pos hm]; exact Or.inl ⟨by decide, trivial⟩
    · simp only [if_neg hm]
      by_cases h0 : T 7 j = 0
      · simp only [if_pos h0]
        cases hq : (mvs T j [])[mv.toNatClampNeg]? with
        | none => exact Or.inl ⟨(by decide : (-4 : Int32) < 0), rfl⟩
        | some a =>
          obtain ⟨h1, h2, h3, h4, -⟩ := mvs_at hX hj hq
          exact Or.inr ⟨a, h2, h1, h3, h4, rfl, rfl⟩
      · simp only [if_neg h0]; exact Or.inl ⟨by decide, trivial⟩
theorem c_moveKind (hX : XRep T n μ) (p mv : Int32) : Ct (GS g) l (6) yX3_moveKind cX3_moveKind 4 (some .int) [.ref (g.1 0), .int p, .int mv] μ (Is (.int (rMv (T 0) T n p mv)) μ) := by
  have hn := hX.n24
  refine Ct.of (own := RX3) mi_X3_moveKind rfl [some (.ref (g.1 0)), some (.int p), some (.int mv), none] (Nat.le_of_ble_eq_true rfl) rfl (fun p₀ e₀ s₀ m₀ b₀ h₀ c₀ F => ?_)
  refine V_aload_n F dX3_moveKind_0 rfl ?_
  refine V_iload_n F dX3_moveKind_1 rfl ?_
  refine V_iload_n F dX3_moveKind_2 rfl ?_
  refine V_callVi F (q0 := 0) (c_actionOrError hX p mv) mi_X3_actionOrError mm_X3_actionOrError lk_X3_81 dX3_moveKind_3 (rmR (by omega)) rfl rfl (by decide) (Nat.le_of_ble_eq_true rfl) rfl rfl rfl ?_
  refine V_istore_n F (lv' := [_, _, _, _]) dX3_moveKind_6 (by decide) rfl rfl ?_
  refine V_iload_n F dX3_moveKind_7 rfl ?_
  rcases rMv_cases hX.1 (T 0) p mv with ⟨h1, h2⟩ | ⟨a, ha, -, -, -, h1, h2⟩
  · skip
    refine V_if_ge_f F (tgt := 15) dX3_moveKind_8 (by decide) (fun q => Int32.not_lt.mpr q h1) ?_
    refine V_iload_n F dX3_moveKind_11 rfl ?_
    refine V_goto F (tgt := 26) dX3_moveKind_12 (by decide) ?_
    exact V_iret F dX3_moveKind_26 (⟨by rw [h2], rfl⟩)
  · rw [h1, h2]
    refine V_if_ge_t F (tgt := 15) dX3_moveKind_8 (by decide) (nI_ge0 (by omega)) ?_
    refine V_aload_n F dX3_moveKind_15 rfl ?_
    refine V_getf F (q0 := 0) (j := 0) lk_X3_10 dX3_moveKind_16 ig_X3 rfl rfl (by decide) rfl rfl ?_
    refine V_getN F (q0 := 1) (j := 1) nk_X3_44 dX3_moveKind_19 ig_X2 rfl rfl (by decide) rfl rfl ?_
    refine V_iload_n F dX3_moveKind_22 rfl ?_
    refine V_callSi F (c_at (q := 3) rfl (show a < 24 by omega) (hX.fld 0 rfl (by omega) ha)) mi_X3_at ms_X3_at lk_X3_48 dX3_moveKind_23 (rmR (by omega)) rfl rfl (by decide) (Nat.le_of_ble_eq_true rfl) ?_
    exact V_iret F dX3_moveKind_26 (⟨rfl, rfl⟩)
theorem c_moveTarget (hX : XRep T n μ) (p mv : Int32) : Ct (GS g) l (6) yX3_moveTarget cX3_moveTarget 4 (some .int) [.ref (g.1 0), .int p, .int mv] μ (Is (.int (rMv (T 3) T n p mv)) μ) := by
  have hn := hX.n24
  refine Ct.of (own := RX3) mi_X3_moveTarget rfl [some (.ref (g.1 0)), some (.int p), some (.int mv), none] (Nat.le_of_ble_eq_true rfl) rfl (fun p₀ e₀ s₀ m₀ b₀ h₀ c₀ F => ?_)
  refine V_aload_n F dX3_moveTarget_0 rfl ?_
  refine V_iload_n F dX3_moveTarget_1 rfl ?_
  refine V_iload_n F dX3_moveTarget_2 rfl ?_
  refine V_callVi F (q0 := 0) (c_actionOrError hX p mv) mi_X3_actionOrError mm_X3_actionOrError lk_X3_81 dX3_moveTarget_3 (rmR (by omega)) rfl rfl (by decide) (Nat.le_of_ble_eq_true rfl) rfl rfl rfl ?_
  refine V_istore_n F (lv' := [_, _, _, _]) dX3_moveTarget_6 (by decide) rfl rfl ?_
  refine V_iload_n F dX3_moveTarget_7 rfl ?_
  rcases rMv_cases hX.1 (T 3) p mv with ⟨h1, h2⟩ | ⟨a, ha, -, -, -, h1, h2⟩
  · skip
    refine V_if_ge_f F (tgt := 15) dX3_moveTarget_8 (by decide) (fun q => Int32.not_lt.mpr q h1) ?_
    refine V_iload_n F dX3_moveTarget_11 rfl ?_
    refine V_goto F (tgt := 26) dX3_moveTarget_12 (by decide) ?_
    exact V_iret F dX3_moveTarget_26 (⟨by rw [h2], rfl⟩)
  · rw [h1, h2]
    refine V_if_ge_t F (tgt := 15) dX3_moveTarget_8 (by decide) (nI_ge0 (by omega)) ?_
    refine V_aload_n F dX3_moveTarget_15 rfl ?_
    refine V_getf F (q0 := 0) (j := 0) lk_X3_10 dX3_moveTarget_16 ig_X3 rfl rfl (by decide) rfl rfl ?_
    refine V_getN F (q0 := 1) (j := 4) nk_X3_56 dX3_moveTarget_19 ig_X2 rfl rfl (by decide) rfl rfl ?_
    refine V_iload_n F dX3_moveTarget_22 rfl ?_
    refine V_callSi F (c_at (q := 6) rfl (show a < 24 by omega) (hX.fld 3 rfl (by omega) ha)) mi_X3_at ms_X3_at lk_X3_48 dX3_moveTarget_23 (rmR (by omega)) rfl rfl (by decide) (Nat.le_of_ble_eq_true rfl) ?_
    exact V_iret F dX3_moveTarget_26 (⟨rfl, rfl⟩)
theorem c_moveNames (hX : XRep T n μ) (p mv : Int32) : Ct (GS g) l (6) yX3_moveNames cX3_moveNames 7 (some .int) [.ref (g.1 0), .int p, .int mv] μ (Is (.int (rMv (nmf T) T n p mv)) μ) := by
  have hn := hX.n24
  refine Ct.of (own := RX3) mi_X3_moveNames rfl [some (.ref (g.1 0)), some (.int p), some (.int mv), none, none, none, none] (Nat.le_of_ble_eq_true rfl) rfl (fun p₀ e₀ s₀ m₀ b₀ h₀ c₀ F => ?_)
  refine V_aload_n F dX3_moveNames_0 rfl ?_
  refine V_iload_n F dX3_moveNames_1 rfl ?_
  refine V_iload_n F dX3_moveNames_2 rfl ?_
  refine V_callVi F (q0 := 0) (c_actionOrError hX p mv) mi_X3_actionOrError mm_X3_actionOrError lk_X3_81 dX3_moveNames_3 (rmR (by omega)) rfl rfl (by decide) (Nat.le_of_ble_eq_true rfl) rfl rfl rfl ?_
  refine V_istore_n F (lv' := [_, _, _, _, _, _, _]) dX3_moveNames_6 (by decide) rfl rfl ?_
  refine V_iload_n F dX3_moveNames_7 rfl ?_
  rcases rMv_cases hX.1 (nmf T) p mv with ⟨h1, h2⟩ | ⟨a, ha, h0, hk1, hk3, h1, h2⟩
  · skip
    refine V_if_ge_f F (tgt := 13) dX3_moveNames_8 (by decide) (fun q => Int32.not_lt.mpr q h1) ?_
    refine V_iload_n F dX3_moveNames_11 rfl ?_
    exact V_iret F dX3_moveNames_12 (⟨by rw [h2], rfl⟩)
  · rw [h1, h2]
    have hnm := hX.1.name ha
    refine V_if_ge_t F (tgt := 13) dX3_moveNames_8 (by decide) (nI_ge0 (by omega)) ?_
    refine V_aload_n F dX3_moveNames_13 rfl ?_
    refine V_getf F (q0 := 0) (j := 0) lk_X3_10 dX3_moveNames_14 ig_X3 rfl rfl (by decide) rfl rfl ?_
    refine V_getN F (q0 := 1) (j := 1) nk_X3_44 dX3_moveNames_17 ig_X2 rfl rfl (by decide) rfl rfl ?_
    refine V_iload_n F dX3_moveNames_20 rfl ?_
    refine V_callSi F (c_at (q := 3) rfl (show a < 24 by omega) (hX.fld 0 rfl (by omega) ha)) mi_X3_at ms_X3_at lk_X3_48 dX3_moveNames_21 (rmR (by omega)) rfl rfl (by decide) (Nat.le_of_ble_eq_true rfl) ?_
    refine V_istore F (lv' := [_, _, _, _, _, _, _]) dX3_moveNames_24 (by decide) rfl rfl ?_
    refine V_iload F dX3_moveNames_26 rfl ?_
    refine V_iconst F (v := nI 1) dX3_moveNames_28 (by decide) ?_
    refine V_icmp_ne_N F (tgt := 37) dX3_moveNames_29 (by decide) (by omega) (by omega) (fun hk => ?_) (fun hk => ?_)
    · skip
      refine V_aload_n F dX3_moveNames_37 rfl ?_
      refine V_getf F (q0 := 0) (j := 0) lk_X3_10 dX3_moveNames_38 ig_X3 rfl rfl (by decide) rfl rfl ?_
      refine V_getN F (q0 := 1) (j := 2) nk_X3_84 dX3_moveNames_41 ig_X2 rfl rfl (by decide) rfl rfl ?_
      refine V_iload_n F dX3_moveNames_44 rfl ?_
      refine V_callSi F (c_at (q := 4) rfl (show a < 24 by omega) (hX.fld 1 rfl (by omega) ha)) mi_X3_at ms_X3_at lk_X3_48 dX3_moveNames_45 (rmR (by omega)) rfl rfl (by decide) (Nat.le_of_ble_eq_true rfl) ?_
      refine V_istore F (lv' := [_, _, _, _, _, _, _]) dX3_moveNames_48 (by decide) rfl rfl ?_
      refine V_iload F dX3_moveNames_50 rfl ?_
      refine V_iconst F (v := nI 2) dX3_moveNames_52 (by decide) ?_
      refine V_icmp_ne_N F (tgt := 70) dX3_moveNames_53 (by decide) (by omega) (by omega) (fun hk2 => ?_) (fun hk2 => ?_)
      · skip
        refine V_bipush F (v := nI 9) dX3_moveNames_70 (by decide) ?_
        refine V_istore F (lv' := [_, _, _, _, _, _, _]) dX3_moveNames_72 (by decide) rfl rfl ?_
        refine V_bipush F (v := nI 10) dX3_moveNames_74 (by decide) ?_
        refine V_iload F dX3_moveNames_76 rfl ?_
        (first | refine V_imulN F dX3_moveNames_78 ?_ | refine V_imul F dX3_moveNames_78 ?_)
        refine V_iload F dX3_moveNames_79 rfl ?_
        (first | refine V_iaddN F dX3_moveNames_81 ?_ | refine V_iadd F dX3_moveNames_81 ?_)
        exact V_iret F dX3_moveNames_82 (⟨by rw [nmf, if_neg hk, if_neg hk2], rfl⟩)
      · skip
        refine V_aload_n F dX3_moveNames_56 rfl ?_
        refine V_getf F (q0 := 0) (j := 0) lk_X3_10 dX3_moveNames_57 ig_X3 rfl rfl (by decide) rfl rfl ?_
        refine V_getN F (q0 := 1) (j := 3) nk_X3_87 dX3_moveNames_60 ig_X2 rfl rfl (by decide) rfl rfl ?_
        refine V_iload_n F dX3_moveNames_63 rfl ?_
        refine V_callSi F (c_at (q := 5) rfl (show a < 24 by omega) (hX.fld 2 rfl (by omega) ha)) mi_X3_at ms_X3_at lk_X3_48 dX3_moveNames_64 (rmR (by omega)) rfl rfl (by decide) (Nat.le_of_ble_eq_true rfl) ?_
        refine V_goto F (tgt := 72) dX3_moveNames_67 (by decide) ?_
        refine V_istore F (lv' := [_, _, _, _, _, _, _]) dX3_moveNames_72 (by decide) rfl rfl ?_
        refine V_bipush F (v := nI 10) dX3_moveNames_74 (by decide) ?_
        refine V_iload F dX3_moveNames_76 rfl ?_
        (first | refine V_imulN F dX3_moveNames_78 ?_ | refine V_imul F dX3_moveNames_78 ?_)
        refine V_iload F dX3_moveNames_79 rfl ?_
        (first | refine V_iaddN F dX3_moveNames_81 ?_ | refine V_iadd F dX3_moveNames_81 ?_)
        exact V_iret F dX3_moveNames_82 (⟨by rw [nmf, if_neg hk, if_pos (Classical.not_not.mp hk2)], rfl⟩)
    · have hk := Classical.not_not.mp hk
      refine V_bipush F (v := nI 9) dX3_moveNames_32 (by decide) ?_
      refine V_goto F (tgt := 48) dX3_moveNames_34 (by decide) ?_
      refine V_istore F (lv' := [_, _, _, _, _, _, _]) dX3_moveNames_48 (by decide) rfl rfl ?_
      refine V_iload F dX3_moveNames_50 rfl ?_
      refine V_iconst F (v := nI 2) dX3_moveNames_52 (by decide) ?_
      refine V_icmp_ne_N F (tgt := 70) dX3_moveNames_53 (by decide) (by omega) (by omega) (fun hk2 => ?_) (fun hk2 => ?_)
      · skip
        refine V_bipush F (v := nI 9) dX3_moveNames_70 (by decide) ?_
        refine V_istore F (lv' := [_, _, _, _, _, _, _]) dX3_moveNames_72 (by decide) rfl rfl ?_
        refine V_bipush F (v := nI 10) dX3_moveNames_74 (by decide) ?_
        refine V_iload F dX3_moveNames_76 rfl ?_
        (first | refine V_imulN F dX3_moveNames_78 ?_ | refine V_imul F dX3_moveNames_78 ?_)
        refine V_iload F dX3_moveNames_79 rfl ?_
        (first | refine V_iaddN F dX3_moveNames_81 ?_ | refine V_iadd F dX3_moveNames_81 ?_)
        exact V_iret F dX3_moveNames_82 (⟨by rw [nmf, if_pos hk], rfl⟩)
      · omega
end QUERY

