section MODELB
variable {g : Gm} {l : Launch} {μ : Mem} {T : Tb} {n : Nat}
theorem c_mCount (hI : MInv T n μ) : Ct (GS g) l (0) yX4_processCount cX4_processCount 1 (some .int) [.ref (g.1 15)] μ (Is (.int (nI n)) μ) := by
  refine Ct.of (own := RX4) mi_X4_processCount rfl [some (.ref (g.1 15))] (Nat.le_of_ble_eq_true rfl) rfl (fun p₀ e₀ s₀ m₀ b₀ h₀ c₀ F => ?_)
  refine V_aload_n F dX4_processCount_0 rfl ?_
  refine V_getf F (q0 := 15) (j := 0) lk_X4_7 dX4_processCount_1 ig_X4 rfl rfl (by decide) rfl rfl ?_
  refine V_val F (hI.2.1) ?_
  exact V_iret F dX4_processCount_4 (⟨rfl, rfl⟩)
theorem c_mkindOf (hI : MInv T n μ) (p : Int32) : Ct (GS g) l (2) yX4_kindOf cX4_kindOf 2 (some .int) [.ref (g.1 15), .int p] μ (Is (.int (rFld T n 0 p)) μ) := by
  have hn := hI.n24
  refine Ct.of (own := RX4) mi_X4_kindOf rfl [some (.ref (g.1 15)), some (.int p)] (Nat.le_of_ble_eq_true rfl) rfl (fun p₀ e₀ s₀ m₀ b₀ h₀ c₀ F => ?_)
  refine V_aload_n F dX4_kindOf_0 rfl ?_
  refine V_iload_n F dX4_kindOf_1 rfl ?_
  cases h : pj n p with
  | none =>
    have e : rFld T n 0 p = -1 := by unfold rFld; rw [h]
    rw [e]
    refine V_callVi F (q0 := 15) (c_isProc_f hI.2.1 (by omega) (by omega) (pj_none h (by omega))) mi_X4_isProcess mm_X4_isProcess lk_X4_77 dX4_kindOf_2 (rmR (by omega)) rfl rfl (by decide) (Nat.le_of_ble_eq_true rfl) rfl rfl rfl ?_
    refine V_if_eq_t F (tgt := 17) dX4_kindOf_5 (by decide) (by decide) ?_
    refine V_iconst F (v := (-1)) dX4_kindOf_17 (by decide) ?_
    exact V_iret F dX4_kindOf_18 (⟨rfl, rfl⟩)
  | some j =>
    obtain ⟨hj, rfl⟩ := pj_some h (by omega)
    have e : rFld T n 0 (nI j) = nI (T 0 j) := by unfold rFld; rw [h]
    rw [e]
    refine V_callVi F (q0 := 15) (c_isProc_t hI.2.1 (by omega) hj) mi_X4_isProcess mm_X4_isProcess lk_X4_77 dX4_kindOf_2 (rmR (by omega)) rfl rfl (by decide) (Nat.le_of_ble_eq_true rfl) rfl rfl rfl ?_
    refine V_if_eq_f F (tgt := 17) dX4_kindOf_5 (by decide) (by decide) ?_
    refine V_aload_n F dX4_kindOf_8 rfl ?_
    refine V_getf F (q0 := 15) (j := 1) lk_X4_13 dX4_kindOf_9 ig_X4 rfl rfl (by decide) rfl rfl ?_
    refine V_iload_n F dX4_kindOf_12 rfl ?_
    refine V_ia F dX4_kindOf_13 rfl rfl (show j < 24 by omega) (hI.fld 0 rfl (by omega) hj) ?_
    refine V_goto F (tgt := 18) dX4_kindOf_14 (by decide) ?_
    exact V_iret F dX4_kindOf_18 (⟨rfl, rfl⟩)
theorem c_mdepthOf (hI : MInv T n μ) (p : Int32) : Ct (GS g) l (2) yX4_depthOf cX4_depthOf 2 (some .int) [.ref (g.1 15), .int p] μ (Is (.int (rFld T n 5 p)) μ) := by
  have hn := hI.n24
  refine Ct.of (own := RX4) mi_X4_depthOf rfl [some (.ref (g.1 15)), some (.int p)] (Nat.le_of_ble_eq_true rfl) rfl (fun p₀ e₀ s₀ m₀ b₀ h₀ c₀ F => ?_)
  refine V_aload_n F dX4_depthOf_0 rfl ?_
  refine V_iload_n F dX4_depthOf_1 rfl ?_
  cases h : pj n p with
  | none =>
    have e : rFld T n 5 p = -1 := by unfold rFld; rw [h]
    rw [e]
    refine V_callVi F (q0 := 15) (c_isProc_f hI.2.1 (by omega) (by omega) (pj_none h (by omega))) mi_X4_isProcess mm_X4_isProcess lk_X4_77 dX4_depthOf_2 (rmR (by omega)) rfl rfl (by decide) (Nat.le_of_ble_eq_true rfl) rfl rfl rfl ?_
    refine V_if_eq_t F (tgt := 17) dX4_depthOf_5 (by decide) (by decide) ?_
    refine V_iconst F (v := (-1)) dX4_depthOf_17 (by decide) ?_
    exact V_iret F dX4_depthOf_18 (⟨rfl, rfl⟩)
  | some j =>
    obtain ⟨hj, rfl⟩ := pj_some h (by omega)
    have e : rFld T n 5 (nI j) = nI (T 5 j) := by unfold rFld; rw [h]
    rw [e]
    refine V_callVi F (q0 := 15) (c_isProc_t hI.2.1 (by omega) hj) mi_X4_isProcess mm_X4_isProcess lk_X4_77 dX4_depthOf_2 (rmR (by omega)) rfl rfl (by decide) (Nat.le_of_ble_eq_true rfl) rfl rfl rfl ?_
    refine V_if_eq_f F (tgt := 17) dX4_depthOf_5 (by decide) (by decide) ?_
    refine V_aload_n F dX4_depthOf_8 rfl ?_
    refine V_getf F (q0 := 15) (j := 6) lk_X4_29 dX4_depthOf_9 ig_X4 rfl rfl (by decide) rfl rfl ?_
    refine V_iload_n F dX4_depthOf_12 rfl ?_
    refine V_ia F dX4_depthOf_13 rfl rfl (show j < 24 by omega) (hI.fld 5 rfl (by omega) hj) ?_
    refine V_goto F (tgt := 18) dX4_depthOf_14 (by decide) ?_
    exact V_iret F dX4_depthOf_18 (⟨rfl, rfl⟩)
theorem c_mneedOf (hI : MInv T n μ) (p : Int32) : Ct (GS g) l (2) yX4_needOf cX4_needOf 2 (some .int) [.ref (g.1 15), .int p] μ (Is (.int (rFld T n 7 p)) μ) := by
  have hn := hI.n24
  refine Ct.of (own := RX4) mi_X4_needOf rfl [some (.ref (g.1 15)), some (.int p)] (Nat.le_of_ble_eq_true rfl) rfl (fun p₀ e₀ s₀ m₀ b₀ h₀ c₀ F => ?_)
  refine V_aload_n F dX4_needOf_0 rfl ?_
  refine V_iload_n F dX4_needOf_1 rfl ?_
  cases h : pj n p with
  | none =>
    have e : rFld T n 7 p = -1 := by unfold rFld; rw [h]
    rw [e]
    refine V_callVi F (q0 := 15) (c_isProc_f hI.2.1 (by omega) (by omega) (pj_none h (by omega))) mi_X4_isProcess mm_X4_isProcess lk_X4_77 dX4_needOf_2 (rmR (by omega)) rfl rfl (by decide) (Nat.le_of_ble_eq_true rfl) rfl rfl rfl ?_
    refine V_if_eq_t F (tgt := 17) dX4_needOf_5 (by decide) (by decide) ?_
    refine V_iconst F (v := (-1)) dX4_needOf_17 (by decide) ?_
    exact V_iret F dX4_needOf_18 (⟨rfl, rfl⟩)
  | some j =>
    obtain ⟨hj, rfl⟩ := pj_some h (by omega)
    have e : rFld T n 7 (nI j) = nI (T 7 j) := by unfold rFld; rw [h]
    rw [e]
    refine V_callVi F (q0 := 15) (c_isProc_t hI.2.1 (by omega) hj) mi_X4_isProcess mm_X4_isProcess lk_X4_77 dX4_needOf_2 (rmR (by omega)) rfl rfl (by decide) (Nat.le_of_ble_eq_true rfl) rfl rfl rfl ?_
    refine V_if_eq_f F (tgt := 17) dX4_needOf_5 (by decide) (by decide) ?_
    refine V_aload_n F dX4_needOf_8 rfl ?_
    refine V_getf F (q0 := 15) (j := 8) lk_X4_35 dX4_needOf_9 ig_X4 rfl rfl (by decide) rfl rfl ?_
    refine V_iload_n F dX4_needOf_12 rfl ?_
    refine V_ia F dX4_needOf_13 rfl rfl (show j < 24 by omega) (hI.fld 7 rfl (by omega) hj) ?_
    refine V_goto F (tgt := 18) dX4_needOf_14 (by decide) ?_
    exact V_iret F dX4_needOf_18 (⟨rfl, rfl⟩)
theorem c_mtextLength (hI : MInv T n μ) (p : Int32) : Ct (GS g) l (2) yX4_textLength cX4_textLength 2 (some .int) [.ref (g.1 15), .int p] μ (Is (.int (rFld T n 8 p)) μ) := by
  have hn := hI.n24
  refine Ct.of (own := RX4) mi_X4_textLength rfl [some (.ref (g.1 15)), some (.int p)] (Nat.le_of_ble_eq_true rfl) rfl (fun p₀ e₀ s₀ m₀ b₀ h₀ c₀ F => ?_)
  refine V_aload_n F dX4_textLength_0 rfl ?_
  refine V_iload_n F dX4_textLength_1 rfl ?_
  cases h : pj n p with
  | none =>
    have e : rFld T n 8 p = -1 := by unfold rFld; rw [h]
    rw [e]
    refine V_callVi F (q0 := 15) (c_isProc_f hI.2.1 (by omega) (by omega) (pj_none h (by omega))) mi_X4_isProcess mm_X4_isProcess lk_X4_77 dX4_textLength_2 (rmR (by omega)) rfl rfl (by decide) (Nat.le_of_ble_eq_true rfl) rfl rfl rfl ?_
    refine V_if_eq_t F (tgt := 17) dX4_textLength_5 (by decide) (by decide) ?_
    refine V_iconst F (v := (-1)) dX4_textLength_17 (by decide) ?_
    exact V_iret F dX4_textLength_18 (⟨rfl, rfl⟩)
  | some j =>
    obtain ⟨hj, rfl⟩ := pj_some h (by omega)
    have e : rFld T n 8 (nI j) = nI (T 8 j) := by unfold rFld; rw [h]
    rw [e]
    refine V_callVi F (q0 := 15) (c_isProc_t hI.2.1 (by omega) hj) mi_X4_isProcess mm_X4_isProcess lk_X4_77 dX4_textLength_2 (rmR (by omega)) rfl rfl (by decide) (Nat.le_of_ble_eq_true rfl) rfl rfl rfl ?_
    refine V_if_eq_f F (tgt := 17) dX4_textLength_5 (by decide) (by decide) ?_
    refine V_aload_n F dX4_textLength_8 rfl ?_
    refine V_getf F (q0 := 15) (j := 9) lk_X4_38 dX4_textLength_9 ig_X4 rfl rfl (by decide) rfl rfl ?_
    refine V_iload_n F dX4_textLength_12 rfl ?_
    refine V_ia F dX4_textLength_13 rfl rfl (show j < 24 by omega) (hI.fld 8 rfl (by omega) hj) ?_
    refine V_goto F (tgt := 18) dX4_textLength_14 (by decide) ?_
    exact V_iret F dX4_textLength_18 (⟨rfl, rfl⟩)
theorem c_mtau (hI : MInv T n μ) (p : Int32) : Ct (GS g) l (2) yX4_tau cX4_tau 2 (some .int) [.ref (g.1 15), .int p] μ (MP T n (oTau n p) μ) := by
  have hn := hI.n24
  refine Ct.of (own := RX4) mi_X4_tau rfl [some (.ref (g.1 15)), some (.int p)] (Nat.le_of_ble_eq_true rfl) rfl (fun p₀ e₀ s₀ m₀ b₀ h₀ c₀ F => ?_)
  refine V_aload_n F dX4_tau_0 rfl ?_
  refine V_iload_n F dX4_tau_1 rfl ?_
  cases h : pj n p with
  | none =>
    have e : oTau n p = none := by unfold oTau; rw [h]
    refine V_callVi F (q0 := 15) (c_isProc_f hI.2.1 (by omega) (by omega) (pj_none h (by omega))) mi_X4_isProcess mm_X4_isProcess lk_X4_77 dX4_tau_2 (rmR (by omega)) rfl rfl (by decide) (Nat.le_of_ble_eq_true rfl) rfl rfl rfl ?_
    refine V_if_eq_t F (tgt := 20) dX4_tau_5 (by decide) (by decide) ?_
    refine V_iconst F (v := (-1)) dX4_tau_20 (by decide) ?_
    exact V_iret F dX4_tau_21 (by rw [e]; exact ⟨rfl, rfl⟩)
  | some j =>
    obtain ⟨hj, rfl⟩ := pj_some h (by omega)
    have e : oTau n (nI j) = some (1, 0, 0, j, 0) := by unfold oTau; rw [h]
    refine V_callVi F (q0 := 15) (c_isProc_t hI.2.1 (by omega) hj) mi_X4_isProcess mm_X4_isProcess lk_X4_77 dX4_tau_2 (rmR (by omega)) rfl rfl (by decide) (Nat.le_of_ble_eq_true rfl) rfl rfl rfl ?_
    refine V_if_eq_f F (tgt := 20) dX4_tau_5 (by decide) (by decide) ?_
    refine V_aload_n F dX4_tau_8 rfl ?_
    refine V_iconst F (v := nI 1) dX4_tau_9 (by decide) ?_
    refine V_iconst F (v := nI 0) dX4_tau_10 (by decide) ?_
    refine V_iconst F (v := nI 0) dX4_tau_11 (by decide) ?_
    refine V_iload_n F dX4_tau_12 rfl ?_
    refine V_iconst F (v := nI 0) dX4_tau_13 (by decide) ?_
    refine V_callV F (q0 := 15) (c_builds hI (bOk_tau hj)) mi_X4_builds mm_X4_builds lk_X4_81 dX4_tau_14 (rmR (by omega)) rfl rfl (by decide) (Nat.le_of_ble_eq_true rfl) rfl rfl rfl (fun r μ' h => ?_)
    rcases h with ⟨h1, rfl, h2⟩ | ⟨h1, rfl, h2⟩
    · skip
      refine V_goto F (tgt := 21) dX4_tau_17 (by decide) ?_
      exact V_iret F dX4_tau_21 (by rw [e]; exact Or.inl ⟨h1, rfl, h2⟩)
    · skip
      refine V_goto F (tgt := 21) dX4_tau_17 (by decide) ?_
      exact V_iret F dX4_tau_21 (by rw [e]; exact Or.inr ⟨h1, rfl, h2⟩)
theorem c_minput (hI : MInv T n μ) (x p : Int32) : Ct (GS g) l (2) yX4_input cX4_input 3 (some .int) [.ref (g.1 15), .int x, .int p] μ (MP T n (oIn n x p) μ) := by
  have hn := hI.n24
  refine Ct.of (own := RX4) mi_X4_input rfl [some (.ref (g.1 15)), some (.int x), some (.int p)] (Nat.le_of_ble_eq_true rfl) rfl (fun p₀ e₀ s₀ m₀ b₀ h₀ c₀ F => ?_)
  refine V_iload_n F dX4_input_0 rfl ?_
  cases hx : pj 6 x with
  | none =>
    have e : oIn n x p = none := by unfold oIn; rw [hx]
    refine V_callSi F (c_mName_f (pj_none hx (by omega))) mi_X4_isName ms_X4_isName lk_X4_85 dX4_input_1 (rmR (by omega)) rfl rfl (by decide) (Nat.le_of_ble_eq_true rfl) ?_
    refine V_if_eq_t F (tgt := 27) dX4_input_4 (by decide) (by decide) ?_
    refine V_iconst F (v := (-1)) dX4_input_27 (by decide) ?_
    exact V_iret F dX4_input_28 (by rw [e]; exact ⟨rfl, rfl⟩)
  | some a =>
    obtain ⟨ha, rfl⟩ := pj_some hx (by omega)
    refine V_callSi F (c_mName_t ha) mi_X4_isName ms_X4_isName lk_X4_85 dX4_input_1 (rmR (by omega)) rfl rfl (by decide) (Nat.le_of_ble_eq_true rfl) ?_
    refine V_if_eq_f F (tgt := 27) dX4_input_4 (by decide) (by decide) ?_
    refine V_aload_n F dX4_input_7 rfl ?_
    refine V_iload_n F dX4_input_8 rfl ?_
    cases h : pj n p with
    | none =>
      have e : oIn n (nI a) p = none := by unfold oIn; rw [hx]; simp only [h]
      refine V_callVi F (q0 := 15) (c_isProc_f hI.2.1 (by omega) (by omega) (pj_none h (by omega))) mi_X4_isProcess mm_X4_isProcess lk_X4_77 dX4_input_9 (rmR (by omega)) rfl rfl (by decide) (Nat.le_of_ble_eq_true rfl) rfl rfl rfl ?_
      refine V_if_eq_t F (tgt := 27) dX4_input_12 (by decide) (by decide) ?_
      refine V_iconst F (v := (-1)) dX4_input_27 (by decide) ?_
      exact V_iret F dX4_input_28 (by rw [e]; exact ⟨rfl, rfl⟩)
    | some j =>
      obtain ⟨hj, rfl⟩ := pj_some h (by omega)
      have e : oIn n (nI a) (nI j) = some (3, a, 0, j, 0) := by unfold oIn; rw [hx]; simp only [h]
      refine V_callVi F (q0 := 15) (c_isProc_t hI.2.1 (by omega) hj) mi_X4_isProcess mm_X4_isProcess lk_X4_77 dX4_input_9 (rmR (by omega)) rfl rfl (by decide) (Nat.le_of_ble_eq_true rfl) rfl rfl rfl ?_
      refine V_if_eq_f F (tgt := 27) dX4_input_12 (by decide) (by decide) ?_
      refine V_aload_n F dX4_input_15 rfl ?_
      refine V_iconst F (v := nI 3) dX4_input_16 (by decide) ?_
      refine V_iload_n F dX4_input_17 rfl ?_
      refine V_iconst F (v := nI 0) dX4_input_18 (by decide) ?_
      refine V_iload_n F dX4_input_19 rfl ?_
      refine V_iconst F (v := nI 0) dX4_input_20 (by decide) ?_
      refine V_callV F (q0 := 15) (c_builds hI (bOk_in ha hj)) mi_X4_builds mm_X4_builds lk_X4_81 dX4_input_21 (rmR (by omega)) rfl rfl (by decide) (Nat.le_of_ble_eq_true rfl) rfl rfl rfl (fun r μ' h => ?_)
      rcases h with ⟨h1, rfl, h2⟩ | ⟨h1, rfl, h2⟩
      · skip
        refine V_goto F (tgt := 28) dX4_input_24 (by decide) ?_
        exact V_iret F dX4_input_28 (by rw [e]; exact Or.inl ⟨h1, rfl, h2⟩)
      · skip
        refine V_goto F (tgt := 28) dX4_input_24 (by decide) ?_
        exact V_iret F dX4_input_28 (by rw [e]; exact Or.inr ⟨h1, rfl, h2⟩)
theorem c_moutput (hI : MInv T n μ) (x y p : Int32) : Ct (GS g) l (2) yX4_output cX4_output 4 (some .int) [.ref (g.1 15), .int x, .int y, .int p] μ (MP T n (oOut n x y p) μ) := by
  have hn := hI.n24
  refine Ct.of (own := RX4) mi_X4_output rfl [some (.ref (g.1 15)), some (.int x), some (.int y), some (.int p)] (Nat.le_of_ble_eq_true rfl) rfl (fun p₀ e₀ s₀ m₀ b₀ h₀ c₀ F => ?_)
  refine V_iload_n F dX4_output_0 rfl ?_
  cases hx : pj 6 x with
  | none =>
    have e : oOut n x y p = none := by unfold oOut; rw [hx]
    refine V_callSi F (c_mName_f (pj_none hx (by omega))) mi_X4_isName ms_X4_isName lk_X4_85 dX4_output_1 (rmR (by omega)) rfl rfl (by decide) (Nat.le_of_ble_eq_true rfl) ?_
    refine V_if_eq_t F (tgt := 34) dX4_output_4 (by decide) (by decide) ?_
    refine V_iconst F (v := (-1)) dX4_output_34 (by decide) ?_
    exact V_iret F dX4_output_35 (by rw [e]; exact ⟨rfl, rfl⟩)
  | some a =>
    obtain ⟨ha, rfl⟩ := pj_some hx (by omega)
    refine V_callSi F (c_mName_t ha) mi_X4_isName ms_X4_isName lk_X4_85 dX4_output_1 (rmR (by omega)) rfl rfl (by decide) (Nat.le_of_ble_eq_true rfl) ?_
    refine V_if_eq_f F (tgt := 34) dX4_output_4 (by decide) (by decide) ?_
    refine V_iload_n F dX4_output_7 rfl ?_
    cases hy : pj 6 y with
    | none =>
      have e : oOut n (nI a) y p = none := by unfold oOut; rw [hx]; simp only [hy]
      refine V_callSi F (c_mName_f (pj_none hy (by omega))) mi_X4_isName ms_X4_isName lk_X4_85 dX4_output_8 (rmR (by omega)) rfl rfl (by decide) (Nat.le_of_ble_eq_true rfl) ?_
      refine V_if_eq_t F (tgt := 34) dX4_output_11 (by decide) (by decide) ?_
      refine V_iconst F (v := (-1)) dX4_output_34 (by decide) ?_
      exact V_iret F dX4_output_35 (by rw [e]; exact ⟨rfl, rfl⟩)
    | some b =>
      obtain ⟨hb, rfl⟩ := pj_some hy (by omega)
      refine V_callSi F (c_mName_t hb) mi_X4_isName ms_X4_isName lk_X4_85 dX4_output_8 (rmR (by omega)) rfl rfl (by decide) (Nat.le_of_ble_eq_true rfl) ?_
      refine V_if_eq_f F (tgt := 34) dX4_output_11 (by decide) (by decide) ?_
      refine V_aload_n F dX4_output_14 rfl ?_
      refine V_iload_n F dX4_output_15 rfl ?_
      cases h : pj n p with
      | none =>
        have e : oOut n (nI a) (nI b) p = none := by unfold oOut; rw [hx]; simp only [hy, h]
        refine V_callVi F (q0 := 15) (c_isProc_f hI.2.1 (by omega) (by omega) (pj_none h (by omega))) mi_X4_isProcess mm_X4_isProcess lk_X4_77 dX4_output_16 (rmR (by omega)) rfl rfl (by decide) (Nat.le_of_ble_eq_true rfl) rfl rfl rfl ?_
        refine V_if_eq_t F (tgt := 34) dX4_output_19 (by decide) (by decide) ?_
        refine V_iconst F (v := (-1)) dX4_output_34 (by decide) ?_
        exact V_iret F dX4_output_35 (by rw [e]; exact ⟨rfl, rfl⟩)
      | some j =>
        obtain ⟨hj, rfl⟩ := pj_some h (by omega)
        have e : oOut n (nI a) (nI b) (nI j) = some (2, a, b, j, 0) := by unfold oOut; rw [hx]; simp only [hy, h]
        refine V_callVi F (q0 := 15) (c_isProc_t hI.2.1 (by omega) hj) mi_X4_isProcess mm_X4_isProcess lk_X4_77 dX4_output_16 (rmR (by omega)) rfl rfl (by decide) (Nat.le_of_ble_eq_true rfl) rfl rfl rfl ?_
        refine V_if_eq_f F (tgt := 34) dX4_output_19 (by decide) (by decide) ?_
        refine V_aload_n F dX4_output_22 rfl ?_
        refine V_iconst F (v := nI 2) dX4_output_23 (by decide) ?_
        refine V_iload_n F dX4_output_24 rfl ?_
        refine V_iload_n F dX4_output_25 rfl ?_
        refine V_iload_n F dX4_output_26 rfl ?_
        refine V_iconst F (v := nI 0) dX4_output_27 (by decide) ?_
        refine V_callV F (q0 := 15) (c_builds hI (bOk_out ha hb hj)) mi_X4_builds mm_X4_builds lk_X4_81 dX4_output_28 (rmR (by omega)) rfl rfl (by decide) (Nat.le_of_ble_eq_true rfl) rfl rfl rfl (fun r μ' h => ?_)
        rcases h with ⟨h1, rfl, h2⟩ | ⟨h1, rfl, h2⟩
        · skip
          refine V_goto F (tgt := 35) dX4_output_31 (by decide) ?_
          exact V_iret F dX4_output_35 (by rw [e]; exact Or.inl ⟨h1, rfl, h2⟩)
        · skip
          refine V_goto F (tgt := 35) dX4_output_31 (by decide) ?_
          exact V_iret F dX4_output_35 (by rw [e]; exact Or.inr ⟨h1, rfl, h2⟩)
theorem c_mmatch (hI : MInv T n μ) (x y p : Int32) : Ct (GS g) l (2) yX4_match cX4_match 4 (some .int) [.ref (g.1 15), .int x, .int y, .int p] μ (MP T n (oMat n x y p) μ) := by
  have hn := hI.n24
  refine Ct.of (own := RX4) mi_X4_match rfl [some (.ref (g.1 15)), some (.int x), some (.int y), some (.int p)] (Nat.le_of_ble_eq_true rfl) rfl (fun p₀ e₀ s₀ m₀ b₀ h₀ c₀ F => ?_)
  refine V_iload_n F dX4_match_0 rfl ?_
  cases hx : pj 6 x with
  | none =>
    have e : oMat n x y p = none := by unfold oMat; rw [hx]
    refine V_callSi F (c_mName_f (pj_none hx (by omega))) mi_X4_isName ms_X4_isName lk_X4_85 dX4_match_1 (rmR (by omega)) rfl rfl (by decide) (Nat.le_of_ble_eq_true rfl) ?_
    refine V_if_eq_t F (tgt := 34) dX4_match_4 (by decide) (by decide) ?_
    refine V_iconst F (v := (-1)) dX4_match_34 (by decide) ?_
    exact V_iret F dX4_match_35 (by rw [e]; exact ⟨rfl, rfl⟩)
  | some a =>
    obtain ⟨ha, rfl⟩ := pj_some hx (by omega)
    refine V_callSi F (c_mName_t ha) mi_X4_isName ms_X4_isName lk_X4_85 dX4_match_1 (rmR (by omega)) rfl rfl (by decide) (Nat.le_of_ble_eq_true rfl) ?_
    refine V_if_eq_f F (tgt := 34) dX4_match_4 (by decide) (by decide) ?_
    refine V_iload_n F dX4_match_7 rfl ?_
    cases hy : pj 6 y with
    | none =>
      have e : oMat n (nI a) y p = none := by unfold oMat; rw [hx]; simp only [hy]
      refine V_callSi F (c_mName_f (pj_none hy (by omega))) mi_X4_isName ms_X4_isName lk_X4_85 dX4_match_8 (rmR (by omega)) rfl rfl (by decide) (Nat.le_of_ble_eq_true rfl) ?_
      refine V_if_eq_t F (tgt := 34) dX4_match_11 (by decide) (by decide) ?_
      refine V_iconst F (v := (-1)) dX4_match_34 (by decide) ?_
      exact V_iret F dX4_match_35 (by rw [e]; exact ⟨rfl, rfl⟩)
    | some b =>
      obtain ⟨hb, rfl⟩ := pj_some hy (by omega)
      refine V_callSi F (c_mName_t hb) mi_X4_isName ms_X4_isName lk_X4_85 dX4_match_8 (rmR (by omega)) rfl rfl (by decide) (Nat.le_of_ble_eq_true rfl) ?_
      refine V_if_eq_f F (tgt := 34) dX4_match_11 (by decide) (by decide) ?_
      refine V_aload_n F dX4_match_14 rfl ?_
      refine V_iload_n F dX4_match_15 rfl ?_
      cases h : pj n p with
      | none =>
        have e : oMat n (nI a) (nI b) p = none := by unfold oMat; rw [hx]; simp only [hy, h]
        refine V_callVi F (q0 := 15) (c_isProc_f hI.2.1 (by omega) (by omega) (pj_none h (by omega))) mi_X4_isProcess mm_X4_isProcess lk_X4_77 dX4_match_16 (rmR (by omega)) rfl rfl (by decide) (Nat.le_of_ble_eq_true rfl) rfl rfl rfl ?_
        refine V_if_eq_t F (tgt := 34) dX4_match_19 (by decide) (by decide) ?_
        refine V_iconst F (v := (-1)) dX4_match_34 (by decide) ?_
        exact V_iret F dX4_match_35 (by rw [e]; exact ⟨rfl, rfl⟩)
      | some j =>
        obtain ⟨hj, rfl⟩ := pj_some h (by omega)
        have e : oMat n (nI a) (nI b) (nI j) = some (4, a, b, j, 0) := by unfold oMat; rw [hx]; simp only [hy, h]
        refine V_callVi F (q0 := 15) (c_isProc_t hI.2.1 (by omega) hj) mi_X4_isProcess mm_X4_isProcess lk_X4_77 dX4_match_16 (rmR (by omega)) rfl rfl (by decide) (Nat.le_of_ble_eq_true rfl) rfl rfl rfl ?_
        refine V_if_eq_f F (tgt := 34) dX4_match_19 (by decide) (by decide) ?_
        refine V_aload_n F dX4_match_22 rfl ?_
        refine V_iconst F (v := nI 4) dX4_match_23 (by decide) ?_
        refine V_iload_n F dX4_match_24 rfl ?_
        refine V_iload_n F dX4_match_25 rfl ?_
        refine V_iload_n F dX4_match_26 rfl ?_
        refine V_iconst F (v := nI 0) dX4_match_27 (by decide) ?_
        refine V_callV F (q0 := 15) (c_builds hI (bOk_mat ha hb hj)) mi_X4_builds mm_X4_builds lk_X4_81 dX4_match_28 (rmR (by omega)) rfl rfl (by decide) (Nat.le_of_ble_eq_true rfl) rfl rfl rfl (fun r μ' h => ?_)
        rcases h with ⟨h1, rfl, h2⟩ | ⟨h1, rfl, h2⟩
        · skip
          refine V_goto F (tgt := 35) dX4_match_31 (by decide) ?_
          exact V_iret F dX4_match_35 (by rw [e]; exact Or.inl ⟨h1, rfl, h2⟩)
        · skip
          refine V_goto F (tgt := 35) dX4_match_31 (by decide) ?_
          exact V_iret F dX4_match_35 (by rw [e]; exact Or.inr ⟨h1, rfl, h2⟩)
theorem c_msum (hI : MInv T n μ) (p q : Int32) : Ct (GS g) l (2) yX4_sum cX4_sum 3 (some .int) [.ref (g.1 15), .int p, .int q] μ (MP T n (oSum n p q) μ) := by
  have hn := hI.n24
  refine Ct.of (own := RX4) mi_X4_sum rfl [some (.ref (g.1 15)), some (.int p), some (.int q)] (Nat.le_of_ble_eq_true rfl) rfl (fun p₀ e₀ s₀ m₀ b₀ h₀ c₀ F => ?_)
  refine V_aload_n F dX4_sum_0 rfl ?_
  refine V_iload_n F dX4_sum_1 rfl ?_
  cases hp : pj n p with
  | none =>
    have e : oSum n p q = none := by unfold oSum; rw [hp]
    refine V_callVi F (q0 := 15) (c_isProc_f hI.2.1 (by omega) (by omega) (pj_none hp (by omega))) mi_X4_isProcess mm_X4_isProcess lk_X4_77 dX4_sum_2 (rmR (by omega)) rfl rfl (by decide) (Nat.le_of_ble_eq_true rfl) rfl rfl rfl ?_
    refine V_if_eq_t F (tgt := 28) dX4_sum_5 (by decide) (by decide) ?_
    refine V_iconst F (v := (-1)) dX4_sum_28 (by decide) ?_
    exact V_iret F dX4_sum_29 (by rw [e]; exact ⟨rfl, rfl⟩)
  | some i =>
    obtain ⟨hi, rfl⟩ := pj_some hp (by omega)
    refine V_callVi F (q0 := 15) (c_isProc_t hI.2.1 (by omega) hi) mi_X4_isProcess mm_X4_isProcess lk_X4_77 dX4_sum_2 (rmR (by omega)) rfl rfl (by decide) (Nat.le_of_ble_eq_true rfl) rfl rfl rfl ?_
    refine V_if_eq_f F (tgt := 28) dX4_sum_5 (by decide) (by decide) ?_
    refine V_aload_n F dX4_sum_8 rfl ?_
    refine V_iload_n F dX4_sum_9 rfl ?_
    cases h : pj n q with
    | none =>
      have e : oSum n (nI i) q = none := by unfold oSum; rw [hp]; simp only [h]
      refine V_callVi F (q0 := 15) (c_isProc_f hI.2.1 (by omega) (by omega) (pj_none h (by omega))) mi_X4_isProcess mm_X4_isProcess lk_X4_77 dX4_sum_10 (rmR (by omega)) rfl rfl (by decide) (Nat.le_of_ble_eq_true rfl) rfl rfl rfl ?_
      refine V_if_eq_t F (tgt := 28) dX4_sum_13 (by decide) (by decide) ?_
      refine V_iconst F (v := (-1)) dX4_sum_28 (by decide) ?_
      exact V_iret F dX4_sum_29 (by rw [e]; exact ⟨rfl, rfl⟩)
    | some j =>
      obtain ⟨hj, rfl⟩ := pj_some h (by omega)
      have e : oSum n (nI i) (nI j) = some (5, 0, 0, i, j) := by unfold oSum; rw [hp]; simp only [h]
      refine V_callVi F (q0 := 15) (c_isProc_t hI.2.1 (by omega) hj) mi_X4_isProcess mm_X4_isProcess lk_X4_77 dX4_sum_10 (rmR (by omega)) rfl rfl (by decide) (Nat.le_of_ble_eq_true rfl) rfl rfl rfl ?_
      refine V_if_eq_f F (tgt := 28) dX4_sum_13 (by decide) (by decide) ?_
      refine V_aload_n F dX4_sum_16 rfl ?_
      refine V_iconst F (v := nI 5) dX4_sum_17 (by decide) ?_
      refine V_iconst F (v := nI 0) dX4_sum_18 (by decide) ?_
      refine V_iconst F (v := nI 0) dX4_sum_19 (by decide) ?_
      refine V_iload_n F dX4_sum_20 rfl ?_
      refine V_iload_n F dX4_sum_21 rfl ?_
      refine V_callV F (q0 := 15) (c_builds hI (bOk_sum hi hj)) mi_X4_builds mm_X4_builds lk_X4_81 dX4_sum_22 (rmR (by omega)) rfl rfl (by decide) (Nat.le_of_ble_eq_true rfl) rfl rfl rfl (fun r μ' h => ?_)
      rcases h with ⟨h1, rfl, h2⟩ | ⟨h1, rfl, h2⟩
      · skip
        refine V_goto F (tgt := 29) dX4_sum_25 (by decide) ?_
        exact V_iret F dX4_sum_29 (by rw [e]; exact Or.inl ⟨h1, rfl, h2⟩)
      · skip
        refine V_goto F (tgt := 29) dX4_sum_25 (by decide) ?_
        exact V_iret F dX4_sum_29 (by rw [e]; exact Or.inr ⟨h1, rfl, h2⟩)
theorem c_mremove (hI : MInv T n μ) : Ct (GS g) l (0) yX4_removeLast cX4_removeLast 1 (some .int) [.ref (g.1 15)] μ (RM T n μ) := by
  have hn := hI.n24
  refine Ct.of (own := RX4) mi_X4_removeLast rfl [some (.ref (g.1 15))] (Nat.le_of_ble_eq_true rfl) rfl (fun p₀ e₀ s₀ m₀ b₀ h₀ c₀ F => ?_)
  refine V_aload_n F dX4_removeLast_0 rfl ?_
  refine V_getf F (q0 := 15) (j := 0) lk_X4_7 dX4_removeLast_1 ig_X4 rfl rfl (by decide) rfl rfl ?_
  refine V_val F (hI.2.1) ?_
  refine V_iconst F (v := nI 1) dX4_removeLast_4 (by decide) ?_
  refine V_icmp_ne_N F (tgt := 11) dX4_removeLast_5 (by decide) (by omega) (by omega) (fun h => ?_) (fun h => ?_)
  · obtain ⟨j, rfl⟩ : ∃ j, n = j + 1 := ⟨n - 1, by omega⟩
    refine V_aload_n F dX4_removeLast_11 rfl ?_
    refine V_dup F dX4_removeLast_12 rfl ?_
    refine V_getf F (q0 := 15) (j := 0) lk_X4_7 dX4_removeLast_13 ig_X4 rfl rfl (by decide) rfl rfl ?_
    refine V_val F (hI.2.1) ?_
    refine V_iconst F (v := nI 1) dX4_removeLast_16 (by decide) ?_
    refine V_isubN F (by omega) dX4_removeLast_17 ?_
    rw [Nat.add_sub_cancel]
    refine V_pff_15_0 F (host := "") lk_X4_7 dX4_removeLast_18 ?_
    refine V_aload_n F dX4_removeLast_21 rfl ?_
    refine V_getf F (q0 := 15) (j := 0) lk_X4_7 dX4_removeLast_22 ig_X4 rfl rfl (by decide) rfl rfl ?_
    refine V_val F (wr_eq) ?_
    refine V_iret F dX4_removeLast_25 (Or.inr ⟨by omega, rfl, ⟨hI.1.less (by omega), wr_eq, fun f i hf hi => ?_⟩, (sameX.rfl' μ).wr (by omega)⟩)
    rw [wr_ne (by omega)]
    exact hI.2.2 f i hf (by omega)
  · skip
    refine V_bipush F (v := (-4)) dX4_removeLast_8 (by decide) ?_
    exact V_iret F dX4_removeLast_10 (Or.inl ⟨by omega, rfl, rfl⟩)
theorem c_mpartOf (hI : MInv T n μ) (p i : Int32) : Ct (GS g) l (2) yX4_partOf cX4_partOf 4 (some .int) [.ref (g.1 15), .int p, .int i] μ (Is (.int (rPart T n p i)) μ) := by
  have hn := hI.n24
  refine Ct.of (own := RX4) mi_X4_partOf rfl [some (.ref (g.1 15)), some (.int p), some (.int i), none] (Nat.le_of_ble_eq_true rfl) rfl (fun p₀ e₀ s₀ m₀ b₀ h₀ c₀ F => ?_)
  refine V_aload_n F dX4_partOf_0 rfl ?_
  refine V_iload_n F dX4_partOf_1 rfl ?_
  cases h : pj n p with
  | none =>
    have e : rPart T n p i = -1 := by unfold rPart; rw [h]
    rw [e]
    refine V_callVi F (q0 := 15) (c_isProc_f hI.2.1 (by omega) (by omega) (pj_none h (by omega))) mi_X4_isProcess mm_X4_isProcess lk_X4_77 dX4_partOf_2 (rmR (by omega)) rfl rfl (by decide) (Nat.le_of_ble_eq_true rfl) rfl rfl rfl ?_
    refine V_if_eq_t F (tgt := 17) dX4_partOf_5 (by decide) (by decide) ?_
    refine V_iconst F (v := (-1)) dX4_partOf_17 (by decide) ?_
    exact V_iret F dX4_partOf_18 (⟨rfl, rfl⟩)
  | some j =>
    obtain ⟨hj, rfl⟩ := pj_some h (by omega)
    have hk := hI.1.kind hj
    refine V_callVi F (q0 := 15) (c_isProc_t hI.2.1 (by omega) hj) mi_X4_isProcess mm_X4_isProcess lk_X4_77 dX4_partOf_2 (rmR (by omega)) rfl rfl (by decide) (Nat.le_of_ble_eq_true rfl) rfl rfl rfl ?_
    refine V_if_eq_f F (tgt := 17) dX4_partOf_5 (by decide) (by decide) ?_
    refine V_iload_n F dX4_partOf_8 rfl ?_
    refine V_iconst F (v := nI 0) dX4_partOf_9 (by decide) ?_
    refine V_iconst F (v := nI 1) dX4_partOf_10 (by decide) ?_
    cases h2 : pj 2 i with
    | none =>
      have e : rPart T n (nI j) i = -1 := by unfold rPart; rw [h]; simp only [h2]
      rw [e]
      refine V_callSi F (c_in_f (m := 2) (by omega) (by omega) (pj_none h2 (by omega))) mi_X4_in ms_X4_in lk_X4_65 dX4_partOf_11 (rmR (by omega)) rfl rfl (by decide) (Nat.le_of_ble_eq_true rfl) ?_
      refine V_if_ne_f F (tgt := 19) dX4_partOf_14 (by decide) (by decide) ?_
      refine V_iconst F (v := (-1)) dX4_partOf_17 (by decide) ?_
      exact V_iret F dX4_partOf_18 (⟨rfl, rfl⟩)
    | some d =>
      obtain ⟨hd, rfl⟩ := pj_some h2 (by omega)
      have e : rPart T n (nI j) (nI d) = if d = 0 then (if T 0 j = 0 then -4 else nI (T 3 j)) else if T 0 j = 5 then nI (T 4 j) else -4 := by unfold rPart; rw [h]; simp only [h2]
      rw [e]
      refine V_callSi F (c_in_t (Nat.zero_le d) (show d ≤ 1 by omega) (by omega)) mi_X4_in ms_X4_in lk_X4_65 dX4_partOf_11 (rmR (by omega)) rfl rfl (by decide) (Nat.le_of_ble_eq_true rfl) ?_
      refine V_if_ne_t F (tgt := 19) dX4_partOf_14 (by decide) (by decide) ?_
      refine V_iload_n F dX4_partOf_19 rfl ?_
      by_cases hd0 : d = 0
      · subst hd0
        rw [if_pos rfl]
        refine V_if_ne_f F (tgt := 40) dX4_partOf_20 (by decide) (nI_0) ?_
        refine V_aload_n F dX4_partOf_23 rfl ?_
        refine V_getf F (q0 := 15) (j := 1) lk_X4_13 dX4_partOf_24 ig_X4 rfl rfl (by decide) rfl rfl ?_
        refine V_iload_n F dX4_partOf_27 rfl ?_
        refine V_ia F dX4_partOf_28 rfl rfl (show j < 24 by omega) (hI.fld 0 rfl (by omega) hj) ?_
        by_cases k0 : T 0 j = 0
        · rw [if_pos k0, k0]
          refine V_if_eq_t F (tgt := 36) dX4_partOf_29 (by decide) (nI_0) ?_
          refine V_iconst F (v := nI 0) dX4_partOf_36 (by decide) ?_
          refine V_goto F (tgt := 55) dX4_partOf_37 (by decide) ?_
          refine V_istore_n F (lv' := [_, _, _, _]) dX4_partOf_55 (by decide) rfl rfl ?_
          refine V_iload_n F dX4_partOf_56 rfl ?_
          refine V_if_ne_f F (tgt := 65) dX4_partOf_57 (by decide) (by decide) ?_
          refine V_bipush F (v := (-4)) dX4_partOf_60 (by decide) ?_
          refine V_goto F (tgt := 84) dX4_partOf_62 (by decide) ?_
          exact V_iret F dX4_partOf_84 (⟨rfl, rfl⟩)
        · rw [if_neg k0]
          refine V_if_eq_f F (tgt := 36) dX4_partOf_29 (by decide) (nI_nz (by omega) k0) ?_
          refine V_iconst F (v := nI 1) dX4_partOf_32 (by decide) ?_
          refine V_goto F (tgt := 55) dX4_partOf_33 (by decide) ?_
          refine V_istore_n F (lv' := [_, _, _, _]) dX4_partOf_55 (by decide) rfl rfl ?_
          refine V_iload_n F dX4_partOf_56 rfl ?_
          refine V_if_ne_t F (tgt := 65) dX4_partOf_57 (by decide) (by decide) ?_
          refine V_iload_n F dX4_partOf_65 rfl ?_
          refine V_if_ne_f F (tgt := 78) dX4_partOf_66 (by decide) (nI_0) ?_
          refine V_aload_n F dX4_partOf_69 rfl ?_
          refine V_getf F (q0 := 15) (j := 4) lk_X4_23 dX4_partOf_70 ig_X4 rfl rfl (by decide) rfl rfl ?_
          refine V_iload_n F dX4_partOf_73 rfl ?_
          refine V_ia F dX4_partOf_74 rfl rfl (show j < 24 by omega) (hI.fld 3 rfl (by omega) hj) ?_
          refine V_goto F (tgt := 84) dX4_partOf_75 (by decide) ?_
          exact V_iret F dX4_partOf_84 (⟨rfl, rfl⟩)
      · rw [if_neg hd0]
        refine V_if_ne_t F (tgt := 40) dX4_partOf_20 (by decide) (nI_nz (by omega) hd0) ?_
        refine V_aload_n F dX4_partOf_40 rfl ?_
        refine V_getf F (q0 := 15) (j := 1) lk_X4_13 dX4_partOf_41 ig_X4 rfl rfl (by decide) rfl rfl ?_
        refine V_iload_n F dX4_partOf_44 rfl ?_
        refine V_ia F dX4_partOf_45 rfl rfl (show j < 24 by omega) (hI.fld 0 rfl (by omega) hj) ?_
        refine V_iconst F (v := nI 5) dX4_partOf_46 (by decide) ?_
        refine V_icmp_ne_N F (tgt := 54) dX4_partOf_47 (by decide) (by omega) (by omega) (fun k5 => ?_) (fun k5 => ?_)
        · rw [if_neg k5]
          refine V_iconst F (v := nI 0) dX4_partOf_54 (by decide) ?_
          refine V_istore_n F (lv' := [_, _, _, _]) dX4_partOf_55 (by decide) rfl rfl ?_
          refine V_iload_n F dX4_partOf_56 rfl ?_
          refine V_if_ne_f F (tgt := 65) dX4_partOf_57 (by decide) (by decide) ?_
          refine V_bipush F (v := (-4)) dX4_partOf_60 (by decide) ?_
          refine V_goto F (tgt := 84) dX4_partOf_62 (by decide) ?_
          exact V_iret F dX4_partOf_84 (⟨rfl, rfl⟩)
        · rw [if_pos (Classical.not_not.mp k5)]
          refine V_iconst F (v := nI 1) dX4_partOf_50 (by decide) ?_
          refine V_goto F (tgt := 55) dX4_partOf_51 (by decide) ?_
          refine V_istore_n F (lv' := [_, _, _, _]) dX4_partOf_55 (by decide) rfl rfl ?_
          refine V_iload_n F dX4_partOf_56 rfl ?_
          refine V_if_ne_t F (tgt := 65) dX4_partOf_57 (by decide) (by decide) ?_
          refine V_iload_n F dX4_partOf_65 rfl ?_
          refine V_if_ne_t F (tgt := 78) dX4_partOf_66 (by decide) (nI_nz (by omega) hd0) ?_
          refine V_aload_n F dX4_partOf_78 rfl ?_
          refine V_getf F (q0 := 15) (j := 5) lk_X4_26 dX4_partOf_79 ig_X4 rfl rfl (by decide) rfl rfl ?_
          refine V_iload_n F dX4_partOf_82 rfl ?_
          refine V_ia F dX4_partOf_83 rfl rfl (show j < 24 by omega) (hI.fld 4 rfl (by omega) hj) ?_
          exact V_iret F dX4_partOf_84 (⟨rfl, rfl⟩)
theorem c_sign {x : Nat} (hx : x < 6) : Ct (GS g) l (0) yX4_sign cX4_sign 1 (some .int) [.int (nI x)] μ (Is (.int (nI (lt1 x))) μ) := by
  refine Ct.of (own := RX4) mi_X4_sign rfl [some (.int (nI x))] (Nat.le_of_ble_eq_true rfl) rfl (fun p₀ e₀ s₀ m₀ b₀ h₀ c₀ F => ?_)
  refine V_iload_n F dX4_sign_0 rfl ?_
  refine V_iconst F (v := nI 3) dX4_sign_1 (by decide) ?_
  refine V_icmp_ge_N F (tgt := 12) dX4_sign_2 (by decide) (by omega) (by omega) (fun h => ?_) (fun h => ?_)
  · skip
    refine V_bipush F (v := nI 48) dX4_sign_12 (by decide) ?_
    refine V_iload_n F dX4_sign_14 rfl ?_
    (first | refine V_iaddN F dX4_sign_15 ?_ | refine V_iadd F dX4_sign_15 ?_)
    refine V_iconst F (v := nI 3) dX4_sign_16 (by decide) ?_
    refine V_isubN F (by omega) dX4_sign_17 ?_
    exact V_iret F dX4_sign_18 (⟨by rw [lt1, if_neg (by omega), show 48 + x - 3 = 45 + x by omega], rfl⟩)
  · skip
    refine V_bipush F (v := nI 97) dX4_sign_5 (by decide) ?_
    refine V_iload_n F dX4_sign_7 rfl ?_
    (first | refine V_iaddN F dX4_sign_8 ?_ | refine V_iadd F dX4_sign_8 ?_)
    refine V_goto F (tgt := 18) dX4_sign_9 (by decide) ?_
    exact V_iret F dX4_sign_18 (⟨by rw [lt1, if_pos (by omega)], rfl⟩)
theorem c_head {p i : Nat} (hI : MInv T n μ) (hp : p < n) (hk5 : T 0 p ≠ 5) (hi : i < hdl (T 0 p)) : Ct (GS g) l (1) yX4_head cX4_head 3 (some .int) [.ref (g.1 15), .int (nI p), .int (nI i)] μ (Is (.int (nI (hch T p i))) μ) := by
  have hn := hI.n24
  have hk := hI.1.kind hp
  have hnm := hI.1.name hp
  have e : ∀ k, k < 6 → (nI k).toInt = (k : Int) := fun k hk => nI_toInt (by omega)
  refine Ct.of (own := RX4) mi_X4_head rfl [some (.ref (g.1 15)), some (.int (nI p)), some (.int (nI i))] (Nat.le_of_ble_eq_true rfl) rfl (fun p₀ e₀ s₀ m₀ b₀ h₀ c₀ F => ?_)
  refine V_aload_n F dX4_head_0 rfl ?_
  refine V_getf F (q0 := 15) (j := 1) lk_X4_13 dX4_head_1 ig_X4 rfl rfl (by decide) rfl rfl ?_
  refine V_iload_n F dX4_head_4 rfl ?_
  refine V_ia F dX4_head_5 rfl rfl (show p < 24 by omega) (hI.fld 0 rfl (by omega) hp) ?_
  have e0 := e (T 0 p) (by omega)
  rcases (by omega : T 0 p = 0 ∨ T 0 p = 1 ∨ T 0 p = 2 ∨ T 0 p = 3 ∨ T 0 p = 4) with k | k | k | k | k
  · rw [k] at hi e0 ⊢
    simp only [hdl] at hi
    refine V_tableIn F (off := 30) (tgt := 36) dX4_head_6 (by rw [e0]; omega) (by rw [e0]; omega) (by rw [e0]; rfl) (by decide) ?_
    obtain rfl : i = 0 := by omega
    refine V_bipush F (v := nI 48) dX4_head_36 (by decide) ?_
    exact V_iret F dX4_head_38 (⟨by unfold hch; rw [k]; rfl, rfl⟩)
  · rw [k] at hi e0 ⊢
    simp only [hdl] at hi
    refine V_tableIn F (off := 33) (tgt := 39) dX4_head_6 (by rw [e0]; omega) (by rw [e0]; omega) (by rw [e0]; rfl) (by decide) ?_
    rcases (by omega : i = 0 ∨ i = 1) with rfl | rfl
    · skip
      refine V_iload_n F dX4_head_39 rfl ?_
      refine V_if_ne_f F (tgt := 48) dX4_head_40 (by decide) (by decide) ?_
      refine V_bipush F (v := nI 116) dX4_head_43 (by decide) ?_
      refine V_goto F (tgt := 50) dX4_head_45 (by decide) ?_
      exact V_iret F dX4_head_50 (⟨by unfold hch; rw [k]; rfl, rfl⟩)
    · skip
      refine V_iload_n F dX4_head_39 rfl ?_
      refine V_if_ne_t F (tgt := 48) dX4_head_40 (by decide) (by decide) ?_
      refine V_bipush F (v := nI 46) dX4_head_48 (by decide) ?_
      exact V_iret F dX4_head_50 (⟨by unfold hch; rw [k]; rfl, rfl⟩)
  · rw [k] at hi e0 ⊢
    simp only [hdl] at hi
    refine V_tableIn F (off := 45) (tgt := 51) dX4_head_6 (by rw [e0]; omega) (by rw [e0]; omega) (by rw [e0]; rfl) (by decide) ?_
    rcases (by omega : i = 0 ∨ i = 1 ∨ i = 2 ∨ i = 3) with rfl | rfl | rfl | rfl
    · skip
      refine V_iload_n F dX4_head_51 rfl ?_
      refine V_if_ne_f F (tgt := 67) dX4_head_52 (by decide) (by decide) ?_
      refine V_aload_n F dX4_head_55 rfl ?_
      refine V_getf F (q0 := 15) (j := 2) lk_X4_17 dX4_head_56 ig_X4 rfl rfl (by decide) rfl rfl ?_
      refine V_iload_n F dX4_head_59 rfl ?_
      refine V_ia F dX4_head_60 rfl rfl (show p < 24 by omega) (hI.fld 1 rfl (by omega) hp) ?_
      refine V_callSi F (c_sign hnm.1) mi_X4_sign ms_X4_sign lk_X4_88 dX4_head_61 (rmR (by omega)) rfl rfl (by decide) (Nat.le_of_ble_eq_true rfl) ?_
      refine V_goto F (tgt := 96) dX4_head_64 (by decide) ?_
      exact V_iret F dX4_head_96 (⟨by unfold hch; rw [k]; rfl, rfl⟩)
    · skip
      refine V_iload_n F dX4_head_51 rfl ?_
      refine V_if_ne_t F (tgt := 67) dX4_head_52 (by decide) (by decide) ?_
      refine V_iload_n F dX4_head_67 rfl ?_
      refine V_iconst F (v := nI 1) dX4_head_68 (by decide) ?_
      refine V_icmp_ne_f F (tgt := 77) dX4_head_69 (by decide) (by decide) ?_
      refine V_bipush F (v := nI 33) dX4_head_72 (by decide) ?_
      refine V_goto F (tgt := 96) dX4_head_74 (by decide) ?_
      exact V_iret F dX4_head_96 (⟨by unfold hch; rw [k]; rfl, rfl⟩)
    · skip
      refine V_iload_n F dX4_head_51 rfl ?_
      refine V_if_ne_t F (tgt := 67) dX4_head_52 (by decide) (by decide) ?_
      refine V_iload_n F dX4_head_67 rfl ?_
      refine V_iconst F (v := nI 1) dX4_head_68 (by decide) ?_
      refine V_icmp_ne_t F (tgt := 77) dX4_head_69 (by decide) (by decide) ?_
      refine V_iload_n F dX4_head_77 rfl ?_
      refine V_iconst F (v := nI 2) dX4_head_78 (by decide) ?_
      refine V_icmp_ne_f F (tgt := 94) dX4_head_79 (by decide) (by decide) ?_
      refine V_aload_n F dX4_head_82 rfl ?_
      refine V_getf F (q0 := 15) (j := 3) lk_X4_20 dX4_head_83 ig_X4 rfl rfl (by decide) rfl rfl ?_
      refine V_iload_n F dX4_head_86 rfl ?_
      refine V_ia F dX4_head_87 rfl rfl (show p < 24 by omega) (hI.fld 2 rfl (by omega) hp) ?_
      refine V_callSi F (c_sign hnm.2) mi_X4_sign ms_X4_sign lk_X4_88 dX4_head_88 (rmR (by omega)) rfl rfl (by decide) (Nat.le_of_ble_eq_true rfl) ?_
      refine V_goto F (tgt := 96) dX4_head_91 (by decide) ?_
      exact V_iret F dX4_head_96 (⟨by unfold hch; rw [k]; rfl, rfl⟩)
    · skip
      refine V_iload_n F dX4_head_51 rfl ?_
      refine V_if_ne_t F (tgt := 67) dX4_head_52 (by decide) (by decide) ?_
      refine V_iload_n F dX4_head_67 rfl ?_
      refine V_iconst F (v := nI 1) dX4_head_68 (by decide) ?_
      refine V_icmp_ne_t F (tgt := 77) dX4_head_69 (by decide) (by decide) ?_
      refine V_iload_n F dX4_head_77 rfl ?_
      refine V_iconst F (v := nI 2) dX4_head_78 (by decide) ?_
      refine V_icmp_ne_t F (tgt := 94) dX4_head_79 (by decide) (by decide) ?_
      refine V_bipush F (v := nI 46) dX4_head_94 (by decide) ?_
      exact V_iret F dX4_head_96 (⟨by unfold hch; rw [k]; rfl, rfl⟩)
  · rw [k] at hi e0 ⊢
    simp only [hdl] at hi
    refine V_tableIn F (off := 91) (tgt := 97) dX4_head_6 (by rw [e0]; omega) (by rw [e0]; omega) (by rw [e0]; rfl) (by decide) ?_
    rcases (by omega : i = 0 ∨ i = 1 ∨ i = 2) with rfl | rfl | rfl
    · skip
      refine V_iload_n F dX4_head_97 rfl ?_
      refine V_if_ne_f F (tgt := 113) dX4_head_98 (by decide) (by decide) ?_
      refine V_aload_n F dX4_head_101 rfl ?_
      refine V_getf F (q0 := 15) (j := 2) lk_X4_17 dX4_head_102 ig_X4 rfl rfl (by decide) rfl rfl ?_
      refine V_iload_n F dX4_head_105 rfl ?_
      refine V_ia F dX4_head_106 rfl rfl (show p < 24 by omega) (hI.fld 1 rfl (by omega) hp) ?_
      refine V_callSi F (c_sign hnm.1) mi_X4_sign ms_X4_sign lk_X4_88 dX4_head_107 (rmR (by omega)) rfl rfl (by decide) (Nat.le_of_ble_eq_true rfl) ?_
      refine V_goto F (tgt := 125) dX4_head_110 (by decide) ?_
      exact V_iret F dX4_head_125 (⟨by unfold hch; rw [k]; rfl, rfl⟩)
    · skip
      refine V_iload_n F dX4_head_97 rfl ?_
      refine V_if_ne_t F (tgt := 113) dX4_head_98 (by decide) (by decide) ?_
      refine V_iload_n F dX4_head_113 rfl ?_
      refine V_iconst F (v := nI 1) dX4_head_114 (by decide) ?_
      refine V_icmp_ne_f F (tgt := 123) dX4_head_115 (by decide) (by decide) ?_
      refine V_bipush F (v := nI 63) dX4_head_118 (by decide) ?_
      refine V_goto F (tgt := 125) dX4_head_120 (by decide) ?_
      exact V_iret F dX4_head_125 (⟨by unfold hch; rw [k]; rfl, rfl⟩)
    · skip
      refine V_iload_n F dX4_head_97 rfl ?_
      refine V_if_ne_t F (tgt := 113) dX4_head_98 (by decide) (by decide) ?_
      refine V_iload_n F dX4_head_113 rfl ?_
      refine V_iconst F (v := nI 1) dX4_head_114 (by decide) ?_
      refine V_icmp_ne_t F (tgt := 123) dX4_head_115 (by decide) (by decide) ?_
      refine V_bipush F (v := nI 46) dX4_head_123 (by decide) ?_
      exact V_iret F dX4_head_125 (⟨by unfold hch; rw [k]; rfl, rfl⟩)
  · rw [k] at hi e0 ⊢
    simp only [hdl] at hi
    refine V_tableOut F (tgt := 126) dX4_head_6 (by rw [e0]; omega) (by decide) ?_
    rcases (by omega : i = 0 ∨ i = 1 ∨ i = 2 ∨ i = 3 ∨ i = 4) with rfl | rfl | rfl | rfl | rfl
    · skip
      refine V_iload_n F dX4_head_126 rfl ?_
      refine V_if_ne_f F (tgt := 135) dX4_head_127 (by decide) (by decide) ?_
      refine V_bipush F (v := nI 91) dX4_head_130 (by decide) ?_
      refine V_goto F (tgt := 181) dX4_head_132 (by decide) ?_
      exact V_iret F dX4_head_181 (⟨by unfold hch; rw [k]; rfl, rfl⟩)
    · skip
      refine V_iload_n F dX4_head_126 rfl ?_
      refine V_if_ne_t F (tgt := 135) dX4_head_127 (by decide) (by decide) ?_
      refine V_iload_n F dX4_head_135 rfl ?_
      refine V_iconst F (v := nI 1) dX4_head_136 (by decide) ?_
      refine V_icmp_ne_f F (tgt := 152) dX4_head_137 (by decide) (by decide) ?_
      refine V_aload_n F dX4_head_140 rfl ?_
      refine V_getf F (q0 := 15) (j := 2) lk_X4_17 dX4_head_141 ig_X4 rfl rfl (by decide) rfl rfl ?_
      refine V_iload_n F dX4_head_144 rfl ?_
      refine V_ia F dX4_head_145 rfl rfl (show p < 24 by omega) (hI.fld 1 rfl (by omega) hp) ?_
      refine V_callSi F (c_sign hnm.1) mi_X4_sign ms_X4_sign lk_X4_88 dX4_head_146 (rmR (by omega)) rfl rfl (by decide) (Nat.le_of_ble_eq_true rfl) ?_
      refine V_goto F (tgt := 181) dX4_head_149 (by decide) ?_
      exact V_iret F dX4_head_181 (⟨by unfold hch; rw [k]; rfl, rfl⟩)
    · skip
      refine V_iload_n F dX4_head_126 rfl ?_
      refine V_if_ne_t F (tgt := 135) dX4_head_127 (by decide) (by decide) ?_
      refine V_iload_n F dX4_head_135 rfl ?_
      refine V_iconst F (v := nI 1) dX4_head_136 (by decide) ?_
      refine V_icmp_ne_t F (tgt := 152) dX4_head_137 (by decide) (by decide) ?_
      refine V_iload_n F dX4_head_152 rfl ?_
      refine V_iconst F (v := nI 2) dX4_head_153 (by decide) ?_
      refine V_icmp_ne_f F (tgt := 162) dX4_head_154 (by decide) (by decide) ?_
      refine V_bipush F (v := nI 61) dX4_head_157 (by decide) ?_
      refine V_goto F (tgt := 181) dX4_head_159 (by decide) ?_
      exact V_iret F dX4_head_181 (⟨by unfold hch; rw [k]; rfl, rfl⟩)
    · skip
      refine V_iload_n F dX4_head_126 rfl ?_
      refine V_if_ne_t F (tgt := 135) dX4_head_127 (by decide) (by decide) ?_
      refine V_iload_n F dX4_head_135 rfl ?_
      refine V_iconst F (v := nI 1) dX4_head_136 (by decide) ?_
      refine V_icmp_ne_t F (tgt := 152) dX4_head_137 (by decide) (by decide) ?_
      refine V_iload_n F dX4_head_152 rfl ?_
      refine V_iconst F (v := nI 2) dX4_head_153 (by decide) ?_
      refine V_icmp_ne_t F (tgt := 162) dX4_head_154 (by decide) (by decide) ?_
      refine V_iload_n F dX4_head_162 rfl ?_
      refine V_iconst F (v := nI 3) dX4_head_163 (by decide) ?_
      refine V_icmp_ne_f F (tgt := 179) dX4_head_164 (by decide) (by decide) ?_
      refine V_aload_n F dX4_head_167 rfl ?_
      refine V_getf F (q0 := 15) (j := 3) lk_X4_20 dX4_head_168 ig_X4 rfl rfl (by decide) rfl rfl ?_
      refine V_iload_n F dX4_head_171 rfl ?_
      refine V_ia F dX4_head_172 rfl rfl (show p < 24 by omega) (hI.fld 2 rfl (by omega) hp) ?_
      refine V_callSi F (c_sign hnm.2) mi_X4_sign ms_X4_sign lk_X4_88 dX4_head_173 (rmR (by omega)) rfl rfl (by decide) (Nat.le_of_ble_eq_true rfl) ?_
      refine V_goto F (tgt := 181) dX4_head_176 (by decide) ?_
      exact V_iret F dX4_head_181 (⟨by unfold hch; rw [k]; rfl, rfl⟩)
    · skip
      refine V_iload_n F dX4_head_126 rfl ?_
      refine V_if_ne_t F (tgt := 135) dX4_head_127 (by decide) (by decide) ?_
      refine V_iload_n F dX4_head_135 rfl ?_
      refine V_iconst F (v := nI 1) dX4_head_136 (by decide) ?_
      refine V_icmp_ne_t F (tgt := 152) dX4_head_137 (by decide) (by decide) ?_
      refine V_iload_n F dX4_head_152 rfl ?_
      refine V_iconst F (v := nI 2) dX4_head_153 (by decide) ?_
      refine V_icmp_ne_t F (tgt := 162) dX4_head_154 (by decide) (by decide) ?_
      refine V_iload_n F dX4_head_162 rfl ?_
      refine V_iconst F (v := nI 3) dX4_head_163 (by decide) ?_
      refine V_icmp_ne_t F (tgt := 179) dX4_head_164 (by decide) (by decide) ?_
      refine V_bipush F (v := nI 93) dX4_head_179 (by decide) ?_
      exact V_iret F dX4_head_181 (⟨by unfold hch; rw [k]; rfl, rfl⟩)
theorem c_mtextAt (hI : MInv T n μ) (p i : Int32) : Ct (GS g) l (2) yX4_textAt cX4_textAt 7 (some .int) [.ref (g.1 15), .int p, .int i] μ (Is (.int (rTx T n p i)) μ) := by
  have hn := hI.n24
  refine Ct.of (own := RX4) mi_X4_textAt rfl [some (.ref (g.1 15)), some (.int p), some (.int i), none, none, none, none] (Nat.le_of_ble_eq_true rfl) rfl (fun p₀ e₀ s₀ m₀ b₀ h₀ c₀ F => ?_)
  refine V_aload_n F dX4_textAt_0 rfl ?_
  refine V_iload_n F dX4_textAt_1 rfl ?_
  cases h : pj n p with
  | none =>
    have e : rTx T n p i = -1 := by unfold rTx; rw [h]
    rw [e]
    refine V_callVi F (q0 := 15) (c_isProc_f hI.2.1 (by omega) (by omega) (pj_none h (by omega))) mi_X4_isProcess mm_X4_isProcess lk_X4_77 dX4_textAt_2 (rmR (by omega)) rfl rfl (by decide) (Nat.le_of_ble_eq_true rfl) rfl rfl rfl ?_
    refine V_if_eq_t F (tgt := 12) dX4_textAt_5 (by decide) (by decide) ?_
    refine V_iconst F (v := (-1)) dX4_textAt_12 (by decide) ?_
    exact V_iret F dX4_textAt_13 (⟨rfl, rfl⟩)
  | some j₁ =>
    obtain ⟨hj₁, rfl⟩ := pj_some h (by omega)
    have hL₁ := hI.1.len_lt hj₁
    refine V_callVi F (q0 := 15) (c_isProc_t hI.2.1 (by omega) hj₁) mi_X4_isProcess mm_X4_isProcess lk_X4_77 dX4_textAt_2 (rmR (by omega)) rfl rfl (by decide) (Nat.le_of_ble_eq_true rfl) rfl rfl rfl ?_
    refine V_if_eq_f F (tgt := 12) dX4_textAt_5 (by decide) (by decide) ?_
    refine V_iload_n F dX4_textAt_8 rfl ?_
    by_cases hm : i < 0
    · have e : rTx T n (nI j₁) i = -1 := by unfold rTx; rw [h]; simp only [if_pos hm]
      rw [e]
      refine V_if_ge_f F (tgt := 14) dX4_textAt_9 (by decide) (fun q => Int32.not_lt.mpr q hm) ?_
      refine V_iconst F (v := (-1)) dX4_textAt_12 (by decide) ?_
      exact V_iret F dX4_textAt_13 (⟨rfl, rfl⟩)
    · obtain ⟨k₁, hk₁, rfl⟩ := nI_of hm
      have e : rTx T n (nI j₁) (nI k₁) = if T 8 j₁ ≤ k₁ then -4 else nI (chr T j₁ k₁) := by
        unfold rTx; rw [h]; simp only [if_neg hm, nI_clamp hk₁]
      rw [e]
      refine V_if_ge_t F (tgt := 14) dX4_textAt_9 (by decide) (nI_ge0 hk₁) ?_
      refine V_iload_n F dX4_textAt_14 rfl ?_
      refine V_aload_n F dX4_textAt_15 rfl ?_
      refine V_getf F (q0 := 15) (j := 9) lk_X4_38 dX4_textAt_16 ig_X4 rfl rfl (by decide) rfl rfl ?_
      refine V_iload_n F dX4_textAt_19 rfl ?_
      refine V_ia F dX4_textAt_20 rfl rfl (show j₁ < 24 by omega) (hI.fld 8 rfl (by omega) hj₁) ?_
      refine V_icmp_lt_N F (tgt := 27) dX4_textAt_21 (by decide) (by omega) (by omega) (fun h1 => ?_) (fun h1 => ?_)
      · rw [if_neg (by omega)]
        have loop : ∀ (p i : Nat), p < n → i < T 8 p → chr T p i = chr T j₁ k₁ → V (GS g) p₀ l e₀ (rmD (2)) s₀ m₀ (List.toArray [.ref (g.1 15), .int (nI j₁), .int (nI k₁)]) b₀ h₀ c₀ 7 0 0 (MQ b₀ (Qp (GS g) (Is (.int (nI (chr T j₁ k₁))) μ)) (List.toArray [.ref (g.1 15), .int (nI j₁), .int (nI k₁)]) s₀ 0 0 (gA (GS g))) 32 ([some (.ref (g.1 15)), some (.int (nI j₁)), some (.int (nI k₁)), some (.int (nI p)), some (.int (nI i)), none, none]) ([]) (μ) := by
          intro p
          induction p using Nat.strongRecOn with
          | ind p ih =>
            intro i hp hi hres
            rw [chr_eq hI.1 hp hi] at hres
            have hk := hI.1.kind hp
            have hL := hI.1.len_lt hp
            have e0 := hI.fld 0 (p := p) rfl (by omega) hp
            have e3 := hI.fld 3 (p := p) rfl (by omega) hp
            have e4 := hI.fld 4 (p := p) rfl (by omega) hp
            have e8 := hI.fld 8 (p := p) rfl (by omega) hp
            have hpt := hI.1.part hp
            have hL3 := hI.1.len_lt hpt.2.2.1
            have e83 := hI.fld 8 (p := T 3 p) rfl (by omega) hpt.2.2.1
            refine V_aload_n F dX4_textAt_32 rfl ?_
            refine V_getf F (q0 := 15) (j := 1) lk_X4_13 dX4_textAt_33 ig_X4 rfl rfl (by decide) rfl rfl ?_
            refine V_iload_n F dX4_textAt_36 rfl ?_
            refine V_ia F dX4_textAt_37 rfl rfl (show p < 24 by omega) e0 ?_
            refine V_iconst F (v := nI 5) dX4_textAt_38 (by decide) ?_
            refine V_icmp_ne_N F (tgt := 159) dX4_textAt_39 (by decide) (by omega) (by omega) (fun k5 => ?_) (fun k5 => ?_)
            · skip
              refine V_aload_n F dX4_textAt_159 rfl ?_
              refine V_getf F (q0 := 15) (j := 1) lk_X4_13 dX4_textAt_160 ig_X4 rfl rfl (by decide) rfl rfl ?_
              refine V_iload_n F dX4_textAt_163 rfl ?_
              refine V_ia F dX4_textAt_164 rfl rfl (show p < 24 by omega) e0 ?_
              have rest : V (GS g) p₀ l e₀ (rmD (2)) s₀ m₀ (List.toArray [.ref (g.1 15), .int (nI j₁), .int (nI k₁)]) b₀ h₀ c₀ 7 0 0 (MQ b₀ (Qp (GS g) (Is (.int (nI (chr T j₁ k₁))) μ)) (List.toArray [.ref (g.1 15), .int (nI j₁), .int (nI k₁)]) s₀ 0 0 (gA (GS g))) 190 ([some (.ref (g.1 15)), some (.int (nI j₁)), some (.int (nI k₁)), some (.int (nI p)), some (.int (nI i)), none, none]) ([.int (nI (hdl (T 0 p)))]) (μ) := by
                have hhd := hdl_le (T 0 p)
                refine V_istore F (lv' := [_, _, _, _, _, _, _]) dX4_textAt_190 (by decide) rfl rfl ?_
                refine V_iload F dX4_textAt_192 rfl ?_
                refine V_iload F dX4_textAt_194 rfl ?_
                refine V_icmp_ge_N F (tgt := 207) dX4_textAt_196 (by decide) (by omega) (by omega) (fun h2 => ?_) (fun h2 => ?_)
                · obtain ⟨hp0, h3, h4, h8⟩ := beyond hI.1 hp hi (by omega)
                  rw [if_neg k5] at h8
                  rw [if_neg (by omega), if_pos (by omega)] at hres
                  refine V_iload F dX4_textAt_207 rfl ?_
                  refine V_iload F dX4_textAt_209 rfl ?_
                  refine V_isubN F (by omega) dX4_textAt_211 ?_
                  refine V_istore F (lv' := [_, _, _, _, _, _, _]) dX4_textAt_212 (by decide) rfl rfl ?_
                  refine V_aload_n F dX4_textAt_214 rfl ?_
                  refine V_getf F (q0 := 15) (j := 4) lk_X4_23 dX4_textAt_215 ig_X4 rfl rfl (by decide) rfl rfl ?_
                  refine V_iload_n F dX4_textAt_218 rfl ?_
                  refine V_ia F dX4_textAt_219 rfl rfl (show p < 24 by omega) e3 ?_
                  refine V_istore_n F (lv' := [_, _, _, _, _, _, _]) dX4_textAt_220 (by decide) rfl rfl ?_
                  refine V_goto F (tgt := 32) dX4_textAt_221 (by decide) ?_
                  refine V_msk [true, true, true, true, true, false, false] (lv' := [_, _, _, _, _, _, _]) rfl ?_
                  exact ih _ h3 _ (by omega) (by omega) hres
                · rw [if_pos (by omega)] at hres
                  refine V_aload_n F dX4_textAt_199 rfl ?_
                  refine V_iload_n F dX4_textAt_200 rfl ?_
                  refine V_iload F dX4_textAt_201 rfl ?_
                  refine V_callVi F (q0 := 15) (c_head hI hp k5 (by omega)) mi_X4_head mm_X4_head lk_X4_91 dX4_textAt_203 (rmR (by omega)) rfl rfl (by decide) (Nat.le_of_ble_eq_true rfl) rfl rfl rfl ?_
                  exact V_iret F dX4_textAt_206 (⟨by rw [hres], rfl⟩)
              by_cases k0 : T 0 p = 0
              · rw [k0] at rest ⊢
                refine V_if_ne_f F (tgt := 172) dX4_textAt_165 (by decide) (nI_0) ?_
                refine V_iconst F (v := nI 1) dX4_textAt_168 (by decide) ?_
                refine V_goto F (tgt := 190) dX4_textAt_169 (by decide) ?_
                exact rest
              · have hp0 : 0 < p := by
                  rcases Nat.eq_zero_or_pos p with z | z
                  · subst z; exact absurd hI.1.2.1.1 k0
                  · exact z
                have h8 := (hI.1.2.2 p hp0 hp).2.2.2.2.2
                rw [if_neg k5] at h8
                refine V_if_ne_t F (tgt := 172) dX4_textAt_165 (by decide) (nI_nz (by omega) k0) ?_
                refine V_aload_n F dX4_textAt_172 rfl ?_
                refine V_getf F (q0 := 15) (j := 9) lk_X4_38 dX4_textAt_173 ig_X4 rfl rfl (by decide) rfl rfl ?_
                refine V_iload_n F dX4_textAt_176 rfl ?_
                refine V_ia F dX4_textAt_177 rfl rfl (show p < 24 by omega) e8 ?_
                refine V_aload_n F dX4_textAt_178 rfl ?_
                refine V_getf F (q0 := 15) (j := 9) lk_X4_38 dX4_textAt_179 ig_X4 rfl rfl (by decide) rfl rfl ?_
                refine V_aload_n F dX4_textAt_182 rfl ?_
                refine V_getf F (q0 := 15) (j := 4) lk_X4_23 dX4_textAt_183 ig_X4 rfl rfl (by decide) rfl rfl ?_
                refine V_iload_n F dX4_textAt_186 rfl ?_
                refine V_ia F dX4_textAt_187 rfl rfl (show p < 24 by omega) e3 ?_
                refine V_ia F dX4_textAt_188 rfl rfl (show T 3 p < 24 by omega) e83 ?_
                refine V_isubN F (by omega) dX4_textAt_189 ?_
                rw [show T 8 p - T 8 (T 3 p) = hdl (T 0 p) by omega]
                exact rest
            · have k5 := Classical.not_not.mp k5
              have hp0 : 0 < p := by
                rcases Nat.eq_zero_or_pos p with z | z
                · subst z; have := hI.1.2.1.1; omega
                · exact z
              obtain ⟨⟨-, -, -, -, h3, h4⟩, -, -, -, -, h8⟩ := hI.1.2.2 p hp0 hp
              have hL4 := hI.1.len_lt hpt.2.2.2
              rw [if_pos k5, k5] at h8
              rw [k5] at hres
              simp only [hdl] at h8 hres
              refine V_aload_n F dX4_textAt_42 rfl ?_
              refine V_getf F (q0 := 15) (j := 9) lk_X4_38 dX4_textAt_43 ig_X4 rfl rfl (by decide) rfl rfl ?_
              refine V_aload_n F dX4_textAt_46 rfl ?_
              refine V_getf F (q0 := 15) (j := 4) lk_X4_23 dX4_textAt_47 ig_X4 rfl rfl (by decide) rfl rfl ?_
              refine V_iload_n F dX4_textAt_50 rfl ?_
              refine V_ia F dX4_textAt_51 rfl rfl (show p < 24 by omega) e3 ?_
              refine V_ia F dX4_textAt_52 rfl rfl (show T 3 p < 24 by omega) e83 ?_
              refine V_istore F (lv' := [_, _, _, _, _, _, _]) dX4_textAt_53 (by decide) rfl rfl ?_
              refine V_iload F dX4_textAt_55 rfl ?_
              by_cases i0 : i = 0
              · subst i0
                rw [if_pos (by omega)] at hres
                refine V_if_eq_t F (tgt := 82) dX4_textAt_57 (by decide) (nI_0) ?_
                refine V_iload F dX4_textAt_82 rfl ?_
                refine V_if_ne_f F (tgt := 92) dX4_textAt_84 (by decide) (nI_0) ?_
                refine V_bipush F (v := nI 40) dX4_textAt_87 (by decide) ?_
                refine V_goto F (tgt := 108) dX4_textAt_89 (by decide) ?_
                exact V_iret F dX4_textAt_108 (⟨by rw [← hres]; unfold hch; rw [k5]; rfl, rfl⟩)
              · rw [if_neg (by omega)] at hres
                refine V_if_eq_f F (tgt := 82) dX4_textAt_57 (by decide) (nI_nz (by omega) i0) ?_
                refine V_iload F dX4_textAt_60 rfl ?_
                refine V_iload F dX4_textAt_62 rfl ?_
                refine V_iconst F (v := nI 1) dX4_textAt_64 (by decide) ?_
                (first | refine V_iaddN F dX4_textAt_65 ?_ | refine V_iadd F dX4_textAt_65 ?_)
                by_cases ip : i = T 8 (T 3 p) + 1
                · rw [if_neg (by omega), if_pos (by omega)] at hres
                  refine V_icmp_eq_t F (tgt := 82) dX4_textAt_66 (by decide) (congrArg nI ip) ?_
                  refine V_iload F dX4_textAt_82 rfl ?_
                  refine V_if_ne_t F (tgt := 92) dX4_textAt_84 (by decide) (nI_nz (by omega) i0) ?_
                  refine V_iload F dX4_textAt_92 rfl ?_
                  refine V_iload F dX4_textAt_94 rfl ?_
                  refine V_iconst F (v := nI 1) dX4_textAt_96 (by decide) ?_
                  (first | refine V_iaddN F dX4_textAt_97 ?_ | refine V_iadd F dX4_textAt_97 ?_)
                  refine V_icmp_ne_f F (tgt := 106) dX4_textAt_98 (by decide) (congrArg nI ip) ?_
                  refine V_bipush F (v := nI 43) dX4_textAt_101 (by decide) ?_
                  refine V_goto F (tgt := 108) dX4_textAt_103 (by decide) ?_
                  exact V_iret F dX4_textAt_108 (⟨by rw [← hres], rfl⟩)
                · have npi : ¬ nI i = nI (T 8 (T 3 p) + 1) := fun z => ip ((nI_eq (by omega) (by omega)).mp z)
                  refine V_icmp_eq_f F (tgt := 82) dX4_textAt_66 (by decide) (npi) ?_
                  refine V_iload F dX4_textAt_69 rfl ?_
                  refine V_aload_n F dX4_textAt_71 rfl ?_
                  refine V_getf F (q0 := 15) (j := 9) lk_X4_38 dX4_textAt_72 ig_X4 rfl rfl (by decide) rfl rfl ?_
                  refine V_iload_n F dX4_textAt_75 rfl ?_
                  refine V_ia F dX4_textAt_76 rfl rfl (show p < 24 by omega) e8 ?_
                  refine V_iconst F (v := nI 1) dX4_textAt_77 (by decide) ?_
                  refine V_isubN F (by omega) dX4_textAt_78 ?_
                  refine V_icmp_ne_N F (tgt := 109) dX4_textAt_79 (by decide) (by omega) (by omega) (fun il => ?_) (fun il => ?_)
                  · skip
                    refine V_iload F dX4_textAt_109 rfl ?_
                    refine V_iload F dX4_textAt_111 rfl ?_
                    refine V_icmp_gt_N F (tgt := 120) dX4_textAt_113 (by decide) (by omega) (by omega) (fun h2 => ?_) (fun h2 => ?_)
                    · rw [if_neg (by omega), if_neg (by omega), if_pos (by omega)] at hres
                      refine V_iload F dX4_textAt_120 rfl ?_
                      refine V_iconst F (v := nI 2) dX4_textAt_122 (by decide) ?_
                      (first | refine V_iaddN F dX4_textAt_123 ?_ | refine V_iadd F dX4_textAt_123 ?_)
                      refine V_istore F (lv' := [_, _, _, _, _, _, _]) dX4_textAt_124 (by decide) rfl rfl ?_
                      refine V_iload F dX4_textAt_126 rfl ?_
                      refine V_iload F dX4_textAt_128 rfl ?_
                      refine V_icmp_gt_N F (tgt := 142) dX4_textAt_130 (by decide) (by omega) (by omega) (fun h2' => ?_) (fun h2' => ?_)
                      · skip
                        refine V_aload_n F dX4_textAt_142 rfl ?_
                        refine V_getf F (q0 := 15) (j := 5) lk_X4_26 dX4_textAt_143 ig_X4 rfl rfl (by decide) rfl rfl ?_
                        refine V_iload_n F dX4_textAt_146 rfl ?_
                        refine V_ia F dX4_textAt_147 rfl rfl (show p < 24 by omega) e4 ?_
                        refine V_istore_n F (lv' := [_, _, _, _, _, _, _]) dX4_textAt_148 (by decide) rfl rfl ?_
                        refine V_iload F dX4_textAt_149 rfl ?_
                        refine V_iload F dX4_textAt_151 rfl ?_
                        refine V_isubN F (by omega) dX4_textAt_153 ?_
                        refine V_istore F (lv' := [_, _, _, _, _, _, _]) dX4_textAt_154 (by decide) rfl rfl ?_
                        refine V_goto F (tgt := 32) dX4_textAt_156 (by decide) ?_
                        refine V_msk [true, true, true, true, true, false, false] (lv' := [_, _, _, _, _, _, _]) rfl ?_
                        refine ih _ h4 _ (by omega) (by omega) ?_
                        rw [← hres]
                        congr 1
                        omega
                      · omega
                    · rw [if_pos (by omega)] at hres
                      refine V_iconst F (v := nI 1) dX4_textAt_116 (by decide) ?_
                      refine V_goto F (tgt := 124) dX4_textAt_117 (by decide) ?_
                      refine V_istore F (lv' := [_, _, _, _, _, _, _]) dX4_textAt_124 (by decide) rfl rfl ?_
                      refine V_iload F dX4_textAt_126 rfl ?_
                      refine V_iload F dX4_textAt_128 rfl ?_
                      refine V_icmp_gt_N F (tgt := 142) dX4_textAt_130 (by decide) (by omega) (by omega) (fun h2' => ?_) (fun h2' => ?_)
                      · omega
                      · skip
                        refine V_aload_n F dX4_textAt_133 rfl ?_
                        refine V_getf F (q0 := 15) (j := 4) lk_X4_23 dX4_textAt_134 ig_X4 rfl rfl (by decide) rfl rfl ?_
                        refine V_iload_n F dX4_textAt_137 rfl ?_
                        refine V_ia F dX4_textAt_138 rfl rfl (show p < 24 by omega) e3 ?_
                        refine V_goto F (tgt := 148) dX4_textAt_139 (by decide) ?_
                        refine V_istore_n F (lv' := [_, _, _, _, _, _, _]) dX4_textAt_148 (by decide) rfl rfl ?_
                        refine V_iload F dX4_textAt_149 rfl ?_
                        refine V_iload F dX4_textAt_151 rfl ?_
                        refine V_isubN F (by omega) dX4_textAt_153 ?_
                        refine V_istore F (lv' := [_, _, _, _, _, _, _]) dX4_textAt_154 (by decide) rfl rfl ?_
                        refine V_goto F (tgt := 32) dX4_textAt_156 (by decide) ?_
                        refine V_msk [true, true, true, true, true, false, false] (lv' := [_, _, _, _, _, _, _]) rfl ?_
                        exact ih _ h3 _ (by omega) (by omega) hres
                  · have il := Classical.not_not.mp il
                    rw [if_neg (by omega), if_neg (by omega), if_neg (by omega)] at hres
                    refine V_iload F dX4_textAt_82 rfl ?_
                    refine V_if_ne_t F (tgt := 92) dX4_textAt_84 (by decide) (nI_nz (by omega) i0) ?_
                    refine V_iload F dX4_textAt_92 rfl ?_
                    refine V_iload F dX4_textAt_94 rfl ?_
                    refine V_iconst F (v := nI 1) dX4_textAt_96 (by decide) ?_
                    (first | refine V_iaddN F dX4_textAt_97 ?_ | refine V_iadd F dX4_textAt_97 ?_)
                    refine V_icmp_ne_t F (tgt := 106) dX4_textAt_98 (by decide) (npi) ?_
                    refine V_bipush F (v := nI 41) dX4_textAt_106 (by decide) ?_
                    exact V_iret F dX4_textAt_108 (⟨by rw [← hres], rfl⟩)
        refine V_iload_n F dX4_textAt_27 rfl ?_
        refine V_istore_n F (lv' := [_, _, _, _, _, _, _]) dX4_textAt_28 (by decide) rfl rfl ?_
        refine V_iload_n F dX4_textAt_29 rfl ?_
        refine V_istore F (lv' := [_, _, _, _, _, _, _]) dX4_textAt_30 (by decide) rfl rfl ?_
        exact loop j₁ k₁ hj₁ (by omega) rfl
      · rw [if_pos (by omega)]
        refine V_bipush F (v := (-4)) dX4_textAt_24 (by decide) ?_
        exact V_iret F dX4_textAt_26 (⟨rfl, rfl⟩)
end MODELB

