section MODELD0
variable {T : Tb} {n : Nat}
def rE (T : Tb) (n : Nat) (p mv : Int32) : Int32 := match pj n p with
  | none => -1
  | some j => if mv < 0 then -1 else if T 7 j = 0 then nI 0 else -2
def MEQ (T : Tb) (n : Nat) (μ : Mem) (p mv : Int32) : Option Value → Mem → Prop := fun ret μ' => ∃ v, ret = some (.int v) ∧ MInv T n μ' ∧ sameX μ μ' ∧
  ((v < 0 ∧ ∀ f, rMv f T n p mv = v) ∨ (v = nI 0 ∧ ∃ j i a, mv = nI i ∧ i < 3 ∧ j < n ∧ T 7 j = 0 ∧ (mvs T j [])[i]? = some a ∧ Ls T [] 0 (mvs T j []) μ' ∧ ∀ f, rMv f T n p mv = nI (f a)))
theorem vl_nil {x : Nat} (h : x < 3) : vl [] x = x := by unfold vl; rw [if_pos h]
end MODELD0
section MODELD
variable {g : Gm} {l : Launch} {μ : Mem} {T : Tb} {n : Nat}
theorem c_errorOf (hI : MInv T n μ) (p mv : Int32) : Ct (GS g) l (2) yX4_errorOf cX4_errorOf 3 (some .int) [.ref (g.1 15), .int p, .int mv] μ (Is (.int (rE T n p mv)) μ) := by
  have hn := hI.n24
  refine Ct.of (own := RX4) mi_X4_errorOf rfl [some (.ref (g.1 15)), some (.int p), some (.int mv)] (Nat.le_of_ble_eq_true rfl) rfl (fun p₀ e₀ s₀ m₀ b₀ h₀ c₀ F => ?_)
  refine V_aload_n F dX4_errorOf_0 rfl ?_
  refine V_iload_n F dX4_errorOf_1 rfl ?_
  cases h : pj n p with
  | none =>
    have e : rE T n p mv = -1 := by unfold rE; rw [h]
    rw [e]
    refine V_callVi F (q0 := 15) (c_isProc_f hI.2.1 (by omega) (by omega) (pj_none h (by omega))) mi_X4_isProcess mm_X4_isProcess lk_X4_77 dX4_errorOf_2 (rmR (by omega)) rfl rfl (by decide) (Nat.le_of_ble_eq_true rfl) rfl rfl rfl ?_
    refine V_if_eq_t F (tgt := 12) dX4_errorOf_5 (by decide) (by decide) ?_
    refine V_iconst F (v := (-1)) dX4_errorOf_12 (by decide) ?_
    exact V_iret F dX4_errorOf_13 (⟨rfl, rfl⟩)
  | some j =>
    obtain ⟨hj, rfl⟩ := pj_some h (by omega)
    have h7 := hI.1.need hj
    have e : rE T n (nI j) mv = if mv < 0 then -1 else if T 7 j = 0 then nI 0 else -2 := by unfold rE; rw [h]
    rw [e]
    refine V_callVi F (q0 := 15) (c_isProc_t hI.2.1 (by omega) hj) mi_X4_isProcess mm_X4_isProcess lk_X4_77 dX4_errorOf_2 (rmR (by omega)) rfl rfl (by decide) (Nat.le_of_ble_eq_true rfl) rfl rfl rfl ?_
    refine V_if_eq_f F (tgt := 12) dX4_errorOf_5 (by decide) (by decide) ?_
    refine V_iload_n F dX4_errorOf_8 rfl ?_
    by_cases hm : mv < 0
    · rw [if_pos hm]
      refine V_if_ge_f F (tgt := 14) dX4_errorOf_9 (by decide) (fun q => Int32.not_lt.mpr q hm) ?_
      refine V_iconst F (v := (-1)) dX4_errorOf_12 (by decide) ?_
      exact V_iret F dX4_errorOf_13 (⟨rfl, rfl⟩)
    · rw [if_neg hm]
      refine V_if_ge_t F (tgt := 14) dX4_errorOf_9 (by decide) (Int32.not_lt.mp hm) ?_
      refine V_aload_n F dX4_errorOf_14 rfl ?_
      refine V_getf F (q0 := 15) (j := 8) lk_X4_35 dX4_errorOf_15 ig_X4 rfl rfl (by decide) rfl rfl ?_
      refine V_iload_n F dX4_errorOf_18 rfl ?_
      refine V_ia F dX4_errorOf_19 rfl (rfl) ((show j < 24 by omega)) ((hI.fld 7 rfl (by omega) hj)) ?_
      by_cases h0 : T 7 j = 0
      · rw [if_pos h0, h0]
        refine V_if_le_t F (tgt := 28) dX4_errorOf_20 (by decide) (by decide) ?_
        refine V_iconst F (v := nI 0) dX4_errorOf_28 (by decide) ?_
        exact V_iret F dX4_errorOf_29 (⟨rfl, rfl⟩)
      · rw [if_neg h0]
        refine V_if_le_f F (tgt := 28) dX4_errorOf_20 (by decide) (fun z => by rw [← nI_0] at z; have := (nI_leI (by omega) (by omega)).mp z; omega) ?_
        refine V_bipush F (v := (-2)) dX4_errorOf_23 (by decide) ?_
        refine V_goto F (tgt := 29) dX4_errorOf_25 (by decide) ?_
        exact V_iret F dX4_errorOf_29 (⟨rfl, rfl⟩)
theorem c_mmoveCount (hI : MInv T n μ) (p : Int32) : Ct (GS g) l (3) yX4_moveCount cX4_moveCount 3 (some .int) [.ref (g.1 15), .int p] μ (MQA T n μ (rMC T n p)) := by
  have hn := hI.n24
  refine Ct.of (own := RX4) mi_X4_moveCount rfl [some (.ref (g.1 15)), some (.int p), none] (Nat.le_of_ble_eq_true rfl) rfl (fun p₀ e₀ s₀ m₀ b₀ h₀ c₀ F => ?_)
  refine V_aload_n F dX4_moveCount_0 rfl ?_
  refine V_iload_n F dX4_moveCount_1 rfl ?_
  refine V_iconst F (v := nI 0) dX4_moveCount_2 (by decide) ?_
  refine V_callVi F (q0 := 15) (c_errorOf hI p (nI 0)) mi_X4_errorOf mm_X4_errorOf lk_X4_97 dX4_moveCount_3 (rmR (by omega)) rfl rfl (by decide) (Nat.le_of_ble_eq_true rfl) rfl rfl rfl ?_
  refine V_istore_n F (lv' := [_, _, _]) dX4_moveCount_6 (by decide) rfl rfl ?_
  refine V_iload_n F dX4_moveCount_7 rfl ?_
  have hz : ¬ nI 0 < 0 := nI_nn (by omega)
  cases h : pj n p with
  | none =>
    have e1 : rE T n p (nI 0) = -1 := by unfold rE; rw [h]
    have e : rMC T n p = -1 := by unfold rMC; rw [h]
    rw [e, e1]
    refine V_if_ge_f F (tgt := 13) dX4_moveCount_8 (by decide) (by decide) ?_
    refine V_iload_n F dX4_moveCount_11 rfl ?_
    exact V_iret F dX4_moveCount_12 (⟨rfl, hI, sameX.rfl' μ⟩)
  | some j =>
    obtain ⟨hj, rfl⟩ := pj_some h (by omega)
    by_cases h0 : T 7 j = 0
    · have e1 : rE T n (nI j) (nI 0) = nI 0 := by unfold rE; rw [h]; simp only [if_neg hz, if_pos h0]
      have e : rMC T n (nI j) = nI (mvs T j []).length := by unfold rMC; rw [h]; simp only [if_pos h0]
      rw [e, e1]
      refine V_if_ge_t F (tgt := 13) dX4_moveCount_8 (by decide) (by decide) ?_
      refine V_aload_n F dX4_moveCount_13 rfl ?_
      refine V_iconst F (v := nI 0) dX4_moveCount_14 (by decide) ?_
      refine V_iload_n F dX4_moveCount_15 rfl ?_
      refine V_iconst F (v := nI 0) dX4_moveCount_16 (by decide) ?_
      refine V_callV F (q0 := 15) (c_lists (at_ := 0) (p₁ := j) (r := []) hI (by omega) hj trivial (by simp)) mi_X4_lists mm_X4_lists lk_X4_100 dX4_moveCount_17 (rmR (by omega)) rfl rfl (by decide) (Nat.le_of_ble_eq_true rfl) rfl rfl rfl (fun r μ' h => ?_)
      obtain ⟨rfl, hF, hL⟩ := h
      refine V_aload_n F dX4_moveCount_20 rfl ?_
      refine V_getf F (q0 := 15) (j := 10) lk_X4_41 dX4_moveCount_21 ig_X4 rfl rfl (by decide) rfl rfl ?_
      refine V_iconst F (v := nI 0) dX4_moveCount_24 (by decide) ?_
      refine V_ia F dX4_moveCount_25 rfl (rfl) ((by decide)) (hL.1) ?_
      exact V_iret F dX4_moveCount_26 (⟨rfl, hF.mi hI, hF.sx⟩)
    · have e1 : rE T n (nI j) (nI 0) = -2 := by unfold rE; rw [h]; simp only [if_neg hz, if_neg h0]
      have e : rMC T n (nI j) = -2 := by unfold rMC; rw [h]; simp only [if_neg h0]
      rw [e, e1]
      refine V_if_ge_f F (tgt := 13) dX4_moveCount_8 (by decide) (by decide) ?_
      refine V_iload_n F dX4_moveCount_11 rfl ?_
      exact V_iret F dX4_moveCount_12 (⟨rfl, hI, sameX.rfl' μ⟩)
theorem c_moveError (hI : MInv T n μ) (p mv : Int32) : Ct (GS g) l (3) yX4_moveError cX4_moveError 4 (some .int) [.ref (g.1 15), .int p, .int mv] μ (MEQ T n μ p mv) := by
  have hn := hI.n24
  refine Ct.of (own := RX4) mi_X4_moveError rfl [some (.ref (g.1 15)), some (.int p), some (.int mv), none] (Nat.le_of_ble_eq_true rfl) rfl (fun p₀ e₀ s₀ m₀ b₀ h₀ c₀ F => ?_)
  refine V_aload_n F dX4_moveError_0 rfl ?_
  refine V_iload_n F dX4_moveError_1 rfl ?_
  refine V_iload_n F dX4_moveError_2 rfl ?_
  refine V_callVi F (q0 := 15) (c_errorOf hI p mv) mi_X4_errorOf mm_X4_errorOf lk_X4_97 dX4_moveError_3 (rmR (by omega)) rfl rfl (by decide) (Nat.le_of_ble_eq_true rfl) rfl rfl rfl ?_
  refine V_istore_n F (lv' := [_, _, _, _]) dX4_moveError_6 (by decide) rfl rfl ?_
  refine V_iload_n F dX4_moveError_7 rfl ?_
  cases h : pj n p with
  | none =>
    have e1 : rE T n p mv = -1 := by unfold rE; rw [h]
    have e : ∀ f, rMv f T n p mv = -1 := fun f => by unfold rMv; rw [h]
    rw [e1]
    refine V_if_ge_f F (tgt := 13) dX4_moveError_8 (by decide) (by decide) ?_
    refine V_iload_n F dX4_moveError_11 rfl ?_
    exact V_iret F dX4_moveError_12 (⟨_, rfl, hI, sameX.rfl' μ, Or.inl ⟨by decide, e⟩⟩)
  | some j =>
    obtain ⟨hj, rfl⟩ := pj_some h (by omega)
    by_cases hm : mv < 0
    · have e1 : rE T n (nI j) mv = -1 := by unfold rE; rw [h]; simp only [if_pos hm]
      have e : ∀ f, rMv f T n (nI j) mv = -1 := fun f => by unfold rMv; rw [h]; simp only [if_pos hm]
      rw [e1]
      refine V_if_ge_f F (tgt := 13) dX4_moveError_8 (by decide) (by decide) ?_
      refine V_iload_n F dX4_moveError_11 rfl ?_
      exact V_iret F dX4_moveError_12 (⟨_, rfl, hI, sameX.rfl' μ, Or.inl ⟨by decide, e⟩⟩)
    · by_cases h0 : T 7 j = 0
      · have e1 : rE T n (nI j) mv = nI 0 := by unfold rE; rw [h]; simp only [if_neg hm, if_pos h0]
        obtain ⟨i, hi, rfl⟩ := nI_of hm
        have e : ∀ f, rMv f T n (nI j) (nI i) = ((mvs T j [])[i]?).elim (-4) (fun a => nI (f a)) := fun f => by
          unfold rMv; rw [h]; simp only [if_neg hm, if_pos h0, nI_clamp hi]
          cases (mvs T j [])[i]? <;> rfl
        have hlen := mvs_len hI.1 hj []
        rw [e1]
        refine V_if_ge_t F (tgt := 13) dX4_moveError_8 (by decide) (by decide) ?_
        refine V_aload_n F dX4_moveError_13 rfl ?_
        refine V_iconst F (v := nI 0) dX4_moveError_14 (by decide) ?_
        refine V_iload_n F dX4_moveError_15 rfl ?_
        refine V_iconst F (v := nI 0) dX4_moveError_16 (by decide) ?_
        refine V_callV F (q0 := 15) (c_lists (at_ := 0) (p₁ := j) (r := []) hI (by omega) hj trivial (by simp)) mi_X4_lists mm_X4_lists lk_X4_100 dX4_moveError_17 (rmR (by omega)) rfl rfl (by decide) (Nat.le_of_ble_eq_true rfl) rfl rfl rfl (fun r μ' h => ?_)
        obtain ⟨rfl, hF, hL⟩ := h
        refine V_iload_n F dX4_moveError_20 rfl ?_
        refine V_aload_n F dX4_moveError_21 rfl ?_
        refine V_getf F (q0 := 15) (j := 10) lk_X4_41 dX4_moveError_22 ig_X4 rfl rfl (by decide) rfl rfl ?_
        refine V_iconst F (v := nI 0) dX4_moveError_25 (by decide) ?_
        refine V_ia F dX4_moveError_26 rfl (rfl) ((by decide)) (hL.1) ?_
        refine V_icmp_ge_N F (tgt := 34) dX4_moveError_27 (by decide) (by omega) (by omega) (fun hc => ?_) (fun hc => ?_)
        · skip
          refine V_bipush F (v := (-4)) dX4_moveError_34 (by decide) ?_
          exact V_iret F dX4_moveError_36 (⟨_, rfl, hF.mi hI, hF.sx, Or.inl ⟨by decide, fun f => by rw [e f, List.getElem?_eq_none (by omega)]; rfl⟩⟩)
        · skip
          refine V_iconst F (v := nI 0) dX4_moveError_30 (by decide) ?_
          refine V_goto F (tgt := 36) dX4_moveError_31 (by decide) ?_
          refine V_iret F dX4_moveError_36 ⟨_, rfl, hF.mi hI, hF.sx, Or.inr ⟨rfl, j, i, _, rfl, by omega, hj, h0, List.getElem?_eq_getElem (by omega), hL, fun f => ?_⟩⟩
          rw [e f, List.getElem?_eq_getElem (by omega)]
          rfl
      · have e1 : rE T n (nI j) mv = -2 := by unfold rE; rw [h]; simp only [if_neg hm, if_neg h0]
        have e : ∀ f, rMv f T n (nI j) mv = -2 := fun f => by unfold rMv; rw [h]; simp only [if_neg hm, if_neg h0]
        rw [e1]
        refine V_if_ge_f F (tgt := 13) dX4_moveError_8 (by decide) (by decide) ?_
        refine V_iload_n F dX4_moveError_11 rfl ?_
        exact V_iret F dX4_moveError_12 (⟨_, rfl, hI, sameX.rfl' μ, Or.inl ⟨by decide, e⟩⟩)
theorem c_mmoveKind (hI : MInv T n μ) (p mv : Int32) : Ct (GS g) l (4) yX4_moveKind cX4_moveKind 4 (some .int) [.ref (g.1 15), .int p, .int mv] μ (MQA T n μ (rMv (T 0) T n p mv)) := by
  refine Ct.of (own := RX4) mi_X4_moveKind rfl [some (.ref (g.1 15)), some (.int p), some (.int mv), none] (Nat.le_of_ble_eq_true rfl) rfl (fun p₀ e₀ s₀ m₀ b₀ h₀ c₀ F => ?_)
  refine V_aload_n F dX4_moveKind_0 rfl ?_
  refine V_iload_n F dX4_moveKind_1 rfl ?_
  refine V_iload_n F dX4_moveKind_2 rfl ?_
  refine V_callV F (q0 := 15) (c_moveError hI p mv) mi_X4_moveError mm_X4_moveError lk_X4_104 dX4_moveKind_3 (rmR (by omega)) rfl rfl (by decide) (Nat.le_of_ble_eq_true rfl) rfl rfl rfl (fun r μ' h => ?_)
  obtain ⟨v, rfl, hM, hS, ⟨h1, h2⟩ | ⟨rfl, j, i, a, rfl, hi, hj, h0, ha, hL, h2⟩⟩ := h
  · skip
    refine V_istore_n F (lv' := [_, _, _, _]) dX4_moveKind_6 (by decide) rfl rfl ?_
    refine V_iload_n F dX4_moveKind_7 rfl ?_
    refine V_if_ge_f F (tgt := 15) dX4_moveKind_8 (by decide) (fun z => Int32.not_lt.mpr z h1) ?_
    refine V_iload_n F dX4_moveKind_11 rfl ?_
    refine V_goto F (tgt := 21) dX4_moveKind_12 (by decide) ?_
    exact V_iret F dX4_moveKind_21 (⟨by rw [h2], hM, hS⟩)
  · obtain ⟨k26, k27, k28, k29⟩ := hL.2.2 i a ha
    rw [Nat.mul_zero, Nat.zero_add] at k26 k27 k28 k29
    refine V_istore_n F (lv' := [_, _, _, _]) dX4_moveKind_6 (by decide) rfl rfl ?_
    refine V_iload_n F dX4_moveKind_7 rfl ?_
    refine V_if_ge_t F (tgt := 15) dX4_moveKind_8 (by decide) (by decide) ?_
    refine V_aload_n F dX4_moveKind_15 rfl ?_
    refine V_getf F (q0 := 15) (j := 11) lk_X4_44 dX4_moveKind_16 ig_X4 rfl rfl (by decide) rfl rfl ?_
    refine V_iload_n F dX4_moveKind_19 rfl ?_
    refine V_ia F dX4_moveKind_20 rfl (rfl) ((show i < 24 by omega)) (k26) ?_
    exact V_iret F dX4_moveKind_21 (⟨by rw [h2], hM, hS⟩)
theorem c_mmoveTarget (hI : MInv T n μ) (p mv : Int32) : Ct (GS g) l (4) yX4_moveTarget cX4_moveTarget 4 (some .int) [.ref (g.1 15), .int p, .int mv] μ (MQA T n μ (rMv (T 3) T n p mv)) := by
  refine Ct.of (own := RX4) mi_X4_moveTarget rfl [some (.ref (g.1 15)), some (.int p), some (.int mv), none] (Nat.le_of_ble_eq_true rfl) rfl (fun p₀ e₀ s₀ m₀ b₀ h₀ c₀ F => ?_)
  refine V_aload_n F dX4_moveTarget_0 rfl ?_
  refine V_iload_n F dX4_moveTarget_1 rfl ?_
  refine V_iload_n F dX4_moveTarget_2 rfl ?_
  refine V_callV F (q0 := 15) (c_moveError hI p mv) mi_X4_moveError mm_X4_moveError lk_X4_104 dX4_moveTarget_3 (rmR (by omega)) rfl rfl (by decide) (Nat.le_of_ble_eq_true rfl) rfl rfl rfl (fun r μ' h => ?_)
  obtain ⟨v, rfl, hM, hS, ⟨h1, h2⟩ | ⟨rfl, j, i, a, rfl, hi, hj, h0, ha, hL, h2⟩⟩ := h
  · skip
    refine V_istore_n F (lv' := [_, _, _, _]) dX4_moveTarget_6 (by decide) rfl rfl ?_
    refine V_iload_n F dX4_moveTarget_7 rfl ?_
    refine V_if_ge_f F (tgt := 15) dX4_moveTarget_8 (by decide) (fun z => Int32.not_lt.mpr z h1) ?_
    refine V_iload_n F dX4_moveTarget_11 rfl ?_
    refine V_goto F (tgt := 21) dX4_moveTarget_12 (by decide) ?_
    exact V_iret F dX4_moveTarget_21 (⟨by rw [h2], hM, hS⟩)
  · obtain ⟨k26, k27, k28, k29⟩ := hL.2.2 i a ha
    rw [Nat.mul_zero, Nat.zero_add] at k26 k27 k28 k29
    refine V_istore_n F (lv' := [_, _, _, _]) dX4_moveTarget_6 (by decide) rfl rfl ?_
    refine V_iload_n F dX4_moveTarget_7 rfl ?_
    refine V_if_ge_t F (tgt := 15) dX4_moveTarget_8 (by decide) (by decide) ?_
    refine V_aload_n F dX4_moveTarget_15 rfl ?_
    refine V_getf F (q0 := 15) (j := 14) lk_X4_53 dX4_moveTarget_16 ig_X4 rfl rfl (by decide) rfl rfl ?_
    refine V_iload_n F dX4_moveTarget_19 rfl ?_
    refine V_ia F dX4_moveTarget_20 rfl (rfl) ((show i < 24 by omega)) (k29) ?_
    exact V_iret F dX4_moveTarget_21 (⟨by rw [h2], hM, hS⟩)
theorem c_mmoveNames (hI : MInv T n μ) (p mv : Int32) : Ct (GS g) l (4) yX4_moveNames cX4_moveNames 4 (some .int) [.ref (g.1 15), .int p, .int mv] μ (MQA T n μ (rMv (nmf T) T n p mv)) := by
  refine Ct.of (own := RX4) mi_X4_moveNames rfl [some (.ref (g.1 15)), some (.int p), some (.int mv), none] (Nat.le_of_ble_eq_true rfl) rfl (fun p₀ e₀ s₀ m₀ b₀ h₀ c₀ F => ?_)
  refine V_aload_n F dX4_moveNames_0 rfl ?_
  refine V_iload_n F dX4_moveNames_1 rfl ?_
  refine V_iload_n F dX4_moveNames_2 rfl ?_
  refine V_callV F (q0 := 15) (c_moveError hI p mv) mi_X4_moveError mm_X4_moveError lk_X4_104 dX4_moveNames_3 (rmR (by omega)) rfl rfl (by decide) (Nat.le_of_ble_eq_true rfl) rfl rfl rfl (fun r μ' h => ?_)
  obtain ⟨v, rfl, hM, hS, ⟨h1, h2⟩ | ⟨rfl, j, i, a, rfl, hi, hj, h0, ha, hL, h2⟩⟩ := h
  · skip
    refine V_istore_n F (lv' := [_, _, _, _]) dX4_moveNames_6 (by decide) rfl rfl ?_
    refine V_iload_n F dX4_moveNames_7 rfl ?_
    refine V_if_ge_f F (tgt := 13) dX4_moveNames_8 (by decide) (fun z => Int32.not_lt.mpr z h1) ?_
    refine V_iload_n F dX4_moveNames_11 rfl ?_
    exact V_iret F dX4_moveNames_12 (⟨by rw [h2], hM, hS⟩)
  · obtain ⟨k26, k27, k28, k29⟩ := hL.2.2 i a ha
    rw [Nat.mul_zero, Nat.zero_add] at k26 k27 k28 k29
    obtain ⟨a1, a2, a3, a4, a5⟩ := mvs_at hI.1 hj ha
    obtain ⟨f1, f2, -⟩ := act_facts hI.1 a2 a3 a4
    rw [vl_nil (by omega)] at k27 k28
    refine V_istore_n F (lv' := [_, _, _, _]) dX4_moveNames_6 (by decide) rfl rfl ?_
    refine V_iload_n F dX4_moveNames_7 rfl ?_
    refine V_if_ge_t F (tgt := 13) dX4_moveNames_8 (by decide) (by decide) ?_
    refine V_aload_n F dX4_moveNames_13 rfl ?_
    refine V_getf F (q0 := 15) (j := 11) lk_X4_44 dX4_moveNames_14 ig_X4 rfl rfl (by decide) rfl rfl ?_
    refine V_iload_n F dX4_moveNames_17 rfl ?_
    refine V_ia F dX4_moveNames_18 rfl (rfl) ((show i < 24 by omega)) (k26) ?_
    refine V_iconst F (v := nI 1) dX4_moveNames_19 (by decide) ?_
    refine V_icmp_ne_N F (tgt := 28) dX4_moveNames_20 (by decide) (by omega) (by omega) (fun q1 => ?_) (fun q1 => ?_)
    · skip
      refine V_bipush F (v := nI 10) dX4_moveNames_28 (by decide) ?_
      refine V_aload_n F dX4_moveNames_30 rfl ?_
      refine V_getf F (q0 := 15) (j := 12) lk_X4_47 dX4_moveNames_31 ig_X4 rfl rfl (by decide) rfl rfl ?_
      refine V_iload_n F dX4_moveNames_34 rfl ?_
      refine V_ia F dX4_moveNames_35 rfl (rfl) ((show i < 24 by omega)) (k27) ?_
      (first | refine V_imulN F dX4_moveNames_36 ?_ | refine V_imul F dX4_moveNames_36 ?_)
      refine V_aload_n F dX4_moveNames_37 rfl ?_
      refine V_getf F (q0 := 15) (j := 11) lk_X4_44 dX4_moveNames_38 ig_X4 rfl rfl (by decide) rfl rfl ?_
      refine V_iload_n F dX4_moveNames_41 rfl ?_
      refine V_ia F dX4_moveNames_42 rfl (rfl) ((show i < 24 by omega)) (k26) ?_
      refine V_iconst F (v := nI 3) dX4_moveNames_43 (by decide) ?_
      refine V_icmp_ne_N F (tgt := 52) dX4_moveNames_44 (by decide) (by omega) (by omega) (fun q3 => ?_) (fun q3 => ?_)
      · skip
        refine V_aload_n F dX4_moveNames_52 rfl ?_
        refine V_getf F (q0 := 15) (j := 13) lk_X4_50 dX4_moveNames_53 ig_X4 rfl rfl (by decide) rfl rfl ?_
        refine V_iload_n F dX4_moveNames_56 rfl ?_
        refine V_ia F dX4_moveNames_57 rfl (rfl) ((show i < 24 by omega)) (k28) ?_
        (first | refine V_iaddN F dX4_moveNames_58 ?_ | refine V_iadd F dX4_moveNames_58 ?_)
        exact V_iret F dX4_moveNames_59 (⟨by rw [h2, nmf, if_neg q1, if_pos (by omega)], hM, hS⟩)
      · skip
        refine V_bipush F (v := nI 9) dX4_moveNames_47 (by decide) ?_
        refine V_goto F (tgt := 58) dX4_moveNames_49 (by decide) ?_
        (first | refine V_iaddN F dX4_moveNames_58 ?_ | refine V_iadd F dX4_moveNames_58 ?_)
        exact V_iret F dX4_moveNames_59 (⟨by rw [h2, nmf, if_neg q1, if_neg (by omega)], hM, hS⟩)
    · skip
      refine V_bipush F (v := nI 99) dX4_moveNames_23 (by decide) ?_
      refine V_goto F (tgt := 59) dX4_moveNames_25 (by decide) ?_
      exact V_iret F dX4_moveNames_59 (⟨by rw [h2, nmf, if_pos (Classical.not_not.mp q1)], hM, hS⟩)
end MODELD

