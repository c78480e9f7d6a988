section LEAF
variable {g : Gm} {l : Launch} {μ : Mem}
theorem len_lt (c : Nat) : lenS c ≤ 4140 := by unfold lenS; split <;> omega
theorem c_at {q j : Nat} {v : Int32} (h : isI q = true) (hj : j < lenS q) (hv : μ.1 q j = v) : Ct (GS g) l 0 yX3_at cX3_at 2 (some .int) [.ref (g.1 q), .int (nI j)] μ (Is (.int v) μ) := by
  have hb := len_lt q
  have hj0 : ¬ nI j < 0 := by rw [← nI_0]; exact fun q => by have := (nI_ltI (by omega) (by omega)).mp q; omega
  refine Ct.of (own := RX3) mi_X3_at rfl [some (.ref (g.1 q)), some (.int (nI j))] (Nat.le_of_ble_eq_true rfl) rfl (fun p₀ e₀ s₀ m₀ b₀ h₀ c₀ F => ?_)
  refine V_aload_n F dX3_at_0 rfl ?_
  refine V_ifnull F dX3_at_1 ?_
  refine V_iload_n F dX3_at_4 rfl ?_
  refine V_if_lt_f F (tgt := 20) dX3_at_5 (by decide) (hj0) ?_
  refine V_iload_n F dX3_at_8 rfl ?_
  refine V_aload_n F dX3_at_9 rfl ?_
  refine V_alen F (v := nI (lenS q)) dX3_at_10 0 (wS_int h) rfl rfl ?_
  refine V_icmp_ge_f F (tgt := 20) dX3_at_11 (by decide) (fun hh => by have := (nI_leI (by omega) (by omega)).mp hh; omega) ?_
  refine V_aload_n F dX3_at_14 rfl ?_
  refine V_iload_n F dX3_at_15 rfl ?_
  refine V_ia F dX3_at_16 h rfl hj hv ?_
  refine V_goto F (tgt := 21) dX3_at_17 (by decide) ?_
  exact V_iret F dX3_at_21 (⟨rfl, rfl⟩)
theorem c_at_neg {q : Nat} : Ct (GS g) l 0 yX3_at cX3_at 2 (some .int) [.ref (g.1 q), .int (-1)] μ (Is (.int (nI 0)) μ) := by
  refine Ct.of (own := RX3) mi_X3_at rfl [some (.ref (g.1 q)), some (.int (-1))] (Nat.le_of_ble_eq_true rfl) rfl (fun p₀ e₀ s₀ m₀ b₀ h₀ c₀ F => ?_)
  refine V_aload_n F dX3_at_0 rfl ?_
  refine V_ifnull F dX3_at_1 ?_
  refine V_iload_n F dX3_at_4 rfl ?_
  refine V_if_lt_t F (tgt := 20) dX3_at_5 (by decide) (by decide) ?_
  refine V_iconst F (v := nI 0) dX3_at_20 (by decide) ?_
  exact V_iret F dX3_at_21 (⟨rfl, rfl⟩)
theorem c_atL {j : Nat} {v : Int64} (hj : j < 72) (hv : μ.2 j = v) : Ct (GS g) l 0 yX3_at_ cX3_at_ 2 (some .long) [.ref (g.1 13), .int (nI j)] μ (Is (.long v) μ) := by
  have hj0 : ¬ nI j < 0 := by rw [← nI_0]; exact fun q => by have := (nI_ltI (by omega) (by omega)).mp q; omega
  refine Ct.of (own := RX3) mi_X3_at_ rfl [some (.ref (g.1 13)), some (.int (nI j))] (Nat.le_of_ble_eq_true rfl) rfl (fun p₀ e₀ s₀ m₀ b₀ h₀ c₀ F => ?_)
  refine V_aload_n F dX3_at__0 rfl ?_
  refine V_ifnull F dX3_at__1 ?_
  refine V_iload_n F dX3_at__4 rfl ?_
  refine V_if_lt_f F (tgt := 20) dX3_at__5 (by decide) (hj0) ?_
  refine V_iload_n F dX3_at__8 rfl ?_
  refine V_aload_n F dX3_at__9 rfl ?_
  refine V_alen F (v := nI 72) (q0 := 13) dX3_at__10 1 rfl rfl rfl ?_
  refine V_icmp_ge_f F (tgt := 20) dX3_at__11 (by decide) (fun hh => by have := (nI_leI (by omega) (by omega)).mp hh; omega) ?_
  refine V_aload_n F dX3_at__14 rfl ?_
  refine V_iload_n F dX3_at__15 rfl ?_
  refine V_lald F (q0 := 13) dX3_at__16 rfl (vp_in_nI hj (by omega)) ?_
  rw [nI_clamp (by omega)]
  refine V_goto F (tgt := 21) dX3_at__17 (by decide) ?_
  exact V_lret F dX3_at__21 (⟨by rw [← hv], rfl⟩)
theorem c_put {q j : Nat} {v : Int32} (h : isI q = true) (hj : j < lenS q) : Ct (GS g) l 0 yX3_put cX3_put 3 none [.ref (g.1 q), .int (nI j), .int v] μ (fun r μ' => r = none ∧ μ' = wr μ q j v) := by
  have hb := len_lt q
  have hj0 : ¬ nI j < 0 := by rw [← nI_0]; exact fun q => by have := (nI_ltI (by omega) (by omega)).mp q; omega
  refine Ct.of (own := RX3) mi_X3_put rfl [some (.ref (g.1 q)), some (.int (nI j)), some (.int v)] (Nat.le_of_ble_eq_true rfl) rfl (fun p₀ e₀ s₀ m₀ b₀ h₀ c₀ F => ?_)
  refine V_aload_n F dX3_put_0 rfl ?_
  refine V_ifnull F dX3_put_1 ?_
  refine V_iload_n F dX3_put_4 rfl ?_
  refine V_if_lt_f F (tgt := 18) dX3_put_5 (by decide) (hj0) ?_
  refine V_iload_n F dX3_put_8 rfl ?_
  refine V_aload_n F dX3_put_9 rfl ?_
  refine V_alen F (v := nI (lenS q)) dX3_put_10 0 (wS_int h) rfl rfl ?_
  refine V_icmp_ge_f F (tgt := 18) dX3_put_11 (by decide) (fun hh => by have := (nI_leI (by omega) (by omega)).mp hh; omega) ?_
  refine V_aload_n F dX3_put_14 rfl ?_
  refine V_iload_n F dX3_put_15 rfl ?_
  refine V_iload_n F dX3_put_16 rfl ?_
  refine V_ias F dX3_put_17 h rfl hj ?_
  exact V_vret F dX3_put_18 (⟨rfl, rfl⟩)
theorem c_put_neg {q : Nat} {v : Int32} : Ct (GS g) l 0 yX3_put cX3_put 3 none [.ref (g.1 q), .int (-1), .int v] μ (fun r μ' => r = none ∧ μ' = μ) := by
  refine Ct.of (own := RX3) mi_X3_put rfl [some (.ref (g.1 q)), some (.int (-1)), some (.int v)] (Nat.le_of_ble_eq_true rfl) rfl (fun p₀ e₀ s₀ m₀ b₀ h₀ c₀ F => ?_)
  refine V_aload_n F dX3_put_0 rfl ?_
  refine V_ifnull F dX3_put_1 ?_
  refine V_iload_n F dX3_put_4 rfl ?_
  refine V_if_lt_t F (tgt := 18) dX3_put_5 (by decide) (by decide) ?_
  exact V_vret F dX3_put_18 (⟨rfl, rfl⟩)
theorem c_putL {j : Nat} {v : Int64} (hj : j < 72) : Ct (GS g) l 0 yX3_put_ cX3_put_ 4 none [.ref (g.1 13), .int (nI j), .long v] μ (fun r μ' => r = none ∧ μ' = wrL μ j v) := by
  have hj0 : ¬ nI j < 0 := by rw [← nI_0]; exact fun q => by have := (nI_ltI (by omega) (by omega)).mp q; omega
  refine Ct.of (own := RX3) mi_X3_put_ rfl [some (.ref (g.1 13)), some (.int (nI j)), some (.long v), none] (Nat.le_of_ble_eq_true rfl) rfl (fun p₀ e₀ s₀ m₀ b₀ h₀ c₀ F => ?_)
  refine V_aload_n F dX3_put__0 rfl ?_
  refine V_ifnull F dX3_put__1 ?_
  refine V_iload_n F dX3_put__4 rfl ?_
  refine V_if_lt_f F (tgt := 18) dX3_put__5 (by decide) (hj0) ?_
  refine V_iload_n F dX3_put__8 rfl ?_
  refine V_aload_n F dX3_put__9 rfl ?_
  refine V_alen F (v := nI 72) (q0 := 13) dX3_put__10 1 rfl rfl rfl ?_
  refine V_icmp_ge_f F (tgt := 18) dX3_put__11 (by decide) (fun hh => by have := (nI_leI (by omega) (by omega)).mp hh; omega) ?_
  refine V_aload_n F dX3_put__14 rfl ?_
  refine V_iload_n F dX3_put__15 rfl ?_
  refine V_lload_n F dX3_put__16 rfl ?_
  refine V_last F (q0 := 13) (μ' := wrL μ j v) dX3_put__17 rfl (vp_in_nI hj (by omega)) (by rw [nI_clamp (by omega)]; rfl) ?_
  exact V_vret F dX3_put__18 (⟨rfl, rfl⟩)
/-- an int that is the number of a process -/
def isP (n : Nat) (p : Int32) : Prop := ∃ j, j < n ∧ p = nI j
theorem not_isP {n : Nat} {p : Int32} (hn : n < 2 ^ 31) (h : ¬ isP n p) : p < 0 ∨ (¬ p < 0 ∧ nI n ≤ p) := by
  rcases pk_ix p hn with h1 | h1 | h1
  · exact Or.inl h1
  · by_cases h0 : p < 0
    · exact Or.inl h0
    · exact Or.inr ⟨h0, h1⟩
  · exact absurd h1 h
theorem nI_nn {j : Nat} (hj : j < 2 ^ 31) : ¬ nI j < 0 := by
  rw [← nI_0]; exact fun q => by have := (nI_ltI (by omega) (by omega)).mp q; omega
theorem c_holds_t {n j : Nat} (hc : μ.1 1 0 = nI n) (hn : n ≤ 24) (hj : j < n) : Ct (GS g) l 0 yX2_holds cX2_holds 2 (some .boolean) [.ref (g.1 1), .int (nI j)] μ (Is (.int (nI 1)) μ) := by
  refine Ct.of (own := RX2) mi_X2_holds rfl [some (.ref (g.1 1)), some (.int (nI j))] (Nat.le_of_ble_eq_true rfl) rfl (fun p₀ e₀ s₀ m₀ b₀ h₀ c₀ F => ?_)
  refine V_iload_n F dX2_holds_0 rfl ?_
  refine V_if_lt_f F (tgt := 16) dX2_holds_1 (by decide) (nI_nn (by omega)) ?_
  refine V_iload_n F dX2_holds_4 rfl ?_
  refine V_aload_n F dX2_holds_5 rfl ?_
  refine V_getf F (q0 := 1) (j := 0) lk_X2_50 dX2_holds_6 ig_X2 rfl rfl (by decide) rfl rfl ?_
  refine V_val F (hc) ?_
  refine V_icmp_ge_f F (tgt := 16) dX2_holds_9 (by decide) (fun hh => by have := (nI_leI (by omega) (by omega)).mp hh; omega) ?_
  refine V_iconst F (v := nI 1) dX2_holds_12 (by decide) ?_
  refine V_goto F (tgt := 17) dX2_holds_13 (by decide) ?_
  exact V_zret F dX2_holds_17 (rfl) (⟨rfl, rfl⟩)
theorem c_holds_f {n : Nat} {p : Int32} (hc : μ.1 1 0 = nI n) (hn : n ≤ 24) (hp : ¬ isP n p) : Ct (GS g) l 0 yX2_holds cX2_holds 2 (some .boolean) [.ref (g.1 1), .int p] μ (Is (.int (nI 0)) μ) := by
  refine Ct.of (own := RX2) mi_X2_holds rfl [some (.ref (g.1 1)), some (.int p)] (Nat.le_of_ble_eq_true rfl) rfl (fun p₀ e₀ s₀ m₀ b₀ h₀ c₀ F => ?_)
  rcases not_isP (by omega) hp with h | ⟨h1, h2⟩
  · skip
    refine V_iload_n F dX2_holds_0 rfl ?_
    refine V_if_lt_t F (tgt := 16) dX2_holds_1 (by decide) (h) ?_
    refine V_iconst F (v := nI 0) dX2_holds_16 (by decide) ?_
    exact V_zret F dX2_holds_17 (rfl) (⟨rfl, rfl⟩)
  · skip
    refine V_iload_n F dX2_holds_0 rfl ?_
    refine V_if_lt_f F (tgt := 16) dX2_holds_1 (by decide) (h1) ?_
    refine V_iload_n F dX2_holds_4 rfl ?_
    refine V_aload_n F dX2_holds_5 rfl ?_
    refine V_getf F (q0 := 1) (j := 0) lk_X2_50 dX2_holds_6 ig_X2 rfl rfl (by decide) rfl rfl ?_
    refine V_val F (hc) ?_
    refine V_icmp_ge_t F (tgt := 16) dX2_holds_9 (by decide) (h2) ?_
    refine V_iconst F (v := nI 0) dX2_holds_16 (by decide) ?_
    exact V_zret F dX2_holds_17 (rfl) (⟨rfl, rfl⟩)
theorem c_isClosed {p d : Nat} (hp : p < 24) (hv : μ.1 10 p = nI d) (hd : d < 100) : Ct (GS g) l 1 yX2_isClosed cX2_isClosed 2 (some .boolean) [.ref (g.1 1), .int (nI p)] μ (Is (.int (nI (if d = 0 then 1 else 0))) μ) := by
  refine Ct.of (own := RX2) mi_X2_isClosed rfl [some (.ref (g.1 1)), some (.int (nI p))] (Nat.le_of_ble_eq_true rfl) rfl (fun p₀ e₀ s₀ m₀ b₀ h₀ c₀ F => ?_)
  refine V_aload_n F dX2_isClosed_0 rfl ?_
  refine V_getf F (q0 := 1) (j := 8) lk_X2_33 dX2_isClosed_1 ig_X2 rfl rfl (by decide) rfl rfl ?_
  refine V_iload_n F dX2_isClosed_4 rfl ?_
  refine V_callSNi F (c_at (q := 10) rfl (by simpa [lenS] using hp) hv) mi_X3_at ms_X3_at nk_X2_68 dX2_isClosed_5 (rmR (by omega)) rfl rfl (by decide) (Nat.le_of_ble_eq_true rfl) ?_
  by_cases h : d = 0
  · subst h
    refine V_if_ne_f F (tgt := 15) dX2_isClosed_8 (by decide) (nI_0) ?_
    refine V_iconst F (v := nI 1) dX2_isClosed_11 (by decide) ?_
    refine V_goto F (tgt := 16) dX2_isClosed_12 (by decide) ?_
    exact V_zret F dX2_isClosed_16 (rfl) (⟨rfl, rfl⟩)
  · rw [if_neg h]
    refine V_if_ne_t F (tgt := 15) dX2_isClosed_8 (by decide) (fun q => by rw [← nI_0] at q; have := (nI_eq (by omega) (by omega)).mp q; omega) ?_
    refine V_iconst F (v := nI 0) dX2_isClosed_15 (by decide) ?_
    exact V_zret F dX2_isClosed_16 (rfl) (⟨rfl, rfl⟩)
end LEAF

