section LAWH0
variable {T : Tb} {n : Nat}
/-- the law's row of sizes -/
def DR (T : Tb) (n : Nat) (μ : Mem) : Prop := ∀ j, j < n → μ.1 16 j = nI (64 * T 5 j + 8 * T 6 j + T 7 j)
def szF (T : Tb) (k x y p q : Nat) : Nat := 64 * bD T k p q + 8 * bB T k p q + bN T k x y p q
theorem DR.of_sameM {μ μ' : Mem} (h : DR T n μ) (s : sameM μ μ') : DR T n μ' := fun j hj => by rw [s 16 (by omega)]; exact h j hj
theorem DR.of_sameW {μ μ' : Mem} (h : DR T n μ) (s : sameW μ μ') : DR T n μ' := fun j hj => by rw [s.1 16 (by omega)]; exact h j hj
theorem sameM_W {μ μ' : Mem} (s : sameW μ μ') : sameM μ μ' := fun c hc => s.1 c (by omega)
def AQ (T : Tb) (n : Nat) : Option Value → Mem → Prop := fun r μ' => ∃ (T' : Tb) (n' : Nat), r = some (.int (nI n')) ∧ n ≤ n' ∧ n' ≤ n + 1 ∧ XInv T' n' μ' ∧ DR T' n' μ'
end LAWH0
section LAWH
variable {g : Gm} {l : Launch} {μ : Mem} {T : Tb} {n : Nat}
theorem c_most {a b : Nat} (ha : a < 2 ^ 31) (hb : b < 2 ^ 31) : Ct (GS g) l (0) yL_most cL_most 2 (some .int) [.int (nI a), .int (nI b)] μ (Is (.int (nI (max a b))) μ) := by
  refine Ct.of (own := RL) mi_L_most rfl [some (.int (nI a)), some (.int (nI b))] (Nat.le_of_ble_eq_true rfl) rfl (fun p₀ e₀ s₀ m₀ b₀ h₀ c₀ F => ?_)
  refine V_iload_n F dL_most_0 rfl ?_
  refine V_iload_n F dL_most_1 rfl ?_
  refine V_icmp_le_N F (tgt := 9) dL_most_2 (by decide) (by omega) (by omega) (fun h => ?_) (fun h => ?_)
  · rw [show max a b = b from Nat.max_eq_right h]
    refine V_iload_n F dL_most_9 rfl ?_
    exact V_iret F dL_most_10 (⟨rfl, rfl⟩)
  · rw [show max a b = a from Nat.max_eq_left (by omega)]
    refine V_iload_n F dL_most_5 rfl ?_
    refine V_goto F (tgt := 10) dL_most_6 (by decide) ?_
    exact V_iret F dL_most_10 (⟨rfl, rfl⟩)
theorem c_named {a : Nat} (ha : a < 2 ^ 31) : Ct (GS g) l (0) yL_named cL_named 1 (some .int) [.int (nI a)] μ (Is (.int (nI (a - 2))) μ) := by
  refine Ct.of (own := RL) mi_L_named rfl [some (.int (nI a))] (Nat.le_of_ble_eq_true rfl) rfl (fun p₀ e₀ s₀ m₀ b₀ h₀ c₀ F => ?_)
  refine V_iload_n F dL_named_0 rfl ?_
  refine V_iconst F (v := nI 2) dL_named_1 (by decide) ?_
  refine V_icmp_le_N F (tgt := 11) dL_named_2 (by decide) (by omega) (by omega) (fun h => ?_) (fun h => ?_)
  · rw [show a - 2 = 0 by omega]
    refine V_iconst F (v := nI 0) dL_named_11 (by decide) ?_
    exact V_iret F dL_named_12 (⟨rfl, rfl⟩)
  · skip
    refine V_iload_n F dL_named_5 rfl ?_
    refine V_iconst F (v := nI 2) dL_named_6 (by decide) ?_
    refine V_isubN F (by omega) dL_named_7 ?_
    refine V_goto F (tgt := 12) dL_named_8 (by decide) ?_
    exact V_iret F dL_named_12 (⟨rfl, rfl⟩)
theorem c_process (k x y p q : Int32) : Ct (GS g) l (0) yL_process cL_process 5 (some .int) [.int k, .int x, .int y, .int p, .int q] μ ((fun r μ' => (∃ v : Int32, r = some (.int v)) ∧ μ' = μ)) := by
  refine Ct.of (own := RL) mi_L_process rfl [some (.int k), some (.int x), some (.int y), some (.int p), some (.int q)] (Nat.le_of_ble_eq_true rfl) rfl (fun p₀ e₀ s₀ m₀ b₀ h₀ c₀ F => ?_)
  refine V_iload_n F dL_process_0 rfl ?_
  refine V_bipush F (v := nI 20) dL_process_1 (by decide) ?_
  refine V_ishl F dL_process_3 ?_
  refine V_iload_n F dL_process_4 rfl ?_
  refine V_bipush F (v := nI 15) dL_process_5 (by decide) ?_
  refine V_ishl F dL_process_7 ?_
  refine V_ior F dL_process_8 ?_
  refine V_iload_n F dL_process_9 rfl ?_
  refine V_bipush F (v := nI 10) dL_process_10 (by decide) ?_
  refine V_ishl F dL_process_12 ?_
  refine V_ior F dL_process_13 ?_
  refine V_iload_n F dL_process_14 rfl ?_
  refine V_iconst F (v := nI 5) dL_process_15 (by decide) ?_
  refine V_ishl F dL_process_16 ?_
  refine V_ior F dL_process_17 ?_
  refine V_iload F dL_process_18 rfl ?_
  refine V_ior F dL_process_20 ?_
  exact V_iret F dL_process_21 (⟨⟨_, rfl⟩, rfl⟩)
theorem c_sizes {k x y p q : Nat} (hW : WF T n) (hD : DR T n μ) (hk1 : 1 ≤ k) (hk : k ≤ 5) (hx : x < 6) (hy : y < 6) (hp : p < n) (hq : q < n) (h1 : k = 1 → x = 0 ∧ y = 0) (h3 : k = 3 → y = 0) (h5 : k = 5 → x = 0 ∧ y = 0) : Ct (GS g) l (1) yL_sizes cL_sizes 10 (some .int) [.ref (g.1 16), .int (nI k), .int (nI x), .int (nI y), .int (nI p), .int (nI q)] μ (Is (.int (nI (szF T k x y p (if k = 5 then q else 0)))) μ) := by
  have hn := hW.1.2
  have d1 := hW.depth hp
  have d2 := hW.depth hq
  have d3 := hW.need hp
  have d4 := hW.need hq
  have z5 : T 5 0 = 0 := hW.2.1.2.2.2.2.2.1
  have z6 : T 6 0 = 0 := hW.2.1.2.2.2.2.2.2.1
  have z7 : T 7 0 = 0 := hW.2.1.2.2.2.2.2.2.2.1
  have ep := hD p hp
  have eq := hD q hq
  have v1 : (64 * T 5 p + 8 * T 6 p + T 7 p) / 64 = T 5 p := by omega
  have v2 : (64 * T 5 p + 8 * T 6 p + T 7 p) / 8 % 8 = T 6 p := by omega
  have v3 : (64 * T 5 p + 8 * T 6 p + T 7 p) % 8 = T 7 p := by omega
  have w1 : (64 * T 5 q + 8 * T 6 q + T 7 q) / 64 = T 5 q := by omega
  have w2 : (64 * T 5 q + 8 * T 6 q + T 7 q) / 8 % 8 = T 6 q := by omega
  have w3 : (64 * T 5 q + 8 * T 6 q + T 7 q) % 8 = T 7 q := by omega
  refine Ct.of (own := RL) mi_L_sizes rfl [some (.ref (g.1 16)), some (.int (nI k)), some (.int (nI x)), some (.int (nI y)), some (.int (nI p)), some (.int (nI q)), none, none, none, none] (Nat.le_of_ble_eq_true rfl) rfl (fun p₀ e₀ s₀ m₀ b₀ h₀ c₀ F => ?_)
  refine V_aload_n F dL_sizes_0 rfl ?_
  refine V_iload F dL_sizes_1 rfl ?_
  refine V_ia F dL_sizes_3 rfl (rfl) (show p < 24 by omega) (ep) ?_
  refine V_bipush F (v := nI 64) dL_sizes_4 (by decide) ?_
  refine V_idiv F dL_sizes_6 (by decide) ?_
  refine V_val F (pk_div (by omega) (by omega) (by omega)) ?_
  refine V_val F (congrArg nI v1) ?_
  refine V_istore F (lv' := [_, _, _, _, _, _, _, _, _, _]) dL_sizes_7 (by decide) rfl rfl ?_
  refine V_aload_n F dL_sizes_9 rfl ?_
  refine V_iload F dL_sizes_10 rfl ?_
  refine V_ia F dL_sizes_12 rfl (rfl) (show p < 24 by omega) (ep) ?_
  refine V_bipush F (v := nI 8) dL_sizes_13 (by decide) ?_
  refine V_idiv F dL_sizes_15 (by decide) ?_
  refine V_val F (pk_div (by omega) (by omega) (by omega)) ?_
  refine V_bipush F (v := nI 8) dL_sizes_16 (by decide) ?_
  refine V_irem F dL_sizes_18 (by decide) ?_
  refine V_val F (pk_rem (by omega) (by omega) (by omega)) ?_
  refine V_val F (congrArg nI v2) ?_
  refine V_istore F (lv' := [_, _, _, _, _, _, _, _, _, _]) dL_sizes_19 (by decide) rfl rfl ?_
  refine V_aload_n F dL_sizes_21 rfl ?_
  refine V_iload F dL_sizes_22 rfl ?_
  refine V_ia F dL_sizes_24 rfl (rfl) (show p < 24 by omega) (ep) ?_
  refine V_bipush F (v := nI 8) dL_sizes_25 (by decide) ?_
  refine V_irem F dL_sizes_27 (by decide) ?_
  refine V_val F (pk_rem (by omega) (by omega) (by omega)) ?_
  refine V_val F (congrArg nI v3) ?_
  refine V_istore F (lv' := [_, _, _, _, _, _, _, _, _, _]) dL_sizes_28 (by decide) rfl rfl ?_
  refine V_iload_n F dL_sizes_30 rfl ?_
  refine V_iconst F (v := nI 5) dL_sizes_31 (by decide) ?_
  refine V_icmp_ne_N F (tgt := 81) dL_sizes_32 (by decide) (by omega) (by omega) (fun hk5 => ?_) (fun hk5 => ?_)
  · rw [if_neg hk5]
    refine V_iload_n F dL_sizes_81 rfl ?_
    refine V_iconst F (v := nI 4) dL_sizes_82 (by decide) ?_
    refine V_icmp_ne_N F (tgt := 115) dL_sizes_83 (by decide) (by omega) (by omega) (fun hk4 => ?_) (fun hk4 => ?_)
    · skip
      refine V_iload_n F dL_sizes_115 rfl ?_
      refine V_iconst F (v := nI 3) dL_sizes_116 (by decide) ?_
      have main : V (GS g) p₀ l e₀ (rmD (1)) s₀ m₀ (List.toArray [.ref (g.1 16), .int (nI k), .int (nI x), .int (nI y), .int (nI p), .int (nI q)]) b₀ h₀ c₀ 10 0 0 (MQ b₀ (Qp (GS g) (Is (.int (nI (szF T k x y p 0))) μ)) (List.toArray [.ref (g.1 16), .int (nI k), .int (nI x), .int (nI y), .int (nI p), .int (nI q)]) s₀ 0 0 (gA (GS g))) 134 ([some (.ref (g.1 16)), some (.int (nI k)), some (.int (nI x)), some (.int (nI y)), some (.int (nI p)), some (.int (nI q)), some (.int (nI (T 5 p))), some (.int (nI (T 6 p))), some (.int (nI (T 7 p))), none]) ([.int (nI (T 7 p - (if k = 3 then 1 else 0)))]) (μ) := by
        refine V_istore F (lv' := [_, _, _, _, _, _, _, _, _, _]) dL_sizes_134 (by decide) rfl rfl ?_
        refine V_bipush F (v := nI 64) dL_sizes_136 (by decide) ?_
        refine V_iload F dL_sizes_138 rfl ?_
        refine V_iconst F (v := nI 1) dL_sizes_140 (by decide) ?_
        (first | refine V_iaddN F dL_sizes_141 ?_ | refine V_iadd F dL_sizes_141 ?_)
        (first | refine V_imulN F dL_sizes_142 ?_ | refine V_imul F dL_sizes_142 ?_)
        refine V_bipush F (v := nI 8) dL_sizes_143 (by decide) ?_
        (first | refine V_iaddN F dL_sizes_145 ?_ | refine V_iadd F dL_sizes_145 ?_)
        refine V_iload_n F dL_sizes_146 rfl ?_
        refine V_iconst F (v := nI 1) dL_sizes_147 (by decide) ?_
        refine V_icmp_ne_N F (tgt := 156) dL_sizes_148 (by decide) (by omega) (by omega) (fun hk1' => ?_) (fun hk1' => ?_)
        · skip
          refine V_iload F dL_sizes_156 rfl ?_
          refine V_iload_n F dL_sizes_158 rfl ?_
          refine V_iconst F (v := nI 2) dL_sizes_159 (by decide) ?_
          refine V_icmp_ne_N F (tgt := 177) dL_sizes_160 (by decide) (by omega) (by omega) (fun hk2 => ?_) (fun hk2 => ?_)
          · have hk3 : k = 3 := by omega
            refine V_iload_n F dL_sizes_177 rfl ?_
            refine V_callSi F (c_named (by omega)) mi_L_named ms_L_named lk_L_15 dL_sizes_178 (rmR (by omega)) rfl rfl (by decide) (Nat.le_of_ble_eq_true rfl) ?_
            refine V_callSi F (c_most (by omega) (by omega)) mi_L_most ms_L_most lk_L_9 dL_sizes_181 (rmR (by omega)) rfl rfl (by decide) (Nat.le_of_ble_eq_true rfl) ?_
            (first | refine V_iaddN F dL_sizes_184 ?_ | refine V_iadd F dL_sizes_184 ?_)
            exact V_iret F dL_sizes_185 (⟨congrArg (fun z => some (Value.int (nI z))) (by have := h3 hk3; unfold szF bD bB bN; rw [if_pos (show k ≤ 3 by omega), if_pos (show k ≤ 3 by omega), z5, z7]; omega), rfl⟩)
          · have hk3 : k = 2 := by omega
            refine V_iload_n F dL_sizes_163 rfl ?_
            refine V_callSi F (c_named (by omega)) mi_L_named ms_L_named lk_L_15 dL_sizes_164 (rmR (by omega)) rfl rfl (by decide) (Nat.le_of_ble_eq_true rfl) ?_
            refine V_iload_n F dL_sizes_167 rfl ?_
            refine V_callSi F (c_named (by omega)) mi_L_named ms_L_named lk_L_15 dL_sizes_168 (rmR (by omega)) rfl rfl (by decide) (Nat.le_of_ble_eq_true rfl) ?_
            refine V_callSi F (c_most (by omega) (by omega)) mi_L_most ms_L_most lk_L_9 dL_sizes_171 (rmR (by omega)) rfl rfl (by decide) (Nat.le_of_ble_eq_true rfl) ?_
            refine V_goto F (tgt := 181) dL_sizes_174 (by decide) ?_
            refine V_callSi F (c_most (by omega) (by omega)) mi_L_most ms_L_most lk_L_9 dL_sizes_181 (rmR (by omega)) rfl rfl (by decide) (Nat.le_of_ble_eq_true rfl) ?_
            (first | refine V_iaddN F dL_sizes_184 ?_ | refine V_iadd F dL_sizes_184 ?_)
            exact V_iret F dL_sizes_185 (⟨congrArg (fun z => some (Value.int (nI z))) (by unfold szF bD bB bN; rw [if_pos (show k ≤ 3 by omega), if_pos (show k ≤ 3 by omega), if_neg (show ¬ k = 3 by omega), z5, z7]; omega), rfl⟩)
        · have hk3 : k = 1 := by omega
          refine V_iload F dL_sizes_151 rfl ?_
          refine V_goto F (tgt := 184) dL_sizes_153 (by decide) ?_
          (first | refine V_iaddN F dL_sizes_184 ?_ | refine V_iadd F dL_sizes_184 ?_)
          exact V_iret F dL_sizes_185 (⟨congrArg (fun z => some (Value.int (nI z))) (by have := h1 hk3; unfold szF bD bB bN; rw [if_pos (show k ≤ 3 by omega), if_pos (show k ≤ 3 by omega), if_neg (show ¬ k = 3 by omega), z5, z7]; omega), rfl⟩)
      refine V_icmp_ne_N F (tgt := 132) dL_sizes_117 (by decide) (by omega) (by omega) (fun hk3 => ?_) (fun hk3 => ?_)
      · rw [if_neg hk3] at main
        refine V_iload F dL_sizes_132 rfl ?_
        exact main
      · rw [if_pos (Classical.not_not.mp hk3)] at main
        refine V_iload F dL_sizes_120 rfl ?_
        rcases Nat.eq_zero_or_pos (T 7 p) with h0 | h0
        · skip
          refine V_if_le_t F (tgt := 132) dL_sizes_122 (by decide) (by rw [h0]; decide) ?_
          refine V_iload F dL_sizes_132 rfl ?_
          rw [show T 7 p - 1 = T 7 p by omega] at main
          exact main
        · skip
          refine V_if_le_f F (tgt := 132) dL_sizes_122 (by decide) (nI_nle h0 (by omega)) ?_
          refine V_iload F dL_sizes_125 rfl ?_
          refine V_iconst F (v := nI 1) dL_sizes_127 (by decide) ?_
          refine V_isubN F (by omega) dL_sizes_128 ?_
          refine V_goto F (tgt := 134) dL_sizes_129 (by decide) ?_
          exact main
    · have hk4 := Classical.not_not.mp hk4
      refine V_bipush F (v := nI 64) dL_sizes_86 (by decide) ?_
      refine V_iload F dL_sizes_88 rfl ?_
      (first | refine V_imulN F dL_sizes_90 ?_ | refine V_imul F dL_sizes_90 ?_)
      refine V_bipush F (v := nI 8) dL_sizes_91 (by decide) ?_
      refine V_iload F dL_sizes_93 rfl ?_
      (first | refine V_imulN F dL_sizes_95 ?_ | refine V_imul F dL_sizes_95 ?_)
      (first | refine V_iaddN F dL_sizes_96 ?_ | refine V_iadd F dL_sizes_96 ?_)
      refine V_iload F dL_sizes_97 rfl ?_
      refine V_iload_n F dL_sizes_99 rfl ?_
      refine V_callSi F (c_named (by omega)) mi_L_named ms_L_named lk_L_15 dL_sizes_100 (rmR (by omega)) rfl rfl (by decide) (Nat.le_of_ble_eq_true rfl) ?_
      refine V_iload_n F dL_sizes_103 rfl ?_
      refine V_callSi F (c_named (by omega)) mi_L_named ms_L_named lk_L_15 dL_sizes_104 (rmR (by omega)) rfl rfl (by decide) (Nat.le_of_ble_eq_true rfl) ?_
      refine V_callSi F (c_most (by omega) (by omega)) mi_L_most ms_L_most lk_L_9 dL_sizes_107 (rmR (by omega)) rfl rfl (by decide) (Nat.le_of_ble_eq_true rfl) ?_
      refine V_callSi F (c_most (by omega) (by omega)) mi_L_most ms_L_most lk_L_9 dL_sizes_110 (rmR (by omega)) rfl rfl (by decide) (Nat.le_of_ble_eq_true rfl) ?_
      (first | refine V_iaddN F dL_sizes_113 ?_ | refine V_iadd F dL_sizes_113 ?_)
      exact V_iret F dL_sizes_114 (⟨congrArg (fun z => some (Value.int (nI z))) (by unfold szF bD bB bN; rw [if_neg (show ¬ k ≤ 3 by omega), if_neg (show ¬ k ≤ 3 by omega), if_neg (show ¬ k = 3 by omega), z5, z6, z7]; omega), rfl⟩)
  · have hk5 := Classical.not_not.mp hk5
    rw [if_pos hk5]
    refine V_bipush F (v := nI 64) dL_sizes_35 (by decide) ?_
    refine V_iload F dL_sizes_37 rfl ?_
    refine V_aload_n F dL_sizes_39 rfl ?_
    refine V_iload F dL_sizes_40 rfl ?_
    refine V_ia F dL_sizes_42 rfl (rfl) (show q < 24 by omega) (eq) ?_
    refine V_bipush F (v := nI 64) dL_sizes_43 (by decide) ?_
    refine V_idiv F dL_sizes_45 (by decide) ?_
    refine V_val F (pk_div (by omega) (by omega) (by omega)) ?_
    refine V_val F (congrArg nI w1) ?_
    refine V_callSi F (c_most (by omega) (by omega)) mi_L_most ms_L_most lk_L_9 dL_sizes_46 (rmR (by omega)) rfl rfl (by decide) (Nat.le_of_ble_eq_true rfl) ?_
    (first | refine V_imulN F dL_sizes_49 ?_ | refine V_imul F dL_sizes_49 ?_)
    refine V_bipush F (v := nI 8) dL_sizes_50 (by decide) ?_
    refine V_iload F dL_sizes_52 rfl ?_
    refine V_aload_n F dL_sizes_54 rfl ?_
    refine V_iload F dL_sizes_55 rfl ?_
    refine V_ia F dL_sizes_57 rfl (rfl) (show q < 24 by omega) (eq) ?_
    refine V_bipush F (v := nI 8) dL_sizes_58 (by decide) ?_
    refine V_idiv F dL_sizes_60 (by decide) ?_
    refine V_val F (pk_div (by omega) (by omega) (by omega)) ?_
    refine V_bipush F (v := nI 8) dL_sizes_61 (by decide) ?_
    refine V_irem F dL_sizes_63 (by decide) ?_
    refine V_val F (pk_rem (by omega) (by omega) (by omega)) ?_
    refine V_val F (congrArg nI w2) ?_
    (first | refine V_iaddN F dL_sizes_64 ?_ | refine V_iadd F dL_sizes_64 ?_)
    (first | refine V_imulN F dL_sizes_65 ?_ | refine V_imul F dL_sizes_65 ?_)
    (first | refine V_iaddN F dL_sizes_66 ?_ | refine V_iadd F dL_sizes_66 ?_)
    refine V_iload F dL_sizes_67 rfl ?_
    refine V_aload_n F dL_sizes_69 rfl ?_
    refine V_iload F dL_sizes_70 rfl ?_
    refine V_ia F dL_sizes_72 rfl (rfl) (show q < 24 by omega) (eq) ?_
    refine V_bipush F (v := nI 8) dL_sizes_73 (by decide) ?_
    refine V_irem F dL_sizes_75 (by decide) ?_
    refine V_val F (pk_rem (by omega) (by omega) (by omega)) ?_
    refine V_val F (congrArg nI w3) ?_
    refine V_callSi F (c_most (by omega) (by omega)) mi_L_most ms_L_most lk_L_9 dL_sizes_76 (rmR (by omega)) rfl rfl (by decide) (Nat.le_of_ble_eq_true rfl) ?_
    (first | refine V_iaddN F dL_sizes_79 ?_ | refine V_iadd F dL_sizes_79 ?_)
    exact V_iret F dL_sizes_80 (⟨congrArg (fun z => some (Value.int (nI z))) (by have := h5 hk5; unfold szF bD bB bN; rw [if_neg (show ¬ k ≤ 3 by omega), if_neg (show ¬ k ≤ 3 by omega), if_neg (show ¬ k = 3 by omega)]; omega), rfl⟩)
theorem c_builds {k x y p q : Nat} (hI : XInv T n μ) (hk1 : 1 ≤ k) (hk : k ≤ 5) (hx : x < 6) (hy : y < 6) (hp : p < n) (hq : q < n) (h1 : k = 1 → x = 0 ∧ y = 0) (h3 : k = 3 → y = 0) (h5 : k = 5 → x = 0 ∧ y = 0) : Ct (GS g) l (5) yL_builds cL_builds 6 (some .int) [.ref (g.1 0), .int (nI k), .int (nI x), .int (nI y), .int (nI p), .int (nI q)] μ (BQ T n k x y p (if k = 5 then q else 0) μ) := by
  have hn := hI.1.n24
  have e : (nI k).toInt = (k : Int) := nI_toInt (by omega)
  refine Ct.of (own := RL) mi_L_builds rfl [some (.ref (g.1 0)), some (.int (nI k)), some (.int (nI x)), some (.int (nI y)), some (.int (nI p)), some (.int (nI q))] (Nat.le_of_ble_eq_true rfl) rfl (fun p₀ e₀ s₀ m₀ b₀ h₀ c₀ F => ?_)
  refine V_iload_n F dL_builds_0 rfl ?_
  rcases (by omega : k = 1 ∨ k = 2 ∨ k = 3 ∨ k = 4 ∨ k = 5) with rfl | rfl | rfl | rfl | rfl
  · obtain ⟨rfl, rfl⟩ := h1 rfl
    refine V_tableIn F (off := 31) (tgt := 32) dL_builds_1 (by rw [e]; omega) (by rw [e]; omega) (by rw [e]; rfl) (by decide) ?_
    refine V_aload_n F dL_builds_32 rfl ?_
    refine V_iload F dL_builds_33 rfl ?_
    refine V_callV F (q0 := 0) (c_tau hI _) mi_X3_tau mm_X3_tau lk_L_19 dL_builds_35 (rmR (by omega)) rfl rfl (by decide) (Nat.le_of_ble_eq_true rfl) rfl rfl rfl (fun r μ' h => ?_)
    have h : BQ T n 1 0 0 p 0 μ r μ' := by have h2 := h; unfold oTau at h2; rw [pj_nI hp (by omega)] at h2; exact h2
    rcases h with ⟨h1, rfl, h2⟩ | ⟨h1, rfl, h2⟩
    · exact V_iret F dL_builds_38 (Or.inl ⟨h1, rfl, h2⟩)
    · exact V_iret F dL_builds_38 (Or.inr ⟨h1, rfl, h2⟩)
  · refine V_tableIn F (off := 38) (tgt := 39) dL_builds_1 (by rw [e]; omega) (by rw [e]; omega) (by rw [e]; rfl) (by decide) ?_
    refine V_aload_n F dL_builds_39 rfl ?_
    refine V_iload_n F dL_builds_40 rfl ?_
    refine V_iload_n F dL_builds_41 rfl ?_
    refine V_iload F dL_builds_42 rfl ?_
    refine V_callV F (q0 := 0) (c_output hI _ _ _) mi_X3_output mm_X3_output lk_L_24 dL_builds_44 (rmR (by omega)) rfl rfl (by decide) (Nat.le_of_ble_eq_true rfl) rfl rfl rfl (fun r μ' h => ?_)
    have h : BQ T n 2 x y p 0 μ r μ' := by have h2 := h; unfold oOut at h2; rw [pj_nI hx (by omega), pj_nI hy (by omega), pj_nI hp (by omega)] at h2; exact h2
    rcases h with ⟨h1, rfl, h2⟩ | ⟨h1, rfl, h2⟩
    · exact V_iret F dL_builds_47 (Or.inl ⟨h1, rfl, h2⟩)
    · exact V_iret F dL_builds_47 (Or.inr ⟨h1, rfl, h2⟩)
  · obtain rfl := h3 rfl
    refine V_tableIn F (off := 47) (tgt := 48) dL_builds_1 (by rw [e]; omega) (by rw [e]; omega) (by rw [e]; rfl) (by decide) ?_
    refine V_aload_n F dL_builds_48 rfl ?_
    refine V_iload_n F dL_builds_49 rfl ?_
    refine V_iload F dL_builds_50 rfl ?_
    refine V_callV F (q0 := 0) (c_input hI _ _) mi_X3_input mm_X3_input lk_L_28 dL_builds_52 (rmR (by omega)) rfl rfl (by decide) (Nat.le_of_ble_eq_true rfl) rfl rfl rfl (fun r μ' h => ?_)
    have h : BQ T n 3 x 0 p 0 μ r μ' := by have h2 := h; unfold oIn at h2; rw [pj_nI hx (by omega), pj_nI hp (by omega)] at h2; exact h2
    rcases h with ⟨h1, rfl, h2⟩ | ⟨h1, rfl, h2⟩
    · exact V_iret F dL_builds_55 (Or.inl ⟨h1, rfl, h2⟩)
    · exact V_iret F dL_builds_55 (Or.inr ⟨h1, rfl, h2⟩)
  · refine V_tableIn F (off := 55) (tgt := 56) dL_builds_1 (by rw [e]; omega) (by rw [e]; omega) (by rw [e]; rfl) (by decide) ?_
    refine V_aload_n F dL_builds_56 rfl ?_
    refine V_iload_n F dL_builds_57 rfl ?_
    refine V_iload_n F dL_builds_58 rfl ?_
    refine V_iload F dL_builds_59 rfl ?_
    refine V_callV F (q0 := 0) (c_match hI _ _ _) mi_X3_match mm_X3_match lk_L_31 dL_builds_61 (rmR (by omega)) rfl rfl (by decide) (Nat.le_of_ble_eq_true rfl) rfl rfl rfl (fun r μ' h => ?_)
    have h : BQ T n 4 x y p 0 μ r μ' := by have h2 := h; unfold oMat at h2; rw [pj_nI hx (by omega), pj_nI hy (by omega), pj_nI hp (by omega)] at h2; exact h2
    rcases h with ⟨h1, rfl, h2⟩ | ⟨h1, rfl, h2⟩
    · exact V_iret F dL_builds_64 (Or.inl ⟨h1, rfl, h2⟩)
    · exact V_iret F dL_builds_64 (Or.inr ⟨h1, rfl, h2⟩)
  · obtain ⟨rfl, rfl⟩ := h5 rfl
    refine V_tableOut F (tgt := 65) dL_builds_1 (by rw [e]; omega) (by decide) ?_
    refine V_aload_n F dL_builds_65 rfl ?_
    refine V_iload F dL_builds_66 rfl ?_
    refine V_iload F dL_builds_68 rfl ?_
    refine V_callV F (q0 := 0) (c_sum hI _ _) mi_X3_sum mm_X3_sum lk_L_34 dL_builds_70 (rmR (by omega)) rfl rfl (by decide) (Nat.le_of_ble_eq_true rfl) rfl rfl rfl (fun r μ' h => ?_)
    have h : BQ T n 5 0 0 p q μ r μ' := by have h2 := h; unfold oSum at h2; rw [pj_nI hp (by omega), pj_nI hq (by omega)] at h2; exact h2
    rcases h with ⟨h1, rfl, h2⟩ | ⟨h1, rfl, h2⟩
    · exact V_iret F dL_builds_73 (Or.inl ⟨h1, rfl, h2⟩)
    · exact V_iret F dL_builds_73 (Or.inr ⟨h1, rfl, h2⟩)
theorem c_related {p q : Nat} (hI : XInv T n μ) (hp : p < n) (hq : q < n) (h7p : T 7 p = 0) (h7q : T 7 q = 0) (hr : ∀ rel, rel < 3 → rnd T rel p q = 4) : Ct (GS g) l (23) yL_related cL_related 3 (some .boolean) [.ref (g.1 0), .int (nI p), .int (nI q)] μ (XQ T n μ (nI 1)) := by
  have hn := hI.1.n24
  have e : ∀ k, k < 3 → rPair (fRel T) T n (nI p) (nI q) (nI k) = nI 1 := fun k hk => by rw [rPair_ok (by omega) hp hq hk h7p h7q]; exact if_pos (hr k hk)
  refine Ct.of (own := RL) mi_L_related rfl [some (.ref (g.1 0)), some (.int (nI p)), some (.int (nI q))] (Nat.le_of_ble_eq_true rfl) rfl (fun p₀ e₀ s₀ m₀ b₀ h₀ c₀ F => ?_)
  refine V_aload_n F dL_related_0 rfl ?_
  refine V_iload_n F dL_related_1 rfl ?_
  refine V_iload_n F dL_related_2 rfl ?_
  refine V_iconst F (v := nI 0) dL_related_3 (by decide) ?_
  refine V_callV F (q0 := 0) (c_areRelated hI _ _ _) mi_X3_areRelated mm_X3_areRelated lk_L_53 dL_related_4 (rmR (by omega)) rfl rfl (by decide) (Nat.le_of_ble_eq_true rfl) rfl rfl rfl (fun r μ' h => ?_)
  obtain ⟨rfl, hM1, hS1⟩ := h
  have hI1 := hI.of_W hS1 hM1
  rw [e 0 (by omega)]
  refine V_iconst F (v := nI 1) dL_related_7 (by decide) ?_
  refine V_icmp_ne_f F (tgt := 49) dL_related_8 (by decide) (rfl) ?_
  refine V_aload_n F dL_related_11 rfl ?_
  refine V_iload_n F dL_related_12 rfl ?_
  refine V_iload_n F dL_related_13 rfl ?_
  refine V_iconst F (v := nI 1) dL_related_14 (by decide) ?_
  refine V_callV F (q0 := 0) (c_areRelated hI1 _ _ _) mi_X3_areRelated mm_X3_areRelated lk_L_53 dL_related_15 (rmR (by omega)) rfl rfl (by decide) (Nat.le_of_ble_eq_true rfl) rfl rfl rfl (fun r μ' h => ?_)
  obtain ⟨rfl, hM2, hS2⟩ := h
  have hI2 := hI1.of_W hS2 hM2
  rw [e 1 (by omega)]
  refine V_iconst F (v := nI 1) dL_related_18 (by decide) ?_
  refine V_icmp_ne_f F (tgt := 49) dL_related_19 (by decide) (rfl) ?_
  refine V_aload_n F dL_related_22 rfl ?_
  refine V_iload_n F dL_related_23 rfl ?_
  refine V_iload_n F dL_related_24 rfl ?_
  refine V_iconst F (v := nI 2) dL_related_25 (by decide) ?_
  refine V_callV F (q0 := 0) (c_areRelated hI2 _ _ _) mi_X3_areRelated mm_X3_areRelated lk_L_53 dL_related_26 (rmR (by omega)) rfl rfl (by decide) (Nat.le_of_ble_eq_true rfl) rfl rfl rfl (fun r μ' h => ?_)
  obtain ⟨rfl, hM3, hS3⟩ := h
  have hI3 := hI2.of_W hS3 hM3
  rw [e 2 (by omega)]
  refine V_iconst F (v := nI 1) dL_related_29 (by decide) ?_
  refine V_icmp_ne_f F (tgt := 49) dL_related_30 (by decide) (rfl) ?_
  refine V_aload_n F dL_related_33 rfl ?_
  refine V_iload_n F dL_related_34 rfl ?_
  refine V_iload_n F dL_related_35 rfl ?_
  refine V_iconst F (v := nI 2) dL_related_36 (by decide) ?_
  refine V_callV F (q0 := 0) (c_rounds hI3 _ _ _) mi_X3_rounds mm_X3_rounds lk_L_56 dL_related_37 (rmR (by omega)) rfl rfl (by decide) (Nat.le_of_ble_eq_true rfl) rfl rfl rfl (fun r μ' h => ?_)
  obtain ⟨rfl, hM4, hS4⟩ := h
  have e4 : rPair (fRnd T) T n (nI p) (nI q) (nI 2) = -4 := by rw [rPair_ok (by omega) hp hq (by omega) h7p h7q]; exact if_pos (hr 2 (by omega))
  rw [e4]
  refine V_bipush F (v := (-4)) dL_related_40 (by decide) ?_
  refine V_icmp_ne_f F (tgt := 49) dL_related_42 (by decide) (rfl) ?_
  refine V_iconst F (v := nI 1) dL_related_45 (by decide) ?_
  refine V_goto F (tgt := 50) dL_related_46 (by decide) ?_
  exact V_zret F dL_related_50 (rfl) (⟨rfl, hM4, ((hS1.trans hS2).trans hS3).trans hS4⟩)
end LAWH

