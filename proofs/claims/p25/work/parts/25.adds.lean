section ADDS0
variable {T : Tb} {n : Nat}
theorem szF_parts (hW : WF T n) {k x y p q : Nat} (hp : p < n) (hq : q < n) (hx : x < 6) (hy : y < 6) : szF T k x y p q / 64 = bD T k p q ∧ szF T k x y p q / 8 % 8 = bB T k p q ∧ bD T k p q ≤ 4 ∧ bB T k p q ≤ 6 ∧ bN T k x y p q ≤ 3 := by
  have d1 := hW.depth hp
  have d2 := hW.depth hq
  have d3 := hW.need hp
  have d4 := hW.need hq
  have h1 : bD T k p q ≤ 4 := by unfold bD; split <;> omega
  have h2 : bB T k p q ≤ 6 := by unfold bB; split <;> omega
  have h3 : bN T k x y p q ≤ 3 := by unfold bN; omega
  unfold szF
  omega
theorem XInv_wr {μ : Mem} {i j : Nat} {v w : Int32} (hX : XInv T n μ) : XInv T n (wr (wr μ 15 i v) 16 j w) := hX.of_sameX ⟨fun c hc => by
  funext j
  rw [wr_ne (by omega), wr_ne (by omega)], rfl⟩
theorem AQ_new {k x y p q : Nat} {μ μ' : Mem} {v : Int32} (hD : DR T n μ) (hX : XInv (bT T n k x y p q) (n + 1) μ') (hs : sameM μ μ') : AQ T n (some (.int (nI (n + 1)))) (wr (wr μ' 15 n v) 16 n (nI (szF T k x y p q))) := by
  refine ⟨bT T n k x y p q, n + 1, rfl, by omega, Nat.le_refl _, XInv_wr hX, fun j hj => ?_⟩
  · by_cases hjn : j = n
    · subst hjn
      rw [wr_eq]
      simp [bT, szF]
    · rw [wr_ne (by omega), wr_ne (by omega), hs 16 (by omega), bT_old hjn, bT_old hjn, bT_old hjn]
      exact hD j (by omega)
end ADDS0
section ADDS
variable {g : Gm} {l : Launch} {μ : Mem} {T : Tb} {n : Nat}
theorem c_adds {y : Nat} (hI : XInv T n μ) (hD : DR T n μ) (hn : n < 24) (hy : y < 2 ^ 31) : Ct (GS g) l (6) yL_adds cL_adds 12 (some .int) [.ref (g.1 0), .int (nI y), .int (nI n), .ref (g.1 15), .ref (g.1 16)] μ (AQ T n) := by
  have hW := hI.1.1
  have h1n := hW.1.1
  refine Ct.of (own := RL) mi_L_adds rfl [some (.ref (g.1 0)), some (.int (nI y)), some (.int (nI n)), some (.ref (g.1 15)), some (.ref (g.1 16)), none, none, none, none, none, none, none] (Nat.le_of_ble_eq_true rfl) rfl (fun p₀ e₀ s₀ m₀ b₀ h₀ c₀ F => ?_)
  have m87 : ∀ (k x z p q : Nat), 1 ≤ k → k ≤ 5 → x < 6 → z < 6 → p < n → q < n → (k = 1 → x = 0 ∧ z = 0) → (k = 3 → z = 0) → (k = 5 → x = 0 ∧ z = 0) → V (GS g) p₀ l e₀ (rmD (6)) s₀ m₀ (List.toArray [.ref (g.1 0), .int (nI y), .int (nI n), .ref (g.1 15), .ref (g.1 16)]) b₀ h₀ c₀ 12 0 0 (MQ b₀ (Qp (GS g) (AQ T n)) (List.toArray [.ref (g.1 0), .int (nI y), .int (nI n), .ref (g.1 15), .ref (g.1 16)]) s₀ 0 0 (gA (GS g))) 87 ([some (.ref (g.1 0)), some (.int (nI y)), some (.int (nI n)), some (.ref (g.1 15)), some (.ref (g.1 16)), some (.int (nI k)), some (.int (nI x)), some (.int (nI z)), some (.int (nI p)), some (.int (nI q)), none, none]) ([]) (μ) := by
    intro k x z p q hk1 hk5 hx hz hp hq k1 k3 k5
    have hq0 : (if k = 5 then q else 0) < n := by split <;> omega
    obtain ⟨s1, s2, s3, s4, s5⟩ := szF_parts hW (k := k) (x := x) (y := z) (p := p) (q := if k = 5 then q else 0) hp hq0 hx hz
    have sb : szF T k x z p (if k = 5 then q else 0) < 2 ^ 31 := by omega
    refine V_aload F dL_adds_87 rfl ?_
    refine V_iload F dL_adds_89 rfl ?_
    refine V_iload F dL_adds_91 rfl ?_
    refine V_iload F dL_adds_93 rfl ?_
    refine V_iload F dL_adds_95 rfl ?_
    refine V_iload F dL_adds_97 rfl ?_
    refine V_callSi F (c_sizes hW hD hk1 hk5 hx hz hp hq k1 k3 k5) mi_L_sizes ms_L_sizes lk_L_37 dL_adds_99 (rmR (by omega)) rfl rfl (by decide) (Nat.le_of_ble_eq_true rfl) ?_
    refine V_istore F (lv' := [_, _, _, _, _, _, _, _, _, _, _, _]) dL_adds_102 (by decide) rfl rfl ?_
    refine V_aload_n F dL_adds_104 rfl ?_
    refine V_iload F dL_adds_105 rfl ?_
    refine V_iload F dL_adds_107 rfl ?_
    refine V_iload F dL_adds_109 rfl ?_
    refine V_iload F dL_adds_111 rfl ?_
    refine V_iload F dL_adds_113 rfl ?_
    refine V_callS F (c_builds hI hk1 hk5 hx hz hp hq k1 k3 k5) mi_L_builds ms_L_builds lk_L_41 dL_adds_115 (rmR (by omega)) rfl rfl (by decide) (Nat.le_of_ble_eq_true rfl) (fun r μ' h => ?_)
    rcases h with ⟨hf, rfl, hX, hs⟩ | ⟨hf, rfl, rfl⟩
    · obtain ⟨f1, f2, f3⟩ := id hf
      refine V_istore F (lv' := [_, _, _, _, _, _, _, _, _, _, _, _]) dL_adds_118 (by decide) rfl rfl ?_
      refine V_iload_n F dL_adds_120 rfl ?_
      refine V_bipush F (v := nI 24) dL_adds_121 (by decide) ?_
      refine V_icmp_eq_N F (tgt := 147) dL_adds_123 (by decide) (by omega) (by omega) (fun e24 => ?_) (fun e24 => ?_)
      · omega
      · skip
        refine V_iload F dL_adds_126 rfl ?_
        refine V_bipush F (v := nI 64) dL_adds_128 (by decide) ?_
        refine V_idiv F dL_adds_130 (by decide) ?_
        refine V_val F (pk_div (by omega) (by omega) (by omega)) ?_
        refine V_val F (congrArg nI s1) ?_
        refine V_iconst F (v := nI 3) dL_adds_131 (by decide) ?_
        refine V_icmp_gt_N F (tgt := 147) dL_adds_132 (by decide) (by omega) (by omega) (fun e3 => ?_) (fun e3 => ?_)
        · omega
        · skip
          refine V_iload F dL_adds_135 rfl ?_
          refine V_bipush F (v := nI 8) dL_adds_137 (by decide) ?_
          refine V_idiv F dL_adds_139 (by decide) ?_
          refine V_val F (pk_div (by omega) (by omega) (by omega)) ?_
          refine V_bipush F (v := nI 8) dL_adds_140 (by decide) ?_
          refine V_irem F dL_adds_142 (by decide) ?_
          refine V_val F (pk_rem (by omega) (by omega) (by omega)) ?_
          refine V_val F (congrArg nI s2) ?_
          refine V_iconst F (v := nI 3) dL_adds_143 (by decide) ?_
          refine V_icmp_le_N F (tgt := 160) dL_adds_144 (by decide) (by omega) (by omega) (fun e4 => ?_) (fun e4 => ?_)
          · skip
            refine V_aload_n F dL_adds_160 rfl ?_
            refine V_iload_n F dL_adds_161 rfl ?_
            refine V_iload F dL_adds_162 rfl ?_
            refine V_iload F dL_adds_164 rfl ?_
            refine V_iload F dL_adds_166 rfl ?_
            refine V_iload F dL_adds_168 rfl ?_
            refine V_iload F dL_adds_170 rfl ?_
            refine V_iconst F (v := nI 5) dL_adds_172 (by decide) ?_
            have m182 : ∀ w : Int32, V (GS g) p₀ l e₀ (rmD (6)) s₀ m₀ (List.toArray [.ref (g.1 0), .int (nI y), .int (nI n), .ref (g.1 15), .ref (g.1 16)]) b₀ h₀ c₀ 12 0 0 (MQ b₀ (Qp (GS g) (AQ T n)) (List.toArray [.ref (g.1 0), .int (nI y), .int (nI n), .ref (g.1 15), .ref (g.1 16)]) s₀ 0 0 (gA (GS g))) 182 ([some (.ref (g.1 0)), some (.int (nI y)), some (.int (nI n)), some (.ref (g.1 15)), some (.ref (g.1 16)), some (.int (nI k)), some (.int (nI x)), some (.int (nI z)), some (.int (nI p)), some (.int (nI q)), some (.int (nI (szF T k x z p (if k = 5 then q else 0)))), some (.int (nI n))]) ([.int w, .int (nI p), .int (nI z), .int (nI x), .int (nI k), .int (nI n), .ref (g.1 15)]) (μ') := by
              intro w
              refine V_callS F (c_process _ _ _ _ _) mi_L_process ms_L_process lk_L_45 dL_adds_182 (rmR (by omega)) rfl rfl (by decide) (Nat.le_of_ble_eq_true rfl) (fun r μ' h => ?_)
              obtain ⟨⟨v, rfl⟩, rfl⟩ := h
              refine V_ias F dL_adds_185 rfl (rfl) (show n < 24 by omega) ?_
              refine V_aload F dL_adds_186 rfl ?_
              refine V_iload_n F dL_adds_188 rfl ?_
              refine V_iload F dL_adds_189 rfl ?_
              refine V_ias F dL_adds_191 rfl (rfl) (show n < 24 by omega) ?_
              have hA := AQ_new (v := v) hD hX hs
              refine V_iload F dL_adds_192 rfl ?_
              refine V_iload_n F dL_adds_194 rfl ?_
              refine V_icmp_ne_f F (tgt := 214) dL_adds_195 (by decide) (rfl) ?_
              refine V_aload_n F dL_adds_198 rfl ?_
              refine V_callVi F (q0 := 0) (c_processCount (XInv_wr hX).1) mi_X3_processCount mm_X3_processCount lk_L_49 dL_adds_199 (rmR (by omega)) rfl rfl (by decide) (Nat.le_of_ble_eq_true rfl) rfl rfl rfl ?_
              refine V_iload_n F dL_adds_202 rfl ?_
              refine V_iconst F (v := nI 1) dL_adds_203 (by decide) ?_
              (first | refine V_iaddN F dL_adds_204 ?_ | refine V_iadd F dL_adds_204 ?_)
              refine V_icmp_ne_f F (tgt := 214) dL_adds_205 (by decide) (rfl) ?_
              refine V_iload_n F dL_adds_208 rfl ?_
              refine V_iconst F (v := nI 1) dL_adds_209 (by decide) ?_
              (first | refine V_iaddN F dL_adds_210 ?_ | refine V_iadd F dL_adds_210 ?_)
              refine V_goto F (tgt := 215) dL_adds_211 (by decide) ?_
              exact V_iret F dL_adds_215 hA
            refine V_icmp_ne_N F (tgt := 181) dL_adds_173 (by decide) (by omega) (by omega) (fun e5 => ?_) (fun e5 => ?_)
            · skip
              refine V_iconst F (v := nI 0) dL_adds_181 (by decide) ?_
              exact m182 _
            · skip
              refine V_iload F dL_adds_176 rfl ?_
              refine V_goto F (tgt := 182) dL_adds_178 (by decide) ?_
              exact m182 _
          · omega
    · skip
      have m147 : V (GS g) p₀ l e₀ (rmD (6)) s₀ m₀ (List.toArray [.ref (g.1 0), .int (nI y), .int (nI n), .ref (g.1 15), .ref (g.1 16)]) b₀ h₀ c₀ 12 0 0 (MQ b₀ (Qp (GS g) (AQ T n)) (List.toArray [.ref (g.1 0), .int (nI y), .int (nI n), .ref (g.1 15), .ref (g.1 16)]) s₀ 0 0 (gA (GS g))) 147 ([some (.ref (g.1 0)), some (.int (nI y)), some (.int (nI n)), some (.ref (g.1 15)), some (.ref (g.1 16)), some (.int (nI k)), some (.int (nI x)), some (.int (nI z)), some (.int (nI p)), some (.int (nI q)), some (.int (nI (szF T k x z p (if k = 5 then q else 0)))), some (.int (-3))]) ([]) (μ') := by
        refine V_iload F dL_adds_147 rfl ?_
        refine V_bipush F (v := (-3)) dL_adds_149 (by decide) ?_
        refine V_icmp_ne_f F (tgt := 158) dL_adds_151 (by decide) (rfl) ?_
        refine V_iload_n F dL_adds_154 rfl ?_
        refine V_goto F (tgt := 159) dL_adds_155 (by decide) ?_
        exact V_iret F dL_adds_159 ⟨T, n, rfl, Nat.le_refl _, by omega, hI, hD⟩
      refine V_istore F (lv' := [_, _, _, _, _, _, _, _, _, _, _, _]) dL_adds_118 (by decide) rfl rfl ?_
      refine V_iload_n F dL_adds_120 rfl ?_
      refine V_bipush F (v := nI 24) dL_adds_121 (by decide) ?_
      refine V_icmp_eq_N F (tgt := 147) dL_adds_123 (by decide) (by omega) (by omega) (fun e24 => ?_) (fun e24 => ?_)
      · exact m147
      · skip
        refine V_iload F dL_adds_126 rfl ?_
        refine V_bipush F (v := nI 64) dL_adds_128 (by decide) ?_
        refine V_idiv F dL_adds_130 (by decide) ?_
        refine V_val F (pk_div (by omega) (by omega) (by omega)) ?_
        refine V_val F (congrArg nI s1) ?_
        refine V_iconst F (v := nI 3) dL_adds_131 (by decide) ?_
        refine V_icmp_gt_N F (tgt := 147) dL_adds_132 (by decide) (by omega) (by omega) (fun e3 => ?_) (fun e3 => ?_)
        · exact m147
        · skip
          refine V_iload F dL_adds_135 rfl ?_
          refine V_bipush F (v := nI 8) dL_adds_137 (by decide) ?_
          refine V_idiv F dL_adds_139 (by decide) ?_
          refine V_val F (pk_div (by omega) (by omega) (by omega)) ?_
          refine V_bipush F (v := nI 8) dL_adds_140 (by decide) ?_
          refine V_irem F dL_adds_142 (by decide) ?_
          refine V_val F (pk_rem (by omega) (by omega) (by omega)) ?_
          refine V_val F (congrArg nI s2) ?_
          refine V_iconst F (v := nI 3) dL_adds_143 (by decide) ?_
          refine V_icmp_le_N F (tgt := 160) dL_adds_144 (by decide) (by omega) (by omega) (fun e4 => ?_) (fun e4 => ?_)
          · exact absurd ⟨hn, by omega, e4⟩ hf
          · exact m147
  have m66 : ∀ (k x z p q : Nat), 1 ≤ k → k ≤ 5 → x < 6 → z < 6 → p < n → q < n → (k = 1 → x = 0) → (k = 5 → x = 0) → V (GS g) p₀ l e₀ (rmD (6)) s₀ m₀ (List.toArray [.ref (g.1 0), .int (nI y), .int (nI n), .ref (g.1 15), .ref (g.1 16)]) b₀ h₀ c₀ 12 0 0 (MQ b₀ (Qp (GS g) (AQ T n)) (List.toArray [.ref (g.1 0), .int (nI y), .int (nI n), .ref (g.1 15), .ref (g.1 16)]) s₀ 0 0 (gA (GS g))) 66 ([some (.ref (g.1 0)), some (.int (nI y)), some (.int (nI n)), some (.ref (g.1 15)), some (.ref (g.1 16)), some (.int (nI k)), some (.int (nI x)), some (.int (nI z)), some (.int (nI p)), some (.int (nI q)), none, none]) ([]) (μ) := by
    intro k x z p q hk1 hk5 hx hz hp hq k1 k5
    refine V_iload F dL_adds_66 rfl ?_
    refine V_iconst F (v := nI 1) dL_adds_68 (by decide) ?_
    refine V_icmp_eq_N F (tgt := 84) dL_adds_69 (by decide) (by omega) (by omega) (fun e1 => ?_) (fun e1 => ?_)
    · skip
      refine V_iconst F (v := nI 0) dL_adds_84 (by decide) ?_
      refine V_istore F (lv' := [_, _, _, _, _, _, _, _, _, _, _, _]) dL_adds_85 (by decide) rfl rfl ?_
      exact m87 k x 0 p q hk1 hk5 hx (by omega) hp hq (fun h => ⟨k1 h, rfl⟩) (fun _ => rfl) (fun h => ⟨k5 h, rfl⟩)
    · skip
      refine V_iload F dL_adds_72 rfl ?_
      refine V_iconst F (v := nI 3) dL_adds_74 (by decide) ?_
      refine V_icmp_eq_N F (tgt := 84) dL_adds_75 (by decide) (by omega) (by omega) (fun e3 => ?_) (fun e3 => ?_)
      · skip
        refine V_iconst F (v := nI 0) dL_adds_84 (by decide) ?_
        refine V_istore F (lv' := [_, _, _, _, _, _, _, _, _, _, _, _]) dL_adds_85 (by decide) rfl rfl ?_
        exact m87 k x 0 p q hk1 hk5 hx (by omega) hp hq (fun h => ⟨k1 h, rfl⟩) (fun _ => rfl) (fun h => ⟨k5 h, rfl⟩)
      · skip
        refine V_iload F dL_adds_78 rfl ?_
        refine V_iconst F (v := nI 5) dL_adds_80 (by decide) ?_
        refine V_icmp_ne_N F (tgt := 87) dL_adds_81 (by decide) (by omega) (by omega) (fun e5 => ?_) (fun e5 => ?_)
        · exact m87 k x z p q hk1 hk5 hx hz hp hq (fun h => absurd h e1) (fun h => absurd h e3) (fun h => absurd h e5)
        · skip
          refine V_iconst F (v := nI 0) dL_adds_84 (by decide) ?_
          refine V_istore F (lv' := [_, _, _, _, _, _, _, _, _, _, _, _]) dL_adds_85 (by decide) rfl rfl ?_
          exact m87 k x 0 p q hk1 hk5 hx (by omega) hp hq (fun h => ⟨k1 h, rfl⟩) (fun _ => rfl) (fun h => ⟨k5 h, rfl⟩)
  have m51 : ∀ (k x z p q : Nat), 1 ≤ k → k ≤ 5 → x < 6 → z < 6 → p < n → q < n → V (GS g) p₀ l e₀ (rmD (6)) s₀ m₀ (List.toArray [.ref (g.1 0), .int (nI y), .int (nI n), .ref (g.1 15), .ref (g.1 16)]) b₀ h₀ c₀ 12 0 0 (MQ b₀ (Qp (GS g) (AQ T n)) (List.toArray [.ref (g.1 0), .int (nI y), .int (nI n), .ref (g.1 15), .ref (g.1 16)]) s₀ 0 0 (gA (GS g))) 51 ([some (.ref (g.1 0)), some (.int (nI y)), some (.int (nI n)), some (.ref (g.1 15)), some (.ref (g.1 16)), some (.int (nI k)), some (.int (nI x)), some (.int (nI z)), some (.int (nI p)), some (.int (nI q)), none, none]) ([]) (μ) := by
    intro k x z p q hk1 hk5 hx hz hp hq
    refine V_iload F dL_adds_51 rfl ?_
    refine V_iconst F (v := nI 1) dL_adds_53 (by decide) ?_
    refine V_icmp_eq_N F (tgt := 63) dL_adds_54 (by decide) (by omega) (by omega) (fun e1 => ?_) (fun e1 => ?_)
    · skip
      refine V_iconst F (v := nI 0) dL_adds_63 (by decide) ?_
      refine V_istore F (lv' := [_, _, _, _, _, _, _, _, _, _, _, _]) dL_adds_64 (by decide) rfl rfl ?_
      exact m66 k 0 z p q hk1 hk5 (by omega) hz hp hq (fun _ => rfl) (fun _ => rfl)
    · skip
      refine V_iload F dL_adds_57 rfl ?_
      refine V_iconst F (v := nI 5) dL_adds_59 (by decide) ?_
      refine V_icmp_ne_N F (tgt := 66) dL_adds_60 (by decide) (by omega) (by omega) (fun e5 => ?_) (fun e5 => ?_)
      · exact m66 k x z p q hk1 hk5 hx hz hp hq (fun h => absurd h e1) (fun h => absurd h e5)
      · skip
        refine V_iconst F (v := nI 0) dL_adds_63 (by decide) ?_
        refine V_istore F (lv' := [_, _, _, _, _, _, _, _, _, _, _, _]) dL_adds_64 (by decide) rfl rfl ?_
        exact m66 k 0 z p q hk1 hk5 (by omega) hz hp hq (fun _ => rfl) (fun _ => rfl)
  refine V_iconst F (v := nI 1) dL_adds_0 (by decide) ?_
  refine V_iload_n F dL_adds_1 rfl ?_
  refine V_iconst F (v := nI 5) dL_adds_2 (by decide) ?_
  refine V_irem F dL_adds_3 (by decide) ?_
  refine V_val F (pk_rem (by omega) (by omega) (by omega)) ?_
  (first | refine V_iaddN F dL_adds_4 ?_ | refine V_iadd F dL_adds_4 ?_)
  refine V_istore F (lv' := [_, _, _, _, _, _, _, _, _, _, _, _]) dL_adds_5 (by decide) rfl rfl ?_
  refine V_iload_n F dL_adds_7 rfl ?_
  refine V_iconst F (v := nI 3) dL_adds_8 (by decide) ?_
  refine V_ishr F dL_adds_9 ?_
  refine V_val F (pk_shrN (by omega) _ 3 (by decide +kernel)) ?_
  refine V_iconst F (v := nI 5) dL_adds_10 (by decide) ?_
  refine V_irem F dL_adds_11 (by decide) ?_
  refine V_val F (pk_rem (by omega) (by omega) (by omega)) ?_
  refine V_istore F (lv' := [_, _, _, _, _, _, _, _, _, _, _, _]) dL_adds_12 (by decide) rfl rfl ?_
  refine V_iload_n F dL_adds_14 rfl ?_
  refine V_bipush F (v := nI 6) dL_adds_15 (by decide) ?_
  refine V_ishr F dL_adds_17 ?_
  refine V_val F (pk_shrN (by omega) _ 6 (by decide +kernel)) ?_
  refine V_iconst F (v := nI 5) dL_adds_18 (by decide) ?_
  refine V_irem F dL_adds_19 (by decide) ?_
  refine V_val F (pk_rem (by omega) (by omega) (by omega)) ?_
  refine V_istore F (lv' := [_, _, _, _, _, _, _, _, _, _, _, _]) dL_adds_20 (by decide) rfl rfl ?_
  refine V_iload_n F dL_adds_22 rfl ?_
  refine V_iconst F (v := nI 1) dL_adds_23 (by decide) ?_
  refine V_isubN F (h1n) dL_adds_24 ?_
  refine V_iload_n F dL_adds_25 rfl ?_
  refine V_bipush F (v := nI 9) dL_adds_26 (by decide) ?_
  refine V_ishr F dL_adds_28 ?_
  refine V_val F (pk_shrN (by omega) _ 9 (by decide +kernel)) ?_
  refine V_iload_n F dL_adds_29 rfl ?_
  refine V_iconst F (v := nI 4) dL_adds_30 (by decide) ?_
  have m39 : ∀ m, 1 ≤ m → m ≤ n → V (GS g) p₀ l e₀ (rmD (6)) s₀ m₀ (List.toArray [.ref (g.1 0), .int (nI y), .int (nI n), .ref (g.1 15), .ref (g.1 16)]) b₀ h₀ c₀ 12 0 0 (MQ b₀ (Qp (GS g) (AQ T n)) (List.toArray [.ref (g.1 0), .int (nI y), .int (nI n), .ref (g.1 15), .ref (g.1 16)]) s₀ 0 0 (gA (GS g))) 39 ([some (.ref (g.1 0)), some (.int (nI y)), some (.int (nI n)), some (.ref (g.1 15)), some (.ref (g.1 16)), some (.int (nI (1 + y % 5))), some (.int (nI (y / 2 ^ 3 % 5))), some (.int (nI (y / 2 ^ 6 % 5))), none, none, none, none]) ([.int (nI m), .int (nI (y / 2 ^ 9)), .int (nI (n - 1))]) (μ) := by
    intro m hm1 hm
    have hr := Nat.mod_lt (y / 2 ^ 9) (show 0 < m by omega)
    refine V_irem F dL_adds_39 (nI_nz (by omega) (by omega)) ?_
    refine V_val F (pk_rem (by omega) (by omega) (by omega)) ?_
    refine V_isubN F (by omega) dL_adds_40 ?_
    refine V_istore F (lv' := [_, _, _, _, _, _, _, _, _, _, _, _]) dL_adds_41 (by decide) rfl rfl ?_
    refine V_iload_n F dL_adds_43 rfl ?_
    refine V_bipush F (v := nI 12) dL_adds_44 (by decide) ?_
    refine V_ishr F dL_adds_46 ?_
    refine V_val F (pk_shrN (by omega) _ 12 (by decide +kernel)) ?_
    refine V_iload_n F dL_adds_47 rfl ?_
    refine V_irem F dL_adds_48 (nI_nz (by omega) (by omega)) ?_
    refine V_val F (pk_rem (by omega) (by omega) (by omega)) ?_
    refine V_istore F (lv' := [_, _, _, _, _, _, _, _, _, _, _, _]) dL_adds_49 (by decide) rfl rfl ?_
    exact m51 _ _ _ _ _ (by omega) (by omega) (by omega) (by omega) (by omega) (Nat.mod_lt _ (by omega))
  refine V_icmp_ge_N F (tgt := 38) dL_adds_31 (by decide) (by omega) (by omega) (fun e4 => ?_) (fun e4 => ?_)
  · skip
    refine V_iconst F (v := nI 4) dL_adds_38 (by decide) ?_
    exact m39 4 (by omega) (by omega)
  · skip
    refine V_iload_n F dL_adds_34 rfl ?_
    refine V_goto F (tgt := 39) dL_adds_35 (by decide) ?_
    exact m39 n h1n (Nat.le_refl _)
end ADDS

