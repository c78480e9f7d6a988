section MAKE0
variable {T : Tb} {n : Nat}
def BQ (T : Tb) (n k x y p q : Nat) (μ : Mem) : Option Value → Mem → Prop := fun r μ' => (bFit T n k p q ∧ r = some (.int (nI n)) ∧ XInv (bT T n k x y p q) (n + 1) μ' ∧ sameM μ μ') ∨ (¬ bFit T n k p q ∧ r = some (.int (-3)) ∧ μ' = μ)
def oTau (n : Nat) (p : Int32) : Option (Nat × Nat × Nat × Nat × Nat) := match pj n p with
  | some j => some (1, 0, 0, j, 0)
  | none => none
def oOut (n : Nat) (x y p : Int32) : Option (Nat × Nat × Nat × Nat × Nat) := match pj 6 x with
  | none => none
  | some a => match pj 6 y with
    | none => none
    | some b => match pj n p with
      | some j => some (2, a, b, j, 0)
      | none => none
def oIn (n : Nat) (x p : Int32) : Option (Nat × Nat × Nat × Nat × Nat) := match pj 6 x with
  | none => none
  | some a => match pj n p with
    | some j => some (3, a, 0, j, 0)
    | none => none
def oMat (n : Nat) (x y p : Int32) : Option (Nat × Nat × Nat × Nat × Nat) := match pj 6 x with
  | none => none
  | some a => match pj 6 y with
    | none => none
    | some b => match pj n p with
      | some j => some (4, a, b, j, 0)
      | none => none
def oSum (n : Nat) (p q : Int32) : Option (Nat × Nat × Nat × Nat × Nat) := match pj n p with
  | none => none
  | some i => match pj n q with
    | some j => some (5, 0, 0, i, j)
    | none => none
def BP (T : Tb) (n : Nat) (o : Option (Nat × Nat × Nat × Nat × Nat)) (μ : Mem) : Option Value → Mem → Prop := match o with
  | none => Is (.int (-1)) μ
  | some (k, x, y, p, q) => BQ T n k x y p q μ
theorem bOk_tau {j : Nat} (hj : j < n) : bOk n 1 0 0 j 0 := by unfold bOk; omega
theorem bOk_out {a b j : Nat} (ha : a < 6) (hb : b < 6) (hj : j < n) : bOk n 2 a b j 0 := by unfold bOk; omega
theorem bOk_in {a j : Nat} (ha : a < 6) (hj : j < n) : bOk n 3 a 0 j 0 := by unfold bOk; omega
theorem bOk_mat {a b j : Nat} (ha : a < 6) (hb : b < 6) (hj : j < n) : bOk n 4 a b j 0 := by unfold bOk; omega
theorem bOk_sum {i j : Nat} (hi : i < n) (hj : j < n) : bOk n 5 0 0 i j := by unfold bOk; omega
theorem hk3_iff {k : Nat} (h1 : 1 ≤ k) : (1 ≤ k ∧ k ≤ 3) ↔ k ≤ 3 := by omega
end MAKE0
section MAKE
variable {g : Gm} {l : Launch} {μ : Mem} {T : Tb} {n : Nat}
theorem c_build {k x y p q : Nat} (hI : XInv T n μ) (ho : bOk n k x y p q) : Ct (GS g) l (3) yX2_build cX2_build 9 (some .int) [.ref (g.1 1), .int (nI k), .int (nI x), .int (nI y), .int (nI p), .int (nI q)] μ (BQ T n k x y p q μ) := by
  have hX := hI.1
  have hn := hX.n24
  have hW := hX.1
  obtain ⟨o1, o2, o3, o4, o5, o6, o7, o8, o9, o10⟩ := id ho
  have hd1 := hW.depth o5
  have hd2 := hW.depth o6
  have hn1 := hW.need o5
  have hn2 := hW.need o6
  refine Ct.of (own := RX2) mi_X2_build rfl [some (.ref (g.1 1)), some (.int (nI k)), some (.int (nI x)), some (.int (nI y)), some (.int (nI p)), some (.int (nI q)), none, none, none] (Nat.le_of_ble_eq_true rfl) rfl (fun p₀ e₀ s₀ m₀ b₀ h₀ c₀ F => ?_)
  have hbD : bD T k p q ≤ 4 := by unfold bD; split <;> omega
  have hbB : bB T k p q ≤ 6 := by unfold bB; split <;> omega
  have main : V (GS g) p₀ l e₀ (rmD (3)) s₀ m₀ (List.toArray [.ref (g.1 1), .int (nI k), .int (nI x), .int (nI y), .int (nI p), .int (nI q)]) b₀ h₀ c₀ 9 0 0 (MQ b₀ (Qp (GS g) (BQ T n k x y p q μ)) (List.toArray [.ref (g.1 1), .int (nI k), .int (nI x), .int (nI y), .int (nI p), .int (nI q)]) s₀ 0 0 (gA (GS g))) 68 ([some (.ref (g.1 1)), some (.int (nI k)), some (.int (nI x)), some (.int (nI y)), some (.int (nI p)), some (.int (nI q)), some (.int (nI (bD T k p q))), some (.int (nI (bB T k p q))), none]) ([]) (μ) := by
    refine V_aload_n F dX2_build_68 rfl ?_
    refine V_getf F (q0 := 1) (j := 0) lk_X2_50 dX2_build_69 ig_X2 rfl rfl (by decide) rfl rfl ?_
    refine V_val F (hX.2.1) ?_
    refine V_bipush F (v := nI 24) dX2_build_72 (by decide) ?_
    have bad : ¬ bFit T n k p q → V (GS g) p₀ l e₀ (rmD (3)) s₀ m₀ (List.toArray [.ref (g.1 1), .int (nI k), .int (nI x), .int (nI y), .int (nI p), .int (nI q)]) b₀ h₀ c₀ 9 0 0 (MQ b₀ (Qp (GS g) (BQ T n k x y p q μ)) (List.toArray [.ref (g.1 1), .int (nI k), .int (nI x), .int (nI y), .int (nI p), .int (nI q)]) s₀ 0 0 (gA (GS g))) 89 ([some (.ref (g.1 1)), some (.int (nI k)), some (.int (nI x)), some (.int (nI y)), some (.int (nI p)), some (.int (nI q)), some (.int (nI (bD T k p q))), some (.int (nI (bB T k p q))), none]) ([]) (μ) := by
      intro hf
      refine V_bipush F (v := (-3)) dX2_build_89 (by decide) ?_
      exact V_iret F dX2_build_91 (Or.inr ⟨hf, rfl, rfl⟩)
    refine V_icmp_ge_N F (tgt := 89) dX2_build_74 (by decide) (by omega) (by omega) (fun h1 => ?_) (fun h1 => ?_)
    · exact bad (fun hf => by have := hf.1; omega)
    · skip
      refine V_iload F dX2_build_77 rfl ?_
      refine V_iconst F (v := nI 3) dX2_build_79 (by decide) ?_
      refine V_icmp_gt_N F (tgt := 89) dX2_build_80 (by decide) (by omega) (by omega) (fun h2 => ?_) (fun h2 => ?_)
      · exact bad (fun hf => by have := hf.2.1; omega)
      · skip
        refine V_iload F dX2_build_83 rfl ?_
        refine V_iconst F (v := nI 3) dX2_build_85 (by decide) ?_
        refine V_icmp_le_N F (tgt := 92) dX2_build_86 (by decide) (by omega) (by omega) (fun h3 => ?_) (fun h3 => ?_)
        · have hf : bFit T n k p q := ⟨by omega, by omega, h3⟩
          have hn24 : n < 24 := hf.1
          have eN : max (max x y - 2) (max (T 7 p - (if k = 3 then 1 else 0)) (T 7 q)) = bN T k x y p q := rfl
          have eL : hdl k + T 8 p + (if k = 5 then T 8 q + 2 else 0) = bL T k p q := rfl
          refine V_aload_n F dX2_build_92 rfl ?_
          refine V_getf F (q0 := 1) (j := 0) lk_X2_50 dX2_build_93 ig_X2 rfl rfl (by decide) rfl rfl ?_
          refine V_val F (hX.2.1) ?_
          refine V_istore F (lv' := [_, _, _, _, _, _, _, _, _]) dX2_build_96 (by decide) rfl rfl ?_
          refine V_aload_n F dX2_build_98 rfl ?_
          refine V_iload F dX2_build_99 rfl ?_
          refine V_iconst F (v := nI 1) dX2_build_101 (by decide) ?_
          (first | refine V_iaddN F dX2_build_102 ?_ | refine V_iadd F dX2_build_102 ?_)
          refine V_pff_1_0 F (host := "") lk_X2_50 dX2_build_103 ?_
          refine V_aload_n F dX2_build_106 rfl ?_
          refine V_getf F (q0 := 1) (j := 1) lk_X2_9 dX2_build_107 ig_X2 rfl rfl (by decide) rfl rfl ?_
          refine V_iload F dX2_build_110 rfl ?_
          refine V_iload_n F dX2_build_112 rfl ?_
          refine V_callSN0 F (c_put (q := 3) rfl (show n < 24 by omega)) mi_X3_put ms_X3_put nk_X2_64 dX2_build_113 (rmR (by omega)) rfl rfl (by decide) (Nat.le_of_ble_eq_true rfl) ?_
          refine V_aload_n F dX2_build_116 rfl ?_
          refine V_getf F (q0 := 1) (j := 2) lk_X2_15 dX2_build_117 ig_X2 rfl rfl (by decide) rfl rfl ?_
          refine V_iload F dX2_build_120 rfl ?_
          refine V_iload_n F dX2_build_122 rfl ?_
          refine V_callSN0 F (c_put (q := 4) rfl (show n < 24 by omega)) mi_X3_put ms_X3_put nk_X2_64 dX2_build_123 (rmR (by omega)) rfl rfl (by decide) (Nat.le_of_ble_eq_true rfl) ?_
          refine V_aload_n F dX2_build_126 rfl ?_
          refine V_getf F (q0 := 1) (j := 3) lk_X2_18 dX2_build_127 ig_X2 rfl rfl (by decide) rfl rfl ?_
          refine V_iload F dX2_build_130 rfl ?_
          refine V_iload_n F dX2_build_132 rfl ?_
          refine V_callSN0 F (c_put (q := 5) rfl (show n < 24 by omega)) mi_X3_put ms_X3_put nk_X2_64 dX2_build_133 (rmR (by omega)) rfl rfl (by decide) (Nat.le_of_ble_eq_true rfl) ?_
          refine V_aload_n F dX2_build_136 rfl ?_
          refine V_getf F (q0 := 1) (j := 4) lk_X2_21 dX2_build_137 ig_X2 rfl rfl (by decide) rfl rfl ?_
          refine V_iload F dX2_build_140 rfl ?_
          refine V_iload F dX2_build_142 rfl ?_
          refine V_callSN0 F (c_put (q := 6) rfl (show n < 24 by omega)) mi_X3_put ms_X3_put nk_X2_64 dX2_build_144 (rmR (by omega)) rfl rfl (by decide) (Nat.le_of_ble_eq_true rfl) ?_
          refine V_aload_n F dX2_build_147 rfl ?_
          refine V_getf F (q0 := 1) (j := 5) lk_X2_24 dX2_build_148 ig_X2 rfl rfl (by decide) rfl rfl ?_
          refine V_iload F dX2_build_151 rfl ?_
          refine V_iload F dX2_build_153 rfl ?_
          refine V_callSN0 F (c_put (q := 7) rfl (show n < 24 by omega)) mi_X3_put ms_X3_put nk_X2_64 dX2_build_155 (rmR (by omega)) rfl rfl (by decide) (Nat.le_of_ble_eq_true rfl) ?_
          refine V_aload_n F dX2_build_158 rfl ?_
          refine V_getf F (q0 := 1) (j := 6) lk_X2_27 dX2_build_159 ig_X2 rfl rfl (by decide) rfl rfl ?_
          refine V_iload F dX2_build_162 rfl ?_
          refine V_iload F dX2_build_164 rfl ?_
          refine V_callSN0 F (c_put (q := 8) rfl (show n < 24 by omega)) mi_X3_put ms_X3_put nk_X2_64 dX2_build_166 (rmR (by omega)) rfl rfl (by decide) (Nat.le_of_ble_eq_true rfl) ?_
          refine V_aload_n F dX2_build_169 rfl ?_
          refine V_getf F (q0 := 1) (j := 7) lk_X2_30 dX2_build_170 ig_X2 rfl rfl (by decide) rfl rfl ?_
          refine V_iload F dX2_build_173 rfl ?_
          refine V_iload F dX2_build_175 rfl ?_
          refine V_callSN0 F (c_put (q := 9) rfl (show n < 24 by omega)) mi_X3_put ms_X3_put nk_X2_64 dX2_build_177 (rmR (by omega)) rfl rfl (by decide) (Nat.le_of_ble_eq_true rfl) ?_
          refine V_aload_n F dX2_build_180 rfl ?_
          refine V_getf F (q0 := 1) (j := 8) lk_X2_33 dX2_build_181 ig_X2 rfl rfl (by decide) rfl rfl ?_
          refine V_iload F dX2_build_184 rfl ?_
          refine V_aload_n F dX2_build_186 rfl ?_
          refine V_iload_n F dX2_build_187 rfl ?_
          refine V_iload_n F dX2_build_188 rfl ?_
          refine V_iload_n F dX2_build_189 rfl ?_
          refine V_iload F dX2_build_190 rfl ?_
          refine V_iload F dX2_build_192 rfl ?_
          refine V_callVi F (q0 := 1) (c_needFor (k := k) (x := x) (y := y) (p := p) (q := q) (a := T 7 p) (c := T 7 q) (by omega) o3 o4 (by omega) (by omega) (by omega) (by omega) (by (repeat rw [wr_ne (by omega)]); exact hX.fld 7 rfl (by omega) o5) (by (repeat rw [wr_ne (by omega)]); exact hX.fld 7 rfl (by omega) o6)) mi_X2_needFor mm_X2_needFor lk_X2_82 dX2_build_194 (rmR (by omega)) rfl rfl (by decide) (Nat.le_of_ble_eq_true rfl) rfl rfl rfl ?_
          rw [eN]
          refine V_callSN0 F (c_put (q := 10) rfl (show n < 24 by omega)) mi_X3_put ms_X3_put nk_X2_64 dX2_build_197 (rmR (by omega)) rfl rfl (by decide) (Nat.le_of_ble_eq_true rfl) ?_
          refine V_aload_n F dX2_build_200 rfl ?_
          refine V_getf F (q0 := 1) (j := 9) lk_X2_40 dX2_build_201 ig_X2 rfl rfl (by decide) rfl rfl ?_
          refine V_iload F dX2_build_204 rfl ?_
          refine V_aload_n F dX2_build_206 rfl ?_
          refine V_iload_n F dX2_build_207 rfl ?_
          refine V_iload F dX2_build_208 rfl ?_
          refine V_iload F dX2_build_210 rfl ?_
          refine V_callVi F (q0 := 1) (c_lengthFor (k := k) (p := p) (q := q) (a := T 8 p) (c := T 8 q) (by omega) (by omega) (by omega) (by (repeat rw [wr_ne (by omega)]); exact hX.fld 8 rfl (by omega) o5) (by (repeat rw [wr_ne (by omega)]); exact hX.fld 8 rfl (by omega) o6)) mi_X2_lengthFor mm_X2_lengthFor lk_X2_86 dX2_build_212 (rmR (by omega)) rfl rfl (by decide) (Nat.le_of_ble_eq_true rfl) rfl rfl rfl ?_
          rw [eL]
          refine V_callSN0 F (c_put (q := 11) rfl (show n < 24 by omega)) mi_X3_put ms_X3_put nk_X2_64 dX2_build_215 (rmR (by omega)) rfl rfl (by decide) (Nat.le_of_ble_eq_true rfl) ?_
          refine V_aload_n F dX2_build_218 rfl ?_
          refine V_iload F dX2_build_219 rfl ?_
          refine V_iload_n F dX2_build_221 rfl ?_
          refine V_iload_n F dX2_build_222 rfl ?_
          refine V_iload_n F dX2_build_223 rfl ?_
          refine V_iload F dX2_build_224 rfl ?_
          refine V_iload F dX2_build_226 rfl ?_
          refine V_callV F (q0 := 1) (c_putActions (T := T) hW ho hf (fun j hj => by (repeat rw [wr_ne (by omega)]); exact hX.fld 6 rfl (by omega) hj) (fun i s a hi ha => by have := hX.2.2.2 i s a hi ha; (repeat rw [wr_ne (by omega)]); exact this)) mi_X2_putActions mm_X2_putActions lk_X2_90 dX2_build_228 (rmR (by omega)) rfl rfl (by decide) (Nat.le_of_ble_eq_true rfl) rfl rfl rfl (fun r μ' h => ?_)
          obtain ⟨rfl, hP⟩ := h
          refine V_iload F dX2_build_231 rfl ?_
          refine V_iret F dX2_build_233 (Or.inl ⟨hf, rfl, ⟨⟨bT_wf hW ho hf, ?_, fun f j hf9 hj => ?_, fun i s a hi ha => ?_⟩, ?_⟩, fun c hc => ?_⟩)
          · rw [hP.1 _ _ (by omega)]
            repeat rw [wr_ne (by omega)]
            exact wr_eq
          · rw [hP.1 _ _ (by omega)]
            by_cases hjn : j = n
            · subst hjn
              rcases (by omega : f = 0 ∨ f = 1 ∨ f = 2 ∨ f = 3 ∨ f = 4 ∨ f = 5 ∨ f = 6 ∨ f = 7 ∨ f = 8) with rfl | rfl | rfl | rfl | rfl | rfl | rfl | rfl | rfl <;> simp [wr_at, bT]
            · rw [bT_old hjn]
              repeat rw [wr_ne (by omega)]
              exact hX.2.2.1 f j hf9 (by omega)
          · by_cases hin : i = n
            · subst hin
              exact hP.2.2 s a ha
            · rw [acts_congr hW (bT_wf hW ho hf) (by omega) (fun f j hj => bT_old (by omega)) i (by omega)] at ha
              have hlt := (List.getElem?_eq_some_iff.mp ha).1
              rw [acts_len hW (by omega)] at hlt
              have h63 := (hW.depth (show i < n by omega)).2
              have := hX.2.2.2 i s a (by omega) ha
              rw [hP.1 _ _ (by omega), hP.2.1 _ (by omega)]
              repeat rw [wr_ne (by omega)]
              exact this
          · refine hI.2.grow hW (bT_wf hW ho hf) (by omega) (fun f j hj => bT_old (by omega)) ?_
            funext j
            rw [hP.1 _ _ (by omega)]
            repeat rw [wr_ne (by omega)]
          · funext j
            rw [hP.1 _ _ (by omega)]
            repeat rw [wr_ne (by omega)]
        · exact bad (fun hf => by have := hf.2.2; omega)
  have eD1 : k ≤ 3 → max (T 5 p) (T 5 q) + 1 = bD T k p q := fun h => by unfold bD; rw [if_pos h]
  have eD0 : ¬ k ≤ 3 → max (T 5 p) (T 5 q) + 0 = bD T k p q := fun h => by unfold bD; rw [if_neg h]
  refine V_aload_n F dX2_build_0 rfl ?_
  refine V_getf F (q0 := 1) (j := 6) lk_X2_27 dX2_build_1 ig_X2 rfl rfl (by decide) rfl rfl ?_
  refine V_iload F dX2_build_4 rfl ?_
  refine V_callSNi F (c_at (q := 8) rfl (show p < 24 by omega) (hX.fld 5 rfl (by omega) o5)) mi_X3_at ms_X3_at nk_X2_68 dX2_build_6 (rmR (by omega)) rfl rfl (by decide) (Nat.le_of_ble_eq_true rfl) ?_
  refine V_aload_n F dX2_build_9 rfl ?_
  refine V_getf F (q0 := 1) (j := 6) lk_X2_27 dX2_build_10 ig_X2 rfl rfl (by decide) rfl rfl ?_
  refine V_iload F dX2_build_13 rfl ?_
  refine V_callSNi F (c_at (q := 8) rfl (show q < 24 by omega) (hX.fld 5 rfl (by omega) o6)) mi_X3_at ms_X3_at nk_X2_68 dX2_build_15 (rmR (by omega)) rfl rfl (by decide) (Nat.le_of_ble_eq_true rfl) ?_
  refine V_maxN F lk_X2_72 dX2_build_18 (rmM (by omega) (Nat.le_of_ble_eq_true rfl)) (by omega) (by omega) ?_
  refine V_iload_n F dX2_build_21 rfl ?_
  refine V_callSi F (c_isAction (by omega)) mi_X2_isAction ms_X2_isAction lk_X2_78 dX2_build_22 (rmR (by omega)) rfl rfl (by decide) (Nat.le_of_ble_eq_true rfl) ?_
  by_cases hk3 : k ≤ 3
  · rw [if_pos ⟨o1, hk3⟩]
    refine V_if_eq_f F (tgt := 32) dX2_build_25 (by decide) (by decide) ?_
    refine V_iconst F (v := nI 1) dX2_build_28 (by decide) ?_
    refine V_goto F (tgt := 33) dX2_build_29 (by decide) ?_
    (first | refine V_iaddN F dX2_build_33 ?_ | refine V_iadd F dX2_build_33 ?_)
    rw [eD1 hk3]
    refine V_istore F (lv' := [_, _, _, _, _, _, _, _, _]) dX2_build_34 (by decide) rfl rfl ?_
    refine V_iload_n F dX2_build_36 rfl ?_
    refine V_callSi F (c_isAction (by omega)) mi_X2_isAction ms_X2_isAction lk_X2_78 dX2_build_37 (rmR (by omega)) rfl rfl (by decide) (Nat.le_of_ble_eq_true rfl) ?_
    rw [if_pos ⟨o1, hk3⟩]
    refine V_if_eq_f F (tgt := 47) dX2_build_40 (by decide) (by decide) ?_
    refine V_iconst F (v := nI 1) dX2_build_43 (by decide) ?_
    refine V_goto F (tgt := 66) dX2_build_44 (by decide) ?_
    refine V_istore F (lv' := [_, _, _, _, _, _, _, _, _]) dX2_build_66 (by decide) rfl rfl ?_
    rw [show bB T k p q = 1 from if_pos hk3] at main
    exact main
  · rw [if_neg (by omega)]
    refine V_if_eq_t F (tgt := 32) dX2_build_25 (by decide) (by decide) ?_
    refine V_iconst F (v := nI 0) dX2_build_32 (by decide) ?_
    (first | refine V_iaddN F dX2_build_33 ?_ | refine V_iadd F dX2_build_33 ?_)
    rw [eD0 hk3]
    refine V_istore F (lv' := [_, _, _, _, _, _, _, _, _]) dX2_build_34 (by decide) rfl rfl ?_
    refine V_iload_n F dX2_build_36 rfl ?_
    refine V_callSi F (c_isAction (by omega)) mi_X2_isAction ms_X2_isAction lk_X2_78 dX2_build_37 (rmR (by omega)) rfl rfl (by decide) (Nat.le_of_ble_eq_true rfl) ?_
    rw [if_neg (by omega)]
    refine V_if_eq_t F (tgt := 47) dX2_build_40 (by decide) (by decide) ?_
    refine V_aload_n F dX2_build_47 rfl ?_
    refine V_getf F (q0 := 1) (j := 7) lk_X2_30 dX2_build_48 ig_X2 rfl rfl (by decide) rfl rfl ?_
    refine V_iload F dX2_build_51 rfl ?_
    refine V_callSNi F (c_at (q := 9) rfl (show p < 24 by omega) (hX.fld 6 rfl (by omega) o5)) mi_X3_at ms_X3_at nk_X2_68 dX2_build_53 (rmR (by omega)) rfl rfl (by decide) (Nat.le_of_ble_eq_true rfl) ?_
    refine V_aload_n F dX2_build_56 rfl ?_
    refine V_getf F (q0 := 1) (j := 7) lk_X2_30 dX2_build_57 ig_X2 rfl rfl (by decide) rfl rfl ?_
    refine V_iload F dX2_build_60 rfl ?_
    refine V_callSNi F (c_at (q := 9) rfl (show q < 24 by omega) (hX.fld 6 rfl (by omega) o6)) mi_X3_at ms_X3_at nk_X2_68 dX2_build_62 (rmR (by omega)) rfl rfl (by decide) (Nat.le_of_ble_eq_true rfl) ?_
    (first | refine V_iaddN F dX2_build_65 ?_ | refine V_iadd F dX2_build_65 ?_)
    refine V_istore F (lv' := [_, _, _, _, _, _, _, _, _]) dX2_build_66 (by decide) rfl rfl ?_
    rw [show bB T k p q = T 6 p + T 6 q from if_neg hk3] at main
    exact main
theorem c_tau (hI : XInv T n μ) (p : Int32) : Ct (GS g) l (4) yX3_tau cX3_tau 2 (some .int) [.ref (g.1 0), .int p] μ (BP T n (oTau n p) μ) := by
  have hX := hI.1
  have hn := hX.n24
  refine Ct.of (own := RX3) mi_X3_tau rfl [some (.ref (g.1 0)), some (.int p)] (Nat.le_of_ble_eq_true rfl) rfl (fun p₀ e₀ s₀ m₀ b₀ h₀ c₀ F => ?_)
  refine V_aload_n F dX3_tau_0 rfl ?_
  refine V_getf F (q0 := 0) (j := 0) lk_X3_10 dX3_tau_1 ig_X3 rfl rfl (by decide) rfl rfl ?_
  refine V_iload_n F dX3_tau_4 rfl ?_
  cases h : pj n p with
  | none =>
    have e : oTau n p = none := by unfold oTau; rw [h]
    refine V_callVNi F (q0 := 1) (c_holds_f hX.2.1 (by omega) (pj_none h (by omega))) mi_X2_holds mm_X2_holds nk_X3_25 dX3_tau_5 (rmR (by omega)) rfl rfl (by decide) (Nat.le_of_ble_eq_true rfl) rfl rfl rfl ?_
    refine V_if_ne_f F (tgt := 13) dX3_tau_8 (by decide) (by decide) ?_
    refine V_iconst F (v := (-1)) dX3_tau_11 (by decide) ?_
    exact V_iret F dX3_tau_12 (by rw [e]; exact ⟨rfl, rfl⟩)
  | some j =>
    obtain ⟨hj, rfl⟩ := pj_some h (by omega)
    have e : oTau n (nI j) = some (1, 0, 0, j, 0) := by unfold oTau; rw [h]
    refine V_callVNi F (q0 := 1) (c_holds_t hX.2.1 (by omega) hj) mi_X2_holds mm_X2_holds nk_X3_25 dX3_tau_5 (rmR (by omega)) rfl rfl (by decide) (Nat.le_of_ble_eq_true rfl) rfl rfl rfl ?_
    refine V_if_ne_t F (tgt := 13) dX3_tau_8 (by decide) (by decide) ?_
    refine V_aload_n F dX3_tau_13 rfl ?_
    refine V_getf F (q0 := 0) (j := 0) lk_X3_10 dX3_tau_14 ig_X3 rfl rfl (by decide) rfl rfl ?_
    refine V_iconst F (v := nI 1) dX3_tau_17 (by decide) ?_
    refine V_iconst F (v := nI 0) dX3_tau_18 (by decide) ?_
    refine V_iconst F (v := nI 0) dX3_tau_19 (by decide) ?_
    refine V_iload_n F dX3_tau_20 rfl ?_
    refine V_iconst F (v := nI 0) dX3_tau_21 (by decide) ?_
    refine V_callVN F (q0 := 1) (c_build hI (bOk_tau hj)) mi_X2_build mm_X2_build nk_X3_29 dX3_tau_22 (rmR (by omega)) rfl rfl (by decide) (Nat.le_of_ble_eq_true rfl) rfl rfl rfl (fun r μ' h => ?_)
    rcases h with ⟨h1, rfl, h2⟩ | ⟨h1, rfl, h2⟩
    · skip
      exact V_iret F dX3_tau_25 (by rw [e]; exact Or.inl ⟨h1, rfl, h2⟩)
    · skip
      exact V_iret F dX3_tau_25 (by rw [e]; exact Or.inr ⟨h1, rfl, h2⟩)
theorem c_input (hI : XInv T n μ) (x p : Int32) : Ct (GS g) l (4) yX3_input cX3_input 3 (some .int) [.ref (g.1 0), .int x, .int p] μ (BP T n (oIn n x p) μ) := by
  have hX := hI.1
  have hn := hX.n24
  refine Ct.of (own := RX3) mi_X3_input rfl [some (.ref (g.1 0)), some (.int x), some (.int p)] (Nat.le_of_ble_eq_true rfl) rfl (fun p₀ e₀ s₀ m₀ b₀ h₀ c₀ F => ?_)
  refine V_iload_n F dX3_input_0 rfl ?_
  cases hx : pj 6 x with
  | none =>
    have e : oIn n x p = none := by unfold oIn; rw [hx]
    refine V_callSi F (c_isName_f (pj_none hx (by omega))) mi_X3_isName ms_X3_isName lk_X3_33 dX3_input_1 (rmR (by omega)) rfl rfl (by decide) (Nat.le_of_ble_eq_true rfl) ?_
    refine V_if_eq_t F (tgt := 18) dX3_input_4 (by decide) (by decide) ?_
    refine V_iconst F (v := (-1)) dX3_input_18 (by decide) ?_
    exact V_iret F dX3_input_19 (by rw [e]; exact ⟨rfl, rfl⟩)
  | some a =>
    obtain ⟨ha, rfl⟩ := pj_some hx (by omega)
    refine V_callSi F (c_isName_t ha) mi_X3_isName ms_X3_isName lk_X3_33 dX3_input_1 (rmR (by omega)) rfl rfl (by decide) (Nat.le_of_ble_eq_true rfl) ?_
    refine V_if_eq_f F (tgt := 18) dX3_input_4 (by decide) (by decide) ?_
    refine V_aload_n F dX3_input_7 rfl ?_
    refine V_getf F (q0 := 0) (j := 0) lk_X3_10 dX3_input_8 ig_X3 rfl rfl (by decide) rfl rfl ?_
    refine V_iload_n F dX3_input_11 rfl ?_
    cases h : pj n p with
    | none =>
      have e : oIn n (nI a) p = none := by unfold oIn; rw [hx]; simp only [h]
      refine V_callVNi F (q0 := 1) (c_holds_f hX.2.1 (by omega) (pj_none h (by omega))) mi_X2_holds mm_X2_holds nk_X3_25 dX3_input_12 (rmR (by omega)) rfl rfl (by decide) (Nat.le_of_ble_eq_true rfl) rfl rfl rfl ?_
      refine V_if_ne_f F (tgt := 20) dX3_input_15 (by decide) (by decide) ?_
      refine V_iconst F (v := (-1)) dX3_input_18 (by decide) ?_
      exact V_iret F dX3_input_19 (by rw [e]; exact ⟨rfl, rfl⟩)
    | some j =>
      obtain ⟨hj, rfl⟩ := pj_some h (by omega)
      have e : oIn n (nI a) (nI j) = some (3, a, 0, j, 0) := by unfold oIn; rw [hx]; simp only [h]
      refine V_callVNi F (q0 := 1) (c_holds_t hX.2.1 (by omega) hj) mi_X2_holds mm_X2_holds nk_X3_25 dX3_input_12 (rmR (by omega)) rfl rfl (by decide) (Nat.le_of_ble_eq_true rfl) rfl rfl rfl ?_
      refine V_if_ne_t F (tgt := 20) dX3_input_15 (by decide) (by decide) ?_
      refine V_aload_n F dX3_input_20 rfl ?_
      refine V_getf F (q0 := 0) (j := 0) lk_X3_10 dX3_input_21 ig_X3 rfl rfl (by decide) rfl rfl ?_
      refine V_iconst F (v := nI 3) dX3_input_24 (by decide) ?_
      refine V_iload_n F dX3_input_25 rfl ?_
      refine V_iconst F (v := nI 0) dX3_input_26 (by decide) ?_
      refine V_iload_n F dX3_input_27 rfl ?_
      refine V_iconst F (v := nI 0) dX3_input_28 (by decide) ?_
      refine V_callVN F (q0 := 1) (c_build hI (bOk_in ha hj)) mi_X2_build mm_X2_build nk_X3_29 dX3_input_29 (rmR (by omega)) rfl rfl (by decide) (Nat.le_of_ble_eq_true rfl) rfl rfl rfl (fun r μ' h => ?_)
      rcases h with ⟨h1, rfl, h2⟩ | ⟨h1, rfl, h2⟩
      · skip
        exact V_iret F dX3_input_32 (by rw [e]; exact Or.inl ⟨h1, rfl, h2⟩)
      · skip
        exact V_iret F dX3_input_32 (by rw [e]; exact Or.inr ⟨h1, rfl, h2⟩)
theorem c_output (hI : XInv T n μ) (x y p : Int32) : Ct (GS g) l (4) yX3_output cX3_output 4 (some .int) [.ref (g.1 0), .int x, .int y, .int p] μ (BP T n (oOut n x y p) μ) := by
  have hX := hI.1
  have hn := hX.n24
  refine Ct.of (own := RX3) mi_X3_output rfl [some (.ref (g.1 0)), some (.int x), some (.int y), some (.int p)] (Nat.le_of_ble_eq_true rfl) rfl (fun p₀ e₀ s₀ m₀ b₀ h₀ c₀ F => ?_)
  refine V_iload_n F dX3_output_0 rfl ?_
  cases hx : pj 6 x with
  | none =>
    have e : oOut n x y p = none := by unfold oOut; rw [hx]
    refine V_callSi F (c_isName_f (pj_none hx (by omega))) mi_X3_isName ms_X3_isName lk_X3_33 dX3_output_1 (rmR (by omega)) rfl rfl (by decide) (Nat.le_of_ble_eq_true rfl) ?_
    refine V_if_eq_t F (tgt := 25) dX3_output_4 (by decide) (by decide) ?_
    refine V_iconst F (v := (-1)) dX3_output_25 (by decide) ?_
    exact V_iret F dX3_output_26 (by rw [e]; exact ⟨rfl, rfl⟩)
  | some a =>
    obtain ⟨ha, rfl⟩ := pj_some hx (by omega)
    refine V_callSi F (c_isName_t ha) mi_X3_isName ms_X3_isName lk_X3_33 dX3_output_1 (rmR (by omega)) rfl rfl (by decide) (Nat.le_of_ble_eq_true rfl) ?_
    refine V_if_eq_f F (tgt := 25) dX3_output_4 (by decide) (by decide) ?_
    refine V_iload_n F dX3_output_7 rfl ?_
    cases hy : pj 6 y with
    | none =>
      have e : oOut n (nI a) y p = none := by unfold oOut; rw [hx]; simp only [hy]
      refine V_callSi F (c_isName_f (pj_none hy (by omega))) mi_X3_isName ms_X3_isName lk_X3_33 dX3_output_8 (rmR (by omega)) rfl rfl (by decide) (Nat.le_of_ble_eq_true rfl) ?_
      refine V_if_eq_t F (tgt := 25) dX3_output_11 (by decide) (by decide) ?_
      refine V_iconst F (v := (-1)) dX3_output_25 (by decide) ?_
      exact V_iret F dX3_output_26 (by rw [e]; exact ⟨rfl, rfl⟩)
    | some b =>
      obtain ⟨hb, rfl⟩ := pj_some hy (by omega)
      refine V_callSi F (c_isName_t hb) mi_X3_isName ms_X3_isName lk_X3_33 dX3_output_8 (rmR (by omega)) rfl rfl (by decide) (Nat.le_of_ble_eq_true rfl) ?_
      refine V_if_eq_f F (tgt := 25) dX3_output_11 (by decide) (by decide) ?_
      refine V_aload_n F dX3_output_14 rfl ?_
      refine V_getf F (q0 := 0) (j := 0) lk_X3_10 dX3_output_15 ig_X3 rfl rfl (by decide) rfl rfl ?_
      refine V_iload_n F dX3_output_18 rfl ?_
      cases h : pj n p with
      | none =>
        have e : oOut n (nI a) (nI b) p = none := by unfold oOut; rw [hx]; simp only [hy, h]
        refine V_callVNi F (q0 := 1) (c_holds_f hX.2.1 (by omega) (pj_none h (by omega))) mi_X2_holds mm_X2_holds nk_X3_25 dX3_output_19 (rmR (by omega)) rfl rfl (by decide) (Nat.le_of_ble_eq_true rfl) rfl rfl rfl ?_
        refine V_if_ne_f F (tgt := 27) dX3_output_22 (by decide) (by decide) ?_
        refine V_iconst F (v := (-1)) dX3_output_25 (by decide) ?_
        exact V_iret F dX3_output_26 (by rw [e]; exact ⟨rfl, rfl⟩)
      | some j =>
        obtain ⟨hj, rfl⟩ := pj_some h (by omega)
        have e : oOut n (nI a) (nI b) (nI j) = some (2, a, b, j, 0) := by unfold oOut; rw [hx]; simp only [hy, h]
        refine V_callVNi F (q0 := 1) (c_holds_t hX.2.1 (by omega) hj) mi_X2_holds mm_X2_holds nk_X3_25 dX3_output_19 (rmR (by omega)) rfl rfl (by decide) (Nat.le_of_ble_eq_true rfl) rfl rfl rfl ?_
        refine V_if_ne_t F (tgt := 27) dX3_output_22 (by decide) (by decide) ?_
        refine V_aload_n F dX3_output_27 rfl ?_
        refine V_getf F (q0 := 0) (j := 0) lk_X3_10 dX3_output_28 ig_X3 rfl rfl (by decide) rfl rfl ?_
        refine V_iconst F (v := nI 2) dX3_output_31 (by decide) ?_
        refine V_iload_n F dX3_output_32 rfl ?_
        refine V_iload_n F dX3_output_33 rfl ?_
        refine V_iload_n F dX3_output_34 rfl ?_
        refine V_iconst F (v := nI 0) dX3_output_35 (by decide) ?_
        refine V_callVN F (q0 := 1) (c_build hI (bOk_out ha hb hj)) mi_X2_build mm_X2_build nk_X3_29 dX3_output_36 (rmR (by omega)) rfl rfl (by decide) (Nat.le_of_ble_eq_true rfl) rfl rfl rfl (fun r μ' h => ?_)
        rcases h with ⟨h1, rfl, h2⟩ | ⟨h1, rfl, h2⟩
        · skip
          exact V_iret F dX3_output_39 (by rw [e]; exact Or.inl ⟨h1, rfl, h2⟩)
        · skip
          exact V_iret F dX3_output_39 (by rw [e]; exact Or.inr ⟨h1, rfl, h2⟩)
theorem c_match (hI : XInv T n μ) (x y p : Int32) : Ct (GS g) l (4) yX3_match cX3_match 4 (some .int) [.ref (g.1 0), .int x, .int y, .int p] μ (BP T n (oMat n x y p) μ) := by
  have hX := hI.1
  have hn := hX.n24
  refine Ct.of (own := RX3) mi_X3_match rfl [some (.ref (g.1 0)), some (.int x), some (.int y), some (.int p)] (Nat.le_of_ble_eq_true rfl) rfl (fun p₀ e₀ s₀ m₀ b₀ h₀ c₀ F => ?_)
  refine V_iload_n F dX3_match_0 rfl ?_
  cases hx : pj 6 x with
  | none =>
    have e : oMat n x y p = none := by unfold oMat; rw [hx]
    refine V_callSi F (c_isName_f (pj_none hx (by omega))) mi_X3_isName ms_X3_isName lk_X3_33 dX3_match_1 (rmR (by omega)) rfl rfl (by decide) (Nat.le_of_ble_eq_true rfl) ?_
    refine V_if_eq_t F (tgt := 25) dX3_match_4 (by decide) (by decide) ?_
    refine V_iconst F (v := (-1)) dX3_match_25 (by decide) ?_
    exact V_iret F dX3_match_26 (by rw [e]; exact ⟨rfl, rfl⟩)
  | some a =>
    obtain ⟨ha, rfl⟩ := pj_some hx (by omega)
    refine V_callSi F (c_isName_t ha) mi_X3_isName ms_X3_isName lk_X3_33 dX3_match_1 (rmR (by omega)) rfl rfl (by decide) (Nat.le_of_ble_eq_true rfl) ?_
    refine V_if_eq_f F (tgt := 25) dX3_match_4 (by decide) (by decide) ?_
    refine V_iload_n F dX3_match_7 rfl ?_
    cases hy : pj 6 y with
    | none =>
      have e : oMat n (nI a) y p = none := by unfold oMat; rw [hx]; simp only [hy]
      refine V_callSi F (c_isName_f (pj_none hy (by omega))) mi_X3_isName ms_X3_isName lk_X3_33 dX3_match_8 (rmR (by omega)) rfl rfl (by decide) (Nat.le_of_ble_eq_true rfl) ?_
      refine V_if_eq_t F (tgt := 25) dX3_match_11 (by decide) (by decide) ?_
      refine V_iconst F (v := (-1)) dX3_match_25 (by decide) ?_
      exact V_iret F dX3_match_26 (by rw [e]; exact ⟨rfl, rfl⟩)
    | some b =>
      obtain ⟨hb, rfl⟩ := pj_some hy (by omega)
      refine V_callSi F (c_isName_t hb) mi_X3_isName ms_X3_isName lk_X3_33 dX3_match_8 (rmR (by omega)) rfl rfl (by decide) (Nat.le_of_ble_eq_true rfl) ?_
      refine V_if_eq_f F (tgt := 25) dX3_match_11 (by decide) (by decide) ?_
      refine V_aload_n F dX3_match_14 rfl ?_
      refine V_getf F (q0 := 0) (j := 0) lk_X3_10 dX3_match_15 ig_X3 rfl rfl (by decide) rfl rfl ?_
      refine V_iload_n F dX3_match_18 rfl ?_
      cases h : pj n p with
      | none =>
        have e : oMat n (nI a) (nI b) p = none := by unfold oMat; rw [hx]; simp only [hy, h]
        refine V_callVNi F (q0 := 1) (c_holds_f hX.2.1 (by omega) (pj_none h (by omega))) mi_X2_holds mm_X2_holds nk_X3_25 dX3_match_19 (rmR (by omega)) rfl rfl (by decide) (Nat.le_of_ble_eq_true rfl) rfl rfl rfl ?_
        refine V_if_ne_f F (tgt := 27) dX3_match_22 (by decide) (by decide) ?_
        refine V_iconst F (v := (-1)) dX3_match_25 (by decide) ?_
        exact V_iret F dX3_match_26 (by rw [e]; exact ⟨rfl, rfl⟩)
      | some j =>
        obtain ⟨hj, rfl⟩ := pj_some h (by omega)
        have e : oMat n (nI a) (nI b) (nI j) = some (4, a, b, j, 0) := by unfold oMat; rw [hx]; simp only [hy, h]
        refine V_callVNi F (q0 := 1) (c_holds_t hX.2.1 (by omega) hj) mi_X2_holds mm_X2_holds nk_X3_25 dX3_match_19 (rmR (by omega)) rfl rfl (by decide) (Nat.le_of_ble_eq_true rfl) rfl rfl rfl ?_
        refine V_if_ne_t F (tgt := 27) dX3_match_22 (by decide) (by decide) ?_
        refine V_aload_n F dX3_match_27 rfl ?_
        refine V_getf F (q0 := 0) (j := 0) lk_X3_10 dX3_match_28 ig_X3 rfl rfl (by decide) rfl rfl ?_
        refine V_iconst F (v := nI 4) dX3_match_31 (by decide) ?_
        refine V_iload_n F dX3_match_32 rfl ?_
        refine V_iload_n F dX3_match_33 rfl ?_
        refine V_iload_n F dX3_match_34 rfl ?_
        refine V_iconst F (v := nI 0) dX3_match_35 (by decide) ?_
        refine V_callVN F (q0 := 1) (c_build hI (bOk_mat ha hb hj)) mi_X2_build mm_X2_build nk_X3_29 dX3_match_36 (rmR (by omega)) rfl rfl (by decide) (Nat.le_of_ble_eq_true rfl) rfl rfl rfl (fun r μ' h => ?_)
        rcases h with ⟨h1, rfl, h2⟩ | ⟨h1, rfl, h2⟩
        · skip
          exact V_iret F dX3_match_39 (by rw [e]; exact Or.inl ⟨h1, rfl, h2⟩)
        · skip
          exact V_iret F dX3_match_39 (by rw [e]; exact Or.inr ⟨h1, rfl, h2⟩)
theorem c_sum (hI : XInv T n μ) (p q : Int32) : Ct (GS g) l (4) yX3_sum cX3_sum 3 (some .int) [.ref (g.1 0), .int p, .int q] μ (BP T n (oSum n p q) μ) := by
  have hX := hI.1
  have hn := hX.n24
  refine Ct.of (own := RX3) mi_X3_sum rfl [some (.ref (g.1 0)), some (.int p), some (.int q)] (Nat.le_of_ble_eq_true rfl) rfl (fun p₀ e₀ s₀ m₀ b₀ h₀ c₀ F => ?_)
  refine V_aload_n F dX3_sum_0 rfl ?_
  refine V_getf F (q0 := 0) (j := 0) lk_X3_10 dX3_sum_1 ig_X3 rfl rfl (by decide) rfl rfl ?_
  refine V_iload_n F dX3_sum_4 rfl ?_
  cases hp : pj n p with
  | none =>
    have e : oSum n p q = none := by unfold oSum; rw [hp]
    refine V_callVNi F (q0 := 1) (c_holds_f hX.2.1 (by omega) (pj_none hp (by omega))) mi_X2_holds mm_X2_holds nk_X3_25 dX3_sum_5 (rmR (by omega)) rfl rfl (by decide) (Nat.le_of_ble_eq_true rfl) rfl rfl rfl ?_
    refine V_if_eq_t F (tgt := 22) dX3_sum_8 (by decide) (by decide) ?_
    refine V_iconst F (v := (-1)) dX3_sum_22 (by decide) ?_
    exact V_iret F dX3_sum_23 (by rw [e]; exact ⟨rfl, rfl⟩)
  | some i =>
    obtain ⟨hi, rfl⟩ := pj_some hp (by omega)
    refine V_callVNi F (q0 := 1) (c_holds_t hX.2.1 (by omega) hi) mi_X2_holds mm_X2_holds nk_X3_25 dX3_sum_5 (rmR (by omega)) rfl rfl (by decide) (Nat.le_of_ble_eq_true rfl) rfl rfl rfl ?_
    refine V_if_eq_f F (tgt := 22) dX3_sum_8 (by decide) (by decide) ?_
    refine V_aload_n F dX3_sum_11 rfl ?_
    refine V_getf F (q0 := 0) (j := 0) lk_X3_10 dX3_sum_12 ig_X3 rfl rfl (by decide) rfl rfl ?_
    refine V_iload_n F dX3_sum_15 rfl ?_
    cases h : pj n q with
    | none =>
      have e : oSum n (nI i) q = none := by unfold oSum; rw [hp]; simp only [h]
      refine V_callVNi F (q0 := 1) (c_holds_f hX.2.1 (by omega) (pj_none h (by omega))) mi_X2_holds mm_X2_holds nk_X3_25 dX3_sum_16 (rmR (by omega)) rfl rfl (by decide) (Nat.le_of_ble_eq_true rfl) rfl rfl rfl ?_
      refine V_if_ne_f F (tgt := 24) dX3_sum_19 (by decide) (by decide) ?_
      refine V_iconst F (v := (-1)) dX3_sum_22 (by decide) ?_
      exact V_iret F dX3_sum_23 (by rw [e]; exact ⟨rfl, rfl⟩)
    | some j =>
      obtain ⟨hj, rfl⟩ := pj_some h (by omega)
      have e : oSum n (nI i) (nI j) = some (5, 0, 0, i, j) := by unfold oSum; rw [hp]; simp only [h]
      refine V_callVNi F (q0 := 1) (c_holds_t hX.2.1 (by omega) hj) mi_X2_holds mm_X2_holds nk_X3_25 dX3_sum_16 (rmR (by omega)) rfl rfl (by decide) (Nat.le_of_ble_eq_true rfl) rfl rfl rfl ?_
      refine V_if_ne_t F (tgt := 24) dX3_sum_19 (by decide) (by decide) ?_
      refine V_aload_n F dX3_sum_24 rfl ?_
      refine V_getf F (q0 := 0) (j := 0) lk_X3_10 dX3_sum_25 ig_X3 rfl rfl (by decide) rfl rfl ?_
      refine V_iconst F (v := nI 5) dX3_sum_28 (by decide) ?_
      refine V_iconst F (v := nI 0) dX3_sum_29 (by decide) ?_
      refine V_iconst F (v := nI 0) dX3_sum_30 (by decide) ?_
      refine V_iload_n F dX3_sum_31 rfl ?_
      refine V_iload_n F dX3_sum_32 rfl ?_
      refine V_callVN F (q0 := 1) (c_build hI (bOk_sum hi hj)) mi_X2_build mm_X2_build nk_X3_29 dX3_sum_33 (rmR (by omega)) rfl rfl (by decide) (Nat.le_of_ble_eq_true rfl) rfl rfl rfl (fun r μ' h => ?_)
      rcases h with ⟨h1, rfl, h2⟩ | ⟨h1, rfl, h2⟩
      · skip
        exact V_iret F dX3_sum_36 (by rw [e]; exact Or.inl ⟨h1, rfl, h2⟩)
      · skip
        exact V_iret F dX3_sum_36 (by rw [e]; exact Or.inr ⟨h1, rfl, h2⟩)
end MAKE

