section MODEL0
variable {T : Tb} {n : Nat}
def MInv (T : Tb) (n : Nat) (μ : Mem) : Prop := WF T n ∧ MRep T n μ
theorem MInv.n24 {μ : Mem} (h : MInv T n μ) : n ≤ 24 ∧ 1 ≤ n := ⟨h.1.1.2, h.1.1.1⟩
theorem MInv.fld {μ : Mem} (h : MInv T n μ) (f : Nat) {p c : Nat} (hc : c = 16 + f) (hf : f < 9) (hp : p < n) : μ.1 c p = nI (T f p) := hc ▸ h.2.2 f p hf hp
def BM (T : Tb) (n k x y p q : Nat) (μ : Mem) : Option Value → Mem → Prop := fun r μ' => (bFit T n k p q ∧ r = some (.int (nI n)) ∧ MInv (bT T n k x y p q) (n + 1) μ' ∧ sameX μ μ') ∨ (¬ bFit T n k p q ∧ r = some (.int (-3)) ∧ μ' = μ)
def MP (T : Tb) (n : Nat) (o : Option (Nat × Nat × Nat × Nat × Nat)) (μ : Mem) : Option Value → Mem → Prop := match o with
  | none => Is (.int (-1)) μ
  | some (k, x, y, p, q) => BM T n k x y p q μ
def RM (T : Tb) (n : Nat) (μ : Mem) : Option Value → Mem → Prop := fun r μ' => (n = 1 ∧ r = some (.int (-4)) ∧ μ' = μ) ∨ (n ≠ 1 ∧ r = some (.int (nI (n - 1))) ∧ MInv T (n - 1) μ' ∧ sameX μ μ')
def mB7 (μ : Mem) (n k x y p q d b : Nat) : Mem := wr (wr (wr (wr (wr (wr (wr μ 16 n (nI k)) 17 n (nI x)) 18 n (nI y)) 19 n (nI p)) 20 n (nI q)) 21 n (nI d)) 22 n (nI b)
theorem mB7_ne {μ : Mem} {n k x y p q d b c i : Nat} (h : i ≠ n) : (mB7 μ n k x y p q d b).1 c i = μ.1 c i := by
  unfold mB7
  repeat rw [wr_ne (by omega)]
theorem mB7_15 {μ : Mem} {n k x y p q d b : Nat} : (mB7 μ n k x y p q d b).1 15 0 = μ.1 15 0 := by
  unfold mB7
  repeat rw [wr_ne (by omega)]
theorem isP_hi {n : Nat} {p : Int32} (h1 : 1 ≤ n) (hn : n < 2 ^ 31) (h : nI n ≤ p) : nI (n - 1) < p := Int32.lt_of_lt_of_le ((nI_ltI (by omega) hn).mpr (by omega)) h
theorem wr_ne2 {μ : Mem} {c i d j : Nat} {v : Int32} (h : ¬ (d = c ∧ j = i)) : (wr μ c i v).1 d j = μ.1 d j := wr_ne h
theorem sameX.wr {μ μ' : Mem} (h : sameX μ μ') {c i : Nat} {v : Int32} (hc : 15 ≤ c) : sameX μ (wr μ' c i v) := ⟨fun d hd => by funext j; rw [wr_ne (by omega)]; exact congrFun (h.1 d hd) j, h.2⟩
theorem sameX.rfl' (μ : Mem) : sameX μ μ := ⟨fun _ _ => rfl, rfl⟩
theorem sameX.trans {a b d : Mem} (h : sameX a b) (h2 : sameX b d) : sameX a d := ⟨fun c hc => (h2.1 c hc).trans (h.1 c hc), h2.2.trans h.2⟩
end MODEL0
section MODELA
variable {g : Gm} {l : Launch} {μ : Mem} {T : Tb} {n : Nat}
theorem c_in_t {v a b : Nat} (h1 : a ≤ v) (h2 : v ≤ b) (hb : b < 2 ^ 31) : Ct (GS g) l (0) yX4_in cX4_in 3 (some .boolean) [.int (nI v), .int (nI a), .int (nI b)] μ (Is (.int (nI 1)) μ) := by
  refine Ct.of (own := RX4) mi_X4_in rfl [some (.int (nI v)), some (.int (nI a)), some (.int (nI b))] (Nat.le_of_ble_eq_true rfl) rfl (fun p₀ e₀ s₀ m₀ b₀ h₀ c₀ F => ?_)
  refine V_iload_n F dX4_in_0 rfl ?_
  refine V_iload_n F dX4_in_1 rfl ?_
  refine V_icmp_lt_N F (tgt := 14) dX4_in_2 (by decide) (by omega) (by omega) (fun h => ?_) (fun h => ?_)
  · omega
  · skip
    refine V_iload_n F dX4_in_5 rfl ?_
    refine V_iload_n F dX4_in_6 rfl ?_
    refine V_icmp_gt_N F (tgt := 14) dX4_in_7 (by decide) (by omega) (by omega) (fun h => ?_) (fun h => ?_)
    · omega
    · skip
      refine V_iconst F (v := nI 1) dX4_in_10 (by decide) ?_
      refine V_goto F (tgt := 15) dX4_in_11 (by decide) ?_
      exact V_zret F dX4_in_15 (rfl) (⟨rfl, rfl⟩)
theorem c_in_f {v : Int32} {m : Nat} (hm1 : 1 ≤ m) (hm : m < 2 ^ 31) (h : ¬ isP m v) : Ct (GS g) l (0) yX4_in cX4_in 3 (some .boolean) [.int v, .int (nI 0), .int (nI (m - 1))] μ (Is (.int (nI 0)) μ) := by
  refine Ct.of (own := RX4) mi_X4_in rfl [some (.int v), some (.int (nI 0)), some (.int (nI (m - 1)))] (Nat.le_of_ble_eq_true rfl) rfl (fun p₀ e₀ s₀ m₀ b₀ h₀ c₀ F => ?_)
  refine V_iload_n F dX4_in_0 rfl ?_
  refine V_iload_n F dX4_in_1 rfl ?_
  rcases not_isP hm h with h0 | ⟨h0, h1⟩
  · skip
    refine V_icmp_lt_t F (tgt := 14) dX4_in_2 (by decide) (by rw [nI_0]; exact h0) ?_
    refine V_iconst F (v := nI 0) dX4_in_14 (by decide) ?_
    exact V_zret F dX4_in_15 (rfl) (⟨rfl, rfl⟩)
  · skip
    refine V_icmp_lt_f F (tgt := 14) dX4_in_2 (by decide) (by rw [nI_0]; exact h0) ?_
    refine V_iload_n F dX4_in_5 rfl ?_
    refine V_iload_n F dX4_in_6 rfl ?_
    refine V_icmp_gt_t F (tgt := 14) dX4_in_7 (by decide) (isP_hi hm1 hm h1) ?_
    refine V_iconst F (v := nI 0) dX4_in_14 (by decide) ?_
    exact V_zret F dX4_in_15 (rfl) (⟨rfl, rfl⟩)
theorem c_isProc_t {j : Nat} (hc : μ.1 15 0 = nI n) (hn : n ≤ 24) (hj : j < n) : Ct (GS g) l (1) yX4_isProcess cX4_isProcess 2 (some .boolean) [.ref (g.1 15), .int (nI j)] μ (Is (.int (nI 1)) μ) := by
  refine Ct.of (own := RX4) mi_X4_isProcess rfl [some (.ref (g.1 15)), some (.int (nI j))] (Nat.le_of_ble_eq_true rfl) rfl (fun p₀ e₀ s₀ m₀ b₀ h₀ c₀ F => ?_)
  refine V_iload_n F dX4_isProcess_0 rfl ?_
  refine V_iconst F (v := nI 0) dX4_isProcess_1 (by decide) ?_
  refine V_aload_n F dX4_isProcess_2 rfl ?_
  refine V_getf F (q0 := 15) (j := 0) lk_X4_7 dX4_isProcess_3 ig_X4 rfl rfl (by decide) rfl rfl ?_
  refine V_val F (hc) ?_
  refine V_iconst F (v := nI 1) dX4_isProcess_6 (by decide) ?_
  refine V_isubN F (by omega) dX4_isProcess_7 ?_
  refine V_callSi F (c_in_t (Nat.zero_le j) (show j ≤ n - 1 by omega) (by omega)) mi_X4_in ms_X4_in lk_X4_65 dX4_isProcess_8 (rmR (by omega)) rfl rfl (by decide) (Nat.le_of_ble_eq_true rfl) ?_
  exact V_zret F dX4_isProcess_11 (rfl) (⟨rfl, rfl⟩)
theorem c_isProc_f {p : Int32} (hc : μ.1 15 0 = nI n) (hn : n ≤ 24) (h1 : 1 ≤ n) (hp : ¬ isP n p) : Ct (GS g) l (1) yX4_isProcess cX4_isProcess 2 (some .boolean) [.ref (g.1 15), .int p] μ (Is (.int (nI 0)) μ) := by
  refine Ct.of (own := RX4) mi_X4_isProcess rfl [some (.ref (g.1 15)), some (.int p)] (Nat.le_of_ble_eq_true rfl) rfl (fun p₀ e₀ s₀ m₀ b₀ h₀ c₀ F => ?_)
  refine V_iload_n F dX4_isProcess_0 rfl ?_
  refine V_iconst F (v := nI 0) dX4_isProcess_1 (by decide) ?_
  refine V_aload_n F dX4_isProcess_2 rfl ?_
  refine V_getf F (q0 := 15) (j := 0) lk_X4_7 dX4_isProcess_3 ig_X4 rfl rfl (by decide) rfl rfl ?_
  refine V_val F (hc) ?_
  refine V_iconst F (v := nI 1) dX4_isProcess_6 (by decide) ?_
  refine V_isubN F (by omega) dX4_isProcess_7 ?_
  refine V_callSi F (c_in_f h1 (by omega) hp) mi_X4_in ms_X4_in lk_X4_65 dX4_isProcess_8 (rmR (by omega)) rfl rfl (by decide) (Nat.le_of_ble_eq_true rfl) ?_
  exact V_zret F dX4_isProcess_11 (rfl) (⟨rfl, rfl⟩)
theorem c_mName_t {j : Nat} (hj : j < 6) : Ct (GS g) l (1) yX4_isName cX4_isName 1 (some .boolean) [.int (nI j)] μ (Is (.int (nI 1)) μ) := by
  refine Ct.of (own := RX4) mi_X4_isName rfl [some (.int (nI j))] (Nat.le_of_ble_eq_true rfl) rfl (fun p₀ e₀ s₀ m₀ b₀ h₀ c₀ F => ?_)
  refine V_iload_n F dX4_isName_0 rfl ?_
  refine V_iconst F (v := nI 0) dX4_isName_1 (by decide) ?_
  refine V_iconst F (v := nI 5) dX4_isName_2 (by decide) ?_
  refine V_callSi F (c_in_t (Nat.zero_le j) (show j ≤ 5 by omega) (by omega)) mi_X4_in ms_X4_in lk_X4_65 dX4_isName_3 (rmR (by omega)) rfl rfl (by decide) (Nat.le_of_ble_eq_true rfl) ?_
  exact V_zret F dX4_isName_6 (rfl) (⟨rfl, rfl⟩)
theorem c_mName_f {p : Int32} (hp : ¬ isP 6 p) : Ct (GS g) l (1) yX4_isName cX4_isName 1 (some .boolean) [.int p] μ (Is (.int (nI 0)) μ) := by
  refine Ct.of (own := RX4) mi_X4_isName rfl [some (.int p)] (Nat.le_of_ble_eq_true rfl) rfl (fun p₀ e₀ s₀ m₀ b₀ h₀ c₀ F => ?_)
  refine V_iload_n F dX4_isName_0 rfl ?_
  refine V_iconst F (v := nI 0) dX4_isName_1 (by decide) ?_
  refine V_iconst F (v := nI 5) dX4_isName_2 (by decide) ?_
  refine V_callSi F (c_in_f (m := 6) (by omega) (by omega) hp) mi_X4_in ms_X4_in lk_X4_65 dX4_isName_3 (rmR (by omega)) rfl rfl (by decide) (Nat.le_of_ble_eq_true rfl) ?_
  exact V_zret F dX4_isName_6 (rfl) (⟨rfl, rfl⟩)
theorem c_needed {x : Nat} (hx : x < 6) : Ct (GS g) l (0) yX4_needed cX4_needed 1 (some .int) [.int (nI x)] μ (Is (.int (nI (x - 2))) μ) := by
  refine Ct.of (own := RX4) mi_X4_needed rfl [some (.int (nI x))] (Nat.le_of_ble_eq_true rfl) rfl (fun p₀ e₀ s₀ m₀ b₀ h₀ c₀ F => ?_)
  refine V_iload_n F dX4_needed_0 rfl ?_
  refine V_iconst F (v := nI 3) dX4_needed_1 (by decide) ?_
  refine V_icmp_ge_N F (tgt := 9) dX4_needed_2 (by decide) (by omega) (by omega) (fun h => ?_) (fun h => ?_)
  · skip
    refine V_iload_n F dX4_needed_9 rfl ?_
    refine V_iconst F (v := nI 2) dX4_needed_10 (by decide) ?_
    refine V_isubN F (by omega) dX4_needed_11 ?_
    exact V_iret F dX4_needed_12 (⟨rfl, rfl⟩)
  · skip
    refine V_iconst F (v := nI 0) dX4_needed_5 (by decide) ?_
    refine V_goto F (tgt := 12) dX4_needed_6 (by decide) ?_
    exact V_iret F dX4_needed_12 (⟨by rw [show x - 2 = 0 by omega], rfl⟩)
theorem c_larger {a b : Nat} (ha : a < 2 ^ 31) (hb : b < 2 ^ 31) : Ct (GS g) l (0) yX4_larger cX4_larger 2 (some .int) [.int (nI a), .int (nI b)] μ (Is (.int (nI (max a b))) μ) := by
  refine Ct.of (own := RX4) mi_X4_larger rfl [some (.int (nI a)), some (.int (nI b))] (Nat.le_of_ble_eq_true rfl) rfl (fun p₀ e₀ s₀ m₀ b₀ h₀ c₀ F => ?_)
  refine V_iload_n F dX4_larger_0 rfl ?_
  refine V_iload_n F dX4_larger_1 rfl ?_
  refine V_icmp_ge_N F (tgt := 9) dX4_larger_2 (by decide) (by omega) (by omega) (fun h => ?_) (fun h => ?_)
  · rw [Nat.max_eq_left h]
    refine V_iload_n F dX4_larger_9 rfl ?_
    exact V_iret F dX4_larger_10 (⟨rfl, rfl⟩)
  · rw [Nat.max_eq_right (by omega)]
    refine V_iload_n F dX4_larger_5 rfl ?_
    refine V_goto F (tgt := 10) dX4_larger_6 (by decide) ?_
    exact V_iret F dX4_larger_10 (⟨rfl, rfl⟩)
theorem c_builds {k x y p q : Nat} (hI : MInv T n μ) (ho : bOk n k x y p q) : Ct (GS g) l (1) yX4_builds cX4_builds 10 (some .int) [.ref (g.1 15), .int (nI k), .int (nI x), .int (nI y), .int (nI p), .int (nI q)] μ (BM T n k x y p q μ) := by
  have hn := hI.n24
  have hW := hI.1
  obtain ⟨o1, o2, o3, o4, o5, o6, o7, o8, o9, o10⟩ := id ho
  have hd1 := hW.depth o5
  have hd2 := hW.depth o6
  have hn1 := hW.need o5
  have hn2 := hW.need o6
  have hl1 := hW.len_lt o5
  have hl2 := hW.len_lt o6
  have hz : k ≠ 5 → T 5 q = 0 ∧ T 6 q = 0 ∧ T 7 q = 0 := fun h => by rw [o10 h]; exact ⟨hW.2.1.2.2.2.2.2.1, hW.2.1.2.2.2.2.2.2.1, hW.2.1.2.2.2.2.2.2.2.1⟩
  have hbD : bD T k p q ≤ 4 := by unfold bD; split <;> omega
  have hbB : bB T k p q ≤ 6 := by unfold bB; split <;> omega
  refine Ct.of (own := RX4) mi_X4_builds rfl [some (.ref (g.1 15)), some (.int (nI k)), some (.int (nI x)), some (.int (nI y)), some (.int (nI p)), some (.int (nI q)), none, none, none, none] (Nat.le_of_ble_eq_true rfl) rfl (fun p₀ e₀ s₀ m₀ b₀ h₀ c₀ F => ?_)
  have main : V (GS g) p₀ l e₀ (rmD (1)) s₀ m₀ (List.toArray [.ref (g.1 15), .int (nI k), .int (nI x), .int (nI y), .int (nI p), .int (nI q)]) b₀ h₀ c₀ 10 0 0 (MQ b₀ (Qp (GS g) (BM T n k x y p q μ)) (List.toArray [.ref (g.1 15), .int (nI k), .int (nI x), .int (nI y), .int (nI p), .int (nI q)]) s₀ 0 0 (gA (GS g))) 84 ([some (.ref (g.1 15)), some (.int (nI k)), some (.int (nI x)), some (.int (nI y)), some (.int (nI p)), some (.int (nI q)), some (.int (nI (bD T k p q))), some (.int (nI (bB T k p q))), none, none]) ([]) (μ) := by
    refine V_aload_n F dX4_builds_84 rfl ?_
    refine V_getf F (q0 := 15) (j := 0) lk_X4_7 dX4_builds_85 ig_X4 rfl rfl (by decide) rfl rfl ?_
    refine V_val F (hI.2.1) ?_
    refine V_bipush F (v := nI 24) dX4_builds_88 (by decide) ?_
    have bad : ¬ bFit T n k p q → V (GS g) p₀ l e₀ (rmD (1)) s₀ m₀ (List.toArray [.ref (g.1 15), .int (nI k), .int (nI x), .int (nI y), .int (nI p), .int (nI q)]) b₀ h₀ c₀ 10 0 0 (MQ b₀ (Qp (GS g) (BM T n k x y p q μ)) (List.toArray [.ref (g.1 15), .int (nI k), .int (nI x), .int (nI y), .int (nI p), .int (nI q)]) s₀ 0 0 (gA (GS g))) 105 ([some (.ref (g.1 15)), some (.int (nI k)), some (.int (nI x)), some (.int (nI y)), some (.int (nI p)), some (.int (nI q)), some (.int (nI (bD T k p q))), some (.int (nI (bB T k p q))), none, none]) ([]) (μ) := by
      intro hf
      refine V_bipush F (v := (-3)) dX4_builds_105 (by decide) ?_
      exact V_iret F dX4_builds_107 (Or.inr ⟨hf, rfl, rfl⟩)
    refine V_icmp_eq_N F (tgt := 105) dX4_builds_90 (by decide) (by omega) (by omega) (fun h1 => ?_) (fun h1 => ?_)
    · exact bad (fun hf => by have := hf.1; omega)
    · skip
      refine V_iload F dX4_builds_93 rfl ?_
      refine V_iconst F (v := nI 3) dX4_builds_95 (by decide) ?_
      refine V_icmp_gt_N F (tgt := 105) dX4_builds_96 (by decide) (by omega) (by omega) (fun h2 => ?_) (fun h2 => ?_)
      · exact bad (fun hf => by have := hf.2.1; omega)
      · skip
        refine V_iload F dX4_builds_99 rfl ?_
        refine V_iconst F (v := nI 3) dX4_builds_101 (by decide) ?_
        refine V_icmp_le_N F (tgt := 108) dX4_builds_102 (by decide) (by omega) (by omega) (fun h3 => ?_) (fun h3 => ?_)
        · have hf : bFit T n k p q := ⟨by omega, by omega, h3⟩
          have hn24 : n < 24 := hf.1
          have eN1 : k ≠ 5 → max (T 7 p - (if k = 3 then 1 else 0)) (max (x - 2) (y - 2)) = bN T k x y p q := fun h => by
            have := (hz h).2.2
            unfold bN
            omega
          have eN5 : k = 5 → max (T 7 p) (T 7 q) = bN T k x y p q := fun h => by
            obtain ⟨rfl, rfl⟩ := o9 h
            unfold bN
            rw [if_neg (by omega)]
            omega
          have fin : ∀ add, T 8 p + add = bL T k p q → V (GS g) p₀ l e₀ (rmD (1)) s₀ m₀ (List.toArray [.ref (g.1 15), .int (nI k), .int (nI x), .int (nI y), .int (nI p), .int (nI q)]) b₀ h₀ c₀ 10 0 0 (MQ b₀ (Qp (GS g) (BM T n k x y p q μ)) (List.toArray [.ref (g.1 15), .int (nI k), .int (nI x), .int (nI y), .int (nI p), .int (nI q)]) s₀ 0 0 (gA (GS g))) 330 ([some (.ref (g.1 15)), some (.int (nI k)), some (.int (nI x)), some (.int (nI y)), some (.int (nI p)), some (.int (nI q)), some (.int (nI (bD T k p q))), some (.int (nI (bB T k p q))), some (.int (nI n)), some (.int (nI (T 7 p - (if k = 3 then 1 else 0))))]) ([.int (nI add), .int (nI (T 8 p)), .int (nI n), .ref (g.1 24)]) ((wr (wr (mB7 μ n k x y p q (bD T k p q) (bB T k p q)) 23 n (nI (max (T 7 p - (if k = 3 then 1 else 0)) (max (x - 2) (y - 2))))) 23 n (nI (bN T k x y p q)))) := by
            intro add hadd
            (first | refine V_iaddN F dX4_builds_330 ?_ | refine V_iadd F dX4_builds_330 ?_)
            rw [hadd]
            refine V_ias F dX4_builds_331 rfl rfl (show n < 24 by omega) ?_
            refine V_aload_n F dX4_builds_332 rfl ?_
            refine V_dup F dX4_builds_333 rfl ?_
            refine V_getf F (q0 := 15) (j := 0) lk_X4_7 dX4_builds_334 ig_X4 rfl rfl (by decide) rfl rfl ?_
            refine V_val F ((wr_ne (by omega)).trans ((wr_ne (by omega)).trans ((wr_ne (by omega)).trans (mB7_15.trans hI.2.1)))) ?_
            refine V_iconst F (v := nI 1) dX4_builds_337 (by decide) ?_
            (first | refine V_iaddN F dX4_builds_338 ?_ | refine V_iadd F dX4_builds_338 ?_)
            refine V_pff_15_0 F (host := "") lk_X4_7 dX4_builds_339 ?_
            refine V_iload F dX4_builds_342 rfl ?_
            refine V_iret F dX4_builds_344 (Or.inl ⟨hf, rfl, ⟨bT_wf hW ho hf, wr_eq, fun f j hf9 hj => ?_⟩, ?_⟩)
            · by_cases hjn : j = n
              · subst hjn
                rcases (by omega : f = 0 ∨ f = 1 ∨ f = 2 ∨ f = 3 ∨ f = 4 ∨ f = 5 ∨ f = 6 ∨ f = 7 ∨ f = 8) with rfl | rfl | rfl | rfl | rfl | rfl | rfl | rfl | rfl <;> simp [wr_at, bT, mB7]
              · rw [bT_old hjn]
                unfold mB7
                repeat rw [wr_ne (by omega)]
                exact hI.2.2 f j hf9 (by omega)
            · unfold mB7
              repeat apply sameX.wr _ (by omega)
              exact sameX.rfl' μ
          have at271 : V (GS g) p₀ l e₀ (rmD (1)) s₀ m₀ (List.toArray [.ref (g.1 15), .int (nI k), .int (nI x), .int (nI y), .int (nI p), .int (nI q)]) b₀ h₀ c₀ 10 0 0 (MQ b₀ (Qp (GS g) (BM T n k x y p q μ)) (List.toArray [.ref (g.1 15), .int (nI k), .int (nI x), .int (nI y), .int (nI p), .int (nI q)]) s₀ 0 0 (gA (GS g))) 271 ([some (.ref (g.1 15)), some (.int (nI k)), some (.int (nI x)), some (.int (nI y)), some (.int (nI p)), some (.int (nI q)), some (.int (nI (bD T k p q))), some (.int (nI (bB T k p q))), some (.int (nI n)), some (.int (nI (T 7 p - (if k = 3 then 1 else 0))))]) ([.int (nI (bN T k x y p q)), .int (nI n), .ref (g.1 23)]) ((wr (mB7 μ n k x y p q (bD T k p q) (bB T k p q)) 23 n (nI (max (T 7 p - (if k = 3 then 1 else 0)) (max (x - 2) (y - 2)))))) := by
            refine V_ias F dX4_builds_271 rfl rfl (show n < 24 by omega) ?_
            refine V_aload_n F dX4_builds_272 rfl ?_
            refine V_getf F (q0 := 15) (j := 9) lk_X4_38 dX4_builds_273 ig_X4 rfl rfl (by decide) rfl rfl ?_
            refine V_iload F dX4_builds_276 rfl ?_
            refine V_aload_n F dX4_builds_278 rfl ?_
            refine V_getf F (q0 := 15) (j := 9) lk_X4_38 dX4_builds_279 ig_X4 rfl rfl (by decide) rfl rfl ?_
            refine V_iload F dX4_builds_282 rfl ?_
            refine V_ia F dX4_builds_284 rfl rfl (show p < 24 by omega) ((wr_ne (by omega)).trans ((wr_ne (by omega)).trans ((mB7_ne (by omega)).trans (hI.fld 8 rfl (by omega) o5)))) ?_
            refine V_iload_n F dX4_builds_285 rfl ?_
            refine V_iconst F (v := nI 1) dX4_builds_286 (by decide) ?_
            refine V_icmp_ne_N F (tgt := 294) dX4_builds_287 (by decide) (by omega) (by omega) (fun k1 => ?_) (fun k1 => ?_)
            · skip
              refine V_iload_n F dX4_builds_294 rfl ?_
              refine V_iconst F (v := nI 2) dX4_builds_295 (by decide) ?_
              refine V_icmp_ne_N F (tgt := 303) dX4_builds_296 (by decide) (by omega) (by omega) (fun k2 => ?_) (fun k2 => ?_)
              · skip
                refine V_iload_n F dX4_builds_303 rfl ?_
                refine V_iconst F (v := nI 3) dX4_builds_304 (by decide) ?_
                refine V_icmp_ne_N F (tgt := 312) dX4_builds_305 (by decide) (by omega) (by omega) (fun k3 => ?_) (fun k3 => ?_)
                · skip
                  refine V_iload_n F dX4_builds_312 rfl ?_
                  refine V_iconst F (v := nI 4) dX4_builds_313 (by decide) ?_
                  refine V_icmp_ne_N F (tgt := 321) dX4_builds_314 (by decide) (by omega) (by omega) (fun k4 => ?_) (fun k4 => ?_)
                  · have k5 : k = 5 := by omega
                    refine V_iconst F (v := nI 3) dX4_builds_321 (by decide) ?_
                    refine V_aload_n F dX4_builds_322 rfl ?_
                    refine V_getf F (q0 := 15) (j := 9) lk_X4_38 dX4_builds_323 ig_X4 rfl rfl (by decide) rfl rfl ?_
                    refine V_iload F dX4_builds_326 rfl ?_
                    refine V_ia F dX4_builds_328 rfl rfl (show q < 24 by omega) ((wr_ne (by omega)).trans ((wr_ne (by omega)).trans ((mB7_ne (by omega)).trans (hI.fld 8 rfl (by omega) o6)))) ?_
                    (first | refine V_iaddN F dX4_builds_329 ?_ | refine V_iadd F dX4_builds_329 ?_)
                    exact fin (3 + T 8 q) (by subst k5; simp [bL, hdl]; omega)
                  · have k4 : k = 4 := by omega
                    refine V_iconst F (v := nI 5) dX4_builds_317 (by decide) ?_
                    refine V_goto F (tgt := 330) dX4_builds_318 (by decide) ?_
                    exact fin 5 (by subst k4; simp [bL, hdl]; omega)
                · have k3 : k = 3 := by omega
                  refine V_iconst F (v := nI 3) dX4_builds_308 (by decide) ?_
                  refine V_goto F (tgt := 330) dX4_builds_309 (by decide) ?_
                  exact fin 3 (by subst k3; simp [bL, hdl]; omega)
              · have k2 : k = 2 := by omega
                refine V_iconst F (v := nI 4) dX4_builds_299 (by decide) ?_
                refine V_goto F (tgt := 330) dX4_builds_300 (by decide) ?_
                exact fin 4 (by subst k2; simp [bL, hdl]; omega)
            · have k1 : k = 1 := by omega
              refine V_iconst F (v := nI 2) dX4_builds_290 (by decide) ?_
              refine V_goto F (tgt := 330) dX4_builds_291 (by decide) ?_
              exact fin 2 (by subst k1; simp [bL, hdl]; omega)
          have at208 : V (GS g) p₀ l e₀ (rmD (1)) s₀ m₀ (List.toArray [.ref (g.1 15), .int (nI k), .int (nI x), .int (nI y), .int (nI p), .int (nI q)]) b₀ h₀ c₀ 10 0 0 (MQ b₀ (Qp (GS g) (BM T n k x y p q μ)) (List.toArray [.ref (g.1 15), .int (nI k), .int (nI x), .int (nI y), .int (nI p), .int (nI q)]) s₀ 0 0 (gA (GS g))) 208 ([some (.ref (g.1 15)), some (.int (nI k)), some (.int (nI x)), some (.int (nI y)), some (.int (nI p)), some (.int (nI q)), some (.int (nI (bD T k p q))), some (.int (nI (bB T k p q))), some (.int (nI n)), none]) ([.int (nI (T 7 p - (if k = 3 then 1 else 0)))]) ((mB7 μ n k x y p q (bD T k p q) (bB T k p q))) := by
            refine V_istore F (lv' := [_, _, _, _, _, _, _, _, _, _]) dX4_builds_208 (by decide) rfl rfl ?_
            refine V_aload_n F dX4_builds_210 rfl ?_
            refine V_getf F (q0 := 15) (j := 8) lk_X4_35 dX4_builds_211 ig_X4 rfl rfl (by decide) rfl rfl ?_
            refine V_iload F dX4_builds_214 rfl ?_
            refine V_iload F dX4_builds_216 rfl ?_
            refine V_iload_n F dX4_builds_218 rfl ?_
            refine V_callSi F (c_needed o3) mi_X4_needed ms_X4_needed lk_X4_73 dX4_builds_219 (rmR (by omega)) rfl rfl (by decide) (Nat.le_of_ble_eq_true rfl) ?_
            refine V_iload_n F dX4_builds_222 rfl ?_
            refine V_callSi F (c_needed o4) mi_X4_needed ms_X4_needed lk_X4_73 dX4_builds_223 (rmR (by omega)) rfl rfl (by decide) (Nat.le_of_ble_eq_true rfl) ?_
            refine V_callSi F (c_larger (show x - 2 < 2 ^ 31 by omega) (show y - 2 < 2 ^ 31 by omega)) mi_X4_larger ms_X4_larger lk_X4_69 dX4_builds_226 (rmR (by omega)) rfl rfl (by decide) (Nat.le_of_ble_eq_true rfl) ?_
            refine V_callSi F (c_larger (by omega) (by omega)) mi_X4_larger ms_X4_larger lk_X4_69 dX4_builds_229 (rmR (by omega)) rfl rfl (by decide) (Nat.le_of_ble_eq_true rfl) ?_
            refine V_ias F dX4_builds_232 rfl rfl (show n < 24 by omega) ?_
            refine V_aload_n F dX4_builds_233 rfl ?_
            refine V_getf F (q0 := 15) (j := 8) lk_X4_35 dX4_builds_234 ig_X4 rfl rfl (by decide) rfl rfl ?_
            refine V_iload F dX4_builds_237 rfl ?_
            refine V_iload_n F dX4_builds_239 rfl ?_
            refine V_iconst F (v := nI 5) dX4_builds_240 (by decide) ?_
            refine V_icmp_ne_N F (tgt := 264) dX4_builds_241 (by decide) (by omega) (by omega) (fun k5 => ?_) (fun k5 => ?_)
            · rw [← eN1 k5] at at271
              refine V_aload_n F dX4_builds_264 rfl ?_
              refine V_getf F (q0 := 15) (j := 8) lk_X4_35 dX4_builds_265 ig_X4 rfl rfl (by decide) rfl rfl ?_
              refine V_iload F dX4_builds_268 rfl ?_
              refine V_ia F dX4_builds_270 rfl rfl (show n < 24 by omega) wr_eq ?_
              exact at271
            · have k5 := Classical.not_not.mp k5
              rw [← eN5 k5] at at271
              refine V_aload_n F dX4_builds_244 rfl ?_
              refine V_getf F (q0 := 15) (j := 8) lk_X4_35 dX4_builds_245 ig_X4 rfl rfl (by decide) rfl rfl ?_
              refine V_iload F dX4_builds_248 rfl ?_
              refine V_ia F dX4_builds_250 rfl rfl (show p < 24 by omega) ((wr_ne (by omega)).trans ((mB7_ne (by omega)).trans (hI.fld 7 rfl (by omega) o5))) ?_
              refine V_aload_n F dX4_builds_251 rfl ?_
              refine V_getf F (q0 := 15) (j := 8) lk_X4_35 dX4_builds_252 ig_X4 rfl rfl (by decide) rfl rfl ?_
              refine V_iload F dX4_builds_255 rfl ?_
              refine V_ia F dX4_builds_257 rfl rfl (show q < 24 by omega) ((wr_ne (by omega)).trans ((mB7_ne (by omega)).trans (hI.fld 7 rfl (by omega) o6))) ?_
              refine V_callSi F (c_larger (show T 7 p < 2 ^ 31 by omega) (show T 7 q < 2 ^ 31 by omega)) mi_X4_larger ms_X4_larger lk_X4_69 dX4_builds_258 (rmR (by omega)) rfl rfl (by decide) (Nat.le_of_ble_eq_true rfl) ?_
              refine V_goto F (tgt := 271) dX4_builds_261 (by decide) ?_
              exact at271
          refine V_aload_n F dX4_builds_108 rfl ?_
          refine V_getf F (q0 := 15) (j := 0) lk_X4_7 dX4_builds_109 ig_X4 rfl rfl (by decide) rfl rfl ?_
          refine V_val F (hI.2.1) ?_
          refine V_istore F (lv' := [_, _, _, _, _, _, _, _, _, _]) dX4_builds_112 (by decide) rfl rfl ?_
          refine V_aload_n F dX4_builds_114 rfl ?_
          refine V_getf F (q0 := 15) (j := 1) lk_X4_13 dX4_builds_115 ig_X4 rfl rfl (by decide) rfl rfl ?_
          refine V_iload F dX4_builds_118 rfl ?_
          refine V_iload_n F dX4_builds_120 rfl ?_
          refine V_ias F dX4_builds_121 rfl rfl (show n < 24 by omega) ?_
          refine V_aload_n F dX4_builds_122 rfl ?_
          refine V_getf F (q0 := 15) (j := 2) lk_X4_17 dX4_builds_123 ig_X4 rfl rfl (by decide) rfl rfl ?_
          refine V_iload F dX4_builds_126 rfl ?_
          refine V_iload_n F dX4_builds_128 rfl ?_
          refine V_ias F dX4_builds_129 rfl rfl (show n < 24 by omega) ?_
          refine V_aload_n F dX4_builds_130 rfl ?_
          refine V_getf F (q0 := 15) (j := 3) lk_X4_20 dX4_builds_131 ig_X4 rfl rfl (by decide) rfl rfl ?_
          refine V_iload F dX4_builds_134 rfl ?_
          refine V_iload_n F dX4_builds_136 rfl ?_
          refine V_ias F dX4_builds_137 rfl rfl (show n < 24 by omega) ?_
          refine V_aload_n F dX4_builds_138 rfl ?_
          refine V_getf F (q0 := 15) (j := 4) lk_X4_23 dX4_builds_139 ig_X4 rfl rfl (by decide) rfl rfl ?_
          refine V_iload F dX4_builds_142 rfl ?_
          refine V_iload F dX4_builds_144 rfl ?_
          refine V_ias F dX4_builds_146 rfl rfl (show n < 24 by omega) ?_
          refine V_aload_n F dX4_builds_147 rfl ?_
          refine V_getf F (q0 := 15) (j := 5) lk_X4_26 dX4_builds_148 ig_X4 rfl rfl (by decide) rfl rfl ?_
          refine V_iload F dX4_builds_151 rfl ?_
          refine V_iload F dX4_builds_153 rfl ?_
          refine V_ias F dX4_builds_155 rfl rfl (show n < 24 by omega) ?_
          refine V_aload_n F dX4_builds_156 rfl ?_
          refine V_getf F (q0 := 15) (j := 6) lk_X4_29 dX4_builds_157 ig_X4 rfl rfl (by decide) rfl rfl ?_
          refine V_iload F dX4_builds_160 rfl ?_
          refine V_iload F dX4_builds_162 rfl ?_
          refine V_ias F dX4_builds_164 rfl rfl (show n < 24 by omega) ?_
          refine V_aload_n F dX4_builds_165 rfl ?_
          refine V_getf F (q0 := 15) (j := 7) lk_X4_32 dX4_builds_166 ig_X4 rfl rfl (by decide) rfl rfl ?_
          refine V_iload F dX4_builds_169 rfl ?_
          refine V_iload F dX4_builds_171 rfl ?_
          refine V_ias F dX4_builds_173 rfl rfl (show n < 24 by omega) ?_
          refine V_iload_n F dX4_builds_174 rfl ?_
          refine V_iconst F (v := nI 3) dX4_builds_175 (by decide) ?_
          have e7 : (mB7 μ n k x y p q (bD T k p q) (bB T k p q)).1 23 p = nI (T 7 p) := by unfold mB7; (repeat rw [wr_ne (by omega)]); exact hI.fld 7 rfl (by omega) o5
          refine V_icmp_ne_N F (tgt := 201) dX4_builds_176 (by decide) (by omega) (by omega) (fun k3 => ?_) (fun k3 => ?_)
          · have e : T 7 p - (if k = 3 then 1 else 0) = T 7 p := by rw [if_neg k3]; rfl
            refine V_aload_n F dX4_builds_201 rfl ?_
            refine V_getf F (q0 := 15) (j := 8) lk_X4_35 dX4_builds_202 ig_X4 rfl rfl (by decide) rfl rfl ?_
            refine V_iload F dX4_builds_205 rfl ?_
            refine V_ia F dX4_builds_207 rfl rfl (show p < 24 by omega) e7 ?_
            rw [← e]
            exact at208
          · have k3 := Classical.not_not.mp k3
            refine V_aload_n F dX4_builds_179 rfl ?_
            refine V_getf F (q0 := 15) (j := 8) lk_X4_35 dX4_builds_180 ig_X4 rfl rfl (by decide) rfl rfl ?_
            refine V_iload F dX4_builds_183 rfl ?_
            refine V_ia F dX4_builds_185 rfl rfl (show p < 24 by omega) e7 ?_
            by_cases h0 : T 7 p = 0
            · have e : T 7 p - (if k = 3 then 1 else 0) = T 7 p := by omega
              rw [h0]
              refine V_if_le_t F (tgt := 201) dX4_builds_186 (by decide) (by decide) ?_
              refine V_aload_n F dX4_builds_201 rfl ?_
              refine V_getf F (q0 := 15) (j := 8) lk_X4_35 dX4_builds_202 ig_X4 rfl rfl (by decide) rfl rfl ?_
              refine V_iload F dX4_builds_205 rfl ?_
              refine V_ia F dX4_builds_207 rfl rfl (show p < 24 by omega) e7 ?_
              rw [← e]
              exact at208
            · have e : T 7 p - (if k = 3 then 1 else 0) = T 7 p - 1 := by rw [if_pos k3]
              refine V_if_le_f F (tgt := 201) dX4_builds_186 (by decide) (fun z => by rw [← nI_0] at z; have := (nI_leI (by omega) (by omega)).mp z; omega) ?_
              refine V_aload_n F dX4_builds_189 rfl ?_
              refine V_getf F (q0 := 15) (j := 8) lk_X4_35 dX4_builds_190 ig_X4 rfl rfl (by decide) rfl rfl ?_
              refine V_iload F dX4_builds_193 rfl ?_
              refine V_ia F dX4_builds_195 rfl rfl (show p < 24 by omega) e7 ?_
              refine V_iconst F (v := nI 1) dX4_builds_196 (by decide) ?_
              refine V_isubN F (by omega) dX4_builds_197 ?_
              refine V_goto F (tgt := 208) dX4_builds_198 (by decide) ?_
              rw [← e]
              exact at208
        · exact bad (fun hf => by have := hf.2.2; omega)
  have e5p := hI.fld 5 (p := p) rfl (by omega) o5
  have e6p := hI.fld 6 (p := p) rfl (by omega) o5
  have e5q := hI.fld 5 (p := q) rfl (by omega) o6
  have e6q := hI.fld 6 (p := q) rfl (by omega) o6
  refine V_aload_n F dX4_builds_0 rfl ?_
  refine V_getf F (q0 := 15) (j := 6) lk_X4_29 dX4_builds_1 ig_X4 rfl rfl (by decide) rfl rfl ?_
  refine V_iload F dX4_builds_4 rfl ?_
  refine V_ia F dX4_builds_6 rfl rfl (show p < 24 by omega) e5p ?_
  refine V_iload_n F dX4_builds_7 rfl ?_
  refine V_iconst F (v := nI 4) dX4_builds_8 (by decide) ?_
  refine V_icmp_eq_N F (tgt := 17) dX4_builds_9 (by decide) (by omega) (by omega) (fun k4 => ?_) (fun k4 => ?_)
  · have hb5 : bD T k p q = T 5 p + 0 ∧ bB T k p q = T 6 p := by
      have := hz (by omega)
      unfold bD bB
      rw [if_neg (by omega), if_neg (by omega)]
      omega
    rw [hb5.1, hb5.2] at main
    refine V_iconst F (v := nI 0) dX4_builds_17 (by decide) ?_
    refine V_goto F (tgt := 22) dX4_builds_18 (by decide) ?_
    (first | refine V_iaddN F dX4_builds_22 ?_ | refine V_iadd F dX4_builds_22 ?_)
    refine V_istore F (lv' := [_, _, _, _, _, _, _, _, _, _]) dX4_builds_23 (by decide) rfl rfl ?_
    refine V_iload_n F dX4_builds_25 rfl ?_
    refine V_iconst F (v := nI 4) dX4_builds_26 (by decide) ?_
    refine V_icmp_ne_f F (tgt := 40) dX4_builds_27 (by decide) (congrArg nI k4) ?_
    refine V_aload_n F dX4_builds_30 rfl ?_
    refine V_getf F (q0 := 15) (j := 7) lk_X4_32 dX4_builds_31 ig_X4 rfl rfl (by decide) rfl rfl ?_
    refine V_iload F dX4_builds_34 rfl ?_
    refine V_ia F dX4_builds_36 rfl rfl (show p < 24 by omega) e6p ?_
    refine V_goto F (tgt := 41) dX4_builds_37 (by decide) ?_
    refine V_istore F (lv' := [_, _, _, _, _, _, _, _, _, _]) dX4_builds_41 (by decide) rfl rfl ?_
    refine V_iload_n F dX4_builds_43 rfl ?_
    refine V_iconst F (v := nI 5) dX4_builds_44 (by decide) ?_
    refine V_icmp_ne_t F (tgt := 84) dX4_builds_45 (by decide) (fun z => by have := (nI_eq (by omega) (by omega)).mp z; omega) ?_
    exact main
  · skip
    refine V_iload_n F dX4_builds_12 rfl ?_
    refine V_iconst F (v := nI 5) dX4_builds_13 (by decide) ?_
    refine V_icmp_ne_N F (tgt := 21) dX4_builds_14 (by decide) (by omega) (by omega) (fun k5 => ?_) (fun k5 => ?_)
    · have hb5 : bD T k p q = T 5 p + 1 ∧ bB T k p q = 1 := by
        have := hz k5
        unfold bD bB
        rw [if_pos (by omega), if_pos (by omega)]
        omega
      rw [hb5.1, hb5.2] at main
      refine V_iconst F (v := nI 1) dX4_builds_21 (by decide) ?_
      (first | refine V_iaddN F dX4_builds_22 ?_ | refine V_iadd F dX4_builds_22 ?_)
      refine V_istore F (lv' := [_, _, _, _, _, _, _, _, _, _]) dX4_builds_23 (by decide) rfl rfl ?_
      refine V_iload_n F dX4_builds_25 rfl ?_
      refine V_iconst F (v := nI 4) dX4_builds_26 (by decide) ?_
      refine V_icmp_ne_t F (tgt := 40) dX4_builds_27 (by decide) (fun z => by have := (nI_eq (by omega) (by omega)).mp z; omega) ?_
      refine V_iconst F (v := nI 1) dX4_builds_40 (by decide) ?_
      refine V_istore F (lv' := [_, _, _, _, _, _, _, _, _, _]) dX4_builds_41 (by decide) rfl rfl ?_
      refine V_iload_n F dX4_builds_43 rfl ?_
      refine V_iconst F (v := nI 5) dX4_builds_44 (by decide) ?_
      refine V_icmp_ne_t F (tgt := 84) dX4_builds_45 (by decide) (fun z => by have := (nI_eq (by omega) (by omega)).mp z; omega) ?_
      exact main
    · have k5 := Classical.not_not.mp k5
      have hb5 : bD T k p q = max (T 5 p) (T 5 q) ∧ bB T k p q = T 6 p + T 6 q := by
        unfold bD bB
        rw [if_neg (by omega), if_neg (by omega)]
        exact ⟨rfl, rfl⟩
      rw [hb5.1, hb5.2] at main
      refine V_iconst F (v := nI 0) dX4_builds_17 (by decide) ?_
      refine V_goto F (tgt := 22) dX4_builds_18 (by decide) ?_
      (first | refine V_iaddN F dX4_builds_22 ?_ | refine V_iadd F dX4_builds_22 ?_)
      refine V_istore F (lv' := [_, _, _, _, _, _, _, _, _, _]) dX4_builds_23 (by decide) rfl rfl ?_
      refine V_iload_n F dX4_builds_25 rfl ?_
      refine V_iconst F (v := nI 4) dX4_builds_26 (by decide) ?_
      refine V_icmp_ne_t F (tgt := 40) dX4_builds_27 (by decide) (fun z => by have := (nI_eq (by omega) (by omega)).mp z; omega) ?_
      refine V_iconst F (v := nI 1) dX4_builds_40 (by decide) ?_
      refine V_istore F (lv' := [_, _, _, _, _, _, _, _, _, _]) dX4_builds_41 (by decide) rfl rfl ?_
      refine V_iload_n F dX4_builds_43 rfl ?_
      refine V_iconst F (v := nI 5) dX4_builds_44 (by decide) ?_
      refine V_icmp_ne_f F (tgt := 84) dX4_builds_45 (by decide) (congrArg nI k5) ?_
      refine V_aload_n F dX4_builds_48 rfl ?_
      refine V_getf F (q0 := 15) (j := 6) lk_X4_29 dX4_builds_49 ig_X4 rfl rfl (by decide) rfl rfl ?_
      refine V_iload F dX4_builds_52 rfl ?_
      refine V_ia F dX4_builds_54 rfl rfl (show p < 24 by omega) e5p ?_
      refine V_aload_n F dX4_builds_55 rfl ?_
      refine V_getf F (q0 := 15) (j := 6) lk_X4_29 dX4_builds_56 ig_X4 rfl rfl (by decide) rfl rfl ?_
      refine V_iload F dX4_builds_59 rfl ?_
      refine V_ia F dX4_builds_61 rfl rfl (show q < 24 by omega) e5q ?_
      refine V_callSi F (c_larger (show T 5 p < 2 ^ 31 by omega) (show T 5 q < 2 ^ 31 by omega)) mi_X4_larger ms_X4_larger lk_X4_69 dX4_builds_62 (rmR (by omega)) rfl rfl (by decide) (Nat.le_of_ble_eq_true rfl) ?_
      refine V_istore F (lv' := [_, _, _, _, _, _, _, _, _, _]) dX4_builds_65 (by decide) rfl rfl ?_
      refine V_aload_n F dX4_builds_67 rfl ?_
      refine V_getf F (q0 := 15) (j := 7) lk_X4_32 dX4_builds_68 ig_X4 rfl rfl (by decide) rfl rfl ?_
      refine V_iload F dX4_builds_71 rfl ?_
      refine V_ia F dX4_builds_73 rfl rfl (show p < 24 by omega) e6p ?_
      refine V_aload_n F dX4_builds_74 rfl ?_
      refine V_getf F (q0 := 15) (j := 7) lk_X4_32 dX4_builds_75 ig_X4 rfl rfl (by decide) rfl rfl ?_
      refine V_iload F dX4_builds_78 rfl ?_
      refine V_ia F dX4_builds_80 rfl rfl (show q < 24 by omega) e6q ?_
      (first | refine V_iaddN F dX4_builds_81 ?_ | refine V_iadd F dX4_builds_81 ?_)
      refine V_istore F (lv' := [_, _, _, _, _, _, _, _, _, _]) dX4_builds_82 (by decide) rfl rfl ?_
      exact main
end MODELA

