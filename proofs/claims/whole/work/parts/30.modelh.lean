section MODELH0
variable {T : Tb} {n : Nat}
/-- the table and the relation have not been written -/
def FrG (μ ν : Mem) : Prop := ν.2 = μ.2 ∧ ∀ c i, c < 25 → ν.1 c i = μ.1 c i
theorem FrG.rfl' (μ : Mem) : FrG μ μ := ⟨rfl, fun _ _ _ => rfl⟩
theorem FrG.trans {a b d : Mem} (h : FrG a b) (h2 : FrG b d) : FrG a d := ⟨h2.1.trans h.1, fun c i hc => (h2.2 c i hc).trans (h.2 c i hc)⟩
theorem FrW.g {k : Nat} {a b : Mem} (h : FrW k a b) : FrG a b := ⟨h.1, fun c i hc => h.2 c i (Or.inl hc)⟩
theorem FrL.g {k : Nat} {a b : Mem} (h : FrL a b k) : FrG a b := ⟨h.1, fun c i hc => h.2 c i (Or.inl hc)⟩
theorem FrG.mi {μ ν : Mem} (h : FrG μ ν) (hI : MInv T n μ) : MInv T n ν :=
  ⟨hI.1, by rw [h.2 15 0 (by omega)]; exact hI.2.1, fun f p hf hp => by rw [h.2 _ _ (by omega)]; exact hI.2.2 f p hf hp⟩
theorem FrG.sx {μ ν : Mem} (h : FrG μ ν) : sameX μ ν := ⟨fun c hc => by funext i; exact h.2 c i (by omega), h.1⟩
def sdN (T : Tb) (rel p q : Nat) : Nat := if rnd T rel p q = 4 then 0 else rnd T rel p q
def PEQ (T : Tb) (n : Nat) (μ : Mem) (p q rel : Int32) : Option Value → Mem → Prop := fun ret μ' => ret = some (.int (rPair (fun _ _ _ => nI 0) T n p q rel)) ∧ MInv T n μ' ∧ sameX μ μ' ∧ (¬ rPair (fun _ _ _ => nI 0) T n p q rel < 0 → μ'.1 15 18 = rel)
theorem nms_mod (rel a : Nat) (r : List Nat) : nms T rel a r = (List.range (mhi T rel a r + 1 - mlo T rel a r)).map (fun i => nmv T rel a (mlo T rel a r + i)) := by
  by_cases h : T 0 a = 3 ∧ rel = 1
  · have e1 : mlo T rel a r = 0 := by unfold mlo; rw [if_pos h.1, if_pos h.2]
    have e2 : mhi T rel a r = fr r := by unfold mhi; rw [if_pos h]
    rw [e1, e2]
    unfold nms nmv
    simp [h]
  · have e2 : mhi T rel a r = mlo T rel a r := by unfold mhi; rw [if_neg h]
    rw [e2]
    unfold nms nmv
    rw [if_neg h, show mlo T rel a r + 1 - mlo T rel a r = 1 by omega]
    simp [List.range_succ, h]
theorem range_map_succ' {α : Type} (e : Nat) (f : Nat → α) : (List.range (e + 1)).map f = f 0 :: (List.range e).map (fun i => f (i + 1)) := by
  rw [List.range_succ_eq_map, List.map_cons, List.map_map]
  rfl
end MODELH0
section MODELH
variable {g : Gm} {l : Launch} {μ : Mem} {T : Tb} {n : Nat}
theorem c_wins {rel k p q : Nat} {r : List Nat} (hI : MInv T n μ) (hk : 1 ≤ k ∧ k ≤ 3) (hp : p < n) (hq : q < n) (hrel : rel < 3) (hl : lok r) (hlen : r.length + k ≤ 3) (hL : Lv T rel k p q r μ) : Ct (GS g) l (9) yX4_wins cX4_wins 2 (some .boolean) [.ref (g.1 15), .int (nI k)] μ ((fun ret μ' => ret = some (.int (nI (if win T rel k p q r = true then 1 else 0))) ∧ FrW k μ μ')) := by
  refine Ct.of (own := RX4) mi_X4_wins rfl [some (.ref (g.1 15)), some (.int (nI k))] (Nat.le_of_ble_eq_true rfl) rfl (fun p₀ e₀ s₀ m₀ b₀ h₀ c₀ F => ?_)
  refine V_iload_n F dX4_wins_0 rfl ?_
  refine V_iconst F (v := nI 1) dX4_wins_1 (by decide) ?_
  rcases (by omega : k = 1 ∨ k = 2 ∨ k = 3) with rfl | rfl | rfl
  · skip
    refine V_icmp_ne_f F (tgt := 12) dX4_wins_2 (by decide) (rfl) ?_
    refine V_aload_n F dX4_wins_5 rfl ?_
    refine V_callV F (q0 := 15) (c_wins1 hI hp hq hrel hl hlen hL) mi_X4_wins1 mm_X4_wins1 lk_X4_131 dX4_wins_6 (rmR (by omega)) rfl rfl (by decide) (Nat.le_of_ble_eq_true rfl) rfl rfl rfl (fun r μ' h => ?_)
    obtain ⟨rfl, hF⟩ := h
    refine V_goto F (tgt := 28) dX4_wins_9 (by decide) ?_
    exact V_zret F dX4_wins_28 (nar_b _) ⟨rfl, hF⟩
  · skip
    refine V_icmp_ne_t F (tgt := 12) dX4_wins_2 (by decide) (by decide) ?_
    refine V_iload_n F dX4_wins_12 rfl ?_
    refine V_iconst F (v := nI 2) dX4_wins_13 (by decide) ?_
    refine V_icmp_ne_f F (tgt := 24) dX4_wins_14 (by decide) (rfl) ?_
    refine V_aload_n F dX4_wins_17 rfl ?_
    refine V_callV F (q0 := 15) (c_wins2 hI hp hq hrel hl hlen hL) mi_X4_wins2 mm_X4_wins2 lk_X4_141 dX4_wins_18 (rmR (by omega)) rfl rfl (by decide) (Nat.le_of_ble_eq_true rfl) rfl rfl rfl (fun r μ' h => ?_)
    obtain ⟨rfl, hF⟩ := h
    refine V_goto F (tgt := 28) dX4_wins_21 (by decide) ?_
    exact V_zret F dX4_wins_28 (nar_b _) ⟨rfl, hF⟩
  · skip
    refine V_icmp_ne_t F (tgt := 12) dX4_wins_2 (by decide) (by decide) ?_
    refine V_iload_n F dX4_wins_12 rfl ?_
    refine V_iconst F (v := nI 2) dX4_wins_13 (by decide) ?_
    refine V_icmp_ne_t F (tgt := 24) dX4_wins_14 (by decide) (by decide) ?_
    refine V_aload_n F dX4_wins_24 rfl ?_
    refine V_callV F (q0 := 15) (c_wins3 hI hp hq hrel hl hlen hL) mi_X4_wins3 mm_X4_wins3 lk_X4_147 dX4_wins_25 (rmR (by omega)) rfl rfl (by decide) (Nat.le_of_ble_eq_true rfl) rfl rfl rfl (fun r μ' h => ?_)
    obtain ⟨rfl, hF⟩ := h
    exact V_zret F dX4_wins_28 (nar_b _) ⟨rfl, hF⟩
theorem c_holds {rel j p q s m v x : Nat} {r : List Nat} (hI : MInv T n μ) (hj : j < 3) (hp : p < n) (hq : q < n) (hrel : rel < 3) (hl : lok r) (hlen : r.length + (j + 1) ≤ 3) (hs : s < 2) (hL : Lv T rel (j + 1) p q r μ) (hx : (mvs T (psd p q s) r)[m]? = some x) (hv1 : mlo T rel x r ≤ v) (hv2 : v ≤ mhi T rel x r) : Ct (GS g) l (8) yX4_holds cX4_holds 5 (some .boolean) [.ref (g.1 15), .int (nI (j + 1)), .int (nI s), .int (nI m), .int (nI v)] μ ((fun ret μ' => ret = some (.int (nI (if hld T rel j x (nmv T rel x v) (psd p q (1 - s)) r = true then 1 else 0))) ∧ FrW (j + 1) μ μ')) := by
  refine Ct.of (own := RX4) mi_X4_holds rfl [some (.ref (g.1 15)), some (.int (nI (j + 1))), some (.int (nI s)), some (.int (nI m)), some (.int (nI v))] (Nat.le_of_ble_eq_true rfl) rfl (fun p₀ e₀ s₀ m₀ b₀ h₀ c₀ F => ?_)
  refine V_iload_n F dX4_holds_0 rfl ?_
  refine V_iconst F (v := nI 1) dX4_holds_1 (by decide) ?_
  rcases (by omega : j = 0 ∨ j = 1 ∨ j = 2) with rfl | rfl | rfl
  · skip
    refine V_icmp_ne_f F (tgt := 16) dX4_holds_2 (by decide) (rfl) ?_
    refine V_aload_n F dX4_holds_5 rfl ?_
    refine V_iload_n F dX4_holds_6 rfl ?_
    refine V_iload_n F dX4_holds_7 rfl ?_
    refine V_iload F dX4_holds_8 rfl ?_
    refine V_callV F (q0 := 15) (c_holds1 (rel := rel) (p := p) (q := q) (x := x) (r := r) hI hp hq hrel hl hlen hs hL hx hv1 hv2) mi_X4_holds1 mm_X4_holds1 lk_X4_121 dX4_holds_10 (rmR (by omega)) rfl rfl (by decide) (Nat.le_of_ble_eq_true rfl) rfl rfl rfl (fun r μ' h => ?_)
    obtain ⟨rfl, hF⟩ := h
    refine V_goto F (tgt := 40) dX4_holds_13 (by decide) ?_
    exact V_zret F dX4_holds_40 (nar_b _) ⟨rfl, hF⟩
  · skip
    refine V_icmp_ne_t F (tgt := 16) dX4_holds_2 (by decide) (by decide) ?_
    refine V_iload_n F dX4_holds_16 rfl ?_
    refine V_iconst F (v := nI 2) dX4_holds_17 (by decide) ?_
    refine V_icmp_ne_f F (tgt := 32) dX4_holds_18 (by decide) (rfl) ?_
    refine V_aload_n F dX4_holds_21 rfl ?_
    refine V_iload_n F dX4_holds_22 rfl ?_
    refine V_iload_n F dX4_holds_23 rfl ?_
    refine V_iload F dX4_holds_24 rfl ?_
    refine V_callV F (q0 := 15) (c_holds2 (rel := rel) (p := p) (q := q) (x := x) (r := r) hI hp hq hrel hl hlen hs hL hx hv1 hv2) mi_X4_holds2 mm_X4_holds2 lk_X4_135 dX4_holds_26 (rmR (by omega)) rfl rfl (by decide) (Nat.le_of_ble_eq_true rfl) rfl rfl rfl (fun r μ' h => ?_)
    obtain ⟨rfl, hF⟩ := h
    refine V_goto F (tgt := 40) dX4_holds_29 (by decide) ?_
    exact V_zret F dX4_holds_40 (nar_b _) ⟨rfl, hF⟩
  · skip
    refine V_icmp_ne_t F (tgt := 16) dX4_holds_2 (by decide) (by decide) ?_
    refine V_iload_n F dX4_holds_16 rfl ?_
    refine V_iconst F (v := nI 2) dX4_holds_17 (by decide) ?_
    refine V_icmp_ne_t F (tgt := 32) dX4_holds_18 (by decide) (by decide) ?_
    refine V_aload_n F dX4_holds_32 rfl ?_
    refine V_iload_n F dX4_holds_33 rfl ?_
    refine V_iload_n F dX4_holds_34 rfl ?_
    refine V_iload F dX4_holds_35 rfl ?_
    refine V_callV F (q0 := 15) (c_holds3 (rel := rel) (p := p) (q := q) (x := x) (r := r) hI hp hq hrel hl hlen hs hL hx hv1 hv2) mi_X4_holds3 mm_X4_holds3 lk_X4_144 dX4_holds_37 (rmR (by omega)) rfl rfl (by decide) (Nat.le_of_ble_eq_true rfl) rfl rfl rfl (fun r μ' h => ?_)
    obtain ⟨rfl, hF⟩ := h
    exact V_zret F dX4_holds_40 (nar_b _) ⟨rfl, hF⟩
theorem c_starts {rel k p q : Nat} (hI : MInv T n μ) (hk : k ≤ 3) (hp : p < n) (hq : q < n) (hR : μ.1 15 18 = nI rel) : Ct (GS g) l (2) yX4_starts cX4_starts 4 none [.ref (g.1 15), .int (nI k), .int (nI p), .int (nI q)] μ ((fun ret μ' => ret = none ∧ FrG μ μ' ∧ Lv T rel k p q [] μ')) := by
  have l1 := mvs_len hI.1 hp []
  refine Ct.of (own := RX4) mi_X4_starts rfl [some (.ref (g.1 15)), some (.int (nI k)), some (.int (nI p)), some (.int (nI q))] (Nat.le_of_ble_eq_true rfl) rfl (fun p₀ e₀ s₀ m₀ b₀ h₀ c₀ F => ?_)
  refine V_aload_n F dX4_starts_0 rfl ?_
  refine V_iconst F (v := nI 2) dX4_starts_1 (by decide) ?_
  refine V_iload_n F dX4_starts_2 rfl ?_
  (first | refine V_imulN F dX4_starts_3 ?_ | refine V_imul F dX4_starts_3 ?_)
  refine V_iload_n F dX4_starts_4 rfl ?_
  refine V_iconst F (v := nI 0) dX4_starts_5 (by decide) ?_
  refine V_callV F (q0 := 15) (c_lists (at_ := 2 * k) (p₁ := p) (r := []) hI (by omega) hp trivial (by simp)) mi_X4_lists mm_X4_lists lk_X4_100 dX4_starts_6 (rmR (by omega)) rfl rfl (by decide) (Nat.le_of_ble_eq_true rfl) rfl rfl rfl (fun r μ' h => ?_)
  obtain ⟨rfl, hF1, hL1⟩ := h
  refine V_aload_n F dX4_starts_9 rfl ?_
  refine V_iconst F (v := nI 2) dX4_starts_10 (by decide) ?_
  refine V_iload_n F dX4_starts_11 rfl ?_
  (first | refine V_imulN F dX4_starts_12 ?_ | refine V_imul F dX4_starts_12 ?_)
  refine V_iconst F (v := nI 1) dX4_starts_13 (by decide) ?_
  (first | refine V_iaddN F dX4_starts_14 ?_ | refine V_iadd F dX4_starts_14 ?_)
  refine V_iload_n F dX4_starts_15 rfl ?_
  refine V_iconst F (v := nI 0) dX4_starts_16 (by decide) ?_
  refine V_callV F (q0 := 15) (c_lists (at_ := 2 * k + 1) (p₁ := q) (r := []) (hF1.mi hI) (by omega) hq trivial (by simp)) mi_X4_lists mm_X4_lists lk_X4_100 dX4_starts_17 (rmR (by omega)) rfl rfl (by decide) (Nat.le_of_ble_eq_true rfl) rfl rfl rfl (fun r μ' h => ?_)
  obtain ⟨rfl, hF2, hL2⟩ := h
  refine V_aload_n F dX4_starts_20 rfl ?_
  refine V_getf F (q0 := 15) (j := 16) lk_X4_59 dX4_starts_21 ig_X4 rfl rfl (by decide) rfl rfl ?_
  refine V_iload_n F dX4_starts_24 rfl ?_
  refine V_iconst F (v := nI 0) dX4_starts_25 (by decide) ?_
  refine V_ias F dX4_starts_26 rfl (rfl) ((show k < 4 by omega)) ?_
  have hG := hF1.g.trans hF2.g
  refine V_vret F dX4_starts_27 ⟨rfl, ⟨hG.1, fun c i hc => by rw [wr_ne (by omega)]; exact hG.2 c i hc⟩, (hL1.ofL hF2 (by omega) l1).wr31, hL2.wr31, wr_eq, ?_⟩
  rw [wr_ne (by omega), hG.2 _ _ (by omega)]
  exact hR
theorem c_separated {rel p q : Nat} (hI : MInv T n μ) (hp : p < n) (hq : q < n) (hrel : rel < 3) (hR : μ.1 15 18 = nI rel) : Ct (GS g) l (10) yX4_separated cX4_separated 4 (some .int) [.ref (g.1 15), .int (nI p), .int (nI q)] μ ((fun ret μ' => ret = some (.int (nI (sdN T rel p q))) ∧ FrG μ μ')) := by
  refine Ct.of (own := RX4) mi_X4_separated rfl [some (.ref (g.1 15)), some (.int (nI p)), some (.int (nI q)), none] (Nat.le_of_ble_eq_true rfl) rfl (fun p₀ e₀ s₀ m₀ b₀ h₀ c₀ F => ?_)
  have loop : ∀ (d k : Nat) (ν : Mem), k + d = 4 → 1 ≤ k → (∀ j, j < k → win T rel j p q [] = false) → FrG μ ν → V (GS g) p₀ l e₀ (rmD (10)) s₀ m₀ (List.toArray [.ref (g.1 15), .int (nI p), .int (nI q)]) b₀ h₀ c₀ 4 0 0 (MQ b₀ (Qp (GS g) ((fun ret μ' => ret = some (.int (nI (sdN T rel p q))) ∧ FrG μ μ'))) (List.toArray [.ref (g.1 15), .int (nI p), .int (nI q)]) s₀ 0 0 (gA (GS g))) 2 ([some (.ref (g.1 15)), some (.int (nI p)), some (.int (nI q)), some (.int (nI k))]) ([]) (ν) := by
    intro d
    induction d with
    | zero =>
      intro k ν hk h1 hall hF
      refine V_iload_n F dX4_separated_2 rfl ?_
      refine V_iconst F (v := nI 4) dX4_separated_3 (by decide) ?_
      refine V_icmp_ge_N F (tgt := 30) dX4_separated_4 (by decide) (by omega) (by omega) (fun hc => ?_) (fun hc => ?_)
      · skip
        refine V_iconst F (v := nI 0) dX4_separated_30 (by decide) ?_
        refine V_iret F dX4_separated_31 ⟨?_, hF⟩
        have e : rnd T rel p q = 4 := by
          unfold rnd
          rw [hall 1 (by omega), hall 2 (by omega), hall 3 (by omega)]
          rfl
        unfold sdN
        rw [if_pos e]
      · omega
    | succ d ih =>
      intro k ν hk h1 hall hF
      refine V_iload_n F dX4_separated_2 rfl ?_
      refine V_iconst F (v := nI 4) dX4_separated_3 (by decide) ?_
      refine V_icmp_ge_N F (tgt := 30) dX4_separated_4 (by decide) (by omega) (by omega) (fun hc => ?_) (fun hc => ?_)
      · omega
      · skip
        refine V_aload_n F dX4_separated_7 rfl ?_
        refine V_iload_n F dX4_separated_8 rfl ?_
        refine V_iload_n F dX4_separated_9 rfl ?_
        refine V_iload_n F dX4_separated_10 rfl ?_
        refine V_callV F (q0 := 15) (c_starts (rel := rel) (k := k) (p := p) (q := q) (hF.mi hI) (by omega) hp hq (by rw [hF.2 _ _ (by omega)]; exact hR)) mi_X4_starts mm_X4_starts lk_X4_150 dX4_separated_11 (rmR (by omega)) rfl rfl (by decide) (Nat.le_of_ble_eq_true rfl) rfl rfl rfl (fun r μ' h => ?_)
        obtain ⟨rfl, hF1, hL1⟩ := h
        refine V_aload_n F dX4_separated_14 rfl ?_
        refine V_iload_n F dX4_separated_15 rfl ?_
        refine V_callV F (q0 := 15) (c_wins (rel := rel) (k := k) (p := p) (q := q) (r := []) ((hF.trans hF1).mi hI) (by omega) hp hq hrel trivial (by simp only [List.length_nil]; omega) hL1) mi_X4_wins mm_X4_wins lk_X4_153 dX4_separated_16 (rmR (by omega)) rfl rfl (by decide) (Nat.le_of_ble_eq_true rfl) rfl rfl rfl (fun r μ' h => ?_)
        obtain ⟨rfl, hF2⟩ := h
        by_cases hw : win T rel k p q [] = true
        · rw [if_pos hw]
          refine V_if_eq_f F (tgt := 24) dX4_separated_19 (by decide) (by decide) ?_
          refine V_iload_n F dX4_separated_22 rfl ?_
          refine V_iret F dX4_separated_23 ⟨?_, (hF.trans hF1).trans hF2.g⟩
          have e : rnd T rel p q = k := by
            unfold rnd
            rcases (by omega : k = 1 ∨ k = 2 ∨ k = 3) with rfl | rfl | rfl
            · rw [if_pos hw]
            · rw [hall 1 (by omega), if_pos hw]
              rfl
            · rw [hall 1 (by omega), hall 2 (by omega), if_pos hw]
              rfl
          unfold sdN
          rw [e, if_neg (by omega)]
        · rw [if_neg hw]
          refine V_if_eq_t F (tgt := 24) dX4_separated_19 (by decide) (by decide) ?_
          refine V_iinc F (lv' := [_, _, _, _]) dX4_separated_24 rfl (by decide) rfl rfl ?_
          refine V_goto F (tgt := 2) dX4_separated_27 (by decide) ?_
          rw [show nI k + Int32.ofInt 1 = nI (k + 1) from nI_1 k]
          refine ih (k + 1) _ (by omega) (by omega) (fun j hj => ?_) ((hF.trans hF1).trans hF2.g)
          by_cases hjk : j = k
          · subst hjk
            rw [← Bool.not_eq_true]
            exact hw
          · exact hall j (by omega)
  refine V_iconst F (v := nI 1) dX4_separated_0 (by decide) ?_
  refine V_istore_n F (lv' := [_, _, _, _]) dX4_separated_1 (by decide) rfl rfl ?_
  exact loop 3 1 μ rfl (Nat.le_refl _) (fun j hj => by rw [show j = 0 by omega]; rfl) (FrG.rfl' μ)
theorem c_pairError (hI : MInv T n μ) (p q rel : Int32) : Ct (GS g) l (2) yX4_pairError cX4_pairError 4 (some .int) [.ref (g.1 15), .int p, .int q, .int rel] μ (PEQ T n μ p q rel) := by
  have hn := hI.n24
  refine Ct.of (own := RX4) mi_X4_pairError rfl [some (.ref (g.1 15)), some (.int p), some (.int q), some (.int rel)] (Nat.le_of_ble_eq_true rfl) rfl (fun p₀ e₀ s₀ m₀ b₀ h₀ c₀ F => ?_)
  refine V_aload_n F dX4_pairError_0 rfl ?_
  refine V_iload_n F dX4_pairError_1 rfl ?_
  cases h1 : pj n p with
  | none =>
    have e : rPair (fun _ _ _ => nI 0) T n p q rel = -1 := by unfold rPair; rw [h1]
    refine V_callVi F (q0 := 15) (c_isProc_f hI.2.1 (by omega) (by omega) (pj_none h1 (by omega))) mi_X4_isProcess mm_X4_isProcess lk_X4_77 dX4_pairError_2 (rmR (by omega)) rfl rfl (by decide) (Nat.le_of_ble_eq_true rfl) rfl rfl rfl ?_
    refine V_if_eq_t F (tgt := 25) dX4_pairError_5 (by decide) (by decide) ?_
    refine V_iconst F (v := (-1)) dX4_pairError_25 (by decide) ?_
    exact V_iret F dX4_pairError_26 (⟨by rw [e], hI, sameX.rfl' μ, fun z => absurd (by rw [e]; decide) z⟩)
  | some i =>
    obtain ⟨hi, rfl⟩ := pj_some h1 (by omega)
    refine V_callVi F (q0 := 15) (c_isProc_t hI.2.1 (by omega) hi) mi_X4_isProcess mm_X4_isProcess lk_X4_77 dX4_pairError_2 (rmR (by omega)) rfl rfl (by decide) (Nat.le_of_ble_eq_true rfl) rfl rfl rfl ?_
    refine V_if_eq_f F (tgt := 25) dX4_pairError_5 (by decide) (by decide) ?_
    refine V_aload_n F dX4_pairError_8 rfl ?_
    refine V_iload_n F dX4_pairError_9 rfl ?_
    cases h2 : pj n q with
    | none =>
      have e : rPair (fun _ _ _ => nI 0) T n (nI i) q rel = -1 := by unfold rPair; rw [h1]; simp only [h2]
      refine V_callVi F (q0 := 15) (c_isProc_f hI.2.1 (by omega) (by omega) (pj_none h2 (by omega))) mi_X4_isProcess mm_X4_isProcess lk_X4_77 dX4_pairError_10 (rmR (by omega)) rfl rfl (by decide) (Nat.le_of_ble_eq_true rfl) rfl rfl rfl ?_
      refine V_if_eq_t F (tgt := 25) dX4_pairError_13 (by decide) (by decide) ?_
      refine V_iconst F (v := (-1)) dX4_pairError_25 (by decide) ?_
      exact V_iret F dX4_pairError_26 (⟨by rw [e], hI, sameX.rfl' μ, fun z => absurd (by rw [e]; decide) z⟩)
    | some j =>
      obtain ⟨hj, rfl⟩ := pj_some h2 (by omega)
      refine V_callVi F (q0 := 15) (c_isProc_t hI.2.1 (by omega) hj) mi_X4_isProcess mm_X4_isProcess lk_X4_77 dX4_pairError_10 (rmR (by omega)) rfl rfl (by decide) (Nat.le_of_ble_eq_true rfl) rfl rfl rfl ?_
      refine V_if_eq_f F (tgt := 25) dX4_pairError_13 (by decide) (by decide) ?_
      refine V_iload_n F dX4_pairError_16 rfl ?_
      refine V_iconst F (v := nI 0) dX4_pairError_17 (by decide) ?_
      refine V_iconst F (v := nI 2) dX4_pairError_18 (by decide) ?_
      cases h3 : pj 3 rel with
      | none =>
        have e : rPair (fun _ _ _ => nI 0) T n (nI i) (nI j) rel = -1 := by unfold rPair; rw [h1]; simp only [h2, h3]
        refine V_callSi F (c_in_f (m := 3) (by omega) (by omega) (pj_none h3 (by omega))) mi_X4_in ms_X4_in lk_X4_65 dX4_pairError_19 (rmR (by omega)) rfl rfl (by decide) (Nat.le_of_ble_eq_true rfl) ?_
        refine V_if_ne_f F (tgt := 27) dX4_pairError_22 (by decide) (by decide) ?_
        refine V_iconst F (v := (-1)) dX4_pairError_25 (by decide) ?_
        exact V_iret F dX4_pairError_26 (⟨by rw [e], hI, sameX.rfl' μ, fun z => absurd (by rw [e]; decide) z⟩)
      | some k =>
        obtain ⟨hk, rfl⟩ := pj_some h3 (by omega)
        have e : rPair (fun _ _ _ => nI 0) T n (nI i) (nI j) (nI k) = if T 7 i = 0 ∧ T 7 j = 0 then nI 0 else -2 := by unfold rPair; rw [h1]; simp only [h2, h3]
        have n1 := hI.1.need hi
        have n2 := hI.1.need hj
        have hM : MInv T n (wr μ 15 18 (nI k)) := ⟨hI.1, by rw [wr_ne (by omega)]; exact hI.2.1, fun f z hf hz => by rw [wr_ne (by omega)]; exact hI.2.2 f z hf hz⟩
        have hS : sameX μ (wr μ 15 18 (nI k)) := (sameX.rfl' μ).wr (by omega)
        refine V_callSi F (c_in_t (Nat.zero_le k) (show k ≤ 2 by omega) (by omega)) mi_X4_in ms_X4_in lk_X4_65 dX4_pairError_19 (rmR (by omega)) rfl rfl (by decide) (Nat.le_of_ble_eq_true rfl) ?_
        refine V_if_ne_t F (tgt := 27) dX4_pairError_22 (by decide) (by decide) ?_
        refine V_aload_n F dX4_pairError_27 rfl ?_
        refine V_iload_n F dX4_pairError_28 rfl ?_
        refine V_pff_15_18 F (host := "") lk_X4_107 dX4_pairError_29 ?_
        refine V_aload_n F dX4_pairError_32 rfl ?_
        refine V_getf F (q0 := 15) (j := 8) lk_X4_35 dX4_pairError_33 ig_X4 rfl rfl (by decide) rfl rfl ?_
        refine V_iload_n F dX4_pairError_36 rfl ?_
        refine V_ia F dX4_pairError_37 rfl (rfl) ((show i < 24 by omega)) ((hM.fld 7 rfl (by omega) hi)) ?_
        by_cases z1 : T 7 i = 0
        · rw [z1]
          refine V_if_gt_f F (tgt := 50) dX4_pairError_38 (by decide) (by decide) ?_
          refine V_aload_n F dX4_pairError_41 rfl ?_
          refine V_getf F (q0 := 15) (j := 8) lk_X4_35 dX4_pairError_42 ig_X4 rfl rfl (by decide) rfl rfl ?_
          refine V_iload_n F dX4_pairError_45 rfl ?_
          refine V_ia F dX4_pairError_46 rfl (rfl) ((show j < 24 by omega)) ((hM.fld 7 rfl (by omega) hj)) ?_
          by_cases z2 : T 7 j = 0
          · rw [z2]
            rw [if_pos ⟨z1, z2⟩] at e
            refine V_if_le_t F (tgt := 55) dX4_pairError_47 (by decide) (by decide) ?_
            refine V_iconst F (v := nI 0) dX4_pairError_55 (by decide) ?_
            exact V_iret F dX4_pairError_56 (⟨by rw [e], hM, hS, fun _ => wr_eq⟩)
          · rw [if_neg (fun z => z2 z.2)] at e
            refine V_if_le_f F (tgt := 55) dX4_pairError_47 (by decide) (fun z => by rw [← nI_0] at z; have := (nI_leI (by omega) (by omega)).mp z; omega) ?_
            refine V_bipush F (v := (-2)) dX4_pairError_50 (by decide) ?_
            refine V_goto F (tgt := 56) dX4_pairError_52 (by decide) ?_
            exact V_iret F dX4_pairError_56 (⟨by rw [e], hM, hS, fun _ => wr_eq⟩)
        · rw [if_neg (fun z => z1 z.1)] at e
          refine V_if_gt_t F (tgt := 50) dX4_pairError_38 (by decide) (by rw [← nI_0]; exact (nI_ltI (by omega) (by omega)).mpr (by omega)) ?_
          refine V_bipush F (v := (-2)) dX4_pairError_50 (by decide) ?_
          refine V_goto F (tgt := 56) dX4_pairError_52 (by decide) ?_
          exact V_iret F dX4_pairError_56 (⟨by rw [e], hM, hS, fun _ => wr_eq⟩)
theorem c_mareRelated (hI : MInv T n μ) (p q rel : Int32) : Ct (GS g) l (11) yX4_areRelated cX4_areRelated 5 (some .int) [.ref (g.1 15), .int p, .int q, .int rel] μ (MQA T n μ (rPair (fRel T) T n p q rel)) := by
  have hn := hI.n24
  refine Ct.of (own := RX4) mi_X4_areRelated rfl [some (.ref (g.1 15)), some (.int p), some (.int q), some (.int rel), none] (Nat.le_of_ble_eq_true rfl) rfl (fun p₀ e₀ s₀ m₀ b₀ h₀ c₀ F => ?_)
  refine V_aload_n F dX4_areRelated_0 rfl ?_
  refine V_iload_n F dX4_areRelated_1 rfl ?_
  refine V_iload_n F dX4_areRelated_2 rfl ?_
  refine V_iload_n F dX4_areRelated_3 rfl ?_
  refine V_callV F (q0 := 15) (c_pairError hI p q rel) mi_X4_pairError mm_X4_pairError lk_X4_156 dX4_areRelated_4 (rmR (by omega)) rfl rfl (by decide) (Nat.le_of_ble_eq_true rfl) rfl rfl rfl (fun r μ' h => ?_)
  obtain ⟨rfl, hM, hS, hR⟩ := h
  refine V_istore F (lv' := [_, _, _, _, _]) dX4_areRelated_7 (by decide) rfl rfl ?_
  refine V_iload F dX4_areRelated_9 rfl ?_
  rcases rPair_cases (fRel T) T (show n < 2 ^ 31 by omega) p q rel with ⟨h1, h2⟩ | ⟨i, j, k, hi, hj, hk, rfl, rfl, rfl, z1, z2, h1, h2⟩
  · skip
    refine V_if_ge_f F (tgt := 19) dX4_areRelated_11 (by decide) (fun z => Int32.not_lt.mpr z h1) ?_
    refine V_iload F dX4_areRelated_14 rfl ?_
    refine V_goto F (tgt := 33) dX4_areRelated_16 (by decide) ?_
    exact V_iret F dX4_areRelated_33 (⟨by rw [h2], hM, hS⟩)
  · rw [h1] at hR ⊢
    rw [h2]
    have hr := rnd_le (T := T) k i j
    refine V_if_ge_t F (tgt := 19) dX4_areRelated_11 (by decide) (by decide) ?_
    refine V_aload_n F dX4_areRelated_19 rfl ?_
    refine V_iload_n F dX4_areRelated_20 rfl ?_
    refine V_iload_n F dX4_areRelated_21 rfl ?_
    refine V_callV F (q0 := 15) (c_separated (rel := k) (p := i) (q := j) hM hi hj hk (hR (by decide))) mi_X4_separated mm_X4_separated lk_X4_159 dX4_areRelated_22 (rmR (by omega)) rfl rfl (by decide) (Nat.le_of_ble_eq_true rfl) rfl rfl rfl (fun r μ' h => ?_)
    obtain ⟨rfl, hF⟩ := h
    unfold fRel sdN
    by_cases h4 : rnd T k i j = 4
    · rw [if_pos h4, if_pos h4]
      refine V_if_ne_f F (tgt := 32) dX4_areRelated_25 (by decide) (by decide) ?_
      refine V_iconst F (v := nI 1) dX4_areRelated_28 (by decide) ?_
      refine V_goto F (tgt := 33) dX4_areRelated_29 (by decide) ?_
      exact V_iret F dX4_areRelated_33 (⟨rfl, hF.mi hM, hS.trans hF.sx⟩)
    · rw [if_neg h4, if_neg h4]
      refine V_if_ne_t F (tgt := 32) dX4_areRelated_25 (by decide) (nI_nz (by omega) (by omega)) ?_
      refine V_iconst F (v := nI 0) dX4_areRelated_32 (by decide) ?_
      exact V_iret F dX4_areRelated_33 (⟨rfl, hF.mi hM, hS.trans hF.sx⟩)
theorem c_mrounds (hI : MInv T n μ) (p q rel : Int32) : Ct (GS g) l (11) yX4_rounds cX4_rounds 6 (some .int) [.ref (g.1 15), .int p, .int q, .int rel] μ (MQA T n μ (rPair (fRnd T) T n p q rel)) := by
  have hn := hI.n24
  refine Ct.of (own := RX4) mi_X4_rounds rfl [some (.ref (g.1 15)), some (.int p), some (.int q), some (.int rel), none, none] (Nat.le_of_ble_eq_true rfl) rfl (fun p₀ e₀ s₀ m₀ b₀ h₀ c₀ F => ?_)
  refine V_aload_n F dX4_rounds_0 rfl ?_
  refine V_iload_n F dX4_rounds_1 rfl ?_
  refine V_iload_n F dX4_rounds_2 rfl ?_
  refine V_iload_n F dX4_rounds_3 rfl ?_
  refine V_callV F (q0 := 15) (c_pairError hI p q rel) mi_X4_pairError mm_X4_pairError lk_X4_156 dX4_rounds_4 (rmR (by omega)) rfl rfl (by decide) (Nat.le_of_ble_eq_true rfl) rfl rfl rfl (fun r μ' h => ?_)
  obtain ⟨rfl, hM, hS, hR⟩ := h
  refine V_istore F (lv' := [_, _, _, _, _, _]) dX4_rounds_7 (by decide) rfl rfl ?_
  refine V_iload F dX4_rounds_9 rfl ?_
  rcases rPair_cases (fRnd T) T (show n < 2 ^ 31 by omega) p q rel with ⟨h1, h2⟩ | ⟨i, j, k, hi, hj, hk, rfl, rfl, rfl, z1, z2, h1, h2⟩
  · skip
    refine V_if_ge_f F (tgt := 17) dX4_rounds_11 (by decide) (fun z => Int32.not_lt.mpr z h1) ?_
    refine V_iload F dX4_rounds_14 rfl ?_
    exact V_iret F dX4_rounds_16 (⟨by rw [h2], hM, hS⟩)
  · rw [h1] at hR ⊢
    rw [h2]
    have hr := rnd_le (T := T) k i j
    refine V_if_ge_t F (tgt := 17) dX4_rounds_11 (by decide) (by decide) ?_
    refine V_aload_n F dX4_rounds_17 rfl ?_
    refine V_iload_n F dX4_rounds_18 rfl ?_
    refine V_iload_n F dX4_rounds_19 rfl ?_
    refine V_callV F (q0 := 15) (c_separated (rel := k) (p := i) (q := j) hM hi hj hk (hR (by decide))) mi_X4_separated mm_X4_separated lk_X4_159 dX4_rounds_20 (rmR (by omega)) rfl rfl (by decide) (Nat.le_of_ble_eq_true rfl) rfl rfl rfl (fun r μ' h => ?_)
    obtain ⟨rfl, hF⟩ := h
    refine V_istore F (lv' := [_, _, _, _, _, _]) dX4_rounds_23 (by decide) rfl rfl ?_
    refine V_iload F dX4_rounds_25 rfl ?_
    unfold fRnd rdI sdN
    by_cases h4 : rnd T k i j = 4
    · rw [if_pos h4, if_pos h4]
      refine V_if_ne_f F (tgt := 35) dX4_rounds_27 (by decide) (by decide) ?_
      refine V_bipush F (v := (-4)) dX4_rounds_30 (by decide) ?_
      refine V_goto F (tgt := 37) dX4_rounds_32 (by decide) ?_
      exact V_iret F dX4_rounds_37 (⟨rfl, hF.mi hM, hS.trans hF.sx⟩)
    · rw [if_neg h4, if_neg h4]
      refine V_if_ne_t F (tgt := 35) dX4_rounds_27 (by decide) (nI_nz (by omega) (by omega)) ?_
      refine V_iload F dX4_rounds_35 rfl ?_
      exact V_iret F dX4_rounds_37 (⟨rfl, hF.mi hM, hS.trans hF.sx⟩)
theorem c_least {rel p : Nat} (hI : MInv T n μ) (hp : p < n) (hrel : rel < 3) (h7p : T 7 p = 0) (hR : μ.1 15 18 = nI rel) : Ct (GS g) l (11) yX4_least cX4_least 3 (some .int) [.ref (g.1 15), .int (nI p)] μ ((fun ret μ' => ret = some (.int (nI (lows T rel p))) ∧ FrG μ μ')) := by
  have hn := hI.n24
  refine Ct.of (own := RX4) mi_X4_least rfl [some (.ref (g.1 15)), some (.int (nI p)), none] (Nat.le_of_ble_eq_true rfl) rfl (fun p₀ e₀ s₀ m₀ b₀ h₀ c₀ F => ?_)
  have loop : ∀ (d q : Nat) (ν : Mem), q + d = p → lows T rel p = (((List.range d).map (q + ·)).find? (fun q => T 7 q == 0 && rnd T rel p q == 4)).getD p → FrG μ ν →
      V (GS g) p₀ l e₀ (rmD (11)) s₀ m₀ (List.toArray [.ref (g.1 15), .int (nI p)]) b₀ h₀ c₀ 3 0 0 (MQ b₀ (Qp (GS g) ((fun ret μ' => ret = some (.int (nI (lows T rel p))) ∧ FrG μ μ'))) (List.toArray [.ref (g.1 15), .int (nI p)]) s₀ 0 0 (gA (GS g))) 2 ([some (.ref (g.1 15)), some (.int (nI p)), some (.int (nI q))]) ([]) (ν) := by
    intro d
    induction d with
    | zero =>
      intro q ν hq hres hF
      have hqp : q = p := by omega
      subst hqp
      refine V_aload_n F dX4_least_2 rfl ?_
      refine V_getf F (q0 := 15) (j := 8) lk_X4_35 dX4_least_3 ig_X4 rfl rfl (by decide) rfl rfl ?_
      refine V_iload_n F dX4_least_6 rfl ?_
      refine V_ia F dX4_least_7 rfl (rfl) ((show q < 24 by omega)) (((hF.mi hI).fld 7 rfl (by omega) hp)) ?_
      rw [h7p]
      refine V_if_gt_f F (tgt := 20) dX4_least_8 (by decide) (by decide) ?_
      refine V_aload_n F dX4_least_11 rfl ?_
      refine V_iload_n F dX4_least_12 rfl ?_
      refine V_iload_n F dX4_least_13 rfl ?_
      refine V_callV F (q0 := 15) (c_separated (rel := rel) (p := q) (q := q) (hF.mi hI) hp hp hrel (by rw [hF.2 _ _ (by omega)]; exact hR)) mi_X4_separated mm_X4_separated lk_X4_159 dX4_least_14 (rmR (by omega)) rfl rfl (by decide) (Nat.le_of_ble_eq_true rfl) rfl rfl rfl (fun r μ' h => ?_)
      obtain ⟨rfl, hF1⟩ := h
      rw [show sdN T rel q q = 0 by unfold sdN; rw [rnd_refl]; rfl]
      refine V_if_le_t F (tgt := 26) dX4_least_17 (by decide) (by decide) ?_
      refine V_iload_n F dX4_least_26 rfl ?_
      exact V_iret F dX4_least_27 (⟨by rw [hres]; rfl, hF.trans hF1⟩)
    | succ d ih =>
      intro q ν hq hres hF
      have hqn : q < n := by omega
      have n2 := hI.1.need hqn
      rw [range_map_succ, List.find?_cons] at hres
      have step : (T 7 q == 0 && rnd T rel p q == 4) = false → ∀ ν', FrG μ ν' → V (GS g) p₀ l e₀ (rmD (11)) s₀ m₀ (List.toArray [.ref (g.1 15), .int (nI p)]) b₀ h₀ c₀ 3 0 0 (MQ b₀ (Qp (GS g) ((fun ret μ' => ret = some (.int (nI (lows T rel p))) ∧ FrG μ μ'))) (List.toArray [.ref (g.1 15), .int (nI p)]) s₀ 0 0 (gA (GS g))) 20 ([some (.ref (g.1 15)), some (.int (nI p)), some (.int (nI q))]) ([]) (ν') := by
        intro hb ν' hF'
        rw [hb] at hres
        refine V_iinc F (lv' := [_, _, _]) dX4_least_20 rfl (by decide) rfl rfl ?_
        refine V_goto F (tgt := 2) dX4_least_23 (by decide) ?_
        rw [show nI q + Int32.ofInt 1 = nI (q + 1) from nI_1 q]
        exact ih (q + 1) ν' (by omega) hres hF'
      refine V_aload_n F dX4_least_2 rfl ?_
      refine V_getf F (q0 := 15) (j := 8) lk_X4_35 dX4_least_3 ig_X4 rfl rfl (by decide) rfl rfl ?_
      refine V_iload_n F dX4_least_6 rfl ?_
      refine V_ia F dX4_least_7 rfl (rfl) ((show q < 24 by omega)) (((hF.mi hI).fld 7 rfl (by omega) hqn)) ?_
      by_cases z : T 7 q = 0
      · rw [z]
        refine V_if_gt_f F (tgt := 20) dX4_least_8 (by decide) (by decide) ?_
        refine V_aload_n F dX4_least_11 rfl ?_
        refine V_iload_n F dX4_least_12 rfl ?_
        refine V_iload_n F dX4_least_13 rfl ?_
        refine V_callV F (q0 := 15) (c_separated (rel := rel) (p := q) (q := p) (hF.mi hI) hqn hp hrel (by rw [hF.2 _ _ (by omega)]; exact hR)) mi_X4_separated mm_X4_separated lk_X4_159 dX4_least_14 (rmR (by omega)) rfl rfl (by decide) (Nat.le_of_ble_eq_true rfl) rfl rfl rfl (fun r μ' h => ?_)
        obtain ⟨rfl, hF1⟩ := h
        have hr := rnd_le (T := T) rel q p
        unfold sdN
        by_cases h4 : rnd T rel q p = 4
        · rw [if_pos h4]
          refine V_if_le_t F (tgt := 26) dX4_least_17 (by decide) (by decide) ?_
          refine V_iload_n F dX4_least_26 rfl ?_
          refine V_iret F dX4_least_27 ⟨?_, hF.trans hF1⟩
          rw [hres, z, rnd_symm, h4]
          rfl
        · rw [if_neg h4]
          refine V_if_le_f F (tgt := 26) dX4_least_17 (by decide) (fun y => by rw [← nI_0] at y; have := (nI_leI (by omega) (by omega)).mp y; omega) ?_
          exact step (by rw [rnd_symm]; simp [h4]) _ (hF.trans hF1)
      · skip
        refine V_if_gt_t F (tgt := 20) dX4_least_8 (by decide) (by rw [← nI_0]; exact (nI_ltI (by omega) (by omega)).mpr (by omega)) ?_
        exact step (by simp [z]) _ hF
  refine V_iconst F (v := nI 0) dX4_least_0 (by decide) ?_
  refine V_istore_n F (lv' := [_, _, _]) dX4_least_1 (by decide) rfl rfl ?_
  exact loop p 0 μ (by omega) (by simp [lows]) (FrG.rfl' μ)
theorem c_mrepresentative (hI : MInv T n μ) (p rel : Int32) : Ct (GS g) l (12) yX4_representative cX4_representative 4 (some .int) [.ref (g.1 15), .int p, .int rel] μ (MQA T n μ (rPair (fRep T) T n p p rel)) := by
  have hn := hI.n24
  refine Ct.of (own := RX4) mi_X4_representative rfl [some (.ref (g.1 15)), some (.int p), some (.int rel), none] (Nat.le_of_ble_eq_true rfl) rfl (fun p₀ e₀ s₀ m₀ b₀ h₀ c₀ F => ?_)
  refine V_aload_n F dX4_representative_0 rfl ?_
  refine V_iload_n F dX4_representative_1 rfl ?_
  refine V_iload_n F dX4_representative_2 rfl ?_
  refine V_iload_n F dX4_representative_3 rfl ?_
  refine V_callV F (q0 := 15) (c_pairError hI p p rel) mi_X4_pairError mm_X4_pairError lk_X4_156 dX4_representative_4 (rmR (by omega)) rfl rfl (by decide) (Nat.le_of_ble_eq_true rfl) rfl rfl rfl (fun r μ' h => ?_)
  obtain ⟨rfl, hM, hS, hR⟩ := h
  refine V_istore_n F (lv' := [_, _, _, _]) dX4_representative_7 (by decide) rfl rfl ?_
  refine V_iload_n F dX4_representative_8 rfl ?_
  rcases rPair_cases (fRep T) T (show n < 2 ^ 31 by omega) p p rel with ⟨h1, h2⟩ | ⟨i, j, k, hi, hj, hk, rfl, e2, rfl, z1, z2, h1, h2⟩
  · skip
    refine V_if_ge_f F (tgt := 16) dX4_representative_9 (by decide) (fun z => Int32.not_lt.mpr z h1) ?_
    refine V_iload_n F dX4_representative_12 rfl ?_
    refine V_goto F (tgt := 21) dX4_representative_13 (by decide) ?_
    exact V_iret F dX4_representative_21 (⟨by rw [h2], hM, hS⟩)
  · rw [h1] at hR ⊢
    rw [h2]
    refine V_if_ge_t F (tgt := 16) dX4_representative_9 (by decide) (by decide) ?_
    refine V_aload_n F dX4_representative_16 rfl ?_
    refine V_iload_n F dX4_representative_17 rfl ?_
    refine V_callV F (q0 := 15) (c_least (rel := k) hM hi hk z1 (hR (by decide))) mi_X4_least mm_X4_least lk_X4_165 dX4_representative_18 (rmR (by omega)) rfl rfl (by decide) (Nat.le_of_ble_eq_true rfl) rfl rfl rfl (fun r μ' h => ?_)
    obtain ⟨rfl, hF⟩ := h
    exact V_iret F dX4_representative_21 (⟨rfl, hF.mi hM, hS.trans hF.sx⟩)
theorem c_mclassCount (hI : MInv T n μ) (rel : Int32) : Ct (GS g) l (12) yX4_classCount cX4_classCount 4 (some .int) [.ref (g.1 15), .int rel] μ (MQA T n μ (rCls T n rel)) := by
  have hn := hI.n24
  refine Ct.of (own := RX4) mi_X4_classCount rfl [some (.ref (g.1 15)), some (.int rel), none, none] (Nat.le_of_ble_eq_true rfl) rfl (fun p₀ e₀ s₀ m₀ b₀ h₀ c₀ F => ?_)
  refine V_iload_n F dX4_classCount_0 rfl ?_
  refine V_iconst F (v := nI 0) dX4_classCount_1 (by decide) ?_
  refine V_iconst F (v := nI 2) dX4_classCount_2 (by decide) ?_
  cases h1 : pj 3 rel with
  | none =>
    have e0 : rCls T n rel = -1 := by unfold rCls; rw [h1]
    rw [e0]
    refine V_callSi F (c_in_f (m := 3) (by omega) (by omega) (pj_none h1 (by omega))) mi_X4_in ms_X4_in lk_X4_65 dX4_classCount_3 (rmR (by omega)) rfl rfl (by decide) (Nat.le_of_ble_eq_true rfl) ?_
    refine V_if_ne_f F (tgt := 11) dX4_classCount_6 (by decide) (by decide) ?_
    refine V_iconst F (v := (-1)) dX4_classCount_9 (by decide) ?_
    exact V_iret F dX4_classCount_10 (⟨rfl, hI, sameX.rfl' μ⟩)
  | some k =>
    obtain ⟨hk, rfl⟩ := pj_some h1 (by omega)
    have e0 : rCls T n (nI k) = nI (cls T n k) := by unfold rCls; rw [h1]
    rw [e0]
    have hM : MInv T n (wr μ 15 18 (nI k)) := ⟨hI.1, by rw [wr_ne (by omega)]; exact hI.2.1, fun f z hf hz => by rw [wr_ne (by omega)]; exact hI.2.2 f z hf hz⟩
    have hS : sameX μ (wr μ 15 18 (nI k)) := (sameX.rfl' μ).wr (by omega)
    refine V_callSi F (c_in_t (Nat.zero_le k) (show k ≤ 2 by omega) (by omega)) mi_X4_in ms_X4_in lk_X4_65 dX4_classCount_3 (rmR (by omega)) rfl rfl (by decide) (Nat.le_of_ble_eq_true rfl) ?_
    refine V_if_ne_t F (tgt := 11) dX4_classCount_6 (by decide) (by decide) ?_
    have loop : ∀ (d p cnt : Nat) (ν : Mem), p + d = n → cnt ≤ p → cnt = ((List.range p).filter (fun p => T 7 p == 0 && lows T k p == p)).length → FrG (wr μ 15 18 (nI k)) ν →
        V (GS g) p₀ l e₀ (rmD (12)) s₀ m₀ (List.toArray [.ref (g.1 15), .int (nI k)]) b₀ h₀ c₀ 4 0 0 (MQ b₀ (Qp (GS g) (MQA T n μ (nI (cls T n k)))) (List.toArray [.ref (g.1 15), .int (nI k)]) s₀ 0 0 (gA (GS g))) 20 ([some (.ref (g.1 15)), some (.int (nI k)), some (.int (nI cnt)), some (.int (nI p))]) ([]) (ν) := by
      intro d
      induction d with
      | zero =>
        intro p cnt ν hp hle hcnt hF
        have hIν := hF.mi hM
        refine V_iload_n F dX4_classCount_20 rfl ?_
        refine V_aload_n F dX4_classCount_21 rfl ?_
        refine V_getf F (q0 := 15) (j := 0) lk_X4_7 dX4_classCount_22 ig_X4 rfl rfl (by decide) rfl rfl ?_
        refine V_val F (hIν.2.1) ?_
        refine V_icmp_ge_N F (tgt := 60) dX4_classCount_25 (by decide) (by omega) (by omega) (fun hc => ?_) (fun hc => ?_)
        · skip
          refine V_iload_n F dX4_classCount_60 rfl ?_
          exact V_iret F dX4_classCount_61 (⟨by rw [hcnt, show p = n by omega]; rfl, hIν, hS.trans hF.sx⟩)
        · omega
      | succ d ih =>
        intro p cnt ν hp hle hcnt hF
        have hIν := hF.mi hM
        have hpn : p < n := by omega
        have n2 := hI.1.need hpn
        have e : (List.range (p + 1)).filter (fun p => T 7 p == 0 && lows T k p == p) = (List.range p).filter (fun p => T 7 p == 0 && lows T k p == p) ++ (if (T 7 p == 0 && lows T k p == p) = true then [p] else []) := by
          rw [List.range_succ, List.filter_append]
          congr 1
          simp only [List.filter_cons, List.filter_nil]
        have go : ∀ (b : Nat) (ν' : Mem), b ≤ 1 → b = (if (T 7 p == 0 && lows T k p == p) = true then 1 else 0) → FrG (wr μ 15 18 (nI k)) ν' → V (GS g) p₀ l e₀ (rmD (12)) s₀ m₀ (List.toArray [.ref (g.1 15), .int (nI k)]) b₀ h₀ c₀ 4 0 0 (MQ b₀ (Qp (GS g) (MQA T n μ (nI (cls T n k)))) (List.toArray [.ref (g.1 15), .int (nI k)]) s₀ 0 0 (gA (GS g))) 52 ([some (.ref (g.1 15)), some (.int (nI k)), some (.int (nI cnt)), some (.int (nI p))]) ([.int (nI b), .int (nI cnt)]) (ν') := by
          intro b ν' hb1 hb hF'
          (first | refine V_iaddN F dX4_classCount_52 ?_ | refine V_iadd F dX4_classCount_52 ?_)
          refine V_istore_n F (lv' := [_, _, _, _]) dX4_classCount_53 (by decide) rfl rfl ?_
          refine V_iinc F (lv' := [_, _, _, _]) dX4_classCount_54 rfl (by decide) rfl rfl ?_
          refine V_goto F (tgt := 20) dX4_classCount_57 (by decide) ?_
          rw [show nI p + Int32.ofInt 1 = nI (p + 1) from nI_1 p]
          refine ih (p + 1) (cnt + b) ν' (by omega) (by omega) ?_ hF'
          rw [e, List.length_append, ← hcnt, hb]
          split <;> rfl
        refine V_iload_n F dX4_classCount_20 rfl ?_
        refine V_aload_n F dX4_classCount_21 rfl ?_
        refine V_getf F (q0 := 15) (j := 0) lk_X4_7 dX4_classCount_22 ig_X4 rfl rfl (by decide) rfl rfl ?_
        refine V_val F (hIν.2.1) ?_
        refine V_icmp_ge_N F (tgt := 60) dX4_classCount_25 (by decide) (by omega) (by omega) (fun hc => ?_) (fun hc => ?_)
        · omega
        · skip
          refine V_iload_n F dX4_classCount_28 rfl ?_
          refine V_aload_n F dX4_classCount_29 rfl ?_
          refine V_getf F (q0 := 15) (j := 8) lk_X4_35 dX4_classCount_30 ig_X4 rfl rfl (by decide) rfl rfl ?_
          refine V_iload_n F dX4_classCount_33 rfl ?_
          refine V_ia F dX4_classCount_34 rfl (rfl) ((show p < 24 by omega)) ((hIν.fld 7 rfl (by omega) hpn)) ?_
          by_cases z : T 7 p = 0
          · rw [z]
            refine V_if_ne_f F (tgt := 51) dX4_classCount_35 (by decide) (by decide) ?_
            refine V_aload_n F dX4_classCount_38 rfl ?_
            refine V_iload_n F dX4_classCount_39 rfl ?_
            refine V_callV F (q0 := 15) (c_least (rel := k) hIν hpn hk z (by rw [hF.2 _ _ (by omega)]; exact wr_eq)) mi_X4_least mm_X4_least lk_X4_165 dX4_classCount_40 (rmR (by omega)) rfl rfl (by decide) (Nat.le_of_ble_eq_true rfl) rfl rfl rfl (fun r μ' h => ?_)
            obtain ⟨rfl, hF1⟩ := h
            have hlo := lows_le (T := T) k p
            refine V_iload_n F dX4_classCount_43 rfl ?_
            refine V_icmp_ne_N F (tgt := 51) dX4_classCount_44 (by decide) (by omega) (by omega) (fun hx => ?_) (fun hx => ?_)
            · skip
              refine V_iconst F (v := nI 0) dX4_classCount_51 (by decide) ?_
              exact go 0 _ (by omega) (by simp [hx]) (hF.trans hF1)
            · have hx := Classical.not_not.mp hx
              refine V_iconst F (v := nI 1) dX4_classCount_47 (by decide) ?_
              refine V_goto F (tgt := 52) dX4_classCount_48 (by decide) ?_
              exact go 1 _ (by omega) (by rw [z, hx]; simp) (hF.trans hF1)
          · skip
            refine V_if_ne_t F (tgt := 51) dX4_classCount_35 (by decide) (nI_nz (by omega) z) ?_
            refine V_iconst F (v := nI 0) dX4_classCount_51 (by decide) ?_
            exact go 0 _ (by omega) (by simp [z]) hF
    refine V_aload_n F dX4_classCount_11 rfl ?_
    refine V_iload_n F dX4_classCount_12 rfl ?_
    refine V_pff_15_18 F (host := "") lk_X4_107 dX4_classCount_13 ?_
    refine V_iconst F (v := nI 0) dX4_classCount_16 (by decide) ?_
    refine V_istore_n F (lv' := [_, _, _, _]) dX4_classCount_17 (by decide) rfl rfl ?_
    refine V_iconst F (v := nI 0) dX4_classCount_18 (by decide) ?_
    refine V_istore_n F (lv' := [_, _, _, _]) dX4_classCount_19 (by decide) rfl rfl ?_
    exact loop n 0 0 _ (by omega) (Nat.le_refl _) rfl (FrG.rfl' _)
end MODELH

