section GAME0
variable {T : Tb} {n : Nat}
def fpl (p : Nat) : Nat := p * (p - 1) / 2 * 15
theorem fpl_step : ∀ p, p < 24 → fpl (p + 1) = fpl p + 15 * p := by decide +kernel
theorem fpl_mono : ∀ b, b < 25 → ∀ a, a < b → fpl (a + 1) ≤ fpl b := by decide +kernel
theorem fpl_max : ∀ b, b < 25 → fpl b ≤ 4140 := by decide +kernel
theorem fplE : ∀ p, p < 25 → (nI p * (nI p - nI 1)) / nI 2 * nI 3 * nI 5 = nI (fpl p) := by decide +kernel
theorem plc_in {hi lo rel view : Nat} (h1 : hi < 24) (h2 : lo < hi) (h3 : rel < 3) (h4 : view < 5) : fpl hi ≤ plc hi lo rel view ∧ plc hi lo rel view < fpl (hi + 1) ∧ plc hi lo rel view < 4140 ∧ plc hi lo rel view = fpl hi + lo * 15 + (rel * 5 + view) := by
  have e : plc hi lo rel view = fpl hi + lo * 15 + (rel * 5 + view) := rfl
  have := fpl_step hi h1
  have := fpl_max (hi + 1) (by omega)
  omega
theorem plc_inj {hi lo rel view hi' lo' rel' view' : Nat} (h1 : hi < 24) (h2 : lo < hi) (h3 : rel < 3) (h4 : view < 5) (h1' : hi' < 24) (h2' : lo' < hi') (h3' : rel' < 3) (h4' : view' < 5) (h : plc hi lo rel view = plc hi' lo' rel' view') : hi = hi' ∧ lo = lo' ∧ rel = rel' ∧ view = view' := by
  have a := plc_in h1 h2 h3 h4
  have b := plc_in h1' h2' h3' h4'
  have e : hi = hi' := by
    rcases Nat.lt_trichotomy hi hi' with c | c | c
    · have := fpl_mono hi' (by omega) hi c; omega
    · exact c
    · have := fpl_mono hi (by omega) hi' c; omega
  subst e
  omega
theorem WF.less (hW : WF T (n + 1)) (hn : 1 ≤ n) : WF T n := ⟨⟨hn, by have := hW.1.2; omega⟩, hW.2.1, fun p h1 h2 => hW.2.2 p h1 (by omega)⟩
def vwI : List Nat → Int32
  | [] => nI 0
  | [v] => nI (v + 1)
  | _ => -1
def RQ (T : Tb) (n : Nat) (μ : Mem) : Option Value → Mem → Prop := fun r μ' => (n = 1 ∧ r = some (.int (-4)) ∧ μ' = μ) ∨ (n ≠ 1 ∧ r = some (.int (nI (n - 1))) ∧ XInv T (n - 1) μ' ∧ sameM μ μ')
/-- a row of kept worths is cleared -/
def Clr (μ ν : Mem) (lo hi : Nat) : Prop := (∀ c j, ¬ (c = 14 ∧ lo ≤ j ∧ j < hi) → ν.1 c j = μ.1 c j) ∧ (∀ j, lo ≤ j → j < hi → ν.1 14 j = 0) ∧ ν.2 = μ.2
end GAME0
section GAMEA
variable {g : Gm} {l : Launch} {μ : Mem} {T : Tb} {n : Nat}
theorem c_firstPlace {p : Nat} (hp : p < 25) : Ct (GS g) l (0) yX0_firstPlace cX0_firstPlace 1 (some .int) [.int (nI p)] μ (Is (.int (nI (fpl p))) μ) := by
  refine Ct.of (own := RX0) mi_X0_firstPlace rfl [some (.int (nI p))] (Nat.le_of_ble_eq_true rfl) rfl (fun p₀ e₀ s₀ m₀ b₀ h₀ c₀ F => ?_)
  refine V_iload_n F dX0_firstPlace_0 rfl ?_
  refine V_iload_n F dX0_firstPlace_1 rfl ?_
  refine V_iconst F (v := nI 1) dX0_firstPlace_2 (by decide) ?_
  refine V_isub F dX0_firstPlace_3 ?_
  refine V_imul F dX0_firstPlace_4 ?_
  refine V_iconst F (v := nI 2) dX0_firstPlace_5 (by decide) ?_
  refine V_idiv F dX0_firstPlace_6 (by decide) ?_
  refine V_iconst F (v := nI 3) dX0_firstPlace_7 (by decide) ?_
  refine V_imul F dX0_firstPlace_8 ?_
  refine V_iconst F (v := nI 5) dX0_firstPlace_9 (by decide) ?_
  refine V_imul F dX0_firstPlace_10 ?_
  refine V_val F (fplE p hp) ?_
  exact V_iret F dX0_firstPlace_11 (⟨rfl, rfl⟩)
theorem c_forget {p : Nat} (hp : p < 24) : Ct (GS g) l (1) yX0_forget cX0_forget 5 none [.ref (g.1 2), .int (nI p)] μ ((fun r μ' => r = none ∧ Clr μ μ' (fpl p) (fpl (p + 1)))) := by
  have hs := fpl_step p hp
  have hmx := fpl_max (p + 1) (by omega)
  refine Ct.of (own := RX0) mi_X0_forget rfl [some (.ref (g.1 2)), some (.int (nI p)), none, none, none] (Nat.le_of_ble_eq_true rfl) rfl (fun p₀ e₀ s₀ m₀ b₀ h₀ c₀ F => ?_)
  have loop : ∀ (k i : Nat) (ν : Mem), i + k = fpl (p + 1) → fpl p ≤ i → Clr μ ν (fpl p) i → V (GS g) p₀ l e₀ (rmD (1)) s₀ m₀ (List.toArray [.ref (g.1 2), .int (nI p)]) b₀ h₀ c₀ 5 0 0 (MQ b₀ (Qp (GS g) ((fun r μ' => r = none ∧ Clr μ μ' (fpl p) (fpl (p + 1))))) (List.toArray [.ref (g.1 2), .int (nI p)]) s₀ 0 0 (gA (GS g))) 15 ([some (.ref (g.1 2)), some (.int (nI p)), some (.int (nI (fpl p))), some (.int (nI (fpl (p + 1)))), some (.int (nI i))]) ([]) (ν) := by
    intro k
    induction k with
    | zero =>
      intro i ν hi hle hν
      refine V_iload F dX0_forget_15 rfl ?_
      refine V_iload_n F dX0_forget_17 rfl ?_
      refine V_icmp_ge_N F (tgt := 37) dX0_forget_18 (by decide) (by omega) (by omega) (fun h => ?_) (fun h => ?_)
      · skip
        exact V_vret F dX0_forget_37 (⟨rfl, by rw [show fpl (p + 1) = i by omega]; exact hν⟩)
      · omega
    | succ k ih =>
      intro i ν hi hle hν
      refine V_iload F dX0_forget_15 rfl ?_
      refine V_iload_n F dX0_forget_17 rfl ?_
      refine V_icmp_ge_N F (tgt := 37) dX0_forget_18 (by decide) (by omega) (by omega) (fun h => ?_) (fun h => ?_)
      · omega
      · skip
        refine V_aload_n F dX0_forget_21 rfl ?_
        refine V_getf F (q0 := 2) (j := 1) lk_X0_15 dX0_forget_22 ig_X0 rfl rfl (by decide) rfl rfl ?_
        refine V_iload F dX0_forget_25 rfl ?_
        refine V_iconst F (v := nI 0) dX0_forget_27 (by decide) ?_
        refine V_callSN0 F (c_put (q := 14) rfl (show i < 4140 by omega)) mi_X3_put ms_X3_put nk_X0_23 dX0_forget_28 (rmR (by omega)) rfl rfl (by decide) (Nat.le_of_ble_eq_true rfl) ?_
        refine V_iinc F (lv' := [_, _, _, _, _]) dX0_forget_31 rfl (by decide) rfl rfl ?_
        refine V_goto F (tgt := 15) dX0_forget_34 (by decide) ?_
        rw [show nI i + Int32.ofInt 1 = nI (i + 1) from nI_1 i]
        refine ih (i + 1) _ (by omega) (by omega) ⟨fun c j hj => ?_, fun j h1 h2 => ?_, hν.2.2⟩
        · rw [wr_ne (by omega)]; exact hν.1 c j (by omega)
        · by_cases hji : j = i
          · subst hji; rw [wr_eq]; rfl
          · rw [wr_ne (by omega)]; exact hν.2.1 j h1 (by omega)
  refine V_iload_n F dX0_forget_0 rfl ?_
  refine V_callSi F (c_firstPlace (show p < 25 by omega)) mi_X0_firstPlace ms_X0_firstPlace lk_X0_19 dX0_forget_1 (rmR (by omega)) rfl rfl (by decide) (Nat.le_of_ble_eq_true rfl) ?_
  refine V_istore_n F (lv' := [_, _, _, _, _]) dX0_forget_4 (by decide) rfl rfl ?_
  refine V_iload_n F dX0_forget_5 rfl ?_
  refine V_iconst F (v := nI 1) dX0_forget_6 (by decide) ?_
  (first | refine V_iaddN F dX0_forget_7 ?_ | refine V_iadd F dX0_forget_7 ?_)
  refine V_callSi F (c_firstPlace (show p + 1 < 25 by omega)) mi_X0_firstPlace ms_X0_firstPlace lk_X0_19 dX0_forget_8 (rmR (by omega)) rfl rfl (by decide) (Nat.le_of_ble_eq_true rfl) ?_
  refine V_istore_n F (lv' := [_, _, _, _, _]) dX0_forget_11 (by decide) rfl rfl ?_
  refine V_iload_n F dX0_forget_12 rfl ?_
  refine V_istore F (lv' := [_, _, _, _, _]) dX0_forget_13 (by decide) rfl rfl ?_
  exact loop (15 * p) (fpl p) μ (by omega) (Nat.le_refl _) ⟨fun _ _ _ => rfl, fun j h1 h2 => absurd h2 (by omega), rfl⟩
theorem c_removeLast (hI : XInv T n μ) : Ct (GS g) l (2) yX3_removeLast cX3_removeLast 2 (some .int) [.ref (g.1 0)] μ (RQ T n μ) := by
  have hX := hI.1
  have hn := hX.n24
  refine Ct.of (own := RX3) mi_X3_removeLast rfl [some (.ref (g.1 0)), none] (Nat.le_of_ble_eq_true rfl) rfl (fun p₀ e₀ s₀ m₀ b₀ h₀ c₀ F => ?_)
  refine V_aload_n F dX3_removeLast_0 rfl ?_
  refine V_getf F (q0 := 0) (j := 0) lk_X3_10 dX3_removeLast_1 ig_X3 rfl rfl (by decide) rfl rfl ?_
  refine V_getN F (q0 := 1) (j := 0) nk_X3_36 dX3_removeLast_4 ig_X2 rfl rfl (by decide) rfl rfl ?_
  refine V_val F (hX.2.1) ?_
  refine V_iconst F (v := nI 1) dX3_removeLast_7 (by decide) ?_
  refine V_isubN F (by omega) dX3_removeLast_8 ?_
  refine V_istore_n F (lv' := [_, _]) dX3_removeLast_9 (by decide) rfl rfl ?_
  refine V_iload_n F dX3_removeLast_10 rfl ?_
  refine V_iconst F (v := nI 1) dX3_removeLast_11 (by decide) ?_
  refine V_icmp_ge_N F (tgt := 18) dX3_removeLast_12 (by decide) (by omega) (by omega) (fun h => ?_) (fun h => ?_)
  · obtain ⟨j, rfl⟩ : ∃ j, n = j + 1 := ⟨n - 1, by omega⟩
    rw [Nat.add_sub_cancel] at h ⊢
    refine V_aload_n F dX3_removeLast_18 rfl ?_
    refine V_getf F (q0 := 0) (j := 0) lk_X3_10 dX3_removeLast_19 ig_X3 rfl rfl (by decide) rfl rfl ?_
    refine V_iload_n F dX3_removeLast_22 rfl ?_
    refine V_pfN_1_0 F nk_X3_36 dX3_removeLast_23 ?_
    refine V_aload_n F dX3_removeLast_26 rfl ?_
    refine V_getf F (q0 := 0) (j := 1) lk_X3_21 dX3_removeLast_27 ig_X3 rfl rfl (by decide) rfl rfl ?_
    refine V_iload_n F dX3_removeLast_30 rfl ?_
    refine V_callVN F (q0 := 2) (c_forget (p := j) (by omega)) mi_X0_forget mm_X0_forget nk_X3_40 dX3_removeLast_31 (rmR (by omega)) rfl rfl (by decide) (Nat.le_of_ble_eq_true rfl) rfl rfl rfl (fun r μ' h => ?_)
    rename_i hh
    obtain ⟨rfl, hC⟩ := h
    refine V_iload_n F dX3_removeLast_34 rfl ?_
    have hW := hX.1.less (by omega)
    have e1 : ∀ c i, ¬ (c = 14 ∧ fpl j ≤ i ∧ i < fpl (j + 1)) → ¬ (c = 1 ∧ i = 0) → μ'.1 c i = μ.1 c i := fun c i h1 h2 => by rw [hC.1 c i h1, wr_ne h2]
    refine V_iret F dX3_removeLast_35 (Or.inr ⟨by omega, rfl, ⟨⟨hW, ?_, fun f i hf hi => ?_, fun i s a hi ha => ?_⟩, fun hi lo rel view a1 a2 a3 a4 => ?_⟩, fun c hc => ?_⟩)
    · rw [hC.1 1 0 (by omega)]
      exact wr_eq
    · rw [e1 _ _ (by omega) (by omega)]
      exact hX.2.2.1 f i hf (by omega)
    · rw [e1 _ _ (by omega) (by omega), hC.2.2, wr_2]
      exact hX.2.2.2 i s a (by omega) ha
    · have hin := plc_in a1 a2 a3 a4
      by_cases hij : hi = j
      · subst hij
        left
        exact hC.2.1 _ hin.1 hin.2.1
      · have hnot : ¬ (fpl j ≤ plc hi lo rel view ∧ plc hi lo rel view < fpl (j + 1)) := by
          rcases Nat.lt_trichotomy hi j with c | c | c
          · have := fpl_mono j (by omega) hi c; omega
          · exact absurd c hij
          · have := fpl_mono hi (by omega) j c; omega
        rw [e1 14 _ (by omega) (by omega)]
        rcases hI.2 hi lo rel view a1 a2 a3 a4 with h0 | ⟨b1, b2⟩
        · exact Or.inl h0
        · exact Or.inr ⟨by omega, b2⟩
    · funext i
      exact e1 c i (by omega) (by omega)
  · skip
    refine V_bipush F (v := (-4)) dX3_removeLast_15 (by decide) ?_
    exact V_iret F dX3_removeLast_17 (Or.inl ⟨by omega, rfl, rfl⟩)
theorem c_viewOf {r : List Nat} (hl : lok r) (h3 : r.length ≤ 3) : Ct (GS g) l (1) yX0_viewOf cX0_viewOf 3 (some .int) [.int (nI (rc r))] μ (Is (.int (vwI r)) μ) := by
  have hr := (rc_lt hl h3).1
  refine Ct.of (own := RX0) mi_X0_viewOf rfl [some (.int (nI (rc r))), none, none] (Nat.le_of_ble_eq_true rfl) rfl (fun p₀ e₀ s₀ m₀ b₀ h₀ c₀ F => ?_)
  refine V_iload_n F dX0_viewOf_0 rfl ?_
  refine V_iconst F (v := nI 1) dX0_viewOf_1 (by decide) ?_
  refine V_icmp_ne_N F (tgt := 7) dX0_viewOf_2 (by decide) (by omega) (by omega) (fun h => ?_) (fun h => ?_)
  · skip
    refine V_iconst F (v := nI 3) dX0_viewOf_7 (by decide) ?_
    refine V_iload_n F dX0_viewOf_8 rfl ?_
    refine V_callSNi F (c_valueOf (x := 3) (by omega) (by omega)) mi_X1_valueOf ms_X1_valueOf nk_X0_110 dX0_viewOf_9 (rmR (by omega)) rfl rfl (by decide) (Nat.le_of_ble_eq_true rfl) ?_
    rw [xv3]
    refine V_istore_n F (lv' := [_, _, _]) dX0_viewOf_12 (by decide) rfl rfl ?_
    refine V_iload_n F dX0_viewOf_13 rfl ?_
    refine V_iconst F (v := nI 1) dX0_viewOf_14 (by decide) ?_
    refine V_iload_n F dX0_viewOf_15 rfl ?_
    refine V_callSNi F (c_with (r := 1) (by omega) (by omega)) mi_X1_with ms_X1_with nk_X0_91 dX0_viewOf_16 (rmR (by omega)) rfl rfl (by decide) (Nat.le_of_ble_eq_true rfl) ?_
    refine V_icmp_ne_N F (tgt := 26) dX0_viewOf_19 (by decide) (by omega) (by omega) (fun h2 => ?_) (fun h2 => ?_)
    · have e : vwI r = -1 := by
        match r, h, h2, hl with
        | [], h, _, _ => simp [rc] at h
        | [a], _, h2, hl => have := hl.1; simp only [fr] at this; simp only [rc] at h2; omega
        | a :: b :: t, _, _, _ => rfl
      rw [e]
      refine V_iconst F (v := nI 0) dX0_viewOf_26 (by decide) ?_
      refine V_istore_n F (lv' := [_, _, _]) dX0_viewOf_27 (by decide) rfl rfl ?_
      refine V_iload_n F dX0_viewOf_28 rfl ?_
      refine V_if_eq_t F (tgt := 38) dX0_viewOf_29 (by decide) (by decide) ?_
      refine V_iconst F (v := (-1)) dX0_viewOf_38 (by decide) ?_
      exact V_iret F dX0_viewOf_39 (⟨rfl, rfl⟩)
    · have h2 := Classical.not_not.mp h2
      have e : vwI r = nI (1 + rc r % 8) := by
        match r, h, h2, hl, h3 with
        | [], h, _, _, _ => simp [rc] at h
        | [a], _, _, hl, _ =>
          have := hl.1
          simp only [fr] at this
          simp only [rc, vwI]
          congr 1
          omega
        | a :: b :: t, _, h2, hl, h3 =>
          exfalso
          simp only [rc] at h2
          have : 1 ≤ rc t := by
            match t with
            | [] => simp [rc]
            | [x] => simp [rc]; omega
            | x :: y :: z => simp at h3
          omega
      rw [e]
      refine V_iconst F (v := nI 1) dX0_viewOf_22 (by decide) ?_
      refine V_goto F (tgt := 27) dX0_viewOf_23 (by decide) ?_
      refine V_istore_n F (lv' := [_, _, _]) dX0_viewOf_27 (by decide) rfl rfl ?_
      refine V_iload_n F dX0_viewOf_28 rfl ?_
      refine V_if_eq_f F (tgt := 38) dX0_viewOf_29 (by decide) (by decide) ?_
      refine V_iconst F (v := nI 1) dX0_viewOf_32 (by decide) ?_
      refine V_iload_n F dX0_viewOf_33 rfl ?_
      (first | refine V_iaddN F dX0_viewOf_34 ?_ | refine V_iadd F dX0_viewOf_34 ?_)
      refine V_goto F (tgt := 39) dX0_viewOf_35 (by decide) ?_
      exact V_iret F dX0_viewOf_39 (⟨rfl, rfl⟩)
  · have h := Classical.not_not.mp h
    have e : vwI r = nI 0 := by
      match r, h, hl, h3 with
      | [], _, _, _ => rfl
      | a :: t, h, _, h3 =>
        exfalso
        simp only [rc] at h
        have : 1 ≤ rc t := by
          match t with
          | [] => simp [rc]
          | [x] => simp [rc]; omega
          | [x, y] => simp [rc]; omega
          | x :: y :: z :: u => simp at h3
        omega
    rw [e]
    refine V_iconst F (v := nI 0) dX0_viewOf_5 (by decide) ?_
    exact V_iret F dX0_viewOf_6 (⟨rfl, rfl⟩)
def plI (rel p q : Nat) : List Nat → Int32
  | [] => nI (plc (max p q) (min p q) rel 0)
  | [v] => nI (plc (max p q) (min p q) rel (v + 1))
  | _ => -1
theorem c_placeOf {rel p q : Nat} {r : List Nat} (hl : lok r) (h3 : r.length ≤ 3) (hrel : rel < 3) (hp : p < 24) (hq : q < 24) : Ct (GS g) l (2) yX0_placeOf cX0_placeOf 6 (some .int) [.int (nI rel), .int (nI p), .int (nI q), .int (nI (rc r))] μ (Is (.int (plI rel p q r)) μ) := by
  refine Ct.of (own := RX0) mi_X0_placeOf rfl [some (.int (nI rel)), some (.int (nI p)), some (.int (nI q)), some (.int (nI (rc r))), none, none] (Nat.le_of_ble_eq_true rfl) rfl (fun p₀ e₀ s₀ m₀ b₀ h₀ c₀ F => ?_)
  have hmx := fpl_max (max p q) (by omega)
  refine V_iload_n F dX0_placeOf_0 rfl ?_
  refine V_callSi F (c_viewOf hl h3) mi_X0_viewOf ms_X0_viewOf lk_X0_107 dX0_placeOf_1 (rmR (by omega)) rfl rfl (by decide) (Nat.le_of_ble_eq_true rfl) ?_
  refine V_istore F (lv' := [_, _, _, _, _, _]) dX0_placeOf_4 (by decide) rfl rfl ?_
  refine V_iload F dX0_placeOf_6 rfl ?_
  refine V_iconst F (v := (-1)) dX0_placeOf_8 (by decide) ?_
  match r, hl, h3 with
  | [], _, _ =>
    refine V_icmp_ne_t F (tgt := 14) dX0_placeOf_9 (by decide) (by decide) ?_
    refine V_iload_n F dX0_placeOf_14 rfl ?_
    refine V_iload_n F dX0_placeOf_15 rfl ?_
    refine V_maxN F lk_X0_79 dX0_placeOf_16 (rmM (by omega) (Nat.le_of_ble_eq_true rfl)) (by omega) (by omega) ?_
    refine V_callSi F (c_firstPlace (show max p q < 25 by omega)) mi_X0_firstPlace ms_X0_firstPlace lk_X0_19 dX0_placeOf_19 (rmR (by omega)) rfl rfl (by decide) (Nat.le_of_ble_eq_true rfl) ?_
    refine V_iload_n F dX0_placeOf_22 rfl ?_
    refine V_iload_n F dX0_placeOf_23 rfl ?_
    refine V_minN F lk_X0_67 dX0_placeOf_24 (rmM (by omega) (Nat.le_of_ble_eq_true rfl)) (by omega) (by omega) ?_
    refine V_iconst F (v := nI 3) dX0_placeOf_27 (by decide) ?_
    (first | refine V_imulN F dX0_placeOf_28 ?_ | refine V_imul F dX0_placeOf_28 ?_)
    refine V_iconst F (v := nI 5) dX0_placeOf_29 (by decide) ?_
    (first | refine V_imulN F dX0_placeOf_30 ?_ | refine V_imul F dX0_placeOf_30 ?_)
    (first | refine V_iaddN F dX0_placeOf_31 ?_ | refine V_iadd F dX0_placeOf_31 ?_)
    refine V_istore F (lv' := [_, _, _, _, _, _]) dX0_placeOf_32 (by decide) rfl rfl ?_
    refine V_iload F dX0_placeOf_34 rfl ?_
    refine V_iload_n F dX0_placeOf_36 rfl ?_
    refine V_iconst F (v := nI 5) dX0_placeOf_37 (by decide) ?_
    (first | refine V_imulN F dX0_placeOf_38 ?_ | refine V_imul F dX0_placeOf_38 ?_)
    (first | refine V_iaddN F dX0_placeOf_39 ?_ | refine V_iadd F dX0_placeOf_39 ?_)
    refine V_iload F dX0_placeOf_40 rfl ?_
    (first | refine V_iaddN F dX0_placeOf_42 ?_ | refine V_iadd F dX0_placeOf_42 ?_)
    exact V_iret F dX0_placeOf_43 (⟨by show some (Value.int (nI _)) = some (Value.int (nI _)); congr 3; unfold plc fpl; omega, rfl⟩)
  | [v], hl, _ =>
    have hv := hl.1
    simp only [fr] at hv
    refine V_icmp_ne_t F (tgt := 14) dX0_placeOf_9 (by decide) ((by show ¬ nI (v + 1) = -1; have : ∀ v, v < 5 → ¬ nI v = -1 := by { decide +kernel }; exact this _ (by omega))) ?_
    refine V_iload_n F dX0_placeOf_14 rfl ?_
    refine V_iload_n F dX0_placeOf_15 rfl ?_
    refine V_maxN F lk_X0_79 dX0_placeOf_16 (rmM (by omega) (Nat.le_of_ble_eq_true rfl)) (by omega) (by omega) ?_
    refine V_callSi F (c_firstPlace (show max p q < 25 by omega)) mi_X0_firstPlace ms_X0_firstPlace lk_X0_19 dX0_placeOf_19 (rmR (by omega)) rfl rfl (by decide) (Nat.le_of_ble_eq_true rfl) ?_
    refine V_iload_n F dX0_placeOf_22 rfl ?_
    refine V_iload_n F dX0_placeOf_23 rfl ?_
    refine V_minN F lk_X0_67 dX0_placeOf_24 (rmM (by omega) (Nat.le_of_ble_eq_true rfl)) (by omega) (by omega) ?_
    refine V_iconst F (v := nI 3) dX0_placeOf_27 (by decide) ?_
    (first | refine V_imulN F dX0_placeOf_28 ?_ | refine V_imul F dX0_placeOf_28 ?_)
    refine V_iconst F (v := nI 5) dX0_placeOf_29 (by decide) ?_
    (first | refine V_imulN F dX0_placeOf_30 ?_ | refine V_imul F dX0_placeOf_30 ?_)
    (first | refine V_iaddN F dX0_placeOf_31 ?_ | refine V_iadd F dX0_placeOf_31 ?_)
    refine V_istore F (lv' := [_, _, _, _, _, _]) dX0_placeOf_32 (by decide) rfl rfl ?_
    refine V_iload F dX0_placeOf_34 rfl ?_
    refine V_iload_n F dX0_placeOf_36 rfl ?_
    refine V_iconst F (v := nI 5) dX0_placeOf_37 (by decide) ?_
    (first | refine V_imulN F dX0_placeOf_38 ?_ | refine V_imul F dX0_placeOf_38 ?_)
    (first | refine V_iaddN F dX0_placeOf_39 ?_ | refine V_iadd F dX0_placeOf_39 ?_)
    refine V_iload F dX0_placeOf_40 rfl ?_
    (first | refine V_iaddN F dX0_placeOf_42 ?_ | refine V_iadd F dX0_placeOf_42 ?_)
    exact V_iret F dX0_placeOf_43 (⟨by show some (Value.int (nI _)) = some (Value.int (nI _)); congr 3; unfold plc fpl; omega, rfl⟩)
  | a :: b :: t, _, _ =>
    refine V_icmp_ne_f F (tgt := 14) dX0_placeOf_9 (by decide) (rfl) ?_
    refine V_iconst F (v := (-1)) dX0_placeOf_12 (by decide) ?_
    exact V_iret F dX0_placeOf_13 (⟨rfl, rfl⟩)
theorem c_agree {a b : Nat} {r : List Nat} (hX : XRep T n μ) (ha : a < n) (hb : b < n) (hl : lok r) (h3 : r.length ≤ 3) (hna : T 1 a < 3 + r.length ∧ T 2 a < 3 + r.length) (hnb : T 1 b < 3 + r.length ∧ T 2 b < 3 + r.length) : Ct (GS g) l (2) yX0_agree cX0_agree 6 (some .boolean) [.ref (g.1 2), .int (nI a), .int (nI b), .int (nI (rc r))] μ (Is (.int (nI (if agr T r a b = true then 1 else 0))) μ) := by
  have hn := hX.n24
  have hr := (rc_lt hl h3).1
  have hk1 := hX.1.kind ha
  have hk2 := hX.1.kind hb
  have hm1 := hX.1.name ha
  have hm2 := hX.1.name hb
  refine Ct.of (own := RX0) mi_X0_agree rfl [some (.ref (g.1 2)), some (.int (nI a)), some (.int (nI b)), some (.int (nI (rc r))), none, none] (Nat.le_of_ble_eq_true rfl) rfl (fun p₀ e₀ s₀ m₀ b₀ h₀ c₀ F => ?_)
  refine V_aload_n F dX0_agree_0 rfl ?_
  refine V_getf F (q0 := 2) (j := 0) lk_X0_9 dX0_agree_1 ig_X0 rfl rfl (by decide) rfl rfl ?_
  refine V_getN F (q0 := 1) (j := 1) nk_X0_85 dX0_agree_4 ig_X2 rfl rfl (by decide) rfl rfl ?_
  refine V_iload_n F dX0_agree_7 rfl ?_
  refine V_callSNi F (c_at (q := 3) rfl (show a < 24 by omega) (hX.fld 0 rfl (by omega) ha)) mi_X3_at ms_X3_at nk_X0_60 dX0_agree_8 (rmR (by omega)) rfl rfl (by decide) (Nat.le_of_ble_eq_true rfl) ?_
  refine V_aload_n F dX0_agree_11 rfl ?_
  refine V_getf F (q0 := 2) (j := 0) lk_X0_9 dX0_agree_12 ig_X0 rfl rfl (by decide) rfl rfl ?_
  refine V_getN F (q0 := 1) (j := 1) nk_X0_85 dX0_agree_15 ig_X2 rfl rfl (by decide) rfl rfl ?_
  refine V_iload_n F dX0_agree_18 rfl ?_
  refine V_callSNi F (c_at (q := 3) rfl (show b < 24 by omega) (hX.fld 0 rfl (by omega) hb)) mi_X3_at ms_X3_at nk_X0_60 dX0_agree_19 (rmR (by omega)) rfl rfl (by decide) (Nat.le_of_ble_eq_true rfl) ?_
  refine V_icmp_eq_N F (tgt := 27) dX0_agree_22 (by decide) (by omega) (by omega) (fun h => ?_) (fun h => ?_)
  · skip
    refine V_aload_n F dX0_agree_27 rfl ?_
    refine V_getf F (q0 := 2) (j := 0) lk_X0_9 dX0_agree_28 ig_X0 rfl rfl (by decide) rfl rfl ?_
    refine V_getN F (q0 := 1) (j := 2) nk_X0_94 dX0_agree_31 ig_X2 rfl rfl (by decide) rfl rfl ?_
    refine V_iload_n F dX0_agree_34 rfl ?_
    refine V_callSNi F (c_at (q := 4) rfl (show a < 24 by omega) (hX.fld 1 rfl (by omega) ha)) mi_X3_at ms_X3_at nk_X0_60 dX0_agree_35 (rmR (by omega)) rfl rfl (by decide) (Nat.le_of_ble_eq_true rfl) ?_
    refine V_istore F (lv' := [_, _, _, _, _, _]) dX0_agree_38 (by decide) rfl rfl ?_
    refine V_aload_n F dX0_agree_40 rfl ?_
    refine V_getf F (q0 := 2) (j := 0) lk_X0_9 dX0_agree_41 ig_X0 rfl rfl (by decide) rfl rfl ?_
    refine V_getN F (q0 := 1) (j := 3) nk_X0_97 dX0_agree_44 ig_X2 rfl rfl (by decide) rfl rfl ?_
    refine V_iload_n F dX0_agree_47 rfl ?_
    refine V_callSNi F (c_at (q := 5) rfl (show a < 24 by omega) (hX.fld 2 rfl (by omega) ha)) mi_X3_at ms_X3_at nk_X0_60 dX0_agree_48 (rmR (by omega)) rfl rfl (by decide) (Nat.le_of_ble_eq_true rfl) ?_
    refine V_istore F (lv' := [_, _, _, _, _, _]) dX0_agree_51 (by decide) rfl rfl ?_
    refine V_iload F dX0_agree_53 rfl ?_
    refine V_aload_n F dX0_agree_55 rfl ?_
    refine V_getf F (q0 := 2) (j := 0) lk_X0_9 dX0_agree_56 ig_X0 rfl rfl (by decide) rfl rfl ?_
    refine V_getN F (q0 := 1) (j := 2) nk_X0_94 dX0_agree_59 ig_X2 rfl rfl (by decide) rfl rfl ?_
    refine V_iload_n F dX0_agree_62 rfl ?_
    refine V_callSNi F (c_at (q := 4) rfl (show b < 24 by omega) (hX.fld 1 rfl (by omega) hb)) mi_X3_at ms_X3_at nk_X0_60 dX0_agree_63 (rmR (by omega)) rfl rfl (by decide) (Nat.le_of_ble_eq_true rfl) ?_
    refine V_iload_n F dX0_agree_66 rfl ?_
    refine V_callSNi F (c_areEqual hm1.1 hm2.1 (by omega)) mi_X1_areEqual ms_X1_areEqual nk_X0_100 dX0_agree_67 (rmR (by omega)) rfl rfl (by decide) (Nat.le_of_ble_eq_true rfl) ?_
    rw [xv_rc hl h3 hna.1, xv_rc hl h3 hnb.1]
    by_cases h1 : vl r (T 1 a) = vl r (T 1 b)
    · rw [if_pos h1]
      refine V_if_eq_f F (tgt := 97) dX0_agree_70 (by decide) (by decide) ?_
      refine V_iload F dX0_agree_73 rfl ?_
      refine V_aload_n F dX0_agree_75 rfl ?_
      refine V_getf F (q0 := 2) (j := 0) lk_X0_9 dX0_agree_76 ig_X0 rfl rfl (by decide) rfl rfl ?_
      refine V_getN F (q0 := 1) (j := 3) nk_X0_97 dX0_agree_79 ig_X2 rfl rfl (by decide) rfl rfl ?_
      refine V_iload_n F dX0_agree_82 rfl ?_
      refine V_callSNi F (c_at (q := 5) rfl (show b < 24 by omega) (hX.fld 2 rfl (by omega) hb)) mi_X3_at ms_X3_at nk_X0_60 dX0_agree_83 (rmR (by omega)) rfl rfl (by decide) (Nat.le_of_ble_eq_true rfl) ?_
      refine V_iload_n F dX0_agree_86 rfl ?_
      refine V_callSNi F (c_areEqual hm1.2 hm2.2 (by omega)) mi_X1_areEqual ms_X1_areEqual nk_X0_100 dX0_agree_87 (rmR (by omega)) rfl rfl (by decide) (Nat.le_of_ble_eq_true rfl) ?_
      rw [xv_rc hl h3 hna.2, xv_rc hl h3 hnb.2]
      by_cases h2 : vl r (T 2 a) = vl r (T 2 b)
      · rw [if_pos h2, if_pos (by simp [agr, h, h1, h2])]
        refine V_if_eq_f F (tgt := 97) dX0_agree_90 (by decide) (by decide) ?_
        refine V_iconst F (v := nI 1) dX0_agree_93 (by decide) ?_
        refine V_goto F (tgt := 98) dX0_agree_94 (by decide) ?_
        exact V_zret F dX0_agree_98 (rfl) (⟨rfl, rfl⟩)
      · rw [if_neg h2, if_neg (by simp [agr, h2])]
        refine V_if_eq_t F (tgt := 97) dX0_agree_90 (by decide) (by decide) ?_
        refine V_iconst F (v := nI 0) dX0_agree_97 (by decide) ?_
        exact V_zret F dX0_agree_98 (rfl) (⟨rfl, rfl⟩)
    · rw [if_neg h1, if_neg (by simp [agr, h1])]
      refine V_if_eq_t F (tgt := 97) dX0_agree_70 (by decide) (by decide) ?_
      refine V_iconst F (v := nI 0) dX0_agree_97 (by decide) ?_
      exact V_zret F dX0_agree_98 (rfl) (⟨rfl, rfl⟩)
  · rw [if_neg (by simp [agr, h])]
    refine V_iconst F (v := nI 0) dX0_agree_25 (by decide) ?_
    exact V_zret F dX0_agree_26 (rfl) (⟨rfl, rfl⟩)
theorem c_isChosen {rel a : Nat} (hX : XRep T n μ) (ha : a < n) (hrel : rel < 3) : Ct (GS g) l (1) yX0_isChosenWith cX0_isChosenWith 3 (some .boolean) [.ref (g.1 2), .int (nI rel), .int (nI a)] μ (Is (.int (nI (if T 0 a = 3 ∧ rel = 1 then 1 else 0))) μ) := by
  have hn := hX.n24
  have hk := hX.1.kind ha
  refine Ct.of (own := RX0) mi_X0_isChosenWith rfl [some (.ref (g.1 2)), some (.int (nI rel)), some (.int (nI a))] (Nat.le_of_ble_eq_true rfl) rfl (fun p₀ e₀ s₀ m₀ b₀ h₀ c₀ F => ?_)
  refine V_iload_n F dX0_isChosenWith_0 rfl ?_
  refine V_iconst F (v := nI 1) dX0_isChosenWith_1 (by decide) ?_
  refine V_icmp_ne_N F (tgt := 24) dX0_isChosenWith_2 (by decide) (by omega) (by omega) (fun h => ?_) (fun h => ?_)
  · rw [if_neg (fun q => h q.2)]
    refine V_iconst F (v := nI 0) dX0_isChosenWith_24 (by decide) ?_
    exact V_zret F dX0_isChosenWith_25 (rfl) (⟨rfl, rfl⟩)
  · have h := Classical.not_not.mp h
    refine V_aload_n F dX0_isChosenWith_5 rfl ?_
    refine V_getf F (q0 := 2) (j := 0) lk_X0_9 dX0_isChosenWith_6 ig_X0 rfl rfl (by decide) rfl rfl ?_
    refine V_getN F (q0 := 1) (j := 1) nk_X0_85 dX0_isChosenWith_9 ig_X2 rfl rfl (by decide) rfl rfl ?_
    refine V_iload_n F dX0_isChosenWith_12 rfl ?_
    refine V_callSNi F (c_at (q := 3) rfl (show a < 24 by omega) (hX.fld 0 rfl (by omega) ha)) mi_X3_at ms_X3_at nk_X0_60 dX0_isChosenWith_13 (rmR (by omega)) rfl rfl (by decide) (Nat.le_of_ble_eq_true rfl) ?_
    refine V_iconst F (v := nI 3) dX0_isChosenWith_16 (by decide) ?_
    refine V_icmp_ne_N F (tgt := 24) dX0_isChosenWith_17 (by decide) (by omega) (by omega) (fun h2 => ?_) (fun h2 => ?_)
    · rw [if_neg (fun q => h2 q.1)]
      refine V_iconst F (v := nI 0) dX0_isChosenWith_24 (by decide) ?_
      exact V_zret F dX0_isChosenWith_25 (rfl) (⟨rfl, rfl⟩)
    · rw [if_pos ⟨Classical.not_not.mp h2, h⟩]
      refine V_iconst F (v := nI 1) dX0_isChosenWith_20 (by decide) ?_
      refine V_goto F (tgt := 25) dX0_isChosenWith_21 (by decide) ?_
      exact V_zret F dX0_isChosenWith_25 (rfl) (⟨rfl, rfl⟩)
def fiC (T : Tb) (rel a : Nat) : Nat := if T 0 a = 3 ∧ rel = 1 then 0 else 9
def laC (T : Tb) (rel a : Nat) (r : List Nat) : Nat := if T 0 a = 3 ∧ rel = 1 then fr r else 9
theorem nms_eq (rel a : Nat) (r : List Nat) : nms T rel a r = (List.range (laC T rel a r + 1 - fiC T rel a)).map (fiC T rel a + ·) := by
  unfold nms laC fiC
  by_cases h : T 0 a = 3 ∧ rel = 1
  · rw [if_pos h, if_pos h, if_pos h]
    simp
  · rw [if_neg h, if_neg h, if_neg h]
    rfl
theorem laC_le {r : List Nat} (hl : lok r) (h3 : r.length ≤ 3) (rel a : Nat) : laC T rel a r ≤ 9 ∧ fiC T rel a ≤ laC T rel a r := by
  have := fr_le hl
  unfold laC fiC
  split <;> omega
theorem c_firstChoice {rel a : Nat} (hX : XRep T n μ) (ha : a < n) (hrel : rel < 3) : Ct (GS g) l (2) yX0_firstChoice cX0_firstChoice 3 (some .int) [.ref (g.1 2), .int (nI rel), .int (nI a)] μ (Is (.int (nI (fiC T rel a))) μ) := by
  refine Ct.of (own := RX0) mi_X0_firstChoice rfl [some (.ref (g.1 2)), some (.int (nI rel)), some (.int (nI a))] (Nat.le_of_ble_eq_true rfl) rfl (fun p₀ e₀ s₀ m₀ b₀ h₀ c₀ F => ?_)
  refine V_aload_n F dX0_firstChoice_0 rfl ?_
  refine V_iload_n F dX0_firstChoice_1 rfl ?_
  refine V_iload_n F dX0_firstChoice_2 rfl ?_
  refine V_callVi F (q0 := 2) (c_isChosen hX ha hrel) mi_X0_isChosenWith mm_X0_isChosenWith lk_X0_103 dX0_firstChoice_3 (rmR (by omega)) rfl rfl (by decide) (Nat.le_of_ble_eq_true rfl) rfl rfl rfl ?_
  unfold fiC
  by_cases h : T 0 a = 3 ∧ rel = 1
  · rw [if_pos h, if_pos h]
    refine V_if_eq_f F (tgt := 13) dX0_firstChoice_6 (by decide) (by decide) ?_
    refine V_iconst F (v := nI 0) dX0_firstChoice_9 (by decide) ?_
    refine V_goto F (tgt := 15) dX0_firstChoice_10 (by decide) ?_
    exact V_iret F dX0_firstChoice_15 (⟨rfl, rfl⟩)
  · rw [if_neg h, if_neg h]
    refine V_if_eq_t F (tgt := 13) dX0_firstChoice_6 (by decide) (by decide) ?_
    refine V_bipush F (v := nI 9) dX0_firstChoice_13 (by decide) ?_
    exact V_iret F dX0_firstChoice_15 (⟨rfl, rfl⟩)
theorem c_lastChoice {rel a : Nat} {r : List Nat} (hX : XRep T n μ) (ha : a < n) (hrel : rel < 3) (hl : lok r) (h3 : r.length ≤ 3) : Ct (GS g) l (2) yX0_lastChoice cX0_lastChoice 4 (some .int) [.ref (g.1 2), .int (nI rel), .int (nI a), .int (nI (rc r))] μ (Is (.int (nI (laC T rel a r))) μ) := by
  have hr := (rc_lt hl h3).1
  refine Ct.of (own := RX0) mi_X0_lastChoice rfl [some (.ref (g.1 2)), some (.int (nI rel)), some (.int (nI a)), some (.int (nI (rc r)))] (Nat.le_of_ble_eq_true rfl) rfl (fun p₀ e₀ s₀ m₀ b₀ h₀ c₀ F => ?_)
  refine V_aload_n F dX0_lastChoice_0 rfl ?_
  refine V_iload_n F dX0_lastChoice_1 rfl ?_
  refine V_iload_n F dX0_lastChoice_2 rfl ?_
  refine V_callVi F (q0 := 2) (c_isChosen hX ha hrel) mi_X0_isChosenWith mm_X0_isChosenWith lk_X0_103 dX0_lastChoice_3 (rmR (by omega)) rfl rfl (by decide) (Nat.le_of_ble_eq_true rfl) rfl rfl rfl ?_
  unfold laC
  by_cases h : T 0 a = 3 ∧ rel = 1
  · rw [if_pos h, if_pos h]
    refine V_if_eq_f F (tgt := 16) dX0_lastChoice_6 (by decide) (by decide) ?_
    refine V_iload_n F dX0_lastChoice_9 rfl ?_
    refine V_callSNi F (c_nextFresh (show rc r < 2 ^ 31 by omega)) mi_X1_nextFresh ms_X1_nextFresh nk_X0_88 dX0_lastChoice_10 (rmR (by omega)) rfl rfl (by decide) (Nat.le_of_ble_eq_true rfl) ?_
    rw [fr_rc hl h3]
    refine V_goto F (tgt := 18) dX0_lastChoice_13 (by decide) ?_
    exact V_iret F dX0_lastChoice_18 (⟨rfl, rfl⟩)
  · rw [if_neg h, if_neg h]
    refine V_if_eq_t F (tgt := 16) dX0_lastChoice_6 (by decide) (by decide) ?_
    refine V_bipush F (v := nI 9) dX0_lastChoice_16 (by decide) ?_
    exact V_iret F dX0_lastChoice_18 (⟨rfl, rfl⟩)
end GAMEA

