section GAMED0
variable {T : Tb} {n : Nat}
def kn (μ : Mem) (rel p q : Nat) : List Nat → Int32
  | [] => μ.1 14 (plc (max p q) (min p q) rel 0)
  | [v] => μ.1 14 (plc (max p q) (min p q) rel (v + 1))
  | _ => nI 0
def wrK (μ : Mem) (rel p q : Nat) (x : Int32) : List Nat → Mem
  | [] => wr μ 14 (plc (max p q) (min p q) rel 0) x
  | [v] => wr μ 14 (plc (max p q) (min p q) rel (v + 1)) x
  | _ => μ
theorem win_mm (rel k p q : Nat) (r : List Nat) : win T rel k (max p q) (min p q) r = win T rel k p q r := by
  rcases Nat.le_total p q with h | h
  · rw [Nat.max_eq_right h, Nat.min_eq_left h, win_symm]
  · rw [Nat.max_eq_left h, Nat.min_eq_right h]
theorem kn_view {μ : Mem} (hM : Memo T n μ) {rel p q : Nat} {view : Nat} (hp : p < 24) (hq : q < 24) (hne : p ≠ q) (hrel : rel < 3) (hv : view < 5) : μ.1 14 (plc (max p q) (min p q) rel view) = nI 0 ∨ ∃ w, μ.1 14 (plc (max p q) (min p q) rel view) = nI w ∧ 1 ≤ w ∧ w ≤ 4 ∧ Sp w (fun j => win T rel j p q (vls view)) 3 := by
  rcases hM (max p q) (min p q) rel view (by omega) (by omega) hrel hv with h | ⟨-, -, -, w, h1, h2, h3⟩
  · exact Or.inl h
  · refine Or.inr ⟨w, h1, ?_, h2, h3.1, fun j hj => by rw [h3.2 j hj]; show win T rel j (max p q) (min p q) (vls view) = true ↔ win T rel j p q (vls view) = true; rw [win_mm]⟩
    rcases Nat.eq_zero_or_pos w with z | z
    · have := (h3.2 0 (by omega)).mp (by omega)
      cases this
    · exact z
theorem kn_ok {μ : Mem} (hM : Memo T n μ) {rel p q : Nat} {r : List Nat} (hp : p < 24) (hq : q < 24) (hne : p ≠ q) (hrel : rel < 3) (hl : lok r) : kn μ rel p q r = nI 0 ∨ ∃ w, kn μ rel p q r = nI w ∧ 1 ≤ w ∧ w ≤ 4 ∧ Sp w (fun j => win T rel j p q r) 3 := by
  match r, hl with
  | [], _ => exact kn_view hM (view := 0) hp hq hne hrel (by omega)
  | [v], hl =>
    have hv := hl.1
    simp only [fr] at hv
    exact kn_view hM (view := v + 1) hp hq hne hrel (by omega)
  | _ :: _ :: _, _ => exact Or.inl rfl
theorem wr_memo {μ : Mem} (hM : Memo T n μ) {rel p q view w : Nat} (hn : n ≤ 24) (hp : p < n) (hq : q < n) (hne : p ≠ q) (hrel : rel < 3) (hv : view < 5) (h7p : T 7 p ≤ (vls view).length) (h7q : T 7 q ≤ (vls view).length) (hw4 : w ≤ 4) (hS : Sp w (fun j => win T rel j p q (vls view)) 3) : Memo T n (wr μ 14 (plc (max p q) (min p q) rel view) (nI w)) := by
  intro hi lo rel' view' h1 h2 h3 h4
  by_cases he : plc hi lo rel' view' = plc (max p q) (min p q) rel view
  · obtain ⟨e1, e2, e3, e4⟩ := plc_inj h1 h2 h3 h4 (show max p q < 24 by omega) (show min p q < max p q by omega) hrel hv he
    subst e1; subst e2; subst e3; subst e4
    rw [wr_eq]
    refine Or.inr ⟨by omega, ?_, ?_, w, rfl, hw4, hS.1, fun j hj => by rw [hS.2 j hj]; show _ ↔ win T rel' j (max p q) (min p q) _ = true; rw [win_mm]⟩
    · rcases Nat.le_total p q with h | h
      · rw [Nat.max_eq_right h]; exact h7q
      · rw [Nat.max_eq_left h]; exact h7p
    · rcases Nat.le_total p q with h | h
      · rw [Nat.min_eq_left h]; exact h7p
      · rw [Nat.min_eq_right h]; exact h7q
  · rw [wr_ne (fun q => he q.2)]
    exact hM hi lo rel' view' h1 h2 h3 h4
theorem wrK_ok {μ : Mem} (hM : Memo T n μ) {rel p q w : Nat} {r : List Nat} (hn : n ≤ 24) (hp : p < n) (hq : q < n) (hne : p ≠ q) (hrel : rel < 3) (hl : lok r) (h7p : T 7 p ≤ r.length) (h7q : T 7 q ≤ r.length) (hw4 : w ≤ 4) (hS : Sp w (fun j => win T rel j p q r) 3) : Memo T n (wrK μ rel p q (nI w) r) ∧ sameW μ (wrK μ rel p q (nI w) r) := by
  have hs : ∀ i x, sameW μ (wr μ 14 i x) := fun i x => ⟨fun c hc => by funext j; rw [wr_ne (fun q => hc q.1)], rfl⟩
  match r, hl with
  | [], _ => exact ⟨wr_memo hM (view := 0) hn hp hq hne hrel (by omega) h7p h7q hw4 hS, hs _ _⟩
  | [v], hl =>
    have hv := hl.1
    simp only [fr] at hv
    exact ⟨wr_memo hM (view := v + 1) hn hp hq hne hrel (by omega) h7p h7q hw4 hS, hs _ _⟩
  | _ :: _ :: _, _ => exact ⟨hM, sameW.rfl' μ⟩
end GAMED0
section GAMED
variable {g : Gm} {l : Launch} {μ : Mem} {T : Tb} {n : Nat}
theorem c_at_w {rel p q : Nat} {r : List Nat} (hp : p < 24) (hq : q < 24) (hne : p ≠ q) (hrel : rel < 3) (hl : lok r) : Ct (GS g) l 0 yX3_at cX3_at 2 (some .int) [.ref (g.1 14), .int (plI rel p q r)] μ (Is (.int (kn μ rel p q r)) μ) := by
  match r, hl with
  | [], _ => exact c_at (q := 14) rfl (plc_in (show max p q < 24 by omega) (show min p q < max p q by omega) hrel (by omega)).2.2.1 rfl
  | [v], hl =>
    have hv := hl.1
    simp only [fr] at hv
    exact c_at (q := 14) rfl (plc_in (show max p q < 24 by omega) (show min p q < max p q by omega) hrel (by omega)).2.2.1 rfl
  | _ :: _ :: _, _ => exact c_at_neg
theorem c_put_w {rel p q : Nat} {x : Int32} {r : List Nat} (hp : p < 24) (hq : q < 24) (hne : p ≠ q) (hrel : rel < 3) (hl : lok r) : Ct (GS g) l 0 yX3_put cX3_put 3 none [.ref (g.1 14), .int (plI rel p q r), .int x] μ (IsN (wrK μ rel p q x r)) := by
  match r, hl with
  | [], _ => exact c_put (q := 14) rfl (plc_in (show max p q < 24 by omega) (show min p q < max p q by omega) hrel (by omega)).2.2.1
  | [v], hl =>
    have hv := hl.1
    simp only [fr] at hv
    exact c_put (q := 14) rfl (plc_in (show max p q < 24 by omega) (show min p q < max p q by omega) hrel (by omega)).2.2.1
  | _ :: _ :: _, _ => exact c_put_neg
theorem c_worth0 {rel p q : Nat} {r : List Nat} (hI : XInv T n μ) (hpos : Pos T n rel p q r 0) : Ct (GS g) l (4 * 0 + 4) yX0_worth cX0_worth 11 (some .int) [.ref (g.1 2), .int (nI rel), .int (nI p), .int (nI q), .int (nI (rc r)), .int (nI 0)] μ (WQ T n μ (fun j => win T rel j p q r) 0) := by
  refine Ct.of (own := RX0) mi_X0_worth rfl [some (.ref (g.1 2)), some (.int (nI rel)), some (.int (nI p)), some (.int (nI q)), some (.int (nI (rc r))), some (.int (nI 0)), none, none, none, none, none] (Nat.le_of_ble_eq_true rfl) rfl (fun p₀ e₀ s₀ m₀ b₀ h₀ c₀ F => ?_)
  refine V_iload F dX0_worth_0 rfl ?_
  refine V_if_le_t F (tgt := 10) dX0_worth_2 (by decide) (by decide) ?_
  refine V_iconst F (v := nI 4) dX0_worth_10 (by decide) ?_
  refine V_iret F dX0_worth_11 ⟨4, rfl, by omega, ⟨Or.inr rfl, fun j hj => ⟨fun q => by omega, fun q => ?_⟩⟩, hI.2, sameW.rfl' μ⟩
  rw [show j = 0 by omega] at q
  cases q
theorem c_worthS {k rel p q : Nat} {r : List Nat} (hC : WC g l T n k) (hI : XInv T n μ) (hpos : Pos T n rel p q r (k + 1)) : Ct (GS g) l (4 * (k + 1) + 4) yX0_worth cX0_worth 11 (some .int) [.ref (g.1 2), .int (nI rel), .int (nI p), .int (nI q), .int (nI (rc r)), .int (nI (k + 1))] μ (WQ T n μ (fun j => win T rel j p q r) (k + 1)) := by
  have hn := hI.1.n24
  have hW := hI.1.1
  obtain ⟨hp, hq, hrel, hl, hlen, h7p, h7q, h5p, h5q⟩ := id hpos
  refine Ct.of (own := RX0) mi_X0_worth rfl [some (.ref (g.1 2)), some (.int (nI rel)), some (.int (nI p)), some (.int (nI q)), some (.int (nI (rc r))), some (.int (nI (k + 1))), none, none, none, none, none] (Nat.le_of_ble_eq_true rfl) rfl (fun p₀ e₀ s₀ m₀ b₀ h₀ c₀ F => ?_)
  refine V_iload F dX0_worth_0 rfl ?_
  refine V_if_le_f F (tgt := 10) dX0_worth_2 (by decide) (fun z => by rw [← nI_0] at z; have := (nI_leI (by omega) (by omega)).mp z; omega) ?_
  refine V_iload_n F dX0_worth_5 rfl ?_
  refine V_iload_n F dX0_worth_6 rfl ?_
  refine V_icmp_ne_N F (tgt := 12) dX0_worth_7 (by decide) (by omega) (by omega) (fun hne => ?_) (fun hne => ?_)
  · skip
    refine V_iload_n F dX0_worth_12 rfl ?_
    refine V_iload_n F dX0_worth_13 rfl ?_
    refine V_iload_n F dX0_worth_14 rfl ?_
    refine V_iload F dX0_worth_15 rfl ?_
    refine V_callSi F (c_placeOf hl (by omega) hrel (show p < 24 by omega) (show q < 24 by omega)) mi_X0_placeOf ms_X0_placeOf lk_X0_57 dX0_worth_17 (rmR (by omega)) rfl rfl (by decide) (Nat.le_of_ble_eq_true rfl) ?_
    refine V_istore F (lv' := [_, _, _, _, _, _, _, _, _, _, _]) dX0_worth_20 (by decide) rfl rfl ?_
    refine V_aload_n F dX0_worth_22 rfl ?_
    refine V_getf F (q0 := 2) (j := 1) lk_X0_15 dX0_worth_23 ig_X0 rfl rfl (by decide) rfl rfl ?_
    refine V_iload F dX0_worth_26 rfl ?_
    refine V_callSNi F (c_at_w (show p < 24 by omega) (show q < 24 by omega) hne hrel hl) mi_X3_at ms_X3_at nk_X0_60 dX0_worth_28 (rmR (by omega)) rfl rfl (by decide) (Nat.le_of_ble_eq_true rfl) ?_
    refine V_istore F (lv' := [_, _, _, _, _, _, _, _, _, _, _]) dX0_worth_31 (by decide) rfl rfl ?_
    refine V_iload F dX0_worth_33 rfl ?_
    have hstop : ∀ j, k + 1 ≤ j → j ≤ 3 → win T rel j p q r = win T rel (k + 1) p q r := fun j h1 _ => win_stop hW rel hp hq h5p h5q h1
    rcases kn_ok hI.2 (r := r) (show p < 24 by omega) (show q < 24 by omega) hne hrel hl with h0 | ⟨w, h0, h1, h4, hS⟩
    · rw [h0]
      refine V_if_eq_t F (tgt := 41) dX0_worth_35 (by decide) (nI_0) ?_
      refine V_aload_n F dX0_worth_41 rfl ?_
      refine V_iload_n F dX0_worth_42 rfl ?_
      refine V_iload_n F dX0_worth_43 rfl ?_
      refine V_iload_n F dX0_worth_44 rfl ?_
      refine V_iload F dX0_worth_45 rfl ?_
      refine V_iload F dX0_worth_47 rfl ?_
      refine V_callV F (q0 := 2) (c_sideWorth hC hI hpos) mi_X0_sideWorth mm_X0_sideWorth lk_X0_64 dX0_worth_49 (rmR (by omega)) rfl rfl (by decide) (Nat.le_of_ble_eq_true rfl) rfl rfl rfl (fun r μ' h => ?_)
      obtain ⟨v1, rfl, hv1, hS1, hM1, hW1⟩ := h
      refine V_istore F (lv' := [_, _, _, _, _, _, _, _, _, _, _]) dX0_worth_52 (by decide) rfl rfl ?_
      refine V_aload_n F dX0_worth_54 rfl ?_
      refine V_iload_n F dX0_worth_55 rfl ?_
      refine V_iload_n F dX0_worth_56 rfl ?_
      refine V_iload_n F dX0_worth_57 rfl ?_
      refine V_iload F dX0_worth_58 rfl ?_
      refine V_iload F dX0_worth_60 rfl ?_
      refine V_callV F (q0 := 2) (c_sideWorth hC (hI.of_W hW1 hM1) (⟨hq, hp, hrel, hl, hlen, h7q, h7p, h5q, h5p⟩ : Pos T n rel q p r (k + 1))) mi_X0_sideWorth mm_X0_sideWorth lk_X0_64 dX0_worth_62 (rmR (by omega)) rfl rfl (by decide) (Nat.le_of_ble_eq_true rfl) rfl rfl rfl (fun r μ' h => ?_)
      obtain ⟨v2, rfl, hv2, hS2, hM2, hW2⟩ := h
      refine V_istore F (lv' := [_, _, _, _, _, _, _, _, _, _, _]) dX0_worth_65 (by decide) rfl rfl ?_
      refine V_iload F dX0_worth_67 rfl ?_
      refine V_iload F dX0_worth_69 rfl ?_
      refine V_minN F lk_X0_67 dX0_worth_71 (rmM (by omega) (Nat.le_of_ble_eq_true rfl)) (by omega) (by omega) ?_
      have hSm : Sp (min v1 v2) (fun j => win T rel j p q r) (k + 1) := by
        refine ⟨by have := hS1.1; have := hS2.1; omega, fun j hj => ?_⟩
        have e : min v1 v2 ≤ j ↔ v1 ≤ j ∨ v2 ≤ j := by omega
        rw [e, hS1.2 j hj, hS2.2 j hj]
        cases j with
        | zero => exact ⟨fun z => z.elim (fun z => by cases z) (fun z => by cases z), fun z => by cases z⟩
        | succ j =>
          show _ ↔ win T rel (j + 1) p q r = true
          rw [win_eq, Bool.or_eq_true]
          exact Iff.rfl
      have hS3 := hSm.ext (by omega) hstop
      obtain ⟨hM3, hW3⟩ := wrK_ok hM2 (r := r) (by omega) hp hq hne hrel hl h7p h7q (show min v1 v2 ≤ 4 by omega) hS3
      refine V_istore F (lv' := [_, _, _, _, _, _, _, _, _, _, _]) dX0_worth_74 (by decide) rfl rfl ?_
      refine V_aload_n F dX0_worth_76 rfl ?_
      refine V_getf F (q0 := 2) (j := 1) lk_X0_15 dX0_worth_77 ig_X0 rfl rfl (by decide) rfl rfl ?_
      refine V_iload F dX0_worth_80 rfl ?_
      refine V_iload F dX0_worth_82 rfl ?_
      refine V_callSN0 F (c_put_w (r := r) (show p < 24 by omega) (show q < 24 by omega) hne hrel hl) mi_X3_put ms_X3_put nk_X0_23 dX0_worth_84 (rmR (by omega)) rfl rfl (by decide) (Nat.le_of_ble_eq_true rfl) ?_
      refine V_iload F dX0_worth_87 rfl ?_
      exact V_iret F dX0_worth_89 ⟨_, rfl, by omega, hSm, hM3, (hW1.trans hW2).trans hW3⟩
    · rw [h0]
      refine V_if_eq_f F (tgt := 41) dX0_worth_35 (by decide) (nI_nz (by omega) (by omega)) ?_
      refine V_iload F dX0_worth_38 rfl ?_
      exact V_iret F dX0_worth_40 ⟨w, rfl, h4, hS.cut (by omega) hstop, hI.2, sameW.rfl' μ⟩
  · have hne := Classical.not_not.mp hne
    subst hne
    refine V_iconst F (v := nI 4) dX0_worth_10 (by decide) ?_
    refine V_iret F dX0_worth_11 ⟨4, rfl, by omega, ⟨Or.inr rfl, fun j hj => ⟨fun q => by omega, fun q => ?_⟩⟩, hI.2, sameW.rfl' μ⟩
    have q : win T rel j p p r = true := q
    rw [win_refl] at q
    cases q
theorem c_worth (k : Nat) : WC g l T n k := by
  induction k with
  | zero => exact fun μ rel p q r hI hpos => c_worth0 hI hpos
  | succ k ih => exact fun μ rel p q r hI hpos => c_worthS ih hI hpos
end GAMED

