section GAMEC
variable {g : Gm} {l : Launch} {μ : Mem} {T : Tb} {n : Nat}
/-- an action of a state, with its bounds -/
theorem mv_ok (hX : WF T n) {p a : Nat} (hp : p < n) {r : List Nat} (h : a ∈ mvs T p r) : a < n ∧ (1 ≤ T 0 a ∧ T 0 a ≤ 3) ∧ T 5 a ≤ T 5 p ∧ T 7 a ≤ T 7 p ∧ T 1 a < 3 + T 7 p ∧ T 2 a < 3 + T 7 p := by
  obtain ⟨h1, h2, h3, h4, h5, h6⟩ := mvs_mem hX hp h
  obtain ⟨f1, f2, -⟩ := act_facts hX (show a < n by omega) h3 h4
  exact ⟨by omega, ⟨h3, h4⟩, h5, h6, by omega, by omega⟩
theorem c_attackWorth {k rel a nm q : Nat} {r : List Nat} (hC : WC g l T n k) (hI : XInv T n μ) (hrel : rel < 3) (ha : a < n) (hq : q < n) (ha1 : 1 ≤ T 0 a ∧ T 0 a ≤ 3) (hl : lok r) (hlen : r.length + (k + 1) ≤ 3) (h7a : T 7 a ≤ r.length) (h7q : T 7 q ≤ r.length) (h5a : T 5 a ≤ k + 1) (h5q : T 5 q ≤ k + 1) (hnm : nm ∈ nms T rel a r) : Ct (GS g) l (4 * k + 6) yX0_attackWorth cX0_attackWorth 11 (some .int) [.ref (g.1 2), .int (nI rel), .int (nI a), .int (nI nm), .int (nI q), .int (nI (rc r)), .int (nI (k + 1))] μ (WQ T n μ (shf (fun j => hld T rel j a nm q r)) (k + 1)) := by
  have hn := hI.1.n24
  have hW := hI.1.1
  obtain ⟨na1, na2, -⟩ := act_facts hW ha ha1.1 ha1.2
  refine Ct.of (own := RX0) mi_X0_attackWorth rfl [some (.ref (g.1 2)), some (.int (nI rel)), some (.int (nI a)), some (.int (nI nm)), some (.int (nI q)), some (.int (nI (rc r))), some (.int (nI (k + 1))), none, none, none, none] (Nat.le_of_ble_eq_true rfl) rfl (fun p₀ e₀ s₀ m₀ b₀ h₀ c₀ F => ?_)
  have fin : ∀ (i h : Nat) (ν : Mem), h ≤ 4 → (h ≤ k ∨ h = 4) → (∀ j, j ≤ k → (h ≤ j ↔ hld T rel j a nm q r = true)) → Memo T n ν → sameW μ ν →
      V (GS g) p₀ l e₀ (rmD (4 * k + 6)) s₀ m₀ (List.toArray [.ref (g.1 2), .int (nI rel), .int (nI a), .int (nI nm), .int (nI q), .int (nI (rc r)), .int (nI (k + 1))]) b₀ h₀ c₀ 11 0 0 (MQ b₀ (Qp (GS g) (WQ T n μ (shf (fun j => hld T rel j a nm q r)) (k + 1))) (List.toArray [.ref (g.1 2), .int (nI rel), .int (nI a), .int (nI nm), .int (nI q), .int (nI (rc r)), .int (nI (k + 1))]) s₀ 0 0 (gA (GS g))) 82 ([some (.ref (g.1 2)), some (.int (nI rel)), some (.int (nI a)), some (.int (nI nm)), some (.int (nI q)), some (.int (nI (rc r))), some (.int (nI (k + 1))), some (.int (nI h)), some (.int (nI i)), none, none]) ([]) (ν) := by
    intro i h ν h4 hk hinv hM hS
    refine V_iconst F (v := nI 4) dX0_attackWorth_82 (by decide) ?_
    refine V_iload F dX0_attackWorth_83 rfl ?_
    refine V_iconst F (v := nI 1) dX0_attackWorth_85 (by decide) ?_
    (first | refine V_iaddN F dX0_attackWorth_86 ?_ | refine V_iadd F dX0_attackWorth_86 ?_)
    refine V_minN F lk_X0_67 dX0_attackWorth_87 (rmM (by omega) (Nat.le_of_ble_eq_true rfl)) (by omega) (by omega) ?_
    refine V_iret F dX0_attackWorth_90 ⟨min 4 (h + 1), rfl, by omega, ⟨by omega, fun j hj => ?_⟩, hM, hS⟩
    cases j with
    | zero => exact ⟨fun q => by omega, fun q => by cases q⟩
    | succ j =>
      show min 4 (h + 1) ≤ j + 1 ↔ hld T rel j a nm q r = true
      rw [← hinv j (by omega)]
      omega
  have loop : ∀ (d i h : Nat) (ν : Mem), i + d = 3 → h ≤ 4 → (h ≤ k ∨ h = 4) → (∀ j, j ≤ k → (h ≤ j ↔ ∀ b, (∃ s, s < i ∧ slA T q r s = some b) → agr T r a b = true → flw T rel j a nm b r = true)) → Memo T n ν → sameW μ ν →
      V (GS g) p₀ l e₀ (rmD (4 * k + 6)) s₀ m₀ (List.toArray [.ref (g.1 2), .int (nI rel), .int (nI a), .int (nI nm), .int (nI q), .int (nI (rc r)), .int (nI (k + 1))]) b₀ h₀ c₀ 11 0 0 (MQ b₀ (Qp (GS g) (WQ T n μ (shf (fun j => hld T rel j a nm q r)) (k + 1))) (List.toArray [.ref (g.1 2), .int (nI rel), .int (nI a), .int (nI nm), .int (nI q), .int (nI (rc r)), .int (nI (k + 1))]) s₀ 0 0 (gA (GS g))) 6 ([some (.ref (g.1 2)), some (.int (nI rel)), some (.int (nI a)), some (.int (nI nm)), some (.int (nI q)), some (.int (nI (rc r))), some (.int (nI (k + 1))), some (.int (nI h)), some (.int (nI i)), none, none]) ([]) (ν) := by
    intro d
    induction d with
    | zero =>
      intro i h ν hi h4 hk hinv hM hS
      refine V_iload F dX0_attackWorth_6 rfl ?_
      refine V_iconst F (v := nI 3) dX0_attackWorth_8 (by decide) ?_
      refine V_icmp_ge_N F (tgt := 82) dX0_attackWorth_9 (by decide) (by omega) (by omega) (fun hc => ?_) (fun hc => ?_)
      · refine fin i h ν h4 hk (fun j hj => (hinv j hj).trans ?_) hM hS
        unfold hld
        rw [List.all_eq_true]
        constructor
        · intro hb b hbm
          by_cases hag : agr T r a b = true
          · rw [hag]
            obtain ⟨s, hs, hsl⟩ := (mvs_iff hW hq b).mp hbm
            rw [hb b ⟨s, by omega, hsl⟩ hag]
            rfl
          · rw [Bool.not_eq_true] at hag
            rw [hag]
            rfl
        · intro hb b ⟨s, hs, hsl⟩ hag
          have h1 := hb b ((mvs_iff hW hq b).mpr ⟨s, by omega, hsl⟩)
          rw [hag] at h1
          simpa using h1
      · omega
    | succ d ih =>
      intro i h ν hi h4 hk hinv hM hS
      have hIν := hI.of_W hS hM
      refine V_iload F dX0_attackWorth_6 rfl ?_
      refine V_iconst F (v := nI 3) dX0_attackWorth_8 (by decide) ?_
      refine V_icmp_ge_N F (tgt := 82) dX0_attackWorth_9 (by decide) (by omega) (by omega) (fun hc => ?_) (fun hc => ?_)
      · omega
      · skip
        refine V_iload F dX0_attackWorth_12 rfl ?_
        refine V_iconst F (v := nI 4) dX0_attackWorth_14 (by decide) ?_
        refine V_icmp_ge_N F (tgt := 82) dX0_attackWorth_15 (by decide) (by omega) (by omega) (fun hc4 => ?_) (fun hc4 => ?_)
        · have hh4 : h = 4 := by omega
          refine fin i h ν h4 hk (fun j hj => ⟨fun q => by omega, fun hb => ?_⟩) hM hS
          refine (hinv j hj).mpr fun b ⟨s, hs, hsl⟩ hag => ?_
          unfold hld at hb
          have h1 := List.all_eq_true.mp hb b ((mvs_iff hW hq b).mpr ⟨s, by omega, hsl⟩)
          rw [hag] at h1
          simpa using h1
        · skip
          refine V_aload_n F dX0_attackWorth_18 rfl ?_
          refine V_getf F (q0 := 2) (j := 0) lk_X0_9 dX0_attackWorth_19 ig_X0 rfl rfl (by decide) rfl rfl ?_
          refine V_iload F dX0_attackWorth_22 rfl ?_
          refine V_iload F dX0_attackWorth_24 rfl ?_
          refine V_iload F dX0_attackWorth_26 rfl ?_
          refine V_callVNi F (q0 := 1) (c_actionIn hIν.1 hq (show i < 3 by omega) hl (by omega) h7q) mi_X2_actionIn mm_X2_actionIn nk_X0_41 dX0_attackWorth_28 (rmR (by omega)) rfl rfl (by decide) (Nat.le_of_ble_eq_true rfl) rfl rfl rfl ?_
          have next : ∀ (h' : Nat) (ν' : Mem) (x9 x10 : Option Value), h' ≤ 4 → (h' ≤ k ∨ h' = 4) → (∀ j, j ≤ k → (h' ≤ j ↔ ∀ b, (∃ s, s < i + 1 ∧ slA T q r s = some b) → agr T r a b = true → flw T rel j a nm b r = true)) → Memo T n ν' → sameW μ ν' →
              V (GS g) p₀ l e₀ (rmD (4 * k + 6)) s₀ m₀ (List.toArray [.ref (g.1 2), .int (nI rel), .int (nI a), .int (nI nm), .int (nI q), .int (nI (rc r)), .int (nI (k + 1))]) b₀ h₀ c₀ 11 0 0 (MQ b₀ (Qp (GS g) (WQ T n μ (shf (fun j => hld T rel j a nm q r)) (k + 1))) (List.toArray [.ref (g.1 2), .int (nI rel), .int (nI a), .int (nI nm), .int (nI q), .int (nI (rc r)), .int (nI (k + 1))]) s₀ 0 0 (gA (GS g))) 76 ([some (.ref (g.1 2)), some (.int (nI rel)), some (.int (nI a)), some (.int (nI nm)), some (.int (nI q)), some (.int (nI (rc r))), some (.int (nI (k + 1))), some (.int (nI h')), some (.int (nI i)), x9, x10]) ([]) (ν') := by
            intro h' ν' x9 x10 g4 gk ginv gM gS
            refine V_iinc F (lv' := [_, _, _, _, _, _, _, _, _, _, _]) dX0_attackWorth_76 rfl (by decide) rfl rfl ?_
            refine V_goto F (tgt := 6) dX0_attackWorth_79 (by decide) ?_
            rw [show nI i + Int32.ofInt 1 = nI (i + 1) from nI_1 i]
            refine V_msk [true, true, true, true, true, true, true, true, true, false, false] (lv' := [_, _, _, _, _, _, _, _, _, none, none]) (by cases x9 <;> cases x10 <;> rfl) ?_
            exact ih (i + 1) h' ν' (by omega) g4 gk ginv gM gS
          refine V_istore F (lv' := [_, _, _, _, _, _, _, _, _, _, _]) dX0_attackWorth_31 (by decide) rfl rfl ?_
          refine V_iload F dX0_attackWorth_33 rfl ?_
          refine V_bipush F (v := (-4)) dX0_attackWorth_35 (by decide) ?_
          cases hs : slA T q r i with
          | none =>
            refine V_icmp_eq_t F (tgt := 76) dX0_attackWorth_37 (by decide) (rfl) ?_
            refine next h ν _ _ h4 hk (fun j hj => (hinv j hj).trans ⟨fun hb b ⟨s, h1, h2⟩ => ?_, fun hb b ⟨s, h1, h2⟩ => hb b ⟨s, by omega, h2⟩⟩) hM hS
            by_cases hsi : s = i
            · subst hsi; rw [hs] at h2; cases h2
            · exact hb b ⟨s, by omega, h2⟩
          | some b =>
            have hbm := slA_mvs hW hq (show i < 3 by omega) hs
            obtain ⟨hbn, hb1, hb5, hb7, nb1, nb2⟩ := mv_ok hW hq hbm
            refine V_icmp_eq_f F (tgt := 76) dX0_attackWorth_37 (by decide) (fun q => by have := (ri_ne (by intro b' hb'; cases hb'; exact slA_lt hW (p := _) (by assumption) _ hs)).mp q; cases this) ?_
            refine V_aload_n F dX0_attackWorth_40 rfl ?_
            refine V_iload_n F dX0_attackWorth_41 rfl ?_
            refine V_iload F dX0_attackWorth_42 rfl ?_
            refine V_iload F dX0_attackWorth_44 rfl ?_
            refine V_callVi F (q0 := 2) (c_agree (a := a) (b := b) (r := r) hIν.1 ha hbn hl (by omega) ⟨by omega, by omega⟩ ⟨by omega, by omega⟩) mi_X0_agree mm_X0_agree lk_X0_72 dX0_attackWorth_46 (rmR (by omega)) rfl rfl (by decide) (Nat.le_of_ble_eq_true rfl) rfl rfl rfl ?_
            by_cases hag : agr T r a b = true
            · rw [if_pos hag]
              have hab : T 0 a = T 0 b := by
                unfold agr at hag
                simp only [Bool.and_eq_true, beq_iff_eq] at hag
                exact hag.1.1
              refine V_if_eq_f F (tgt := 76) dX0_attackWorth_49 (by decide) (by decide) ?_
              refine V_aload_n F dX0_attackWorth_52 rfl ?_
              refine V_iload_n F dX0_attackWorth_53 rfl ?_
              refine V_iload_n F dX0_attackWorth_54 rfl ?_
              refine V_iload_n F dX0_attackWorth_55 rfl ?_
              refine V_iload F dX0_attackWorth_56 rfl ?_
              refine V_iload F dX0_attackWorth_58 rfl ?_
              refine V_iload F dX0_attackWorth_60 rfl ?_
              refine V_callV F (q0 := 2) (c_answerWorth (k := k) (rel := rel) (a := a) (nm := nm) (b := b) (r := r) hC hIν hrel ha hbn ha1 hb1 hab hl hlen h7a (by omega) h5a (by omega) hnm) mi_X0_answerWorth mm_X0_answerWorth lk_X0_76 dX0_attackWorth_62 (rmR (by omega)) rfl rfl (by decide) (Nat.le_of_ble_eq_true rfl) rfl rfl rfl (fun r μ' h => ?_)
              obtain ⟨v, rfl, hv4, hSp, hM', hS'⟩ := h
              refine V_istore F (lv' := [_, _, _, _, _, _, _, _, _, _, _]) dX0_attackWorth_65 (by decide) rfl rfl ?_
              refine V_iload F dX0_attackWorth_67 rfl ?_
              refine V_iload F dX0_attackWorth_69 rfl ?_
              refine V_maxN F lk_X0_79 dX0_attackWorth_71 (rmM (by omega) (Nat.le_of_ble_eq_true rfl)) (by omega) (by omega) ?_
              refine V_istore F (lv' := [_, _, _, _, _, _, _, _, _, _, _]) dX0_attackWorth_74 (by decide) rfl rfl ?_
              refine next (max h v) _ _ _ (by omega) (by have := hSp.1; omega) (fun j hj => ?_) hM' (hS.trans hS')
              have e : max h v ≤ j ↔ h ≤ j ∧ v ≤ j := by omega
              rw [e, hinv j hj, hSp.2 j hj]
              constructor
              · rintro ⟨hb, hv⟩ b' ⟨s, h1, h2⟩ hag'
                by_cases hsi : s = i
                · subst hsi
                  rw [hs] at h2
                  cases h2
                  exact hv
                · exact hb b' ⟨s, by omega, h2⟩ hag'
              · intro hb
                exact ⟨fun b' ⟨s, h1, h2⟩ hag' => hb b' ⟨s, by omega, h2⟩ hag', hb b ⟨i, by omega, hs⟩ hag⟩
            · rw [if_neg hag]
              refine V_if_eq_t F (tgt := 76) dX0_attackWorth_49 (by decide) (by decide) ?_
              refine next h ν _ _ h4 hk (fun j hj => (hinv j hj).trans ⟨fun hb b' ⟨s, h1, h2⟩ => ?_, fun hb b' ⟨s, h1, h2⟩ => hb b' ⟨s, by omega, h2⟩⟩) hM hS
              by_cases hsi : s = i
              · subst hsi
                rw [hs] at h2
                cases h2
                exact fun hag' => absurd hag' hag
              · exact hb b' ⟨s, by omega, h2⟩
  refine V_iconst F (v := nI 0) dX0_attackWorth_0 (by decide) ?_
  refine V_istore F (lv' := [_, _, _, _, _, _, _, _, _, _, _]) dX0_attackWorth_1 (by decide) rfl rfl ?_
  refine V_iconst F (v := nI 0) dX0_attackWorth_3 (by decide) ?_
  refine V_istore F (lv' := [_, _, _, _, _, _, _, _, _, _, _]) dX0_attackWorth_4 (by decide) rfl rfl ?_
  exact loop 3 0 0 μ rfl (by omega) (Or.inl (by omega)) (fun j hj => ⟨fun _ b ⟨s, hs, _⟩ => absurd hs (Nat.not_lt_zero s), fun _ => Nat.zero_le _⟩) hI.2 (sameW.rfl' μ)
theorem c_sideWorth {k rel p q : Nat} {r : List Nat} (hC : WC g l T n k) (hI : XInv T n μ) (hpos : Pos T n rel p q r (k + 1)) : Ct (GS g) l (4 * k + 7) yX0_sideWorth cX0_sideWorth 12 (some .int) [.ref (g.1 2), .int (nI rel), .int (nI p), .int (nI q), .int (nI (rc r)), .int (nI (k + 1))] μ (WQ T n μ (shf (fun j => sid T rel j p q r)) (k + 1)) := by
  have hn := hI.1.n24
  have hW := hI.1.1
  obtain ⟨hp, hq, hrel, hl, hlen, h7p, h7q, h5p, h5q⟩ := hpos
  refine Ct.of (own := RX0) mi_X0_sideWorth rfl [some (.ref (g.1 2)), some (.int (nI rel)), some (.int (nI p)), some (.int (nI q)), some (.int (nI (rc r))), some (.int (nI (k + 1))), none, none, none, none, none, none] (Nat.le_of_ble_eq_true rfl) rfl (fun p₀ e₀ s₀ m₀ b₀ h₀ c₀ F => ?_)
  have fin : ∀ (i w : Nat) (ν : Mem), 1 ≤ w → w ≤ 4 → (w ≤ k + 1 ∨ w = 4) → (∀ j, j ≤ k → (w ≤ j + 1 ↔ sid T rel j p q r = true)) → Memo T n ν → sameW μ ν →
      V (GS g) p₀ l e₀ (rmD (4 * k + 7)) s₀ m₀ (List.toArray [.ref (g.1 2), .int (nI rel), .int (nI p), .int (nI q), .int (nI (rc r)), .int (nI (k + 1))]) b₀ h₀ c₀ 12 0 0 (MQ b₀ (Qp (GS g) (WQ T n μ (shf (fun j => sid T rel j p q r)) (k + 1))) (List.toArray [.ref (g.1 2), .int (nI rel), .int (nI p), .int (nI q), .int (nI (rc r)), .int (nI (k + 1))]) s₀ 0 0 (gA (GS g))) 103 ([some (.ref (g.1 2)), some (.int (nI rel)), some (.int (nI p)), some (.int (nI q)), some (.int (nI (rc r))), some (.int (nI (k + 1))), some (.int (nI w)), some (.int (nI i)), none, none, none, none]) ([]) (ν) := by
    intro i w ν h1 h4 hk hinv hM hS
    refine V_iload F dX0_sideWorth_103 rfl ?_
    refine V_iret F dX0_sideWorth_105 ⟨w, rfl, h4, ⟨hk, fun j hj => ?_⟩, hM, hS⟩
    cases j with
    | zero => exact ⟨fun q => by omega, fun q => by cases q⟩
    | succ j => exact hinv j (by omega)
  have loop : ∀ (d i w : Nat) (ν : Mem), i + d = 3 → 1 ≤ w → w ≤ 4 → (w ≤ k + 1 ∨ w = 4) → (∀ j, j ≤ k → (w ≤ j + 1 ↔ ∃ a, (∃ s, s < i ∧ slA T p r s = some a) ∧ ∃ v, v ∈ nms T rel a r ∧ hld T rel j a v q r = true)) → Memo T n ν → sameW μ ν →
      V (GS g) p₀ l e₀ (rmD (4 * k + 7)) s₀ m₀ (List.toArray [.ref (g.1 2), .int (nI rel), .int (nI p), .int (nI q), .int (nI (rc r)), .int (nI (k + 1))]) b₀ h₀ c₀ 12 0 0 (MQ b₀ (Qp (GS g) (WQ T n μ (shf (fun j => sid T rel j p q r)) (k + 1))) (List.toArray [.ref (g.1 2), .int (nI rel), .int (nI p), .int (nI q), .int (nI (rc r)), .int (nI (k + 1))]) s₀ 0 0 (gA (GS g))) 6 ([some (.ref (g.1 2)), some (.int (nI rel)), some (.int (nI p)), some (.int (nI q)), some (.int (nI (rc r))), some (.int (nI (k + 1))), some (.int (nI w)), some (.int (nI i)), none, none, none, none]) ([]) (ν) := by
    intro d
    induction d with
    | zero =>
      intro i w ν hi h1 h4 hk hinv hM hS
      refine V_iload F dX0_sideWorth_6 rfl ?_
      refine V_iconst F (v := nI 3) dX0_sideWorth_8 (by decide) ?_
      refine V_icmp_ge_N F (tgt := 103) dX0_sideWorth_9 (by decide) (by omega) (by omega) (fun hc => ?_) (fun hc => ?_)
      · refine fin i w ν h1 h4 hk (fun j hj => (hinv j hj).trans ?_) hM hS
        unfold sid
        rw [List.any_eq_true]
        constructor
        · rintro ⟨a, ⟨s, hs, hsl⟩, v, hv, hh⟩
          exact ⟨a, (mvs_iff hW hp a).mpr ⟨s, by omega, hsl⟩, List.any_eq_true.mpr ⟨v, hv, hh⟩⟩
        · rintro ⟨a, ham, hh⟩
          obtain ⟨v, hv, hh⟩ := List.any_eq_true.mp hh
          obtain ⟨s, hs, hsl⟩ := (mvs_iff hW hp a).mp ham
          exact ⟨a, ⟨s, by omega, hsl⟩, v, hv, hh⟩
      · omega
    | succ d ih =>
      intro i w ν hi h1 h4 hk hinv hM hS
      have hIν := hI.of_W hS hM
      refine V_iload F dX0_sideWorth_6 rfl ?_
      refine V_iconst F (v := nI 3) dX0_sideWorth_8 (by decide) ?_
      refine V_icmp_ge_N F (tgt := 103) dX0_sideWorth_9 (by decide) (by omega) (by omega) (fun hc => ?_) (fun hc => ?_)
      · omega
      · skip
        refine V_iload F dX0_sideWorth_12 rfl ?_
        refine V_iconst F (v := nI 1) dX0_sideWorth_14 (by decide) ?_
        refine V_icmp_le_N F (tgt := 103) dX0_sideWorth_15 (by decide) (by omega) (by omega) (fun hc4 => ?_) (fun hc4 => ?_)
        · have hw1 : w = 1 := by omega
          refine fin i w ν h1 h4 hk (fun j hj => ⟨fun _ => ?_, fun _ => by omega⟩) hM hS
          obtain ⟨a, ⟨s, hs, hsl⟩, v, hv, hh⟩ := (hinv 0 (by omega)).mp (by omega)
          refine sid_le (Nat.zero_le j) ?_
          unfold sid
          exact List.any_eq_true.mpr ⟨a, (mvs_iff hW hp a).mpr ⟨s, by omega, hsl⟩, List.any_eq_true.mpr ⟨v, hv, hh⟩⟩
        · skip
          refine V_aload_n F dX0_sideWorth_18 rfl ?_
          refine V_getf F (q0 := 2) (j := 0) lk_X0_9 dX0_sideWorth_19 ig_X0 rfl rfl (by decide) rfl rfl ?_
          refine V_iload_n F dX0_sideWorth_22 rfl ?_
          refine V_iload F dX0_sideWorth_23 rfl ?_
          refine V_iload F dX0_sideWorth_25 rfl ?_
          refine V_callVNi F (q0 := 1) (c_actionIn hIν.1 hp (show i < 3 by omega) hl (by omega) h7p) mi_X2_actionIn mm_X2_actionIn nk_X0_41 dX0_sideWorth_27 (rmR (by omega)) rfl rfl (by decide) (Nat.le_of_ble_eq_true rfl) rfl rfl rfl ?_
          have next : ∀ (w' : Nat) (ν' : Mem) (x8 x9 x10 x11 : Option Value), 1 ≤ w' → w' ≤ 4 → (w' ≤ k + 1 ∨ w' = 4) → (∀ j, j ≤ k → (w' ≤ j + 1 ↔ ∃ a, (∃ s, s < i + 1 ∧ slA T p r s = some a) ∧ ∃ v, v ∈ nms T rel a r ∧ hld T rel j a v q r = true)) → Memo T n ν' → sameW μ ν' →
              V (GS g) p₀ l e₀ (rmD (4 * k + 7)) s₀ m₀ (List.toArray [.ref (g.1 2), .int (nI rel), .int (nI p), .int (nI q), .int (nI (rc r)), .int (nI (k + 1))]) b₀ h₀ c₀ 12 0 0 (MQ b₀ (Qp (GS g) (WQ T n μ (shf (fun j => sid T rel j p q r)) (k + 1))) (List.toArray [.ref (g.1 2), .int (nI rel), .int (nI p), .int (nI q), .int (nI (rc r)), .int (nI (k + 1))]) s₀ 0 0 (gA (GS g))) 97 ([some (.ref (g.1 2)), some (.int (nI rel)), some (.int (nI p)), some (.int (nI q)), some (.int (nI (rc r))), some (.int (nI (k + 1))), some (.int (nI w')), some (.int (nI i)), x8, x9, x10, x11]) ([]) (ν') := by
            intro w' ν' x8 x9 x10 x11 g1 g4 gk ginv gM gS
            refine V_iinc F (lv' := [_, _, _, _, _, _, _, _, _, _, _, _]) dX0_sideWorth_97 rfl (by decide) rfl rfl ?_
            refine V_goto F (tgt := 6) dX0_sideWorth_100 (by decide) ?_
            rw [show nI i + Int32.ofInt 1 = nI (i + 1) from nI_1 i]
            refine V_msk [true, true, true, true, true, true, true, true, false, false, false, false] (lv' := [_, _, _, _, _, _, _, _, none, none, none, none]) (by cases x8 <;> cases x9 <;> cases x10 <;> cases x11 <;> rfl) ?_
            exact ih (i + 1) w' ν' (by omega) g1 g4 gk ginv gM gS
          refine V_istore F (lv' := [_, _, _, _, _, _, _, _, _, _, _, _]) dX0_sideWorth_30 (by decide) rfl rfl ?_
          refine V_iload F dX0_sideWorth_32 rfl ?_
          refine V_bipush F (v := (-4)) dX0_sideWorth_34 (by decide) ?_
          cases hs : slA T p r i with
          | none =>
            refine V_icmp_eq_t F (tgt := 97) dX0_sideWorth_36 (by decide) (rfl) ?_
            refine next w ν _ _ _ _ h1 h4 hk (fun j hj => (hinv j hj).trans ⟨fun ⟨a, ⟨s, c1, c2⟩, c3⟩ => ⟨a, ⟨s, by omega, c2⟩, c3⟩, fun ⟨a, ⟨s, c1, c2⟩, c3⟩ => ⟨a, ⟨s, ?_, c2⟩, c3⟩⟩) hM hS
            by_cases hsi : s = i
            · subst hsi; rw [hs] at c2; cases c2
            · omega
          | some a =>
            have ham := slA_mvs hW hp (show i < 3 by omega) hs
            obtain ⟨han, ha1, ha5, ha7, na1, na2⟩ := mv_ok hW hp ham
            have hla := laC_le (T := T) hl (show r.length ≤ 3 by omega) rel a
            refine V_icmp_eq_f F (tgt := 97) dX0_sideWorth_36 (by decide) (fun q => by have := (ri_ne (by intro b' hb'; cases hb'; exact slA_lt hW hp _ hs)).mp q; cases this) ?_
            refine V_aload_n F dX0_sideWorth_39 rfl ?_
            refine V_iload_n F dX0_sideWorth_40 rfl ?_
            refine V_iload F dX0_sideWorth_41 rfl ?_
            refine V_iload F dX0_sideWorth_43 rfl ?_
            refine V_callVi F (q0 := 2) (c_lastChoice (a := a) hIν.1 han hrel hl (by omega)) mi_X0_lastChoice mm_X0_lastChoice lk_X0_46 dX0_sideWorth_45 (rmR (by omega)) rfl rfl (by decide) (Nat.le_of_ble_eq_true rfl) rfl rfl rfl ?_
            refine V_istore F (lv' := [_, _, _, _, _, _, _, _, _, _, _, _]) dX0_sideWorth_48 (by decide) rfl rfl ?_
            refine V_aload_n F dX0_sideWorth_50 rfl ?_
            refine V_iload_n F dX0_sideWorth_51 rfl ?_
            refine V_iload F dX0_sideWorth_52 rfl ?_
            refine V_callVi F (q0 := 2) (c_firstChoice (a := a) hIν.1 han hrel) mi_X0_firstChoice mm_X0_firstChoice lk_X0_49 dX0_sideWorth_54 (rmR (by omega)) rfl rfl (by decide) (Nat.le_of_ble_eq_true rfl) rfl rfl rfl ?_
            have inner : ∀ (e nm w' : Nat) (ν' : Mem) (x11 : Option Value), fiC T rel a ≤ nm → nm + e = laC T rel a r + 1 → 1 ≤ w' → w' ≤ 4 → (w' ≤ k + 1 ∨ w' = 4) → (∀ j, j ≤ k → (w' ≤ j + 1 ↔ (∃ a, (∃ s, s < i ∧ slA T p r s = some a) ∧ ∃ v, v ∈ nms T rel a r ∧ hld T rel j a v q r = true) ∨ ∃ v, fiC T rel a ≤ v ∧ v < nm ∧ hld T rel j a v q r = true)) → Memo T n ν' → sameW μ ν' →
                V (GS g) p₀ l e₀ (rmD (4 * k + 7)) s₀ m₀ (List.toArray [.ref (g.1 2), .int (nI rel), .int (nI p), .int (nI q), .int (nI (rc r)), .int (nI (k + 1))]) b₀ h₀ c₀ 12 0 0 (MQ b₀ (Qp (GS g) (WQ T n μ (shf (fun j => sid T rel j p q r)) (k + 1))) (List.toArray [.ref (g.1 2), .int (nI rel), .int (nI p), .int (nI q), .int (nI (rc r)), .int (nI (k + 1))]) s₀ 0 0 (gA (GS g))) 59 ([some (.ref (g.1 2)), some (.int (nI rel)), some (.int (nI p)), some (.int (nI q)), some (.int (nI (rc r))), some (.int (nI (k + 1))), some (.int (nI w')), some (.int (nI i)), some (.int (nI a)), some (.int (nI (laC T rel a r))), some (.int (nI nm)), x11]) ([]) (ν') := by
              intro e
              induction e with
              | zero =>
                intro nm w' ν' x11 hnm0 hnm1 g1 g4 gk ginv gM gS
                refine V_iload F dX0_sideWorth_59 rfl ?_
                refine V_iload F dX0_sideWorth_61 rfl ?_
                refine V_icmp_gt_N F (tgt := 97) dX0_sideWorth_63 (by decide) (by omega) (by omega) (fun hd => ?_) (fun hd => ?_)
                · refine next w' ν' _ _ _ _ g1 g4 gk (fun j hj => (ginv j hj).trans ?_) gM gS
                  constructor
                  · rintro (⟨a', ⟨s, c1, c2⟩, c3⟩ | ⟨v, c1, c2, c3⟩)
                    · exact ⟨a', ⟨s, by omega, c2⟩, c3⟩
                    · refine ⟨a, ⟨i, by omega, hs⟩, v, ?_, c3⟩
                      rw [nms_eq]
                      exact List.mem_map.mpr ⟨v - fiC T rel a, List.mem_range.mpr (by omega), by omega⟩
                  · rintro ⟨a', ⟨s, c1, c2⟩, v, c3, c4⟩
                    by_cases hsi : s = i
                    · subst hsi
                      rw [hs] at c2
                      cases c2
                      rw [nms_eq] at c3
                      obtain ⟨z, hz, rfl⟩ := List.mem_map.mp c3
                      have := List.mem_range.mp hz
                      exact Or.inr ⟨_, by omega, by omega, c4⟩
                    · exact Or.inl ⟨a', ⟨s, by omega, c2⟩, v, c3, c4⟩
                · omega
              | succ e ihe =>
                intro nm w' ν' x11 hnm0 hnm1 g1 g4 gk ginv gM gS
                have hIν' := hI.of_W gS gM
                have hmem : nm ∈ nms T rel a r := by
                  rw [nms_eq]
                  exact List.mem_map.mpr ⟨nm - fiC T rel a, List.mem_range.mpr (by omega), by omega⟩
                refine V_iload F dX0_sideWorth_59 rfl ?_
                refine V_iload F dX0_sideWorth_61 rfl ?_
                refine V_icmp_gt_N F (tgt := 97) dX0_sideWorth_63 (by decide) (by omega) (by omega) (fun hd => ?_) (fun hd => ?_)
                · omega
                · skip
                  refine V_aload_n F dX0_sideWorth_66 rfl ?_
                  refine V_iload_n F dX0_sideWorth_67 rfl ?_
                  refine V_iload F dX0_sideWorth_68 rfl ?_
                  refine V_iload F dX0_sideWorth_70 rfl ?_
                  refine V_iload_n F dX0_sideWorth_72 rfl ?_
                  refine V_iload F dX0_sideWorth_73 rfl ?_
                  refine V_iload F dX0_sideWorth_75 rfl ?_
                  refine V_callV F (q0 := 2) (c_attackWorth (k := k) (rel := rel) (a := a) (nm := nm) (q := q) (r := r) hC hIν' hrel han hq ha1 hl hlen (by omega) h7q (by omega) h5q hmem) mi_X0_attackWorth mm_X0_attackWorth lk_X0_53 dX0_sideWorth_77 (rmR (by omega)) rfl rfl (by decide) (Nat.le_of_ble_eq_true rfl) rfl rfl rfl (fun r μ' h => ?_)
                  obtain ⟨v, rfl, hv4, hSp, hM', hS'⟩ := h
                  have hv1 : 1 ≤ v := by
                    have h00 := hSp.2 0 (by omega)
                    rcases Nat.eq_zero_or_pos v with z | z
                    · exact absurd (h00.mp (by omega)) (by simp [shf])
                    · exact z
                  refine V_istore F (lv' := [_, _, _, _, _, _, _, _, _, _, _, _]) dX0_sideWorth_80 (by decide) rfl rfl ?_
                  refine V_iload F dX0_sideWorth_82 rfl ?_
                  refine V_iload F dX0_sideWorth_84 rfl ?_
                  refine V_minN F lk_X0_67 dX0_sideWorth_86 (rmM (by omega) (Nat.le_of_ble_eq_true rfl)) (by omega) (by omega) ?_
                  refine V_istore F (lv' := [_, _, _, _, _, _, _, _, _, _, _, _]) dX0_sideWorth_89 (by decide) rfl rfl ?_
                  refine V_iinc F (lv' := [_, _, _, _, _, _, _, _, _, _, _, _]) dX0_sideWorth_91 rfl (by decide) rfl rfl ?_
                  refine V_goto F (tgt := 59) dX0_sideWorth_94 (by decide) ?_
                  rw [show nI nm + Int32.ofInt 1 = nI (nm + 1) from nI_1 nm]
                  refine ihe (nm + 1) (min w' v) _ _ (by omega) (by omega) (by omega) (by omega) (by have := hSp.1; omega) (fun j hj => ?_) hM' (gS.trans hS')
                  have e1 : min w' v ≤ j + 1 ↔ w' ≤ j + 1 ∨ v ≤ j + 1 := by omega
                  rw [e1, ginv j hj, hSp.2 (j + 1) (by omega)]
                  show (_ ∨ _) ∨ hld T rel j a nm q r = true ↔ _
                  constructor
                  · rintro ((c | ⟨v', c1, c2, c3⟩) | c)
                    · exact Or.inl c
                    · exact Or.inr ⟨v', c1, by omega, c3⟩
                    · exact Or.inr ⟨nm, hnm0, by omega, c⟩
                  · rintro (c | ⟨v', c1, c2, c3⟩)
                    · exact Or.inl (Or.inl c)
                    · by_cases hvn : v' = nm
                      · subst hvn; exact Or.inr c3
                      · exact Or.inl (Or.inr ⟨v', c1, by omega, c3⟩)
            refine V_istore F (lv' := [_, _, _, _, _, _, _, _, _, _, _, _]) dX0_sideWorth_57 (by decide) rfl rfl ?_
            refine inner (laC T rel a r + 1 - fiC T rel a) (fiC T rel a) w ν _ (Nat.le_refl _) (by omega) h1 h4 hk (fun j hj => (hinv j hj).trans ⟨Or.inl, fun c => c.elim id (fun ⟨v, c1, c2, _⟩ => by omega)⟩) hM hS
  refine V_iconst F (v := nI 4) dX0_sideWorth_0 (by decide) ?_
  refine V_istore F (lv' := [_, _, _, _, _, _, _, _, _, _, _, _]) dX0_sideWorth_1 (by decide) rfl rfl ?_
  refine V_iconst F (v := nI 0) dX0_sideWorth_3 (by decide) ?_
  refine V_istore F (lv' := [_, _, _, _, _, _, _, _, _, _, _, _]) dX0_sideWorth_4 (by decide) rfl rfl ?_
  exact loop 3 0 4 μ rfl (by omega) (by omega) (Or.inr rfl) (fun j hj => ⟨fun q => by omega, fun ⟨a, ⟨s, hs, _⟩, _⟩ => absurd hs (Nat.not_lt_zero s)⟩) hI.2 (sameW.rfl' μ)
end GAMEC

