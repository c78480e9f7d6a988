section MODELI
variable {g : Gm} {l : Launch} {μ : Mem} {T : Tb} {n : Nat}
theorem atkL_app {rel k q : Nat} : ∀ (as : List Nat) (m : Nat) (a : Nat) (bs : List Nat), as = a :: bs → atkL T rel k q m as = match (nms T rel a []).find? (fun v => hld T rel k a v q []) with
    | some v => some (10 * m + v)
    | none => atkL T rel k q (m + 1) bs := by
  intro as m a bs h
  subst h
  rfl
theorem drop_cons {α : Type} (as : List α) (m : Nat) {a : α} (h : as[m]? = some a) : as.drop m = a :: as.drop (m + 1) := by
  obtain ⟨h1, h2⟩ := List.getElem?_eq_some_iff.mp h
  rw [List.drop_eq_getElem_cons h1, h2]
def sideA (s : Nat) : Option Nat → Int32
  | some y => nI (1000 * s + y)
  | none => -4
theorem c_mfirstAttack (hI : MInv T n μ) (p₁ q₁ rel₁ : Int32) : Ct (GS g) l (11) yX4_firstAttack cX4_firstAttack 9 (some .int) [.ref (g.1 15), .int p₁, .int q₁, .int rel₁] μ (MQA T n μ (rPair (fAtk T) T n p₁ q₁ rel₁)) := by
  have hn := hI.n24
  have hW := hI.1
  refine Ct.of (own := RX4) mi_X4_firstAttack rfl [some (.ref (g.1 15)), some (.int p₁), some (.int q₁), some (.int rel₁), none, none, none, none, none] (Nat.le_of_ble_eq_true rfl) rfl (fun p₀ e₀ s₀ m₀ b₀ h₀ c₀ F => ?_)
  refine V_aload_n F dX4_firstAttack_0 rfl ?_
  refine V_iload_n F dX4_firstAttack_1 rfl ?_
  refine V_iload_n F dX4_firstAttack_2 rfl ?_
  refine V_iload_n F dX4_firstAttack_3 rfl ?_
  refine V_callV F (q0 := 15) (c_pairError hI p₁ q₁ rel₁) mi_X4_pairError mm_X4_pairError lk_X4_156 dX4_firstAttack_4 (rmR (by omega)) rfl rfl (by decide) (Nat.le_of_ble_eq_true rfl) rfl rfl rfl (fun r μ' h => ?_)
  obtain ⟨rfl, hM, hS, hR⟩ := h
  refine V_istore F (lv' := [_, _, _, _, _, _, _, _, _]) dX4_firstAttack_7 (by decide) rfl rfl ?_
  refine V_iload F dX4_firstAttack_9 rfl ?_
  rcases rPair_cases (fAtk T) T (show n < 2 ^ 31 by omega) p₁ q₁ rel₁ with ⟨h1, h2⟩ | ⟨p, q, rel, hp, hq, hrel, rfl, rfl, rfl, z1, z2, h1, h2⟩
  · skip
    refine V_if_ge_f F (tgt := 17) dX4_firstAttack_11 (by decide) (fun z => Int32.not_lt.mpr z h1) ?_
    refine V_iload F dX4_firstAttack_14 rfl ?_
    exact V_iret F dX4_firstAttack_16 (⟨by rw [h2], hM, hS⟩)
  · rw [h1] at hR ⊢
    rw [h2]
    have hr := rnd_le (T := T) rel p q
    refine V_if_ge_t F (tgt := 17) dX4_firstAttack_11 (by decide) (by decide) ?_
    refine V_aload_n F dX4_firstAttack_17 rfl ?_
    refine V_iload_n F dX4_firstAttack_18 rfl ?_
    refine V_iload_n F dX4_firstAttack_19 rfl ?_
    refine V_callV F (q0 := 15) (c_separated (rel := rel) (p := p) (q := q) hM hp hq hrel (hR (by decide))) mi_X4_separated mm_X4_separated lk_X4_159 dX4_firstAttack_20 (rmR (by omega)) rfl rfl (by decide) (Nat.le_of_ble_eq_true rfl) rfl rfl rfl (fun r μ' h => ?_)
    obtain ⟨rfl, hF⟩ := h
    refine V_istore F (lv' := [_, _, _, _, _, _, _, _, _]) dX4_firstAttack_23 (by decide) rfl rfl ?_
    refine V_iload F dX4_firstAttack_25 rfl ?_
    unfold sdN
    by_cases h4 : rnd T rel p q = 4
    · rw [if_pos h4]
      refine V_if_ne_f F (tgt := 33) dX4_firstAttack_27 (by decide) (by decide) ?_
      refine V_bipush F (v := (-4)) dX4_firstAttack_30 (by decide) ?_
      exact V_iret F dX4_firstAttack_32 (⟨by unfold fAtk atkR; rw [if_pos h4], hF.mi hM, hS.trans hF.sx⟩)
    · rw [if_neg h4]
      obtain ⟨j, hj⟩ : ∃ j, rnd T rel p q = j + 1 := ⟨rnd T rel p q - 1, by omega⟩
      have hj3 : j < 3 := by omega
      have hres : fAtk T p q rel = match atkF T rel j p q with
          | some x => nI x
          | none => sideA 1 (atkF T rel j q p) := by
        unfold fAtk atkR
        rw [if_neg h4, hj, Nat.add_sub_cancel]
        cases atkF T rel j p q with
        | some x => rfl
        | none => cases atkF T rel j q p <;> rfl
      rw [hj]
      refine V_if_ne_t F (tgt := 33) dX4_firstAttack_27 (by decide) (nI_nz (by omega) (by omega)) ?_
      refine V_aload_n F dX4_firstAttack_33 rfl ?_
      refine V_iload F dX4_firstAttack_34 rfl ?_
      refine V_iload_n F dX4_firstAttack_36 rfl ?_
      refine V_iload_n F dX4_firstAttack_37 rfl ?_
      have hFm := hF.mi hM
      have hR2 : μ'.1 15 18 = nI rel := by rw [hF.2 _ _ (by omega)]; exact hR (by decide)
      refine V_callV F (q0 := 15) (c_starts (rel := rel) (k := j + 1) (p := p) (q := q) hFm (by omega) hp hq hR2) mi_X4_starts mm_X4_starts lk_X4_150 dX4_firstAttack_38 (rmR (by omega)) rfl rfl (by decide) (Nat.le_of_ble_eq_true rfl) rfl rfl rfl (fun r μ₃ h => ?_)
      obtain ⟨rfl, hF2, hL⟩ := h
      have hG := hF.trans hF2
      have hI3 := hG.mi hM
      have hS3 := hS.trans hG.sx
      have loop : ∀ (d s : Nat) (ν : Mem) (z7 z8 : Option Value), s + d = 2 → (∀ s', s' < s → atkF T rel j (psd p q s') (psd p q (1 - s')) = none) → FrW (j + 1) μ₃ ν → V (GS g) p₀ l e₀ (rmD (11)) s₀ m₀ (List.toArray [.ref (g.1 15), .int (nI p), .int (nI q), .int (nI rel)]) b₀ h₀ c₀ 9 0 0 (MQ b₀ (Qp (GS g) (MQA T n μ (fAtk T p q rel))) (List.toArray [.ref (g.1 15), .int (nI p), .int (nI q), .int (nI rel)]) s₀ 0 0 (gA (GS g))) 44 ([some (.ref (g.1 15)), some (.int (nI p)), some (.int (nI q)), some (.int (nI rel)), some (.int (nI 0)), some (.int (nI (j + 1))), some (.int (nI s)), z7, z8]) ([]) (ν) := by
        intro d
        induction d with
        | zero =>
          intro s ν z7 z8 hs hall hF
          refine V_iload F dX4_firstAttack_44 rfl ?_
          refine V_iconst F (v := nI 2) dX4_firstAttack_46 (by decide) ?_
          refine V_icmp_ge_N F (tgt := 163) dX4_firstAttack_47 (by decide) (by omega) (by omega) (fun hc => ?_) (fun hc => ?_)
          · skip
            refine V_bipush F (v := (-4)) dX4_firstAttack_163 (by decide) ?_
            refine V_iret F dX4_firstAttack_165 ⟨?_, hF.mi hI3, hS3.trans hF.sx⟩
            have e1 := hall 0 (by omega)
            have e2 := hall 1 (by omega)
            rw [hres, show atkF T rel j p q = none from e1, show atkF T rel j q p = none from e2]
            rfl
          · omega
        | succ d ih =>
          intro s ν z7 z8 hs hall hF
          have hs2 : s < 2 := by omega
          have l1 := mvs_len hW (psd_lt (s := s) hp hq) []
          have found : ∀ x, atkF T rel j (psd p q s) (psd p q (1 - s)) = some x → fAtk T p q rel = nI (1000 * s + x) := by
            intro x hx
            rw [hres]
            rcases (by omega : s = 0 ∨ s = 1) with rfl | rfl
            · rw [show atkF T rel j p q = some x from hx]
              show nI x = nI (1000 * 0 + x)
              rw [Nat.mul_zero, Nat.zero_add]
            · rw [show atkF T rel j p q = none from hall 0 (by omega), show atkF T rel j q p = some x from hx]
              rfl
          refine V_iload F dX4_firstAttack_44 rfl ?_
          refine V_iconst F (v := nI 2) dX4_firstAttack_46 (by decide) ?_
          refine V_icmp_ge_N F (tgt := 163) dX4_firstAttack_47 (by decide) (by omega) (by omega) (fun hc => ?_) (fun hc => ?_)
          · omega
          · have mloop : ∀ (e m : Nat) (ν : Mem) (z8 : Option Value), m + e = (mvs T (psd p q s) []).length → atkF T rel j (psd p q s) (psd p q (1 - s)) = atkL T rel j (psd p q (1 - s)) m ((mvs T (psd p q s) []).drop m) → FrW (j + 1) μ₃ ν → V (GS g) p₀ l e₀ (rmD (11)) s₀ m₀ (List.toArray [.ref (g.1 15), .int (nI p), .int (nI q), .int (nI rel)]) b₀ h₀ c₀ 9 0 0 (MQ b₀ (Qp (GS g) (MQA T n μ (fAtk T p q rel))) (List.toArray [.ref (g.1 15), .int (nI p), .int (nI q), .int (nI rel)]) s₀ 0 0 (gA (GS g))) 53 ([some (.ref (g.1 15)), some (.int (nI p)), some (.int (nI q)), some (.int (nI rel)), some (.int (nI 0)), some (.int (nI (j + 1))), some (.int (nI s)), some (.int (nI m)), z8]) ([]) (ν) := by
              intro e
              induction e with
              | zero =>
                intro m ν z8 hm hat hF
                refine V_msk [true, true, true, true, true, true, true, true, false] (lv' := [_, _, _, _, _, _, _, _, none]) (by cases z8 <;> rfl) ?_
                refine V_iload F dX4_firstAttack_53 rfl ?_
                refine V_aload_n F dX4_firstAttack_55 rfl ?_
                refine V_getf F (q0 := 15) (j := 10) lk_X4_41 dX4_firstAttack_56 ig_X4 rfl rfl (by decide) rfl rfl ?_
                refine V_iconst F (v := nI 2) dX4_firstAttack_59 (by decide) ?_
                refine V_iload F dX4_firstAttack_60 rfl ?_
                (first | refine V_imulN F dX4_firstAttack_62 ?_ | refine V_imul F dX4_firstAttack_62 ?_)
                refine V_iload F dX4_firstAttack_63 rfl ?_
                (first | refine V_iaddN F dX4_firstAttack_65 ?_ | refine V_iadd F dX4_firstAttack_65 ?_)
                refine V_ia F dX4_firstAttack_66 rfl (rfl) ((show 2 * (j + 1) + s < 8 by omega)) (((hL.of hF).side hs2).1) ?_
                refine V_icmp_ge_N F (tgt := 157) dX4_firstAttack_67 (by decide) (by omega) (by omega) (fun hc2 => ?_) (fun hc2 => ?_)
                · skip
                  refine V_iinc F (lv' := [_, _, _, _, _, _, _, _, _]) dX4_firstAttack_157 rfl (by decide) rfl rfl ?_
                  refine V_goto F (tgt := 44) dX4_firstAttack_160 (by decide) ?_
                  rw [show nI s + Int32.ofInt 1 = nI (s + 1) from nI_1 s]
                  refine ih (s + 1) ν _ _ (by omega) (fun s' hs' => ?_) hF
                  by_cases hss : s' = s
                  · subst hss
                    rw [hat, List.drop_eq_nil_of_le (by omega)]
                    rfl
                  · exact hall s' (by omega)
                · omega
              | succ e ihe =>
                intro m ν z8 hm hat hF
                obtain ⟨x, hx⟩ : ∃ x, (mvs T (psd p q s) [])[m]? = some x := ⟨_, List.getElem?_eq_getElem (by omega)⟩
                have hml := mlo_le (T := T) (r := []) trivial (by simp) rel x
                rw [drop_cons _ _ hx] at hat
                refine V_msk [true, true, true, true, true, true, true, true, false] (lv' := [_, _, _, _, _, _, _, _, none]) (by cases z8 <;> rfl) ?_
                refine V_iload F dX4_firstAttack_53 rfl ?_
                refine V_aload_n F dX4_firstAttack_55 rfl ?_
                refine V_getf F (q0 := 15) (j := 10) lk_X4_41 dX4_firstAttack_56 ig_X4 rfl rfl (by decide) rfl rfl ?_
                refine V_iconst F (v := nI 2) dX4_firstAttack_59 (by decide) ?_
                refine V_iload F dX4_firstAttack_60 rfl ?_
                (first | refine V_imulN F dX4_firstAttack_62 ?_ | refine V_imul F dX4_firstAttack_62 ?_)
                refine V_iload F dX4_firstAttack_63 rfl ?_
                (first | refine V_iaddN F dX4_firstAttack_65 ?_ | refine V_iadd F dX4_firstAttack_65 ?_)
                refine V_ia F dX4_firstAttack_66 rfl (rfl) ((show 2 * (j + 1) + s < 8 by omega)) (((hL.of hF).side hs2).1) ?_
                refine V_icmp_ge_N F (tgt := 157) dX4_firstAttack_67 (by decide) (by omega) (by omega) (fun hc2 => ?_) (fun hc2 => ?_)
                · omega
                · skip
                  refine V_aload_n F dX4_firstAttack_70 rfl ?_
                  refine V_iload F dX4_firstAttack_71 rfl ?_
                  refine V_iload F dX4_firstAttack_73 rfl ?_
                  refine V_iload F dX4_firstAttack_75 rfl ?_
                  refine V_callVi F (q0 := 15) (c_mlowest (rel := rel) (k := j + 1) (p := p) (q := q) (s := s) (m := m) (x := x) (r := []) (hF.mi hI3) (by omega) hp hq trivial (by simp) hs2 hrel (hL.of hF) hx) mi_X4_lowest mm_X4_lowest lk_X4_110 dX4_firstAttack_77 (rmR (by omega)) rfl rfl (by decide) (Nat.le_of_ble_eq_true rfl) rfl rfl rfl ?_
                  have vloop : ∀ (f v : Nat) (ν : Mem), mlo T rel x [] ≤ v → v + f = mhi T rel x [] + 1 → (nms T rel x []).find? (fun v => hld T rel j x v (psd p q (1 - s)) []) = ((List.range f).map (fun i => nmv T rel x (v + i))).find? (fun v => hld T rel j x v (psd p q (1 - s)) []) → FrW (j + 1) μ₃ ν → V (GS g) p₀ l e₀ (rmD (11)) s₀ m₀ (List.toArray [.ref (g.1 15), .int (nI p), .int (nI q), .int (nI rel)]) b₀ h₀ c₀ 9 0 0 (MQ b₀ (Qp (GS g) (MQA T n μ (fAtk T p q rel))) (List.toArray [.ref (g.1 15), .int (nI p), .int (nI q), .int (nI rel)]) s₀ 0 0 (gA (GS g))) 82 ([some (.ref (g.1 15)), some (.int (nI p)), some (.int (nI q)), some (.int (nI rel)), some (.int (nI 0)), some (.int (nI (j + 1))), some (.int (nI s)), some (.int (nI m)), some (.int (nI v))]) ([]) (ν) := by
                    intro f
                    induction f with
                    | zero =>
                      intro v ν q1 q2 hfi hF
                      refine V_iload F dX4_firstAttack_82 rfl ?_
                      refine V_aload_n F dX4_firstAttack_84 rfl ?_
                      refine V_iload F dX4_firstAttack_85 rfl ?_
                      refine V_iload F dX4_firstAttack_87 rfl ?_
                      refine V_iload F dX4_firstAttack_89 rfl ?_
                      refine V_callVi F (q0 := 15) (c_mhighest (rel := rel) (k := j + 1) (p := p) (q := q) (s := s) (m := m) (x := x) (r := []) (hF.mi hI3) (by omega) hp hq trivial (by simp) hs2 hrel (hL.of hF) hx) mi_X4_highest mm_X4_highest lk_X4_118 dX4_firstAttack_91 (rmR (by omega)) rfl rfl (by decide) (Nat.le_of_ble_eq_true rfl) rfl rfl rfl ?_
                      refine V_icmp_gt_N F (tgt := 151) dX4_firstAttack_94 (by decide) (by omega) (by omega) (fun hc3 => ?_) (fun hc3 => ?_)
                      · skip
                        refine V_iinc F (lv' := [_, _, _, _, _, _, _, _, _]) dX4_firstAttack_151 rfl (by decide) rfl rfl ?_
                        refine V_goto F (tgt := 53) dX4_firstAttack_154 (by decide) ?_
                        rw [show nI m + Int32.ofInt 1 = nI (m + 1) from nI_1 m]
                        refine ihe (m + 1) ν _ (by omega) ?_ hF
                        rw [hat, atkL, hfi]
                        rfl
                      · omega
                    | succ f ihf =>
                      intro v ν q1 q2 hfi hF
                      rw [range_map_succ', List.find?_cons, Nat.add_zero] at hfi
                      refine V_iload F dX4_firstAttack_82 rfl ?_
                      refine V_aload_n F dX4_firstAttack_84 rfl ?_
                      refine V_iload F dX4_firstAttack_85 rfl ?_
                      refine V_iload F dX4_firstAttack_87 rfl ?_
                      refine V_iload F dX4_firstAttack_89 rfl ?_
                      refine V_callVi F (q0 := 15) (c_mhighest (rel := rel) (k := j + 1) (p := p) (q := q) (s := s) (m := m) (x := x) (r := []) (hF.mi hI3) (by omega) hp hq trivial (by simp) hs2 hrel (hL.of hF) hx) mi_X4_highest mm_X4_highest lk_X4_118 dX4_firstAttack_91 (rmR (by omega)) rfl rfl (by decide) (Nat.le_of_ble_eq_true rfl) rfl rfl rfl ?_
                      refine V_icmp_gt_N F (tgt := 151) dX4_firstAttack_94 (by decide) (by omega) (by omega) (fun hc3 => ?_) (fun hc3 => ?_)
                      · omega
                      · skip
                        refine V_aload_n F dX4_firstAttack_97 rfl ?_
                        refine V_iload F dX4_firstAttack_98 rfl ?_
                        refine V_iload F dX4_firstAttack_100 rfl ?_
                        refine V_iload F dX4_firstAttack_102 rfl ?_
                        refine V_iload F dX4_firstAttack_104 rfl ?_
                        refine V_callV F (q0 := 15) (c_holds (rel := rel) (j := j) (p := p) (q := q) (s := s) (m := m) (v := v) (x := x) (r := []) (hF.mi hI3) hj3 hp hq hrel trivial (by simp only [List.length_nil]; omega) hs2 (hL.of hF) hx q1 (by omega)) mi_X4_holds mm_X4_holds lk_X4_162 dX4_firstAttack_106 (rmR (by omega)) rfl rfl (by decide) (Nat.le_of_ble_eq_true rfl) rfl rfl rfl (fun r μ' h => ?_)
                        obtain ⟨rfl, hF2⟩ := h
                        by_cases hh : hld T rel j x (nmv T rel x v) (psd p q (1 - s)) [] = true
                        · rw [if_pos hh]
                          rw [hh] at hfi
                          have hfa := found (10 * m + nmv T rel x v) (by rw [hat, atkL, hfi])
                          have out : V (GS g) p₀ l e₀ (rmD (11)) s₀ m₀ (List.toArray [.ref (g.1 15), .int (nI p), .int (nI q), .int (nI rel)]) b₀ h₀ c₀ 9 0 0 (MQ b₀ (Qp (GS g) (MQA T n μ (fAtk T p q rel))) (List.toArray [.ref (g.1 15), .int (nI p), .int (nI q), .int (nI rel)]) s₀ 0 0 (gA (GS g))) 143 ([some (.ref (g.1 15)), some (.int (nI p)), some (.int (nI q)), some (.int (nI rel)), some (.int (nI 0)), some (.int (nI (j + 1))), some (.int (nI s)), some (.int (nI m)), some (.int (nI v))]) ([.int (nI (nmv T rel x v)), .int (nI (1000 * s + 10 * m))]) (μ') := by
                            (first | refine V_iaddN F dX4_firstAttack_143 ?_ | refine V_iadd F dX4_firstAttack_143 ?_)
                            refine V_iret F dX4_firstAttack_144 ⟨?_, (hF.trans hF2).mi hI3, hS3.trans (hF.trans hF2).sx⟩
                            rw [hfa, Nat.add_assoc]
                          refine V_if_eq_f F (tgt := 145) dX4_firstAttack_109 (by decide) (by decide) ?_
                          refine V_sipush F (v := nI 1000) dX4_firstAttack_112 (by decide) ?_
                          refine V_iload F dX4_firstAttack_115 rfl ?_
                          (first | refine V_imulN F dX4_firstAttack_117 ?_ | refine V_imul F dX4_firstAttack_117 ?_)
                          refine V_bipush F (v := nI 10) dX4_firstAttack_118 (by decide) ?_
                          refine V_iload F dX4_firstAttack_120 rfl ?_
                          (first | refine V_imulN F dX4_firstAttack_122 ?_ | refine V_imul F dX4_firstAttack_122 ?_)
                          (first | refine V_iaddN F dX4_firstAttack_123 ?_ | refine V_iadd F dX4_firstAttack_123 ?_)
                          refine V_iload_n F dX4_firstAttack_124 rfl ?_
                          refine V_iconst F (v := nI 1) dX4_firstAttack_125 (by decide) ?_
                          refine V_icmp_ne_N F (tgt := 141) dX4_firstAttack_126 (by decide) (by omega) (by omega) (fun hr1 => ?_) (fun hr1 => ?_)
                          · have e : nmv T rel x v = 9 := by unfold nmv; rw [if_neg (fun z => hr1 z.2)]
                            rw [e] at out
                            refine V_bipush F (v := nI 9) dX4_firstAttack_141 (by decide) ?_
                            exact out
                          · have hr1 := Classical.not_not.mp hr1
                            refine V_iload F dX4_firstAttack_129 rfl ?_
                            refine V_bipush F (v := nI 6) dX4_firstAttack_131 (by decide) ?_
                            refine V_icmp_ge_N F (tgt := 141) dX4_firstAttack_133 (by decide) (by omega) (by omega) (fun hv6 => ?_) (fun hv6 => ?_)
                            · have e : nmv T rel x v = 9 := by
                                unfold nmv
                                rw [if_neg]
                                intro z
                                have : mhi T rel x [] = 3 := by unfold mhi; rw [if_pos z]; rfl
                                omega
                              rw [e] at out
                              refine V_bipush F (v := nI 9) dX4_firstAttack_141 (by decide) ?_
                              exact out
                            · have e : nmv T rel x v = v := by
                                unfold nmv
                                rw [if_pos]
                                refine ⟨Classical.byContradiction fun z => ?_, hr1⟩
                                have : mlo T rel x [] = 8 := by unfold mlo; rw [if_neg z]
                                omega
                              rw [e] at out
                              refine V_iload F dX4_firstAttack_136 rfl ?_
                              refine V_goto F (tgt := 143) dX4_firstAttack_138 (by decide) ?_
                              exact out
                        · rw [if_neg hh]
                          rw [Bool.not_eq_true] at hh
                          rw [hh] at hfi
                          refine V_if_eq_t F (tgt := 145) dX4_firstAttack_109 (by decide) (by decide) ?_
                          refine V_iinc F (lv' := [_, _, _, _, _, _, _, _, _]) dX4_firstAttack_145 rfl (by decide) rfl rfl ?_
                          refine V_goto F (tgt := 82) dX4_firstAttack_148 (by decide) ?_
                          rw [show nI v + Int32.ofInt 1 = nI (v + 1) from nI_1 v]
                          refine ihf (v + 1) _ (by omega) (by omega) ?_ (hF.trans hF2)
                          rw [hfi]
                          have em : (List.range f).map (fun i => nmv T rel x (v + (i + 1))) = (List.range f).map (fun i => nmv T rel x (v + 1 + i)) := by
                            apply List.map_congr_left
                            intro i _
                            rw [show v + (i + 1) = v + 1 + i by omega]
                          rw [← em]
                  refine V_istore F (lv' := [_, _, _, _, _, _, _, _, _]) dX4_firstAttack_80 (by decide) rfl rfl ?_
                  exact vloop (mhi T rel x [] + 1 - mlo T rel x []) (mlo T rel x []) ν (Nat.le_refl _) (by omega) (by rw [nms_mod]) hF
            refine V_msk [true, true, true, true, true, true, true, false, false] (lv' := [_, _, _, _, _, _, _, none, none]) (by cases z7 <;> cases z8 <;> rfl) ?_
            refine V_iconst F (v := nI 0) dX4_firstAttack_50 (by decide) ?_
            refine V_istore F (lv' := [_, _, _, _, _, _, _, _, _]) dX4_firstAttack_51 (by decide) rfl rfl ?_
            exact mloop _ 0 ν _ (Nat.zero_add _) rfl hF
      refine V_iconst F (v := nI 0) dX4_firstAttack_41 (by decide) ?_
      refine V_istore F (lv' := [_, _, _, _, _, _, _, _, _]) dX4_firstAttack_42 (by decide) rfl rfl ?_
      exact loop 2 0 _ _ _ rfl (fun s' q1 => absurd q1 (Nat.not_lt_zero s')) (FrW.rfl' _ _)
end MODELI

