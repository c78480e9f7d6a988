section MONO
variable {T : Tb} {n : Nat}
theorem flw_mono {rel k a v b : Nat} {r : List Nat} (h : flw T rel k a v b r = true) : flw T rel (k + 1) a v b r = true := by
  unfold flw at h ⊢
  obtain ⟨x, hx, h⟩ := List.any_eq_true.mp h
  exact List.any_eq_true.mpr ⟨x, hx, win_mono _ _ _ _ _ h⟩
theorem hld_mono {rel k a v q : Nat} {r : List Nat} (h : hld T rel k a v q r = true) : hld T rel (k + 1) a v q r = true := by
  unfold hld at h ⊢
  refine List.all_eq_true.mpr fun b hb => ?_
  have h := List.all_eq_true.mp h b hb
  rw [Bool.or_eq_true] at h ⊢
  exact h.imp id flw_mono
theorem sid_mono {rel k p q : Nat} {r : List Nat} (h : sid T rel k p q r = true) : sid T rel (k + 1) p q r = true := by
  unfold sid at h ⊢
  obtain ⟨a, ha, h⟩ := List.any_eq_true.mp h
  obtain ⟨v, hv, h⟩ := List.any_eq_true.mp h
  exact List.any_eq_true.mpr ⟨a, ha, List.any_eq_true.mpr ⟨v, hv, hld_mono h⟩⟩
theorem sid_le {rel j k p q : Nat} {r : List Nat} (hjk : j ≤ k) (h : sid T rel j p q r = true) : sid T rel k p q r = true := by
  induction hjk with
  | refl => exact h
  | step _ ih => exact sid_mono ih
/-- shifted by a round -/
def shf (P : Nat → Bool) : Nat → Bool
  | 0 => false
  | j + 1 => P j
theorem Sp.uniq {r r' k : Nat} {P : Nat → Bool} (hk : k ≤ 3) (h : Sp r P k) (h' : Sp r' P k) : r = r' := by
  have a := h.2
  have b := h'.2
  rcases h.1 with h1 | h1 <;> rcases h'.1 with h2 | h2
  · have c1 := (b r h1).mpr ((a r h1).mp (Nat.le_refl _))
    have c2 := (a r' h2).mpr ((b r' h2).mp (Nat.le_refl _))
    omega
  · have c1 := (b r h1).mpr ((a r h1).mp (Nat.le_refl _))
    omega
  · have c2 := (a r' h2).mpr ((b r' h2).mp (Nat.le_refl _))
    omega
  · omega
theorem Sp.cut {v k : Nat} {P : Nat → Bool} (hk : k ≤ 3) (h : Sp v P 3) (hP : ∀ j, k ≤ j → j ≤ 3 → P j = P k) : Sp v P k := by
  refine ⟨?_, fun j hj => h.2 j (by omega)⟩
  rcases h.1 with h1 | h1
  · by_cases hv : v ≤ k
    · exact Or.inl hv
    · exfalso
      have := (h.2 v h1).mp (Nat.le_refl _)
      rw [hP v (by omega) h1] at this
      exact hv ((h.2 k hk).mpr this)
  · exact Or.inr h1
theorem Sp.ext {v k : Nat} {P : Nat → Bool} (hk : k ≤ 3) (h : Sp v P k) (hP : ∀ j, k ≤ j → j ≤ 3 → P j = P k) : Sp v P 3 := by
  refine ⟨by have := h.1; omega, fun j hj => ?_⟩
  by_cases hjk : j ≤ k
  · exact h.2 j hjk
  · rw [hP j (by omega) hj, ← h.2 k (Nat.le_refl _)]
    have := h.1
    omega
theorem pre_mem {p i : Nat} {r : List Nat} : ∀ b, b ∈ (List.range i).filterMap (slA T p r) ↔ ∃ s, s < i ∧ slA T p r s = some b := by
  intro b
  rw [List.mem_filterMap]
  constructor
  · rintro ⟨s, hs, h⟩
    exact ⟨s, List.mem_range.mp hs, h⟩
  · rintro ⟨s, hs, h⟩
    exact ⟨s, List.mem_range.mpr hs, h⟩
theorem mvs_iff (hW : WF T n) {p : Nat} (hp : p < n) {r : List Nat} (b : Nat) : b ∈ mvs T p r ↔ ∃ s, s < 3 ∧ slA T p r s = some b := by
  rw [mvs_eq hW hp]
  exact pre_mem b
theorem slA_mvs (hW : WF T n) {p s b : Nat} (hp : p < n) {r : List Nat} (hs : s < 3) (h : slA T p r s = some b) : b ∈ mvs T p r := (mvs_iff hW hp b).mpr ⟨s, hs, h⟩
/-- what is asked of a position -/
def Pos (T : Tb) (n rel p q : Nat) (r : List Nat) (k : Nat) : Prop := p < n ∧ q < n ∧ rel < 3 ∧ lok r ∧ r.length + k ≤ 3 ∧ T 7 p ≤ r.length ∧ T 7 q ≤ r.length ∧ T 5 p ≤ k ∧ T 5 q ≤ k
/-- an answer of the game's methods: a number of rounds, the kept worths in order -/
def WQ (T : Tb) (n : Nat) (μ : Mem) (P : Nat → Bool) (k : Nat) : Option Value → Mem → Prop := fun ret μ' => ∃ v, ret = some (.int (nI v)) ∧ v ≤ 4 ∧ Sp v P k ∧ Memo T n μ' ∧ sameW μ μ'
theorem XInv.of_W {μ μ' : Mem} (h : XInv T n μ) (s : sameW μ μ') (m : Memo T n μ') : XInv T n μ' := ⟨h.1.of_sameW s, m⟩
/-- the worth of a position, as a contract -/
def WC (g : Gm) (l : Launch) (T : Tb) (n k : Nat) : Prop := ∀ (μ : Mem) (rel p q : Nat) (r : List Nat), XInv T n μ → Pos T n rel p q r k → Ct (GS g) l (4 * k + 4) yX0_worth cX0_worth 11 (some .int) [.ref (g.1 2), .int (nI rel), .int (nI p), .int (nI q), .int (nI (rc r)), .int (nI k)] μ (WQ T n μ (fun j => win T rel j p q r) k)
/-- where an answer leads -/
theorem lead (hW : WF T n) {rel k a b : Nat} {r : List Nat} (ha : a < n) (hb : b < n) (ha1 : 1 ≤ T 0 a ∧ T 0 a ≤ 3) (hb1 : 1 ≤ T 0 b ∧ T 0 b ≤ 3) (hk : T 0 a = T 0 b) (hrel : rel < 3) (hl : lok r) (hlen : r.length + (k + 1) ≤ 3) (h7a : T 7 a ≤ r.length) (h7b : T 7 b ≤ r.length) (h5a : T 5 a ≤ k + 1) (h5b : T 5 b ≤ k + 1) :
    (T 0 a ≠ 3 → Pos T n rel (T 3 a) (T 3 b) r k) ∧ (T 0 a = 3 → ∀ w, w ≤ fr r → Pos T n rel (T 3 a) (T 3 b) (w :: r) k) := by
  obtain ⟨a1, a2, a3, a4, a5⟩ := act_facts hW ha ha1.1 ha1.2
  obtain ⟨b1, b2, b3, b4, b5⟩ := act_facts hW hb hb1.1 hb1.2
  constructor
  · intro h3
    rw [if_neg h3] at a5
    rw [if_neg (by omega)] at b5
    exact ⟨by omega, by omega, hrel, hl, by omega, by omega, by omega, by omega, by omega⟩
  · intro h3 w hw
    rw [if_pos h3] at a5
    rw [if_pos (by omega)] at b5
    exact ⟨by omega, by omega, hrel, ⟨hw, hl⟩, by simp only [List.length_cons]; omega, by simp only [List.length_cons]; omega, by simp only [List.length_cons]; omega, by omega, by omega⟩
def loN (rel nm f : Nat) : Nat := if rel = 2 then 0 else if rel = 1 then nm else f
def hiN (rel nm f : Nat) : Nat := if rel = 1 then nm else f
theorem nxt_eq {rel a v : Nat} {r : List Nat} (hrel : rel < 3) (h3 : T 0 a = 3) : nxt T rel a v r = (List.range (hiN rel v (fr r) + 1 - loN rel v (fr r))).map (fun i => (loN rel v (fr r) + i) :: r) := by
  unfold nxt hiN loN
  rw [if_pos h3]
  rcases (by omega : rel = 0 ∨ rel = 1 ∨ rel = 2) with rfl | rfl | rfl
  · simp [show fr r + 1 - fr r = 1 by omega, List.range_succ]
  · simp [show v + 1 - v = 1 by omega, List.range_succ]
  · simp
end MONO
section GAMEB
variable {g : Gm} {l : Launch} {μ : Mem} {T : Tb} {n : Nat}
theorem c_answerWorth {k rel a nm b : Nat} {r : List Nat} (hC : WC g l T n k) (hI : XInv T n μ) (hrel : rel < 3) (ha : a < n) (hb : b < n) (ha1 : 1 ≤ T 0 a ∧ T 0 a ≤ 3) (hb1 : 1 ≤ T 0 b ∧ T 0 b ≤ 3) (hab : T 0 a = T 0 b) (hl : lok r) (hlen : r.length + (k + 1) ≤ 3) (h7a : T 7 a ≤ r.length) (h7b : T 7 b ≤ r.length) (h5a : T 5 a ≤ k + 1) (h5b : T 5 b ≤ k + 1) (hnm : nm ∈ nms T rel a r) : Ct (GS g) l (4 * k + 5) yX0_answerWorth cX0_answerWorth 15 (some .int) [.ref (g.1 2), .int (nI rel), .int (nI a), .int (nI nm), .int (nI b), .int (nI (rc r)), .int (nI (k + 1))] μ (WQ T n μ (fun j => flw T rel j a nm b r) k) := by
  have hX := hI.1
  have hn := hX.n24
  have hlead := lead hX.1 (rel := rel) ha hb ha1 hb1 hab hrel hl hlen h7a h7b h5a h5b
  have hr := rc_lt hl (by omega)
  have hr9 := hr.2.2 (by omega)
  have hfr := fr_le hl
  refine Ct.of (own := RX0) mi_X0_answerWorth rfl [some (.ref (g.1 2)), some (.int (nI rel)), some (.int (nI a)), some (.int (nI nm)), some (.int (nI b)), some (.int (nI (rc r))), some (.int (nI (k + 1))), none, none, none, none, none, none, none, none] (Nat.le_of_ble_eq_true rfl) rfl (fun p₀ e₀ s₀ m₀ b₀ h₀ c₀ F => ?_)
  refine V_aload_n F dX0_answerWorth_0 rfl ?_
  refine V_getf F (q0 := 2) (j := 0) lk_X0_9 dX0_answerWorth_1 ig_X0 rfl rfl (by decide) rfl rfl ?_
  refine V_getN F (q0 := 1) (j := 4) nk_X0_82 dX0_answerWorth_4 ig_X2 rfl rfl (by decide) rfl rfl ?_
  refine V_iload_n F dX0_answerWorth_7 rfl ?_
  refine V_callSNi F (c_at (q := 6) rfl (show a < 24 by omega) (hX.fld 3 rfl (by omega) ha)) mi_X3_at ms_X3_at nk_X0_60 dX0_answerWorth_8 (rmR (by omega)) rfl rfl (by decide) (Nat.le_of_ble_eq_true rfl) ?_
  refine V_istore F (lv' := [_, _, _, _, _, _, _, _, _, _, _, _, _, _, _]) dX0_answerWorth_11 (by decide) rfl rfl ?_
  refine V_aload_n F dX0_answerWorth_13 rfl ?_
  refine V_getf F (q0 := 2) (j := 0) lk_X0_9 dX0_answerWorth_14 ig_X0 rfl rfl (by decide) rfl rfl ?_
  refine V_getN F (q0 := 1) (j := 4) nk_X0_82 dX0_answerWorth_17 ig_X2 rfl rfl (by decide) rfl rfl ?_
  refine V_iload F dX0_answerWorth_20 rfl ?_
  refine V_callSNi F (c_at (q := 6) rfl (show b < 24 by omega) (hX.fld 3 rfl (by omega) hb)) mi_X3_at ms_X3_at nk_X0_60 dX0_answerWorth_22 (rmR (by omega)) rfl rfl (by decide) (Nat.le_of_ble_eq_true rfl) ?_
  refine V_istore F (lv' := [_, _, _, _, _, _, _, _, _, _, _, _, _, _, _]) dX0_answerWorth_25 (by decide) rfl rfl ?_
  refine V_aload_n F dX0_answerWorth_27 rfl ?_
  refine V_getf F (q0 := 2) (j := 0) lk_X0_9 dX0_answerWorth_28 ig_X0 rfl rfl (by decide) rfl rfl ?_
  refine V_getN F (q0 := 1) (j := 1) nk_X0_85 dX0_answerWorth_31 ig_X2 rfl rfl (by decide) rfl rfl ?_
  refine V_iload_n F dX0_answerWorth_34 rfl ?_
  refine V_callSNi F (c_at (q := 3) rfl (show a < 24 by omega) (hX.fld 0 rfl (by omega) ha)) mi_X3_at ms_X3_at nk_X0_60 dX0_answerWorth_35 (rmR (by omega)) rfl rfl (by decide) (Nat.le_of_ble_eq_true rfl) ?_
  refine V_iconst F (v := nI 3) dX0_answerWorth_38 (by decide) ?_
  refine V_icmp_eq_N F (tgt := 58) dX0_answerWorth_39 (by decide) (by omega) (by omega) (fun h3 => ?_) (fun h3 => ?_)
  · skip
    have hfl : ∀ v, v ≤ hiN rel nm (fr r) → v ≤ fr r := by
      intro v hv
      unfold hiN at hv
      split at hv
      · rename_i h1
        unfold nms at hnm
        rw [if_pos ⟨h3, h1⟩] at hnm
        have := List.mem_range.mp hnm
        omega
      · exact hv
    have hlh : loN rel nm (fr r) ≤ hiN rel nm (fr r) := by unfold loN hiN; split <;> split <;> omega
    have hhi := hfl _ (Nat.le_refl _)
    have loop : ∀ (d i best : Nat) (ν : Mem), loN rel nm (fr r) ≤ i → i + d = hiN rel nm (fr r) + 1 → best ≤ 4 → (best ≤ k ∨ best = 4) → (∀ j, j ≤ k → (best ≤ j ↔ ∃ w, loN rel nm (fr r) ≤ w ∧ w < i ∧ win T rel j (T 3 a) (T 3 b) (w :: r) = true)) → Memo T n ν → sameW μ ν →
        V (GS g) p₀ l e₀ (rmD (4 * k + 5)) s₀ m₀ (List.toArray [.ref (g.1 2), .int (nI rel), .int (nI a), .int (nI nm), .int (nI b), .int (nI (rc r)), .int (nI (k + 1))]) b₀ h₀ c₀ 15 0 0 (MQ b₀ (Qp (GS g) (WQ T n μ (fun j => flw T rel j a nm b r) k)) (List.toArray [.ref (g.1 2), .int (nI rel), .int (nI a), .int (nI nm), .int (nI b), .int (nI (rc r)), .int (nI (k + 1))]) s₀ 0 0 (gA (GS g))) 107 ([some (.ref (g.1 2)), some (.int (nI rel)), some (.int (nI a)), some (.int (nI nm)), some (.int (nI b)), some (.int (nI (rc r))), some (.int (nI (k + 1))), some (.int (nI (T 3 a))), some (.int (nI (T 3 b))), some (.int (nI (fr r))), some (.int (nI (loN rel nm (fr r)))), some (.int (nI (hiN rel nm (fr r)))), some (.int (nI best)), some (.int (nI i)), none]) ([]) (ν) := by
      intro d
      induction d with
      | zero =>
        intro i best ν hlo hi hb4 hbk hinv hM hS
        refine V_iload F dX0_answerWorth_107 rfl ?_
        refine V_iload F dX0_answerWorth_109 rfl ?_
        refine V_icmp_gt_N F (tgt := 151) dX0_answerWorth_111 (by decide) (by omega) (by omega) (fun h => ?_) (fun h => ?_)
        · skip
          refine V_iload F dX0_answerWorth_151 rfl ?_
          refine V_iret F dX0_answerWorth_153 ⟨best, rfl, hb4, ⟨hbk, fun j hj => (hinv j hj).trans ?_⟩, hM, hS⟩
          unfold flw
          rw [nxt_eq hrel h3, List.any_eq_true]
          constructor
          · rintro ⟨w, h1, h2, h4⟩
            exact ⟨w :: r, List.mem_map.mpr ⟨w - loN rel nm (fr r), List.mem_range.mpr (by omega), by rw [show loN rel nm (fr r) + (w - loN rel nm (fr r)) = w by omega]⟩, h4⟩
          · rintro ⟨x, hx, h4⟩
            obtain ⟨z, hz, rfl⟩ := List.mem_map.mp hx
            have := List.mem_range.mp hz
            exact ⟨_, by omega, by omega, h4⟩
        · omega
      | succ d ih =>
        intro i best ν hlo hi hb4 hbk hinv hM hS
        refine V_iload F dX0_answerWorth_107 rfl ?_
        refine V_iload F dX0_answerWorth_109 rfl ?_
        refine V_icmp_gt_N F (tgt := 151) dX0_answerWorth_111 (by decide) (by omega) (by omega) (fun h => ?_) (fun h => ?_)
        · omega
        · skip
          refine V_iload F dX0_answerWorth_114 rfl ?_
          refine V_iload F dX0_answerWorth_116 rfl ?_
          refine V_callSNi F (c_with (r := rc r) (v := i) (by omega) (by omega)) mi_X1_with ms_X1_with nk_X0_91 dX0_answerWorth_118 (rmR (by omega)) rfl rfl (by decide) (Nat.le_of_ble_eq_true rfl) ?_
          refine V_istore F (lv' := [_, _, _, _, _, _, _, _, _, _, _, _, _, _, _]) dX0_answerWorth_121 (by decide) rfl rfl ?_
          refine V_iload F dX0_answerWorth_123 rfl ?_
          refine V_aload_n F dX0_answerWorth_125 rfl ?_
          refine V_iload_n F dX0_answerWorth_126 rfl ?_
          refine V_iload F dX0_answerWorth_127 rfl ?_
          refine V_iload F dX0_answerWorth_129 rfl ?_
          refine V_iload F dX0_answerWorth_131 rfl ?_
          refine V_iload F dX0_answerWorth_133 rfl ?_
          refine V_iconst F (v := nI 1) dX0_answerWorth_135 (by decide) ?_
          refine V_isubN F (by omega) dX0_answerWorth_136 ?_
          rw [Nat.add_sub_cancel]
          refine V_callV F (q0 := 2) (hC ν rel (T 3 a) (T 3 b) (i :: r) (hI.of_W hS hM) (hlead.2 h3 i (by omega))) mi_X0_worth mm_X0_worth lk_X0_29 dX0_answerWorth_137 (rmR (by omega)) rfl rfl (by decide) (Nat.le_of_ble_eq_true rfl) rfl rfl rfl (fun r μ' h => ?_)
          obtain ⟨v, rfl, hv4, hSp, hM', hS'⟩ := h
          refine V_minN F lk_X0_67 dX0_answerWorth_140 (rmM (by omega) (Nat.le_of_ble_eq_true rfl)) (by omega) (by omega) ?_
          refine V_istore F (lv' := [_, _, _, _, _, _, _, _, _, _, _, _, _, _, _]) dX0_answerWorth_143 (by decide) rfl rfl ?_
          refine V_iinc F (lv' := [_, _, _, _, _, _, _, _, _, _, _, _, _, _, _]) dX0_answerWorth_145 rfl (by decide) rfl rfl ?_
          refine V_goto F (tgt := 107) dX0_answerWorth_148 (by decide) ?_
          rw [show nI i + Int32.ofInt 1 = nI (i + 1) from nI_1 i]
          refine V_msk [true, true, true, true, true, true, true, true, true, true, true, true, true, true, false] (lv' := [_, _, _, _, _, _, _, _, _, _, _, _, _, _, _]) rfl ?_
          refine ih (i + 1) (min best v) _ (by omega) (by omega) (by omega) (by have := hSp.1; omega) (fun j hj => ?_) hM' (hS.trans hS')
          have e : min best v ≤ j ↔ best ≤ j ∨ v ≤ j := by omega
          rw [e, hinv j hj, hSp.2 j hj]
          constructor
          · rintro (⟨w, h1, h2, h4⟩ | h4)
            · exact ⟨w, h1, by omega, h4⟩
            · exact ⟨i, hlo, by omega, h4⟩
          · rintro ⟨w, h1, h2, h4⟩
            by_cases hwi : w = i
            · subst hwi; exact Or.inr h4
            · exact Or.inl ⟨w, h1, by omega, h4⟩
    have start := loop (hiN rel nm (fr r) + 1 - loN rel nm (fr r)) (loN rel nm (fr r)) 4 μ (Nat.le_refl _) (by omega) (by omega) (Or.inr rfl) (fun j hj => ⟨fun q => by omega, fun ⟨w, h1, h2, _⟩ => by omega⟩) hI.2 (sameW.rfl' μ)
    refine V_iload F dX0_answerWorth_58 rfl ?_
    refine V_callSNi F (c_nextFresh (show rc r < 2 ^ 31 by omega)) mi_X1_nextFresh ms_X1_nextFresh nk_X0_88 dX0_answerWorth_60 (rmR (by omega)) rfl rfl (by decide) (Nat.le_of_ble_eq_true rfl) ?_
    rw [fr_rc hl (by omega)]
    refine V_istore F (lv' := [_, _, _, _, _, _, _, _, _, _, _, _, _, _, _]) dX0_answerWorth_63 (by decide) rfl rfl ?_
    refine V_iload_n F dX0_answerWorth_65 rfl ?_
    refine V_iconst F (v := nI 2) dX0_answerWorth_66 (by decide) ?_
    rcases (by omega : rel = 0 ∨ rel = 1 ∨ rel = 2) with rfl | rfl | rfl
    · skip
      refine V_icmp_ne_t F (tgt := 74) dX0_answerWorth_67 (by decide) (by decide) ?_
      refine V_iload_n F dX0_answerWorth_74 rfl ?_
      refine V_iconst F (v := nI 1) dX0_answerWorth_75 (by decide) ?_
      refine V_icmp_ne_t F (tgt := 83) dX0_answerWorth_76 (by decide) (by decide) ?_
      refine V_iload F dX0_answerWorth_83 rfl ?_
      refine V_istore F (lv' := [_, _, _, _, _, _, _, _, _, _, _, _, _, _, _]) dX0_answerWorth_85 (by decide) rfl rfl ?_
      refine V_iload_n F dX0_answerWorth_87 rfl ?_
      refine V_iconst F (v := nI 1) dX0_answerWorth_88 (by decide) ?_
      refine V_icmp_ne_t F (tgt := 96) dX0_answerWorth_89 (by decide) (by decide) ?_
      refine V_iload F dX0_answerWorth_96 rfl ?_
      refine V_istore F (lv' := [_, _, _, _, _, _, _, _, _, _, _, _, _, _, _]) dX0_answerWorth_98 (by decide) rfl rfl ?_
      refine V_iconst F (v := nI 4) dX0_answerWorth_100 (by decide) ?_
      refine V_istore F (lv' := [_, _, _, _, _, _, _, _, _, _, _, _, _, _, _]) dX0_answerWorth_101 (by decide) rfl rfl ?_
      refine V_iload F dX0_answerWorth_103 rfl ?_
      refine V_istore F (lv' := [_, _, _, _, _, _, _, _, _, _, _, _, _, _, _]) dX0_answerWorth_105 (by decide) rfl rfl ?_
      exact start
    · skip
      refine V_icmp_ne_t F (tgt := 74) dX0_answerWorth_67 (by decide) (by decide) ?_
      refine V_iload_n F dX0_answerWorth_74 rfl ?_
      refine V_iconst F (v := nI 1) dX0_answerWorth_75 (by decide) ?_
      refine V_icmp_ne_f F (tgt := 83) dX0_answerWorth_76 (by decide) (rfl) ?_
      refine V_iload_n F dX0_answerWorth_79 rfl ?_
      refine V_goto F (tgt := 85) dX0_answerWorth_80 (by decide) ?_
      refine V_istore F (lv' := [_, _, _, _, _, _, _, _, _, _, _, _, _, _, _]) dX0_answerWorth_85 (by decide) rfl rfl ?_
      refine V_iload_n F dX0_answerWorth_87 rfl ?_
      refine V_iconst F (v := nI 1) dX0_answerWorth_88 (by decide) ?_
      refine V_icmp_ne_f F (tgt := 96) dX0_answerWorth_89 (by decide) (rfl) ?_
      refine V_iload_n F dX0_answerWorth_92 rfl ?_
      refine V_goto F (tgt := 98) dX0_answerWorth_93 (by decide) ?_
      refine V_istore F (lv' := [_, _, _, _, _, _, _, _, _, _, _, _, _, _, _]) dX0_answerWorth_98 (by decide) rfl rfl ?_
      refine V_iconst F (v := nI 4) dX0_answerWorth_100 (by decide) ?_
      refine V_istore F (lv' := [_, _, _, _, _, _, _, _, _, _, _, _, _, _, _]) dX0_answerWorth_101 (by decide) rfl rfl ?_
      refine V_iload F dX0_answerWorth_103 rfl ?_
      refine V_istore F (lv' := [_, _, _, _, _, _, _, _, _, _, _, _, _, _, _]) dX0_answerWorth_105 (by decide) rfl rfl ?_
      exact start
    · skip
      refine V_icmp_ne_f F (tgt := 74) dX0_answerWorth_67 (by decide) (rfl) ?_
      refine V_iconst F (v := nI 0) dX0_answerWorth_70 (by decide) ?_
      refine V_goto F (tgt := 85) dX0_answerWorth_71 (by decide) ?_
      refine V_istore F (lv' := [_, _, _, _, _, _, _, _, _, _, _, _, _, _, _]) dX0_answerWorth_85 (by decide) rfl rfl ?_
      refine V_iload_n F dX0_answerWorth_87 rfl ?_
      refine V_iconst F (v := nI 1) dX0_answerWorth_88 (by decide) ?_
      refine V_icmp_ne_t F (tgt := 96) dX0_answerWorth_89 (by decide) (by decide) ?_
      refine V_iload F dX0_answerWorth_96 rfl ?_
      refine V_istore F (lv' := [_, _, _, _, _, _, _, _, _, _, _, _, _, _, _]) dX0_answerWorth_98 (by decide) rfl rfl ?_
      refine V_iconst F (v := nI 4) dX0_answerWorth_100 (by decide) ?_
      refine V_istore F (lv' := [_, _, _, _, _, _, _, _, _, _, _, _, _, _, _]) dX0_answerWorth_101 (by decide) rfl rfl ?_
      refine V_iload F dX0_answerWorth_103 rfl ?_
      refine V_istore F (lv' := [_, _, _, _, _, _, _, _, _, _, _, _, _, _, _]) dX0_answerWorth_105 (by decide) rfl rfl ?_
      exact start
  · have h3 : T 0 a ≠ 3 := h3
    refine V_aload_n F dX0_answerWorth_42 rfl ?_
    refine V_iload_n F dX0_answerWorth_43 rfl ?_
    refine V_iload F dX0_answerWorth_44 rfl ?_
    refine V_iload F dX0_answerWorth_46 rfl ?_
    refine V_iload F dX0_answerWorth_48 rfl ?_
    refine V_iload F dX0_answerWorth_50 rfl ?_
    refine V_iconst F (v := nI 1) dX0_answerWorth_52 (by decide) ?_
    refine V_isubN F (by omega) dX0_answerWorth_53 ?_
    rw [Nat.add_sub_cancel]
    refine V_callV F (q0 := 2) (hC μ rel (T 3 a) (T 3 b) r hI (hlead.1 h3)) mi_X0_worth mm_X0_worth lk_X0_29 dX0_answerWorth_54 (rmR (by omega)) rfl rfl (by decide) (Nat.le_of_ble_eq_true rfl) rfl rfl rfl (fun r μ' h => ?_)
    obtain ⟨v, rfl, hv4, hSp, hM', hS'⟩ := h
    refine V_iret F dX0_answerWorth_57 ⟨v, rfl, hv4, ⟨hSp.1, fun j hj => (hSp.2 j hj).trans ?_⟩, hM', hS'⟩
    unfold flw nxt
    rw [if_neg h3]
    simp
end GAMEB

