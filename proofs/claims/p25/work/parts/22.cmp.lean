section CMP0
variable {T : Tb} {n : Nat}
/-- the number of rounds of two closed processes; 4: never -/
def rnd (T : Tb) (rel p q : Nat) : Nat := if win T rel 1 p q [] = true then 1 else if win T rel 2 p q [] = true then 2 else if win T rel 3 p q [] = true then 3 else 4
theorem rnd_Sp (rel p q : Nat) : Sp (rnd T rel p q) (fun j => win T rel j p q []) 3 := by
  have m1 : win T rel 1 p q [] = true → win T rel 2 p q [] = true := win_mono rel 1 p q []
  have m2 : win T rel 2 p q [] = true → win T rel 3 p q [] = true := win_mono rel 2 p q []
  unfold rnd
  by_cases h1 : win T rel 1 p q [] = true
  · rw [if_pos h1]
    refine ⟨by omega, fun j hj => ?_⟩
    rcases (by omega : j = 0 ∨ j = 1 ∨ j = 2 ∨ j = 3) with rfl | rfl | rfl | rfl
    · exact ⟨fun z => by omega, fun z => by cases z⟩
    · exact ⟨fun _ => h1, fun _ => by omega⟩
    · exact ⟨fun _ => m1 h1, fun _ => by omega⟩
    · exact ⟨fun _ => m2 (m1 h1), fun _ => by omega⟩
  · rw [if_neg h1]
    by_cases h2 : win T rel 2 p q [] = true
    · rw [if_pos h2]
      refine ⟨by omega, fun j hj => ?_⟩
      rcases (by omega : j = 0 ∨ j = 1 ∨ j = 2 ∨ j = 3) with rfl | rfl | rfl | rfl
      · exact ⟨fun z => by omega, fun z => by cases z⟩
      · exact ⟨fun z => by omega, fun z => absurd z h1⟩
      · exact ⟨fun _ => h2, fun _ => by omega⟩
      · exact ⟨fun _ => m2 h2, fun _ => by omega⟩
    · rw [if_neg h2]
      by_cases h3 : win T rel 3 p q [] = true
      · rw [if_pos h3]
        refine ⟨by omega, fun j hj => ?_⟩
        rcases (by omega : j = 0 ∨ j = 1 ∨ j = 2 ∨ j = 3) with rfl | rfl | rfl | rfl
        · exact ⟨fun z => by omega, fun z => by cases z⟩
        · exact ⟨fun z => by omega, fun z => absurd z h1⟩
        · exact ⟨fun z => by omega, fun z => absurd z h2⟩
        · exact ⟨fun _ => h3, fun _ => by omega⟩
      · rw [if_neg h3]
        refine ⟨by omega, fun j hj => ?_⟩
        rcases (by omega : j = 0 ∨ j = 1 ∨ j = 2 ∨ j = 3) with rfl | rfl | rfl | rfl
        · exact ⟨fun z => by omega, fun z => by cases z⟩
        · exact ⟨fun z => by omega, fun z => absurd z h1⟩
        · exact ⟨fun z => by omega, fun z => absurd z h2⟩
        · exact ⟨fun z => by omega, fun z => absurd z h3⟩
theorem rnd_le (rel p q : Nat) : 1 ≤ rnd T rel p q ∧ rnd T rel p q ≤ 4 := by
  unfold rnd; split <;> (try split) <;> (try split) <;> omega
theorem rnd_symm (rel p q : Nat) : rnd T rel p q = rnd T rel q p := by
  unfold rnd; simp only [win_symm rel _ p q]
theorem rnd_refl (rel p : Nat) : rnd T rel p p = 4 := by
  unfold rnd; simp [win_refl]
def rdI (T : Tb) (rel p q : Nat) : Int32 := if rnd T rel p q = 4 then -4 else nI (rnd T rel p q)
/-- the first attack in a list of moves that wins within k rounds and one -/
def atkL (T : Tb) (rel k q : Nat) : Nat → List Nat → Option Nat
  | _, [] => none
  | m, a :: as => match (nms T rel a []).find? (fun v => hld T rel k a v q []) with
    | some v => some (10 * m + v)
    | none => atkL T rel k q (m + 1) as
def atkF (T : Tb) (rel k p q : Nat) : Option Nat := atkL T rel k q 0 (mvs T p [])
def atI : Option Nat → Int32
  | some x => nI x
  | none => -4
def atkR (T : Tb) (rel p q : Nat) : Int32 := if rnd T rel p q = 4 then -4 else match atkF T rel (rnd T rel p q - 1) p q with
  | some x => nI x
  | none => match atkF T rel (rnd T rel p q - 1) q p with
    | some y => nI (1000 + y)
    | none => -4
def rPair (f : Nat → Nat → Nat → Int32) (T : Tb) (n : Nat) (p q rel : Int32) : Int32 := match pj n p with
  | none => -1
  | some i => match pj n q with
    | none => -1
    | some j => match pj 3 rel with
      | none => -1
      | some k => if T 7 i = 0 ∧ T 7 j = 0 then f i j k else -2
def lows (T : Tb) (rel p : Nat) : Nat := ((List.range p).find? (fun q => T 7 q == 0 && rnd T rel p q == 4)).getD p
def cls (T : Tb) (n rel : Nat) : Nat := ((List.range n).filter (fun p => T 7 p == 0 && lows T rel p == p)).length
def rCls (T : Tb) (n : Nat) (rel : Int32) : Int32 := match pj 3 rel with
  | none => -1
  | some k => nI (cls T n k)
def XQ (T : Tb) (n : Nat) (μ : Mem) (v : Int32) : Option Value → Mem → Prop := fun ret μ' => ret = some (.int v) ∧ Memo T n μ' ∧ sameW μ μ'
def rstS (T : Tb) (p : Nat) : Nat → Nat → List Nat
  | 0, _ => []
  | d + 1, i => (slA T p [] i).toList ++ rstS T p d (i + 1)
theorem mvs_rst (hW : WF T n) {p : Nat} (hp : p < n) : mvs T p [] = rstS T p 3 0 := by
  rw [mvs_eq hW hp]
  simp only [List.range_succ, List.range_zero, List.nil_append, List.cons_append, List.filterMap_cons, List.filterMap_nil, rstS]
  cases slA T p [] 0 <;> cases slA T p [] (0 + 1) <;> cases slA T p [] (0 + 1 + 1) <;> simp_all
theorem range_map_succ (e nm : Nat) : (List.range (e + 1)).map (nm + ·) = nm :: (List.range e).map (nm + 1 + ·) := by
  rw [List.range_succ_eq_map, List.map_cons, List.map_map]
  congr 1
  apply List.map_congr_left
  intro x _
  simp only [Function.comp]
  omega
theorem pos3 (hW : WF T n) {rel p q : Nat} (hp : p < n) (hq : q < n) (hrel : rel < 3) (h7p : T 7 p = 0) (h7q : T 7 q = 0) : Pos T n rel p q [] 3 :=
  ⟨hp, hq, hrel, trivial, by simp, by simp [h7p], by simp [h7q], (hW.depth hp).1, (hW.depth hq).1⟩
end CMP0
section CMP
variable {g : Gm} {l : Launch} {μ : Mem} {T : Tb} {n : Nat}
theorem c_roundsOf {rel p q : Nat} (hI : XInv T n μ) (hp : p < n) (hq : q < n) (hrel : rel < 3) (h7p : T 7 p = 0) (h7q : T 7 q = 0) : Ct (GS g) l (21) yX0_roundsOf cX0_roundsOf 5 (some .int) [.ref (g.1 2), .int (nI p), .int (nI q), .int (nI rel)] μ (XQ T n μ (rdI T rel p q)) := by
  have hr := rnd_le (T := T) rel p q
  refine Ct.of (own := RX0) mi_X0_roundsOf rfl [some (.ref (g.1 2)), some (.int (nI p)), some (.int (nI q)), some (.int (nI rel)), none] (Nat.le_of_ble_eq_true rfl) rfl (fun p₀ e₀ s₀ m₀ b₀ h₀ c₀ F => ?_)
  refine V_aload_n F dX0_roundsOf_0 rfl ?_
  refine V_iload_n F dX0_roundsOf_1 rfl ?_
  refine V_iload_n F dX0_roundsOf_2 rfl ?_
  refine V_iload_n F dX0_roundsOf_3 rfl ?_
  refine V_iconst F (v := nI 1) dX0_roundsOf_4 (by decide) ?_
  refine V_iconst F (v := nI 3) dX0_roundsOf_5 (by decide) ?_
  refine V_callV F (q0 := 2) (c_worth 3 μ rel p q [] hI (pos3 hI.1.1 hp hq hrel h7p h7q)) mi_X0_worth mm_X0_worth lk_X0_29 dX0_roundsOf_6 (rmR (by omega)) rfl rfl (by decide) (Nat.le_of_ble_eq_true rfl) rfl rfl rfl (fun r μ' h => ?_)
  obtain ⟨v, rfl, hv4, hSp, hM', hW'⟩ := h
  have hv : v = rnd T rel p q := hSp.uniq (by omega) (rnd_Sp rel p q)
  subst hv
  refine V_istore F (lv' := [_, _, _, _, _]) dX0_roundsOf_9 (by decide) rfl rfl ?_
  refine V_iload F dX0_roundsOf_11 rfl ?_
  refine V_iconst F (v := nI 4) dX0_roundsOf_13 (by decide) ?_
  unfold rdI
  refine V_icmp_ne_N F (tgt := 22) dX0_roundsOf_14 (by decide) (by omega) (by omega) (fun hc => ?_) (fun hc => ?_)
  · rw [if_neg hc]
    refine V_iload F dX0_roundsOf_22 rfl ?_
    exact V_iret F dX0_roundsOf_24 (⟨rfl, hM', hW'⟩)
  · rw [if_pos (Classical.not_not.mp hc)]
    refine V_bipush F (v := (-4)) dX0_roundsOf_17 (by decide) ?_
    refine V_goto F (tgt := 24) dX0_roundsOf_19 (by decide) ?_
    exact V_iret F dX0_roundsOf_24 (⟨rfl, hM', hW'⟩)
theorem c_attackWith {rel p q k : Nat} (hI : XInv T n μ) (hp : p < n) (hq : q < n) (hrel : rel < 3) (h7p : T 7 p = 0) (h7q : T 7 q = 0) (hk : k < 3) (hmin : ∀ j, j < k → sid T rel j p q [] = false) : Ct (GS g) l (21) yX0_attackWith cX0_attackWith 11 (some .int) [.ref (g.1 2), .int (nI rel), .int (nI p), .int (nI q), .int (nI (k + 1))] μ (XQ T n μ (atI (atkF T rel k p q))) := by
  have hn := hI.1.n24
  have hW := hI.1.1
  refine Ct.of (own := RX0) mi_X0_attackWith rfl [some (.ref (g.1 2)), some (.int (nI rel)), some (.int (nI p)), some (.int (nI q)), some (.int (nI (k + 1))), none, none, none, none, none, none] (Nat.le_of_ble_eq_true rfl) rfl (fun p₀ e₀ s₀ m₀ b₀ h₀ c₀ F => ?_)
  have loop : ∀ (d i m : Nat) (ν : Mem), i + d = 3 → m ≤ i → atkF T rel k p q = atkL T rel k q m (rstS T p d i) → Memo T n ν → sameW μ ν →
      V (GS g) p₀ l e₀ (rmD (21)) s₀ m₀ (List.toArray [.ref (g.1 2), .int (nI rel), .int (nI p), .int (nI q), .int (nI (k + 1))]) b₀ h₀ c₀ 11 0 0 (MQ b₀ (Qp (GS g) (XQ T n μ (atI (atkF T rel k p q)))) (List.toArray [.ref (g.1 2), .int (nI rel), .int (nI p), .int (nI q), .int (nI (k + 1))]) s₀ 0 0 (gA (GS g))) 9 ([some (.ref (g.1 2)), some (.int (nI rel)), some (.int (nI p)), some (.int (nI q)), some (.int (nI (k + 1))), some (.int (nI 1)), some (.int (nI m)), some (.int (nI i)), none, none, none]) ([]) (ν) := by
    intro d
    induction d with
    | zero =>
      intro i m ν hi hm hres hM hS
      refine V_iload F dX0_attackWith_9 rfl ?_
      refine V_iconst F (v := nI 3) dX0_attackWith_11 (by decide) ?_
      refine V_icmp_ge_N F (tgt := 105) dX0_attackWith_12 (by decide) (by omega) (by omega) (fun hc => ?_) (fun hc => ?_)
      · skip
        refine V_bipush F (v := (-4)) dX0_attackWith_105 (by decide) ?_
        exact V_iret F dX0_attackWith_107 (⟨by rw [hres]; rfl, hM, hS⟩)
      · omega
    | succ d ih =>
      intro i m ν hi hm hres hM hS
      have hIν := hI.of_W hS hM
      refine V_iload F dX0_attackWith_9 rfl ?_
      refine V_iconst F (v := nI 3) dX0_attackWith_11 (by decide) ?_
      refine V_icmp_ge_N F (tgt := 105) dX0_attackWith_12 (by decide) (by omega) (by omega) (fun hc => ?_) (fun hc => ?_)
      · omega
      · skip
        refine V_aload_n F dX0_attackWith_15 rfl ?_
        refine V_getf F (q0 := 2) (j := 0) lk_X0_9 dX0_attackWith_16 ig_X0 rfl rfl (by decide) rfl rfl ?_
        refine V_iload_n F dX0_attackWith_19 rfl ?_
        refine V_iload F dX0_attackWith_20 rfl ?_
        refine V_iload F dX0_attackWith_22 rfl ?_
        refine V_callVNi F (q0 := 1) (c_actionIn (r := []) hIν.1 hp (show i < 3 by omega) trivial (by simp) (by simp [h7p])) mi_X2_actionIn mm_X2_actionIn nk_X0_41 dX0_attackWith_24 (rmR (by omega)) rfl rfl (by decide) (Nat.le_of_ble_eq_true rfl) rfl rfl rfl ?_
        refine V_istore F (lv' := [_, _, _, _, _, _, _, _, _, _, _]) dX0_attackWith_27 (by decide) rfl rfl ?_
        refine V_iload F dX0_attackWith_29 rfl ?_
        refine V_bipush F (v := (-4)) dX0_attackWith_31 (by decide) ?_
        cases hs : slA T p [] i with
        | none =>
          rw [show rstS T p (d + 1) i = rstS T p d (i + 1) by simp [rstS, hs]] at hres
          refine V_icmp_eq_t F (tgt := 99) dX0_attackWith_33 (by decide) (rfl) ?_
          refine V_iinc F (lv' := [_, _, _, _, _, _, _, _, _, _, _]) dX0_attackWith_99 rfl (by decide) rfl rfl ?_
          refine V_goto F (tgt := 9) dX0_attackWith_102 (by decide) ?_
          rw [show nI i + Int32.ofInt 1 = nI (i + 1) from nI_1 i]
          refine V_msk [true, true, true, true, true, true, true, true, false, false, false] (lv' := [_, _, _, _, _, _, _, _, _, _, _]) rfl ?_
          exact ih (i + 1) m ν (by omega) (by omega) hres hM hS
        | some a =>
          rw [show rstS T p (d + 1) i = a :: rstS T p d (i + 1) by simp [rstS, hs]] at hres
          have ham := slA_mvs hW hp (show i < 3 by omega) hs
          obtain ⟨han, ha1, ha5, ha7, na1, na2⟩ := mv_ok hW hp ham
          have hla := laC_le (T := T) (r := []) trivial (by simp) rel a
          have hdp := (hW.depth hp).1
          have hdq := (hW.depth hq).1
          refine V_icmp_eq_f F (tgt := 99) dX0_attackWith_33 (by decide) (fun q => by have := (ri_ne (by intro b' hb'; cases hb'; exact slA_lt hW hp _ hs)).mp q; cases this) ?_
          refine V_aload_n F dX0_attackWith_36 rfl ?_
          refine V_iload_n F dX0_attackWith_37 rfl ?_
          refine V_iload F dX0_attackWith_38 rfl ?_
          refine V_iload F dX0_attackWith_40 rfl ?_
          refine V_callVi F (q0 := 2) (c_lastChoice (a := a) (r := []) hIν.1 han hrel trivial (by simp)) mi_X0_lastChoice mm_X0_lastChoice lk_X0_46 dX0_attackWith_42 (rmR (by omega)) rfl rfl (by decide) (Nat.le_of_ble_eq_true rfl) rfl rfl rfl ?_
          refine V_istore F (lv' := [_, _, _, _, _, _, _, _, _, _, _]) dX0_attackWith_45 (by decide) rfl rfl ?_
          refine V_aload_n F dX0_attackWith_47 rfl ?_
          refine V_iload_n F dX0_attackWith_48 rfl ?_
          refine V_iload F dX0_attackWith_49 rfl ?_
          refine V_callVi F (q0 := 2) (c_firstChoice (a := a) hIν.1 han hrel) mi_X0_firstChoice mm_X0_firstChoice lk_X0_49 dX0_attackWith_51 (rmR (by omega)) rfl rfl (by decide) (Nat.le_of_ble_eq_true rfl) rfl rfl rfl ?_
          have inner : ∀ (e nm : Nat) (ν' : Mem), fiC T rel a ≤ nm → nm + e = laC T rel a [] + 1 → (nms T rel a []).find? (fun v => hld T rel k a v q []) = ((List.range e).map (nm + ·)).find? (fun v => hld T rel k a v q []) → Memo T n ν' → sameW μ ν' →
              V (GS g) p₀ l e₀ (rmD (21)) s₀ m₀ (List.toArray [.ref (g.1 2), .int (nI rel), .int (nI p), .int (nI q), .int (nI (k + 1))]) b₀ h₀ c₀ 11 0 0 (MQ b₀ (Qp (GS g) (XQ T n μ (atI (atkF T rel k p q)))) (List.toArray [.ref (g.1 2), .int (nI rel), .int (nI p), .int (nI q), .int (nI (k + 1))]) s₀ 0 0 (gA (GS g))) 56 ([some (.ref (g.1 2)), some (.int (nI rel)), some (.int (nI p)), some (.int (nI q)), some (.int (nI (k + 1))), some (.int (nI 1)), some (.int (nI m)), some (.int (nI i)), some (.int (nI a)), some (.int (nI (laC T rel a []))), some (.int (nI nm))]) ([]) (ν') := by
            intro e
            induction e with
            | zero =>
              intro nm ν' hnm0 hnm1 hf gM gS
              refine V_iload F dX0_attackWith_56 rfl ?_
              refine V_iload F dX0_attackWith_58 rfl ?_
              refine V_icmp_gt_N F (tgt := 96) dX0_attackWith_60 (by decide) (by omega) (by omega) (fun hd => ?_) (fun hd => ?_)
              · skip
                refine V_iinc F (lv' := [_, _, _, _, _, _, _, _, _, _, _]) dX0_attackWith_96 rfl (by decide) rfl rfl ?_
                refine V_iinc F (lv' := [_, _, _, _, _, _, _, _, _, _, _]) dX0_attackWith_99 rfl (by decide) rfl rfl ?_
                refine V_goto F (tgt := 9) dX0_attackWith_102 (by decide) ?_
                rw [show nI i + Int32.ofInt 1 = nI (i + 1) from nI_1 i, show nI m + Int32.ofInt 1 = nI (m + 1) from nI_1 m]
                refine V_msk [true, true, true, true, true, true, true, true, false, false, false] (lv' := [_, _, _, _, _, _, _, _, _, _, _]) rfl ?_
                refine ih (i + 1) (m + 1) ν' (by omega) (by omega) ?_ gM gS
                rw [hres, atkL, hf]
                rfl
              · omega
            | succ e ihe =>
              intro nm ν' hnm0 hnm1 hf gM gS
              have hIν' := hI.of_W gS gM
              have hmem : nm ∈ nms T rel a [] := by
                rw [nms_eq]
                exact List.mem_map.mpr ⟨nm - fiC T rel a, List.mem_range.mpr (by omega), by omega⟩
              rw [range_map_succ, List.find?_cons] at hf
              refine V_iload F dX0_attackWith_56 rfl ?_
              refine V_iload F dX0_attackWith_58 rfl ?_
              refine V_icmp_gt_N F (tgt := 96) dX0_attackWith_60 (by decide) (by omega) (by omega) (fun hd => ?_) (fun hd => ?_)
              · omega
              · skip
                refine V_aload_n F dX0_attackWith_63 rfl ?_
                refine V_iload_n F dX0_attackWith_64 rfl ?_
                refine V_iload F dX0_attackWith_65 rfl ?_
                refine V_iload F dX0_attackWith_67 rfl ?_
                refine V_iload_n F dX0_attackWith_69 rfl ?_
                refine V_iload F dX0_attackWith_70 rfl ?_
                refine V_iconst F (v := nI 3) dX0_attackWith_72 (by decide) ?_
                refine V_callV F (q0 := 2) (c_attackWorth (k := 2) (rel := rel) (a := a) (nm := nm) (q := q) (r := []) (c_worth 2) hIν' hrel han hq ha1 trivial (by simp) (by omega) (by omega) (by omega) (by omega) hmem) mi_X0_attackWorth mm_X0_attackWorth lk_X0_53 dX0_attackWith_73 (rmR (by omega)) rfl rfl (by decide) (Nat.le_of_ble_eq_true rfl) rfl rfl rfl (fun r μ' h => ?_)
                obtain ⟨v, rfl, hv4, hSp, hM', hS'⟩ := h
                have hvk : v = k + 1 ↔ hld T rel k a nm q [] = true := by
                  have e1 : v ≤ k + 1 ↔ hld T rel k a nm q [] = true := hSp.2 (k + 1) (by omega)
                  rw [← e1]
                  have e2 : ¬ v ≤ k := by
                    intro z
                    have z2 := (hSp.2 k (by omega)).mp z
                    cases k with
                    | zero => cases z2
                    | succ j =>
                      have z3 : hld T rel j a nm q [] = true := z2
                      have z4 := hmin j (by omega)
                      have z5 : sid T rel j p q [] = true := by
                        unfold sid
                        exact List.any_eq_true.mpr ⟨a, ham, List.any_eq_true.mpr ⟨nm, hmem, z3⟩⟩
                      rw [z4] at z5
                      cases z5
                  omega
                refine V_iload F dX0_attackWith_76 rfl ?_
                refine V_icmp_ne_N F (tgt := 90) dX0_attackWith_78 (by decide) (by omega) (by omega) (fun hx => ?_) (fun hx => ?_)
                · skip
                  refine V_iinc F (lv' := [_, _, _, _, _, _, _, _, _, _, _]) dX0_attackWith_90 rfl (by decide) rfl rfl ?_
                  refine V_goto F (tgt := 56) dX0_attackWith_93 (by decide) ?_
                  rw [show nI nm + Int32.ofInt 1 = nI (nm + 1) from nI_1 nm]
                  refine ihe (nm + 1) _ (by omega) (by omega) ?_ hM' (gS.trans hS')
                  rw [hf]
                  have : hld T rel k a nm q [] = false := by rw [← Bool.not_eq_true]; exact fun z => hx (hvk.mpr z)
                  rw [this]
                · skip
                  refine V_bipush F (v := nI 10) dX0_attackWith_81 (by decide) ?_
                  refine V_iload F dX0_attackWith_83 rfl ?_
                  (first | refine V_imulN F dX0_attackWith_85 ?_ | refine V_imul F dX0_attackWith_85 ?_)
                  refine V_iload F dX0_attackWith_86 rfl ?_
                  (first | refine V_iaddN F dX0_attackWith_88 ?_ | refine V_iadd F dX0_attackWith_88 ?_)
                  refine V_iret F dX0_attackWith_89 ⟨?_, hM', gS.trans hS'⟩
                  rw [hres, atkL, hf, hvk.mp (Classical.not_not.mp hx)]
                  rfl
          refine V_istore F (lv' := [_, _, _, _, _, _, _, _, _, _, _]) dX0_attackWith_54 (by decide) rfl rfl ?_
          refine inner (laC T rel a [] + 1 - fiC T rel a) (fiC T rel a) ν (Nat.le_refl _) (by omega) ?_ hM hS
          rw [nms_eq]
  refine V_iconst F (v := nI 1) dX0_attackWith_0 (by decide) ?_
  refine V_istore F (lv' := [_, _, _, _, _, _, _, _, _, _, _]) dX0_attackWith_1 (by decide) rfl rfl ?_
  refine V_iconst F (v := nI 0) dX0_attackWith_3 (by decide) ?_
  refine V_istore F (lv' := [_, _, _, _, _, _, _, _, _, _, _]) dX0_attackWith_4 (by decide) rfl rfl ?_
  refine V_iconst F (v := nI 0) dX0_attackWith_6 (by decide) ?_
  refine V_istore F (lv' := [_, _, _, _, _, _, _, _, _, _, _]) dX0_attackWith_7 (by decide) rfl rfl ?_
  exact loop 3 0 0 μ rfl (Nat.le_refl _) (by rw [atkF, mvs_rst hW hp]) hI.2 (sameW.rfl' μ)
theorem sid_min {rel p q k : Nat} (hk : rnd T rel p q = k + 1) (hk4 : k < 3) : (∀ j, j < k → sid T rel j p q [] = false) ∧ ∀ j, j < k → sid T rel j q p [] = false := by
  have key : ∀ j, j < k → win T rel (j + 1) p q [] = false := by
    intro j hj
    rw [← Bool.not_eq_true]
    intro z
    have := ((rnd_Sp (T := T) rel p q).2 (j + 1) (by omega)).mpr z
    omega
  constructor
  · intro j hj
    have := key j hj
    rw [win_eq, Bool.or_eq_false_iff] at this
    exact this.1
  · intro j hj
    have := key j hj
    rw [win_eq, Bool.or_eq_false_iff] at this
    exact this.2
theorem atkL_lt {rel k q : Nat} : ∀ (as : List Nat) (m x : Nat), atkL T rel k q m as = some x → x ≤ 10 * (m + as.length) + 12 := by
  intro as
  induction as with
  | nil => intro m x h; cases h
  | cons a as ih =>
    intro m x h
    unfold atkL at h
    split at h
    · rename_i v hv
      cases h
      have hm := List.mem_of_find?_eq_some hv
      rw [nms_eq] at hm
      obtain ⟨z, hz, rfl⟩ := List.mem_map.mp hm
      have := List.mem_range.mp hz
      have := laC_le (T := T) (r := []) trivial (by simp) rel a
      simp only [List.length_cons]
      omega
    · have := ih (m + 1) x h
      simp only [List.length_cons]
      omega
theorem atkF_lt (hW : WF T n) {rel k p q x : Nat} (hp : p < n) (h : atkF T rel k p q = some x) : x ≤ 42 := by
  have h1 := atkL_lt _ _ _ h
  have h2 : (mvs T p []).length ≤ 3 := by
    rw [mvs_eq hW hp]
    exact Nat.le_trans (List.length_filterMap_le _ _) (by simp)
  omega
theorem c_attackOf {rel p q : Nat} (hI : XInv T n μ) (hp : p < n) (hq : q < n) (hrel : rel < 3) (h7p : T 7 p = 0) (h7q : T 7 q = 0) : Ct (GS g) l (22) yX0_attackOf cX0_attackOf 7 (some .int) [.ref (g.1 2), .int (nI p), .int (nI q), .int (nI rel)] μ (XQ T n μ (atkR T rel p q)) := by
  have hW := hI.1.1
  have hr := rnd_le (T := T) rel p q
  refine Ct.of (own := RX0) mi_X0_attackOf rfl [some (.ref (g.1 2)), some (.int (nI p)), some (.int (nI q)), some (.int (nI rel)), none, none, none] (Nat.le_of_ble_eq_true rfl) rfl (fun p₀ e₀ s₀ m₀ b₀ h₀ c₀ F => ?_)
  refine V_aload_n F dX0_attackOf_0 rfl ?_
  refine V_iload_n F dX0_attackOf_1 rfl ?_
  refine V_iload_n F dX0_attackOf_2 rfl ?_
  refine V_iload_n F dX0_attackOf_3 rfl ?_
  refine V_callV F (q0 := 2) (c_roundsOf hI hp hq hrel h7p h7q) mi_X0_roundsOf mm_X0_roundsOf lk_X0_33 dX0_attackOf_4 (rmR (by omega)) rfl rfl (by decide) (Nat.le_of_ble_eq_true rfl) rfl rfl rfl (fun r μ' h => ?_)
  obtain ⟨rfl, hM1, hS1⟩ := h
  unfold atkR rdI
  refine V_istore F (lv' := [_, _, _, _, _, _, _]) dX0_attackOf_7 (by decide) rfl rfl ?_
  refine V_iload F dX0_attackOf_9 rfl ?_
  refine V_bipush F (v := (-4)) dX0_attackOf_11 (by decide) ?_
  by_cases h4 : rnd T rel p q = 4
  · rw [if_pos h4, if_pos h4]
    refine V_icmp_ne_f F (tgt := 19) dX0_attackOf_13 (by decide) (by decide) ?_
    refine V_bipush F (v := (-4)) dX0_attackOf_16 (by decide) ?_
    exact V_iret F dX0_attackOf_18 (⟨rfl, hM1, hS1⟩)
  · rw [if_neg h4, if_neg h4]
    obtain ⟨k, hk⟩ : ∃ k, rnd T rel p q = k + 1 := ⟨rnd T rel p q - 1, by omega⟩
    obtain ⟨hm1, hm2⟩ := sid_min hk (by omega)
    rw [hk, Nat.add_sub_cancel]
    refine V_icmp_ne_t F (tgt := 19) dX0_attackOf_13 (by decide) (fun z => by have : ∀ k, k < 4 → ¬ nI k = -4 := by { decide +kernel }; exact this (k + 1) (by omega) z) ?_
    refine V_aload_n F dX0_attackOf_19 rfl ?_
    refine V_iload_n F dX0_attackOf_20 rfl ?_
    refine V_iload_n F dX0_attackOf_21 rfl ?_
    refine V_iload_n F dX0_attackOf_22 rfl ?_
    refine V_iload F dX0_attackOf_23 rfl ?_
    refine V_callV F (q0 := 2) (c_attackWith (k := k) (hI.of_W hS1 hM1) hp hq hrel h7p h7q (by omega) hm1) mi_X0_attackWith mm_X0_attackWith lk_X0_37 dX0_attackOf_25 (rmR (by omega)) rfl rfl (by decide) (Nat.le_of_ble_eq_true rfl) rfl rfl rfl (fun r μ' h => ?_)
    obtain ⟨rfl, hM2, hS2⟩ := h
    refine V_istore F (lv' := [_, _, _, _, _, _, _]) dX0_attackOf_28 (by decide) rfl rfl ?_
    refine V_iload F dX0_attackOf_30 rfl ?_
    cases hf : atkF T rel k p q with
    | some x =>
      have hx := atkF_lt hW hp hf
      refine V_if_lt_f F (tgt := 38) dX0_attackOf_32 (by decide) (nI_nn (by omega)) ?_
      refine V_iload F dX0_attackOf_35 rfl ?_
      exact V_iret F dX0_attackOf_37 (⟨rfl, hM2, hS1.trans hS2⟩)
    | none =>
      refine V_if_lt_t F (tgt := 38) dX0_attackOf_32 (by decide) (by decide) ?_
      refine V_aload_n F dX0_attackOf_38 rfl ?_
      refine V_iload_n F dX0_attackOf_39 rfl ?_
      refine V_iload_n F dX0_attackOf_40 rfl ?_
      refine V_iload_n F dX0_attackOf_41 rfl ?_
      refine V_iload F dX0_attackOf_42 rfl ?_
      refine V_callV F (q0 := 2) (c_attackWith (k := k) (hI.of_W (hS1.trans hS2) hM2) hq hp hrel h7q h7p (by omega) hm2) mi_X0_attackWith mm_X0_attackWith lk_X0_37 dX0_attackOf_44 (rmR (by omega)) rfl rfl (by decide) (Nat.le_of_ble_eq_true rfl) rfl rfl rfl (fun r μ' h => ?_)
      obtain ⟨rfl, hM3, hS3⟩ := h
      refine V_istore F (lv' := [_, _, _, _, _, _, _]) dX0_attackOf_47 (by decide) rfl rfl ?_
      refine V_iload F dX0_attackOf_49 rfl ?_
      cases hf2 : atkF T rel k q p with
      | some x =>
        have hx := atkF_lt hW hq hf2
        refine V_if_lt_f F (tgt := 63) dX0_attackOf_51 (by decide) (nI_nn (by omega)) ?_
        refine V_sipush F (v := nI 1000) dX0_attackOf_54 (by decide) ?_
        refine V_iload F dX0_attackOf_57 rfl ?_
        (first | refine V_iaddN F dX0_attackOf_59 ?_ | refine V_iadd F dX0_attackOf_59 ?_)
        refine V_goto F (tgt := 65) dX0_attackOf_60 (by decide) ?_
        exact V_iret F dX0_attackOf_65 (⟨rfl, hM3, (hS1.trans hS2).trans hS3⟩)
      | none =>
        refine V_if_lt_t F (tgt := 63) dX0_attackOf_51 (by decide) (by decide) ?_
        refine V_bipush F (v := (-4)) dX0_attackOf_63 (by decide) ?_
        exact V_iret F dX0_attackOf_65 (⟨rfl, hM3, (hS1.trans hS2).trans hS3⟩)
theorem c_errorOfPair (hX : XRep T n μ) (p q rel : Int32) : Ct (GS g) l (2) yX3_errorOfPair cX3_errorOfPair 4 (some .int) [.ref (g.1 0), .int p, .int q, .int rel] μ (Is (.int (rPair (fun _ _ _ => nI 0) T n p q rel)) μ) := by
  have hn := hX.n24
  refine Ct.of (own := RX3) mi_X3_errorOfPair rfl [some (.ref (g.1 0)), some (.int p), some (.int q), some (.int rel)] (Nat.le_of_ble_eq_true rfl) rfl (fun p₀ e₀ s₀ m₀ b₀ h₀ c₀ F => ?_)
  refine V_aload_n F dX3_errorOfPair_0 rfl ?_
  refine V_getf F (q0 := 0) (j := 0) lk_X3_10 dX3_errorOfPair_1 ig_X3 rfl rfl (by decide) rfl rfl ?_
  refine V_iload_n F dX3_errorOfPair_4 rfl ?_
  cases h1 : pj n p with
  | none =>
    have e : rPair (fun _ _ _ => nI 0) T n p q rel = -1 := by unfold rPair; rw [h1]
    rw [e]
    refine V_callVNi F (q0 := 1) (c_holds_f hX.2.1 (by omega) (pj_none h1 (by omega))) mi_X2_holds mm_X2_holds nk_X3_25 dX3_errorOfPair_5 (rmR (by omega)) rfl rfl (by decide) (Nat.le_of_ble_eq_true rfl) rfl rfl rfl ?_
    refine V_if_eq_t F (tgt := 29) dX3_errorOfPair_8 (by decide) (by decide) ?_
    refine V_iconst F (v := (-1)) dX3_errorOfPair_29 (by decide) ?_
    exact V_iret F dX3_errorOfPair_30 (⟨rfl, rfl⟩)
  | some i =>
    obtain ⟨hi, rfl⟩ := pj_some h1 (by omega)
    refine V_callVNi F (q0 := 1) (c_holds_t hX.2.1 (by omega) hi) mi_X2_holds mm_X2_holds nk_X3_25 dX3_errorOfPair_5 (rmR (by omega)) rfl rfl (by decide) (Nat.le_of_ble_eq_true rfl) rfl rfl rfl ?_
    refine V_if_eq_f F (tgt := 29) dX3_errorOfPair_8 (by decide) (by decide) ?_
    refine V_aload_n F dX3_errorOfPair_11 rfl ?_
    refine V_getf F (q0 := 0) (j := 0) lk_X3_10 dX3_errorOfPair_12 ig_X3 rfl rfl (by decide) rfl rfl ?_
    refine V_iload_n F dX3_errorOfPair_15 rfl ?_
    cases h2 : pj n q with
    | none =>
      have e : rPair (fun _ _ _ => nI 0) T n (nI i) q rel = -1 := by unfold rPair; rw [h1]; simp only [h2]
      rw [e]
      refine V_callVNi F (q0 := 1) (c_holds_f hX.2.1 (by omega) (pj_none h2 (by omega))) mi_X2_holds mm_X2_holds nk_X3_25 dX3_errorOfPair_16 (rmR (by omega)) rfl rfl (by decide) (Nat.le_of_ble_eq_true rfl) rfl rfl rfl ?_
      refine V_if_eq_t F (tgt := 29) dX3_errorOfPair_19 (by decide) (by decide) ?_
      refine V_iconst F (v := (-1)) dX3_errorOfPair_29 (by decide) ?_
      exact V_iret F dX3_errorOfPair_30 (⟨rfl, rfl⟩)
    | some j =>
      obtain ⟨hj, rfl⟩ := pj_some h2 (by omega)
      refine V_callVNi F (q0 := 1) (c_holds_t hX.2.1 (by omega) hj) mi_X2_holds mm_X2_holds nk_X3_25 dX3_errorOfPair_16 (rmR (by omega)) rfl rfl (by decide) (Nat.le_of_ble_eq_true rfl) rfl rfl rfl ?_
      refine V_if_eq_f F (tgt := 29) dX3_errorOfPair_19 (by decide) (by decide) ?_
      refine V_iload_n F dX3_errorOfPair_22 rfl ?_
      cases h3 : pj 3 rel with
      | none =>
        have e : rPair (fun _ _ _ => nI 0) T n (nI i) (nI j) rel = -1 := by unfold rPair; rw [h1]; simp only [h2, h3]
        rw [e]
        refine V_callSi F (c_isRel_f (pj_none h3 (by omega))) mi_X3_isRelation ms_X3_isRelation lk_X3_103 dX3_errorOfPair_23 (rmR (by omega)) rfl rfl (by decide) (Nat.le_of_ble_eq_true rfl) ?_
        refine V_if_ne_f F (tgt := 31) dX3_errorOfPair_26 (by decide) (by decide) ?_
        refine V_iconst F (v := (-1)) dX3_errorOfPair_29 (by decide) ?_
        exact V_iret F dX3_errorOfPair_30 (⟨rfl, rfl⟩)
      | some k =>
        obtain ⟨hk, rfl⟩ := pj_some h3 (by omega)
        have e : rPair (fun _ _ _ => nI 0) T n (nI i) (nI j) (nI k) = if T 7 i = 0 ∧ T 7 j = 0 then nI 0 else -2 := by unfold rPair; rw [h1]; simp only [h2, h3]
        rw [e]
        have n1 := hX.1.need hi
        have n2 := hX.1.need hj
        refine V_callSi F (c_isRel_t hk) mi_X3_isRelation ms_X3_isRelation lk_X3_103 dX3_errorOfPair_23 (rmR (by omega)) rfl rfl (by decide) (Nat.le_of_ble_eq_true rfl) ?_
        refine V_if_ne_t F (tgt := 31) dX3_errorOfPair_26 (by decide) (by decide) ?_
        refine V_aload_n F dX3_errorOfPair_31 rfl ?_
        refine V_getf F (q0 := 0) (j := 0) lk_X3_10 dX3_errorOfPair_32 ig_X3 rfl rfl (by decide) rfl rfl ?_
        refine V_iload_n F dX3_errorOfPair_35 rfl ?_
        refine V_callVNi F (q0 := 1) (c_isClosed (d := T 7 i) (by omega) (hX.fld 7 rfl (by omega) hi) (by omega)) mi_X2_isClosed mm_X2_isClosed nk_X3_75 dX3_errorOfPair_36 (rmR (by omega)) rfl rfl (by decide) (Nat.le_of_ble_eq_true rfl) rfl rfl rfl ?_
        by_cases z1 : T 7 i = 0
        · rw [if_pos z1]
          refine V_if_eq_f F (tgt := 57) dX3_errorOfPair_39 (by decide) (by decide) ?_
          refine V_aload_n F dX3_errorOfPair_42 rfl ?_
          refine V_getf F (q0 := 0) (j := 0) lk_X3_10 dX3_errorOfPair_43 ig_X3 rfl rfl (by decide) rfl rfl ?_
          refine V_iload_n F dX3_errorOfPair_46 rfl ?_
          refine V_callVNi F (q0 := 1) (c_isClosed (d := T 7 j) (by omega) (hX.fld 7 rfl (by omega) hj) (by omega)) mi_X2_isClosed mm_X2_isClosed nk_X3_75 dX3_errorOfPair_47 (rmR (by omega)) rfl rfl (by decide) (Nat.le_of_ble_eq_true rfl) rfl rfl rfl ?_
          by_cases z2 : T 7 j = 0
          · rw [if_pos z2, if_pos ⟨z1, z2⟩]
            refine V_if_eq_f F (tgt := 57) dX3_errorOfPair_50 (by decide) (by decide) ?_
            refine V_iconst F (v := nI 0) dX3_errorOfPair_53 (by decide) ?_
            refine V_goto F (tgt := 59) dX3_errorOfPair_54 (by decide) ?_
            exact V_iret F dX3_errorOfPair_59 (⟨rfl, rfl⟩)
          · rw [if_neg z2, if_neg (fun z => z2 z.2)]
            refine V_if_eq_t F (tgt := 57) dX3_errorOfPair_50 (by decide) (by decide) ?_
            refine V_bipush F (v := (-2)) dX3_errorOfPair_57 (by decide) ?_
            exact V_iret F dX3_errorOfPair_59 (⟨rfl, rfl⟩)
        · rw [if_neg z1, if_neg (fun z => z1 z.1)]
          refine V_if_eq_t F (tgt := 57) dX3_errorOfPair_39 (by decide) (by decide) ?_
          refine V_bipush F (v := (-2)) dX3_errorOfPair_57 (by decide) ?_
          exact V_iret F dX3_errorOfPair_59 (⟨rfl, rfl⟩)
/-- an error, or two closed processes and a relation -/
theorem rPair_cases (f : Nat → Nat → Nat → Int32) (T : Tb) (hn : n < 2 ^ 31) (p q rel : Int32) : (rPair (fun _ _ _ => nI 0) T n p q rel < 0 ∧ rPair f T n p q rel = rPair (fun _ _ _ => nI 0) T n p q rel) ∨
    ∃ i j k, i < n ∧ j < n ∧ k < 3 ∧ p = nI i ∧ q = nI j ∧ rel = nI k ∧ T 7 i = 0 ∧ T 7 j = 0 ∧ rPair (fun _ _ _ => nI 0) T n p q rel = nI 0 ∧ rPair f T n p q rel = f i j k := by
  unfold rPair
  cases h1 : pj n p with
  | none => exact Or.inl ⟨(by decide : (-1 : Int32) < 0), rfl⟩
  | some i =>
    obtain ⟨hi, e1⟩ := pj_some h1 hn
    simp only
    cases h2 : pj n q with
    | none => exact Or.inl ⟨(by decide : (-1 : Int32) < 0), rfl⟩
    | some j =>
      obtain ⟨hj, e2⟩ := pj_some h2 hn
      simp only
      cases h3 : pj 3 rel with
      | none => exact Or.inl ⟨(by decide : (-1 : Int32) < 0), rfl⟩
      | some k =>
        obtain ⟨hk, e3⟩ := pj_some h3 (by omega)
        simp only
        by_cases hz : T 7 i = 0 ∧ T 7 j = 0
        · rw [if_pos hz, if_pos hz]
          exact Or.inr ⟨i, j, k, hi, hj, hk, e1, e2, e3, hz.1, hz.2, rfl, rfl⟩
        · rw [if_neg hz, if_neg hz]
          exact Or.inl ⟨(by decide : (-2 : Int32) < 0), rfl⟩
def fRel (T : Tb) (i j k : Nat) : Int32 := if rnd T k i j = 4 then nI 1 else nI 0
def fRnd (T : Tb) (i j k : Nat) : Int32 := rdI T k i j
def fAtk (T : Tb) (i j k : Nat) : Int32 := atkR T k i j
def fRep (T : Tb) (i _j k : Nat) : Int32 := nI (lows T k i)
theorem c_areRelated (hI : XInv T n μ) (p q rel : Int32) : Ct (GS g) l (22) yX3_areRelated cX3_areRelated 5 (some .int) [.ref (g.1 0), .int p, .int q, .int rel] μ (XQ T n μ (rPair (fRel T) T n p q rel)) := by
  have hn := hI.1.n24
  refine Ct.of (own := RX3) mi_X3_areRelated rfl [some (.ref (g.1 0)), some (.int p), some (.int q), some (.int rel), none] (Nat.le_of_ble_eq_true rfl) rfl (fun p₀ e₀ s₀ m₀ b₀ h₀ c₀ F => ?_)
  refine V_aload_n F dX3_areRelated_0 rfl ?_
  refine V_iload_n F dX3_areRelated_1 rfl ?_
  refine V_iload_n F dX3_areRelated_2 rfl ?_
  refine V_iload_n F dX3_areRelated_3 rfl ?_
  refine V_callVi F (q0 := 0) (c_errorOfPair hI.1 p q rel) mi_X3_errorOfPair mm_X3_errorOfPair lk_X3_90 dX3_areRelated_4 (rmR (by omega)) rfl rfl (by decide) (Nat.le_of_ble_eq_true rfl) rfl rfl rfl ?_
  refine V_istore F (lv' := [_, _, _, _, _]) dX3_areRelated_7 (by decide) rfl rfl ?_
  refine V_iload F dX3_areRelated_9 rfl ?_
  rcases rPair_cases (fRel T) T (show n < 2 ^ 31 by omega) p q rel with ⟨h1, h2⟩ | ⟨i, j, k, hi, hj, hk, rfl, rfl, rfl, z1, z2, h1, h2⟩
  · skip
    refine V_if_ge_f F (tgt := 17) dX3_areRelated_11 (by decide) (fun z => Int32.not_lt.mpr z h1) ?_
    refine V_iload F dX3_areRelated_14 rfl ?_
    exact V_iret F dX3_areRelated_16 (⟨by rw [h2], hI.2, sameW.rfl' μ⟩)
  · rw [h1, h2]
    refine V_if_ge_t F (tgt := 17) dX3_areRelated_11 (by decide) (by decide) ?_
    refine V_aload_n F dX3_areRelated_17 rfl ?_
    refine V_getf F (q0 := 0) (j := 1) lk_X3_21 dX3_areRelated_18 ig_X3 rfl rfl (by decide) rfl rfl ?_
    refine V_iload_n F dX3_areRelated_21 rfl ?_
    refine V_iload_n F dX3_areRelated_22 rfl ?_
    refine V_iload_n F dX3_areRelated_23 rfl ?_
    refine V_callVN F (q0 := 2) (c_roundsOf hI hi hj hk z1 z2) mi_X0_roundsOf mm_X0_roundsOf nk_X3_94 dX3_areRelated_24 (rmR (by omega)) rfl rfl (by decide) (Nat.le_of_ble_eq_true rfl) rfl rfl rfl (fun r μ' h => ?_)
    obtain ⟨rfl, hM1, hS1⟩ := h
    refine V_bipush F (v := (-4)) dX3_areRelated_27 (by decide) ?_
    have hr := rnd_le (T := T) k i j
    unfold fRel rdI
    by_cases h4 : rnd T k i j = 4
    · rw [if_pos h4, if_pos h4]
      refine V_icmp_ne_f F (tgt := 36) dX3_areRelated_29 (by decide) (by decide) ?_
      refine V_iconst F (v := nI 1) dX3_areRelated_32 (by decide) ?_
      refine V_goto F (tgt := 37) dX3_areRelated_33 (by decide) ?_
      exact V_iret F dX3_areRelated_37 (⟨rfl, hM1, hS1⟩)
    · rw [if_neg h4, if_neg h4]
      refine V_icmp_ne_t F (tgt := 36) dX3_areRelated_29 (by decide) (fun z => by have : ∀ k, k < 4 → ¬ nI k = -4 := by { decide +kernel }; exact this _ (by omega) z) ?_
      refine V_iconst F (v := nI 0) dX3_areRelated_36 (by decide) ?_
      exact V_iret F dX3_areRelated_37 (⟨rfl, hM1, hS1⟩)
theorem c_rounds (hI : XInv T n μ) (p q rel : Int32) : Ct (GS g) l (22) yX3_rounds cX3_rounds 5 (some .int) [.ref (g.1 0), .int p, .int q, .int rel] μ (XQ T n μ (rPair (fRnd T) T n p q rel)) := by
  have hn := hI.1.n24
  refine Ct.of (own := RX3) mi_X3_rounds rfl [some (.ref (g.1 0)), some (.int p), some (.int q), some (.int rel), none] (Nat.le_of_ble_eq_true rfl) rfl (fun p₀ e₀ s₀ m₀ b₀ h₀ c₀ F => ?_)
  refine V_aload_n F dX3_rounds_0 rfl ?_
  refine V_iload_n F dX3_rounds_1 rfl ?_
  refine V_iload_n F dX3_rounds_2 rfl ?_
  refine V_iload_n F dX3_rounds_3 rfl ?_
  refine V_callVi F (q0 := 0) (c_errorOfPair hI.1 p q rel) mi_X3_errorOfPair mm_X3_errorOfPair lk_X3_90 dX3_rounds_4 (rmR (by omega)) rfl rfl (by decide) (Nat.le_of_ble_eq_true rfl) rfl rfl rfl ?_
  refine V_istore F (lv' := [_, _, _, _, _]) dX3_rounds_7 (by decide) rfl rfl ?_
  refine V_iload F dX3_rounds_9 rfl ?_
  rcases rPair_cases (fRnd T) T (show n < 2 ^ 31 by omega) p q rel with ⟨h1, h2⟩ | ⟨i, j, k, hi, hj, hk, rfl, rfl, rfl, z1, z2, h1, h2⟩
  · skip
    refine V_if_ge_f F (tgt := 19) dX3_rounds_11 (by decide) (fun z => Int32.not_lt.mpr z h1) ?_
    refine V_iload F dX3_rounds_14 rfl ?_
    refine V_goto F (tgt := 29) dX3_rounds_16 (by decide) ?_
    exact V_iret F dX3_rounds_29 (⟨by rw [h2], hI.2, sameW.rfl' μ⟩)
  · rw [h1, h2]
    refine V_if_ge_t F (tgt := 19) dX3_rounds_11 (by decide) (by decide) ?_
    refine V_aload_n F dX3_rounds_19 rfl ?_
    refine V_getf F (q0 := 0) (j := 1) lk_X3_21 dX3_rounds_20 ig_X3 rfl rfl (by decide) rfl rfl ?_
    refine V_iload_n F dX3_rounds_23 rfl ?_
    refine V_iload_n F dX3_rounds_24 rfl ?_
    refine V_iload_n F dX3_rounds_25 rfl ?_
    refine V_callVN F (q0 := 2) (c_roundsOf hI hi hj hk z1 z2) mi_X0_roundsOf mm_X0_roundsOf nk_X3_94 dX3_rounds_26 (rmR (by omega)) rfl rfl (by decide) (Nat.le_of_ble_eq_true rfl) rfl rfl rfl (fun r μ' h => ?_)
    obtain ⟨rfl, hM1, hS1⟩ := h
    exact V_iret F dX3_rounds_29 (⟨rfl, hM1, hS1⟩)
theorem c_firstAttack (hI : XInv T n μ) (p q rel : Int32) : Ct (GS g) l (23) yX3_firstAttack cX3_firstAttack 5 (some .int) [.ref (g.1 0), .int p, .int q, .int rel] μ (XQ T n μ (rPair (fAtk T) T n p q rel)) := by
  have hn := hI.1.n24
  refine Ct.of (own := RX3) mi_X3_firstAttack rfl [some (.ref (g.1 0)), some (.int p), some (.int q), some (.int rel), none] (Nat.le_of_ble_eq_true rfl) rfl (fun p₀ e₀ s₀ m₀ b₀ h₀ c₀ F => ?_)
  refine V_aload_n F dX3_firstAttack_0 rfl ?_
  refine V_iload_n F dX3_firstAttack_1 rfl ?_
  refine V_iload_n F dX3_firstAttack_2 rfl ?_
  refine V_iload_n F dX3_firstAttack_3 rfl ?_
  refine V_callVi F (q0 := 0) (c_errorOfPair hI.1 p q rel) mi_X3_errorOfPair mm_X3_errorOfPair lk_X3_90 dX3_firstAttack_4 (rmR (by omega)) rfl rfl (by decide) (Nat.le_of_ble_eq_true rfl) rfl rfl rfl ?_
  refine V_istore F (lv' := [_, _, _, _, _]) dX3_firstAttack_7 (by decide) rfl rfl ?_
  refine V_iload F dX3_firstAttack_9 rfl ?_
  rcases rPair_cases (fAtk T) T (show n < 2 ^ 31 by omega) p q rel with ⟨h1, h2⟩ | ⟨i, j, k, hi, hj, hk, rfl, rfl, rfl, z1, z2, h1, h2⟩
  · skip
    refine V_if_ge_f F (tgt := 19) dX3_firstAttack_11 (by decide) (fun z => Int32.not_lt.mpr z h1) ?_
    refine V_iload F dX3_firstAttack_14 rfl ?_
    refine V_goto F (tgt := 29) dX3_firstAttack_16 (by decide) ?_
    exact V_iret F dX3_firstAttack_29 (⟨by rw [h2], hI.2, sameW.rfl' μ⟩)
  · rw [h1, h2]
    refine V_if_ge_t F (tgt := 19) dX3_firstAttack_11 (by decide) (by decide) ?_
    refine V_aload_n F dX3_firstAttack_19 rfl ?_
    refine V_getf F (q0 := 0) (j := 1) lk_X3_21 dX3_firstAttack_20 ig_X3 rfl rfl (by decide) rfl rfl ?_
    refine V_iload_n F dX3_firstAttack_23 rfl ?_
    refine V_iload_n F dX3_firstAttack_24 rfl ?_
    refine V_iload_n F dX3_firstAttack_25 rfl ?_
    refine V_callVN F (q0 := 2) (c_attackOf hI hi hj hk z1 z2) mi_X0_attackOf mm_X0_attackOf nk_X3_97 dX3_firstAttack_26 (rmR (by omega)) rfl rfl (by decide) (Nat.le_of_ble_eq_true rfl) rfl rfl rfl (fun r μ' h => ?_)
    obtain ⟨rfl, hM1, hS1⟩ := h
    exact V_iret F dX3_firstAttack_29 (⟨rfl, hM1, hS1⟩)
theorem c_lowest {rel p : Nat} (hI : XInv T n μ) (hp : p < n) (hrel : rel < 3) (h7p : T 7 p = 0) : Ct (GS g) l (22) yX3_lowestRelated cX3_lowestRelated 4 (some .int) [.ref (g.1 0), .int (nI p), .int (nI rel)] μ (XQ T n μ (nI (lows T rel p))) := by
  have hn := hI.1.n24
  have hW := hI.1.1
  refine Ct.of (own := RX3) mi_X3_lowestRelated rfl [some (.ref (g.1 0)), some (.int (nI p)), some (.int (nI rel)), none] (Nat.le_of_ble_eq_true rfl) rfl (fun p₀ e₀ s₀ m₀ b₀ h₀ c₀ F => ?_)
  have loop : ∀ (d q : Nat) (ν : Mem), q + d = p → lows T rel p = (((List.range d).map (q + ·)).find? (fun q => T 7 q == 0 && rnd T rel p q == 4)).getD p → Memo T n ν → sameW μ ν →
      V (GS g) p₀ l e₀ (rmD (22)) s₀ m₀ (List.toArray [.ref (g.1 0), .int (nI p), .int (nI rel)]) b₀ h₀ c₀ 4 0 0 (MQ b₀ (Qp (GS g) (XQ T n μ (nI (lows T rel p)))) (List.toArray [.ref (g.1 0), .int (nI p), .int (nI rel)]) s₀ 0 0 (gA (GS g))) 2 ([some (.ref (g.1 0)), some (.int (nI p)), some (.int (nI rel)), some (.int (nI q))]) ([]) (ν) := by
    intro d
    induction d with
    | zero =>
      intro q ν hq hres hM hS
      refine V_iload_n F dX3_lowestRelated_2 rfl ?_
      refine V_iload_n F dX3_lowestRelated_3 rfl ?_
      refine V_icmp_ge_N F (tgt := 41) dX3_lowestRelated_4 (by decide) (by omega) (by omega) (fun hc => ?_) (fun hc => ?_)
      · skip
        refine V_iload_n F dX3_lowestRelated_41 rfl ?_
        exact V_iret F dX3_lowestRelated_42 (⟨by rw [hres]; rfl, hM, hS⟩)
      · omega
    | succ d ih =>
      intro q ν hq hres hM hS
      have hIν := hI.of_W hS hM
      have n2 := hW.need (show q < n by omega)
      rw [range_map_succ, List.find?_cons] at hres
      have step : (T 7 q == 0 && rnd T rel p q == 4) = false → ∀ ν', Memo T n ν' → sameW μ ν' → V (GS g) p₀ l e₀ (rmD (22)) s₀ m₀ (List.toArray [.ref (g.1 0), .int (nI p), .int (nI rel)]) b₀ h₀ c₀ 4 0 0 (MQ b₀ (Qp (GS g) (XQ T n μ (nI (lows T rel p)))) (List.toArray [.ref (g.1 0), .int (nI p), .int (nI rel)]) s₀ 0 0 (gA (GS g))) 35 ([some (.ref (g.1 0)), some (.int (nI p)), some (.int (nI rel)), some (.int (nI q))]) ([]) (ν') := by
        intro hb ν' hM' hS'
        rw [hb] at hres
        refine V_iinc F (lv' := [_, _, _, _]) dX3_lowestRelated_35 rfl (by decide) rfl rfl ?_
        refine V_goto F (tgt := 2) dX3_lowestRelated_38 (by decide) ?_
        rw [show nI q + Int32.ofInt 1 = nI (q + 1) from nI_1 q]
        exact ih (q + 1) ν' (by omega) hres hM' hS'
      refine V_iload_n F dX3_lowestRelated_2 rfl ?_
      refine V_iload_n F dX3_lowestRelated_3 rfl ?_
      refine V_icmp_ge_N F (tgt := 41) dX3_lowestRelated_4 (by decide) (by omega) (by omega) (fun hc => ?_) (fun hc => ?_)
      · omega
      · skip
        refine V_aload_n F dX3_lowestRelated_7 rfl ?_
        refine V_getf F (q0 := 0) (j := 0) lk_X3_10 dX3_lowestRelated_8 ig_X3 rfl rfl (by decide) rfl rfl ?_
        refine V_iload_n F dX3_lowestRelated_11 rfl ?_
        refine V_callVNi F (q0 := 1) (c_isClosed (d := T 7 q) (show q < 24 by omega) (hIν.1.fld 7 rfl (by omega) (by omega)) (by omega)) mi_X2_isClosed mm_X2_isClosed nk_X3_75 dX3_lowestRelated_12 (rmR (by omega)) rfl rfl (by decide) (Nat.le_of_ble_eq_true rfl) rfl rfl rfl ?_
        by_cases z : T 7 q = 0
        · rw [if_pos z]
          refine V_if_eq_f F (tgt := 35) dX3_lowestRelated_15 (by decide) (by decide) ?_
          refine V_aload_n F dX3_lowestRelated_18 rfl ?_
          refine V_getf F (q0 := 0) (j := 1) lk_X3_21 dX3_lowestRelated_19 ig_X3 rfl rfl (by decide) rfl rfl ?_
          refine V_iload_n F dX3_lowestRelated_22 rfl ?_
          refine V_iload_n F dX3_lowestRelated_23 rfl ?_
          refine V_iload_n F dX3_lowestRelated_24 rfl ?_
          refine V_callVN F (q0 := 2) (c_roundsOf hIν hp (show q < n by omega) hrel h7p z) mi_X0_roundsOf mm_X0_roundsOf nk_X3_94 dX3_lowestRelated_25 (rmR (by omega)) rfl rfl (by decide) (Nat.le_of_ble_eq_true rfl) rfl rfl rfl (fun r μ' h => ?_)
          obtain ⟨rfl, hM1, hS1⟩ := h
          have hr := rnd_le (T := T) rel p q
          refine V_bipush F (v := (-4)) dX3_lowestRelated_28 (by decide) ?_
          unfold rdI
          by_cases h4 : rnd T rel p q = 4
          · rw [if_pos h4]
            refine V_icmp_ne_f F (tgt := 35) dX3_lowestRelated_30 (by decide) (by decide) ?_
            refine V_iload_n F dX3_lowestRelated_33 rfl ?_
            refine V_iret F dX3_lowestRelated_34 ⟨?_, hM1, hS.trans hS1⟩
            rw [hres, z, h4]
            rfl
          · rw [if_neg h4]
            refine V_icmp_ne_t F (tgt := 35) dX3_lowestRelated_30 (by decide) (fun z => by have : ∀ k, k < 4 → ¬ nI k = -4 := by { decide +kernel }; exact this _ (by omega) z) ?_
            exact step (by simp [h4]) _ hM1 (hS.trans hS1)
        · rw [if_neg z]
          refine V_if_eq_t F (tgt := 35) dX3_lowestRelated_15 (by decide) (by decide) ?_
          exact step (by simp [z]) _ hM hS
  refine V_iconst F (v := nI 0) dX3_lowestRelated_0 (by decide) ?_
  refine V_istore_n F (lv' := [_, _, _, _]) dX3_lowestRelated_1 (by decide) rfl rfl ?_
  exact loop p 0 μ (by omega) (by simp [lows]) hI.2 (sameW.rfl' μ)
theorem c_representative (hI : XInv T n μ) (p rel : Int32) : Ct (GS g) l (23) yX3_representative cX3_representative 4 (some .int) [.ref (g.1 0), .int p, .int rel] μ (XQ T n μ (rPair (fRep T) T n p p rel)) := by
  have hn := hI.1.n24
  refine Ct.of (own := RX3) mi_X3_representative rfl [some (.ref (g.1 0)), some (.int p), some (.int rel), none] (Nat.le_of_ble_eq_true rfl) rfl (fun p₀ e₀ s₀ m₀ b₀ h₀ c₀ F => ?_)
  refine V_aload_n F dX3_representative_0 rfl ?_
  refine V_iload_n F dX3_representative_1 rfl ?_
  refine V_iload_n F dX3_representative_2 rfl ?_
  refine V_iload_n F dX3_representative_3 rfl ?_
  refine V_callVi F (q0 := 0) (c_errorOfPair hI.1 p p rel) mi_X3_errorOfPair mm_X3_errorOfPair lk_X3_90 dX3_representative_4 (rmR (by omega)) rfl rfl (by decide) (Nat.le_of_ble_eq_true rfl) rfl rfl rfl ?_
  refine V_istore_n F (lv' := [_, _, _, _]) dX3_representative_7 (by decide) rfl rfl ?_
  refine V_iload_n F dX3_representative_8 rfl ?_
  rcases rPair_cases (fRep T) T (show n < 2 ^ 31 by omega) p p rel with ⟨h1, h2⟩ | ⟨i, j, k, hi, hj, hk, rfl, e2, rfl, z1, z2, h1, h2⟩
  · skip
    refine V_if_ge_f F (tgt := 16) dX3_representative_9 (by decide) (fun z => Int32.not_lt.mpr z h1) ?_
    refine V_iload_n F dX3_representative_12 rfl ?_
    refine V_goto F (tgt := 22) dX3_representative_13 (by decide) ?_
    exact V_iret F dX3_representative_22 (⟨by rw [h2], hI.2, sameW.rfl' μ⟩)
  · rw [h1, h2]
    refine V_if_ge_t F (tgt := 16) dX3_representative_9 (by decide) (by decide) ?_
    refine V_aload_n F dX3_representative_16 rfl ?_
    refine V_iload_n F dX3_representative_17 rfl ?_
    refine V_iload_n F dX3_representative_18 rfl ?_
    refine V_callV F (q0 := 0) (c_lowest hI hi hk z1) mi_X3_lowestRelated mm_X3_lowestRelated lk_X3_100 dX3_representative_19 (rmR (by omega)) rfl rfl (by decide) (Nat.le_of_ble_eq_true rfl) rfl rfl rfl (fun r μ' h => ?_)
    obtain ⟨rfl, hM1, hS1⟩ := h
    exact V_iret F dX3_representative_22 (⟨rfl, hM1, hS1⟩)
theorem lows_le (rel p : Nat) : lows T rel p ≤ p := by
  unfold lows
  cases h : (List.range p).find? (fun q => T 7 q == 0 && rnd T rel p q == 4) with
  | none => exact Nat.le_refl _
  | some q =>
    have := List.mem_range.mp (List.mem_of_find?_eq_some h)
    show q ≤ p
    omega
theorem c_classCount (hI : XInv T n μ) (rel : Int32) : Ct (GS g) l (23) yX3_classCount cX3_classCount 4 (some .int) [.ref (g.1 0), .int rel] μ (XQ T n μ (rCls T n rel)) := by
  have hn := hI.1.n24
  have hW := hI.1.1
  refine Ct.of (own := RX3) mi_X3_classCount rfl [some (.ref (g.1 0)), some (.int rel), none, none] (Nat.le_of_ble_eq_true rfl) rfl (fun p₀ e₀ s₀ m₀ b₀ h₀ c₀ F => ?_)
  refine V_iload_n F dX3_classCount_0 rfl ?_
  cases h1 : pj 3 rel with
  | none =>
    have e0 : rCls T n rel = -1 := by unfold rCls; rw [h1]
    rw [e0]
    refine V_callSi F (c_isRel_f (pj_none h1 (by omega))) mi_X3_isRelation ms_X3_isRelation lk_X3_103 dX3_classCount_1 (rmR (by omega)) rfl rfl (by decide) (Nat.le_of_ble_eq_true rfl) ?_
    refine V_if_ne_f F (tgt := 9) dX3_classCount_4 (by decide) (by decide) ?_
    refine V_iconst F (v := (-1)) dX3_classCount_7 (by decide) ?_
    exact V_iret F dX3_classCount_8 (⟨rfl, hI.2, sameW.rfl' μ⟩)
  | some k =>
    obtain ⟨hk, rfl⟩ := pj_some h1 (by omega)
    have e0 : rCls T n (nI k) = nI (cls T n k) := by unfold rCls; rw [h1]
    rw [e0]
    refine V_callSi F (c_isRel_t hk) mi_X3_isRelation ms_X3_isRelation lk_X3_103 dX3_classCount_1 (rmR (by omega)) rfl rfl (by decide) (Nat.le_of_ble_eq_true rfl) ?_
    refine V_if_ne_t F (tgt := 9) dX3_classCount_4 (by decide) (by decide) ?_
    have loop : ∀ (d p cnt : Nat) (ν : Mem), p + d = n → cnt ≤ p → cnt = ((List.range p).filter (fun p => T 7 p == 0 && lows T k p == p)).length → Memo T n ν → sameW μ ν →
        V (GS g) p₀ l e₀ (rmD (23)) s₀ m₀ (List.toArray [.ref (g.1 0), .int (nI k)]) b₀ h₀ c₀ 4 0 0 (MQ b₀ (Qp (GS g) (XQ T n μ (nI (cls T n k)))) (List.toArray [.ref (g.1 0), .int (nI k)]) s₀ 0 0 (gA (GS g))) 13 ([some (.ref (g.1 0)), some (.int (nI k)), some (.int (nI cnt)), some (.int (nI p))]) ([]) (ν) := by
      intro d
      induction d with
      | zero =>
        intro p cnt ν hp hle hcnt hM hS
        have hIν := hI.of_W hS hM
        refine V_iload_n F dX3_classCount_13 rfl ?_
        refine V_aload_n F dX3_classCount_14 rfl ?_
        refine V_getf F (q0 := 0) (j := 0) lk_X3_10 dX3_classCount_15 ig_X3 rfl rfl (by decide) rfl rfl ?_
        refine V_getN F (q0 := 1) (j := 0) nk_X3_36 dX3_classCount_18 ig_X2 rfl rfl (by decide) rfl rfl ?_
        refine V_val F (hIν.1.2.1) ?_
        refine V_icmp_ge_N F (tgt := 54) dX3_classCount_21 (by decide) (by omega) (by omega) (fun hc => ?_) (fun hc => ?_)
        · skip
          refine V_iload_n F dX3_classCount_54 rfl ?_
          exact V_iret F dX3_classCount_55 (⟨by rw [hcnt, show p = n by omega]; rfl, hM, hS⟩)
        · omega
      | succ d ih =>
        intro p cnt ν hp hle hcnt hM hS
        have hIν := hI.of_W hS hM
        have n2 := hW.need (show p < n by omega)
        have e : (List.range (p + 1)).filter (fun p => T 7 p == 0 && lows T k p == p) = (List.range p).filter (fun p => T 7 p == 0 && lows T k p == p) ++ (if (T 7 p == 0 && lows T k p == p) = true then [p] else []) := by
          rw [List.range_succ, List.filter_append]
          congr 1
          simp only [List.filter_cons, List.filter_nil]
        have skip_ : (T 7 p == 0 && lows T k p == p) = false → ∀ ν', Memo T n ν' → sameW μ ν' → V (GS g) p₀ l e₀ (rmD (23)) s₀ m₀ (List.toArray [.ref (g.1 0), .int (nI k)]) b₀ h₀ c₀ 4 0 0 (MQ b₀ (Qp (GS g) (XQ T n μ (nI (cls T n k)))) (List.toArray [.ref (g.1 0), .int (nI k)]) s₀ 0 0 (gA (GS g))) 48 ([some (.ref (g.1 0)), some (.int (nI k)), some (.int (nI cnt)), some (.int (nI p))]) ([]) (ν') := by
          intro hb ν' hM' hS'
          refine V_iinc F (lv' := [_, _, _, _]) dX3_classCount_48 rfl (by decide) rfl rfl ?_
          refine V_goto F (tgt := 13) dX3_classCount_51 (by decide) ?_
          rw [show nI p + Int32.ofInt 1 = nI (p + 1) from nI_1 p]
          refine ih (p + 1) cnt ν' (by omega) (by omega) ?_ hM' hS'
          rw [e, hb, hcnt]
          simp
        refine V_iload_n F dX3_classCount_13 rfl ?_
        refine V_aload_n F dX3_classCount_14 rfl ?_
        refine V_getf F (q0 := 0) (j := 0) lk_X3_10 dX3_classCount_15 ig_X3 rfl rfl (by decide) rfl rfl ?_
        refine V_getN F (q0 := 1) (j := 0) nk_X3_36 dX3_classCount_18 ig_X2 rfl rfl (by decide) rfl rfl ?_
        refine V_val F (hIν.1.2.1) ?_
        refine V_icmp_ge_N F (tgt := 54) dX3_classCount_21 (by decide) (by omega) (by omega) (fun hc => ?_) (fun hc => ?_)
        · omega
        · skip
          refine V_aload_n F dX3_classCount_24 rfl ?_
          refine V_getf F (q0 := 0) (j := 0) lk_X3_10 dX3_classCount_25 ig_X3 rfl rfl (by decide) rfl rfl ?_
          refine V_iload_n F dX3_classCount_28 rfl ?_
          refine V_callVNi F (q0 := 1) (c_isClosed (d := T 7 p) (show p < 24 by omega) (hIν.1.fld 7 rfl (by omega) (by omega)) (by omega)) mi_X2_isClosed mm_X2_isClosed nk_X3_75 dX3_classCount_29 (rmR (by omega)) rfl rfl (by decide) (Nat.le_of_ble_eq_true rfl) rfl rfl rfl ?_
          by_cases z : T 7 p = 0
          · rw [if_pos z]
            refine V_if_eq_f F (tgt := 48) dX3_classCount_32 (by decide) (by decide) ?_
            refine V_aload_n F dX3_classCount_35 rfl ?_
            refine V_iload_n F dX3_classCount_36 rfl ?_
            refine V_iload_n F dX3_classCount_37 rfl ?_
            refine V_callV F (q0 := 0) (c_lowest hIν (show p < n by omega) hk z) mi_X3_lowestRelated mm_X3_lowestRelated lk_X3_100 dX3_classCount_38 (rmR (by omega)) rfl rfl (by decide) (Nat.le_of_ble_eq_true rfl) rfl rfl rfl (fun r μ' h => ?_)
            obtain ⟨rfl, hM1, hS1⟩ := h
            have hlo := lows_le (T := T) k p
            refine V_iload_n F dX3_classCount_41 rfl ?_
            refine V_icmp_ne_N F (tgt := 48) dX3_classCount_42 (by decide) (by omega) (by omega) (fun hx => ?_) (fun hx => ?_)
            · exact skip_ (by simp [hx]) _ hM1 (hS.trans hS1)
            · have hx := Classical.not_not.mp hx
              refine V_iinc F (lv' := [_, _, _, _]) dX3_classCount_45 rfl (by decide) rfl rfl ?_
              refine V_iinc F (lv' := [_, _, _, _]) dX3_classCount_48 rfl (by decide) rfl rfl ?_
              refine V_goto F (tgt := 13) dX3_classCount_51 (by decide) ?_
              rw [show nI p + Int32.ofInt 1 = nI (p + 1) from nI_1 p, show nI cnt + Int32.ofInt 1 = nI (cnt + 1) from nI_1 cnt]
              refine ih (p + 1) (cnt + 1) _ (by omega) (by omega) ?_ hM1 (hS.trans hS1)
              rw [e, hcnt, z, hx]
              simp
          · rw [if_neg z]
            refine V_if_eq_t F (tgt := 48) dX3_classCount_32 (by decide) (by decide) ?_
            exact skip_ (by simp [z]) _ hM hS
    refine V_iconst F (v := nI 0) dX3_classCount_9 (by decide) ?_
    refine V_istore_n F (lv' := [_, _, _, _]) dX3_classCount_10 (by decide) rfl rfl ?_
    refine V_iconst F (v := nI 0) dX3_classCount_11 (by decide) ?_
    refine V_istore_n F (lv' := [_, _, _, _]) dX3_classCount_12 (by decide) rfl rfl ?_
    exact loop n 0 0 μ (by omega) (Nat.le_refl _) rfl hI.2 (sameW.rfl' μ)
end CMP

