section INV
/-- guards as bits -/
def gm (w : Nat) (gs : List (Nat × Nat)) : Prop := w < 2 ^ 36 ∧ ∀ i, i < 36 → w.testBit i = decide ((i / 6, i % 6) ∈ gs)
/-- the class's store holds the table T of n processes -/
def XRep (T : Tb) (n : Nat) (μ : Mem) : Prop := WF T n ∧ μ.1 1 0 = nI n ∧ (∀ f p, f < 9 → p < n → μ.1 (3 + f) p = nI (T f p)) ∧
  ∀ p s a, p < n → (acts T p)[s]? = some a → μ.1 12 (3 * p + s) = nI a.1 ∧ ∃ w, μ.2 (3 * p + s) = lN w ∧ gm w a.2
/-- the model holds it -/
def MRep (T : Tb) (n : Nat) (μ : Mem) : Prop := μ.1 15 0 = nI n ∧ ∀ f p, f < 9 → p < n → μ.1 (16 + f) p = nI (T f p)
def sameM (μ μ' : Mem) : Prop := ∀ c, 15 ≤ c → μ'.1 c = μ.1 c
def sameX (μ μ' : Mem) : Prop := (∀ c, c < 15 → μ'.1 c = μ.1 c) ∧ μ'.2 = μ.2
/-- only the class's kept worths differ -/
def sameW (μ μ' : Mem) : Prop := (∀ c, c ≠ 14 → μ'.1 c = μ.1 c) ∧ μ'.2 = μ.2
theorem sameW.rfl' (μ : Mem) : sameW μ μ := ⟨fun _ _ => rfl, rfl⟩
theorem sameW.trans {a b d : Mem} (h : sameW a b) (h2 : sameW b d) : sameW a d := ⟨fun c hc => (h2.1 c hc).trans (h.1 c hc), h2.2.trans h.2⟩
theorem XRep.of_sameW {T : Tb} {n : Nat} {μ μ' : Mem} (h : XRep T n μ) (s : sameW μ μ') : XRep T n μ' := by
  obtain ⟨h1, h2, h3, h4⟩ := h
  refine ⟨h1, by rw [s.1 1 (by omega)]; exact h2, fun f p hf hp => by rw [s.1 _ (by omega)]; exact h3 f p hf hp, fun p t a hp ha => ?_⟩
  rw [s.1 12 (by omega), s.2]
  exact h4 p t a hp ha
theorem XRep.of_sameX {T : Tb} {n : Nat} {μ μ' : Mem} (h : XRep T n μ) (s : sameX μ μ') : XRep T n μ' := by
  obtain ⟨h1, h2, h3, h4⟩ := h
  refine ⟨h1, by rw [s.1 1 (by omega)]; exact h2, fun f p hf hp => by rw [s.1 _ (by omega)]; exact h3 f p hf hp, fun p t a hp ha => ?_⟩
  rw [s.1 12 (by omega), s.2]
  exact h4 p t a hp ha
theorem MRep.of_sameM {T : Tb} {n : Nat} {μ μ' : Mem} (h : MRep T n μ) (s : sameM μ μ') : MRep T n μ' :=
  ⟨by rw [s 15 (by omega)]; exact h.1, fun f p hf hp => by rw [s _ (by omega)]; exact h.2 f p hf hp⟩
theorem gsb_open {w : Nat} {gs : List (Nat × Nat)} {l : List Nat} (h : gm w gs) (hl : lok l) (h3 : l.length ≤ 3) (hn : ∀ q ∈ gs, q.1 < 3 + l.length ∧ q.2 < 3 + l.length ∧ q.1 < 6 ∧ q.2 < 6) : gsb w (rc l) = openb l gs := by
  rw [Bool.eq_iff_iff]
  unfold gsb openb
  rw [List.all_eq_true, List.all_eq_true]
  constructor
  · intro hg q hq
    obtain ⟨a1, a2, a3, a4⟩ := hn q hq
    have hd : (6 * q.1 + q.2) / 6 = q.1 := by omega
    have hm : (6 * q.1 + q.2) % 6 = q.2 := by omega
    have h1 := hg (6 * q.1 + q.2) (List.mem_range.mpr (by omega))
    rw [h.2 _ (by omega), hd, hm, decide_eq_true (by exact hq : (q.1, q.2) ∈ gs), xv_rc hl h3 a1, xv_rc hl h3 a2] at h1
    simpa using h1
  · intro hg i hi
    have hi := List.mem_range.mp hi
    rw [h.2 i hi]
    by_cases hm : (i / 6, i % 6) ∈ gs
    · obtain ⟨a1, a2, a3, a4⟩ := hn _ hm
      have h1 := hg _ hm
      rw [xv_rc hl h3 a1, xv_rc hl h3 a2]
      simp only [hm, decide_true, Bool.not_true, Bool.false_or]
      exact h1
    · simp [hm]
/-- the number that is meant, if there is one below n -/
def pj (n : Nat) (p : Int32) : Option Nat := if p < 0 then none else if p.toNatClampNeg < n then some p.toNatClampNeg else none
theorem pj_nI {n j : Nat} (hj : j < n) (hn : n < 2 ^ 31) : pj n (nI j) = some j := by
  unfold pj
  rw [if_neg (nI_nn (by omega)), nI_clamp (by omega), if_pos hj]
theorem pj_some {n j : Nat} {p : Int32} (h : pj n p = some j) (hn : n < 2 ^ 31) : j < n ∧ p = nI j := by
  unfold pj at h
  split at h
  · cases h
  · rename_i h0
    obtain ⟨i, hi, rfl⟩ := nI_of h0
    rw [nI_clamp hi] at h
    split at h
    · cases h
      exact ⟨by assumption, rfl⟩
    · cases h
theorem pj_none {n : Nat} {p : Int32} (h : pj n p = none) (hn : n < 2 ^ 31) : ¬ isP n p := by
  rintro ⟨j, hj, rfl⟩
  rw [pj_nI hj hn] at h
  cases h
theorem XRep.n24 {T : Tb} {n : Nat} {μ : Mem} (h : XRep T n μ) : n ≤ 24 ∧ 1 ≤ n := ⟨h.1.1.2, h.1.1.1⟩
theorem XRep.fld {T : Tb} {n : Nat} {μ : Mem} (h : XRep T n μ) (f : Nat) {p c : Nat} (hc : c = 3 + f) (hf : f < 9) (hp : p < n) : μ.1 c p = nI (T f p) := hc ▸ h.2.2.1 f p hf hp
end INV
section STORE
variable {g : Gm} {l : Launch} {μ : Mem} {T : Tb} {n : Nat}
theorem slA_none {p s : Nat} {r : List Nat} (hX : WF T n) (hp : p < n) (h : T 6 p ≤ s) : slA T p r s = none := by
  unfold slA slG
  rw [List.getElem?_eq_none (by rw [acts_len hX hp]; exact h)]
theorem mvs_eq' (hX : WF T n) {p : Nat} (hp : p < n) (r : List Nat) : mvs T p r = (List.range (T 6 p)).filterMap (slA T p r) := by
  rw [mvs_eq hX hp]
  have h6 := (hX.depth hp).2
  have hz : ∀ s, T 6 p ≤ s → slA T p r s = none := fun s hs => slA_none hX hp hs
  rcases (by omega : T 6 p = 0 ∨ T 6 p = 1 ∨ T 6 p = 2 ∨ T 6 p = 3) with h | h | h | h <;> rw [h]
  · simp [List.range_succ, List.filterMap_cons, hz 0 (by omega), hz 1 (by omega), hz 2 (by omega)]
  · simp only [List.range_succ, List.range_zero, List.nil_append, List.cons_append, List.filterMap_cons, hz 1 (by omega), hz 2 (by omega), List.filterMap_nil]
  · simp only [List.range_succ, List.range_zero, List.nil_append, List.cons_append, List.filterMap_cons, hz 2 (by omega), List.filterMap_nil]
theorem pre_succ (p i : Nat) (r : List Nat) : (List.range (i + 1)).filterMap (slA T p r) = (List.range i).filterMap (slA T p r) ++ (slA T p r i).toList := by
  rw [List.range_succ, List.filterMap_append]
  congr 1
theorem c_actionIn {p s : Nat} {r : List Nat} (hX : XRep T n μ) (hp : p < n) (hs : s < 3) (hl : lok r) (h3 : r.length ≤ 3) (hnd : T 7 p ≤ r.length) : Ct (GS g) l (3) yX2_actionIn cX2_actionIn 5 (some .int) [.ref (g.1 1), .int (nI p), .int (nI s), .int (nI (rc r))] μ (Is (.int (ri (slA T p r s))) μ) := by
  have hn := hX.n24
  have hr := (rc_lt hl h3).1
  have h6 := (hX.1.depth hp).2
  refine Ct.of (own := RX2) mi_X2_actionIn rfl [some (.ref (g.1 1)), some (.int (nI p)), some (.int (nI s)), some (.int (nI (rc r))), none] (Nat.le_of_ble_eq_true rfl) rfl (fun p₀ e₀ s₀ m₀ b₀ h₀ c₀ F => ?_)
  refine V_iload_n F dX2_actionIn_0 rfl ?_
  refine V_if_lt_f F (tgt := 16) dX2_actionIn_1 (by decide) (nI_nn (by omega)) ?_
  refine V_iload_n F dX2_actionIn_4 rfl ?_
  refine V_aload_n F dX2_actionIn_5 rfl ?_
  refine V_getf F (q0 := 1) (j := 7) lk_X2_30 dX2_actionIn_6 ig_X2 rfl rfl (by decide) rfl rfl ?_
  refine V_iload_n F dX2_actionIn_9 rfl ?_
  refine V_callSNi F (c_at (q := 9) rfl (show p < 24 by omega) (hX.fld 6 rfl (by omega) hp)) mi_X3_at ms_X3_at nk_X2_68 dX2_actionIn_10 (rmR (by omega)) rfl rfl (by decide) (Nat.le_of_ble_eq_true rfl) ?_
  refine V_icmp_lt_N F (tgt := 19) dX2_actionIn_13 (by decide) (by omega) (by omega) (fun h => ?_) (fun h => ?_)
  · obtain ⟨a, ha⟩ : ∃ a, (acts T p)[s]? = some a := ⟨_, List.getElem?_eq_getElem (by rw [acts_len hX.1 hp]; exact h)⟩
    obtain ⟨hm1, w, hm2, hw⟩ := hX.2.2.2 p s a hp ha
    have hf := acts_mem hX.1 hp a (List.mem_of_getElem? ha)
    have ho := gsb_open hw hl h3 (fun q hq => by have := hf.2.2.2.2.2.2 q hq; omega)
    have hsl : slA T p r s = if openb r a.2 = true then some a.1 else none := by unfold slA slG; rw [ha]
    refine V_iload_n F dX2_actionIn_19 rfl ?_
    refine V_iconst F (v := nI 3) dX2_actionIn_20 (by decide) ?_
    (first | refine V_imulN F dX2_actionIn_21 ?_ | refine V_imul F dX2_actionIn_21 ?_)
    refine V_iload_n F dX2_actionIn_22 rfl ?_
    (first | refine V_iaddN F dX2_actionIn_23 ?_ | refine V_iadd F dX2_actionIn_23 ?_)
    refine V_val F ((by rw [Nat.mul_comm p 3])) ?_
    refine V_istore F (lv' := [_, _, _, _, _]) dX2_actionIn_24 (by decide) rfl rfl ?_
    refine V_aload_n F dX2_actionIn_26 rfl ?_
    refine V_getf F (q0 := 1) (j := 11) lk_X2_46 dX2_actionIn_27 ig_X2 rfl rfl (by decide) rfl rfl ?_
    refine V_iload F dX2_actionIn_30 rfl ?_
    refine V_callSNi F (c_atL (show 3 * p + s < 72 by omega) hm2) mi_X3_at_ ms_X3_at_ nk_X2_103 dX2_actionIn_32 (rmR (by omega)) rfl rfl (by decide) (Nat.le_of_ble_eq_true rfl) ?_
    refine V_iload_n F dX2_actionIn_35 rfl ?_
    refine V_callSi F (c_isOpen hw.1 (by omega)) mi_X2_isOpen ms_X2_isOpen lk_X2_110 dX2_actionIn_36 (rmR (by omega)) rfl rfl (by decide) (Nat.le_of_ble_eq_true rfl) ?_
    rw [ho, hsl]
    by_cases hb : openb r a.2 = true
    · rw [if_pos hb, if_pos hb]
      refine V_if_eq_f F (tgt := 54) dX2_actionIn_39 (by decide) (by decide) ?_
      refine V_aload_n F dX2_actionIn_42 rfl ?_
      refine V_getf F (q0 := 1) (j := 10) lk_X2_43 dX2_actionIn_43 ig_X2 rfl rfl (by decide) rfl rfl ?_
      refine V_iload F dX2_actionIn_46 rfl ?_
      refine V_callSNi F (c_at (q := 12) rfl (show 3 * p + s < 72 by omega) hm1) mi_X3_at ms_X3_at nk_X2_68 dX2_actionIn_48 (rmR (by omega)) rfl rfl (by decide) (Nat.le_of_ble_eq_true rfl) ?_
      refine V_goto F (tgt := 56) dX2_actionIn_51 (by decide) ?_
      exact V_iret F dX2_actionIn_56 (⟨rfl, rfl⟩)
    · rw [if_neg hb, if_neg hb]
      refine V_if_eq_t F (tgt := 54) dX2_actionIn_39 (by decide) (by decide) ?_
      refine V_bipush F (v := (-4)) dX2_actionIn_54 (by decide) ?_
      exact V_iret F dX2_actionIn_56 (⟨rfl, rfl⟩)
  · rw [slA_none hX.1 hp (by omega)]
    refine V_bipush F (v := (-4)) dX2_actionIn_16 (by decide) ?_
    exact V_iret F dX2_actionIn_18 (⟨rfl, rfl⟩)
theorem rc_nil : nI 1 = nI (rc []) := rfl
theorem ri_ne {o : Option Nat} (h : ∀ a, o = some a → a < 24) : ri o = -4 ↔ o = none := by
  cases o with
  | none => exact ⟨fun _ => rfl, fun _ => rfl⟩
  | some a =>
    refine ⟨fun q => ?_, fun q => by cases q⟩
    exfalso
    have ha := h a rfl
    have : ∀ a, a < 24 → nI a ≠ -4 := by decide +kernel
    exact this a ha q
theorem slA_lt (hX : WF T n) {p s : Nat} (hp : p < n) {r : List Nat} : ∀ a, slA T p r s = some a → a < 24 := fun a h => by
  obtain ⟨gs, h1, -⟩ := slA_mem h
  have := acts_mem hX hp _ h1
  have := hX.1.2
  omega
theorem c_movesOf {p : Nat} (hX : XRep T n μ) (hp : p < n) (hnd : T 7 p = 0) : Ct (GS g) l (4) yX2_movesOf cX2_movesOf 4 (some .int) [.ref (g.1 1), .int (nI p)] μ (Is (.int (nI (mvs T p []).length)) μ) := by
  have hn := hX.n24
  have h6 := (hX.1.depth hp).2
  refine Ct.of (own := RX2) mi_X2_movesOf rfl [some (.ref (g.1 1)), some (.int (nI p)), none, none] (Nat.le_of_ble_eq_true rfl) rfl (fun p₀ e₀ s₀ m₀ b₀ h₀ c₀ F => ?_)
  have loop : ∀ (k i : Nat), i + k = T 6 p → V (GS g) p₀ l e₀ (rmD (4)) s₀ m₀ (List.toArray [.ref (g.1 1), .int (nI p)]) b₀ h₀ c₀ 4 0 0 (MQ b₀ (Qp (GS g) (Is (.int (nI (mvs T p []).length)) μ)) (List.toArray [.ref (g.1 1), .int (nI p)]) s₀ 0 0 (gA (GS g))) 4 ([some (.ref (g.1 1)), some (.int (nI p)), some (.int (nI ((List.range i).filterMap (slA T p [])).length)), some (.int (nI i))]) ([]) (μ) := by
    intro k
    induction k with
    | zero =>
      intro i hi
      refine V_iload_n F dX2_movesOf_4 rfl ?_
      refine V_aload_n F dX2_movesOf_5 rfl ?_
      refine V_getf F (q0 := 1) (j := 7) lk_X2_30 dX2_movesOf_6 ig_X2 rfl rfl (by decide) rfl rfl ?_
      refine V_iload_n F dX2_movesOf_9 rfl ?_
      refine V_callSNi F (c_at (q := 9) rfl (show p < 24 by omega) (hX.fld 6 rfl (by omega) hp)) mi_X3_at ms_X3_at nk_X2_68 dX2_movesOf_10 (rmR (by omega)) rfl rfl (by decide) (Nat.le_of_ble_eq_true rfl) ?_
      refine V_icmp_ge_N F (tgt := 37) dX2_movesOf_13 (by decide) (by omega) (by omega) (fun h => ?_) (fun h => ?_)
      · skip
        refine V_iload_n F dX2_movesOf_37 rfl ?_
        exact V_iret F dX2_movesOf_38 (⟨by rw [mvs_eq' hX.1 hp, show i = T 6 p by omega], rfl⟩)
      · omega
    | succ k ih =>
      intro i hi
      refine V_iload_n F dX2_movesOf_4 rfl ?_
      refine V_aload_n F dX2_movesOf_5 rfl ?_
      refine V_getf F (q0 := 1) (j := 7) lk_X2_30 dX2_movesOf_6 ig_X2 rfl rfl (by decide) rfl rfl ?_
      refine V_iload_n F dX2_movesOf_9 rfl ?_
      refine V_callSNi F (c_at (q := 9) rfl (show p < 24 by omega) (hX.fld 6 rfl (by omega) hp)) mi_X3_at ms_X3_at nk_X2_68 dX2_movesOf_10 (rmR (by omega)) rfl rfl (by decide) (Nat.le_of_ble_eq_true rfl) ?_
      refine V_icmp_ge_N F (tgt := 37) dX2_movesOf_13 (by decide) (by omega) (by omega) (fun h => ?_) (fun h => ?_)
      · omega
      · skip
        refine V_aload_n F dX2_movesOf_16 rfl ?_
        refine V_iload_n F dX2_movesOf_17 rfl ?_
        refine V_iload_n F dX2_movesOf_18 rfl ?_
        refine V_iconst F (v := nI 1) dX2_movesOf_19 (by decide) ?_
        refine V_callVi F (q0 := 1) (c_actionIn (r := []) hX hp (by omega) trivial (by simp) (by simp [hnd])) mi_X2_actionIn mm_X2_actionIn lk_X2_114 dX2_movesOf_20 (rmR (by omega)) rfl rfl (by decide) (Nat.le_of_ble_eq_true rfl) rfl rfl rfl ?_
        refine V_bipush F (v := (-4)) dX2_movesOf_23 (by decide) ?_
        have e := ih (i + 1) (by omega)
        rw [pre_succ] at e
        cases hs : slA T p [] i with
        | none =>
          rw [hs] at e
          simp only [Option.toList, List.append_nil] at e
          refine V_icmp_eq_t F (tgt := 31) dX2_movesOf_25 (by decide) (rfl) ?_
          refine V_iinc F (lv' := [_, _, _, _]) dX2_movesOf_31 rfl (by decide) rfl rfl ?_
          rw [show nI i + Int32.ofInt 1 = nI (i + 1) from nI_1 i]
          refine V_goto F (tgt := 4) dX2_movesOf_34 (by decide) ?_
          exact e
        | some a =>
          rw [hs] at e
          simp only [Option.toList, List.length_append, List.length_singleton] at e
          refine V_icmp_eq_f F (tgt := 31) dX2_movesOf_25 (by decide) (fun q => by have := (ri_ne (by intro b hb; cases hb; exact slA_lt hX.1 hp a hs)).mp q; cases this) ?_
          refine V_iinc F (lv' := [_, _, _, _]) dX2_movesOf_28 rfl (by decide) rfl rfl ?_
          refine V_iinc F (lv' := [_, _, _, _]) dX2_movesOf_31 rfl (by decide) rfl rfl ?_
          rw [show nI i + Int32.ofInt 1 = nI (i + 1) from nI_1 i, show ∀ z, nI z + Int32.ofInt 1 = nI (z + 1) from nI_1]
          refine V_goto F (tgt := 4) dX2_movesOf_34 (by decide) ?_
          exact e
  refine V_iconst F (v := nI 0) dX2_movesOf_0 (by decide) ?_
  refine V_istore_n F (lv' := [_, _, _, _]) dX2_movesOf_1 (by decide) rfl rfl ?_
  refine V_iconst F (v := nI 0) dX2_movesOf_2 (by decide) ?_
  refine V_istore_n F (lv' := [_, _, _, _]) dX2_movesOf_3 (by decide) rfl rfl ?_
  exact loop (T 6 p) 0 (by omega)
end STORE

