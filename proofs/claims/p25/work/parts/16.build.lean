section BUILDS
variable {T : Tb} {n : Nat}
def bD (T : Tb) (k p q : Nat) : Nat := max (T 5 p) (T 5 q) + (if k ≤ 3 then 1 else 0)
def bB (T : Tb) (k p q : Nat) : Nat := if k ≤ 3 then 1 else T 6 p + T 6 q
def bN (T : Tb) (k x y p q : Nat) : Nat := max (max x y - 2) (max (T 7 p - (if k = 3 then 1 else 0)) (T 7 q))
def bL (T : Tb) (k p q : Nat) : Nat := hdl k + T 8 p + (if k = 5 then T 8 q + 2 else 0)
def bT (T : Tb) (n k x y p q : Nat) : Tb := fun f j => if j = n then (match f with
  | 0 => k
  | 1 => x
  | 2 => y
  | 3 => p
  | 4 => q
  | 5 => bD T k p q
  | 6 => bB T k p q
  | 7 => bN T k x y p q
  | 8 => bL T k p q
  | _ => 0) else T f j
/-- what can be asked to be built -/
def bOk (n k x y p q : Nat) : Prop := 1 ≤ k ∧ k ≤ 5 ∧ x < 6 ∧ y < 6 ∧ p < n ∧ q < n ∧ (k = 1 → x = 0 ∧ y = 0) ∧ (k = 3 → y = 0) ∧ (k = 5 → x = 0 ∧ y = 0) ∧ (k ≠ 5 → q = 0)
def bFit (T : Tb) (n k p q : Nat) : Prop := n < 24 ∧ bD T k p q ≤ 3 ∧ bB T k p q ≤ 3
theorem bT_old {k x y p q f j : Nat} (h : j ≠ n) : bT T n k x y p q f j = T f j := by unfold bT; rw [if_neg h]
theorem bT_wf {k x y p q : Nat} (hW : WF T n) (ho : bOk n k x y p q) (hf : bFit T n k p q) : WF (bT T n k x y p q) (n + 1) := by
  obtain ⟨o1, o2, o3, o4, o5, o6, o7, o8, o9, o10⟩ := ho
  obtain ⟨f1, f2, f3⟩ := hf
  refine ⟨by omega, ?_, fun j hj hjn => ?_⟩
  · simp only [bT_old (show 0 ≠ n by omega)]
    exact hW.2.1
  · by_cases he : j = n
    · subst he
      have ep : ∀ f, bT T j k x y p q f p = T f p := fun f => bT_old (by omega)
      have eq : ∀ f, bT T j k x y p q f q = T f q := fun f => bT_old (by omega)
      have e0 : bT T j k x y p q 0 j = k := by simp [bT]
      have e1 : bT T j k x y p q 1 j = x := by simp [bT]
      have e2 : bT T j k x y p q 2 j = y := by simp [bT]
      have e3 : bT T j k x y p q 3 j = p := by simp [bT]
      have e4 : bT T j k x y p q 4 j = q := by simp [bT]
      have e5 : bT T j k x y p q 5 j = bD T k p q := by simp [bT]
      have e6 : bT T j k x y p q 6 j = bB T k p q := by simp [bT]
      have e7 : bT T j k x y p q 7 j = bN T k x y p q := by simp [bT]
      have e8 : bT T j k x y p q 8 j = bL T k p q := by simp [bT]
      unfold WFp
      rw [e0, e1, e2, e3, e4, e5, e6, e7, e8]
      simp only [ep, eq]
      exact ⟨⟨o1, o2, o3, o4, o5, o6⟩, ⟨o7, o8, o9, o10⟩, ⟨rfl, f2⟩, ⟨rfl, f3⟩, rfl, rfl⟩
    · have hw := hW.2.2 j hj (by omega)
      have e : ∀ f, bT T n k x y p q f j = T f j := fun f => bT_old he
      obtain ⟨⟨-, -, -, -, h3, h4⟩, -⟩ := id hw
      have ep : ∀ f, bT T n k x y p q f (T 3 j) = T f (T 3 j) := fun f => bT_old (by omega)
      have eq : ∀ f, bT T n k x y p q f (T 4 j) = T f (T 4 j) := fun f => bT_old (by omega)
      unfold WFp at hw ⊢
      simp only [e, ep, eq]
      exact hw
/-- which worths are kept where -/
def plc (hi lo rel view : Nat) : Nat := hi * (hi - 1) / 2 * 15 + lo * 15 + (rel * 5 + view)
def vls : Nat → List Nat
  | 0 => []
  | v + 1 => [v]
def Memo (T : Tb) (n : Nat) (μ : Mem) : Prop := ∀ hi lo rel view, hi < 24 → lo < hi → rel < 3 → view < 5 → μ.1 14 (plc hi lo rel view) = 0 ∨
  (hi < n ∧ T 7 hi ≤ (vls view).length ∧ T 7 lo ≤ (vls view).length ∧ ∃ r, μ.1 14 (plc hi lo rel view) = nI r ∧ r ≤ 4 ∧ Sp r (fun k => win T rel k hi lo (vls view)) 3)
def XInv (T : Tb) (n : Nat) (μ : Mem) : Prop := XRep T n μ ∧ Memo T n μ
theorem Memo.grow {T' : Tb} {n' : Nat} {μ μ' : Mem} (hW : WF T n) (hW' : WF T' n') (hn : n ≤ n') (hT : ∀ f p, p < n → T' f p = T f p) (h : Memo T n μ) (hm : μ'.1 14 = μ.1 14) : Memo T' n' μ' := by
  intro hi lo rel view h1 h2 h3 h4
  rw [hm]
  rcases h hi lo rel view h1 h2 h3 h4 with h | ⟨a1, a2, a3, r, a4, a5, a6⟩
  · exact Or.inl h
  · refine Or.inr ⟨by omega, by rw [hT _ _ a1]; exact a2, by rw [hT _ _ (by omega)]; exact a3, r, a4, a5, a6.1, fun j hj => ?_⟩
    show r ≤ j ↔ win T' rel j hi lo (vls view) = true
    rw [win_congr hW hW' hn hT rel j hi lo _ a1 (by omega)]
    exact a6.2 j hj
theorem XInv.of_sameX {μ μ' : Mem} (h : XInv T n μ) (s : sameX μ μ') : XInv T n μ' := ⟨h.1.of_sameX s, h.2.grow h.1.1 h.1.1 (Nat.le_refl _) (fun _ _ _ => rfl) (s.1 14 (by omega))⟩
theorem gm_cons {w x y : Nat} {gs : List (Nat × Nat)} (h : gm w gs) (hx : x < 6) (hy : y < 6) : gm (w ||| 2 ^ (x * 6 + y)) ((x, y) :: gs) := by
  refine ⟨Nat.or_lt_two_pow h.1 (Nat.pow_lt_pow_right (by omega) (by omega)), fun i hi => ?_⟩
  rw [Nat.testBit_or, h.2 i hi, Nat.testBit_two_pow]
  rw [Bool.eq_iff_iff]
  simp only [Bool.or_eq_true, decide_eq_true_eq, List.mem_cons, Prod.mk.injEq]
  constructor
  · rintro (h | h)
    · exact Or.inr h
    · left; omega
  · rintro (h | h)
    · right; omega
    · exact Or.inl h
theorem gm_nil : gm 0 [] := ⟨by omega, fun i hi => by simp⟩
theorem needE : ∀ m, m < 6 → ∀ a, a < 4 → ∀ s, s < 2 → ∀ c, c < 4 →
    (if nI 0 < (if nI m - nI 2 < (if nI a - nI s < nI c then nI c else nI a - nI s) then (if nI a - nI s < nI c then nI c else nI a - nI s) else nI m - nI 2) then (if nI m - nI 2 < (if nI a - nI s < nI c then nI c else nI a - nI s) then (if nI a - nI s < nI c then nI c else nI a - nI s) else nI m - nI 2) else nI 0) = nI (max (m - 2) (max (a - s) c)) := by decide +kernel
theorem wr_ne {μ : Mem} {c i d j : Nat} {v : Int32} (h : ¬ (d = c ∧ j = i)) : (wr μ c i v).1 d j = μ.1 d j := by rw [wr_at, if_neg h]
theorem wr_eq {μ : Mem} {c i : Nat} {v : Int32} : (wr μ c i v).1 c i = v := by rw [wr_at, if_pos ⟨rfl, rfl⟩]
end BUILDS
section BUILD
variable {g : Gm} {l : Launch} {μ : Mem} {T : Tb} {n : Nat}
theorem c_needFor {k x y p q a c : Nat} (hk : k < 6) (hx : x < 6) (hy : y < 6) (hp : p < 24) (hq : q < 24) (ha : a < 4) (hc : c < 4) (h1 : μ.1 10 p = nI a) (h2 : μ.1 10 q = nI c) : Ct (GS g) l (1) yX2_needFor cX2_needFor 9 (some .int) [.ref (g.1 1), .int (nI k), .int (nI x), .int (nI y), .int (nI p), .int (nI q)] μ (Is (.int (nI (max (max x y - 2) (max (a - (if k = 3 then 1 else 0)) c)))) μ) := by
  refine Ct.of (own := RX2) mi_X2_needFor rfl [some (.ref (g.1 1)), some (.int (nI k)), some (.int (nI x)), some (.int (nI y)), some (.int (nI p)), some (.int (nI q)), none, none, none] (Nat.le_of_ble_eq_true rfl) rfl (fun p₀ e₀ s₀ m₀ b₀ h₀ c₀ F => ?_)
  refine V_iload_n F dX2_needFor_0 rfl ?_
  refine V_iload_n F dX2_needFor_1 rfl ?_
  refine V_maxN F lk_X2_72 dX2_needFor_2 (rmM (by omega) (Nat.le_of_ble_eq_true rfl)) (by omega) (by omega) ?_
  refine V_iconst F (v := nI 2) dX2_needFor_5 (by decide) ?_
  refine V_isub F dX2_needFor_6 ?_
  refine V_istore F (lv' := [_, _, _, _, _, _, _, _, _]) dX2_needFor_7 (by decide) rfl rfl ?_
  refine V_aload_n F dX2_needFor_9 rfl ?_
  refine V_getf F (q0 := 1) (j := 8) lk_X2_33 dX2_needFor_10 ig_X2 rfl rfl (by decide) rfl rfl ?_
  refine V_iload F dX2_needFor_13 rfl ?_
  refine V_callSNi F (c_at (q := 10) rfl hp h1) mi_X3_at ms_X3_at nk_X2_68 dX2_needFor_15 (rmR (by omega)) rfl rfl (by decide) (Nat.le_of_ble_eq_true rfl) ?_
  refine V_iload_n F dX2_needFor_18 rfl ?_
  refine V_iconst F (v := nI 3) dX2_needFor_19 (by decide) ?_
  have hm : max x y < 6 := by omega
  refine V_icmp_ne_N F (tgt := 27) dX2_needFor_20 (by decide) (by omega) (by omega) (fun h3 => ?_) (fun h3 => ?_)
  · rw [if_neg h3]
    refine V_iconst F (v := nI 0) dX2_needFor_27 (by decide) ?_
    refine V_isub F dX2_needFor_28 ?_
    refine V_istore F (lv' := [_, _, _, _, _, _, _, _, _]) dX2_needFor_29 (by decide) rfl rfl ?_
    refine V_iload F dX2_needFor_31 rfl ?_
    refine V_aload_n F dX2_needFor_33 rfl ?_
    refine V_getf F (q0 := 1) (j := 8) lk_X2_33 dX2_needFor_34 ig_X2 rfl rfl (by decide) rfl rfl ?_
    refine V_iload F dX2_needFor_37 rfl ?_
    refine V_callSNi F (c_at (q := 10) rfl hq h2) mi_X3_at ms_X3_at nk_X2_68 dX2_needFor_39 (rmR (by omega)) rfl rfl (by decide) (Nat.le_of_ble_eq_true rfl) ?_
    refine V_max F lk_X2_72 dX2_needFor_42 (rmM (by omega) (Nat.le_of_ble_eq_true rfl)) ?_
    refine V_istore F (lv' := [_, _, _, _, _, _, _, _, _]) dX2_needFor_45 (by decide) rfl rfl ?_
    refine V_iconst F (v := nI 0) dX2_needFor_47 (by decide) ?_
    refine V_iload F dX2_needFor_48 rfl ?_
    refine V_iload F dX2_needFor_50 rfl ?_
    refine V_max F lk_X2_72 dX2_needFor_52 (rmM (by omega) (Nat.le_of_ble_eq_true rfl)) ?_
    refine V_max F lk_X2_72 dX2_needFor_55 (rmM (by omega) (Nat.le_of_ble_eq_true rfl)) ?_
    refine V_val F (needE _ hm a ha 0 (by omega) c hc) ?_
    exact V_iret F dX2_needFor_58 (⟨rfl, rfl⟩)
  · rw [if_pos (Classical.not_not.mp h3)]
    refine V_iconst F (v := nI 1) dX2_needFor_23 (by decide) ?_
    refine V_goto F (tgt := 28) dX2_needFor_24 (by decide) ?_
    refine V_isub F dX2_needFor_28 ?_
    refine V_istore F (lv' := [_, _, _, _, _, _, _, _, _]) dX2_needFor_29 (by decide) rfl rfl ?_
    refine V_iload F dX2_needFor_31 rfl ?_
    refine V_aload_n F dX2_needFor_33 rfl ?_
    refine V_getf F (q0 := 1) (j := 8) lk_X2_33 dX2_needFor_34 ig_X2 rfl rfl (by decide) rfl rfl ?_
    refine V_iload F dX2_needFor_37 rfl ?_
    refine V_callSNi F (c_at (q := 10) rfl hq h2) mi_X3_at ms_X3_at nk_X2_68 dX2_needFor_39 (rmR (by omega)) rfl rfl (by decide) (Nat.le_of_ble_eq_true rfl) ?_
    refine V_max F lk_X2_72 dX2_needFor_42 (rmM (by omega) (Nat.le_of_ble_eq_true rfl)) ?_
    refine V_istore F (lv' := [_, _, _, _, _, _, _, _, _]) dX2_needFor_45 (by decide) rfl rfl ?_
    refine V_iconst F (v := nI 0) dX2_needFor_47 (by decide) ?_
    refine V_iload F dX2_needFor_48 rfl ?_
    refine V_iload F dX2_needFor_50 rfl ?_
    refine V_max F lk_X2_72 dX2_needFor_52 (rmM (by omega) (Nat.le_of_ble_eq_true rfl)) ?_
    refine V_max F lk_X2_72 dX2_needFor_55 (rmM (by omega) (Nat.le_of_ble_eq_true rfl)) ?_
    refine V_val F (needE _ hm a ha 1 (by omega) c hc) ?_
    exact V_iret F dX2_needFor_58 (⟨rfl, rfl⟩)
theorem c_lengthFor {k p q a c : Nat} (hk : k < 6) (hp : p < 24) (hq : q < 24) (h1 : μ.1 11 p = nI a) (h2 : μ.1 11 q = nI c) : Ct (GS g) l (2) yX2_lengthFor cX2_lengthFor 5 (some .int) [.ref (g.1 1), .int (nI k), .int (nI p), .int (nI q)] μ (Is (.int (nI (hdl k + a + (if k = 5 then c + 2 else 0)))) μ) := by
  obtain ⟨hx1, hx2⟩ := hix_len k hk
  refine Ct.of (own := RX2) mi_X2_lengthFor rfl [some (.ref (g.1 1)), some (.int (nI k)), some (.int (nI p)), some (.int (nI q)), none] (Nat.le_of_ble_eq_true rfl) rfl (fun p₀ e₀ s₀ m₀ b₀ h₀ c₀ F => ?_)
  refine V_iload_n F dX2_lengthFor_0 rfl ?_
  refine V_callSi F (c_headOf hk) mi_X2_headOf ms_X2_headOf lk_X2_54 dX2_lengthFor_1 (rmR (by omega)) rfl rfl (by decide) (Nat.le_of_ble_eq_true rfl) ?_
  refine V_callK F hx2 (c_slen hx2) mi_J0_length_8abf5 mm_J0_length_8abf5 lk_X2_58 dX2_lengthFor_4 (rmR (by omega)) rfl rfl (by decide) (Nat.le_of_ble_eq_true rfl) rfl ?_
  rw [hx1]
  refine V_aload_n F dX2_lengthFor_7 rfl ?_
  refine V_getf F (q0 := 1) (j := 9) lk_X2_40 dX2_lengthFor_8 ig_X2 rfl rfl (by decide) rfl rfl ?_
  refine V_iload_n F dX2_lengthFor_11 rfl ?_
  refine V_callSNi F (c_at (q := 11) rfl hp h1) mi_X3_at ms_X3_at nk_X2_68 dX2_lengthFor_12 (rmR (by omega)) rfl rfl (by decide) (Nat.le_of_ble_eq_true rfl) ?_
  (first | refine V_iaddN F dX2_lengthFor_15 ?_ | refine V_iadd F dX2_lengthFor_15 ?_)
  refine V_istore F (lv' := [_, _, _, _, _]) dX2_lengthFor_16 (by decide) rfl rfl ?_
  refine V_iload_n F dX2_lengthFor_18 rfl ?_
  refine V_iconst F (v := nI 5) dX2_lengthFor_19 (by decide) ?_
  refine V_icmp_ne_N F (tgt := 38) dX2_lengthFor_20 (by decide) (by omega) (by omega) (fun h3 => ?_) (fun h3 => ?_)
  · rw [if_neg h3]
    refine V_iload F dX2_lengthFor_38 rfl ?_
    exact V_iret F dX2_lengthFor_40 (⟨rfl, rfl⟩)
  · rw [if_pos (Classical.not_not.mp h3)]
    refine V_iload F dX2_lengthFor_23 rfl ?_
    refine V_aload_n F dX2_lengthFor_25 rfl ?_
    refine V_getf F (q0 := 1) (j := 9) lk_X2_40 dX2_lengthFor_26 ig_X2 rfl rfl (by decide) rfl rfl ?_
    refine V_iload_n F dX2_lengthFor_29 rfl ?_
    refine V_callSNi F (c_at (q := 11) rfl hq h2) mi_X3_at ms_X3_at nk_X2_68 dX2_lengthFor_30 (rmR (by omega)) rfl rfl (by decide) (Nat.le_of_ble_eq_true rfl) ?_
    refine V_iconst F (v := nI 2) dX2_lengthFor_33 (by decide) ?_
    (first | refine V_iaddN F dX2_lengthFor_34 ?_ | refine V_iadd F dX2_lengthFor_34 ?_)
    (first | refine V_iaddN F dX2_lengthFor_35 ?_ | refine V_iadd F dX2_lengthFor_35 ?_)
    refine V_istore F (lv' := [_, _, _, _, _]) dX2_lengthFor_36 (by decide) rfl rfl ?_
    refine V_iload F dX2_lengthFor_38 rfl ?_
    exact V_iret F dX2_lengthFor_40 (⟨rfl, rfl⟩)
/-- some actions copied behind a place, a guard put to each -/
def CpA (μ μ' : Mem) (part base : Nat) (w : Int64) (b : Nat) : Prop := (∀ c j, ¬ (c = 12 ∧ base ≤ j ∧ j < base + b) → μ'.1 c j = μ.1 c j) ∧ (∀ j, ¬ (base ≤ j ∧ j < base + b) → μ'.2 j = μ.2 j) ∧
  ∀ s, s < b → μ'.1 12 (base + s) = μ.1 12 (3 * part + s) ∧ μ'.2 (base + s) = μ.2 (3 * part + s) ||| w
theorem c_copy {part made behind b : Nat} {w : Int64} (hb : μ.1 9 part = nI b) (hpm : part < made) (hm : made < 24) (hbb : behind + b ≤ 3) : Ct (GS g) l (1) yX2_copyActions cX2_copyActions 9 none [.ref (g.1 1), .int (nI part), .int (nI made), .int (nI behind), .long w] μ ((fun r μ' => r = none ∧ CpA μ μ' part (3 * made + behind) w b)) := by
  refine Ct.of (own := RX2) mi_X2_copyActions rfl [some (.ref (g.1 1)), some (.int (nI part)), some (.int (nI made)), some (.int (nI behind)), some (.long w), none, none, none, none] (Nat.le_of_ble_eq_true rfl) rfl (fun p₀ e₀ s₀ m₀ b₀ h₀ c₀ F => ?_)
  have loop : ∀ (k i : Nat) (ν : Mem), i + k = b → CpA μ ν part (3 * made + behind) w i → V (GS g) p₀ l e₀ (rmD (1)) s₀ m₀ (List.toArray [.ref (g.1 1), .int (nI part), .int (nI made), .int (nI behind), .long w]) b₀ h₀ c₀ 9 0 0 (MQ b₀ (Qp (GS g) ((fun r μ' => r = none ∧ CpA μ μ' part (3 * made + behind) w b))) (List.toArray [.ref (g.1 1), .int (nI part), .int (nI made), .int (nI behind), .long w]) s₀ 0 0 (gA (GS g))) 3 ([some (.ref (g.1 1)), some (.int (nI part)), some (.int (nI made)), some (.int (nI behind)), some (.long w), none, some (.int (nI i)), none, none]) ([]) (ν) := by
    intro k
    induction k with
    | zero =>
      intro i ν hi hν
      refine V_iload F dX2_copyActions_3 rfl ?_
      refine V_aload_n F dX2_copyActions_5 rfl ?_
      refine V_getf F (q0 := 1) (j := 7) lk_X2_30 dX2_copyActions_6 ig_X2 rfl rfl (by decide) rfl rfl ?_
      refine V_iload_n F dX2_copyActions_9 rfl ?_
      refine V_callSNi F (c_at (q := 9) (v := nI b) rfl (show part < 24 by omega) (by rw [hν.1 _ _ (by omega)]; exact hb)) mi_X3_at ms_X3_at nk_X2_68 dX2_copyActions_10 (rmR (by omega)) rfl rfl (by decide) (Nat.le_of_ble_eq_true rfl) ?_
      refine V_icmp_ge_N F (tgt := 79) dX2_copyActions_13 (by decide) (by omega) (by omega) (fun h => ?_) (fun h => ?_)
      · skip
        exact V_vret F dX2_copyActions_79 (⟨rfl, by rw [show b = i by omega]; exact hν⟩)
      · omega
    | succ k ih =>
      intro i ν hi hν
      refine V_iload F dX2_copyActions_3 rfl ?_
      refine V_aload_n F dX2_copyActions_5 rfl ?_
      refine V_getf F (q0 := 1) (j := 7) lk_X2_30 dX2_copyActions_6 ig_X2 rfl rfl (by decide) rfl rfl ?_
      refine V_iload_n F dX2_copyActions_9 rfl ?_
      refine V_callSNi F (c_at (q := 9) (v := nI b) rfl (show part < 24 by omega) (by rw [hν.1 _ _ (by omega)]; exact hb)) mi_X3_at ms_X3_at nk_X2_68 dX2_copyActions_10 (rmR (by omega)) rfl rfl (by decide) (Nat.le_of_ble_eq_true rfl) ?_
      refine V_icmp_ge_N F (tgt := 79) dX2_copyActions_13 (by decide) (by omega) (by omega) (fun h => ?_) (fun h => ?_)
      · omega
      · have e1 : part * 3 + i = 3 * part + i := by omega
        have e2 : made * 3 + behind + i = 3 * made + behind + i := by omega
        refine V_iload_n F dX2_copyActions_16 rfl ?_
        refine V_iconst F (v := nI 3) dX2_copyActions_17 (by decide) ?_
        (first | refine V_imulN F dX2_copyActions_18 ?_ | refine V_imul F dX2_copyActions_18 ?_)
        refine V_iload F dX2_copyActions_19 rfl ?_
        (first | refine V_iaddN F dX2_copyActions_21 ?_ | refine V_iadd F dX2_copyActions_21 ?_)
        rw [e1]
        refine V_istore F (lv' := [_, _, _, _, _, _, _, _, _]) dX2_copyActions_22 (by decide) rfl rfl ?_
        refine V_iload_n F dX2_copyActions_24 rfl ?_
        refine V_iconst F (v := nI 3) dX2_copyActions_25 (by decide) ?_
        (first | refine V_imulN F dX2_copyActions_26 ?_ | refine V_imul F dX2_copyActions_26 ?_)
        refine V_iload_n F dX2_copyActions_27 rfl ?_
        (first | refine V_iaddN F dX2_copyActions_28 ?_ | refine V_iadd F dX2_copyActions_28 ?_)
        refine V_iload F dX2_copyActions_29 rfl ?_
        (first | refine V_iaddN F dX2_copyActions_31 ?_ | refine V_iadd F dX2_copyActions_31 ?_)
        rw [e2]
        refine V_istore F (lv' := [_, _, _, _, _, _, _, _, _]) dX2_copyActions_32 (by decide) rfl rfl ?_
        refine V_aload_n F dX2_copyActions_34 rfl ?_
        refine V_getf F (q0 := 1) (j := 10) lk_X2_43 dX2_copyActions_35 ig_X2 rfl rfl (by decide) rfl rfl ?_
        refine V_iload F dX2_copyActions_38 rfl ?_
        refine V_aload_n F dX2_copyActions_40 rfl ?_
        refine V_getf F (q0 := 1) (j := 10) lk_X2_43 dX2_copyActions_41 ig_X2 rfl rfl (by decide) rfl rfl ?_
        refine V_iload F dX2_copyActions_44 rfl ?_
        refine V_callSNi F (c_at (q := 12) rfl (show 3 * part + i < 72 by omega) (hν.1 12 _ (by omega))) mi_X3_at ms_X3_at nk_X2_68 dX2_copyActions_46 (rmR (by omega)) rfl rfl (by decide) (Nat.le_of_ble_eq_true rfl) ?_
        refine V_callSN0 F (c_put (q := 12) rfl (show 3 * made + behind + i < 72 by omega)) mi_X3_put ms_X3_put nk_X2_64 dX2_copyActions_49 (rmR (by omega)) rfl rfl (by decide) (Nat.le_of_ble_eq_true rfl) ?_
        refine V_aload_n F dX2_copyActions_52 rfl ?_
        refine V_getf F (q0 := 1) (j := 11) lk_X2_46 dX2_copyActions_53 ig_X2 rfl rfl (by decide) rfl rfl ?_
        refine V_iload F dX2_copyActions_56 rfl ?_
        refine V_aload_n F dX2_copyActions_58 rfl ?_
        refine V_getf F (q0 := 1) (j := 11) lk_X2_46 dX2_copyActions_59 ig_X2 rfl rfl (by decide) rfl rfl ?_
        refine V_iload F dX2_copyActions_62 rfl ?_
        refine V_callSNi F (c_atL (j := 3 * part + i) (v := μ.2 (3 * part + i)) (by omega) (by rw [wr_2]; exact hν.2.1 _ (by omega))) mi_X3_at_ ms_X3_at_ nk_X2_103 dX2_copyActions_64 (rmR (by omega)) rfl rfl (by decide) (Nat.le_of_ble_eq_true rfl) ?_
        refine V_lload F dX2_copyActions_67 rfl ?_
        refine V_lor F dX2_copyActions_69 ?_
        refine V_callSN0 F (c_putL (show 3 * made + behind + i < 72 by omega)) mi_X3_put_ ms_X3_put_ nk_X2_96 dX2_copyActions_70 (rmR (by omega)) rfl rfl (by decide) (Nat.le_of_ble_eq_true rfl) ?_
        refine V_iinc F (lv' := [_, _, _, _, _, _, _, _, _]) dX2_copyActions_73 rfl (by decide) rfl rfl ?_
        refine V_goto F (tgt := 3) dX2_copyActions_76 (by decide) ?_
        rw [show nI i + Int32.ofInt 1 = nI (i + 1) from nI_1 i]
        refine V_msk [true, true, true, true, true, false, true, false, false] (lv' := [_, _, _, _, _, _, _, _, _]) rfl ?_
        refine ih (i + 1) _ (by omega) ⟨fun c j hj => ?_, fun j hj => ?_, fun s hs => ?_⟩
        · rw [wrL_1, wr_ne (by omega)]; exact hν.1 c j (by omega)
        · rw [wrL_at, if_neg (by omega), wr_2]; exact hν.2.1 j (by omega)
        · by_cases hsi : s = i
          · subst hsi
            rw [wrL_1, wr_eq, wrL_at, if_pos rfl]
            exact ⟨rfl, rfl⟩
          · rw [wrL_1, wr_ne (by omega), wrL_at, if_neg (by omega), wr_2]
            exact hν.2.2 s (by omega)
  refine V_iconst F (v := nI 0) dX2_copyActions_0 (by decide) ?_
  refine V_istore F (lv' := [_, _, _, _, _, _, _, _, _]) dX2_copyActions_1 (by decide) rfl rfl ?_
  exact loop b 0 μ (by omega) ⟨fun _ _ _ => rfl, fun _ _ => rfl, fun s hs => absurd hs (Nat.not_lt_zero s)⟩
theorem or_0L (x : Int64) : x ||| lN 0 = x := by
  apply Int64.toBitVec_inj.1
  show x.toBitVec ||| BitVec.ofNat 64 0 = x.toBitVec
  simp
/-- the actions of the process that is built -/
def PtA (T' : Tb) (μ μ' : Mem) (made : Nat) : Prop := (∀ c j, ¬ (c = 12 ∧ 3 * made ≤ j ∧ j < 3 * made + 3) → μ'.1 c j = μ.1 c j) ∧ (∀ j, ¬ (3 * made ≤ j ∧ j < 3 * made + 3) → μ'.2 j = μ.2 j) ∧
  ∀ s a, (acts T' made)[s]? = some a → μ'.1 12 (3 * made + s) = nI a.1 ∧ ∃ w, μ'.2 (3 * made + s) = lN w ∧ gm w a.2
theorem c_putActions {k x y p q : Nat} (hW : WF T n) (ho : bOk n k x y p q) (hf : bFit T n k p q) (h9 : ∀ j, j < n → μ.1 9 j = nI (T 6 j)) (hA : ∀ p s a, p < n → (acts T p)[s]? = some a → μ.1 12 (3 * p + s) = nI a.1 ∧ ∃ w, μ.2 (3 * p + s) = lN w ∧ gm w a.2) : Ct (GS g) l (2) yX2_putActions cX2_putActions 9 none [.ref (g.1 1), .int (nI n), .int (nI k), .int (nI x), .int (nI y), .int (nI p), .int (nI q)] μ ((fun r μ' => r = none ∧ PtA (bT T n k x y p q) μ μ' n)) := by
  have hW' := bT_wf hW ho hf
  have hac := acts_eq hW' (Nat.lt_succ_self n)
  have hcg : ∀ j, j < n → acts (bT T n k x y p q) j = acts T j := fun j hj => acts_congr hW hW' (by omega) (fun f i hi => bT_old (by omega)) j hj
  have e0 : bT T n k x y p q 0 n = k := by simp [bT]
  have e1 : bT T n k x y p q 1 n = x := by simp [bT]
  have e2 : bT T n k x y p q 2 n = y := by simp [bT]
  have e3 : bT T n k x y p q 3 n = p := by simp [bT]
  have e4 : bT T n k x y p q 4 n = q := by simp [bT]
  obtain ⟨o1, o2, o3, o4, o5, o6, o7, o8, o9, o10⟩ := ho
  obtain ⟨f1, f2, f3⟩ := hf
  rw [e0, e1, e2, e3, e4, hcg p o5, hcg q o6, if_neg (by omega)] at hac
  refine Ct.of (own := RX2) mi_X2_putActions rfl [some (.ref (g.1 1)), some (.int (nI n)), some (.int (nI k)), some (.int (nI x)), some (.int (nI y)), some (.int (nI p)), some (.int (nI q)), none, none] (Nat.le_of_ble_eq_true rfl) rfl (fun p₀ e₀ s₀ m₀ b₀ h₀ c₀ F => ?_)
  refine V_iload_n F dX2_putActions_0 rfl ?_
  refine V_callSi F (c_isAction (by omega)) mi_X2_isAction ms_X2_isAction lk_X2_78 dX2_putActions_1 (rmR (by omega)) rfl rfl (by decide) (Nat.le_of_ble_eq_true rfl) ?_
  by_cases hk3 : k ≤ 3
  · rw [if_pos ⟨o1, hk3⟩]
    rw [if_pos hk3] at hac
    refine V_if_eq_f F (tgt := 30) dX2_putActions_4 (by decide) (by decide) ?_
    refine V_aload_n F dX2_putActions_7 rfl ?_
    refine V_getf F (q0 := 1) (j := 10) lk_X2_43 dX2_putActions_8 ig_X2 rfl rfl (by decide) rfl rfl ?_
    refine V_iload_n F dX2_putActions_11 rfl ?_
    refine V_iconst F (v := nI 3) dX2_putActions_12 (by decide) ?_
    (first | refine V_imulN F dX2_putActions_13 ?_ | refine V_imul F dX2_putActions_13 ?_)
    refine V_iload_n F dX2_putActions_14 rfl ?_
    rw [Nat.mul_comm n 3]
    refine V_callSN0 F (c_put (q := 12) rfl (show 3 * n < 72 by omega)) mi_X3_put ms_X3_put nk_X2_64 dX2_putActions_15 (rmR (by omega)) rfl rfl (by decide) (Nat.le_of_ble_eq_true rfl) ?_
    refine V_aload_n F dX2_putActions_18 rfl ?_
    refine V_getf F (q0 := 1) (j := 11) lk_X2_46 dX2_putActions_19 ig_X2 rfl rfl (by decide) rfl rfl ?_
    refine V_iload_n F dX2_putActions_22 rfl ?_
    refine V_iconst F (v := nI 3) dX2_putActions_23 (by decide) ?_
    (first | refine V_imulN F dX2_putActions_24 ?_ | refine V_imul F dX2_putActions_24 ?_)
    refine V_lconst F (v := 0) dX2_putActions_25 rfl ?_
    rw [Nat.mul_comm n 3]
    refine V_callSN0 F (c_putL (show 3 * n < 72 by omega)) mi_X3_put_ ms_X3_put_ nk_X2_96 dX2_putActions_26 (rmR (by omega)) rfl rfl (by decide) (Nat.le_of_ble_eq_true rfl) ?_
    refine V_vret F dX2_putActions_29 ⟨rfl, fun c j hj => ?_, fun j hj => ?_, fun s a hs => ?_⟩
    · rw [wrL_1, wr_ne (by omega)]
    · rw [wrL_at, if_neg (by omega), wr_2]
    · rw [hac] at hs
      cases s with
      | zero =>
        cases hs
        exact ⟨by rw [wrL_1]; exact wr_eq, 0, by rw [wrL_at]; exact if_pos rfl, gm_nil⟩
      | succ s => simp at hs
  · rw [if_neg (by omega)]
    rw [if_neg hk3] at hac
    unfold bB at f3
    rw [if_neg hk3] at f3
    refine V_if_eq_t F (tgt := 30) dX2_putActions_4 (by decide) (by decide) ?_
    refine V_iload_n F dX2_putActions_30 rfl ?_
    refine V_iconst F (v := nI 4) dX2_putActions_31 (by decide) ?_
    refine V_icmp_ne_N F (tgt := 47) dX2_putActions_32 (by decide) (by omega) (by omega) (fun h4 => ?_) (fun h4 => ?_)
    · have hk5 : k = 5 := by omega
      rw [if_neg (by omega)] at hac
      refine V_lconst F (v := 0) dX2_putActions_47 rfl ?_
      refine V_lstore F (lv' := [_, _, _, _, _, _, _, _, _]) dX2_putActions_48 (by decide) rfl rfl ?_
      refine V_aload_n F dX2_putActions_50 rfl ?_
      refine V_iload F dX2_putActions_51 rfl ?_
      refine V_iload_n F dX2_putActions_53 rfl ?_
      refine V_iconst F (v := nI 0) dX2_putActions_54 (by decide) ?_
      refine V_lload F dX2_putActions_55 rfl ?_
      refine V_callV F (q0 := 1) (c_copy (part := p) (made := n) (behind := 0) (b := T 6 p) (h9 p o5) o5 f1 (by omega)) mi_X2_copyActions mm_X2_copyActions lk_X2_99 dX2_putActions_57 (rmR (by omega)) rfl rfl (by decide) (Nat.le_of_ble_eq_true rfl) rfl rfl rfl (fun r μ' h => ?_)
      obtain ⟨rfl, hC⟩ := h
      refine V_aload_n F dX2_putActions_60 rfl ?_
      refine V_iload F dX2_putActions_61 rfl ?_
      refine V_iload_n F dX2_putActions_63 rfl ?_
      refine V_aload_n F dX2_putActions_64 rfl ?_
      refine V_getf F (q0 := 1) (j := 7) lk_X2_30 dX2_putActions_65 ig_X2 rfl rfl (by decide) rfl rfl ?_
      refine V_iload F dX2_putActions_68 rfl ?_
      refine V_callSNi F (c_at (q := 9) (v := nI (T 6 p)) rfl (show p < 24 by omega) (by rw [hC.1 _ _ (by omega)]; exact h9 p o5)) mi_X3_at ms_X3_at nk_X2_68 dX2_putActions_70 (rmR (by omega)) rfl rfl (by decide) (Nat.le_of_ble_eq_true rfl) ?_
      refine V_lload F dX2_putActions_73 rfl ?_
      refine V_callV F (q0 := 1) (c_copy (part := q) (made := n) (behind := T 6 p) (b := T 6 q) (by rw [hC.1 _ _ (by omega)]; exact h9 q o6) o6 f1 (by omega)) mi_X2_copyActions mm_X2_copyActions lk_X2_99 dX2_putActions_75 (rmR (by omega)) rfl rfl (by decide) (Nat.le_of_ble_eq_true rfl) rfl rfl rfl (fun r μ' h => ?_)
      obtain ⟨rfl, hD⟩ := h
      refine V_vret F dX2_putActions_78 ⟨rfl, fun c j hj => ?_, fun j hj => ?_, fun s a hs => ?_⟩
      · rw [hD.1 _ _ (by omega), hC.1 _ _ (by omega)]
      · rw [hD.2.1 _ (by omega), hC.2.1 _ (by omega)]
      · rw [hac] at hs
        have hl := acts_len hW o5
        have hl2 := acts_len hW o6
        by_cases hsl : s < T 6 p
        · rw [List.getElem?_append_left (by omega)] at hs
          obtain ⟨b1, w, b2, b3⟩ := hA p s a o5 hs
          obtain ⟨c1, c2⟩ := hC.2.2 s hsl
          rw [hD.1 _ _ (by omega), hD.2.1 _ (by omega)]
          exact ⟨c1.trans b1, w, by rw [show 3 * n + s = 3 * n + 0 + s by omega, c2, b2]; exact or_0L _, b3⟩
        · rw [List.getElem?_append_right (by omega), hl] at hs
          obtain ⟨b1, w, b2, b3⟩ := hA q _ a o6 hs
          have hlt := (List.getElem?_eq_some_iff.mp hs).1
          obtain ⟨c1, c2⟩ := hD.2.2 (s - T 6 p) (by omega)
          rw [show 3 * n + T 6 p + (s - T 6 p) = 3 * n + s by omega] at c1 c2
          rw [c1, c2, hC.1 _ _ (by omega), hC.2.1 _ (by omega)]
          exact ⟨b1, w, by rw [b2]; exact or_0L _, b3⟩
    · have h4 := Classical.not_not.mp h4
      have hq0 := o10 (by omega)
      have h60 : T 6 q = 0 := by rw [hq0]; exact hW.2.1.2.2.2.2.2.2.1
      rw [if_pos h4] at hac
      refine V_lconst F (v := 1) dX2_putActions_35 rfl ?_
      refine V_iload_n F dX2_putActions_36 rfl ?_
      refine V_bipush F (v := nI 6) dX2_putActions_37 (by decide) ?_
      (first | refine V_imulN F dX2_putActions_39 ?_ | refine V_imul F dX2_putActions_39 ?_)
      refine V_iload F dX2_putActions_40 rfl ?_
      (first | refine V_iaddN F dX2_putActions_42 ?_ | refine V_iadd F dX2_putActions_42 ?_)
      refine V_lshl F dX2_putActions_43 ?_
      refine V_valL F (wb_shl 1 (show x * 6 + y < 64 by omega)) ?_
      refine V_goto F (tgt := 48) dX2_putActions_44 (by decide) ?_
      refine V_lstore F (lv' := [_, _, _, _, _, _, _, _, _]) dX2_putActions_48 (by decide) rfl rfl ?_
      refine V_aload_n F dX2_putActions_50 rfl ?_
      refine V_iload F dX2_putActions_51 rfl ?_
      refine V_iload_n F dX2_putActions_53 rfl ?_
      refine V_iconst F (v := nI 0) dX2_putActions_54 (by decide) ?_
      refine V_lload F dX2_putActions_55 rfl ?_
      refine V_callV F (q0 := 1) (c_copy (part := p) (made := n) (behind := 0) (b := T 6 p) (h9 p o5) o5 f1 (by omega)) mi_X2_copyActions mm_X2_copyActions lk_X2_99 dX2_putActions_57 (rmR (by omega)) rfl rfl (by decide) (Nat.le_of_ble_eq_true rfl) rfl rfl rfl (fun r μ' h => ?_)
      obtain ⟨rfl, hC⟩ := h
      refine V_aload_n F dX2_putActions_60 rfl ?_
      refine V_iload F dX2_putActions_61 rfl ?_
      refine V_iload_n F dX2_putActions_63 rfl ?_
      refine V_aload_n F dX2_putActions_64 rfl ?_
      refine V_getf F (q0 := 1) (j := 7) lk_X2_30 dX2_putActions_65 ig_X2 rfl rfl (by decide) rfl rfl ?_
      refine V_iload F dX2_putActions_68 rfl ?_
      refine V_callSNi F (c_at (q := 9) (v := nI (T 6 p)) rfl (show p < 24 by omega) (by rw [hC.1 _ _ (by omega)]; exact h9 p o5)) mi_X3_at ms_X3_at nk_X2_68 dX2_putActions_70 (rmR (by omega)) rfl rfl (by decide) (Nat.le_of_ble_eq_true rfl) ?_
      refine V_lload F dX2_putActions_73 rfl ?_
      refine V_callV F (q0 := 1) (c_copy (part := q) (made := n) (behind := T 6 p) (b := T 6 q) (by rw [hC.1 _ _ (by omega)]; exact h9 q o6) o6 f1 (by omega)) mi_X2_copyActions mm_X2_copyActions lk_X2_99 dX2_putActions_75 (rmR (by omega)) rfl rfl (by decide) (Nat.le_of_ble_eq_true rfl) rfl rfl rfl (fun r μ' h => ?_)
      obtain ⟨rfl, hD⟩ := h
      refine V_vret F dX2_putActions_78 ⟨rfl, fun c j hj => ?_, fun j hj => ?_, fun s a hs => ?_⟩
      · rw [hD.1 _ _ (by omega), hC.1 _ _ (by omega)]
      · rw [hD.2.1 _ (by omega), hC.2.1 _ (by omega)]
      · rw [hac, List.getElem?_map] at hs
        have hl := acts_len hW o5
        cases ha : (acts T p)[s]? with
        | none => rw [ha] at hs; cases hs
        | some a' =>
          rw [ha] at hs
          cases hs
          have hlt := (List.getElem?_eq_some_iff.mp ha).1
          obtain ⟨b1, w, b2, b3⟩ := hA p s a' o5 ha
          obtain ⟨c1, c2⟩ := hC.2.2 s (by omega)
          rw [hD.1 _ _ (by omega), hD.2.1 _ (by omega)]
          refine ⟨c1.trans b1, w ||| 2 ^ (x * 6 + y), ?_, gm_cons b3 o3 o4⟩
          rw [show 3 * n + s = 3 * n + 0 + s by omega, c2, b2, wb_or (by have := b3.1; omega) (by rw [Nat.one_mul]; exact Nat.pow_lt_pow_right (by omega) (by omega)), Nat.one_mul]
end BUILD

