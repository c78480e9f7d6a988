section MODELE0
variable {T : Tb} {n : Nat}
def psd (p q s : Nat) : Nat := if s = 0 then p else q
/-- what lies at a level of the game -/
def Lv (T : Tb) (rel k p q : Nat) (r : List Nat) (ν : Mem) : Prop := Ls T r (2 * k) (mvs T p r) ν ∧ Ls T r (2 * k + 1) (mvs T q r) ν ∧ ν.1 31 k = nI (fr r - 3) ∧ ν.1 15 18 = nI rel
/-- only lower levels have been written -/
def FrW (k : Nat) (μ ν : Mem) : Prop := ν.2 = μ.2 ∧ ∀ c i, (c < 25 ∨ (c = 25 ∧ 2 * k ≤ i) ∨ (26 ≤ c ∧ c ≤ 29 ∧ 6 * k ≤ i) ∨ (c = 30 ∧ 2 * k ≤ i) ∨ (c = 31 ∧ k ≤ i)) → ν.1 c i = μ.1 c i
theorem FrW.rfl' (k : Nat) (μ : Mem) : FrW k μ μ := ⟨rfl, fun _ _ _ => rfl⟩
theorem FrW.trans {k : Nat} {a b d : Mem} (h : FrW k a b) (h2 : FrW k b d) : FrW k a d := ⟨h2.1.trans h.1, fun c i hc => (h2.2 c i hc).trans (h.2 c i hc)⟩
theorem FrW.up {k j : Nat} {a b : Mem} (h : FrW k a b) (hkj : k ≤ j) : FrW j a b := ⟨h.1, fun c i hc => h.2 c i (by omega)⟩
theorem FrW.mi {k : Nat} {μ ν : Mem} (h : FrW k μ ν) (hI : MInv T n μ) : MInv T n ν :=
  ⟨hI.1, by rw [h.2 15 0 (by omega)]; exact hI.2.1, fun f p hf hp => by rw [h.2 _ _ (by omega)]; exact hI.2.2 f p hf hp⟩
theorem FrW.sx {k : Nat} {μ ν : Mem} (h : FrW k μ ν) : sameX μ ν := ⟨fun c hc => by funext i; exact h.2 c i (by omega), h.1⟩
theorem Ls.of {at_ k : Nat} {r em : List Nat} {μ ν : Mem} (h : Ls T r at_ em μ) (hF : FrW k μ ν) (hk : 2 * k ≤ at_) : Ls T r at_ em ν := by
  refine ⟨by rw [hF.2 _ _ (by omega)]; exact h.1, by rw [hF.2 _ _ (by omega)]; exact h.2.1, fun m a hm => ?_⟩
  rw [hF.2 _ _ (by omega), hF.2 _ _ (by omega), hF.2 _ _ (by omega), hF.2 _ _ (by omega)]
  exact h.2.2 m a hm
theorem Lv.of {rel k p q : Nat} {r : List Nat} {μ ν : Mem} (h : Lv T rel k p q r μ) (hF : FrW k μ ν) : Lv T rel k p q r ν :=
  ⟨h.1.of hF (by omega), h.2.1.of hF (by omega), by rw [hF.2 _ _ (by omega)]; exact h.2.2.1, by rw [hF.2 _ _ (by omega)]; exact h.2.2.2⟩
theorem Lv.side {rel k p q s : Nat} {r : List Nat} {μ : Mem} (h : Lv T rel k p q r μ) (hs : s < 2) : Ls T r (2 * k + s) (mvs T (psd p q s) r) μ := by
  rcases (by omega : s = 0 ∨ s = 1) with rfl | rfl
  · exact h.1
  · exact h.2.1
theorem psd_lt {p q s : Nat} (hp : p < n) (hq : q < n) : psd p q s < n := by unfold psd; split <;> assumption
def mlo (T : Tb) (rel a : Nat) (r : List Nat) : Nat := if T 0 a = 3 then (if rel = 1 then 0 else if rel = 2 then 9 else fr r) else 8
def mhi (T : Tb) (rel a : Nat) (r : List Nat) : Nat := if T 0 a = 3 ∧ rel = 1 then fr r else mlo T rel a r
def nmv (T : Tb) (rel a v : Nat) : Nat := if T 0 a = 3 ∧ rel = 1 then v else 9
theorem mlo_le {r : List Nat} (hl : lok r) (h3 : r.length ≤ 3) (rel a : Nat) : mlo T rel a r ≤ mhi T rel a r ∧ mhi T rel a r ≤ 9 := by
  have := fr_le hl
  unfold mhi mlo
  split <;> split <;> (try split) <;> (try split) <;> omega
theorem nms_nmv {rel a : Nat} {r : List Nat} (P : Nat → Prop) (hP : ∀ v, mlo T rel a r ≤ v → v ≤ mhi T rel a r → P (nmv T rel a v)) (hl : lok r) (h3 : r.length ≤ 3) : ∀ v ∈ nms T rel a r, P v := by
  intro v hv
  unfold nms at hv
  by_cases h : T 0 a = 3 ∧ rel = 1
  · rw [if_pos h] at hv
    have := List.mem_range.mp hv
    have h1 := hP v (by unfold mlo; rw [if_pos h.1, if_pos h.2]; omega) (by unfold mhi; rw [if_pos h]; omega)
    unfold nmv at h1
    rw [if_pos h] at h1
    exact h1
  · rw [if_neg h] at hv
    have h1 := hP (mlo T rel a r) (Nat.le_refl _) (mlo_le hl h3 rel a).1
    unfold nmv at h1
    rw [if_neg h] at h1
    rw [List.mem_singleton.mp hv]
    exact h1
theorem nmv_mem {rel a v : Nat} {r : List Nat} (h1 : v ≤ mhi T rel a r) : nmv T rel a v ∈ nms T rel a r := by
  unfold nmv nms
  unfold mhi at h1
  by_cases h : T 0 a = 3 ∧ rel = 1
  · rw [if_pos h] at h1 ⊢
    rw [if_pos h]
    exact List.mem_range.mpr (by omega)
  · rw [if_neg h, if_neg h]
    exact List.mem_singleton.mpr rfl
/-- the lists that follow, as the model has them -/
theorem nxt_mod {rel a v : Nat} {r : List Nat} (hrel : rel < 3) (h1 : mlo T rel a r ≤ v) (h2 : v ≤ mhi T rel a r) : (v < 9 ∧ nxt T rel a (nmv T rel a v) r = [if T 0 a = 3 then v :: r else r] ∧ (T 0 a = 3 → v ≤ fr r)) ∨ (v = 9 ∧ T 0 a = 3 ∧ nxt T rel a (nmv T rel a v) r = (List.range (fr r + 1)).map (· :: r)) ∨ (9 ≤ v ∧ fr r ≥ 9) := by
  unfold nxt nmv mlo mhi mlo at *
  by_cases h3 : T 0 a = 3
  · rw [if_pos h3] at *
    rcases (by omega : rel = 0 ∨ rel = 1 ∨ rel = 2) with rfl | rfl | rfl
    · simp [h3] at *
      omega
    · simp [h3] at *
      omega
    · simp [h3] at *
      omega
  · simp [h3] at *
    omega
theorem flw0 (T : Tb) (rel a v b : Nat) (r : List Nat) : flw T rel 0 a v b r = false := by
  unfold flw
  rw [List.any_eq_false]
  intro x _
  simp [win]
end MODELE0
section MODELE
variable {g : Gm} {l : Launch} {μ : Mem} {T : Tb} {n : Nat}
theorem c_answers {rel k p q s m a x y : Nat} {r : List Nat} (hI : MInv T n μ) (hk : k ≤ 3) (hp : p < n) (hq : q < n) (hl : lok r) (h3 : r.length ≤ 3) (hs : s < 2) (hL : Lv T rel k p q r μ) (hx : (mvs T (psd p q s) r)[m]? = some x) (hy : (mvs T (psd p q (1 - s)) r)[a]? = some y) : Ct (GS g) l (0) yX4_answers cX4_answers 8 (some .boolean) [.ref (g.1 15), .int (nI k), .int (nI s), .int (nI m), .int (nI a)] μ (Is (.int (nI (if agr T r x y = true then 1 else 0))) μ) := by
  have hn := hI.n24
  have hW := hI.1
  have l1 := mvs_len hW (psd_lt (s := s) hp hq) r
  have l2 := mvs_len hW (psd_lt (s := 1 - s) hp hq) r
  have m1 := (List.getElem?_eq_some_iff.mp hx).1
  have m2 := (List.getElem?_eq_some_iff.mp hy).1
  have bx := mv_ok hW (psd_lt (s := s) hp hq) (List.mem_of_getElem? hx)
  have by_ := mv_ok hW (psd_lt (s := 1 - s) hp hq) (List.mem_of_getElem? hy)
  obtain ⟨x26, x27, x28, x29⟩ := (hL.side hs).2.2 m x hx
  obtain ⟨y26, y27, y28, y29⟩ := (hL.side (s := 1 - s) (by omega)).2.2 a y hy
  have e1 : 3 * (2 * k + s) + m < 24 := by omega
  have e2 : 3 * (2 * k + (1 - s)) + a < 24 := by omega
  have v1 := vl_lt hl h3 (T 1 x)
  have v2 := vl_lt hl h3 (T 1 y)
  have v3 := vl_lt hl h3 (T 2 x)
  have v4 := vl_lt hl h3 (T 2 y)
  have kx := hW.kind bx.1
  have ky := hW.kind by_.1
  have px : 0 < x := by
    rcases Nat.eq_zero_or_pos x with z | z
    · subst z; have := hW.2.1.1; omega
    · exact z
  have py : 0 < y := by
    rcases Nat.eq_zero_or_pos y with z | z
    · subst z; have := hW.2.1.1; omega
    · exact z
  have ux := (hW.2.2 x px bx.1).2.1
  have uy := (hW.2.2 y py by_.1).2.1
  refine Ct.of (own := RX4) mi_X4_answers rfl [some (.ref (g.1 15)), some (.int (nI k)), some (.int (nI s)), some (.int (nI m)), some (.int (nI a)), none, none, none] (Nat.le_of_ble_eq_true rfl) rfl (fun p₀ e₀ s₀ m₀ b₀ h₀ c₀ F => ?_)
  refine V_iconst F (v := nI 3) dX4_answers_0 (by decide) ?_
  refine V_iconst F (v := nI 2) dX4_answers_1 (by decide) ?_
  refine V_iload_n F dX4_answers_2 rfl ?_
  (first | refine V_imulN F dX4_answers_3 ?_ | refine V_imul F dX4_answers_3 ?_)
  refine V_iload_n F dX4_answers_4 rfl ?_
  (first | refine V_iaddN F dX4_answers_5 ?_ | refine V_iadd F dX4_answers_5 ?_)
  (first | refine V_imulN F dX4_answers_6 ?_ | refine V_imul F dX4_answers_6 ?_)
  refine V_iload_n F dX4_answers_7 rfl ?_
  (first | refine V_iaddN F dX4_answers_8 ?_ | refine V_iadd F dX4_answers_8 ?_)
  refine V_istore F (lv' := [_, _, _, _, _, _, _, _]) dX4_answers_9 (by decide) rfl rfl ?_
  refine V_iconst F (v := nI 3) dX4_answers_11 (by decide) ?_
  refine V_iconst F (v := nI 2) dX4_answers_12 (by decide) ?_
  refine V_iload_n F dX4_answers_13 rfl ?_
  (first | refine V_imulN F dX4_answers_14 ?_ | refine V_imul F dX4_answers_14 ?_)
  refine V_iconst F (v := nI 1) dX4_answers_15 (by decide) ?_
  (first | refine V_iaddN F dX4_answers_16 ?_ | refine V_iadd F dX4_answers_16 ?_)
  refine V_iload_n F dX4_answers_17 rfl ?_
  refine V_isubN F (by omega) dX4_answers_18 ?_
  rw [show 2 * k + 1 - s = 2 * k + (1 - s) by omega]
  (first | refine V_imulN F dX4_answers_19 ?_ | refine V_imul F dX4_answers_19 ?_)
  refine V_iload F dX4_answers_20 rfl ?_
  (first | refine V_iaddN F dX4_answers_22 ?_ | refine V_iadd F dX4_answers_22 ?_)
  refine V_istore F (lv' := [_, _, _, _, _, _, _, _]) dX4_answers_23 (by decide) rfl rfl ?_
  refine V_aload_n F dX4_answers_25 rfl ?_
  refine V_getf F (q0 := 15) (j := 11) lk_X4_44 dX4_answers_26 ig_X4 rfl rfl (by decide) rfl rfl ?_
  refine V_iload F dX4_answers_29 rfl ?_
  refine V_ia F dX4_answers_31 rfl (rfl) (e1) (x26) ?_
  refine V_aload_n F dX4_answers_32 rfl ?_
  refine V_getf F (q0 := 15) (j := 11) lk_X4_44 dX4_answers_33 ig_X4 rfl rfl (by decide) rfl rfl ?_
  refine V_iload F dX4_answers_36 rfl ?_
  refine V_ia F dX4_answers_38 rfl (rfl) (e2) (y26) ?_
  refine V_icmp_ne_N F (tgt := 74) dX4_answers_39 (by decide) (by omega) (by omega) (fun h1 => ?_) (fun h1 => ?_)
  · rw [if_neg (by simp [agr, h1])]
    refine V_iconst F (v := nI 0) dX4_answers_74 (by decide) ?_
    refine V_istore F (lv' := [_, _, _, _, _, _, _, _]) dX4_answers_75 (by decide) rfl rfl ?_
    refine V_iload F dX4_answers_77 rfl ?_
    refine V_if_eq_t F (tgt := 114) dX4_answers_79 (by decide) (by decide) ?_
    refine V_iconst F (v := nI 0) dX4_answers_114 (by decide) ?_
    exact V_zret F dX4_answers_115 (rfl) (⟨rfl, rfl⟩)
  · have h1 := Classical.not_not.mp h1
    refine V_aload_n F dX4_answers_42 rfl ?_
    refine V_getf F (q0 := 15) (j := 11) lk_X4_44 dX4_answers_43 ig_X4 rfl rfl (by decide) rfl rfl ?_
    refine V_iload F dX4_answers_46 rfl ?_
    refine V_ia F dX4_answers_48 rfl (rfl) (e1) (x26) ?_
    refine V_iconst F (v := nI 1) dX4_answers_49 (by decide) ?_
    have second : vl r (T 1 x) = vl r (T 1 y) → V (GS g) p₀ l e₀ (rmD (0)) s₀ m₀ (List.toArray [.ref (g.1 15), .int (nI k), .int (nI s), .int (nI m), .int (nI a)]) b₀ h₀ c₀ 8 0 0 (MQ b₀ (Qp (GS g) (Is (.int (nI (if agr T r x y = true then 1 else 0))) μ)) (List.toArray [.ref (g.1 15), .int (nI k), .int (nI s), .int (nI m), .int (nI a)]) s₀ 0 0 (gA (GS g))) 77 ([some (.ref (g.1 15)), some (.int (nI k)), some (.int (nI s)), some (.int (nI m)), some (.int (nI a)), some (.int (nI (3 * (2 * k + s) + m))), some (.int (nI (3 * (2 * k + (1 - s)) + a))), some (.int (nI 1))]) ([]) (μ) := by
      intro hs1
      refine V_iload F dX4_answers_77 rfl ?_
      refine V_if_eq_f F (tgt := 114) dX4_answers_79 (by decide) (by decide) ?_
      refine V_aload_n F dX4_answers_82 rfl ?_
      refine V_getf F (q0 := 15) (j := 11) lk_X4_44 dX4_answers_83 ig_X4 rfl rfl (by decide) rfl rfl ?_
      refine V_iload F dX4_answers_86 rfl ?_
      refine V_ia F dX4_answers_88 rfl (rfl) (e1) (x26) ?_
      refine V_iconst F (v := nI 2) dX4_answers_89 (by decide) ?_
      refine V_icmp_ne_N F (tgt := 110) dX4_answers_90 (by decide) (by omega) (by omega) (fun h2 => ?_) (fun h2 => ?_)
      · have : vl r (T 2 x) = vl r (T 2 y) := by
          rcases (by omega : T 0 x = 1 ∨ T 0 x = 3) with z | z
          · rw [(ux.1 z).2, (uy.1 (by omega)).2]
          · rw [ux.2.1 z, uy.2.1 (by omega)]
        rw [if_pos (by simp [agr, h1, hs1, this])]
        refine V_iconst F (v := nI 1) dX4_answers_110 (by decide) ?_
        refine V_goto F (tgt := 115) dX4_answers_111 (by decide) ?_
        exact V_zret F dX4_answers_115 (rfl) (⟨rfl, rfl⟩)
      · skip
        refine V_aload_n F dX4_answers_93 rfl ?_
        refine V_getf F (q0 := 15) (j := 13) lk_X4_50 dX4_answers_94 ig_X4 rfl rfl (by decide) rfl rfl ?_
        refine V_iload F dX4_answers_97 rfl ?_
        refine V_ia F dX4_answers_99 rfl (rfl) (e1) (x28) ?_
        refine V_aload_n F dX4_answers_100 rfl ?_
        refine V_getf F (q0 := 15) (j := 13) lk_X4_50 dX4_answers_101 ig_X4 rfl rfl (by decide) rfl rfl ?_
        refine V_iload F dX4_answers_104 rfl ?_
        refine V_ia F dX4_answers_106 rfl (rfl) (e2) (y28) ?_
        refine V_icmp_ne_N F (tgt := 114) dX4_answers_107 (by decide) (by omega) (by omega) (fun h4 => ?_) (fun h4 => ?_)
        · rw [if_neg (by simp [agr, h4])]
          refine V_iconst F (v := nI 0) dX4_answers_114 (by decide) ?_
          exact V_zret F dX4_answers_115 (rfl) (⟨rfl, rfl⟩)
        · rw [if_pos (by simp [agr, h1, hs1, Classical.not_not.mp h4])]
          refine V_iconst F (v := nI 1) dX4_answers_110 (by decide) ?_
          refine V_goto F (tgt := 115) dX4_answers_111 (by decide) ?_
          exact V_zret F dX4_answers_115 (rfl) (⟨rfl, rfl⟩)
    refine V_icmp_eq_N F (tgt := 70) dX4_answers_50 (by decide) (by omega) (by omega) (fun h2 => ?_) (fun h2 => ?_)
    · have hs1 : vl r (T 1 x) = vl r (T 1 y) := by rw [(ux.1 h2).1, (uy.1 (by omega)).1]
      refine V_iconst F (v := nI 1) dX4_answers_70 (by decide) ?_
      refine V_goto F (tgt := 75) dX4_answers_71 (by decide) ?_
      refine V_istore F (lv' := [_, _, _, _, _, _, _, _]) dX4_answers_75 (by decide) rfl rfl ?_
      exact second hs1
    · skip
      refine V_aload_n F dX4_answers_53 rfl ?_
      refine V_getf F (q0 := 15) (j := 12) lk_X4_47 dX4_answers_54 ig_X4 rfl rfl (by decide) rfl rfl ?_
      refine V_iload F dX4_answers_57 rfl ?_
      refine V_ia F dX4_answers_59 rfl (rfl) (e1) (x27) ?_
      refine V_aload_n F dX4_answers_60 rfl ?_
      refine V_getf F (q0 := 15) (j := 12) lk_X4_47 dX4_answers_61 ig_X4 rfl rfl (by decide) rfl rfl ?_
      refine V_iload F dX4_answers_64 rfl ?_
      refine V_ia F dX4_answers_66 rfl (rfl) (e2) (y27) ?_
      refine V_icmp_ne_N F (tgt := 74) dX4_answers_67 (by decide) (by omega) (by omega) (fun h4 => ?_) (fun h4 => ?_)
      · rw [if_neg (by simp [agr, h4])]
        refine V_iconst F (v := nI 0) dX4_answers_74 (by decide) ?_
        refine V_istore F (lv' := [_, _, _, _, _, _, _, _]) dX4_answers_75 (by decide) rfl rfl ?_
        refine V_iload F dX4_answers_77 rfl ?_
        refine V_if_eq_t F (tgt := 114) dX4_answers_79 (by decide) (by decide) ?_
        refine V_iconst F (v := nI 0) dX4_answers_114 (by decide) ?_
        exact V_zret F dX4_answers_115 (rfl) (⟨rfl, rfl⟩)
      · skip
        refine V_iconst F (v := nI 1) dX4_answers_70 (by decide) ?_
        refine V_goto F (tgt := 75) dX4_answers_71 (by decide) ?_
        refine V_istore F (lv' := [_, _, _, _, _, _, _, _]) dX4_answers_75 (by decide) rfl rfl ?_
        exact second (Classical.not_not.mp h4)
theorem c_mlowest {rel k p q s m x : Nat} {r : List Nat} (hI : MInv T n μ) (hk : k ≤ 3) (hp : p < n) (hq : q < n) (hl : lok r) (h3 : r.length ≤ 3) (hs : s < 2) (hrel : rel < 3) (hL : Lv T rel k p q r μ) (hx : (mvs T (psd p q s) r)[m]? = some x) : Ct (GS g) l (0) yX4_lowest cX4_lowest 4 (some .int) [.ref (g.1 15), .int (nI k), .int (nI s), .int (nI m)] μ (Is (.int (nI (mlo T rel x r))) μ) := by
  have hW := hI.1
  have l1 := mvs_len hW (psd_lt (s := s) hp hq) r
  have m1 := (List.getElem?_eq_some_iff.mp hx).1
  have bx := mv_ok hW (psd_lt (s := s) hp hq) (List.mem_of_getElem? hx)
  have hf := fr_ge r
  have hf2 := fr_le hl
  refine Ct.of (own := RX4) mi_X4_lowest rfl [some (.ref (g.1 15)), some (.int (nI k)), some (.int (nI s)), some (.int (nI m))] (Nat.le_of_ble_eq_true rfl) rfl (fun p₀ e₀ s₀ m₀ b₀ h₀ c₀ F => ?_)
  refine V_aload_n F dX4_lowest_0 rfl ?_
  refine V_getf F (q0 := 15) (j := 11) lk_X4_44 dX4_lowest_1 ig_X4 rfl rfl (by decide) rfl rfl ?_
  refine V_iconst F (v := nI 3) dX4_lowest_4 (by decide) ?_
  refine V_iconst F (v := nI 2) dX4_lowest_5 (by decide) ?_
  refine V_iload_n F dX4_lowest_6 rfl ?_
  (first | refine V_imulN F dX4_lowest_7 ?_ | refine V_imul F dX4_lowest_7 ?_)
  refine V_iload_n F dX4_lowest_8 rfl ?_
  (first | refine V_iaddN F dX4_lowest_9 ?_ | refine V_iadd F dX4_lowest_9 ?_)
  (first | refine V_imulN F dX4_lowest_10 ?_ | refine V_imul F dX4_lowest_10 ?_)
  refine V_iload_n F dX4_lowest_11 rfl ?_
  (first | refine V_iaddN F dX4_lowest_12 ?_ | refine V_iadd F dX4_lowest_12 ?_)
  refine V_ia F dX4_lowest_13 rfl (rfl) ((show 3 * (2 * k + s) + m < 24 by omega)) (((hL.side hs).2.2 m x hx).1) ?_
  refine V_iconst F (v := nI 3) dX4_lowest_14 (by decide) ?_
  unfold mlo
  refine V_icmp_eq_N F (tgt := 21) dX4_lowest_15 (by decide) (by omega) (by omega) (fun h1 => ?_) (fun h1 => ?_)
  · rw [if_pos h1]
    refine V_aload_n F dX4_lowest_21 rfl ?_
    refine V_getf F (q0 := 15) (j := 18) lk_X4_107 dX4_lowest_22 ig_X4 rfl rfl (by decide) rfl rfl ?_
    refine V_val F (hL.2.2.2) ?_
    refine V_iconst F (v := nI 1) dX4_lowest_25 (by decide) ?_
    refine V_icmp_ne_N F (tgt := 33) dX4_lowest_26 (by decide) (by omega) (by omega) (fun h2 => ?_) (fun h2 => ?_)
    · rw [if_neg h2]
      refine V_aload_n F dX4_lowest_33 rfl ?_
      refine V_getf F (q0 := 15) (j := 18) lk_X4_107 dX4_lowest_34 ig_X4 rfl rfl (by decide) rfl rfl ?_
      refine V_val F (hL.2.2.2) ?_
      refine V_iconst F (v := nI 2) dX4_lowest_37 (by decide) ?_
      refine V_icmp_ne_N F (tgt := 46) dX4_lowest_38 (by decide) (by omega) (by omega) (fun h4 => ?_) (fun h4 => ?_)
      · rw [if_neg h4]
        refine V_iconst F (v := nI 3) dX4_lowest_46 (by decide) ?_
        refine V_aload_n F dX4_lowest_47 rfl ?_
        refine V_getf F (q0 := 15) (j := 16) lk_X4_59 dX4_lowest_48 ig_X4 rfl rfl (by decide) rfl rfl ?_
        refine V_iload_n F dX4_lowest_51 rfl ?_
        refine V_ia F dX4_lowest_52 rfl (rfl) ((show k < 4 by omega)) (hL.2.2.1) ?_
        (first | refine V_iaddN F dX4_lowest_53 ?_ | refine V_iadd F dX4_lowest_53 ?_)
        exact V_iret F dX4_lowest_54 (⟨by rw [show 3 + (fr r - 3) = fr r by omega], rfl⟩)
      · rw [if_pos (Classical.not_not.mp h4)]
        refine V_bipush F (v := nI 9) dX4_lowest_41 (by decide) ?_
        refine V_goto F (tgt := 54) dX4_lowest_43 (by decide) ?_
        exact V_iret F dX4_lowest_54 (⟨rfl, rfl⟩)
    · rw [if_pos (Classical.not_not.mp h2)]
      refine V_iconst F (v := nI 0) dX4_lowest_29 (by decide) ?_
      refine V_goto F (tgt := 54) dX4_lowest_30 (by decide) ?_
      exact V_iret F dX4_lowest_54 (⟨rfl, rfl⟩)
  · rw [if_neg h1]
    refine V_bipush F (v := nI 8) dX4_lowest_18 (by decide) ?_
    exact V_iret F dX4_lowest_20 (⟨rfl, rfl⟩)
theorem c_mhighest {rel k p q s m x : Nat} {r : List Nat} (hI : MInv T n μ) (hk : k ≤ 3) (hp : p < n) (hq : q < n) (hl : lok r) (h3 : r.length ≤ 3) (hs : s < 2) (hrel : rel < 3) (hL : Lv T rel k p q r μ) (hx : (mvs T (psd p q s) r)[m]? = some x) : Ct (GS g) l (1) yX4_highest cX4_highest 5 (some .int) [.ref (g.1 15), .int (nI k), .int (nI s), .int (nI m)] μ (Is (.int (nI (mhi T rel x r))) μ) := by
  have hW := hI.1
  have l1 := mvs_len hW (psd_lt (s := s) hp hq) r
  have m1 := (List.getElem?_eq_some_iff.mp hx).1
  have bx := mv_ok hW (psd_lt (s := s) hp hq) (List.mem_of_getElem? hx)
  have hf := fr_ge r
  have hf2 := fr_le hl
  refine Ct.of (own := RX4) mi_X4_highest rfl [some (.ref (g.1 15)), some (.int (nI k)), some (.int (nI s)), some (.int (nI m)), none] (Nat.le_of_ble_eq_true rfl) rfl (fun p₀ e₀ s₀ m₀ b₀ h₀ c₀ F => ?_)
  refine V_aload_n F dX4_highest_0 rfl ?_
  refine V_getf F (q0 := 15) (j := 11) lk_X4_44 dX4_highest_1 ig_X4 rfl rfl (by decide) rfl rfl ?_
  refine V_iconst F (v := nI 3) dX4_highest_4 (by decide) ?_
  refine V_iconst F (v := nI 2) dX4_highest_5 (by decide) ?_
  refine V_iload_n F dX4_highest_6 rfl ?_
  (first | refine V_imulN F dX4_highest_7 ?_ | refine V_imul F dX4_highest_7 ?_)
  refine V_iload_n F dX4_highest_8 rfl ?_
  (first | refine V_iaddN F dX4_highest_9 ?_ | refine V_iadd F dX4_highest_9 ?_)
  (first | refine V_imulN F dX4_highest_10 ?_ | refine V_imul F dX4_highest_10 ?_)
  refine V_iload_n F dX4_highest_11 rfl ?_
  (first | refine V_iaddN F dX4_highest_12 ?_ | refine V_iadd F dX4_highest_12 ?_)
  refine V_ia F dX4_highest_13 rfl (rfl) ((show 3 * (2 * k + s) + m < 24 by omega)) (((hL.side hs).2.2 m x hx).1) ?_
  refine V_iconst F (v := nI 3) dX4_highest_14 (by decide) ?_
  unfold mhi
  refine V_icmp_ne_N F (tgt := 22) dX4_highest_15 (by decide) (by omega) (by omega) (fun h1 => ?_) (fun h1 => ?_)
  · rw [if_neg (fun z => h1 z.1)]
    refine V_iconst F (v := nI 0) dX4_highest_22 (by decide) ?_
    refine V_istore F (lv' := [_, _, _, _, _]) dX4_highest_23 (by decide) rfl rfl ?_
    refine V_iload F dX4_highest_25 rfl ?_
    refine V_if_eq_t F (tgt := 49) dX4_highest_27 (by decide) (by decide) ?_
    refine V_aload_n F dX4_highest_49 rfl ?_
    refine V_iload_n F dX4_highest_50 rfl ?_
    refine V_iload_n F dX4_highest_51 rfl ?_
    refine V_iload_n F dX4_highest_52 rfl ?_
    refine V_callVi F (q0 := 15) (c_mlowest hI hk hp hq hl h3 hs hrel hL hx) mi_X4_lowest mm_X4_lowest lk_X4_110 dX4_highest_53 (rmR (by omega)) rfl rfl (by decide) (Nat.le_of_ble_eq_true rfl) rfl rfl rfl ?_
    exact V_iret F dX4_highest_56 (⟨rfl, rfl⟩)
  · have h1 := Classical.not_not.mp h1
    refine V_iconst F (v := nI 1) dX4_highest_18 (by decide) ?_
    refine V_goto F (tgt := 23) dX4_highest_19 (by decide) ?_
    refine V_istore F (lv' := [_, _, _, _, _]) dX4_highest_23 (by decide) rfl rfl ?_
    refine V_iload F dX4_highest_25 rfl ?_
    refine V_if_eq_f F (tgt := 49) dX4_highest_27 (by decide) (by decide) ?_
    refine V_aload_n F dX4_highest_30 rfl ?_
    refine V_getf F (q0 := 15) (j := 18) lk_X4_107 dX4_highest_31 ig_X4 rfl rfl (by decide) rfl rfl ?_
    refine V_val F (hL.2.2.2) ?_
    refine V_iconst F (v := nI 1) dX4_highest_34 (by decide) ?_
    refine V_icmp_ne_N F (tgt := 49) dX4_highest_35 (by decide) (by omega) (by omega) (fun h2 => ?_) (fun h2 => ?_)
    · rw [if_neg (fun z => h2 z.2)]
      refine V_aload_n F dX4_highest_49 rfl ?_
      refine V_iload_n F dX4_highest_50 rfl ?_
      refine V_iload_n F dX4_highest_51 rfl ?_
      refine V_iload_n F dX4_highest_52 rfl ?_
      refine V_callVi F (q0 := 15) (c_mlowest hI hk hp hq hl h3 hs hrel hL hx) mi_X4_lowest mm_X4_lowest lk_X4_110 dX4_highest_53 (rmR (by omega)) rfl rfl (by decide) (Nat.le_of_ble_eq_true rfl) rfl rfl rfl ?_
      exact V_iret F dX4_highest_56 (⟨rfl, rfl⟩)
    · rw [if_pos ⟨h1, Classical.not_not.mp h2⟩]
      refine V_iconst F (v := nI 3) dX4_highest_38 (by decide) ?_
      refine V_aload_n F dX4_highest_39 rfl ?_
      refine V_getf F (q0 := 15) (j := 16) lk_X4_59 dX4_highest_40 ig_X4 rfl rfl (by decide) rfl rfl ?_
      refine V_iload_n F dX4_highest_43 rfl ?_
      refine V_ia F dX4_highest_44 rfl (rfl) ((show k < 4 by omega)) (hL.2.2.1) ?_
      (first | refine V_iaddN F dX4_highest_45 ?_ | refine V_iadd F dX4_highest_45 ?_)
      refine V_goto F (tgt := 56) dX4_highest_46 (by decide) ?_
      exact V_iret F dX4_highest_56 (⟨by rw [show 3 + (fr r - 3) = fr r by omega], rfl⟩)
end MODELE

