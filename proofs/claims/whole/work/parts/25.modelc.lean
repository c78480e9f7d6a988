section MODELC0
variable {T : Tb} {n : Nat}
/-- what a listing of moves may write -/
def FrL (μ ν : Mem) (at_ : Nat) : Prop := ν.2 = μ.2 ∧ ∀ c i, (c < 25 ∨ (c = 25 ∧ i ≠ at_) ∨ (26 ≤ c ∧ c ≤ 29 ∧ (i < 3 * at_ ∨ 3 * at_ + 3 ≤ i)) ∨ (c = 30 ∧ i ≠ at_) ∨ c = 31) → ν.1 c i = μ.1 c i
/-- the moves listed at a place -/
def Ls (T : Tb) (r : List Nat) (at_ : Nat) (em : List Nat) (ν : Mem) : Prop := ν.1 25 at_ = nI em.length ∧ ν.1 30 at_ = nI (md r) ∧ ∀ m a, em[m]? = some a → ν.1 26 (3 * at_ + m) = nI (T 0 a) ∧ ν.1 27 (3 * at_ + m) = nI (vl r (T 1 a)) ∧ ν.1 28 (3 * at_ + m) = nI (vl r (T 2 a)) ∧ ν.1 29 (3 * at_ + m) = nI (T 3 a)
theorem FrL.mi {μ ν : Mem} {at_ : Nat} (h : FrL μ ν at_) (hI : MInv T n μ) : MInv T n ν :=
  ⟨hI.1, by rw [h.2 15 0 (by omega)]; exact hI.2.1, fun f p hf hp => by rw [h.2 _ _ (by omega)]; exact hI.2.2 f p hf hp⟩
theorem FrL.sx {μ ν : Mem} {at_ : Nat} (h : FrL μ ν at_) : sameX μ ν := ⟨fun c hc => by funext i; exact h.2 c i (by omega), h.1⟩
theorem im1 (n : Nat) : nI (n + 1) + Int32.ofInt (-1) = nI n := pk_m1 n
theorem ip2 (n : Nat) : nI n + Int32.ofInt 2 = nI (n + 2) := nI_add n 2
theorem mvs_step (hW : WF T n) {p : Nat} (hp : p < n) (r : List Nat) : mvs T p r = if T 0 p = 0 then [] else if T 0 p ≤ 3 then [p] else if T 0 p = 4 then (if vl r (T 1 p) = vl r (T 2 p) then mvs T (T 3 p) r else []) else mvs T (T 3 p) r ++ mvs T (T 4 p) r := by
  unfold mvs
  rw [acts_eq hW hp]
  split
  · rfl
  · split
    · rfl
    · split
      · rw [List.filter_map, List.map_map]
        by_cases hv : vl r (T 1 p) = vl r (T 2 p)
        · rw [if_pos hv]
          congr 1
          apply List.filter_congr
          intro a _
          simp only [Function.comp, openb, List.all_cons]
          rw [hv]
          simp
        · rw [if_neg hv]
          have : (acts T (T 3 p)).filter ((fun a => openb r a.2) ∘ fun a => (a.1, (T 1 p, T 2 p) :: a.2)) = [] := by
            rw [List.filter_eq_nil_iff]
            intro a _
            simp only [Function.comp, openb, List.all_cons, Bool.and_eq_true, beq_iff_eq]
            exact fun z => hv z.1
          rw [this]
          rfl
      · rw [List.filter_append, List.map_append]
theorem mvs_len (hW : WF T n) {p : Nat} (hp : p < n) (r : List Nat) : (mvs T p r).length ≤ 3 := by
  rw [mvs_eq hW hp]
  exact Nat.le_trans (List.length_filterMap_le _ _) (by simp)
theorem mvs_b0 (hW : WF T n) {p : Nat} (hp : p < n) (h6 : T 6 p = 0) (r : List Nat) : mvs T p r = [] := by
  unfold mvs
  have := acts_len hW hp
  rw [h6] at this
  rw [List.length_eq_zero_iff.mp this]
  rfl
theorem md_lt {r : List Nat} (hl : lok r) (h3 : r.length ≤ 3) : md r < 216 := (rc_lt hl h3).2.1
def MQA (T : Tb) (n : Nat) (μ : Mem) (v : Int32) : Option Value → Mem → Prop := fun ret μ' => ret = some (.int v) ∧ MInv T n μ' ∧ sameX μ μ'
end MODELC0
section MODELC
variable {g : Gm} {l : Launch} {μ : Mem} {T : Tb} {n : Nat}
theorem c_mvalueOf {x e : Nat} (hx : x < 6) (he : e < 2 ^ 31) : Ct (GS g) l (0) yX4_valueOf cX4_valueOf 4 (some .int) [.int (nI x), .int (nI e)] μ (Is (.int (nI (mvl e x))) μ) := by
  refine Ct.of (own := RX4) mi_X4_valueOf rfl [some (.int (nI x)), some (.int (nI e)), none, none] (Nat.le_of_ble_eq_true rfl) rfl (fun p₀ e₀ s₀ m₀ b₀ h₀ c₀ F => ?_)
  refine V_iload_n F dX4_valueOf_0 rfl ?_
  refine V_iconst F (v := nI 3) dX4_valueOf_1 (by decide) ?_
  by_cases h3 : x < 3
  · skip
    refine V_icmp_ge_f F (tgt := 7) dX4_valueOf_2 (by decide) (fun z => by have := (nI_leI (by omega) (by omega)).mp z; omega) ?_
    refine V_iload_n F dX4_valueOf_5 rfl ?_
    exact V_iret F dX4_valueOf_6 (⟨by rw [mvl, if_pos h3], rfl⟩)
  · rcases (by omega : x = 3 ∨ x = 4 ∨ x = 5) with rfl | rfl | rfl
    · skip
      refine V_icmp_ge_t F (tgt := 7) dX4_valueOf_2 (by decide) (by decide) ?_
      refine V_iload_n F dX4_valueOf_7 rfl ?_
      refine V_istore_n F (lv' := [_, _, _, _]) dX4_valueOf_8 (by decide) rfl rfl ?_
      refine V_iconst F (v := nI 3) dX4_valueOf_9 (by decide) ?_
      refine V_istore_n F (lv' := [_, _, _, _]) dX4_valueOf_10 (by decide) rfl rfl ?_
      refine V_iload_n F dX4_valueOf_11 rfl ?_
      refine V_iload_n F dX4_valueOf_12 rfl ?_
      refine V_icmp_ge_t F (tgt := 27) dX4_valueOf_13 (by decide) (by decide) ?_
      refine V_iload_n F dX4_valueOf_27 rfl ?_
      refine V_bipush F (v := nI 6) dX4_valueOf_28 (by decide) ?_
      refine V_irem F dX4_valueOf_30 (by decide) ?_
      refine V_val F (pk_rem he (by omega) (by omega)) ?_
      exact V_iret F dX4_valueOf_31 (⟨by simp [mvl], rfl⟩)
    · skip
      refine V_icmp_ge_t F (tgt := 7) dX4_valueOf_2 (by decide) (by decide) ?_
      refine V_iload_n F dX4_valueOf_7 rfl ?_
      refine V_istore_n F (lv' := [_, _, _, _]) dX4_valueOf_8 (by decide) rfl rfl ?_
      refine V_iconst F (v := nI 3) dX4_valueOf_9 (by decide) ?_
      refine V_istore_n F (lv' := [_, _, _, _]) dX4_valueOf_10 (by decide) rfl rfl ?_
      refine V_iload_n F dX4_valueOf_11 rfl ?_
      refine V_iload_n F dX4_valueOf_12 rfl ?_
      refine V_icmp_ge_f F (tgt := 27) dX4_valueOf_13 (by decide) (by decide) ?_
      refine V_iload_n F dX4_valueOf_16 rfl ?_
      refine V_bipush F (v := nI 6) dX4_valueOf_17 (by decide) ?_
      refine V_idiv F dX4_valueOf_19 (by decide) ?_
      refine V_val F (pk_div he (by omega) (by omega)) ?_
      refine V_istore_n F (lv' := [_, _, _, _]) dX4_valueOf_20 (by decide) rfl rfl ?_
      refine V_iinc F (lv' := [_, _, _, _]) dX4_valueOf_21 rfl (by decide) rfl rfl ?_
      refine V_goto F (tgt := 11) dX4_valueOf_24 (by decide) ?_
      refine V_iload_n F dX4_valueOf_11 rfl ?_
      refine V_iload_n F dX4_valueOf_12 rfl ?_
      refine V_icmp_ge_t F (tgt := 27) dX4_valueOf_13 (by decide) (by decide) ?_
      refine V_iload_n F dX4_valueOf_27 rfl ?_
      refine V_bipush F (v := nI 6) dX4_valueOf_28 (by decide) ?_
      refine V_irem F dX4_valueOf_30 (by decide) ?_
      refine V_val F (pk_rem (show e / 6 < 2 ^ 31 by omega) (by omega) (by omega)) ?_
      exact V_iret F dX4_valueOf_31 (⟨by simp [mvl], rfl⟩)
    · skip
      refine V_icmp_ge_t F (tgt := 7) dX4_valueOf_2 (by decide) (by decide) ?_
      refine V_iload_n F dX4_valueOf_7 rfl ?_
      refine V_istore_n F (lv' := [_, _, _, _]) dX4_valueOf_8 (by decide) rfl rfl ?_
      refine V_iconst F (v := nI 3) dX4_valueOf_9 (by decide) ?_
      refine V_istore_n F (lv' := [_, _, _, _]) dX4_valueOf_10 (by decide) rfl rfl ?_
      refine V_iload_n F dX4_valueOf_11 rfl ?_
      refine V_iload_n F dX4_valueOf_12 rfl ?_
      refine V_icmp_ge_f F (tgt := 27) dX4_valueOf_13 (by decide) (by decide) ?_
      refine V_iload_n F dX4_valueOf_16 rfl ?_
      refine V_bipush F (v := nI 6) dX4_valueOf_17 (by decide) ?_
      refine V_idiv F dX4_valueOf_19 (by decide) ?_
      refine V_val F (pk_div he (by omega) (by omega)) ?_
      refine V_istore_n F (lv' := [_, _, _, _]) dX4_valueOf_20 (by decide) rfl rfl ?_
      refine V_iinc F (lv' := [_, _, _, _]) dX4_valueOf_21 rfl (by decide) rfl rfl ?_
      refine V_goto F (tgt := 11) dX4_valueOf_24 (by decide) ?_
      refine V_iload_n F dX4_valueOf_11 rfl ?_
      refine V_iload_n F dX4_valueOf_12 rfl ?_
      refine V_icmp_ge_f F (tgt := 27) dX4_valueOf_13 (by decide) (by decide) ?_
      refine V_iload_n F dX4_valueOf_16 rfl ?_
      refine V_bipush F (v := nI 6) dX4_valueOf_17 (by decide) ?_
      refine V_idiv F dX4_valueOf_19 (by decide) ?_
      refine V_val F (pk_div (show e / 6 < 2 ^ 31 by omega) (by omega) (by omega)) ?_
      refine V_istore_n F (lv' := [_, _, _, _]) dX4_valueOf_20 (by decide) rfl rfl ?_
      refine V_iinc F (lv' := [_, _, _, _]) dX4_valueOf_21 rfl (by decide) rfl rfl ?_
      refine V_goto F (tgt := 11) dX4_valueOf_24 (by decide) ?_
      refine V_iload_n F dX4_valueOf_11 rfl ?_
      refine V_iload_n F dX4_valueOf_12 rfl ?_
      refine V_icmp_ge_t F (tgt := 27) dX4_valueOf_13 (by decide) (by decide) ?_
      refine V_iload_n F dX4_valueOf_27 rfl ?_
      refine V_bipush F (v := nI 6) dX4_valueOf_28 (by decide) ?_
      refine V_irem F dX4_valueOf_30 (by decide) ?_
      refine V_val F (pk_rem (show e / 6 / 6 < 2 ^ 31 by omega) (by omega) (by omega)) ?_
      exact V_iret F dX4_valueOf_31 (⟨by simp [mvl, Nat.div_div_eq_div_mul], rfl⟩)
theorem c_lists {at_ p₁ : Nat} {r : List Nat} (hI : MInv T n μ) (hat : at_ < 8) (hp₁ : p₁ < n) (hl : lok r) (h3 : r.length ≤ 3) : Ct (GS g) l (1) yX4_lists cX4_lists 9 none [.ref (g.1 15), .int (nI at_), .int (nI p₁), .int (nI (md r))] μ ((fun ret μ' => ret = none ∧ FrL μ μ' at_ ∧ Ls T r at_ (mvs T p₁ r) μ')) := by
  have hn := hI.n24
  have hW := hI.1
  have hmd := md_lt hl h3
  refine Ct.of (own := RX4) mi_X4_lists rfl [some (.ref (g.1 15)), some (.int (nI at_)), some (.int (nI p₁)), some (.int (nI (md r))), none, none, none, none, none] (Nat.le_of_ble_eq_true rfl) rfl (fun p₀ e₀ s₀ m₀ b₀ h₀ c₀ F => ?_)
  have walk : ∀ (p : Nat), p < n → ∀ (t : Nat) (em : List Nat) (ν : Mem), t + p ≤ 23 → (em ++ mvs T p r).length ≤ 3 → FrL μ ν at_ → Ls T r at_ em ν → ν.1 32 t = nI p →
      (∀ ν', FrL μ ν' at_ → Ls T r at_ (em ++ mvs T p r) ν' → (∀ i, i < t → ν'.1 32 i = ν.1 32 i) → V (GS g) p₀ l e₀ (rmD (1)) s₀ m₀ (List.toArray [.ref (g.1 15), .int (nI at_), .int (nI p₁), .int (nI (md r))]) b₀ h₀ c₀ 9 0 0 (MQ b₀ (Qp (GS g) ((fun ret μ' => ret = none ∧ FrL μ μ' at_ ∧ Ls T r at_ (mvs T p₁ r) μ'))) (List.toArray [.ref (g.1 15), .int (nI at_), .int (nI p₁), .int (nI (md r))]) s₀ 0 0 (gA (GS g))) 24 ([some (.ref (g.1 15)), some (.int (nI at_)), some (.int (nI p₁)), some (.int (nI (md r))), some (.int (nI t)), none, none, none, none]) ([]) (ν')) →
      V (GS g) p₀ l e₀ (rmD (1)) s₀ m₀ (List.toArray [.ref (g.1 15), .int (nI at_), .int (nI p₁), .int (nI (md r))]) b₀ h₀ c₀ 9 0 0 (MQ b₀ (Qp (GS g) ((fun ret μ' => ret = none ∧ FrL μ μ' at_ ∧ Ls T r at_ (mvs T p₁ r) μ'))) (List.toArray [.ref (g.1 15), .int (nI at_), .int (nI p₁), .int (nI (md r))]) s₀ 0 0 (gA (GS g))) 24 ([some (.ref (g.1 15)), some (.int (nI at_)), some (.int (nI p₁)), some (.int (nI (md r))), some (.int (nI (t + 1))), none, none, none, none]) ([]) (ν) := by
    intro p
    induction p using Nat.strongRecOn with
    | ind p ih =>
      intro hp t em ν ht hem hF hL hst K
      have hIν := hF.mi hI
      have hk := hW.kind hp
      have hnm := hW.name hp
      have hpt := hW.part hp
      have h6 := (hW.depth hp).2
      have e0 := hIν.fld 0 (p := p) rfl (by omega) hp
      have e1 := hIν.fld 1 (p := p) rfl (by omega) hp
      have e2 := hIν.fld 2 (p := p) rfl (by omega) hp
      have e3 := hIν.fld 3 (p := p) rfl (by omega) hp
      have e4 := hIν.fld 4 (p := p) rfl (by omega) hp
      have e6 := hIν.fld 6 (p := p) rfl (by omega) hp
      refine V_iload F dX4_lists_24 rfl ?_
      refine V_if_le_f F (tgt := 243) dX4_lists_26 (by decide) (fun z => by rw [← nI_0] at z; have := (nI_leI (by omega) (by omega)).mp z; omega) ?_
      refine V_iinc F (lv' := [_, _, _, _, _, _, _, _, _]) dX4_lists_29 rfl (by decide) rfl rfl ?_
      rw [im1]
      refine V_aload_n F dX4_lists_32 rfl ?_
      refine V_getf F (q0 := 15) (j := 17) lk_X4_62 dX4_lists_33 ig_X4 rfl rfl (by decide) rfl rfl ?_
      refine V_iload F dX4_lists_36 rfl ?_
      refine V_ia F dX4_lists_38 rfl (rfl) ((show t < 48 by omega)) (hst) ?_
      refine V_istore F (lv' := [_, _, _, _, _, _, _, _, _]) dX4_lists_39 (by decide) rfl rfl ?_
      refine V_aload_n F dX4_lists_41 rfl ?_
      refine V_getf F (q0 := 15) (j := 7) lk_X4_32 dX4_lists_42 ig_X4 rfl rfl (by decide) rfl rfl ?_
      refine V_iload F dX4_lists_45 rfl ?_
      refine V_ia F dX4_lists_47 rfl (rfl) ((show p < 24 by omega)) (e6) ?_
      by_cases b0 : T 6 p = 0
      · rw [b0]
        refine V_if_ne_f F (tgt := 54) dX4_lists_48 (by decide) (by decide) ?_
        refine V_goto F (tgt := 24) dX4_lists_51 (by decide) ?_
        refine V_msk [true, true, true, true, true, false, false, false, false] (lv' := [_, _, _, _, _, _, _, _, _]) rfl ?_
        refine K ν hF ?_ (fun i hi => rfl)
        rw [mvs_b0 hW hp b0, List.append_nil]
        exact hL
      · skip
        refine V_if_ne_t F (tgt := 54) dX4_lists_48 (by decide) (nI_nz (by omega) b0) ?_
        refine V_aload_n F dX4_lists_54 rfl ?_
        refine V_getf F (q0 := 15) (j := 2) lk_X4_17 dX4_lists_55 ig_X4 rfl rfl (by decide) rfl rfl ?_
        refine V_iload F dX4_lists_58 rfl ?_
        refine V_ia F dX4_lists_60 rfl (rfl) ((show p < 24 by omega)) (e1) ?_
        refine V_iload_n F dX4_lists_61 rfl ?_
        refine V_callSi F (c_mvalueOf (e := md r) hnm.1 (by omega)) mi_X4_valueOf ms_X4_valueOf lk_X4_94 dX4_lists_62 (rmR (by omega)) rfl rfl (by decide) (Nat.le_of_ble_eq_true rfl) ?_
        rw [mvl_md hl h3 hnm.1]
        refine V_istore F (lv' := [_, _, _, _, _, _, _, _, _]) dX4_lists_65 (by decide) rfl rfl ?_
        refine V_aload_n F dX4_lists_67 rfl ?_
        refine V_getf F (q0 := 15) (j := 3) lk_X4_20 dX4_lists_68 ig_X4 rfl rfl (by decide) rfl rfl ?_
        refine V_iload F dX4_lists_71 rfl ?_
        refine V_ia F dX4_lists_73 rfl (rfl) ((show p < 24 by omega)) (e2) ?_
        refine V_iload_n F dX4_lists_74 rfl ?_
        refine V_callSi F (c_mvalueOf (e := md r) hnm.2 (by omega)) mi_X4_valueOf ms_X4_valueOf lk_X4_94 dX4_lists_75 (rmR (by omega)) rfl rfl (by decide) (Nat.le_of_ble_eq_true rfl) ?_
        rw [mvl_md hl h3 hnm.2]
        refine V_istore F (lv' := [_, _, _, _, _, _, _, _, _]) dX4_lists_78 (by decide) rfl rfl ?_
        refine V_aload_n F dX4_lists_80 rfl ?_
        refine V_getf F (q0 := 15) (j := 1) lk_X4_13 dX4_lists_81 ig_X4 rfl rfl (by decide) rfl rfl ?_
        refine V_iload F dX4_lists_84 rfl ?_
        refine V_ia F dX4_lists_86 rfl (rfl) ((show p < 24 by omega)) (e0) ?_
        refine V_iconst F (v := nI 5) dX4_lists_87 (by decide) ?_
        have hstep := mvs_step hW hp r
        have hp0 : 0 < p := by
          rcases Nat.eq_zero_or_pos p with z | z
          · subst z; exact absurd hW.2.1.2.2.2.2.2.2.1 b0
          · exact z
        obtain ⟨⟨hk1, -, -, -, h3p, h4p⟩, -⟩ := hW.2.2 p hp0 hp
        have hv1 := vl_lt hl h3 (T 1 p)
        have hv2 := vl_lt hl h3 (T 2 p)
        rw [if_neg (by omega)] at hstep
        refine V_icmp_ne_N F (tgt := 127) dX4_lists_88 (by decide) (by omega) (by omega) (fun k5 => ?_) (fun k5 => ?_)
        · skip
          refine V_aload_n F dX4_lists_127 rfl ?_
          refine V_getf F (q0 := 15) (j := 1) lk_X4_13 dX4_lists_128 ig_X4 rfl rfl (by decide) rfl rfl ?_
          refine V_iload F dX4_lists_131 rfl ?_
          refine V_ia F dX4_lists_133 rfl (rfl) ((show p < 24 by omega)) (e0) ?_
          refine V_iconst F (v := nI 4) dX4_lists_134 (by decide) ?_
          refine V_icmp_ne_N F (tgt := 172) dX4_lists_135 (by decide) (by omega) (by omega) (fun k4 => ?_) (fun k4 => ?_)
          · -- an action
            rw [if_pos (by omega)] at hstep
            rw [hstep] at hem K
            have hle : em.length ≤ 2 := by simp only [List.length_append, List.length_singleton] at hem; omega
            refine V_iconst F (v := nI 3) dX4_lists_172 (by decide) ?_
            refine V_iload_n F dX4_lists_173 rfl ?_
            (first | refine V_imulN F dX4_lists_174 ?_ | refine V_imul F dX4_lists_174 ?_)
            refine V_aload_n F dX4_lists_175 rfl ?_
            refine V_getf F (q0 := 15) (j := 10) lk_X4_41 dX4_lists_176 ig_X4 rfl rfl (by decide) rfl rfl ?_
            refine V_iload_n F dX4_lists_179 rfl ?_
            refine V_ia F dX4_lists_180 rfl (rfl) ((show at_ < 8 by omega)) (hL.1) ?_
            (first | refine V_iaddN F dX4_lists_181 ?_ | refine V_iadd F dX4_lists_181 ?_)
            refine V_istore F (lv' := [_, _, _, _, _, _, _, _, _]) dX4_lists_182 (by decide) rfl rfl ?_
            refine V_aload_n F dX4_lists_184 rfl ?_
            refine V_getf F (q0 := 15) (j := 11) lk_X4_44 dX4_lists_185 ig_X4 rfl rfl (by decide) rfl rfl ?_
            refine V_iload F dX4_lists_188 rfl ?_
            refine V_aload_n F dX4_lists_190 rfl ?_
            refine V_getf F (q0 := 15) (j := 1) lk_X4_13 dX4_lists_191 ig_X4 rfl rfl (by decide) rfl rfl ?_
            refine V_iload F dX4_lists_194 rfl ?_
            refine V_ia F dX4_lists_196 rfl (rfl) ((show p < 24 by omega)) (e0) ?_
            refine V_ias F dX4_lists_197 rfl (rfl) ((show 3 * at_ + em.length < 24 by omega)) ?_
            refine V_aload_n F dX4_lists_198 rfl ?_
            refine V_getf F (q0 := 15) (j := 12) lk_X4_47 dX4_lists_199 ig_X4 rfl rfl (by decide) rfl rfl ?_
            refine V_iload F dX4_lists_202 rfl ?_
            refine V_iload F dX4_lists_204 rfl ?_
            refine V_ias F dX4_lists_206 rfl (rfl) ((show 3 * at_ + em.length < 24 by omega)) ?_
            refine V_aload_n F dX4_lists_207 rfl ?_
            refine V_getf F (q0 := 15) (j := 13) lk_X4_50 dX4_lists_208 ig_X4 rfl rfl (by decide) rfl rfl ?_
            refine V_iload F dX4_lists_211 rfl ?_
            refine V_iload F dX4_lists_213 rfl ?_
            refine V_ias F dX4_lists_215 rfl (rfl) ((show 3 * at_ + em.length < 24 by omega)) ?_
            refine V_aload_n F dX4_lists_216 rfl ?_
            refine V_getf F (q0 := 15) (j := 14) lk_X4_53 dX4_lists_217 ig_X4 rfl rfl (by decide) rfl rfl ?_
            refine V_iload F dX4_lists_220 rfl ?_
            refine V_aload_n F dX4_lists_222 rfl ?_
            refine V_getf F (q0 := 15) (j := 4) lk_X4_23 dX4_lists_223 ig_X4 rfl rfl (by decide) rfl rfl ?_
            refine V_iload F dX4_lists_226 rfl ?_
            refine V_ia F dX4_lists_228 rfl (rfl) ((show p < 24 by omega)) ((wr_ne (by omega)).trans ((wr_ne (by omega)).trans ((wr_ne (by omega)).trans e3))) ?_
            refine V_ias F dX4_lists_229 rfl (rfl) ((show 3 * at_ + em.length < 24 by omega)) ?_
            refine V_aload_n F dX4_lists_230 rfl ?_
            refine V_getf F (q0 := 15) (j := 10) lk_X4_41 dX4_lists_231 ig_X4 rfl rfl (by decide) rfl rfl ?_
            refine V_iload_n F dX4_lists_234 rfl ?_
            refine V_dup2 F dX4_lists_235 rfl rfl ?_
            refine V_ia F dX4_lists_236 rfl (rfl) ((show at_ < 8 by omega)) ((wr_ne (by omega)).trans ((wr_ne (by omega)).trans ((wr_ne (by omega)).trans ((wr_ne (by omega)).trans hL.1)))) ?_
            refine V_iconst F (v := nI 1) dX4_lists_237 (by decide) ?_
            (first | refine V_iaddN F dX4_lists_238 ?_ | refine V_iadd F dX4_lists_238 ?_)
            refine V_ias F dX4_lists_239 rfl (rfl) ((show at_ < 8 by omega)) ?_
            refine V_goto F (tgt := 24) dX4_lists_240 (by decide) ?_
            refine V_msk [true, true, true, true, true, false, false, false, false] (lv' := [_, _, _, _, _, _, _, _, _]) rfl ?_
            refine K _ ⟨hF.1, fun c i hc => ?_⟩ ⟨?_, ?_, fun m a hm => ?_⟩ (fun i hi => ?_)
            · repeat rw [wr_ne (by omega)]
              exact hF.2 c i hc
            · rw [wr_eq]
              simp
            · repeat rw [wr_ne (by omega)]
              exact hL.2.1
            · by_cases hme : m < em.length
              · rw [List.getElem?_append_left hme] at hm
                have := hL.2.2 m a hm
                repeat rw [wr_ne (by omega)]
                exact this
              · rw [List.getElem?_append_right (by omega)] at hm
                have hm0 : m - em.length = 0 := by
                  have := (List.getElem?_eq_some_iff.mp hm).1
                  simp at this
                  omega
                rw [hm0] at hm
                cases hm
                have hme2 : m = em.length := by omega
                subst hme2
                refine ⟨?_, ?_, ?_, ?_⟩
                · rw [wr_ne (by omega), wr_ne (by omega), wr_ne (by omega), wr_ne (by omega)]
                  exact wr_eq
                · rw [wr_ne (by omega), wr_ne (by omega), wr_ne (by omega)]
                  exact wr_eq
                · rw [wr_ne (by omega), wr_ne (by omega)]
                  exact wr_eq
                · rw [wr_ne (by omega)]
                  exact wr_eq
            · repeat rw [wr_ne (by omega)]
          · -- a match
            have k4 := Classical.not_not.mp k4
            rw [if_neg (by omega), if_pos k4] at hstep
            refine V_aload_n F dX4_lists_138 rfl ?_
            refine V_getf F (q0 := 15) (j := 17) lk_X4_62 dX4_lists_139 ig_X4 rfl rfl (by decide) rfl rfl ?_
            refine V_iload F dX4_lists_142 rfl ?_
            refine V_aload_n F dX4_lists_144 rfl ?_
            refine V_getf F (q0 := 15) (j := 4) lk_X4_23 dX4_lists_145 ig_X4 rfl rfl (by decide) rfl rfl ?_
            refine V_iload F dX4_lists_148 rfl ?_
            refine V_ia F dX4_lists_150 rfl (rfl) ((show p < 24 by omega)) (e3) ?_
            refine V_ias F dX4_lists_151 rfl (rfl) ((show t < 48 by omega)) ?_
            refine V_iload F dX4_lists_152 rfl ?_
            refine V_iload F dX4_lists_154 rfl ?_
            refine V_iload F dX4_lists_156 rfl ?_
            have hF' : FrL μ (wr ν 32 t (nI (T 3 p))) at_ := ⟨hF.1, fun c i hc => by rw [wr_ne (by omega)]; exact hF.2 c i hc⟩
            have hL' : Ls T r at_ em (wr ν 32 t (nI (T 3 p))) := by
              refine ⟨by rw [wr_ne (by omega)]; exact hL.1, by rw [wr_ne (by omega)]; exact hL.2.1, fun m a hm => ?_⟩
              rw [wr_ne (by omega), wr_ne (by omega), wr_ne (by omega), wr_ne (by omega)]
              exact hL.2.2 m a hm
            by_cases hv : vl r (T 1 p) = vl r (T 2 p)
            · rw [if_pos hv] at hstep
              rw [hstep] at hem K
              rw [hv]
              refine V_icmp_ne_f F (tgt := 165) dX4_lists_158 (by decide) (rfl) ?_
              refine V_iconst F (v := nI 1) dX4_lists_161 (by decide) ?_
              refine V_goto F (tgt := 166) dX4_lists_162 (by decide) ?_
              (first | refine V_iaddN F dX4_lists_166 ?_ | refine V_iadd F dX4_lists_166 ?_)
              refine V_istore F (lv' := [_, _, _, _, _, _, _, _, _]) dX4_lists_167 (by decide) rfl rfl ?_
              refine V_goto F (tgt := 240) dX4_lists_169 (by decide) ?_
              refine V_goto F (tgt := 24) dX4_lists_240 (by decide) ?_
              refine V_msk [true, true, true, true, true, false, false, false, false] (lv' := [_, _, _, _, _, _, _, _, _]) rfl ?_
              refine ih _ h3p (by omega) t em _ (by omega) hem hF' hL' wr_eq (fun ν' g1 g2 g3 => K ν' g1 g2 (fun i hi => ?_))
              rw [g3 i hi, wr_ne (by omega)]
            · rw [if_neg hv] at hstep
              rw [hstep, List.append_nil] at K
              refine V_icmp_ne_t F (tgt := 165) dX4_lists_158 (by decide) (fun z => hv ((nI_eq (by omega) (by omega)).mp z)) ?_
              refine V_iconst F (v := nI 0) dX4_lists_165 (by decide) ?_
              (first | refine V_iaddN F dX4_lists_166 ?_ | refine V_iadd F dX4_lists_166 ?_)
              refine V_istore F (lv' := [_, _, _, _, _, _, _, _, _]) dX4_lists_167 (by decide) rfl rfl ?_
              refine V_goto F (tgt := 240) dX4_lists_169 (by decide) ?_
              refine V_goto F (tgt := 24) dX4_lists_240 (by decide) ?_
              refine V_msk [true, true, true, true, true, false, false, false, false] (lv' := [_, _, _, _, _, _, _, _, _]) rfl ?_
              exact K _ hF' hL' (fun i hi => wr_ne (by omega))
        · -- a sum
          have k5 := Classical.not_not.mp k5
          rw [if_neg (by omega), if_neg (by omega)] at hstep
          rw [hstep] at hem K
          refine V_aload_n F dX4_lists_91 rfl ?_
          refine V_getf F (q0 := 15) (j := 17) lk_X4_62 dX4_lists_92 ig_X4 rfl rfl (by decide) rfl rfl ?_
          refine V_iload F dX4_lists_95 rfl ?_
          refine V_aload_n F dX4_lists_97 rfl ?_
          refine V_getf F (q0 := 15) (j := 5) lk_X4_26 dX4_lists_98 ig_X4 rfl rfl (by decide) rfl rfl ?_
          refine V_iload F dX4_lists_101 rfl ?_
          refine V_ia F dX4_lists_103 rfl (rfl) ((show p < 24 by omega)) (e4) ?_
          refine V_ias F dX4_lists_104 rfl (rfl) ((show t < 48 by omega)) ?_
          refine V_aload_n F dX4_lists_105 rfl ?_
          refine V_getf F (q0 := 15) (j := 17) lk_X4_62 dX4_lists_106 ig_X4 rfl rfl (by decide) rfl rfl ?_
          refine V_iload F dX4_lists_109 rfl ?_
          refine V_iconst F (v := nI 1) dX4_lists_111 (by decide) ?_
          (first | refine V_iaddN F dX4_lists_112 ?_ | refine V_iadd F dX4_lists_112 ?_)
          refine V_aload_n F dX4_lists_113 rfl ?_
          refine V_getf F (q0 := 15) (j := 4) lk_X4_23 dX4_lists_114 ig_X4 rfl rfl (by decide) rfl rfl ?_
          refine V_iload F dX4_lists_117 rfl ?_
          refine V_ia F dX4_lists_119 rfl (rfl) ((show p < 24 by omega)) ((wr_ne (by omega)).trans e3) ?_
          refine V_ias F dX4_lists_120 rfl (rfl) ((show t + 1 < 48 by omega)) ?_
          refine V_iinc F (lv' := [_, _, _, _, _, _, _, _, _]) dX4_lists_121 rfl (by decide) rfl rfl ?_
          refine V_goto F (tgt := 240) dX4_lists_124 (by decide) ?_
          refine V_goto F (tgt := 24) dX4_lists_240 (by decide) ?_
          rw [ip2]
          refine V_msk [true, true, true, true, true, false, false, false, false] (lv' := [_, _, _, _, _, _, _, _, _]) rfl ?_
          rw [← List.append_assoc] at hem K
          have hem2 : (em ++ mvs T (T 3 p) r).length ≤ 3 := by
            rw [List.length_append] at hem
            omega
          refine ih _ h3p (by omega) (t + 1) em _ (by omega) hem2 ⟨hF.1, fun c i hc => ?_⟩ ⟨?_, ?_, fun m a hm => ?_⟩ wr_eq (fun ν' g1 g2 g3 => ?_)
          · repeat rw [wr_ne (by omega)]
            exact hF.2 c i hc
          · repeat rw [wr_ne (by omega)]
            exact hL.1
          · repeat rw [wr_ne (by omega)]
            exact hL.2.1
          · have := hL.2.2 m a hm
            repeat rw [wr_ne (by omega)]
            exact this
          · refine ih _ h4p (by omega) t _ ν' (by omega) hem g1 g2 ?_ (fun ν'' f1 f2 f3 => K ν'' f1 f2 (fun i hi => ?_))
            · rw [g3 t (by omega), wr_ne (by omega)]
              exact wr_eq
            · rw [f3 i hi, g3 i (by omega), wr_ne (by omega), wr_ne (by omega)]
  refine V_aload_n F dX4_lists_0 rfl ?_
  refine V_getf F (q0 := 15) (j := 10) lk_X4_41 dX4_lists_1 ig_X4 rfl rfl (by decide) rfl rfl ?_
  refine V_iload_n F dX4_lists_4 rfl ?_
  refine V_iconst F (v := nI 0) dX4_lists_5 (by decide) ?_
  refine V_ias F dX4_lists_6 rfl (rfl) ((show at_ < 8 by omega)) ?_
  refine V_aload_n F dX4_lists_7 rfl ?_
  refine V_getf F (q0 := 15) (j := 15) lk_X4_56 dX4_lists_8 ig_X4 rfl rfl (by decide) rfl rfl ?_
  refine V_iload_n F dX4_lists_11 rfl ?_
  refine V_iload_n F dX4_lists_12 rfl ?_
  refine V_ias F dX4_lists_13 rfl (rfl) ((show at_ < 8 by omega)) ?_
  refine V_iconst F (v := nI 1) dX4_lists_14 (by decide) ?_
  refine V_istore F (lv' := [_, _, _, _, _, _, _, _, _]) dX4_lists_15 (by decide) rfl rfl ?_
  refine V_aload_n F dX4_lists_17 rfl ?_
  refine V_getf F (q0 := 15) (j := 17) lk_X4_62 dX4_lists_18 ig_X4 rfl rfl (by decide) rfl rfl ?_
  refine V_iconst F (v := nI 0) dX4_lists_21 (by decide) ?_
  refine V_iload_n F dX4_lists_22 rfl ?_
  refine V_ias F dX4_lists_23 rfl (rfl) ((show 0 < 48 by omega)) ?_
  refine walk p₁ hp₁ 0 [] _ (by omega) (by simpa using mvs_len hW hp₁ r) ⟨rfl, fun c i hc => ?_⟩ ⟨?_, ?_, fun m a hm => by simp at hm⟩ wr_eq (fun ν' g1 g2 g3 => ?_)
  · repeat rw [wr_ne (by omega)]
  · rw [wr_ne (by omega), wr_ne (by omega)]
    exact wr_eq
  · rw [wr_ne (by omega)]
    exact wr_eq
  · skip
    refine V_iload F dX4_lists_24 rfl ?_
    refine V_if_le_t F (tgt := 243) dX4_lists_26 (by decide) (by decide) ?_
    exact V_vret F dX4_lists_243 ⟨rfl, g1, g2⟩
end MODELC

