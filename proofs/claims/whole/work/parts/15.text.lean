section TEXTS
variable {T : Tb} {n : Nat}
def lt1 (x : Nat) : Nat := if x < 3 then 97 + x else 45 + x
/-- a sign ahead of a process's first part -/
def hch (T : Tb) (p i : Nat) : Nat := if (sCod.getD (hix (T 0 p)) []).getD i 0 = 120 then lt1 (T 1 p) else if (sCod.getD (hix (T 0 p)) []).getD i 0 = 121 then lt1 (T 2 p) else (sCod.getD (hix (T 0 p)) []).getD i 0
def chrF (T : Tb) : Nat → Nat → Nat → Nat
  | 0, _, _ => 0
  | f + 1, p, i => if i < hdl (T 0 p) then hch T p i else
    if i - hdl (T 0 p) < T 8 (T 3 p) then chrF T f (T 3 p) (i - hdl (T 0 p)) else
    if i - hdl (T 0 p) = T 8 (T 3 p) then 43 else
    if i - hdl (T 0 p) - (T 8 (T 3 p) + 1) < T 8 (T 4 p) then chrF T f (T 4 p) (i - hdl (T 0 p) - (T 8 (T 3 p) + 1)) else 41
def chr (T : Tb) (p i : Nat) : Nat := chrF T (p + 1) p i
theorem chrF_eq (hW : WF T n) : ∀ (p : Nat), p < n → ∀ f i, p < f → i < T 8 p → chrF T f p i = chr T p i := by
  intro p
  induction p using Nat.strongRecOn with
  | ind p ih =>
    intro hp f i hf hi
    obtain ⟨f, rfl⟩ : ∃ k, f = k + 1 := ⟨f - 1, by omega⟩
    unfold chr
    simp only [chrF]
    split
    · rfl
    · rename_i h0
      rcases Nat.eq_zero_or_pos p with h | h
      · subst h
        obtain ⟨-, ⟨k0, -, -, -, -, -, -, -, h8⟩, -⟩ := hW
        rw [k0] at h0
        simp only [hdl] at h0
        omega
      · obtain ⟨⟨-, -, -, -, h3, h4⟩, -⟩ := hW.2.2 p h hp
        split
        · rename_i h1
          rw [ih _ h3 (by omega) f _ (by omega) h1, ih _ h3 (by omega) p _ (by omega) h1]
        · split
          · rfl
          · split
            · rename_i h1
              rw [ih _ h4 (by omega) f _ (by omega) h1, ih _ h4 (by omega) p _ (by omega) h1]
            · rfl
theorem chr_eq (hW : WF T n) {p i : Nat} (hp : p < n) (hi : i < T 8 p) : chr T p i = if i < hdl (T 0 p) then hch T p i else
    if i - hdl (T 0 p) < T 8 (T 3 p) then chr T (T 3 p) (i - hdl (T 0 p)) else
    if i - hdl (T 0 p) = T 8 (T 3 p) then 43 else
    if i - hdl (T 0 p) - (T 8 (T 3 p) + 1) < T 8 (T 4 p) then chr T (T 4 p) (i - hdl (T 0 p) - (T 8 (T 3 p) + 1)) else 41 := by
  conv => lhs; unfold chr
  simp only [chrF]
  split
  · rfl
  · rename_i h0
    rcases Nat.eq_zero_or_pos p with h | h
    · subst h
      obtain ⟨-, ⟨k0, -, -, -, -, -, -, -, h8⟩, -⟩ := hW
      rw [k0] at h0
      simp only [hdl] at h0
      omega
    · obtain ⟨⟨-, -, -, -, h3, h4⟩, -⟩ := hW.2.2 p h hp
      split
      · rename_i h1
        rw [chrF_eq hW _ (by omega) p _ (by omega) h1]
      · split
        · rfl
        · split
          · rename_i h1
            rw [chrF_eq hW _ (by omega) p _ (by omega) h1]
          · rfl
/-- behind a head: a process that is not 0 -/
theorem beyond (hW : WF T n) {p i : Nat} (hp : p < n) (hi : i < T 8 p) (hh : ¬ i < hdl (T 0 p)) : 0 < p ∧ T 3 p < p ∧ T 4 p < p ∧ T 8 p = hdl (T 0 p) + T 8 (T 3 p) + (if T 0 p = 5 then T 8 (T 4 p) + 2 else 0) := by
  rcases Nat.eq_zero_or_pos p with h | h
  · subst h
    obtain ⟨-, ⟨k0, -, -, -, -, -, -, -, h8⟩, -⟩ := hW
    rw [k0] at hh
    simp only [hdl] at hh
    omega
  · obtain ⟨⟨-, -, -, -, h3, h4⟩, -, -, -, -, h8⟩ := hW.2.2 p h hp
    exact ⟨h, h3, h4, h8⟩
def rTx (T : Tb) (n : Nat) (p i : Int32) : Int32 := match pj n p with
  | none => -1
  | some j => if i < 0 then -1 else if T 8 j ≤ i.toNatClampNeg then -4 else nI (chr T j i.toNatClampNeg)
theorem sCod_le : ∀ i, i < 6 → ∀ j, j < sLen.getD i 0 → (sCod.getD i []).getD j 0 < 128 := by decide +kernel
end TEXTS
section TEXT
variable {g : Gm} {l : Launch} {μ : Mem} {T : Tb} {n : Nat}
theorem c_headChar {p i : Nat} (hX : XRep T n μ) (hp : p < n) (hi : i < hdl (T 0 p)) : Ct (GS g) l (5) yX2_headCharacter cX2_headCharacter 5 (some .int) [.ref (g.1 1), .int (nI p), .int (nI i)] μ (Is (.int (nI (hch T p i))) μ) := by
  have hn := hX.n24
  have hk := hX.1.kind hp
  have hnm := hX.1.name hp
  obtain ⟨hx1, hx2⟩ := hix_len (T 0 p) (by omega)
  have hb := hdl_le (T 0 p)
  have hc := sCod_le (hix (T 0 p)) hx2 i (by omega)
  refine Ct.of (own := RX2) mi_X2_headCharacter rfl [some (.ref (g.1 1)), some (.int (nI p)), some (.int (nI i)), none, none] (Nat.le_of_ble_eq_true rfl) rfl (fun p₀ e₀ s₀ m₀ b₀ h₀ c₀ F => ?_)
  refine V_aload_n F dX2_headCharacter_0 rfl ?_
  refine V_getf F (q0 := 1) (j := 1) lk_X2_9 dX2_headCharacter_1 ig_X2 rfl rfl (by decide) rfl rfl ?_
  refine V_iload_n F dX2_headCharacter_4 rfl ?_
  refine V_callSNi F (c_at (q := 3) rfl (show p < 24 by omega) (hX.fld 0 rfl (by omega) hp)) mi_X3_at ms_X3_at nk_X2_68 dX2_headCharacter_5 (rmR (by omega)) rfl rfl (by decide) (Nat.le_of_ble_eq_true rfl) ?_
  refine V_callSi F (c_headOf (by omega)) mi_X2_headOf ms_X2_headOf lk_X2_54 dX2_headCharacter_8 (rmR (by omega)) rfl rfl (by decide) (Nat.le_of_ble_eq_true rfl) ?_
  refine V_astore_n F (lv' := [_, _, _, _, _]) dX2_headCharacter_11 (by decide) rfl rfl ?_
  refine V_iload_n F dX2_headCharacter_12 rfl ?_
  refine V_if_lt_f F (tgt := 24) dX2_headCharacter_13 (by decide) (nI_nn (by omega)) ?_
  refine V_iload_n F dX2_headCharacter_16 rfl ?_
  refine V_aload_n F dX2_headCharacter_17 rfl ?_
  refine V_callK F hx2 (c_slen hx2) mi_J0_length_8abf5 mm_J0_length_8abf5 lk_X2_58 dX2_headCharacter_18 (rmR (by omega)) rfl rfl (by decide) (Nat.le_of_ble_eq_true rfl) rfl ?_
  rw [hx1]
  refine V_icmp_lt_N F (tgt := 27) dX2_headCharacter_21 (by decide) (by omega) (by omega) (fun h => ?_) (fun h => ?_)
  · skip
    refine V_aload_n F dX2_headCharacter_27 rfl ?_
    refine V_iload_n F dX2_headCharacter_28 rfl ?_
    refine V_callK F hx2 (As := [.int (nI i)]) (c_charAt hx2 (by omega)) mi_J0_charAt_5068e mm_J0_charAt_5068e lk_X2_132 dX2_headCharacter_29 (rmR (by omega)) rfl rfl (by decide) (Nat.le_of_ble_eq_true rfl) rfl ?_
    refine V_istore F (lv' := [_, _, _, _, _]) dX2_headCharacter_32 (by decide) rfl rfl ?_
    refine V_iload F dX2_headCharacter_34 rfl ?_
    refine V_bipush F (v := nI 120) dX2_headCharacter_36 (by decide) ?_
    refine V_icmp_ne_N F (tgt := 53) dX2_headCharacter_38 (by decide) (by omega) (by omega) (fun h1 => ?_) (fun h1 => ?_)
    · skip
      refine V_iload F dX2_headCharacter_53 rfl ?_
      refine V_bipush F (v := nI 121) dX2_headCharacter_55 (by decide) ?_
      refine V_icmp_ne_N F (tgt := 74) dX2_headCharacter_57 (by decide) (by omega) (by omega) (fun h2 => ?_) (fun h2 => ?_)
      · skip
        refine V_iload F dX2_headCharacter_74 rfl ?_
        exact V_iret F dX2_headCharacter_76 (⟨by rw [hch, if_neg h1, if_neg h2], rfl⟩)
      · skip
        refine V_aload_n F dX2_headCharacter_60 rfl ?_
        refine V_getf F (q0 := 1) (j := 3) lk_X2_18 dX2_headCharacter_61 ig_X2 rfl rfl (by decide) rfl rfl ?_
        refine V_iload_n F dX2_headCharacter_64 rfl ?_
        refine V_callSNi F (c_at (q := 5) rfl (show p < 24 by omega) (hX.fld 2 rfl (by omega) hp)) mi_X3_at ms_X3_at nk_X2_68 dX2_headCharacter_65 (rmR (by omega)) rfl rfl (by decide) (Nat.le_of_ble_eq_true rfl) ?_
        refine V_callSi F (c_letterOf hnm.2) mi_X2_letterOf ms_X2_letterOf lk_X2_136 dX2_headCharacter_68 (rmR (by omega)) rfl rfl (by decide) (Nat.le_of_ble_eq_true rfl) ?_
        refine V_goto F (tgt := 76) dX2_headCharacter_71 (by decide) ?_
        exact V_iret F dX2_headCharacter_76 (⟨by rw [hch, if_neg h1, if_pos (Classical.not_not.mp h2)]; rfl, rfl⟩)
    · skip
      refine V_aload_n F dX2_headCharacter_41 rfl ?_
      refine V_getf F (q0 := 1) (j := 2) lk_X2_15 dX2_headCharacter_42 ig_X2 rfl rfl (by decide) rfl rfl ?_
      refine V_iload_n F dX2_headCharacter_45 rfl ?_
      refine V_callSNi F (c_at (q := 4) rfl (show p < 24 by omega) (hX.fld 1 rfl (by omega) hp)) mi_X3_at ms_X3_at nk_X2_68 dX2_headCharacter_46 (rmR (by omega)) rfl rfl (by decide) (Nat.le_of_ble_eq_true rfl) ?_
      refine V_callSi F (c_letterOf hnm.1) mi_X2_letterOf ms_X2_letterOf lk_X2_136 dX2_headCharacter_49 (rmR (by omega)) rfl rfl (by decide) (Nat.le_of_ble_eq_true rfl) ?_
      exact V_iret F dX2_headCharacter_52 (⟨by rw [hch, if_pos (Classical.not_not.mp h1)]; rfl, rfl⟩)
  · omega
theorem c_charOf {p₁ i₁ : Nat} (hX : XRep T n μ) (hp₁ : p₁ < n) (hi₁ : i₁ < T 8 p₁) : Ct (GS g) l (6) yX2_characterOf cX2_characterOf 11 (some .int) [.ref (g.1 1), .int (nI p₁), .int (nI i₁)] μ (Is (.int (nI (chr T p₁ i₁))) μ) := by
  have hn := hX.n24
  refine Ct.of (own := RX2) mi_X2_characterOf rfl [some (.ref (g.1 1)), some (.int (nI p₁)), some (.int (nI i₁)), none, none, none, none, none, none, none, none] (Nat.le_of_ble_eq_true rfl) rfl (fun p₀ e₀ s₀ m₀ b₀ h₀ c₀ F => ?_)
  have loop : ∀ (p i lev : Nat), p < n → i < T 8 p → p + lev ≤ 23 → chr T p i = chr T p₁ i₁ → V (GS g) p₀ l e₀ (rmD (6)) s₀ m₀ (List.toArray [.ref (g.1 1), .int (nI p₁), .int (nI i₁)]) b₀ h₀ c₀ 11 0 0 (MQ b₀ (Qp (GS g) (Is (.int (nI (chr T p₁ i₁))) μ)) (List.toArray [.ref (g.1 1), .int (nI p₁), .int (nI i₁)]) s₀ 0 0 (gA (GS g))) 8 ([some (.ref (g.1 1)), some (.int (nI p₁)), some (.int (nI i₁)), some (.int (nI p)), some (.int (nI i)), some (.int (nI lev)), none, none, none, none, none]) ([]) (μ) := by
    intro p
    induction p using Nat.strongRecOn with
    | ind p ih =>
      intro i lev hp hi hlev hres
      rw [chr_eq hX.1 hp hi] at hres
      have hk := hX.1.kind hp
      obtain ⟨hx1, hx2⟩ := hix_len (T 0 p) (by omega)
      have hhd := hdl_le (T 0 p)
      have hL := hX.1.len_lt hp
      refine V_iload F dX2_characterOf_8 rfl ?_
      refine V_bipush F (v := nI 24) dX2_characterOf_10 (by decide) ?_
      refine V_icmp_ge_N F (tgt := 144) dX2_characterOf_12 (by decide) (by omega) (by omega) (fun h => ?_) (fun h => ?_)
      · omega
      · skip
        refine V_aload_n F dX2_characterOf_15 rfl ?_
        refine V_getf F (q0 := 1) (j := 1) lk_X2_9 dX2_characterOf_16 ig_X2 rfl rfl (by decide) rfl rfl ?_
        refine V_iload_n F dX2_characterOf_19 rfl ?_
        refine V_callSNi F (c_at (q := 3) rfl (show p < 24 by omega) (hX.fld 0 rfl (by omega) hp)) mi_X3_at ms_X3_at nk_X2_68 dX2_characterOf_20 (rmR (by omega)) rfl rfl (by decide) (Nat.le_of_ble_eq_true rfl) ?_
        refine V_istore F (lv' := [_, _, _, _, _, _, _, _, _, _, _]) dX2_characterOf_23 (by decide) rfl rfl ?_
        refine V_iload F dX2_characterOf_25 rfl ?_
        refine V_callSi F (c_headOf (by omega)) mi_X2_headOf ms_X2_headOf lk_X2_54 dX2_characterOf_27 (rmR (by omega)) rfl rfl (by decide) (Nat.le_of_ble_eq_true rfl) ?_
        refine V_callK F hx2 (c_slen hx2) mi_J0_length_8abf5 mm_J0_length_8abf5 lk_X2_58 dX2_characterOf_30 (rmR (by omega)) rfl rfl (by decide) (Nat.le_of_ble_eq_true rfl) rfl ?_
        rw [hx1]
        refine V_istore F (lv' := [_, _, _, _, _, _, _, _, _, _, _]) dX2_characterOf_33 (by decide) rfl rfl ?_
        refine V_iload F dX2_characterOf_35 rfl ?_
        refine V_iload F dX2_characterOf_37 rfl ?_
        refine V_icmp_ge_N F (tgt := 50) dX2_characterOf_39 (by decide) (by omega) (by omega) (fun h1 => ?_) (fun h1 => ?_)
        · obtain ⟨hp0, h3, h4, h8⟩ := beyond hX.1 hp hi (by omega)
          have hL3 := hX.1.len_lt (show T 3 p < n by omega)
          have hL4 := hX.1.len_lt (show T 4 p < n by omega)
          rw [if_neg (by omega)] at hres
          refine V_iload F dX2_characterOf_50 rfl ?_
          refine V_iload F dX2_characterOf_52 rfl ?_
          refine V_isubN F (by omega) dX2_characterOf_54 ?_
          refine V_istore F (lv' := [_, _, _, _, _, _, _, _, _, _, _]) dX2_characterOf_55 (by decide) rfl rfl ?_
          refine V_aload_n F dX2_characterOf_57 rfl ?_
          refine V_getf F (q0 := 1) (j := 4) lk_X2_21 dX2_characterOf_58 ig_X2 rfl rfl (by decide) rfl rfl ?_
          refine V_iload_n F dX2_characterOf_61 rfl ?_
          refine V_callSNi F (c_at (q := 6) rfl (show p < 24 by omega) (hX.fld 3 rfl (by omega) hp)) mi_X3_at ms_X3_at nk_X2_68 dX2_characterOf_62 (rmR (by omega)) rfl rfl (by decide) (Nat.le_of_ble_eq_true rfl) ?_
          refine V_istore F (lv' := [_, _, _, _, _, _, _, _, _, _, _]) dX2_characterOf_65 (by decide) rfl rfl ?_
          refine V_aload_n F dX2_characterOf_67 rfl ?_
          refine V_getf F (q0 := 1) (j := 9) lk_X2_40 dX2_characterOf_68 ig_X2 rfl rfl (by decide) rfl rfl ?_
          refine V_iload F dX2_characterOf_71 rfl ?_
          refine V_callSNi F (c_at (q := 11) rfl (show T 3 p < 24 by omega) (hX.fld 8 rfl (by omega) (by omega))) mi_X3_at ms_X3_at nk_X2_68 dX2_characterOf_73 (rmR (by omega)) rfl rfl (by decide) (Nat.le_of_ble_eq_true rfl) ?_
          refine V_istore F (lv' := [_, _, _, _, _, _, _, _, _, _, _]) dX2_characterOf_76 (by decide) rfl rfl ?_
          refine V_iload F dX2_characterOf_78 rfl ?_
          refine V_iload F dX2_characterOf_80 rfl ?_
          refine V_icmp_ge_N F (tgt := 91) dX2_characterOf_82 (by decide) (by omega) (by omega) (fun h2 => ?_) (fun h2 => ?_)
          · rw [if_neg (by omega)] at hres
            have hk5 : T 0 p = 5 := Classical.byContradiction fun q => by rw [if_neg q] at h8; omega
            rw [if_pos hk5] at h8
            refine V_aload_n F dX2_characterOf_91 rfl ?_
            refine V_getf F (q0 := 1) (j := 5) lk_X2_24 dX2_characterOf_92 ig_X2 rfl rfl (by decide) rfl rfl ?_
            refine V_iload_n F dX2_characterOf_95 rfl ?_
            refine V_callSNi F (c_at (q := 7) rfl (show p < 24 by omega) (hX.fld 4 rfl (by omega) hp)) mi_X3_at ms_X3_at nk_X2_68 dX2_characterOf_96 (rmR (by omega)) rfl rfl (by decide) (Nat.le_of_ble_eq_true rfl) ?_
            refine V_istore F (lv' := [_, _, _, _, _, _, _, _, _, _, _]) dX2_characterOf_99 (by decide) rfl rfl ?_
            refine V_iload F dX2_characterOf_101 rfl ?_
            refine V_iload F dX2_characterOf_103 rfl ?_
            refine V_iconst F (v := nI 1) dX2_characterOf_105 (by decide) ?_
            (first | refine V_iaddN F dX2_characterOf_106 ?_ | refine V_iadd F dX2_characterOf_106 ?_)
            by_cases h5 : i - hdl (T 0 p) = T 8 (T 3 p)
            · rw [if_pos h5] at hres
              refine V_isub F dX2_characterOf_107 ?_
              refine V_istore F (lv' := [_, _, _, _, _, _, _, _, _, _, _]) dX2_characterOf_108 (by decide) rfl rfl ?_
              refine V_iload F dX2_characterOf_110 rfl ?_
              refine V_if_ge_f F (tgt := 118) dX2_characterOf_112 (by decide) (fun q => Int32.not_lt.mpr q (pk_sneg (by omega) (by omega))) ?_
              refine V_bipush F (v := nI 43) dX2_characterOf_115 (by decide) ?_
              exact V_iret F dX2_characterOf_117 (⟨by rw [← hres], rfl⟩)
            · rw [if_neg h5] at hres
              refine V_isubN F (by omega) dX2_characterOf_107 ?_
              refine V_istore F (lv' := [_, _, _, _, _, _, _, _, _, _, _]) dX2_characterOf_108 (by decide) rfl rfl ?_
              refine V_iload F dX2_characterOf_110 rfl ?_
              refine V_if_ge_t F (tgt := 118) dX2_characterOf_112 (by decide) (nI_ge0 (by omega)) ?_
              refine V_iload F dX2_characterOf_118 rfl ?_
              refine V_aload_n F dX2_characterOf_120 rfl ?_
              refine V_getf F (q0 := 1) (j := 9) lk_X2_40 dX2_characterOf_121 ig_X2 rfl rfl (by decide) rfl rfl ?_
              refine V_iload F dX2_characterOf_124 rfl ?_
              refine V_callSNi F (c_at (q := 11) rfl (show T 4 p < 24 by omega) (hX.fld 8 rfl (by omega) (by omega))) mi_X3_at ms_X3_at nk_X2_68 dX2_characterOf_126 (rmR (by omega)) rfl rfl (by decide) (Nat.le_of_ble_eq_true rfl) ?_
              refine V_icmp_lt_N F (tgt := 135) dX2_characterOf_129 (by decide) (by omega) (by omega) (fun h6 => ?_) (fun h6 => ?_)
              · rw [if_pos h6] at hres
                refine V_iload F dX2_characterOf_135 rfl ?_
                refine V_istore_n F (lv' := [_, _, _, _, _, _, _, _, _, _, _]) dX2_characterOf_137 (by decide) rfl rfl ?_
                refine V_iinc F (lv' := [_, _, _, _, _, _, _, _, _, _, _]) dX2_characterOf_138 rfl (by decide) rfl rfl ?_
                refine V_goto F (tgt := 8) dX2_characterOf_141 (by decide) ?_
                rw [show nI lev + Int32.ofInt 1 = nI (lev + 1) from nI_1 lev]
                refine V_msk [true, true, true, true, true, true, false, false, false, false, false] (lv' := [_, _, _, _, _, _, _, _, _, _, _]) rfl ?_
                exact ih _ h4 _ (lev + 1) (by omega) h6 (by omega) hres
              · rw [if_neg h6] at hres
                refine V_bipush F (v := nI 41) dX2_characterOf_132 (by decide) ?_
                exact V_iret F dX2_characterOf_134 (⟨by rw [← hres], rfl⟩)
          · rw [if_pos (by omega)] at hres
            refine V_iload F dX2_characterOf_85 rfl ?_
            refine V_istore_n F (lv' := [_, _, _, _, _, _, _, _, _, _, _]) dX2_characterOf_87 (by decide) rfl rfl ?_
            refine V_goto F (tgt := 138) dX2_characterOf_88 (by decide) ?_
            refine V_iinc F (lv' := [_, _, _, _, _, _, _, _, _, _, _]) dX2_characterOf_138 rfl (by decide) rfl rfl ?_
            refine V_goto F (tgt := 8) dX2_characterOf_141 (by decide) ?_
            rw [show nI lev + Int32.ofInt 1 = nI (lev + 1) from nI_1 lev]
            refine V_msk [true, true, true, true, true, true, false, false, false, false, false] (lv' := [_, _, _, _, _, _, _, _, _, _, _]) rfl ?_
            exact ih _ h3 _ (lev + 1) (by omega) (by omega) (by omega) hres
        · rw [if_pos (by omega)] at hres
          refine V_aload_n F dX2_characterOf_42 rfl ?_
          refine V_iload_n F dX2_characterOf_43 rfl ?_
          refine V_iload F dX2_characterOf_44 rfl ?_
          refine V_callVi F (q0 := 1) (c_headChar hX hp (by omega)) mi_X2_headCharacter mm_X2_headCharacter lk_X2_129 dX2_characterOf_46 (rmR (by omega)) rfl rfl (by decide) (Nat.le_of_ble_eq_true rfl) rfl rfl rfl ?_
          exact V_iret F dX2_characterOf_49 (⟨by rw [hres], rfl⟩)
  refine V_iload_n F dX2_characterOf_0 rfl ?_
  refine V_istore_n F (lv' := [_, _, _, _, _, _, _, _, _, _, _]) dX2_characterOf_1 (by decide) rfl rfl ?_
  refine V_iload_n F dX2_characterOf_2 rfl ?_
  refine V_istore F (lv' := [_, _, _, _, _, _, _, _, _, _, _]) dX2_characterOf_3 (by decide) rfl rfl ?_
  refine V_iconst F (v := nI 0) dX2_characterOf_5 (by decide) ?_
  refine V_istore F (lv' := [_, _, _, _, _, _, _, _, _, _, _]) dX2_characterOf_6 (by decide) rfl rfl ?_
  exact loop p₁ i₁ 0 hp₁ hi₁ (by omega) rfl
theorem c_textAt (hX : XRep T n μ) (p i : Int32) : Ct (GS g) l (7) yX3_textAt cX3_textAt 3 (some .int) [.ref (g.1 0), .int p, .int i] μ (Is (.int (rTx T n p i)) μ) := by
  have hn := hX.n24
  refine Ct.of (own := RX3) mi_X3_textAt rfl [some (.ref (g.1 0)), some (.int p), some (.int i)] (Nat.le_of_ble_eq_true rfl) rfl (fun p₀ e₀ s₀ m₀ b₀ h₀ c₀ F => ?_)
  refine V_aload_n F dX3_textAt_0 rfl ?_
  refine V_getf F (q0 := 0) (j := 0) lk_X3_10 dX3_textAt_1 ig_X3 rfl rfl (by decide) rfl rfl ?_
  refine V_iload_n F dX3_textAt_4 rfl ?_
  cases h : pj n p with
  | none =>
    have e : rTx T n p i = -1 := by unfold rTx; rw [h]
    rw [e]
    refine V_callVNi F (q0 := 1) (c_holds_f hX.2.1 (by omega) (pj_none h (by omega))) mi_X2_holds mm_X2_holds nk_X3_25 dX3_textAt_5 (rmR (by omega)) rfl rfl (by decide) (Nat.le_of_ble_eq_true rfl) rfl rfl rfl ?_
    refine V_if_eq_t F (tgt := 15) dX3_textAt_8 (by decide) (by decide) ?_
    refine V_iconst F (v := (-1)) dX3_textAt_15 (by decide) ?_
    exact V_iret F dX3_textAt_16 (⟨rfl, rfl⟩)
  | some j =>
    obtain ⟨hj, rfl⟩ := pj_some h (by omega)
    have hL := hX.1.len_lt hj
    refine V_callVNi F (q0 := 1) (c_holds_t hX.2.1 (by omega) hj) mi_X2_holds mm_X2_holds nk_X3_25 dX3_textAt_5 (rmR (by omega)) rfl rfl (by decide) (Nat.le_of_ble_eq_true rfl) rfl rfl rfl ?_
    refine V_if_eq_f F (tgt := 15) dX3_textAt_8 (by decide) (by decide) ?_
    refine V_iload_n F dX3_textAt_11 rfl ?_
    by_cases hm : i < 0
    · have e : rTx T n (nI j) i = -1 := by unfold rTx; rw [h]; simp only [if_pos hm]
      rw [e]
      refine V_if_ge_f F (tgt := 17) dX3_textAt_12 (by decide) (fun q => Int32.not_lt.mpr q hm) ?_
      refine V_iconst F (v := (-1)) dX3_textAt_15 (by decide) ?_
      exact V_iret F dX3_textAt_16 (⟨rfl, rfl⟩)
    · obtain ⟨k, hk, rfl⟩ := nI_of hm
      have e : rTx T n (nI j) (nI k) = if T 8 j ≤ k then -4 else nI (chr T j k) := by
        unfold rTx; rw [h]; simp only [if_neg hm, nI_clamp hk]
      rw [e]
      refine V_if_ge_t F (tgt := 17) dX3_textAt_12 (by decide) (nI_ge0 hk) ?_
      refine V_iload_n F dX3_textAt_17 rfl ?_
      refine V_aload_n F dX3_textAt_18 rfl ?_
      refine V_getf F (q0 := 0) (j := 0) lk_X3_10 dX3_textAt_19 ig_X3 rfl rfl (by decide) rfl rfl ?_
      refine V_getN F (q0 := 1) (j := 9) nk_X3_68 dX3_textAt_22 ig_X2 rfl rfl (by decide) rfl rfl ?_
      refine V_iload_n F dX3_textAt_25 rfl ?_
      refine V_callSi F (c_at (q := 11) rfl (show j < 24 by omega) (hX.fld 8 rfl (by omega) hj)) mi_X3_at ms_X3_at lk_X3_48 dX3_textAt_26 (rmR (by omega)) rfl rfl (by decide) (Nat.le_of_ble_eq_true rfl) ?_
      refine V_icmp_lt_N F (tgt := 35) dX3_textAt_29 (by decide) (by omega) (by omega) (fun h1 => ?_) (fun h1 => ?_)
      · rw [if_neg (by omega)]
        refine V_aload_n F dX3_textAt_35 rfl ?_
        refine V_getf F (q0 := 0) (j := 0) lk_X3_10 dX3_textAt_36 ig_X3 rfl rfl (by decide) rfl rfl ?_
        refine V_iload_n F dX3_textAt_39 rfl ?_
        refine V_iload_n F dX3_textAt_40 rfl ?_
        refine V_callVNi F (q0 := 1) (c_charOf hX hj (by omega)) mi_X2_characterOf mm_X2_characterOf nk_X3_71 dX3_textAt_41 (rmR (by omega)) rfl rfl (by decide) (Nat.le_of_ble_eq_true rfl) rfl rfl rfl ?_
        exact V_iret F dX3_textAt_44 (⟨rfl, rfl⟩)
      · rw [if_pos (by omega)]
        refine V_bipush F (v := (-4)) dX3_textAt_32 (by decide) ?_
        exact V_iret F dX3_textAt_34 (⟨rfl, rfl⟩)
end TEXT

