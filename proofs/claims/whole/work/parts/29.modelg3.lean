section MODELG3
variable {g : Gm} {l : Launch} {μ : Mem} {T : Tb} {n : Nat}
theorem c_follows3 {rel p q s m a v x y : Nat} {r : List Nat} (hI : MInv T n μ) (hp : p < n) (hq : q < n) (hrel : rel < 3) (hl : lok r) (hlen : r.length + 3 ≤ 3) (hs : s < 2) (hL : Lv T rel 3 p q r μ) (hx : (mvs T (psd p q s) r)[m]? = some x) (hy : (mvs T (psd p q (1 - s)) r)[a]? = some y) (hv1 : mlo T rel x r ≤ v) (hv2 : v ≤ mhi T rel x r) : Ct (GS g) l (6) yX4_follows3 cX4_follows3 6 (some .boolean) [.ref (g.1 15), .int (nI s), .int (nI m), .int (nI a), .int (nI v)] μ ((fun ret μ' => ret = some (.int (nI (if flw T rel 2 x (nmv T rel x v) y r = true then 1 else 0))) ∧ FrW 3 μ μ')) := by
  have hW := hI.1
  have hb := mlo_le (T := T) hl (show r.length ≤ 3 by omega) rel x
  have hf := fr_ge r
  have hf2 := fr_le hl
  have l1 := mvs_len hW (psd_lt (s := s) hp hq) r
  have l2 := mvs_len hW (psd_lt (s := 1 - s) hp hq) r
  have m1 := (List.getElem?_eq_some_iff.mp hx).1
  have m2 := (List.getElem?_eq_some_iff.mp hy).1
  have bx := mv_ok hW (psd_lt (s := s) hp hq) (List.mem_of_getElem? hx)
  have by_ := mv_ok hW (psd_lt (s := 1 - s) hp hq) (List.mem_of_getElem? hy)
  have px := (hW.part bx.1).2.2.1
  have py := (hW.part by_.1).2.2.1
  have hsw : ∀ r', win T rel 2 (T 3 (if s = 0 then x else y)) (T 3 (if s = 0 then y else x)) r' = win T rel 2 (T 3 x) (T 3 y) r' := fun r' => by
    rcases (by omega : s = 0 ∨ s = 1) with rfl | rfl
    · rfl
    · exact win_symm _ _ _ _ _
  refine Ct.of (own := RX4) mi_X4_follows3 rfl [some (.ref (g.1 15)), some (.int (nI s)), some (.int (nI m)), some (.int (nI a)), some (.int (nI v)), none] (Nat.le_of_ble_eq_true rfl) rfl (fun p₀ e₀ s₀ m₀ b₀ h₀ c₀ F => ?_)
  refine V_iload F dX4_follows3_0 rfl ?_
  refine V_bipush F (v := nI 9) dX4_follows3_2 (by decide) ?_
  rcases nxt_mod (T := T) (a := x) (r := r) hrel hv1 hv2 with ⟨h9, hn1, hvf⟩ | ⟨h9, hx3, hn1⟩ | ⟨_, h9⟩
  · skip
    refine V_icmp_ge_f F (tgt := 22) dX4_follows3_4 (by decide) (fun z => by have := (nI_leI (by omega) (by omega)).mp z; omega) ?_
    refine V_aload_n F dX4_follows3_7 rfl ?_
    refine V_iconst F (v := nI 3) dX4_follows3_8 (by decide) ?_
    refine V_iload_n F dX4_follows3_9 rfl ?_
    refine V_iload_n F dX4_follows3_10 rfl ?_
    refine V_iload_n F dX4_follows3_11 rfl ?_
    refine V_iload F dX4_follows3_12 rfl ?_
    refine V_callV F (q0 := 15) (c_next (k := 2) (rel := rel) (p := p) (q := q) (s := s) (m := m) (a := a) (v := v) (x := x) (y := y) (r := r) hI hp hq hl (by omega) hs hL hx hy hvf (by omega)) mi_X4_next mm_X4_next lk_X4_127 dX4_follows3_14 (rmR (by omega)) rfl rfl (by decide) (Nat.le_of_ble_eq_true rfl) rfl rfl rfl (fun r μ' h => ?_)
    obtain ⟨rfl, hF, hL'⟩ := h
    obtain ⟨hl', hlen'⟩ := nl_ok (T := T) (x := x) (k := 2) hl (by omega) hvf
    refine V_aload_n F dX4_follows3_17 rfl ?_
    refine V_callV F (q0 := 15) (c_wins2 (p := T 3 (if s = 0 then x else y)) (q := T 3 (if s = 0 then y else x)) (r := nl T x v r) (hF.mi hI) (by split <;> assumption) (by split <;> assumption) hrel hl' hlen' hL') mi_X4_wins2 mm_X4_wins2 lk_X4_141 dX4_follows3_18 (rmR (by omega)) rfl rfl (by decide) (Nat.le_of_ble_eq_true rfl) rfl rfl rfl (fun r μ' h => ?_)
    obtain ⟨rfl, hF2⟩ := h
    refine V_zret F dX4_follows3_21 (nar_b _) ⟨?_, hF.trans (hF2.up (by omega))⟩
    have hfl : flw T rel 2 x (nmv T rel x v) y r = win T rel 2 (T 3 x) (T 3 y) (nl T x v r) := by
      unfold flw
      rw [hn1]
      simp [nl]
    rw [hsw, hfl]
  · skip
    refine V_icmp_ge_t F (tgt := 22) dX4_follows3_4 (by decide) ((nI_leI (by omega) (by omega)).mpr (by omega)) ?_
    have loop : ∀ (d w : Nat) (ν : Mem) (z0 : True), w + d = fr r + 1 → (∀ w', w' < w → win T rel 2 (T 3 x) (T 3 y) (w' :: r) = false) → FrW 3 μ ν → V (GS g) p₀ l e₀ (rmD (6)) s₀ m₀ (List.toArray [.ref (g.1 15), .int (nI s), .int (nI m), .int (nI a), .int (nI v)]) b₀ h₀ c₀ 6 0 0 (MQ b₀ (Qp (GS g) ((fun ret μ' => ret = some (.int (nI (if flw T rel 2 x (nmv T rel x v) y r = true then 1 else 0))) ∧ FrW 3 μ μ'))) (List.toArray [.ref (g.1 15), .int (nI s), .int (nI m), .int (nI a), .int (nI v)]) s₀ 0 0 (gA (GS g))) 25 ([some (.ref (g.1 15)), some (.int (nI s)), some (.int (nI m)), some (.int (nI a)), some (.int (nI v)), some (.int (nI w))]) ([]) (ν) := by
      intro d
      induction d with
      | zero =>
        intro w ν _ hw hall hF
        refine V_iload F dX4_follows3_25 rfl ?_
        refine V_iconst F (v := nI 3) dX4_follows3_27 (by decide) ?_
        refine V_aload_n F dX4_follows3_28 rfl ?_
        refine V_getf F (q0 := 15) (j := 16) lk_X4_59 dX4_follows3_29 ig_X4 rfl rfl (by decide) rfl rfl ?_
        refine V_iconst F (v := nI 3) dX4_follows3_32 (by decide) ?_
        refine V_ia F dX4_follows3_33 rfl (rfl) ((by decide)) ((hL.of hF).2.2.1) ?_
        (first | refine V_iaddN F dX4_follows3_34 ?_ | refine V_iadd F dX4_follows3_34 ?_)
        refine V_icmp_gt_N F (tgt := 63) dX4_follows3_35 (by decide) (by omega) (by omega) (fun hc => ?_) (fun hc => ?_)
        · skip
          refine V_iconst F (v := nI 0) dX4_follows3_63 (by decide) ?_
          refine V_zret F dX4_follows3_64 rfl ⟨?_, hF⟩
          have : flw T rel 2 x (nmv T rel x v) y r = false := by
            unfold flw
            rw [hn1, List.any_eq_false]
            intro l' hl'
            obtain ⟨z, hz, rfl⟩ := List.mem_map.mp hl'
            have hz := List.mem_range.mp hz
            rw [Bool.not_eq_true]
            exact hall z (by omega)
          rw [this]
          rfl
        · omega
      | succ d ih =>
        intro w ν _ hw hall hF
        refine V_iload F dX4_follows3_25 rfl ?_
        refine V_iconst F (v := nI 3) dX4_follows3_27 (by decide) ?_
        refine V_aload_n F dX4_follows3_28 rfl ?_
        refine V_getf F (q0 := 15) (j := 16) lk_X4_59 dX4_follows3_29 ig_X4 rfl rfl (by decide) rfl rfl ?_
        refine V_iconst F (v := nI 3) dX4_follows3_32 (by decide) ?_
        refine V_ia F dX4_follows3_33 rfl (rfl) ((by decide)) ((hL.of hF).2.2.1) ?_
        (first | refine V_iaddN F dX4_follows3_34 ?_ | refine V_iadd F dX4_follows3_34 ?_)
        refine V_icmp_gt_N F (tgt := 63) dX4_follows3_35 (by decide) (by omega) (by omega) (fun hc => ?_) (fun hc => ?_)
        · omega
        · skip
          refine V_aload_n F dX4_follows3_38 rfl ?_
          refine V_iconst F (v := nI 3) dX4_follows3_39 (by decide) ?_
          refine V_iload_n F dX4_follows3_40 rfl ?_
          refine V_iload_n F dX4_follows3_41 rfl ?_
          refine V_iload_n F dX4_follows3_42 rfl ?_
          refine V_iload F dX4_follows3_43 rfl ?_
          refine V_callV F (q0 := 15) (c_next (k := 2) (rel := rel) (p := p) (q := q) (s := s) (m := m) (a := a) (v := w) (x := x) (y := y) (r := r) (hF.mi hI) hp hq hl (by omega) hs (hL.of hF) hx hy (fun _ => by omega) (by omega)) mi_X4_next mm_X4_next lk_X4_127 dX4_follows3_45 (rmR (by omega)) rfl rfl (by decide) (Nat.le_of_ble_eq_true rfl) rfl rfl rfl (fun r μ' h => ?_)
          obtain ⟨rfl, hF1, hL'⟩ := h
          obtain ⟨hl', hlen'⟩ := nl_ok (T := T) (x := x) (v := w) (k := 2) hl (by omega) (fun _ => by omega)
          refine V_aload_n F dX4_follows3_48 rfl ?_
          refine V_callV F (q0 := 15) (c_wins2 (p := T 3 (if s = 0 then x else y)) (q := T 3 (if s = 0 then y else x)) (r := nl T x w r) ((hF.trans hF1).mi hI) (by split <;> assumption) (by split <;> assumption) hrel hl' hlen' hL') mi_X4_wins2 mm_X4_wins2 lk_X4_141 dX4_follows3_49 (rmR (by omega)) rfl rfl (by decide) (Nat.le_of_ble_eq_true rfl) rfl rfl rfl (fun r μ' h => ?_)
          obtain ⟨rfl, hF2⟩ := h
          rw [hsw, show nl T x w r = w :: r from if_pos hx3]
          by_cases hwin : win T rel 2 (T 3 x) (T 3 y) (w :: r) = true
          · rw [if_pos hwin]
            refine V_if_eq_f F (tgt := 57) dX4_follows3_52 (by decide) (by decide) ?_
            refine V_iconst F (v := nI 1) dX4_follows3_55 (by decide) ?_
            refine V_zret F dX4_follows3_56 rfl ⟨?_, (hF.trans hF1).trans (hF2.up (by omega))⟩
            have : flw T rel 2 x (nmv T rel x v) y r = true := by
              unfold flw
              rw [hn1, List.any_eq_true]
              exact ⟨w :: r, List.mem_map.mpr ⟨w, List.mem_range.mpr (by omega), rfl⟩, hwin⟩
            rw [this]
            rfl
          · rw [if_neg hwin]
            refine V_if_eq_t F (tgt := 57) dX4_follows3_52 (by decide) (by decide) ?_
            refine V_iinc F (lv' := [_, _, _, _, _, _]) dX4_follows3_57 rfl (by decide) rfl rfl ?_
            refine V_goto F (tgt := 25) dX4_follows3_60 (by decide) ?_
            rw [show nI w + Int32.ofInt 1 = nI (w + 1) from nI_1 w]
            refine ih (w + 1) _ trivial (by omega) (fun w' hw' => ?_) ((hF.trans hF1).trans (hF2.up (by omega)))
            by_cases hww : w' = w
            · subst hww
              rw [← Bool.not_eq_true]
              exact hwin
            · exact hall w' (by omega)
    refine V_iconst F (v := nI 0) dX4_follows3_22 (by decide) ?_
    refine V_istore F (lv' := [_, _, _, _, _, _]) dX4_follows3_23 (by decide) rfl rfl ?_
    exact loop (fr r + 1) 0 μ trivial (by omega) (fun w' hw' => absurd hw' (Nat.not_lt_zero w')) (FrW.rfl' _ _)
  · omega
theorem c_holds3 {rel p q s m v x : Nat} {r : List Nat} (hI : MInv T n μ) (hp : p < n) (hq : q < n) (hrel : rel < 3) (hl : lok r) (hlen : r.length + 3 ≤ 3) (hs : s < 2) (hL : Lv T rel 3 p q r μ) (hx : (mvs T (psd p q s) r)[m]? = some x) (hv1 : mlo T rel x r ≤ v) (hv2 : v ≤ mhi T rel x r) : Ct (GS g) l (7) yX4_holds3 cX4_holds3 6 (some .boolean) [.ref (g.1 15), .int (nI s), .int (nI m), .int (nI v)] μ ((fun ret μ' => ret = some (.int (nI (if hld T rel 2 x (nmv T rel x v) (psd p q (1 - s)) r = true then 1 else 0))) ∧ FrW 3 μ μ')) := by
  have hW := hI.1
  have l2 := mvs_len hW (psd_lt (s := 1 - s) hp hq) r
  refine Ct.of (own := RX4) mi_X4_holds3 rfl [some (.ref (g.1 15)), some (.int (nI s)), some (.int (nI m)), some (.int (nI v)), none, none] (Nat.le_of_ble_eq_true rfl) rfl (fun p₀ e₀ s₀ m₀ b₀ h₀ c₀ F => ?_)
  have hcnt : ∀ ν, FrW 3 μ ν → ν.1 25 (7 - s) = nI (mvs T (psd p q (1 - s)) r).length := fun ν hF => by
    have := ((hL.of hF).side (s := 1 - s) (by omega)).1
    rw [show 2 * 3 + (1 - s) = 7 - s by omega] at this
    exact this
  have loop : ∀ (d a : Nat) (ν : Mem), a + d = (mvs T (psd p q (1 - s)) r).length → (∀ a' y, a' < a → (mvs T (psd p q (1 - s)) r)[a']? = some y → agr T r x y = true → flw T rel 2 x (nmv T rel x v) y r = true) → FrW 3 μ ν → V (GS g) p₀ l e₀ (rmD (7)) s₀ m₀ (List.toArray [.ref (g.1 15), .int (nI s), .int (nI m), .int (nI v)]) b₀ h₀ c₀ 6 0 0 (MQ b₀ (Qp (GS g) ((fun ret μ' => ret = some (.int (nI (if hld T rel 2 x (nmv T rel x v) (psd p q (1 - s)) r = true then 1 else 0))) ∧ FrW 3 μ μ'))) (List.toArray [.ref (g.1 15), .int (nI s), .int (nI m), .int (nI v)]) s₀ 0 0 (gA (GS g))) 9 ([some (.ref (g.1 15)), some (.int (nI s)), some (.int (nI m)), some (.int (nI v)), some (.int (nI (7 - s))), some (.int (nI a))]) ([]) (ν) := by
    intro d
    induction d with
    | zero =>
      intro a ν ha hall hF
      refine V_iload F dX4_holds3_9 rfl ?_
      refine V_aload_n F dX4_holds3_11 rfl ?_
      refine V_getf F (q0 := 15) (j := 10) lk_X4_41 dX4_holds3_12 ig_X4 rfl rfl (by decide) rfl rfl ?_
      refine V_iload F dX4_holds3_15 rfl ?_
      refine V_ia F dX4_holds3_17 rfl (rfl) ((show 7 - s < 8 by omega)) ((hcnt ν hF)) ?_
      refine V_icmp_ge_N F (tgt := 53) dX4_holds3_18 (by decide) (by omega) (by omega) (fun hc => ?_) (fun hc => ?_)
      · skip
        refine V_iconst F (v := nI 1) dX4_holds3_53 (by decide) ?_
        refine V_zret F dX4_holds3_54 rfl ⟨?_, hF⟩
        have : hld T rel 2 x (nmv T rel x v) (psd p q (1 - s)) r = true := by
          unfold hld
          rw [List.all_eq_true]
          intro y hy
          obtain ⟨a', ha'⟩ := List.getElem?_of_mem hy
          have hlt := (List.getElem?_eq_some_iff.mp ha').1
          by_cases hag : agr T r x y = true
          · rw [hall a' y (by omega) ha' hag, hag]
            rfl
          · rw [Bool.not_eq_true] at hag
            rw [hag]
            rfl
        rw [this]
        rfl
      · omega
    | succ d ih =>
      intro a ν ha hall hF
      obtain ⟨y, hy⟩ : ∃ y, (mvs T (psd p q (1 - s)) r)[a]? = some y := ⟨_, List.getElem?_eq_getElem (by omega)⟩
      refine V_iload F dX4_holds3_9 rfl ?_
      refine V_aload_n F dX4_holds3_11 rfl ?_
      refine V_getf F (q0 := 15) (j := 10) lk_X4_41 dX4_holds3_12 ig_X4 rfl rfl (by decide) rfl rfl ?_
      refine V_iload F dX4_holds3_15 rfl ?_
      refine V_ia F dX4_holds3_17 rfl (rfl) ((show 7 - s < 8 by omega)) ((hcnt ν hF)) ?_
      have next_ : ∀ ν', FrW 3 μ ν' → (agr T r x y = true → flw T rel 2 x (nmv T rel x v) y r = true) → V (GS g) p₀ l e₀ (rmD (7)) s₀ m₀ (List.toArray [.ref (g.1 15), .int (nI s), .int (nI m), .int (nI v)]) b₀ h₀ c₀ 6 0 0 (MQ b₀ (Qp (GS g) ((fun ret μ' => ret = some (.int (nI (if hld T rel 2 x (nmv T rel x v) (psd p q (1 - s)) r = true then 1 else 0))) ∧ FrW 3 μ μ'))) (List.toArray [.ref (g.1 15), .int (nI s), .int (nI m), .int (nI v)]) s₀ 0 0 (gA (GS g))) 47 ([some (.ref (g.1 15)), some (.int (nI s)), some (.int (nI m)), some (.int (nI v)), some (.int (nI (7 - s))), some (.int (nI a))]) ([]) (ν') := by
        intro ν' hF' hyy
        refine V_iinc F (lv' := [_, _, _, _, _, _]) dX4_holds3_47 rfl (by decide) rfl rfl ?_
        refine V_goto F (tgt := 9) dX4_holds3_50 (by decide) ?_
        rw [show nI a + Int32.ofInt 1 = nI (a + 1) from nI_1 a]
        refine ih (a + 1) ν' (by omega) (fun a' y' h1 h2 => ?_) hF'
        by_cases haa : a' = a
        · subst haa
          rw [hy] at h2
          cases h2
          exact hyy
        · exact hall a' y' (by omega) h2
      have bad : ∀ ν', FrW 3 μ ν' → agr T r x y = true → ¬ flw T rel 2 x (nmv T rel x v) y r = true → hld T rel 2 x (nmv T rel x v) (psd p q (1 - s)) r = false := by
        intro ν' hF' h1 h2
        unfold hld
        rw [List.all_eq_false]
        refine ⟨y, List.mem_of_getElem? hy, ?_⟩
        rw [h1]
        simpa using h2
      refine V_icmp_ge_N F (tgt := 53) dX4_holds3_18 (by decide) (by omega) (by omega) (fun hc => ?_) (fun hc => ?_)
      · omega
      · skip
        refine V_aload_n F dX4_holds3_21 rfl ?_
        refine V_iconst F (v := nI 3) dX4_holds3_22 (by decide) ?_
        refine V_iload_n F dX4_holds3_23 rfl ?_
        refine V_iload_n F dX4_holds3_24 rfl ?_
        refine V_iload F dX4_holds3_25 rfl ?_
        refine V_callVi F (q0 := 15) (c_answers (rel := rel) (k := 3) (p := p) (q := q) (s := s) (m := m) (a := a) (x := x) (y := y) (r := r) (hF.mi hI) (by omega) hp hq hl (by omega) hs (hL.of hF) hx hy) mi_X4_answers mm_X4_answers lk_X4_114 dX4_holds3_27 (rmR (by omega)) rfl rfl (by decide) (Nat.le_of_ble_eq_true rfl) rfl rfl rfl ?_
        by_cases hag : agr T r x y = true
        · rw [if_pos hag]
          refine V_if_eq_f F (tgt := 47) dX4_holds3_30 (by decide) (by decide) ?_
          refine V_aload_n F dX4_holds3_33 rfl ?_
          refine V_iload_n F dX4_holds3_34 rfl ?_
          refine V_iload_n F dX4_holds3_35 rfl ?_
          refine V_iload F dX4_holds3_36 rfl ?_
          refine V_iload_n F dX4_holds3_38 rfl ?_
          refine V_callV F (q0 := 15) (c_follows3 (rel := rel) (p := p) (q := q) (s := s) (m := m) (a := a) (v := v) (x := x) (y := y) (r := r) (hF.mi hI) hp hq hrel hl hlen hs (hL.of hF) hx hy hv1 hv2) mi_X4_follows3 mm_X4_follows3 lk_X4_138 dX4_holds3_39 (rmR (by omega)) rfl rfl (by decide) (Nat.le_of_ble_eq_true rfl) rfl rfl rfl (fun r μ' h => ?_)
          obtain ⟨rfl, hF2⟩ := h
          by_cases hfl : flw T rel 2 x (nmv T rel x v) y r = true
          · rw [if_pos hfl]
            refine V_if_ne_t F (tgt := 47) dX4_holds3_42 (by decide) (by decide) ?_
            exact next_ _ (hF.trans hF2) (fun _ => hfl)
          · rw [if_neg hfl]
            refine V_if_ne_f F (tgt := 47) dX4_holds3_42 (by decide) (by decide) ?_
            refine V_iconst F (v := nI 0) dX4_holds3_45 (by decide) ?_
            refine V_zret F dX4_holds3_46 rfl ⟨?_, hF.trans hF2⟩
            rw [bad ν hF hag hfl]
            rfl
        · rw [if_neg hag]
          refine V_if_eq_t F (tgt := 47) dX4_holds3_30 (by decide) (by decide) ?_
          exact next_ _ hF (fun z => absurd z hag)
  refine V_bipush F (v := nI 7) dX4_holds3_0 (by decide) ?_
  refine V_iload_n F dX4_holds3_2 rfl ?_
  refine V_isubN F (by omega) dX4_holds3_3 ?_
  refine V_istore F (lv' := [_, _, _, _, _, _]) dX4_holds3_4 (by decide) rfl rfl ?_
  refine V_iconst F (v := nI 0) dX4_holds3_6 (by decide) ?_
  refine V_istore F (lv' := [_, _, _, _, _, _]) dX4_holds3_7 (by decide) rfl rfl ?_
  exact loop _ 0 μ (Nat.zero_add _) (fun a' y h1 => absurd h1 (Nat.not_lt_zero a')) (FrW.rfl' _ _)
theorem c_wins3 {rel p q : Nat} {r : List Nat} (hI : MInv T n μ) (hp : p < n) (hq : q < n) (hrel : rel < 3) (hl : lok r) (hlen : r.length + 3 ≤ 3) (hL : Lv T rel 3 p q r μ) : Ct (GS g) l (8) yX4_wins3 cX4_wins3 4 (some .boolean) [.ref (g.1 15)] μ ((fun ret μ' => ret = some (.int (nI (if win T rel 3 p q r = true then 1 else 0))) ∧ FrW 3 μ μ')) := by
  have hW := hI.1
  refine Ct.of (own := RX4) mi_X4_wins3 rfl [some (.ref (g.1 15)), none, none, none] (Nat.le_of_ble_eq_true rfl) rfl (fun p₀ e₀ s₀ m₀ b₀ h₀ c₀ F => ?_)
  have yes : ∀ (s m v x : Nat), s < 2 → (mvs T (psd p q s) r)[m]? = some x → v ≤ mhi T rel x r → hld T rel 2 x (nmv T rel x v) (psd p q (1 - s)) r = true → win T rel 3 p q r = true := by
    intro s m v x hs hx hv hh
    have h1 : sid T rel 2 (psd p q s) (psd p q (1 - s)) r = true := by
      unfold sid
      exact List.any_eq_true.mpr ⟨x, List.mem_of_getElem? hx, List.any_eq_true.mpr ⟨_, nmv_mem hv, hh⟩⟩
    rw [win_eq, Bool.or_eq_true]
    rcases (by omega : s = 0 ∨ s = 1) with rfl | rfl
    · exact Or.inl h1
    · exact Or.inr h1
  have loop : ∀ (d s : Nat) (ν : Mem) (z2 z3 : Option Value), s + d = 2 → (∀ s', s' < s → sid T rel 2 (psd p q s') (psd p q (1 - s')) r = false) → FrW 3 μ ν → V (GS g) p₀ l e₀ (rmD (8)) s₀ m₀ (List.toArray [.ref (g.1 15)]) b₀ h₀ c₀ 4 0 0 (MQ b₀ (Qp (GS g) ((fun ret μ' => ret = some (.int (nI (if win T rel 3 p q r = true then 1 else 0))) ∧ FrW 3 μ μ'))) (List.toArray [.ref (g.1 15)]) s₀ 0 0 (gA (GS g))) 2 ([some (.ref (g.1 15)), some (.int (nI s)), z2, z3]) ([]) (ν) := by
    intro d
    induction d with
    | zero =>
      intro s ν z2 z3 hs hall hF
      refine V_iload_n F dX4_wins3_2 rfl ?_
      refine V_iconst F (v := nI 2) dX4_wins3_3 (by decide) ?_
      refine V_icmp_ge_N F (tgt := 71) dX4_wins3_4 (by decide) (by omega) (by omega) (fun hc => ?_) (fun hc => ?_)
      · skip
        refine V_iconst F (v := nI 0) dX4_wins3_71 (by decide) ?_
        refine V_zret F dX4_wins3_72 rfl ⟨?_, hF⟩
        have : win T rel 3 p q r = false := by
          rw [win_eq, Bool.or_eq_false_iff]
          exact ⟨hall 0 (by omega), hall 1 (by omega)⟩
        rw [this]
        rfl
      · omega
    | succ d ih =>
      intro s ν z2 z3 hs hall hF
      have hs2 : s < 2 := by omega
      have l1 := mvs_len hW (psd_lt (s := s) hp hq) r
      refine V_iload_n F dX4_wins3_2 rfl ?_
      refine V_iconst F (v := nI 2) dX4_wins3_3 (by decide) ?_
      refine V_icmp_ge_N F (tgt := 71) dX4_wins3_4 (by decide) (by omega) (by omega) (fun hc => ?_) (fun hc => ?_)
      · omega
      · have mloop : ∀ (e m : Nat) (ν : Mem) (z3 : Option Value), m + e = (mvs T (psd p q s) r).length → (∀ m' x, m' < m → (mvs T (psd p q s) r)[m']? = some x → ∀ v ∈ nms T rel x r, hld T rel 2 x v (psd p q (1 - s)) r = false) → FrW 3 μ ν → V (GS g) p₀ l e₀ (rmD (8)) s₀ m₀ (List.toArray [.ref (g.1 15)]) b₀ h₀ c₀ 4 0 0 (MQ b₀ (Qp (GS g) ((fun ret μ' => ret = some (.int (nI (if win T rel 3 p q r = true then 1 else 0))) ∧ FrW 3 μ μ'))) (List.toArray [.ref (g.1 15)]) s₀ 0 0 (gA (GS g))) 9 ([some (.ref (g.1 15)), some (.int (nI s)), some (.int (nI m)), z3]) ([]) (ν) := by
          intro e
          induction e with
          | zero =>
            intro m ν z3 hm hall2 hF
            refine V_msk [true, true, true, false] (lv' := [_, _, _, none]) (by cases z3 <;> rfl) ?_
            refine V_iload_n F dX4_wins3_9 rfl ?_
            refine V_aload_n F dX4_wins3_10 rfl ?_
            refine V_getf F (q0 := 15) (j := 10) lk_X4_41 dX4_wins3_11 ig_X4 rfl rfl (by decide) rfl rfl ?_
            refine V_bipush F (v := nI 6) dX4_wins3_14 (by decide) ?_
            refine V_iload_n F dX4_wins3_16 rfl ?_
            (first | refine V_iaddN F dX4_wins3_17 ?_ | refine V_iadd F dX4_wins3_17 ?_)
            refine V_ia F dX4_wins3_18 rfl (rfl) ((show 2 * 3 + s < 8 by omega)) (((hL.of hF).side hs2).1) ?_
            refine V_icmp_ge_N F (tgt := 65) dX4_wins3_19 (by decide) (by omega) (by omega) (fun hc2 => ?_) (fun hc2 => ?_)
            · skip
              refine V_iinc F (lv' := [_, _, _, _]) dX4_wins3_65 rfl (by decide) rfl rfl ?_
              refine V_goto F (tgt := 2) dX4_wins3_68 (by decide) ?_
              rw [show nI s + Int32.ofInt 1 = nI (s + 1) from nI_1 s]
              refine ih (s + 1) ν _ _ (by omega) (fun s' hs' => ?_) hF
              by_cases hss : s' = s
              · subst hss
                unfold sid
                rw [List.any_eq_false]
                intro x hx
                obtain ⟨m', hm'⟩ := List.getElem?_of_mem hx
                have hlt := (List.getElem?_eq_some_iff.mp hm').1
                rw [Bool.not_eq_true, List.any_eq_false]
                intro v hv
                rw [hall2 m' x (by omega) hm' v hv]
                decide
              · exact hall s' (by omega)
            · omega
          | succ e ihe =>
            intro m ν z3 hm hall2 hF
            obtain ⟨x, hx⟩ : ∃ x, (mvs T (psd p q s) r)[m]? = some x := ⟨_, List.getElem?_eq_getElem (by omega)⟩
            have hml := mlo_le (T := T) hl (show r.length ≤ 3 by omega) rel x
            refine V_msk [true, true, true, false] (lv' := [_, _, _, none]) (by cases z3 <;> rfl) ?_
            refine V_iload_n F dX4_wins3_9 rfl ?_
            refine V_aload_n F dX4_wins3_10 rfl ?_
            refine V_getf F (q0 := 15) (j := 10) lk_X4_41 dX4_wins3_11 ig_X4 rfl rfl (by decide) rfl rfl ?_
            refine V_bipush F (v := nI 6) dX4_wins3_14 (by decide) ?_
            refine V_iload_n F dX4_wins3_16 rfl ?_
            (first | refine V_iaddN F dX4_wins3_17 ?_ | refine V_iadd F dX4_wins3_17 ?_)
            refine V_ia F dX4_wins3_18 rfl (rfl) ((show 2 * 3 + s < 8 by omega)) (((hL.of hF).side hs2).1) ?_
            refine V_icmp_ge_N F (tgt := 65) dX4_wins3_19 (by decide) (by omega) (by omega) (fun hc2 => ?_) (fun hc2 => ?_)
            · omega
            · skip
              refine V_aload_n F dX4_wins3_22 rfl ?_
              refine V_iconst F (v := nI 3) dX4_wins3_23 (by decide) ?_
              refine V_iload_n F dX4_wins3_24 rfl ?_
              refine V_iload_n F dX4_wins3_25 rfl ?_
              refine V_callVi F (q0 := 15) (c_mlowest (rel := rel) (k := 3) (p := p) (q := q) (s := s) (m := m) (x := x) (r := r) (hF.mi hI) (by omega) hp hq hl (by omega) hs2 hrel (hL.of hF) hx) mi_X4_lowest mm_X4_lowest lk_X4_110 dX4_wins3_26 (rmR (by omega)) rfl rfl (by decide) (Nat.le_of_ble_eq_true rfl) rfl rfl rfl ?_
              have vloop : ∀ (f v : Nat) (ν : Mem), mlo T rel x r ≤ v → v + f = mhi T rel x r + 1 → (∀ v', mlo T rel x r ≤ v' → v' < v → hld T rel 2 x (nmv T rel x v') (psd p q (1 - s)) r = false) → FrW 3 μ ν → V (GS g) p₀ l e₀ (rmD (8)) s₀ m₀ (List.toArray [.ref (g.1 15)]) b₀ h₀ c₀ 4 0 0 (MQ b₀ (Qp (GS g) ((fun ret μ' => ret = some (.int (nI (if win T rel 3 p q r = true then 1 else 0))) ∧ FrW 3 μ μ'))) (List.toArray [.ref (g.1 15)]) s₀ 0 0 (gA (GS g))) 30 ([some (.ref (g.1 15)), some (.int (nI s)), some (.int (nI m)), some (.int (nI v))]) ([]) (ν) := by
                intro f
                induction f with
                | zero =>
                  intro v ν h1 h2 hall3 hF
                  refine V_iload_n F dX4_wins3_30 rfl ?_
                  refine V_aload_n F dX4_wins3_31 rfl ?_
                  refine V_iconst F (v := nI 3) dX4_wins3_32 (by decide) ?_
                  refine V_iload_n F dX4_wins3_33 rfl ?_
                  refine V_iload_n F dX4_wins3_34 rfl ?_
                  refine V_callVi F (q0 := 15) (c_mhighest (rel := rel) (k := 3) (p := p) (q := q) (s := s) (m := m) (x := x) (r := r) (hF.mi hI) (by omega) hp hq hl (by omega) hs2 hrel (hL.of hF) hx) mi_X4_highest mm_X4_highest lk_X4_118 dX4_wins3_35 (rmR (by omega)) rfl rfl (by decide) (Nat.le_of_ble_eq_true rfl) rfl rfl rfl ?_
                  refine V_icmp_gt_N F (tgt := 59) dX4_wins3_38 (by decide) (by omega) (by omega) (fun hc3 => ?_) (fun hc3 => ?_)
                  · skip
                    refine V_iinc F (lv' := [_, _, _, _]) dX4_wins3_59 rfl (by decide) rfl rfl ?_
                    refine V_goto F (tgt := 9) dX4_wins3_62 (by decide) ?_
                    rw [show nI m + Int32.ofInt 1 = nI (m + 1) from nI_1 m]
                    refine ihe (m + 1) ν _ (by omega) (fun m' x' hm' hx' => ?_) hF
                    by_cases hmm : m' = m
                    · subst hmm
                      rw [hx] at hx'
                      cases hx'
                      exact nms_nmv (fun v => hld T rel 2 x v (psd p q (1 - s)) r = false) (fun v' q1 q2 => hall3 v' q1 (by omega)) hl (by omega)
                    · exact hall2 m' x' (by omega) hx'
                  · omega
                | succ f ihf =>
                  intro v ν h1 h2 hall3 hF
                  refine V_iload_n F dX4_wins3_30 rfl ?_
                  refine V_aload_n F dX4_wins3_31 rfl ?_
                  refine V_iconst F (v := nI 3) dX4_wins3_32 (by decide) ?_
                  refine V_iload_n F dX4_wins3_33 rfl ?_
                  refine V_iload_n F dX4_wins3_34 rfl ?_
                  refine V_callVi F (q0 := 15) (c_mhighest (rel := rel) (k := 3) (p := p) (q := q) (s := s) (m := m) (x := x) (r := r) (hF.mi hI) (by omega) hp hq hl (by omega) hs2 hrel (hL.of hF) hx) mi_X4_highest mm_X4_highest lk_X4_118 dX4_wins3_35 (rmR (by omega)) rfl rfl (by decide) (Nat.le_of_ble_eq_true rfl) rfl rfl rfl ?_
                  refine V_icmp_gt_N F (tgt := 59) dX4_wins3_38 (by decide) (by omega) (by omega) (fun hc3 => ?_) (fun hc3 => ?_)
                  · omega
                  · skip
                    refine V_aload_n F dX4_wins3_41 rfl ?_
                    refine V_iload_n F dX4_wins3_42 rfl ?_
                    refine V_iload_n F dX4_wins3_43 rfl ?_
                    refine V_iload_n F dX4_wins3_44 rfl ?_
                    refine V_callV F (q0 := 15) (c_holds3 (rel := rel) (p := p) (q := q) (s := s) (m := m) (v := v) (x := x) (r := r) (hF.mi hI) hp hq hrel hl hlen hs2 (hL.of hF) hx h1 (by omega)) mi_X4_holds3 mm_X4_holds3 lk_X4_144 dX4_wins3_45 (rmR (by omega)) rfl rfl (by decide) (Nat.le_of_ble_eq_true rfl) rfl rfl rfl (fun r μ' h => ?_)
                    obtain ⟨rfl, hF2⟩ := h
                    by_cases hh : hld T rel 2 x (nmv T rel x v) (psd p q (1 - s)) r = true
                    · rw [if_pos hh]
                      refine V_if_eq_f F (tgt := 53) dX4_wins3_48 (by decide) (by decide) ?_
                      refine V_iconst F (v := nI 1) dX4_wins3_51 (by decide) ?_
                      refine V_zret F dX4_wins3_52 rfl ⟨?_, hF.trans hF2⟩
                      rw [yes s m v x hs2 hx (by omega) hh]
                      rfl
                    · rw [if_neg hh]
                      refine V_if_eq_t F (tgt := 53) dX4_wins3_48 (by decide) (by decide) ?_
                      refine V_iinc F (lv' := [_, _, _, _]) dX4_wins3_53 rfl (by decide) rfl rfl ?_
                      refine V_goto F (tgt := 30) dX4_wins3_56 (by decide) ?_
                      rw [show nI v + Int32.ofInt 1 = nI (v + 1) from nI_1 v]
                      refine ihf (v + 1) _ (by omega) (by omega) (fun v' q1 q2 => ?_) (hF.trans hF2)
                      by_cases hvv : v' = v
                      · subst hvv
                        rw [← Bool.not_eq_true]
                        exact hh
                      · exact hall3 v' q1 (by omega)
              refine V_istore_n F (lv' := [_, _, _, _]) dX4_wins3_29 (by decide) rfl rfl ?_
              exact vloop (mhi T rel x r + 1 - mlo T rel x r) (mlo T rel x r) ν (Nat.le_refl _) (by omega) (fun v' q1 q2 => absurd q2 (by omega)) hF
        refine V_msk [true, true, false, false] (lv' := [_, _, none, none]) (by cases z2 <;> cases z3 <;> rfl) ?_
        refine V_iconst F (v := nI 0) dX4_wins3_7 (by decide) ?_
        refine V_istore_n F (lv' := [_, _, _, _]) dX4_wins3_8 (by decide) rfl rfl ?_
        exact mloop _ 0 ν _ (Nat.zero_add _) (fun m' x h1 => absurd h1 (Nat.not_lt_zero m')) hF
  refine V_iconst F (v := nI 0) dX4_wins3_0 (by decide) ?_
  refine V_istore_n F (lv' := [_, _, _, _]) dX4_wins3_1 (by decide) rfl rfl ?_
  exact loop 2 0 μ _ _ rfl (fun s' h1 => absurd h1 (Nat.not_lt_zero s')) (FrW.rfl' _ _)
end MODELG3

