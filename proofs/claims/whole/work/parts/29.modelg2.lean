section MODELG2
variable {g : Gm} {l : Launch} {μ : Mem} {T : Tb} {n : Nat}
theorem c_follows2 {rel p q s m a v x y : Nat} {r : List Nat} (hI : MInv T n μ) (hp : p < n) (hq : q < n) (hrel : rel < 3) (hl : lok r) (hlen : r.length + 2 ≤ 3) (hs : s < 2) (hL : Lv T rel 2 p q r μ) (hx : (mvs T (psd p q s) r)[m]? = some x) (hy : (mvs T (psd p q (1 - s)) r)[a]? = some y) (hv1 : mlo T rel x r ≤ v) (hv2 : v ≤ mhi T rel x r) : Ct (GS g) l (3) yX4_follows2 cX4_follows2 6 (some .boolean) [.ref (g.1 15), .int (nI s), .int (nI m), .int (nI a), .int (nI v)] μ ((fun ret μ' => ret = some (.int (nI (if flw T rel 1 x (nmv T rel x v) y r = true then 1 else 0))) ∧ FrW 2 μ μ')) := by
  have hW := hI.1
  have hb := mlo_le (T := T) hl (show r.length ≤ 3 by omega) rel x
  have hf := fr_ge r
  have hf2 := fr_le hl
  have l1 := mvs_len hW (psd_lt (s := s) hp hq) r
  have l2 := mvs_len hW (psd_lt (s := 1 - s) hp hq) r
  have m1 := (List.getElem?_eq_some_iff.mp hx).1
  have m2 := (List.getElem?_eq_some_iff.mp hy).1
  have bx := mv_ok hW (psd_lt (s := s) hp hq) (List.mem_of_getElem? hx)
  have by_ := mv_ok hW (psd_lt (s := 1 - s) hp hq) (List.mem_of_getElem? hy)
  have px := (hW.part bx.1).2.2.1
  have py := (hW.part by_.1).2.2.1
  have hsw : ∀ r', win T rel 1 (T 3 (if s = 0 then x else y)) (T 3 (if s = 0 then y else x)) r' = win T rel 1 (T 3 x) (T 3 y) r' := fun r' => by
    rcases (by omega : s = 0 ∨ s = 1) with rfl | rfl
    · rfl
    · exact win_symm _ _ _ _ _
  refine Ct.of (own := RX4) mi_X4_follows2 rfl [some (.ref (g.1 15)), some (.int (nI s)), some (.int (nI m)), some (.int (nI a)), some (.int (nI v)), none] (Nat.le_of_ble_eq_true rfl) rfl (fun p₀ e₀ s₀ m₀ b₀ h₀ c₀ F => ?_)
  refine V_iload F dX4_follows2_0 rfl ?_
  refine V_bipush F (v := nI 9) dX4_follows2_2 (by decide) ?_
  rcases nxt_mod (T := T) (a := x) (r := r) hrel hv1 hv2 with ⟨h9, hn1, hvf⟩ | ⟨h9, hx3, hn1⟩ | ⟨_, h9⟩
  · skip
    refine V_icmp_ge_f F (tgt := 22) dX4_follows2_4 (by decide) (fun z => by have := (nI_leI (by omega) (by omega)).mp z; omega) ?_
    refine V_aload_n F dX4_follows2_7 rfl ?_
    refine V_iconst F (v := nI 2) dX4_follows2_8 (by decide) ?_
    refine V_iload_n F dX4_follows2_9 rfl ?_
    refine V_iload_n F dX4_follows2_10 rfl ?_
    refine V_iload_n F dX4_follows2_11 rfl ?_
    refine V_iload F dX4_follows2_12 rfl ?_
    refine V_callV F (q0 := 15) (c_next (k := 1) (rel := rel) (p := p) (q := q) (s := s) (m := m) (a := a) (v := v) (x := x) (y := y) (r := r) hI hp hq hl (by omega) hs hL hx hy hvf (by omega)) mi_X4_next mm_X4_next lk_X4_127 dX4_follows2_14 (rmR (by omega)) rfl rfl (by decide) (Nat.le_of_ble_eq_true rfl) rfl rfl rfl (fun r μ' h => ?_)
    obtain ⟨rfl, hF, hL'⟩ := h
    obtain ⟨hl', hlen'⟩ := nl_ok (T := T) (x := x) (k := 1) hl (by omega) hvf
    refine V_aload_n F dX4_follows2_17 rfl ?_
    refine V_callV F (q0 := 15) (c_wins1 (p := T 3 (if s = 0 then x else y)) (q := T 3 (if s = 0 then y else x)) (r := nl T x v r) (hF.mi hI) (by split <;> assumption) (by split <;> assumption) hrel hl' hlen' hL') mi_X4_wins1 mm_X4_wins1 lk_X4_131 dX4_follows2_18 (rmR (by omega)) rfl rfl (by decide) (Nat.le_of_ble_eq_true rfl) rfl rfl rfl (fun r μ' h => ?_)
    obtain ⟨rfl, hF2⟩ := h
    refine V_zret F dX4_follows2_21 (nar_b _) ⟨?_, hF.trans (hF2.up (by omega))⟩
    have hfl : flw T rel 1 x (nmv T rel x v) y r = win T rel 1 (T 3 x) (T 3 y) (nl T x v r) := by
      unfold flw
      rw [hn1]
      simp [nl]
    rw [hsw, hfl]
  · skip
    refine V_icmp_ge_t F (tgt := 22) dX4_follows2_4 (by decide) ((nI_leI (by omega) (by omega)).mpr (by omega)) ?_
    have loop : ∀ (d w : Nat) (ν : Mem) (z0 : True), w + d = fr r + 1 → (∀ w', w' < w → win T rel 1 (T 3 x) (T 3 y) (w' :: r) = false) → FrW 2 μ ν → V (GS g) p₀ l e₀ (rmD (3)) s₀ m₀ (List.toArray [.ref (g.1 15), .int (nI s), .int (nI m), .int (nI a), .int (nI v)]) b₀ h₀ c₀ 6 0 0 (MQ b₀ (Qp (GS g) ((fun ret μ' => ret = some (.int (nI (if flw T rel 1 x (nmv T rel x v) y r = true then 1 else 0))) ∧ FrW 2 μ μ'))) (List.toArray [.ref (g.1 15), .int (nI s), .int (nI m), .int (nI a), .int (nI v)]) s₀ 0 0 (gA (GS g))) 25 ([some (.ref (g.1 15)), some (.int (nI s)), some (.int (nI m)), some (.int (nI a)), some (.int (nI v)), some (.int (nI w))]) ([]) (ν) := by
      intro d
      induction d with
      | zero =>
        intro w ν _ hw hall hF
        refine V_iload F dX4_follows2_25 rfl ?_
        refine V_iconst F (v := nI 3) dX4_follows2_27 (by decide) ?_
        refine V_aload_n F dX4_follows2_28 rfl ?_
        refine V_getf F (q0 := 15) (j := 16) lk_X4_59 dX4_follows2_29 ig_X4 rfl rfl (by decide) rfl rfl ?_
        refine V_iconst F (v := nI 2) dX4_follows2_32 (by decide) ?_
        refine V_ia F dX4_follows2_33 rfl (rfl) ((by decide)) ((hL.of hF).2.2.1) ?_
        (first | refine V_iaddN F dX4_follows2_34 ?_ | refine V_iadd F dX4_follows2_34 ?_)
        refine V_icmp_gt_N F (tgt := 63) dX4_follows2_35 (by decide) (by omega) (by omega) (fun hc => ?_) (fun hc => ?_)
        · skip
          refine V_iconst F (v := nI 0) dX4_follows2_63 (by decide) ?_
          refine V_zret F dX4_follows2_64 rfl ⟨?_, hF⟩
          have : flw T rel 1 x (nmv T rel x v) y r = false := by
            unfold flw
            rw [hn1, List.any_eq_false]
            intro l' hl'
            obtain ⟨z, hz, rfl⟩ := List.mem_map.mp hl'
            have hz := List.mem_range.mp hz
            rw [Bool.not_eq_true]
            exact hall z (by omega)
          rw [this]
          rfl
        · omega
      | succ d ih =>
        intro w ν _ hw hall hF
        refine V_iload F dX4_follows2_25 rfl ?_
        refine V_iconst F (v := nI 3) dX4_follows2_27 (by decide) ?_
        refine V_aload_n F dX4_follows2_28 rfl ?_
        refine V_getf F (q0 := 15) (j := 16) lk_X4_59 dX4_follows2_29 ig_X4 rfl rfl (by decide) rfl rfl ?_
        refine V_iconst F (v := nI 2) dX4_follows2_32 (by decide) ?_
        refine V_ia F dX4_follows2_33 rfl (rfl) ((by decide)) ((hL.of hF).2.2.1) ?_
        (first | refine V_iaddN F dX4_follows2_34 ?_ | refine V_iadd F dX4_follows2_34 ?_)
        refine V_icmp_gt_N F (tgt := 63) dX4_follows2_35 (by decide) (by omega) (by omega) (fun hc => ?_) (fun hc => ?_)
        · omega
        · skip
          refine V_aload_n F dX4_follows2_38 rfl ?_
          refine V_iconst F (v := nI 2) dX4_follows2_39 (by decide) ?_
          refine V_iload_n F dX4_follows2_40 rfl ?_
          refine V_iload_n F dX4_follows2_41 rfl ?_
          refine V_iload_n F dX4_follows2_42 rfl ?_
          refine V_iload F dX4_follows2_43 rfl ?_
          refine V_callV F (q0 := 15) (c_next (k := 1) (rel := rel) (p := p) (q := q) (s := s) (m := m) (a := a) (v := w) (x := x) (y := y) (r := r) (hF.mi hI) hp hq hl (by omega) hs (hL.of hF) hx hy (fun _ => by omega) (by omega)) mi_X4_next mm_X4_next lk_X4_127 dX4_follows2_45 (rmR (by omega)) rfl rfl (by decide) (Nat.le_of_ble_eq_true rfl) rfl rfl rfl (fun r μ' h => ?_)
          obtain ⟨rfl, hF1, hL'⟩ := h
          obtain ⟨hl', hlen'⟩ := nl_ok (T := T) (x := x) (v := w) (k := 1) hl (by omega) (fun _ => by omega)
          refine V_aload_n F dX4_follows2_48 rfl ?_
          refine V_callV F (q0 := 15) (c_wins1 (p := T 3 (if s = 0 then x else y)) (q := T 3 (if s = 0 then y else x)) (r := nl T x w r) ((hF.trans hF1).mi hI) (by split <;> assumption) (by split <;> assumption) hrel hl' hlen' hL') mi_X4_wins1 mm_X4_wins1 lk_X4_131 dX4_follows2_49 (rmR (by omega)) rfl rfl (by decide) (Nat.le_of_ble_eq_true rfl) rfl rfl rfl (fun r μ' h => ?_)
          obtain ⟨rfl, hF2⟩ := h
          rw [hsw, show nl T x w r = w :: r from if_pos hx3]
          by_cases hwin : win T rel 1 (T 3 x) (T 3 y) (w :: r) = true
          · rw [if_pos hwin]
            refine V_if_eq_f F (tgt := 57) dX4_follows2_52 (by decide) (by decide) ?_
            refine V_iconst F (v := nI 1) dX4_follows2_55 (by decide) ?_
            refine V_zret F dX4_follows2_56 rfl ⟨?_, (hF.trans hF1).trans (hF2.up (by omega))⟩
            have : flw T rel 1 x (nmv T rel x v) y r = true := by
              unfold flw
              rw [hn1, List.any_eq_true]
              exact ⟨w :: r, List.mem_map.mpr ⟨w, List.mem_range.mpr (by omega), rfl⟩, hwin⟩
            rw [this]
            rfl
          · rw [if_neg hwin]
            refine V_if_eq_t F (tgt := 57) dX4_follows2_52 (by decide) (by decide) ?_
            refine V_iinc F (lv' := [_, _, _, _, _, _]) dX4_follows2_57 rfl (by decide) rfl rfl ?_
            refine V_goto F (tgt := 25) dX4_follows2_60 (by decide) ?_
            rw [show nI w + Int32.ofInt 1 = nI (w + 1) from nI_1 w]
            refine ih (w + 1) _ trivial (by omega) (fun w' hw' => ?_) ((hF.trans hF1).trans (hF2.up (by omega)))
            by_cases hww : w' = w
            · subst hww
              rw [← Bool.not_eq_true]
              exact hwin
            · exact hall w' (by omega)
    refine V_iconst F (v := nI 0) dX4_follows2_22 (by decide) ?_
    refine V_istore F (lv' := [_, _, _, _, _, _]) dX4_follows2_23 (by decide) rfl rfl ?_
    exact loop (fr r + 1) 0 μ trivial (by omega) (fun w' hw' => absurd hw' (Nat.not_lt_zero w')) (FrW.rfl' _ _)
  · omega
theorem c_holds2 {rel p q s m v x : Nat} {r : List Nat} (hI : MInv T n μ) (hp : p < n) (hq : q < n) (hrel : rel < 3) (hl : lok r) (hlen : r.length + 2 ≤ 3) (hs : s < 2) (hL : Lv T rel 2 p q r μ) (hx : (mvs T (psd p q s) r)[m]? = some x) (hv1 : mlo T rel x r ≤ v) (hv2 : v ≤ mhi T rel x r) : Ct (GS g) l (4) yX4_holds2 cX4_holds2 6 (some .boolean) [.ref (g.1 15), .int (nI s), .int (nI m), .int (nI v)] μ ((fun ret μ' => ret = some (.int (nI (if hld T rel 1 x (nmv T rel x v) (psd p q (1 - s)) r = true then 1 else 0))) ∧ FrW 2 μ μ')) := by
  have hW := hI.1
  have l2 := mvs_len hW (psd_lt (s := 1 - s) hp hq) r
  refine Ct.of (own := RX4) mi_X4_holds2 rfl [some (.ref (g.1 15)), some (.int (nI s)), some (.int (nI m)), some (.int (nI v)), none, none] (Nat.le_of_ble_eq_true rfl) rfl (fun p₀ e₀ s₀ m₀ b₀ h₀ c₀ F => ?_)
  have hcnt : ∀ ν, FrW 2 μ ν → ν.1 25 (5 - s) = nI (mvs T (psd p q (1 - s)) r).length := fun ν hF => by
    have := ((hL.of hF).side (s := 1 - s) (by omega)).1
    rw [show 2 * 2 + (1 - s) = 5 - s by omega] at this
    exact this
  have loop : ∀ (d a : Nat) (ν : Mem), a + d = (mvs T (psd p q (1 - s)) r).length → (∀ a' y, a' < a → (mvs T (psd p q (1 - s)) r)[a']? = some y → agr T r x y = true → flw T rel 1 x (nmv T rel x v) y r = true) → FrW 2 μ ν → V (GS g) p₀ l e₀ (rmD (4)) s₀ m₀ (List.toArray [.ref (g.1 15), .int (nI s), .int (nI m), .int (nI v)]) b₀ h₀ c₀ 6 0 0 (MQ b₀ (Qp (GS g) ((fun ret μ' => ret = some (.int (nI (if hld T rel 1 x (nmv T rel x v) (psd p q (1 - s)) r = true then 1 else 0))) ∧ FrW 2 μ μ'))) (List.toArray [.ref (g.1 15), .int (nI s), .int (nI m), .int (nI v)]) s₀ 0 0 (gA (GS g))) 8 ([some (.ref (g.1 15)), some (.int (nI s)), some (.int (nI m)), some (.int (nI v)), some (.int (nI (5 - s))), some (.int (nI a))]) ([]) (ν) := by
    intro d
    induction d with
    | zero =>
      intro a ν ha hall hF
      refine V_iload F dX4_holds2_8 rfl ?_
      refine V_aload_n F dX4_holds2_10 rfl ?_
      refine V_getf F (q0 := 15) (j := 10) lk_X4_41 dX4_holds2_11 ig_X4 rfl rfl (by decide) rfl rfl ?_
      refine V_iload F dX4_holds2_14 rfl ?_
      refine V_ia F dX4_holds2_16 rfl (rfl) ((show 5 - s < 8 by omega)) ((hcnt ν hF)) ?_
      refine V_icmp_ge_N F (tgt := 52) dX4_holds2_17 (by decide) (by omega) (by omega) (fun hc => ?_) (fun hc => ?_)
      · skip
        refine V_iconst F (v := nI 1) dX4_holds2_52 (by decide) ?_
        refine V_zret F dX4_holds2_53 rfl ⟨?_, hF⟩
        have : hld T rel 1 x (nmv T rel x v) (psd p q (1 - s)) r = true := by
          unfold hld
          rw [List.all_eq_true]
          intro y hy
          obtain ⟨a', ha'⟩ := List.getElem?_of_mem hy
          have hlt := (List.getElem?_eq_some_iff.mp ha').1
          by_cases hag : agr T r x y = true
          · rw [hall a' y (by omega) ha' hag, hag]
            rfl
          · rw [Bool.not_eq_true] at hag
            rw [hag]
            rfl
        rw [this]
        rfl
      · omega
    | succ d ih =>
      intro a ν ha hall hF
      obtain ⟨y, hy⟩ : ∃ y, (mvs T (psd p q (1 - s)) r)[a]? = some y := ⟨_, List.getElem?_eq_getElem (by omega)⟩
      refine V_iload F dX4_holds2_8 rfl ?_
      refine V_aload_n F dX4_holds2_10 rfl ?_
      refine V_getf F (q0 := 15) (j := 10) lk_X4_41 dX4_holds2_11 ig_X4 rfl rfl (by decide) rfl rfl ?_
      refine V_iload F dX4_holds2_14 rfl ?_
      refine V_ia F dX4_holds2_16 rfl (rfl) ((show 5 - s < 8 by omega)) ((hcnt ν hF)) ?_
      have next_ : ∀ ν', FrW 2 μ ν' → (agr T r x y = true → flw T rel 1 x (nmv T rel x v) y r = true) → V (GS g) p₀ l e₀ (rmD (4)) s₀ m₀ (List.toArray [.ref (g.1 15), .int (nI s), .int (nI m), .int (nI v)]) b₀ h₀ c₀ 6 0 0 (MQ b₀ (Qp (GS g) ((fun ret μ' => ret = some (.int (nI (if hld T rel 1 x (nmv T rel x v) (psd p q (1 - s)) r = true then 1 else 0))) ∧ FrW 2 μ μ'))) (List.toArray [.ref (g.1 15), .int (nI s), .int (nI m), .int (nI v)]) s₀ 0 0 (gA (GS g))) 46 ([some (.ref (g.1 15)), some (.int (nI s)), some (.int (nI m)), some (.int (nI v)), some (.int (nI (5 - s))), some (.int (nI a))]) ([]) (ν') := by
        intro ν' hF' hyy
        refine V_iinc F (lv' := [_, _, _, _, _, _]) dX4_holds2_46 rfl (by decide) rfl rfl ?_
        refine V_goto F (tgt := 8) dX4_holds2_49 (by decide) ?_
        rw [show nI a + Int32.ofInt 1 = nI (a + 1) from nI_1 a]
        refine ih (a + 1) ν' (by omega) (fun a' y' h1 h2 => ?_) hF'
        by_cases haa : a' = a
        · subst haa
          rw [hy] at h2
          cases h2
          exact hyy
        · exact hall a' y' (by omega) h2
      have bad : ∀ ν', FrW 2 μ ν' → agr T r x y = true → ¬ flw T rel 1 x (nmv T rel x v) y r = true → hld T rel 1 x (nmv T rel x v) (psd p q (1 - s)) r = false := by
        intro ν' hF' h1 h2
        unfold hld
        rw [List.all_eq_false]
        refine ⟨y, List.mem_of_getElem? hy, ?_⟩
        rw [h1]
        simpa using h2
      refine V_icmp_ge_N F (tgt := 52) dX4_holds2_17 (by decide) (by omega) (by omega) (fun hc => ?_) (fun hc => ?_)
      · omega
      · skip
        refine V_aload_n F dX4_holds2_20 rfl ?_
        refine V_iconst F (v := nI 2) dX4_holds2_21 (by decide) ?_
        refine V_iload_n F dX4_holds2_22 rfl ?_
        refine V_iload_n F dX4_holds2_23 rfl ?_
        refine V_iload F dX4_holds2_24 rfl ?_
        refine V_callVi F (q0 := 15) (c_answers (rel := rel) (k := 2) (p := p) (q := q) (s := s) (m := m) (a := a) (x := x) (y := y) (r := r) (hF.mi hI) (by omega) hp hq hl (by omega) hs (hL.of hF) hx hy) mi_X4_answers mm_X4_answers lk_X4_114 dX4_holds2_26 (rmR (by omega)) rfl rfl (by decide) (Nat.le_of_ble_eq_true rfl) rfl rfl rfl ?_
        by_cases hag : agr T r x y = true
        · rw [if_pos hag]
          refine V_if_eq_f F (tgt := 46) dX4_holds2_29 (by decide) (by decide) ?_
          refine V_aload_n F dX4_holds2_32 rfl ?_
          refine V_iload_n F dX4_holds2_33 rfl ?_
          refine V_iload_n F dX4_holds2_34 rfl ?_
          refine V_iload F dX4_holds2_35 rfl ?_
          refine V_iload_n F dX4_holds2_37 rfl ?_
          refine V_callV F (q0 := 15) (c_follows2 (rel := rel) (p := p) (q := q) (s := s) (m := m) (a := a) (v := v) (x := x) (y := y) (r := r) (hF.mi hI) hp hq hrel hl hlen hs (hL.of hF) hx hy hv1 hv2) mi_X4_follows2 mm_X4_follows2 lk_X4_124 dX4_holds2_38 (rmR (by omega)) rfl rfl (by decide) (Nat.le_of_ble_eq_true rfl) rfl rfl rfl (fun r μ' h => ?_)
          obtain ⟨rfl, hF2⟩ := h
          by_cases hfl : flw T rel 1 x (nmv T rel x v) y r = true
          · rw [if_pos hfl]
            refine V_if_ne_t F (tgt := 46) dX4_holds2_41 (by decide) (by decide) ?_
            exact next_ _ (hF.trans hF2) (fun _ => hfl)
          · rw [if_neg hfl]
            refine V_if_ne_f F (tgt := 46) dX4_holds2_41 (by decide) (by decide) ?_
            refine V_iconst F (v := nI 0) dX4_holds2_44 (by decide) ?_
            refine V_zret F dX4_holds2_45 rfl ⟨?_, hF.trans hF2⟩
            rw [bad ν hF hag hfl]
            rfl
        · rw [if_neg hag]
          refine V_if_eq_t F (tgt := 46) dX4_holds2_29 (by decide) (by decide) ?_
          exact next_ _ hF (fun z => absurd z hag)
  refine V_iconst F (v := nI 5) dX4_holds2_0 (by decide) ?_
  refine V_iload_n F dX4_holds2_1 rfl ?_
  refine V_isubN F (by omega) dX4_holds2_2 ?_
  refine V_istore F (lv' := [_, _, _, _, _, _]) dX4_holds2_3 (by decide) rfl rfl ?_
  refine V_iconst F (v := nI 0) dX4_holds2_5 (by decide) ?_
  refine V_istore F (lv' := [_, _, _, _, _, _]) dX4_holds2_6 (by decide) rfl rfl ?_
  exact loop _ 0 μ (Nat.zero_add _) (fun a' y h1 => absurd h1 (Nat.not_lt_zero a')) (FrW.rfl' _ _)
theorem c_wins2 {rel p q : Nat} {r : List Nat} (hI : MInv T n μ) (hp : p < n) (hq : q < n) (hrel : rel < 3) (hl : lok r) (hlen : r.length + 2 ≤ 3) (hL : Lv T rel 2 p q r μ) : Ct (GS g) l (5) yX4_wins2 cX4_wins2 4 (some .boolean) [.ref (g.1 15)] μ ((fun ret μ' => ret = some (.int (nI (if win T rel 2 p q r = true then 1 else 0))) ∧ FrW 2 μ μ')) := by
  have hW := hI.1
  refine Ct.of (own := RX4) mi_X4_wins2 rfl [some (.ref (g.1 15)), none, none, none] (Nat.le_of_ble_eq_true rfl) rfl (fun p₀ e₀ s₀ m₀ b₀ h₀ c₀ F => ?_)
  have yes : ∀ (s m v x : Nat), s < 2 → (mvs T (psd p q s) r)[m]? = some x → v ≤ mhi T rel x r → hld T rel 1 x (nmv T rel x v) (psd p q (1 - s)) r = true → win T rel 2 p q r = true := by
    intro s m v x hs hx hv hh
    have h1 : sid T rel 1 (psd p q s) (psd p q (1 - s)) r = true := by
      unfold sid
      exact List.any_eq_true.mpr ⟨x, List.mem_of_getElem? hx, List.any_eq_true.mpr ⟨_, nmv_mem hv, hh⟩⟩
    rw [win_eq, Bool.or_eq_true]
    rcases (by omega : s = 0 ∨ s = 1) with rfl | rfl
    · exact Or.inl h1
    · exact Or.inr h1
  have loop : ∀ (d s : Nat) (ν : Mem) (z2 z3 : Option Value), s + d = 2 → (∀ s', s' < s → sid T rel 1 (psd p q s') (psd p q (1 - s')) r = false) → FrW 2 μ ν → V (GS g) p₀ l e₀ (rmD (5)) s₀ m₀ (List.toArray [.ref (g.1 15)]) b₀ h₀ c₀ 4 0 0 (MQ b₀ (Qp (GS g) ((fun ret μ' => ret = some (.int (nI (if win T rel 2 p q r = true then 1 else 0))) ∧ FrW 2 μ μ'))) (List.toArray [.ref (g.1 15)]) s₀ 0 0 (gA (GS g))) 2 ([some (.ref (g.1 15)), some (.int (nI s)), z2, z3]) ([]) (ν) := by
    intro d
    induction d with
    | zero =>
      intro s ν z2 z3 hs hall hF
      refine V_iload_n F dX4_wins2_2 rfl ?_
      refine V_iconst F (v := nI 2) dX4_wins2_3 (by decide) ?_
      refine V_icmp_ge_N F (tgt := 70) dX4_wins2_4 (by decide) (by omega) (by omega) (fun hc => ?_) (fun hc => ?_)
      · skip
        refine V_iconst F (v := nI 0) dX4_wins2_70 (by decide) ?_
        refine V_zret F dX4_wins2_71 rfl ⟨?_, hF⟩
        have : win T rel 2 p q r = false := by
          rw [win_eq, Bool.or_eq_false_iff]
          exact ⟨hall 0 (by omega), hall 1 (by omega)⟩
        rw [this]
        rfl
      · omega
    | succ d ih =>
      intro s ν z2 z3 hs hall hF
      have hs2 : s < 2 := by omega
      have l1 := mvs_len hW (psd_lt (s := s) hp hq) r
      refine V_iload_n F dX4_wins2_2 rfl ?_
      refine V_iconst F (v := nI 2) dX4_wins2_3 (by decide) ?_
      refine V_icmp_ge_N F (tgt := 70) dX4_wins2_4 (by decide) (by omega) (by omega) (fun hc => ?_) (fun hc => ?_)
      · omega
      · have mloop : ∀ (e m : Nat) (ν : Mem) (z3 : Option Value), m + e = (mvs T (psd p q s) r).length → (∀ m' x, m' < m → (mvs T (psd p q s) r)[m']? = some x → ∀ v ∈ nms T rel x r, hld T rel 1 x v (psd p q (1 - s)) r = false) → FrW 2 μ ν → V (GS g) p₀ l e₀ (rmD (5)) s₀ m₀ (List.toArray [.ref (g.1 15)]) b₀ h₀ c₀ 4 0 0 (MQ b₀ (Qp (GS g) ((fun ret μ' => ret = some (.int (nI (if win T rel 2 p q r = true then 1 else 0))) ∧ FrW 2 μ μ'))) (List.toArray [.ref (g.1 15)]) s₀ 0 0 (gA (GS g))) 9 ([some (.ref (g.1 15)), some (.int (nI s)), some (.int (nI m)), z3]) ([]) (ν) := by
          intro e
          induction e with
          | zero =>
            intro m ν z3 hm hall2 hF
            refine V_msk [true, true, true, false] (lv' := [_, _, _, none]) (by cases z3 <;> rfl) ?_
            refine V_iload_n F dX4_wins2_9 rfl ?_
            refine V_aload_n F dX4_wins2_10 rfl ?_
            refine V_getf F (q0 := 15) (j := 10) lk_X4_41 dX4_wins2_11 ig_X4 rfl rfl (by decide) rfl rfl ?_
            refine V_iconst F (v := nI 4) dX4_wins2_14 (by decide) ?_
            refine V_iload_n F dX4_wins2_15 rfl ?_
            (first | refine V_iaddN F dX4_wins2_16 ?_ | refine V_iadd F dX4_wins2_16 ?_)
            refine V_ia F dX4_wins2_17 rfl (rfl) ((show 2 * 2 + s < 8 by omega)) (((hL.of hF).side hs2).1) ?_
            refine V_icmp_ge_N F (tgt := 64) dX4_wins2_18 (by decide) (by omega) (by omega) (fun hc2 => ?_) (fun hc2 => ?_)
            · skip
              refine V_iinc F (lv' := [_, _, _, _]) dX4_wins2_64 rfl (by decide) rfl rfl ?_
              refine V_goto F (tgt := 2) dX4_wins2_67 (by decide) ?_
              rw [show nI s + Int32.ofInt 1 = nI (s + 1) from nI_1 s]
              refine ih (s + 1) ν _ _ (by omega) (fun s' hs' => ?_) hF
              by_cases hss : s' = s
              · subst hss
                unfold sid
                rw [List.any_eq_false]
                intro x hx
                obtain ⟨m', hm'⟩ := List.getElem?_of_mem hx
                have hlt := (List.getElem?_eq_some_iff.mp hm').1
                rw [Bool.not_eq_true, List.any_eq_false]
                intro v hv
                rw [hall2 m' x (by omega) hm' v hv]
                decide
              · exact hall s' (by omega)
            · omega
          | succ e ihe =>
            intro m ν z3 hm hall2 hF
            obtain ⟨x, hx⟩ : ∃ x, (mvs T (psd p q s) r)[m]? = some x := ⟨_, List.getElem?_eq_getElem (by omega)⟩
            have hml := mlo_le (T := T) hl (show r.length ≤ 3 by omega) rel x
            refine V_msk [true, true, true, false] (lv' := [_, _, _, none]) (by cases z3 <;> rfl) ?_
            refine V_iload_n F dX4_wins2_9 rfl ?_
            refine V_aload_n F dX4_wins2_10 rfl ?_
            refine V_getf F (q0 := 15) (j := 10) lk_X4_41 dX4_wins2_11 ig_X4 rfl rfl (by decide) rfl rfl ?_
            refine V_iconst F (v := nI 4) dX4_wins2_14 (by decide) ?_
            refine V_iload_n F dX4_wins2_15 rfl ?_
            (first | refine V_iaddN F dX4_wins2_16 ?_ | refine V_iadd F dX4_wins2_16 ?_)
            refine V_ia F dX4_wins2_17 rfl (rfl) ((show 2 * 2 + s < 8 by omega)) (((hL.of hF).side hs2).1) ?_
            refine V_icmp_ge_N F (tgt := 64) dX4_wins2_18 (by decide) (by omega) (by omega) (fun hc2 => ?_) (fun hc2 => ?_)
            · omega
            · skip
              refine V_aload_n F dX4_wins2_21 rfl ?_
              refine V_iconst F (v := nI 2) dX4_wins2_22 (by decide) ?_
              refine V_iload_n F dX4_wins2_23 rfl ?_
              refine V_iload_n F dX4_wins2_24 rfl ?_
              refine V_callVi F (q0 := 15) (c_mlowest (rel := rel) (k := 2) (p := p) (q := q) (s := s) (m := m) (x := x) (r := r) (hF.mi hI) (by omega) hp hq hl (by omega) hs2 hrel (hL.of hF) hx) mi_X4_lowest mm_X4_lowest lk_X4_110 dX4_wins2_25 (rmR (by omega)) rfl rfl (by decide) (Nat.le_of_ble_eq_true rfl) rfl rfl rfl ?_
              have vloop : ∀ (f v : Nat) (ν : Mem), mlo T rel x r ≤ v → v + f = mhi T rel x r + 1 → (∀ v', mlo T rel x r ≤ v' → v' < v → hld T rel 1 x (nmv T rel x v') (psd p q (1 - s)) r = false) → FrW 2 μ ν → V (GS g) p₀ l e₀ (rmD (5)) s₀ m₀ (List.toArray [.ref (g.1 15)]) b₀ h₀ c₀ 4 0 0 (MQ b₀ (Qp (GS g) ((fun ret μ' => ret = some (.int (nI (if win T rel 2 p q r = true then 1 else 0))) ∧ FrW 2 μ μ'))) (List.toArray [.ref (g.1 15)]) s₀ 0 0 (gA (GS g))) 29 ([some (.ref (g.1 15)), some (.int (nI s)), some (.int (nI m)), some (.int (nI v))]) ([]) (ν) := by
                intro f
                induction f with
                | zero =>
                  intro v ν h1 h2 hall3 hF
                  refine V_iload_n F dX4_wins2_29 rfl ?_
                  refine V_aload_n F dX4_wins2_30 rfl ?_
                  refine V_iconst F (v := nI 2) dX4_wins2_31 (by decide) ?_
                  refine V_iload_n F dX4_wins2_32 rfl ?_
                  refine V_iload_n F dX4_wins2_33 rfl ?_
                  refine V_callVi F (q0 := 15) (c_mhighest (rel := rel) (k := 2) (p := p) (q := q) (s := s) (m := m) (x := x) (r := r) (hF.mi hI) (by omega) hp hq hl (by omega) hs2 hrel (hL.of hF) hx) mi_X4_highest mm_X4_highest lk_X4_118 dX4_wins2_34 (rmR (by omega)) rfl rfl (by decide) (Nat.le_of_ble_eq_true rfl) rfl rfl rfl ?_
                  refine V_icmp_gt_N F (tgt := 58) dX4_wins2_37 (by decide) (by omega) (by omega) (fun hc3 => ?_) (fun hc3 => ?_)
                  · skip
                    refine V_iinc F (lv' := [_, _, _, _]) dX4_wins2_58 rfl (by decide) rfl rfl ?_
                    refine V_goto F (tgt := 9) dX4_wins2_61 (by decide) ?_
                    rw [show nI m + Int32.ofInt 1 = nI (m + 1) from nI_1 m]
                    refine ihe (m + 1) ν _ (by omega) (fun m' x' hm' hx' => ?_) hF
                    by_cases hmm : m' = m
                    · subst hmm
                      rw [hx] at hx'
                      cases hx'
                      exact nms_nmv (fun v => hld T rel 1 x v (psd p q (1 - s)) r = false) (fun v' q1 q2 => hall3 v' q1 (by omega)) hl (by omega)
                    · exact hall2 m' x' (by omega) hx'
                  · omega
                | succ f ihf =>
                  intro v ν h1 h2 hall3 hF
                  refine V_iload_n F dX4_wins2_29 rfl ?_
                  refine V_aload_n F dX4_wins2_30 rfl ?_
                  refine V_iconst F (v := nI 2) dX4_wins2_31 (by decide) ?_
                  refine V_iload_n F dX4_wins2_32 rfl ?_
                  refine V_iload_n F dX4_wins2_33 rfl ?_
                  refine V_callVi F (q0 := 15) (c_mhighest (rel := rel) (k := 2) (p := p) (q := q) (s := s) (m := m) (x := x) (r := r) (hF.mi hI) (by omega) hp hq hl (by omega) hs2 hrel (hL.of hF) hx) mi_X4_highest mm_X4_highest lk_X4_118 dX4_wins2_34 (rmR (by omega)) rfl rfl (by decide) (Nat.le_of_ble_eq_true rfl) rfl rfl rfl ?_
                  refine V_icmp_gt_N F (tgt := 58) dX4_wins2_37 (by decide) (by omega) (by omega) (fun hc3 => ?_) (fun hc3 => ?_)
                  · omega
                  · skip
                    refine V_aload_n F dX4_wins2_40 rfl ?_
                    refine V_iload_n F dX4_wins2_41 rfl ?_
                    refine V_iload_n F dX4_wins2_42 rfl ?_
                    refine V_iload_n F dX4_wins2_43 rfl ?_
                    refine V_callV F (q0 := 15) (c_holds2 (rel := rel) (p := p) (q := q) (s := s) (m := m) (v := v) (x := x) (r := r) (hF.mi hI) hp hq hrel hl hlen hs2 (hL.of hF) hx h1 (by omega)) mi_X4_holds2 mm_X4_holds2 lk_X4_135 dX4_wins2_44 (rmR (by omega)) rfl rfl (by decide) (Nat.le_of_ble_eq_true rfl) rfl rfl rfl (fun r μ' h => ?_)
                    obtain ⟨rfl, hF2⟩ := h
                    by_cases hh : hld T rel 1 x (nmv T rel x v) (psd p q (1 - s)) r = true
                    · rw [if_pos hh]
                      refine V_if_eq_f F (tgt := 52) dX4_wins2_47 (by decide) (by decide) ?_
                      refine V_iconst F (v := nI 1) dX4_wins2_50 (by decide) ?_
                      refine V_zret F dX4_wins2_51 rfl ⟨?_, hF.trans hF2⟩
                      rw [yes s m v x hs2 hx (by omega) hh]
                      rfl
                    · rw [if_neg hh]
                      refine V_if_eq_t F (tgt := 52) dX4_wins2_47 (by decide) (by decide) ?_
                      refine V_iinc F (lv' := [_, _, _, _]) dX4_wins2_52 rfl (by decide) rfl rfl ?_
                      refine V_goto F (tgt := 29) dX4_wins2_55 (by decide) ?_
                      rw [show nI v + Int32.ofInt 1 = nI (v + 1) from nI_1 v]
                      refine ihf (v + 1) _ (by omega) (by omega) (fun v' q1 q2 => ?_) (hF.trans hF2)
                      by_cases hvv : v' = v
                      · subst hvv
                        rw [← Bool.not_eq_true]
                        exact hh
                      · exact hall3 v' q1 (by omega)
              refine V_istore_n F (lv' := [_, _, _, _]) dX4_wins2_28 (by decide) rfl rfl ?_
              exact vloop (mhi T rel x r + 1 - mlo T rel x r) (mlo T rel x r) ν (Nat.le_refl _) (by omega) (fun v' q1 q2 => absurd q2 (by omega)) hF
        refine V_msk [true, true, false, false] (lv' := [_, _, none, none]) (by cases z2 <;> cases z3 <;> rfl) ?_
        refine V_iconst F (v := nI 0) dX4_wins2_7 (by decide) ?_
        refine V_istore_n F (lv' := [_, _, _, _]) dX4_wins2_8 (by decide) rfl rfl ?_
        exact mloop _ 0 ν _ (Nat.zero_add _) (fun m' x h1 => absurd h1 (Nat.not_lt_zero m')) hF
  refine V_iconst F (v := nI 0) dX4_wins2_0 (by decide) ?_
  refine V_istore_n F (lv' := [_, _, _, _]) dX4_wins2_1 (by decide) rfl rfl ?_
  exact loop 2 0 μ _ _ rfl (fun s' h1 => absurd h1 (Nat.not_lt_zero s')) (FrW.rfl' _ _)
end MODELG2

