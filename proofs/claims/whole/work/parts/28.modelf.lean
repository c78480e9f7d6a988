section MODELF0
variable {T : Tb} {n : Nat}
def nl (T : Tb) (x v : Nat) (r : List Nat) : List Nat := if T 0 x = 3 then v :: r else r
theorem Ls.ofL {a b : Nat} {r em : List Nat} {μ ν : Mem} (h : Ls T r a em μ) (hF : FrL μ ν b) (hab : a ≠ b) (hem : em.length ≤ 3) : Ls T r a em ν := by
  refine ⟨by rw [hF.2 _ _ (by omega)]; exact h.1, by rw [hF.2 _ _ (by omega)]; exact h.2.1, fun m x hm => ?_⟩
  have := (List.getElem?_eq_some_iff.mp hm).1
  rw [hF.2 _ _ (by omega), hF.2 _ _ (by omega), hF.2 _ _ (by omega), hF.2 _ _ (by omega)]
  exact h.2.2 m x hm
theorem Ls.wr31 {a i : Nat} {r em : List Nat} {μ : Mem} {z : Int32} (h : Ls T r a em μ) : Ls T r a em (wr μ 31 i z) := by
  refine ⟨by rw [wr_ne (by omega)]; exact h.1, by rw [wr_ne (by omega)]; exact h.2.1, fun m x hm => ?_⟩
  rw [wr_ne (by omega), wr_ne (by omega), wr_ne (by omega), wr_ne (by omega)]
  exact h.2.2 m x hm
theorem nl_ok {x v k : Nat} {r : List Nat} (hl : lok r) (hlen : r.length + (k + 1) ≤ 3) (hv : T 0 x = 3 → v ≤ fr r) : lok (nl T x v r) ∧ (nl T x v r).length + k ≤ 3 := by
  unfold nl
  by_cases h : T 0 x = 3
  · rw [if_pos h]
    exact ⟨⟨hv h, hl⟩, by simp only [List.length_cons]; omega⟩
  · rw [if_neg h]
    exact ⟨hl, by omega⟩
theorem nl_md {x v : Nat} {r : List Nat} : md (nl T x v r) = if T 0 x = 3 then 6 * md r + v else md r := by
  unfold nl; split <;> rfl
theorem nl_fr {x v : Nat} {r : List Nat} (hv : T 0 x = 3 → v ≤ fr r) : fr (nl T x v r) - 3 = fr r - 3 + (if T 0 x = 3 ∧ v = fr r then 1 else 0) := by
  have := fr_ge r
  unfold nl
  by_cases h : T 0 x = 3
  · rw [if_pos h, fr_cons (hv h)]
    by_cases h2 : v = fr r
    · rw [if_pos h2, if_pos ⟨h, h2⟩]; omega
    · rw [if_neg h2, if_neg (fun z => h2 z.2)]; omega
  · rw [if_neg h, if_neg (fun z => h z.1)]; omega
theorem nar_b (b : Bool) : narrow .boolean (.int (nI (if b = true then 1 else 0))) = .int (nI (if b = true then 1 else 0)) := by cases b <;> rfl
end MODELF0
section MODELF
variable {g : Gm} {l : Launch} {μ : Mem} {T : Tb} {n : Nat}
theorem c_next {rel k p q s m a v x y : Nat} {r : List Nat} (hI : MInv T n μ) (hp : p < n) (hq : q < n) (hl : lok r) (hlen : r.length + (k + 1) ≤ 3) (hs : s < 2) (hL : Lv T rel (k + 1) p q r μ) (hx : (mvs T (psd p q s) r)[m]? = some x) (hy : (mvs T (psd p q (1 - s)) r)[a]? = some y) (hv : T 0 x = 3 → v ≤ fr r) (hv9 : v < 100) : Ct (GS g) l (2) yX4_next cX4_next 10 none [.ref (g.1 15), .int (nI (k + 1)), .int (nI s), .int (nI m), .int (nI a), .int (nI v)] μ ((fun ret μ' => ret = none ∧ FrW (k + 1) μ μ' ∧ Lv T rel k (T 3 (if s = 0 then x else y)) (T 3 (if s = 0 then y else x)) (nl T x v r) μ')) := by
  have hW := hI.1
  have hn := hI.n24
  have l1 := mvs_len hW (psd_lt (s := s) hp hq) r
  have l2 := mvs_len hW (psd_lt (s := 1 - s) hp hq) r
  have m1 := (List.getElem?_eq_some_iff.mp hx).1
  have m2 := (List.getElem?_eq_some_iff.mp hy).1
  have bx := mv_ok hW (psd_lt (s := s) hp hq) (List.mem_of_getElem? hx)
  have by_ := mv_ok hW (psd_lt (s := 1 - s) hp hq) (List.mem_of_getElem? hy)
  have px := (hW.part bx.1).2.2.1
  have py := (hW.part by_.1).2.2.1
  obtain ⟨x26, x27, x28, x29⟩ := (hL.side hs).2.2 m x hx
  obtain ⟨y26, y27, y28, y29⟩ := (hL.side (s := 1 - s) (by omega)).2.2 a y hy
  have w0 := hL.1.2.1
  have w1 := hL.2.1.2.1
  have f0 := hL.2.2.1
  have hmd := md_lt hl (by omega)
  have hf := fr_ge r
  have hf2 := fr_le hl
  obtain ⟨hl', hlen'⟩ := nl_ok (T := T) (x := x) hl hlen hv
  have hmd' := nl_md (T := T) (x := x) (v := v) (r := r)
  have hfr' := nl_fr (T := T) (x := x) hv
  refine Ct.of (own := RX4) mi_X4_next rfl [some (.ref (g.1 15)), some (.int (nI (k + 1))), some (.int (nI s)), some (.int (nI m)), some (.int (nI a)), some (.int (nI v)), none, none, none, none] (Nat.le_of_ble_eq_true rfl) rfl (fun p₀ e₀ s₀ m₀ b₀ h₀ c₀ F => ?_)
  have main : ∀ b : Nat, b = (if T 0 x = 3 then 1 else 0) → V (GS g) p₀ l e₀ (rmD (2)) s₀ m₀ (List.toArray [.ref (g.1 15), .int (nI (k + 1)), .int (nI s), .int (nI m), .int (nI a), .int (nI v)]) b₀ h₀ c₀ 10 0 0 (MQ b₀ (Qp (GS g) ((fun ret μ' => ret = none ∧ FrW (k + 1) μ μ' ∧ Lv T rel k (T 3 (if s = 0 then x else y)) (T 3 (if s = 0 then y else x)) (nl T x v r) μ'))) (List.toArray [.ref (g.1 15), .int (nI (k + 1)), .int (nI s), .int (nI m), .int (nI a), .int (nI v)]) s₀ 0 0 (gA (GS g))) 25 ([some (.ref (g.1 15)), some (.int (nI (k + 1))), some (.int (nI s)), some (.int (nI m)), some (.int (nI a)), some (.int (nI v)), some (.int (nI b)), none, none, none]) ([]) (μ) := by
    intro b hb
    have tail : ∀ (ν : Mem) (z8 z9 : Option Value), FrW (k + 1) μ ν → Ls T (nl T x v r) (2 * k) (mvs T (T 3 (if s = 0 then x else y)) (nl T x v r)) ν → Ls T (nl T x v r) (2 * k + 1) (mvs T (T 3 (if s = 0 then y else x)) (nl T x v r)) ν → V (GS g) p₀ l e₀ (rmD (2)) s₀ m₀ (List.toArray [.ref (g.1 15), .int (nI (k + 1)), .int (nI s), .int (nI m), .int (nI a), .int (nI v)]) b₀ h₀ c₀ 10 0 0 (MQ b₀ (Qp (GS g) ((fun ret μ' => ret = none ∧ FrW (k + 1) μ μ' ∧ Lv T rel k (T 3 (if s = 0 then x else y)) (T 3 (if s = 0 then y else x)) (nl T x v r) μ'))) (List.toArray [.ref (g.1 15), .int (nI (k + 1)), .int (nI s), .int (nI m), .int (nI a), .int (nI v)]) s₀ 0 0 (gA (GS g))) 28 ([some (.ref (g.1 15)), some (.int (nI (k + 1))), some (.int (nI s)), some (.int (nI m)), some (.int (nI a)), some (.int (nI v)), some (.int (nI b)), some (.int (nI 2)), z8, z9]) ([]) (ν) := by
      intro ν z8 z9 hF g1 g2
      have fin : ∀ d : Nat, fr r - 3 + d = fr (nl T x v r) - 3 → V (GS g) p₀ l e₀ (rmD (2)) s₀ m₀ (List.toArray [.ref (g.1 15), .int (nI (k + 1)), .int (nI s), .int (nI m), .int (nI a), .int (nI v)]) b₀ h₀ c₀ 10 0 0 (MQ b₀ (Qp (GS g) ((fun ret μ' => ret = none ∧ FrW (k + 1) μ μ' ∧ Lv T rel k (T 3 (if s = 0 then x else y)) (T 3 (if s = 0 then y else x)) (nl T x v r) μ'))) (List.toArray [.ref (g.1 15), .int (nI (k + 1)), .int (nI s), .int (nI m), .int (nI a), .int (nI v)]) s₀ 0 0 (gA (GS g))) 146 ([some (.ref (g.1 15)), some (.int (nI (k + 1))), some (.int (nI s)), some (.int (nI m)), some (.int (nI a)), some (.int (nI v)), some (.int (nI b)), some (.int (nI 2)), none, none]) ([.int (nI d), .int (nI (fr r - 3)), .int (nI k), .ref (g.1 31)]) (ν) := by
        intro d hd
        (first | refine V_iaddN F dX4_next_146 ?_ | refine V_iadd F dX4_next_146 ?_)
        rw [hd]
        refine V_ias F dX4_next_147 rfl (rfl) ((show k < 4 by omega)) ?_
        refine V_vret F dX4_next_148 ⟨rfl, ⟨hF.1, fun c i hc => by rw [wr_ne (by omega)]; exact hF.2 c i hc⟩, g1.wr31, g2.wr31, wr_eq, ?_⟩
        rw [wr_ne (by omega), hF.2 _ _ (by omega)]
        exact hL.2.2.2
      refine V_iload F dX4_next_28 rfl ?_
      refine V_iconst F (v := nI 2) dX4_next_30 (by decide) ?_
      refine V_icmp_ge_t F (tgt := 110) dX4_next_31 (by decide) (by decide) ?_
      refine V_msk [true, true, true, true, true, true, true, true, false, false] (lv' := [_, _, _, _, _, _, _, _, none, none]) (by cases z8 <;> cases z9 <;> rfl) ?_
      refine V_aload_n F dX4_next_110 rfl ?_
      refine V_getf F (q0 := 15) (j := 16) lk_X4_59 dX4_next_111 ig_X4 rfl rfl (by decide) rfl rfl ?_
      refine V_iload_n F dX4_next_114 rfl ?_
      refine V_iconst F (v := nI 1) dX4_next_115 (by decide) ?_
      refine V_isubN F (by omega) dX4_next_116 ?_
      rw [Nat.add_sub_cancel]
      refine V_aload_n F dX4_next_117 rfl ?_
      refine V_getf F (q0 := 15) (j := 16) lk_X4_59 dX4_next_118 ig_X4 rfl rfl (by decide) rfl rfl ?_
      refine V_iload_n F dX4_next_121 rfl ?_
      refine V_ia F dX4_next_122 rfl (rfl) ((show k + 1 < 4 by omega)) (((hF.2 31 (k + 1) (by omega)).trans f0)) ?_
      refine V_iload F dX4_next_123 rfl ?_
      by_cases h3 : T 0 x = 3
      · rw [if_pos h3] at hb
        subst hb
        refine V_if_eq_f F (tgt := 145) dX4_next_125 (by decide) (by decide) ?_
        refine V_iload F dX4_next_128 rfl ?_
        refine V_iconst F (v := nI 3) dX4_next_130 (by decide) ?_
        refine V_aload_n F dX4_next_131 rfl ?_
        refine V_getf F (q0 := 15) (j := 16) lk_X4_59 dX4_next_132 ig_X4 rfl rfl (by decide) rfl rfl ?_
        refine V_iload_n F dX4_next_135 rfl ?_
        refine V_ia F dX4_next_136 rfl (rfl) ((show k + 1 < 4 by omega)) (((hF.2 31 (k + 1) (by omega)).trans f0)) ?_
        (first | refine V_iaddN F dX4_next_137 ?_ | refine V_iadd F dX4_next_137 ?_)
        refine V_icmp_ne_N F (tgt := 145) dX4_next_138 (by decide) (by omega) (by omega) (fun h4 => ?_) (fun h4 => ?_)
        · have h5 : v ≠ fr r := by omega
          rw [if_neg (fun z => h5 z.2)] at hfr'
          refine V_iconst F (v := nI 0) dX4_next_145 (by decide) ?_
          exact fin 0 (by omega)
        · have h5 : v = fr r := by omega
          rw [if_pos ⟨h3, h5⟩] at hfr'
          refine V_iconst F (v := nI 1) dX4_next_141 (by decide) ?_
          refine V_goto F (tgt := 146) dX4_next_142 (by decide) ?_
          exact fin 1 (by omega)
      · rw [if_neg h3] at hb
        subst hb
        rw [if_neg (fun z => h3 z.1)] at hfr'
        refine V_if_eq_t F (tgt := 145) dX4_next_125 (by decide) (by decide) ?_
        refine V_iconst F (v := nI 0) dX4_next_145 (by decide) ?_
        exact fin 0 (by omega)
    have go : ∀ (s' e tg : Nat) (ν : Mem) (z8 z9 : Option Value), s' < 2 → e = (if T 0 x = 3 then 6 * md r + v else md r) → tg < n → FrW (k + 1) μ ν → ν.1 29 (3 * (2 * (k + 1) + s') + (if s' = s then m else a)) = nI tg →
        (∀ (ν' : Mem), FrL ν ν' (2 * k + s') → Ls T (nl T x v r) (2 * k + s') (mvs T tg (nl T x v r)) ν' → V (GS g) p₀ l e₀ (rmD (2)) s₀ m₀ (List.toArray [.ref (g.1 15), .int (nI (k + 1)), .int (nI s), .int (nI m), .int (nI a), .int (nI v)]) b₀ h₀ c₀ 10 0 0 (MQ b₀ (Qp (GS g) ((fun ret μ' => ret = none ∧ FrW (k + 1) μ μ' ∧ Lv T rel k (T 3 (if s = 0 then x else y)) (T 3 (if s = 0 then y else x)) (nl T x v r) μ'))) (List.toArray [.ref (g.1 15), .int (nI (k + 1)), .int (nI s), .int (nI m), .int (nI a), .int (nI v)]) s₀ 0 0 (gA (GS g))) 28 ([some (.ref (g.1 15)), some (.int (nI (k + 1))), some (.int (nI s)), some (.int (nI m)), some (.int (nI a)), some (.int (nI v)), some (.int (nI b)), some (.int (nI (s' + 1))), some (.int (nI (2 * (k + 1) + s'))), some (.int (nI e))]) ([]) (ν')) →
        V (GS g) p₀ l e₀ (rmD (2)) s₀ m₀ (List.toArray [.ref (g.1 15), .int (nI (k + 1)), .int (nI s), .int (nI m), .int (nI a), .int (nI v)]) b₀ h₀ c₀ 10 0 0 (MQ b₀ (Qp (GS g) ((fun ret μ' => ret = none ∧ FrW (k + 1) μ μ' ∧ Lv T rel k (T 3 (if s = 0 then x else y)) (T 3 (if s = 0 then y else x)) (nl T x v r) μ'))) (List.toArray [.ref (g.1 15), .int (nI (k + 1)), .int (nI s), .int (nI m), .int (nI a), .int (nI v)]) s₀ 0 0 (gA (GS g))) 28 ([some (.ref (g.1 15)), some (.int (nI (k + 1))), some (.int (nI s)), some (.int (nI m)), some (.int (nI a)), some (.int (nI v)), some (.int (nI b)), some (.int (nI s')), z8, z9]) ([]) (ν) := by
      intro s' e tg ν z8 z9 hs' he htg hF ht K
      have hwv : ν.1 30 (2 * (k + 1) + s') = nI (md r) := by
        rw [hF.2 _ _ (by omega)]
        rcases (by omega : s' = 0 ∨ s' = 1) with rfl | rfl
        · exact w0
        · exact w1
      have after : V (GS g) p₀ l e₀ (rmD (2)) s₀ m₀ (List.toArray [.ref (g.1 15), .int (nI (k + 1)), .int (nI s), .int (nI m), .int (nI a), .int (nI v)]) b₀ h₀ c₀ 10 0 0 (MQ b₀ (Qp (GS g) ((fun ret μ' => ret = none ∧ FrW (k + 1) μ μ' ∧ Lv T rel k (T 3 (if s = 0 then x else y)) (T 3 (if s = 0 then y else x)) (nl T x v r) μ'))) (List.toArray [.ref (g.1 15), .int (nI (k + 1)), .int (nI s), .int (nI m), .int (nI a), .int (nI v)]) s₀ 0 0 (gA (GS g))) 70 ([some (.ref (g.1 15)), some (.int (nI (k + 1))), some (.int (nI s)), some (.int (nI m)), some (.int (nI a)), some (.int (nI v)), some (.int (nI b)), some (.int (nI s')), some (.int (nI (2 * (k + 1) + s'))), z9]) ([.int (nI e)]) (ν) := by
        refine V_msk [true, true, true, true, true, true, true, true, true, false] (lv' := [_, _, _, _, _, _, _, _, _, none]) (by cases z9 <;> rfl) ?_
        refine V_istore F (lv' := [_, _, _, _, _, _, _, _, _, _]) dX4_next_70 (by decide) rfl rfl ?_
        refine V_aload_n F dX4_next_72 rfl ?_
        refine V_iload F dX4_next_73 rfl ?_
        refine V_iconst F (v := nI 2) dX4_next_75 (by decide) ?_
        refine V_isubN F (by omega) dX4_next_76 ?_
        rw [show 2 * (k + 1) + s' - 2 = 2 * k + s' by omega]
        refine V_aload_n F dX4_next_77 rfl ?_
        refine V_getf F (q0 := 15) (j := 14) lk_X4_53 dX4_next_78 ig_X4 rfl rfl (by decide) rfl rfl ?_
        refine V_iconst F (v := nI 3) dX4_next_81 (by decide) ?_
        refine V_iload F dX4_next_82 rfl ?_
        (first | refine V_imulN F dX4_next_84 ?_ | refine V_imul F dX4_next_84 ?_)
        refine V_iload F dX4_next_85 rfl ?_
        refine V_iload_n F dX4_next_87 rfl ?_
        have lst : V (GS g) p₀ l e₀ (rmD (2)) s₀ m₀ (List.toArray [.ref (g.1 15), .int (nI (k + 1)), .int (nI s), .int (nI m), .int (nI a), .int (nI v)]) b₀ h₀ c₀ 10 0 0 (MQ b₀ (Qp (GS g) ((fun ret μ' => ret = none ∧ FrW (k + 1) μ μ' ∧ Lv T rel k (T 3 (if s = 0 then x else y)) (T 3 (if s = 0 then y else x)) (nl T x v r) μ'))) (List.toArray [.ref (g.1 15), .int (nI (k + 1)), .int (nI s), .int (nI m), .int (nI a), .int (nI v)]) s₀ 0 0 (gA (GS g))) 98 ([some (.ref (g.1 15)), some (.int (nI (k + 1))), some (.int (nI s)), some (.int (nI m)), some (.int (nI a)), some (.int (nI v)), some (.int (nI b)), some (.int (nI s')), some (.int (nI (2 * (k + 1) + s'))), some (.int (nI e))]) ([.int (nI (3 * (2 * (k + 1) + s') + (if s' = s then m else a))), .ref (g.1 29), .int (nI (2 * k + s')), .ref (g.1 15)]) (ν) := by
          have hb24 : 3 * (2 * (k + 1) + s') + (if s' = s then m else a) < 24 := by split <;> omega
          refine V_ia F dX4_next_98 rfl (rfl) (hb24) (ht) ?_
          refine V_iload F dX4_next_99 rfl ?_
          rw [he, ← hmd']
          refine V_callV F (q0 := 15) (c_lists (at_ := 2 * k + s') (p₁ := tg) (r := nl T x v r) (hF.mi hI) (by omega) htg hl' (by omega)) mi_X4_lists mm_X4_lists lk_X4_100 dX4_next_101 (rmR (by omega)) rfl rfl (by decide) (Nat.le_of_ble_eq_true rfl) rfl rfl rfl (fun r μ' h => ?_)
          obtain ⟨rfl, hFL, hLs⟩ := h
          refine V_iinc F (lv' := [_, _, _, _, _, _, _, _, _, _]) dX4_next_104 rfl (by decide) rfl rfl ?_
          refine V_goto F (tgt := 28) dX4_next_107 (by decide) ?_
          rw [show nI s' + Int32.ofInt 1 = nI (s' + 1) from nI_1 s']
          rw [hmd', ← he]
          exact K _ hFL hLs
        refine V_icmp_ne_N F (tgt := 95) dX4_next_88 (by decide) (by omega) (by omega) (fun hss => ?_) (fun hss => ?_)
        · rw [if_neg hss] at lst
          refine V_iload F dX4_next_95 rfl ?_
          (first | refine V_iaddN F dX4_next_97 ?_ | refine V_iadd F dX4_next_97 ?_)
          exact lst
        · rw [if_pos (Classical.not_not.mp hss)] at lst
          refine V_iload_n F dX4_next_91 rfl ?_
          refine V_goto F (tgt := 97) dX4_next_92 (by decide) ?_
          (first | refine V_iaddN F dX4_next_97 ?_ | refine V_iadd F dX4_next_97 ?_)
          exact lst
      refine V_iload F dX4_next_28 rfl ?_
      refine V_iconst F (v := nI 2) dX4_next_30 (by decide) ?_
      refine V_icmp_ge_N F (tgt := 110) dX4_next_31 (by decide) (by omega) (by omega) (fun hc => ?_) (fun hc => ?_)
      · omega
      · skip
        refine V_iconst F (v := nI 2) dX4_next_34 (by decide) ?_
        refine V_iload_n F dX4_next_35 rfl ?_
        (first | refine V_imulN F dX4_next_36 ?_ | refine V_imul F dX4_next_36 ?_)
        refine V_iload F dX4_next_37 rfl ?_
        (first | refine V_iaddN F dX4_next_39 ?_ | refine V_iadd F dX4_next_39 ?_)
        refine V_istore F (lv' := [_, _, _, _, _, _, _, _, _, _]) dX4_next_40 (by decide) rfl rfl ?_
        refine V_iload F dX4_next_42 rfl ?_
        by_cases h3 : T 0 x = 3
        · rw [if_pos h3] at hb he
          subst hb
          refine V_if_eq_f F (tgt := 63) dX4_next_44 (by decide) (by decide) ?_
          refine V_bipush F (v := nI 6) dX4_next_47 (by decide) ?_
          refine V_aload_n F dX4_next_49 rfl ?_
          refine V_getf F (q0 := 15) (j := 15) lk_X4_56 dX4_next_50 ig_X4 rfl rfl (by decide) rfl rfl ?_
          refine V_iload F dX4_next_53 rfl ?_
          refine V_ia F dX4_next_55 rfl (rfl) ((show 2 * (k + 1) + s' < 8 by omega)) (hwv) ?_
          (first | refine V_imulN F dX4_next_56 ?_ | refine V_imul F dX4_next_56 ?_)
          refine V_iload F dX4_next_57 rfl ?_
          (first | refine V_iaddN F dX4_next_59 ?_ | refine V_iadd F dX4_next_59 ?_)
          refine V_goto F (tgt := 70) dX4_next_60 (by decide) ?_
          rw [← he]
          exact after
        · rw [if_neg h3] at hb he
          subst hb
          refine V_if_eq_t F (tgt := 63) dX4_next_44 (by decide) (by decide) ?_
          refine V_aload_n F dX4_next_63 rfl ?_
          refine V_getf F (q0 := 15) (j := 15) lk_X4_56 dX4_next_64 ig_X4 rfl rfl (by decide) rfl rfl ?_
          refine V_iload F dX4_next_67 rfl ?_
          refine V_ia F dX4_next_69 rfl (rfl) ((show 2 * (k + 1) + s' < 8 by omega)) (hwv) ?_
          rw [← he]
          exact after
    refine V_iconst F (v := nI 0) dX4_next_25 (by decide) ?_
    refine V_istore F (lv' := [_, _, _, _, _, _, _, _, _, _]) dX4_next_26 (by decide) rfl rfl ?_
    have ht0 : μ.1 29 (3 * (2 * (k + 1) + 0) + (if 0 = s then m else a)) = nI (T 3 (if s = 0 then x else y)) := by
      rcases (by omega : s = 0 ∨ s = 1) with rfl | rfl
      · exact x29
      · exact y29
    have ht1 : μ.1 29 (3 * (2 * (k + 1) + 1) + (if 1 = s then m else a)) = nI (T 3 (if s = 0 then y else x)) := by
      rcases (by omega : s = 0 ∨ s = 1) with rfl | rfl
      · exact y29
      · exact x29
    refine go 0 _ (T 3 (if s = 0 then x else y)) μ none none (by omega) rfl (by split <;> assumption) (FrW.rfl' _ _) ht0 (fun ν1 hF1 hL1 => ?_)
    have hW1 : FrW (k + 1) μ ν1 := ⟨hF1.1, fun c i hc => hF1.2 c i (by omega)⟩
    refine go 1 _ (T 3 (if s = 0 then y else x)) ν1 _ _ (by omega) rfl (by split <;> assumption) hW1 ?_ (fun ν2 hF2 hL2 => ?_)
    · rw [hW1.2 _ _ (by split <;> omega)]
      exact ht1
    · have hl4 := mvs_len hW (show T 3 (if s = 0 then x else y) < n by split <;> assumption) (nl T x v r)
      exact tail ν2 _ _ (hW1.trans ⟨hF2.1, fun c i hc => hF2.2 c i (by omega)⟩) (hL1.ofL hF2 (by omega) hl4) hL2
  refine V_aload_n F dX4_next_0 rfl ?_
  refine V_getf F (q0 := 15) (j := 11) lk_X4_44 dX4_next_1 ig_X4 rfl rfl (by decide) rfl rfl ?_
  refine V_iconst F (v := nI 3) dX4_next_4 (by decide) ?_
  refine V_iconst F (v := nI 2) dX4_next_5 (by decide) ?_
  refine V_iload_n F dX4_next_6 rfl ?_
  (first | refine V_imulN F dX4_next_7 ?_ | refine V_imul F dX4_next_7 ?_)
  refine V_iload_n F dX4_next_8 rfl ?_
  (first | refine V_iaddN F dX4_next_9 ?_ | refine V_iadd F dX4_next_9 ?_)
  (first | refine V_imulN F dX4_next_10 ?_ | refine V_imul F dX4_next_10 ?_)
  refine V_iload_n F dX4_next_11 rfl ?_
  (first | refine V_iaddN F dX4_next_12 ?_ | refine V_iadd F dX4_next_12 ?_)
  refine V_ia F dX4_next_13 rfl (rfl) ((show 3 * (2 * (k + 1) + s) + m < 24 by omega)) (x26) ?_
  refine V_iconst F (v := nI 3) dX4_next_14 (by decide) ?_
  have kx := hW.kind bx.1
  refine V_icmp_ne_N F (tgt := 22) dX4_next_15 (by decide) (by omega) (by omega) (fun h3 => ?_) (fun h3 => ?_)
  · skip
    refine V_iconst F (v := nI 0) dX4_next_22 (by decide) ?_
    refine V_istore F (lv' := [_, _, _, _, _, _, _, _, _, _]) dX4_next_23 (by decide) rfl rfl ?_
    exact main 0 (by rw [if_neg h3])
  · skip
    refine V_iconst F (v := nI 1) dX4_next_18 (by decide) ?_
    refine V_goto F (tgt := 23) dX4_next_19 (by decide) ?_
    refine V_istore F (lv' := [_, _, _, _, _, _, _, _, _, _]) dX4_next_23 (by decide) rfl rfl ?_
    exact main 1 (by rw [if_pos (Classical.not_not.mp h3)])
end MODELF

