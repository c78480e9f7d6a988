section LAW
/-- a first memory: no process but 0 -/
def μj (μ : Mem) : Mem := (fun c => match c with | 1 => upd z32 0 (nI 1) | 11 => upd z32 0 (nI 1) | 15 => μ.1 15 | 16 => μ.1 16 | _ => z32, z64)
theorem ti_0 : ∀ f, f < 8 → Ti f 0 = 0 := by decide +kernel
theorem xi (μ : Mem) : XInv Ti 1 (μj μ) := by
  refine ⟨⟨wf_i, rfl, fun f p hf hp => ?_, fun p t a hp ha => ?_⟩, fun hi lo rel view _ _ _ _ => Or.inl rfl⟩
  · obtain rfl : p = 0 := by omega
    rcases (by omega : f = 0 ∨ f = 1 ∨ f = 2 ∨ f = 3 ∨ f = 4 ∨ f = 5 ∨ f = 6 ∨ f = 7 ∨ f = 8) with rfl | rfl | rfl | rfl | rfl | rfl | rfl | rfl | rfl <;> rfl
  · obtain rfl : p = 0 := by omega
    have e : acts Ti 0 = [] := by decide +kernel
    rw [e] at ha
    simp at ha
theorem dr_i (μ : Mem) (h : μ.1 16 = z32) : DR Ti 1 (μj μ) := by
  intro j hj
  obtain rfl : j = 0 := by omega
  show μ.1 16 0 = _
  rw [h]
  rfl
theorem wS_fst (cT : ClassId × ClassId) (α : Nat → Nat) (μ : Mem) : (wS cT α μ).map Prod.fst = (List.range 17).map α := rfl
theorem wS_at {cT : ClassId × ClassId} {α : Nat → Nat} {μ : Mem} {k : Nat} {q : Nat × va_E} (h : (wS cT α μ)[k]? = some q) : k < 17 ∧ q.1 = α k := by
  have hl : k < (wS cT α μ).length := (List.getElem?_eq_some_iff.mp h).1
  have hk : k < 17 := hl
  have h1 : ((wS cT α μ).map Prod.fst)[k]? = some q.1 := by rw [List.getElem?_map, h]; rfl
  rw [wS_fst, List.getElem?_map, List.getElem?_range hk] at h1
  exact ⟨hk, (Option.some.inj h1).symm⟩
theorem wS_ex (cT : ClassId × ClassId) (α : Nat → Nat) (μ : Mem) {k : Nat} (hk : k < 17) : ∃ q, (wS cT α μ)[k]? = some q ∧ q.1 = α k := by
  have hl : k < (wS cT α μ).length := hk
  exact ⟨_, List.getElem?_eq_getElem hl, (wS_at (List.getElem?_eq_getElem hl)).2⟩
theorem wS_D {A : Nat → Prop} {cT : ClassId × ClassId} {α : Nat → Nat} {μ₀ : Mem} (h : va_D A (wS cT α μ₀)) (μ : Mem) : va_D (AS α) (wS cT α μ) := by
  refine ⟨fun i j x y hx hy e => ?_, fun k q hk => ⟨k, (wS_at hk).1, (wS_at hk).2⟩⟩
  obtain ⟨x', hx1, hx2⟩ := wS_ex cT α μ₀ (wS_at hx).1
  obtain ⟨y', hy1, hy2⟩ := wS_ex cT α μ₀ (wS_at hy).1
  exact h.1 i j x' y' hx1 hy1 (by rw [hx2, hy2, ← (wS_at hx).2, ← (wS_at hy).2]; exact e)
theorem AS_D {A : Nat → Prop} {cT : ClassId × ClassId} {α : Nat → Nat} {μ₀ : Mem} (h : va_D A (wS cT α μ₀)) {q : Nat} (hq : AS α q) : A q := by
  obtain ⟨k, hk, rfl⟩ := hq
  obtain ⟨x, h1, h2⟩ := wS_ex cT α μ₀ hk
  rw [← h2]
  exact h.2 k x h1
/-- from the list of new cells to the world of 17 -/
theorem V_toGS {κ : Kp} {ws : va_W} {α : Nat → Nat} {p : Program} {l : Launch} {e : Env} {R : Room} {s : State} {m : MethodId} {args : Array Value} {below : List Frame} {meth : Method} {c : Code} {nL k n k' n' pc : Nat} {Z : State → Prop} {lv : List (Option Value)} {st : List Value} {μ μ₀ : Mem} (is : List Nat) (hs : is.filterMap (fun i => ws[i]?) = wS κ.2.1 α μ₀) (hk : k ≤ k') (hn : n ≤ n')
    (kk : V (GS (α, κ)) p l e R s m args below meth c nL k' n' Z pc lv st μ₀) : V (Gc κ s.heap.size ws) p l e R s m args below meth c nL k n Z pc lv st μ := by
  intro H locs ls hP hS hl
  refine va_forget (fun q hq => hS.2.2 q hq) (W.widen hk hn (kk H [] ls (va_P.sub hP is hs) ⟨hS.1, fun q h1 h2 => hS.2.1 q h1 (fun h3 => absurd h1 (Nat.not_lt.mpr h3)), fun _ h => by cases h⟩ hl))
/-- and back, with some of its cells -/
theorem V_fromGS {κ : Kp} {ws : va_W} {α : Nat → Nat} {p : Program} {l : Launch} {e : Env} {R : Room} {s : State} {m : MethodId} {args : Array Value} {below : List Frame} {meth : Method} {c : Code} {nL k n pc : Nat} {Z : State → Prop} {lv : List (Option Value)} {st : List Value} {μ : Mem} (hA : ∀ q, AS α q → s.heap.size ≤ q) (is : List Nat) (hs : is.filterMap (fun i => (wS κ.2.1 α μ)[i]?) = ws)
    (kk : V (Gc κ s.heap.size ws) p l e R s m args below meth c nL k n Z pc lv st μ) : V (GS (α, κ)) p l e R s m args below meth c nL k n Z pc lv st μ := by
  intro H locs ls hP hS hl
  exact kk H locs ls (va_P.sub hP is hs) ⟨hS.1, fun q h1 h2 => hS.2.1 q h1 (fun h3 => h2 (hA q h3)), fun q hq => hA _ (hS.2.2 q hq)⟩ hl
variable {p : Program} {l : Launch} {e : Env} {s : State} {m : MethodId} {below : List Frame} {meth : Method} {c : Code} {b L : Nat} {xs : Nat → Int32}
set_option maxHeartbeats 2000000 in
/-- the second object -/
theorem lw_b {κ : Kp} {α : Nat → Nat} (F : Fx (GS (α, κ)) p room_1 s m #[Value.ref b] meth c RL cL_law 22 ret 100 10000) (hA : ∀ q, AS α q → s.heap.size ≤ q) (hSt : ∀ (W : Mem → va_W) (A : Nat → Prop), (∀ q, A q → s.heap.size ≤ q) → (∀ μ, va_D A (W μ)) → St (W, A, κ.1, κ.2.1, κ.2.2.1, κ.2.2.2) s s.heap) {x y : Nat} (hx : x < 3) (hy : y < 3) (hne : x ≠ y) (μ : Mem) :
    V (GS (α, κ)) p l e room_1 s m #[Value.ref b] below meth c 22 100 10000 (lw_Z below #[Value.ref b] s) 682 [some (.ref b), none, none, none, none, some (.int (nI 1)), none, none, some (.int (nI x)), some (.int (nI y)), none, none, none, none, none, none, none, none, none, none, none, none] [] μ := by
  have hN : s.heap.size ≤ s.heap.size := Nat.le_refl _
  have hD0 : va_D (fun q => s.heap.size ≤ q) ([aI κ (α 15) 24 (μ.1 15), aI κ (α 16) 24 (μ.1 16)] : va_W) := by
    have h := va_D.sub (ws' := ([aI κ (α 15) 24 (μ.1 15), aI κ (α 16) 24 (μ.1 16)] : va_W)) (F.2.2.2.2.2.2.2.1.2.1 μ) [15, 16] (by decide +kernel) rfl
    exact ⟨h.1, fun k q hk => hA _ (h.2 k q hk)⟩
  have F0 : Fx (Gc κ s.heap.size [aI κ (α 15) 24 (μ.1 15), aI κ (α 16) 24 (μ.1 16)]) p room_1 s m #[Value.ref b] meth c RL cL_law 22 ret 100 10000 := ⟨F.1, F.2.1, F.2.2.1, F.2.2.2.1, F.2.2.2.2.1, F.2.2.2.2.2.1, F.2.2.2.2.2.2.1, hSt _ _ (fun q h => h) (fun _ => hD0), F.2.2.2.2.2.2.2.2⟩
  refine V_fromGS hA [15, 16] rfl ?_
  refine Vc_new hN F0 (ci := 2) (fs := [.null, .null]) dL_law_682 ig_X3 tyX3 tyX3_ok lk_L_20 mk_X3 mt_X3 rfl (by decide +kernel) ⟨Nat.le_of_ble_eq_true rfl, Nat.le_of_ble_eq_true rfl⟩ (fun a F1 => ?_)
  refine V_dup F1 dL_law_685 rfl ?_
  refine Vc_callI hN F1 (k_NPC (a := a)) mi_X3_init rfl mn_X3_init lk_L_59 dL_law_686 ⟨Nat.le_of_ble_eq_true rfl, Nat.le_of_ble_eq_true rfl⟩ ⟨Nat.le_of_ble_eq_true rfl, Nat.le_of_ble_eq_true rfl⟩ rfl rfl (by decide) (Nat.le_of_ble_eq_true rfl) (fun r w1 h F2 => ?_)
  obtain ⟨rfl, t, u, q0, q1, q2, q3, q4, q5, q6, q7, q8, q9, q10, q11, rfl⟩ := h
  refine V_astore_n F2 (lv' := [some (.ref b), some (.ref a), none, none, none, some (.int (nI 1)), none, none, some (.int (nI x)), some (.int (nI y)), none, none, none, none, none, none, none, none, none, none, none, none]) dL_law_689 (by decide) rfl rfl ?_
  have hD1 := F2.2.2.2.2.2.2.2.1.2.1 μ
  have hD2 := va_D.sub (ws' := wS κ.2.1 (fun k => ([a, t, u, q0, q1, q2, q3, q4, q5, q6, q7, q8, q9, q10, q11, α 15, α 16] : List Nat).getD k 0) (μj μ)) hD1 [14, 13, 1, 12, 11, 10, 9, 8, 7, 6, 5, 4, 3, 2, 0, 15, 16] (by decide +kernel) rfl
  refine V_toGS (α := fun k => ([a, t, u, q0, q1, q2, q3, q4, q5, q6, q7, q8, q9, q10, q11, α 15, α 16] : List Nat).getD k 0) (μ₀ := μj μ) (k' := 600000) (n' := 7302250) [14, 13, 1, 12, 11, 10, 9, 8, 7, 6, 5, 4, 3, 2, 0, 15, 16] rfl (Nat.le_of_ble_eq_true rfl) (Nat.le_of_ble_eq_true rfl) ?_
  have hA2 : ∀ q, AS (fun k => ([a, t, u, q0, q1, q2, q3, q4, q5, q6, q7, q8, q9, q10, q11, α 15, α 16] : List Nat).getD k 0) q → s.heap.size ≤ q := fun q hq => AS_D hD2 hq
  have FG : Fx (GS ((fun k => ([a, t, u, q0, q1, q2, q3, q4, q5, q6, q7, q8, q9, q10, q11, α 15, α 16] : List Nat).getD k 0), κ)) p room_1 s m #[Value.ref b] meth c RL cL_law 22 ret 600000 7302250 := ⟨F.1, F.2.1, F.2.2.1, F.2.2.2.1, F.2.2.2.2.1, F.2.2.2.2.2.1, F.2.2.2.2.2.2.1, hSt _ _ hA2 (wS_D hD2), Nat.le_refl _, Nat.le_refl _⟩
  exact lw_c FG hA2 hx hy hne (xi μ)
set_option maxHeartbeats 1000000 in
theorem lw_a {g : Gm} {T : Tb} {n : Nat} {μ : Mem} (hI : XInv T n μ) (F : Fx (GS g) p room_1 s m #[Value.ref b] meth c RL cL_law 22 ret 100 10000) (hX : va_X b L xs s s.heap) (hbl : b < s.heap.size) (hbA : ¬ AS g.1 b) (hL : L ≤ 2048) (hn : n ≤ 13) (hD : DR T n μ) (hend : ∀ x y, x < 3 → y < 3 → x ≠ y → ∀ μ : Mem, V (GS g) p l e room_1 s m #[Value.ref b] below meth c 22 100 10000 (lw_Z below #[Value.ref b] s) 682 ([some (.ref b), none, none, none, none, some (.int (nI 1)), none, none, some (.int (nI x)), some (.int (nI y)), none, none, none, none, none, none, none, none, none, none, none, none]) ([]) (μ)) : V (GS g) p l e room_1 s m #[Value.ref b] below meth c 22 100 10000 (lw_Z below #[Value.ref b] s) 73 ([some (.ref b), some (.ref (g.1 0)), some (.ref (g.1 15)), some (.ref (g.1 16)), some (.int (nI n)), some (.int (nI 1)), none, none, none, none, none, none, none, none, none, none, none, none, none, none, none, none]) ([]) (μ) := by
  have hn0 := hI.1.1.1.1
  refine V_iload F dL_law_73 rfl ?_
  refine V_if_eq_f F (tgt := 90) dL_law_75 (by decide) (by decide) ?_
  refine V_aload_n F dL_law_78 rfl ?_
  refine V_bipush F (v := nI 12) dL_law_79 (by decide) ?_
  refine V_callX F hX hbl hbA (c_cell (k := 12) (by omega) hL hbA) mi_L_cell ms_L_cell lk_L_60 dL_law_81 ⟨Nat.le_of_ble_eq_true rfl, Nat.le_of_ble_eq_true rfl⟩ rfl rfl (by decide) (Nat.le_of_ble_eq_true rfl) (fun r μ' h => ?_)
  obtain ⟨⟨w1, hw1, rfl⟩, hμ⟩ := h
  rw [hμ]
  clear hμ
  refine V_iload F dL_law_84 rfl ?_
  refine V_irem F dL_law_86 (nI_nz (by omega) (by omega)) ?_
  refine V_val F (pk_rem (by omega) (by omega) (by omega)) ?_
  refine V_goto F (tgt := 91) dL_law_87 (by decide) ?_
  refine V_istore F (lv' := [_, _, _, _, _, _, _, _, _, _, _, _, _, _, _, _, _, _, _, _, _, _]) dL_law_91 (by decide) rfl rfl ?_
  refine V_iload F dL_law_93 rfl ?_
  refine V_if_eq_f F (tgt := 113) dL_law_95 (by decide) (by decide) ?_
  refine V_aload_n F dL_law_98 rfl ?_
  refine V_bipush F (v := nI 12) dL_law_99 (by decide) ?_
  refine V_callX F hX hbl hbA (c_cell (k := 12) (by omega) hL hbA) mi_L_cell ms_L_cell lk_L_60 dL_law_101 ⟨Nat.le_of_ble_eq_true rfl, Nat.le_of_ble_eq_true rfl⟩ rfl rfl (by decide) (Nat.le_of_ble_eq_true rfl) (fun r μ' h => ?_)
  obtain ⟨⟨w2, hw2, rfl⟩, hμ⟩ := h
  rw [hμ]
  clear hμ
  refine V_bipush F (v := nI 6) dL_law_104 (by decide) ?_
  refine V_ishr F dL_law_106 ?_
  refine V_val F (pk_shrN (by omega) _ 6 (by decide +kernel)) ?_
  refine V_iload F dL_law_107 rfl ?_
  refine V_irem F dL_law_109 (nI_nz (by omega) (by omega)) ?_
  refine V_val F (pk_rem (by omega) (by omega) (by omega)) ?_
  refine V_goto F (tgt := 114) dL_law_110 (by decide) ?_
  refine V_istore F (lv' := [_, _, _, _, _, _, _, _, _, _, _, _, _, _, _, _, _, _, _, _, _, _]) dL_law_114 (by decide) rfl rfl ?_
  refine V_aload_n F dL_law_116 rfl ?_
  refine V_bipush F (v := nI 12) dL_law_117 (by decide) ?_
  refine V_callX F hX hbl hbA (c_cell (k := 12) (by omega) hL hbA) mi_L_cell ms_L_cell lk_L_60 dL_law_119 ⟨Nat.le_of_ble_eq_true rfl, Nat.le_of_ble_eq_true rfl⟩ rfl rfl (by decide) (Nat.le_of_ble_eq_true rfl) (fun r μ' h => ?_)
  obtain ⟨⟨w3, hw3, rfl⟩, hμ⟩ := h
  rw [hμ]
  clear hμ
  refine V_bipush F (v := nI 12) dL_law_122 (by decide) ?_
  refine V_ishr F dL_law_124 ?_
  refine V_val F (pk_shrN (by omega) _ 12 (by decide +kernel)) ?_
  refine V_iconst F (v := nI 3) dL_law_125 (by decide) ?_
  refine V_irem F dL_law_126 (by decide) ?_
  refine V_val F (pk_rem (by omega) (by omega) (by omega)) ?_
  refine V_istore F (lv' := [_, _, _, _, _, _, _, _, _, _, _, _, _, _, _, _, _, _, _, _, _, _]) dL_law_127 (by decide) rfl rfl ?_
  refine V_iload F dL_law_129 rfl ?_
  refine V_iconst F (v := nI 1) dL_law_131 (by decide) ?_
  (first | refine V_iaddN F dL_law_132 ?_ | refine V_iadd F dL_law_132 ?_)
  refine V_aload_n F dL_law_133 rfl ?_
  refine V_bipush F (v := nI 12) dL_law_134 (by decide) ?_
  refine V_callX F hX hbl hbA (c_cell (k := 12) (by omega) hL hbA) mi_L_cell ms_L_cell lk_L_60 dL_law_136 ⟨Nat.le_of_ble_eq_true rfl, Nat.le_of_ble_eq_true rfl⟩ rfl rfl (by decide) (Nat.le_of_ble_eq_true rfl) (fun r μ' h => ?_)
  obtain ⟨⟨w4, hw4, rfl⟩, hμ⟩ := h
  rw [hμ]
  clear hμ
  refine V_bipush F (v := nI 14) dL_law_139 (by decide) ?_
  refine V_ishr F dL_law_141 ?_
  refine V_val F (pk_shrN (by omega) _ 14 (by decide +kernel)) ?_
  refine V_iconst F (v := nI 2) dL_law_142 (by decide) ?_
  refine V_irem F dL_law_143 (by decide) ?_
  refine V_val F (pk_rem (by omega) (by omega) (by omega)) ?_
  (first | refine V_iaddN F dL_law_144 ?_ | refine V_iadd F dL_law_144 ?_)
  refine V_iconst F (v := nI 3) dL_law_145 (by decide) ?_
  refine V_irem F dL_law_146 (by decide) ?_
  refine V_val F (pk_rem (by omega) (by omega) (by omega)) ?_
  refine V_istore F (lv' := [_, _, _, _, _, _, _, _, _, _, _, _, _, _, _, _, _, _, _, _, _, _]) dL_law_147 (by decide) rfl rfl ?_
  have hi := Nat.mod_lt w1 (show 0 < n by omega)
  have hj := Nat.mod_lt (w2 / 2 ^ 6) (show 0 < n by omega)
  have hx := Nat.mod_lt (w3 / 2 ^ 12) (show 0 < 3 by omega)
  have hd := Nat.mod_lt (w4 / 2 ^ 14) (show 0 < 2 by omega)
  have hy := Nat.mod_lt (w3 / 2 ^ 12 % 3 + 1 + w4 / 2 ^ 14 % 2) (show 0 < 3 by omega)
  have hne : w3 / 2 ^ 12 % 3 ≠ (w3 / 2 ^ 12 % 3 + 1 + w4 / 2 ^ 14 % 2) % 3 := by
    generalize w3 / 2 ^ 12 % 3 = x at hx ⊢
    generalize w4 / 2 ^ 14 % 2 = d at hd ⊢
    omega
  exact V_msk [true, true, false, true, false, true, true, true, true, true, false, false, false, false, false, false, false, false, false, false, false, false] rfl (ld_1 F hI hX hbl hbA hL (by omega) hD hi hj hne hx hy (hend _ _ hx hy hne))
set_option maxHeartbeats 1000000 in
theorem lw_loop {g : Gm} (F : Fx (GS g) p room_1 s m #[Value.ref b] meth c RL cL_law 22 ret 100 10000) (hX : va_X b L xs s s.heap) (hbl : b < s.heap.size) (hbA : ¬ AS g.1 b) (hL : L ≤ 2048) (hend : ∀ x y, x < 3 → y < 3 → x ≠ y → ∀ μ : Mem, V (GS g) p l e room_1 s m #[Value.ref b] below meth c 22 100 10000 (lw_Z below #[Value.ref b] s) 682 ([some (.ref b), none, none, none, none, some (.int (nI 1)), none, none, some (.int (nI x)), some (.int (nI y)), none, none, none, none, none, none, none, none, none, none, none, none]) ([]) (μ)) : ∀ (d k n : Nat) (T : Tb) (μ : Mem), k + d = 12 → n ≤ k + 1 → XInv T n μ → DR T n μ → V (GS g) p l e room_1 s m #[Value.ref b] below meth c 22 100 10000 (lw_Z below #[Value.ref b] s) 27 ([some (.ref b), some (.ref (g.1 0)), some (.ref (g.1 15)), some (.ref (g.1 16)), some (.int (nI n)), some (.int (nI 1)), some (.int (nI k)), none, none, none, none, none, none, none, none, none, none, none, none, none, none, none]) ([]) (μ) := by
  intro d
  induction d with
  | zero =>
    intro k n T μ hk hn hI hD
    refine V_iload F dL_law_27 rfl ?_
    refine V_bipush F (v := nI 12) dL_law_29 (by decide) ?_
    refine V_icmp_ge_N F (tgt := 73) dL_law_31 (by decide) (by omega) (by omega) (fun h => ?_) (fun h => ?_)
    · exact V_msk [true, true, true, true, true, true, false, false, false, false, false, false, false, false, false, false, false, false, false, false, false, false] rfl (lw_a hI F hX hbl hbA hL (by omega) hD hend)
    · omega
  | succ d ih =>
    intro k n T μ hk hn hI hD
    have hn0 := hI.1.1.1.1
    refine V_iload F dL_law_27 rfl ?_
    refine V_bipush F (v := nI 12) dL_law_29 (by decide) ?_
    refine V_icmp_ge_N F (tgt := 73) dL_law_31 (by decide) (by omega) (by omega) (fun h => ?_) (fun h => ?_)
    · omega
    · skip
      refine V_iload F dL_law_34 rfl ?_
      refine V_if_eq_f F (tgt := 73) dL_law_36 (by decide) (by decide) ?_
      refine V_aload_n F dL_law_39 rfl ?_
      refine V_aload_n F dL_law_40 rfl ?_
      refine V_iload F dL_law_41 rfl ?_
      refine V_callX F hX hbl hbA (c_cell (k := k) (by omega) hL hbA) mi_L_cell ms_L_cell lk_L_60 dL_law_43 ⟨Nat.le_of_ble_eq_true rfl, Nat.le_of_ble_eq_true rfl⟩ rfl rfl (by decide) (Nat.le_of_ble_eq_true rfl) (fun r μ' h => ?_)
      obtain ⟨⟨w, hw, rfl⟩, hμ⟩ := h
      rw [hμ]
      clear hμ
      refine V_iload F dL_law_46 rfl ?_
      refine V_aload_n F dL_law_48 rfl ?_
      refine V_aload_n F dL_law_49 rfl ?_
      refine V_callS F (c_adds hI hD (by omega) hw) mi_L_adds ms_L_adds lk_L_64 dL_law_50 ⟨Nat.le_of_ble_eq_true rfl, Nat.le_of_ble_eq_true rfl⟩ rfl rfl (by decide) (Nat.le_of_ble_eq_true rfl) (fun r μ' h => ?_)
      obtain ⟨T', n', rfl, h1, h2, hI', hD'⟩ := h
      refine V_istore F (lv' := [_, _, _, _, _, _, _, _, _, _, _, _, _, _, _, _, _, _, _, _, _, _]) dL_law_53 (by decide) rfl rfl ?_
      refine V_iload F dL_law_55 rfl ?_
      refine V_if_le_f F (tgt := 64) dL_law_57 (by decide) (nI_nle (by omega) (by omega)) ?_
      refine V_iconst F (v := nI 1) dL_law_60 (by decide) ?_
      refine V_goto F (tgt := 65) dL_law_61 (by decide) ?_
      refine V_istore F (lv' := [_, _, _, _, _, _, _, _, _, _, _, _, _, _, _, _, _, _, _, _, _, _]) dL_law_65 (by decide) rfl rfl ?_
      refine V_iinc F (lv' := [_, _, _, _, _, _, _, _, _, _, _, _, _, _, _, _, _, _, _, _, _, _]) dL_law_67 rfl (by decide) rfl rfl ?_
      refine V_goto F (tgt := 27) dL_law_70 (by decide) ?_
      rw [show nI k + Int32.ofInt 1 = nI (k + 1) from nI_1 k]
      exact ih (k + 1) n' T' μ' (by omega) (by omega) hI' hD'
set_option maxHeartbeats 2000000 in
/-- YOUR PART: from the entry, for every script of at most 260 ints, the law comes to its end with true -/
theorem whole_start {p : Program} {e : Env} {s : State} {m : MethodId} {below : List Frame} {meth : Method} {c : Code} (l : Launch) (hflags : l.flags = flags0) {b L : Nat} {xs : Nat → Int32} (hL : L ≤ 260) (C0 : lw_At p s m meth c b L xs) : W p l e room_1 s m #[Value.ref b] below meth c s.heap [] 0 0 (lw_Z below #[Value.ref b] s) (entryFrame m ([Value.ref b] : List Value).toArray 22) := by
  obtain ⟨κ, hSt⟩ := law_entry C0
  obtain ⟨hx, hb, hr, hml, hown, hts, hX, hbl, hlk, hgv⟩ := C0
  have hG : ∀ w ∈ wsG, w.before #[Value.ref b] s = true := fun w hw => hts w (wsG_in hw)
  have hD0 : va_D (fun q => s.heap.size ≤ q) ([] : va_W) := ⟨fun i j x y hx => by simp at hx, fun k q hk => by simp at hk⟩
  have hN : s.heap.size ≤ s.heap.size := Nat.le_refl _
  have F : Fx (Gc κ s.heap.size []) p room_1 s m #[Value.ref b] meth c RL cL_law 22 ret 0 0 := ⟨hx, hb, hr, hlk, hml, hown, hG, hSt _ _ (fun q h => h) (fun _ => hD0), Nat.zero_le _, Nat.zero_le _⟩
  have hl := lv_entry [Value.ref b] (n := 22) (Nat.le_of_ble_eq_true rfl)
  rw [lg_entry_eq]
  suffices key : V (Gc κ s.heap.size []) p l e room_1 s m #[Value.ref b] below meth c 22 0 0 (lw_Z below #[Value.ref b] s) 0 [some (.ref b), none, none, none, none, none, none, none, none, none, none, none, none, none, none, none, none, none, none, none, none, none] [] (μj (fun _ => z32, z64)) from
    key s.heap [] _ (fun k q hk => by have h2 : ([] : va_W)[k]? = some q := hk; simp at h2) va_S.rf hl
  refine Vc_new hN F (ci := 2) (fs := [.null, .null]) dL_law_0 ig_X3 tyX3 tyX3_ok lk_L_20 mk_X3 mt_X3 rfl (by decide +kernel) ⟨Nat.le_of_ble_eq_true rfl, Nat.le_of_ble_eq_true rfl⟩ (fun a F => ?_)
  refine V_dup F dL_law_3 rfl ?_
  refine Vc_callI hN F (k_NPC (a := a)) mi_X3_init rfl mn_X3_init lk_L_59 dL_law_4 ⟨Nat.le_of_ble_eq_true rfl, Nat.le_of_ble_eq_true rfl⟩ ⟨Nat.le_of_ble_eq_true rfl, Nat.le_of_ble_eq_true rfl⟩ rfl rfl (by decide) (Nat.le_of_ble_eq_true rfl) (fun r w1 h F => ?_)
  obtain ⟨rfl, t, u, q0, q1, q2, q3, q4, q5, q6, q7, q8, q9, q10, q11, rfl⟩ := h
  refine V_astore_n F (lv' := [some (.ref b), some (.ref a), none, none, none, none, none, none, none, none, none, none, none, none, none, none, none, none, none, none, none, none]) dL_law_7 (by decide) rfl rfl ?_
  refine V_bipush F (v := nI 24) dL_law_8 (by decide) ?_
  refine Vc_newI hN F (N := 24) dL_law_10 (by decide) ⟨Nat.le_of_ble_eq_true rfl, Nat.le_of_ble_eq_true rfl⟩ (fun v F => ?_)
  refine V_astore_n F (lv' := [some (.ref b), some (.ref a), some (.ref v), none, none, none, none, none, none, none, none, none, none, none, none, none, none, none, none, none, none, none]) dL_law_12 (by decide) rfl rfl ?_
  refine V_bipush F (v := nI 24) dL_law_13 (by decide) ?_
  refine Vc_newI hN F (N := 24) dL_law_15 (by decide) ⟨Nat.le_of_ble_eq_true rfl, Nat.le_of_ble_eq_true rfl⟩ (fun z F => ?_)
  refine V_astore_n F (lv' := [some (.ref b), some (.ref a), some (.ref v), some (.ref z), none, none, none, none, none, none, none, none, none, none, none, none, none, none, none, none, none, none]) dL_law_17 (by decide) rfl rfl ?_
  refine V_iconst F (v := nI 1) dL_law_18 (by decide) ?_
  refine V_istore F (lv' := [_, _, _, _, _, _, _, _, _, _, _, _, _, _, _, _, _, _, _, _, _, _]) dL_law_19 (by decide) rfl rfl ?_
  refine V_iconst F (v := nI 1) dL_law_21 (by decide) ?_
  refine V_istore F (lv' := [_, _, _, _, _, _, _, _, _, _, _, _, _, _, _, _, _, _, _, _, _, _]) dL_law_22 (by decide) rfl rfl ?_
  refine V_iconst F (v := nI 0) dL_law_24 (by decide) ?_
  refine V_istore F (lv' := [_, _, _, _, _, _, _, _, _, _, _, _, _, _, _, _, _, _, _, _, _, _]) dL_law_25 (by decide) rfl rfl ?_
  have hD1 := F.2.2.2.2.2.2.2.1.2.1 (μj (fun _ => z32, z64))
  have hD2 := va_D.sub (ws' := wS κ.2.1 (fun k => ([a, t, u, q0, q1, q2, q3, q4, q5, q6, q7, q8, q9, q10, q11, v, z] : List Nat).getD k 0) (μj (fun _ => z32, z64))) hD1 [16, 15, 3, 14, 13, 12, 11, 10, 9, 8, 7, 6, 5, 4, 2, 1, 0] (by decide +kernel) rfl
  refine V_toGS (α := fun k => ([a, t, u, q0, q1, q2, q3, q4, q5, q6, q7, q8, q9, q10, q11, v, z] : List Nat).getD k 0) (μ₀ := μj (fun _ => z32, z64)) (k' := 100) (n' := 10000) [16, 15, 3, 14, 13, 12, 11, 10, 9, 8, 7, 6, 5, 4, 2, 1, 0] rfl (Nat.le_of_ble_eq_true rfl) (Nat.le_of_ble_eq_true rfl) ?_
  have hA : ∀ q, AS (fun k => ([a, t, u, q0, q1, q2, q3, q4, q5, q6, q7, q8, q9, q10, q11, v, z] : List Nat).getD k 0) q → s.heap.size ≤ q := fun q hq => AS_D hD2 hq
  have FG : Fx (GS ((fun k => ([a, t, u, q0, q1, q2, q3, q4, q5, q6, q7, q8, q9, q10, q11, v, z] : List Nat).getD k 0), κ)) p room_1 s m #[Value.ref b] meth c RL cL_law 22 ret 100 10000 := ⟨hx, hb, hr, hlk, hml, hown, hG, hSt _ _ hA (wS_D hD2), (Nat.le_of_ble_eq_true rfl), (Nat.le_of_ble_eq_true rfl)⟩
  exact lw_loop FG hX hbl (fun h => absurd hbl (Nat.not_lt.mpr (hA b h))) (by omega) (fun x y hx hy hne μ => lw_b FG hA hSt hx hy hne μ) 12 0 1 Ti _ (by omega) (by omega) (xi _) (dr_i _ rfl)
end LAW

