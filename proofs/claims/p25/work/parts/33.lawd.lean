section LAWD
variable {g : Gm} {p : Program} {l : Launch} {e : Env} {s : State} {m : MethodId} {below : List Frame} {meth : Method} {c : Code} {b L : Nat} {xs : Nat → Int32} {ck cn : Nat} {T : Tb} {n i j x y r : Nat}
set_option maxHeartbeats 1000000 in
theorem ld_6 (F : Fx (GS g) p room_1 s m #[Value.ref b] meth c RL cL_law 22 ret ck cn) {μ : Mem} (hI : XInv T n μ) (hn : n + 2 ≤ 24) (hi : PI T n μ i) (hj : PI T n μ j) (h5i : T 5 i ≤ 2) (h5j : T 5 j ≤ 2) (hr : r < 3) (hx : x < 3) (hy : y < 3) (hend : ∀ μ : Mem, V (GS g) p l e room_1 s m #[Value.ref b] below meth c 22 ck cn (lw_Z below #[Value.ref b] s) 682 ([some (.ref b), none, none, none, none, some (.int (nI 1)), none, none, some (.int (nI x)), some (.int (nI y)), none, none, none, none, none, none, none, none, none, none, none, none]) ([]) (μ)) : V (GS g) p l e room_1 s m #[Value.ref b] below meth c 22 ck cn (lw_Z below #[Value.ref b] s) 605 ([some (.ref b), some (.ref (g.1 0)), none, some (.ref (g.1 16)), none, some (.int (nI 1)), some (.int (nI i)), some (.int (nI j)), some (.int (nI x)), some (.int (nI y)), some (.int (nI r)), none, none, none, none, none, none, some (.int (rdI T r i j)), none, none, none, none]) ([]) (μ) := by
  obtain ⟨hi1, hi2, vi, hi3, hi4, hi5⟩ := id hi
  obtain ⟨hj1, hj2, vj, hj3, hj4, hj5⟩ := id hj
  have hW := hI.1.1
  refine V_aload_n F dL_law_605 rfl ?_
  refine V_iload F dL_law_606 rfl ?_
  refine V_iload F dL_law_608 rfl ?_
  refine V_callV F (q0 := 0) (c_input hI _ _) mi_X3_input mm_X3_input lk_L_28 dL_law_610 ⟨Nat.le_of_ble_eq_true rfl, Nat.le_of_ble_eq_true rfl⟩ rfl rfl (by decide) (Nat.le_of_ble_eq_true rfl) rfl rfl rfl (fun r μ' h => ?_)
  obtain ⟨rfl, hI1, hs1⟩ := bq_fit (bq_in h (by omega) hi1 (by omega)) (fit_act hW (by omega) (by omega) h5i)
  refine V_istore F (lv' := [_, _, _, _, _, _, _, _, _, _, _, _, _, _, _, _, _, _, _, _, _, _]) dL_law_613 (by decide) rfl rfl ?_
  refine V_aload_n F dL_law_615 rfl ?_
  refine V_iload F dL_law_616 rfl ?_
  refine V_iload F dL_law_618 rfl ?_
  refine V_callV F (q0 := 0) (c_input hI1 _ _) mi_X3_input mm_X3_input lk_L_28 dL_law_620 ⟨Nat.le_of_ble_eq_true rfl, Nat.le_of_ble_eq_true rfl⟩ rfl rfl (by decide) (Nat.le_of_ble_eq_true rfl) rfl rfl rfl (fun r μ' h => ?_)
  obtain ⟨rfl, hI2, hs2⟩ := bq_fit (bq_in h (by omega) (by omega) (by omega)) (fit_act hI1.1.1 (by omega) (by omega) (by rw [bT_old (by omega)]; exact h5j))
  obtain ⟨m1, -, m3, m4, m5, m6, m7⟩ := pfx2 hW hI2.1.1 (k := 3) (x := x) (z := 0) (by omega) (by omega) hx (by omega) hi1 hj1 hi2 hj2 h5i h5j r
  refine V_istore F (lv' := [_, _, _, _, _, _, _, _, _, _, _, _, _, _, _, _, _, _, _, _, _, _]) dL_law_623 (by decide) rfl rfl ?_
  refine V_iload F dL_law_625 rfl ?_
  refine V_if_eq_f F (tgt := 679) dL_law_627 (by decide) (by decide) ?_
  refine V_aload_n F dL_law_630 rfl ?_
  refine V_iload F dL_law_631 rfl ?_
  refine V_iload F dL_law_633 rfl ?_
  refine V_iload F dL_law_635 rfl ?_
  refine V_callV F (q0 := 0) (c_rounds hI2 _ _ _) mi_X3_rounds mm_X3_rounds lk_L_56 dL_law_637 ⟨Nat.le_of_ble_eq_true rfl, Nat.le_of_ble_eq_true rfl⟩ rfl rfl (by decide) (Nat.le_of_ble_eq_true rfl) rfl rfl rfl (fun r μ' h => ?_)
  obtain ⟨rfl, hMe, hSw⟩ := h
  have hI3 := hI2.of_W hSw hMe
  have hshI3 := sameM_W hSw
  have e16 : μ'.1 16 j = nI vj := by rw [hshI3 16 (by omega), hs2 16 (by omega), hs1 16 (by omega)]; exact hj4
  have m657 : V (GS g) p l e room_1 s m #[Value.ref b] below meth c 22 ck cn (lw_Z below #[Value.ref b] s) 657 ([some (.ref b), some (.ref (g.1 0)), none, some (.ref (g.1 16)), none, some (.int (nI 1)), some (.int (nI i)), some (.int (nI j)), some (.int (nI x)), some (.int (nI y)), some (.int (nI r)), none, none, none, none, none, none, some (.int (rdI T r i j)), none, none, some (.int (nI n)), some (.int (nI (n + 1)))]) ([]) (μ') := by
    refine V_aload_n F dL_law_657 rfl ?_
    refine V_iload F dL_law_658 rfl ?_
    refine V_callVi F (q0 := 0) (c_depthOf hI3.1 _) mi_X3_depthOf mm_X3_depthOf lk_L_84 dL_law_660 ⟨Nat.le_of_ble_eq_true rfl, Nat.le_of_ble_eq_true rfl⟩ rfl rfl (by decide) (Nat.le_of_ble_eq_true rfl) rfl rfl rfl ?_
    rw [rFld_ok (by omega) (by omega), m5]
    refine V_aload_n F dL_law_663 rfl ?_
    refine V_iload F dL_law_664 rfl ?_
    refine V_ia F dL_law_666 rfl (rfl) (show j < 24 by omega) (e16) ?_
    refine V_bipush F (v := nI 64) dL_law_667 (by decide) ?_
    refine V_idiv F dL_law_669 (by decide) ?_
    refine V_val F (pk_div (by omega) (by omega) (by omega)) ?_
    refine V_val F (congrArg nI hj5) ?_
    refine V_iconst F (v := nI 1) dL_law_670 (by decide) ?_
    (first | refine V_iaddN F dL_law_671 ?_ | refine V_iadd F dL_law_671 ?_)
    refine V_icmp_ne_f F (tgt := 679) dL_law_672 (by decide) (rfl) ?_
    refine V_iconst F (v := nI 1) dL_law_675 (by decide) ?_
    refine V_goto F (tgt := 680) dL_law_676 (by decide) ?_
    refine V_istore F (lv' := [_, _, _, _, _, _, _, _, _, _, _, _, _, _, _, _, _, _, _, _, _, _]) dL_law_680 (by decide) rfl rfl ?_
    exact V_msk [true, false, false, false, false, true, false, false, true, true, false, false, false, false, false, false, false, false, false, false, false, false] rfl (hend _)
  refine V_iload F dL_law_640 rfl ?_
  by_cases h4 : rnd T r i j = 4
  · have eR : rdI T r i j = -4 := if_pos h4
    rw [eR] at m657 ⊢
    rw [a_rnd4 (by omega) (by omega) (by omega) hr m3 m4 (m1.trans (if_pos h4))]
    refine V_if_ge_f F (tgt := 650) dL_law_642 (by decide) (by decide) ?_
    refine V_bipush F (v := (-4)) dL_law_645 (by decide) ?_
    refine V_goto F (tgt := 654) dL_law_647 (by decide) ?_
    refine V_icmp_ne_f F (tgt := 679) dL_law_654 (by decide) (rfl) ?_
    exact m657
  · have eR : rdI T r i j = nI (rnd T r i j) := if_neg h4
    have h2 := rnd_two hW r hi1 hj1 h5i h5j h4
    rw [eR] at m657 ⊢
    rw [a_rnd (by omega) (by omega) (by omega) hr m3 m4 (m1.trans (if_neg h4)) (by omega)]
    refine V_if_ge_t F (tgt := 650) dL_law_642 (by decide) (nI_ge0 (by omega)) ?_
    refine V_iload F dL_law_650 rfl ?_
    refine V_iconst F (v := nI 1) dL_law_652 (by decide) ?_
    (first | refine V_iaddN F dL_law_653 ?_ | refine V_iadd F dL_law_653 ?_)
    refine V_icmp_ne_f F (tgt := 679) dL_law_654 (by decide) (rfl) ?_
    exact m657
set_option maxHeartbeats 1000000 in
theorem ld_5 (F : Fx (GS g) p room_1 s m #[Value.ref b] meth c RL cL_law 22 ret ck cn) {μ : Mem} (hI : XInv T n μ) (hn : n + 2 ≤ 24) (hi : PI T n μ i) (hj : PI T n μ j) (h5i : T 5 i ≤ 2) (h5j : T 5 j ≤ 2) (hr : r < 3) (hx : x < 3) (hy : y < 3) (hend : ∀ μ : Mem, V (GS g) p l e room_1 s m #[Value.ref b] below meth c 22 ck cn (lw_Z below #[Value.ref b] s) 682 ([some (.ref b), none, none, none, none, some (.int (nI 1)), none, none, some (.int (nI x)), some (.int (nI y)), none, none, none, none, none, none, none, none, none, none, none, none]) ([]) (μ)) : V (GS g) p l e room_1 s m #[Value.ref b] below meth c 22 ck cn (lw_Z below #[Value.ref b] s) 504 ([some (.ref b), some (.ref (g.1 0)), none, some (.ref (g.1 16)), none, some (.int (nI 1)), some (.int (nI i)), some (.int (nI j)), some (.int (nI x)), some (.int (nI y)), some (.int (nI r)), none, none, none, none, none, none, some (.int (rdI T r i j)), none, none, none, none]) ([]) (μ) := by
  obtain ⟨hi1, hi2, vi, hi3, hi4, hi5⟩ := id hi
  obtain ⟨hj1, hj2, vj, hj3, hj4, hj5⟩ := id hj
  have hW := hI.1.1
  refine V_aload_n F dL_law_504 rfl ?_
  refine V_iload F dL_law_505 rfl ?_
  refine V_iload F dL_law_507 rfl ?_
  refine V_iload F dL_law_509 rfl ?_
  refine V_callV F (q0 := 0) (c_output hI _ _ _) mi_X3_output mm_X3_output lk_L_24 dL_law_511 ⟨Nat.le_of_ble_eq_true rfl, Nat.le_of_ble_eq_true rfl⟩ rfl rfl (by decide) (Nat.le_of_ble_eq_true rfl) rfl rfl rfl (fun r μ' h => ?_)
  obtain ⟨rfl, hI1, hs1⟩ := bq_fit (bq_out h (by omega) (by omega) hi1 (by omega)) (fit_act hW (by omega) (by omega) h5i)
  refine V_istore F (lv' := [_, _, _, _, _, _, _, _, _, _, _, _, _, _, _, _, _, _, _, _, _, _]) dL_law_514 (by decide) rfl rfl ?_
  refine V_aload_n F dL_law_516 rfl ?_
  refine V_iload F dL_law_517 rfl ?_
  refine V_iload F dL_law_519 rfl ?_
  refine V_iload F dL_law_521 rfl ?_
  refine V_callV F (q0 := 0) (c_output hI1 _ _ _) mi_X3_output mm_X3_output lk_L_24 dL_law_523 ⟨Nat.le_of_ble_eq_true rfl, Nat.le_of_ble_eq_true rfl⟩ rfl rfl (by decide) (Nat.le_of_ble_eq_true rfl) rfl rfl rfl (fun r μ' h => ?_)
  obtain ⟨rfl, hI2, hs2⟩ := bq_fit (bq_out h (by omega) (by omega) (by omega) (by omega)) (fit_act hI1.1.1 (by omega) (by omega) (by rw [bT_old (by omega)]; exact h5j))
  obtain ⟨m1, m2, m3, m4, m5, m6, m7⟩ := pfx2 hW hI2.1.1 (k := 2) (x := x) (z := y) (by omega) (by omega) hx hy hi1 hj1 hi2 hj2 h5i h5j r
  refine V_istore F (lv' := [_, _, _, _, _, _, _, _, _, _, _, _, _, _, _, _, _, _, _, _, _, _]) dL_law_526 (by decide) rfl rfl ?_
  refine V_iload F dL_law_528 rfl ?_
  refine V_if_eq_f F (tgt := 602) dL_law_530 (by decide) (by decide) ?_
  refine V_aload_n F dL_law_533 rfl ?_
  refine V_iload F dL_law_534 rfl ?_
  refine V_iload F dL_law_536 rfl ?_
  refine V_iload F dL_law_538 rfl ?_
  refine V_callV F (q0 := 0) (c_rounds hI2 _ _ _) mi_X3_rounds mm_X3_rounds lk_L_56 dL_law_540 ⟨Nat.le_of_ble_eq_true rfl, Nat.le_of_ble_eq_true rfl⟩ rfl rfl (by decide) (Nat.le_of_ble_eq_true rfl) rfl rfl rfl (fun r μ' h => ?_)
  obtain ⟨rfl, hMe, hSw⟩ := h
  have hI3 := hI2.of_W hSw hMe
  have hshI3 := sameM_W hSw
  have hs3 : sameM μ μ' := fun q hq => by rw [hshI3 q hq, hs2 q hq, hs1 q hq]
  have m580 : ∀ ν : Mem, XInv (bT (bT T n 2 x y i 0) (n + 1) 2 x y j 0) (n + 1 + 1) ν → sameM μ ν → V (GS g) p l e room_1 s m #[Value.ref b] below meth c 22 ck cn (lw_Z below #[Value.ref b] s) 580 ([some (.ref b), some (.ref (g.1 0)), none, some (.ref (g.1 16)), none, some (.int (nI 1)), some (.int (nI i)), some (.int (nI j)), some (.int (nI x)), some (.int (nI y)), some (.int (nI r)), none, none, none, none, none, none, some (.int (rdI T r i j)), some (.int (nI n)), some (.int (nI (n + 1))), none, none]) ([]) (ν) := by
    intro ν hIν hsν
    refine V_aload_n F dL_law_580 rfl ?_
    refine V_callV F (q0 := 0) (c_removeLast hIν) mi_X3_removeLast mm_X3_removeLast lk_L_78 dL_law_581 ⟨Nat.le_of_ble_eq_true rfl, Nat.le_of_ble_eq_true rfl⟩ rfl rfl (by decide) (Nat.le_of_ble_eq_true rfl) rfl rfl rfl (fun r μ' h => ?_)
    obtain ⟨rfl, hI4, hs4⟩ := rq_less h (by omega)
    refine V_iload F dL_law_584 rfl ?_
    refine V_icmp_ne_f F (tgt := 602) dL_law_586 (by decide) (rfl) ?_
    refine V_aload_n F dL_law_589 rfl ?_
    refine V_callV F (q0 := 0) (c_removeLast hI4) mi_X3_removeLast mm_X3_removeLast lk_L_78 dL_law_590 ⟨Nat.le_of_ble_eq_true rfl, Nat.le_of_ble_eq_true rfl⟩ rfl rfl (by decide) (Nat.le_of_ble_eq_true rfl) rfl rfl rfl (fun r μ' h => ?_)
    obtain ⟨rfl, hI5, hs5⟩ := rq_less h hW.1.1
    refine V_iload F dL_law_593 rfl ?_
    refine V_icmp_ne_f F (tgt := 602) dL_law_595 (by decide) (rfl) ?_
    refine V_iconst F (v := nI 1) dL_law_598 (by decide) ?_
    refine V_goto F (tgt := 603) dL_law_599 (by decide) ?_
    refine V_istore F (lv' := [_, _, _, _, _, _, _, _, _, _, _, _, _, _, _, _, _, _, _, _, _, _]) dL_law_603 (by decide) rfl rfl ?_
    have hs6 : sameM μ μ' := fun q hq => by rw [hs5 q hq, hs4 q hq, hsν q hq]
    have key := ld_6 F hI5 hn (hi.step (fun f => m6 f i hi1) hi1 hs6) (hj.step (fun f => m6 f j hj1) hj1 hs6) (by rw [m6 5 i hi1]; exact h5i) (by rw [m6 5 j hj1]; exact h5j) hr hx hy hend
    unfold rdI at key
    rw [m7] at key
    exact V_msk [true, true, false, true, false, true, true, true, true, true, true, false, false, false, false, false, false, true, false, false, false, false] rfl key
  refine V_iload F dL_law_543 rfl ?_
  by_cases h4 : rnd T r i j = 4
  · have eR : rdI T r i j = -4 := if_pos h4
    rw [eR] at m580 ⊢
    rw [a_rnd4 (by omega) (by omega) (by omega) hr m3 m4 (m1.trans (if_pos h4))]
    refine V_if_ge_f F (tgt := 553) dL_law_545 (by decide) (by decide) ?_
    refine V_bipush F (v := (-4)) dL_law_548 (by decide) ?_
    refine V_goto F (tgt := 557) dL_law_550 (by decide) ?_
    refine V_icmp_ne_f F (tgt := 602) dL_law_557 (by decide) (rfl) ?_
    refine V_iload F dL_law_560 rfl ?_
    refine V_if_lt_t F (tgt := 580) dL_law_562 (by decide) (by decide) ?_
    exact m580 _ hI3 hs3
  · have eR : rdI T r i j = nI (rnd T r i j) := if_neg h4
    have h2 := rnd_two hW r hi1 hj1 h5i h5j h4
    rw [eR] at m580 ⊢
    rw [a_rnd (by omega) (by omega) (by omega) hr m3 m4 (m1.trans (if_neg h4)) (by omega)]
    refine V_if_ge_t F (tgt := 553) dL_law_545 (by decide) (nI_ge0 (by omega)) ?_
    refine V_iload F dL_law_553 rfl ?_
    refine V_iconst F (v := nI 1) dL_law_555 (by decide) ?_
    (first | refine V_iaddN F dL_law_556 ?_ | refine V_iadd F dL_law_556 ?_)
    refine V_icmp_ne_f F (tgt := 602) dL_law_557 (by decide) (rfl) ?_
    refine V_iload F dL_law_560 rfl ?_
    refine V_if_lt_f F (tgt := 580) dL_law_562 (by decide) (nI_nn (by omega)) ?_
    refine V_aload_n F dL_law_565 rfl ?_
    refine V_iload F dL_law_566 rfl ?_
    refine V_iload F dL_law_568 rfl ?_
    refine V_iload F dL_law_570 rfl ?_
    refine V_callV F (q0 := 0) (c_firstAttack hI3 _ _ _) mi_X3_firstAttack mm_X3_firstAttack lk_L_81 dL_law_572 ⟨Nat.le_of_ble_eq_true rfl, Nat.le_of_ble_eq_true rfl⟩ rfl rfl (by decide) (Nat.le_of_ble_eq_true rfl) rfl rfl rfl (fun r μ' h => ?_)
    obtain ⟨rfl, hMe, hSw⟩ := h
    have hI4 := hI3.of_W hSw hMe
    have hshI4 := sameM_W hSw
    rw [a_atk (by omega) (by omega) (by omega) hr m3 m4 (m2 (by omega) h4)]
    refine V_bipush F (v := nI 9) dL_law_575 (by decide) ?_
    refine V_icmp_ne_f F (tgt := 602) dL_law_577 (by decide) (rfl) ?_
    exact m580 _ hI4 (fun q hq => by rw [hshI4 q hq, hs3 q hq])
set_option maxHeartbeats 1000000 in
theorem ld_4 (F : Fx (GS g) p room_1 s m #[Value.ref b] meth c RL cL_law 22 ret ck cn) {μ : Mem} (hI : XInv T n μ) (hn : n + 2 ≤ 24) (hi : PI T n μ i) (hj : PI T n μ j) (hr : r < 3) (hx : x < 3) (hy : y < 3) (hend : ∀ μ : Mem, V (GS g) p l e room_1 s m #[Value.ref b] below meth c 22 ck cn (lw_Z below #[Value.ref b] s) 682 ([some (.ref b), none, none, none, none, some (.int (nI 1)), none, none, some (.int (nI x)), some (.int (nI y)), none, none, none, none, none, none, none, none, none, none, none, none]) ([]) (μ)) : V (GS g) p l e room_1 s m #[Value.ref b] below meth c 22 ck cn (lw_Z below #[Value.ref b] s) 397 ([some (.ref b), some (.ref (g.1 0)), none, some (.ref (g.1 16)), none, some (.int (nI 1)), some (.int (nI i)), some (.int (nI j)), some (.int (nI x)), some (.int (nI y)), some (.int (nI r)), none, none, none, none, none, none, none, none, none, none, none]) ([]) (μ) := by
  obtain ⟨hi1, hi2, vi, hi3, hi4, hi5⟩ := id hi
  obtain ⟨hj1, hj2, vj, hj3, hj4, hj5⟩ := id hj
  have hW := hI.1.1
  refine V_iload F dL_law_397 rfl ?_
  refine V_if_eq_f F (tgt := 682) dL_law_399 (by decide) (by decide) ?_
  refine V_aload_n F dL_law_402 rfl ?_
  refine V_iload F dL_law_403 rfl ?_
  refine V_ia F dL_law_405 rfl (rfl) (show i < 24 by omega) (hi4) ?_
  refine V_bipush F (v := nI 64) dL_law_406 (by decide) ?_
  refine V_idiv F dL_law_408 (by decide) ?_
  refine V_val F (pk_div (by omega) (by omega) (by omega)) ?_
  refine V_val F (congrArg nI hi5) ?_
  have d1 := hW.depth hi1
  have d2 := hW.depth hj1
  refine V_iconst F (v := nI 3) dL_law_409 (by decide) ?_
  refine V_icmp_ge_N F (tgt := 682) dL_law_410 (by decide) (by omega) (by omega) (fun h3i => ?_) (fun h3i => ?_)
  · exact V_msk [true, false, false, false, false, true, false, false, true, true, false, false, false, false, false, false, false, false, false, false, false, false] rfl (hend _)
  · skip
    refine V_aload_n F dL_law_413 rfl ?_
    refine V_iload F dL_law_414 rfl ?_
    refine V_ia F dL_law_416 rfl (rfl) (show j < 24 by omega) (hj4) ?_
    refine V_bipush F (v := nI 64) dL_law_417 (by decide) ?_
    refine V_idiv F dL_law_419 (by decide) ?_
    refine V_val F (pk_div (by omega) (by omega) (by omega)) ?_
    refine V_val F (congrArg nI hj5) ?_
    refine V_iconst F (v := nI 3) dL_law_420 (by decide) ?_
    refine V_icmp_ge_N F (tgt := 682) dL_law_421 (by decide) (by omega) (by omega) (fun h3j => ?_) (fun h3j => ?_)
    · exact V_msk [true, false, false, false, false, true, false, false, true, true, false, false, false, false, false, false, false, false, false, false, false, false] rfl (hend _)
    · have h5i : T 5 i ≤ 2 := by omega
      have h5j : T 5 j ≤ 2 := by omega
      refine V_aload_n F dL_law_424 rfl ?_
      refine V_iload F dL_law_425 rfl ?_
      refine V_callV F (q0 := 0) (c_tau hI _) mi_X3_tau mm_X3_tau lk_L_19 dL_law_427 ⟨Nat.le_of_ble_eq_true rfl, Nat.le_of_ble_eq_true rfl⟩ rfl rfl (by decide) (Nat.le_of_ble_eq_true rfl) rfl rfl rfl (fun r μ' h => ?_)
      obtain ⟨rfl, hI1, hs1⟩ := bq_fit (bq_tau h hi1 (by omega)) (fit_act hW (by omega) (by omega) h5i)
      refine V_istore F (lv' := [_, _, _, _, _, _, _, _, _, _, _, _, _, _, _, _, _, _, _, _, _, _]) dL_law_430 (by decide) rfl rfl ?_
      refine V_aload_n F dL_law_432 rfl ?_
      refine V_iload F dL_law_433 rfl ?_
      refine V_callV F (q0 := 0) (c_tau hI1 _) mi_X3_tau mm_X3_tau lk_L_19 dL_law_435 ⟨Nat.le_of_ble_eq_true rfl, Nat.le_of_ble_eq_true rfl⟩ rfl rfl (by decide) (Nat.le_of_ble_eq_true rfl) rfl rfl rfl (fun r μ' h => ?_)
      obtain ⟨rfl, hI2, hs2⟩ := bq_fit (bq_tau h (by omega) (by omega)) (fit_act hI1.1.1 (by omega) (by omega) (by rw [bT_old (by omega)]; exact h5j))
      obtain ⟨m1, -, m3, m4, m5, m6, m7⟩ := pfx2 hW hI2.1.1 (k := 1) (x := 0) (z := 0) (by omega) (by omega) (by omega) (by omega) hi1 hj1 hi2 hj2 h5i h5j r
      refine V_istore F (lv' := [_, _, _, _, _, _, _, _, _, _, _, _, _, _, _, _, _, _, _, _, _, _]) dL_law_438 (by decide) rfl rfl ?_
      refine V_aload_n F dL_law_440 rfl ?_
      refine V_iload F dL_law_441 rfl ?_
      refine V_iload F dL_law_443 rfl ?_
      refine V_iload F dL_law_445 rfl ?_
      refine V_callV F (q0 := 0) (c_rounds hI2 _ _ _) mi_X3_rounds mm_X3_rounds lk_L_56 dL_law_447 ⟨Nat.le_of_ble_eq_true rfl, Nat.le_of_ble_eq_true rfl⟩ rfl rfl (by decide) (Nat.le_of_ble_eq_true rfl) rfl rfl rfl (fun r μ' h => ?_)
      obtain ⟨rfl, hMe, hSw⟩ := h
      have hI3 := hI2.of_W hSw hMe
      have hshI3 := sameM_W hSw
      have eRR : rPair (fRnd (bT (bT T n 1 0 0 i 0) (n + 1) 1 0 0 j 0)) (bT (bT T n 1 0 0 i 0) (n + 1) 1 0 0 j 0) (n + 1 + 1) (nI i) (nI j) (nI r) = rdI T r i j := by
        rw [rPair_ok (by omega) (by omega) (by omega) hr (by rw [m6 7 i hi1]; exact hi2) (by rw [m6 7 j hj1]; exact hj2)]
        unfold fRnd rdI
        rw [m7]
      rw [eRR]
      refine V_istore F (lv' := [_, _, _, _, _, _, _, _, _, _, _, _, _, _, _, _, _, _, _, _, _, _]) dL_law_450 (by decide) rfl rfl ?_
      refine V_aload_n F dL_law_452 rfl ?_
      refine V_iload F dL_law_453 rfl ?_
      refine V_iload F dL_law_455 rfl ?_
      refine V_iload F dL_law_457 rfl ?_
      refine V_callV F (q0 := 0) (c_rounds hI3 _ _ _) mi_X3_rounds mm_X3_rounds lk_L_56 dL_law_459 ⟨Nat.le_of_ble_eq_true rfl, Nat.le_of_ble_eq_true rfl⟩ rfl rfl (by decide) (Nat.le_of_ble_eq_true rfl) rfl rfl rfl (fun r μ' h => ?_)
      obtain ⟨rfl, hMe, hSw⟩ := h
      have hI4 := hI3.of_W hSw hMe
      have hshI4 := sameM_W hSw
      have hs3 : sameM μ μ' := fun q hq => by rw [hshI4 q hq, hshI3 q hq, hs2 q hq, hs1 q hq]
      have m479 : V (GS g) p l e room_1 s m #[Value.ref b] below meth c 22 ck cn (lw_Z below #[Value.ref b] s) 479 ([some (.ref b), some (.ref (g.1 0)), none, some (.ref (g.1 16)), none, some (.int (nI 1)), some (.int (nI i)), some (.int (nI j)), some (.int (nI x)), some (.int (nI y)), some (.int (nI r)), none, none, none, none, some (.int (nI n)), some (.int (nI (n + 1))), some (.int (rdI T r i j)), none, none, none, none]) ([]) (μ') := by
        refine V_aload_n F dL_law_479 rfl ?_
        refine V_callV F (q0 := 0) (c_removeLast hI4) mi_X3_removeLast mm_X3_removeLast lk_L_78 dL_law_480 ⟨Nat.le_of_ble_eq_true rfl, Nat.le_of_ble_eq_true rfl⟩ rfl rfl (by decide) (Nat.le_of_ble_eq_true rfl) rfl rfl rfl (fun r μ' h => ?_)
        obtain ⟨rfl, hI4, hs4⟩ := rq_less h (by omega)
        refine V_iload F dL_law_483 rfl ?_
        refine V_icmp_ne_f F (tgt := 501) dL_law_485 (by decide) (rfl) ?_
        refine V_aload_n F dL_law_488 rfl ?_
        refine V_callV F (q0 := 0) (c_removeLast hI4) mi_X3_removeLast mm_X3_removeLast lk_L_78 dL_law_489 ⟨Nat.le_of_ble_eq_true rfl, Nat.le_of_ble_eq_true rfl⟩ rfl rfl (by decide) (Nat.le_of_ble_eq_true rfl) rfl rfl rfl (fun r μ' h => ?_)
        obtain ⟨rfl, hI5, hs5⟩ := rq_less h hW.1.1
        refine V_iload F dL_law_492 rfl ?_
        refine V_icmp_ne_f F (tgt := 501) dL_law_494 (by decide) (rfl) ?_
        refine V_iconst F (v := nI 1) dL_law_497 (by decide) ?_
        refine V_goto F (tgt := 502) dL_law_498 (by decide) ?_
        refine V_istore F (lv' := [_, _, _, _, _, _, _, _, _, _, _, _, _, _, _, _, _, _, _, _, _, _]) dL_law_502 (by decide) rfl rfl ?_
        have hs6 : sameM μ μ' := fun q hq => by rw [hs5 q hq, hs4 q hq, hs3 q hq]
        have key := ld_5 F hI5 hn (hi.step (fun f => m6 f i hi1) hi1 hs6) (hj.step (fun f => m6 f j hj1) hj1 hs6) (by rw [m6 5 i hi1]; exact h5i) (by rw [m6 5 j hj1]; exact h5j) hr hx hy hend
        unfold rdI at key
        rw [m7] at key
        exact V_msk [true, true, false, true, false, true, true, true, true, true, true, false, false, false, false, false, false, true, false, false, false, false] rfl key
      refine V_iload F dL_law_462 rfl ?_
      by_cases h4 : rnd T r i j = 4
      · have eR : rdI T r i j = -4 := if_pos h4
        rw [eR] at m479 ⊢
        rw [a_rnd4 (by omega) (by omega) (by omega) hr m3 m4 (m1.trans (if_pos h4))]
        refine V_if_ge_f F (tgt := 472) dL_law_464 (by decide) (by decide) ?_
        refine V_bipush F (v := (-4)) dL_law_467 (by decide) ?_
        refine V_goto F (tgt := 476) dL_law_469 (by decide) ?_
        refine V_icmp_ne_f F (tgt := 501) dL_law_476 (by decide) (rfl) ?_
        exact m479
      · have eR : rdI T r i j = nI (rnd T r i j) := if_neg h4
        have h2 := rnd_two hW r hi1 hj1 h5i h5j h4
        rw [eR] at m479 ⊢
        rw [a_rnd (by omega) (by omega) (by omega) hr m3 m4 (m1.trans (if_neg h4)) (by omega)]
        refine V_if_ge_t F (tgt := 472) dL_law_464 (by decide) (nI_ge0 (by omega)) ?_
        refine V_iload F dL_law_472 rfl ?_
        refine V_iconst F (v := nI 1) dL_law_474 (by decide) ?_
        (first | refine V_iaddN F dL_law_475 ?_ | refine V_iadd F dL_law_475 ?_)
        refine V_icmp_ne_f F (tgt := 501) dL_law_476 (by decide) (rfl) ?_
        exact m479
set_option maxHeartbeats 1000000 in
theorem ld_3 (F : Fx (GS g) p room_1 s m #[Value.ref b] meth c RL cL_law 22 ret ck cn) {μ : Mem} (hI : XInv T n μ) (hn : n + 4 ≤ 24) (hi : PI T n μ i) (hj : PI T n μ j) (hr : r < 3) (hx : x < 3) (hy : y < 3) (hend : ∀ μ : Mem, V (GS g) p l e room_1 s m #[Value.ref b] below meth c 22 ck cn (lw_Z below #[Value.ref b] s) 682 ([some (.ref b), none, none, none, none, some (.int (nI 1)), none, none, some (.int (nI x)), some (.int (nI y)), none, none, none, none, none, none, none, none, none, none, none, none]) ([]) (μ)) : V (GS g) p l e room_1 s m #[Value.ref b] below meth c 22 ck cn (lw_Z below #[Value.ref b] s) 300 ([some (.ref b), some (.ref (g.1 0)), none, some (.ref (g.1 16)), none, some (.int (nI 1)), some (.int (nI i)), some (.int (nI j)), some (.int (nI x)), some (.int (nI y)), some (.int (nI r)), none, none, none, none, none, none, none, none, none, none, none]) ([]) (μ) := by
  obtain ⟨hi1, hi2, vi, hi3, hi4, hi5⟩ := id hi
  obtain ⟨hj1, hj2, vj, hj3, hj4, hj5⟩ := id hj
  have hW := hI.1.1
  have hn0 := hW.1.1
  refine V_aload_n F dL_law_300 rfl ?_
  refine V_iload F dL_law_301 rfl ?_
  refine V_iload F dL_law_303 rfl ?_
  refine V_callV F (q0 := 0) (c_sum hI _ _) mi_X3_sum mm_X3_sum lk_L_34 dL_law_305 ⟨Nat.le_of_ble_eq_true rfl, Nat.le_of_ble_eq_true rfl⟩ rfl rfl (by decide) (Nat.le_of_ble_eq_true rfl) rfl rfl rfl (fun r μ' h => ?_)
  have hb := bq_sum h hi1 hj1 (by omega)
  by_cases hf : bFit T n 5 i j
  · obtain ⟨rfl, hI1, hs1⟩ := bq_fit hb hf
    refine V_istore F (lv' := [_, _, _, _, _, _, _, _, _, _, _, _, _, _, _, _, _, _, _, _, _, _]) dL_law_308 (by decide) rfl rfl ?_
    refine V_iload F dL_law_310 rfl ?_
    refine V_if_le_f F (tgt := 397) dL_law_312 (by decide) (nI_nle (by omega) (by omega)) ?_
    refine V_iload F dL_law_315 rfl ?_
    refine V_if_eq_f F (tgt := 397) dL_law_317 (by decide) (by decide) ?_
    refine V_aload_n F dL_law_320 rfl ?_
    refine V_iload F dL_law_321 rfl ?_
    refine V_iload F dL_law_323 rfl ?_
    refine V_callV F (q0 := 0) (c_sum hI1 _ _) mi_X3_sum mm_X3_sum lk_L_34 dL_law_325 ⟨Nat.le_of_ble_eq_true rfl, Nat.le_of_ble_eq_true rfl⟩ rfl rfl (by decide) (Nat.le_of_ble_eq_true rfl) rfl rfl rfl (fun r μ' h => ?_)
    obtain ⟨rfl, hI2, hs2⟩ := bq_fit (bq_sum h (by omega) (by omega) (by omega)) (fit_sum2 (by omega) hi1 hj1 hf)
    obtain ⟨s1, s2, s3, s4, s5, s6⟩ := sum2 hW hI2.1.1 hi1 hj1 hi2 hj2
    have t1 := (s6 7 i hi1).trans hi2
    have t2 := (s6 7 j hj1).trans hj2
    refine V_istore F (lv' := [_, _, _, _, _, _, _, _, _, _, _, _, _, _, _, _, _, _, _, _, _, _]) dL_law_328 (by decide) rfl rfl ?_
    refine V_aload_n F dL_law_330 rfl ?_
    refine V_iload F dL_law_331 rfl ?_
    refine V_iload F dL_law_333 rfl ?_
    refine V_callS F (c_related hI2 (p := n) (q := n + 1) (by omega) (by omega) s2 s3 (fun rel _ => s1 rel)) mi_L_related ms_L_related lk_L_68 dL_law_335 ⟨Nat.le_of_ble_eq_true rfl, Nat.le_of_ble_eq_true rfl⟩ rfl rfl (by decide) (Nat.le_of_ble_eq_true rfl) (fun r μ' h => ?_)
    obtain ⟨rfl, hMe, hSw⟩ := h
    have hI3 := hI2.of_W hSw hMe
    have hs3 := sameM_W hSw
    refine V_if_eq_f F (tgt := 394) dL_law_338 (by decide) (by decide) ?_
    refine V_aload_n F dL_law_341 rfl ?_
    refine V_iload F dL_law_342 rfl ?_
    refine V_callVi F (q0 := 0) (c_moveCount hI3.1 _) mi_X3_moveCount mm_X3_moveCount lk_L_75 dL_law_344 ⟨Nat.le_of_ble_eq_true rfl, Nat.le_of_ble_eq_true rfl⟩ rfl rfl (by decide) (Nat.le_of_ble_eq_true rfl) rfl rfl rfl ?_
    rw [a_mc (by omega) (by omega) s2 rfl]
    refine V_aload_n F dL_law_347 rfl ?_
    refine V_iload F dL_law_348 rfl ?_
    refine V_callVi F (q0 := 0) (c_moveCount hI3.1 _) mi_X3_moveCount mm_X3_moveCount lk_L_75 dL_law_350 ⟨Nat.le_of_ble_eq_true rfl, Nat.le_of_ble_eq_true rfl⟩ rfl rfl (by decide) (Nat.le_of_ble_eq_true rfl) rfl rfl rfl ?_
    rw [a_mc (by omega) (by omega) t1 rfl]
    refine V_aload_n F dL_law_353 rfl ?_
    refine V_iload F dL_law_354 rfl ?_
    refine V_callVi F (q0 := 0) (c_moveCount hI3.1 _) mi_X3_moveCount mm_X3_moveCount lk_L_75 dL_law_356 ⟨Nat.le_of_ble_eq_true rfl, Nat.le_of_ble_eq_true rfl⟩ rfl rfl (by decide) (Nat.le_of_ble_eq_true rfl) rfl rfl rfl ?_
    rw [a_mc (by omega) (by omega) t2 rfl]
    (first | refine V_iaddN F dL_law_359 ?_ | refine V_iadd F dL_law_359 ?_)
    refine V_icmp_ne_f F (tgt := 394) dL_law_360 (by decide) (by rw [s4, List.length_append]) ?_
    refine V_aload_n F dL_law_363 rfl ?_
    refine V_iload F dL_law_364 rfl ?_
    refine V_iload F dL_law_366 rfl ?_
    refine V_iload F dL_law_368 rfl ?_
    refine V_callV F (q0 := 0) (c_areRelated hI3 _ _ _) mi_X3_areRelated mm_X3_areRelated lk_L_53 dL_law_370 ⟨Nat.le_of_ble_eq_true rfl, Nat.le_of_ble_eq_true rfl⟩ rfl rfl (by decide) (Nat.le_of_ble_eq_true rfl) rfl rfl rfl (fun r μ' h => ?_)
    obtain ⟨rfl, hMe, hSw⟩ := h
    have hI4 := hI3.of_W hSw hMe
    have hshI4 := sameM_W hSw
    have hs7 : sameM μ μ' := fun q hq => by rw [hshI4 q hq, hs3 q hq, hs2 q hq, hs1 q hq]
    have m390 : ∀ ν : Mem, XInv (bT (bT T n 5 0 0 i j) (n + 1) 5 0 0 j i) (n + 1 + 1) ν → sameM μ ν → V (GS g) p l e room_1 s m #[Value.ref b] below meth c 22 ck cn (lw_Z below #[Value.ref b] s) 390 ([some (.ref b), some (.ref (g.1 0)), none, some (.ref (g.1 16)), none, some (.int (nI 1)), some (.int (nI i)), some (.int (nI j)), some (.int (nI x)), some (.int (nI y)), some (.int (nI r)), none, none, none, some (.int (nI n)), some (.int (nI (n + 1))), none, none, none, none, none, none]) ([]) (ν) := by
      intro ν hIν hsν
      refine V_iconst F (v := nI 1) dL_law_390 (by decide) ?_
      refine V_goto F (tgt := 395) dL_law_391 (by decide) ?_
      refine V_istore F (lv' := [_, _, _, _, _, _, _, _, _, _, _, _, _, _, _, _, _, _, _, _, _, _]) dL_law_395 (by decide) rfl rfl ?_
      exact V_msk [true, true, false, true, false, true, true, true, true, true, true, false, false, false, false, false, false, false, false, false, false, false] rfl (ld_4 F hIν (by omega) (hi.step (fun f => s6 f i hi1) (by omega) hsν) (hj.step (fun f => s6 f j hj1) (by omega) hsν) hr hx hy hend)
    by_cases h4 : rnd (bT (bT T n 5 0 0 i j) (n + 1) 5 0 0 j i) r i j = 4
    · rw [a_rel (by omega) (by omega) (by omega) hr t1 t2 h4]
      refine V_if_eq_f F (tgt := 390) dL_law_373 (by decide) (by decide) ?_
      refine V_aload_n F dL_law_376 rfl ?_
      refine V_iload F dL_law_377 rfl ?_
      refine V_iload F dL_law_379 rfl ?_
      refine V_iload F dL_law_381 rfl ?_
      refine V_callV F (q0 := 0) (c_areRelated hI4 _ _ _) mi_X3_areRelated mm_X3_areRelated lk_L_53 dL_law_383 ⟨Nat.le_of_ble_eq_true rfl, Nat.le_of_ble_eq_true rfl⟩ rfl rfl (by decide) (Nat.le_of_ble_eq_true rfl) rfl rfl rfl (fun r μ' h => ?_)
      obtain ⟨rfl, hMe, hSw⟩ := h
      have hI5 := hI4.of_W hSw hMe
      have hshI5 := sameM_W hSw
      rw [a_rel (by omega) (by omega) (by omega) hr s2 t1 (s5 r h4)]
      refine V_iconst F (v := nI 1) dL_law_386 (by decide) ?_
      refine V_icmp_ne_f F (tgt := 394) dL_law_387 (by decide) (rfl) ?_
      exact m390 _ hI5 (fun q hq => by rw [hshI5 q hq, hs7 q hq])
    · rw [a_rel0 (by omega) (by omega) (by omega) hr t1 t2 h4]
      refine V_if_eq_t F (tgt := 390) dL_law_373 (by decide) (rfl) ?_
      exact m390 _ hI4 hs7
  · obtain ⟨rfl, rfl⟩ := bq_no hb hf
    refine V_istore F (lv' := [_, _, _, _, _, _, _, _, _, _, _, _, _, _, _, _, _, _, _, _, _, _]) dL_law_308 (by decide) rfl rfl ?_
    refine V_iload F dL_law_310 rfl ?_
    refine V_if_le_t F (tgt := 397) dL_law_312 (by decide) (by decide) ?_
    exact V_msk [true, true, false, true, false, true, true, true, true, true, true, false, false, false, false, false, false, false, false, false, false, false] rfl (ld_4 F hI (by omega) hi hj hr hx hy hend)
set_option maxHeartbeats 1000000 in
theorem ld_2 (F : Fx (GS g) p room_1 s m #[Value.ref b] meth c RL cL_law 22 ret ck cn) {μ : Mem} (hI : XInv T n μ) (hn : n + 5 ≤ 24) (hi : PI T n μ i) (hj : PI T n μ j) (hr : r < 3) (hx : x < 3) (hy : y < 3) (hend : ∀ μ : Mem, V (GS g) p l e room_1 s m #[Value.ref b] below meth c 22 ck cn (lw_Z below #[Value.ref b] s) 682 ([some (.ref b), none, none, none, none, some (.int (nI 1)), none, none, some (.int (nI x)), some (.int (nI y)), none, none, none, none, none, none, none, none, none, none, none, none]) ([]) (μ)) : V (GS g) p l e room_1 s m #[Value.ref b] below meth c 22 ck cn (lw_Z below #[Value.ref b] s) 253 ([some (.ref b), some (.ref (g.1 0)), none, some (.ref (g.1 16)), none, some (.int (nI 1)), some (.int (nI i)), some (.int (nI j)), some (.int (nI x)), some (.int (nI y)), some (.int (nI r)), none, none, none, none, none, none, none, none, none, none, none]) ([]) (μ) := by
  obtain ⟨hi1, hi2, vi, hi3, hi4, hi5⟩ := id hi
  obtain ⟨hj1, hj2, vj, hj3, hj4, hj5⟩ := id hj
  have hW := hI.1.1
  have hn0 := hW.1.1
  refine V_aload_n F dL_law_253 rfl ?_
  refine V_iload F dL_law_254 rfl ?_
  refine V_iconst F (v := nI 0) dL_law_256 (by decide) ?_
  refine V_callV F (q0 := 0) (c_sum hI _ _) mi_X3_sum mm_X3_sum lk_L_34 dL_law_257 ⟨Nat.le_of_ble_eq_true rfl, Nat.le_of_ble_eq_true rfl⟩ rfl rfl (by decide) (Nat.le_of_ble_eq_true rfl) rfl rfl rfl (fun r μ' h => ?_)
  obtain ⟨rfl, hI1, hs1⟩ := bq_fit (bq_sum h hi1 (by omega) (by omega)) (fit_sum0 hW (by omega) hi1)
  obtain ⟨s1, s2, s3⟩ := sum0 hW hI1.1.1 hi1 hi2
  have s6 : ∀ f q, q < n → bT T n 5 0 0 i 0 f q = T f q := fun f q hq => bT_old (by omega)
  have t1 := (s6 7 i hi1).trans hi2
  refine V_istore F (lv' := [_, _, _, _, _, _, _, _, _, _, _, _, _, _, _, _, _, _, _, _, _, _]) dL_law_260 (by decide) rfl rfl ?_
  refine V_iload F dL_law_262 rfl ?_
  refine V_if_eq_f F (tgt := 297) dL_law_264 (by decide) (by decide) ?_
  refine V_aload_n F dL_law_267 rfl ?_
  refine V_iload F dL_law_268 rfl ?_
  refine V_iload F dL_law_270 rfl ?_
  refine V_callS F (c_related hI1 (p := i) (q := n) (by omega) (by omega) t1 s2 (fun rel _ => s1 rel)) mi_L_related ms_L_related lk_L_68 dL_law_272 ⟨Nat.le_of_ble_eq_true rfl, Nat.le_of_ble_eq_true rfl⟩ rfl rfl (by decide) (Nat.le_of_ble_eq_true rfl) (fun r μ' h => ?_)
  obtain ⟨rfl, hMe, hSw⟩ := h
  have hI3 := hI1.of_W hSw hMe
  have hs3 := sameM_W hSw
  refine V_if_eq_f F (tgt := 297) dL_law_275 (by decide) (by decide) ?_
  refine V_aload_n F dL_law_278 rfl ?_
  refine V_iload F dL_law_279 rfl ?_
  refine V_callVi F (q0 := 0) (c_moveCount hI3.1 _) mi_X3_moveCount mm_X3_moveCount lk_L_75 dL_law_281 ⟨Nat.le_of_ble_eq_true rfl, Nat.le_of_ble_eq_true rfl⟩ rfl rfl (by decide) (Nat.le_of_ble_eq_true rfl) rfl rfl rfl ?_
  rw [a_mc (by omega) (by omega) s2 rfl]
  refine V_aload_n F dL_law_284 rfl ?_
  refine V_iload F dL_law_285 rfl ?_
  refine V_callVi F (q0 := 0) (c_moveCount hI3.1 _) mi_X3_moveCount mm_X3_moveCount lk_L_75 dL_law_287 ⟨Nat.le_of_ble_eq_true rfl, Nat.le_of_ble_eq_true rfl⟩ rfl rfl (by decide) (Nat.le_of_ble_eq_true rfl) rfl rfl rfl ?_
  rw [a_mc (by omega) (by omega) t1 rfl]
  refine V_icmp_ne_f F (tgt := 297) dL_law_290 (by decide) (by rw [s3]) ?_
  refine V_iconst F (v := nI 1) dL_law_293 (by decide) ?_
  refine V_goto F (tgt := 298) dL_law_294 (by decide) ?_
  refine V_istore F (lv' := [_, _, _, _, _, _, _, _, _, _, _, _, _, _, _, _, _, _, _, _, _, _]) dL_law_298 (by decide) rfl rfl ?_
  have hs7 : sameM μ μ' := fun q hq => by rw [hs3 q hq, hs1 q hq]
  exact V_msk [true, true, false, true, false, true, true, true, true, true, true, false, false, false, false, false, false, false, false, false, false, false] rfl (ld_3 F hI3 (by omega) (hi.step (fun f => s6 f i hi1) (by omega) hs7) (hj.step (fun f => s6 f j hj1) (by omega) hs7) hr hx hy hend)
set_option maxHeartbeats 1000000 in
theorem ld_1 (F : Fx (GS g) p room_1 s m #[Value.ref b] meth c RL cL_law 22 ret ck cn) {μ : Mem} (hI : XInv T n μ) (hX : va_X b L xs s s.heap) (hbl : b < s.heap.size) (hbA : ¬ AS g.1 b) (hL : L ≤ 2048) (hn : n + 7 ≤ 24) (hD : DR T n μ) (hi : i < n) (hj : j < n) (hne : x ≠ y) (hx : x < 3) (hy : y < 3) (hend : ∀ μ : Mem, V (GS g) p l e room_1 s m #[Value.ref b] below meth c 22 ck cn (lw_Z below #[Value.ref b] s) 682 ([some (.ref b), none, none, none, none, some (.int (nI 1)), none, none, some (.int (nI x)), some (.int (nI y)), none, none, none, none, none, none, none, none, none, none, none, none]) ([]) (μ)) : V (GS g) p l e room_1 s m #[Value.ref b] below meth c 22 ck cn (lw_Z below #[Value.ref b] s) 149 ([some (.ref b), some (.ref (g.1 0)), none, some (.ref (g.1 16)), none, some (.int (nI 1)), some (.int (nI i)), some (.int (nI j)), some (.int (nI x)), some (.int (nI y)), none, none, none, none, none, none, none, none, none, none, none, none]) ([]) (μ) := by
  have hW := hI.1.1
  have hn0 := hW.1.1
  have d1 := hW.depth hi
  have d2 := hW.depth hj
  have d3 := hW.need hi
  have d4 := hW.need hj
  refine V_iload F dL_law_149 rfl ?_
  refine V_if_eq_f F (tgt := 682) dL_law_151 (by decide) (by decide) ?_
  refine V_aload_n F dL_law_154 rfl ?_
  refine V_iload F dL_law_155 rfl ?_
  refine V_ia F dL_law_157 rfl (rfl) (show i < 24 by omega) (hD i hi) ?_
  refine V_bipush F (v := nI 8) dL_law_158 (by decide) ?_
  refine V_irem F dL_law_160 (by decide) ?_
  refine V_val F (pk_rem (by omega) (by omega) (by omega)) ?_
  refine V_val F (congrArg nI (show (64 * T 5 i + 8 * T 6 i + T 7 i) % 8 = T 7 i by omega)) ?_
  by_cases z1 : T 7 i = 0
  · rw [z1]
    refine V_if_ne_f F (tgt := 682) dL_law_161 (by decide) (rfl) ?_
    refine V_aload_n F dL_law_164 rfl ?_
    refine V_iload F dL_law_165 rfl ?_
    refine V_ia F dL_law_167 rfl (rfl) (show j < 24 by omega) (hD j hj) ?_
    refine V_bipush F (v := nI 8) dL_law_168 (by decide) ?_
    refine V_irem F dL_law_170 (by decide) ?_
    refine V_val F (pk_rem (by omega) (by omega) (by omega)) ?_
    refine V_val F (congrArg nI (show (64 * T 5 j + 8 * T 6 j + T 7 j) % 8 = T 7 j by omega)) ?_
    by_cases z2 : T 7 j = 0
    · rw [z2]
      refine V_if_ne_f F (tgt := 682) dL_law_171 (by decide) (rfl) ?_
      have hPi : PI T n μ i := ⟨hi, z1, _, by omega, hD i hi, by omega⟩
      have hPj : PI T n μ j := ⟨hj, z2, _, by omega, hD j hj, by omega⟩
      refine V_aload_n F dL_law_174 rfl ?_
      refine V_bipush F (v := nI 13) dL_law_175 (by decide) ?_
      refine V_callX F hX hbl hbA (c_cell (k := 13) (by omega) hL hbA) mi_L_cell ms_L_cell lk_L_60 dL_law_177 ⟨Nat.le_of_ble_eq_true rfl, Nat.le_of_ble_eq_true rfl⟩ rfl rfl (by decide) (Nat.le_of_ble_eq_true rfl) (fun r μ' h => ?_)
      obtain ⟨⟨w, hw, rfl⟩, hμ⟩ := h
      rw [hμ]
      clear hμ
      refine V_iconst F (v := nI 3) dL_law_180 (by decide) ?_
      refine V_irem F dL_law_181 (by decide) ?_
      refine V_val F (pk_rem (by omega) (by omega) (by omega)) ?_
      have hr : w % 3 < 3 := Nat.mod_lt _ (by omega)
      refine V_istore F (lv' := [_, _, _, _, _, _, _, _, _, _, _, _, _, _, _, _, _, _, _, _, _, _]) dL_law_182 (by decide) rfl rfl ?_
      refine V_aload_n F dL_law_184 rfl ?_
      refine V_iload F dL_law_185 rfl ?_
      refine V_iload F dL_law_187 rfl ?_
      refine V_iload F dL_law_189 rfl ?_
      refine V_callV F (q0 := 0) (c_match hI _ _ _) mi_X3_match mm_X3_match lk_L_31 dL_law_191 ⟨Nat.le_of_ble_eq_true rfl, Nat.le_of_ble_eq_true rfl⟩ rfl rfl (by decide) (Nat.le_of_ble_eq_true rfl) rfl rfl rfl (fun r μ' h => ?_)
      obtain ⟨rfl, hI1, hs1⟩ := bq_fit (bq_mat h (by omega) (by omega) hi (by omega)) (fit_mat hW (by omega) hi)
      refine V_istore F (lv' := [_, _, _, _, _, _, _, _, _, _, _, _, _, _, _, _, _, _, _, _, _, _]) dL_law_194 (by decide) rfl rfl ?_
      refine V_aload_n F dL_law_196 rfl ?_
      refine V_iload F dL_law_197 rfl ?_
      refine V_iload F dL_law_199 rfl ?_
      refine V_iload F dL_law_201 rfl ?_
      refine V_callV F (q0 := 0) (c_match hI1 _ _ _) mi_X3_match mm_X3_match lk_L_31 dL_law_203 ⟨Nat.le_of_ble_eq_true rfl, Nat.le_of_ble_eq_true rfl⟩ rfl rfl (by decide) (Nat.le_of_ble_eq_true rfl) rfl rfl rfl (fun r μ' h => ?_)
      obtain ⟨rfl, hI2, hs2⟩ := bq_fit (bq_mat h (by omega) (by omega) (by omega) (by omega)) (fit_mat hI1.1.1 (by omega) (by omega))
      obtain ⟨s1, s2, s3, s4, s5, s6⟩ := mat2 hW hI2.1.1 hx hy hne hi z1
      have t1 := (s6 7 i hi).trans z1
      refine V_istore F (lv' := [_, _, _, _, _, _, _, _, _, _, _, _, _, _, _, _, _, _, _, _, _, _]) dL_law_206 (by decide) rfl rfl ?_
      refine V_aload_n F dL_law_208 rfl ?_
      refine V_iload F dL_law_209 rfl ?_
      refine V_iload F dL_law_211 rfl ?_
      refine V_callS F (c_related hI2 (p := i) (q := n) (by omega) (by omega) t1 s3 (fun rel _ => s1 rel)) mi_L_related ms_L_related lk_L_68 dL_law_213 ⟨Nat.le_of_ble_eq_true rfl, Nat.le_of_ble_eq_true rfl⟩ rfl rfl (by decide) (Nat.le_of_ble_eq_true rfl) (fun r μ' h => ?_)
      obtain ⟨rfl, hMe, hSw⟩ := h
      have hI3 := hI2.of_W hSw hMe
      have hs3 := sameM_W hSw
      refine V_if_eq_f F (tgt := 250) dL_law_216 (by decide) (by decide) ?_
      refine V_aload_n F dL_law_219 rfl ?_
      refine V_iconst F (v := nI 0) dL_law_220 (by decide) ?_
      refine V_iload F dL_law_221 rfl ?_
      refine V_callS F (c_related hI3 (p := 0) (q := n + 1) (by omega) (by omega) hI3.1.1.zero.2.2.2 s4 (fun rel _ => s2 rel)) mi_L_related ms_L_related lk_L_68 dL_law_223 ⟨Nat.le_of_ble_eq_true rfl, Nat.le_of_ble_eq_true rfl⟩ rfl rfl (by decide) (Nat.le_of_ble_eq_true rfl) (fun r μ' h => ?_)
      obtain ⟨rfl, hMe, hSw⟩ := h
      have hI4 := hI3.of_W hSw hMe
      have hs4 := sameM_W hSw
      refine V_if_eq_f F (tgt := 250) dL_law_226 (by decide) (by decide) ?_
      refine V_aload_n F dL_law_229 rfl ?_
      refine V_iload F dL_law_230 rfl ?_
      refine V_callVi F (q0 := 0) (c_textLength hI4.1 _) mi_X3_textLength mm_X3_textLength lk_L_72 dL_law_232 ⟨Nat.le_of_ble_eq_true rfl, Nat.le_of_ble_eq_true rfl⟩ rfl rfl (by decide) (Nat.le_of_ble_eq_true rfl) rfl rfl rfl ?_
      rw [rFld_ok (by omega) (by omega)]
      refine V_aload_n F dL_law_235 rfl ?_
      refine V_iload F dL_law_236 rfl ?_
      refine V_callVi F (q0 := 0) (c_textLength hI4.1 _) mi_X3_textLength mm_X3_textLength lk_L_72 dL_law_238 ⟨Nat.le_of_ble_eq_true rfl, Nat.le_of_ble_eq_true rfl⟩ rfl rfl (by decide) (Nat.le_of_ble_eq_true rfl) rfl rfl rfl ?_
      rw [rFld_ok (by omega) (by omega)]
      refine V_iconst F (v := nI 5) dL_law_241 (by decide) ?_
      (first | refine V_iaddN F dL_law_242 ?_ | refine V_iadd F dL_law_242 ?_)
      refine V_icmp_ne_f F (tgt := 250) dL_law_243 (by decide) (by rw [s5]) ?_
      refine V_iconst F (v := nI 1) dL_law_246 (by decide) ?_
      refine V_goto F (tgt := 251) dL_law_247 (by decide) ?_
      refine V_istore F (lv' := [_, _, _, _, _, _, _, _, _, _, _, _, _, _, _, _, _, _, _, _, _, _]) dL_law_251 (by decide) rfl rfl ?_
      have hs7 : sameM μ μ' := fun q hq => by rw [hs4 q hq, hs3 q hq, hs2 q hq, hs1 q hq]
      exact V_msk [true, true, false, true, false, true, true, true, true, true, true, false, false, false, false, false, false, false, false, false, false, false] rfl (ld_2 F hI4 (by omega) (hPi.step (fun f => s6 f i hi) (by omega) hs7) (hPj.step (fun f => s6 f j hj) (by omega) hs7) hr hx hy hend)
    · skip
      refine V_if_ne_t F (tgt := 682) dL_law_171 (by decide) (nI_nz (by omega) z2) ?_
      exact V_msk [true, false, false, false, false, true, false, false, true, true, false, false, false, false, false, false, false, false, false, false, false, false] rfl (hend _)
  · skip
    refine V_if_ne_t F (tgt := 682) dL_law_161 (by decide) (nI_nz (by omega) z1) ?_
    exact V_msk [true, false, false, false, false, true, false, false, true, true, false, false, false, false, false, false, false, false, false, false, false, false] rfl (hend _)
end LAWD

