section ANS
variable {T : Tb} {n : Nat}
theorem bq_tau {j : Nat} {μ μ' : Mem} {r : Option Value} (h : BP T n (oTau n (nI j)) μ r μ') (hj : j < n) (hn : n ≤ 24) : BQ T n 1 0 0 j 0 μ r μ' := by
  unfold oTau at h; rw [pj_nI hj (by omega)] at h; exact h
theorem bq_out {x y j : Nat} {μ μ' : Mem} {r : Option Value} (h : BP T n (oOut n (nI x) (nI y) (nI j)) μ r μ') (hx : x < 6) (hy : y < 6) (hj : j < n) (hn : n ≤ 24) : BQ T n 2 x y j 0 μ r μ' := by
  unfold oOut at h; rw [pj_nI hx (by omega), pj_nI hy (by omega), pj_nI hj (by omega)] at h; exact h
theorem bq_in {x j : Nat} {μ μ' : Mem} {r : Option Value} (h : BP T n (oIn n (nI x) (nI j)) μ r μ') (hx : x < 6) (hj : j < n) (hn : n ≤ 24) : BQ T n 3 x 0 j 0 μ r μ' := by
  unfold oIn at h; rw [pj_nI hx (by omega), pj_nI hj (by omega)] at h; exact h
theorem bq_mat {x y j : Nat} {μ μ' : Mem} {r : Option Value} (h : BP T n (oMat n (nI x) (nI y) (nI j)) μ r μ') (hx : x < 6) (hy : y < 6) (hj : j < n) (hn : n ≤ 24) : BQ T n 4 x y j 0 μ r μ' := by
  unfold oMat at h; rw [pj_nI hx (by omega), pj_nI hy (by omega), pj_nI hj (by omega)] at h; exact h
theorem bq_sum {i j : Nat} {μ μ' : Mem} {r : Option Value} (h : BP T n (oSum n (nI i) (nI j)) μ r μ') (hi : i < n) (hj : j < n) (hn : n ≤ 24) : BQ T n 5 0 0 i j μ r μ' := by
  unfold oSum at h; rw [pj_nI hi (by omega), pj_nI hj (by omega)] at h; exact h
theorem bq_fit {k x y p q : Nat} {μ μ' : Mem} {r : Option Value} (h : BQ T n k x y p q μ r μ') (hf : bFit T n k p q) : r = some (.int (nI n)) ∧ XInv (bT T n k x y p q) (n + 1) μ' ∧ sameM μ μ' := by
  rcases h with h | h
  · exact h.2
  · exact absurd hf h.1
theorem bq_no {k x y p q : Nat} {μ μ' : Mem} {r : Option Value} (h : BQ T n k x y p q μ r μ') (hf : ¬ bFit T n k p q) : r = some (.int (-3)) ∧ μ' = μ := by
  rcases h with h | h
  · exact absurd h.1 hf
  · exact h.2
theorem a_rel {i j k : Nat} (hn : n ≤ 24) (hi : i < n) (hj : j < n) (hk : k < 3) (h1 : T 7 i = 0) (h2 : T 7 j = 0) (hr : rnd T k i j = 4) : rPair (fRel T) T n (nI i) (nI j) (nI k) = nI 1 := by
  rw [rPair_ok hn hi hj hk h1 h2]; exact if_pos hr
theorem a_rel0 {i j k : Nat} (hn : n ≤ 24) (hi : i < n) (hj : j < n) (hk : k < 3) (h1 : T 7 i = 0) (h2 : T 7 j = 0) (hr : rnd T k i j ≠ 4) : rPair (fRel T) T n (nI i) (nI j) (nI k) = nI 0 := by
  rw [rPair_ok hn hi hj hk h1 h2]; exact if_neg hr
theorem a_rnd {i j k w : Nat} (hn : n ≤ 24) (hi : i < n) (hj : j < n) (hk : k < 3) (h1 : T 7 i = 0) (h2 : T 7 j = 0) (hr : rnd T k i j = w) (hw : w ≠ 4) : rPair (fRnd T) T n (nI i) (nI j) (nI k) = nI w := by
  rw [rPair_ok hn hi hj hk h1 h2]; unfold fRnd rdI; rw [hr]; exact if_neg hw
theorem a_rnd4 {i j k : Nat} (hn : n ≤ 24) (hi : i < n) (hj : j < n) (hk : k < 3) (h1 : T 7 i = 0) (h2 : T 7 j = 0) (hr : rnd T k i j = 4) : rPair (fRnd T) T n (nI i) (nI j) (nI k) = -4 := by
  rw [rPair_ok hn hi hj hk h1 h2]; exact if_pos hr
theorem a_atk {i j k : Nat} {v : Int32} (hn : n ≤ 24) (hi : i < n) (hj : j < n) (hk : k < 3) (h1 : T 7 i = 0) (h2 : T 7 j = 0) (hr : atkR T k i j = v) : rPair (fAtk T) T n (nI i) (nI j) (nI k) = v := by
  rw [rPair_ok hn hi hj hk h1 h2]; exact hr
theorem a_rep {i k w : Nat} (hn : n ≤ 24) (hi : i < n) (hk : k < 3) (h1 : T 7 i = 0) (hr : lows T k i = w) : rPair (fRep T) T n (nI i) (nI i) (nI k) = nI w := by
  rw [rPair_ok hn hi hi hk h1 h1]; unfold fRep; rw [hr]
theorem a_mc {i w : Nat} (hn : n ≤ 24) (hi : i < n) (h1 : T 7 i = 0) (hr : (mvs T i []).length = w) : rMC T n (nI i) = nI w := by
  rw [rMC_ok hn hi h1, hr]
theorem a_cls {k : Nat} (hk : k < 3) : rCls T n (nI k) = nI (cls T n k) := by
  unfold rCls; rw [pj_nI hk (by omega)]
end ANS
section LAWB
variable {g : Gm} {p : Program} {l : Launch} {e : Env} {s : State} {m : MethodId} {below : List Frame} {meth : Method} {c : Code} {b L : Nat} {xs : Nat → Int32}
theorem lw_done (F : Fx (GS g) p room_1 s m #[Value.ref b] meth c RL cL_law 22 ret 600000 7302250) (hA : ∀ q, AS g.1 q → s.heap.size ≤ q) {lv : List (Option Value)} {μ : Mem} : V (GS g) p l e room_1 s m #[Value.ref b] below meth c 22 600000 7302250 (lw_Z below #[Value.ref b] s) 1075 (lv) ([]) (μ) := by
  refine V_iconst F (v := 1) dL_law_1075 (by decide) ?_
  refine V_goto F (tgt := 1080) dL_law_1076 (by decide) ?_
  intro H locs ls hP hS hl
  exact va_forget (fun q hq => hA _ (hS.2.2 q hq)) (lw_ret F.1 F.2.1 F.2.2.1 F.2.2.2.1 dL_law_1080)

set_option maxHeartbeats 1000000 in
theorem lw_e (F : Fx (GS g) p room_1 s m #[Value.ref b] meth c RL cL_law 22 ret 600000 7302250) (hA : ∀ q, AS g.1 q → s.heap.size ≤ q) {x y : Nat} (hx : x < 3) (hy : y < 3) (hne : x ≠ y) {μ : Mem} (hI : XInv (U7 x y) 8 μ) : V (GS g) p l e room_1 s m #[Value.ref b] below meth c 22 600000 7302250 (lw_Z below #[Value.ref b] s) 1007 ([some (.ref b), some (.ref (g.1 0)), none, none, none, some (.int (nI 1)), none, none, some (.int (nI x)), some (.int (nI y)), some (.int (nI 2)), some (.int (nI 3)), some (.int (nI 4)), some (.int (nI 5)), some (.int (nI 6)), some (.int (nI 7)), none, none, none, none, none, none]) ([]) (μ) := by
  obtain ⟨q1, q2, q3, q4, q5⟩ := q_n x hx y hy
  obtain ⟨c1, c2, c3⟩ := q_c x hx y hy hne
  obtain ⟨l1, l2⟩ := q_l x hx y hy hne
  refine V_iload F dL_law_1007 rfl ?_
  refine V_if_eq_f F (tgt := 1079) dL_law_1009 (by decide) (by decide) ?_
  refine V_aload_n F dL_law_1012 rfl ?_
  refine V_iload F dL_law_1013 rfl ?_
  refine V_iload F dL_law_1015 rfl ?_
  refine V_callV F (q0 := 0) (c_sum hI _ _) mi_X3_sum mm_X3_sum lk_L_34 dL_law_1017 ⟨Nat.le_of_ble_eq_true rfl, Nat.le_of_ble_eq_true rfl⟩ rfl rfl (by decide) (Nat.le_of_ble_eq_true rfl) rfl rfl rfl (fun r μ' h => ?_)
  obtain ⟨rfl, rfl⟩ := bq_no (bq_sum h (by omega) (by omega) (by omega)) (f_8 x hx y hy)
  refine V_bipush F (v := (-3)) dL_law_1020 (by decide) ?_
  refine V_icmp_ne_f F (tgt := 1079) dL_law_1022 (by decide) (rfl) ?_
  refine V_aload_n F dL_law_1025 rfl ?_
  refine V_iload F dL_law_1026 rfl ?_
  refine V_iconst F (v := nI 1) dL_law_1028 (by decide) ?_
  refine V_callV F (q0 := 0) (c_representative hI _ _) mi_X3_representative mm_X3_representative lk_L_90 dL_law_1029 ⟨Nat.le_of_ble_eq_true rfl, Nat.le_of_ble_eq_true rfl⟩ rfl rfl (by decide) (Nat.le_of_ble_eq_true rfl) rfl rfl rfl (fun r μ' h => ?_)
  obtain ⟨rfl, hMe, hSw⟩ := h
  have hI := hI.of_W hSw hMe
  rw [a_rep (by omega) (by omega) (by omega) q5 l1]
  refine V_iload F dL_law_1032 rfl ?_
  refine V_icmp_ne_f F (tgt := 1079) dL_law_1034 (by decide) (rfl) ?_
  refine V_aload_n F dL_law_1037 rfl ?_
  refine V_iload F dL_law_1038 rfl ?_
  refine V_iconst F (v := nI 2) dL_law_1040 (by decide) ?_
  refine V_callV F (q0 := 0) (c_representative hI _ _) mi_X3_representative mm_X3_representative lk_L_90 dL_law_1041 ⟨Nat.le_of_ble_eq_true rfl, Nat.le_of_ble_eq_true rfl⟩ rfl rfl (by decide) (Nat.le_of_ble_eq_true rfl) rfl rfl rfl (fun r μ' h => ?_)
  obtain ⟨rfl, hMe, hSw⟩ := h
  have hI := hI.of_W hSw hMe
  rw [a_rep (by omega) (by omega) (by omega) q5 l2]
  refine V_iload F dL_law_1044 rfl ?_
  refine V_icmp_ne_f F (tgt := 1079) dL_law_1046 (by decide) (rfl) ?_
  refine V_aload_n F dL_law_1049 rfl ?_
  refine V_iconst F (v := nI 0) dL_law_1050 (by decide) ?_
  refine V_callV F (q0 := 0) (c_classCount hI _) mi_X3_classCount mm_X3_classCount lk_L_93 dL_law_1051 ⟨Nat.le_of_ble_eq_true rfl, Nat.le_of_ble_eq_true rfl⟩ rfl rfl (by decide) (Nat.le_of_ble_eq_true rfl) rfl rfl rfl (fun r μ' h => ?_)
  obtain ⟨rfl, hMe, hSw⟩ := h
  have hI := hI.of_W hSw hMe
  rw [a_cls (by omega)]
  refine V_aload_n F dL_law_1054 rfl ?_
  refine V_iconst F (v := nI 1) dL_law_1055 (by decide) ?_
  refine V_callV F (q0 := 0) (c_classCount hI _) mi_X3_classCount mm_X3_classCount lk_L_93 dL_law_1056 ⟨Nat.le_of_ble_eq_true rfl, Nat.le_of_ble_eq_true rfl⟩ rfl rfl (by decide) (Nat.le_of_ble_eq_true rfl) rfl rfl rfl (fun r μ' h => ?_)
  obtain ⟨rfl, hMe, hSw⟩ := h
  have hI := hI.of_W hSw hMe
  rw [a_cls (by omega)]
  refine V_icmp_gt_N F (tgt := 1079) dL_law_1059 (by decide) (by omega) (by omega) (fun hc => ?_) (fun hc => ?_)
  · exact absurd hc (by omega)
  refine V_aload_n F dL_law_1062 rfl ?_
  refine V_iconst F (v := nI 1) dL_law_1063 (by decide) ?_
  refine V_callV F (q0 := 0) (c_classCount hI _) mi_X3_classCount mm_X3_classCount lk_L_93 dL_law_1064 ⟨Nat.le_of_ble_eq_true rfl, Nat.le_of_ble_eq_true rfl⟩ rfl rfl (by decide) (Nat.le_of_ble_eq_true rfl) rfl rfl rfl (fun r μ' h => ?_)
  obtain ⟨rfl, hMe, hSw⟩ := h
  have hI := hI.of_W hSw hMe
  rw [a_cls (by omega)]
  refine V_aload_n F dL_law_1067 rfl ?_
  refine V_iconst F (v := nI 2) dL_law_1068 (by decide) ?_
  refine V_callV F (q0 := 0) (c_classCount hI _) mi_X3_classCount mm_X3_classCount lk_L_93 dL_law_1069 ⟨Nat.le_of_ble_eq_true rfl, Nat.le_of_ble_eq_true rfl⟩ rfl rfl (by decide) (Nat.le_of_ble_eq_true rfl) rfl rfl rfl (fun r μ' h => ?_)
  obtain ⟨rfl, hMe, hSw⟩ := h
  have hI := hI.of_W hSw hMe
  rw [a_cls (by omega)]
  refine V_icmp_gt_N F (tgt := 1079) dL_law_1072 (by decide) (by omega) (by omega) (fun hc => ?_) (fun hc => ?_)
  · exact absurd hc (by omega)
  exact lw_done F hA
set_option maxHeartbeats 1000000 in
theorem lw_d (F : Fx (GS g) p room_1 s m #[Value.ref b] meth c RL cL_law 22 ret 600000 7302250) (hA : ∀ q, AS g.1 q → s.heap.size ≤ q) {x y : Nat} (hx : x < 3) (hy : y < 3) (hne : x ≠ y) {μ : Mem} (hI : XInv (U4 x y) 5 μ) : V (GS g) p l e room_1 s m #[Value.ref b] below meth c 22 600000 7302250 (lw_Z below #[Value.ref b] s) 856 ([some (.ref b), some (.ref (g.1 0)), none, none, none, some (.int (nI 1)), none, none, some (.int (nI x)), some (.int (nI y)), some (.int (nI 2)), some (.int (nI 3)), some (.int (nI 4)), none, none, none, none, none, none, none, none, none]) ([]) (μ) := by
  obtain ⟨q1, q2, q3, q4, q5⟩ := q_n x hx y hy
  obtain ⟨s1, s2, s3⟩ := q_s x hx y hy hne
  obtain ⟨b1, b2⟩ := q_b x hx y hy hne
  refine V_iload F dL_law_856 rfl ?_
  refine V_if_eq_f F (tgt := 871) dL_law_858 (by decide) (by decide) ?_
  refine V_aload_n F dL_law_861 rfl ?_
  refine V_iload F dL_law_862 rfl ?_
  refine V_iconst F (v := nI 1) dL_law_864 (by decide) ?_
  refine V_callV F (q0 := 0) (c_input hI _ _) mi_X3_input mm_X3_input lk_L_28 dL_law_865 ⟨Nat.le_of_ble_eq_true rfl, Nat.le_of_ble_eq_true rfl⟩ rfl rfl (by decide) (Nat.le_of_ble_eq_true rfl) rfl rfl rfl (fun r μ' h => ?_)
  obtain ⟨rfl, hI, -⟩ := bq_fit (bq_in h (by omega) (by omega) (by omega)) (f_5 x hx y hy)
  have hI : XInv (U5 x y) 6 _ := hI
  refine V_goto F (tgt := 872) dL_law_868 (by decide) ?_
  refine V_istore F (lv' := [_, _, _, _, _, _, _, _, _, _, _, _, _, _, _, _, _, _, _, _, _, _]) dL_law_872 (by decide) rfl rfl ?_
  refine V_iload F dL_law_874 rfl ?_
  refine V_if_eq_f F (tgt := 890) dL_law_876 (by decide) (by decide) ?_
  refine V_aload_n F dL_law_879 rfl ?_
  refine V_iload F dL_law_880 rfl ?_
  refine V_iload F dL_law_882 rfl ?_
  refine V_callV F (q0 := 0) (c_sum hI _ _) mi_X3_sum mm_X3_sum lk_L_34 dL_law_884 ⟨Nat.le_of_ble_eq_true rfl, Nat.le_of_ble_eq_true rfl⟩ rfl rfl (by decide) (Nat.le_of_ble_eq_true rfl) rfl rfl rfl (fun r μ' h => ?_)
  obtain ⟨rfl, hI, -⟩ := bq_fit (bq_sum h (by omega) (by omega) (by omega)) (f_6 x hx y hy)
  have hI : XInv (U6 x y) 7 _ := hI
  refine V_goto F (tgt := 891) dL_law_887 (by decide) ?_
  refine V_istore F (lv' := [_, _, _, _, _, _, _, _, _, _, _, _, _, _, _, _, _, _, _, _, _, _]) dL_law_891 (by decide) rfl rfl ?_
  refine V_iload F dL_law_893 rfl ?_
  refine V_if_eq_f F (tgt := 909) dL_law_895 (by decide) (by decide) ?_
  refine V_aload_n F dL_law_898 rfl ?_
  refine V_iload F dL_law_899 rfl ?_
  refine V_iload F dL_law_901 rfl ?_
  refine V_callV F (q0 := 0) (c_sum hI _ _) mi_X3_sum mm_X3_sum lk_L_34 dL_law_903 ⟨Nat.le_of_ble_eq_true rfl, Nat.le_of_ble_eq_true rfl⟩ rfl rfl (by decide) (Nat.le_of_ble_eq_true rfl) rfl rfl rfl (fun r μ' h => ?_)
  obtain ⟨rfl, hI, -⟩ := bq_fit (bq_sum h (by omega) (by omega) (by omega)) (f_7 x hx y hy)
  have hI : XInv (U7 x y) 8 _ := hI
  refine V_goto F (tgt := 910) dL_law_906 (by decide) ?_
  refine V_istore F (lv' := [_, _, _, _, _, _, _, _, _, _, _, _, _, _, _, _, _, _, _, _, _, _]) dL_law_910 (by decide) rfl rfl ?_
  refine V_iload F dL_law_912 rfl ?_
  refine V_if_eq_f F (tgt := 1004) dL_law_914 (by decide) (by decide) ?_
  refine V_iload F dL_law_917 rfl ?_
  refine V_if_le_f F (tgt := 1004) dL_law_919 (by decide) (nI_nle (by omega) (by omega)) ?_
  refine V_aload_n F dL_law_922 rfl ?_
  refine V_iload F dL_law_923 rfl ?_
  refine V_callVi F (q0 := 0) (c_moveCount hI.1 _) mi_X3_moveCount mm_X3_moveCount lk_L_75 dL_law_925 ⟨Nat.le_of_ble_eq_true rfl, Nat.le_of_ble_eq_true rfl⟩ rfl rfl (by decide) (Nat.le_of_ble_eq_true rfl) rfl rfl rfl ?_
  rw [a_mc (by omega) (by omega) q5 (q_m x hx y hy hne)]
  refine V_iconst F (v := nI 3) dL_law_928 (by decide) ?_
  refine V_icmp_ne_f F (tgt := 1004) dL_law_929 (by decide) (rfl) ?_
  refine V_aload_n F dL_law_932 rfl ?_
  refine V_iload F dL_law_933 rfl ?_
  refine V_iload F dL_law_935 rfl ?_
  refine V_iconst F (v := nI 0) dL_law_937 (by decide) ?_
  refine V_callV F (q0 := 0) (c_areRelated hI _ _ _) mi_X3_areRelated mm_X3_areRelated lk_L_53 dL_law_938 ⟨Nat.le_of_ble_eq_true rfl, Nat.le_of_ble_eq_true rfl⟩ rfl rfl (by decide) (Nat.le_of_ble_eq_true rfl) rfl rfl rfl (fun r μ' h => ?_)
  obtain ⟨rfl, hMe, hSw⟩ := h
  have hI := hI.of_W hSw hMe
  rw [a_rel (by omega) (by omega) (by omega) (by omega) q4 q5 s1]
  refine V_iconst F (v := nI 1) dL_law_941 (by decide) ?_
  refine V_icmp_ne_f F (tgt := 1004) dL_law_942 (by decide) (rfl) ?_
  refine V_aload_n F dL_law_945 rfl ?_
  refine V_iload F dL_law_946 rfl ?_
  refine V_iload F dL_law_948 rfl ?_
  refine V_iconst F (v := nI 1) dL_law_950 (by decide) ?_
  refine V_callV F (q0 := 0) (c_areRelated hI _ _ _) mi_X3_areRelated mm_X3_areRelated lk_L_53 dL_law_951 ⟨Nat.le_of_ble_eq_true rfl, Nat.le_of_ble_eq_true rfl⟩ rfl rfl (by decide) (Nat.le_of_ble_eq_true rfl) rfl rfl rfl (fun r μ' h => ?_)
  obtain ⟨rfl, hMe, hSw⟩ := h
  have hI := hI.of_W hSw hMe
  rw [a_rel (by omega) (by omega) (by omega) (by omega) q4 q5 s2]
  refine V_iconst F (v := nI 1) dL_law_954 (by decide) ?_
  refine V_icmp_ne_f F (tgt := 1004) dL_law_955 (by decide) (rfl) ?_
  refine V_aload_n F dL_law_958 rfl ?_
  refine V_iload F dL_law_959 rfl ?_
  refine V_iload F dL_law_961 rfl ?_
  refine V_iconst F (v := nI 2) dL_law_963 (by decide) ?_
  refine V_callV F (q0 := 0) (c_rounds hI _ _ _) mi_X3_rounds mm_X3_rounds lk_L_56 dL_law_964 ⟨Nat.le_of_ble_eq_true rfl, Nat.le_of_ble_eq_true rfl⟩ rfl rfl (by decide) (Nat.le_of_ble_eq_true rfl) rfl rfl rfl (fun r μ' h => ?_)
  obtain ⟨rfl, hMe, hSw⟩ := h
  have hI := hI.of_W hSw hMe
  rw [a_rnd (by omega) (by omega) (by omega) (by omega) q4 q5 s3 (by omega)]
  refine V_iconst F (v := nI 2) dL_law_967 (by decide) ?_
  refine V_icmp_ne_f F (tgt := 1004) dL_law_968 (by decide) (rfl) ?_
  refine V_aload_n F dL_law_971 rfl ?_
  refine V_iload F dL_law_972 rfl ?_
  refine V_iload F dL_law_974 rfl ?_
  refine V_iconst F (v := nI 2) dL_law_976 (by decide) ?_
  refine V_callV F (q0 := 0) (c_firstAttack hI _ _ _) mi_X3_firstAttack mm_X3_firstAttack lk_L_81 dL_law_977 ⟨Nat.le_of_ble_eq_true rfl, Nat.le_of_ble_eq_true rfl⟩ rfl rfl (by decide) (Nat.le_of_ble_eq_true rfl) rfl rfl rfl (fun r μ' h => ?_)
  obtain ⟨rfl, hMe, hSw⟩ := h
  have hI := hI.of_W hSw hMe
  rw [a_atk (by omega) (by omega) (by omega) (by omega) q4 q5 b1]
  refine V_sipush F (v := nI 1029) dL_law_980 (by decide) ?_
  refine V_icmp_ne_f F (tgt := 1004) dL_law_983 (by decide) (rfl) ?_
  refine V_aload_n F dL_law_986 rfl ?_
  refine V_iload F dL_law_987 rfl ?_
  refine V_iload F dL_law_989 rfl ?_
  refine V_iconst F (v := nI 2) dL_law_991 (by decide) ?_
  refine V_callV F (q0 := 0) (c_firstAttack hI _ _ _) mi_X3_firstAttack mm_X3_firstAttack lk_L_81 dL_law_992 ⟨Nat.le_of_ble_eq_true rfl, Nat.le_of_ble_eq_true rfl⟩ rfl rfl (by decide) (Nat.le_of_ble_eq_true rfl) rfl rfl rfl (fun r μ' h => ?_)
  obtain ⟨rfl, hMe, hSw⟩ := h
  have hI := hI.of_W hSw hMe
  rw [a_atk (by omega) (by omega) (by omega) (by omega) q5 q4 b2]
  refine V_bipush F (v := nI 29) dL_law_995 (by decide) ?_
  refine V_icmp_ne_f F (tgt := 1004) dL_law_997 (by decide) (rfl) ?_
  refine V_iconst F (v := nI 1) dL_law_1000 (by decide) ?_
  refine V_goto F (tgt := 1005) dL_law_1001 (by decide) ?_
  refine V_istore F (lv' := [_, _, _, _, _, _, _, _, _, _, _, _, _, _, _, _, _, _, _, _, _, _]) dL_law_1005 (by decide) rfl rfl ?_
  exact lw_e F hA hx hy hne hI
set_option maxHeartbeats 1000000 in
theorem lw_c (F : Fx (GS g) p room_1 s m #[Value.ref b] meth c RL cL_law 22 ret 600000 7302250) (hA : ∀ q, AS g.1 q → s.heap.size ≤ q) {x y : Nat} (hx : x < 3) (hy : y < 3) (hne : x ≠ y) {μ : Mem} (hI : XInv Ti 1 μ) : V (GS g) p l e room_1 s m #[Value.ref b] below meth c 22 600000 7302250 (lw_Z below #[Value.ref b] s) 690 ([some (.ref b), some (.ref (g.1 0)), none, none, none, some (.int (nI 1)), none, none, some (.int (nI x)), some (.int (nI y)), none, none, none, none, none, none, none, none, none, none, none, none]) ([]) (μ) := by
  obtain ⟨q1, q2, q3, q4, q5⟩ := q_n x hx y hy
  obtain ⟨r1, r2, r3, r4⟩ := q_r x hx y hy hne
  obtain ⟨a1, a2⟩ := q_a x hx y hy hne
  refine V_aload_n F dL_law_690 rfl ?_
  refine V_iconst F (v := nI 0) dL_law_691 (by decide) ?_
  refine V_callV F (q0 := 0) (c_tau hI _) mi_X3_tau mm_X3_tau lk_L_19 dL_law_692 ⟨Nat.le_of_ble_eq_true rfl, Nat.le_of_ble_eq_true rfl⟩ rfl rfl (by decide) (Nat.le_of_ble_eq_true rfl) rfl rfl rfl (fun r μ' h => ?_)
  obtain ⟨rfl, hI, -⟩ := bq_fit (bq_tau h (by omega) (by omega)) (f_1)
  have hI : XInv U1 2 _ := hI
  refine V_istore F (lv' := [_, _, _, _, _, _, _, _, _, _, _, _, _, _, _, _, _, _, _, _, _, _]) dL_law_695 (by decide) rfl rfl ?_
  refine V_iload F dL_law_697 rfl ?_
  refine V_if_eq_f F (tgt := 714) dL_law_699 (by decide) (by decide) ?_
  refine V_aload_n F dL_law_702 rfl ?_
  refine V_iconst F (v := nI 3) dL_law_703 (by decide) ?_
  refine V_iload F dL_law_704 rfl ?_
  refine V_iload F dL_law_706 rfl ?_
  refine V_callV F (q0 := 0) (c_match hI _ _ _) mi_X3_match mm_X3_match lk_L_31 dL_law_708 ⟨Nat.le_of_ble_eq_true rfl, Nat.le_of_ble_eq_true rfl⟩ rfl rfl (by decide) (Nat.le_of_ble_eq_true rfl) rfl rfl rfl (fun r μ' h => ?_)
  obtain ⟨rfl, hI, -⟩ := bq_fit (bq_mat h (by omega) (by omega) (by omega) (by omega)) (f_2)
  have hI : XInv (U2 y) 3 _ := hI
  refine V_goto F (tgt := 715) dL_law_711 (by decide) ?_
  refine V_istore F (lv' := [_, _, _, _, _, _, _, _, _, _, _, _, _, _, _, _, _, _, _, _, _, _]) dL_law_715 (by decide) rfl rfl ?_
  refine V_iload F dL_law_717 rfl ?_
  refine V_if_eq_f F (tgt := 733) dL_law_719 (by decide) (by decide) ?_
  refine V_aload_n F dL_law_722 rfl ?_
  refine V_iload F dL_law_723 rfl ?_
  refine V_iload F dL_law_725 rfl ?_
  refine V_callV F (q0 := 0) (c_input hI _ _) mi_X3_input mm_X3_input lk_L_28 dL_law_727 ⟨Nat.le_of_ble_eq_true rfl, Nat.le_of_ble_eq_true rfl⟩ rfl rfl (by decide) (Nat.le_of_ble_eq_true rfl) rfl rfl rfl (fun r μ' h => ?_)
  obtain ⟨rfl, hI, -⟩ := bq_fit (bq_in h (by omega) (by omega) (by omega)) (f_3 y hy)
  have hI : XInv (U3 x y) 4 _ := hI
  refine V_goto F (tgt := 734) dL_law_730 (by decide) ?_
  refine V_istore F (lv' := [_, _, _, _, _, _, _, _, _, _, _, _, _, _, _, _, _, _, _, _, _, _]) dL_law_734 (by decide) rfl rfl ?_
  refine V_iload F dL_law_736 rfl ?_
  refine V_if_eq_f F (tgt := 751) dL_law_738 (by decide) (by decide) ?_
  refine V_aload_n F dL_law_741 rfl ?_
  refine V_iload F dL_law_742 rfl ?_
  refine V_iconst F (v := nI 0) dL_law_744 (by decide) ?_
  refine V_callV F (q0 := 0) (c_input hI _ _) mi_X3_input mm_X3_input lk_L_28 dL_law_745 ⟨Nat.le_of_ble_eq_true rfl, Nat.le_of_ble_eq_true rfl⟩ rfl rfl (by decide) (Nat.le_of_ble_eq_true rfl) rfl rfl rfl (fun r μ' h => ?_)
  obtain ⟨rfl, hI, -⟩ := bq_fit (bq_in h (by omega) (by omega) (by omega)) (f_4 x hx y hy)
  have hI : XInv (U4 x y) 5 _ := hI
  refine V_goto F (tgt := 752) dL_law_748 (by decide) ?_
  refine V_istore F (lv' := [_, _, _, _, _, _, _, _, _, _, _, _, _, _, _, _, _, _, _, _, _, _]) dL_law_752 (by decide) rfl rfl ?_
  refine V_iload F dL_law_754 rfl ?_
  refine V_if_eq_f F (tgt := 853) dL_law_756 (by decide) (by decide) ?_
  refine V_aload_n F dL_law_759 rfl ?_
  refine V_iload F dL_law_760 rfl ?_
  refine V_callVi F (q0 := 0) (c_needOf hI.1 _) mi_X3_needOf mm_X3_needOf lk_L_87 dL_law_762 ⟨Nat.le_of_ble_eq_true rfl, Nat.le_of_ble_eq_true rfl⟩ rfl rfl (by decide) (Nat.le_of_ble_eq_true rfl) rfl rfl rfl ?_
  rw [rFld_ok (by omega) (by omega), q1]
  refine V_iconst F (v := nI 1) dL_law_765 (by decide) ?_
  refine V_icmp_ne_f F (tgt := 853) dL_law_766 (by decide) (rfl) ?_
  refine V_aload_n F dL_law_769 rfl ?_
  refine V_iload F dL_law_770 rfl ?_
  refine V_iload F dL_law_772 rfl ?_
  refine V_iconst F (v := nI 0) dL_law_774 (by decide) ?_
  refine V_callV F (q0 := 0) (c_areRelated hI _ _ _) mi_X3_areRelated mm_X3_areRelated lk_L_53 dL_law_775 ⟨Nat.le_of_ble_eq_true rfl, Nat.le_of_ble_eq_true rfl⟩ rfl rfl (by decide) (Nat.le_of_ble_eq_true rfl) rfl rfl rfl (fun r μ' h => ?_)
  obtain ⟨rfl, hMe, hSw⟩ := h
  have hI := hI.of_W hSw hMe
  rw [a_rel (by omega) (by omega) (by omega) (by omega) q2 q3 r1]
  refine V_iconst F (v := nI 1) dL_law_778 (by decide) ?_
  refine V_icmp_ne_f F (tgt := 853) dL_law_779 (by decide) (rfl) ?_
  refine V_aload_n F dL_law_782 rfl ?_
  refine V_iload F dL_law_783 rfl ?_
  refine V_iload F dL_law_785 rfl ?_
  refine V_iconst F (v := nI 1) dL_law_787 (by decide) ?_
  refine V_callV F (q0 := 0) (c_rounds hI _ _ _) mi_X3_rounds mm_X3_rounds lk_L_56 dL_law_788 ⟨Nat.le_of_ble_eq_true rfl, Nat.le_of_ble_eq_true rfl⟩ rfl rfl (by decide) (Nat.le_of_ble_eq_true rfl) rfl rfl rfl (fun r μ' h => ?_)
  obtain ⟨rfl, hMe, hSw⟩ := h
  have hI := hI.of_W hSw hMe
  rw [a_rnd (by omega) (by omega) (by omega) (by omega) q2 q3 r2 (by omega)]
  refine V_iconst F (v := nI 2) dL_law_791 (by decide) ?_
  refine V_icmp_ne_f F (tgt := 853) dL_law_792 (by decide) (rfl) ?_
  refine V_aload_n F dL_law_795 rfl ?_
  refine V_iload F dL_law_796 rfl ?_
  refine V_iload F dL_law_798 rfl ?_
  refine V_iconst F (v := nI 2) dL_law_800 (by decide) ?_
  refine V_callV F (q0 := 0) (c_rounds hI _ _ _) mi_X3_rounds mm_X3_rounds lk_L_56 dL_law_801 ⟨Nat.le_of_ble_eq_true rfl, Nat.le_of_ble_eq_true rfl⟩ rfl rfl (by decide) (Nat.le_of_ble_eq_true rfl) rfl rfl rfl (fun r μ' h => ?_)
  obtain ⟨rfl, hMe, hSw⟩ := h
  have hI := hI.of_W hSw hMe
  rw [a_rnd (by omega) (by omega) (by omega) (by omega) q2 q3 r3 (by omega)]
  refine V_iconst F (v := nI 2) dL_law_804 (by decide) ?_
  refine V_icmp_ne_f F (tgt := 853) dL_law_805 (by decide) (rfl) ?_
  refine V_aload_n F dL_law_808 rfl ?_
  refine V_iload F dL_law_809 rfl ?_
  refine V_iload F dL_law_811 rfl ?_
  refine V_iconst F (v := nI 1) dL_law_813 (by decide) ?_
  refine V_callV F (q0 := 0) (c_firstAttack hI _ _ _) mi_X3_firstAttack mm_X3_firstAttack lk_L_81 dL_law_814 ⟨Nat.le_of_ble_eq_true rfl, Nat.le_of_ble_eq_true rfl⟩ rfl rfl (by decide) (Nat.le_of_ble_eq_true rfl) rfl rfl rfl (fun r μ' h => ?_)
  obtain ⟨rfl, hMe, hSw⟩ := h
  have hI := hI.of_W hSw hMe
  rw [a_atk (by omega) (by omega) (by omega) (by omega) q2 q3 a1]
  refine V_iload F dL_law_817 rfl ?_
  refine V_icmp_ne_f F (tgt := 853) dL_law_819 (by decide) (rfl) ?_
  refine V_aload_n F dL_law_822 rfl ?_
  refine V_iload F dL_law_823 rfl ?_
  refine V_iload F dL_law_825 rfl ?_
  refine V_iconst F (v := nI 2) dL_law_827 (by decide) ?_
  refine V_callV F (q0 := 0) (c_firstAttack hI _ _ _) mi_X3_firstAttack mm_X3_firstAttack lk_L_81 dL_law_828 ⟨Nat.le_of_ble_eq_true rfl, Nat.le_of_ble_eq_true rfl⟩ rfl rfl (by decide) (Nat.le_of_ble_eq_true rfl) rfl rfl rfl (fun r μ' h => ?_)
  obtain ⟨rfl, hMe, hSw⟩ := h
  have hI := hI.of_W hSw hMe
  rw [a_atk (by omega) (by omega) (by omega) (by omega) q2 q3 a2]
  refine V_bipush F (v := nI 9) dL_law_831 (by decide) ?_
  refine V_icmp_ne_f F (tgt := 853) dL_law_833 (by decide) (rfl) ?_
  refine V_aload_n F dL_law_836 rfl ?_
  refine V_iload F dL_law_837 rfl ?_
  refine V_iload F dL_law_839 rfl ?_
  refine V_iconst F (v := nI 1) dL_law_841 (by decide) ?_
  refine V_callV F (q0 := 0) (c_rounds hI _ _ _) mi_X3_rounds mm_X3_rounds lk_L_56 dL_law_842 ⟨Nat.le_of_ble_eq_true rfl, Nat.le_of_ble_eq_true rfl⟩ rfl rfl (by decide) (Nat.le_of_ble_eq_true rfl) rfl rfl rfl (fun r μ' h => ?_)
  obtain ⟨rfl, hMe, hSw⟩ := h
  have hI := hI.of_W hSw hMe
  rw [a_rnd (by omega) (by omega) (by omega) (by omega) q3 q2 r4 (by omega)]
  refine V_iconst F (v := nI 2) dL_law_845 (by decide) ?_
  refine V_icmp_ne_f F (tgt := 853) dL_law_846 (by decide) (rfl) ?_
  refine V_iconst F (v := nI 1) dL_law_849 (by decide) ?_
  refine V_goto F (tgt := 854) dL_law_850 (by decide) ?_
  refine V_istore F (lv' := [_, _, _, _, _, _, _, _, _, _, _, _, _, _, _, _, _, _, _, _, _, _]) dL_law_854 (by decide) rfl rfl ?_
  exact lw_d F hA hx hy hne hI
end LAWB

