section STRROWS
variable {G : Geo} {p : Program} {l : Launch} {e : Env} {R : Room} {s : State} {m : MethodId} {args : Array Value} {below : List Frame} {meth : Method} {c : Code} {k n : Nat} {Z : State → Prop} {own : String} {cc : ByteArray} {nL pc : Nat} {ret : Option FieldType} {lv : List (Option Value)} {st : List Value} {μ : Mem}
theorem V_compact (F : Fx G p R s m args meth c own cc nL ret k n) {index : Nat} (hlink : Cond.fieldLink own index "java/lang/String" "COMPACT_STRINGS" "Z" ∈ wsG) (d : decode cc pc = .ok (.getstatic index, 3)) (kk : V G p l e R s m args below meth c nL k n Z (pc + 3) lv (.int 1 :: st) μ) : V G p l e R s m args below meth c nL k n Z pc lv st μ := by
  intro H locs ls hP hS hl
  exact va_gets F.1 F.2.1 F.2.2.2.2.2.2.2.1.2.2.2.2.2.1 hS F.2.2.2.2.2.1 (F.2.2.2.2.2.2.1 _ hlink) (fun _ h => h) d (kk H locs ls hP hS hl)
theorem V_sioobe (F : Fx G p R s m args meth c own cc nL ret k n) {index : Nat} (hlink : Cond.fieldLink own index "jdk/internal/util/Preconditions" "SIOOBE_FORMATTER" "Ljava/util/function/BiFunction;" ∈ wsG) (d : decode cc pc = .ok (.getstatic index, 3)) (kn : V G p l e R s m args below meth c nL k n Z (pc + 3) lv (.null :: st) μ) (kr : ∀ t, V G p l e R s m args below meth c nL k n Z (pc + 3) lv (.ref t :: st) μ) : V G p l e R s m args below meth c nL k n Z pc lv st μ := by
  intro H locs ls hP hS hl
  rcases F.2.2.2.2.2.2.2.1.2.2.2.2.2.2 with h | ⟨t, h⟩
  · exact va_gets F.1 F.2.1 h hS F.2.2.2.2.2.1 (F.2.2.2.2.2.2.1 _ hlink) (fun _ h => h) d (kn H locs ls hP hS hl)
  · exact va_gets F.1 F.2.1 h hS F.2.2.2.2.2.1 (F.2.2.2.2.2.2.1 _ hlink) (fun _ h => h) d (kr t H locs ls hP hS hl)
theorem V_svalue (F : Fx G p R s m args meth c own cc nL ret k n) {i index : Nat} (hi : i < 6) (hlink : Cond.fieldLink own index "java/lang/String" "value" "[B" ∈ wsG) (d : decode cc pc = .ok (.getfield index, 3)) (kk : V G p l e R s m args below meth c nL k n Z (pc + 3) lv (.ref (gV G i) :: st) μ) : V G p l e R s m args below meth c nL k n Z pc lv (.ref (gK G i) :: st) μ := by
  intro H locs ls hP hS hl
  exact vk_getf F.1 F.2.1 (F.2.2.2.2.2.2.2.1.2.2.2.1.1 i hi).2.2.1 hS F.2.2.2.2.2.1 (F.2.2.2.2.2.2.1 _ hlink) (fun _ h => h) d (kk H locs ls hP hS hl)
theorem V_scoder (F : Fx G p R s m args meth c own cc nL ret k n) {i index : Nat} (hi : i < 6) (hlink : Cond.fieldLink own index "java/lang/String" "coder" "B" ∈ wsG) (d : decode cc pc = .ok (.getfield index, 3)) (kk : V G p l e R s m args below meth c nL k n Z (pc + 3) lv (.int 0 :: st) μ) : V G p l e R s m args below meth c nL k n Z pc lv (.ref (gK G i) :: st) μ := by
  intro H locs ls hP hS hl
  exact vk_getf F.1 F.2.1 (F.2.2.2.2.2.2.2.1.2.2.2.1.1 i hi).2.1 hS F.2.2.2.2.2.1 (F.2.2.2.2.2.2.1 _ hlink) (fun _ h => h) d (kk H locs ls hP hS hl)
theorem V_slen (F : Fx G p R s m args meth c own cc nL ret k n) {i : Nat} (hi : i < 6) (d : decode cc pc = .ok (.arraylength, 1)) (kk : V G p l e R s m args below meth c nL k n Z (pc + 1) lv (.int (nI (sLen.getD i 0)) :: st) μ) : V G p l e R s m args below meth c nL k n Z pc lv (.ref (gV G i) :: st) μ := by
  intro H locs ls hP hS hl
  exact va_tlen F.1 F.2.1 (F.2.2.2.2.2.2.2.1.2.2.2.1.1 i hi).2.2.2 hS rfl d (kk H locs ls hP hS hl)
theorem V_sbald (F : Fx G p R s m args meth c own cc nL ret k n) {i j : Nat} (hi : i < 6) (hj : j < sLen.getD i 0) (hj2 : j < 2 ^ 30) (d : decode cc pc = .ok (.baload, 1)) (kk : V G p l e R s m args below meth c nL k n Z (pc + 1) lv (.int ((sByt.getD i []).getD j 0) :: st) μ) : V G p l e R s m args below meth c nL k n Z pc lv (.int (nI j) :: .ref (gV G i) :: st) μ := by
  intro H locs ls hP hS hl
  refine va_tb F.1 F.2.1 (F.2.2.2.2.2.2.2.1.2.2.2.1.1 i hi).2.2.2 hS ?_ (v := .int ((sByt.getD i []).getD j 0)) (by rw [nI_clamp (by omega)]) d (kk H locs ls hP hS hl)
  refine vp_in_nI hj ?_
  have : ∀ i, i < 6 → sLen.getD i 0 < 2 ^ 31 := by decide +kernel
  exact this i hi
/-- a call on a String constant -/
theorem V_callK (F : Fx G p R s m args meth c own cc nL ret k n) {y : MethodName} {b : ByteArray} {nLc dp index j i : Nat} {retc : Option FieldType} {As : List Value} {v : Value} (hi : i < 6) (hC : Ct G l dp y b nLc retc (.ref (gK G i) :: As) μ (Is v μ)) (hM : MI y b nLc retc j) (hs : Cond.instanceMethod y ∈ wsG ∧ Cond.selects y.cls y y ∈ wsG) (hlink : Cond.methodLink own index y ∈ wsG) (d : decode cc pc = .ok (.invokevirtual index, 3)) (hR : dp + 1 ≤ R.frames ∧ (dp + 1) * 40 ≤ R.locals) {st0 : List Value} (hst : st0 = As.reverse ++ .ref (gK G i) :: st) (hn : As.length = j) (hnl : nLc ≤ 21) (hw : (st.map fun v => v.category).sum ≤ 8)
    (hqc : "java/lang/String" = y.cls) (kk : V G p l e R s m args below meth c nL k n Z (pc + 3) lv (v :: st) μ) : V G p l e R s m args below meth c nL k n Z pc lv st0 μ := by
  refine V_run (st := st) (As := (Value.ref (gK G i) :: As).toArray) (Qc := Is v μ) (fun H locs ls hP hS hz => ?_) (fun r μ' h => by obtain ⟨rfl, rfl⟩ := h; exact kk)
  subst hst
  exact va_runV ⟨F.1, F.2.1, F.2.2.2.2.1, F.2.2.2.2.2.1, F.2.2.2.2.2.2.1⟩ hC ⟨callB_of j F.2.2.2.2.2.2.1 (good_code hM.1) rfl rfl rfl (F.2.2.2.2.2.2.1 _ hM.2.1) (F.2.2.2.2.2.2.1 _ hlink) hM.2.2.1 (room_ok hR hnl), F.2.2.2.2.2.2.1 _ hs.1, F.2.2.2.2.2.2.1 _ hs.2⟩
    ⟨Pp.blind, hqc ▸ vk_recv F.2.2.2.2.2.2.2.1.2.2.2.1 hi hS, fun U hU hW => ⟨rfl, by rw [hU]; exact hP, by rw [hU]; exact F.2.2.2.2.2.2.2.1.step hS hW⟩⟩ rfl hn hz rfl (lv_room hw) d F.2.2.2.2.2.2.2.2
end STRROWS
section STR
variable {G : Geo} {g : Gm} {l : Launch} {μ : Mem}
theorem c_coder {i : Nat} (hi : i < 6) : Ct G l (0) yJ0_coder_7d493 cJ0_coder_7d493 1 (some .byte) [.ref (gK G i)] μ (Is (.int 0) μ) := by
  refine Ct.of (own := RJ0) mi_J0_coder_7d493 rfl [some (.ref (gK G i))] (Nat.le_of_ble_eq_true rfl) rfl (fun p₀ e₀ s₀ m₀ b₀ h₀ c₀ F => ?_)
  refine V_compact F lk_J0_38 dJ0_coder_7d493_0 ?_
  refine V_if_eq_f F (tgt := 13) dJ0_coder_7d493_3 (by decide) (by decide) ?_
  refine V_aload_n F dJ0_coder_7d493_6 rfl ?_
  refine V_scoder F hi lk_J0_15 dJ0_coder_7d493_7 ?_
  refine V_goto F (tgt := 14) dJ0_coder_7d493_10 (by decide) ?_
  exact V_xret F dJ0_coder_7d493_14 (rfl) (⟨rfl, rfl⟩)
theorem c_slen {i : Nat} (hi : i < 6) : Ct G l (1) yJ0_length_8abf5 cJ0_length_8abf5 1 (some .int) [.ref (gK G i)] μ (Is (.int (nI (sLen.getD i 0))) μ) := by
  have hb : ∀ i, i < 6 → sLen.getD i 0 < 2 ^ 31 := by decide +kernel
  refine Ct.of (own := RJ0) mi_J0_length_8abf5 rfl [some (.ref (gK G i))] (Nat.le_of_ble_eq_true rfl) rfl (fun p₀ e₀ s₀ m₀ b₀ h₀ c₀ F => ?_)
  refine V_aload_n F dJ0_length_8abf5_0 rfl ?_
  refine V_svalue F hi lk_J0_9 dJ0_length_8abf5_1 ?_
  refine V_slen F hi dJ0_length_8abf5_4 ?_
  refine V_aload_n F dJ0_length_8abf5_5 rfl ?_
  refine V_callK F hi (c_coder hi) mi_J0_coder_7d493 mm_J0_coder_7d493 lk_J0_335 dJ0_length_8abf5_6 (rmR (by omega)) rfl rfl (by decide) (Nat.le_of_ble_eq_true rfl) rfl ?_
  refine V_ishr F dJ0_length_8abf5_9 ?_
  refine V_val F (sc_shr0 (hb i hi)) ?_
  exact V_iret F dJ0_length_8abf5_10 (⟨rfl, rfl⟩)
theorem c_isLatin1 {i : Nat} (hi : i < 6) : Ct G l (0) yJ0_isLatin1_aae02 cJ0_isLatin1_aae02 1 (some .boolean) [.ref (gK G i)] μ (Is (.int (nI 1)) μ) := by
  refine Ct.of (own := RJ0) mi_J0_isLatin1_aae02 rfl [some (.ref (gK G i))] (Nat.le_of_ble_eq_true rfl) rfl (fun p₀ e₀ s₀ m₀ b₀ h₀ c₀ F => ?_)
  refine V_compact F lk_J0_38 dJ0_isLatin1_aae02_0 ?_
  refine V_if_eq_f F (tgt := 17) dJ0_isLatin1_aae02_3 (by decide) (by decide) ?_
  refine V_aload_n F dJ0_isLatin1_aae02_6 rfl ?_
  refine V_scoder F hi lk_J0_15 dJ0_isLatin1_aae02_7 ?_
  refine V_if_ne_f F (tgt := 17) dJ0_isLatin1_aae02_10 (by decide) (by decide) ?_
  refine V_iconst F (v := nI 1) dJ0_isLatin1_aae02_13 (by decide) ?_
  refine V_goto F (tgt := 18) dJ0_isLatin1_aae02_14 (by decide) ?_
  exact V_zret F dJ0_isLatin1_aae02_18 (rfl) (⟨rfl, rfl⟩)
theorem c_check3 {i n : Nat} (hi : i < n) (hn : n < 2 ^ 31) {v : Value} (hv : v.category = 1) : Ct G l (0) yJ3_checkIndex_8e157 cJ3_checkIndex_8e157 3 (some .int) [.int (nI i), .int (nI n), v] μ (Is (.int (nI i)) μ) := by
  refine Ct.of (own := RJ3) mi_J3_checkIndex_8e157 rfl [some (.int (nI i)), some (.int (nI n)), some v] ?_ rfl (fun p₀ e₀ s₀ m₀ b₀ h₀ c₀ F => ?_)
  · cases v <;> first | exact Nat.le_of_ble_eq_true rfl | cases hv
  refine V_iload_n F dJ3_checkIndex_8e157_0 rfl ?_
  refine V_if_lt_f F (tgt := 9) dJ3_checkIndex_8e157_1 (by decide) (nI_nn (by omega)) ?_
  refine V_iload_n F dJ3_checkIndex_8e157_4 rfl ?_
  refine V_iload_n F dJ3_checkIndex_8e157_5 rfl ?_
  refine V_icmp_lt_t F (tgt := 16) dJ3_checkIndex_8e157_6 (by decide) ((nI_ltI (by omega) hn).mpr hi) ?_
  refine V_iload_n F dJ3_checkIndex_8e157_16 rfl ?_
  exact V_iret F dJ3_checkIndex_8e157_17 (⟨rfl, rfl⟩)
theorem c_check2 {i n : Nat} (hi : i < n) (hn : n < 2 ^ 31) : Ct G l (1) yJ0_checkIndex_df160 cJ0_checkIndex_df160 2 none [.int (nI i), .int (nI n)] μ (IsN μ) := by
  refine Ct.of (own := RJ0) mi_J0_checkIndex_df160 rfl [some (.int (nI i)), some (.int (nI n))] (Nat.le_of_ble_eq_true rfl) rfl (fun p₀ e₀ s₀ m₀ b₀ h₀ c₀ F => ?_)
  refine V_iload_n F dJ0_checkIndex_df160_0 rfl ?_
  refine V_iload_n F dJ0_checkIndex_df160_1 rfl ?_
  refine V_sioobe F lk_J0_1053 dJ0_checkIndex_df160_2 ?_ (fun t => ?_)
  · skip
    refine V_callSi F (c_check3 hi hn (v := .null) rfl) mi_J3_checkIndex_8e157 ms_J3_checkIndex_8e157 lk_J0_1059 dJ0_checkIndex_df160_5 (rmR (by omega)) rfl rfl (by decide) (Nat.le_of_ble_eq_true rfl) ?_
    refine V_pop F dJ0_checkIndex_df160_8 rfl ?_
    exact V_vret F dJ0_checkIndex_df160_9 (⟨rfl, rfl⟩)
  · skip
    refine V_callSi F (c_check3 hi hn (v := .ref t) rfl) mi_J3_checkIndex_8e157 ms_J3_checkIndex_8e157 lk_J0_1059 dJ0_checkIndex_df160_5 (rmR (by omega)) rfl rfl (by decide) (Nat.le_of_ble_eq_true rfl) ?_
    refine V_pop F dJ0_checkIndex_df160_8 rfl ?_
    exact V_vret F dJ0_checkIndex_df160_9 (⟨rfl, rfl⟩)
def sCod : List (List Nat) := [[116, 46], [120, 33, 121, 46], [120, 63, 46], [91, 120, 61, 121, 93], [40], [48]]
theorem sCod_ok : ∀ i, i < 6 → ∀ j, j < sLen.getD i 0 → ((((sByt.getD i []).getD j 0) &&& nI 255).toUInt32 % 65536).toInt32 = nI ((sCod.getD i []).getD j 0) ∧ narrow .char (.int (nI ((sCod.getD i []).getD j 0))) = .int (nI ((sCod.getD i []).getD j 0)) := by decide +kernel
theorem sLen_b : ∀ i, i < 6 → sLen.getD i 0 ≤ 5 := by decide +kernel
theorem c_char1 {i j : Nat} (hi : i < 6) (hj : j < sLen.getD i 0) : Ct G l (2) yJ1_charAt_3b067 cJ1_charAt_3b067 2 (some .char) [.ref (gV G i), .int (nI j)] μ (Is (.int (nI ((sCod.getD i []).getD j 0))) μ) := by
  have hb := sLen_b i hi
  have hc := sCod_ok i hi j hj
  refine Ct.of (own := RJ1) mi_J1_charAt_3b067 rfl [some (.ref (gV G i)), some (.int (nI j))] (Nat.le_of_ble_eq_true rfl) rfl (fun p₀ e₀ s₀ m₀ b₀ h₀ c₀ F => ?_)
  refine V_iload_n F dJ1_charAt_3b067_0 rfl ?_
  refine V_aload_n F dJ1_charAt_3b067_1 rfl ?_
  refine V_slen F hi dJ1_charAt_3b067_2 ?_
  refine V_callS0 F (c_check2 hj (by omega)) mi_J0_checkIndex_df160 ms_J0_checkIndex_df160 lk_J1_9 dJ1_charAt_3b067_3 (rmR (by omega)) rfl rfl (by decide) (Nat.le_of_ble_eq_true rfl) ?_
  refine V_aload_n F dJ1_charAt_3b067_6 rfl ?_
  refine V_iload_n F dJ1_charAt_3b067_7 rfl ?_
  refine V_sbald F hi hj (by omega) dJ1_charAt_3b067_8 ?_
  refine V_sipush F (v := nI 255) dJ1_charAt_3b067_9 (by decide) ?_
  refine V_iand F dJ1_charAt_3b067_12 ?_
  refine V_i2c F dJ1_charAt_3b067_13 ?_
  refine V_val F (hc.1) ?_
  exact V_xret F dJ1_charAt_3b067_14 (hc.2) (⟨rfl, rfl⟩)
theorem c_charAt {i j : Nat} (hi : i < 6) (hj : j < sLen.getD i 0) : Ct G l (4) yJ0_charAt_5068e cJ0_charAt_5068e 2 (some .char) [.ref (gK G i), .int (nI j)] μ (Is (.int (nI ((sCod.getD i []).getD j 0))) μ) := by
  have hc := sCod_ok i hi j hj
  refine Ct.of (own := RJ0) mi_J0_charAt_5068e rfl [some (.ref (gK G i)), some (.int (nI j))] (Nat.le_of_ble_eq_true rfl) rfl (fun p₀ e₀ s₀ m₀ b₀ h₀ c₀ F => ?_)
  refine V_aload_n F dJ0_charAt_5068e_0 rfl ?_
  refine V_callK F hi (c_isLatin1 hi) mi_J0_isLatin1_aae02 mm_J0_isLatin1_aae02 lk_J0_492 dJ0_charAt_5068e_1 (rmR (by omega)) rfl rfl (by decide) (Nat.le_of_ble_eq_true rfl) rfl ?_
  refine V_if_eq_f F (tgt := 16) dJ0_charAt_5068e_4 (by decide) (by decide) ?_
  refine V_aload_n F dJ0_charAt_5068e_7 rfl ?_
  refine V_svalue F hi lk_J0_9 dJ0_charAt_5068e_8 ?_
  refine V_iload_n F dJ0_charAt_5068e_11 rfl ?_
  refine V_callSi F (c_char1 hi hj) mi_J1_charAt_3b067 ms_J1_charAt_3b067 lk_J0_495 dJ0_charAt_5068e_12 (rmR (by omega)) rfl rfl (by decide) (Nat.le_of_ble_eq_true rfl) ?_
  exact V_xret F dJ0_charAt_5068e_15 (hc.2) (⟨rfl, rfl⟩)
/-- which constant stands ahead of a process of a kind -/
def hix : Nat → Nat
  | 1 => 0
  | 2 => 1
  | 3 => 2
  | 4 => 3
  | 5 => 4
  | _ => 5
theorem hix_len : ∀ k, k < 6 → sLen.getD (hix k) 0 = hdl k ∧ hix k < 6 := by decide +kernel
theorem c_headOf {k : Nat} (hk : k < 6) : Ct G l (0) yX2_headOf cX2_headOf 1 (some (.object "java/lang/String")) [.int (nI k)] μ (Is (.ref (gK G (hix k))) μ) := by
  have e : (nI k).toInt = (k : Int) := nI_toInt (by omega)
  refine Ct.of (own := RX2) mi_X2_headOf rfl [some (.int (nI k))] (Nat.le_of_ble_eq_true rfl) rfl (fun p₀ e₀ s₀ m₀ b₀ h₀ c₀ F => ?_)
  refine V_iload_n F dX2_headOf_0 rfl ?_
  rcases (by omega : k = 0 ∨ k = 1 ∨ k = 2 ∨ k = 3 ∨ k = 4 ∨ k = 5) with rfl | rfl | rfl | rfl | rfl | rfl
  · refine V_tableOut F (tgt := 51) dX2_headOf_1 (by rw [e]; omega) (by decide) ?_
    refine V_ldcS F (i := 5) (by decide) rfl dX2_headOf_51 ?_
    exact V_aret F dX2_headOf_53 (⟨rfl, rfl⟩)
  · refine V_tableIn F (off := 35) (tgt := 36) dX2_headOf_1 (by rw [e]; omega) (by rw [e]; omega) (by rw [e]; rfl) (by decide) ?_
    refine V_ldcS F (i := 0) (by decide) rfl dX2_headOf_36 ?_
    exact V_aret F dX2_headOf_38 (⟨rfl, rfl⟩)
  · refine V_tableIn F (off := 38) (tgt := 39) dX2_headOf_1 (by rw [e]; omega) (by rw [e]; omega) (by rw [e]; rfl) (by decide) ?_
    refine V_ldcS F (i := 1) (by decide) rfl dX2_headOf_39 ?_
    exact V_aret F dX2_headOf_41 (⟨rfl, rfl⟩)
  · refine V_tableIn F (off := 41) (tgt := 42) dX2_headOf_1 (by rw [e]; omega) (by rw [e]; omega) (by rw [e]; rfl) (by decide) ?_
    refine V_ldcS F (i := 2) (by decide) rfl dX2_headOf_42 ?_
    exact V_aret F dX2_headOf_44 (⟨rfl, rfl⟩)
  · refine V_tableIn F (off := 44) (tgt := 45) dX2_headOf_1 (by rw [e]; omega) (by rw [e]; omega) (by rw [e]; rfl) (by decide) ?_
    refine V_ldcS F (i := 3) (by decide) rfl dX2_headOf_45 ?_
    exact V_aret F dX2_headOf_47 (⟨rfl, rfl⟩)
  · refine V_tableIn F (off := 47) (tgt := 48) dX2_headOf_1 (by rw [e]; omega) (by rw [e]; omega) (by rw [e]; rfl) (by decide) ?_
    refine V_ldcS F (i := 4) (by decide) rfl dX2_headOf_48 ?_
    exact V_aret F dX2_headOf_50 (⟨rfl, rfl⟩)
end STR

