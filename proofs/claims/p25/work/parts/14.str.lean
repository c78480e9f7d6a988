section STRROWS
variable {G : Geo} {p : Program} {l : Launch} {e : Env} {R : Room} {s : State} {m : MethodId} {args : Array Value} {below : List Frame} {meth : Method} {c : Code} {k n : Nat} {Z : State → Prop} {own : String} {cc : ByteArray} {nL pc : Nat} {ret : Option FieldType} {lv : List (Option Value)} {st : List Value} {μ : Mem}
theorem V_compact (F : Fx G p R s m args meth c own cc nL ret k n) {index : Nat} (hlink : Cond.fieldLink own index "java/lang/String" "COMPACT_STRINGS" "Z" ∈ wsG) (d : decode cc pc = .ok (.getstatic index, 3)) (kk : V G p l e R s m args below meth c nL k n Z (pc + 3) lv (.int 1 :: st) μ) : V G p l e R s m args below meth c nL k n Z pc lv st μ := by
  intro H locs ls hP hS hl
  exact va_gets F.1 F.2.1 F.2.2.2.2.2.2.2.1.2.2.2.2.2.1 hS F.2.2.2.2.2.1 (F.2.2.2.2.2.2.1 _ hlink) (fun _ h => h) d (kk H locs ls hP hS hl)
theorem V_svalue (F : Fx G p R s m args meth c own cc nL ret k n) {i index : Nat} (hi : i < 6) (hlink : Cond.fieldLink own index "java/lang/String" "value" "[B" ∈ wsG) (d : decode cc pc = .ok (.getfield index, 3)) (kk : V G p l e R s m args below meth c nL k n Z (pc + 3) lv (.ref (gV G i) :: st) μ) : V G p l e R s m args below meth c nL k n Z pc lv (.ref (gK G i) :: st) μ := by
  intro H locs ls hP hS hl
  exact vk_getf F.1 F.2.1 (F.2.2.2.2.2.2.2.1.2.2.2.1.1 i hi).2.2.1 hS F.2.2.2.2.2.1 (F.2.2.2.2.2.2.1 _ hlink) (fun _ h => h) d (kk H locs ls hP hS hl)
theorem V_scoder (F : Fx G p R s m args meth c own cc nL ret k n) {i index : Nat} (hi : i < 6) (hlink : Cond.fieldLink own index "java/lang/String" "coder" "B" ∈ wsG) (d : decode cc pc = .ok (.getfield index, 3)) (kk : V G p l e R s m args below meth c nL k n Z (pc + 3) lv (.int 0 :: st) μ) : V G p l e R s m args below meth c nL k n Z pc lv (.ref (gK G i) :: st) μ := by
  intro H locs ls hP hS hl
  exact vk_getf F.1 F.2.1 (F.2.2.2.2.2.2.2.1.2.2.2.1.1 i hi).2.1 hS F.2.2.2.2.2.1 (F.2.2.2.2.2.2.1 _ hlink) (fun _ h => h) d (kk H locs ls hP hS hl)
theorem V_slen (F : Fx G p R s m args meth c own cc nL ret k n) {i : Nat} (hi : i < 6) (d : decode cc pc = .ok (.arraylength, 1)) (kk : V G p l e R s m args below meth c nL k n Z (pc + 1) lv (.int (nI (sLen.getD i 0)) :: st) μ) : V G p l e R s m args below meth c nL k n Z pc lv (.ref (gV G i) :: st) μ := by
  intro H locs ls hP hS hl
  exact va_tlen F.1 F.2.1 (F.2.2.2.2.2.2.2.1.2.2.2.1.1 i hi).2.2.2 hS rfl d (kk H locs ls hP hS hl)
theorem V_sbald (F : Fx G p R s m args meth c own cc nL ret k n) {i j : Nat} (hi : i < 6) (hj : j < sLen.getD i 0) (hj2 : j < 2 ^ 30) (d : decode cc pc = .ok (.baload, 1)) (kk : V G p l e R s m args below meth c nL k n Z (pc + 1) lv (.int ((sByt.getD i []).getD j 0) :: st) μ) : V G p l e R s m args below meth c nL k n Z pc lv (.int (nI j) :: .ref (gV G i) :: st) μ := by
  intro H locs ls hP hS hl
  refine va_tb F.1 F.2.1 (F.2.2.2.2.2.2.2.1.2.2.2.1.1 i hi).2.2.2 hS ?_ (v := .int ((sByt.getD i []).getD j 0)) (by rw [nI_clamp (by omega)]) d (kk H locs ls hP hS hl)
  refine vp_in_nI hj ?_
  have : ∀ i, i < 6 → sLen.getD i 0 < 2 ^ 31 := by decide +kernel
  exact this i hi
/-- a call on a String constant -/
theorem V_callK (F : Fx G p R s m args meth c own cc nL ret k n) {y : MethodName} {b : ByteArray} {nLc dp index j i : Nat} {retc : Option FieldType} {As : List Value} {v : Value} (hi : i < 6) (hC : Ct G l dp y b nLc retc (.ref (gK G i) :: As) μ (Is v μ)) (hM : MI y b nLc retc j) (hs : Cond.instanceMethod y ∈ wsG ∧ Cond.selects y.cls y y ∈ wsG) (hlink : Cond.methodLink own index y ∈ wsG) (d : decode cc pc = .ok (.invokevirtual index, 3)) (hR : dp + 1 ≤ R.frames ∧ (dp + 1) * 40 ≤ R.locals) {st0 : List Value} (hst : st0 = As.reverse ++ .ref (gK G i) :: st) (hn : As.length = j) (hnl : nLc ≤ 21) (hw : (st.map fun v => v.category).sum ≤ 8)
    (hqc : "java/lang/String" = y.cls) (kk : V G p l e R s m args below meth c nL k n Z (pc + 3) lv (v :: st) μ) : V G p l e R s m args below meth c nL k n Z pc lv st0 μ := by
  refine V_run (st := st) (As := (Value.ref (gK G i) :: As).toArray) (Qc := Is v μ) (fun H locs ls hP hS hz => ?_) (fun r μ' h => by obtain ⟨rfl, rfl⟩ := h; exact kk)
  subst hst
  exact va_runV ⟨F.1, F.2.1, F.2.2.2.2.1, F.2.2.2.2.2.1, F.2.2.2.2.2.2.1⟩ hC ⟨callB_of j F.2.2.2.2.2.2.1 (good_code hM.1) rfl rfl rfl (F.2.2.2.2.2.2.1 _ hM.2.1) (F.2.2.2.2.2.2.1 _ hlink) hM.2.2.1 (room_ok hR hnl), F.2.2.2.2.2.2.1 _ hs.1, F.2.2.2.2.2.2.1 _ hs.2⟩
    ⟨Pp.blind, hqc ▸ vk_recv F.2.2.2.2.2.2.2.1.2.2.2.1 hi hS, fun U hU hW => ⟨rfl, by rw [hU]; exact hP, by rw [hU]; exact F.2.2.2.2.2.2.2.1.step hS hW⟩⟩ rfl hn hz rfl (lv_room hw) d F.2.2.2.2.2.2.2.2
end STRROWS
section STR
variable {G : Geo} {g : Gm} {l : Launch} {μ : Mem}
theorem c_coder {i : Nat} (hi : i < 6) : Ct G l (0) yJ0_coder_7d493 cJ0_coder_7d493 1 (some .byte) [.ref (gK G i)] μ (Is (.int 0) μ) := by
  refine Ct.of (own := RJ0) mi_J0_coder_7d493 rfl [some (.ref (gK G i))] (Nat.le_of_ble_eq_true rfl) rfl (fun p₀ e₀ s₀ m₀ b₀ h₀ c₀ F => ?_)
  refine V_compact F lk_J0_38 dJ0_coder_7d493_0 ?_
  refine V_if_eq_f F (tgt := 13) dJ0_coder_7d493_3 (by decide) (by decide) ?_
  refine V_aload_n F dJ0_coder_7d493_6 rfl ?_
  refine V_scoder F hi lk_J0_15 dJ0_coder_7d493_7 ?_
  refine V_goto F (tgt := 14) dJ0_coder_7d493_10 (by decide) ?_
  exact V_xret F dJ0_coder_7d493_14 (rfl) (⟨rfl, rfl⟩)
theorem c_slen {i : Nat} (hi : i < 6) : Ct G l (1) yJ0_length_8abf5 cJ0_length_8abf5 1 (some .int) [.ref (gK G i)] μ (Is (.int (nI (sLen.getD i 0))) μ) := by
  have hb : ∀ i, i < 6 → sLen.getD i 0 < 2 ^ 31 := by decide +kernel
  refine Ct.of (own := RJ0) mi_J0_length_8abf5 rfl [some (.ref (gK G i))] (Nat.le_of_ble_eq_true rfl) rfl (fun p₀ e₀ s₀ m₀ b₀ h₀ c₀ F => ?_)
  refine V_aload_n F dJ0_length_8abf5_0 rfl ?_
  refine V_svalue F hi lk_J0_9 dJ0_length_8abf5_1 ?_
  refine V_slen F hi dJ0_length_8abf5_4 ?_
  refine V_aload_n F dJ0_length_8abf5_5 rfl ?_
  refine V_callK F hi (c_coder hi) mi_J0_coder_7d493 mm_J0_coder_7d493 lk_J0_335 dJ0_length_8abf5_6 (rmR (by omega)) rfl rfl (by decide) (Nat.le_of_ble_eq_true rfl) rfl ?_
  refine V_ishr F dJ0_length_8abf5_9 ?_
  refine V_val F (sc_shr0 (hb i hi)) ?_
  exact V_iret F dJ0_length_8abf5_10 (⟨rfl, rfl⟩)
/-- which constant stands ahead of a process of a kind -/
def hix : Nat → Nat
  | 1 => 0
  | 2 => 1
  | 3 => 2
  | 4 => 3
  | 5 => 4
  | _ => 5
theorem hix_len : ∀ k, k < 6 → sLen.getD (hix k) 0 = hdl k ∧ hix k < 6 := by decide +kernel
theorem c_headOf {k : Nat} (hk : k < 6) : Ct G l (0) yX2_headOf cX2_headOf 1 (some (.object "java/lang/String")) [.int (nI k)] μ (Is (.ref (gK G (hix k))) μ) := by
  have e : (nI k).toInt = (k : Int) := nI_toInt (by omega)
  refine Ct.of (own := RX2) mi_X2_headOf rfl [some (.int (nI k))] (Nat.le_of_ble_eq_true rfl) rfl (fun p₀ e₀ s₀ m₀ b₀ h₀ c₀ F => ?_)
  refine V_iload_n F dX2_headOf_0 rfl ?_
  rcases (by omega : k = 0 ∨ k = 1 ∨ k = 2 ∨ k = 3 ∨ k = 4 ∨ k = 5) with rfl | rfl | rfl | rfl | rfl | rfl
  · refine V_tableOut F (tgt := 51) dX2_headOf_1 (by rw [e]; omega) (by decide) ?_
    refine V_ldcS F (i := 5) (by decide) rfl dX2_headOf_51 ?_
    exact V_aret F dX2_headOf_53 (⟨rfl, rfl⟩)
  · refine V_tableIn F (off := 35) (tgt := 36) dX2_headOf_1 (by rw [e]; omega) (by rw [e]; omega) (by rw [e]; rfl) (by decide) ?_
    refine V_ldcS F (i := 0) (by decide) rfl dX2_headOf_36 ?_
    exact V_aret F dX2_headOf_38 (⟨rfl, rfl⟩)
  · refine V_tableIn F (off := 38) (tgt := 39) dX2_headOf_1 (by rw [e]; omega) (by rw [e]; omega) (by rw [e]; rfl) (by decide) ?_
    refine V_ldcS F (i := 1) (by decide) rfl dX2_headOf_39 ?_
    exact V_aret F dX2_headOf_41 (⟨rfl, rfl⟩)
  · refine V_tableIn F (off := 41) (tgt := 42) dX2_headOf_1 (by rw [e]; omega) (by rw [e]; omega) (by rw [e]; rfl) (by decide) ?_
    refine V_ldcS F (i := 2) (by decide) rfl dX2_headOf_42 ?_
    exact V_aret F dX2_headOf_44 (⟨rfl, rfl⟩)
  · refine V_tableIn F (off := 44) (tgt := 45) dX2_headOf_1 (by rw [e]; omega) (by rw [e]; omega) (by rw [e]; rfl) (by decide) ?_
    refine V_ldcS F (i := 3) (by decide) rfl dX2_headOf_45 ?_
    exact V_aret F dX2_headOf_47 (⟨rfl, rfl⟩)
  · refine V_tableIn F (off := 47) (tgt := 48) dX2_headOf_1 (by rw [e]; omega) (by rw [e]; omega) (by rw [e]; rfl) (by decide) ?_
    refine V_ldcS F (i := 4) (by decide) rfl dX2_headOf_48 ?_
    exact V_aret F dX2_headOf_50 (⟨rfl, rfl⟩)
end STR

