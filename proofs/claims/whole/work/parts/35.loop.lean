section LOOP
theorem lw_cmp {i L : Nat} (hi : i ≤ 4096) (hL : L ≤ 2048) : nI L - nI 4 < nI i ↔ L < i + 4 := by
  have e : (nI L - nI 4).toInt = (L : Int) - 4 := by
    rw [Int32.toInt_sub, nI_toInt (by omega), nI_toInt (by omega)]
    exact Int.bmod_eq_of_le_mul_two (by omega) (by omega)
  rw [Int32.lt_iff_toInt_lt, e, nI_toInt (by omega)]
  omega
theorem BP.val {T : Tb} {n : Nat} {o : Option (Nat × Nat × Nat × Nat × Nat)} {μ μ₁ : Mem} {r : Option Value} (h : BP T n o μ r μ₁) : ∃ v : Int32, r = some (.int v) := by
  cases o with
  | none => exact ⟨_, h.1⟩
  | some o =>
    rcases h with h | h
    · exact ⟨_, h.2.1⟩
    · exact ⟨_, h.2.1⟩
theorem BP.mi {T : Tb} {n : Nat} {o : Option (Nat × Nat × Nat × Nat × Nat)} {μ μ₁ : Mem} {r : Option Value} (h : BP T n o μ r μ₁) (hM : MInv T n μ) : MInv T n μ₁ := by
  cases o with
  | none => obtain ⟨-, rfl⟩ := h; exact hM
  | some o =>
    rcases h with h | h
    · exact ⟨hM.1, hM.2.of_sameM h.2.2.2⟩
    · rw [h.2.2]; exact hM
theorem BP_MP {T : Tb} {n : Nat} {o : Option (Nat × Nat × Nat × Nat × Nat)} {μ μ₁ μ₂ : Mem} {v : Int32} {r : Option Value} (h : BP T n o μ (some (.int v)) μ₁) (h2 : MP T n o μ₁ r μ₂) (hI : XInv T n μ) (hM : MInv T n μ) : r = some (.int v) ∧ ∃ (T' : Tb) (n' : Nat), XInv T' n' μ₂ ∧ MInv T' n' μ₂ := by
  cases o with
  | none =>
    obtain ⟨e, rfl⟩ := h
    obtain ⟨e2, rfl⟩ := h2
    exact ⟨e2.trans e.symm, T, n, hI, hM⟩
  | some o =>
    rcases h with h | h <;> rcases h2 with k | k
    · exact ⟨k.2.1.trans h.2.1.symm, _, _, h.2.2.1.of_sameX k.2.2.2, k.2.2.1⟩
    · exact absurd h.1 k.1
    · exact absurd k.1 h.1
    · obtain ⟨-, e, rfl⟩ := h
      obtain ⟨-, e2, rfl⟩ := k
      exact ⟨e2.trans e.symm, T, n, hI, hM⟩
theorem RQ.val {T : Tb} {n : Nat} {μ μ₁ : Mem} {r : Option Value} (h : RQ T n μ r μ₁) : ∃ v : Int32, r = some (.int v) := by
  rcases h with h | h
  · exact ⟨_, h.2.1⟩
  · exact ⟨_, h.2.1⟩
theorem RQ.mi {T : Tb} {n : Nat} {μ μ₁ : Mem} {r : Option Value} (h : RQ T n μ r μ₁) (hM : MInv T n μ) : MInv T n μ₁ := by
  rcases h with h | h
  · rw [h.2.2]; exact hM
  · exact ⟨hM.1, hM.2.of_sameM h.2.2.2⟩
theorem RQ_RM {T : Tb} {n : Nat} {μ μ₁ μ₂ : Mem} {v : Int32} {r : Option Value} (h : RQ T n μ (some (.int v)) μ₁) (h2 : RM T n μ₁ r μ₂) (hI : XInv T n μ) (hM : MInv T n μ) : r = some (.int v) ∧ ∃ (T' : Tb) (n' : Nat), XInv T' n' μ₂ ∧ MInv T' n' μ₂ := by
  rcases h with h | h <;> rcases h2 with k | k
  · obtain ⟨-, e, rfl⟩ := h
    obtain ⟨-, e2, rfl⟩ := k
    exact ⟨e2.trans e.symm, T, n, hI, hM⟩
  · exact absurd h.1 k.1
  · exact absurd k.1 h.1
  · exact ⟨k.2.1.trans h.2.1.symm, _, _, h.2.2.1.of_sameX k.2.2.2, k.2.2.1⟩
theorem XQ.mi {T : Tb} {n : Nat} {μ μ₁ : Mem} {r : Option Value} {v : Int32} (h : XQ T n μ v r μ₁) (hM : MInv T n μ) : MInv T n μ₁ := ⟨hM.1, hM.2.of_sameM (fun c hc => h.2.2.1 c (by omega))⟩
variable {g : Gm} {p : Program} {l : Launch} {e : Env} {s : State} {m : MethodId} {below : List Frame} {meth : Method} {c : Code} {b L : Nat} {xs : Nat → Int32}
theorem V_sld {G : Geo} {R : Room} {args : Array Value} {k n : Nat} {Z : State → Prop} {own : String} {cc : ByteArray} {nL pc : Nat} {ret : Option FieldType} {lv : List (Option Value)} {st : List Value} {μ : Mem} (F : Fx G p R s m args meth c own cc nL ret k n) (hX : va_X b L xs s s.heap) (hbl : b < s.heap.size) (hbA : ¬ gA G b) (hL : L ≤ 2048) {j : Nat} (hj : j < L) (d : decode cc pc = .ok (.iaload, 1)) (kk : V G p l e R s m args below meth c nL k n Z (pc + 1) lv (.int (xs j) :: st) μ) : V G p l e R s m args below meth c nL k n Z pc lv (.int (nI j) :: .ref b :: st) μ := by
  intro H locs ls hP hS hl
  refine va_sld F.1 F.2.1 hX hbl hbA hS (vp_in_nI hj (by omega)) d ?_
  rw [nI_clamp (by omega)]
  exact kk H locs ls hP hS hl
theorem V_sln {G : Geo} {R : Room} {args : Array Value} {k n : Nat} {Z : State → Prop} {own : String} {cc : ByteArray} {nL pc : Nat} {ret : Option FieldType} {lv : List (Option Value)} {st : List Value} {μ : Mem} (F : Fx G p R s m args meth c own cc nL ret k n) (hX : va_X b L xs s s.heap) (hbl : b < s.heap.size) (hbA : ¬ gA G b) (d : decode cc pc = .ok (.arraylength, 1)) (kk : V G p l e R s m args below meth c nL k n Z (pc + 1) lv (.int (nI L) :: st) μ) : V G p l e R s m args below meth c nL k n Z pc lv (.ref b :: st) μ := by
  intro H locs ls hP hS hl
  exact va_slen F.1 F.2.1 hX hbl hbA hS d (kk H locs ls hP hS hl)

set_option maxHeartbeats 1000000 in
theorem lw_case0 (F : Fx (GS g) p room_1 s m #[Value.ref b] meth c RL cL_law 4 ret 600000 7302250) (hX : va_X b L xs s s.heap) (hbl : b < s.heap.size) (hbA : ¬ AS g.1 b) (hL : L ≤ 2048) {i : Nat} (hi : i + 4 ≤ L) {T : Tb} {n : Nat} {μ : Mem} (hI : XInv T n μ) (hM : MInv T n μ) (hend : ∀ (T : Tb) (n : Nat) (μ : Mem), XInv T n μ → MInv T n μ → V (GS g) p l e room_1 s m #[Value.ref b] below meth c 4 600000 7302250 (lw_Z below #[Value.ref b] s) 802 [some (.ref b), some (.ref (g.1 0)), some (.ref (g.1 15)), some (.int (nI i))] [] μ) : V (GS g) p l e room_1 s m #[Value.ref b] below meth c 4 600000 7302250 (lw_Z below #[Value.ref b] s) 136 [some (.ref b), some (.ref (g.1 0)), some (.ref (g.1 15)), some (.int (nI i))] [] μ := by
  refine V_aload_n F dL_law_136 rfl ?_
  refine V_aload_n F dL_law_137 rfl ?_
  refine V_iload_n F dL_law_138 rfl ?_
  refine V_iconst F (v := nI 1) dL_law_139 (by decide) ?_
  refine V_iaddN F dL_law_140 ?_
  refine V_sld F hX hbl hbA hL (j := i + 1) (by omega) dL_law_141 ?_
  refine V_callV F (q0 := 0) (c_tau hI _) mi_X3_tau mm_X3_tau lk_L_13 dL_law_142 ⟨Nat.le_of_ble_eq_true rfl, Nat.le_of_ble_eq_true rfl⟩ rfl rfl (by decide) (Nat.le_of_ble_eq_true rfl) rfl rfl rfl (fun r μ₁ h₁ => ?_)
  have hM₁ := h₁.mi hM
  obtain ⟨v, rfl⟩ := h₁.val
  refine V_aload_n F dL_law_145 rfl ?_
  refine V_aload_n F dL_law_146 rfl ?_
  refine V_iload_n F dL_law_147 rfl ?_
  refine V_iconst F (v := nI 1) dL_law_148 (by decide) ?_
  refine V_iaddN F dL_law_149 ?_
  refine V_sld F hX hbl hbA hL (j := i + 1) (by omega) dL_law_150 ?_
  refine V_callV F (q0 := 15) (c_mtau hM₁ _) mi_X4_tau mm_X4_tau lk_L_17 dL_law_151 ⟨Nat.le_of_ble_eq_true rfl, Nat.le_of_ble_eq_true rfl⟩ rfl rfl (by decide) (Nat.le_of_ble_eq_true rfl) rfl rfl rfl (fun r μ₂ h₂ => ?_)
  obtain ⟨rfl, T₂, n₂, hI₂, hM₂⟩ := BP_MP h₁ h₂ hI hM
  exact V_icmp_eq_t F (tgt := 802) dL_law_154 (by decide) rfl (hend T₂ n₂ _ hI₂ hM₂)
set_option maxHeartbeats 1000000 in
theorem lw_case1 (F : Fx (GS g) p room_1 s m #[Value.ref b] meth c RL cL_law 4 ret 600000 7302250) (hX : va_X b L xs s s.heap) (hbl : b < s.heap.size) (hbA : ¬ AS g.1 b) (hL : L ≤ 2048) {i : Nat} (hi : i + 4 ≤ L) {T : Tb} {n : Nat} {μ : Mem} (hI : XInv T n μ) (hM : MInv T n μ) (hend : ∀ (T : Tb) (n : Nat) (μ : Mem), XInv T n μ → MInv T n μ → V (GS g) p l e room_1 s m #[Value.ref b] below meth c 4 600000 7302250 (lw_Z below #[Value.ref b] s) 802 [some (.ref b), some (.ref (g.1 0)), some (.ref (g.1 15)), some (.int (nI i))] [] μ) : V (GS g) p l e room_1 s m #[Value.ref b] below meth c 4 600000 7302250 (lw_Z below #[Value.ref b] s) 159 [some (.ref b), some (.ref (g.1 0)), some (.ref (g.1 15)), some (.int (nI i))] [] μ := by
  refine V_aload_n F dL_law_159 rfl ?_
  refine V_aload_n F dL_law_160 rfl ?_
  refine V_iload_n F dL_law_161 rfl ?_
  refine V_iconst F (v := nI 1) dL_law_162 (by decide) ?_
  refine V_iaddN F dL_law_163 ?_
  refine V_sld F hX hbl hbA hL (j := i + 1) (by omega) dL_law_164 ?_
  refine V_aload_n F dL_law_165 rfl ?_
  refine V_iload_n F dL_law_166 rfl ?_
  refine V_iconst F (v := nI 2) dL_law_167 (by decide) ?_
  refine V_iaddN F dL_law_168 ?_
  refine V_sld F hX hbl hbA hL (j := i + 2) (by omega) dL_law_169 ?_
  refine V_aload_n F dL_law_170 rfl ?_
  refine V_iload_n F dL_law_171 rfl ?_
  refine V_iconst F (v := nI 3) dL_law_172 (by decide) ?_
  refine V_iaddN F dL_law_173 ?_
  refine V_sld F hX hbl hbA hL (j := i + 3) (by omega) dL_law_174 ?_
  refine V_callV F (q0 := 0) (c_output hI _ _ _) mi_X3_output mm_X3_output lk_L_18 dL_law_175 ⟨Nat.le_of_ble_eq_true rfl, Nat.le_of_ble_eq_true rfl⟩ rfl rfl (by decide) (Nat.le_of_ble_eq_true rfl) rfl rfl rfl (fun r μ₁ h₁ => ?_)
  have hM₁ := h₁.mi hM
  obtain ⟨v, rfl⟩ := h₁.val
  refine V_aload_n F dL_law_178 rfl ?_
  refine V_aload_n F dL_law_179 rfl ?_
  refine V_iload_n F dL_law_180 rfl ?_
  refine V_iconst F (v := nI 1) dL_law_181 (by decide) ?_
  refine V_iaddN F dL_law_182 ?_
  refine V_sld F hX hbl hbA hL (j := i + 1) (by omega) dL_law_183 ?_
  refine V_aload_n F dL_law_184 rfl ?_
  refine V_iload_n F dL_law_185 rfl ?_
  refine V_iconst F (v := nI 2) dL_law_186 (by decide) ?_
  refine V_iaddN F dL_law_187 ?_
  refine V_sld F hX hbl hbA hL (j := i + 2) (by omega) dL_law_188 ?_
  refine V_aload_n F dL_law_189 rfl ?_
  refine V_iload_n F dL_law_190 rfl ?_
  refine V_iconst F (v := nI 3) dL_law_191 (by decide) ?_
  refine V_iaddN F dL_law_192 ?_
  refine V_sld F hX hbl hbA hL (j := i + 3) (by omega) dL_law_193 ?_
  refine V_callV F (q0 := 15) (c_moutput hM₁ _ _ _) mi_X4_output mm_X4_output lk_L_22 dL_law_194 ⟨Nat.le_of_ble_eq_true rfl, Nat.le_of_ble_eq_true rfl⟩ rfl rfl (by decide) (Nat.le_of_ble_eq_true rfl) rfl rfl rfl (fun r μ₂ h₂ => ?_)
  obtain ⟨rfl, T₂, n₂, hI₂, hM₂⟩ := BP_MP h₁ h₂ hI hM
  exact V_icmp_eq_t F (tgt := 802) dL_law_197 (by decide) rfl (hend T₂ n₂ _ hI₂ hM₂)
set_option maxHeartbeats 1000000 in
theorem lw_case2 (F : Fx (GS g) p room_1 s m #[Value.ref b] meth c RL cL_law 4 ret 600000 7302250) (hX : va_X b L xs s s.heap) (hbl : b < s.heap.size) (hbA : ¬ AS g.1 b) (hL : L ≤ 2048) {i : Nat} (hi : i + 4 ≤ L) {T : Tb} {n : Nat} {μ : Mem} (hI : XInv T n μ) (hM : MInv T n μ) (hend : ∀ (T : Tb) (n : Nat) (μ : Mem), XInv T n μ → MInv T n μ → V (GS g) p l e room_1 s m #[Value.ref b] below meth c 4 600000 7302250 (lw_Z below #[Value.ref b] s) 802 [some (.ref b), some (.ref (g.1 0)), some (.ref (g.1 15)), some (.int (nI i))] [] μ) : V (GS g) p l e room_1 s m #[Value.ref b] below meth c 4 600000 7302250 (lw_Z below #[Value.ref b] s) 202 [some (.ref b), some (.ref (g.1 0)), some (.ref (g.1 15)), some (.int (nI i))] [] μ := by
  refine V_aload_n F dL_law_202 rfl ?_
  refine V_aload_n F dL_law_203 rfl ?_
  refine V_iload_n F dL_law_204 rfl ?_
  refine V_iconst F (v := nI 1) dL_law_205 (by decide) ?_
  refine V_iaddN F dL_law_206 ?_
  refine V_sld F hX hbl hbA hL (j := i + 1) (by omega) dL_law_207 ?_
  refine V_aload_n F dL_law_208 rfl ?_
  refine V_iload_n F dL_law_209 rfl ?_
  refine V_iconst F (v := nI 2) dL_law_210 (by decide) ?_
  refine V_iaddN F dL_law_211 ?_
  refine V_sld F hX hbl hbA hL (j := i + 2) (by omega) dL_law_212 ?_
  refine V_callV F (q0 := 0) (c_input hI _ _) mi_X3_input mm_X3_input lk_L_23 dL_law_213 ⟨Nat.le_of_ble_eq_true rfl, Nat.le_of_ble_eq_true rfl⟩ rfl rfl (by decide) (Nat.le_of_ble_eq_true rfl) rfl rfl rfl (fun r μ₁ h₁ => ?_)
  have hM₁ := h₁.mi hM
  obtain ⟨v, rfl⟩ := h₁.val
  refine V_aload_n F dL_law_216 rfl ?_
  refine V_aload_n F dL_law_217 rfl ?_
  refine V_iload_n F dL_law_218 rfl ?_
  refine V_iconst F (v := nI 1) dL_law_219 (by decide) ?_
  refine V_iaddN F dL_law_220 ?_
  refine V_sld F hX hbl hbA hL (j := i + 1) (by omega) dL_law_221 ?_
  refine V_aload_n F dL_law_222 rfl ?_
  refine V_iload_n F dL_law_223 rfl ?_
  refine V_iconst F (v := nI 2) dL_law_224 (by decide) ?_
  refine V_iaddN F dL_law_225 ?_
  refine V_sld F hX hbl hbA hL (j := i + 2) (by omega) dL_law_226 ?_
  refine V_callV F (q0 := 15) (c_minput hM₁ _ _) mi_X4_input mm_X4_input lk_L_27 dL_law_227 ⟨Nat.le_of_ble_eq_true rfl, Nat.le_of_ble_eq_true rfl⟩ rfl rfl (by decide) (Nat.le_of_ble_eq_true rfl) rfl rfl rfl (fun r μ₂ h₂ => ?_)
  obtain ⟨rfl, T₂, n₂, hI₂, hM₂⟩ := BP_MP h₁ h₂ hI hM
  exact V_icmp_eq_t F (tgt := 802) dL_law_230 (by decide) rfl (hend T₂ n₂ _ hI₂ hM₂)
set_option maxHeartbeats 1000000 in
theorem lw_case3 (F : Fx (GS g) p room_1 s m #[Value.ref b] meth c RL cL_law 4 ret 600000 7302250) (hX : va_X b L xs s s.heap) (hbl : b < s.heap.size) (hbA : ¬ AS g.1 b) (hL : L ≤ 2048) {i : Nat} (hi : i + 4 ≤ L) {T : Tb} {n : Nat} {μ : Mem} (hI : XInv T n μ) (hM : MInv T n μ) (hend : ∀ (T : Tb) (n : Nat) (μ : Mem), XInv T n μ → MInv T n μ → V (GS g) p l e room_1 s m #[Value.ref b] below meth c 4 600000 7302250 (lw_Z below #[Value.ref b] s) 802 [some (.ref b), some (.ref (g.1 0)), some (.ref (g.1 15)), some (.int (nI i))] [] μ) : V (GS g) p l e room_1 s m #[Value.ref b] below meth c 4 600000 7302250 (lw_Z below #[Value.ref b] s) 235 [some (.ref b), some (.ref (g.1 0)), some (.ref (g.1 15)), some (.int (nI i))] [] μ := by
  refine V_aload_n F dL_law_235 rfl ?_
  refine V_aload_n F dL_law_236 rfl ?_
  refine V_iload_n F dL_law_237 rfl ?_
  refine V_iconst F (v := nI 1) dL_law_238 (by decide) ?_
  refine V_iaddN F dL_law_239 ?_
  refine V_sld F hX hbl hbA hL (j := i + 1) (by omega) dL_law_240 ?_
  refine V_aload_n F dL_law_241 rfl ?_
  refine V_iload_n F dL_law_242 rfl ?_
  refine V_iconst F (v := nI 2) dL_law_243 (by decide) ?_
  refine V_iaddN F dL_law_244 ?_
  refine V_sld F hX hbl hbA hL (j := i + 2) (by omega) dL_law_245 ?_
  refine V_aload_n F dL_law_246 rfl ?_
  refine V_iload_n F dL_law_247 rfl ?_
  refine V_iconst F (v := nI 3) dL_law_248 (by decide) ?_
  refine V_iaddN F dL_law_249 ?_
  refine V_sld F hX hbl hbA hL (j := i + 3) (by omega) dL_law_250 ?_
  refine V_callV F (q0 := 0) (c_match hI _ _ _) mi_X3_match mm_X3_match lk_L_28 dL_law_251 ⟨Nat.le_of_ble_eq_true rfl, Nat.le_of_ble_eq_true rfl⟩ rfl rfl (by decide) (Nat.le_of_ble_eq_true rfl) rfl rfl rfl (fun r μ₁ h₁ => ?_)
  have hM₁ := h₁.mi hM
  obtain ⟨v, rfl⟩ := h₁.val
  refine V_aload_n F dL_law_254 rfl ?_
  refine V_aload_n F dL_law_255 rfl ?_
  refine V_iload_n F dL_law_256 rfl ?_
  refine V_iconst F (v := nI 1) dL_law_257 (by decide) ?_
  refine V_iaddN F dL_law_258 ?_
  refine V_sld F hX hbl hbA hL (j := i + 1) (by omega) dL_law_259 ?_
  refine V_aload_n F dL_law_260 rfl ?_
  refine V_iload_n F dL_law_261 rfl ?_
  refine V_iconst F (v := nI 2) dL_law_262 (by decide) ?_
  refine V_iaddN F dL_law_263 ?_
  refine V_sld F hX hbl hbA hL (j := i + 2) (by omega) dL_law_264 ?_
  refine V_aload_n F dL_law_265 rfl ?_
  refine V_iload_n F dL_law_266 rfl ?_
  refine V_iconst F (v := nI 3) dL_law_267 (by decide) ?_
  refine V_iaddN F dL_law_268 ?_
  refine V_sld F hX hbl hbA hL (j := i + 3) (by omega) dL_law_269 ?_
  refine V_callV F (q0 := 15) (c_mmatch hM₁ _ _ _) mi_X4_match mm_X4_match lk_L_31 dL_law_270 ⟨Nat.le_of_ble_eq_true rfl, Nat.le_of_ble_eq_true rfl⟩ rfl rfl (by decide) (Nat.le_of_ble_eq_true rfl) rfl rfl rfl (fun r μ₂ h₂ => ?_)
  obtain ⟨rfl, T₂, n₂, hI₂, hM₂⟩ := BP_MP h₁ h₂ hI hM
  exact V_icmp_eq_t F (tgt := 802) dL_law_273 (by decide) rfl (hend T₂ n₂ _ hI₂ hM₂)
set_option maxHeartbeats 1000000 in
theorem lw_case4 (F : Fx (GS g) p room_1 s m #[Value.ref b] meth c RL cL_law 4 ret 600000 7302250) (hX : va_X b L xs s s.heap) (hbl : b < s.heap.size) (hbA : ¬ AS g.1 b) (hL : L ≤ 2048) {i : Nat} (hi : i + 4 ≤ L) {T : Tb} {n : Nat} {μ : Mem} (hI : XInv T n μ) (hM : MInv T n μ) (hend : ∀ (T : Tb) (n : Nat) (μ : Mem), XInv T n μ → MInv T n μ → V (GS g) p l e room_1 s m #[Value.ref b] below meth c 4 600000 7302250 (lw_Z below #[Value.ref b] s) 802 [some (.ref b), some (.ref (g.1 0)), some (.ref (g.1 15)), some (.int (nI i))] [] μ) : V (GS g) p l e room_1 s m #[Value.ref b] below meth c 4 600000 7302250 (lw_Z below #[Value.ref b] s) 278 [some (.ref b), some (.ref (g.1 0)), some (.ref (g.1 15)), some (.int (nI i))] [] μ := by
  refine V_aload_n F dL_law_278 rfl ?_
  refine V_aload_n F dL_law_279 rfl ?_
  refine V_iload_n F dL_law_280 rfl ?_
  refine V_iconst F (v := nI 1) dL_law_281 (by decide) ?_
  refine V_iaddN F dL_law_282 ?_
  refine V_sld F hX hbl hbA hL (j := i + 1) (by omega) dL_law_283 ?_
  refine V_aload_n F dL_law_284 rfl ?_
  refine V_iload_n F dL_law_285 rfl ?_
  refine V_iconst F (v := nI 2) dL_law_286 (by decide) ?_
  refine V_iaddN F dL_law_287 ?_
  refine V_sld F hX hbl hbA hL (j := i + 2) (by omega) dL_law_288 ?_
  refine V_callV F (q0 := 0) (c_sum hI _ _) mi_X3_sum mm_X3_sum lk_L_32 dL_law_289 ⟨Nat.le_of_ble_eq_true rfl, Nat.le_of_ble_eq_true rfl⟩ rfl rfl (by decide) (Nat.le_of_ble_eq_true rfl) rfl rfl rfl (fun r μ₁ h₁ => ?_)
  have hM₁ := h₁.mi hM
  obtain ⟨v, rfl⟩ := h₁.val
  refine V_aload_n F dL_law_292 rfl ?_
  refine V_aload_n F dL_law_293 rfl ?_
  refine V_iload_n F dL_law_294 rfl ?_
  refine V_iconst F (v := nI 1) dL_law_295 (by decide) ?_
  refine V_iaddN F dL_law_296 ?_
  refine V_sld F hX hbl hbA hL (j := i + 1) (by omega) dL_law_297 ?_
  refine V_aload_n F dL_law_298 rfl ?_
  refine V_iload_n F dL_law_299 rfl ?_
  refine V_iconst F (v := nI 2) dL_law_300 (by decide) ?_
  refine V_iaddN F dL_law_301 ?_
  refine V_sld F hX hbl hbA hL (j := i + 2) (by omega) dL_law_302 ?_
  refine V_callV F (q0 := 15) (c_msum hM₁ _ _) mi_X4_sum mm_X4_sum lk_L_35 dL_law_303 ⟨Nat.le_of_ble_eq_true rfl, Nat.le_of_ble_eq_true rfl⟩ rfl rfl (by decide) (Nat.le_of_ble_eq_true rfl) rfl rfl rfl (fun r μ₂ h₂ => ?_)
  obtain ⟨rfl, T₂, n₂, hI₂, hM₂⟩ := BP_MP h₁ h₂ hI hM
  exact V_icmp_eq_t F (tgt := 802) dL_law_306 (by decide) rfl (hend T₂ n₂ _ hI₂ hM₂)
set_option maxHeartbeats 1000000 in
theorem lw_case5 (F : Fx (GS g) p room_1 s m #[Value.ref b] meth c RL cL_law 4 ret 600000 7302250) (hX : va_X b L xs s s.heap) (hbl : b < s.heap.size) (hbA : ¬ AS g.1 b) (hL : L ≤ 2048) {i : Nat} (hi : i + 4 ≤ L) {T : Tb} {n : Nat} {μ : Mem} (hI : XInv T n μ) (hM : MInv T n μ) (hend : ∀ (T : Tb) (n : Nat) (μ : Mem), XInv T n μ → MInv T n μ → V (GS g) p l e room_1 s m #[Value.ref b] below meth c 4 600000 7302250 (lw_Z below #[Value.ref b] s) 802 [some (.ref b), some (.ref (g.1 0)), some (.ref (g.1 15)), some (.int (nI i))] [] μ) : V (GS g) p l e room_1 s m #[Value.ref b] below meth c 4 600000 7302250 (lw_Z below #[Value.ref b] s) 311 [some (.ref b), some (.ref (g.1 0)), some (.ref (g.1 15)), some (.int (nI i))] [] μ := by
  refine V_aload_n F dL_law_311 rfl ?_
  refine V_callV F (q0 := 0) (c_removeLast hI) mi_X3_removeLast mm_X3_removeLast lk_L_36 dL_law_312 ⟨Nat.le_of_ble_eq_true rfl, Nat.le_of_ble_eq_true rfl⟩ rfl rfl (by decide) (Nat.le_of_ble_eq_true rfl) rfl rfl rfl (fun r μ₁ h₁ => ?_)
  have hM₁ := h₁.mi hM
  obtain ⟨v, rfl⟩ := h₁.val
  refine V_aload_n F dL_law_315 rfl ?_
  refine V_callV F (q0 := 15) (c_mremove hM₁) mi_X4_removeLast mm_X4_removeLast lk_L_40 dL_law_316 ⟨Nat.le_of_ble_eq_true rfl, Nat.le_of_ble_eq_true rfl⟩ rfl rfl (by decide) (Nat.le_of_ble_eq_true rfl) rfl rfl rfl (fun r μ₂ h₂ => ?_)
  obtain ⟨rfl, T₂, n₂, hI₂, hM₂⟩ := RQ_RM h₁ h₂ hI hM
  exact V_icmp_eq_t F (tgt := 802) dL_law_319 (by decide) rfl (hend T₂ n₂ _ hI₂ hM₂)
set_option maxHeartbeats 1000000 in
theorem lw_case6 (F : Fx (GS g) p room_1 s m #[Value.ref b] meth c RL cL_law 4 ret 600000 7302250) (hX : va_X b L xs s s.heap) (hbl : b < s.heap.size) (hbA : ¬ AS g.1 b) (hL : L ≤ 2048) {i : Nat} (hi : i + 4 ≤ L) {T : Tb} {n : Nat} {μ : Mem} (hI : XInv T n μ) (hM : MInv T n μ) (hend : ∀ (T : Tb) (n : Nat) (μ : Mem), XInv T n μ → MInv T n μ → V (GS g) p l e room_1 s m #[Value.ref b] below meth c 4 600000 7302250 (lw_Z below #[Value.ref b] s) 802 [some (.ref b), some (.ref (g.1 0)), some (.ref (g.1 15)), some (.int (nI i))] [] μ) : V (GS g) p l e room_1 s m #[Value.ref b] below meth c 4 600000 7302250 (lw_Z below #[Value.ref b] s) 324 [some (.ref b), some (.ref (g.1 0)), some (.ref (g.1 15)), some (.int (nI i))] [] μ := by
  refine V_aload_n F dL_law_324 rfl ?_
  refine V_callV F (q0 := 0) (c_processCount hI.1) mi_X3_processCount mm_X3_processCount lk_L_41 dL_law_325 ⟨Nat.le_of_ble_eq_true rfl, Nat.le_of_ble_eq_true rfl⟩ rfl rfl (by decide) (Nat.le_of_ble_eq_true rfl) rfl rfl rfl (fun r μ₁ h₁ => ?_)
  obtain ⟨rfl, rfl⟩ := h₁
  have hM₁ := hM
  refine V_aload_n F dL_law_328 rfl ?_
  refine V_callV F (q0 := 15) (c_mCount hM₁) mi_X4_processCount mm_X4_processCount lk_L_44 dL_law_329 ⟨Nat.le_of_ble_eq_true rfl, Nat.le_of_ble_eq_true rfl⟩ rfl rfl (by decide) (Nat.le_of_ble_eq_true rfl) rfl rfl rfl (fun r μ₂ h₂ => ?_)
  obtain ⟨rfl, rfl⟩ := h₂
  exact V_icmp_eq_t F (tgt := 802) dL_law_332 (by decide) rfl (hend T n _ hI hM)
set_option maxHeartbeats 1000000 in
theorem lw_case7 (F : Fx (GS g) p room_1 s m #[Value.ref b] meth c RL cL_law 4 ret 600000 7302250) (hX : va_X b L xs s s.heap) (hbl : b < s.heap.size) (hbA : ¬ AS g.1 b) (hL : L ≤ 2048) {i : Nat} (hi : i + 4 ≤ L) {T : Tb} {n : Nat} {μ : Mem} (hI : XInv T n μ) (hM : MInv T n μ) (hend : ∀ (T : Tb) (n : Nat) (μ : Mem), XInv T n μ → MInv T n μ → V (GS g) p l e room_1 s m #[Value.ref b] below meth c 4 600000 7302250 (lw_Z below #[Value.ref b] s) 802 [some (.ref b), some (.ref (g.1 0)), some (.ref (g.1 15)), some (.int (nI i))] [] μ) : V (GS g) p l e room_1 s m #[Value.ref b] below meth c 4 600000 7302250 (lw_Z below #[Value.ref b] s) 337 [some (.ref b), some (.ref (g.1 0)), some (.ref (g.1 15)), some (.int (nI i))] [] μ := by
  refine V_aload_n F dL_law_337 rfl ?_
  refine V_aload_n F dL_law_338 rfl ?_
  refine V_iload_n F dL_law_339 rfl ?_
  refine V_iconst F (v := nI 1) dL_law_340 (by decide) ?_
  refine V_iaddN F dL_law_341 ?_
  refine V_sld F hX hbl hbA hL (j := i + 1) (by omega) dL_law_342 ?_
  refine V_callV F (q0 := 0) (c_kindOf hI.1 _) mi_X3_kindOf mm_X3_kindOf lk_L_45 dL_law_343 ⟨Nat.le_of_ble_eq_true rfl, Nat.le_of_ble_eq_true rfl⟩ rfl rfl (by decide) (Nat.le_of_ble_eq_true rfl) rfl rfl rfl (fun r μ₁ h₁ => ?_)
  obtain ⟨rfl, rfl⟩ := h₁
  have hM₁ := hM
  refine V_aload_n F dL_law_346 rfl ?_
  refine V_aload_n F dL_law_347 rfl ?_
  refine V_iload_n F dL_law_348 rfl ?_
  refine V_iconst F (v := nI 1) dL_law_349 (by decide) ?_
  refine V_iaddN F dL_law_350 ?_
  refine V_sld F hX hbl hbA hL (j := i + 1) (by omega) dL_law_351 ?_
  refine V_callV F (q0 := 15) (c_mkindOf hM₁ _) mi_X4_kindOf mm_X4_kindOf lk_L_48 dL_law_352 ⟨Nat.le_of_ble_eq_true rfl, Nat.le_of_ble_eq_true rfl⟩ rfl rfl (by decide) (Nat.le_of_ble_eq_true rfl) rfl rfl rfl (fun r μ₂ h₂ => ?_)
  obtain ⟨rfl, rfl⟩ := h₂
  exact V_icmp_eq_t F (tgt := 802) dL_law_355 (by decide) rfl (hend T n _ hI hM)
set_option maxHeartbeats 1000000 in
theorem lw_case8 (F : Fx (GS g) p room_1 s m #[Value.ref b] meth c RL cL_law 4 ret 600000 7302250) (hX : va_X b L xs s s.heap) (hbl : b < s.heap.size) (hbA : ¬ AS g.1 b) (hL : L ≤ 2048) {i : Nat} (hi : i + 4 ≤ L) {T : Tb} {n : Nat} {μ : Mem} (hI : XInv T n μ) (hM : MInv T n μ) (hend : ∀ (T : Tb) (n : Nat) (μ : Mem), XInv T n μ → MInv T n μ → V (GS g) p l e room_1 s m #[Value.ref b] below meth c 4 600000 7302250 (lw_Z below #[Value.ref b] s) 802 [some (.ref b), some (.ref (g.1 0)), some (.ref (g.1 15)), some (.int (nI i))] [] μ) : V (GS g) p l e room_1 s m #[Value.ref b] below meth c 4 600000 7302250 (lw_Z below #[Value.ref b] s) 360 [some (.ref b), some (.ref (g.1 0)), some (.ref (g.1 15)), some (.int (nI i))] [] μ := by
  refine V_aload_n F dL_law_360 rfl ?_
  refine V_aload_n F dL_law_361 rfl ?_
  refine V_iload_n F dL_law_362 rfl ?_
  refine V_iconst F (v := nI 1) dL_law_363 (by decide) ?_
  refine V_iaddN F dL_law_364 ?_
  refine V_sld F hX hbl hbA hL (j := i + 1) (by omega) dL_law_365 ?_
  refine V_aload_n F dL_law_366 rfl ?_
  refine V_iload_n F dL_law_367 rfl ?_
  refine V_iconst F (v := nI 2) dL_law_368 (by decide) ?_
  refine V_iaddN F dL_law_369 ?_
  refine V_sld F hX hbl hbA hL (j := i + 2) (by omega) dL_law_370 ?_
  refine V_callV F (q0 := 0) (c_partOf hI.1 _ _) mi_X3_partOf mm_X3_partOf lk_L_49 dL_law_371 ⟨Nat.le_of_ble_eq_true rfl, Nat.le_of_ble_eq_true rfl⟩ rfl rfl (by decide) (Nat.le_of_ble_eq_true rfl) rfl rfl rfl (fun r μ₁ h₁ => ?_)
  obtain ⟨rfl, rfl⟩ := h₁
  have hM₁ := hM
  refine V_aload_n F dL_law_374 rfl ?_
  refine V_aload_n F dL_law_375 rfl ?_
  refine V_iload_n F dL_law_376 rfl ?_
  refine V_iconst F (v := nI 1) dL_law_377 (by decide) ?_
  refine V_iaddN F dL_law_378 ?_
  refine V_sld F hX hbl hbA hL (j := i + 1) (by omega) dL_law_379 ?_
  refine V_aload_n F dL_law_380 rfl ?_
  refine V_iload_n F dL_law_381 rfl ?_
  refine V_iconst F (v := nI 2) dL_law_382 (by decide) ?_
  refine V_iaddN F dL_law_383 ?_
  refine V_sld F hX hbl hbA hL (j := i + 2) (by omega) dL_law_384 ?_
  refine V_callV F (q0 := 15) (c_mpartOf hM₁ _ _) mi_X4_partOf mm_X4_partOf lk_L_52 dL_law_385 ⟨Nat.le_of_ble_eq_true rfl, Nat.le_of_ble_eq_true rfl⟩ rfl rfl (by decide) (Nat.le_of_ble_eq_true rfl) rfl rfl rfl (fun r μ₂ h₂ => ?_)
  obtain ⟨rfl, rfl⟩ := h₂
  exact V_icmp_eq_t F (tgt := 802) dL_law_388 (by decide) rfl (hend T n _ hI hM)
set_option maxHeartbeats 1000000 in
theorem lw_case9 (F : Fx (GS g) p room_1 s m #[Value.ref b] meth c RL cL_law 4 ret 600000 7302250) (hX : va_X b L xs s s.heap) (hbl : b < s.heap.size) (hbA : ¬ AS g.1 b) (hL : L ≤ 2048) {i : Nat} (hi : i + 4 ≤ L) {T : Tb} {n : Nat} {μ : Mem} (hI : XInv T n μ) (hM : MInv T n μ) (hend : ∀ (T : Tb) (n : Nat) (μ : Mem), XInv T n μ → MInv T n μ → V (GS g) p l e room_1 s m #[Value.ref b] below meth c 4 600000 7302250 (lw_Z below #[Value.ref b] s) 802 [some (.ref b), some (.ref (g.1 0)), some (.ref (g.1 15)), some (.int (nI i))] [] μ) : V (GS g) p l e room_1 s m #[Value.ref b] below meth c 4 600000 7302250 (lw_Z below #[Value.ref b] s) 393 [some (.ref b), some (.ref (g.1 0)), some (.ref (g.1 15)), some (.int (nI i))] [] μ := by
  refine V_aload_n F dL_law_393 rfl ?_
  refine V_aload_n F dL_law_394 rfl ?_
  refine V_iload_n F dL_law_395 rfl ?_
  refine V_iconst F (v := nI 1) dL_law_396 (by decide) ?_
  refine V_iaddN F dL_law_397 ?_
  refine V_sld F hX hbl hbA hL (j := i + 1) (by omega) dL_law_398 ?_
  refine V_callV F (q0 := 0) (c_depthOf hI.1 _) mi_X3_depthOf mm_X3_depthOf lk_L_53 dL_law_399 ⟨Nat.le_of_ble_eq_true rfl, Nat.le_of_ble_eq_true rfl⟩ rfl rfl (by decide) (Nat.le_of_ble_eq_true rfl) rfl rfl rfl (fun r μ₁ h₁ => ?_)
  obtain ⟨rfl, rfl⟩ := h₁
  have hM₁ := hM
  refine V_aload_n F dL_law_402 rfl ?_
  refine V_aload_n F dL_law_403 rfl ?_
  refine V_iload_n F dL_law_404 rfl ?_
  refine V_iconst F (v := nI 1) dL_law_405 (by decide) ?_
  refine V_iaddN F dL_law_406 ?_
  refine V_sld F hX hbl hbA hL (j := i + 1) (by omega) dL_law_407 ?_
  refine V_callV F (q0 := 15) (c_mdepthOf hM₁ _) mi_X4_depthOf mm_X4_depthOf lk_L_56 dL_law_408 ⟨Nat.le_of_ble_eq_true rfl, Nat.le_of_ble_eq_true rfl⟩ rfl rfl (by decide) (Nat.le_of_ble_eq_true rfl) rfl rfl rfl (fun r μ₂ h₂ => ?_)
  obtain ⟨rfl, rfl⟩ := h₂
  exact V_icmp_eq_t F (tgt := 802) dL_law_411 (by decide) rfl (hend T n _ hI hM)
set_option maxHeartbeats 1000000 in
theorem lw_case10 (F : Fx (GS g) p room_1 s m #[Value.ref b] meth c RL cL_law 4 ret 600000 7302250) (hX : va_X b L xs s s.heap) (hbl : b < s.heap.size) (hbA : ¬ AS g.1 b) (hL : L ≤ 2048) {i : Nat} (hi : i + 4 ≤ L) {T : Tb} {n : Nat} {μ : Mem} (hI : XInv T n μ) (hM : MInv T n μ) (hend : ∀ (T : Tb) (n : Nat) (μ : Mem), XInv T n μ → MInv T n μ → V (GS g) p l e room_1 s m #[Value.ref b] below meth c 4 600000 7302250 (lw_Z below #[Value.ref b] s) 802 [some (.ref b), some (.ref (g.1 0)), some (.ref (g.1 15)), some (.int (nI i))] [] μ) : V (GS g) p l e room_1 s m #[Value.ref b] below meth c 4 600000 7302250 (lw_Z below #[Value.ref b] s) 416 [some (.ref b), some (.ref (g.1 0)), some (.ref (g.1 15)), some (.int (nI i))] [] μ := by
  refine V_aload_n F dL_law_416 rfl ?_
  refine V_aload_n F dL_law_417 rfl ?_
  refine V_iload_n F dL_law_418 rfl ?_
  refine V_iconst F (v := nI 1) dL_law_419 (by decide) ?_
  refine V_iaddN F dL_law_420 ?_
  refine V_sld F hX hbl hbA hL (j := i + 1) (by omega) dL_law_421 ?_
  refine V_callV F (q0 := 0) (c_needOf hI.1 _) mi_X3_needOf mm_X3_needOf lk_L_57 dL_law_422 ⟨Nat.le_of_ble_eq_true rfl, Nat.le_of_ble_eq_true rfl⟩ rfl rfl (by decide) (Nat.le_of_ble_eq_true rfl) rfl rfl rfl (fun r μ₁ h₁ => ?_)
  obtain ⟨rfl, rfl⟩ := h₁
  have hM₁ := hM
  refine V_aload_n F dL_law_425 rfl ?_
  refine V_aload_n F dL_law_426 rfl ?_
  refine V_iload_n F dL_law_427 rfl ?_
  refine V_iconst F (v := nI 1) dL_law_428 (by decide) ?_
  refine V_iaddN F dL_law_429 ?_
  refine V_sld F hX hbl hbA hL (j := i + 1) (by omega) dL_law_430 ?_
  refine V_callV F (q0 := 15) (c_mneedOf hM₁ _) mi_X4_needOf mm_X4_needOf lk_L_60 dL_law_431 ⟨Nat.le_of_ble_eq_true rfl, Nat.le_of_ble_eq_true rfl⟩ rfl rfl (by decide) (Nat.le_of_ble_eq_true rfl) rfl rfl rfl (fun r μ₂ h₂ => ?_)
  obtain ⟨rfl, rfl⟩ := h₂
  exact V_icmp_eq_t F (tgt := 802) dL_law_434 (by decide) rfl (hend T n _ hI hM)
set_option maxHeartbeats 1000000 in
theorem lw_case11 (F : Fx (GS g) p room_1 s m #[Value.ref b] meth c RL cL_law 4 ret 600000 7302250) (hX : va_X b L xs s s.heap) (hbl : b < s.heap.size) (hbA : ¬ AS g.1 b) (hL : L ≤ 2048) {i : Nat} (hi : i + 4 ≤ L) {T : Tb} {n : Nat} {μ : Mem} (hI : XInv T n μ) (hM : MInv T n μ) (hend : ∀ (T : Tb) (n : Nat) (μ : Mem), XInv T n μ → MInv T n μ → V (GS g) p l e room_1 s m #[Value.ref b] below meth c 4 600000 7302250 (lw_Z below #[Value.ref b] s) 802 [some (.ref b), some (.ref (g.1 0)), some (.ref (g.1 15)), some (.int (nI i))] [] μ) : V (GS g) p l e room_1 s m #[Value.ref b] below meth c 4 600000 7302250 (lw_Z below #[Value.ref b] s) 439 [some (.ref b), some (.ref (g.1 0)), some (.ref (g.1 15)), some (.int (nI i))] [] μ := by
  refine V_aload_n F dL_law_439 rfl ?_
  refine V_aload_n F dL_law_440 rfl ?_
  refine V_iload_n F dL_law_441 rfl ?_
  refine V_iconst F (v := nI 1) dL_law_442 (by decide) ?_
  refine V_iaddN F dL_law_443 ?_
  refine V_sld F hX hbl hbA hL (j := i + 1) (by omega) dL_law_444 ?_
  refine V_callV F (q0 := 0) (c_textLength hI.1 _) mi_X3_textLength mm_X3_textLength lk_L_61 dL_law_445 ⟨Nat.le_of_ble_eq_true rfl, Nat.le_of_ble_eq_true rfl⟩ rfl rfl (by decide) (Nat.le_of_ble_eq_true rfl) rfl rfl rfl (fun r μ₁ h₁ => ?_)
  obtain ⟨rfl, rfl⟩ := h₁
  have hM₁ := hM
  refine V_aload_n F dL_law_448 rfl ?_
  refine V_aload_n F dL_law_449 rfl ?_
  refine V_iload_n F dL_law_450 rfl ?_
  refine V_iconst F (v := nI 1) dL_law_451 (by decide) ?_
  refine V_iaddN F dL_law_452 ?_
  refine V_sld F hX hbl hbA hL (j := i + 1) (by omega) dL_law_453 ?_
  refine V_callV F (q0 := 15) (c_mtextLength hM₁ _) mi_X4_textLength mm_X4_textLength lk_L_64 dL_law_454 ⟨Nat.le_of_ble_eq_true rfl, Nat.le_of_ble_eq_true rfl⟩ rfl rfl (by decide) (Nat.le_of_ble_eq_true rfl) rfl rfl rfl (fun r μ₂ h₂ => ?_)
  obtain ⟨rfl, rfl⟩ := h₂
  exact V_icmp_eq_t F (tgt := 802) dL_law_457 (by decide) rfl (hend T n _ hI hM)
set_option maxHeartbeats 1000000 in
theorem lw_case12 (F : Fx (GS g) p room_1 s m #[Value.ref b] meth c RL cL_law 4 ret 600000 7302250) (hX : va_X b L xs s s.heap) (hbl : b < s.heap.size) (hbA : ¬ AS g.1 b) (hL : L ≤ 2048) {i : Nat} (hi : i + 4 ≤ L) {T : Tb} {n : Nat} {μ : Mem} (hI : XInv T n μ) (hM : MInv T n μ) (hend : ∀ (T : Tb) (n : Nat) (μ : Mem), XInv T n μ → MInv T n μ → V (GS g) p l e room_1 s m #[Value.ref b] below meth c 4 600000 7302250 (lw_Z below #[Value.ref b] s) 802 [some (.ref b), some (.ref (g.1 0)), some (.ref (g.1 15)), some (.int (nI i))] [] μ) : V (GS g) p l e room_1 s m #[Value.ref b] below meth c 4 600000 7302250 (lw_Z below #[Value.ref b] s) 462 [some (.ref b), some (.ref (g.1 0)), some (.ref (g.1 15)), some (.int (nI i))] [] μ := by
  refine V_aload_n F dL_law_462 rfl ?_
  refine V_aload_n F dL_law_463 rfl ?_
  refine V_iload_n F dL_law_464 rfl ?_
  refine V_iconst F (v := nI 1) dL_law_465 (by decide) ?_
  refine V_iaddN F dL_law_466 ?_
  refine V_sld F hX hbl hbA hL (j := i + 1) (by omega) dL_law_467 ?_
  refine V_aload_n F dL_law_468 rfl ?_
  refine V_iload_n F dL_law_469 rfl ?_
  refine V_iconst F (v := nI 2) dL_law_470 (by decide) ?_
  refine V_iaddN F dL_law_471 ?_
  refine V_sld F hX hbl hbA hL (j := i + 2) (by omega) dL_law_472 ?_
  refine V_callV F (q0 := 0) (c_textAt hI.1 _ _) mi_X3_textAt mm_X3_textAt lk_L_65 dL_law_473 ⟨Nat.le_of_ble_eq_true rfl, Nat.le_of_ble_eq_true rfl⟩ rfl rfl (by decide) (Nat.le_of_ble_eq_true rfl) rfl rfl rfl (fun r μ₁ h₁ => ?_)
  obtain ⟨rfl, rfl⟩ := h₁
  have hM₁ := hM
  refine V_aload_n F dL_law_476 rfl ?_
  refine V_aload_n F dL_law_477 rfl ?_
  refine V_iload_n F dL_law_478 rfl ?_
  refine V_iconst F (v := nI 1) dL_law_479 (by decide) ?_
  refine V_iaddN F dL_law_480 ?_
  refine V_sld F hX hbl hbA hL (j := i + 1) (by omega) dL_law_481 ?_
  refine V_aload_n F dL_law_482 rfl ?_
  refine V_iload_n F dL_law_483 rfl ?_
  refine V_iconst F (v := nI 2) dL_law_484 (by decide) ?_
  refine V_iaddN F dL_law_485 ?_
  refine V_sld F hX hbl hbA hL (j := i + 2) (by omega) dL_law_486 ?_
  refine V_callV F (q0 := 15) (c_mtextAt hM₁ _ _) mi_X4_textAt mm_X4_textAt lk_L_68 dL_law_487 ⟨Nat.le_of_ble_eq_true rfl, Nat.le_of_ble_eq_true rfl⟩ rfl rfl (by decide) (Nat.le_of_ble_eq_true rfl) rfl rfl rfl (fun r μ₂ h₂ => ?_)
  obtain ⟨rfl, rfl⟩ := h₂
  exact V_icmp_eq_t F (tgt := 802) dL_law_490 (by decide) rfl (hend T n _ hI hM)
set_option maxHeartbeats 1000000 in
theorem lw_case13 (F : Fx (GS g) p room_1 s m #[Value.ref b] meth c RL cL_law 4 ret 600000 7302250) (hX : va_X b L xs s s.heap) (hbl : b < s.heap.size) (hbA : ¬ AS g.1 b) (hL : L ≤ 2048) {i : Nat} (hi : i + 4 ≤ L) {T : Tb} {n : Nat} {μ : Mem} (hI : XInv T n μ) (hM : MInv T n μ) (hend : ∀ (T : Tb) (n : Nat) (μ : Mem), XInv T n μ → MInv T n μ → V (GS g) p l e room_1 s m #[Value.ref b] below meth c 4 600000 7302250 (lw_Z below #[Value.ref b] s) 802 [some (.ref b), some (.ref (g.1 0)), some (.ref (g.1 15)), some (.int (nI i))] [] μ) : V (GS g) p l e room_1 s m #[Value.ref b] below meth c 4 600000 7302250 (lw_Z below #[Value.ref b] s) 495 [some (.ref b), some (.ref (g.1 0)), some (.ref (g.1 15)), some (.int (nI i))] [] μ := by
  refine V_aload_n F dL_law_495 rfl ?_
  refine V_aload_n F dL_law_496 rfl ?_
  refine V_iload_n F dL_law_497 rfl ?_
  refine V_iconst F (v := nI 1) dL_law_498 (by decide) ?_
  refine V_iaddN F dL_law_499 ?_
  refine V_sld F hX hbl hbA hL (j := i + 1) (by omega) dL_law_500 ?_
  refine V_callV F (q0 := 0) (c_moveCount hI.1 _) mi_X3_moveCount mm_X3_moveCount lk_L_69 dL_law_501 ⟨Nat.le_of_ble_eq_true rfl, Nat.le_of_ble_eq_true rfl⟩ rfl rfl (by decide) (Nat.le_of_ble_eq_true rfl) rfl rfl rfl (fun r μ₁ h₁ => ?_)
  obtain ⟨rfl, rfl⟩ := h₁
  have hM₁ := hM
  refine V_aload_n F dL_law_504 rfl ?_
  refine V_aload_n F dL_law_505 rfl ?_
  refine V_iload_n F dL_law_506 rfl ?_
  refine V_iconst F (v := nI 1) dL_law_507 (by decide) ?_
  refine V_iaddN F dL_law_508 ?_
  refine V_sld F hX hbl hbA hL (j := i + 1) (by omega) dL_law_509 ?_
  refine V_callV F (q0 := 15) (c_mmoveCount hM₁ _) mi_X4_moveCount mm_X4_moveCount lk_L_72 dL_law_510 ⟨Nat.le_of_ble_eq_true rfl, Nat.le_of_ble_eq_true rfl⟩ rfl rfl (by decide) (Nat.le_of_ble_eq_true rfl) rfl rfl rfl (fun r μ₂ h₂ => ?_)
  obtain ⟨rfl, hM₂, hs⟩ := h₂
  exact V_icmp_eq_t F (tgt := 802) dL_law_513 (by decide) rfl (hend T n _ (hI.of_sameX hs) hM₂)
set_option maxHeartbeats 1000000 in
theorem lw_case14 (F : Fx (GS g) p room_1 s m #[Value.ref b] meth c RL cL_law 4 ret 600000 7302250) (hX : va_X b L xs s s.heap) (hbl : b < s.heap.size) (hbA : ¬ AS g.1 b) (hL : L ≤ 2048) {i : Nat} (hi : i + 4 ≤ L) {T : Tb} {n : Nat} {μ : Mem} (hI : XInv T n μ) (hM : MInv T n μ) (hend : ∀ (T : Tb) (n : Nat) (μ : Mem), XInv T n μ → MInv T n μ → V (GS g) p l e room_1 s m #[Value.ref b] below meth c 4 600000 7302250 (lw_Z below #[Value.ref b] s) 802 [some (.ref b), some (.ref (g.1 0)), some (.ref (g.1 15)), some (.int (nI i))] [] μ) : V (GS g) p l e room_1 s m #[Value.ref b] below meth c 4 600000 7302250 (lw_Z below #[Value.ref b] s) 518 [some (.ref b), some (.ref (g.1 0)), some (.ref (g.1 15)), some (.int (nI i))] [] μ := by
  refine V_aload_n F dL_law_518 rfl ?_
  refine V_aload_n F dL_law_519 rfl ?_
  refine V_iload_n F dL_law_520 rfl ?_
  refine V_iconst F (v := nI 1) dL_law_521 (by decide) ?_
  refine V_iaddN F dL_law_522 ?_
  refine V_sld F hX hbl hbA hL (j := i + 1) (by omega) dL_law_523 ?_
  refine V_aload_n F dL_law_524 rfl ?_
  refine V_iload_n F dL_law_525 rfl ?_
  refine V_iconst F (v := nI 2) dL_law_526 (by decide) ?_
  refine V_iaddN F dL_law_527 ?_
  refine V_sld F hX hbl hbA hL (j := i + 2) (by omega) dL_law_528 ?_
  refine V_callV F (q0 := 0) (c_moveKind hI.1 _ _) mi_X3_moveKind mm_X3_moveKind lk_L_73 dL_law_529 ⟨Nat.le_of_ble_eq_true rfl, Nat.le_of_ble_eq_true rfl⟩ rfl rfl (by decide) (Nat.le_of_ble_eq_true rfl) rfl rfl rfl (fun r μ₁ h₁ => ?_)
  obtain ⟨rfl, rfl⟩ := h₁
  have hM₁ := hM
  refine V_aload_n F dL_law_532 rfl ?_
  refine V_aload_n F dL_law_533 rfl ?_
  refine V_iload_n F dL_law_534 rfl ?_
  refine V_iconst F (v := nI 1) dL_law_535 (by decide) ?_
  refine V_iaddN F dL_law_536 ?_
  refine V_sld F hX hbl hbA hL (j := i + 1) (by omega) dL_law_537 ?_
  refine V_aload_n F dL_law_538 rfl ?_
  refine V_iload_n F dL_law_539 rfl ?_
  refine V_iconst F (v := nI 2) dL_law_540 (by decide) ?_
  refine V_iaddN F dL_law_541 ?_
  refine V_sld F hX hbl hbA hL (j := i + 2) (by omega) dL_law_542 ?_
  refine V_callV F (q0 := 15) (c_mmoveKind hM₁ _ _) mi_X4_moveKind mm_X4_moveKind lk_L_76 dL_law_543 ⟨Nat.le_of_ble_eq_true rfl, Nat.le_of_ble_eq_true rfl⟩ rfl rfl (by decide) (Nat.le_of_ble_eq_true rfl) rfl rfl rfl (fun r μ₂ h₂ => ?_)
  obtain ⟨rfl, hM₂, hs⟩ := h₂
  exact V_icmp_eq_t F (tgt := 802) dL_law_546 (by decide) rfl (hend T n _ (hI.of_sameX hs) hM₂)
set_option maxHeartbeats 1000000 in
theorem lw_case15 (F : Fx (GS g) p room_1 s m #[Value.ref b] meth c RL cL_law 4 ret 600000 7302250) (hX : va_X b L xs s s.heap) (hbl : b < s.heap.size) (hbA : ¬ AS g.1 b) (hL : L ≤ 2048) {i : Nat} (hi : i + 4 ≤ L) {T : Tb} {n : Nat} {μ : Mem} (hI : XInv T n μ) (hM : MInv T n μ) (hend : ∀ (T : Tb) (n : Nat) (μ : Mem), XInv T n μ → MInv T n μ → V (GS g) p l e room_1 s m #[Value.ref b] below meth c 4 600000 7302250 (lw_Z below #[Value.ref b] s) 802 [some (.ref b), some (.ref (g.1 0)), some (.ref (g.1 15)), some (.int (nI i))] [] μ) : V (GS g) p l e room_1 s m #[Value.ref b] below meth c 4 600000 7302250 (lw_Z below #[Value.ref b] s) 551 [some (.ref b), some (.ref (g.1 0)), some (.ref (g.1 15)), some (.int (nI i))] [] μ := by
  refine V_aload_n F dL_law_551 rfl ?_
  refine V_aload_n F dL_law_552 rfl ?_
  refine V_iload_n F dL_law_553 rfl ?_
  refine V_iconst F (v := nI 1) dL_law_554 (by decide) ?_
  refine V_iaddN F dL_law_555 ?_
  refine V_sld F hX hbl hbA hL (j := i + 1) (by omega) dL_law_556 ?_
  refine V_aload_n F dL_law_557 rfl ?_
  refine V_iload_n F dL_law_558 rfl ?_
  refine V_iconst F (v := nI 2) dL_law_559 (by decide) ?_
  refine V_iaddN F dL_law_560 ?_
  refine V_sld F hX hbl hbA hL (j := i + 2) (by omega) dL_law_561 ?_
  refine V_callV F (q0 := 0) (c_moveNames hI.1 _ _) mi_X3_moveNames mm_X3_moveNames lk_L_77 dL_law_562 ⟨Nat.le_of_ble_eq_true rfl, Nat.le_of_ble_eq_true rfl⟩ rfl rfl (by decide) (Nat.le_of_ble_eq_true rfl) rfl rfl rfl (fun r μ₁ h₁ => ?_)
  obtain ⟨rfl, rfl⟩ := h₁
  have hM₁ := hM
  refine V_aload_n F dL_law_565 rfl ?_
  refine V_aload_n F dL_law_566 rfl ?_
  refine V_iload_n F dL_law_567 rfl ?_
  refine V_iconst F (v := nI 1) dL_law_568 (by decide) ?_
  refine V_iaddN F dL_law_569 ?_
  refine V_sld F hX hbl hbA hL (j := i + 1) (by omega) dL_law_570 ?_
  refine V_aload_n F dL_law_571 rfl ?_
  refine V_iload_n F dL_law_572 rfl ?_
  refine V_iconst F (v := nI 2) dL_law_573 (by decide) ?_
  refine V_iaddN F dL_law_574 ?_
  refine V_sld F hX hbl hbA hL (j := i + 2) (by omega) dL_law_575 ?_
  refine V_callV F (q0 := 15) (c_mmoveNames hM₁ _ _) mi_X4_moveNames mm_X4_moveNames lk_L_80 dL_law_576 ⟨Nat.le_of_ble_eq_true rfl, Nat.le_of_ble_eq_true rfl⟩ rfl rfl (by decide) (Nat.le_of_ble_eq_true rfl) rfl rfl rfl (fun r μ₂ h₂ => ?_)
  obtain ⟨rfl, hM₂, hs⟩ := h₂
  exact V_icmp_eq_t F (tgt := 802) dL_law_579 (by decide) rfl (hend T n _ (hI.of_sameX hs) hM₂)
set_option maxHeartbeats 1000000 in
theorem lw_case16 (F : Fx (GS g) p room_1 s m #[Value.ref b] meth c RL cL_law 4 ret 600000 7302250) (hX : va_X b L xs s s.heap) (hbl : b < s.heap.size) (hbA : ¬ AS g.1 b) (hL : L ≤ 2048) {i : Nat} (hi : i + 4 ≤ L) {T : Tb} {n : Nat} {μ : Mem} (hI : XInv T n μ) (hM : MInv T n μ) (hend : ∀ (T : Tb) (n : Nat) (μ : Mem), XInv T n μ → MInv T n μ → V (GS g) p l e room_1 s m #[Value.ref b] below meth c 4 600000 7302250 (lw_Z below #[Value.ref b] s) 802 [some (.ref b), some (.ref (g.1 0)), some (.ref (g.1 15)), some (.int (nI i))] [] μ) : V (GS g) p l e room_1 s m #[Value.ref b] below meth c 4 600000 7302250 (lw_Z below #[Value.ref b] s) 584 [some (.ref b), some (.ref (g.1 0)), some (.ref (g.1 15)), some (.int (nI i))] [] μ := by
  refine V_aload_n F dL_law_584 rfl ?_
  refine V_aload_n F dL_law_585 rfl ?_
  refine V_iload_n F dL_law_586 rfl ?_
  refine V_iconst F (v := nI 1) dL_law_587 (by decide) ?_
  refine V_iaddN F dL_law_588 ?_
  refine V_sld F hX hbl hbA hL (j := i + 1) (by omega) dL_law_589 ?_
  refine V_aload_n F dL_law_590 rfl ?_
  refine V_iload_n F dL_law_591 rfl ?_
  refine V_iconst F (v := nI 2) dL_law_592 (by decide) ?_
  refine V_iaddN F dL_law_593 ?_
  refine V_sld F hX hbl hbA hL (j := i + 2) (by omega) dL_law_594 ?_
  refine V_callV F (q0 := 0) (c_moveTarget hI.1 _ _) mi_X3_moveTarget mm_X3_moveTarget lk_L_81 dL_law_595 ⟨Nat.le_of_ble_eq_true rfl, Nat.le_of_ble_eq_true rfl⟩ rfl rfl (by decide) (Nat.le_of_ble_eq_true rfl) rfl rfl rfl (fun r μ₁ h₁ => ?_)
  obtain ⟨rfl, rfl⟩ := h₁
  have hM₁ := hM
  refine V_aload_n F dL_law_598 rfl ?_
  refine V_aload_n F dL_law_599 rfl ?_
  refine V_iload_n F dL_law_600 rfl ?_
  refine V_iconst F (v := nI 1) dL_law_601 (by decide) ?_
  refine V_iaddN F dL_law_602 ?_
  refine V_sld F hX hbl hbA hL (j := i + 1) (by omega) dL_law_603 ?_
  refine V_aload_n F dL_law_604 rfl ?_
  refine V_iload_n F dL_law_605 rfl ?_
  refine V_iconst F (v := nI 2) dL_law_606 (by decide) ?_
  refine V_iaddN F dL_law_607 ?_
  refine V_sld F hX hbl hbA hL (j := i + 2) (by omega) dL_law_608 ?_
  refine V_callV F (q0 := 15) (c_mmoveTarget hM₁ _ _) mi_X4_moveTarget mm_X4_moveTarget lk_L_84 dL_law_609 ⟨Nat.le_of_ble_eq_true rfl, Nat.le_of_ble_eq_true rfl⟩ rfl rfl (by decide) (Nat.le_of_ble_eq_true rfl) rfl rfl rfl (fun r μ₂ h₂ => ?_)
  obtain ⟨rfl, hM₂, hs⟩ := h₂
  exact V_icmp_eq_t F (tgt := 802) dL_law_612 (by decide) rfl (hend T n _ (hI.of_sameX hs) hM₂)
set_option maxHeartbeats 1000000 in
theorem lw_case17 (F : Fx (GS g) p room_1 s m #[Value.ref b] meth c RL cL_law 4 ret 600000 7302250) (hX : va_X b L xs s s.heap) (hbl : b < s.heap.size) (hbA : ¬ AS g.1 b) (hL : L ≤ 2048) {i : Nat} (hi : i + 4 ≤ L) {T : Tb} {n : Nat} {μ : Mem} (hI : XInv T n μ) (hM : MInv T n μ) (hend : ∀ (T : Tb) (n : Nat) (μ : Mem), XInv T n μ → MInv T n μ → V (GS g) p l e room_1 s m #[Value.ref b] below meth c 4 600000 7302250 (lw_Z below #[Value.ref b] s) 802 [some (.ref b), some (.ref (g.1 0)), some (.ref (g.1 15)), some (.int (nI i))] [] μ) : V (GS g) p l e room_1 s m #[Value.ref b] below meth c 4 600000 7302250 (lw_Z below #[Value.ref b] s) 617 [some (.ref b), some (.ref (g.1 0)), some (.ref (g.1 15)), some (.int (nI i))] [] μ := by
  refine V_aload_n F dL_law_617 rfl ?_
  refine V_aload_n F dL_law_618 rfl ?_
  refine V_iload_n F dL_law_619 rfl ?_
  refine V_iconst F (v := nI 1) dL_law_620 (by decide) ?_
  refine V_iaddN F dL_law_621 ?_
  refine V_sld F hX hbl hbA hL (j := i + 1) (by omega) dL_law_622 ?_
  refine V_aload_n F dL_law_623 rfl ?_
  refine V_iload_n F dL_law_624 rfl ?_
  refine V_iconst F (v := nI 2) dL_law_625 (by decide) ?_
  refine V_iaddN F dL_law_626 ?_
  refine V_sld F hX hbl hbA hL (j := i + 2) (by omega) dL_law_627 ?_
  refine V_aload_n F dL_law_628 rfl ?_
  refine V_iload_n F dL_law_629 rfl ?_
  refine V_iconst F (v := nI 3) dL_law_630 (by decide) ?_
  refine V_iaddN F dL_law_631 ?_
  refine V_sld F hX hbl hbA hL (j := i + 3) (by omega) dL_law_632 ?_
  refine V_callV F (q0 := 0) (c_areRelated hI _ _ _) mi_X3_areRelated mm_X3_areRelated lk_L_85 dL_law_633 ⟨Nat.le_of_ble_eq_true rfl, Nat.le_of_ble_eq_true rfl⟩ rfl rfl (by decide) (Nat.le_of_ble_eq_true rfl) rfl rfl rfl (fun r μ₁ h₁ => ?_)
  have hM₁ := h₁.mi hM
  obtain ⟨rfl, hMe, hw⟩ := h₁
  have hI₁ := hI.of_W hw hMe
  refine V_aload_n F dL_law_636 rfl ?_
  refine V_aload_n F dL_law_637 rfl ?_
  refine V_iload_n F dL_law_638 rfl ?_
  refine V_iconst F (v := nI 1) dL_law_639 (by decide) ?_
  refine V_iaddN F dL_law_640 ?_
  refine V_sld F hX hbl hbA hL (j := i + 1) (by omega) dL_law_641 ?_
  refine V_aload_n F dL_law_642 rfl ?_
  refine V_iload_n F dL_law_643 rfl ?_
  refine V_iconst F (v := nI 2) dL_law_644 (by decide) ?_
  refine V_iaddN F dL_law_645 ?_
  refine V_sld F hX hbl hbA hL (j := i + 2) (by omega) dL_law_646 ?_
  refine V_aload_n F dL_law_647 rfl ?_
  refine V_iload_n F dL_law_648 rfl ?_
  refine V_iconst F (v := nI 3) dL_law_649 (by decide) ?_
  refine V_iaddN F dL_law_650 ?_
  refine V_sld F hX hbl hbA hL (j := i + 3) (by omega) dL_law_651 ?_
  refine V_callV F (q0 := 15) (c_mareRelated hM₁ _ _ _) mi_X4_areRelated mm_X4_areRelated lk_L_88 dL_law_652 ⟨Nat.le_of_ble_eq_true rfl, Nat.le_of_ble_eq_true rfl⟩ rfl rfl (by decide) (Nat.le_of_ble_eq_true rfl) rfl rfl rfl (fun r μ₂ h₂ => ?_)
  obtain ⟨rfl, hM₂, hs⟩ := h₂
  exact V_icmp_eq_t F (tgt := 802) dL_law_655 (by decide) rfl (hend T n _ (hI₁.of_sameX hs) hM₂)
set_option maxHeartbeats 1000000 in
theorem lw_case18 (F : Fx (GS g) p room_1 s m #[Value.ref b] meth c RL cL_law 4 ret 600000 7302250) (hX : va_X b L xs s s.heap) (hbl : b < s.heap.size) (hbA : ¬ AS g.1 b) (hL : L ≤ 2048) {i : Nat} (hi : i + 4 ≤ L) {T : Tb} {n : Nat} {μ : Mem} (hI : XInv T n μ) (hM : MInv T n μ) (hend : ∀ (T : Tb) (n : Nat) (μ : Mem), XInv T n μ → MInv T n μ → V (GS g) p l e room_1 s m #[Value.ref b] below meth c 4 600000 7302250 (lw_Z below #[Value.ref b] s) 802 [some (.ref b), some (.ref (g.1 0)), some (.ref (g.1 15)), some (.int (nI i))] [] μ) : V (GS g) p l e room_1 s m #[Value.ref b] below meth c 4 600000 7302250 (lw_Z below #[Value.ref b] s) 660 [some (.ref b), some (.ref (g.1 0)), some (.ref (g.1 15)), some (.int (nI i))] [] μ := by
  refine V_aload_n F dL_law_660 rfl ?_
  refine V_aload_n F dL_law_661 rfl ?_
  refine V_iload_n F dL_law_662 rfl ?_
  refine V_iconst F (v := nI 1) dL_law_663 (by decide) ?_
  refine V_iaddN F dL_law_664 ?_
  refine V_sld F hX hbl hbA hL (j := i + 1) (by omega) dL_law_665 ?_
  refine V_aload_n F dL_law_666 rfl ?_
  refine V_iload_n F dL_law_667 rfl ?_
  refine V_iconst F (v := nI 2) dL_law_668 (by decide) ?_
  refine V_iaddN F dL_law_669 ?_
  refine V_sld F hX hbl hbA hL (j := i + 2) (by omega) dL_law_670 ?_
  refine V_aload_n F dL_law_671 rfl ?_
  refine V_iload_n F dL_law_672 rfl ?_
  refine V_iconst F (v := nI 3) dL_law_673 (by decide) ?_
  refine V_iaddN F dL_law_674 ?_
  refine V_sld F hX hbl hbA hL (j := i + 3) (by omega) dL_law_675 ?_
  refine V_callV F (q0 := 0) (c_rounds hI _ _ _) mi_X3_rounds mm_X3_rounds lk_L_89 dL_law_676 ⟨Nat.le_of_ble_eq_true rfl, Nat.le_of_ble_eq_true rfl⟩ rfl rfl (by decide) (Nat.le_of_ble_eq_true rfl) rfl rfl rfl (fun r μ₁ h₁ => ?_)
  have hM₁ := h₁.mi hM
  obtain ⟨rfl, hMe, hw⟩ := h₁
  have hI₁ := hI.of_W hw hMe
  refine V_aload_n F dL_law_679 rfl ?_
  refine V_aload_n F dL_law_680 rfl ?_
  refine V_iload_n F dL_law_681 rfl ?_
  refine V_iconst F (v := nI 1) dL_law_682 (by decide) ?_
  refine V_iaddN F dL_law_683 ?_
  refine V_sld F hX hbl hbA hL (j := i + 1) (by omega) dL_law_684 ?_
  refine V_aload_n F dL_law_685 rfl ?_
  refine V_iload_n F dL_law_686 rfl ?_
  refine V_iconst F (v := nI 2) dL_law_687 (by decide) ?_
  refine V_iaddN F dL_law_688 ?_
  refine V_sld F hX hbl hbA hL (j := i + 2) (by omega) dL_law_689 ?_
  refine V_aload_n F dL_law_690 rfl ?_
  refine V_iload_n F dL_law_691 rfl ?_
  refine V_iconst F (v := nI 3) dL_law_692 (by decide) ?_
  refine V_iaddN F dL_law_693 ?_
  refine V_sld F hX hbl hbA hL (j := i + 3) (by omega) dL_law_694 ?_
  refine V_callV F (q0 := 15) (c_mrounds hM₁ _ _ _) mi_X4_rounds mm_X4_rounds lk_L_92 dL_law_695 ⟨Nat.le_of_ble_eq_true rfl, Nat.le_of_ble_eq_true rfl⟩ rfl rfl (by decide) (Nat.le_of_ble_eq_true rfl) rfl rfl rfl (fun r μ₂ h₂ => ?_)
  obtain ⟨rfl, hM₂, hs⟩ := h₂
  exact V_icmp_eq_t F (tgt := 802) dL_law_698 (by decide) rfl (hend T n _ (hI₁.of_sameX hs) hM₂)
set_option maxHeartbeats 1000000 in
theorem lw_case19 (F : Fx (GS g) p room_1 s m #[Value.ref b] meth c RL cL_law 4 ret 600000 7302250) (hX : va_X b L xs s s.heap) (hbl : b < s.heap.size) (hbA : ¬ AS g.1 b) (hL : L ≤ 2048) {i : Nat} (hi : i + 4 ≤ L) {T : Tb} {n : Nat} {μ : Mem} (hI : XInv T n μ) (hM : MInv T n μ) (hend : ∀ (T : Tb) (n : Nat) (μ : Mem), XInv T n μ → MInv T n μ → V (GS g) p l e room_1 s m #[Value.ref b] below meth c 4 600000 7302250 (lw_Z below #[Value.ref b] s) 802 [some (.ref b), some (.ref (g.1 0)), some (.ref (g.1 15)), some (.int (nI i))] [] μ) : V (GS g) p l e room_1 s m #[Value.ref b] below meth c 4 600000 7302250 (lw_Z below #[Value.ref b] s) 703 [some (.ref b), some (.ref (g.1 0)), some (.ref (g.1 15)), some (.int (nI i))] [] μ := by
  refine V_aload_n F dL_law_703 rfl ?_
  refine V_aload_n F dL_law_704 rfl ?_
  refine V_iload_n F dL_law_705 rfl ?_
  refine V_iconst F (v := nI 1) dL_law_706 (by decide) ?_
  refine V_iaddN F dL_law_707 ?_
  refine V_sld F hX hbl hbA hL (j := i + 1) (by omega) dL_law_708 ?_
  refine V_aload_n F dL_law_709 rfl ?_
  refine V_iload_n F dL_law_710 rfl ?_
  refine V_iconst F (v := nI 2) dL_law_711 (by decide) ?_
  refine V_iaddN F dL_law_712 ?_
  refine V_sld F hX hbl hbA hL (j := i + 2) (by omega) dL_law_713 ?_
  refine V_aload_n F dL_law_714 rfl ?_
  refine V_iload_n F dL_law_715 rfl ?_
  refine V_iconst F (v := nI 3) dL_law_716 (by decide) ?_
  refine V_iaddN F dL_law_717 ?_
  refine V_sld F hX hbl hbA hL (j := i + 3) (by omega) dL_law_718 ?_
  refine V_callV F (q0 := 0) (c_firstAttack hI _ _ _) mi_X3_firstAttack mm_X3_firstAttack lk_L_93 dL_law_719 ⟨Nat.le_of_ble_eq_true rfl, Nat.le_of_ble_eq_true rfl⟩ rfl rfl (by decide) (Nat.le_of_ble_eq_true rfl) rfl rfl rfl (fun r μ₁ h₁ => ?_)
  have hM₁ := h₁.mi hM
  obtain ⟨rfl, hMe, hw⟩ := h₁
  have hI₁ := hI.of_W hw hMe
  refine V_aload_n F dL_law_722 rfl ?_
  refine V_aload_n F dL_law_723 rfl ?_
  refine V_iload_n F dL_law_724 rfl ?_
  refine V_iconst F (v := nI 1) dL_law_725 (by decide) ?_
  refine V_iaddN F dL_law_726 ?_
  refine V_sld F hX hbl hbA hL (j := i + 1) (by omega) dL_law_727 ?_
  refine V_aload_n F dL_law_728 rfl ?_
  refine V_iload_n F dL_law_729 rfl ?_
  refine V_iconst F (v := nI 2) dL_law_730 (by decide) ?_
  refine V_iaddN F dL_law_731 ?_
  refine V_sld F hX hbl hbA hL (j := i + 2) (by omega) dL_law_732 ?_
  refine V_aload_n F dL_law_733 rfl ?_
  refine V_iload_n F dL_law_734 rfl ?_
  refine V_iconst F (v := nI 3) dL_law_735 (by decide) ?_
  refine V_iaddN F dL_law_736 ?_
  refine V_sld F hX hbl hbA hL (j := i + 3) (by omega) dL_law_737 ?_
  refine V_callV F (q0 := 15) (c_mfirstAttack hM₁ _ _ _) mi_X4_firstAttack mm_X4_firstAttack lk_L_96 dL_law_738 ⟨Nat.le_of_ble_eq_true rfl, Nat.le_of_ble_eq_true rfl⟩ rfl rfl (by decide) (Nat.le_of_ble_eq_true rfl) rfl rfl rfl (fun r μ₂ h₂ => ?_)
  obtain ⟨rfl, hM₂, hs⟩ := h₂
  exact V_icmp_eq_t F (tgt := 802) dL_law_741 (by decide) rfl (hend T n _ (hI₁.of_sameX hs) hM₂)
set_option maxHeartbeats 1000000 in
theorem lw_case20 (F : Fx (GS g) p room_1 s m #[Value.ref b] meth c RL cL_law 4 ret 600000 7302250) (hX : va_X b L xs s s.heap) (hbl : b < s.heap.size) (hbA : ¬ AS g.1 b) (hL : L ≤ 2048) {i : Nat} (hi : i + 4 ≤ L) {T : Tb} {n : Nat} {μ : Mem} (hI : XInv T n μ) (hM : MInv T n μ) (hend : ∀ (T : Tb) (n : Nat) (μ : Mem), XInv T n μ → MInv T n μ → V (GS g) p l e room_1 s m #[Value.ref b] below meth c 4 600000 7302250 (lw_Z below #[Value.ref b] s) 802 [some (.ref b), some (.ref (g.1 0)), some (.ref (g.1 15)), some (.int (nI i))] [] μ) : V (GS g) p l e room_1 s m #[Value.ref b] below meth c 4 600000 7302250 (lw_Z below #[Value.ref b] s) 746 [some (.ref b), some (.ref (g.1 0)), some (.ref (g.1 15)), some (.int (nI i))] [] μ := by
  refine V_aload_n F dL_law_746 rfl ?_
  refine V_aload_n F dL_law_747 rfl ?_
  refine V_iload_n F dL_law_748 rfl ?_
  refine V_iconst F (v := nI 1) dL_law_749 (by decide) ?_
  refine V_iaddN F dL_law_750 ?_
  refine V_sld F hX hbl hbA hL (j := i + 1) (by omega) dL_law_751 ?_
  refine V_aload_n F dL_law_752 rfl ?_
  refine V_iload_n F dL_law_753 rfl ?_
  refine V_iconst F (v := nI 2) dL_law_754 (by decide) ?_
  refine V_iaddN F dL_law_755 ?_
  refine V_sld F hX hbl hbA hL (j := i + 2) (by omega) dL_law_756 ?_
  refine V_callV F (q0 := 0) (c_representative hI _ _) mi_X3_representative mm_X3_representative lk_L_97 dL_law_757 ⟨Nat.le_of_ble_eq_true rfl, Nat.le_of_ble_eq_true rfl⟩ rfl rfl (by decide) (Nat.le_of_ble_eq_true rfl) rfl rfl rfl (fun r μ₁ h₁ => ?_)
  have hM₁ := h₁.mi hM
  obtain ⟨rfl, hMe, hw⟩ := h₁
  have hI₁ := hI.of_W hw hMe
  refine V_aload_n F dL_law_760 rfl ?_
  refine V_aload_n F dL_law_761 rfl ?_
  refine V_iload_n F dL_law_762 rfl ?_
  refine V_iconst F (v := nI 1) dL_law_763 (by decide) ?_
  refine V_iaddN F dL_law_764 ?_
  refine V_sld F hX hbl hbA hL (j := i + 1) (by omega) dL_law_765 ?_
  refine V_aload_n F dL_law_766 rfl ?_
  refine V_iload_n F dL_law_767 rfl ?_
  refine V_iconst F (v := nI 2) dL_law_768 (by decide) ?_
  refine V_iaddN F dL_law_769 ?_
  refine V_sld F hX hbl hbA hL (j := i + 2) (by omega) dL_law_770 ?_
  refine V_callV F (q0 := 15) (c_mrepresentative hM₁ _ _) mi_X4_representative mm_X4_representative lk_L_100 dL_law_771 ⟨Nat.le_of_ble_eq_true rfl, Nat.le_of_ble_eq_true rfl⟩ rfl rfl (by decide) (Nat.le_of_ble_eq_true rfl) rfl rfl rfl (fun r μ₂ h₂ => ?_)
  obtain ⟨rfl, hM₂, hs⟩ := h₂
  exact V_icmp_eq_t F (tgt := 802) dL_law_774 (by decide) rfl (hend T n _ (hI₁.of_sameX hs) hM₂)
set_option maxHeartbeats 1000000 in
theorem lw_case21 (F : Fx (GS g) p room_1 s m #[Value.ref b] meth c RL cL_law 4 ret 600000 7302250) (hX : va_X b L xs s s.heap) (hbl : b < s.heap.size) (hbA : ¬ AS g.1 b) (hL : L ≤ 2048) {i : Nat} (hi : i + 4 ≤ L) {T : Tb} {n : Nat} {μ : Mem} (hI : XInv T n μ) (hM : MInv T n μ) (hend : ∀ (T : Tb) (n : Nat) (μ : Mem), XInv T n μ → MInv T n μ → V (GS g) p l e room_1 s m #[Value.ref b] below meth c 4 600000 7302250 (lw_Z below #[Value.ref b] s) 802 [some (.ref b), some (.ref (g.1 0)), some (.ref (g.1 15)), some (.int (nI i))] [] μ) : V (GS g) p l e room_1 s m #[Value.ref b] below meth c 4 600000 7302250 (lw_Z below #[Value.ref b] s) 779 [some (.ref b), some (.ref (g.1 0)), some (.ref (g.1 15)), some (.int (nI i))] [] μ := by
  refine V_aload_n F dL_law_779 rfl ?_
  refine V_aload_n F dL_law_780 rfl ?_
  refine V_iload_n F dL_law_781 rfl ?_
  refine V_iconst F (v := nI 1) dL_law_782 (by decide) ?_
  refine V_iaddN F dL_law_783 ?_
  refine V_sld F hX hbl hbA hL (j := i + 1) (by omega) dL_law_784 ?_
  refine V_callV F (q0 := 0) (c_classCount hI _) mi_X3_classCount mm_X3_classCount lk_L_101 dL_law_785 ⟨Nat.le_of_ble_eq_true rfl, Nat.le_of_ble_eq_true rfl⟩ rfl rfl (by decide) (Nat.le_of_ble_eq_true rfl) rfl rfl rfl (fun r μ₁ h₁ => ?_)
  have hM₁ := h₁.mi hM
  obtain ⟨rfl, hMe, hw⟩ := h₁
  have hI₁ := hI.of_W hw hMe
  refine V_aload_n F dL_law_788 rfl ?_
  refine V_aload_n F dL_law_789 rfl ?_
  refine V_iload_n F dL_law_790 rfl ?_
  refine V_iconst F (v := nI 1) dL_law_791 (by decide) ?_
  refine V_iaddN F dL_law_792 ?_
  refine V_sld F hX hbl hbA hL (j := i + 1) (by omega) dL_law_793 ?_
  refine V_callV F (q0 := 15) (c_mclassCount hM₁ _) mi_X4_classCount mm_X4_classCount lk_L_104 dL_law_794 ⟨Nat.le_of_ble_eq_true rfl, Nat.le_of_ble_eq_true rfl⟩ rfl rfl (by decide) (Nat.le_of_ble_eq_true rfl) rfl rfl rfl (fun r μ₂ h₂ => ?_)
  obtain ⟨rfl, hM₂, hs⟩ := h₂
  exact V_icmp_eq_t F (tgt := 802) dL_law_797 (by decide) rfl (hend T n _ (hI₁.of_sameX hs) hM₂)
theorem lw_done (F : Fx (GS g) p room_1 s m #[Value.ref b] meth c RL cL_law 4 ret 600000 7302250) (hX : va_X b L xs s s.heap) (hbl : b < s.heap.size) (hbA : ¬ AS g.1 b) (hL : L ≤ 2048) (hA : ∀ q, AS g.1 q → s.heap.size ≤ q) {lv : List (Option Value)} {μ : Mem} : V (GS g) p l e room_1 s m #[Value.ref b] below meth c 4 600000 7302250 (lw_Z below #[Value.ref b] s) 808 lv [] μ := by
  refine V_iconst F (v := 1) dL_law_808 (by decide) ?_
  intro H locs ls hP hS hl
  exact va_forget (fun q hq => hA _ (hS.2.2 q hq)) (lw_ret F.1 F.2.1 F.2.2.1 F.2.2.2.1 dL_law_809)
theorem lw_loop (F : Fx (GS g) p room_1 s m #[Value.ref b] meth c RL cL_law 4 ret 600000 7302250) (hX : va_X b L xs s s.heap) (hbl : b < s.heap.size) (hbA : ¬ AS g.1 b) (hL : L ≤ 2048) (hA : ∀ q, AS g.1 q → s.heap.size ≤ q) : ∀ (f i : Nat), i ≤ 4000 → L < i + 4 + 4 * f → ∀ (T : Tb) (n : Nat) (μ : Mem), XInv T n μ → MInv T n μ → V (GS g) p l e room_1 s m #[Value.ref b] below meth c 4 600000 7302250 (lw_Z below #[Value.ref b] s) 18 [some (.ref b), some (.ref (g.1 0)), some (.ref (g.1 15)), some (.int (nI i))] [] μ := by
  intro f
  induction f with
  | zero =>
    intro i hi hf T n μ hI hM
    refine V_iload_n F dL_law_18 rfl ?_
    refine V_aload_n F dL_law_19 rfl ?_
    refine V_sln F hX hbl hbA dL_law_20 ?_
    refine V_iconst F (v := nI 4) dL_law_21 (by decide) ?_
    refine V_isub F dL_law_22 ?_
    refine V_icmp_gt F (tgt := 808) dL_law_23 (by decide) (fun _ => lw_done F hX hbl hbA hL hA) (fun h => absurd ((lw_cmp (by omega) hL).mpr (by omega)) h)
  | succ f ih =>
    intro i hi hf T n μ hI hM
    refine V_iload_n F dL_law_18 rfl ?_
    refine V_aload_n F dL_law_19 rfl ?_
    refine V_sln F hX hbl hbA dL_law_20 ?_
    refine V_iconst F (v := nI 4) dL_law_21 (by decide) ?_
    refine V_isub F dL_law_22 ?_
    refine V_icmp_gt F (tgt := 808) dL_law_23 (by decide) (fun _ => lw_done F hX hbl hbA hL hA) (fun h => ?_)
    have h4 : i + 4 ≤ L := by
      have := (not_congr (lw_cmp (i := i) (by omega) hL)).mp h
      omega
    have hend : ∀ (T : Tb) (n : Nat) (μ : Mem), XInv T n μ → MInv T n μ → V (GS g) p l e room_1 s m #[Value.ref b] below meth c 4 600000 7302250 (lw_Z below #[Value.ref b] s) 802 [some (.ref b), some (.ref (g.1 0)), some (.ref (g.1 15)), some (.int (nI i))] [] μ := fun T n μ hI hM => by
      refine V_iinc F (lv' := [some (.ref b), some (.ref (g.1 0)), some (.ref (g.1 15)), some (.int (nI (i + 4)))]) dL_law_802 rfl (by decide) rfl (by rw [show nI (i + 4) = nI i + Int32.ofInt 4 from (nI_add i 4).symm]; rfl) ?_
      exact V_goto F (tgt := 18) dL_law_805 (by decide) (ih (i + 4) (by omega) (by omega) T n μ hI hM)
    refine V_aload_n F dL_law_26 rfl ?_
    refine V_iload_n F dL_law_27 rfl ?_
    refine V_sld F hX hbl hbA hL (j := i) (by omega) dL_law_28 ?_
    refine V_bipush F (v := nI 31) dL_law_29 (by decide) ?_
    refine V_iand F dL_law_31 ?_
    generalize xs i &&& nI 31 = x
    by_cases hx : x.toInt < 0 ∨ 21 < x.toInt
    · exact V_tableOut F (tgt := 802) dL_law_32 hx (by decide) (hend T n μ hI hM)
    obtain ⟨k, hk⟩ : ∃ k, (x.toInt - 0).toNat = k := ⟨_, rfl⟩
    rcases (show k = 0 ∨ k = 1 ∨ k = 2 ∨ k = 3 ∨ k = 4 ∨ k = 5 ∨ k = 6 ∨ k = 7 ∨ k = 8 ∨ k = 9 ∨ k = 10 ∨ k = 11 ∨ k = 12 ∨ k = 13 ∨ k = 14 ∨ k = 15 ∨ k = 16 ∨ k = 17 ∨ k = 18 ∨ k = 19 ∨ k = 20 ∨ k = 21 by omega) with rfl | rfl | rfl | rfl | rfl | rfl | rfl | rfl | rfl | rfl | rfl | rfl | rfl | rfl | rfl | rfl | rfl | rfl | rfl | rfl | rfl | rfl
    · exact V_tableIn F (off := 104) (tgt := 136) dL_law_32 (by omega) (by omega) (by rw [hk]; rfl) (by decide) (lw_case0 F hX hbl hbA hL (by omega) hI hM hend)
    · exact V_tableIn F (off := 127) (tgt := 159) dL_law_32 (by omega) (by omega) (by rw [hk]; rfl) (by decide) (lw_case1 F hX hbl hbA hL (by omega) hI hM hend)
    · exact V_tableIn F (off := 170) (tgt := 202) dL_law_32 (by omega) (by omega) (by rw [hk]; rfl) (by decide) (lw_case2 F hX hbl hbA hL (by omega) hI hM hend)
    · exact V_tableIn F (off := 203) (tgt := 235) dL_law_32 (by omega) (by omega) (by rw [hk]; rfl) (by decide) (lw_case3 F hX hbl hbA hL (by omega) hI hM hend)
    · exact V_tableIn F (off := 246) (tgt := 278) dL_law_32 (by omega) (by omega) (by rw [hk]; rfl) (by decide) (lw_case4 F hX hbl hbA hL (by omega) hI hM hend)
    · exact V_tableIn F (off := 279) (tgt := 311) dL_law_32 (by omega) (by omega) (by rw [hk]; rfl) (by decide) (lw_case5 F hX hbl hbA hL (by omega) hI hM hend)
    · exact V_tableIn F (off := 292) (tgt := 324) dL_law_32 (by omega) (by omega) (by rw [hk]; rfl) (by decide) (lw_case6 F hX hbl hbA hL (by omega) hI hM hend)
    · exact V_tableIn F (off := 305) (tgt := 337) dL_law_32 (by omega) (by omega) (by rw [hk]; rfl) (by decide) (lw_case7 F hX hbl hbA hL (by omega) hI hM hend)
    · exact V_tableIn F (off := 328) (tgt := 360) dL_law_32 (by omega) (by omega) (by rw [hk]; rfl) (by decide) (lw_case8 F hX hbl hbA hL (by omega) hI hM hend)
    · exact V_tableIn F (off := 361) (tgt := 393) dL_law_32 (by omega) (by omega) (by rw [hk]; rfl) (by decide) (lw_case9 F hX hbl hbA hL (by omega) hI hM hend)
    · exact V_tableIn F (off := 384) (tgt := 416) dL_law_32 (by omega) (by omega) (by rw [hk]; rfl) (by decide) (lw_case10 F hX hbl hbA hL (by omega) hI hM hend)
    · exact V_tableIn F (off := 407) (tgt := 439) dL_law_32 (by omega) (by omega) (by rw [hk]; rfl) (by decide) (lw_case11 F hX hbl hbA hL (by omega) hI hM hend)
    · exact V_tableIn F (off := 430) (tgt := 462) dL_law_32 (by omega) (by omega) (by rw [hk]; rfl) (by decide) (lw_case12 F hX hbl hbA hL (by omega) hI hM hend)
    · exact V_tableIn F (off := 463) (tgt := 495) dL_law_32 (by omega) (by omega) (by rw [hk]; rfl) (by decide) (lw_case13 F hX hbl hbA hL (by omega) hI hM hend)
    · exact V_tableIn F (off := 486) (tgt := 518) dL_law_32 (by omega) (by omega) (by rw [hk]; rfl) (by decide) (lw_case14 F hX hbl hbA hL (by omega) hI hM hend)
    · exact V_tableIn F (off := 519) (tgt := 551) dL_law_32 (by omega) (by omega) (by rw [hk]; rfl) (by decide) (lw_case15 F hX hbl hbA hL (by omega) hI hM hend)
    · exact V_tableIn F (off := 552) (tgt := 584) dL_law_32 (by omega) (by omega) (by rw [hk]; rfl) (by decide) (lw_case16 F hX hbl hbA hL (by omega) hI hM hend)
    · exact V_tableIn F (off := 585) (tgt := 617) dL_law_32 (by omega) (by omega) (by rw [hk]; rfl) (by decide) (lw_case17 F hX hbl hbA hL (by omega) hI hM hend)
    · exact V_tableIn F (off := 628) (tgt := 660) dL_law_32 (by omega) (by omega) (by rw [hk]; rfl) (by decide) (lw_case18 F hX hbl hbA hL (by omega) hI hM hend)
    · exact V_tableIn F (off := 671) (tgt := 703) dL_law_32 (by omega) (by omega) (by rw [hk]; rfl) (by decide) (lw_case19 F hX hbl hbA hL (by omega) hI hM hend)
    · exact V_tableIn F (off := 714) (tgt := 746) dL_law_32 (by omega) (by omega) (by rw [hk]; rfl) (by decide) (lw_case20 F hX hbl hbA hL (by omega) hI hM hend)
    · exact V_tableIn F (off := 747) (tgt := 779) dL_law_32 (by omega) (by omega) (by rw [hk]; rfl) (by decide) (lw_case21 F hX hbl hbA hL (by omega) hI hM hend)
end LOOP
