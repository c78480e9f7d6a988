section LAW
/-- the first memory: no process but 0 -/
def μi : Mem := (fun c => match c with | 1 => upd z32 0 (nI 1) | 11 => upd z32 0 (nI 1) | 15 => upd z32 0 (nI 1) | 24 => upd z32 0 (nI 1) | _ => z32, z64)
def Ti : Tb := fun f p => if f = 8 ∧ p = 0 then 1 else 0
theorem wf_i : WF Ti 1 := ⟨⟨by omega, by omega⟩, by decide, fun p h1 h2 => by omega⟩
theorem fld_i : ∀ f, f < 9 → μi.1 (3 + f) 0 = nI (Ti f 0) ∧ μi.1 (16 + f) 0 = nI (Ti f 0) := by decide +kernel
theorem xi : XInv Ti 1 μi := by
  refine ⟨⟨wf_i, by decide +kernel, fun f p hf hp => ?_, fun p t a hp ha => ?_⟩, fun hi lo rel view _ _ _ _ => Or.inl rfl⟩
  · obtain rfl : p = 0 := by omega
    exact (fld_i f hf).1
  · obtain rfl : p = 0 := by omega
    have e : acts Ti 0 = [] := by decide +kernel
    rw [e] at ha
    simp at ha
theorem mi_i : MInv Ti 1 μi := by
  refine ⟨wf_i, by decide +kernel, fun f p hf hp => ?_⟩
  obtain rfl : p = 0 := by omega
  exact (fld_i f hf).2
theorem wS_fst (cT : ClassId × ClassId) (α : Nat → Nat) (μ : Mem) : (wS cT α μ).map Prod.fst = (List.range 33).map α := rfl
theorem wS_at {cT : ClassId × ClassId} {α : Nat → Nat} {μ : Mem} {k : Nat} {q : Nat × va_E} (h : (wS cT α μ)[k]? = some q) : k < 33 ∧ q.1 = α k := by
  have hl : k < (wS cT α μ).length := (List.getElem?_eq_some_iff.mp h).1
  have hk : k < 33 := hl
  have h1 : ((wS cT α μ).map Prod.fst)[k]? = some q.1 := by rw [List.getElem?_map, h]; rfl
  rw [wS_fst, List.getElem?_map, List.getElem?_range hk] at h1
  exact ⟨hk, (Option.some.inj h1).symm⟩
theorem wS_ex (cT : ClassId × ClassId) (α : Nat → Nat) (μ : Mem) {k : Nat} (hk : k < 33) : ∃ q, (wS cT α μ)[k]? = some q ∧ q.1 = α k := by
  have hl : k < (wS cT α μ).length := hk
  exact ⟨_, List.getElem?_eq_getElem hl, (wS_at (List.getElem?_eq_getElem hl)).2⟩
theorem wS_D {A : Nat → Prop} {cT : ClassId × ClassId} {α : Nat → Nat} {μ₀ : Mem} (h : va_D A (wS cT α μ₀)) (μ : Mem) : va_D (AS α) (wS cT α μ) := by
  refine ⟨fun i j x y hx hy e => ?_, fun k q hk => ⟨k, (wS_at hk).1, (wS_at hk).2⟩⟩
  obtain ⟨x', hx1, hx2⟩ := wS_ex cT α μ₀ (wS_at hx).1
  obtain ⟨y', hy1, hy2⟩ := wS_ex cT α μ₀ (wS_at hy).1
  exact h.1 i j x' y' hx1 hy1 (by rw [hx2, hy2, ← (wS_at hx).2, ← (wS_at hy).2]; exact e)
theorem AS_D {A : Nat → Prop} {cT : ClassId × ClassId} {α : Nat → Nat} {μ₀ : Mem} (h : va_D A (wS cT α μ₀)) {q : Nat} (hq : AS α q) : A q := by
  obtain ⟨k, hk, rfl⟩ := hq
  obtain ⟨x, h1, h2⟩ := wS_ex cT α μ₀ hk
  rw [← h2]
  exact h.2 k x h1
/-- from the list of new cells to the world of 33 -/
theorem V_toGS {κ : Kp} {ws : va_W} {α : Nat → Nat} {p : Program} {l : Launch} {e : Env} {R : Room} {s : State} {m : MethodId} {args : Array Value} {below : List Frame} {meth : Method} {c : Code} {nL k n k' n' pc : Nat} {Z : State → Prop} {lv : List (Option Value)} {st : List Value} {μ μ₀ : Mem} (is : List Nat) (hs : is.filterMap (fun i => ws[i]?) = wS κ.2.1 α μ₀) (hk : k ≤ k') (hn : n ≤ n')
    (kk : V (GS (α, κ)) p l e R s m args below meth c nL k' n' Z pc lv st μ₀) : V (Gc κ s.heap.size ws) p l e R s m args below meth c nL k n Z pc lv st μ := by
  intro H locs ls hP hS hl
  refine va_forget (fun q hq => hS.2.2 q hq) (W.widen hk hn (kk H [] ls (va_P.sub hP is hs) ⟨hS.1, fun q h1 h2 => hS.2.1 q h1 (fun h3 => absurd h1 (Nat.not_lt.mpr h3)), fun _ h => by cases h⟩ hl))
set_option maxHeartbeats 2000000 in
/-- YOUR PART: from the entry, for every script of at most 2048 ints, the law comes to its end with true -/
theorem whole_start {p : Program} {e : Env} {s : State} {m : MethodId} {below : List Frame} {meth : Method} {c : Code} (l : Launch) (hflags : l.flags = flags0) {b L : Nat} {xs : Nat → Int32} (hL : L ≤ 2048) (C0 : lw_At p s m meth c b L xs) : W p l e room_1 s m #[Value.ref b] below meth c s.heap [] 0 0 (lw_Z below #[Value.ref b] s) (entryFrame m ([Value.ref b] : List Value).toArray 4) := by
  obtain ⟨κ, hSt⟩ := law_entry C0
  obtain ⟨hx, hb, hr, hml, hown, hts, hX, hbl, hlk, hgv⟩ := C0
  have hG : ∀ w ∈ wsG, w.before #[Value.ref b] s = true := fun w hw => hts w (wsG_in hw)
  have hD0 : va_D (fun q => s.heap.size ≤ q) ([] : va_W) := ⟨fun i j x y hx => by simp at hx, fun k q hk => by simp at hk⟩
  have hN : s.heap.size ≤ s.heap.size := Nat.le_refl _
  have F : Fx (Gc κ s.heap.size []) p room_1 s m #[Value.ref b] meth c RL cL_law 4 ret 0 0 := ⟨hx, hb, hr, hlk, hml, hown, hG, hSt _ _ (fun q h => h) (fun _ => hD0), Nat.zero_le _, Nat.zero_le _⟩
  have F0 := F
  have hl := lv_entry [Value.ref b] (n := 4) (Nat.le_of_ble_eq_true rfl)
  rw [lg_entry_eq]
  suffices key : V (Gc κ s.heap.size []) p l e room_1 s m #[Value.ref b] below meth c 4 0 0 (lw_Z below #[Value.ref b] s) 0 [some (.ref b), none, none, none] [] μi from
    key s.heap [] _ (fun k q hk => by have h2 : ([] : va_W)[k]? = some q := hk; simp at h2) va_S.rf hl
  refine Vc_new hN F (ci := 2) (fs := [.null, .null]) dL_law_0 ig_X3 tyX3 tyX3_ok lk_L_7 mk_X3 mt_X3 rfl (by decide +kernel) ⟨Nat.le_of_ble_eq_true rfl, Nat.le_of_ble_eq_true rfl⟩ (fun a F => ?_)
  refine V_dup F dL_law_3 rfl ?_
  refine Vc_callI hN F (k_NPC (a := a)) mi_X3_init rfl mn_X3_init lk_L_9 dL_law_4 ⟨Nat.le_of_ble_eq_true rfl, Nat.le_of_ble_eq_true rfl⟩ ⟨Nat.le_of_ble_eq_true rfl, Nat.le_of_ble_eq_true rfl⟩ rfl rfl (by decide) (Nat.le_of_ble_eq_true rfl) (fun r w1 h F => ?_)
  obtain ⟨rfl, t, u, q0, q1, q2, q3, q4, q5, q6, q7, q8, q9, q10, q11, rfl⟩ := h
  refine V_astore_n F (lv' := [some (.ref b), some (.ref a), none, none]) dL_law_7 (by decide) rfl rfl ?_
  refine Vc_new hN F (ci := 3) (fs := [.int 0, .null, .null, .null, .null, .null, .null, .null, .null, .null, .null, .null, .null, .null, .null, .null, .null, .null, .int 0]) dL_law_8 ig_X4 tyX4 tyX4_ok lk_L_10 mk_X4 mt_X4 rfl (by decide +kernel) ⟨Nat.le_of_ble_eq_true rfl, Nat.le_of_ble_eq_true rfl⟩ (fun a4 F => ?_)
  refine V_dup F dL_law_11 rfl ?_
  refine Vc_callI hN F (k_Model (a := a4)) mi_X4_init rfl mn_X4_init lk_L_12 dL_law_12 ⟨Nat.le_of_ble_eq_true rfl, Nat.le_of_ble_eq_true rfl⟩ ⟨Nat.le_of_ble_eq_true rfl, Nat.le_of_ble_eq_true rfl⟩ rfl rfl (by decide) (Nat.le_of_ble_eq_true rfl) (fun r w1 h F => ?_)
  obtain ⟨rfl, m0, m1, m2, m3, m4, m5, m6, m7, m8, m9, m10, m11, m12, m13, m14, m15, m16, rfl⟩ := h
  refine V_astore_n F (lv' := [some (.ref b), some (.ref a), some (.ref a4), none]) dL_law_15 (by decide) rfl rfl ?_
  refine V_iconst F (v := nI 0) dL_law_16 (by decide) ?_
  refine V_istore_n F (lv' := [some (.ref b), some (.ref a), some (.ref a4), some (.int (nI 0))]) dL_law_17 (by decide) rfl rfl ?_
  have hD1 := F.2.2.2.2.2.2.2.1.2.1 μi
  have hD2 := va_D.sub (ws' := wS κ.2.1 (fun k => ([a, t, u, q0, q1, q2, q3, q4, q5, q6, q7, q8, q9, q10, q11, a4, m0, m1, m2, m3, m4, m5, m6, m7, m8, m9, m10, m11, m12, m13, m14, m15, m16] : List Nat).getD k 0) μi) hD1 [32, 31, 19, 30, 29, 28, 27, 26, 25, 24, 23, 22, 21, 20, 18, 17, 16, 15, 14, 13, 12, 11, 10, 9, 8, 7, 6, 5, 4, 3, 2, 1, 0] (by decide +kernel) rfl
  refine V_toGS (α := fun k => ([a, t, u, q0, q1, q2, q3, q4, q5, q6, q7, q8, q9, q10, q11, a4, m0, m1, m2, m3, m4, m5, m6, m7, m8, m9, m10, m11, m12, m13, m14, m15, m16] : List Nat).getD k 0) (μ₀ := μi) (k' := 600000) (n' := 7302250) [32, 31, 19, 30, 29, 28, 27, 26, 25, 24, 23, 22, 21, 20, 18, 17, 16, 15, 14, 13, 12, 11, 10, 9, 8, 7, 6, 5, 4, 3, 2, 1, 0] rfl (Nat.le_of_ble_eq_true rfl) (Nat.le_of_ble_eq_true rfl) ?_
  have hA : ∀ q, AS (fun k => ([a, t, u, q0, q1, q2, q3, q4, q5, q6, q7, q8, q9, q10, q11, a4, m0, m1, m2, m3, m4, m5, m6, m7, m8, m9, m10, m11, m12, m13, m14, m15, m16] : List Nat).getD k 0) q → s.heap.size ≤ q := fun q hq => AS_D hD2 hq
  have FG : Fx (GS ((fun k => ([a, t, u, q0, q1, q2, q3, q4, q5, q6, q7, q8, q9, q10, q11, a4, m0, m1, m2, m3, m4, m5, m6, m7, m8, m9, m10, m11, m12, m13, m14, m15, m16] : List Nat).getD k 0), κ)) p room_1 s m #[Value.ref b] meth c RL cL_law 4 ret 600000 7302250 := ⟨hx, hb, hr, hlk, hml, hown, hG, hSt _ _ hA (wS_D hD2), Nat.le_refl _, Nat.le_refl _⟩
  exact lw_loop FG hX hbl (fun h => absurd hbl (Nat.not_lt.mpr (hA b h))) hL hA 600 0 (by omega) (by omega) Ti 1 μi xi mi_i
end LAW
