section LAWM
variable {T : Tb} {n : Nat}
theorem bT_at (T : Tb) (n k x y p q : Nat) : bT T n k x y p q 0 n = k ∧ bT T n k x y p q 1 n = x ∧ bT T n k x y p q 2 n = y ∧ bT T n k x y p q 3 n = p ∧ bT T n k x y p q 4 n = q ∧ bT T n k x y p q 5 n = bD T k p q ∧ bT T n k x y p q 6 n = bB T k p q ∧ bT T n k x y p q 7 n = bN T k x y p q ∧ bT T n k x y p q 8 n = bL T k p q := by
  simp [bT]
theorem WF.zero (hW : WF T n) : T 0 0 = 0 ∧ T 5 0 = 0 ∧ T 6 0 = 0 ∧ T 7 0 = 0 := by
  obtain ⟨-, ⟨h0, -, -, -, -, h5, h6, h7, -⟩, -⟩ := hW
  exact ⟨h0, h5, h6, h7⟩
/-- a closed process, and what the law's row says of it -/
def PI (T : Tb) (n : Nat) (μ : Mem) (p : Nat) : Prop := p < n ∧ T 7 p = 0 ∧ ∃ v, v < 2 ^ 31 ∧ μ.1 16 p = nI v ∧ v / 64 = T 5 p
theorem PI.step {μ μ' : Mem} {p n' : Nat} {T' : Tb} (h : PI T n μ p) (hT : ∀ f, T' f p = T f p) (hn : p < n') (hs : sameM μ μ') : PI T' n' μ' p := by
  obtain ⟨h1, h2, v, h3, h4, h5⟩ := h
  exact ⟨hn, by rw [hT]; exact h2, v, h3, by rw [hs 16 (by omega)]; exact h4, by rw [hT]; exact h5⟩
/-- two matches of the same process -/
theorem mat2 {x y p : Nat} (hW : WF T n) (hW2 : WF (bT (bT T n 4 x x p 0) (n + 1) 4 x y p 0) (n + 2)) (hx : x < 3) (hy : y < 3) (hne : x ≠ y) (hp : p < n) (h7 : T 7 p = 0) :
    (∀ rel, rnd (bT (bT T n 4 x x p 0) (n + 1) 4 x y p 0) rel p n = 4) ∧ (∀ rel, rnd (bT (bT T n 4 x x p 0) (n + 1) 4 x y p 0) rel 0 (n + 1) = 4) ∧
    bT (bT T n 4 x x p 0) (n + 1) 4 x y p 0 7 n = 0 ∧ bT (bT T n 4 x x p 0) (n + 1) 4 x y p 0 7 (n + 1) = 0 ∧ bT (bT T n 4 x x p 0) (n + 1) 4 x y p 0 8 n = bT (bT T n 4 x x p 0) (n + 1) 4 x y p 0 8 p + 5 ∧
    ∀ f j, j < n → bT (bT T n 4 x x p 0) (n + 1) 4 x y p 0 f j = T f j := by
  have hold : ∀ f j, j < n → bT (bT T n 4 x x p 0) (n + 1) 4 x y p 0 f j = T f j := fun f j hj => by rw [bT_old (by omega), bT_old (by omega)]
  obtain ⟨a0, a1, a2, a3, a4, a5, a6, a7, a8⟩ := bT_at T n 4 x x p 0
  obtain ⟨b0, b1, b2, b3, b4, b5, b6, b7, b8⟩ := bT_at (bT T n 4 x x p 0) (n + 1) 4 x y p 0
  obtain ⟨z0, z5, z6, z7⟩ := hW.zero
  have hn0 := hW.1.1
  have e : ∀ f, bT (bT T n 4 x x p 0) (n + 1) 4 x y p 0 f n = bT T n 4 x x p 0 f n := fun f => bT_old (by omega)
  have m1 : mvs (bT (bT T n 4 x x p 0) (n + 1) 4 x y p 0) n [] = mvs (bT (bT T n 4 x x p 0) (n + 1) 4 x y p 0) p [] := by
    rw [mvs_mat hW2 (show n < n + 2 by omega) (by rw [e, a0]) [] (by rw [e, e, a1, a2]), e, a3]
  have m2 : mvs (bT (bT T n 4 x x p 0) (n + 1) 4 x y p 0) (n + 1) [] = [] := mvs_mat0 hW2 (show n + 1 < n + 2 by omega) b0 [] (by rw [b1, b2, vl_lo _ hx, vl_lo _ hy]; exact hne)
  refine ⟨fun rel => rnd_same rel (fun a ha => by rw [m1]; exact ha) (fun a ha => by rw [← m1]; exact ha), fun rel => rnd_same rel (fun a ha => by rw [mvs_zero hW2] at ha; cases ha) (fun a ha => by rw [m2] at ha; cases ha), ?_, ?_, ?_, hold⟩
  · rw [e, a7]; unfold bN; rw [if_neg (by omega)]; omega
  · rw [b7]; unfold bN; rw [if_neg (by omega), bT_old (show p ≠ n by omega), bT_old (show 0 ≠ n by omega)]; omega
  · rw [e, a8, hold 8 p hp]; unfold bL; rw [if_neg (by omega)]; simp only [hdl]; omega
/-- a sum with nothing -/
theorem sum0 {p : Nat} (hW : WF T n) (hW2 : WF (bT T n 5 0 0 p 0) (n + 1)) (hp : p < n) (h7 : T 7 p = 0) :
    (∀ rel, rnd (bT T n 5 0 0 p 0) rel p n = 4) ∧ bT T n 5 0 0 p 0 7 n = 0 ∧ mvs (bT T n 5 0 0 p 0) n [] = mvs (bT T n 5 0 0 p 0) p [] := by
  obtain ⟨a0, a1, a2, a3, a4, a5, a6, a7, a8⟩ := bT_at T n 5 0 0 p 0
  obtain ⟨z0, z5, z6, z7⟩ := hW.zero
  have m1 : mvs (bT T n 5 0 0 p 0) n [] = mvs (bT T n 5 0 0 p 0) p [] := by
    rw [mvs_sum hW2 (show n < n + 1 by omega) a0, a3, a4, mvs_zero hW2, List.append_nil]
  refine ⟨fun rel => rnd_same rel (fun a ha => by rw [m1]; exact ha) (fun a ha => by rw [← m1]; exact ha), ?_, m1⟩
  rw [a7]; unfold bN; rw [if_neg (by omega)]; omega
/-- a sum in both orders -/
theorem sum2 {p q : Nat} (hW : WF T n) (hW2 : WF (bT (bT T n 5 0 0 p q) (n + 1) 5 0 0 q p) (n + 2)) (hp : p < n) (hq : q < n) (h7p : T 7 p = 0) (h7q : T 7 q = 0) :
    (∀ rel, rnd (bT (bT T n 5 0 0 p q) (n + 1) 5 0 0 q p) rel n (n + 1) = 4) ∧ bT (bT T n 5 0 0 p q) (n + 1) 5 0 0 q p 7 n = 0 ∧ bT (bT T n 5 0 0 p q) (n + 1) 5 0 0 q p 7 (n + 1) = 0 ∧
    mvs (bT (bT T n 5 0 0 p q) (n + 1) 5 0 0 q p) n [] = mvs (bT (bT T n 5 0 0 p q) (n + 1) 5 0 0 q p) p [] ++ mvs (bT (bT T n 5 0 0 p q) (n + 1) 5 0 0 q p) q [] ∧
    (∀ rel, rnd (bT (bT T n 5 0 0 p q) (n + 1) 5 0 0 q p) rel p q = 4 → rnd (bT (bT T n 5 0 0 p q) (n + 1) 5 0 0 q p) rel n p = 4) ∧
    ∀ f j, j < n → bT (bT T n 5 0 0 p q) (n + 1) 5 0 0 q p f j = T f j := by
  have hold : ∀ f j, j < n → bT (bT T n 5 0 0 p q) (n + 1) 5 0 0 q p f j = T f j := fun f j hj => by rw [bT_old (by omega), bT_old (by omega)]
  obtain ⟨a0, a1, a2, a3, a4, a5, a6, a7, a8⟩ := bT_at T n 5 0 0 p q
  obtain ⟨b0, b1, b2, b3, b4, b5, b6, b7, b8⟩ := bT_at (bT T n 5 0 0 p q) (n + 1) 5 0 0 q p
  have e : ∀ f, bT (bT T n 5 0 0 p q) (n + 1) 5 0 0 q p f n = bT T n 5 0 0 p q f n := fun f => bT_old (by omega)
  have m1 : mvs (bT (bT T n 5 0 0 p q) (n + 1) 5 0 0 q p) n [] = mvs (bT (bT T n 5 0 0 p q) (n + 1) 5 0 0 q p) p [] ++ mvs (bT (bT T n 5 0 0 p q) (n + 1) 5 0 0 q p) q [] := by
    rw [mvs_sum hW2 (show n < n + 2 by omega) (by rw [e, a0]), e, e, a3, a4]
  have m2 : mvs (bT (bT T n 5 0 0 p q) (n + 1) 5 0 0 q p) (n + 1) [] = mvs (bT (bT T n 5 0 0 p q) (n + 1) 5 0 0 q p) q [] ++ mvs (bT (bT T n 5 0 0 p q) (n + 1) 5 0 0 q p) p [] := by
    rw [mvs_sum hW2 (show n + 1 < n + 2 by omega) b0, b3, b4]
  refine ⟨fun rel => rnd_same rel (fun a ha => ?_) (fun a ha => ?_), ?_, ?_, m1, fun rel hr => rnd_absorb rel (fun a => by rw [m1, List.mem_append]) hr, hold⟩
  · rw [m1, List.mem_append] at ha
    rw [m2, List.mem_append]
    exact ha.symm
  · rw [m2, List.mem_append] at ha
    rw [m1, List.mem_append]
    exact ha.symm
  · rw [e, a7]; unfold bN; rw [if_neg (by omega)]; omega
  · rw [b7]; unfold bN; rw [if_neg (by omega), bT_old (show p ≠ n by omega), bT_old (show q ≠ n by omega)]; omega
/-- two prefixes -/
theorem pfx2 {k x z p q : Nat} (hW : WF T n) (hW2 : WF (bT (bT T n k x z p 0) (n + 1) k x z q 0) (n + 2)) (hk1 : 1 ≤ k) (hk : k ≤ 3) (hx : x < 3) (hz : z < 3) (hp : p < n) (hq : q < n) (h7p : T 7 p = 0) (h7q : T 7 q = 0) (h5p : T 5 p ≤ 2) (h5q : T 5 q ≤ 2) (rel : Nat) :
    rnd (bT (bT T n k x z p 0) (n + 1) k x z q 0) rel n (n + 1) = (if rnd T rel p q = 4 then 4 else rnd T rel p q + 1) ∧
    (k ≠ 3 → rnd T rel p q ≠ 4 → atkR (bT (bT T n k x z p 0) (n + 1) k x z q 0) rel n (n + 1) = nI 9) ∧
    bT (bT T n k x z p 0) (n + 1) k x z q 0 7 n = 0 ∧ bT (bT T n k x z p 0) (n + 1) k x z q 0 7 (n + 1) = 0 ∧ bT (bT T n k x z p 0) (n + 1) k x z q 0 5 (n + 1) = T 5 q + 1 ∧
    (∀ f j, j < n → bT (bT T n k x z p 0) (n + 1) k x z q 0 f j = T f j) ∧ rnd (bT (bT T n k x z p 0) (n + 1) k x z q 0) rel p q = rnd T rel p q := by
  have hold : ∀ f j, j < n → bT (bT T n k x z p 0) (n + 1) k x z q 0 f j = T f j := fun f j hj => by rw [bT_old (by omega), bT_old (by omega)]
  obtain ⟨a0, a1, a2, a3, a4, a5, a6, a7, a8⟩ := bT_at T n k x z p 0
  obtain ⟨b0, b1, b2, b3, b4, b5, b6, b7, b8⟩ := bT_at (bT T n k x z p 0) (n + 1) k x z q 0
  obtain ⟨z0, z5, z6, z7⟩ := hW.zero
  have hn0 := hW.1.1
  have e : ∀ f, bT (bT T n k x z p 0) (n + 1) k x z q 0 f n = bT T n k x z p 0 f n := fun f => bT_old (by omega)
  have hc : rnd (bT (bT T n k x z p 0) (n + 1) k x z q 0) rel p q = rnd T rel p q := rnd_congr hW hW2 (by omega) hold rel hp hq
  have hX : Pfx (bT (bT T n k x z p 0) (n + 1) k x z q 0) (n + 2) n (n + 1) := by
    refine ⟨by omega, by omega, ?_, ?_, ?_, ?_, ?_, ?_, ?_⟩
    · rw [e, a0]; exact hk1
    · rw [e, a0]; exact hk
    · rw [e, a0, b0]
    · rw [e, a1, b1]
    · rw [e, a2, b2]
    · rw [e, a3, hold 7 p hp]; exact h7p
    · rw [b3, hold 7 q hq]; exact h7q
  have g5a : bT (bT T n k x z p 0) (n + 1) k x z q 0 5 (bT (bT T n k x z p 0) (n + 1) k x z q 0 3 n) ≤ 2 := by rw [e, a3, hold 5 p hp]; exact h5p
  have g5b : bT (bT T n k x z p 0) (n + 1) k x z q 0 5 (bT (bT T n k x z p 0) (n + 1) k x z q 0 3 (n + 1)) ≤ 2 := by rw [b3, hold 5 q hq]; exact h5q
  refine ⟨?_, fun h3 hr => ?_, ?_, ?_, ?_, hold, hc⟩
  · have h := Pfx_rnd hW2 hX rel g5a g5b
    rw [e 3, a3, b3, hc] at h
    exact h
  · refine Pfx_atk hW2 hX rel (by rw [e, a0]; exact h3) g5a g5b ?_
    rw [e 3, a3, b3, hc]
    exact hr
  · rw [e, a7]; unfold bN; omega
  · rw [b7]; unfold bN; rw [bT_old (show q ≠ n by omega), bT_old (show 0 ≠ n by omega)]; omega
  · rw [b5]; unfold bD; rw [if_pos hk, bT_old (show q ≠ n by omega), bT_old (show 0 ≠ n by omega)]; omega
theorem fit_act {k p : Nat} (hW : WF T n) (hk : k ≤ 3) (hn : n < 24) (h5 : T 5 p ≤ 2) : bFit T n k p 0 := by
  obtain ⟨z0, z5, z6, z7⟩ := hW.zero
  refine ⟨hn, ?_, ?_⟩
  · unfold bD; rw [if_pos hk]; omega
  · unfold bB; rw [if_pos hk]; omega
theorem fit_mat {p : Nat} (hW : WF T n) (hn : n < 24) (hp : p < n) : bFit T n 4 p 0 := by
  obtain ⟨z0, z5, z6, z7⟩ := hW.zero
  have := hW.depth hp
  refine ⟨hn, ?_, ?_⟩
  · unfold bD; rw [if_neg (by omega)]; omega
  · unfold bB; rw [if_neg (by omega)]; omega
theorem fit_sum0 {p : Nat} (hW : WF T n) (hn : n < 24) (hp : p < n) : bFit T n 5 p 0 := by
  obtain ⟨z0, z5, z6, z7⟩ := hW.zero
  have := hW.depth hp
  refine ⟨hn, ?_, ?_⟩
  · unfold bD; rw [if_neg (by omega)]; omega
  · unfold bB; rw [if_neg (by omega)]; omega
theorem fit_sum2 {p q : Nat} (hn : n + 1 < 24) (hp : p < n) (hq : q < n) (hf : bFit T n 5 p q) : bFit (bT T n 5 0 0 p q) (n + 1) 5 q p := by
  obtain ⟨h1, h2, h3⟩ := hf
  unfold bD at h2
  unfold bB at h3
  rw [if_neg (by omega)] at h2 h3
  refine ⟨hn, ?_, ?_⟩
  · unfold bD; rw [if_neg (by omega), bT_old (show p ≠ n by omega), bT_old (show q ≠ n by omega)]; omega
  · unfold bB; rw [if_neg (by omega), bT_old (show p ≠ n by omega), bT_old (show q ≠ n by omega)]; omega
theorem rq_less {μ μ' : Mem} {r : Option Value} (h : RQ T (n + 1) μ r μ') (hn : 0 < n) : r = some (.int (nI n)) ∧ XInv T n μ' ∧ sameM μ μ' := by
  rcases h with h | h
  · exact absurd h.1 (by omega)
  · exact h.2
end LAWM

