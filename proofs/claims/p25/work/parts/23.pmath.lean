section PMATH
variable {T : Tb} {n : Nat}
/-- a move of the other state answers itself -/
theorem hld_self (rel k v : Nat) {a q : Nat} {l : List Nat} (ha : a ∈ mvs T q l) : hld T rel k a v q l = false := by
  unfold hld
  rw [List.all_eq_false]
  refine ⟨a, ha, ?_⟩
  rw [agr_refl]
  simp only [flw, Bool.not_true, Bool.false_or, Bool.not_eq_true, List.any_eq_false]
  intro l' _
  rw [win_refl]
theorem sid_sub (rel k p q : Nat) (l : List Nat) (h : ∀ a ∈ mvs T p l, a ∈ mvs T q l) : sid T rel k p q l = false := by
  unfold sid
  rw [List.any_eq_false]
  intro a ha
  rw [Bool.not_eq_true, List.any_eq_false]
  intro v hv
  rw [Bool.not_eq_true]
  exact hld_self rel k v (h a ha)
theorem win3_eq (rel p q : Nat) (l : List Nat) : win T rel 3 p q l = (sid T rel 2 p q l || sid T rel 2 q p l) := rfl
theorem rnd4 (rel p q : Nat) : rnd T rel p q = 4 ↔ win T rel 3 p q [] = false := by
  have h3 : rnd T rel p q ≤ 3 ↔ win T rel 3 p q [] = true := (rnd_Sp (T := T) rel p q).2 3 (by omega)
  have hl := rnd_le (T := T) rel p q
  rw [Bool.eq_false_iff, Ne, ← h3]
  omega
theorem rnd_same (rel : Nat) {p q : Nat} (h1 : ∀ a ∈ mvs T p [], a ∈ mvs T q []) (h2 : ∀ a ∈ mvs T q [], a ∈ mvs T p []) : rnd T rel p q = 4 := by
  rw [rnd4, win3_eq, sid_sub _ _ _ _ _ h1, sid_sub _ _ _ _ _ h2]
  rfl
theorem rnd_absorb (rel : Nat) {p q o : Nat} (ho : ∀ a, a ∈ mvs T o [] ↔ a ∈ mvs T p [] ∨ a ∈ mvs T q []) (h : rnd T rel p q = 4) : rnd T rel o p = 4 := by
  rw [rnd4, win3_eq, Bool.or_eq_false_iff] at h ⊢
  refine ⟨?_, sid_sub _ _ _ _ _ (fun a ha => (ho a).mpr (Or.inl ha))⟩
  have h2 := h.2
  unfold sid at h2 ⊢
  rw [List.any_eq_false] at h2 ⊢
  intro a ha
  rcases (ho a).mp ha with h3 | h3
  · rw [Bool.not_eq_true, List.any_eq_false]
    intro v hv
    rw [Bool.not_eq_true]
    exact hld_self _ _ _ h3
  · exact h2 a h3
/-- the moves of what is built -/
theorem mvs_zero (hW : WF T n) (l : List Nat) : mvs T 0 l = [] := by
  unfold mvs
  rw [acts_eq hW (show 0 < n from hW.1.1), if_pos hW.2.1.1]
  rfl
theorem mvs_act (hW : WF T n) {p : Nat} (hp : p < n) (h1 : 1 ≤ T 0 p) (h3 : T 0 p ≤ 3) (l : List Nat) : mvs T p l = [p] := by
  unfold mvs
  rw [acts_eq hW hp, if_neg (by omega), if_pos h3]
  rfl
theorem openb_cons (l : List Nat) (x y : Nat) (gs : List (Nat × Nat)) : openb l ((x, y) :: gs) = ((vl l x == vl l y) && openb l gs) := rfl
theorem mvs_mat (hW : WF T n) {p : Nat} (hp : p < n) (hk : T 0 p = 4) (l : List Nat) (h : vl l (T 1 p) = vl l (T 2 p)) : mvs T p l = mvs T (T 3 p) l := by
  unfold mvs
  rw [acts_eq hW hp, if_neg (by omega), if_neg (by omega), if_pos hk, List.filter_map, List.map_map]
  have e : ((fun a : Nat × List (Nat × Nat) => openb l a.2) ∘ fun a : Nat × List (Nat × Nat) => (a.1, (T 1 p, T 2 p) :: a.2)) = fun a => openb l a.2 := by
    funext a
    simp only [Function.comp, openb_cons, h, beq_self_eq_true, Bool.true_and]
  rw [e]
  rfl
theorem mvs_mat0 (hW : WF T n) {p : Nat} (hp : p < n) (hk : T 0 p = 4) (l : List Nat) (h : ¬ vl l (T 1 p) = vl l (T 2 p)) : mvs T p l = [] := by
  unfold mvs
  rw [acts_eq hW hp, if_neg (by omega), if_neg (by omega), if_pos hk, List.filter_map]
  have e : ((fun a : Nat × List (Nat × Nat) => openb l a.2) ∘ fun a : Nat × List (Nat × Nat) => (a.1, (T 1 p, T 2 p) :: a.2)) = fun _ => false := by
    funext a
    have h0 : (vl l (T 1 p) == vl l (T 2 p)) = false := beq_eq_false_iff_ne.mpr h
    simp only [Function.comp, openb_cons, h0, Bool.false_and]
  rw [e]
  simp
theorem mvs_sum (hW : WF T n) {p : Nat} (hp : p < n) (hk : T 0 p = 5) (l : List Nat) : mvs T p l = mvs T (T 3 p) l ++ mvs T (T 4 p) l := by
  unfold mvs
  rw [acts_eq hW hp, if_neg (by omega), if_neg (by omega), if_neg (by omega), List.filter_append, List.map_append]
/-- values alike: the same names are equal -/
def Eqv (d : Nat) (l l' : List Nat) : Prop := ∀ x y, x < 3 + d → y < 3 + d → (vl l x = vl l y ↔ vl l' x = vl l' y)
theorem getD_fr : ∀ (l : List Nat) (k : Nat), l.getD k 0 < fr l := by
  intro l
  induction l with
  | nil => intro k; simp [fr]
  | cons v l ih =>
    intro k
    cases k with
    | zero => simp [fr]; omega
    | succ k =>
      have := ih k
      simp only [fr, List.getD_cons_succ]
      omega
theorem vl_fr (l : List Nat) (x : Nat) : vl l x < fr l := by
  unfold vl
  split
  · have := fr_ge l
    omega
  · exact getD_fr l _
theorem vl_3 (v : Nat) (l : List Nat) : vl (v :: l) 3 = v := rfl
theorem vl_4 (v : Nat) (l : List Nat) {x : Nat} (h : 4 ≤ x) : vl (v :: l) x = vl l (x - 1) := by
  unfold vl
  rw [if_neg (by omega), if_neg (by omega)]
  obtain ⟨k, rfl⟩ : ∃ k, x = k + 4 := ⟨x - 4, by omega⟩
  rw [show k + 4 - 3 = k + 1 by omega, show k + 4 - 1 - 3 = k by omega, List.getD_cons_succ]
theorem vl_lo (l : List Nat) {x : Nat} (h : x < 3) : vl l x = x := if_pos h
/-- behind an input: a name for a name -/
theorem Eqv.ext {d : Nat} {l l' : List Nat} (h : Eqv d l l') (v : Nat) (hv : v ≤ fr l) : ∃ v', v' ≤ fr l' ∧ Eqv (d + 1) (v :: l) (v' :: l') ∧ (v = fr l → v' = fr l') := by
  by_cases hx : ∃ x, x < 3 + d ∧ vl l x = v
  · obtain ⟨x, hx, rfl⟩ := hx
    refine ⟨vl l' x, Nat.le_of_lt (vl_fr l' x), ?_, fun e => absurd (vl_fr l x) (by omega)⟩
    have key : ∀ a, a < 3 + (d + 1) → ∃ b, b < 3 + d ∧ vl (vl l x :: l) a = vl l b ∧ vl (vl l' x :: l') a = vl l' b := by
      intro a ha
      by_cases h3 : a < 3
      · exact ⟨a, by omega, by rw [vl_lo _ h3, vl_lo _ h3], by rw [vl_lo _ h3, vl_lo _ h3]⟩
      · by_cases h4 : a = 3
        · subst h4
          exact ⟨x, hx, rfl, rfl⟩
        · exact ⟨a - 1, by omega, vl_4 _ _ (by omega), vl_4 _ _ (by omega)⟩
    intro a b ha hb
    obtain ⟨i, i1, i2, i3⟩ := key a ha
    obtain ⟨j, j1, j2, j3⟩ := key b hb
    rw [i2, i3, j2, j3]
    exact h i j i1 j1
  · refine ⟨fr l', Nat.le_refl _, ?_, fun _ => rfl⟩
    have key : ∀ a, a < 3 + (d + 1) → a = 3 ∨ ∃ b, b < 3 + d ∧ vl (v :: l) a = vl l b ∧ vl (fr l' :: l') a = vl l' b := by
      intro a ha
      by_cases h3 : a < 3
      · exact Or.inr ⟨a, by omega, by rw [vl_lo _ h3, vl_lo _ h3], by rw [vl_lo _ h3, vl_lo _ h3]⟩
      · by_cases h4 : a = 3
        · exact Or.inl h4
        · exact Or.inr ⟨a - 1, by omega, vl_4 _ _ (by omega), vl_4 _ _ (by omega)⟩
    intro a b ha hb
    rcases key a ha with rfl | ⟨i, i1, i2, i3⟩
    · rcases key b hb with rfl | ⟨j, j1, j2, j3⟩
      · exact ⟨fun _ => rfl, fun _ => rfl⟩
      · rw [vl_3, vl_3, j2, j3]
        exact ⟨fun e => absurd ⟨j, j1, e.symm⟩ hx, fun e => absurd (vl_fr l' j) (by omega)⟩
    · rcases key b hb with rfl | ⟨j, j1, j2, j3⟩
      · rw [vl_3, vl_3, i2, i3]
        exact ⟨fun e => absurd ⟨i, i1, e⟩ hx, fun e => absurd (vl_fr l' i) (by omega)⟩
      · rw [i2, i3, j2, j3]
        exact h i j i1 j1
theorem Eqv_openb {d : Nat} {l l' : List Nat} (h : Eqv d l l') (gs : List (Nat × Nat)) (hg : ∀ q ∈ gs, q.1 < 3 + d ∧ q.2 < 3 + d) : openb l gs = openb l' gs := by
  unfold openb
  refine List.all_congr_of fun q hq => ?_
  obtain ⟨h1, h2⟩ := hg q hq
  rw [Bool.eq_iff_iff, beq_iff_eq, beq_iff_eq]
  exact h _ _ h1 h2
theorem mvs_E (hW : WF T n) {p d : Nat} {l l' : List Nat} (hp : p < n) (h7 : T 7 p ≤ d) (h : Eqv d l l') : mvs T p l = mvs T p l' := by
  unfold mvs
  congr 1
  refine List.filter_congr fun a ha => ?_
  obtain ⟨-, -, -, -, -, -, a7⟩ := acts_mem hW hp a ha
  exact Eqv_openb h a.2 (fun q hq => by have := a7 q hq; omega)
/-- positions with like values are worth the same -/
theorem win_E (hW : WF T n) (rel : Nat) : ∀ (k p q d : Nat) (l l' : List Nat), p < n → q < n → T 7 p ≤ d → T 7 q ≤ d → Eqv d l l' → win T rel k p q l = true → win T rel k p q l' = true := by
  intro k
  induction k with
  | zero => intro p q d l l' _ _ _ _ _ h; cases h
  | succ k ih =>
    have key : ∀ (p q d : Nat) (l l' : List Nat), p < n → q < n → T 7 p ≤ d → T 7 q ≤ d → Eqv d l l' → sid T rel k p q l = true → sid T rel k p q l' = true := by
      intro p q d l l' hp hq h7p h7q hE h
      unfold sid at h ⊢
      obtain ⟨a, ha, h⟩ := List.any_eq_true.mp h
      obtain ⟨v, hv, h⟩ := List.any_eq_true.mp h
      obtain ⟨a1, a2, a3, a4, a5, a6⟩ := mvs_mem hW hp ha
      obtain ⟨n1, n2, c3, c5, c7⟩ := act_facts hW (show a < n by omega) a3 a4
      have go : ∀ v', (∀ b ∈ mvs T q l, agr T l a b = true → flw T rel k a v b l = true → flw T rel k a v' b l' = true) → hld T rel k a v' q l' = true := by
        intro v' hf
        unfold hld at h ⊢
        rw [← mvs_E hW hq h7q hE]
        refine List.all_eq_true.mpr fun b hb => ?_
        have h := List.all_eq_true.mp h b hb
        obtain ⟨b1, b2, b3, b4, b5, b6⟩ := mvs_mem hW hq hb
        obtain ⟨m1, m2, d3, d5, d7⟩ := act_facts hW (show b < n by omega) b3 b4
        have e : agr T l' a b = agr T l a b := by
          unfold agr
          have e1 := hE (T 1 a) (T 1 b) (by omega) (by omega)
          have e2 := hE (T 2 a) (T 2 b) (by omega) (by omega)
          congr 1
          · congr 1
            rw [Bool.eq_iff_iff, beq_iff_eq, beq_iff_eq]
            exact e1.symm
          · rw [Bool.eq_iff_iff, beq_iff_eq, beq_iff_eq]
            exact e2.symm
        rw [e]
        cases hag : agr T l a b with
        | false => rfl
        | true =>
          rw [hag] at h
          simp only [Bool.not_true, Bool.false_or] at h ⊢
          exact hf b hb hag h
      have kind : ∀ b, agr T l a b = true → T 0 a = T 0 b := by
        intro b hb
        unfold agr at hb
        simp only [Bool.and_eq_true, beq_iff_eq] at hb
        exact hb.1.1
      by_cases hk : T 0 a = 3
      · rw [if_pos hk] at c7
        have next : ∀ (b : Nat) (w w' : Nat), b ∈ mvs T q l → agr T l a b = true → Eqv (d + 1) (w :: l) (w' :: l') → win T rel k (T 3 a) (T 3 b) (w :: l) = true → win T rel k (T 3 a) (T 3 b) (w' :: l') = true := by
          intro b w w' hb hag hEE hw
          obtain ⟨b1, b2, b3, b4, b5, b6⟩ := mvs_mem hW hq hb
          obtain ⟨m1, m2, d3, d5, d7⟩ := act_facts hW (show b < n by omega) b3 b4
          rw [if_pos ((kind b hag).symm.trans hk)] at d7
          exact ih _ _ (d + 1) _ _ (by omega) (by omega) (by omega) (by omega) hEE hw
        by_cases h1 : rel = 1
        · have hv1 : v ≤ fr l := by
            unfold nms at hv
            rw [if_pos ⟨hk, h1⟩] at hv
            have := List.mem_range.mp hv
            omega
          obtain ⟨v', hv', hEE, -⟩ := hE.ext v hv1
          refine List.any_eq_true.mpr ⟨a, by rw [← mvs_E hW hp h7p hE]; exact ha, List.any_eq_true.mpr ⟨v', ?_, go v' fun b hb hag hfl => ?_⟩⟩
          · unfold nms
            rw [if_pos ⟨hk, h1⟩]
            exact List.mem_range.mpr (by omega)
          · unfold flw nxt at hfl ⊢
            rw [if_pos hk, if_neg (by omega), if_pos h1] at hfl ⊢
            simp only [List.any_cons, List.any_nil, Bool.or_false] at hfl ⊢
            exact next b v v' hb hag hEE hfl
        · have hn : ∀ l'', nms T rel a l'' = [9] := fun l'' => if_neg (fun z => h1 z.2)
          refine List.any_eq_true.mpr ⟨a, by rw [← mvs_E hW hp h7p hE]; exact ha, List.any_eq_true.mpr ⟨v, by rw [hn] at hv ⊢; exact hv, go v fun b hb hag hfl => ?_⟩⟩
          unfold flw nxt at hfl ⊢
          rw [if_pos hk] at hfl ⊢
          by_cases h0 : rel = 0
          · rw [if_pos h0] at hfl ⊢
            simp only [List.any_cons, List.any_nil, Bool.or_false] at hfl ⊢
            obtain ⟨w, hw, hEE, he⟩ := hE.ext (fr l) (Nat.le_refl _)
            rw [he rfl] at hEE
            exact next b _ _ hb hag hEE hfl
          · rw [if_neg h0, if_neg h1] at hfl ⊢
            obtain ⟨x, hx, hfl⟩ := List.any_eq_true.mp hfl
            obtain ⟨w, hw, rfl⟩ := List.mem_map.mp hx
            have hw := List.mem_range.mp hw
            obtain ⟨w', hw', hEE, -⟩ := hE.ext w (by omega)
            exact List.any_eq_true.mpr ⟨w' :: l', List.mem_map.mpr ⟨w', List.mem_range.mpr (by omega), rfl⟩, next b _ _ hb hag hEE hfl⟩
      · rw [if_neg hk] at c7
        have hn : ∀ l'', nms T rel a l'' = [9] := fun l'' => if_neg (fun z => hk z.1)
        refine List.any_eq_true.mpr ⟨a, by rw [← mvs_E hW hp h7p hE]; exact ha, List.any_eq_true.mpr ⟨v, by rw [hn] at hv ⊢; exact hv, go v fun b hb hag hfl => ?_⟩⟩
        obtain ⟨b1, b2, b3, b4, b5, b6⟩ := mvs_mem hW hq hb
        obtain ⟨m1, m2, d3, d5, d7⟩ := act_facts hW (show b < n by omega) b3 b4
        rw [if_neg (fun z => hk ((kind b hag).trans z))] at d7
        unfold flw nxt at hfl ⊢
        rw [if_neg hk] at hfl ⊢
        simp only [List.any_cons, List.any_nil, Bool.or_false] at hfl ⊢
        exact ih _ _ d _ _ (by omega) (by omega) (by omega) (by omega) hE hfl
    intro p q d l l' hp hq h7p h7q hE h
    rw [win_eq, Bool.or_eq_true] at h ⊢
    exact h.imp (key p q d l l' hp hq h7p h7q hE) (key q p d l l' hq hp h7q h7p hE)
theorem Eqv0 (l l' : List Nat) : Eqv 0 l l' := fun x y hx hy => by rw [vl_lo l (by omega), vl_lo l (by omega), vl_lo l' (by omega), vl_lo l' (by omega)]
/-- closed processes: what was received says nothing -/
theorem win_closed (hW : WF T n) (rel k : Nat) {p q : Nat} (hp : p < n) (hq : q < n) (h7p : T 7 p = 0) (h7q : T 7 q = 0) (l l' : List Nat) : win T rel k p q l = win T rel k p q l' := by
  rw [Bool.eq_iff_iff]
  exact ⟨win_E hW rel k p q 0 l l' hp hq (by omega) (by omega) (Eqv0 l l'), win_E hW rel k p q 0 l' l hp hq (by omega) (by omega) (Eqv0 l' l)⟩
theorem any_const {α : Type} {f : α → Bool} {w : Bool} : ∀ (l : List α), l ≠ [] → (∀ x ∈ l, f x = w) → l.any f = w := by
  intro l
  induction l with
  | nil => intro h; exact absurd rfl h
  | cons x r ih =>
    intro _ h
    rw [List.any_cons, h x List.mem_cons_self]
    cases r with
    | nil => simp
    | cons y r => rw [ih (by simp) (fun z hz => h z (List.mem_cons_of_mem _ hz)), Bool.or_self]
theorem nxt_ne (rel a v : Nat) (l : List Nat) : nxt T rel a v l ≠ [] := by
  unfold nxt
  split
  · split
    · simp
    · split
      · simp
      · intro h
        have := congrArg List.length h
        simp at this
  · simp
theorem nms_ne (rel a : Nat) (l : List Nat) : nms T rel a l ≠ [] := by
  unfold nms
  split
  · intro h
    have := congrArg List.length h
    simp at this
  · simp
/-- two actions that say the same, with closed processes behind them -/
def Pfx (T : Tb) (n a b : Nat) : Prop := a < n ∧ b < n ∧ 1 ≤ T 0 a ∧ T 0 a ≤ 3 ∧ T 0 a = T 0 b ∧ T 1 a = T 1 b ∧ T 2 a = T 2 b ∧ T 7 (T 3 a) = 0 ∧ T 7 (T 3 b) = 0
theorem Pfx_symm {a b : Nat} (h : Pfx T n a b) : Pfx T n b a := by
  obtain ⟨h1, h2, h3, h4, h5, h6, h7, h8, h9⟩ := h
  exact ⟨h2, h1, by omega, by omega, h5.symm, h6.symm, h7.symm, h9, h8⟩
theorem Pfx_hld (hW : WF T n) {a b : Nat} (h : Pfx T n a b) (rel k v : Nat) : hld T rel k a v b [] = win T rel k (T 3 a) (T 3 b) [] := by
  obtain ⟨h1, h2, h3, h4, h5, h6, h7, h8, h9⟩ := h
  unfold hld
  rw [mvs_act hW h2 (by omega) (by omega)]
  have e : agr T [] a b = true := by
    unfold agr
    rw [h5, h6, h7]
    simp
  simp only [List.all_cons, List.all_nil, Bool.and_true, e, Bool.not_true, Bool.false_or]
  unfold flw
  refine any_const _ (nxt_ne rel a v []) fun l' _ => ?_
  exact win_closed hW rel k (hW.part h1).2.2.1 (hW.part h2).2.2.1 h8 h9 l' []
theorem Pfx_win (hW : WF T n) {a b : Nat} (h : Pfx T n a b) (rel k : Nat) : win T rel (k + 1) a b [] = win T rel k (T 3 a) (T 3 b) [] := by
  have one : ∀ a b, Pfx T n a b → sid T rel k a b [] = win T rel k (T 3 a) (T 3 b) [] := by
    intro a b h
    unfold sid
    rw [mvs_act hW h.1 h.2.2.1 h.2.2.2.1]
    simp only [List.any_cons, List.any_nil, Bool.or_false]
    exact any_const _ (nms_ne rel a []) fun v _ => Pfx_hld hW h rel k v
  rw [win_eq, one a b h, one b a (Pfx_symm h), win_symm rel k (T 3 b), Bool.or_self]
theorem Pfx_rnd (hW : WF T n) {a b : Nat} (h : Pfx T n a b) (rel : Nat) (h5a : T 5 (T 3 a) ≤ 2) (h5b : T 5 (T 3 b) ≤ 2) : rnd T rel a b = if rnd T rel (T 3 a) (T 3 b) = 4 then 4 else rnd T rel (T 3 a) (T 3 b) + 1 := by
  have w1 : win T rel 1 a b [] = false := Pfx_win hW h rel 0
  have w2 : win T rel 2 a b [] = win T rel 1 (T 3 a) (T 3 b) [] := Pfx_win hW h rel 1
  have w3 : win T rel 3 a b [] = win T rel 2 (T 3 a) (T 3 b) [] := Pfx_win hW h rel 2
  have w4 : win T rel 3 (T 3 a) (T 3 b) [] = win T rel 2 (T 3 a) (T 3 b) [] := win_stop hW rel (hW.part h.1).2.2.1 (hW.part h.2.1).2.2.1 h5a h5b (by omega)
  unfold rnd
  rw [w1, w2, w3, w4]
  cases win T rel 1 (T 3 a) (T 3 b) [] <;> cases win T rel 2 (T 3 a) (T 3 b) [] <;> simp
theorem rnd_two (hW : WF T n) (rel : Nat) {p q : Nat} (hp : p < n) (hq : q < n) (h5p : T 5 p ≤ 2) (h5q : T 5 q ≤ 2) (hr : rnd T rel p q ≠ 4) : rnd T rel p q ≤ 2 := by
  have hl := rnd_le (T := T) rel p q
  have hS := (rnd_Sp (T := T) rel p q).2
  have h3 : win T rel 3 p q [] = true := (hS 3 (by omega)).mp (by omega)
  have w : win T rel 3 p q [] = win T rel 2 p q [] := win_stop hW rel hp hq h5p h5q (by omega)
  exact (hS 2 (by omega)).mpr (w.symm.trans h3)
theorem Pfx_atk (hW : WF T n) {a b : Nat} (h : Pfx T n a b) (rel : Nat) (hk : T 0 a ≠ 3) (h5a : T 5 (T 3 a) ≤ 2) (h5b : T 5 (T 3 b) ≤ 2) (hr : rnd T rel (T 3 a) (T 3 b) ≠ 4) : atkR T rel a b = nI 9 := by
  have e := Pfx_rnd hW h rel h5a h5b
  rw [if_neg hr] at e
  have hl := rnd_le (T := T) rel (T 3 a) (T 3 b)
  have hS := (rnd_Sp (T := T) rel (T 3 a) (T 3 b)).2 (rnd T rel (T 3 a) (T 3 b)) (by omega)
  have hw : win T rel (rnd T rel (T 3 a) (T 3 b)) (T 3 a) (T 3 b) [] = true := hS.mp (Nat.le_refl _)
  have h3 : rnd T rel (T 3 a) (T 3 b) ≤ 2 := rnd_two hW rel (hW.part h.1).2.2.1 (hW.part h.2.1).2.2.1 h5a h5b hr
  unfold atkR atkF
  rw [e, Nat.add_sub_cancel, if_neg (show ¬ (rnd T rel (T 3 a) (T 3 b) + 1 = 4) by omega), mvs_act hW h.1 h.2.2.1 h.2.2.2.1]
  have e2 : nms T rel a [] = [9] := if_neg (fun z => hk z.1)
  unfold atkL
  rw [e2, List.find?_cons, Pfx_hld hW h, hw]
theorem rnd_congr {T' : Tb} {n' : Nat} (hW : WF T n) (hW' : WF T' n') (hn : n ≤ n') (hT : ∀ f p, p < n → T' f p = T f p) (rel : Nat) {p q : Nat} (hp : p < n) (hq : q < n) : rnd T' rel p q = rnd T rel p q := by
  unfold rnd
  simp only [win_congr hW hW' hn hT rel _ p q _ hp hq]
/-- what the public methods answer for numbers of processes -/
theorem rPair_ok {f : Nat → Nat → Nat → Int32} {i j k : Nat} (hn : n ≤ 24) (hi : i < n) (hj : j < n) (hk : k < 3) (h1 : T 7 i = 0) (h2 : T 7 j = 0) : rPair f T n (nI i) (nI j) (nI k) = f i j k := by
  unfold rPair
  rw [pj_nI hi (by omega), pj_nI hj (by omega), pj_nI hk (by omega)]
  exact if_pos ⟨h1, h2⟩
theorem rMC_ok {i : Nat} (hn : n ≤ 24) (hi : i < n) (h1 : T 7 i = 0) : rMC T n (nI i) = nI (mvs T i []).length := by
  unfold rMC
  rw [pj_nI hi (by omega)]
  exact if_pos h1
theorem rFld_ok {i f : Nat} (hn : n ≤ 24) (hi : i < n) : rFld T n f (nI i) = nI (T f i) := by
  unfold rFld
  rw [pj_nI hi (by omega)]
end PMATH

