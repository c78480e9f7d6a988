section SPEC
theorem List.any_congr_of {α : Type} {l : List α} {f g : α → Bool} (h : ∀ a ∈ l, f a = g a) : l.any f = l.any g := by
  induction l with
  | nil => rfl
  | cons x r ih => rw [List.any_cons, List.any_cons, h x List.mem_cons_self, ih fun a ha => h a (List.mem_cons_of_mem _ ha)]
theorem List.all_congr_of {α : Type} {l : List α} {f g : α → Bool} (h : ∀ a ∈ l, f a = g a) : l.all f = l.all g := by
  induction l with
  | nil => rfl
  | cons x r ih => rw [List.all_cons, List.all_cons, h x List.mem_cons_self, ih fun a ha => h a (List.mem_cons_of_mem _ ha)]
abbrev Tb : Type := Nat → Nat → Nat
/-- a name's value: by the packed values of the class, by the list of received names, by the model's number -/
def xv (r x : Nat) : Nat := if x < 3 then x else r / 8 ^ (x - 3) % 8
def vl (l : List Nat) (x : Nat) : Nat := if x < 3 then x else l.getD (x - 3) 0
def mvl (r x : Nat) : Nat := if x < 3 then x else r / 6 ^ (x - 3) % 6
def rc : List Nat → Nat
  | [] => 1
  | v :: l => 8 * rc l + v
def md : List Nat → Nat
  | [] => 0
  | v :: l => 6 * md l + v
/-- the next fresh name -/
def fr : List Nat → Nat
  | [] => 3
  | v :: l => max (fr l) (v + 1)
def lok : List Nat → Prop
  | [] => True
  | v :: l => v ≤ fr l ∧ lok l
theorem fr_ge (l : List Nat) : 3 ≤ fr l := by
  induction l with
  | nil => simp [fr]
  | cons v l ih => simp only [fr]; omega
theorem fr_le {l : List Nat} (h : lok l) : fr l ≤ 3 + l.length := by
  induction l with
  | nil => simp [fr]
  | cons v l ih =>
    have := ih h.2
    have := h.1
    simp only [fr, List.length_cons]; omega
theorem fr_cons {l : List Nat} {v : Nat} (h : v ≤ fr l) : fr (v :: l) = if v = fr l then fr l + 1 else fr l := by
  simp only [fr]; split <;> omega
theorem vl_lt {l : List Nat} (h : lok l) (hl : l.length ≤ 3) (x : Nat) : vl l x < 6 := by
  unfold vl
  split
  · omega
  · match l, h, hl with
    | [], _, _ => simp
    | [a], h, _ =>
      have h1 := h.1
      simp only [fr] at h1
      match x - 3 with
      | 0 => simp; omega
      | k + 1 => simp
    | [a, b], h, _ =>
      obtain ⟨h1, h2, -⟩ := h
      simp only [fr] at h1 h2
      match x - 3 with
      | 0 => simp; omega
      | 1 => simp; omega
      | k + 2 => simp
    | [a, b, d], h, _ =>
      obtain ⟨h1, h2, h3, -⟩ := h
      simp only [fr] at h1 h2 h3
      match x - 3 with
      | 0 => simp; omega
      | 1 => simp; omega
      | 2 => simp; omega
      | k + 3 => simp
theorem xv_rc {l : List Nat} (h : lok l) (hl : l.length ≤ 3) {x : Nat} (hx : x < 3 + l.length) : xv (rc l) x = vl l x := by
  unfold xv vl
  split
  · rfl
  · match l, h, hl, hx with
    | [], _, _, hx => simp at hx; omega
    | [a], h, _, hx =>
      have h1 := h.1
      simp only [fr] at h1
      obtain rfl : x = 3 := by simp at hx; omega
      simp [rc]; omega
    | [a, b], h, _, hx =>
      obtain ⟨h1, h2, -⟩ := h
      simp only [fr] at h1 h2
      rcases (by simp at hx; omega : x = 3 ∨ x = 4) with rfl | rfl
      · simp [rc]; omega
      · simp [rc]; omega
    | [a, b, d], h, _, hx =>
      obtain ⟨h1, h2, h3, -⟩ := h
      simp only [fr] at h1 h2 h3
      have ha : a ≤ 5 := by omega
      have hb : b ≤ 4 := by omega
      have hd : d ≤ 3 := by omega
      clear h1 h2 h3
      rcases (by simp at hx; omega : x = 3 ∨ x = 4 ∨ x = 5) with rfl | rfl | rfl
      · simp [rc]; omega
      · simp [rc]; omega
      · have e : (8 * (8 * (8 + d) + b) + a) / 64 = 8 + d := by omega
        simp [rc, e]; omega
theorem mvl_md {l : List Nat} (h : lok l) (hl : l.length ≤ 3) {x : Nat} (hx : x < 6) : mvl (md l) x = vl l x := by
  unfold mvl vl
  split
  · rfl
  · match l, h, hl with
    | [], _, _ => simp [md]
    | [a], h, _ =>
      have h1 := h.1
      simp only [fr] at h1
      rcases (by omega : x = 3 ∨ x = 4 ∨ x = 5) with rfl | rfl | rfl
      · simp [md]; omega
      · simp [md]; omega
      · simp [md]; omega
    | [a, b], h, _ =>
      obtain ⟨h1, h2, -⟩ := h
      simp only [fr] at h1 h2
      rcases (by omega : x = 3 ∨ x = 4 ∨ x = 5) with rfl | rfl | rfl
      · simp [md]; omega
      · simp [md]; omega
      · simp [md]; omega
    | [a, b, d], h, _ =>
      obtain ⟨h1, h2, h3, -⟩ := h
      simp only [fr] at h1 h2 h3
      have ha : a ≤ 5 := by omega
      have hb : b ≤ 4 := by omega
      have hd : d ≤ 3 := by omega
      clear h1 h2 h3
      rcases (by omega : x = 3 ∨ x = 4 ∨ x = 5) with rfl | rfl | rfl
      · simp [md]; omega
      · simp [md]; omega
      · have e : (6 * (6 * d + b) + a) / 36 = d := by omega
        simp [md, e]; omega
theorem rc_lt {l : List Nat} (h : lok l) (hl : l.length ≤ 3) : rc l < 2 ^ 12 ∧ md l < 216 ∧ (l.length ≤ 2 → rc l < 2 ^ 9 ∧ md l < 36) := by
  match l, h, hl with
  | [], _, _ => simp [rc, md]
  | [a], h, _ =>
    have h1 := h.1
    simp only [fr] at h1
    simp [rc, md]; omega
  | [a, b], h, _ =>
    obtain ⟨h1, h2, -⟩ := h
    simp only [fr] at h1 h2
    simp [rc, md]; omega
  | [a, b, d], h, _ =>
    obtain ⟨h1, h2, h3, -⟩ := h
    simp only [fr] at h1 h2 h3
    simp [rc, md]; omega
/-- the class's own search for the next fresh name -/
theorem xv3 (r : Nat) : xv r 3 = r % 8 := by simp [xv]
theorem xv4 (r : Nat) : xv r 4 = r / 8 % 8 := by simp [xv]
theorem xv5 (r : Nat) : xv r 5 = r / 64 % 8 := by simp [xv]
theorem fr_rc {l : List Nat} (h : lok l) (hl : l.length ≤ 3) : max (max (max 3 (xv (rc l) 3 + 1)) (xv (rc l) 4 + 1)) (xv (rc l) 5 + 1) = fr l := by
  rw [xv3, xv4, xv5]
  match l, h, hl with
  | [], _, _ => simp [rc, fr]
  | [a], h, _ =>
    have h1 := h.1
    simp only [fr] at h1
    simp only [rc, fr]
    have e1 : (8 * 1 + a) % 8 = a := by omega
    have e2 : (8 * 1 + a) / 8 % 8 = 1 := by omega
    have e3 : (8 * 1 + a) / 64 % 8 = 0 := by omega
    rw [e1, e2, e3]; omega
  | [a, b], h, _ =>
    obtain ⟨h1, h2, -⟩ := h
    simp only [fr] at h1 h2
    simp only [rc, fr]
    have ha : a ≤ 5 := by omega
    have hb : b ≤ 4 := by omega
    have e1 : (8 * (8 * 1 + b) + a) % 8 = a := by omega
    have e2 : (8 * (8 * 1 + b) + a) / 8 % 8 = b := by omega
    have e3 : (8 * (8 * 1 + b) + a) / 64 % 8 = 1 := by omega
    rw [e1, e2, e3]; omega
  | [a, b, d], h, _ =>
    obtain ⟨h1, h2, h3, -⟩ := h
    simp only [fr] at h1 h2 h3
    simp only [rc, fr]
    have ha : a ≤ 5 := by omega
    have hb : b ≤ 4 := by omega
    have hd : d ≤ 3 := by omega
    have e1 : (8 * (8 * (8 * 1 + d) + b) + a) % 8 = a := by omega
    have e2 : (8 * (8 * (8 * 1 + d) + b) + a) / 8 % 8 = b := by omega
    have e3 : (8 * (8 * (8 * 1 + d) + b) + a) / 64 % 8 = d := by
      have e : (8 * (8 * (8 * 1 + d) + b) + a) / 64 = 8 + d := by omega
      rw [e]; omega
    rw [e1, e2, e3]; omega
/-- a table of processes: fields 0 kind, 1 x, 2 y, 3 p, 4 q, 5 depth, 6 breadth, 7 need, 8 length -/
def hdl : Nat → Nat
  | 1 => 2
  | 2 => 4
  | 3 => 3
  | 4 => 5
  | _ => 1
def WFp (T : Tb) (p : Nat) : Prop :=
  (1 ≤ T 0 p ∧ T 0 p ≤ 5 ∧ T 1 p < 6 ∧ T 2 p < 6 ∧ T 3 p < p ∧ T 4 p < p) ∧
  ((T 0 p = 1 → T 1 p = 0 ∧ T 2 p = 0) ∧ (T 0 p = 3 → T 2 p = 0) ∧ (T 0 p = 5 → T 1 p = 0 ∧ T 2 p = 0) ∧ (T 0 p ≠ 5 → T 4 p = 0)) ∧
  (T 5 p = max (T 5 (T 3 p)) (T 5 (T 4 p)) + (if T 0 p ≤ 3 then 1 else 0) ∧ T 5 p ≤ 3) ∧
  (T 6 p = (if T 0 p ≤ 3 then 1 else T 6 (T 3 p) + T 6 (T 4 p)) ∧ T 6 p ≤ 3) ∧
  T 7 p = max (max (T 1 p) (T 2 p) - 2) (max (T 7 (T 3 p) - (if T 0 p = 3 then 1 else 0)) (T 7 (T 4 p))) ∧
  T 8 p = hdl (T 0 p) + T 8 (T 3 p) + (if T 0 p = 5 then T 8 (T 4 p) + 2 else 0)
def WF (T : Tb) (n : Nat) : Prop := (1 ≤ n ∧ n ≤ 24) ∧ (T 0 0 = 0 ∧ T 1 0 = 0 ∧ T 2 0 = 0 ∧ T 3 0 = 0 ∧ T 4 0 = 0 ∧ T 5 0 = 0 ∧ T 6 0 = 0 ∧ T 7 0 = 0 ∧ T 8 0 = 1) ∧ ∀ p, 0 < p → p < n → WFp T p
def actsF (T : Tb) : Nat → Nat → List (Nat × List (Nat × Nat))
  | 0, _ => []
  | f + 1, p => if T 0 p = 0 then [] else if T 0 p ≤ 3 then [(p, [])] else if T 0 p = 4 then (actsF T f (T 3 p)).map (fun a => (a.1, (T 1 p, T 2 p) :: a.2)) else actsF T f (T 3 p) ++ actsF T f (T 4 p)
def acts (T : Tb) (p : Nat) : List (Nat × List (Nat × Nat)) := actsF T (p + 1) p
variable {T : Tb} {n : Nat}
theorem actsF_eq (hW : WF T n) : ∀ (p : Nat), p < n → ∀ f, p < f → actsF T f p = acts T p := by
  intro p
  induction p using Nat.strongRecOn with
  | ind p ih =>
    intro hp f hf
    obtain ⟨f, rfl⟩ : ∃ k, f = k + 1 := ⟨f - 1, by omega⟩
    unfold acts
    simp only [actsF]
    split
    · rfl
    · rename_i h0
      have hp0 : 0 < p := by
        rcases Nat.eq_zero_or_pos p with h | h
        · subst h; exact absurd hW.2.1.1 h0
        · exact h
      obtain ⟨⟨-, -, -, -, h3, h4⟩, -⟩ := hW.2.2 p hp0 hp
      split
      · rfl
      · split
        · rw [ih _ h3 (by omega) f (by omega), ih _ h3 (by omega) p (by omega)]
        · rw [ih _ h3 (by omega) f (by omega), ih _ h3 (by omega) p (by omega), ih _ h4 (by omega) f (by omega), ih _ h4 (by omega) p (by omega)]
theorem acts_eq (hW : WF T n) {p : Nat} (hp : p < n) : acts T p = if T 0 p = 0 then [] else if T 0 p ≤ 3 then [(p, [])] else if T 0 p = 4 then (acts T (T 3 p)).map (fun a => (a.1, (T 1 p, T 2 p) :: a.2)) else acts T (T 3 p) ++ acts T (T 4 p) := by
  conv => lhs; unfold acts
  simp only [actsF]
  split
  · rfl
  · rename_i h0
    have hp0 : 0 < p := by
      rcases Nat.eq_zero_or_pos p with h | h
      · subst h; exact absurd hW.2.1.1 h0
      · exact h
    obtain ⟨⟨-, -, -, -, h3, h4⟩, -⟩ := hW.2.2 p hp0 hp
    split
    · rfl
    · split
      · rw [actsF_eq hW _ (by omega) p h3]
      · rw [actsF_eq hW _ (by omega) p h3, actsF_eq hW _ (by omega) p h4]
/-- facts of a process below n -/
theorem WF.kind (hW : WF T n) {p : Nat} (hp : p < n) : T 0 p ≤ 5 := by
  rcases Nat.eq_zero_or_pos p with h | h
  · subst h; have := hW.2.1.1; omega
  · exact (hW.2.2 p h hp).1.2.1
theorem WF.name (hW : WF T n) {p : Nat} (hp : p < n) : T 1 p < 6 ∧ T 2 p < 6 := by
  rcases Nat.eq_zero_or_pos p with h | h
  · subst h; obtain ⟨-, ⟨-, h1, h2, -⟩, -⟩ := hW; omega
  · exact ⟨(hW.2.2 p h hp).1.2.2.1, (hW.2.2 p h hp).1.2.2.2.1⟩
theorem WF.part (hW : WF T n) {p : Nat} (hp : p < n) : T 3 p ≤ p ∧ T 4 p ≤ p ∧ T 3 p < n ∧ T 4 p < n := by
  rcases Nat.eq_zero_or_pos p with h | h
  · subst h; obtain ⟨-, ⟨-, h1, h2, h3, h4, -⟩, -⟩ := hW; omega
  · have := (hW.2.2 p h hp).1.2.2.2.2; omega
theorem WF.depth (hW : WF T n) {p : Nat} (hp : p < n) : T 5 p ≤ 3 ∧ T 6 p ≤ 3 := by
  rcases Nat.eq_zero_or_pos p with h | h
  · subst h; obtain ⟨-, ⟨-, -, -, -, -, h5, h6, -⟩, -⟩ := hW; omega
  · obtain ⟨-, -, h5, h6, -⟩ := hW.2.2 p h hp; omega
theorem WF.need (hW : WF T n) : ∀ {p : Nat}, p < n → T 7 p ≤ 3 := by
  intro p
  induction p using Nat.strongRecOn with
  | ind p ih =>
    intro hp
    rcases Nat.eq_zero_or_pos p with h | h
    · subst h; obtain ⟨-, ⟨-, -, -, -, -, -, -, h7, -⟩, -⟩ := hW; omega
    · obtain ⟨⟨-, -, h1, h2, h3, h4⟩, -, -, -, h7, -⟩ := hW.2.2 p h hp
      have a := ih _ h3 (by omega)
      have b := ih _ h4 (by omega)
      omega
theorem hdl_le (k : Nat) : 1 ≤ hdl k ∧ hdl k ≤ 5 := by
  unfold hdl; split <;> omega
theorem WF.len (hW : WF T n) : ∀ {p : Nat}, p < n → 1 ≤ T 8 p ∧ T 8 p + 5 ≤ 8 * 2 ^ p := by
  intro p
  induction p using Nat.strongRecOn with
  | ind p ih =>
    intro hp
    rcases Nat.eq_zero_or_pos p with h | h
    · subst h; obtain ⟨-, ⟨-, -, -, -, -, -, -, -, h8⟩, -⟩ := hW; omega
    · obtain ⟨⟨-, -, -, -, h3, h4⟩, -, -, -, -, h8⟩ := hW.2.2 p h hp
      have a := ih _ h3 (by omega)
      have b := ih _ h4 (by omega)
      have := hdl_le (T 0 p)
      obtain ⟨k, rfl⟩ : ∃ k, p = k + 1 := ⟨p - 1, by omega⟩
      have e3 : 2 ^ (T 3 (k + 1)) ≤ 2 ^ k := Nat.pow_le_pow_right (by omega) (by omega)
      have e4 : 2 ^ (T 4 (k + 1)) ≤ 2 ^ k := Nat.pow_le_pow_right (by omega) (by omega)
      have e5 : 1 ≤ 2 ^ k := Nat.one_le_two_pow
      rw [Nat.pow_succ]
      split at h8
      · rename_i hk
        rw [hk] at h8
        simp only [hdl] at h8
        omega
      · omega
theorem WF.len_lt (hW : WF T n) {p : Nat} (hp : p < n) : 1 ≤ T 8 p ∧ T 8 p < 2 ^ 27 := by
  have h := hW.len hp
  have : (2 : Nat) ^ p ≤ 2 ^ 23 := Nat.pow_le_pow_right (by omega) (by have := hW.1.2; omega)
  omega
theorem acts_len (hW : WF T n) : ∀ {p : Nat}, p < n → (acts T p).length = T 6 p := by
  intro p
  induction p using Nat.strongRecOn with
  | ind p ih =>
    intro hp
    rw [acts_eq hW hp]
    rcases Nat.eq_zero_or_pos p with h | h
    · subst h
      obtain ⟨-, ⟨h0, -, -, -, -, -, h6, -⟩, -⟩ := hW
      rw [if_pos h0, h6]; rfl
    · obtain ⟨⟨hk1, hk2, -, -, h3, h4⟩, ⟨-, -, -, hq⟩, -, ⟨h6, -⟩, -⟩ := hW.2.2 p h hp
      rw [if_neg (by omega)]
      split
      · rename_i hk
        rw [if_pos hk] at h6
        rw [h6]; rfl
      · rename_i hk
        rw [if_neg hk] at h6
        split
        · rename_i hk4
          rw [List.length_map, ih _ h3 (by omega), h6, hq (by omega)]
          have := hW.2.1.2.2.2.2.2.2.1
          omega
        · rw [List.length_append, ih _ h3 (by omega), ih _ h4 (by omega), h6]
/-- what an action with which p can begin is -/
theorem acts_mem (hW : WF T n) : ∀ {p : Nat}, p < n → ∀ a ∈ acts T p, a.1 ≤ p ∧ 0 < a.1 ∧ 1 ≤ T 0 a.1 ∧ T 0 a.1 ≤ 3 ∧ T 5 a.1 ≤ T 5 p ∧ T 7 a.1 ≤ T 7 p ∧ ∀ q ∈ a.2, q.1 < 3 + T 7 p ∧ q.2 < 3 + T 7 p ∧ q.1 < 6 ∧ q.2 < 6 := by
  intro p
  induction p using Nat.strongRecOn with
  | ind p ih =>
    intro hp a ha
    rw [acts_eq hW hp] at ha
    rcases Nat.eq_zero_or_pos p with h | h
    · subst h
      rw [if_pos hW.2.1.1] at ha
      cases ha
    · obtain ⟨⟨hk1, hk2, hx, hy, h3, h4⟩, ⟨-, -, -, hq⟩, ⟨h5, -⟩, -, h7, -⟩ := hW.2.2 p h hp
      rw [if_neg (by omega)] at ha
      split at ha
      · rename_i hk
        obtain rfl := List.mem_singleton.mp ha
        exact ⟨Nat.le_refl _, h, hk1, hk, Nat.le_refl _, Nat.le_refl _, fun q hq => by cases hq⟩
      · rename_i hk
        rw [if_neg hk] at h5
        rw [if_neg (by omega)] at h7
        split at ha
        · obtain ⟨b, hb, rfl⟩ := List.mem_map.mp ha
          obtain ⟨a1, a2, a3, a4, a5, a6, a7⟩ := ih _ h3 (by omega) b hb
          refine ⟨by show b.1 ≤ p; omega, a2, a3, a4, by show T 5 b.1 ≤ _; omega, by show T 7 b.1 ≤ _; omega, fun q hq => ?_⟩
          rcases List.mem_cons.mp hq with rfl | hq
          · simp only; omega
          · have := a7 q hq; omega
        · rcases List.mem_append.mp ha with hb | hb
          · obtain ⟨a1, a2, a3, a4, a5, a6, a7⟩ := ih _ h3 (by omega) a hb
            exact ⟨by omega, a2, a3, a4, by omega, by omega, fun q hq => by have := a7 q hq; omega⟩
          · obtain ⟨a1, a2, a3, a4, a5, a6, a7⟩ := ih _ h4 (by omega) a hb
            exact ⟨by omega, a2, a3, a4, by omega, by omega, fun q hq => by have := a7 q hq; omega⟩
/-- what an action is, and where it leads -/
theorem act_facts (hW : WF T n) {p : Nat} (hp : p < n) (h1 : 1 ≤ T 0 p) (h3 : T 0 p ≤ 3) : T 1 p < 3 + T 7 p ∧ T 2 p < 3 + T 7 p ∧ T 3 p < p ∧ T 5 (T 3 p) + 1 ≤ T 5 p ∧ T 7 (T 3 p) ≤ T 7 p + (if T 0 p = 3 then 1 else 0) := by
  have h : 0 < p := by
    rcases Nat.eq_zero_or_pos p with h | h
    · subst h; have := hW.2.1.1; omega
    · exact h
  obtain ⟨⟨hk1, hk2, hx, hy, hp3, h4⟩, ⟨-, -, -, hq⟩, ⟨h5, -⟩, -, h7, -⟩ := hW.2.2 p h hp
  rw [if_pos h3] at h5
  refine ⟨by omega, by omega, hp3, by omega, by
    by_cases hk : T 0 p = 3
    · rw [if_pos hk] at h7 ⊢; omega
    · rw [if_neg hk] at h7 ⊢; omega⟩
def openb (l : List Nat) (gs : List (Nat × Nat)) : Bool := gs.all fun q => vl l q.1 == vl l q.2
def mvs (T : Tb) (p : Nat) (l : List Nat) : List Nat := ((acts T p).filter (fun a => openb l a.2)).map (·.1)
/-- the action in a slot, if the values let it happen -/
def slG {α : Type} (as : List (Nat × α)) (f : α → Bool) (s : Nat) : Option Nat := match as[s]? with
  | some a => if f a.2 = true then some a.1 else none
  | none => none
def slA (T : Tb) (p : Nat) (l : List Nat) (s : Nat) : Option Nat := slG (acts T p) (openb l) s
def ri : Option Nat → Int32
  | some a => nI a
  | none => -4
theorem slA_list {α : Type} (as : List (Nat × α)) (f : α → Bool) (h : as.length ≤ 3) : (as.filter (fun a => f a.2)).map (·.1) = (List.range 3).filterMap (slG as f) := by
  match as, h with
  | [], _ => rfl
  | [a], _ => by_cases h1 : f a.2 = true <;> simp [List.range_succ, List.filter_cons, List.filterMap_cons, slG, h1]
  | [a, b], _ => by_cases h1 : f a.2 = true <;> by_cases h2 : f b.2 = true <;> simp [List.range_succ, List.filter_cons, List.filterMap_cons, slG, h1, h2]
  | [a, b, d], _ => by_cases h1 : f a.2 = true <;> by_cases h2 : f b.2 = true <;> by_cases h3 : f d.2 = true <;> simp [List.range_succ, List.filter_cons, List.filterMap_cons, slG, h1, h2, h3]
theorem mvs_eq (hW : WF T n) {p : Nat} (hp : p < n) (l : List Nat) : mvs T p l = (List.range 3).filterMap (slA T p l) := by
  unfold mvs
  exact slA_list (acts T p) (openb l) (by rw [acts_len hW hp]; exact (hW.depth hp).2)
theorem slA_mem {p s a : Nat} {l : List Nat} (h : slA T p l s = some a) : ∃ gs, (a, gs) ∈ acts T p ∧ openb l gs = true := by
  unfold slA slG at h
  split at h
  · rename_i b hb
    split at h
    · rename_i ho
      cases h
      exact ⟨b.2, List.mem_of_getElem? hb, ho⟩
    · cases h
  · cases h
theorem mvs_mem (hW : WF T n) {p a : Nat} (hp : p < n) {l : List Nat} (h : a ∈ mvs T p l) : a ≤ p ∧ 0 < a ∧ 1 ≤ T 0 a ∧ T 0 a ≤ 3 ∧ T 5 a ≤ T 5 p ∧ T 7 a ≤ T 7 p := by
  obtain ⟨b, hb, rfl⟩ := List.mem_map.mp h
  obtain ⟨h1, h2, h3, h4, h5, h6, -⟩ := acts_mem hW hp b (List.mem_filter.mp hb).1
  exact ⟨h1, h2, h3, h4, h5, h6⟩
/-- an answer to an attack -/
def agr (T : Tb) (l : List Nat) (a b : Nat) : Bool := T 0 a == T 0 b && vl l (T 1 a) == vl l (T 1 b) && vl l (T 2 a) == vl l (T 2 b)
/-- the names that are chosen with an attack; 9: none -/
def nms (T : Tb) (rel a : Nat) (l : List Nat) : List Nat := if T 0 a = 3 ∧ rel = 1 then List.range (fr l + 1) else [9]
/-- behind an answer: the names that lead on, all of them the attacker's choice -/
def nxt (T : Tb) (rel a v : Nat) (l : List Nat) : List (List Nat) := if T 0 a = 3 then (if rel = 0 then [fr l :: l] else if rel = 1 then [v :: l] else (List.range (fr l + 1)).map (· :: l)) else [l]
/-- the attacker can force a win within so many rounds -/
def win (T : Tb) (rel : Nat) : Nat → Nat → Nat → List Nat → Bool
  | 0, _, _, _ => false
  | k + 1, p, q, l =>
    ((mvs T p l).any fun a => (nms T rel a l).any fun v => (mvs T q l).all fun b => !agr T l a b || (nxt T rel a v l).any fun l' => win T rel k (T 3 a) (T 3 b) l') ||
    ((mvs T q l).any fun a => (nms T rel a l).any fun v => (mvs T p l).all fun b => !agr T l a b || (nxt T rel a v l).any fun l' => win T rel k (T 3 a) (T 3 b) l')
def flw (T : Tb) (rel k a v b : Nat) (l : List Nat) : Bool := (nxt T rel a v l).any fun l' => win T rel k (T 3 a) (T 3 b) l'
def hld (T : Tb) (rel k a v q : Nat) (l : List Nat) : Bool := (mvs T q l).all fun b => !agr T l a b || flw T rel k a v b l
def sid (T : Tb) (rel k p q : Nat) (l : List Nat) : Bool := (mvs T p l).any fun a => (nms T rel a l).any fun v => hld T rel k a v q l
theorem win_eq (T : Tb) (rel k p q : Nat) (l : List Nat) : win T rel (k + 1) p q l = (sid T rel k p q l || sid T rel k q p l) := rfl
theorem agr_refl (l : List Nat) (a : Nat) : agr T l a a = true := by simp [agr]
theorem agr_symm (l : List Nat) (a b : Nat) : agr T l a b = agr T l b a := by
  simp only [agr, Bool.beq_comm]
theorem win_symm (rel : Nat) : ∀ (k p q : Nat) (l : List Nat), win T rel k p q l = win T rel k q p l := by
  intro k p q l
  cases k with
  | zero => rfl
  | succ k => rw [win_eq, win_eq, Bool.or_comm]
theorem win_refl (rel : Nat) : ∀ (k p : Nat) (l : List Nat), win T rel k p p l = false := by
  intro k
  induction k with
  | zero => intros; rfl
  | succ k ih =>
    intro p l
    rw [win_eq, Bool.or_self]
    unfold sid
    rw [List.any_eq_false]
    intro a ha
    rw [Bool.not_eq_true, List.any_eq_false]
    intro v hv
    rw [Bool.not_eq_true]
    unfold hld
    rw [List.all_eq_false]
    refine ⟨a, ha, ?_⟩
    rw [agr_refl]
    simp only [flw, Bool.not_true, Bool.false_or, Bool.not_eq_true, List.any_eq_false]
    intro l' _
    rw [ih]
theorem win_mono (rel : Nat) : ∀ (k p q : Nat) (l : List Nat), win T rel k p q l = true → win T rel (k + 1) p q l = true := by
  intro k
  induction k with
  | zero => intro p q l h; cases h
  | succ k ih =>
    have key : ∀ p q l, sid T rel k p q l = true → sid T rel (k + 1) p q l = true := by
      intro p q l h
      unfold sid at h ⊢
      obtain ⟨a, ha, h⟩ := List.any_eq_true.mp h
      obtain ⟨v, hv, h⟩ := List.any_eq_true.mp h
      refine List.any_eq_true.mpr ⟨a, ha, List.any_eq_true.mpr ⟨v, hv, ?_⟩⟩
      unfold hld at h ⊢
      refine List.all_eq_true.mpr fun b hb => ?_
      have h := List.all_eq_true.mp h b hb
      simp only [Bool.or_eq_true, flw, List.any_eq_true] at h ⊢
      rcases h with h | ⟨l', hl, h⟩
      · exact Or.inl h
      · exact Or.inr ⟨l', hl, ih _ _ _ h⟩
    intro p q l h
    rw [win_eq, Bool.or_eq_true] at h ⊢
    exact h.imp (key _ _ _) (key _ _ _)
theorem win_le (rel : Nat) {j k p q : Nat} {l : List Nat} (hjk : j ≤ k) (h : win T rel j p q l = true) : win T rel k p q l = true := by
  induction hjk with
  | refl => exact h
  | step _ ih => exact win_mono rel _ _ _ _ ih
/-- no more rounds than the depth -/
theorem win_depth (hW : WF T n) (rel : Nat) : ∀ (k p q : Nat) (l : List Nat), p < n → q < n → T 5 p ≤ k → T 5 q ≤ k → win T rel (k + 1) p q l = true → win T rel k p q l = true := by
  intro k
  induction k with
  | zero =>
    intro p q l hp hq h1 h2 h
    have e : ∀ p, p < n → T 5 p ≤ 0 → mvs T p l = [] := by
      intro p hp h5
      rcases hm : mvs T p l with _ | ⟨a, r⟩
      · rfl
      · obtain ⟨a1, a2, a3, a4, a5, a6⟩ := mvs_mem hW hp (l := l) (a := a) (by rw [hm]; exact List.mem_cons_self)
        have := act_facts hW (by omega) a3 a4
        omega
    rw [win_eq] at h
    simp [sid, e p hp h1, e q hq h2] at h
  | succ k ih =>
    have key : ∀ p q l, p < n → q < n → T 5 p ≤ k + 1 → T 5 q ≤ k + 1 → sid T rel (k + 1) p q l = true → sid T rel k p q l = true := by
      intro p q l hp hq h1 h2 h
      unfold sid at h ⊢
      obtain ⟨a, ha, h⟩ := List.any_eq_true.mp h
      obtain ⟨v, hv, h⟩ := List.any_eq_true.mp h
      refine List.any_eq_true.mpr ⟨a, ha, List.any_eq_true.mpr ⟨v, hv, ?_⟩⟩
      unfold hld at h ⊢
      refine List.all_eq_true.mpr fun b hb => ?_
      have h := List.all_eq_true.mp h b hb
      simp only [Bool.or_eq_true, flw, List.any_eq_true] at h ⊢
      rcases h with h | ⟨l', hl, h⟩
      · exact Or.inl h
      · obtain ⟨a1, a2, a3, a4, a5, a6⟩ := mvs_mem hW hp ha
        obtain ⟨b1, b2, b3, b4, b5, b6⟩ := mvs_mem hW hq hb
        obtain ⟨-, -, c3, c5, -⟩ := act_facts hW (by omega) a3 a4
        obtain ⟨-, -, d3, d5, -⟩ := act_facts hW (by omega) b3 b4
        exact Or.inr ⟨l', hl, ih _ _ _ (by omega) (by omega) (by omega) (by omega) h⟩
    intro p q l hp hq h1 h2 h
    rw [win_eq, Bool.or_eq_true] at h ⊢
    exact h.imp (key _ _ _ hp hq h1 h2) (key _ _ _ hq hp h2 h1)
theorem win_stop (hW : WF T n) (rel : Nat) {j k p q : Nat} {l : List Nat} (hp : p < n) (hq : q < n) (h1 : T 5 p ≤ j) (h2 : T 5 q ≤ j) (hjk : j ≤ k) : win T rel k p q l = win T rel j p q l := by
  induction hjk with
  | refl => rfl
  | @step m hm ih =>
    rw [← ih]
    rw [Bool.eq_iff_iff]
    exact ⟨win_depth hW rel _ _ _ _ hp hq (by have : j ≤ m := hm; omega) (by have : j ≤ m := hm; omega), win_mono rel _ _ _ _⟩
/-- the least number of rounds up to k, or 4 -/
def Sp (r : Nat) (P : Nat → Bool) (k : Nat) : Prop := (r ≤ k ∨ r = 4) ∧ ∀ j, j ≤ k → (r ≤ j ↔ P j = true)
/-- tables that agree below n say the same there -/
theorem acts_congr {T' : Tb} {n' : Nat} (hW : WF T n) (hW' : WF T' n') (hn : n ≤ n') (hT : ∀ f p, p < n → T' f p = T f p) : ∀ p, p < n → acts T' p = acts T p := by
  intro p
  induction p using Nat.strongRecOn with
  | ind p ih =>
    intro hp
    rw [acts_eq hW hp, acts_eq hW' (by omega)]
    simp only [hT _ _ hp]
    split
    · rfl
    · rename_i h0
      have hp0 : 0 < p := by
        rcases Nat.eq_zero_or_pos p with h | h
        · subst h; exact absurd hW.2.1.1 h0
        · exact h
      obtain ⟨⟨-, -, -, -, h3, h4⟩, -⟩ := hW.2.2 p hp0 hp
      split
      · rfl
      · split
        · rw [ih _ h3 (by omega)]
        · rw [ih _ h3 (by omega), ih _ h4 (by omega)]
theorem win_congr {T' : Tb} {n' : Nat} (hW : WF T n) (hW' : WF T' n') (hn : n ≤ n') (hT : ∀ f p, p < n → T' f p = T f p) (rel : Nat) : ∀ k p q l, p < n → q < n → win T' rel k p q l = win T rel k p q l := by
  have hm : ∀ p l, p < n → mvs T' p l = mvs T p l := fun p l hp => by unfold mvs; rw [acts_congr hW hW' hn hT p hp]
  intro k
  induction k with
  | zero => intros; rfl
  | succ k ih =>
    have key : ∀ p q l, p < n → q < n → sid T' rel k p q l = sid T rel k p q l := by
      intro p q l hp hq
      unfold sid
      rw [hm p l hp]
      refine List.any_congr_of ?_
      intro a ha
      obtain ⟨a1, a2, a3, a4, -⟩ := mvs_mem hW hp ha
      have han : a < n := by omega
      have hpa := (hW.part han).2.2.1
      have e1 : nms T' rel a l = nms T rel a l := by unfold nms; rw [hT _ _ han]
      rw [e1]
      refine List.any_congr_of ?_
      intro v hv
      unfold hld
      rw [hm q l hq]
      refine List.all_congr_of ?_
      intro b hb
      obtain ⟨b1, b2, b3, b4, -⟩ := mvs_mem hW hq hb
      have hbn : b < n := by omega
      have hpb := (hW.part hbn).2.2.1
      have e2 : agr T' l a b = agr T l a b := by unfold agr; simp only [hT _ _ han, hT _ _ hbn]
      have e3 : nxt T' rel a v l = nxt T rel a v l := by unfold nxt; simp only [hT _ _ han]
      unfold flw
      rw [e2, e3]
      congr 1
      refine List.any_congr_of ?_
      intro l' _
      rw [hT _ _ han, hT _ _ hbn]
      exact ih _ _ _ hpa hpb
    intro p q l hp hq
    rw [win_eq, win_eq, key p q l hp hq, key q p l hq hp]
end SPEC

