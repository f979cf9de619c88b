/-! # functional level, 44: reading a word -/
section
variable {M M' M1 M2 N : Mm} {t m E a k f n : Nat} {T : Nat → Nat}
def isSm (x : Nat) : Bool := decide (97 ≤ x ∧ x ≤ 122)
theorem isSm_t {x : Nat} : isSm x = true ↔ 97 ≤ x ∧ x ≤ 122 := decide_eq_true_iff
/-- the run of small letters -/
def rl (T : Nat → Nat) : Nat → Nat → List Nat
  | 0, _ => []
  | d + 1, a => if isSm (T a) = true then T a :: rl T d (a + 1) else []
theorem rl_sm {T : Nat → Nat} : ∀ d a x, x ∈ rl T d a → 97 ≤ x ∧ x ≤ 122
  | 0, _, x => fun h => nomatch h
  | d + 1, a, x => fun h => by
    unfold rl at h
    by_cases c : isSm (T a) = true
    · rw [if_pos c] at h
      rcases List.mem_cons.mp h with q | q
      · rw [q]; exact isSm_t.mp c
      · exact rl_sm d (a + 1) x q
    · rw [if_neg c] at h; exact nomatch h
theorem rl_len {T : Nat → Nat} : ∀ d a, (rl T d a).length ≤ d
  | 0, _ => Nat.le_refl _
  | d + 1, a => by
    unfold rl
    have i := rl_len (T := T) d (a + 1)
    split
    · show (rl T d (a + 1)).length + 1 ≤ d + 1; omega
    · exact Nat.zero_le _
theorem rl_at {T : Nat → Nat} : ∀ d a i, i < (rl T d a).length → (rl T d a)[i]? = some (T (a + i))
  | 0, _, i => fun h => by have : i < 0 := h; omega
  | d + 1, a, i => fun h => by
    unfold rl at h ⊢
    by_cases c : isSm (T a) = true
    · rw [if_pos c] at h ⊢
      cases i with
      | zero => rfl
      | succ i =>
        have e := rl_at (T := T) d (a + 1) i (by have : i + 1 < (rl T d (a + 1)).length + 1 := h; omega)
        rw [show a + (i + 1) = a + 1 + i by omega]; exact e
    · rw [if_neg c] at h; exact absurd h (by show ¬ i < 0; omega)
/-- the number of a word -/
def wcd (x : Nat) : List Nat → Nat
  | [] => x
  | c :: l => wcd (27 * x + (c - 96)) l
theorem wcd_inj : ∀ (l1 l2 : List Nat) (x y : Nat), l1.length = l2.length → (∀ c, c ∈ l1 → 97 ≤ c ∧ c ≤ 122) → (∀ c, c ∈ l2 → 97 ≤ c ∧ c ≤ 122) → wcd x l1 = wcd y l2 → x = y ∧ l1 = l2
  | [], [], x, y => fun _ _ _ h => ⟨h, rfl⟩
  | [], _ :: _, _, _ => fun h => nomatch h
  | _ :: _, [], _, _ => fun h => nomatch h
  | c :: l1, e :: l2, x, y => fun h h1 h2 q => by
    have i := wcd_inj l1 l2 (27 * x + (c - 96)) (27 * y + (e - 96)) (Nat.succ.inj h) (fun z hz => h1 z (List.mem_cons_of_mem _ hz)) (fun z hz => h2 z (List.mem_cons_of_mem _ hz)) q
    have a1 := h1 c List.mem_cons_self
    have a2 := h2 e List.mem_cons_self
    refine ⟨by omega, ?_⟩
    rw [i.2, show c = e by omega]
theorem wcd_app : ∀ (l1 l2 : List Nat) (x : Nat), wcd x (l1 ++ l2) = wcd (wcd x l1) l2
  | [], _, _ => rfl
  | c :: l1, l2, x => wcd_app l1 l2 (27 * x + (c - 96))
theorem wcd_pos : ∀ (l : List Nat) (x : Nat), (∀ c, c ∈ l → 97 ≤ c ∧ c ≤ 122) → 0 < x ∨ l ≠ [] → 0 < wcd x l
  | [], x => fun _ h => by
    rcases h with h | h
    · exact h
    · exact absurd rfl h
  | c :: l, x => fun h1 _ => by
    have := h1 c List.mem_cons_self
    exact wcd_pos l (27 * x + (c - 96)) (fun z hz => h1 z (List.mem_cons_of_mem _ hz)) (Or.inl (by omega))
theorem wcd_lt : ∀ (l : List Nat) (x : Nat), (∀ c, c ∈ l → 97 ≤ c ∧ c ≤ 122) → wcd x l < (x + 1) * 27 ^ l.length
  | [], x => fun _ => by show x < (x + 1) * 27 ^ 0; omega
  | c :: l, x => fun h1 => by
    have a1 := h1 c List.mem_cons_self
    have i := wcd_lt l (27 * x + (c - 96)) (fun z hz => h1 z (List.mem_cons_of_mem _ hz))
    have e : (x + 1) * 27 ^ (l.length + 1) = (27 * x + 27) * 27 ^ l.length := by rw [Nat.pow_succ, Nat.mul_comm (27 ^ l.length) 27, ← Nat.mul_assoc]; congr 1; omega
    show wcd (27 * x + (c - 96)) l < (x + 1) * 27 ^ (l.length + 1)
    rw [e]
    exact Nat.lt_of_lt_of_le i (Nat.mul_le_mul_right _ (by omega))
theorem wcd_eq {l1 l2 : List Nat} (h1 : ∀ c, c ∈ l1 → 97 ≤ c ∧ c ≤ 122) (h2 : ∀ c, c ∈ l2 → 97 ≤ c ∧ c ≤ 122) (h : wcd 0 l1 = wcd 0 l2) : l1 = l2 := by
  have half : ∀ (l1 l2 : List Nat), (∀ c, c ∈ l1 → 97 ≤ c ∧ c ≤ 122) → (∀ c, c ∈ l2 → 97 ≤ c ∧ c ≤ 122) → wcd 0 l1 = wcd 0 l2 → ¬ l1.length < l2.length := by
    intro l1 l2 h1 h2 h q
    have e := List.take_append_drop (l2.length - l1.length) l2
    rw [← e, wcd_app] at h
    have m1 : ∀ c, c ∈ l2.take (l2.length - l1.length) → 97 ≤ c ∧ c ≤ 122 := fun c hc => h2 c (List.mem_of_mem_take hc)
    have m2 : ∀ c, c ∈ l2.drop (l2.length - l1.length) → 97 ≤ c ∧ c ≤ 122 := fun c hc => h2 c (List.mem_of_mem_drop hc)
    have i := wcd_inj l1 (l2.drop (l2.length - l1.length)) 0 _ (by rw [List.length_drop]; omega) h1 m2 h
    have p := wcd_pos (l2.take (l2.length - l1.length)) 0 m1 (Or.inr (fun z => by
      have := congrArg List.length z
      rw [List.length_take] at this
      have z0 : ([] : List Nat).length = 0 := rfl
      omega))
    omega
  have a := half l1 l2 h1 h2 h
  have b := half l2 l1 h2 h1 h.symm
  exact (wcd_inj l1 l2 0 0 (by omega) h1 h2 h).2
end
