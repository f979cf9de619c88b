/-! # functional level, 31: the search for the best placing, with no memory -/
section
abbrev ST : Type := Nat × (Nat → Int32)
def uN (f : Nat → Nat) (k v : Nat) : Nat → Nat := fun i => if i = k then v else f i
def uV (f : Nat → Int32) (k : Nat) (v : Int32) : Nat → Int32 := fun i => if i = k then v else f i
def fz (f : Nat → ST → ST) (c : Nat → Bool) : Nat → ST → ST
  | 0, st => st
  | k + 1, st => if c k = true then f k (fz f c k st) else fz f c k st
def ft (x : Nat) (room : Nat → Nat) (r : Nat) : Bool := decide (0 < x ∧ x ≤ room r)
def fu (v : Nat → Nat) (R : Nat) : Nat → Nat → (Nat → Nat) → Nat → (Nat → Int32) → ST → ST
  | 0, _, _, L, now, st => if st.1 ≤ L then (L + 1, now) else st
  | d + 1, b, room, L, now, st => fu v R d (b + 1) room L (uV now b (nI 4294967295)) (fz (fun r => fu v R d (b + 1) (uN room r (room r - v b)) (L + v b) (uV now b (nI r))) (ft (v b) room) R st)
def mz (f : Nat → Nat) (c : Nat → Bool) : Nat → Nat
  | 0 => 0
  | k + 1 => if c k = true then max (f k) (mz f c k) else mz f c k
def gz (v : Nat → Nat) (R : Nat) : Nat → Nat → (Nat → Nat) → Nat
  | 0, _, _ => 0
  | d + 1, b, room => max (gz v R d (b + 1) room) (mz (fun r => v b + gz v R d (b + 1) (uN room r (room r - v b))) (ft (v b) room) R)
def lz (v : Nat → Nat) : Nat → Nat → Nat
  | 0, _ => 0
  | d + 1, b => v b + lz v d (b + 1)
theorem mz_ge {f : Nat → Nat} {c : Nat → Bool} : ∀ {n k : Nat}, k < n → c k = true → f k ≤ mz f c n := by
  intro n
  induction n with
  | zero => intro k h _; omega
  | succ n ih =>
    intro k h hc
    unfold mz
    by_cases e : k = n
    · subst e; rw [if_pos hc]; omega
    · have := ih (by omega : k < n) hc
      by_cases cn : c n = true
      · rw [if_pos cn]; omega
      · rw [if_neg cn]; exact this
theorem mz_le {f : Nat → Nat} {c : Nat → Bool} {x : Nat} : ∀ {n : Nat}, (∀ k, k < n → c k = true → f k ≤ x) → mz f c n ≤ x := by
  intro n
  induction n with
  | zero => intro _; unfold mz; omega
  | succ n ih =>
    intro h
    have i := ih (fun k hk => h k (by omega))
    unfold mz
    by_cases cn : c n = true
    · rw [if_pos cn]; have := h n (by omega) cn; omega
    · rw [if_neg cn]; exact i
variable {v : Nat → Nat} {R : Nat}
theorem ft_t {x r : Nat} {room : Nat → Nat} : ft x room r = true ↔ 0 < x ∧ x ≤ room r := decide_eq_true_iff
theorem gz_no (d b : Nat) (room : Nat → Nat) : gz v R d (b + 1) room ≤ gz v R (d + 1) b room := by
  show _ ≤ max _ _; omega
theorem gz_yes {d b r : Nat} {room : Nat → Nat} (h : r < R) (hc : ft (v b) room r = true) : v b + gz v R d (b + 1) (uN room r (room r - v b)) ≤ gz v R (d + 1) b room := by
  have := mz_ge (f := fun r => v b + gz v R d (b + 1) (uN room r (room r - v b))) h hc
  show _ ≤ max _ _; omega
theorem gz_le {d b x : Nat} {room : Nat → Nat} (h0 : gz v R d (b + 1) room ≤ x) (h : ∀ r, r < R → ft (v b) room r = true → v b + gz v R d (b + 1) (uN room r (room r - v b)) ≤ x) : gz v R (d + 1) b room ≤ x := by
  have := mz_le (f := fun r => v b + gz v R d (b + 1) (uN room r (room r - v b))) h
  show max _ _ ≤ _; omega
/-- nothing better below: nothing changes -/
theorem fu_id : ∀ (d b : Nat) (room : Nat → Nat) (L : Nat) (now : Nat → Int32) (st : ST), L + gz v R d b room < st.1 → fu v R d b room L now st = st := by
  intro d
  induction d with
  | zero => intro b room L now st h; unfold fu; rw [if_neg]; unfold gz at h; omega
  | succ d ih =>
    intro b room L now st h
    have hf : ∀ n, n ≤ R → fz (fun r => fu v R d (b + 1) (uN room r (room r - v b)) (L + v b) (uV now b (nI r))) (ft (v b) room) n st = st := by
      intro n
      induction n with
      | zero => intro _; rfl
      | succ n ih2 =>
        intro hn
        have i := ih2 (by omega)
        unfold fz
        by_cases cn : ft (v b) room n = true
        · rw [if_pos cn, i]
          have := gz_yes (v := v) (R := R) (d := d) (b := b) (show n < R by omega) cn
          exact ih _ _ _ _ _ (by omega)
        · rw [if_neg cn]; exact i
    unfold fu
    rw [hf R (by omega)]
    have := gz_no (v := v) (R := R) d b room
    exact ih _ _ _ _ _ (by omega)
/-- what was reached is at least the best below, and never less than before -/
theorem fu_ge : ∀ (d b : Nat) (room : Nat → Nat) (L : Nat) (now : Nat → Int32) (st : ST), st.1 ≤ (fu v R d b room L now st).1 ∧ L + gz v R d b room < (fu v R d b room L now st).1 := by
  intro d
  induction d with
  | zero =>
    intro b room L now st
    unfold fu gz
    by_cases c : st.1 ≤ L
    · rw [if_pos c]; exact ⟨by show st.1 ≤ L + 1; omega, by show L + 0 < L + 1; omega⟩
    · rw [if_neg c]; omega
  | succ d ih =>
    intro b room L now st
    have hf : ∀ n, st.1 ≤ (fz (fun r => fu v R d (b + 1) (uN room r (room r - v b)) (L + v b) (uV now b (nI r))) (ft (v b) room) n st).1 ∧ ∀ r, r < n → ft (v b) room r = true → L + v b + gz v R d (b + 1) (uN room r (room r - v b)) < (fz (fun r => fu v R d (b + 1) (uN room r (room r - v b)) (L + v b) (uV now b (nI r))) (ft (v b) room) n st).1 := by
      intro n
      induction n with
      | zero => exact ⟨Nat.le_refl _, fun r h => by omega⟩
      | succ n ih2 =>
        unfold fz
        by_cases cn : ft (v b) room n = true
        · rw [if_pos cn]
          have i := ih (b + 1) (uN room n (room n - v b)) (L + v b) (uV now b (nI n)) (fz (fun r => fu v R d (b + 1) (uN room r (room r - v b)) (L + v b) (uV now b (nI r))) (ft (v b) room) n st)
          refine ⟨by omega, fun r hr hc => ?_⟩
          by_cases e : r = n
          · subst e; exact i.2
          · have := ih2.2 r (by omega) hc; omega
        · rw [if_neg cn]
          refine ⟨ih2.1, fun r hr hc => ?_⟩
          by_cases e : r = n
          · subst e; exact absurd hc cn
          · exact ih2.2 r (by omega) hc
    have i := ih (b + 1) room L (uV now b (nI 4294967295)) (fz (fun r => fu v R d (b + 1) (uN room r (room r - v b)) (L + v b) (uV now b (nI r))) (ft (v b) room) R st)
    unfold fu
    refine ⟨Nat.le_trans (hf R).1 i.1, ?_⟩
    have g : gz v R (d + 1) b room ≤ (fu v R d (b + 1) room L (uV now b (nI 4294967295)) (fz (fun r => fu v R d (b + 1) (uN room r (room r - v b)) (L + v b) (uV now b (nI r))) (ft (v b) room) R st)).1 - L - 1 := by
      refine gz_le (by omega) (fun r hr hc => ?_)
      have := (hf R).2 r hr hc
      omega
    omega
/-- two rows changed for each other: the same gain -/
def sw (a b i : Nat) : Nat := if i = a then b else if i = b then a else i
theorem sw_lt {a b i n : Nat} (ha : a < n) (hb : b < n) (hi : i < n) : sw a b i < n := by
  unfold sw; repeat' split
  all_goals omega
theorem sw_sw (a b i : Nat) : sw a b (sw a b i) = i := by
  unfold sw; repeat' split
  all_goals omega
theorem sw_up {a b r x : Nat} {room : Nat → Nat} : uN (fun i => room (sw a b i)) r x = fun i => uN room (sw a b r) x (sw a b i) := by
  funext i
  unfold uN
  by_cases e : i = r
  · subst e; rw [if_pos rfl, if_pos rfl]
  · rw [if_neg e, if_neg]
    intro h
    exact e (by rw [← sw_sw a b i, h, sw_sw])
theorem gz_sw {a b : Nat} (ha : a < R) (hb : b < R) : ∀ (d k : Nat) (room : Nat → Nat), gz v R d k (fun i => room (sw a b i)) = gz v R d k room := by
  have le : ∀ (d k : Nat) (room : Nat → Nat), gz v R d k (fun i => room (sw a b i)) ≤ gz v R d k room := by
    intro d
    induction d with
    | zero => intro k room; exact Nat.le_refl _
    | succ d ih =>
      intro k room
      refine gz_le (Nat.le_trans (ih (k + 1) room) (gz_no ..)) (fun r hr hc => ?_)
      have e := gz_yes (v := v) (R := R) (d := d) (b := k) (room := room) (sw_lt ha hb hr) (ft_t.mpr (ft_t.mp hc))
      rw [sw_up]
      have i := ih (k + 1) (uN room (sw a b r) (room (sw a b r) - v k))
      exact Nat.le_trans (Nat.add_le_add_left i _) e
  intro d k room
  refine Nat.le_antisymm (le d k room) ?_
  have := le d k (fun i => room (sw a b i))
  have e : (fun i => (fun i => room (sw a b i)) (sw a b i)) = room := by funext i; show room (sw a b (sw a b i)) = _; rw [sw_sw]
  rw [e] at this
  exact this
theorem like_up {a b x : Nat} {room : Nat → Nat} (h : room a = room b) : uN room b (room b - x) = fun i => uN room a (room a - x) (sw a b i) := by
  funext i
  unfold uN sw
  by_cases e : i = b
  · subst e
    by_cases e2 : i = a
    · subst e2; rw [if_pos rfl, if_pos rfl, if_pos rfl]
    · rw [if_pos rfl, if_neg e2, if_pos rfl, if_pos rfl, h]
  · rw [if_neg e]
    by_cases e2 : i = a
    · subst e2; rw [if_pos rfl, if_neg (fun q => e q.symm)]; exact h
    · rw [if_neg e2, if_neg e, if_neg e2]
/-- a row like a lower one: nothing changes -/
theorem fz_like {d b L a r n : Nat} {room : Nat → Nat} {now : Nat → Int32} {st : ST} (ha : a < r) (hr : r < R) (hn : r ≤ n) (e : room a = room r) (hc : ft (v b) room r = true) : fu v R d (b + 1) (uN room r (room r - v b)) (L + v b) (uV now b (nI r)) (fz (fun r => fu v R d (b + 1) (uN room r (room r - v b)) (L + v b) (uV now b (nI r))) (ft (v b) room) n st) = fz (fun r => fu v R d (b + 1) (uN room r (room r - v b)) (L + v b) (uV now b (nI r))) (ft (v b) room) n st := by
  have hca : ft (v b) room a = true := ft_t.mpr (by rw [e]; exact ft_t.mp hc)
  refine fu_id _ _ _ _ _ _ ?_
  rw [like_up e, gz_sw (by omega) hr]
  have key : ∀ n, a < n → L + v b + gz v R d (b + 1) (uN room a (room a - v b)) < (fz (fun r => fu v R d (b + 1) (uN room r (room r - v b)) (L + v b) (uV now b (nI r))) (ft (v b) room) n st).1 := by
    intro n
    induction n with
    | zero => intro h; omega
    | succ n ih =>
      intro h
      unfold fz
      by_cases c : ft (v b) room n = true
      · rw [if_pos c]
        have i := fu_ge (v := v) (R := R) d (b + 1) (uN room n (room n - v b)) (L + v b) (uV now b (nI n)) (fz (fun r => fu v R d (b + 1) (uN room r (room r - v b)) (L + v b) (uV now b (nI r))) (ft (v b) room) n st)
        by_cases q : a = n
        · subst q; exact i.2
        · exact Nat.lt_of_lt_of_le (ih (by omega)) i.1
      · rw [if_neg c]
        by_cases q : a = n
        · subst q; exact absurd hca c
        · exact ih (by omega)
  exact key n (by omega)
theorem gz_lz : ∀ (d b : Nat) (room : Nat → Nat), gz v R d b room ≤ lz v d b := by
  intro d
  induction d with
  | zero => intro b room; exact Nat.le_refl _
  | succ d ih =>
    intro b room
    show _ ≤ v b + lz v d (b + 1)
    refine gz_le ?_ (fun r _ _ => ?_)
    · have := ih (b + 1) room; omega
    · have := ih (b + 1) (uN room r (room r - v b)); omega
theorem sm_uN {room : Nat → Nat} {r x : Nat} : ∀ {n : Nat}, r < n → x ≤ room r → sm n (uN room r (room r - x)) + x = sm n room := by
  have same : ∀ n, n ≤ r → sm n (uN room r (room r - x)) = sm n room := by
    intro n
    induction n with
    | zero => intro _; rfl
    | succ n ih =>
      intro h
      have i := ih (by omega)
      show sm n (uN room r (room r - x)) + uN room r (room r - x) n = sm n room + room n
      have : uN room r (room r - x) n = room n := if_neg (by omega)
      omega
  intro n
  induction n with
  | zero => intro h; omega
  | succ n ih =>
    intro h hx
    show sm n (uN room r (room r - x)) + uN room r (room r - x) n + x = sm n room + room n
    by_cases e : r = n
    · subst e
      have q := same r (by omega)
      have : uN room r (room r - x) r = room r - x := if_pos rfl
      omega
    · have i := ih (by omega) hx
      have : uN room r (room r - x) n = room n := if_neg (by omega)
      omega
theorem gz_sm : ∀ (d b : Nat) (room : Nat → Nat), gz v R d b room ≤ sm R room := by
  intro d
  induction d with
  | zero => intro b room; exact Nat.zero_le _
  | succ d ih =>
    intro b room
    refine gz_le (ih (b + 1) room) (fun r hr hc => ?_)
    have := ih (b + 1) (uN room r (room r - v b))
    have := sm_uN (x := v b) hr (ft_t.mp hc).2
    omega
/-- bids too wide for every row may be left out -/
theorem fz_cg {f g : Nat → ST → ST} {c e : Nat → Bool} : ∀ {n : Nat} {st : ST}, (∀ k, k < n → c k = e k) → (∀ k s, k < n → c k = true → f k s = g k s) → fz f c n st = fz g e n st := by
  intro n
  induction n with
  | zero => intro st _ _; rfl
  | succ n ih =>
    intro st h1 h2
    have i := ih (st := st) (fun k hk => h1 k (by omega)) (fun k s hk => h2 k s (by omega))
    unfold fz
    rw [i, h1 n (by omega)]
    by_cases q : e n = true
    · rw [if_pos q, if_pos q, h2 n _ (by omega) (by rw [h1 n (by omega)]; exact q)]
    · rw [if_neg q, if_neg q]
theorem fu_cg {x n : Nat} {v2 : Nat → Nat} (hv : ∀ b, b < n → v2 b = if v b ≤ x then v b else 0) : ∀ (d b : Nat) (room : Nat → Nat) (L : Nat) (now : Nat → Int32) (st : ST), b + d ≤ n → (∀ r, r < R → room r ≤ x) → fu v2 R d b room L now st = fu v R d b room L now st := by
  intro d
  induction d with
  | zero => intro b room L now st _ _; rfl
  | succ d ih =>
    intro b room L now st hbn hr
    unfold fu
    rw [ih (b + 1) room L _ _ (by omega) hr]
    congr 1
    by_cases c : v b ≤ x
    · have e : v2 b = v b := by rw [hv b (by omega), if_pos c]
      rw [e]
      refine fz_cg (fun k _ => rfl) (fun k s hk hc => ?_)
      refine ih _ _ _ _ _ (by omega) (fun r h => ?_)
      unfold uN
      have := hr r h
      split
      · rename_i q; subst q; omega
      · exact this
    · have e : v2 b = 0 := by rw [hv b (by omega), if_neg c]
      rw [e]
      refine fz_cg (fun k hk => ?_) (fun k s hk hc => ?_)
      · have := hr k hk
        have q1 : ¬ ft 0 room k = true := fun q => by have := ft_t.mp q; omega
        have q2 : ¬ ft (v b) room k = true := fun q => by have := ft_t.mp q; omega
        rw [Bool.eq_false_iff.mpr q1, Bool.eq_false_iff.mpr q2]
      · have := ft_t.mp hc; omega
end
