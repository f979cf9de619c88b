/-! # functional level, 1: numbers, memory, loops -/
theorem li0 : (0 : Int32) = nI 0 := id rfl
theorem li1 : (1 : Int32) = nI 1 := id rfl
theorem li2 : (2 : Int32) = nI 2 := id rfl
theorem li3 : (3 : Int32) = nI 3 := id rfl
theorem li4 : (4 : Int32) = nI 4 := id rfl
theorem li5 : (5 : Int32) = nI 5 := id rfl
theorem li6 : (6 : Int32) = nI 6 := id rfl
theorem li7 : (7 : Int32) = nI 7 := id rfl
theorem li8 : (8 : Int32) = nI 8 := id rfl
theorem li9 : (9 : Int32) = nI 9 := id rfl
theorem li10 : (10 : Int32) = nI 10 := id rfl
theorem li11 : (11 : Int32) = nI 11 := id rfl
theorem li12 : (12 : Int32) = nI 12 := id rfl
theorem li14 : (14 : Int32) = nI 14 := id rfl
theorem li15 : (15 : Int32) = nI 15 := id rfl
theorem li16 : (16 : Int32) = nI 16 := id rfl
theorem li18 : (18 : Int32) = nI 18 := id rfl
theorem li19 : (19 : Int32) = nI 19 := id rfl
theorem li20 : (20 : Int32) = nI 20 := id rfl
theorem li23 : (23 : Int32) = nI 23 := id rfl
theorem li24 : (24 : Int32) = nI 24 := id rfl
theorem li25 : (25 : Int32) = nI 25 := id rfl
theorem li26 : (26 : Int32) = nI 26 := id rfl
theorem li27 : (27 : Int32) = nI 27 := id rfl
theorem li30 : (30 : Int32) = nI 30 := id rfl
theorem li31 : (31 : Int32) = nI 31 := id rfl
theorem li32 : (32 : Int32) = nI 32 := id rfl
theorem li36 : (36 : Int32) = nI 36 := id rfl
theorem li40 : (40 : Int32) = nI 40 := id rfl
theorem li41 : (41 : Int32) = nI 41 := id rfl
theorem li42 : (42 : Int32) = nI 42 := id rfl
theorem li43 : (43 : Int32) = nI 43 := id rfl
theorem li44 : (44 : Int32) = nI 44 := id rfl
theorem li45 : (45 : Int32) = nI 45 := id rfl
theorem li47 : (47 : Int32) = nI 47 := id rfl
theorem li48 : (48 : Int32) = nI 48 := id rfl
theorem li57 : (57 : Int32) = nI 57 := id rfl
theorem li59 : (59 : Int32) = nI 59 := id rfl
theorem li60 : (60 : Int32) = nI 60 := id rfl
theorem li91 : (91 : Int32) = nI 91 := id rfl
theorem li93 : (93 : Int32) = nI 93 := id rfl
theorem li96 : (96 : Int32) = nI 96 := id rfl
theorem li97 : (97 : Int32) = nI 97 := id rfl
theorem li100 : (100 : Int32) = nI 100 := id rfl
theorem li105 : (105 : Int32) = nI 105 := id rfl
theorem li122 : (122 : Int32) = nI 122 := id rfl
theorem li150 : (150 : Int32) = nI 150 := id rfl
theorem li200 : (200 : Int32) = nI 200 := id rfl
theorem li255 : (255 : Int32) = nI 255 := id rfl
theorem li400 : (400 : Int32) = nI 400 := id rfl
theorem li500 : (500 : Int32) = nI 500 := id rfl
theorem li600 : (600 : Int32) = nI 600 := id rfl
theorem li999 : (999 : Int32) = nI 999 := id rfl
theorem li1000 : (1000 : Int32) = nI 1000 := id rfl
theorem li1001 : (1001 : Int32) = nI 1001 := id rfl
theorem li2000 : (2000 : Int32) = nI 2000 := id rfl
theorem li2001 : (2001 : Int32) = nI 2001 := id rfl
theorem li2002 : (2002 : Int32) = nI 2002 := id rfl
theorem li2003 : (2003 : Int32) = nI 2003 := id rfl
theorem li2004 : (2004 : Int32) = nI 2004 := id rfl
theorem li2005 : (2005 : Int32) = nI 2005 := id rfl
theorem li2006 : (2006 : Int32) = nI 2006 := id rfl
theorem li32767 : (32767 : Int32) = nI 32767 := id rfl
theorem li100000 : (100000 : Int32) = nI 100000 := id rfl
theorem li_neg : -(nI 1) = nI 4294967295 := by decide
theorem ofN (n : Nat) : Int32.ofNat n = nI n := id rfl
theorem bI_s {R : Type} (a : Int32) (m : Mm) (K : Int32 → Mm → Option R) : bI (some (a, m)) K = K a m := id rfl
theorem bL_s {R : Type} (a : Int64) (m : Mm) (K : Int64 → Mm → Option R) : bL (some (a, m)) K = K a m := id rfl
theorem bR_s {R : Type} (a : Nat) (m : Mm) (K : Nat → Mm → Option R) : bR (some (a, m)) K = K a m := id rfl
theorem bV_s {R : Type} (m : Mm) (K : Mm → Option R) : bV (some m) K = K m := id rfl
theorem bG_s {R : Type} (a : Nat) (K : Nat → Option R) (k0 : Option R) : bG (some a) K k0 = K a := id rfl
theorem bG_n {R : Type} (K : Nat → Option R) (k0 : Option R) : bG none K k0 = k0 := id rfl
theorem bX_l {β : Type} (m : Mm) (K : Mm → Option (β ⊕ (Nat × Mm))) : bX (some (Sum.inl m)) K = K m := id rfl
theorem bX_r {β : Type} (q : Nat × Mm) (K : Mm → Option (β ⊕ (Nat × Mm))) : bX (some (Sum.inr q)) K = some (Sum.inr q) := id rfl
theorem ck_nI {R : Type} {a n : Nat} (h : a < n) (hn : n < 2 ^ 31) (x : Option R) : ck (nI a) n x = x := by
  unfold ck; rw [if_neg (nI_in h hn)]
theorem nI_leT {a b : Nat} (h : a ≤ b) (hb : b < 2 ^ 31) : (nI a ≤ nI b) = True := eq_true (nI_le h hb)
theorem nI_leF {a b : Nat} (h : b < a) (hb : a < 2 ^ 31) : (nI a ≤ nI b) = False := eq_false (nI_ge h hb)
theorem nI_ltT {a b : Nat} (h : a < b) (hb : b < 2 ^ 31) : (nI a < nI b) = True := eq_true (nI_lt h hb)
theorem nI_ltF {a b : Nat} (h : b ≤ a) (hb : a < 2 ^ 31) : (nI a < nI b) = False := eq_false (nI_nlt h hb)
theorem nI_inj {a b : Nat} (ha : a < 2 ^ 32) (hb : b < 2 ^ 32) (h : nI a = nI b) : a = b := by
  have := congrArg (fun x : Int32 => x.toBitVec.toNat) h
  simp only [pk_tn ha, pk_tn hb] at this
  exact this
theorem nI_eqF {a b : Nat} (h : a ≠ b) (ha : a < 2 ^ 32) (hb : b < 2 ^ 32) : (nI a = nI b) = False := eq_false (fun e => h (nI_inj ha hb e))
theorem nI_eqI {a b : Nat} (ha : a < 2 ^ 32) (hb : b < 2 ^ 32) : (nI a = nI b) = (a = b) := propext ⟨nI_inj ha hb, fun h => by rw [h]⟩
theorem nI_leE {a b : Nat} (ha : a < 2 ^ 31) (hb : b < 2 ^ 31) : (nI a ≤ nI b) = (a ≤ b) := propext (nI_leI ha hb)
theorem nI_ltE {a b : Nat} (ha : a < 2 ^ 31) (hb : b < 2 ^ 31) : (nI a < nI b) = (a < b) := propext (nI_ltI ha hb)
theorem gI_same (M : Mm) (a j : Nat) (v : Int32) : gI (sI M a j v) a j = v := by rw [gI_sI, if_pos ⟨rfl, rfl⟩]
theorem gI_ne {M : Mm} {a j a' j' : Nat} {v : Int32} (h : a' ≠ a ∨ j' ≠ j) : gI (sI M a j v) a' j' = gI M a' j' := by
  rw [gI_sI, if_neg (fun e => by rcases h with h | h; exact h e.1; exact h e.2)]
theorem gI_eq2 {M : Mm} {a j a' j' : Nat} {v : Int32} (h : a' = a) (h2 : j' = j) : gI (sI M a j v) a' j' = v := by rw [gI_sI, if_pos ⟨h, h2⟩]
theorem gL_same (M : Mm) (a j : Nat) (v : Int64) : gL (sL M a j v) a j = v := by rw [gL_sL, if_pos ⟨rfl, rfl⟩]
theorem gL_ne {M : Mm} {a j a' j' : Nat} {v : Int64} (h : a' ≠ a ∨ j' ≠ j) : gL (sL M a j v) a' j' = gL M a' j' := by
  rw [gL_sL, if_neg (fun e => by rcases h with h | h; exact h e.1; exact h e.2)]
theorem gR_same (M : Mm) (a j : Nat) (v : Option Nat) : gR (sR M a j v) a j = v := by rw [gR_sR, if_pos ⟨rfl, rfl⟩]
theorem gR_ne {M : Mm} {a j a' j' : Nat} {v : Option Nat} (h : a' ≠ a ∨ j' ≠ j) : gR (sR M a j v) a' j' = gR M a' j' := by
  rw [gR_sR, if_neg (fun e => by rcases h with h | h; exact h e.1; exact h e.2)]
/-- memories alike -/
theorem Mm_ext {M N : Mm} (h1 : nx M = nx N) (h2 : kd M = kd N) (h3 : ∀ a j, gI M a j = gI N a j) (h4 : ∀ a j, gL M a j = gL N a j) (h5 : ∀ a j, gR M a j = gR N a j) : M = N := by
  obtain ⟨a, b, c, d, e⟩ := M
  obtain ⟨a', b', c', d', e'⟩ := N
  simp only [nx, kd, gI, gL, gR] at h1 h2 h3 h4 h5
  obtain rfl := h1
  obtain rfl := h2
  obtain rfl : c = c' := funext (fun a => funext (fun j => h3 a j))
  obtain rfl : d = d' := funext (fun a => funext (fun j => h4 a j))
  obtain rfl : e = e' := funext (fun a => funext (fun j => h5 a j))
  rfl
/-! ## bits -/
def bt (k : Nat) : Int32 := nI 1 <<< (nI k &&& nI 31)
theorem bt_e (k : Nat) : nI 1 <<< (nI k &&& nI 31) = bt k := id rfl
theorem or0 (x : Int32) : x ||| nI 0 = x := Int32.or_zero
def hs (x : Int32) (k : Nat) : Bool := decide (((x >>> (nI k &&& nI 31)) &&& nI 1) = nI 1)
theorem C_hasT {x : Int32} {k : Nat} {M : Mm} (h : hs x k = true) : f_C_hasBit x (nI k) M = some (nI 1, M) := if_pos (of_decide_eq_true h)
theorem C_hasF {x : Int32} {k : Nat} {M : Mm} (h : ¬ hs x k = true) : f_C_hasBit x (nI k) M = some (nI 0, M) := if_neg (fun e => h (decide_eq_true e))
theorem M_hasT {x : Int32} {k : Nat} {M : Mm} (h : hs x k = true) : f_M_has x (nI k) M = some (nI 1, M) := if_pos (of_decide_eq_true h)
theorem M_hasF {x : Int32} {k : Nat} {M : Mm} (h : ¬ hs x k = true) : f_M_has x (nI k) M = some (nI 0, M) := if_neg (fun e => h (decide_eq_true e))
/-! ## folds and loops -/
def fo {α : Type} : Nat → (Nat → α → α) → α → α
  | 0 => fun _ s => s
  | n + 1 => fun f s => f n (fo n f s)
def sm : Nat → (Nat → Nat) → Nat
  | 0 => fun _ => 0
  | n + 1 => fun f => sm n f + f n
theorem fo_congr {α : Type} {f g : Nat → α → α} {s : α} : ∀ n : Nat, (∀ k s, k < n → f k s = g k s) → fo n f s = fo n g s
  | 0 => fun _ => rfl
  | n + 1 => fun h => by
    show f n (fo n f s) = g n (fo n g s)
    rw [fo_congr n (fun k s hk => h k s (by omega)), h n _ (by omega)]
theorem fo_map {α β : Type} (φ : α → β) {f : Nat → α → α} {g : Nat → β → β} {s : α} : ∀ n : Nat, (∀ k s, k < n → φ (f k s) = g k (φ s)) → φ (fo n f s) = fo n g (φ s)
  | 0 => fun _ => rfl
  | n + 1 => fun h => by
    show φ (f n (fo n f s)) = g n (fo n g (φ s))
    rw [h n _ (by omega), fo_map φ n (fun k s hk => h k s (by omega))]
theorem fo_inv {α : Type} {f : Nat → α → α} (I : Nat → α → Prop) {s : α} (h0 : I 0 s) : ∀ n : Nat, (∀ k s, k < n → I k s → I (k + 1) (f k s)) → I n (fo n f s)
  | 0 => fun _ => h0
  | n + 1 => fun h => h n _ (by omega) (fo_inv I h0 n (fun k s hk => h k s (by omega)))
theorem fo_sm {f : Nat → Nat → Nat} {g : Nat → Nat} : ∀ n : Nat, (∀ k s, k < n → f k s = s + g k) → fo n f 0 = sm n g
  | 0 => fun _ => rfl
  | n + 1 => fun h => by
    show f n (fo n f 0) = sm n g + g n
    rw [h n _ (by omega), fo_sm n (fun k s hk => h k s (by omega))]
theorem sm_congr {f g : Nat → Nat} : ∀ n : Nat, (∀ k, k < n → f k = g k) → sm n f = sm n g
  | 0 => fun _ => rfl
  | n + 1 => fun h => by
    show sm n f + f n = sm n g + g n
    rw [sm_congr n (fun k hk => h k (by omega)), h n (by omega)]
theorem sm_le {f g : Nat → Nat} : ∀ n : Nat, (∀ k, k < n → f k ≤ g k) → sm n f ≤ sm n g
  | 0 => fun _ => Nat.le_refl _
  | n + 1 => fun h => by
    show sm n f + f n ≤ sm n g + g n
    have := sm_le n (fun k hk => h k (by omega)); have := h n (by omega); omega
theorem sm_mono {f : Nat → Nat} {i : Nat} : ∀ n : Nat, i ≤ n → sm i f ≤ sm n f
  | 0 => fun h => by
    obtain rfl : i = 0 := by omega
    exact Nat.le_refl _
  | n + 1 => fun h => by
    rcases Nat.lt_or_ge n i with h2 | h2
    · obtain rfl : i = n + 1 := by omega
      exact Nat.le_refl _
    · have := sm_mono (f := f) n h2
      show sm i f ≤ sm n f + f n
      omega
theorem sm_const (c : Nat) : ∀ n : Nat, sm n (fun _ => c) = n * c
  | 0 => by simp [sm]
  | n + 1 => by
    show sm n (fun _ => c) + c = (n + 1) * c
    rw [sm_const c n, Nat.succ_mul]
theorem sm_add {f g : Nat → Nat} : ∀ n : Nat, sm n (fun k => f k + g k) = sm n f + sm n g
  | 0 => rfl
  | n + 1 => by
    show sm n (fun k => f k + g k) + (f n + g n) = sm n f + f n + (sm n g + g n)
    rw [sm_add n]; omega
theorem sm_swap {f : Nat → Nat → Nat} (m : Nat) : ∀ n : Nat, sm n (fun k => sm m (f k)) = sm m (fun j => sm n (fun k => f k j))
  | 0 => by
    show 0 = sm m (fun _ => 0)
    rw [sm_const]; simp
  | n + 1 => by
    show sm n (fun k => sm m (f k)) + sm m (f n) = sm m (fun j => sm n (fun k => f k j) + f n j)
    rw [sm_swap m n, sm_add]
/-- a loop that goes up, with what it makes of its state -/
theorem lp_up {α R : Type} (F : Nat → Nat → α → R) (n : Nat) (f : Nat → α → α) (r : R) (s0 : α)
    (h1 : ∀ u i s, i < n → F (u + 1) i s = F u (i + 1) (f i s)) (h0 : ∀ u, F (u + 1) n (fo n f s0) = r) : ∀ u, n < u → F u 0 s0 = r := by
  have key : ∀ d i u, i + d = n → d < u → F u i (fo i f s0) = r := by
    intro d
    induction d with
    | zero =>
      intro i u hi hu
      obtain ⟨u, rfl⟩ : ∃ v, u = v + 1 := ⟨u - 1, by omega⟩
      obtain rfl : i = n := by omega
      exact h0 u
    | succ d ih =>
      intro i u hi hu
      obtain ⟨u, rfl⟩ : ∃ v, u = v + 1 := ⟨u - 1, by omega⟩
      rw [h1 u i _ (by omega)]
      exact ih (i + 1) u (by omega) (by omega)
  intro u hu
  exact key n 0 u (by omega) hu
/-- the same, with what stays true -/
theorem lp_upI {α R : Type} (F : Nat → Nat → α → R) (n : Nat) (f : Nat → α → α) (r : R) (s0 : α) (I : Nat → α → Prop) (hI : I 0 s0)
    (h1 : ∀ u i s, i < n → I i s → F (u + 1) i s = F u (i + 1) (f i s) ∧ I (i + 1) (f i s)) (h0 : ∀ u, I n (fo n f s0) → F (u + 1) n (fo n f s0) = r) : ∀ u, n < u → F u 0 s0 = r := by
  have key : ∀ d i u, i + d = n → d < u → I i (fo i f s0) → F u i (fo i f s0) = r := by
    intro d
    induction d with
    | zero =>
      intro i u hi hu hI
      obtain ⟨u, rfl⟩ : ∃ v, u = v + 1 := ⟨u - 1, by omega⟩
      obtain rfl : i = n := by omega
      exact h0 u hI
    | succ d ih =>
      intro i u hi hu hI
      obtain ⟨u, rfl⟩ : ∃ v, u = v + 1 := ⟨u - 1, by omega⟩
      have h := h1 u i _ (by omega) hI
      rw [h.1]
      exact ih (i + 1) u (by omega) (by omega) h.2
  intro u hu
  exact key n 0 u (by omega) hu hI
/-- a loop that goes up, with what stays true of its state, and what is true at its end -/
theorem lp_inv {α R : Type} (F : Nat → Nat → α → Option R) (n : Nat) (I : Nat → α → Prop) (Q : R → Prop)
    (h1 : ∀ u i s, i < n → I i s → (∃ s', F (u + 1) i s = F u (i + 1) s' ∧ I (i + 1) s') ∨ ∃ r, F (u + 1) i s = some r ∧ Q r) (h0 : ∀ u s, I n s → ∃ r, F (u + 1) n s = some r ∧ Q r)
    (i0 : Nat) (hi : i0 ≤ n) (s0 : α) (hI : I i0 s0) (u : Nat) (hu : n - i0 < u) : ∃ r, F u i0 s0 = some r ∧ Q r := by
  have key : ∀ d i u s, i + d = n → d < u → I i s → ∃ r, F u i s = some r ∧ Q r := by
    intro d
    induction d with
    | zero =>
      intro i u s hi hu hI
      obtain ⟨u, rfl⟩ : ∃ v, u = v + 1 := ⟨u - 1, by omega⟩
      obtain rfl : i = n := by omega
      exact h0 u s hI
    | succ d ih =>
      intro i u s hi hu hI
      obtain ⟨u, rfl⟩ : ∃ v, u = v + 1 := ⟨u - 1, by omega⟩
      rcases h1 u i s (by omega) hI with ⟨s', e, hI'⟩ | h
      · rw [e]; exact ih (i + 1) u s' (by omega) (by omega) hI'
      · exact h
  exact key (n - i0) i0 u s0 (by omega) hu hI
theorem FU_lt {n : Nat} (h : n < 10000) : n < FU := h
/-- how a loop goes on: a measure that falls -/
theorem lp_mes {α R : Type} (F : Nat → α → Option R) (μ : α → Nat) (I : α → Prop) (Q : R → Prop)
    (h1 : ∀ u s, I s → (∃ s', F (u + 1) s = F u s' ∧ I s' ∧ μ s' < μ s) ∨ ∃ r, F (u + 1) s = some r ∧ Q r) : ∀ u s, I s → μ s < u → ∃ r, F u s = some r ∧ Q r := by
  intro u
  induction u with
  | zero => intro s _ h; omega
  | succ u ih =>
    intro s hI hu
    rcases h1 u s hI with ⟨s', e, hI', hm⟩ | h
    · rw [e]; exact ih s' hI' (by omega)
    · exact h
