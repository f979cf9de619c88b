/-! # functional level: bits -/
theorem and31 {k : Nat} (hk : k < 32) : nI k &&& nI 31 = nI k := by
  rw [pk_andN (by omega) 5 (by decide), Nat.mod_eq_of_lt (by omega)]
theorem hs_bv {x : Int32} {k : Nat} (hk : k < 32) : hs x k = x.toBitVec.getLsbD k := by
  unfold hs
  rw [and31 hk, pk_and _ 1 (by decide)]
  have e : (x >>> nI k).toBitVec = x.toBitVec.sshiftRight k := by
    rw [Int32.toBitVec_shiftRight]
    have : ((nI k).toBitVec.smod 32).toNat = k := by
      have h1 : (nI k).toBitVec = BitVec.ofNat 32 k := rfl
      rw [h1]
      revert k
      decide
    rw [BitVec.sshiftRight_eq']
    rw [show ((nI k).toBitVec.smod 32).toNat = k from this]
  rw [e]
  have h2 : (x.toBitVec.sshiftRight k).toNat % 2 ^ 1 < 2 := Nat.mod_lt _ (by omega)
  have h3 : (x.toBitVec.sshiftRight k).getLsbD 0 = decide ((x.toBitVec.sshiftRight k).toNat % 2 = 1) := by
    rw [BitVec.getLsbD, Nat.testBit_zero]
  have h4 : (x.toBitVec.sshiftRight k).getLsbD 0 = x.toBitVec.getLsbD k := by
    rw [BitVec.getLsbD_sshiftRight]; simp [hk]
  rw [← h4, h3, show (2 ^ 1 = 2) from rfl]
  congr 1
  rw [nI_eqI (by omega) (by omega)]
theorem hs_ext {x y : Int32} (h : ∀ k, k < 32 → hs x k = hs y k) : x = y := by
  apply Int32.toBitVec.inj
  apply BitVec.eq_of_getLsbD_eq
  intro i hi
  rw [← hs_bv hi, ← hs_bv hi, h i hi]
theorem hs_or {x y : Int32} {k : Nat} (hk : k < 32) : hs (x ||| y) k = (hs x k || hs y k) := by
  rw [hs_bv hk, hs_bv hk, hs_bv hk, Int32.toBitVec_or, BitVec.getLsbD_or]
theorem hs_and {x y : Int32} {k : Nat} (hk : k < 32) : hs (x &&& y) k = (hs x k && hs y k) := by
  rw [hs_bv hk, hs_bv hk, hs_bv hk, Int32.toBitVec_and, BitVec.getLsbD_and]
theorem hs_xor {x y : Int32} {k : Nat} (hk : k < 32) : hs (x ^^^ y) k = (hs x k ^^ hs y k) := by
  rw [hs_bv hk, hs_bv hk, hs_bv hk, Int32.toBitVec_xor, BitVec.getLsbD_xor]
theorem hs_nI {n k : Nat} (hn : n < 2 ^ 32) (hk : k < 32) : hs (nI n) k = n.testBit k := by
  rw [hs_bv hk, BitVec.getLsbD, pk_tn hn]
theorem hs_0 {k : Nat} (hk : k < 32) : hs (nI 0) k = false := by rw [hs_nI (by omega) hk, Nat.zero_testBit]
theorem bt_nI {k : Nat} (hk : k < 32) : bt k = nI (2 ^ k) := by
  revert k
  unfold bt
  decide
theorem hs_bt {j k : Nat} (hj : j < 32) (hk : k < 32) : hs (bt j) k = decide (j = k) := by
  rw [bt_nI hj, hs_nI (Nat.pow_lt_pow_right (by omega) hj) hk, Nat.testBit_two_pow]
theorem hs_m1 {k : Nat} (hk : k < 32) : hs (nI 4294967295) k = true := by
  revert k
  unfold hs
  decide
/-- the k lowest bits -/
theorem lowb {n : Nat} (hn : n ≤ 8) : bt n - nI 1 = nI (2 ^ n - 1) := by
  rw [bt_nI (by omega)]
  have : (1 : Nat) ≤ 2 ^ n := Nat.one_le_two_pow
  exact pk_sub this
theorem p8 {n : Nat} (hn : n ≤ 8) : 2 ^ n ≤ 256 := Nat.pow_le_pow_right (by omega) hn
theorem hs_low {n k : Nat} (hn : n ≤ 8) (hk : k < 32) : hs (bt n - nI 1) k = decide (k < n) := by
  have := p8 hn
  rw [lowb hn, hs_nI (by omega) hk, Nat.testBit_two_pow_sub_one]
/-- bits of a fold -/
theorem hs_fo {c : Nat → Bool} {g : Nat → Nat} {k : Nat} (hk : k < 32) : ∀ n : Nat, (∀ i, i < n → g i < 32) → (hs (fo n (fun i s => if c i = true then s ||| bt (g i) else s) (nI 0)) k = true ↔ ∃ i, i < n ∧ c i = true ∧ g i = k)
  | 0 => fun _ => by
    show hs (nI 0) k = true ↔ _
    rw [hs_0 hk]
    exact ⟨fun h => (nomatch h), fun ⟨i, h, _⟩ => by omega⟩
  | n + 1 => fun hg => by
    have ih := hs_fo (c := c) (g := g) hk n (fun i hi => hg i (by omega))
    show hs (if c n = true then _ ||| bt (g n) else _) k = true ↔ _
    by_cases h : c n = true
    · rw [if_pos h, hs_or hk, Bool.or_eq_true, ih, hs_bt (hg n (by omega)) hk, decide_eq_true_eq]
      constructor
      · rintro (⟨i, h1, h2⟩ | h1)
        · exact ⟨i, by omega, h2⟩
        · exact ⟨n, by omega, h, h1⟩
      · rintro ⟨i, h1, h2, h3⟩
        rcases Nat.lt_or_ge i n with h4 | h4
        · exact Or.inl ⟨i, h4, h2, h3⟩
        · obtain rfl : i = n := by omega
          exact Or.inr h3
    · rw [if_neg h, ih]
      constructor
      · rintro ⟨i, h1, h2⟩
        exact ⟨i, by omega, h2⟩
      · rintro ⟨i, h1, h2, h3⟩
        rcases Nat.lt_or_ge i n with h4 | h4
        · exact ⟨i, h4, h2, h3⟩
        · obtain rfl : i = n := by omega
          exact absurd h2 h
