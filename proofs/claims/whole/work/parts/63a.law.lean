/-! # the law: its loop and its entry (wip/gen/mk61.py) -/
theorem lw_lt {L i : Nat} (hL : L ≤ 4608) (hi : i ≤ 4700) : (Int32.ofNat L - 9 < nI i) ↔ L < i + 9 := by
  by_cases h : 9 ≤ L
  · have e : Int32.ofNat L - 9 = nI (L - 9) := by
      have e1 : nI (L - 9) + nI 9 = nI L := by rw [nI_add]; congr 1; omega
      show nI L - nI 9 = _
      rw [← e1, Int32.add_sub_cancel]
    rw [e, nI_ltE (by omega) (by omega)]; omega
  · have h8 : ∀ L, L < 9 → Int32.ofNat L - 9 < (0 : Int32) := by decide
    exact ⟨fun _ => by omega, fun _ => Int32.lt_of_lt_of_le (h8 L (by omega)) (nI_pos' (by omega))⟩
theorem vpk {i k L : Nat} (h : i + k < L) (hL : L ≤ 4608) : vp_in (nI i + nI k) L := by
  rw [nI_add]; exact nI_in h (by omega)
theorem u_loop {Z : ZT} {d mc ms o : Nat} {G : GT} {P : Int32 → Mm → Prop} (C : Zok Z cL_law_ RL (some .boolean) d G mc ms (Qi P)) (hml : Zml Z = 8) (hd1 : 60 ≤ d) (hP : ∀ M, P 1 M) (hL : (gS G).2.1 ≤ 4608) : ∀ (n iN : Nat) (M : Mm) (cs ss : Nat), (gS G).2.1 ≤ iN + 9 * n → iN ≤ 4700 → Inv o M → cs + 10 * (n + 1) ≤ mc → ss + 131 * (n + 1) ≤ ms → Wm Z 23 [some (vR ((gS G).1) 31 ((gS G).2.1)), some (vR o 12 0), some (vR (o + 61) 13 0), some (vR (o + 560) 15 1), some (vI (nI iN)), none, none, none] [] M cs ss := by
  intro n
  induction n with
  | zero =>
    intro iN M cs ss h1 h2 hI hc hs
    refine u_h C hml hd1 ⟨fun _ => u_e C hml hd1 ⟨Or.inr rfl, hP M⟩, fun hn => absurd ((lw_lt hL h2).mpr (by omega)) hn⟩
  | succ n ih =>
    intro iN M cs ss h1 h2 hI hc hs
    refine u_h C hml hd1 ⟨fun _ => u_e C hml hd1 ⟨Or.inr rfl, hP M⟩, fun hn => ?_⟩
    have hb : ¬ (gS G).2.1 < iN + 9 := fun z => hn ((lw_lt hL h2).mpr z)
    have K : ∀ (M1 : Mm) (cs1 ss1 : Nat), Inv o M1 → cs1 ≤ cs + 10 → ss1 ≤ ss + 131 → Wm Z 2546 [some (vR ((gS G).1) 31 ((gS G).2.1)), some (vR o 12 0), some (vR (o + 61) 13 0), some (vR (o + 560) 15 1), some (vI (nI iN)), none, none, none] [] M1 cs1 ss1 := fun M1 cs1 ss1 g1 g2 g3 => u_i C hml hd1 (by
      have e : nI iN + 9 = nI (iN + 9) := nI_add iN 9
      rw [e]
      exact ih (iN + 9) M1 cs1 ss1 (by omega) (by omega) g1 (by omega) (by omega))
    have v0 : vp_in (nI iN) (gS G).2.1 := nI_in (by omega) (by omega)
    have v1 : vp_in (nI iN + 1) (gS G).2.1 := vpk (k := 1) (by omega) hL
    have v2 : vp_in (nI iN + 2) (gS G).2.1 := vpk (k := 2) (by omega) hL
    have v3 : vp_in (nI iN + 3) (gS G).2.1 := vpk (k := 3) (by omega) hL
    have v4 : vp_in (nI iN + 4) (gS G).2.1 := vpk (k := 4) (by omega) hL
    have v5 : vp_in (nI iN + 5) (gS G).2.1 := vpk (k := 5) (by omega) hL
    have v6 : vp_in (nI iN + 6) (gS G).2.1 := vpk (k := 6) (by omega) hL
    have v7 : vp_in (nI iN + 7) (gS G).2.1 := vpk (k := 7) (by omega) hL
    have v8 : vp_in (nI iN + 8) (gS G).2.1 := vpk (k := 8) (by omega) hL
    have hc9 : cs + 10 ≤ mc := by omega
    have hs9 : ss + 131 ≤ ms := by omega
    have hc8 : cs ≤ cs + 10 := by omega
    have hs8 : ss ≤ ss + 131 := by omega
    exact ⟨v0, ⟨fun _ => u_0 C hml hd1 hc9 hs9 v1 v2 v3 v4 v5 v6 v7 v8 hI K, fun _ => ⟨fun _ => u_1 C hml hd1 hc9 hs9 v1 v2 v3 v4 v5 v6 v7 v8 hI K, fun _ => ⟨fun _ => u_2 C hml hd1 hc9 hs9 v1 v2 v3 v4 v5 v6 v7 v8 hI K, fun _ => ⟨fun _ => u_3 C hml hd1 hc9 hs9 v1 v2 v3 v4 v5 v6 v7 v8 hI K, fun _ => ⟨fun _ => u_4 C hml hd1 hc9 hs9 v1 v2 v3 v4 v5 v6 v7 v8 hI K, fun _ => ⟨fun _ => u_5 C hml hd1 hc9 hs9 v1 v2 v3 v4 v5 v6 v7 v8 hI K, fun _ => ⟨fun _ => u_6 C hml hd1 hc9 hs9 v1 v2 v3 v4 v5 v6 v7 v8 hI K, fun _ => ⟨fun _ => u_7 C hml hd1 hc9 hs9 v1 v2 v3 v4 v5 v6 v7 v8 hI K, fun _ => ⟨fun _ => u_8 C hml hd1 hc9 hs9 v1 v2 v3 v4 v5 v6 v7 v8 hI K, fun _ => ⟨fun _ => u_9 C hml hd1 hc9 hs9 v1 v2 v3 v4 v5 v6 v7 v8 hI K, fun _ => ⟨fun _ => u_10 C hml hd1 hc9 hs9 v1 v2 v3 v4 v5 v6 v7 v8 hI K, fun _ => ⟨fun _ => u_11 C hml hd1 hc9 hs9 v1 v2 v3 v4 v5 v6 v7 v8 hI K, fun _ => ⟨fun _ => u_12 C hml hd1 hc9 hs9 v1 v2 v3 v4 v5 v6 v7 v8 hI K, fun _ => ⟨fun _ => u_13 C hml hd1 hc9 hs9 v1 v2 v3 v4 v5 v6 v7 v8 hI K, fun _ => ⟨fun _ => u_14 C hml hd1 hc9 hs9 v1 v2 v3 v4 v5 v6 v7 v8 hI K, fun _ => ⟨fun _ => u_15 C hml hd1 hc9 hs9 v1 v2 v3 v4 v5 v6 v7 v8 hI K, fun _ => ⟨fun _ => u_16 C hml hd1 hc9 hs9 v1 v2 v3 v4 v5 v6 v7 v8 hI K, fun _ => ⟨fun _ => u_17 C hml hd1 hc9 hs9 v1 v2 v3 v4 v5 v6 v7 v8 hI K, fun _ => ⟨fun _ => u_18 C hml hd1 hc9 hs9 v1 v2 v3 v4 v5 v6 v7 v8 hI K, fun _ => ⟨fun _ => u_19 C hml hd1 hc9 hs9 v1 v2 v3 v4 v5 v6 v7 v8 hI K, fun _ => ⟨fun _ => u_20 C hml hd1 hc9 hs9 v1 v2 v3 v4 v5 v6 v7 v8 hI K, fun _ => ⟨fun _ => u_21 C hml hd1 hc9 hs9 v1 v2 v3 v4 v5 v6 v7 v8 hI K, fun _ => ⟨fun _ => u_22 C hml hd1 hc9 hs9 v1 v2 v3 v4 v5 v6 v7 v8 hI K, fun _ => ⟨fun _ => u_23 C hml hd1 hc9 hs9 v1 v2 v3 v4 v5 v6 v7 v8 hI K, fun _ => ⟨fun _ => u_24 C hml hd1 hc9 hs9 v1 v2 v3 v4 v5 v6 v7 v8 hI K, fun _ => ⟨fun _ => u_25 C hml hd1 hc9 hs9 v1 v2 v3 v4 v5 v6 v7 v8 hI K, fun _ => ⟨fun _ => u_26 C hml hd1 hc9 hs9 v1 v2 v3 v4 v5 v6 v7 v8 hI K, fun _ => ⟨fun _ => u_27 C hml hd1 hc9 hs9 v1 v2 v3 v4 v5 v6 v7 v8 hI K, fun _ => ⟨fun _ => u_28 C hml hd1 hc9 hs9 v1 v2 v3 v4 v5 v6 v7 v8 hI K, fun _ => ⟨fun _ => u_29 C hml hd1 hc9 hs9 v1 v2 v3 v4 v5 v6 v7 v8 hI K, fun _ => ⟨fun _ => u_30 C hml hd1 hc9 hs9 v1 v2 v3 v4 v5 v6 v7 v8 hI K, fun _ => ⟨fun _ => u_31 C hml hd1 hc9 hs9 v1 v2 v3 v4 v5 v6 v7 v8 hI K, fun _ => ⟨fun _ => u_32 C hml hd1 hc9 hs9 v1 v2 v3 v4 v5 v6 v7 v8 hI K, fun _ => ⟨fun _ => u_33 C hml hd1 hc9 hs9 v1 v2 v3 v4 v5 v6 v7 v8 hI K, fun _ => ⟨fun _ => u_34 C hml hd1 hc9 hs9 v1 v2 v3 v4 v5 v6 v7 v8 hI K, fun _ => ⟨fun _ => u_35 C hml hd1 hc9 hs9 v1 v2 v3 v4 v5 v6 v7 v8 hI K, fun _ => ⟨fun _ => u_36 C hml hd1 hc9 hs9 v1 v2 v3 v4 v5 v6 v7 v8 hI K, fun _ => ⟨fun _ => u_37 C hml hd1 hc9 hs9 v1 v2 v3 v4 v5 v6 v7 v8 hI K, fun _ => ⟨fun _ => u_38 C hml hd1 hc9 hs9 v1 v2 v3 v4 v5 v6 v7 v8 hI K, fun _ => ⟨fun _ => u_39 C hml hd1 hc9 hs9 v1 v2 v3 v4 v5 v6 v7 v8 hI K, fun _ => K M cs ss hI hc8 hs8⟩⟩⟩⟩⟩⟩⟩⟩⟩⟩⟩⟩⟩⟩⟩⟩⟩⟩⟩⟩⟩⟩⟩⟩⟩⟩⟩⟩⟩⟩⟩⟩⟩⟩⟩⟩⟩⟩⟩⟩⟩
