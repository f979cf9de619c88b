/-! # the law: what holds at first (wip/gen/mk61.py) -/
section
variable {M M' M1 M2 : Mm} {o : Nat} {V : Nat → TT} {I : Nat → Nat → TT}
theorem CI0 {P W X : TT} (h : CI M o (P, W, X, V, I)) (x5 : X 0 5 = 0) (x6 : X 0 6 = 0) (e : eqx (fun _ => False) M M') (hn : o + 61 ≤ nx M) : CI M' o (P, W, X, V, I) := by
  obtain ⟨p, l, d, hr, ⟨h1, h2⟩, ⟨⟨t1, t2⟩, t3, ⟨t4, t5, t6⟩, t7, t8⟩, ⟨h5, h6⟩, h7, h8⟩ := h
  have hp := hr.1.1
  have hl := hr.1.2.1
  have hd := hr.1.2.2
  have g : ∀ a, a < o + 61 → ∀ j, gI M' a j = gI M a j := fun a ha j => (e.2 a (by omega) id).1 j
  refine ⟨p, l, d, hr.mv e (by omega) id, ⟨h1.eqx e (fun a ha hb => ⟨by omega, id⟩), h2.eqx e (fun a ha hb => ⟨by omega, id⟩)⟩, ⟨⟨?_, ?_⟩, fun k hk => ?_, ⟨?_, ?_, ?_⟩, ?_, ?_⟩, ⟨?_, ?_, ?_⟩, fun i hi => ?_, fun i hi => ?_⟩
  · rw [g _ (by omega)]; exact t1
  · rw [g _ (by omega)]; exact t2
  · rw [g _ (by omega)]; exact t3 k hk
  · rw [g _ (by omega)]; exact t4
  · rw [g _ (by omega)]; exact t5
  · rw [g _ (by omega)]; exact t6
  · rw [g _ (by omega)]; exact t7
  · rw [g _ (by omega)]; exact t8
  · unfold isLw isL at h5 ⊢
    rw [g l (by omega)]
    by_cases c : (P, W, X, V, I).2.2.1 0 7 = 0
    · rw [if_pos c] at h5 ⊢
      exact ⟨h5.1, fun k hk => by rw [g _ (by omega)]; exact h5.2 k hk⟩
    · rw [if_neg c] at h5 ⊢
      exact ⟨h5.1, fun k hk => by rw [g _ (by omega)]; exact h5.2 k hk⟩
  · rw [g _ (by omega)]; exact h6.1
  · rw [g _ (by omega)]; exact h6.2
  · exact absurd (show i < X 0 5 from hi) (by rw [x5]; exact Nat.not_lt_zero i)
  · exact absurd (show i < X 0 6 from hi) (by rw [x6]; exact Nat.not_lt_zero i)
theorem oS0 : oS (q0, wB q0, x0, V, I) :=
  ⟨⟨okq0, okwB okq0⟩, ⟨⟨Nat.zero_le _, fun k hk => absurd hk (Nat.not_lt_zero k)⟩, Nat.zero_le _, fun k hk => absurd hk (Nat.not_lt_zero k)⟩, ⟨Nat.zero_le _, fun k hk => absurd hk (Nat.not_lt_zero k), fun i k _ hk => absurd hk (Nat.not_lt_zero k)⟩, ⟨Nat.zero_le _, fun i hi => absurd hi (Nat.not_lt_zero i)⟩, Nat.zero_le _, fun j hj => absurd hj (Nat.not_lt_zero j)⟩
end
theorem u_start {Z : ZT} {d : Nat} {G : GT} {P : Int32 → Mm → Prop} {M : Mm} (C : Zok Z cL_law_ RL (some .boolean) d G 601024 7293034 (Qi P)) (hml : Zml Z = 8) (hd1 : 60 ≤ d) {QX : Nat → Mm → Prop} (hz : Zx Z none M QX) (hP : ∀ M, P 1 M) (hL : (gS G).2.1 ≤ 4608) (hk : ∀ a, kd M a = (0, 0)) : Wm Z 0 [some (vR ((gS G).1) 31 ((gS G).2.1)), none, none, none, none, none, none, none] [] M 0 0 := by
  have hkz : kz M := fun a _ => by rw [hk]
  refine u_0e C hml hd1 hz ⟨⟨by decide, by decide⟩, fun M1 e1 => ⟨⟨rfl, by rw [hk]⟩, ⟨by decide, by decide⟩, ?_⟩⟩
  obtain ⟨M2, a1, ⟨a2, a3⟩, a4, a5, a6⟩ := C_init (o := nx M) (M := M1) (V := fun _ => x0) (I := fun _ _ => x0) (by rw [e1, nx_sN]) (by rw [e1]; exact kz.sN hkz 212 0) (fun j => by rw [e1]; exact gI_sNs ..)
  refine ⟨_, c_C_init (by omega) a1, fun M2' e2 => ?_⟩
  cases e2
  refine ⟨a3, ⟨by decide, by decide⟩, fun M4 e4 => ⟨⟨rfl, by rw [hk]⟩, ⟨by decide, by decide⟩, ?_⟩⟩
  obtain ⟨M5, b1, ⟨b2, b3⟩, b4, b5, b6⟩ := M_init (m := nx M2) (M := M4) (V := fun _ => x0) (I := fun _ _ => x0) (by rw [e4, nx_sN]) (by rw [e4]; exact kz.sN a5 213 0) (fun j => by rw [e4]; exact gI_sNs ..)
  refine ⟨_, c_M_init (by omega) b1, fun M5' e5 => ?_⟩
  cases e5
  refine ⟨b3, rfl, ⟨by decide, by decide⟩, fun M7 e7 => ?_⟩
  have n5 : nx M5 = nx M + 560 := by rw [b2, a2]
  have hI : Inv (nx M) M7 := by
    subst e7
    have lo1 : Lo (nx M2) M2 M5 := ((Lo.rf (nx M2) M2).sN (Nat.le_refl _) 213 0).trans (by rw [← e4]; exact b4)
    have lo2 : Lo (nx M2) M2 (sN M5 15 1) := lo1.sN (by omega) 15 1
    have c1 : CI (sN M5 15 1) (nx M) (q0, wB q0, x0, fun _ => x0, fun _ _ => x0) := CI0 a6 rfl rfl (lo2.eqx (by rw [nx_sN]; omega) (Nat.le_refl _)) (by omega)
    rw [a2] at b6
    have c2 : MJ (sN M5 15 1) (nx M + 61) (q0, wB q0, x0, fun _ => x0, fun _ _ => x0) := b6.mv oS0 (fun a j h1 h2 _ => gI_sNn (by omega))
    exact ⟨_, c1, c2, oS0, by rw [nx_sN]; omega, kz.sN b5 15 1⟩
  rw [n5, a2]
  exact u_loop C hml hd1 hP hL 512 0 M7 _ _ (by omega) (by omega) hI (by decide) (by decide)
