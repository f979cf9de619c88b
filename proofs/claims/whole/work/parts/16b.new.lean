/-! # functional level, 20: new cells; copies of walls -/
theorem k0_i {R : Type} {M : Mm} {b : Nat} {x : Option R} (h : (kd M b).1 = 0) : k0 M b x = x := if_pos h
theorem k1_i {R : Type} {M : Mm} {b kf : Nat} {x : Option R} (h : kd M b = (kf, 0)) : k1 M b kf x = x := if_pos h
theorem vwc_i {R : Type} {kf : Nat} {M : Mm} {a : Nat} {x : Option R} (h : vwB kf M a = true) : vwc kf M a x = x := if_pos h
section
variable {M M' M1 M2 N : Mm} {o m b : Nat} {S S' : St} {P W X X' W' : TT} {V V' : Nat → TT} {I I' : Nat → Nat → TT}
theorem kd_sNs (M : Mm) (k n : Nat) : kd (sN M k n) (nx M) = (k, n) := if_pos rfl
theorem kd_sNn {M : Mm} {k n a : Nat} (h : a ≠ nx M) : kd (sN M k n) a = kd M a := if_neg h
theorem gI_sNn {M : Mm} {k n a j : Nat} (h : a ≠ nx M) : gI (sN M k n) a j = gI M a j := if_neg h
theorem gI_sNs (M : Mm) (k n j : Nat) : gI (sN M k n) (nx M) j = nI 0 := if_pos rfl
theorem gL_sNn {M : Mm} {k n a j : Nat} (h : a ≠ nx M) : gL (sN M k n) a j = gL M a j := if_neg h
theorem gR_sNn {M : Mm} {k n a j : Nat} (h : a ≠ nx M) : gR (sN M k n) a j = gR M a j := if_neg h
theorem Lo.rf (b : Nat) (M : Mm) : Lo b M M := fun _ _ => ⟨rfl, fun _ => rfl, fun _ => rfl, fun _ => rfl⟩
theorem Lo.trans (h : Lo b M M1) (h2 : Lo b M1 M2) : Lo b M M2 := fun a ha => ⟨(h2 a ha).1.trans (h a ha).1, fun j => ((h2 a ha).2.1 j).trans ((h a ha).2.1 j), fun j => ((h2 a ha).2.2.1 j).trans ((h a ha).2.2.1 j), fun j => ((h2 a ha).2.2.2 j).trans ((h a ha).2.2.2 j)⟩
theorem Lo.mono {c : Nat} (h : Lo b M M1) (hc : c ≤ b) : Lo c M M1 := fun a ha => h a (by omega)
theorem Lo.sN (h : Lo b M M1) (hb : b ≤ nx M1) (k n : Nat) : Lo b M (sN M1 k n) := fun a ha => ⟨by rw [kd_sNn (by omega)]; exact (h a ha).1, fun j => by rw [gI_sNn (by omega)]; exact (h a ha).2.1 j, fun j => by rw [gL_sNn (by omega)]; exact (h a ha).2.2.1 j, fun j => by rw [gR_sNn (by omega)]; exact (h a ha).2.2.2 j⟩
theorem Lo.sR (h : Lo b M M1) {c j : Nat} {v : Option Nat} (hc : b ≤ c) : Lo b M (sR M1 c j v) := fun a ha => ⟨(h a ha).1, (h a ha).2.1, (h a ha).2.2.1, fun i => by rw [gR_ne (by omega)]; exact (h a ha).2.2.2 i⟩
theorem Lo.sI (h : Lo b M M1) {c j : Nat} {v : Int32} (hc : b ≤ c) : Lo b M (sI M1 c j v) := fun a ha => ⟨(h a ha).1, fun i => by rw [gI_ne (by omega)]; exact (h a ha).2.1 i, (h a ha).2.2.1, (h a ha).2.2.2⟩
theorem Lo.sK (h : Lo b M M1) {c k : Nat} (hc : b ≤ c) : Lo b M (sK M1 c k) := fun a ha => ⟨(show (if a = c then (k, 0) else kd M1 a) = _ by rw [if_neg (by omega)]; exact (h a ha).1), (h a ha).2.1, (h a ha).2.2.1, (h a ha).2.2.2⟩
theorem Lo.fr {D : Nat → Prop} (h : Fr D M M') (hd : ∀ a, a < b → ¬ D a) : Lo b M M' := fun a ha => ⟨by rw [h.1.2], (h.2 a (hd a ha)).1, (h.2 a (hd a ha)).2.1, (h.2 a (hd a ha)).2.2⟩
theorem Lo.eqx (h : Lo b M M') (hn : nx M ≤ nx M') (hb : nx M ≤ b) : eqx (fun _ => False) M M' := ⟨hn, fun a ha _ => ⟨(h a (by omega)).2.1, (h a (by omega)).2.2.2⟩⟩
theorem kz.sN (h : kz M) (k n : Nat) : kz (sN M k n) := fun a ha => by
  have ha' : nx M + 1 ≤ a := ha
  rw [kd_sNn (by omega)]; exact h a (by omega)
theorem kz.fr {D : Nat → Prop} (h : kz M) (f : Fr D M M') : kz M' := fun a ha => by rw [f.1.2]; exact h a (by rw [f.1.1] at ha; exact ha)
theorem kz.sK (h : kz M) {c k : Nat} (hc : c < nx M) : kz (sK M c k) := fun a ha => by
  have ha' : nx M ≤ a := ha
  show (if a = c then (k, 0) else kd M a).1 = 0
  rw [if_neg (by omega)]; exact h a ha'
theorem lt0_e {R : Type} (m : Mm) (K : Mm → Option R) : lt0 m K = K m := id rfl
theorem nx_sR' (M : Mm) (a j : Nat) (v : Option Nat) : nx (sR M a j v) = nx M := id rfl
theorem nx_sI' (M : Mm) (a j : Nat) (v : Int32) : nx (sI M a j v) = nx M := id rfl
/-- fields of an object that is being made -/
def FS (M0 M : Mm) (o off : Nat) (L : List (Nat × Nat × Nat × Nat)) : Prop := (nx M = o + off ∧ 0 < off) ∧ (Lo o M0 M ∧ kz M) ∧ ∀ q ∈ L, (gR M o q.1 = some (o + q.2.1) ∧ kd M (o + q.2.1) = (q.2.2.1, q.2.2.2)) ∧ q.2.1 < off
theorem FS.arr {M0 : Mm} {L : List (Nat × Nat × Nat × Nat)} {off : Nat} (h : FS M0 M o off L) (j k n : Nat) (hj : ∀ q ∈ L, q.1 ≠ j) : FS M0 (sR (sN M k n) o j (some (o + off))) o (off + 1) ((j, off, k, n) :: L) := by
  obtain ⟨⟨h1, h2⟩, ⟨h5, h6⟩, h3⟩ := h
  refine ⟨⟨by show nx M + 1 = o + (off + 1); omega, by omega⟩, ⟨(h5.sN (by omega) k n).sR (by omega), fun a ha => h6.sN k n a ha⟩, fun q hq => ?_⟩
  rcases List.mem_cons.mp hq with e | e
  · subst e
    refine ⟨⟨gR_same .., ?_⟩, by show off < off + 1; omega⟩
    show kd (sN M k n) (o + off) = (k, n)
    rw [← h1]; exact kd_sNs ..
  · have h4 := h3 q e
    refine ⟨⟨?_, ?_⟩, by omega⟩
    · rw [gR_ne (Or.inr (hj q e)), gR_sNn (by omega)]; exact h4.1.1
    · show kd (sN M k n) (o + q.2.1) = _
      rw [kd_sNn (by omega)]; exact h4.1.2
theorem FS.vwB {M0 : Mm} {off : Nat} {L : List (Nat × Nat × Nat × Nat)} (h : FS M0 M o off L) {kf : Nat} (hl : ∀ q ∈ (ftb kf).zipIdx, q.1.1 = 1 → (q.2, q.1.2) ∈ L) : vwB kf M o = true := by
  refine List.all_eq_true.mpr (fun q hq => ?_)
  by_cases c : q.1.1 = 1
  · have h1 := (h.2.2 _ (hl q hq c)).1
    dsimp only at h1
    rw [h1.1, h1.2, Bool.or_eq_true, Bool.and_eq_true]
    exact Or.inr ⟨decide_eq_true rfl, decide_eq_true rfl⟩
  · rw [Bool.or_eq_true, Bool.not_eq_true']
    refine Or.inl ?_
    cases hx : Nat.beq q.1.1 1 with
    | false => rfl
    | true => exact absurd (Nat.eq_of_beq_eq_true hx) c
theorem FS.fin {M0 : Mm} {off : Nat} {L : List (Nat × Nat × Nat × Nat)} (h : FS M0 M o off L) (kf : Nat) : (nx (sK M o kf) = o + off ∧ kd (sK M o kf) o = (kf, 0)) ∧ Lo o M0 (sK M o kf) ∧ kz (sK M o kf) := by
  have h1 := h.1
  exact ⟨⟨h.1.1, if_pos rfl⟩, h.2.1.1.sK (Nat.le_refl _), h.2.1.2.sK (by omega)⟩
theorem FS.beg (hn : nx M = o + 1) (hz : kz M) : FS M M o 1 [] := ⟨⟨hn, by omega⟩, ⟨Lo.rf _ _, hz⟩, fun q hq => (nomatch hq)⟩
/-- seven rows of a wall -/
theorem C_wallInit (hn : nx M = o + 1) (hz : kz M) : ∃ M', f_Wall_init o M = some M' ∧ (nx M' = o + 8 ∧ kd M' o = (11, 0)) ∧ Lo o M M' ∧ kz M' := by
  have s7 := (((((((FS.beg hn hz).arr 3 14 20 (by decide)).arr 4 14 20 (by decide)).arr 5 14 20 (by decide)).arr 6 14 20 (by decide)).arr 7 14 8 (by decide)).arr 8 14 8 (by decide)).arr 9 14 6 (by decide)
  refine ⟨_, ?_, s7.fin 11⟩
  refine Eq.trans ?_ (vwc_i (s7.vwB (kf := 11) (by decide)))
  simp only [f_Wall_init, f_Wall_init_b, lt0_e, nx_sN, nx_sR', hn, Nat.add_assoc, Nat.reduceAdd]
theorem isW.lo {w : Nat} (h : isW M w P W) (l : Lo b M M') (hb : w + 8 ≤ b) : isW M' w P W := by
  obtain ⟨⟨h1, h2, h3⟩, h4, h5, h6⟩ := h
  have g : ∀ i, i < 8 → ∀ j, gI M' (w + i) j = gI M (w + i) j := fun i hi j => (l _ (by omega)).2.1 j
  have g0 := g 0 (by omega)
  refine ⟨⟨by rw [← h1]; exact g0 0, by rw [← h2]; exact g0 1, by rw [← h3]; exact g0 2⟩, fun k hk => ⟨?_, ?_, ?_, ?_⟩, fun k hk => ⟨?_, ?_⟩, fun k hk => ?_⟩
  · rw [g 1 (by omega)]; exact (h4 k hk).1
  · rw [g 2 (by omega)]; exact (h4 k hk).2.1
  · rw [g 3 (by omega)]; exact (h4 k hk).2.2.1
  · rw [g 4 (by omega)]; exact (h4 k hk).2.2.2
  · rw [g 5 (by omega)]; exact (h5 k hk).1
  · rw [g 6 (by omega)]; exact (h5 k hk).2
  · rw [g 7 (by omega)]; exact h6 k hk
theorem C_copied {q : Nat} (hq : isW M q P W) (hqn : q + 8 ≤ nx M) (hz : kz M) (oP : okP P) (oW : okW P W) : ∃ M', f_Past_copied q M = some (nx M, M') ∧ (nx M' = nx M + 8 ∧ kd M' (nx M) = (11, 0)) ∧ isW M' (nx M) P W ∧ Lo (nx M) M M' ∧ kz M' := by
  obtain ⟨M2, e1, ⟨e2, e3⟩, e4, e5⟩ := C_wallInit (o := nx M) (M := sN M 211 0) rfl (fun a ha => hz.sN 211 0 a ha)
  have l1 : Lo (nx M) M M2 := ((Lo.rf _ _).sN (Nat.le_refl _) 211 0).trans e4
  obtain ⟨M4, e6, e7, e8⟩ := C_becomeW (o := nx M) (M := M2) (by omega) oP (hq.lo l1 hqn) oW
  refine ⟨M4, ?_, ⟨by rw [e8.1.1]; exact e2, by rw [e8.1.2]; exact e3⟩, e7, l1.trans (Lo.fr e8 (fun a ha => by unfold rg; omega)), e5.fr e8⟩
  simp only [f_Past_copied, lt0_e, k0_i (hz (nx M) (Nat.le_refl _)), e1, bV_s, k1_i e3, e6]
theorem C_copyWorks {s t n : Nat} (hst : s ≠ t) (hn : n ≤ 16) : ∃ M', f_Past_copyWorks s 16 t 16 (nI n) M = some M' ∧ (∀ i, i < n → gR M' t i = gR M s i) ∧ Fr (fun x => x = t) M M' := by
  have key := lp_inv (R := Mm) (fun u i (N : Mm) => f_Past_copyWorks_b u s 16 t 16 (nI n) (nI i) N) n (fun i N => (∀ k, k < i → gR N t k = gR M s k) ∧ Fr (fun x => x = t) M N) (fun N => (∀ i, i < n → gR N t i = gR M s i) ∧ Fr (fun x => x = t) M N) (fun u i N hi hI => ?_) (fun u N hI => ?_) 0 (by omega) M ⟨fun k hk => by omega, Fr.rf _ _⟩ FU (FU_lt (by omega))
  · exact key
  · obtain ⟨h1, h2⟩ := hI
    have hs : gR N s i = gR M s i := h2.r (show ¬ s = t from hst) i
    refine Or.inl ⟨sR N t i (gR M s i), ?_, fun k hk => ?_, h2.sR rfl⟩
    · cases hx : gR M s i with
      | none => rw [hx] at hs; simp (disch := omega) only [f_Past_copyWorks_b, hs, bI_s, bV_s, bL_s, bR_s, bG_s, bG_n, bX_l, bX_r, ck_nI, nI_clamp, nI_leT, nI_leF, nI_ltT, nI_ltF, nI_eqF, nI_add, pk_mul, ofN, bt_e, or0, Nat.zero_add, Nat.add_zero, ↓reduceIte, if_true, if_false, Bool.false_eq_true, eq_self, li0, li1, li2, li3, li4, li5, li6, li7, li8, li9, li10, li11, li12, li14, li15, li16, li18, li19, li20, li23, li24, li25, li26, li27, li30, li31, li32, li36, li40, li41, li42, li43, li44, li45, li47, li48, li57, li59, li60, li91, li93, li96, li97, li100, li105, li122, li150, li200, li255, li400, li500, li600, li999, li1000, li1001, li2000, li2001, li2002, li2003, li2004, li2005, li2006, li32767, li100000, li_neg, li13, li17, li21, li22, li28, li29, li33, li34, li35, li37, li38, li39, li46, li49, li50, li51, li52, li53, li63, li80, li115, li160]
      | some w => rw [hx] at hs; simp (disch := omega) only [f_Past_copyWorks_b, hs, bI_s, bV_s, bL_s, bR_s, bG_s, bG_n, bX_l, bX_r, ck_nI, nI_clamp, nI_leT, nI_leF, nI_ltT, nI_ltF, nI_eqF, nI_add, pk_mul, ofN, bt_e, or0, Nat.zero_add, Nat.add_zero, ↓reduceIte, if_true, if_false, Bool.false_eq_true, eq_self, li0, li1, li2, li3, li4, li5, li6, li7, li8, li9, li10, li11, li12, li14, li15, li16, li18, li19, li20, li23, li24, li25, li26, li27, li30, li31, li32, li36, li40, li41, li42, li43, li44, li45, li47, li48, li57, li59, li60, li91, li93, li96, li97, li100, li105, li122, li150, li200, li255, li400, li500, li600, li999, li1000, li1001, li2000, li2001, li2002, li2003, li2004, li2005, li2006, li32767, li100000, li_neg, li13, li17, li21, li22, li28, li29, li33, li34, li35, li37, li38, li39, li46, li49, li50, li51, li52, li53, li63, li80, li115, li160]
    · by_cases c : k = i
      · subst c; exact gR_same ..
      · rw [gR_ne (by omega)]; exact h1 k (by omega)
  · refine ⟨N, ?_, hI⟩
    simp (disch := omega) only [f_Past_copyWorks_b, bI_s, bV_s, bL_s, bR_s, bG_s, bG_n, bX_l, bX_r, ck_nI, nI_clamp, nI_leT, nI_leF, nI_ltT, nI_ltF, nI_eqF, nI_add, pk_mul, ofN, bt_e, or0, Nat.zero_add, Nat.add_zero, ↓reduceIte, if_true, if_false, Bool.false_eq_true, eq_self, li0, li1, li2, li3, li4, li5, li6, li7, li8, li9, li10, li11, li12, li14, li15, li16, li18, li19, li20, li23, li24, li25, li26, li27, li30, li31, li32, li36, li40, li41, li42, li43, li44, li45, li47, li48, li57, li59, li60, li91, li93, li96, li97, li100, li105, li122, li150, li200, li255, li400, li500, li600, li999, li1000, li1001, li2000, li2001, li2002, li2003, li2004, li2005, li2006, li32767, li100000, li_neg, li13, li17, li21, li22, li28, li29, li33, li34, li35, li37, li38, li39, li46, li49, li50, li51, li52, li53, li63, li80, li115, li160]
end
