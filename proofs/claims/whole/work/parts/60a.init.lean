/-! # functional level, 85: a new object of the class -/
section
variable {M M' M1 M2 N : Mm} {o m b : Nat}
def FTi (M0 M : Mm) (o off : Nat) (L : List (Nat × Nat × Nat × Nat)) : Prop := FS M0 M o off L ∧ ∀ j, gI M o j = gI M0 o j
def Kp (b : Nat) (M M' : Mm) : Prop := ∀ a, a < b → ∀ j, gI M' a j = gI M a j
theorem Kp.trans {c : Nat} (h : Kp b M M1) (h2 : Kp c M1 M2) (hc : b ≤ c) : Kp b M M2 := fun a ha j => (h2 a (by omega) j).trans (h a ha j)
theorem Kp.mono {c : Nat} (h : Kp b M M1) (hc : c ≤ b) : Kp c M M1 := fun a ha j => h a (by omega) j
theorem FTi.beg (hn : nx M = o + 1) (hz : kz M) : FTi M M o 1 [] := ⟨FS.beg hn hz, fun _ => rfl⟩
theorem FTi.arr {M0 : Mm} {L : List (Nat × Nat × Nat × Nat)} {off : Nat} (h : FTi M0 M o off L) (j k n : Nat) (hj : ∀ q ∈ L, q.1 ≠ j) : FTi M0 (sR (sN M k n) o j (some (o + off))) o (off + 1) ((j, off, k, n) :: L) :=
  ⟨h.1.arr j k n hj, fun i => by
    have h1 := h.1.1
    show gI (sN M k n) o i = _
    rw [gI_sNn (by omega)]; exact h.2 i⟩
theorem kp_arr {M0 : Mm} {L : List (Nat × Nat × Nat × Nat)} {off : Nat} (h : FTi M0 M o off L) (j k n : Nat) (v : Option Nat) : Kp (o + off) M (sR (sN M k n) o j v) := fun a ha i => by
  have h1 := h.1.1
  show gI (sN M k n) a i = _
  rw [gI_sNn (by omega)]
theorem FTi.obj {M0 : Mm} {L : List (Nat × Nat × Nat × Nat)} {off : Nat} (h : FTi M0 M o off L) {kc kf sz : Nat} (j : Nat) (hj : ∀ q ∈ L, q.1 ≠ j) (hs : 0 < sz) (h1 : nx M' = o + off + sz ∧ kd M' (o + off) = (kf, 0)) (h2 : Lo (o + off) (sN M kc 0) M') (h3 : kz M') : FTi M0 (sR M' o j (some (o + off))) o (off + sz) ((j, off, kf, 0) :: L) ∧ Kp (o + off) M (sR M' o j (some (o + off))) := by
  obtain ⟨⟨⟨x1, x2⟩, ⟨x5, x6⟩, x3⟩, x7⟩ := h
  have lo : Lo (o + off) M M' := fun a ha => by
    have y := h2 a ha
    refine ⟨y.1.trans (kd_sNn (by omega)), fun j => (y.2.1 j).trans (gI_sNn (by omega)), fun j => (y.2.2.1 j).trans (gL_sNn (by omega)), fun j => (y.2.2.2 j).trans (gR_sNn (by omega))⟩
  refine ⟨⟨⟨⟨by show nx M' = o + (off + sz); omega, by omega⟩, ⟨(x5.trans (lo.mono (by omega))).sR (by omega), h3⟩, fun q hq => ?_⟩, fun i => ?_⟩, fun a ha i => (lo a ha).2.1 i⟩
  · rcases List.mem_cons.mp hq with e | e
    · subst e
      exact ⟨⟨gR_same .., h1.2⟩, by show off < off + sz; omega⟩
    · have h4 := x3 q e
      refine ⟨⟨?_, ?_⟩, by omega⟩
      · rw [gR_ne (Or.inr (hj q e)), (lo o (by omega)).2.2.2]; exact h4.1.1
      · show kd M' (o + q.2.1) = _
        rw [(lo _ (by omega)).1]; exact h4.1.2
  · show gI M' o i = _
    rw [(lo o (by omega)).2.1]; exact x7 i
theorem gI_sK (M : Mm) (a k x j : Nat) : gI (sK M a k) x j = gI M x j := id rfl
theorem C_tapeInit (hn : nx M = o + 1) (hz : kz M) : ∃ M', f_Tape_init o M = some M' ∧ (nx M' = o + 2 ∧ kd M' o = (10, 0)) ∧ Lo o M M' ∧ kz M' ∧ gI M' o 1 = gI M o 1 ∧ gI M' o 5 = nI 4294967295 := by
  have s1 := (FTi.beg hn hz).arr 0 14 600 (by decide)
  have s2 : FS M (sI (sR (sN M 14 600) o 0 (some (o + 1))) o 5 (nI 4294967295)) o 2 [(0, 1, 14, 600)] := ⟨s1.1.1, ⟨s1.1.2.1.1.sI (Nat.le_refl _), s1.1.2.1.2⟩, s1.1.2.2⟩
  obtain ⟨f1, f2, f3⟩ := s2.fin 10
  refine ⟨_, ?_, f1, f2, f3, ?_, ?_⟩
  · refine Eq.trans ?_ (vwc_i (s2.vwB (kf := 10) (by decide)))
    simp only [f_Tape_init, f_Tape_init_b, lt0_e, nx_sN, nx_sR', hn, li1, li_neg]
  · rw [gI_sK, gI_ne (by omega)]; exact s1.2 1
  · rw [gI_sK, gI_same]
theorem C_planInit (hn : nx M = o + 1) (hz : kz M) : ∃ M', f_Plan_init o M = some M' ∧ (nx M' = o + 5 ∧ kd M' o = (8, 0)) ∧ Lo o M M' ∧ kz M' := by
  have s := ((((FS.beg hn hz).arr 0 14 25 (by decide)).arr 1 14 25 (by decide)).arr 2 14 25 (by decide)).arr 3 14 25 (by decide)
  refine ⟨_, ?_, s.fin 8⟩
  refine Eq.trans ?_ (vwc_i (s.vwB (kf := 8) (by decide)))
  simp only [f_Plan_init, f_Plan_init_b, lt0_e, nx_sN, nx_sR', hn, Nat.add_assoc, Nat.reduceAdd]
theorem C_pastInit (hn : nx M = o + 1) (hz : kz M) : ∃ M', f_Past_init o M = some M' ∧ (nx M' = o + 3 ∧ kd M' o = (7, 0)) ∧ Lo o M M' ∧ kz M' ∧ ∀ j, gI M' o j = gI M o j := by
  have s := ((FTi.beg hn hz).arr 0 17 16 (by decide)).arr 2 16 3 (by decide)
  obtain ⟨f1, f2, f3⟩ := s.1.fin 7
  refine ⟨_, ?_, f1, f2, f3, fun j => s.2 j⟩
  refine Eq.trans ?_ (vwc_i (s.1.vwB (kf := 7) (by decide)))
  simp only [f_Past_init, f_Past_init_b, lt0_e, nx_sN, nx_sR', hn, Nat.add_assoc, Nat.reduceAdd]
theorem C_fitInit (hn : nx M = o + 1) (hz : kz M) : ∃ M', f_Fitting_init o M = some M' ∧ (nx M' = o + 4 ∧ kd M' o = (3, 0)) ∧ Lo o M M' ∧ kz M' := by
  have s := (((FS.beg hn hz).arr 0 14 4 (by decide)).arr 1 14 8 (by decide)).arr 2 14 8 (by decide)
  have s2 : FS M (sR (sR (sN (sR (sN (sR (sN M 14 4) o 0 (some (o + 1))) 14 8) o 1 (some (o + (1 + 1)))) 14 8) o 2 (some (o + (1 + 1 + 1)))) o 3 none) o (1 + 1 + 1 + 1) [(2, 1 + 1 + 1, 14, 8), (1, 1 + 1, 14, 8), (0, 1, 14, 4)] := ⟨s.1, ⟨s.2.1.1.sR (Nat.le_refl _), s.2.1.2⟩, fun q hq => by
    have y := s.2.2 q hq
    have hne : q.1 ≠ 3 := by
      have : ∀ q ∈ [(2, 1 + 1 + 1, 14, 8), (1, 1 + 1, 14, 8), ((0, 1, 14, 4) : Nat × Nat × Nat × Nat)], q.1 ≠ 3 := by decide
      exact this q hq
    exact ⟨⟨by rw [gR_ne (Or.inr hne)]; exact y.1.1, y.1.2⟩, y.2⟩⟩
  refine ⟨_, ?_, s2.fin 3⟩
  refine Eq.trans ?_ (vwc_i (s2.vwB (kf := 3) (by decide)))
  simp only [f_Fitting_init, f_Fitting_init_b, lt0_e, nx_sN, nx_sR', hn, Nat.add_assoc, Nat.reduceAdd]
theorem C_inqInit (hn : nx M = o + 1) (hz : kz M) : ∃ M', f_Inquest_init o M = some M' ∧ (nx M' = o + 2 ∧ kd M' o = (5, 0)) ∧ Lo o M M' ∧ kz M' := by
  have s := (FS.beg hn hz).arr 0 14 10 (by decide)
  refine ⟨_, ?_, s.fin 5⟩
  refine Eq.trans ?_ (vwc_i (s.vwB (kf := 5) (by decide)))
  simp only [f_Inquest_init, f_Inquest_init_b, lt0_e, nx_sN, nx_sR', hn]
theorem C_dawnsInit (hn : nx M = o + 1) (hz : kz M) : ∃ M', f_Dawns_init o M = some M' ∧ (nx M' = o + 9 ∧ kd M' o = (1, 0)) ∧ Lo o M M' ∧ kz M' := by
  obtain ⟨M2, e1, ⟨e2, e3⟩, e4, e5⟩ := C_wallInit (o := o + 1) (M := sN M 211 0) (by show nx M + 1 = _; omega) (fun a ha => hz.sN 211 0 a ha)
  have s := ((FTi.beg hn hz).obj (kc := 211) (kf := 11) (sz := 8) 0 (by decide) (by omega) ⟨e2, e3⟩ e4 e5).1.1
  refine ⟨_, ?_, s.fin 1⟩
  refine Eq.trans ?_ (vwc_i (s.vwB (kf := 1) (by decide)))
  have k0' : (kd M (o + 1)).1 = 0 := hz _ (by omega)
  simp only [f_Dawns_init, f_Dawns_init_b, lt0_e, hn, k0_i k0', e1, bV_s, k1_i e3]
theorem C_deedsInit (hn : nx M = o + 1) (hz : kz M) : ∃ M', f_Deeds_init o M = some M' ∧ (nx M' = o + 1 ∧ kd M' o = (2, 0)) ∧ Lo o M M' ∧ kz M' ∧ ∀ j, gI M' o j = gI M o j := by
  have s := FS.beg hn hz
  obtain ⟨f1, f2, f3⟩ := s.fin 2
  refine ⟨_, ?_, f1, f2, f3, fun j => rfl⟩
  refine Eq.trans ?_ (vwc_i (s.vwB (kf := 2) (by decide)))
  simp only [f_Deeds_init, f_Deeds_init_b]
theorem Lo.fx {D : Nat → Nat → Prop} (h : FX D M M') (hd : ∀ a j, a < b → ¬ D a j) : Lo b M M' := fun a ha => ⟨by rw [h.1.2], fun j => h.2.1 a j (hd a j ha), fun j => h.2.2.1 a j, fun j => h.2.2.2 a j⟩
theorem kz.fx {D : Nat → Nat → Prop} (h : kz M) (f : FX D M M') : kz M' := fun a ha => by rw [f.1.2]; exact h a (by rw [f.1.1] at ha; exact ha)
theorem C_portInit (hn : nx M = o + 1) (hz : kz M) : ∃ M', f_Port_init o M = some M' ∧ (nx M' = o + 8 ∧ kd M' o = (9, 0)) ∧ Lo o M M' ∧ kz M' ∧ isP M' o q0 := by
  have s := (((((((FS.beg hn hz).arr 1 14 4 (by decide)).arr 3 14 8 (by decide)).arr 4 14 8 (by decide)).arr 6 14 6 (by decide)).arr 7 14 6 (by decide)).arr 8 14 6 (by decide)).arr 9 14 10 (by decide)
  obtain ⟨⟨f1, f2⟩, f3, f4⟩ := s.fin 9
  have v := s.vwB (kf := 9) (by decide)
  have key : ∀ M3 : Mm, vwB 9 M3 o = true → nx (sK M3 o 9) = o + 8 → kd (sK M3 o 9) o = (9, 0) → Lo o M (sK M3 o 9) → kz (sK M3 o 9) → ∃ M', vwc 9 M3 o (f_Port_init_b o (sK M3 o 9)) = some M' ∧ (nx M' = o + 8 ∧ kd M' o = (9, 0)) ∧ Lo o M M' ∧ kz M' ∧ isP M' o q0 := fun M3 v f1 f2 f3 f4 => by
    obtain ⟨M4, e4, g4, h4⟩ := C_clear (p := o) (sK M3 o 9)
    refine ⟨M4, ?_, ⟨g4.1.1.trans f1, by rw [g4.1.2]; exact f2⟩, f3.trans (Lo.fx g4 (fun a j ha => by unfold pD; omega)), f4.fx g4, h4⟩
    rw [vwc_i v]
    unfold f_Port_init_b
    rw [e4, bV_s]
  obtain ⟨M', e, r⟩ := key _ v f1 f2 f3 f4
  refine ⟨M', ?_, r⟩
  refine Eq.trans ?_ e
  simp only [f_Port_init, lt0_e, nx_sN, nx_sR', hn, Nat.add_assoc, Nat.reduceAdd]
theorem C_lawInit (hn : nx M = o + 1) (hz : kz M) : ∃ M', f_Law_init o M = some M' ∧ (nx M' = o + 3 ∧ kd M' o = (6, 0)) ∧ Lo o M M' ∧ kz M' ∧ isL M' o 5 pL := by
  have s := ((FS.beg hn hz).arr 0 14 150 (by decide)).arr 1 14 150 (by decide)
  obtain ⟨⟨f1, f2⟩, f3, f4⟩ := s.fin 6
  have v := s.vwB (kf := 6) (by decide)
  have key : ∀ M3 : Mm, vwB 6 M3 o = true → nx (sK M3 o 6) = o + 3 → kd (sK M3 o 6) o = (6, 0) → Lo o M (sK M3 o 6) → kz (sK M3 o 6) → ∃ M', vwc 6 M3 o (f_Law_init_b o (sK M3 o 6)) = some M' ∧ (nx M' = o + 3 ∧ kd M' o = (6, 0)) ∧ Lo o M M' ∧ kz M' ∧ isL M' o 5 pL := fun M3 v f1 f2 f3 f4 => by
    obtain ⟨M4, e4, g4, h4⟩ := C_plain (l := o) (sK M3 o 6)
    refine ⟨M4, ?_, ⟨g4.1.1.trans f1, by rw [g4.1.2]; exact f2⟩, f3.trans (Lo.fx g4 (fun a j ha => by omega)), f4.fx g4, h4⟩
    rw [vwc_i v]
    unfold f_Law_init_b
    rw [e4, bV_s]
  obtain ⟨M', e, r⟩ := key _ v f1 f2 f3 f4
  refine ⟨M', ?_, r⟩
  refine Eq.trans ?_ e
  simp only [f_Law_init, lt0_e, nx_sN, nx_sR', hn, Nat.add_assoc, Nat.reduceAdd]
end
