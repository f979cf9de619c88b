/-! # the start, 2: the world (wip/gen/mk64.py) -/
theorem st_cls {args : Array Value} {s : State} (hts : ∀ w ∈ lw_tbl, w.before args s = true) : ∀ c : Nat, ∃ D : ClassId × (Nat → Nat), ∀ q, vwCl[c]? = some q → u_Kn s q.1 q.2.1 q.2.2 D.1 D.2
  | 0 => by
    obtain ⟨cC, iS, h⟩ := u_known (fun w hw => hts w (List.mem_filter.mp hw).1) inG0 (hts _ nw_1.2.2.2.2.2.1)
    refine ⟨(cC, iS), fun q hq => ?_⟩
    have e : (some (RX0, TX0, 6) : Option vw_C) = some q := hq
    cases e; exact h
  | 1 => by
    obtain ⟨cC, iS, h⟩ := u_known (fun w hw => hts w (List.mem_filter.mp hw).1) inG1 (hts _ nw_2.2.2.2.2.2.1)
    refine ⟨(cC, iS), fun q hq => ?_⟩
    have e : (some (RX1, TX1, 2) : Option vw_C) = some q := hq
    cases e; exact h
  | 2 => by
    obtain ⟨cC, iS, h⟩ := u_known (fun w hw => hts w (List.mem_filter.mp hw).1) inG2 (hts _ nw_3.2.2.2.2.2.1)
    refine ⟨(cC, iS), fun q hq => ?_⟩
    have e : (some (RX2, TX2, 6) : Option vw_C) = some q := hq
    cases e; exact h
  | 3 => by
    obtain ⟨cC, iS, h⟩ := u_known (fun w hw => hts w (List.mem_filter.mp hw).1) inG3 (hts _ nw_4.2.2.2.2.2.1)
    refine ⟨(cC, iS), fun q hq => ?_⟩
    have e : (some (RX3, TX3, 3) : Option vw_C) = some q := hq
    cases e; exact h
  | 4 => by
    obtain ⟨cC, iS, h⟩ := u_known (fun w hw => hts w (List.mem_filter.mp hw).1) inG4 (hts _ nw_5.2.2.2.2.2.1)
    refine ⟨(cC, iS), fun q hq => ?_⟩
    have e : (some (RX4, TX4, 4) : Option vw_C) = some q := hq
    cases e; exact h
  | 5 => by
    obtain ⟨cC, iS, h⟩ := u_known (fun w hw => hts w (List.mem_filter.mp hw).1) inG5 (hts _ nw_6.2.2.2.2.2.1)
    refine ⟨(cC, iS), fun q hq => ?_⟩
    have e : (some (RX5, TX5, 3) : Option vw_C) = some q := hq
    cases e; exact h
  | 6 => by
    obtain ⟨cC, iS, h⟩ := u_known (fun w hw => hts w (List.mem_filter.mp hw).1) inG6 (hts _ nw_7.2.2.2.2.2.1)
    refine ⟨(cC, iS), fun q hq => ?_⟩
    have e : (some (RX6, TX6, 4) : Option vw_C) = some q := hq
    cases e; exact h
  | 7 => by
    obtain ⟨cC, iS, h⟩ := u_known (fun w hw => hts w (List.mem_filter.mp hw).1) inG7 (hts _ nw_8.2.2.2.2.2.1)
    refine ⟨(cC, iS), fun q hq => ?_⟩
    have e : (some (RX7, TX7, 8) : Option vw_C) = some q := hq
    cases e; exact h
  | 8 => by
    obtain ⟨cC, iS, h⟩ := u_known (fun w hw => hts w (List.mem_filter.mp hw).1) inG8 (hts _ nw_9.2.2.2.2.2.1)
    refine ⟨(cC, iS), fun q hq => ?_⟩
    have e : (some (RX8, TX8, 10) : Option vw_C) = some q := hq
    cases e; exact h
  | 9 => by
    obtain ⟨cC, iS, h⟩ := u_known (fun w hw => hts w (List.mem_filter.mp hw).1) inG9 (hts _ nw_10.2.2.2.2.2.1)
    refine ⟨(cC, iS), fun q hq => ?_⟩
    have e : (some (RX9, TX9, 6) : Option vw_C) = some q := hq
    cases e; exact h
  | 10 => by
    obtain ⟨cC, iS, h⟩ := u_known (fun w hw => hts w (List.mem_filter.mp hw).1) inG10 (hts _ nw_11.2.2.2.2.2.1)
    refine ⟨(cC, iS), fun q hq => ?_⟩
    have e : (some (RX10, TX10, 10) : Option vw_C) = some q := hq
    cases e; exact h
  | 11 => by
    obtain ⟨cC, iS, h⟩ := u_known (fun w hw => hts w (List.mem_filter.mp hw).1) inG11 (hts _ nw_12.2.2.2.2.2.1)
    refine ⟨(cC, iS), fun q hq => ?_⟩
    have e : (some (RX11, TX11, 19) : Option vw_C) = some q := hq
    cases e; exact h
  | 12 => by
    obtain ⟨cC, iS, h⟩ := u_known (fun w hw => hts w (List.mem_filter.mp hw).1) inG12 (hts _ nw_13.2.2.2.2.2.1)
    refine ⟨(cC, iS), fun q hq => ?_⟩
    have e : (some (RX12, TX12, 54) : Option vw_C) = some q := hq
    cases e; exact h
  | n + 13 => ⟨(0, fun _ => 0), fun t ht => absurd (ht.symm.trans (List.getElem?_eq_none (by show 13 ≤ n + 13; omega))) (fun z => nomatch z)⟩
theorem st_arr {args : Array Value} {s : State} {ty : FieldType} (h : (Cond.arrayClass ty).before args s = true) : ∃ c : ClassId, ArrOfT s c ty ∧ s.vm.findClass ("[" ++ ty.toString) = some c := by
  obtain ⟨c, k, comp, f1, f2, f3⟩ := Cond.arrayClass_spec (args := args) (first := s) (o := none) (s := s) (idx := []) h
  exact ⟨c, fun n z => ⟨fun k h => (by cases h), k, f2, comp, f3⟩, f1⟩
theorem st_aro {args : Array Value} {s : State} {n : String} (h : (Cond.arrayOver (.object n)).before args s = true) : ∃ c : ClassId, ArrOfT s c (.object n) ∧ va_RA s c (.object n) := by
  obtain ⟨comp, c, k, g1, g2, g3, g4, g5⟩ := Cond.arrayOver_spec (args := args) (first := s) (o := none) (s := s) (idx := []) h
  exact ⟨c, fun n z => ⟨fun k h => (by cases h), k, g3, comp, g4⟩, k, comp, g3, g4, g1, g5⟩
theorem st_ara {args : Array Value} {s : State} {t : FieldType} (h : (Cond.arrayOver (.array t)).before args s = true) : ∃ c : ClassId, ArrOfT s c (.array t) ∧ s.vm.findClass ("[" ++ (FieldType.array t).toString) = some c := by
  have h : (Cond.arrayOver (.array t)).holds args s none s [] = true := h
  simp only [Cond.holds, Cond.value, beq_iff_eq] at h
  obtain ⟨comp, hc, h⟩ := Option.bind_eq_some_iff.mp h
  obtain ⟨c, hi, h⟩ := Option.bind_eq_some_iff.mp h
  obtain ⟨k, hk, h⟩ := Option.map_eq_some_iff.mp h
  split at h
  · next cm ty e =>
    simp only [Bool.and_eq_true, decide_eq_true_eq] at h
    exact ⟨c, fun n z => ⟨fun k h => (by cases h), k, hk, cm, by rw [e, h.1]⟩, h.2⟩
  · cases h
/-- the world at the start -/
def st_G (l : Launch) (D : Nat → ClassId × (Nat → Nat)) (c14 c15 c16 c17 c18 : ClassId) (H : Heap) (f : Nat → Nat × Nat) (b L : Nat) (xs : Nat → Int32) : GT := (l, (fun c => (D c).1, fun c => (D c).2), (fun k => if k = 14 then c14 else if k = 15 then c15 else if k = 16 then c16 else if k = 17 then c17 else c18), H, (fun i => (f i).1), (fun i => (f i).2), (b, L, xs))
def st_M (H : Heap) : Mm := (H.size, fun _ => (0, 0), fun _ _ => 0, fun _ _ => 0, fun _ _ => none)
theorem st_rel {G : GT} {H : Heap} (hB : gB G = H) : Rel G (st_M H) H := by
  refine ⟨rfl, by rw [hB]; exact Nat.le_refl _, fun q _ => by rw [hB], fun a h => absurd rfl h, fun a => ⟨fun j t _ ht => ?_, fun h => absurd h (by show ¬ 1000 ≤ 0; omega), fun h => absurd h (by show ¬ 0 = 16; omega), fun h => absurd h (by show ¬ 0 = 17; omega)⟩⟩
  have e : (ftb 0)[j]? = some t := ht
  rw [show ftb 0 = [] from by decide +kernel] at e
  exact absurd e (by simp)
theorem st_GK {l : Launch} {s : State} {b L : Nat} {xs : Nat → Int32} (hl : l.stackTraces = false) (hts : ∀ w ∈ lw_tbl, w.before #[Value.ref b] s = true) (hs : ∀ c ∈ flatC (Jvm.Cond.and given_1 narrow_1), c.before #[Value.ref b] s = true) (hX : va_X b L xs s s.heap) (hb : b < s.heap.size) : ∃ G : GT, gl G = l ∧ gB G = s.heap ∧ gS G = (b, L, xs) ∧ GK G s := by
  have hA : ∀ a : Nat, a < s.heap.size → ¬ (fun q : Nat => s.heap.size ≤ q) a := fun a ha => Nat.not_le.mpr ha
  have h1 := st_all (A := fun q => s.heap.size ≤ q) hA hs hts
  have h2 := st_cls hts
  obtain ⟨f, hf⟩ : ∃ f : Nat → Nat × Nat, ∀ i t, strT[i]? = some t → st_X t (f i) (fun q => s.heap.size ≤ q) s := ⟨fun i => Classical.choose (h1 i), fun i => Classical.choose_spec (h1 i)⟩
  obtain ⟨D, hD⟩ : ∃ D : Nat → ClassId × (Nat → Nat), ∀ c q, vwCl[c]? = some q → u_Kn s q.1 q.2.1 q.2.2 (D c).1 (D c).2 := ⟨fun c => Classical.choose (h2 c), fun c => Classical.choose_spec (h2 c)⟩
  obtain ⟨c14, g14, n14⟩ := st_arr (ty := .int) (hts _ (List.mem_of_getElem? (i := 155) (by decide +kernel)))
  obtain ⟨c15, g15, n15⟩ := st_arr (ty := .long) (hts _ (List.mem_of_getElem? (i := 412) (by decide +kernel)))
  obtain ⟨c16, g16, n16⟩ := st_aro (n := "ChalkWall$Image") (hts _ (List.mem_of_getElem? (i := 245) (by decide +kernel)))
  obtain ⟨c17, g17, n17⟩ := st_aro (n := "ChalkWall$Wall") (hts _ (List.mem_of_getElem? (i := 243) (by decide +kernel)))
  obtain ⟨c18, g18, n18⟩ := st_ara (t := .int) (hts _ (List.mem_of_getElem? (i := 1400) (by decide +kernel)))
  refine ⟨st_G l D c14 c15 c16 c17 c18 s.heap f b L xs, rfl, rfl, rfl, ⟨fun c q hq => hD c q hq, fun k q hq => ?_⟩, ⟨fun w hw hn => ?_, ?_, ?_, ?_⟩, fun i t ht => hf i t ht, ?_, ?_, ?_, hX, hb, hl, ?_, ?_⟩
  · match k, hq with
    | 0, hq => have e : (some (c14, FieldType.int) : Option (ClassId × FieldType)) = some q := hq; cases e; exact ⟨g14, n14⟩
    | 1, hq => have e : (some (c15, FieldType.long) : Option (ClassId × FieldType)) = some q := hq; cases e; exact ⟨g15, n15⟩
    | 2, hq => have e : (some (c16, FieldType.object "ChalkWall$Image") : Option (ClassId × FieldType)) = some q := hq; cases e; exact ⟨g16, n16⟩
    | 3, hq => have e : (some (c17, FieldType.object "ChalkWall$Wall") : Option (ClassId × FieldType)) = some q := hq; cases e; exact ⟨g17, n17⟩
    | 4, hq => have e : (some (c18, FieldType.array .int) : Option (ClassId × FieldType)) = some q := hq; cases e; exact ⟨g18, n18⟩
    | n + 5, hq => exact absurd (hq.symm.trans (List.getElem?_eq_none (by show 5 ≤ n + 5; omega))) (fun z => nomatch z)
  · have h9 := hts w hw
    cases w <;> first | (exact va_Nw.of rfl h9) | (simp [wNest] at hn)
  · exact hts (Cond.arrayOver (.object "ChalkWall$Wall")) (List.mem_of_getElem? (i := 243) (by decide +kernel))
  · exact hts (Cond.arrayOver (.object "ChalkWall$Image")) (List.mem_of_getElem? (i := 245) (by decide +kernel))
  · exact va_AOA.of (hts _ (List.mem_of_getElem? (i := 1400) (by decide +kernel)))
  · exact va_Zof (hts _ (List.mem_of_getElem? (i := 764) (by decide +kernel))) (hts _ (List.mem_of_getElem? (i := 112) (by decide +kernel))) (va_eqt (hs _ (List.mem_of_getElem? (i := 6) (by decide +kernel)))) hA
  · exact vx_Zqof (hts _ (List.mem_of_getElem? (i := 680) (by decide +kernel))) (hts _ (List.mem_of_getElem? (i := 107) (by decide +kernel))) (hs _ (List.mem_of_getElem? (i := 4) (by decide +kernel))) hA
  · exact vx_Zqof (hts _ (List.mem_of_getElem? (i := 682) (by decide +kernel))) (hts _ (List.mem_of_getElem? (i := 107) (by decide +kernel))) (hs _ (List.mem_of_getElem? (i := 5) (by decide +kernel))) hA
  · exact va_Nc.of (hs _ (List.mem_of_getElem? (i := 37) (by decide +kernel)))
  · exact va_Zqof (hts _ (List.mem_of_getElem? (i := 780) (by decide +kernel))) (hts _ (List.mem_of_getElem? (i := 114) (by decide +kernel))) (hs _ (List.mem_of_getElem? (i := 7) (by decide +kernel))) hA
