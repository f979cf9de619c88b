/-! # core, 10: what is thrown -/
def sXm (M : Mm) (n : Nat) : Mm := (n, M.2)
theorem Rel.sX {G : GT} {M : Mm} {H H' : Heap} (h : Rel G M H) (hsz : H.size ≤ H'.size) (oq : ∀ q, q < H.size → H'[q]? = H[q]?) : Rel G (sXm M H'.size) H' := by
  obtain ⟨h1, h2, h3, h4, h5⟩ := h
  refine ⟨rfl, Nat.le_trans h2 hsz, fun q hq => by rw [oq q (by omega)]; exact h3 q hq, fun a ha => ?_, h5⟩
  obtain ⟨q1, q2, q3⟩ := h4 a ha
  refine ⟨q1, ?_, ?_⟩
  · show a < H'.size
    omega
  · have e : ce G (sXm M H'.size) a = ce G M a := rfl
    rw [e]
    exact q3.kept (oq a (by omega))
/-- the words of a throw stand in the table -/
def ThrOk (own : String) (ik ic is : Nat) (k i : Nat) : Prop := ∃ (tx : String) (by0 : List Int32), strT[i]? = some (own, is, tx, by0) ∧ Cond.classLink own ik (excN k) ∈ lw_tbl ∧ Cond.initialized (excN k) ∈ lw_tbl ∧ ((vx_atS own ic (excN k) ["java/lang/RuntimeException", "java/lang/Exception"]).all (fun w => decide (w ∈ lw_tbl) && (goodWord w || wNest w))) = true ∧
  ((Cond.classLink own ik (excN k) :: Cond.initialized (excN k) :: vx_atS own ic (excN k) ["java/lang/RuntimeException", "java/lang/Exception"]).all vx_ot) = true ∧ Bundle.fit (excN k) = true
theorem s_throw {Z : ZT} {cc : ByteArray} {own : String} {ret : Option FieldType} {d mc9 ms9 : Nat} {G9 : GT} {Q : Option AV → Mm → Prop} (C : Zok Z cc own ret d G9 mc9 ms9 Q) {pc ik is ic k i : Nat} {x8 : Option Nat} {M8 : Mm} {QX8 : Nat → Mm → Prop} (hz : Zx Z x8 M8 QX8) (F : ThrOk own ik ic is k i) (hd5 : 6 ≤ d)
    (d0 : decode cc pc = .ok (.new ik, 3)) (d3 : decode cc (pc + 3) = .ok (.dup, 1)) (d4 : decode cc (pc + 4) = .ok (.ldc_w is, 3)) (d7 : decode cc (pc + 7) = .ok (.invokespecial ic, 3)) (d10 : decode cc (pc + 10) = .ok (.athrow, 1)) :
    Sd Z (fun _ st M cs ss => st = [] ∧ (cs + 1 ≤ mc9 ∧ ss + 6 ≤ ms9) ∧ ∀ n, nx M ≤ n → QX8 k (sXm M n)) pc := by
  obtain ⟨p, e, R, s, m, args, below, meth, c, G, x9, M0, Q', QX, mc, ms⟩ := Z
  obtain ⟨hx, hb, hown, hts, hlk, hr, hG, hR, hQ, rfl, rfl, rfl, hB⟩ := C
  obtain ⟨rfl, rfl, rfl, hno⟩ := hz
  intro al st M cs ss h H locs ls hl hal hst hgr hrel hS
  obtain ⟨rfl, hn, h⟩ := h
  obtain ⟨tx, by0, f1, f2, f3, f4, f5, f6⟩ := F
  have hbase := hrel.2.2.1
  have hsub : ∀ q : Nat, q < (gB G).size → ¬ gAb G q → s.heap[q]? = (gB G)[q]? := fun q h1 h2 => by
    rw [← hS.2.1 q (Nat.lt_of_lt_of_le h1 hB) h2]; exact hbase q h1
  exact vx_throwSW (names := ["java/lang/RuntimeException", "java/lang/Exception"]) (A := gAb G) hx hb hG.2.2.2.2.2.2.2.2.1 hown f6 (by decide +kernel) (hts _ (gtb_in f2 rfl)) (hts _ (gtb_in f3 rfl)) (hG.2.2.1 i _ f1).1
    (fun w hw => by
      have h9 := List.all_eq_true.mp f4 w hw
      simp only [Bool.and_eq_true, decide_eq_true_eq, Bool.or_eq_true] at h9
      rcases h9.2 with g1 | g1
      · exact hts _ (gtb_in h9.1 g1)
      · exact va_Nw.use (by cases w <;> first | rfl | (simp [wNest] at g1)) (hG.2.1.1 w h9.1 g1))
    (fun w hw => List.all_eq_true.mp f5 w hw) (hG.2.2.2.2.1.kept (fun a h1 h2 => hsub a h1 h2)) (hG.2.2.2.2.2.1.kept (fun a h1 h2 => hsub a h1 h2)) hS hl.1 d0 d3 d4 d7 d10 (fun z hz => (hno z hz).elim)
    (by have := hR.1; show 2 + 3 < R.frames; omega) (by have := hR.2.1; show 0 + (13 * (2 + 1) + 43) ≤ R.locals; omega) (Nat.le_trans hn.1 hR.2.2.1) (Nat.le_trans hn.2 hR.2.2.2) hlk
    (fun t hal2 z1 z2 => ⟨k, sXm M t.heap.size, rfl, h _ (by rw [hrel.1]; exact z1), ⟨Nat.le_trans hgr.1.1 (by show nx M ≤ t.heap.size; rw [hrel.1]; exact z1), fun b h0 hx9 => hgr.1.2 b h0 hx9⟩, hrel.sX z1 z2, (hS.new z1 z2).F rfl⟩) hS.2.2 hn.1 hn.2
