/-! # core, 8: new cells -/
theorem nx_sN (M : Mm) (k n : Nat) : nx (sN M k n) = nx M + 1 := rfl
theorem kd_sN (M : Mm) (k n a : Nat) : kd (sN M k n) a = if a = nx M then (k, n) else kd M a := rfl
theorem gI_sN (M : Mm) (k n a j : Nat) : gI (sN M k n) a j = if a = nx M then 0 else gI M a j := rfl
theorem gL_sN (M : Mm) (k n a j : Nat) : gL (sN M k n) a j = if a = nx M then 0 else gL M a j := rfl
theorem gR_sN (M : Mm) (k n a j : Nat) : gR (sN M k n) a j = if a = nx M then none else gR M a j := rfl
theorem ftb_k0 : ∀ k, k < 1000 → ∀ t ∈ ftb k, (t.1 = 1 ∨ t.1 = 2) → t.2.2.1 ≠ 0 := by
  have h : ∀ l ∈ ftF, ∀ t ∈ l, (t.1 = 1 ∨ t.1 = 2) → t.2.2.1 ≠ 0 := by decide +kernel
  have h1 : ∀ i, ∀ t ∈ ftF.getD i [], (t.1 = 1 ∨ t.1 = 2) → t.2.2.1 ≠ 0 := by
    intro i t ht
    rw [List.getD_eq_getElem?_getD] at ht
    cases e : ftF[i]? with
    | none => rw [e] at ht; exact absurd ht List.not_mem_nil
    | some l => rw [e] at ht; exact h l (List.mem_of_getElem? e) t ht
  intro k _ t ht
  unfold ftb at ht
  split at ht
  · obtain ⟨t0, h0, e0⟩ := List.mem_map.mp ht
    intro q
    have := h1 _ t0 h0
    by_cases e : t0.1 = 1
    · rw [if_pos e] at e0; rw [← e0]; exact this (Or.inl e)
    · rw [if_neg e] at e0; rw [← e0] at q ⊢; exact this q
  · exact h1 _ t ht
/-- kinds that a new cell may have -/
def newK (k : Nat) : Bool := (Nat.ble 14 k && Nat.ble k 17) || (Nat.blt 200 k && Nat.blt k 214)
theorem ftb_new {k : Nat} (h : newK k = true) : ∀ t ∈ ftb k, t.1 ≠ 1 := by
  unfold newK at h
  simp only [Bool.or_eq_true, Bool.and_eq_true, Nat.blt_eq, Nat.ble_eq] at h
  intro t ht
  unfold ftb at ht
  rcases h with h | h
  · rw [if_neg (by omega)] at ht
    have e : ftF.getD (k - 1 + 100 * (1 - k)) [] = [] := by
      have hk : k = 14 ∨ k = 15 ∨ k = 16 ∨ k = 17 := by omega
      rcases hk with rfl | rfl | rfl | rfl <;> decide +kernel
    rw [e] at ht
    exact absurd ht List.not_mem_nil
  · rw [if_pos (by omega)] at ht
    obtain ⟨t0, h0, e0⟩ := List.mem_map.mp ht
    by_cases e : t0.1 = 1
    · rw [if_pos e] at e0; rw [← e0]; exact (by intro z; cases z)
    · rw [if_neg e] at e0; rw [← e0]; exact e
theorem tyO_sN {M : Mm} {k n : Nat} (hk : newK k = true) (hlt : ∀ a, (kd M a).1 ≠ 0 → a < nx M) (h : tyO M) : tyO (sN M k n) := by
  have h0 : (kd M (nx M)).1 = 0 := by
    cases e : (kd M (nx M)).1 with
    | zero => rfl
    | succ z => exact absurd (hlt (nx M) (by rw [e]; exact fun q => nomatch q)) (Nat.lt_irrefl _)
  have keep : ∀ a x, kd M a = x → x.1 ≠ 0 → kd (sN M k n) a = x := by
    intro a x e hx
    rw [kd_sN, if_neg]
    · exact e
    · intro z; rw [z] at e; rw [e] at h0; exact hx h0
  have hk2 : k < 1000 ∧ ¬ k = 0 := by
    unfold newK at hk
    simp only [Bool.or_eq_true, Bool.and_eq_true, Nat.blt_eq, Nat.ble_eq] at hk
    omega
  intro a
  by_cases ha : a = nx M
  · subst ha
    have e1 : kd (sN M k n) (nx M) = (k, n) := by rw [kd_sN, if_pos rfl]
    have e2 : ∀ j, gR (sN M k n) (nx M) j = none := fun j => by rw [gR_sN, if_pos rfl]
    rw [e1]
    refine ⟨fun j t _ ht => ⟨fun e => absurd e (ftb_new hk t (List.mem_of_getElem? ht)), fun _ b hb => ?_⟩, fun q => absurd q (by dsimp only; omega), fun _ j b _ hb => ?_, fun _ j b _ hb => ?_⟩ <;> (rw [e2] at hb; cases hb)
  · have e1 : kd (sN M k n) a = kd M a := by rw [kd_sN, if_neg ha]
    have e2 : ∀ j, gR (sN M k n) a j = gR M a j := fun j => by rw [gR_sN, if_neg ha]
    obtain ⟨q1, q2, q3, q4⟩ := h a
    rw [e1]
    refine ⟨fun j t hkk ht => ⟨fun e => keep _ _ ((q1 j t hkk ht).1 e) (ftb_k0 _ hkk t (List.mem_of_getElem? ht) (Or.inl e)), fun e b hb => ?_⟩, fun hkk j hj => keep _ _ (q2 hkk j hj) (by intro z; cases z), fun hkk j b hj hb => ?_, fun hkk j b hj hb => ?_⟩
    · rw [e2] at hb; exact keep _ _ ((q1 j t hkk ht).2 e b hb) (ftb_k0 _ hkk t (List.mem_of_getElem? ht) (Or.inr e))
    · rw [e2] at hb; exact keep _ _ (q3 hkk j b hj hb) (by decide)
    · rw [e2] at hb; exact keep _ _ (q4 hkk j b hj hb) (by decide)
theorem ce_sN_ne (G : GT) (M : Mm) (k n : Nat) {b : Nat} (h : b ≠ nx M) : ce G (sN M k n) b = ce G M b := by
  have e0 : kd (sN M k n) b = kd M b := by rw [kd_sN, if_neg h]
  have e1 : gI (sN M k n) b = gI M b := by funext i; rw [gI_sN, if_neg h]
  have e2 : gL (sN M k n) b = gL M b := by funext i; rw [gL_sN, if_neg h]
  have e3 : gR (sN M k n) b = gR M b := by funext i; rw [gR_sN, if_neg h]
  have e4 : fvs (sN M k n) b (kd M b).1 = fvs M b (kd M b).1 := by
    unfold fvs fv
    rw [e1, e3]
  unfold ce
  rw [e0, e1, e2, e3, e4]
theorem Rel.new {G : GT} {M : Mm} {H H' : Heap} {k n : Nat} (h : Rel G M H) (hk : newK k = true) (hsz : H'.size = H.size + 1) (oq : ∀ q, q < H.size → H'[q]? = H[q]?) (hat : va_at (gD G) vwCl (nx M, ce G (sN M k n) (nx M)) H') : Rel G (sN M k n) H' := by
  obtain ⟨h1, h2, h3, h4, h5⟩ := h
  refine ⟨by rw [nx_sN, hsz, h1], by omega, fun q hq => by rw [oq q (by omega)]; exact h3 q hq, fun a ha => ?_, tyO_sN hk (fun a ha => (h4 a ha).2.1) h5⟩
  by_cases e : a = nx M
  · subst e
    exact ⟨by omega, by rw [nx_sN]; omega, hat⟩
  · rw [kd_sN, if_neg e] at ha
    obtain ⟨q1, q2, q3⟩ := h4 a ha
    refine ⟨q1, by rw [nx_sN]; omega, ?_⟩
    rw [ce_sN_ne G M k n e]
    exact q3.kept (oq a (by omega))
theorem Grow.new {M : Mm} {k n : Nat} (hlt : ∀ a, (kd M a).1 ≠ 0 → a < nx M) : Grow none M (sN M k n) := ⟨by rw [nx_sN]; omega, fun b h0 _ => by rw [kd_sN, if_neg (by have := hlt b h0; omega)]⟩
theorem va_S.new {A : Nat → Prop} {H0 H H1 : Heap} {locs : List Loc} (h : va_S A H0 H locs) (hsz : H.size ≤ H1.size) (oq : ∀ q, q < H.size → H1[q]? = H[q]?) : va_S A H0 H1 locs := ⟨Nat.le_trans h.1 hsz, fun q h1 h2 => by rw [oq q (Nat.lt_of_lt_of_le h1 h.1)]; exact h.2.1 q h1 h2, h.2.2⟩
def o_newa (k n : Nat) (c : Int32) (mc ms : Nat) (φ : Fm) : Fm := fun al st M cs ss => match st with
  | Sum.inl i :: st => i = c ∧ (cs + 1 ≤ mc ∧ ss + n ≤ ms) ∧ ∀ M1 : Mm, M1 = sN M k n → φ al (vR (nx M) k n :: st) M1 (cs + 1) (ss + n)
  | _ => False
theorem Gro.new {x : Option Nat} {M0 M : Mm} {cs ss mc ms k n n2 : Nat} (h : Gro x M0 M cs ss mc ms) (hlt : ∀ a, (kd M a).1 ≠ 0 → a < nx M) (hn : cs + 1 ≤ mc ∧ ss + n2 ≤ ms) : Gro x M0 (sN M k n) (cs + 1) (ss + n2) mc ms := ⟨h.1.trans (Grow.new hlt).weak, hn⟩
/-! ## grids -/
theorem nx_sG (M : Mm) (n k : Nat) : nx (sG M n k) = nx M + (1 + n) := rfl
theorem kd_sG (M : Mm) (n k a : Nat) : kd (sG M n k) a = if a = nx M then (1000 + k, n) else if nx M < a ∧ a < nx M + (1 + n) then (14, k) else kd M a := rfl
theorem gI_sG (M : Mm) (n k a j : Nat) : gI (sG M n k) a j = if nx M ≤ a ∧ a < nx M + (1 + n) then 0 else gI M a j := rfl
theorem gL_sG (M : Mm) (n k a j : Nat) : gL (sG M n k) a j = if nx M ≤ a ∧ a < nx M + (1 + n) then 0 else gL M a j := rfl
theorem gR_sG (M : Mm) (n k a j : Nat) : gR (sG M n k) a j = if nx M ≤ a ∧ a < nx M + (1 + n) then none else gR M a j := rfl
theorem tyO_sG {M : Mm} {n k : Nat} (hlt : ∀ a, (kd M a).1 ≠ 0 → a < nx M) (h : tyO M) : tyO (sG M n k) := by
  have keep : ∀ a x, kd M a = x → x.1 ≠ 0 → kd (sG M n k) a = x := by
    intro a x e hx
    have ha := hlt a (by rw [e]; exact hx)
    rw [kd_sG, if_neg (by omega), if_neg (by omega)]
    exact e
  have f14 : ftb 14 = [] := by decide +kernel
  intro a
  by_cases ha : a = nx M
  · subst ha
    have e1 : kd (sG M n k) (nx M) = (1000 + k, n) := by rw [kd_sG, if_pos rfl]
    rw [e1]
    refine ⟨fun j t hk _ => absurd hk (by dsimp only; omega), fun _ j hj => ?_, fun q => absurd q (by dsimp only; omega), fun q => absurd q (by dsimp only; omega)⟩
    dsimp only at hj ⊢
    rw [kd_sG, if_neg (by omega), if_pos (by omega), Nat.add_sub_cancel_left]
  · by_cases hb : nx M < a ∧ a < nx M + (1 + n)
    · have e1 : kd (sG M n k) a = (14, k) := by rw [kd_sG, if_neg ha, if_pos hb]
      rw [e1]
      refine ⟨fun j t _ ht => ?_, fun q => absurd q (by dsimp only; omega), fun q => absurd q (by dsimp only; omega), fun q => absurd q (by dsimp only; omega)⟩
      rw [f14] at ht
      cases ht
    · have e1 : kd (sG M n k) a = kd M a := by rw [kd_sG, if_neg ha, if_neg hb]
      have e2 : ∀ j, gR (sG M n k) a j = gR M a j := fun j => by rw [gR_sG, if_neg (by omega)]
      obtain ⟨q1, q2, q3, q4⟩ := h a
      rw [e1]
      refine ⟨fun j t hkk ht => ⟨fun e => keep _ _ ((q1 j t hkk ht).1 e) (ftb_k0 _ hkk t (List.mem_of_getElem? ht) (Or.inl e)), fun e b hb => ?_⟩, fun hkk j hj => keep _ _ (q2 hkk j hj) (by intro z; cases z), fun hkk j b hj hb => ?_, fun hkk j b hj hb => ?_⟩
      · rw [e2] at hb; exact keep _ _ ((q1 j t hkk ht).2 e b hb) (ftb_k0 _ hkk t (List.mem_of_getElem? ht) (Or.inr e))
      · rw [e2] at hb; exact keep _ _ (q3 hkk j b hj hb) (by decide)
      · rw [e2] at hb; exact keep _ _ (q4 hkk j b hj hb) (by decide)
theorem ce_sG_ne (G : GT) (M : Mm) (n k : Nat) {b : Nat} (h : b < nx M) : ce G (sG M n k) b = ce G M b := by
  have e0 : kd (sG M n k) b = kd M b := by rw [kd_sG, if_neg (by omega), if_neg (by omega)]
  have e1 : gI (sG M n k) b = gI M b := by funext i; rw [gI_sG, if_neg (by omega)]
  have e2 : gL (sG M n k) b = gL M b := by funext i; rw [gL_sG, if_neg (by omega)]
  have e3 : gR (sG M n k) b = gR M b := by funext i; rw [gR_sG, if_neg (by omega)]
  have e4 : fvs (sG M n k) b (kd M b).1 = fvs M b (kd M b).1 := by
    unfold fvs fv
    rw [e1, e3]
  unfold ce
  rw [e0, e1, e2, e3, e4]
theorem arrV_congr {cA : ClassId} {N : Nat} {f g : Nat → Value} (h : ∀ j, j < N → f j = g j) : arrV cA N f = arrV cA N g := by
  unfold arrV
  congr 1
  apply Array.ext
  · simp
  · intro i h1 h2
    simp only [Array.getElem_ofFn]
    exact h i (by simpa using h1)
theorem Rel.newG {G : GT} {M : Mm} {H H' : Heap} {n k : Nat} (h : Rel G M H) (hsz : H'.size = H.size + (1 + n)) (oq : ∀ q, q < H.size → H'[q]? = H[q]?) (h1 : H'[H.size]? = some (arrV (gA G 18) n (fun j => va_rf (some (H.size + 1 + j))))) (h2 : ∀ j, j < n → H'[H.size + 1 + j]? = some (arrV (gA G 14) k (fun _ => .int 0))) : Rel G (sG M n k) H' := by
  obtain ⟨r1, r2, r3, r4, r5⟩ := h
  refine ⟨by rw [nx_sG, hsz, r1], by omega, fun q hq => by rw [oq q (by omega)]; exact r3 q hq, fun a ha => ?_, tyO_sG (fun a ha => (r4 a ha).2.1) r5⟩
  by_cases e : a = nx M
  · subst e
    refine ⟨by omega, by rw [nx_sG]; omega, ?_⟩
    rw [ce_gr (M := sG M n k) (k := 1000 + k) (n := n) (by omega) (by rw [kd_sG, if_pos rfl])]
    show H'[nx M]? = some (arrV (gA G 18) n (fun j => va_rf (some (nx M + 1 + j))))
    rw [r1]; exact h1
  · by_cases e2 : nx M < a ∧ a < nx M + (1 + n)
    · refine ⟨by omega, by rw [nx_sG]; omega, ?_⟩
      rw [ce_14 (M := sG M n k) (n := k) (by rw [kd_sG, if_neg e, if_pos e2])]
      show H'[a]? = some (arrV (gA G 14) k (fun j => .int (gI (sG M n k) a j)))
      have e3 : a = H.size + 1 + (a - (H.size + 1)) := by omega
      have e4 := h2 (a - (H.size + 1)) (by omega)
      rw [← e3] at e4
      rw [e4]
      refine congrArg (fun f => some (arrV (gA G 14) k f)) (funext fun j => ?_)
      rw [gI_sG, if_pos (by omega)]
    · have e5 : kd (sG M n k) a = kd M a := by rw [kd_sG, if_neg e, if_neg e2]
      rw [e5] at ha
      obtain ⟨q1, q2, q3⟩ := r4 a ha
      refine ⟨q1, by rw [nx_sG]; omega, ?_⟩
      rw [ce_sG_ne G M n k q2]
      exact q3.kept (oq a (by omega))
theorem Grow.newG {M : Mm} {n k : Nat} (hlt : ∀ a, (kd M a).1 ≠ 0 → a < nx M) : Grow none M (sG M n k) := ⟨by rw [nx_sG]; omega, fun b h0 _ => by have := hlt b h0; rw [kd_sG, if_neg (by omega), if_neg (by omega)]⟩
theorem s_newaI {Z : ZT} {cc : ByteArray} {own : String} {ret : Option FieldType} {d mc9 ms9 : Nat} {G9 : GT} {Q : Option AV → Mm → Prop} (C : Zok Z cc own ret d G9 mc9 ms9 Q) {pc : Nat} {n : Nat} {v : Int32} {φ : Fm} (hd : decode cc pc = .ok (.newarray .int, 2)) (harr : Cond.arrayClass .int ∈ lw_tbl) (hv : ¬ v < 0) (hN : v.toNatClampNeg = n) (hby : n * 8 ≤ 536870912) (k : Sd Z φ (pc + 2)) : Sd Z (o_newa 14 n v mc9 ms9 φ) pc := by
  obtain ⟨p, e, R, s, m, args, below, meth, c, G, x9, M0, Q', QX, mc, ms⟩ := Z
  obtain ⟨hx, hb, hown, hts, hlk, hr, hG, hR, hQ, rfl, rfl, rfl, hB⟩ := C
  intro al st M cs ss h H locs ls hl hal hst hgr hrel hS
  unfold o_newa at h
  split at h
  · next i st0 =>
    obtain ⟨rfl, hn, h⟩ := h
    have hlt : ∀ a, (kd M a).1 ≠ 0 → a < nx M := fun a ha => (hrel.2.2.2.1 a ha).2.1
    refine va_newaK hx hb (atype := .int) (N := n) (hts _ (gtb_in harr rfl)) rfl hd rfl hv hN (by show n * componentBytes .int ≤ 536870912; have e9 : componentBytes .int ≤ 8 := (by decide); exact Nat.le_trans (Nat.mul_le_mul_left n e9) hby) (Nat.le_trans hn.1 hR.2.2.1) (Nat.le_trans hn.2 hR.2.2.2) rfl fun H1 cA z1 z2 z3 z4 z5 => ?_
    have hcA : cA = gA G 14 := Option.some.inj (z5.symm.trans (show s.vm.findClass _ = some (gA G 14) from (hG.1.2 0 _ rfl).2))
    subst hcA
    have hrel1 : Rel G (sN M 14 n) H1 := by
      refine hrel.new rfl z2 z3 ?_
      rw [ce_14 (M := sN M 14 n) (n := n) (by rw [kd_sN, if_pos rfl])]
      show H1[nx M]? = some (arrV (gA G 14) n (fun j => .int (gI (sN M 14 n) (nx M) j)))
      rw [hrel.1, z1]
      refine congrArg (fun f => some (arrV (gA G 14) n f)) (funext fun j => ?_)
      rw [gI_sN, if_pos hrel.1.symm]
      rfl
    have hg := Grow.new (k := 14) (n := n) hlt
    have kk := k al (vR (nx M) 14 n :: st0) (sN M 14 n) (cs + 1) (ss + n) (h _ rfl) H1 locs ls hl (hal.grow hg) (okS.cons (okV.mk (by rw [kd_sN, if_pos rfl]) (by decide) (by decide) (by decide) (by decide)) (okS.grow hg (okS.tail hst))) (hgr.new hlt hn) hrel1 (hS.new (by omega) z3)
    have e0 : cv (vR (nx M) 14 n) = .ref H.size := by rw [← hrel.1]; rfl
    rw [List.map_cons, e0] at kk
    exact kk
  · exact h.elim
theorem s_newaJ {Z : ZT} {cc : ByteArray} {own : String} {ret : Option FieldType} {d mc9 ms9 : Nat} {G9 : GT} {Q : Option AV → Mm → Prop} (C : Zok Z cc own ret d G9 mc9 ms9 Q) {pc : Nat} {n : Nat} {v : Int32} {φ : Fm} (hd : decode cc pc = .ok (.newarray .long, 2)) (harr : Cond.arrayClass .long ∈ lw_tbl) (hv : ¬ v < 0) (hN : v.toNatClampNeg = n) (hby : n * 8 ≤ 536870912) (k : Sd Z φ (pc + 2)) : Sd Z (o_newa 15 n v mc9 ms9 φ) pc := by
  obtain ⟨p, e, R, s, m, args, below, meth, c, G, x9, M0, Q', QX, mc, ms⟩ := Z
  obtain ⟨hx, hb, hown, hts, hlk, hr, hG, hR, hQ, rfl, rfl, rfl, hB⟩ := C
  intro al st M cs ss h H locs ls hl hal hst hgr hrel hS
  unfold o_newa at h
  split at h
  · next i st0 =>
    obtain ⟨rfl, hn, h⟩ := h
    have hlt : ∀ a, (kd M a).1 ≠ 0 → a < nx M := fun a ha => (hrel.2.2.2.1 a ha).2.1
    refine va_newaK hx hb (atype := .long) (N := n) (hts _ (gtb_in harr rfl)) rfl hd rfl hv hN (by show n * componentBytes .long ≤ 536870912; have e9 : componentBytes .long ≤ 8 := (by decide); exact Nat.le_trans (Nat.mul_le_mul_left n e9) hby) (Nat.le_trans hn.1 hR.2.2.1) (Nat.le_trans hn.2 hR.2.2.2) rfl fun H1 cA z1 z2 z3 z4 z5 => ?_
    have hcA : cA = gA G 15 := Option.some.inj (z5.symm.trans (show s.vm.findClass _ = some (gA G 15) from (hG.1.2 1 _ rfl).2))
    subst hcA
    have hrel1 : Rel G (sN M 15 n) H1 := by
      refine hrel.new rfl z2 z3 ?_
      rw [ce_15 (M := sN M 15 n) (n := n) (by rw [kd_sN, if_pos rfl])]
      show H1[nx M]? = some (arrV (gA G 15) n (fun j => .long (gL (sN M 15 n) (nx M) j)))
      rw [hrel.1, z1]
      refine congrArg (fun f => some (arrV (gA G 15) n f)) (funext fun j => ?_)
      rw [gL_sN, if_pos hrel.1.symm]
      rfl
    have hg := Grow.new (k := 15) (n := n) hlt
    have kk := k al (vR (nx M) 15 n :: st0) (sN M 15 n) (cs + 1) (ss + n) (h _ rfl) H1 locs ls hl (hal.grow hg) (okS.cons (okV.mk (by rw [kd_sN, if_pos rfl]) (by decide) (by decide) (by decide) (by decide)) (okS.grow hg (okS.tail hst))) (hgr.new hlt hn) hrel1 (hS.new (by omega) z3)
    have e0 : cv (vR (nx M) 15 n) = .ref H.size := by rw [← hrel.1]; rfl
    rw [List.map_cons, e0] at kk
    exact kk
  · exact h.elim
theorem s_newqM {Z : ZT} {cc : ByteArray} {own : String} {ret : Option FieldType} {d mc9 ms9 : Nat} {G9 : GT} {Q : Option AV → Mm → Prop} (C : Zok Z cc own ret d G9 mc9 ms9 Q) {pc : Nat} {n index : Nat} {v : Int32} {φ : Fm} (hd : decode cc pc = .ok (.anewarray index, 3)) (hcl : Cond.classLink own index "ChalkWall$Image" ∈ lw_tbl) (hv : ¬ v < 0) (hN : v.toNatClampNeg = n) (hby : n * 4 ≤ 536870912) (k : Sd Z φ (pc + 3)) : Sd Z (o_newa 16 n v mc9 ms9 φ) pc := by
  obtain ⟨p, e, R, s, m, args, below, meth, c, G, x9, M0, Q', QX, mc, ms⟩ := Z
  obtain ⟨hx, hb, hown, hts, hlk, hr, hG, hR, hQ, rfl, rfl, rfl, hB⟩ := C
  intro al st M cs ss h H locs ls hl hal hst hgr hrel hS
  unfold o_newa at h
  split at h
  · next i st0 =>
    obtain ⟨rfl, hn, h⟩ := h
    have hlt : ∀ a, (kd M a).1 ≠ 0 → a < nx M := fun a ha => (hrel.2.2.2.1 a ha).2.1
    subst hN
    refine W.anew hx hb hown (hts _ (gtb_in hcl rfl)) (va_AO.use hG.2.1.2.2.1) rfl hd rfl hv hby (Nat.le_trans hn.1 hR.2.2.1) (Nat.le_trans hn.2 hR.2.2.2) fun cA kA comp f1 f2 f3 f4 => ?_
    have hcA : cA = gA G 16 := by
      obtain ⟨kA9, comp9, g1, g2, g3, g4⟩ := (hG.1.2 2 _ rfl).2
      exact Option.some.inj (f1.symm.trans g4)
    subst hcA
    generalize hH1 : H.push ({ cls := gA G 16, slots := Array.replicate i.toNatClampNeg .null, vm := .none } : Cell) = H1
    have z2 : H1.size = H.size + 1 := by rw [← hH1, Array.size_push]
    have z1 : H1[H.size]? = some (arrV (gA G 16) i.toNatClampNeg (fun _ => .null)) := by rw [← hH1, Array.getElem?_push_size, ← arrV_new]
    have z3 : ∀ q : Nat, q < H.size → H1[q]? = H[q]? := fun q hq => by rw [← hH1, Array.getElem?_push, if_neg (Nat.ne_of_lt hq)]
    have hrel1 : Rel G (sN M 16 i.toNatClampNeg) H1 := by
      refine hrel.new rfl z2 z3 ?_
      rw [ce_16 (M := sN M 16 i.toNatClampNeg) (n := i.toNatClampNeg) (by rw [kd_sN, if_pos rfl])]
      show H1[nx M]? = some (arrV (gA G 16) i.toNatClampNeg (fun j => va_rf (gR (sN M 16 i.toNatClampNeg) (nx M) j)))
      rw [hrel.1, z1]
      refine congrArg (fun f => some (arrV (gA G 16) i.toNatClampNeg f)) (funext fun j => ?_)
      rw [gR_sN, if_pos hrel.1.symm]
      rfl
    have hg := Grow.new (k := 16) (n := i.toNatClampNeg) hlt
    have kk := k al (vR (nx M) 16 i.toNatClampNeg :: st0) (sN M 16 i.toNatClampNeg) (cs + 1) (ss + i.toNatClampNeg) (h _ rfl) H1 locs ls hl (hal.grow hg) (okS.cons (okV.mk (by rw [kd_sN, if_pos rfl]) (by decide) (by decide) (by decide) (by decide)) (okS.grow hg (okS.tail hst))) (hgr.new hlt hn) hrel1 (hS.new (by omega) z3)
    have e0 : cv (vR (nx M) 16 i.toNatClampNeg) = .ref H.size := by rw [← hrel.1]; rfl
    rw [List.map_cons, e0] at kk
    exact kk
  · exact h.elim
theorem s_newqW {Z : ZT} {cc : ByteArray} {own : String} {ret : Option FieldType} {d mc9 ms9 : Nat} {G9 : GT} {Q : Option AV → Mm → Prop} (C : Zok Z cc own ret d G9 mc9 ms9 Q) {pc : Nat} {n index : Nat} {v : Int32} {φ : Fm} (hd : decode cc pc = .ok (.anewarray index, 3)) (hcl : Cond.classLink own index "ChalkWall$Wall" ∈ lw_tbl) (hv : ¬ v < 0) (hN : v.toNatClampNeg = n) (hby : n * 4 ≤ 536870912) (k : Sd Z φ (pc + 3)) : Sd Z (o_newa 17 n v mc9 ms9 φ) pc := by
  obtain ⟨p, e, R, s, m, args, below, meth, c, G, x9, M0, Q', QX, mc, ms⟩ := Z
  obtain ⟨hx, hb, hown, hts, hlk, hr, hG, hR, hQ, rfl, rfl, rfl, hB⟩ := C
  intro al st M cs ss h H locs ls hl hal hst hgr hrel hS
  unfold o_newa at h
  split at h
  · next i st0 =>
    obtain ⟨rfl, hn, h⟩ := h
    have hlt : ∀ a, (kd M a).1 ≠ 0 → a < nx M := fun a ha => (hrel.2.2.2.1 a ha).2.1
    subst hN
    refine W.anew hx hb hown (hts _ (gtb_in hcl rfl)) (va_AO.use hG.2.1.2.1) rfl hd rfl hv hby (Nat.le_trans hn.1 hR.2.2.1) (Nat.le_trans hn.2 hR.2.2.2) fun cA kA comp f1 f2 f3 f4 => ?_
    have hcA : cA = gA G 17 := by
      obtain ⟨kA9, comp9, g1, g2, g3, g4⟩ := (hG.1.2 3 _ rfl).2
      exact Option.some.inj (f1.symm.trans g4)
    subst hcA
    generalize hH1 : H.push ({ cls := gA G 17, slots := Array.replicate i.toNatClampNeg .null, vm := .none } : Cell) = H1
    have z2 : H1.size = H.size + 1 := by rw [← hH1, Array.size_push]
    have z1 : H1[H.size]? = some (arrV (gA G 17) i.toNatClampNeg (fun _ => .null)) := by rw [← hH1, Array.getElem?_push_size, ← arrV_new]
    have z3 : ∀ q : Nat, q < H.size → H1[q]? = H[q]? := fun q hq => by rw [← hH1, Array.getElem?_push, if_neg (Nat.ne_of_lt hq)]
    have hrel1 : Rel G (sN M 17 i.toNatClampNeg) H1 := by
      refine hrel.new rfl z2 z3 ?_
      rw [ce_17 (M := sN M 17 i.toNatClampNeg) (n := i.toNatClampNeg) (by rw [kd_sN, if_pos rfl])]
      show H1[nx M]? = some (arrV (gA G 17) i.toNatClampNeg (fun j => va_rf (gR (sN M 17 i.toNatClampNeg) (nx M) j)))
      rw [hrel.1, z1]
      refine congrArg (fun f => some (arrV (gA G 17) i.toNatClampNeg f)) (funext fun j => ?_)
      rw [gR_sN, if_pos hrel.1.symm]
      rfl
    have hg := Grow.new (k := 17) (n := i.toNatClampNeg) hlt
    have kk := k al (vR (nx M) 17 i.toNatClampNeg :: st0) (sN M 17 i.toNatClampNeg) (cs + 1) (ss + i.toNatClampNeg) (h _ rfl) H1 locs ls hl (hal.grow hg) (okS.cons (okV.mk (by rw [kd_sN, if_pos rfl]) (by decide) (by decide) (by decide) (by decide)) (okS.grow hg (okS.tail hst))) (hgr.new hlt hn) hrel1 (hS.new (by omega) z3)
    have e0 : cv (vR (nx M) 17 i.toNatClampNeg) = .ref H.size := by rw [← hrel.1]; rfl
    rw [List.map_cons, e0] at kk
    exact kk
  · exact h.elim
/-- what is fixed of a class whose objects are made -/
def NewOk (k : Nat) (C : String) (T : u_T) (N : Nat) : Prop := 200 < k ∧ k < 214 ∧ vwCl[cix k]? = some (C, T, N) ∧ (∀ w ∈ u_ws C T N, w ∈ gtb) ∧ (ftb k).length = N ∧ Cond.instantiable C N ∈ lw_tbl ∧ Cond.initialized C ∈ lw_tbl ∧
  ∃ ty0 : Nat → FieldType, (∀ k, k < N → parseFieldDescriptor (T k).2.2.1 = some (ty0 k)) ∧ ∀ (j : Nat) (t : Nat × Nat × Nat × Nat), (ftb k)[j]? = some t → (t.1 = 0 ∧ ty0 j = .int) ∨ (t.1 = 2 ∧ ((∃ n, ty0 j = .object n) ∨ ∃ z, ty0 j = .array z))
def o_new (k N : Nat) (mc ms : Nat) (φ : Fm) : Fm := fun al st M cs ss => (cs + 1 ≤ mc ∧ ss + N ≤ ms) ∧ ∀ M1 : Mm, M1 = sN M k 0 → φ al (vR (nx M) k 0 :: st) M1 (cs + 1) (ss + N)
theorem s_new {Z : ZT} {cc : ByteArray} {own : String} {ret : Option FieldType} {d mc9 ms9 : Nat} {G9 : GT} {Q : Option AV → Mm → Prop} (C : Zok Z cc own ret d G9 mc9 ms9 Q) {pc : Nat} {k N index : Nat} {C0 : String} {T : u_T} {φ : Fm} (hd : decode cc pc = .ok (.new index, 3)) (F : NewOk k C0 T N) (hcl : Cond.classLink own index C0 ∈ lw_tbl) (kn : Sd Z φ (pc + 3)) : Sd Z (o_new k N mc9 ms9 φ) pc := by
  obtain ⟨p, e, R, s, m, args, below, meth, c, G, x9, M0, Q', QX, mc, ms⟩ := Z
  obtain ⟨hx, hb, hown, hts, hlk, hr, hG, hR, hQ, rfl, rfl, rfl, hB⟩ := C
  intro al st M cs ss h H locs ls hl hal hst hgr hrel hS
  obtain ⟨hn, h⟩ := h
  obtain ⟨f0, f1, f2, f3, f4, f5, f6, ty0, f7, f8⟩ := F
  have hlt : ∀ a, (kd M a).1 ≠ 0 → a < nx M := fun a ha => (hrel.2.2.2.1 a ha).2.1
  have hKn := hG.1.1 _ _ f2
  have hnk : newK k = true := by unfold newK; simp only [Bool.or_eq_true, Bool.and_eq_true, Nat.blt_eq]; exact Or.inr ⟨f0, f1⟩
  have hok : objK k = true := by unfold objK; simp only [Bool.or_eq_true, Bool.and_eq_true, Nat.blt_eq]; exact Or.inr ⟨f0, f1⟩
  refine W.newcK hx hb hown (hts _ (gtb_in hcl rfl)) (hts _ (gtb_in f5 rfl)) (hts _ (gtb_in f6 rfl)) rfl hd (Nat.le_trans hn.1 hR.2.2.1) (Nat.le_trans hn.2 hR.2.2.2) hKn.2.1 rfl fun H1 kC hkC z1 z2 z3 => ?_
  have hrel1 : Rel G (sN M k 0) H1 := by
    refine hrel.new hnk z2 z3 ?_
    rw [ce_obj (M := sN M k 0) (n := 0) hok (by rw [kd_sN, if_pos rfl])]
    refine ⟨_, f2, ?_⟩
    rw [hrel.1]
    refine (u_born ty0 hts f3 hKn hkC z1 f7).to (fun j hj => ?_)
    unfold vp_V
    rw [List.getD_eq_getElem?_getD, fvs_get]
    have hlen : j < (ftb k).length := by rw [f4]; exact hj
    have e9 : (ftb k)[j]? = some (ftb k)[j] := List.getElem?_eq_getElem hlen
    rw [e9]
    rcases f8 j _ e9 with ⟨q1, q2⟩ | ⟨q1, q2⟩
    · rw [q2]
      show Value.int 0 = fv (sN M k 0) H.size j (ftb k)[j]
      unfold fv
      rw [q1, gI_sN, if_pos hrel.1.symm]
      rfl
    · have e8 : defaultValue (ty0 j) = .null := by rcases q2 with ⟨z, e⟩ | ⟨z, e⟩ <;> rw [e] <;> rfl
      rw [e8]
      show Value.null = fv (sN M k 0) H.size j (ftb k)[j]
      unfold fv
      rw [q1, gR_sN, if_pos hrel.1.symm]
      rfl
  have hg := Grow.new (k := k) (n := 0) hlt
  have kk := kn al (vR (nx M) k 0 :: st) (sN M k 0) (cs + 1) (ss + N) (h _ rfl) H1 locs ls hl (hal.grow hg) (okS.cons (okV.mk (by rw [kd_sN, if_pos rfl]) (by omega) (by omega) (by omega) (by omega)) (okS.grow hg hst)) (hgr.new hlt hn) hrel1 (hS.new (by omega) z3)
  have e0 : cv (vR (nx M) k 0) = .ref H.size := by rw [← hrel.1]; rfl
  rw [List.map_cons, e0] at kk
  exact kk
def o_mna (n w : Nat) (c1 c2 : Int32) (mc ms : Nat) (φ : Fm) : Fm := fun al st M cs ss => match st with
  | Sum.inl j :: Sum.inl i :: st => (i = c1 ∧ j = c2) ∧ (cs + (1 + n) ≤ mc ∧ ss + (n + n * w) ≤ ms) ∧ ∀ M1 : Mm, M1 = sG M n w → φ al (vR (nx M) (1000 + w) n :: st) M1 (cs + (1 + n)) (ss + (n + n * w))
  | _ => False
theorem s_mna {Z : ZT} {cc : ByteArray} {own : String} {ret : Option FieldType} {d mc9 ms9 : Nat} {G9 : GT} {Q : Option AV → Mm → Prop} (C : Zok Z cc own ret d G9 mc9 ms9 Q) {pc : Nat} {n w index : Nat} {v1 v2 : Int32} {φ : Fm} (hd : decode cc pc = .ok (.multianewarray index 2, 4)) (hcl : Cond.classLink own index "[[I" ∈ lw_tbl) (harr : Cond.arrayClass .int ∈ lw_tbl) (hv1 : ¬ v1 < 0) (hv2 : ¬ v2 < 0) (hN : v1.toNatClampNeg = n) (hW : v2.toNatClampNeg = w) (hb1 : n * 4 ≤ 536870912) (hb2 : w * 4 ≤ 536870912) (k : Sd Z φ (pc + 4)) : Sd Z (o_mna n w v1 v2 mc9 ms9 φ) pc := by
  obtain ⟨p, e, R, s, m, args, below, meth, c, G, x9, M0, Q', QX, mc, ms⟩ := Z
  obtain ⟨hx, hb, hown, hts, hlk, hr, hG, hR, hQ, rfl, rfl, rfl, hB⟩ := C
  intro al st M cs ss h H locs ls hl hal hst hgr hrel hS
  unfold o_mna at h
  split at h
  · next j i st0 =>
    obtain ⟨⟨rfl, rfl⟩, hn, h⟩ := h
    have hlt : ∀ a, (kd M a).1 ≠ 0 → a < nx M := fun a ha => (hrel.2.2.2.1 a ha).2.1
    have hcy : s.vm.findClass (FieldType.array .int).toString = some (gA G 14) := (hG.1.2 0 _ rfl).2
    have hcG : s.vm.findClass ("[" ++ (FieldType.array .int).toString) = some (gA G 18) := (hG.1.2 4 _ rfl).2
    subst hN; subst hW
    intro T hT Xs
    obtain ⟨vm₁, cA, comp, -, fA, fC, hO, -, X', step⟩ := Xs.multianewarray2F hx hown (hts _ (gtb_in hcl rfl)) (va_AOA.use hG.2.1.2.2.2) (hts _ (gtb_in harr rfl)) (g := F0 m pc ls (.int j :: .int i :: st0.map cv)) rfl (by rw [hb]; exact hd) rfl hv1 hv2 hb1 hb2 (by omega) rfl rfl (Nat.le_trans hn.1 hR.2.2.1) (Nat.le_trans hn.2 hR.2.2.2)
    cases Option.some.inj (hcy.symm.trans fC)
    have ecA : cA = gA G 18 := Option.some.inj (fA.symm.trans hcG)
    subst ecA
    generalize hF : Jvm.Free.Multi.fill (T.setVm vm₁) (gA G 18) (gA G 14) i.toNatClampNeg j.toNatClampNeg (defaultValue .int) i.toNatClampNeg = F at X' step
    have hTh : (T.setVm vm₁).heap = H := hT
    obtain ⟨f1, f2, -, -⟩ := Jvm.Free.Multi.fill_facts (T.setVm vm₁) (gA G 18) (gA G 14) i.toNatClampNeg j.toNatClampNeg (defaultValue .int) i.toNatClampNeg
    rw [hF, hTh] at f1 f2
    have hold : ∀ x : Nat, x < H.size → F.heap[x]? = H[x]? := fun x hx9 => by
      have := Jvm.Free.Multi.fill_old (T.setVm vm₁) (gA G 18) (gA G 14) i.toNatClampNeg j.toNatClampNeg (defaultValue .int) (a := x) (by rw [hTh]; exact hx9) i.toNatClampNeg
      rw [hF, hTh] at this
      exact this
    have hrow : ∀ q : Nat, q < i.toNatClampNeg → F.heap[H.size + 1 + q]? = some (arrV (gA G 14) j.toNatClampNeg (fun _ => .int 0)) := fun q hq => by
      have := Jvm.Free.Multi.fill_inner (T.setVm vm₁) (gA G 18) (gA G 14) i.toNatClampNeg j.toNatClampNeg (defaultValue .int) i.toNatClampNeg q hq
      rw [hF, hTh] at this
      rw [this, ← arrV_new]
      rfl
    have hout : F.heap[H.size]? = some (arrV (gA G 18) i.toNatClampNeg (fun q => va_rf (some (H.size + 1 + q)))) := by
      rw [f2, vr_outer]
      refine congrArg some (arrV_congr fun q hq => ?_)
      rw [if_pos hq]
    have hrel1 : Rel G (sG M i.toNatClampNeg j.toNatClampNeg) F.heap := hrel.newG (by rw [f1]; omega) hold hout hrow
    have hg := Grow.newG (n := i.toNatClampNeg) (k := j.toNatClampNeg) hlt
    have kk := k al (vR (nx M) (1000 + j.toNatClampNeg) i.toNatClampNeg :: st0) (sG M i.toNatClampNeg j.toNatClampNeg) (cs + (1 + i.toNatClampNeg)) (ss + (i.toNatClampNeg + i.toNatClampNeg * j.toNatClampNeg)) (h _ rfl) F.heap locs ls hl (hal.grow hg) (okS.cons (okV.mk (by rw [kd_sG, if_pos rfl]) (by omega) (by omega) (by omega) (by omega)) (okS.grow hg (okS.tail (okS.tail hst)))) ⟨hgr.1.trans hg.weak, hn⟩ hrel1 (hS.new (by rw [f1]; omega) hold)
    have e0 : cv (vR (nx M) (1000 + j.toNatClampNeg) i.toNatClampNeg) = .ref H.size := by rw [← hrel.1]; rfl
    rw [List.map_cons, e0] at kk
    obtain ⟨t, a1, b1⟩ := kk F rfl (by rw [← Nat.add_assoc cs, ← Nat.add_assoc ss]; exact X')
    refine ⟨t, step t ?_, b1⟩
    have e : T.heap.size = H.size := by rw [hT]
    rw [e]
    exact a1
  · exact h.elim
