/-! # constructors, rows of references (wip/gen/mk_ctor.py) -/
def ftI (t : FieldType) : Bool := match t with
  | .int => true
  | _ => false
def ftR (t : FieldType) : Bool := match t with
  | .object _ => true
  | .array _ => true
  | _ => false
theorem newTy {l : List (Nat × Nat × Nat × Nat)} {ty : Nat → FieldType} (h : (l.zipIdx.all (fun q => (Nat.beq q.1.1 0 && ftI (ty q.2)) || (Nat.beq q.1.1 2 && ftR (ty q.2)))) = true) : ∀ (j : Nat) (t : Nat × Nat × Nat × Nat), l[j]? = some t → (t.1 = 0 ∧ ty j = .int) ∨ (t.1 = 2 ∧ ((∃ n, ty j = .object n) ∨ ∃ z, ty j = .array z)) := by
  intro j t ht
  have h1 := List.all_eq_true.mp h (t, j) (List.mem_zipIdx_iff_getElem?.mpr ht)
  rw [Bool.or_eq_true, Bool.and_eq_true, Bool.and_eq_true] at h1
  rcases h1 with ⟨a1, a2⟩ | ⟨a1, a2⟩
  · refine Or.inl ⟨Nat.eq_of_beq_eq_true a1, ?_⟩
    dsimp only at a2
    revert a2
    cases ty j <;> intro a2 <;> first | rfl | cases a2
  · refine Or.inr ⟨Nat.eq_of_beq_eq_true a1, ?_⟩
    dsimp only at a2
    revert a2
    cases ty j <;> intro a2 <;> first | exact Or.inl ⟨_, rfl⟩ | exact Or.inr ⟨_, rfl⟩ | cases a2
def vwB (kf : Nat) (M : Mm) (a : Nat) : Bool := ((ftb kf).zipIdx).all (fun q => !(Nat.beq q.1.1 1) || (decide (gR M a q.2 = some (a + q.1.2.1)) && decide (kd M (a + q.1.2.1) = (q.1.2.2.1, q.1.2.2.2))))
def vwc {R : Type} (kf : Nat) (M : Mm) (a : Nat) (x : Option R) : Option R := if vwB kf M a = true then x else none
theorem vwc_c {R : Type} {r : R} {kf : Nat} {M : Mm} {a : Nat} {x : Option R} {F : Prop} (h : vwc kf M a x = some r) (k : (∀ (j : Nat) (t : Nat × Nat × Nat × Nat), (ftb kf)[j]? = some t → t.1 = 1 → gR M a j = some (a + t.2.1) ∧ kd M (a + t.2.1) = (t.2.2.1, t.2.2.2)) → x = some r → F) : F := by
  unfold vwc at h
  split at h
  · next h1 =>
    refine k (fun j t ht h2 => ?_) h
    have h3 := List.all_eq_true.mp h1 (t, j) (List.mem_zipIdx_iff_getElem?.mpr ht)
    rw [Bool.or_eq_true, Bool.and_eq_true] at h3
    rcases h3 with h4 | ⟨h4, h5⟩
    · dsimp only at h4
      rw [h2] at h4
      cases h4
    · exact ⟨of_decide_eq_true h4, of_decide_eq_true h5⟩
  · exact nomatch h
def k0 {R : Type} (M : Mm) (b : Nat) (x : Option R) : Option R := if (kd M b).1 = 0 then x else none
theorem k0_c {R : Type} {r : R} {M : Mm} {b : Nat} {x : Option R} {F : Prop} (h : k0 M b x = some r) (k : (kd M b).1 = 0 → x = some r → F) : F := by
  unfold k0 at h
  split at h
  · next h1 => exact k h1 h
  · exact nomatch h
def k1 {R : Type} (M : Mm) (b kf : Nat) (x : Option R) : Option R := if kd M b = (kf, 0) then x else none
theorem k1_c {R : Type} {r : R} {M : Mm} {b kf : Nat} {x : Option R} {F : Prop} (h : k1 M b kf x = some r) (k : x = some r → F) : kd M b = (kf, 0) ∧ F := by
  unfold k1 at h
  split at h
  · next h1 => exact ⟨h1, k h⟩
  · exact nomatch h
theorem tyO_sRa {M : Mm} {a j K n : Nat} {w : Option Nat} (h : tyO M) (hk : kd M a = (K, n)) (hK : (K = 16 ∧ ∀ b, w = some b → kd M b = (4, 0)) ∨ (K = 17 ∧ ∀ b, w = some b → kd M b = (11, 0))) : tyO (sR M a j w) := by
  intro c
  obtain ⟨t1, t2, t3, t4⟩ := h c
  by_cases hc : c = a
  · subst hc
    refine ⟨fun j' t hlt ht => ?_, fun h0 => ?_, fun h0 j' b hj hb => ?_, fun h0 j' b hj hb => ?_⟩
    · exfalso
      rw [kd_sR, hk] at ht
      rcases hK with ⟨rfl, -⟩ | ⟨rfl, -⟩
      · rw [show ftb 16 = [] from rfl] at ht; cases ht
      · rw [show ftb 17 = [] from rfl] at ht; cases ht
    · exfalso
      rw [kd_sR, hk] at h0
      rcases hK with ⟨rfl, -⟩ | ⟨rfl, -⟩ <;> exact absurd h0 (by simp)
    · rw [kd_sR] at h0 hj ⊢
      rw [gR_sR] at hb
      split at hb
      · rcases hK with ⟨-, hw⟩ | ⟨rfl, -⟩
        · exact hw b hb
        · rw [hk] at h0; exact absurd h0 (by simp)
      · exact t3 h0 j' b hj hb
    · rw [kd_sR] at h0 hj ⊢
      rw [gR_sR] at hb
      split at hb
      · rcases hK with ⟨rfl, -⟩ | ⟨-, hw⟩
        · rw [hk] at h0; exact absurd h0 (by simp)
        · exact hw b hb
      · exact t4 h0 j' b hj hb
  · have e : ∀ j', gR (sR M a j w) c j' = gR M c j' := fun j' => by rw [gR_sR, if_neg (fun q => hc q.1)]
    refine ⟨fun j' t hlt ht => ⟨(t1 j' t hlt ht).1, fun h2 b hb => (t1 j' t hlt ht).2 h2 b (by rw [← e]; exact hb)⟩, t2, fun h0 j' b hj hb => t3 h0 j' b hj (by rw [← e]; exact hb), fun h0 j' b hj hb => t4 h0 j' b hj (by rw [← e]; exact hb)⟩
def o_aast (φ : Fm) : Fm := fun al st M cs ss => match st with
  | Sum.inr (Sum.inr none) :: Sum.inl i :: Sum.inr (Sum.inr (some (a, k9, n))) :: st => cond (Nat.beq k9 16 || Nat.beq k9 17) (vp_in i n ∧ φ al st (sR M a i.toNatClampNeg none) cs ss) False
  | Sum.inr (Sum.inr (some (v, k8, n8))) :: Sum.inl i :: Sum.inr (Sum.inr (some (a, k9, n))) :: st => cond (Nat.beq n8 0 && ((Nat.beq k9 16 && Nat.beq k8 4) || (Nat.beq k9 17 && Nat.beq k8 11))) (vp_in i n ∧ φ al st (sR M a i.toNatClampNeg (some v)) cs ss) False
  | _ => False
section AST
variable {p : Program} {e : Env} {R : Room} {s : State} {m : MethodId} {args : Array Value} {below : List Frame} {meth : Method} {c : Code} {H : Heap} {locs : List Loc} {cs ss : Nat} {Q : State → Prop} {G : GT} {M : Mm} {cc : ByteArray} {pc : Nat} {ls : Array Slot} {rest : List Value}
theorem aast_16 (hx : p.tables.exec = Jvm.exec) (hb : c.code = cc) (hG : GK G s) (hrel : Rel G M H) {a n v : Nat} {i : Int32} (hkd : kd M a = (16, n)) (hkv : kd M v = (4, 0)) (hin : vp_in i n) (hS : va_S (gAb G) s.heap H locs) (hd : decode cc pc = .ok (.aastore, 1))
    (kk : ∀ (H1 : Heap) (locs1 : List Loc), Rel G (sR M a i.toNatClampNeg (some v)) H1 → va_S (gAb G) s.heap H1 locs1 → W p (gl G) e R s m args below meth c H1 locs1 cs ss Q (F0 m (pc + 1) ls rest)) : W p (gl G) e R s m args below meth c H locs cs ss Q (F0 m pc ls (.ref v :: .int i :: .ref a :: rest)) := by
  have hk0 : (kd M a).1 ≠ 0 := by rw [hkd]; simp
  have hat := hrel.at hk0
  rw [ce_16 hkd] at hat
  have hat2 : H[a]? = some (arrV (gA G 16) n (fun j => va_rf (gR M a j))) := hat
  have hlt : i.toNatClampNeg < n := Nat.not_le.mp fun q => hin (Or.inr q)
  have h0 : ¬ i < 0 := fun q => hin (Or.inl q)
  have hatv := hrel.at (a := v) (by rw [hkv]; decide)
  rw [ce_obj rfl hkv] at hatv
  obtain ⟨r', hr', cellV, g1, g2, g3, -⟩ := hatv
  have hcls := (hG.1.1 3 _ (rfl : vwCl[3]? = some _)).2
  obtain ⟨kA, comp, k1, k2, k3, -⟩ := (hG.1.2 2 _ rfl).2
  have hcomp : comp = (gD G).1 3 := Option.some.inj (k3.symm.trans hcls.1)
  subst hcomp
  have hcls2 := hcls
  obtain ⟨kC, hkC, -⟩ := hcls2.2
  have g2' : cellV.cls = (gD G).1 3 := g2
  refine W.aast hx hb hat2 (fun q h => by cases h) (fun h => by cases h) k1 k2 rfl hkC ⟨h0, by show _ < (arrV _ _ _).slots.size; rw [arrV_size]; exact hlt⟩ g1 (fun q h => by rw [g3] at h; cases h) (by rw [g2']; exact hkC) (by rw [g2']; exact va_assign hcls) rfl rfl hd fun H1 e9 z oq => ?_
  refine kk H1 _ (hrel.upd hk0 rfl rfl (fun b hb9 => ce_sR_ne G M a _ _ hb9) ?_ z oq (tyO_sRa hrel.2.2.2.2 hkd (Or.inl ⟨rfl, fun b z9 => by cases z9; exact hkv⟩))) (hS.put z oq (hrel.ab hk0))
  rw [ce_16 (M := sR M a i.toNatClampNeg (some v)) hkd]
  show H1[a]? = some (arrV (gA G 16) n (fun j => va_rf (gR (sR M a i.toNatClampNeg (some v)) a j)))
  rw [e9, arrV_store]
  refine congrArg (fun f => some (arrV (gA G 16) n f)) (funext fun q => ?_)
  unfold updV
  rw [gR_sR]
  by_cases hqq : q = i.toNatClampNeg
  · rw [if_pos hqq, if_pos ⟨rfl, hqq⟩]; rfl
  · rw [if_neg hqq, if_neg (fun z => hqq z.2)]
theorem aast_16n (hx : p.tables.exec = Jvm.exec) (hb : c.code = cc) (hG : GK G s) (hrel : Rel G M H) {a n : Nat} {i : Int32} (hkd : kd M a = (16, n)) (hin : vp_in i n) (hS : va_S (gAb G) s.heap H locs) (hd : decode cc pc = .ok (.aastore, 1))
    (kk : ∀ (H1 : Heap) (locs1 : List Loc), Rel G (sR M a i.toNatClampNeg none) H1 → va_S (gAb G) s.heap H1 locs1 → W p (gl G) e R s m args below meth c H1 locs1 cs ss Q (F0 m (pc + 1) ls rest)) : W p (gl G) e R s m args below meth c H locs cs ss Q (F0 m pc ls (.null :: .int i :: .ref a :: rest)) := by
  have hk0 : (kd M a).1 ≠ 0 := by rw [hkd]; simp
  have hat := hrel.at hk0
  rw [ce_16 hkd] at hat
  have hat2 : H[a]? = some (arrV (gA G 16) n (fun j => va_rf (gR M a j))) := hat
  have hlt : i.toNatClampNeg < n := Nat.not_le.mp fun q => hin (Or.inr q)
  have h0 : ¬ i < 0 := fun q => hin (Or.inl q)
  refine va_WaastN (C := "ChalkWall$Image") hx hb hat2 ((hG.1.2 2 _ rfl).1 n _) (fun h => by cases h) (by show ¬ (i < 0 ∨ (arrV _ _ _).slots.size ≤ _); rw [arrV_size]; exact hin) rfl rfl hd fun H1 e9 z oq => ?_
  refine kk H1 _ (hrel.upd hk0 rfl rfl (fun b hb9 => ce_sR_ne G M a _ _ hb9) ?_ z oq (tyO_sRa hrel.2.2.2.2 hkd (Or.inl ⟨rfl, fun b z9 => by cases z9⟩))) (hS.put z oq (hrel.ab hk0))
  rw [ce_16 (M := sR M a i.toNatClampNeg none) hkd]
  show H1[a]? = some (arrV (gA G 16) n (fun j => va_rf (gR (sR M a i.toNatClampNeg none) a j)))
  rw [e9, arrV_store]
  refine congrArg (fun f => some (arrV (gA G 16) n f)) (funext fun q => ?_)
  unfold updV
  rw [gR_sR]
  by_cases hqq : q = i.toNatClampNeg
  · rw [if_pos hqq, if_pos ⟨rfl, hqq⟩]; rfl
  · rw [if_neg hqq, if_neg (fun z => hqq z.2)]
theorem aast_17 (hx : p.tables.exec = Jvm.exec) (hb : c.code = cc) (hG : GK G s) (hrel : Rel G M H) {a n v : Nat} {i : Int32} (hkd : kd M a = (17, n)) (hkv : kd M v = (11, 0)) (hin : vp_in i n) (hS : va_S (gAb G) s.heap H locs) (hd : decode cc pc = .ok (.aastore, 1))
    (kk : ∀ (H1 : Heap) (locs1 : List Loc), Rel G (sR M a i.toNatClampNeg (some v)) H1 → va_S (gAb G) s.heap H1 locs1 → W p (gl G) e R s m args below meth c H1 locs1 cs ss Q (F0 m (pc + 1) ls rest)) : W p (gl G) e R s m args below meth c H locs cs ss Q (F0 m pc ls (.ref v :: .int i :: .ref a :: rest)) := by
  have hk0 : (kd M a).1 ≠ 0 := by rw [hkd]; simp
  have hat := hrel.at hk0
  rw [ce_17 hkd] at hat
  have hat2 : H[a]? = some (arrV (gA G 17) n (fun j => va_rf (gR M a j))) := hat
  have hlt : i.toNatClampNeg < n := Nat.not_le.mp fun q => hin (Or.inr q)
  have h0 : ¬ i < 0 := fun q => hin (Or.inl q)
  have hatv := hrel.at (a := v) (by rw [hkv]; decide)
  rw [ce_obj rfl hkv] at hatv
  obtain ⟨r', hr', cellV, g1, g2, g3, -⟩ := hatv
  have hcls := (hG.1.1 10 _ (rfl : vwCl[10]? = some _)).2
  obtain ⟨kA, comp, k1, k2, k3, -⟩ := (hG.1.2 3 _ rfl).2
  have hcomp : comp = (gD G).1 10 := Option.some.inj (k3.symm.trans hcls.1)
  subst hcomp
  have hcls2 := hcls
  obtain ⟨kC, hkC, -⟩ := hcls2.2
  have g2' : cellV.cls = (gD G).1 10 := g2
  refine W.aast hx hb hat2 (fun q h => by cases h) (fun h => by cases h) k1 k2 rfl hkC ⟨h0, by show _ < (arrV _ _ _).slots.size; rw [arrV_size]; exact hlt⟩ g1 (fun q h => by rw [g3] at h; cases h) (by rw [g2']; exact hkC) (by rw [g2']; exact va_assign hcls) rfl rfl hd fun H1 e9 z oq => ?_
  refine kk H1 _ (hrel.upd hk0 rfl rfl (fun b hb9 => ce_sR_ne G M a _ _ hb9) ?_ z oq (tyO_sRa hrel.2.2.2.2 hkd (Or.inr ⟨rfl, fun b z9 => by cases z9; exact hkv⟩))) (hS.put z oq (hrel.ab hk0))
  rw [ce_17 (M := sR M a i.toNatClampNeg (some v)) hkd]
  show H1[a]? = some (arrV (gA G 17) n (fun j => va_rf (gR (sR M a i.toNatClampNeg (some v)) a j)))
  rw [e9, arrV_store]
  refine congrArg (fun f => some (arrV (gA G 17) n f)) (funext fun q => ?_)
  unfold updV
  rw [gR_sR]
  by_cases hqq : q = i.toNatClampNeg
  · rw [if_pos hqq, if_pos ⟨rfl, hqq⟩]; rfl
  · rw [if_neg hqq, if_neg (fun z => hqq z.2)]
theorem aast_17n (hx : p.tables.exec = Jvm.exec) (hb : c.code = cc) (hG : GK G s) (hrel : Rel G M H) {a n : Nat} {i : Int32} (hkd : kd M a = (17, n)) (hin : vp_in i n) (hS : va_S (gAb G) s.heap H locs) (hd : decode cc pc = .ok (.aastore, 1))
    (kk : ∀ (H1 : Heap) (locs1 : List Loc), Rel G (sR M a i.toNatClampNeg none) H1 → va_S (gAb G) s.heap H1 locs1 → W p (gl G) e R s m args below meth c H1 locs1 cs ss Q (F0 m (pc + 1) ls rest)) : W p (gl G) e R s m args below meth c H locs cs ss Q (F0 m pc ls (.null :: .int i :: .ref a :: rest)) := by
  have hk0 : (kd M a).1 ≠ 0 := by rw [hkd]; simp
  have hat := hrel.at hk0
  rw [ce_17 hkd] at hat
  have hat2 : H[a]? = some (arrV (gA G 17) n (fun j => va_rf (gR M a j))) := hat
  have hlt : i.toNatClampNeg < n := Nat.not_le.mp fun q => hin (Or.inr q)
  have h0 : ¬ i < 0 := fun q => hin (Or.inl q)
  refine va_WaastN (C := "ChalkWall$Wall") hx hb hat2 ((hG.1.2 3 _ rfl).1 n _) (fun h => by cases h) (by show ¬ (i < 0 ∨ (arrV _ _ _).slots.size ≤ _); rw [arrV_size]; exact hin) rfl rfl hd fun H1 e9 z oq => ?_
  refine kk H1 _ (hrel.upd hk0 rfl rfl (fun b hb9 => ce_sR_ne G M a _ _ hb9) ?_ z oq (tyO_sRa hrel.2.2.2.2 hkd (Or.inr ⟨rfl, fun b z9 => by cases z9⟩))) (hS.put z oq (hrel.ab hk0))
  rw [ce_17 (M := sR M a i.toNatClampNeg none) hkd]
  show H1[a]? = some (arrV (gA G 17) n (fun j => va_rf (gR (sR M a i.toNatClampNeg none) a j)))
  rw [e9, arrV_store]
  refine congrArg (fun f => some (arrV (gA G 17) n f)) (funext fun q => ?_)
  unfold updV
  rw [gR_sR]
  by_cases hqq : q = i.toNatClampNeg
  · rw [if_pos hqq, if_pos ⟨rfl, hqq⟩]; rfl
  · rw [if_neg hqq, if_neg (fun z => hqq z.2)]
end AST
theorem s_aast {Z : ZT} {cc : ByteArray} {own : String} {ret : Option FieldType} {d mc9 ms9 : Nat} {G9 : GT} {Q : Option AV → Mm → Prop} (C : Zok Z cc own ret d G9 mc9 ms9 Q) {pc : Nat} {φ : Fm} (hd : decode cc pc = .ok (.aastore, 1)) (k : Sd Z φ (pc + 1)) : Sd Z (o_aast φ) pc := by
  obtain ⟨p, e, R, s, m, args, below, meth, c, G, x9, M0, Q', QX, mc, ms⟩ := Z
  obtain ⟨hx, hb, hown, hts, hlk, hr, hG, hR, hQ, rfl, rfl, rfl, hB⟩ := C
  intro al st M cs ss h H locs ls hl hal hst hgr hrel hS
  unfold o_aast at h
  split at h
  · next i a k9 n st0 =>
    cases hk9 : (Nat.beq k9 16 || Nat.beq k9 17) with
    | false => rw [hk9] at h; exact h.elim
    | true =>
      rw [hk9] at h
      rcases (Bool.or_eq_true _ _).mp hk9 with q | q
      · have := Nat.eq_of_beq_eq_true q
        subst this
        have hkd := (okS.head (okS.tail (okS.tail hst))).ref (by decide) (by decide) (by decide)
        exact aast_16n hx hb hG hrel hkd.1 h.1 hS hd fun H1 locs1 z1 z2 => k al st0 _ cs ss h.2 H1 locs1 ls hl (okL.kept rfl hal) (okS.kept rfl (okS.tail (okS.tail (okS.tail hst)))) (hgr.kept rfl rfl) z1 z2
      · have := Nat.eq_of_beq_eq_true q
        subst this
        have hkd := (okS.head (okS.tail (okS.tail hst))).ref (by decide) (by decide) (by decide)
        exact aast_17n hx hb hG hrel hkd.1 h.1 hS hd fun H1 locs1 z1 z2 => k al st0 _ cs ss h.2 H1 locs1 ls hl (okL.kept rfl hal) (okS.kept rfl (okS.tail (okS.tail (okS.tail hst)))) (hgr.kept rfl rfl) z1 z2
  · next v k8 n8 i a k9 n st0 =>
    cases hk9 : (Nat.beq n8 0 && ((Nat.beq k9 16 && Nat.beq k8 4) || (Nat.beq k9 17 && Nat.beq k8 11))) with
    | false => rw [hk9] at h; exact h.elim
    | true =>
      rw [hk9] at h
      rw [Bool.and_eq_true, Bool.or_eq_true, Bool.and_eq_true, Bool.and_eq_true] at hk9
      have e8 := Nat.eq_of_beq_eq_true hk9.1
      subst e8
      rcases hk9.2 with ⟨q1, q2⟩ | ⟨q1, q2⟩
      · have e1 := Nat.eq_of_beq_eq_true q1
        have e2 := Nat.eq_of_beq_eq_true q2
        subst e1; subst e2
        have hkd := (okS.head (okS.tail (okS.tail hst))).ref (by decide) (by decide) (by decide)
        have hkv := (okS.head hst).ref (by decide) (by decide) (by decide)
        exact aast_16 hx hb hG hrel hkd.1 hkv.1 h.1 hS hd fun H1 locs1 z1 z2 => k al st0 _ cs ss h.2 H1 locs1 ls hl (okL.kept rfl hal) (okS.kept rfl (okS.tail (okS.tail (okS.tail hst)))) (hgr.kept rfl rfl) z1 z2
      · have e1 := Nat.eq_of_beq_eq_true q1
        have e2 := Nat.eq_of_beq_eq_true q2
        subst e1; subst e2
        have hkd := (okS.head (okS.tail (okS.tail hst))).ref (by decide) (by decide) (by decide)
        have hkv := (okS.head hst).ref (by decide) (by decide) (by decide)
        exact aast_17 hx hb hG hrel hkd.1 hkv.1 h.1 hS hd fun H1 locs1 z1 z2 => k al st0 _ cs ss h.2 H1 locs1 ls hl (okL.kept rfl hal) (okS.kept rfl (okS.tail (okS.tail (okS.tail hst)))) (hgr.kept rfl rfl) z1 z2
  · exact h.elim
