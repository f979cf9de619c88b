/-! # functional level, 11: agreement of a call -/
/-- what a wrapper answers, by what the method's function answers -/
def wr {β : Type} (code : Nat → Int32) (st : β → Int64) (r : (β × Mm) ⊕ (Nat × Mm)) (ou : Nat) (z : Int32) (M' : Mm) : Prop := match r with
  | Sum.inl q => z = 0 ∧ M' = sL q.2 ou 0 (st q.1)
  | Sum.inr q => z = code q.1 ∧ ∃ n, nx q.2 ≤ n ∧ M' = sXm q.2 n
def cd1 (_ : Nat) : Int32 := 1
def cd2 (k : Nat) : Int32 := if k = 0 then 1 else 2
def stZ (z : Int32) : Int64 := if z = 0 then 0 else 1
def Ag {β : Type} (code : Nat → Int32) (st : β → Int64) (o : Nat) (ks : Nat → Prop) (c : Option ((β × Mm) ⊕ (Nat × Mm))) (f : Mm → Option (β × Mm)) : Prop :=
  ∃ r, c = some r ∧ (∀ k M1, r = Sum.inr (k, M1) → ks k) ∧ ∀ z M1, wr code st r (o + 560) z M1 → ∃ b M2, f M1 = some (b, M2) ∧ gI M2 (o + 61) 0 = z ∧ (z = 0 → gL M2 (o + 560) 0 = st b) ∧ Inv o M2
def Ag0 (o : Nat) (c : Option (Int32 × Mm)) (f : Mm → Option (Int32 × Mm)) : Prop := ∃ z M1, c = some (z, M1) ∧ ∃ M2, f M1 = some (z, M2) ∧ Inv o M2
/-- the model's frame: its scratch alone -/
def FM (m : Nat) (M M' : Mm) : Prop := (nx M' = nx M ∧ kd M' = kd M) ∧ (∀ a j, ¬ scM m a j → gI M' a j = gI M a j) ∧ (∀ a j, a < m ∨ m + 499 ≤ a → gL M' a j = gL M a j) ∧ ∀ a j, a < m ∨ m + 499 ≤ a → gR M' a j = gR M a j
/-- any of the model's cells -/
def FA (m : Nat) (M M' : Mm) : Prop := (nx M' = nx M ∧ kd M' = kd M) ∧ (∀ a j, a < m ∨ m + 499 ≤ a → gI M' a j = gI M a j) ∧ (∀ a j, a < m ∨ m + 499 ≤ a → gL M' a j = gL M a j) ∧ ∀ a j, a < m ∨ m + 499 ≤ a → gR M' a j = gR M a j
section
variable {M M' M1 M2 : Mm} {o m : Nat} {S : St} {P W X : TT} {V : Nat → TT} {I : Nat → Nat → TT}
theorem FM.rf (m : Nat) (M : Mm) : FM m M M := ⟨⟨rfl, rfl⟩, fun _ _ _ => rfl, fun _ _ _ => rfl, fun _ _ _ => rfl⟩
theorem FM.trans (h : FM m M M1) (h2 : FM m M1 M2) : FM m M M2 := ⟨⟨h2.1.1.trans h.1.1, h2.1.2.trans h.1.2⟩, fun a j hs => (h2.2.1 a j hs).trans (h.2.1 a j hs), fun a j hs => (h2.2.2.1 a j hs).trans (h.2.2.1 a j hs), fun a j hs => (h2.2.2.2 a j hs).trans (h.2.2.2 a j hs)⟩
theorem FM.sI (h : FM m M M1) {a j : Nat} {v : Int32} (ha : scM m a j) : FM m M (sI M1 a j v) :=
  ⟨h.1, fun b i hb => by rw [gI_ne (by
      by_cases e : b = a
      · exact Or.inr (fun e2 => hb (by rw [e, e2]; exact ha))
      · exact Or.inl e)]; exact h.2.1 b i hb, h.2.2.1, h.2.2.2⟩
theorem FM.ofFr {D : Nat → Prop} (h : Fr D M M') (hs : ∀ a, D a → ∀ j, scM m a j) : FM m M M' := by
  have hd : ∀ a, a < m ∨ m + 499 ≤ a → ¬ D a := fun a ha z => by have := hs a z 1; unfold scM at this; omega
  exact ⟨h.1, fun a j ha => h.i (fun z => ha (hs a z j)) j, fun a j ha => h.l (hd a ha) j, fun a j ha => h.r (hd a ha) j⟩
theorem FM.fa (h : FM m M M') : FA m M M' := ⟨h.1, fun a j ha => h.2.1 a j (by unfold scM; omega), h.2.2.1, h.2.2.2⟩
theorem FM.mj (h : FM m M M') (q : MJ M m S) (o0 : oS S) : MJ M' m S := q.mv o0 (fun a j _ _ hs => h.2.1 a j hs)
theorem FA.eqx (h : FA m M M') : eqx (fun a => m ≤ a ∧ a < m + 499) M M' := ⟨by rw [h.1.1]; exact Nat.le_refl _, fun a _ hd => ⟨fun j => h.2.1 a j (by omega), fun j => h.2.2.2 a j (by omega)⟩⟩
theorem FA.ci (h : FA (o + 61) M M') (q : CI M o S) (hn : o + 561 ≤ nx M) : CI M' o S := q.mv h.eqx hn (fun a (ha : _ ∧ _) => Or.inr (by omega))
theorem FA.kz (h : FA m M M') (q : kz M) : kz M' := fun a ha => by rw [h.1.2]; exact q a (by rw [h.1.1] at ha; exact ha)
/-- the three counts alone have changed -/
theorem CI.ch {X' : TT} (h : CI M o (P, W, X, V, I)) (hX : ∀ i k, ¬ (i = 0 ∧ 2 ≤ k ∧ k ≤ 4) → X' i k = X i k) (e : gI M' o 16 = nI (X' 0 2) ∧ gI M' o 17 = nI (X' 0 3) ∧ gI M' o 18 = nI (X' 0 4)) (hn : o + 561 ≤ nx M) (hf : nx M ≤ nx M') (hg : ∀ a j, ¬ (a = o ∧ 16 ≤ j) → gI M' a j = gI M a j) (hR : ∀ a j, gR M' a j = gR M a j) : CI M' o (P, W, X', V, I) := by
  obtain ⟨p, l, d, hr, ⟨h1, h2⟩, ⟨⟨t1, t2⟩, t3, _, t7, t8⟩, ⟨h5, h6⟩, h7, h8⟩ := h
  dsimp only at h1 h2 t1 t2 t3 t7 t8 h5 h6 h7 h8
  have x1 : X' 1 = X 1 := funext (fun k => hX 1 k (by omega))
  have x2 : X' 2 = X 2 := funext (fun k => hX 2 k (by omega))
  have x3 : X' 3 = X 3 := funext (fun k => hX 3 k (by omega))
  have x4 : X' 4 = X 4 := funext (fun k => hX 4 k (by omega))
  have hp := hr.1.1
  have hl := hr.1.2.1
  have hd := hr.1.2.2
  have eq : eqx (fun a => a = o) M M' := ⟨hf, fun a _ ha => ⟨fun j => hg a j (by omega), fun j => hR a j⟩⟩
  refine ⟨p, l, d, ?_, ⟨h1.eqx eq (fun a ha hb => ⟨by omega, by omega⟩), h2.eqx eq (fun a ha hb => ⟨by omega, by omega⟩)⟩, ⟨⟨?_, ?_⟩, fun k hk => ?_, e, ?_, ?_⟩, ⟨?_, ?_⟩, ?_, ?_⟩
  · unfold CIr at hr ⊢
    rw [hR, hR, hR, hR, hR, hR]; exact hr
  · rw [hg _ _ (by omega)]; dsimp only; rw [hX _ _ (by omega)]; exact t1
  · rw [hg _ _ (by omega)]; dsimp only; rw [hX _ _ (by omega)]; exact t2
  · dsimp only at hk ⊢
    rw [hX _ _ (by omega)] at hk
    rw [hg _ _ (by omega), hX _ _ (by omega)]; exact t3 k hk
  · rw [hg _ _ (by omega)]; dsimp only; rw [hX _ _ (by omega)]; exact t7
  · rw [hg _ _ (by omega)]; dsimp only; rw [hX _ _ (by omega)]; exact t8
  · dsimp only
    rw [hX _ _ (by omega), x2]
    have e1 : ∀ j, gI M' l j = gI M l j := fun j => hg l j (by omega)
    have e2 : ∀ j, gI M' (l + 1) j = gI M (l + 1) j := fun j => hg (l + 1) j (by omega)
    unfold isLw isL at h5 ⊢
    simp only [e1, e2]
    exact h5
  · dsimp only
    rw [hX _ _ (by omega), x3, x4]
    unfold isD at h6 ⊢
    rw [hg d _ (by omega), hg d _ (by omega)]
    exact h6
  · have : X' 0 5 = X 0 5 := hX _ _ (by omega)
    have h7' : CIv M o P X' V := by unfold CIv at h7 ⊢; rw [this]; exact h7
    exact h7'.mv eq hn (by omega) (fun a ha => by omega)
  · have : X' 0 6 = X 0 6 := hX _ _ (by omega)
    have h8' : CIi M o P X' I := by unfold CIi at h8 ⊢; rw [this]; exact h8
    exact h8'.mv eq hn (by omega) (fun a ha => by omega)
theorem MJ.ch {X' : TT} (h : MJ M m (P, W, X, V, I)) (hX : ∀ i k, ¬ (i = 0 ∧ 2 ≤ k ∧ k ≤ 4) → X' i k = X i k) (e : gI M m 39 = nI (X' 0 2) ∧ gI M (m + 2) 0 = nI (X' 0 3) ∧ gI M (m + 2) 1 = nI (X' 0 4)) : MJ M m (P, W, X', V, I) := by
  obtain ⟨h1, ⟨⟨t1, t2⟩, t3, _, t7, t8⟩, ⟨h5, h6⟩, h7, h8⟩ := h
  dsimp only at h1 t1 t2 t3 t7 t8 h5 h6 h7 h8
  have x1 : X' 1 = X 1 := funext (fun k => hX 1 k (by omega))
  have x2 : X' 2 = X 2 := funext (fun k => hX 2 k (by omega))
  have x3 : X' 3 = X 3 := funext (fun k => hX 3 k (by omega))
  have x4 : X' 4 = X 4 := funext (fun k => hX 4 k (by omega))
  refine ⟨h1, ⟨⟨?_, ?_⟩, fun k hk => ?_, e, ?_, ?_⟩, ⟨?_, ?_⟩, ?_, ?_⟩
  · dsimp only; rw [hX _ _ (by omega)]; exact t1
  · dsimp only; rw [hX _ _ (by omega)]; exact t2
  · dsimp only at hk ⊢
    rw [hX _ _ (by omega)] at hk
    rw [hX _ _ (by omega)]; exact t3 k hk
  · dsimp only; rw [hX _ _ (by omega)]; exact t7
  · dsimp only; rw [hX _ _ (by omega)]; exact t8
  · dsimp only; rw [hX _ _ (by omega), x2]; exact h5
  · dsimp only; rw [hX _ _ (by omega), x3, x4]; exact h6
  · have : X' 0 5 = X 0 5 := hX _ _ (by omega)
    unfold MIv at h7 ⊢; dsimp only; rw [this]; exact h7
  · have : X' 0 6 = X 0 6 := hX _ _ (by omega)
    unfold MIi at h8 ⊢; dsimp only; rw [this]; exact h8
theorem oS.ch {X' : TT} (h : oS (P, W, X, V, I)) (hX : ∀ i k, ¬ (i = 0 ∧ 2 ≤ k ∧ k ≤ 4) → X' i k = X i k) : oS (P, W, X', V, I) := by
  have x1 : X' 1 = X 1 := funext (fun k => hX 1 k (by omega))
  have x2 : X' 2 = X 2 := funext (fun k => hX 2 k (by omega))
  have x3 : X' 3 = X 3 := funext (fun k => hX 3 k (by omega))
  have x4 : X' 4 = X 4 := funext (fun k => hX 4 k (by omega))
  unfold oS at h ⊢
  dsimp only at h ⊢
  rw [x1, x2, x3, x4, hX 0 0 (by omega), hX 0 5 (by omega), hX 0 6 (by omega), hX 0 7 (by omega), hX 0 8 (by omega)]
  exact h
/-- refused on both sides -/
theorem agE {β : Type} {code : Nat → Int32} {st : β → Int64} {ks : Nat → Prop} {c : Option ((β × Mm) ⊕ (Nat × Mm))} {f : Mm → Option (β × Mm)} (h : InvS o M S) {k cc : Nat} (hk : k < 2) (hks : ks k) (hcd : code k = nI cc) (hc0 : 1 ≤ cc ∧ cc < 3)
    (hc : c = some (Sum.inr (k, sI M o (17 + k) (nI (S.2.2.1 0 (3 + k) + 1)))))
    (hf : ∀ M1, MJ (sI M1 (o + 61) 0 (nI 0)) (o + 61) S → ∃ b, f M1 = some (b, sI (sI (sI M1 (o + 61) 0 (nI 0)) (o + 61) 0 (nI cc)) (o + 61 + 2) k (nI (S.2.2.1 0 (3 + k) + 1)))) : Ag code st o ks c f := by
  obtain ⟨P, W, X, V, I⟩ := S
  obtain ⟨hC, hM, hO, hn, hz⟩ := h
  dsimp only at hc hf
  refine ⟨_, hc, fun k' M1 e => ?_, fun z M1 hw => ?_⟩
  · have := congrArg (fun x : (β × Mm) ⊕ (Nat × Mm) => match x with | Sum.inl _ => 7 | Sum.inr q => q.1) e
    dsimp only at this
    rw [← this]; exact hks
  obtain ⟨hz1, n, hn1, e⟩ := hw
  dsimp only at hz1 hn1 e
  have hn1' : nx M ≤ n := hn1
  have hm1 : MJ (sI M1 (o + 61) 0 (nI 0)) (o + 61) (P, W, X, V, I) := hM.mv hO (fun a j h1 h2 h3 => by
    subst e
    rw [gI_ne (by unfold scM at h3; omega)]
    show gI (sI M o (17 + k) _) a j = _
    rw [gI_ne (by omega)])
  obtain ⟨b, e2⟩ := hf M1 hm1
  refine ⟨b, _, e2, ?_, fun h0 => ?_, (P, W, up X 0 (3 + k) (X 0 (3 + k) + 1), V, I), ?_, ?_, ?_, ?_, ?_⟩
  · rw [gI_ne (by omega), gI_same, hz1, hcd]
  · rw [hz1, hcd] at h0
    have : nI cc = nI 0 := h0
    have := nI_inj (by omega) (by omega) this
    omega
  · have hX : ∀ i j, ¬ (i = 0 ∧ 2 ≤ j ∧ j ≤ 4) → up X 0 (3 + k) (X 0 (3 + k) + 1) i j = X i j := fun i j hij => up_n (by omega)
    have c1 : CI (sXm (sI M o (17 + k) (nI (X 0 (3 + k) + 1))) n) o (P, W, up X 0 (3 + k) (X 0 (3 + k) + 1), V, I) := by
      obtain ⟨p, l, d, _, _, ⟨_, _, ⟨t4, t5, t6⟩, _⟩, _⟩ := id hC
      dsimp only at t4 t5 t6
      refine hC.ch hX ⟨?_, ?_, ?_⟩ hn hn1' (fun a j ha => ?_) (fun a j => rfl)
      · show gI (sI M o (17 + k) _) o 16 = _
        rw [gI_ne (by omega), up_n (by omega)]; exact t4
      · show gI (sI M o (17 + k) _) o 17 = _
        by_cases c : k = 0
        · rw [gI_eq2 rfl (by omega), up_e rfl (by omega)]
        · rw [gI_ne (by omega), up_n (by omega)]; exact t5
      · show gI (sI M o (17 + k) _) o 18 = _
        by_cases c : k = 1
        · rw [gI_eq2 rfl (by omega), up_e rfl (by omega)]
        · rw [gI_ne (by omega), up_n (by omega)]; exact t6
      · show gI (sI M o (17 + k) _) a j = _
        rw [gI_ne (by omega)]
    rw [← e] at c1
    have f1 : FA (o + 61) M1 (sI (sI (sI M1 (o + 61) 0 (nI 0)) (o + 61) 0 (nI cc)) (o + 61 + 2) k (nI (X 0 (3 + k) + 1))) := ⟨⟨rfl, rfl⟩, fun a j ha => by rw [gI_ne (by omega), gI_ne (by omega), gI_ne (by omega)], fun _ _ _ => rfl, fun _ _ _ => rfl⟩
    exact f1.ci c1 (by subst e; show o + 561 ≤ n; omega)
  · obtain ⟨_, ⟨_, _, ⟨t4, t5, t6⟩, _⟩, _⟩ := id hm1
    dsimp only at t4 t5 t6
    have hX : ∀ i j, ¬ (i = 0 ∧ 2 ≤ j ∧ j ≤ 4) → up X 0 (3 + k) (X 0 (3 + k) + 1) i j = X i j := fun i j hij => up_n (by omega)
    have ho : oS (P, W, X, V, I) := hO
    obtain ⟨h1, ⟨⟨u1, u2⟩, u3, _, u7, u8⟩, h56, h7, h8⟩ := id hm1
    have key : ∀ a j, ¬ (a = o + 61 + 2) → ¬ (a = o + 61 ∧ j = 0) → gI (sI (sI (sI M1 (o + 61) 0 (nI 0)) (o + 61) 0 (nI cc)) (o + 61 + 2) k (nI (X 0 (3 + k) + 1))) a j = gI (sI M1 (o + 61) 0 (nI 0)) a j := fun a j ha hb => by rw [gI_ne (by omega), gI_ne (by omega)]
    have m2 : MJ (sI (sI M1 (o + 61) 0 (nI 0)) (o + 61) 0 (nI cc)) (o + 61) (P, W, X, V, I) := hm1.mv hO (fun a j h1 h2 h3 => gI_ne (by unfold scM at h3; omega))
    have m3 : MJ (sI (sI (sI M1 (o + 61) 0 (nI 0)) (o + 61) 0 (nI cc)) (o + 61 + 2) k (nI (X 0 (3 + k) + 1))) (o + 61) (P, W, up X 0 (3 + k) (X 0 (3 + k) + 1), V, I) := by
      obtain ⟨⟨v1, v2⟩, ⟨⟨y1, y2⟩, y3, ⟨y4, y5, y6⟩, y7, y8⟩, ⟨v5, v6⟩, v7, v8⟩ := id m2
      dsimp only at v1 v2 y1 y2 y3 y4 y5 y6 y7 y8 v5 v6 v7 v8
      have fr : Fr (fun a => a = o + 61 + 2) (sI (sI M1 (o + 61) 0 (nI 0)) (o + 61) 0 (nI cc)) (sI (sI (sI M1 (o + 61) 0 (nI 0)) (o + 61) 0 (nI cc)) (o + 61 + 2) k (nI (X 0 (3 + k) + 1))) := (Fr.rf _ _).sI rfl
      have oP : okP P := ho.1.1
      have hK := ho.2.1.2.1
      have hD := ho.2.2.1.1
      have hV := ho.2.2.2.1.1
      have hI := ho.2.2.2.2.1
      dsimp only at hK hD hV hI
      have x1 : up X 0 (3 + k) (X 0 (3 + k) + 1) 1 = X 1 := funext (fun j => hX 1 j (by omega))
      have x2 : up X 0 (3 + k) (X 0 (3 + k) + 1) 2 = X 2 := funext (fun j => hX 2 j (by omega))
      have x3 : up X 0 (3 + k) (X 0 (3 + k) + 1) 3 = X 3 := funext (fun j => hX 3 j (by omega))
      have x4 : up X 0 (3 + k) (X 0 (3 + k) + 1) 4 = X 4 := funext (fun j => hX 4 j (by omega))
      refine ⟨⟨v1.fr oP fr (fun x hx => by unfold qrg at hx; omega), v2.fr fr (by omega)⟩, ⟨⟨?_, ?_⟩, fun j hj => ?_, ⟨?_, ?_, ?_⟩, ?_, ?_⟩, ⟨⟨?_, fun j hj => ⟨?_, ?_⟩⟩, ?_, fun j hj => ⟨?_, ?_⟩⟩, fun i hi => ?_, fun j hj => ⟨?_, ?_, fun i hi => ?_⟩⟩
      · rw [gI_ne (by omega)]; dsimp only; rw [hX _ _ (by omega)]; exact y1
      · rw [gI_ne (by omega)]; dsimp only; rw [hX _ _ (by omega)]; exact y2
      · dsimp only at hj ⊢
        rw [hX _ _ (by omega)] at hj
        rw [gI_ne (by omega), hX _ _ (by omega)]; exact y3 j hj
      · dsimp only; rw [gI_ne (by omega), up_n (by omega)]; exact y4
      · dsimp only
        by_cases c : k = 0
        · rw [gI_eq2 rfl (by omega), up_e rfl (by omega)]
        · rw [gI_ne (by omega), up_n (by omega)]; exact y5
      · dsimp only
        by_cases c : k = 1
        · rw [gI_eq2 rfl (by omega), up_e rfl (by omega)]
        · rw [gI_ne (by omega), up_n (by omega)]; exact y6
      · rw [gI_ne (by omega)]; dsimp only; rw [hX _ _ (by omega)]; exact y7
      · rw [gI_ne (by omega)]; dsimp only; rw [hX _ _ (by omega)]; exact y8
      · dsimp only; rw [gI_ne (by omega), hX _ _ (by omega)]; exact v5.1
      · dsimp only at hj ⊢
        rw [hX _ _ (by omega)] at hj
        rw [gI_ne (by omega), x2]; exact (v5.2 j hj).1
      · dsimp only at hj ⊢
        rw [hX _ _ (by omega)] at hj
        rw [gI_ne (by omega), x2]; exact (v5.2 j hj).2
      · dsimp only; rw [gI_ne (by omega), hX _ _ (by omega)]; exact v6.1
      · dsimp only at hj ⊢
        rw [hX _ _ (by omega)] at hj
        rw [gI_ne (by omega), x3]; exact (v6.2 j hj).1
      · dsimp only at hj ⊢
        rw [hX _ _ (by omega)] at hj
        rw [gI_ne (by omega), x4]; exact (v6.2 j hj).2
      · dsimp only at hi ⊢
        rw [hX _ _ (by omega)] at hi
        exact (v7 i hi).fr fr (by omega)
      · dsimp only at hj ⊢
        rw [hX _ _ (by omega)] at hj
        rw [gI_ne (by omega)]; exact (v8 j hj).1
      · dsimp only at hj ⊢
        rw [hX _ _ (by omega)] at hj
        have e9 : (fun q => gI (sI (sI (sI M1 (o + 61) 0 (nI 0)) (o + 61) 0 (nI cc)) (o + 61 + 2) k (nI (X 0 (3 + k) + 1))) (o + 61 + 489 + 1 + j) (1 + q)) = fun q => gI (sI (sI M1 (o + 61) 0 (nI 0)) (o + 61) 0 (nI cc)) (o + 61 + 489 + 1 + j) (1 + q) := funext (fun q => gI_ne (by omega))
        rw [e9]; exact (v8 j hj).2.1
      · dsimp only at hj hi ⊢
        rw [hX _ _ (by omega)] at hj
        have e9 : (fun q => gI (sI (sI (sI M1 (o + 61) 0 (nI 0)) (o + 61) 0 (nI cc)) (o + 61 + 2) k (nI (X 0 (3 + k) + 1))) (o + 61 + 489 + 1 + j) (106 + 105 * i + q)) = fun q => gI (sI (sI M1 (o + 61) 0 (nI 0)) (o + 61) 0 (nI cc)) (o + 61 + 489 + 1 + j) (106 + 105 * i + q) := funext (fun q => gI_ne (by omega))
        rw [e9]; exact (v8 j hj).2.2 i hi
    exact m3
  · exact hO.ch (fun i j hij => up_n (by omega))
  · subst e
    show o + 561 ≤ n
    omega
  · subst e
    intro a ha
    have ha' : n ≤ a := ha
    exact hz a (by omega)
/-- answered on both sides, nothing changed but scratch -/
theorem agR {β : Type} {code : Nat → Int32} {st : β → Int64} {ks : Nat → Prop} {c : Option ((β × Mm) ⊕ (Nat × Mm))} {f : Mm → Option (β × Mm)} (h : InvS o M S) {v : β} (hc : c = some (Sum.inl (v, M'))) (hfr : Fr (scr o) M M') (hf : ∀ M1, MJ (sI M1 (o + 61) 0 (nI 0)) (o + 61) S → ∃ M2, f M1 = some (v, M2) ∧ gI M2 (o + 61) 0 = nI 0 ∧ FM (o + 61) (sI M1 (o + 61) 0 (nI 0)) M2) : Ag code st o ks c f := by
  obtain ⟨hC, hM, hO, hn, hz⟩ := h
  refine ⟨_, hc, fun k' M1 e => (nomatch e), fun z M1 hw => ?_⟩
  obtain ⟨hz1, e⟩ := hw
  dsimp only at e
  have hm1 : MJ (sI M1 (o + 61) 0 (nI 0)) (o + 61) S := hM.mv hO (fun a j h1 h2 h3 => by
    subst e
    rw [gI_ne (by unfold scM at h3; omega)]
    show gI M' a j = _
    exact hfr.i (by unfold scr; omega) j)
  obtain ⟨M2, e2, e3, e4⟩ := hf M1 hm1
  have f1 : FM (o + 61) M1 M2 := ((FM.rf _ _).sI (Or.inr ⟨rfl, Or.inl rfl⟩)).trans e4
  have c1 : CI M' o S := hC.mv (hfr.eqx (fun a ha => Or.inl ha)) hn (fun a ha => ha)
  have c2 : CI M1 o S := by subst e; exact c1
  have n1 : nx M1 = nx M := by subst e; exact hfr.1.1
  refine ⟨v, M2, e2, by rw [e3, hz1]; rfl, fun _ => ?_, S, f1.fa.ci c2 (by omega), e4.mj hm1 hO, hO, ?_, ?_⟩
  · rw [f1.2.2.1 _ _ (by omega)]
    subst e
    exact gL_same ..
  · rw [f1.1.1]; omega
  · refine f1.fa.kz ?_
    intro a ha
    subst e
    show (kd M' a).1 = 0
    rw [hfr.1.2]
    exact hz a (by omega)
theorem agR0 {β : Type} {code : Nat → Int32} {st : β → Int64} {ks : Nat → Prop} {c : Option ((β × Mm) ⊕ (Nat × Mm))} {f : Mm → Option (β × Mm)} (h : InvS o M S) {v : β} (hc : c = some (Sum.inl (v, M))) (hf : ∀ M1, MJ (sI M1 (o + 61) 0 (nI 0)) (o + 61) S → f M1 = some (v, sI M1 (o + 61) 0 (nI 0))) : Ag code st o ks c f :=
  agR h hc (Fr.rf _ _) (fun M1 h1 => ⟨_, hf M1 h1, gI_same .., FM.rf _ _⟩)
end
