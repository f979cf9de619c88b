/-! # core, 15: calls of methods whose contract is a function (printed by wip/gen/mk_fun.py) -/
def shI (n : Nat) (l : List AV) : Bool := Nat.beq l.length n && l.all (fun v => match v with | Sum.inl _ => true | _ => false)
theorem shI_c {n : Nat} {l : List AV} (h : shI (n + 1) l = true) : ∃ (a : Int32) (l2 : List AV), l = vI a :: l2 ∧ shI n l2 = true := by
  unfold shI at h
  rw [Bool.and_eq_true] at h
  cases l with
  | nil => exact absurd (Nat.eq_of_beq_eq_true h.1) (fun z => by cases z)
  | cons v l2 =>
    have h2 := h.2
    rw [List.all_cons, Bool.and_eq_true] at h2
    rcases v with a | a
    · refine ⟨a, l2, rfl, ?_⟩
      unfold shI
      rw [Bool.and_eq_true]
      exact ⟨by have := Nat.eq_of_beq_eq_true h.1; rw [List.length_cons] at this; rw [Nat.succ.inj this]; exact Nat.beq_refl n, h2.2⟩
    · exact absurd h2.1 (by intro z; cases z)
theorem shI_n {l : List AV} (h : shI 0 l = true) : l = [] := by
  unfold shI at h
  rw [Bool.and_eq_true] at h
  exact List.eq_nil_of_length_eq_zero (Nat.eq_of_beq_eq_true h.1)
def o_fS0 (n : Nat) (f : List AV → Mm → Int32) (F : List AV → Mm → Mm) (φ : Fm) : Fm := fun al st M cs ss => cond (sl8 (st.drop n) && Nat.ble n st.length && shI n (st.take n).reverse) (φ al (vI (f (st.take n).reverse M) :: st.drop n) (F (st.take n).reverse M) cs ss) False
theorem s_fS0 {Z : ZT} {cc : ByteArray} {own : String} {ret : Option FieldType} {d mc9 ms9 : Nat} {G9 : GT} {Q : Option AV → Mm → Prop} (C : Zok Z cc own ret d G9 mc9 ms9 Q) {pc : Nat} {n index : Nat} {q : MD} {f : List AV → Mm → Int32} {F : List AV → Mm → Mm} {φ : Fm} (hd : decode cc pc = .ok (.invokestatic index, 3)) (hm : MOk q n) (hV : MS q) (L : LkM own index q.1) (hd1 : 1 ≤ d) (hc : ∀ avs M, shI n avs = true → CT G9 none (d - 1) 0 0 q avs M (Qi (fun z M' => z = f avs M ∧ M' = F avs M))) (k : Sd Z φ (pc + 3)) : Sd Z (o_fS0 n f F φ) pc := by
  intro al st M cs ss h
  unfold o_fS0 at h
  refine s_cSi (mc2 := 0) (ms2 := 0) C hd hm hV L hd1 k al st M cs ss ?_
  unfold o_cSi
  cases e : (sl8 (st.drop n) && Nat.ble n st.length && shI n (st.take n).reverse) with
  | false => rw [e] at h; exact h.elim
  | true =>
    rw [e] at h
    rw [Bool.and_eq_true] at e
    rw [e.1]
    refine ⟨_, hc _ M e.2, fun z M' hz => ?_⟩
    obtain ⟨rfl, rfl⟩ := hz
    exact h
def o_fS (n : Nat) (pre : List AV → Mm → Prop) (f : List AV → Mm → Int32) (F : List AV → Mm → Mm) (φ : Fm) : Fm := fun al st M cs ss => cond (sl8 (st.drop n) && Nat.ble n st.length) (pre (st.take n).reverse M ∧ φ al (vI (f (st.take n).reverse M) :: st.drop n) (F (st.take n).reverse M) cs ss) False
theorem s_fS {Z : ZT} {cc : ByteArray} {own : String} {ret : Option FieldType} {d mc9 ms9 : Nat} {G9 : GT} {Q : Option AV → Mm → Prop} (C : Zok Z cc own ret d G9 mc9 ms9 Q) {pc : Nat} {n index : Nat} {q : MD} {pre : List AV → Mm → Prop} {f : List AV → Mm → Int32} {F : List AV → Mm → Mm} {φ : Fm} (hd : decode cc pc = .ok (.invokestatic index, 3)) (hm : MOk q n) (hV : MS q) (L : LkM own index q.1) (hd1 : 1 ≤ d) (hc : ∀ avs M, pre avs M → CT G9 none (d - 1) 0 0 q avs M (Qi (fun z M' => z = f avs M ∧ M' = F avs M))) (k : Sd Z φ (pc + 3)) : Sd Z (o_fS n pre f F φ) pc := by
  intro al st M cs ss h
  unfold o_fS at h
  refine s_cSi (mc2 := 0) (ms2 := 0) C hd hm hV L hd1 k al st M cs ss ?_
  unfold o_cSi
  cases e : (sl8 (st.drop n) && Nat.ble n st.length) with
  | false => rw [e] at h; exact h.elim
  | true =>
    rw [e] at h
    refine ⟨_, hc _ M h.1, fun z M' hz => ?_⟩
    obtain ⟨rfl, rfl⟩ := hz
    exact h.2
def o_fV (n kk : Nat) (pre : Nat → List AV → Mm → Prop) (f : Nat → List AV → Mm → Int32) (F : Nat → List AV → Mm → Mm) (φ : Fm) : Fm := fun al st M cs ss => match st.drop n with
  | Sum.inr (Sum.inr (some (b, k9, n9))) :: rest => cond (Nat.beq k9 kk && sl8 rest && Nat.ble n st.length && Nat.beq n9 0) (pre b (st.take n).reverse M ∧ φ al (vI (f b (st.take n).reverse M) :: rest) (F b (st.take n).reverse M) cs ss) False
  | _ => False
theorem s_fV {Z : ZT} {cc : ByteArray} {own : String} {ret : Option FieldType} {d mc9 ms9 : Nat} {G9 : GT} {Q : Option AV → Mm → Prop} (C : Zok Z cc own ret d G9 mc9 ms9 Q) {pc : Nat} {n kk index N : Nat} {T0 : u_T} {q : MD} {pre : Nat → List AV → Mm → Prop} {f : Nat → List AV → Mm → Int32} {F : Nat → List AV → Mm → Mm} {φ : Fm} (hd : decode cc pc = .ok (.invokevirtual index, 3)) (hm : MOk q n) (hV : MV q) (L : LkM own index q.1) (hk0 : objK kk = true) (hcl : vwCl[cix kk]? = some (q.1.cls, T0, N)) (hd1 : 1 ≤ d) (hc : ∀ b avs M, pre b avs M → CT G9 none (d - 1) 0 0 q (vR b kk 0 :: avs) M (Qi (fun z M' => z = f b avs M ∧ M' = F b avs M))) (k : Sd Z φ (pc + 3)) : Sd Z (o_fV n kk pre f F φ) pc := by
  intro al st M cs ss h
  refine s_cVi (mc2 := 0) (ms2 := 0) (C0 := "") C hd hm hV L hk0 hcl hd1 k al st M cs ss ?_
  unfold o_fV at h
  unfold o_cVi
  split at h
  · next b k9 n9 rest hdr =>
    rw [hdr]
    dsimp only
    cases e : (Nat.beq k9 kk && sl8 rest && Nat.ble n st.length && Nat.beq n9 0) with
    | false => rw [e] at h; exact h.elim
    | true =>
      rw [e] at h
      rw [Bool.and_eq_true] at e
      rw [e.1]
      have e1 := Nat.eq_of_beq_eq_true e.2
      have e3 := e.1
      rw [Bool.and_eq_true, Bool.and_eq_true] at e3
      have e2 := Nat.eq_of_beq_eq_true e3.1.1
      subst e1; subst e2
      refine ⟨_, hc _ _ M h.1, fun z M' hz => ?_⟩
      obtain ⟨rfl, rfl⟩ := hz
      exact h.2
  · exact h.elim
def o_gS (n : Nat) (pre : List AV → Mm → Prop) (F : List AV → Mm → Mm) (φ : Fm) : Fm := fun al st M cs ss => cond (sl8 (st.drop n) && Nat.ble n st.length) (pre (st.take n).reverse M ∧ φ al (st.drop n) (F (st.take n).reverse M) cs ss) False
theorem s_gS {Z : ZT} {cc : ByteArray} {own : String} {ret : Option FieldType} {d mc9 ms9 : Nat} {G9 : GT} {Q : Option AV → Mm → Prop} (C : Zok Z cc own ret d G9 mc9 ms9 Q) {pc : Nat} {n index : Nat} {q : MD} {pre : List AV → Mm → Prop} {F : List AV → Mm → Mm} {φ : Fm} (hd : decode cc pc = .ok (.invokestatic index, 3)) (hm : MOk q n) (hV : MS q) (L : LkM own index q.1) (hd1 : 1 ≤ d) (hc : ∀ avs M, pre avs M → CT G9 none (d - 1) 0 0 q avs M (Qv (fun M' => M' = F avs M))) (k : Sd Z φ (pc + 3)) : Sd Z (o_gS n pre F φ) pc := by
  intro al st M cs ss h
  unfold o_gS at h
  refine s_cSv (mc2 := 0) (ms2 := 0) C hd hm hV L hd1 k al st M cs ss ?_
  unfold o_cSv
  cases e : (sl8 (st.drop n) && Nat.ble n st.length) with
  | false => rw [e] at h; exact h.elim
  | true =>
    rw [e] at h
    refine ⟨_, hc _ M h.1, fun M' hz => ?_⟩
    subst hz
    exact h.2
def o_gV (n kk : Nat) (pre : Nat → List AV → Mm → Prop) (F : Nat → List AV → Mm → Mm) (φ : Fm) : Fm := fun al st M cs ss => match st.drop n with
  | Sum.inr (Sum.inr (some (b, k9, n9))) :: rest => cond (Nat.beq k9 kk && sl8 rest && Nat.ble n st.length && Nat.beq n9 0) (pre b (st.take n).reverse M ∧ φ al rest (F b (st.take n).reverse M) cs ss) False
  | _ => False
theorem s_gV {Z : ZT} {cc : ByteArray} {own : String} {ret : Option FieldType} {d mc9 ms9 : Nat} {G9 : GT} {Q : Option AV → Mm → Prop} (C : Zok Z cc own ret d G9 mc9 ms9 Q) {pc : Nat} {n kk index N : Nat} {T0 : u_T} {q : MD} {pre : Nat → List AV → Mm → Prop} {F : Nat → List AV → Mm → Mm} {φ : Fm} (hd : decode cc pc = .ok (.invokevirtual index, 3)) (hm : MOk q n) (hV : MV q) (L : LkM own index q.1) (hk0 : objK kk = true) (hcl : vwCl[cix kk]? = some (q.1.cls, T0, N)) (hd1 : 1 ≤ d) (hc : ∀ b avs M, pre b avs M → CT G9 none (d - 1) 0 0 q (vR b kk 0 :: avs) M (Qv (fun M' => M' = F b avs M))) (k : Sd Z φ (pc + 3)) : Sd Z (o_gV n kk pre F φ) pc := by
  intro al st M cs ss h
  refine s_cVv (mc2 := 0) (ms2 := 0) (C0 := "") C hd hm hV L hk0 hcl hd1 k al st M cs ss ?_
  unfold o_gV at h
  unfold o_cVv
  split at h
  · next b k9 n9 rest hdr =>
    rw [hdr]
    dsimp only
    cases e : (Nat.beq k9 kk && sl8 rest && Nat.ble n st.length && Nat.beq n9 0) with
    | false => rw [e] at h; exact h.elim
    | true =>
      rw [e] at h
      rw [Bool.and_eq_true] at e
      rw [e.1]
      have e1 := Nat.eq_of_beq_eq_true e.2
      have e3 := e.1
      rw [Bool.and_eq_true, Bool.and_eq_true] at e3
      have e2 := Nat.eq_of_beq_eq_true e3.1.1
      subst e1; subst e2
      refine ⟨_, hc _ _ M h.1, fun M' hz => ?_⟩
      subst hz
      exact h.2
  · exact h.elim
theorem tsw_dom {ks : List (Int32 × Fm)} {lo hi : Int} (keys : List Int32) (hk : ks.map Prod.fst = keys) (n : Nat) (hn : hi = lo + n - 1) (h : ((List.range n).all (fun i => keys.any (fun k => decide (k.toInt = lo + i)))) = true) : ∀ x : Int32, (∀ q ∈ ks, ¬ x = q.1) → x.toInt < lo ∨ hi < x.toInt := by
  intro x hx
  by_cases h1 : x.toInt < lo
  · exact Or.inl h1
  · by_cases h2 : hi < x.toInt
    · exact Or.inr h2
    · exfalso
      have h3 := List.all_eq_true.mp h (x.toInt - lo).toNat (List.mem_range.mpr (by omega))
      obtain ⟨k, hk1, hk2⟩ := List.any_eq_true.mp h3
      have hk3 := of_decide_eq_true hk2
      rw [← hk] at hk1
      obtain ⟨q, hq1, hq2⟩ := List.mem_map.mp hk1
      refine hx q hq1 (Int32.toInt_inj.mp ?_)
      rw [hq2, hk3]
      omega
theorem lsw_off {ps : List (Int × Int)} {d x : Int} (h : ∀ q ∈ ps, x ≠ q.1) : Op.lookupswitch.offset ps d x = d := by
  induction ps with
  | nil => rfl
  | cons q l ih =>
    have h1 := h q List.mem_cons_self
    obtain ⟨a, o⟩ := q
    rw [Op.lookupswitch.offset_cons, if_neg (fun z => h1 z.symm)]
    exact ih (fun r hr => h r (List.mem_cons_of_mem _ hr))
theorem lsw_dom {ks : List (Int32 × Fm)} {ps : List (Int × Int)} {df : Int} (keys : List Int32) (hk : ks.map Prod.fst = keys) (h : keys.map Int32.toInt = ps.map Prod.fst) : ∀ x : Int32, (∀ q ∈ ks, ¬ x = q.1) → Op.lookupswitch.offset ps df x.toInt = df := by
  intro x hx
  refine lsw_off fun q hq e => ?_
  have h1 : q.1 ∈ keys.map Int32.toInt := by rw [h]; exact List.mem_map.mpr ⟨q, hq, rfl⟩
  obtain ⟨k, hk1, hk2⟩ := List.mem_map.mp h1
  rw [← hk] at hk1
  obtain ⟨r, hr1, hr2⟩ := List.mem_map.mp hk1
  exact hx r hr1 (Int32.toInt_inj.mp (by rw [e, ← hk2, hr2]))
