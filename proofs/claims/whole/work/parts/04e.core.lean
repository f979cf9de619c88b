/-! # core, 4: fields and rows -/
def objK (k : Nat) : Bool := (Nat.blt 0 k && Nat.blt k 14) || (Nat.blt 200 k && Nat.blt k 214)
theorem objK_lt {k : Nat} (h : objK k = true) : 0 < k ∧ k ≠ 14 ∧ k ≠ 15 ∧ k ≠ 16 ∧ k ≠ 17 ∧ k < 1000 ∧ k ≠ 30 ∧ k ≠ 31 ∧ k ≠ 32 := by
  unfold objK at h
  simp only [Bool.or_eq_true, Bool.and_eq_true, Nat.blt_eq] at h
  omega
/-- what is fixed of a field -/
def FldOk (k j : Nat) (C : String) (T : u_T) (N : Nat) (t : Nat × Nat × Nat × Nat) : Prop :=
  objK k = true ∧ vwCl[cix k]? = some (C, T, N) ∧ (∀ w ∈ u_ws C T N, w ∈ gtb) ∧ j < N ∧ (ftb k)[j]? = some t ∧ (ftb k).length = N ∧
  (∃ ty0 : Nat → FieldType, (∀ k, k < N → parseFieldDescriptor (T k).2.2.1 = some (ty0 k)) ∧ (t.1 = 0 → ty0 j = .int) ∧ (t.1 ≠ 0 → (∃ n, ty0 j = .object n) ∨ ∃ z, ty0 j = .array z)) ∧
  (∀ a, a < N → ∀ b, b < N → a ≠ b → (T a).2.1 ≠ (T b).2.1)
/-- its link out of a class, of its own or of a nest mate -/
def LnkOk (own : String) (index : Nat) (T : u_T) (j : Nat) : Prop := Cond.fieldLink own index (T j).1 (T j).2.1 (T j).2.2.1 ∈ lw_tbl ∨ ∃ host, Cond.fieldLinkNest own index (T j).1 (T j).2.1 (T j).2.2.1 host ∈ lw_tbl
theorem ce_obj {G : GT} {M : Mm} {a k n : Nat} (hk : objK k = true) (ha : kd M a = (k, n)) : ce G M a = .inr (cix k, fvs M a k) := by
  obtain ⟨h0, h1, h2, h3, h4, h5, -⟩ := objK_lt hk
  unfold ce
  rw [ha]
  simp only [h1, h2, h3, h4, if_false, or_self, if_neg (Nat.not_le.mpr h5)]
theorem fvs_get (M : Mm) (a k i : Nat) : (fvs M a k)[i]? = ((ftb k)[i]?).map (fun t => fv M a i t) := by
  unfold fvs
  rw [List.getElem?_map, List.getElem?_zipIdx]
  cases (ftb k)[i]? with
  | none => rfl
  | some t => simp
theorem fvs_len (M : Mm) (a k : Nat) : (fvs M a k).length = (ftb k).length := by unfold fvs; simp
theorem va_P1 {D : va_G} {cl : List vw_C} {q : Nat × va_E} {H : Heap} (h : va_at D cl q H) : va_P D cl [q] H := by
  intro k r hr
  match k, hr with
  | 0, hr => cases hr; exact h
theorem Rel.at {G : GT} {M : Mm} {H : Heap} (h : Rel G M H) {a : Nat} (ha : (kd M a).1 ≠ 0) : va_at (gD G) vwCl (a, ce G M a) H := (h.2.2.2.1 a ha).2.2
theorem Rel.ab {G : GT} {M : Mm} {H : Heap} (h : Rel G M H) {a : Nat} (ha : (kd M a).1 ≠ 0) : gAb G a := (h.2.2.2.1 a ha).1
/-- one cell changes: the rest stays -/
theorem Rel.upd {G : GT} {M M' : Mm} {H H' : Heap} {a : Nat} (h : Rel G M H) (ha : (kd M a).1 ≠ 0) (hn : nx M' = nx M) (hk : kd M' = kd M) (hne : ∀ b, b ≠ a → ce G M' b = ce G M b) (hat : va_at (gD G) vwCl (a, ce G M' a) H') (hsz : H'.size = H.size) (oq : ∀ q, q ≠ a → H'[q]? = H[q]?) (hty : tyO M') : Rel G M' H' := by
  obtain ⟨h1, h2, h3, h4, h5⟩ := h
  have hba := (h4 a ha).1
  refine ⟨by rw [hn, hsz]; exact h1, by rw [hsz]; exact h2, fun q hq => ?_, fun b hb => ?_, hty⟩
  · rw [oq q (by omega)]; exact h3 q hq
  · rw [hk] at hb
    obtain ⟨q1, q2, q3⟩ := h4 b hb
    refine ⟨q1, by rw [hn]; exact q2, ?_⟩
    by_cases e : b = a
    · subst e; exact hat
    · rw [hne b e]; exact q3.kept (oq b e)
theorem ce_sI_ne (G : GT) (M : Mm) (a j : Nat) (v : Int32) {b : Nat} (h : b ≠ a) : ce G (sI M a j v) b = ce G M b := by
  have e : gI (sI M a j v) b = gI M b := by funext i; rw [gI_sI, if_neg (fun q => h q.1)]
  have e2 : fvs (sI M a j v) b (kd M b).1 = fvs M b (kd M b).1 := by
    unfold fvs fv
    refine List.map_congr_left fun q _ => ?_
    rw [gI_sI, if_neg (fun z => h z.1)]; rfl
  unfold ce
  rw [kd_sI, e, e2]
  rfl
theorem ce_sL_ne (G : GT) (M : Mm) (a j : Nat) (v : Int64) {b : Nat} (h : b ≠ a) : ce G (sL M a j v) b = ce G M b := by
  have e : gL (sL M a j v) b = gL M b := by funext i; rw [gL_sL, if_neg (fun q => h q.1)]
  unfold ce
  rw [kd_sL, e]
  rfl
theorem ce_sR_ne (G : GT) (M : Mm) (a j : Nat) (v : Option Nat) {b : Nat} (h : b ≠ a) : ce G (sR M a j v) b = ce G M b := by
  have e : gR (sR M a j v) b = gR M b := by funext i; rw [gR_sR, if_neg (fun q => h q.1)]
  have e2 : fvs (sR M a j v) b (kd M b).1 = fvs M b (kd M b).1 := by
    unfold fvs fv
    refine List.map_congr_left fun q _ => ?_
    rw [gR_sR, if_neg (fun z => h z.1)]; rfl
  unfold ce
  rw [kd_sR, e, e2]
  rfl
theorem tyO_sR {M : Mm} {a j : Nat} {v : Option Nat} (h : tyO M)
    (h1 : ∀ t, (kd M a).1 < 1000 → (ftb (kd M a).1)[j]? = some t → t.1 = 2 → ∀ b, v = some b → kd M b = (t.2.2.1, t.2.2.2))
    (h2 : (kd M a).1 = 16 → ∀ b, j < (kd M a).2 → v = some b → kd M b = (4, 0)) (h3 : (kd M a).1 = 17 → ∀ b, j < (kd M a).2 → v = some b → kd M b = (11, 0)) : tyO (sR M a j v) := by
  intro b
  obtain ⟨q1, q2, q3, q4⟩ := h b
  have key : ∀ i c, gR (sR M a j v) b i = some c → (b = a ∧ i = j ∧ v = some c) ∨ gR M b i = some c := by
    intro i c hc
    rw [gR_sR] at hc
    by_cases z : b = a ∧ i = j
    · rw [if_pos z] at hc; exact Or.inl ⟨z.1, z.2, hc⟩
    · rw [if_neg z] at hc; exact Or.inr hc
  refine ⟨fun i t hk ht => ⟨fun e => (q1 i t hk ht).1 e, fun e c hc => ?_⟩, q2, fun hk i c hi hc => ?_, fun hk i c hi hc => ?_⟩
  · rcases key i c hc with ⟨e1, e2, e3⟩ | e1
    · subst e1; subst e2
      exact h1 t hk ht e c e3
    · exact (q1 i t hk ht).2 e c e1
  · rcases key i c hc with ⟨e1, e2, e3⟩ | e1
    · subst e1; subst e2
      exact h2 hk c hi e3
    · exact q3 hk i c hi e1
  · rcases key i c hc with ⟨e1, e2, e3⟩ | e1
    · subst e1; subst e2
      exact h3 hk c hi e3
    · exact q4 hk i c hi e1
section CoreMem
variable {p : Program} {l : Launch} {e : Env} {R : Room} {s : State} {m : MethodId} {args : Array Value} {below : List Frame} {meth : Method} {c : Code} {H : Heap} {locs : List Loc} {cells slots : Nat} {Q : State → Prop}
variable {cc : ByteArray} {pc : Nat} {ls : Array Slot} {rest : List Value} {G : GT} {M : Mm} {a k n j : Nat}
theorem gtb_in {w : Cond} (h : w ∈ lw_tbl) (hg : goodWord w = true) : w ∈ gtb := List.mem_filter.mpr ⟨h, hg⟩
theorem W_get (hx : p.tables.exec = Jvm.exec) (hb : c.code = cc) {own C : String} {T : u_T} {N index : Nat} {t : Nat × Nat × Nat × Nat} (hown : s.vm.findClass own = some m.cls) (hts : ∀ w ∈ gtb, w.before args s = true) (hG : GK G s) (F : FldOk k j C T N t) (L : LnkOk own index T j) (hrel : Rel G M H) (ha : kd M a = (k, n)) (hd : decode cc pc = .ok (.getfield index, 3))
    (kk : W p l e R s m args below meth c H locs cells slots Q (F0 m (pc + 3) ls (fv M a j t :: rest))) : W p l e R s m args below meth c H locs cells slots Q (F0 m pc ls (.ref a :: rest)) := by
  obtain ⟨f1, f2, f3, f4, f5, f6, -, -⟩ := F
  have hk0 := (objK_lt f1).1
  have hat := hrel.at (a := a) (by rw [ha]; exact Nat.ne_of_gt hk0)
  rw [ce_obj f1 ha] at hat
  have hP := va_P1 hat
  have hv : (fvs M a k)[j]? = some (fv M a j t) := by rw [fvs_get, f5]; rfl
  rcases L with hw | ⟨host, hw⟩
  · exact va_get hx hb hts f3 hown hG.1 hP 0 rfl f2 j f4 (hts _ (gtb_in hw rfl)) (fun _ h => h) hv hd kk
  · exact va_getN (host := host) hx hb hts f3 hown hG.1 hP 0 rfl f2 j f4 (va_Nw.use rfl (hG.2.1.1 _ hw rfl)) (fun _ h => h) hv hd kk
/-- a field is written: the new heap, cell by cell -/
theorem W_put (hx : p.tables.exec = Jvm.exec) (hb : c.code = cc) {own C : String} {T : u_T} {N index : Nat} {t : Nat × Nat × Nat × Nat} (hown : s.vm.findClass own = some m.cls) (hts : ∀ w ∈ gtb, w.before args s = true) (hG : GK G s) (F : FldOk k j C T N t) (L : LnkOk own index T j) (hfi : (T j).2.2.2 = false ∨ (meth.name = "<init>" ∧ (T j).1 = own ∧ Cond.fieldLink own index (T j).1 (T j).2.1 (T j).2.2.1 ∈ lw_tbl)) (hrel : Rel G M H) (ha : kd M a = (k, n)) {v : Value} (hv : (t.1 = 0 ∧ ∃ z, v = .int z) ∨ (t.1 ≠ 0 ∧ (v = .null ∨ ∃ z, v = .ref z)))
    (hS : va_S (gAb G) s.heap H locs) (hd : decode cc pc = .ok (.putfield index, 3))
    (kk : ∀ (H' : Heap) (locs' : List Loc), H'.size = H.size → (∀ q, q ≠ a → H'[q]? = H[q]?) → t_OB a ((gD G).1 (cix k)) N ((gD G).2 (cix k)) H' (updV (vp_V (fvs M a k)) j v) → va_S (gAb G) s.heap H' locs' → W p l e R s m args below meth c H' locs' cells slots Q (F0 m (pc + 3) ls rest)) : W p l e R s m args below meth c H locs cells slots Q (F0 m pc ls (v :: .ref a :: rest)) := by
  obtain ⟨f1, f2, f3, f4, f5, f6, ⟨ty0, hty, ht0, ht1⟩, hnm⟩ := F
  have hk0 : (kd M a).1 ≠ 0 := by rw [ha]; exact Nat.ne_of_gt (objK_lt f1).1
  have hat := hrel.at hk0
  rw [ce_obj f1 ha] at hat
  have hap := va_apart (own := own) hts f3 ty0 hty hnm hG.1 f2
  obtain ⟨r, h1, cell, q1, q2, q3, q4⟩ := hat
  have hr : r = (C, T, N) := Option.some.inj (h1.symm.trans f2)
  subst hr
  obtain ⟨hSl, hfc, kC, hkC, hkind⟩ := hG.1.1 _ _ f2
  obtain ⟨cf, kf, fi, f, hi, hsl⟩ := hSl j f4
  have hst := (u_facts hfc hkC (u_lays hts f3 f4) hi).1
  have hdd := hty j f4
  have hnf : narrow (ty0 j) v = v ∧ fits (ty0 j) v = true := by
    rcases hv with ⟨e0, z, rfl⟩ | ⟨e0, e1⟩
    · rw [ht0 e0]; exact ⟨rfl, rfl⟩
    · rcases ht1 e0 with ⟨nm, e2⟩ | ⟨z, e2⟩ <;> rw [e2] <;> rcases e1 with rfl | ⟨w, rfl⟩ <;> exact ⟨rfl, rfl⟩
  have hlay := hts _ (f3 _ (u_in_lay f4))
  unfold u_lay at hlay
  have fin : ∀ H' : Heap, H'[a]? = some (cell.setSlot f.slot v) → H'.size = H.size → (∀ q, q ≠ a → H'[q]? = H[q]?) → W p l e R s m args below meth c H' (locs ++ [⟨a, f.slot⟩]) cells slots Q (F0 m (pc + 3) ls rest) := by
    intro H' e1 e2 e3
    rw [hsl] at e1 ⊢
    exact kk H' _ e2 e3 ⟨_, e1, q2, q3, t_set q4 hap f4 v⟩ (hS.put e2 e3 (hrel.ab hk0))
  rcases hfi with hfin | ⟨hin2, hdecl, hw⟩
  · rw [if_neg (by rw [hfin]; decide)] at hlay
    have h6 := u_store hfc hkC hkind hlay hi hdd hnf.1 hnf.2
    rcases L with hw | ⟨host, hw⟩
    · exact W.putK hx hb (f := f) ⟨hown, hts _ (gtb_in hw rfl), ⟨_, _, _, hi⟩, hst⟩ (by rw [q2]; exact h6) q1 q3 (by rw [hsl]; exact k2_hasslot (q4 j f4)) rfl rfl hd fin
    · exact va_WputK (host := host) hx hb (f := f) hown (va_Nw.use rfl (hG.2.1.1 _ hw rfl)) hi hst (by rw [q2]; exact h6) q1 q3 (by rw [hsl]; exact k2_hasslot (q4 j f4)) rfl rfl hd fin
  · by_cases hfin : (T j).2.2.2 = false
    · rw [if_neg (by rw [hfin]; decide)] at hlay
      have h6 := u_store hfc hkC hkind hlay hi hdd hnf.1 hnf.2
      exact W.putK hx hb (f := f) ⟨hown, hts _ (gtb_in hw rfl), ⟨_, _, _, hi⟩, hst⟩ (by rw [q2]; exact h6) q1 q3 (by rw [hsl]; exact k2_hasslot (q4 j f4)) rfl rfl hd fin
    · have hfin : (T j).2.2.2 = true := by cases hq : (T j).2.2.2 with
        | true => rfl
        | false => exact absurd hq hfin
      rw [if_pos hfin] at hlay
      have hcf : m.cls = cf := by
        obtain ⟨_, _, c', _, _, _, -, -, hf', -, -, -, hown2, -⟩ := Cond.laysFinal_spec hlay
        have e1 : c' = cf := by have := hi.symm.trans hf'; simp at this; exact this.1.symm
        rw [hdecl] at hown2
        rw [← e1]; exact Option.some.inj (hown.symm.trans hown2)
      have h6 := u_fits hfc hkC hkind (Or.inr hlay) hi hdd hnf.1 hnf.2
      exact W.putFinK hx hb hown (hts _ (gtb_in hw rfl)) hi hst hcf hin2 (by rw [q2]; exact h6) q1 q3 (by rw [hsl]; exact k2_hasslot (q4 j f4)) rfl rfl hd fin
end CoreMem
/-- the object behind a write of an int -/
theorem at_sI {G : GT} {M : Mm} {H' : Heap} {a k n j N : Nat} {C : String} {T : u_T} {t : Nat × Nat × Nat × Nat} {v : Int32} (F : FldOk k j C T N t) (h0 : t.1 = 0) (ha : kd M a = (k, n)) (h : t_OB a ((gD G).1 (cix k)) N ((gD G).2 (cix k)) H' (updV (vp_V (fvs M a k)) j (.int v))) : va_at (gD G) vwCl (a, ce G (sI M a j v) a) H' := by
  obtain ⟨f1, f2, f3, f4, f5, f6, -, -⟩ := F
  rw [ce_obj (M := sI M a j v) f1 (by rw [kd_sI]; exact ha)]
  refine ⟨_, f2, h.to (fun i hi => ?_)⟩
  unfold updV vp_V
  rw [List.getD_eq_getElem?_getD, List.getD_eq_getElem?_getD, fvs_get, fvs_get]
  by_cases e : i = j
  · subst e
    rw [if_pos rfl, f5]
    show Value.int v = fv (sI M a i v) a i t
    unfold fv
    rw [h0, gI_sI, if_pos ⟨rfl, rfl⟩]
    rfl
  · rw [if_neg e]
    cases (ftb k)[i]? with
    | none => rfl
    | some t2 =>
      show fv M a i t2 = fv (sI M a j v) a i t2
      unfold fv
      rw [gI_sI, if_neg (fun z => e z.2)]
      rfl
theorem at_sR {G : GT} {M : Mm} {H' : Heap} {a k n j N : Nat} {C : String} {T : u_T} {t : Nat × Nat × Nat × Nat} {v : Option Nat} (F : FldOk k j C T N t) (h0 : t.1 = 2) (ha : kd M a = (k, n)) (h : t_OB a ((gD G).1 (cix k)) N ((gD G).2 (cix k)) H' (updV (vp_V (fvs M a k)) j (va_rf v))) : va_at (gD G) vwCl (a, ce G (sR M a j v) a) H' := by
  obtain ⟨f1, f2, f3, f4, f5, f6, -, -⟩ := F
  rw [ce_obj (M := sR M a j v) f1 (by rw [kd_sR]; exact ha)]
  refine ⟨_, f2, h.to (fun i hi => ?_)⟩
  unfold updV vp_V
  rw [List.getD_eq_getElem?_getD, List.getD_eq_getElem?_getD, fvs_get, fvs_get]
  by_cases e : i = j
  · subst e
    rw [if_pos rfl, f5]
    show va_rf v = fv (sR M a i v) a i t
    unfold fv
    rw [h0, gR_sR, if_pos ⟨rfl, rfl⟩]
    rfl
  · rw [if_neg e]
    cases (ftb k)[i]? with
    | none => rfl
    | some t2 =>
      show fv M a i t2 = fv (sR M a j v) a i t2
      unfold fv
      rw [gR_sR, if_neg (fun z => e z.2)]
      rfl
