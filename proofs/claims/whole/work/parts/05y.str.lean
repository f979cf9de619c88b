/-! # texts: length, charAt (wip/gen/mk_str.py) -/
abbrev qJ_length : MD := (yJ0_length_8abf5, cJ0_length_8abf5, 1, (some .int))
theorem mk_J_length : MOk qJ_length 0 := ⟨List.mem_of_getElem? (i := 758) (by decide +kernel), List.mem_of_getElem? (i := 112) (by decide +kernel), by decide, ⟨by decide, by decide⟩, by decide +kernel, by decide⟩
theorem mv_J_length : MV qJ_length := ⟨List.mem_of_getElem? (i := 756) (by decide +kernel), List.mem_of_getElem? (i := 757) (by decide +kernel)⟩
abbrev qJ_charAt : MD := (yJ0_charAt_5068e, cJ0_charAt_5068e, 2, (some .char))
theorem mk_J_charAt : MOk qJ_charAt 1 := ⟨List.mem_of_getElem? (i := 768) (by decide +kernel), List.mem_of_getElem? (i := 112) (by decide +kernel), by decide, ⟨by decide, by decide⟩, by decide +kernel, by decide⟩
theorem mv_J_charAt : MV qJ_charAt := ⟨List.mem_of_getElem? (i := 766) (by decide +kernel), List.mem_of_getElem? (i := 767) (by decide +kernel)⟩
abbrev qJ_coder : MD := (yJ0_coder_7d493, cJ0_coder_7d493, 1, (some .byte))
theorem mk_J_coder : MOk qJ_coder 0 := ⟨List.mem_of_getElem? (i := 762) (by decide +kernel), List.mem_of_getElem? (i := 112) (by decide +kernel), by decide, ⟨by decide, by decide⟩, by decide +kernel, by decide⟩
theorem mv_J_coder : MV qJ_coder := ⟨List.mem_of_getElem? (i := 760) (by decide +kernel), List.mem_of_getElem? (i := 761) (by decide +kernel)⟩
abbrev qJ_isLatin1 : MD := (yJ0_isLatin1_aae02, cJ0_isLatin1_aae02, 1, (some .boolean))
theorem mk_J_isLatin1 : MOk qJ_isLatin1 0 := ⟨List.mem_of_getElem? (i := 772) (by decide +kernel), List.mem_of_getElem? (i := 112) (by decide +kernel), by decide, ⟨by decide, by decide⟩, by decide +kernel, by decide⟩
theorem mv_J_isLatin1 : MV qJ_isLatin1 := ⟨List.mem_of_getElem? (i := 770) (by decide +kernel), List.mem_of_getElem? (i := 771) (by decide +kernel)⟩
abbrev qJ_chk : MD := (yJ0_checkIndex_df160, cJ0_checkIndex_df160, 2, none)
theorem mk_J_chk : MOk qJ_chk 2 := ⟨List.mem_of_getElem? (i := 778) (by decide +kernel), List.mem_of_getElem? (i := 112) (by decide +kernel), by decide, ⟨by decide, by decide⟩, by decide +kernel, by decide⟩
theorem mv_J_chk : MS qJ_chk := List.mem_of_getElem? (i := 777) (by decide +kernel)
abbrev qJ_lat : MD := (yJ1_charAt_3b067, cJ1_charAt_3b067, 2, (some .char))
theorem mk_J_lat : MOk qJ_lat 2 := ⟨List.mem_of_getElem? (i := 775) (by decide +kernel), List.mem_of_getElem? (i := 113) (by decide +kernel), by decide, ⟨by decide, by decide⟩, by decide +kernel, by decide⟩
theorem mv_J_lat : MS qJ_lat := List.mem_of_getElem? (i := 774) (by decide +kernel)
abbrev qJ_chk3 : MD := (yJ3_checkIndex_8e157, cJ3_checkIndex_8e157, 3, (some .int))
theorem mk_J_chk3 : MOk qJ_chk3 3 := ⟨List.mem_of_getElem? (i := 783) (by decide +kernel), List.mem_of_getElem? (i := 114) (by decide +kernel), by decide, ⟨by decide, by decide⟩, by decide +kernel, by decide⟩
theorem mv_J_chk3 : MS qJ_chk3 := List.mem_of_getElem? (i := 782) (by decide +kernel)
theorem wS_38 : Cond.fieldLink RJ0 38 "java/lang/String" "COMPACT_STRINGS" "Z" ∈ lw_tbl := List.mem_of_getElem? (i := 763) (by decide +kernel)
theorem wS_15 : Cond.fieldLink RJ0 15 "java/lang/String" "coder" "B" ∈ lw_tbl := List.mem_of_getElem? (i := 2029) (by decide +kernel)
theorem wS_9 : Cond.fieldLink RJ0 9 "java/lang/String" "value" "[B" ∈ lw_tbl := List.mem_of_getElem? (i := 2028) (by decide +kernel)
theorem wS_1053 : Cond.fieldLink RJ0 1053 "jdk/internal/util/Preconditions" "SIOOBE_FORMATTER" "Ljava/util/function/BiFunction;" ∈ lw_tbl := List.mem_of_getElem? (i := 779) (by decide +kernel)
theorem wm_335 : LkM RJ0 335 yJ0_coder_7d493 := Or.inl (List.mem_of_getElem? (i := 759) (by decide +kernel))
theorem wm_492 : LkM RJ0 492 yJ0_isLatin1_aae02 := Or.inl (List.mem_of_getElem? (i := 769) (by decide +kernel))
theorem wm_495 : LkM RJ0 495 yJ1_charAt_3b067 := Or.inl (List.mem_of_getElem? (i := 773) (by decide +kernel))
theorem wm_9 : LkM RJ1 9 yJ0_checkIndex_df160 := Or.inl (List.mem_of_getElem? (i := 776) (by decide +kernel))
theorem wm_1059 : LkM RJ0 1059 yJ3_checkIndex_8e157 := Or.inl (List.mem_of_getElem? (i := 781) (by decide +kernel))
theorem txl_d {R : Type} {r : R} {n : Nat} {x : Option R} {F : Prop} (h : (if n < 100 then x else none) = some r) (k : n < 100 → x = some r → F) : n < 100 ∧ F := by
  split at h
  · next h1 => exact ⟨h1, k h1 h⟩
  · exact nomatch h
theorem sdF {Z : ZT} {pc : Nat} : Sd Z (fun _ _ _ _ _ => False) pc := fun _ _ _ _ _ h => h.elim
def f_J_length (n : Nat) (M : Mm) : Option (Int32 × Mm) := some (Int32.ofNat (txB n).length, M)
def f_J_charAt (n : Nat) (i : Int32) (M : Mm) : Option (Int32 × Mm) := ck i (txB n).length (some ((txB n).getD i.toNatClampNeg 0, M))
theorem txB_big {n : Nat} (h : ¬ n < 22) : txB n = [] := by
  unfold txB
  rw [List.getD_eq_getElem?_getD, List.getElem?_eq_none (by rw [strT_len]; omega)]
  rfl
theorem txB_all (p : Int32 → Bool) (h : ((List.range 22).all (fun n => (txB n).all p)) = true) {n : Nat} {v : Int32} (hv : v ∈ txB n) : p v = true := by
  by_cases hn : n < 22
  · exact List.all_eq_true.mp (List.all_eq_true.mp h n (List.mem_range.mpr hn)) v hv
  · rw [txB_big hn] at hv; exact absurd hv List.not_mem_nil
theorem txB_ch {n : Nat} {v : Int32} (hv : v ∈ txB n) : ((v &&& 255).toUInt32 % 65536).toInt32 = v :=
  of_decide_eq_true (txB_all (fun v => decide (((v &&& 255).toUInt32 % 65536).toInt32 = v)) (by decide +kernel) hv)
theorem txB_nr {n : Nat} {v : Int32} (hv : v ∈ txB n) : narrow .char (.int v) = .int v := by
  have := txB_all (fun v => match narrow .char (.int v) with | .int w => decide (w = v) | _ => false) (by decide +kernel) hv
  revert this
  cases e : narrow .char (.int v) <;> intro h <;> first | (rw [of_decide_eq_true h]) | cases h
theorem txB_ln (n : Nat) : Int32.ofNat (txB n).length >>> ((0 : Int32) &&& 31) = Int32.ofNat (txB n).length := by
  by_cases hn : n < 22
  · exact of_decide_eq_true (List.all_eq_true.mp (show ((List.range 22).all (fun n => decide (Int32.ofNat (txB n).length >>> ((0 : Int32) &&& 31) = Int32.ofNat (txB n).length))) = true by decide +kernel) n (List.mem_range.mpr hn))
  · rw [txB_big hn]; decide
theorem txB_lt {n : Nat} {i : Int32} (h : vp_in i (txB n).length) : ¬ i < 0 ∧ i < Int32.ofNat (txB n).length := by
  have h0 : ¬ i < 0 := fun q => h (Or.inl q)
  have h1 : i.toNatClampNeg < (txB n).length := Nat.not_le.mp fun q => h (Or.inr q)
  have hl : (txB n).length ≤ 40 := by
    by_cases hn : n < 22
    · exact of_decide_eq_true (List.all_eq_true.mp (show ((List.range 22).all (fun n => decide ((txB n).length ≤ 40))) = true by decide +kernel) n (List.mem_range.mpr hn))
    · rw [txB_big hn]; decide
  refine ⟨h0, Int32.lt_iff_toInt_lt.mpr ?_⟩
  have e1 : (Int32.ofNat (txB n).length).toInt = ((txB n).length : Int) := Int32.toInt_ofNat_of_lt (by omega)
  have e2 : i.toInt = (i.toNatClampNeg : Int) := by
    have h3 : ¬ i.toInt < 0 := fun q => h0 (Int32.lt_iff_toInt_lt.mpr (by rw [show (0 : Int32).toInt = 0 from rfl]; exact q))
    show i.toInt = (i.toInt.toNat : Int)
    omega
  rw [e1, e2]
  exact Int.ofNat_lt.mpr h1
theorem txB_mem {n : Nat} {i : Int32} (h : vp_in i (txB n).length) : (txB n).getD i.toNatClampNeg 0 ∈ txB n := by
  have h1 : i.toNatClampNeg < (txB n).length := Nat.not_le.mp fun q => h (Or.inr q)
  rw [List.getD_eq_getElem?_getD, List.getElem?_eq_getElem h1]
  exact List.getElem_mem h1
theorem c_J_coder {G : GT} {d a n : Nat} {M : Mm} (hn : n < 100) : CT G none d 0 0 qJ_coder [vR a 30 n] M (Qi fun z M' => z = 0 ∧ M' = M) := by
  refine CT.of mk_J_coder (lgA rfl) (Nat.le_of_ble_eq_true rfl) (fun Z C hml hin hz => ?_)
  show Wm Z 0 [some (vR a 30 n)] [] M 0 0
  have h : ((1 : Int32) = 0 → False) ∧ (¬ (1 : Int32) = 0 → (n < 100 ∧ (narrow .byte (.int 0) = .int 0 ∧ ((0 : Int32) = 0 ∧ M = M)))) := ⟨by decide, fun _ => ⟨hn, rfl, rfl, rfl⟩⟩
  exact (s_gets1 C dJ0_coder_7d493_0 wS_38 (s_if_eq C dJ0_coder_7d493_3 (by decide) (sdF (pc := 13)) (s_aload_n (i := 0) C dJ0_coder_7d493_6 rfl (s_tcod C dJ0_coder_7d493_7 wS_15 (s_goto C dJ0_coder_7d493_10 (by decide) (s_nret C dJ0_coder_7d493_14)))))) _ _ _ _ _ h
theorem c_J_isLatin1 {G : GT} {d a n : Nat} {M : Mm} (hn : n < 100) : CT G none d 0 0 qJ_isLatin1 [vR a 30 n] M (Qi fun z M' => z = 1 ∧ M' = M) := by
  refine CT.of mk_J_isLatin1 (lgA rfl) (Nat.le_of_ble_eq_true rfl) (fun Z C hml hin hz => ?_)
  show Wm Z 0 [some (vR a 30 n)] [] M 0 0
  have h : ((1 : Int32) = 0 → False) ∧ (¬ (1 : Int32) = 0 → (n < 100 ∧ (((0 : Int32) = 0 → (((1 : Int32) = 0 ∨ (1 : Int32) = 1) ∧ ((1 : Int32) = 1 ∧ M = M))) ∧ (¬ (0 : Int32) = 0 → False)))) := ⟨by decide, fun _ => ⟨hn, fun _ => ⟨Or.inr rfl, rfl, rfl⟩, fun q => q rfl⟩⟩
  exact (s_gets1 C dJ0_isLatin1_aae02_0 wS_38 (s_if_eq C dJ0_isLatin1_aae02_3 (by decide) (sdF (pc := 17)) (s_aload_n (i := 0) C dJ0_isLatin1_aae02_6 rfl (s_tcod C dJ0_isLatin1_aae02_7 wS_15 (s_if_ne C dJ0_isLatin1_aae02_10 (by decide) (sdF (pc := 17)) (s_iconst (v := 1) C dJ0_isLatin1_aae02_13 (by decide) (s_goto C dJ0_isLatin1_aae02_14 (by decide) (s_zret C dJ0_isLatin1_aae02_18)))))))) _ _ _ _ _ h
theorem c_J_chk3 {G : GT} {d : Nat} {i m : Int32} {x : AV} {M : Mm} (hx : isLg (some x) = false) (hi : ¬ i < 0 ∧ i < m) : CT G none d 0 0 qJ_chk3 [vI i, vI m, x] M (Qi fun z M' => M' = M) := by
  refine CT.of mk_J_chk3 (fun v hv => ?_) (Nat.le_of_ble_eq_true rfl) (fun Z C hml hin hz => ?_)
  · rcases List.mem_cons.mp hv with e | e
    · rw [e]; rfl
    · rcases List.mem_cons.mp e with e | e
      · rw [e]; rfl
      · rw [List.mem_singleton.mp e]; exact hx
  show Wm Z 0 [some (vI i), some (vI m), some x] [] M 0 0
  have h : (i < 0 → False) ∧ (¬ i < 0 → ((i < m → M = M) ∧ (¬ i < m → False))) := ⟨hi.1, fun _ => ⟨fun _ => rfl, fun q => q hi.2⟩⟩
  exact (s_iload_n (i := 0) C dJ3_checkIndex_8e157_0 rfl (s_if_lt C dJ3_checkIndex_8e157_1 (by decide) (sdF (pc := 9)) (s_iload_n (i := 0) C dJ3_checkIndex_8e157_4 rfl (s_iload_n (i := 1) C dJ3_checkIndex_8e157_5 rfl (s_icmp_lt C dJ3_checkIndex_8e157_6 (by decide) (s_iload_n (pc := 16) (i := 0) C dJ3_checkIndex_8e157_16 rfl (s_iret C dJ3_checkIndex_8e157_17)) sdF))))) _ _ _ _ _ h
theorem c_J_chk {G : GT} {d : Nat} (hd1 : 1 ≤ d) {i m : Int32} {M : Mm} (hi : ¬ i < 0 ∧ i < m) : CT G none d 0 0 qJ_chk [vI i, vI m] M (Qv fun M' => M' = M) := by
  refine CT.of mk_J_chk (lgA rfl) (Nat.le_of_ble_eq_true rfl) (fun Z C hml hin hz => ?_)
  show Wm Z 0 [some (vI i), some (vI m)] [] M 0 0
  have h : (∃ P : Int32 → Mm → Prop, CT G none (d - 1) 0 0 qJ_chk3 [vI i, vI m, vN] M (Qi P) ∧ ∀ (z : Int32) (M' : Mm), P z M' → M' = M) ∧ ∀ a : Nat, ∃ P : Int32 → Mm → Prop, CT G none (d - 1) 0 0 qJ_chk3 [vI i, vI m, vR a 32 0] M (Qi P) ∧ ∀ (z : Int32) (M' : Mm), P z M' → M' = M :=
    ⟨⟨_, c_J_chk3 rfl hi, fun z M' e => e⟩, fun a => ⟨_, c_J_chk3 rfl hi, fun z M' e => e⟩⟩
  exact (s_iload_n (i := 0) C dJ0_checkIndex_df160_0 rfl (s_iload_n (i := 1) C dJ0_checkIndex_df160_1 rfl (s_getsF C dJ0_checkIndex_df160_2 wS_1053 (s_cSi (n := 3) (mc2 := 0) (ms2 := 0) C dJ0_checkIndex_df160_5 mk_J_chk3 mv_J_chk3 wm_1059 hd1 (s_pop C dJ0_checkIndex_df160_8 (s_ret C dJ0_checkIndex_df160_9)))))) _ _ _ _ _ h
theorem c_J_lat {G : GT} {d : Nat} (hd1 : 2 ≤ d) {b n : Nat} {i : Int32} {M : Mm} (hi : vp_in i (txB n).length) : CT G none d 0 0 qJ_lat [vR b 30 (100 + n), vI i] M (Qi fun z M' => z = (txB n).getD i.toNatClampNeg 0 ∧ M' = M) := by
  refine CT.of mk_J_lat (lgA rfl) (Nat.le_of_ble_eq_true rfl) (fun Z C hml hin hz => ?_)
  show Wm Z 0 [some (vR b 30 (100 + n)), some (vI i)] [] M 0 0
  have e0 : txB (100 + n - 100) = txB n := by rw [Nat.add_sub_cancel_left]
  have h : 100 ≤ 100 + n ∧ ∃ P : Mm → Prop, CT G none (d - 1) 0 0 qJ_chk [vI i, vI (Int32.ofNat (txB (100 + n - 100)).length)] M (Qv P) ∧ ∀ M' : Mm, P M' → (100 ≤ 100 + n ∧ vp_in i (txB (100 + n - 100)).length ∧ (narrow .char (.int ((((txB (100 + n - 100)).getD i.toNatClampNeg 0) &&& 255).toUInt32 % 65536).toInt32) = .int ((((txB (100 + n - 100)).getD i.toNatClampNeg 0) &&& 255).toUInt32 % 65536).toInt32 ∧ (((((txB (100 + n - 100)).getD i.toNatClampNeg 0) &&& 255).toUInt32 % 65536).toInt32 = (txB n).getD i.toNatClampNeg 0 ∧ M' = M))) := by
    rw [e0]
    refine ⟨by omega, _, c_J_chk (by omega) (txB_lt hi), fun M' e => ⟨by omega, hi, ?_, ?_, e⟩⟩
    · rw [txB_ch (txB_mem hi)]; exact txB_nr (txB_mem hi)
    · exact txB_ch (txB_mem hi)
  exact (s_iload_n (i := 1) C dJ1_charAt_3b067_0 rfl (s_aload_n (i := 0) C dJ1_charAt_3b067_1 rfl (s_tlen C dJ1_charAt_3b067_2 (s_cSv (n := 2) (mc2 := 0) (ms2 := 0) C dJ1_charAt_3b067_3 mk_J_chk mv_J_chk wm_9 (by omega) (s_aload_n (i := 0) C dJ1_charAt_3b067_6 rfl (s_iload_n (i := 1) C dJ1_charAt_3b067_7 rfl (s_tbld C dJ1_charAt_3b067_8 (s_sipush (v := 255) C dJ1_charAt_3b067_9 (by decide) (s_iand C dJ1_charAt_3b067_12 (s_i2c C dJ1_charAt_3b067_13 (s_nret C dJ1_charAt_3b067_14))))))))))) _ _ _ _ _ h
theorem c_J_length {G : GT} {d : Nat} (hd1 : 3 ≤ d) {a n : Nat} {M : Mm} {r : Int32 × Mm} (hn : n < 100) (h0 : f_J_length n M = some r) : CT G none d 0 0 qJ_length [vR a 30 n] M (Qi fun z M' => r = (z, M')) := by
  refine CT.of mk_J_length (lgA rfl) (Nat.le_of_ble_eq_true rfl) (fun Z C hml hin hz => ?_)
  show Wm Z 0 [some (vR a 30 n)] [] M 0 0
  have e0 : txB (100 + n - 100) = txB n := by rw [Nat.add_sub_cancel_left]
  have e1 : r = (Int32.ofNat (txB n).length, M) := (Option.some.inj h0).symm
  have h : n < 100 ∧ ∀ b : Nat, (100 ≤ 100 + n ∧ (n < 100 ∧ ∃ P : Int32 → Mm → Prop, CT G none (d - 1) 0 0 qJ_coder [vR a 30 n] M (Qi P) ∧ ∀ (z : Int32) (M' : Mm), P z M' → r = (Int32.ofNat (txB (100 + n - 100)).length >>> (z &&& 31), M'))) := by
    rw [e0]
    refine ⟨hn, fun b => ⟨by omega, hn, _, c_J_coder hn, fun z M' e => ?_⟩⟩
    rw [e.1, e.2, txB_ln, e1]
  exact (s_aload_n (i := 0) C dJ0_length_8abf5_0 rfl (s_tval C dJ0_length_8abf5_1 wS_9 (s_tlen C dJ0_length_8abf5_4 (s_aload_n (i := 0) C dJ0_length_8abf5_5 rfl (s_cT (n := 0) C dJ0_length_8abf5_6 mk_J_coder mv_J_coder wm_335 rfl (by omega) (s_ishr C dJ0_length_8abf5_9 (s_iret C dJ0_length_8abf5_10))))))) _ _ _ _ _ h
theorem c_J_charAt {G : GT} {d : Nat} (hd1 : 6 ≤ d) {a n : Nat} {i : Int32} {M : Mm} {r : Int32 × Mm} (hn : n < 100) (h0 : f_J_charAt n i M = some r) : CT G none d 0 0 qJ_charAt [vR a 30 n, vI i] M (Qi fun z M' => r = (z, M')) := by
  refine CT.of mk_J_charAt (lgA rfl) (Nat.le_of_ble_eq_true rfl) (fun Z C hml hin hz => ?_)
  show Wm Z 0 [some (vR a 30 n), some (vI i)] [] M 0 0
  obtain ⟨hi, e1⟩ := ck_c h0 (fun h => ret_c h)
  have h : n < 100 ∧ ∃ P : Int32 → Mm → Prop, CT G none (d - 1) 0 0 qJ_isLatin1 [vR a 30 n] M (Qi P) ∧ ∀ (z : Int32) (M' : Mm), P z M' → ((z = 0 → False) ∧ (¬ z = 0 → (n < 100 ∧ ∀ b : Nat, (∃ P2 : Int32 → Mm → Prop, CT G none (d - 1) 0 0 qJ_lat [vR b 30 (100 + n), vI i] M' (Qi P2) ∧ ∀ (z2 : Int32) (M2 : Mm), P2 z2 M2 → (narrow .char (.int z2) = .int z2 ∧ r = (z2, M2)))))) := by
    refine ⟨hn, _, c_J_isLatin1 hn, fun z M' e => ⟨fun q => ?_, fun _ => ⟨hn, fun b => ⟨_, c_J_lat (by omega) hi, fun z2 M2 e2 => ⟨?_, ?_⟩⟩⟩⟩⟩
    · rw [e.1] at q; exact absurd q (by decide)
    · rw [e2.1]; exact txB_nr (txB_mem hi)
    · rw [e2.1, e2.2, e.2, e1]
  exact (s_aload_n (i := 0) C dJ0_charAt_5068e_0 rfl (s_cT (n := 0) C dJ0_charAt_5068e_1 mk_J_isLatin1 mv_J_isLatin1 wm_492 rfl (by omega) (s_if_eq C dJ0_charAt_5068e_4 (by decide) (sdF (pc := 16)) (s_aload_n (i := 0) C dJ0_charAt_5068e_7 rfl (s_tval C dJ0_charAt_5068e_8 wS_9 (s_iload_n (i := 1) C dJ0_charAt_5068e_11 rfl (s_cSi (n := 2) (mc2 := 0) (ms2 := 0) C dJ0_charAt_5068e_12 mk_J_lat mv_J_lat wm_495 (by omega) (s_nret C dJ0_charAt_5068e_15)))))))) _ _ _ _ _ h
