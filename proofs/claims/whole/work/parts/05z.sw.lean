/-! # switches -/
theorem tswc {Z : ZT} {φ : Fm} {pc : Nat} {lo hi : Int} {offs : Array Int} (k : Int32) (off : Int) (tgt : Nat) (h : (decide (¬ k.toInt < lo) && decide (¬ hi < k.toInt) && decide (offs[(k.toInt - lo).toNat]? = some off) && decide ((pc : Int) + off = (tgt : Int))) = true) (s : Sd Z φ tgt) :
    ∃ (off : Int) (tgt : Nat), ¬ (k, φ).1.toInt < lo ∧ ¬ hi < (k, φ).1.toInt ∧ offs[((k, φ).1.toInt - lo).toNat]? = some off ∧ (pc : Int) + off = (tgt : Int) ∧ Sd Z (k, φ).2 tgt := by
  simp only [Bool.and_eq_true, decide_eq_true_eq] at h
  exact ⟨off, tgt, h.1.1.1, h.1.1.2, h.1.2, h.2, s⟩
theorem lswc {Z : ZT} {φ : Fm} {pc : Nat} {ps : Array (Int × Int)} {df : Int} (k : Int32) (off : Int) (tgt : Nat) (h : (decide (Op.lookupswitch.offset ps.toList df k.toInt = off) && decide ((pc : Int) + off = (tgt : Int))) = true) (s : Sd Z φ tgt) :
    ∃ (off : Int) (tgt : Nat), Op.lookupswitch.offset ps.toList df (k, φ).1.toInt = off ∧ (pc : Int) + off = (tgt : Int) ∧ Sd Z (k, φ).2 tgt := by
  simp only [Bool.and_eq_true, decide_eq_true_eq] at h
  exact ⟨off, tgt, h.1, h.2, s⟩
