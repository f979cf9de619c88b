/-! # functional level, 2: the port and the wall, as tables of numbers -/
abbrev TT : Type := Nat → Nat → Nat
/-- a port: P 0 0 rows, P 0 2 bids, P 0 5 writers; P 1 wide, P 2 act, P 3 letters, P 4 reach, P 5 chalk, P 6 knows, P 7 kin -/
def isP (M : Mm) (p : Nat) (P : TT) : Prop := (gI M p 0 = nI (P 0 0) ∧ gI M p 2 = nI (P 0 2) ∧ gI M p 5 = nI (P 0 5)) ∧ (∀ k, k < P 0 0 → gI M (p + 1) k = nI (P 1 k)) ∧ (∀ k, k < P 0 2 → gI M (p + 2) k = nI (P 2 k) ∧ gI M (p + 3) k = nI (P 3 k)) ∧ (∀ k, k < P 0 5 → gI M (p + 4) k = nI (P 4 k) ∧ gI M (p + 5) k = nI (P 5 k) ∧ gI M (p + 6) k = nI (P 6 k)) ∧ (∀ k, k < 10 → gI M (p + 7) k = nI (P 7 k))
/-- the model's -/
def isQ (M : Mm) (m : Nat) (P : TT) : Prop := (gI M (m + 4) 0 = nI (P 0 0) ∧ gI M (m + 4) 1 = nI (P 0 2) ∧ gI M (m + 4) 2 = nI (P 0 5)) ∧ (∀ k, k < P 0 0 → gI M (m + 6) k = nI (P 1 k)) ∧ (∀ k, k < P 0 2 → gI M (m + 20 + 1 + k) 0 = nI (P 2 k) ∧ gI M (m + 20 + 1 + k) 1 = nI (P 3 k)) ∧ (∀ k, k < P 0 5 → gI M (m + 36 + 1 + k) 0 = nI (P 4 k) ∧ gI M (m + 36 + 1 + k) 1 = nI (P 5 k) ∧ gI M (m + 10) k = nI (P 6 k)) ∧ (∀ k, k < 10 → gI M (m + 8) k = nI (P 7 k))
def okP (P : TT) : Prop := (P 0 0 ≤ 4 ∧ P 0 2 ≤ 8 ∧ P 0 5 ≤ 6) ∧ (∀ k, k < P 0 0 → 1 ≤ P 1 k ∧ P 1 k ≤ 30) ∧ (∀ k, k < P 0 2 → P 2 k < 10 ∧ 1 ≤ P 3 k ∧ P 3 k ≤ 15) ∧ (∀ k, k < P 0 5 → P 4 k ≤ 3 ∧ 1 ≤ P 5 k ∧ P 5 k ≤ 60 ∧ P 6 k < 256) ∧ (∀ k, k < 10 → P 7 k < 10 ∨ P 7 k = 4294967295)
/-- a wall: W 0 0 day, W 0 1 written, W 0 2 lines; W 1 bid, W 2 act, W 3 row, W 4 writer of a line; W 5 act, W 6 slips of a bid; W 7 chalk -/
def isW (M : Mm) (o : Nat) (P W : TT) : Prop := (gI M o 0 = nI (W 0 0) ∧ gI M o 1 = nI (W 0 1) ∧ gI M o 2 = nI (W 0 2)) ∧ (∀ k, k < W 0 2 → gI M (o + 1) k = nI (W 1 k) ∧ gI M (o + 2) k = nI (W 2 k) ∧ gI M (o + 3) k = nI (W 3 k) ∧ gI M (o + 4) k = nI (W 4 k)) ∧ (∀ k, k < P 0 2 → gI M (o + 5) k = nI (W 5 k) ∧ gI M (o + 6) k = nI (W 6 k)) ∧ (∀ k, k < P 0 5 → gI M (o + 7) k = nI (W 7 k))
/-- the model's row a -/
def isN (M : Mm) (a : Nat) (P W : TT) : Prop := (gI M a 22 = nI (W 0 0) ∧ gI M a 24 = nI (W 0 1) ∧ gI M a 23 = nI (W 0 2)) ∧ (∀ k, k < W 0 2 → gI M a (25 + 4 * k) = nI (W 1 k) ∧ gI M a (25 + 4 * k + 1) = nI (W 2 k) ∧ gI M a (25 + 4 * k + 2) = nI (W 3 k) ∧ gI M a (25 + 4 * k + 3) = nI (W 4 k)) ∧ (∀ k, k < P 0 2 → gI M a k = nI (W 5 k) ∧ gI M a (8 + k) = nI (W 6 k)) ∧ (∀ k, k < P 0 5 → gI M a (16 + k) = nI (W 7 k))
/-- letters on a row -/
def ltr (P W : TT) (r : Nat) : Nat := sm (W 0 2) (fun k => if W 3 k = r then P 3 (W 1 k) else 0)
def okW (P W : TT) : Prop := W 0 2 ≤ 20 ∧ (∀ k, k < W 0 2 → W 1 k < P 0 2 ∧ W 2 k < 10 ∧ W 3 k < P 0 0 ∧ W 4 k < P 0 5) ∧ (∀ k, k < P 0 2 → W 5 k < 10) ∧ (∀ k, k < P 0 5 → W 7 k ≤ 60) ∧ (∀ r, r < P 0 0 → ltr P W r ≤ P 1 r)
section
variable {M : Mm} {p m o a k : Nat} {P W : TT}
theorem isP.r (h : isP M p P) : gI M p 0 = nI (P 0 0) := h.1.1
theorem isP.b (h : isP M p P) : gI M p 2 = nI (P 0 2) := h.1.2.1
theorem isP.w (h : isP M p P) : gI M p 5 = nI (P 0 5) := h.1.2.2
theorem isP.wide (h : isP M p P) (hk : k < P 0 0) : gI M (p + 1) k = nI (P 1 k) := h.2.1 k hk
theorem isP.act (h : isP M p P) (hk : k < P 0 2) : gI M (p + 2) k = nI (P 2 k) := (h.2.2.1 k hk).1
theorem isP.len (h : isP M p P) (hk : k < P 0 2) : gI M (p + 3) k = nI (P 3 k) := (h.2.2.1 k hk).2
theorem isP.rch (h : isP M p P) (hk : k < P 0 5) : gI M (p + 4) k = nI (P 4 k) := (h.2.2.2.1 k hk).1
theorem isP.chk (h : isP M p P) (hk : k < P 0 5) : gI M (p + 5) k = nI (P 5 k) := (h.2.2.2.1 k hk).2.1
theorem isP.kn (h : isP M p P) (hk : k < P 0 5) : gI M (p + 6) k = nI (P 6 k) := (h.2.2.2.1 k hk).2.2
theorem isP.kin (h : isP M p P) (hk : k < 10) : gI M (p + 7) k = nI (P 7 k) := h.2.2.2.2 k hk
theorem isQ.r (h : isQ M m P) : gI M (m + 4) 0 = nI (P 0 0) := h.1.1
theorem isQ.b (h : isQ M m P) : gI M (m + 4) 1 = nI (P 0 2) := h.1.2.1
theorem isQ.w (h : isQ M m P) : gI M (m + 4) 2 = nI (P 0 5) := h.1.2.2
theorem isQ.wide (h : isQ M m P) (hk : k < P 0 0) : gI M (m + 6) k = nI (P 1 k) := h.2.1 k hk
theorem isQ.act (h : isQ M m P) (hk : k < P 0 2) : gI M (m + 20 + 1 + k) 0 = nI (P 2 k) := (h.2.2.1 k hk).1
theorem isQ.len (h : isQ M m P) (hk : k < P 0 2) : gI M (m + 20 + 1 + k) 1 = nI (P 3 k) := (h.2.2.1 k hk).2
theorem isQ.rch (h : isQ M m P) (hk : k < P 0 5) : gI M (m + 36 + 1 + k) 0 = nI (P 4 k) := (h.2.2.2.1 k hk).1
theorem isQ.chk (h : isQ M m P) (hk : k < P 0 5) : gI M (m + 36 + 1 + k) 1 = nI (P 5 k) := (h.2.2.2.1 k hk).2.1
theorem isQ.kn (h : isQ M m P) (hk : k < P 0 5) : gI M (m + 10) k = nI (P 6 k) := (h.2.2.2.1 k hk).2.2
theorem isQ.kin (h : isQ M m P) (hk : k < 10) : gI M (m + 8) k = nI (P 7 k) := h.2.2.2.2 k hk
theorem isW.d0 (h : isW M o P W) : gI M o 0 = nI (W 0 0) := h.1.1
theorem isW.d1 (h : isW M o P W) : gI M o 1 = nI (W 0 1) := h.1.2.1
theorem isW.l (h : isW M o P W) : gI M o 2 = nI (W 0 2) := h.1.2.2
theorem isW.b (h : isW M o P W) (hk : k < W 0 2) : gI M (o + 1) k = nI (W 1 k) := (h.2.1 k hk).1
theorem isW.ac (h : isW M o P W) (hk : k < W 0 2) : gI M (o + 2) k = nI (W 2 k) := (h.2.1 k hk).2.1
theorem isW.r (h : isW M o P W) (hk : k < W 0 2) : gI M (o + 3) k = nI (W 3 k) := (h.2.1 k hk).2.2.1
theorem isW.w (h : isW M o P W) (hk : k < W 0 2) : gI M (o + 4) k = nI (W 4 k) := (h.2.1 k hk).2.2.2
theorem isW.me (h : isW M o P W) (hk : k < P 0 2) : gI M (o + 5) k = nI (W 5 k) := (h.2.2.1 k hk).1
theorem isW.s (h : isW M o P W) (hk : k < P 0 2) : gI M (o + 6) k = nI (W 6 k) := (h.2.2.1 k hk).2
theorem isW.c (h : isW M o P W) (hk : k < P 0 5) : gI M (o + 7) k = nI (W 7 k) := h.2.2.2 k hk
theorem isN.d0 (h : isN M a P W) : gI M a 22 = nI (W 0 0) := h.1.1
theorem isN.d1 (h : isN M a P W) : gI M a 24 = nI (W 0 1) := h.1.2.1
theorem isN.l (h : isN M a P W) : gI M a 23 = nI (W 0 2) := h.1.2.2
theorem isN.b (h : isN M a P W) (hk : k < W 0 2) : gI M a (25 + 4 * k) = nI (W 1 k) := (h.2.1 k hk).1
theorem isN.ac (h : isN M a P W) (hk : k < W 0 2) : gI M a (25 + 4 * k + 1) = nI (W 2 k) := (h.2.1 k hk).2.1
theorem isN.r (h : isN M a P W) (hk : k < W 0 2) : gI M a (25 + 4 * k + 2) = nI (W 3 k) := (h.2.1 k hk).2.2.1
theorem isN.w (h : isN M a P W) (hk : k < W 0 2) : gI M a (25 + 4 * k + 3) = nI (W 4 k) := (h.2.1 k hk).2.2.2
theorem isN.me (h : isN M a P W) (hk : k < P 0 2) : gI M a k = nI (W 5 k) := (h.2.2.1 k hk).1
theorem isN.s (h : isN M a P W) (hk : k < P 0 2) : gI M a (8 + k) = nI (W 6 k) := (h.2.2.1 k hk).2
theorem isN.c (h : isN M a P W) (hk : k < P 0 5) : gI M a (16 + k) = nI (W 7 k) := h.2.2.2 k hk
theorem okP.r (h : okP P) : P 0 0 ≤ 4 := h.1.1
theorem okP.b (h : okP P) : P 0 2 ≤ 8 := h.1.2.1
theorem okP.w (h : okP P) : P 0 5 ≤ 6 := h.1.2.2
theorem okP.wide (h : okP P) (hk : k < P 0 0) : 1 ≤ P 1 k ∧ P 1 k ≤ 30 := h.2.1 k hk
theorem okP.act (h : okP P) (hk : k < P 0 2) : P 2 k < 10 := (h.2.2.1 k hk).1
theorem okP.len (h : okP P) (hk : k < P 0 2) : 1 ≤ P 3 k ∧ P 3 k ≤ 15 := (h.2.2.1 k hk).2
theorem okP.rch (h : okP P) (hk : k < P 0 5) : P 4 k ≤ 3 := (h.2.2.2.1 k hk).1
theorem okP.chk (h : okP P) (hk : k < P 0 5) : 1 ≤ P 5 k ∧ P 5 k ≤ 60 := ⟨(h.2.2.2.1 k hk).2.1, (h.2.2.2.1 k hk).2.2.1⟩
theorem okP.kn (h : okP P) (hk : k < P 0 5) : P 6 k < 256 := (h.2.2.2.1 k hk).2.2.2
theorem okP.kin (h : okP P) (hk : k < 10) : P 7 k < 10 ∨ P 7 k = 4294967295 := h.2.2.2.2 k hk
theorem okW.l (h : okW P W) : W 0 2 ≤ 20 := h.1
theorem okW.b (h : okW P W) (hk : k < W 0 2) : W 1 k < P 0 2 := (h.2.1 k hk).1
theorem okW.ac (h : okW P W) (hk : k < W 0 2) : W 2 k < 10 := (h.2.1 k hk).2.1
theorem okW.r (h : okW P W) (hk : k < W 0 2) : W 3 k < P 0 0 := (h.2.1 k hk).2.2.1
theorem okW.w (h : okW P W) (hk : k < W 0 2) : W 4 k < P 0 5 := (h.2.1 k hk).2.2.2
theorem okW.me (h : okW P W) (hk : k < P 0 2) : W 5 k < 10 := h.2.2.1 k hk
theorem okW.c (h : okW P W) (hk : k < P 0 5) : W 7 k ≤ 60 := h.2.2.2.1 k hk
theorem okW.room (h : okW P W) {r : Nat} (hk : r < P 0 0) : ltr P W r ≤ P 1 r := h.2.2.2.2 r hk
end
