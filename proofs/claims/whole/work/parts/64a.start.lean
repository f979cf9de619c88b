/-! # the start, 1: the texts (wip/gen/mk64.py) -/
def st_X (t : String × Nat × String × List Int32) (q : Nat × Nat) (A : Nat → Prop) (s : State) : Prop := vk_R t.1 t.2.1 t.2.2.1 q.1 s ∧ va_O "java/lang/String" q.1 A s s.heap ∧ va_OF "java/lang/String" "coder" "B" (.int 0) q.1 A s s.heap ∧ va_OF "java/lang/String" "value" "[B" (.ref q.2) q.1 A s s.heap ∧ va_T .byte q.2 t.2.2.2.length (fun j => .int (t.2.2.2.getD j 0)) A s s.heap
theorem st_txt {args : Array Value} {s : State} {A : Nat → Prop} (hA : ∀ a : Nat, a < s.heap.size → ¬ A a) {own tx : String} {k : Nat} {bs : List Int32} (hn : bs.length < 2 ^ 31) (h1 : (Cond.stringRef own k tx).before args s = true)
    (h2 : (Cond.exactly (.string own k) "java/lang/String").before args s = true) (h3 : (Cond.eq (.field (.string own k) "java/lang/String" "coder" "B") (.int 0)).before args s = true) (h4 : (Cond.arrayOf (.field (.string own k) "java/lang/String" "value" "[B") .byte).before args s = true)
    (h5 : (Cond.eq (.length (.field (.string own k) "java/lang/String" "value" "[B")) (.int (Int32.ofNat bs.length))).before args s = true) (h6 : ∀ j : Nat, j < bs.length → (Cond.eq (.elem (.field (.string own k) "java/lang/String" "value" "[B") (.int (Int32.ofNat j))) (.int (bs.getD j 0))).before args s = true) : ∃ q : Nat × Nat, st_X (own, k, tx, bs) q A s := by
  obtain ⟨a, c, cA, kA, q1, q2, q3, q4, q5, q6, -⟩ := Cond.exactly_spec (args := args) (first := s) (o := none) (s := s) (idx := []) (t := .string own k) (cls := "java/lang/String") h2
  obtain ⟨t, ht, hT⟩ := va_Tof (f := fun j => .int (bs.getD j 0)) (A := A) hn h4 (va_eqt h5) (fun j hj => va_eqt (h6 j hj)) hA
  exact ⟨(a, t), vk_R.of h1 q1, ⟨cA, q3, q5, by rw [q6]; exact q2, hA a (Array.getElem?_eq_some_iff.mp q3).1⟩, vk_OFof q1 (va_eqt h3) hA, vk_OFof q1 ht hA, hT⟩
theorem st_t0 {args : Array Value} {s : State} {A : Nat → Prop} (hA : ∀ a : Nat, a < s.heap.size → ¬ A a) (hs : ∀ c ∈ flatC (Jvm.Cond.and given_1 narrow_1), c.before args s = true) (hts : ∀ w ∈ lw_tbl, w.before args s = true) : ∃ q : Nat × Nat, st_X ("ChalkWall", 394, "no such row, bid, writer or line", [110, 111, 32, 115, 117, 99, 104, 32, 114, 111, 119, 44, 32, 98, 105, 100, 44, 32, 119, 114, 105, 116, 101, 114, 32, 111, 114, 32, 108, 105, 110, 101]) q A s :=
  st_txt hA (by decide) (hts _ (List.mem_of_getElem? (i := 1099) (by decide +kernel))) (hs _ (List.mem_of_getElem? (i := 478) (by decide +kernel))) (hs _ (List.mem_of_getElem? (i := 479) (by decide +kernel))) (hs _ (List.mem_of_getElem? (i := 480) (by decide +kernel))) (hs _ (List.mem_of_getElem? (i := 481) (by decide +kernel))) (fun j hj => match j, hj with
    | 0, _ => hs _ (List.mem_of_getElem? (i := 482) (by decide +kernel))
    | 1, _ => hs _ (List.mem_of_getElem? (i := 483) (by decide +kernel))
    | 2, _ => hs _ (List.mem_of_getElem? (i := 484) (by decide +kernel))
    | 3, _ => hs _ (List.mem_of_getElem? (i := 485) (by decide +kernel))
    | 4, _ => hs _ (List.mem_of_getElem? (i := 486) (by decide +kernel))
    | 5, _ => hs _ (List.mem_of_getElem? (i := 487) (by decide +kernel))
    | 6, _ => hs _ (List.mem_of_getElem? (i := 488) (by decide +kernel))
    | 7, _ => hs _ (List.mem_of_getElem? (i := 489) (by decide +kernel))
    | 8, _ => hs _ (List.mem_of_getElem? (i := 490) (by decide +kernel))
    | 9, _ => hs _ (List.mem_of_getElem? (i := 491) (by decide +kernel))
    | 10, _ => hs _ (List.mem_of_getElem? (i := 492) (by decide +kernel))
    | 11, _ => hs _ (List.mem_of_getElem? (i := 493) (by decide +kernel))
    | 12, _ => hs _ (List.mem_of_getElem? (i := 494) (by decide +kernel))
    | 13, _ => hs _ (List.mem_of_getElem? (i := 495) (by decide +kernel))
    | 14, _ => hs _ (List.mem_of_getElem? (i := 496) (by decide +kernel))
    | 15, _ => hs _ (List.mem_of_getElem? (i := 497) (by decide +kernel))
    | 16, _ => hs _ (List.mem_of_getElem? (i := 498) (by decide +kernel))
    | 17, _ => hs _ (List.mem_of_getElem? (i := 499) (by decide +kernel))
    | 18, _ => hs _ (List.mem_of_getElem? (i := 500) (by decide +kernel))
    | 19, _ => hs _ (List.mem_of_getElem? (i := 501) (by decide +kernel))
    | 20, _ => hs _ (List.mem_of_getElem? (i := 502) (by decide +kernel))
    | 21, _ => hs _ (List.mem_of_getElem? (i := 503) (by decide +kernel))
    | 22, _ => hs _ (List.mem_of_getElem? (i := 504) (by decide +kernel))
    | 23, _ => hs _ (List.mem_of_getElem? (i := 505) (by decide +kernel))
    | 24, _ => hs _ (List.mem_of_getElem? (i := 506) (by decide +kernel))
    | 25, _ => hs _ (List.mem_of_getElem? (i := 507) (by decide +kernel))
    | 26, _ => hs _ (List.mem_of_getElem? (i := 508) (by decide +kernel))
    | 27, _ => hs _ (List.mem_of_getElem? (i := 509) (by decide +kernel))
    | 28, _ => hs _ (List.mem_of_getElem? (i := 510) (by decide +kernel))
    | 29, _ => hs _ (List.mem_of_getElem? (i := 511) (by decide +kernel))
    | 30, _ => hs _ (List.mem_of_getElem? (i := 512) (by decide +kernel))
    | 31, _ => hs _ (List.mem_of_getElem? (i := 513) (by decide +kernel))
    | n + 32, h => absurd h (by show ¬ n + 32 < 32; omega))
theorem st_t1 {args : Array Value} {s : State} {A : Nat → Prop} (hA : ∀ a : Nat, a < s.heap.size → ¬ A a) (hs : ∀ c ∈ flatC (Jvm.Cond.and given_1 narrow_1), c.before args s = true) (hts : ∀ w ∈ lw_tbl, w.before args s = true) : ∃ q : Nat × Nat, st_X ("ChalkWall", 401, "a number that is none such", [97, 32, 110, 117, 109, 98, 101, 114, 32, 116, 104, 97, 116, 32, 105, 115, 32, 110, 111, 110, 101, 32, 115, 117, 99, 104]) q A s :=
  st_txt hA (by decide) (hts _ (List.mem_of_getElem? (i := 693) (by decide +kernel))) (hs _ (List.mem_of_getElem? (i := 71) (by decide +kernel))) (hs _ (List.mem_of_getElem? (i := 72) (by decide +kernel))) (hs _ (List.mem_of_getElem? (i := 73) (by decide +kernel))) (hs _ (List.mem_of_getElem? (i := 74) (by decide +kernel))) (fun j hj => match j, hj with
    | 0, _ => hs _ (List.mem_of_getElem? (i := 75) (by decide +kernel))
    | 1, _ => hs _ (List.mem_of_getElem? (i := 76) (by decide +kernel))
    | 2, _ => hs _ (List.mem_of_getElem? (i := 77) (by decide +kernel))
    | 3, _ => hs _ (List.mem_of_getElem? (i := 78) (by decide +kernel))
    | 4, _ => hs _ (List.mem_of_getElem? (i := 79) (by decide +kernel))
    | 5, _ => hs _ (List.mem_of_getElem? (i := 80) (by decide +kernel))
    | 6, _ => hs _ (List.mem_of_getElem? (i := 81) (by decide +kernel))
    | 7, _ => hs _ (List.mem_of_getElem? (i := 82) (by decide +kernel))
    | 8, _ => hs _ (List.mem_of_getElem? (i := 83) (by decide +kernel))
    | 9, _ => hs _ (List.mem_of_getElem? (i := 84) (by decide +kernel))
    | 10, _ => hs _ (List.mem_of_getElem? (i := 85) (by decide +kernel))
    | 11, _ => hs _ (List.mem_of_getElem? (i := 86) (by decide +kernel))
    | 12, _ => hs _ (List.mem_of_getElem? (i := 87) (by decide +kernel))
    | 13, _ => hs _ (List.mem_of_getElem? (i := 88) (by decide +kernel))
    | 14, _ => hs _ (List.mem_of_getElem? (i := 89) (by decide +kernel))
    | 15, _ => hs _ (List.mem_of_getElem? (i := 90) (by decide +kernel))
    | 16, _ => hs _ (List.mem_of_getElem? (i := 91) (by decide +kernel))
    | 17, _ => hs _ (List.mem_of_getElem? (i := 92) (by decide +kernel))
    | 18, _ => hs _ (List.mem_of_getElem? (i := 93) (by decide +kernel))
    | 19, _ => hs _ (List.mem_of_getElem? (i := 94) (by decide +kernel))
    | 20, _ => hs _ (List.mem_of_getElem? (i := 95) (by decide +kernel))
    | 21, _ => hs _ (List.mem_of_getElem? (i := 96) (by decide +kernel))
    | 22, _ => hs _ (List.mem_of_getElem? (i := 97) (by decide +kernel))
    | 23, _ => hs _ (List.mem_of_getElem? (i := 98) (by decide +kernel))
    | 24, _ => hs _ (List.mem_of_getElem? (i := 99) (by decide +kernel))
    | 25, _ => hs _ (List.mem_of_getElem? (i := 100) (by decide +kernel))
    | n + 26, h => absurd h (by show ¬ n + 26 < 26; omega))
theorem st_t2 {args : Array Value} {s : State} {A : Nat → Prop} (hA : ∀ a : Nat, a < s.heap.size → ¬ A a) (hs : ∀ c ∈ flatC (Jvm.Cond.and given_1 narrow_1), c.before args s = true) (hts : ∀ w ∈ lw_tbl, w.before args s = true) : ∃ q : Nat × Nat, st_X ("ChalkWall$Law", 72, "least", [108, 101, 97, 115, 116]) q A s :=
  st_txt hA (by decide) (hts _ (List.mem_of_getElem? (i := 920) (by decide +kernel))) (hs _ (List.mem_of_getElem? (i := 299) (by decide +kernel))) (hs _ (List.mem_of_getElem? (i := 300) (by decide +kernel))) (hs _ (List.mem_of_getElem? (i := 301) (by decide +kernel))) (hs _ (List.mem_of_getElem? (i := 302) (by decide +kernel))) (fun j hj => match j, hj with
    | 0, _ => hs _ (List.mem_of_getElem? (i := 303) (by decide +kernel))
    | 1, _ => hs _ (List.mem_of_getElem? (i := 304) (by decide +kernel))
    | 2, _ => hs _ (List.mem_of_getElem? (i := 305) (by decide +kernel))
    | 3, _ => hs _ (List.mem_of_getElem? (i := 306) (by decide +kernel))
    | 4, _ => hs _ (List.mem_of_getElem? (i := 307) (by decide +kernel))
    | n + 5, h => absurd h (by show ¬ n + 5 < 5; omega))
theorem st_t3 {args : Array Value} {s : State} {A : Nat → Prop} (hA : ∀ a : Nat, a < s.heap.size → ¬ A a) (hs : ∀ c ∈ flatC (Jvm.Cond.and given_1 narrow_1), c.before args s = true) (hts : ∀ w ∈ lw_tbl, w.before args s = true) : ∃ q : Nat × Nat, st_X ("ChalkWall$Law", 78, "most", [109, 111, 115, 116]) q A s :=
  st_txt hA (by decide) (hts _ (List.mem_of_getElem? (i := 921) (by decide +kernel))) (hs _ (List.mem_of_getElem? (i := 322) (by decide +kernel))) (hs _ (List.mem_of_getElem? (i := 323) (by decide +kernel))) (hs _ (List.mem_of_getElem? (i := 324) (by decide +kernel))) (hs _ (List.mem_of_getElem? (i := 325) (by decide +kernel))) (fun j hj => match j, hj with
    | 0, _ => hs _ (List.mem_of_getElem? (i := 326) (by decide +kernel))
    | 1, _ => hs _ (List.mem_of_getElem? (i := 327) (by decide +kernel))
    | 2, _ => hs _ (List.mem_of_getElem? (i := 328) (by decide +kernel))
    | 3, _ => hs _ (List.mem_of_getElem? (i := 329) (by decide +kernel))
    | n + 4, h => absurd h (by show ¬ n + 4 < 4; omega))
theorem st_t4 {args : Array Value} {s : State} {A : Nat → Prop} (hA : ∀ a : Nat, a < s.heap.size → ¬ A a) (hs : ∀ c ∈ flatC (Jvm.Cond.and given_1 narrow_1), c.before args s = true) (hts : ∀ w ∈ lw_tbl, w.before args s = true) : ∃ q : Nat × Nat, st_X ("ChalkWall$Law", 84, "row", [114, 111, 119]) q A s :=
  st_txt hA (by decide) (hts _ (List.mem_of_getElem? (i := 898) (by decide +kernel))) (hs _ (List.mem_of_getElem? (i := 156) (by decide +kernel))) (hs _ (List.mem_of_getElem? (i := 157) (by decide +kernel))) (hs _ (List.mem_of_getElem? (i := 158) (by decide +kernel))) (hs _ (List.mem_of_getElem? (i := 159) (by decide +kernel))) (fun j hj => match j, hj with
    | 0, _ => hs _ (List.mem_of_getElem? (i := 160) (by decide +kernel))
    | 1, _ => hs _ (List.mem_of_getElem? (i := 161) (by decide +kernel))
    | 2, _ => hs _ (List.mem_of_getElem? (i := 162) (by decide +kernel))
    | n + 3, h => absurd h (by show ¬ n + 3 < 3; omega))
theorem st_t5 {args : Array Value} {s : State} {A : Nat → Prop} (hA : ∀ a : Nat, a < s.heap.size → ¬ A a) (hs : ∀ c ∈ flatC (Jvm.Cond.and given_1 narrow_1), c.before args s = true) (hts : ∀ w ∈ lw_tbl, w.before args s = true) : ∃ q : Nat × Nat, st_X ("ChalkWall$Law", 86, "letters", [108, 101, 116, 116, 101, 114, 115]) q A s :=
  st_txt hA (by decide) (hts _ (List.mem_of_getElem? (i := 900) (by decide +kernel))) (hs _ (List.mem_of_getElem? (i := 169) (by decide +kernel))) (hs _ (List.mem_of_getElem? (i := 170) (by decide +kernel))) (hs _ (List.mem_of_getElem? (i := 171) (by decide +kernel))) (hs _ (List.mem_of_getElem? (i := 172) (by decide +kernel))) (fun j hj => match j, hj with
    | 0, _ => hs _ (List.mem_of_getElem? (i := 173) (by decide +kernel))
    | 1, _ => hs _ (List.mem_of_getElem? (i := 174) (by decide +kernel))
    | 2, _ => hs _ (List.mem_of_getElem? (i := 175) (by decide +kernel))
    | 3, _ => hs _ (List.mem_of_getElem? (i := 176) (by decide +kernel))
    | 4, _ => hs _ (List.mem_of_getElem? (i := 177) (by decide +kernel))
    | 5, _ => hs _ (List.mem_of_getElem? (i := 178) (by decide +kernel))
    | 6, _ => hs _ (List.mem_of_getElem? (i := 179) (by decide +kernel))
    | n + 7, h => absurd h (by show ¬ n + 7 < 7; omega))
theorem st_t6 {args : Array Value} {s : State} {A : Nat → Prop} (hA : ∀ a : Nat, a < s.heap.size → ¬ A a) (hs : ∀ c ∈ flatC (Jvm.Cond.and given_1 narrow_1), c.before args s = true) (hts : ∀ w ∈ lw_tbl, w.before args s = true) : ∃ q : Nat × Nat, st_X ("ChalkWall$Law", 88, "place", [112, 108, 97, 99, 101]) q A s :=
  st_txt hA (by decide) (hts _ (List.mem_of_getElem? (i := 901) (by decide +kernel))) (hs _ (List.mem_of_getElem? (i := 187) (by decide +kernel))) (hs _ (List.mem_of_getElem? (i := 188) (by decide +kernel))) (hs _ (List.mem_of_getElem? (i := 189) (by decide +kernel))) (hs _ (List.mem_of_getElem? (i := 190) (by decide +kernel))) (fun j hj => match j, hj with
    | 0, _ => hs _ (List.mem_of_getElem? (i := 191) (by decide +kernel))
    | 1, _ => hs _ (List.mem_of_getElem? (i := 192) (by decide +kernel))
    | 2, _ => hs _ (List.mem_of_getElem? (i := 193) (by decide +kernel))
    | 3, _ => hs _ (List.mem_of_getElem? (i := 194) (by decide +kernel))
    | 4, _ => hs _ (List.mem_of_getElem? (i := 195) (by decide +kernel))
    | n + 5, h => absurd h (by show ¬ n + 5 < 5; omega))
theorem st_t7 {args : Array Value} {s : State} {A : Nat → Prop} (hA : ∀ a : Nat, a < s.heap.size → ¬ A a) (hs : ∀ c ∈ flatC (Jvm.Cond.and given_1 narrow_1), c.before args s = true) (hts : ∀ w ∈ lw_tbl, w.before args s = true) : ∃ q : Nat × Nat, st_X ("ChalkWall$Law", 90, "writer", [119, 114, 105, 116, 101, 114]) q A s :=
  st_txt hA (by decide) (hts _ (List.mem_of_getElem? (i := 902) (by decide +kernel))) (hs _ (List.mem_of_getElem? (i := 204) (by decide +kernel))) (hs _ (List.mem_of_getElem? (i := 205) (by decide +kernel))) (hs _ (List.mem_of_getElem? (i := 206) (by decide +kernel))) (hs _ (List.mem_of_getElem? (i := 207) (by decide +kernel))) (fun j hj => match j, hj with
    | 0, _ => hs _ (List.mem_of_getElem? (i := 208) (by decide +kernel))
    | 1, _ => hs _ (List.mem_of_getElem? (i := 209) (by decide +kernel))
    | 2, _ => hs _ (List.mem_of_getElem? (i := 210) (by decide +kernel))
    | 3, _ => hs _ (List.mem_of_getElem? (i := 211) (by decide +kernel))
    | 4, _ => hs _ (List.mem_of_getElem? (i := 212) (by decide +kernel))
    | 5, _ => hs _ (List.mem_of_getElem? (i := 213) (by decide +kernel))
    | n + 6, h => absurd h (by show ¬ n + 6 < 6; omega))
theorem st_t8 {args : Array Value} {s : State} {A : Nat → Prop} (hA : ∀ a : Nat, a < s.heap.size → ¬ A a) (hs : ∀ c ∈ flatC (Jvm.Cond.and given_1 narrow_1), c.before args s = true) (hts : ∀ w ∈ lw_tbl, w.before args s = true) : ∃ q : Nat × Nat, st_X ("ChalkWall$Law", 92, "act", [97, 99, 116]) q A s :=
  st_txt hA (by decide) (hts _ (List.mem_of_getElem? (i := 903) (by decide +kernel))) (hs _ (List.mem_of_getElem? (i := 223) (by decide +kernel))) (hs _ (List.mem_of_getElem? (i := 224) (by decide +kernel))) (hs _ (List.mem_of_getElem? (i := 225) (by decide +kernel))) (hs _ (List.mem_of_getElem? (i := 226) (by decide +kernel))) (fun j hj => match j, hj with
    | 0, _ => hs _ (List.mem_of_getElem? (i := 227) (by decide +kernel))
    | 1, _ => hs _ (List.mem_of_getElem? (i := 228) (by decide +kernel))
    | 2, _ => hs _ (List.mem_of_getElem? (i := 229) (by decide +kernel))
    | n + 3, h => absurd h (by show ¬ n + 3 < 3; omega))
theorem st_t9 {args : Array Value} {s : State} {A : Nat → Prop} (hA : ∀ a : Nat, a < s.heap.size → ¬ A a) (hs : ∀ c ∈ flatC (Jvm.Cond.and given_1 narrow_1), c.before args s = true) (hts : ∀ w ∈ lw_tbl, w.before args s = true) : ∃ q : Nat × Nat, st_X ("ChalkWall$Law", 94, "day", [100, 97, 121]) q A s :=
  st_txt hA (by decide) (hts _ (List.mem_of_getElem? (i := 904) (by decide +kernel))) (hs _ (List.mem_of_getElem? (i := 240) (by decide +kernel))) (hs _ (List.mem_of_getElem? (i := 241) (by decide +kernel))) (hs _ (List.mem_of_getElem? (i := 242) (by decide +kernel))) (hs _ (List.mem_of_getElem? (i := 243) (by decide +kernel))) (fun j hj => match j, hj with
    | 0, _ => hs _ (List.mem_of_getElem? (i := 244) (by decide +kernel))
    | 1, _ => hs _ (List.mem_of_getElem? (i := 245) (by decide +kernel))
    | 2, _ => hs _ (List.mem_of_getElem? (i := 246) (by decide +kernel))
    | n + 3, h => absurd h (by show ¬ n + 3 < 3; omega))
theorem st_t10 {args : Array Value} {s : State} {A : Nat → Prop} (hA : ∀ a : Nat, a < s.heap.size → ¬ A a) (hs : ∀ c ∈ flatC (Jvm.Cond.and given_1 narrow_1), c.before args s = true) (hts : ∀ w ∈ lw_tbl, w.before args s = true) : ∃ q : Nat × Nat, st_X ("ChalkWall$Law", 96, "reach", [114, 101, 97, 99, 104]) q A s :=
  st_txt hA (by decide) (hts _ (List.mem_of_getElem? (i := 905) (by decide +kernel))) (hs _ (List.mem_of_getElem? (i := 258) (by decide +kernel))) (hs _ (List.mem_of_getElem? (i := 259) (by decide +kernel))) (hs _ (List.mem_of_getElem? (i := 260) (by decide +kernel))) (hs _ (List.mem_of_getElem? (i := 261) (by decide +kernel))) (fun j hj => match j, hj with
    | 0, _ => hs _ (List.mem_of_getElem? (i := 262) (by decide +kernel))
    | 1, _ => hs _ (List.mem_of_getElem? (i := 263) (by decide +kernel))
    | 2, _ => hs _ (List.mem_of_getElem? (i := 264) (by decide +kernel))
    | 3, _ => hs _ (List.mem_of_getElem? (i := 265) (by decide +kernel))
    | 4, _ => hs _ (List.mem_of_getElem? (i := 266) (by decide +kernel))
    | n + 5, h => absurd h (by show ¬ n + 5 < 5; omega))
theorem st_t11 {args : Array Value} {s : State} {A : Nat → Prop} (hA : ∀ a : Nat, a < s.heap.size → ¬ A a) (hs : ∀ c ∈ flatC (Jvm.Cond.and given_1 narrow_1), c.before args s = true) (hts : ∀ w ∈ lw_tbl, w.before args s = true) : ∃ q : Nat × Nat, st_X ("ChalkWall$Law", 98, "old", [111, 108, 100]) q A s :=
  st_txt hA (by decide) (hts _ (List.mem_of_getElem? (i := 906) (by decide +kernel))) (hs _ (List.mem_of_getElem? (i := 279) (by decide +kernel))) (hs _ (List.mem_of_getElem? (i := 280) (by decide +kernel))) (hs _ (List.mem_of_getElem? (i := 281) (by decide +kernel))) (hs _ (List.mem_of_getElem? (i := 282) (by decide +kernel))) (fun j hj => match j, hj with
    | 0, _ => hs _ (List.mem_of_getElem? (i := 283) (by decide +kernel))
    | 1, _ => hs _ (List.mem_of_getElem? (i := 284) (by decide +kernel))
    | 2, _ => hs _ (List.mem_of_getElem? (i := 285) (by decide +kernel))
    | n + 3, h => absurd h (by show ¬ n + 3 < 3; omega))
theorem st_t12 {args : Array Value} {s : State} {A : Nat → Prop} (hA : ∀ a : Nat, a < s.heap.size → ¬ A a) (hs : ∀ c ∈ flatC (Jvm.Cond.and given_1 narrow_1), c.before args s = true) (hts : ∀ w ∈ lw_tbl, w.before args s = true) : ∃ q : Nat × Nat, st_X ("ChalkWall$Plan", 56, "write", [119, 114, 105, 116, 101]) q A s :=
  st_txt hA (by decide) (hts _ (List.mem_of_getElem? (i := 948) (by decide +kernel))) (hs _ (List.mem_of_getElem? (i := 345) (by decide +kernel))) (hs _ (List.mem_of_getElem? (i := 346) (by decide +kernel))) (hs _ (List.mem_of_getElem? (i := 347) (by decide +kernel))) (hs _ (List.mem_of_getElem? (i := 348) (by decide +kernel))) (fun j hj => match j, hj with
    | 0, _ => hs _ (List.mem_of_getElem? (i := 349) (by decide +kernel))
    | 1, _ => hs _ (List.mem_of_getElem? (i := 350) (by decide +kernel))
    | 2, _ => hs _ (List.mem_of_getElem? (i := 351) (by decide +kernel))
    | 3, _ => hs _ (List.mem_of_getElem? (i := 352) (by decide +kernel))
    | 4, _ => hs _ (List.mem_of_getElem? (i := 353) (by decide +kernel))
    | n + 5, h => absurd h (by show ¬ n + 5 < 5; omega))
theorem st_t13 {args : Array Value} {s : State} {A : Nat → Prop} (hA : ∀ a : Nat, a < s.heap.size → ¬ A a) (hs : ∀ c ∈ flatC (Jvm.Cond.and given_1 narrow_1), c.before args s = true) (hts : ∀ w ∈ lw_tbl, w.before args s = true) : ∃ q : Nat × Nat, st_X ("ChalkWall$Plan", 81, "slip", [115, 108, 105, 112]) q A s :=
  st_txt hA (by decide) (hts _ (List.mem_of_getElem? (i := 955) (by decide +kernel))) (hs _ (List.mem_of_getElem? (i := 370) (by decide +kernel))) (hs _ (List.mem_of_getElem? (i := 371) (by decide +kernel))) (hs _ (List.mem_of_getElem? (i := 372) (by decide +kernel))) (hs _ (List.mem_of_getElem? (i := 373) (by decide +kernel))) (fun j hj => match j, hj with
    | 0, _ => hs _ (List.mem_of_getElem? (i := 374) (by decide +kernel))
    | 1, _ => hs _ (List.mem_of_getElem? (i := 375) (by decide +kernel))
    | 2, _ => hs _ (List.mem_of_getElem? (i := 376) (by decide +kernel))
    | 3, _ => hs _ (List.mem_of_getElem? (i := 377) (by decide +kernel))
    | n + 4, h => absurd h (by show ¬ n + 4 < 4; omega))
theorem st_t14 {args : Array Value} {s : State} {A : Nat → Prop} (hA : ∀ a : Nat, a < s.heap.size → ¬ A a) (hs : ∀ c ∈ flatC (Jvm.Cond.and given_1 narrow_1), c.before args s = true) (hts : ∀ w ∈ lw_tbl, w.before args s = true) : ∃ q : Nat × Nat, st_X ("ChalkWall$Plan", 83, "rain", [114, 97, 105, 110]) q A s :=
  st_txt hA (by decide) (hts _ (List.mem_of_getElem? (i := 956) (by decide +kernel))) (hs _ (List.mem_of_getElem? (i := 395) (by decide +kernel))) (hs _ (List.mem_of_getElem? (i := 396) (by decide +kernel))) (hs _ (List.mem_of_getElem? (i := 397) (by decide +kernel))) (hs _ (List.mem_of_getElem? (i := 398) (by decide +kernel))) (fun j hj => match j, hj with
    | 0, _ => hs _ (List.mem_of_getElem? (i := 399) (by decide +kernel))
    | 1, _ => hs _ (List.mem_of_getElem? (i := 400) (by decide +kernel))
    | 2, _ => hs _ (List.mem_of_getElem? (i := 401) (by decide +kernel))
    | 3, _ => hs _ (List.mem_of_getElem? (i := 402) (by decide +kernel))
    | n + 4, h => absurd h (by show ¬ n + 4 < 4; omega))
theorem st_t15 {args : Array Value} {s : State} {A : Nat → Prop} (hA : ∀ a : Nat, a < s.heap.size → ¬ A a) (hs : ∀ c ∈ flatC (Jvm.Cond.and given_1 narrow_1), c.before args s = true) (hts : ∀ w ∈ lw_tbl, w.before args s = true) : ∃ q : Nat × Nat, st_X ("ChalkWall$Plan", 85, "night", [110, 105, 103, 104, 116]) q A s :=
  st_txt hA (by decide) (hts _ (List.mem_of_getElem? (i := 957) (by decide +kernel))) (hs _ (List.mem_of_getElem? (i := 421) (by decide +kernel))) (hs _ (List.mem_of_getElem? (i := 422) (by decide +kernel))) (hs _ (List.mem_of_getElem? (i := 423) (by decide +kernel))) (hs _ (List.mem_of_getElem? (i := 424) (by decide +kernel))) (fun j hj => match j, hj with
    | 0, _ => hs _ (List.mem_of_getElem? (i := 425) (by decide +kernel))
    | 1, _ => hs _ (List.mem_of_getElem? (i := 426) (by decide +kernel))
    | 2, _ => hs _ (List.mem_of_getElem? (i := 427) (by decide +kernel))
    | 3, _ => hs _ (List.mem_of_getElem? (i := 428) (by decide +kernel))
    | 4, _ => hs _ (List.mem_of_getElem? (i := 429) (by decide +kernel))
    | n + 5, h => absurd h (by show ¬ n + 5 < 5; omega))
theorem st_t16 {args : Array Value} {s : State} {A : Nat → Prop} (hA : ∀ a : Nat, a < s.heap.size → ¬ A a) (hs : ∀ c ∈ flatC (Jvm.Cond.and given_1 narrow_1), c.before args s = true) (hts : ∀ w ∈ lw_tbl, w.before args s = true) : ∃ q : Nat × Nat, st_X ("ChalkWall$Plan", 87, "again", [97, 103, 97, 105, 110]) q A s :=
  st_txt hA (by decide) (hts _ (List.mem_of_getElem? (i := 958) (by decide +kernel))) (hs _ (List.mem_of_getElem? (i := 449) (by decide +kernel))) (hs _ (List.mem_of_getElem? (i := 450) (by decide +kernel))) (hs _ (List.mem_of_getElem? (i := 451) (by decide +kernel))) (hs _ (List.mem_of_getElem? (i := 452) (by decide +kernel))) (fun j hj => match j, hj with
    | 0, _ => hs _ (List.mem_of_getElem? (i := 453) (by decide +kernel))
    | 1, _ => hs _ (List.mem_of_getElem? (i := 454) (by decide +kernel))
    | 2, _ => hs _ (List.mem_of_getElem? (i := 455) (by decide +kernel))
    | 3, _ => hs _ (List.mem_of_getElem? (i := 456) (by decide +kernel))
    | 4, _ => hs _ (List.mem_of_getElem? (i := 457) (by decide +kernel))
    | n + 5, h => absurd h (by show ¬ n + 5 < 5; omega))
theorem st_t17 {args : Array Value} {s : State} {A : Nat → Prop} (hA : ∀ a : Nat, a < s.heap.size → ¬ A a) (hs : ∀ c ∈ flatC (Jvm.Cond.and given_1 narrow_1), c.before args s = true) (hts : ∀ w ∈ lw_tbl, w.before args s = true) : ∃ q : Nat × Nat, st_X ("ChalkWall$Port", 83, "row", [114, 111, 119]) q A s :=
  st_txt hA (by decide) (hts _ (List.mem_of_getElem? (i := 747) (by decide +kernel))) (hs _ (List.mem_of_getElem? (i := 101) (by decide +kernel))) (hs _ (List.mem_of_getElem? (i := 102) (by decide +kernel))) (hs _ (List.mem_of_getElem? (i := 103) (by decide +kernel))) (hs _ (List.mem_of_getElem? (i := 104) (by decide +kernel))) (fun j hj => match j, hj with
    | 0, _ => hs _ (List.mem_of_getElem? (i := 105) (by decide +kernel))
    | 1, _ => hs _ (List.mem_of_getElem? (i := 106) (by decide +kernel))
    | 2, _ => hs _ (List.mem_of_getElem? (i := 107) (by decide +kernel))
    | n + 3, h => absurd h (by show ¬ n + 3 < 3; omega))
theorem st_t18 {args : Array Value} {s : State} {A : Nat → Prop} (hA : ∀ a : Nat, a < s.heap.size → ¬ A a) (hs : ∀ c ∈ flatC (Jvm.Cond.and given_1 narrow_1), c.before args s = true) (hts : ∀ w ∈ lw_tbl, w.before args s = true) : ∃ q : Nat × Nat, st_X ("ChalkWall$Port", 89, "bid", [98, 105, 100]) q A s :=
  st_txt hA (by decide) (hts _ (List.mem_of_getElem? (i := 803) (by decide +kernel))) (hs _ (List.mem_of_getElem? (i := 109) (by decide +kernel))) (hs _ (List.mem_of_getElem? (i := 110) (by decide +kernel))) (hs _ (List.mem_of_getElem? (i := 111) (by decide +kernel))) (hs _ (List.mem_of_getElem? (i := 112) (by decide +kernel))) (fun j hj => match j, hj with
    | 0, _ => hs _ (List.mem_of_getElem? (i := 113) (by decide +kernel))
    | 1, _ => hs _ (List.mem_of_getElem? (i := 114) (by decide +kernel))
    | 2, _ => hs _ (List.mem_of_getElem? (i := 115) (by decide +kernel))
    | n + 3, h => absurd h (by show ¬ n + 3 < 3; omega))
theorem st_t19 {args : Array Value} {s : State} {A : Nat → Prop} (hA : ∀ a : Nat, a < s.heap.size → ¬ A a) (hs : ∀ c ∈ flatC (Jvm.Cond.and given_1 narrow_1), c.before args s = true) (hts : ∀ w ∈ lw_tbl, w.before args s = true) : ∃ q : Nat × Nat, st_X ("ChalkWall$Port", 91, "kin", [107, 105, 110]) q A s :=
  st_txt hA (by decide) (hts _ (List.mem_of_getElem? (i := 804) (by decide +kernel))) (hs _ (List.mem_of_getElem? (i := 118) (by decide +kernel))) (hs _ (List.mem_of_getElem? (i := 119) (by decide +kernel))) (hs _ (List.mem_of_getElem? (i := 120) (by decide +kernel))) (hs _ (List.mem_of_getElem? (i := 121) (by decide +kernel))) (fun j hj => match j, hj with
    | 0, _ => hs _ (List.mem_of_getElem? (i := 122) (by decide +kernel))
    | 1, _ => hs _ (List.mem_of_getElem? (i := 123) (by decide +kernel))
    | 2, _ => hs _ (List.mem_of_getElem? (i := 124) (by decide +kernel))
    | n + 3, h => absurd h (by show ¬ n + 3 < 3; omega))
theorem st_t20 {args : Array Value} {s : State} {A : Nat → Prop} (hA : ∀ a : Nat, a < s.heap.size → ¬ A a) (hs : ∀ c ∈ flatC (Jvm.Cond.and given_1 narrow_1), c.before args s = true) (hts : ∀ w ∈ lw_tbl, w.before args s = true) : ∃ q : Nat × Nat, st_X ("ChalkWall$Port", 92, "writer", [119, 114, 105, 116, 101, 114]) q A s :=
  st_txt hA (by decide) (hts _ (List.mem_of_getElem? (i := 805) (by decide +kernel))) (hs _ (List.mem_of_getElem? (i := 128) (by decide +kernel))) (hs _ (List.mem_of_getElem? (i := 129) (by decide +kernel))) (hs _ (List.mem_of_getElem? (i := 130) (by decide +kernel))) (hs _ (List.mem_of_getElem? (i := 131) (by decide +kernel))) (fun j hj => match j, hj with
    | 0, _ => hs _ (List.mem_of_getElem? (i := 132) (by decide +kernel))
    | 1, _ => hs _ (List.mem_of_getElem? (i := 133) (by decide +kernel))
    | 2, _ => hs _ (List.mem_of_getElem? (i := 134) (by decide +kernel))
    | 3, _ => hs _ (List.mem_of_getElem? (i := 135) (by decide +kernel))
    | 4, _ => hs _ (List.mem_of_getElem? (i := 136) (by decide +kernel))
    | 5, _ => hs _ (List.mem_of_getElem? (i := 137) (by decide +kernel))
    | n + 6, h => absurd h (by show ¬ n + 6 < 6; omega))
theorem st_t21 {args : Array Value} {s : State} {A : Nat → Prop} (hA : ∀ a : Nat, a < s.heap.size → ¬ A a) (hs : ∀ c ∈ flatC (Jvm.Cond.and given_1 narrow_1), c.before args s = true) (hts : ∀ w ∈ lw_tbl, w.before args s = true) : ∃ q : Nat × Nat, st_X ("ChalkWall$Port", 94, "knows", [107, 110, 111, 119, 115]) q A s :=
  st_txt hA (by decide) (hts _ (List.mem_of_getElem? (i := 806) (by decide +kernel))) (hs _ (List.mem_of_getElem? (i := 142) (by decide +kernel))) (hs _ (List.mem_of_getElem? (i := 143) (by decide +kernel))) (hs _ (List.mem_of_getElem? (i := 144) (by decide +kernel))) (hs _ (List.mem_of_getElem? (i := 145) (by decide +kernel))) (fun j hj => match j, hj with
    | 0, _ => hs _ (List.mem_of_getElem? (i := 146) (by decide +kernel))
    | 1, _ => hs _ (List.mem_of_getElem? (i := 147) (by decide +kernel))
    | 2, _ => hs _ (List.mem_of_getElem? (i := 148) (by decide +kernel))
    | 3, _ => hs _ (List.mem_of_getElem? (i := 149) (by decide +kernel))
    | 4, _ => hs _ (List.mem_of_getElem? (i := 150) (by decide +kernel))
    | n + 5, h => absurd h (by show ¬ n + 5 < 5; omega))
theorem st_all {args : Array Value} {s : State} {A : Nat → Prop} (hA : ∀ a : Nat, a < s.heap.size → ¬ A a) (hs : ∀ c ∈ flatC (Jvm.Cond.and given_1 narrow_1), c.before args s = true) (hts : ∀ w ∈ lw_tbl, w.before args s = true) : ∀ i : Nat, ∃ q : Nat × Nat, ∀ t, strT[i]? = some t → st_X t q A s
  | 0 => by
    obtain ⟨q, h⟩ := st_t0 hA hs hts
    refine ⟨q, fun t ht => ?_⟩
    have e : (some ("ChalkWall", 394, "no such row, bid, writer or line", [110, 111, 32, 115, 117, 99, 104, 32, 114, 111, 119, 44, 32, 98, 105, 100, 44, 32, 119, 114, 105, 116, 101, 114, 32, 111, 114, 32, 108, 105, 110, 101]) : Option (String × Nat × String × List Int32)) = some t := ht
    cases e; exact h
  | 1 => by
    obtain ⟨q, h⟩ := st_t1 hA hs hts
    refine ⟨q, fun t ht => ?_⟩
    have e : (some ("ChalkWall", 401, "a number that is none such", [97, 32, 110, 117, 109, 98, 101, 114, 32, 116, 104, 97, 116, 32, 105, 115, 32, 110, 111, 110, 101, 32, 115, 117, 99, 104]) : Option (String × Nat × String × List Int32)) = some t := ht
    cases e; exact h
  | 2 => by
    obtain ⟨q, h⟩ := st_t2 hA hs hts
    refine ⟨q, fun t ht => ?_⟩
    have e : (some ("ChalkWall$Law", 72, "least", [108, 101, 97, 115, 116]) : Option (String × Nat × String × List Int32)) = some t := ht
    cases e; exact h
  | 3 => by
    obtain ⟨q, h⟩ := st_t3 hA hs hts
    refine ⟨q, fun t ht => ?_⟩
    have e : (some ("ChalkWall$Law", 78, "most", [109, 111, 115, 116]) : Option (String × Nat × String × List Int32)) = some t := ht
    cases e; exact h
  | 4 => by
    obtain ⟨q, h⟩ := st_t4 hA hs hts
    refine ⟨q, fun t ht => ?_⟩
    have e : (some ("ChalkWall$Law", 84, "row", [114, 111, 119]) : Option (String × Nat × String × List Int32)) = some t := ht
    cases e; exact h
  | 5 => by
    obtain ⟨q, h⟩ := st_t5 hA hs hts
    refine ⟨q, fun t ht => ?_⟩
    have e : (some ("ChalkWall$Law", 86, "letters", [108, 101, 116, 116, 101, 114, 115]) : Option (String × Nat × String × List Int32)) = some t := ht
    cases e; exact h
  | 6 => by
    obtain ⟨q, h⟩ := st_t6 hA hs hts
    refine ⟨q, fun t ht => ?_⟩
    have e : (some ("ChalkWall$Law", 88, "place", [112, 108, 97, 99, 101]) : Option (String × Nat × String × List Int32)) = some t := ht
    cases e; exact h
  | 7 => by
    obtain ⟨q, h⟩ := st_t7 hA hs hts
    refine ⟨q, fun t ht => ?_⟩
    have e : (some ("ChalkWall$Law", 90, "writer", [119, 114, 105, 116, 101, 114]) : Option (String × Nat × String × List Int32)) = some t := ht
    cases e; exact h
  | 8 => by
    obtain ⟨q, h⟩ := st_t8 hA hs hts
    refine ⟨q, fun t ht => ?_⟩
    have e : (some ("ChalkWall$Law", 92, "act", [97, 99, 116]) : Option (String × Nat × String × List Int32)) = some t := ht
    cases e; exact h
  | 9 => by
    obtain ⟨q, h⟩ := st_t9 hA hs hts
    refine ⟨q, fun t ht => ?_⟩
    have e : (some ("ChalkWall$Law", 94, "day", [100, 97, 121]) : Option (String × Nat × String × List Int32)) = some t := ht
    cases e; exact h
  | 10 => by
    obtain ⟨q, h⟩ := st_t10 hA hs hts
    refine ⟨q, fun t ht => ?_⟩
    have e : (some ("ChalkWall$Law", 96, "reach", [114, 101, 97, 99, 104]) : Option (String × Nat × String × List Int32)) = some t := ht
    cases e; exact h
  | 11 => by
    obtain ⟨q, h⟩ := st_t11 hA hs hts
    refine ⟨q, fun t ht => ?_⟩
    have e : (some ("ChalkWall$Law", 98, "old", [111, 108, 100]) : Option (String × Nat × String × List Int32)) = some t := ht
    cases e; exact h
  | 12 => by
    obtain ⟨q, h⟩ := st_t12 hA hs hts
    refine ⟨q, fun t ht => ?_⟩
    have e : (some ("ChalkWall$Plan", 56, "write", [119, 114, 105, 116, 101]) : Option (String × Nat × String × List Int32)) = some t := ht
    cases e; exact h
  | 13 => by
    obtain ⟨q, h⟩ := st_t13 hA hs hts
    refine ⟨q, fun t ht => ?_⟩
    have e : (some ("ChalkWall$Plan", 81, "slip", [115, 108, 105, 112]) : Option (String × Nat × String × List Int32)) = some t := ht
    cases e; exact h
  | 14 => by
    obtain ⟨q, h⟩ := st_t14 hA hs hts
    refine ⟨q, fun t ht => ?_⟩
    have e : (some ("ChalkWall$Plan", 83, "rain", [114, 97, 105, 110]) : Option (String × Nat × String × List Int32)) = some t := ht
    cases e; exact h
  | 15 => by
    obtain ⟨q, h⟩ := st_t15 hA hs hts
    refine ⟨q, fun t ht => ?_⟩
    have e : (some ("ChalkWall$Plan", 85, "night", [110, 105, 103, 104, 116]) : Option (String × Nat × String × List Int32)) = some t := ht
    cases e; exact h
  | 16 => by
    obtain ⟨q, h⟩ := st_t16 hA hs hts
    refine ⟨q, fun t ht => ?_⟩
    have e : (some ("ChalkWall$Plan", 87, "again", [97, 103, 97, 105, 110]) : Option (String × Nat × String × List Int32)) = some t := ht
    cases e; exact h
  | 17 => by
    obtain ⟨q, h⟩ := st_t17 hA hs hts
    refine ⟨q, fun t ht => ?_⟩
    have e : (some ("ChalkWall$Port", 83, "row", [114, 111, 119]) : Option (String × Nat × String × List Int32)) = some t := ht
    cases e; exact h
  | 18 => by
    obtain ⟨q, h⟩ := st_t18 hA hs hts
    refine ⟨q, fun t ht => ?_⟩
    have e : (some ("ChalkWall$Port", 89, "bid", [98, 105, 100]) : Option (String × Nat × String × List Int32)) = some t := ht
    cases e; exact h
  | 19 => by
    obtain ⟨q, h⟩ := st_t19 hA hs hts
    refine ⟨q, fun t ht => ?_⟩
    have e : (some ("ChalkWall$Port", 91, "kin", [107, 105, 110]) : Option (String × Nat × String × List Int32)) = some t := ht
    cases e; exact h
  | 20 => by
    obtain ⟨q, h⟩ := st_t20 hA hs hts
    refine ⟨q, fun t ht => ?_⟩
    have e : (some ("ChalkWall$Port", 92, "writer", [119, 114, 105, 116, 101, 114]) : Option (String × Nat × String × List Int32)) = some t := ht
    cases e; exact h
  | 21 => by
    obtain ⟨q, h⟩ := st_t21 hA hs hts
    refine ⟨q, fun t ht => ?_⟩
    have e : (some ("ChalkWall$Port", 94, "knows", [107, 110, 111, 119, 115]) : Option (String × Nat × String × List Int32)) = some t := ht
    cases e; exact h
  | n + 22 => ⟨(0, 0), fun t ht => absurd (ht.symm.trans (List.getElem?_eq_none (by show 22 ≤ n + 22; omega))) (fun z => nomatch z)⟩
