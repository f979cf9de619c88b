/-! # functional level, 86: new objects (printed by wip/gen/mk60b.py) -/
section
variable {M M' M1 M2 N : Mm} {o m b : Nat} {V : Nat → TT} {I : Nat → Nat → TT}
def x0 : TT := fun a b => if a = 0 ∧ b = 1 then 4294967295 else 0
theorem x0_o {a b : Nat} (h : ¬ (a = 0 ∧ b = 1)) : x0 a b = 0 := if_neg h
theorem gI_sNs' {M : Mm} {k n a j : Nat} (h : nx M = a) : gI (sN M k n) a j = nI 0 := by rw [← h]; exact gI_sNs ..
theorem C_init1 (hn : nx M = o + 1) (hz : kz M) (h0 : ∀ j, gI M o j = nI 0) : ∃ N, f_C_init o M = f_C_init_b o N ∧ (nx N = o + 61 ∧ kd N o = (12, 0)) ∧ Lo o M N ∧ kz N ∧ (gR N o 10 = some (o + 37) ∧ gR N o 11 = some (o + 45) ∧ gR N o 12 = some (o + 53) ∧ gR N o 13 = some (o + 56) ∧ gR N o 14 = some (o + 59) ∧ gR N o 15 = some (o + 60)) ∧ (∀ j, gI N o j = nI 0) ∧ isP N (o + 37) q0 ∧ (gI N (o + 1) 1 = nI 0 ∧ gI N (o + 1) 5 = nI 4294967295) ∧ (gI N (o + 16) 1 = nI 0 ∧ gI N (o + 16) 3 = nI 0) ∧ isL N (o + 53) 5 pL ∧ (gI N (o + 59) 0 = nI 0 ∧ gI N (o + 59) 1 = nI 0) := by
  have kk0 : ∀ {R : Type} (x : Option R), k0 M (o + 1) x = x := fun x => k0_i (hz _ (by omega))
  have kk1 : ∀ {R : Type} (x : Option R), k0 M (o + 3) x = x := fun x => k0_i (hz _ (by omega))
  have kk2 : ∀ {R : Type} (x : Option R), k0 M (o + 8) x = x := fun x => k0_i (hz _ (by omega))
  have kk3 : ∀ {R : Type} (x : Option R), k0 M (o + 16) x = x := fun x => k0_i (hz _ (by omega))
  have kk4 : ∀ {R : Type} (x : Option R), k0 M (o + 19) x = x := fun x => k0_i (hz _ (by omega))
  have kk5 : ∀ {R : Type} (x : Option R), k0 M (o + 23) x = x := fun x => k0_i (hz _ (by omega))
  have kk6 : ∀ {R : Type} (x : Option R), k0 M (o + 25) x = x := fun x => k0_i (hz _ (by omega))
  have kk10 : ∀ {R : Type} (x : Option R), k0 M (o + 37) x = x := fun x => k0_i (hz _ (by omega))
  have kk11 : ∀ {R : Type} (x : Option R), k0 M (o + 45) x = x := fun x => k0_i (hz _ (by omega))
  have kk12 : ∀ {R : Type} (x : Option R), k0 M (o + 53) x = x := fun x => k0_i (hz _ (by omega))
  have kk13 : ∀ {R : Type} (x : Option R), k0 M (o + 56) x = x := fun x => k0_i (hz _ (by omega))
  have kk14 : ∀ {R : Type} (x : Option R), k0 M (o + 59) x = x := fun x => k0_i (hz _ (by omega))
  have kk15 : ∀ {R : Type} (x : Option R), k0 M (o + 60) x = x := fun x => k0_i (hz _ (by omega))
  have s0 := FTi.beg hn hz
  have n0 : nx (sN (M) 210 0) = o + 1 + 1 := by rw [nx_sN, s0.1.1.1]
  obtain ⟨A0, a0, ⟨b0, c0⟩, d0, g0, t0⟩ := C_tapeInit (o := o + 1) (M := sN (M) 210 0) n0 (fun a ha => kz.sN (s0.1.2.1.2) 210 0 a ha)
  have qz0 := s0.obj (kc := 210) (kf := 10) (sz := 2) 0 (by decide) (by decide) ⟨b0, c0⟩ d0 g0
  have s1 : FTi M (sR A0 o 0 (some (o + 1))) o 3 [(0, 1, 10, 0)] := qz0.1
  have p0 : Kp (o + 1) (M) (sR A0 o 0 (some (o + 1))) := qz0.2
  have n1 : nx (sN (sR A0 o 0 (some (o + 1))) 208 0) = o + 3 + 1 := by rw [nx_sN, s1.1.1.1]
  obtain ⟨A1, a1, ⟨b1, c1⟩, d1, g1⟩ := C_planInit (o := o + 3) (M := sN (sR A0 o 0 (some (o + 1))) 208 0) n1 (fun a ha => kz.sN (s1.1.2.1.2) 208 0 a ha)
  have qz1 := s1.obj (kc := 208) (kf := 8) (sz := 5) 1 (by decide) (by decide) ⟨b1, c1⟩ d1 g1
  have s2 : FTi M (sR A1 o 1 (some (o + 3))) o 8 [(1, 3, 8, 0), (0, 1, 10, 0)] := qz1.1
  have p1 : Kp (o + 3) (sR A0 o 0 (some (o + 1))) (sR A1 o 1 (some (o + 3))) := qz1.2
  have n2 : nx (sN (sR A1 o 1 (some (o + 3))) 211 0) = o + 8 + 1 := by rw [nx_sN, s2.1.1.1]
  obtain ⟨A2, a2, ⟨b2, c2⟩, d2, g2⟩ := C_wallInit (o := o + 8) (M := sN (sR A1 o 1 (some (o + 3))) 211 0) n2 (fun a ha => kz.sN (s2.1.2.1.2) 211 0 a ha)
  have qz2 := s2.obj (kc := 211) (kf := 11) (sz := 8) 2 (by decide) (by decide) ⟨b2, c2⟩ d2 g2
  have s3 : FTi M (sR A2 o 2 (some (o + 8))) o 16 [(2, 8, 11, 0), (1, 3, 8, 0), (0, 1, 10, 0)] := qz2.1
  have p2 : Kp (o + 8) (sR A1 o 1 (some (o + 3))) (sR A2 o 2 (some (o + 8))) := qz2.2
  have n3 : nx (sN (sR A2 o 2 (some (o + 8))) 207 0) = o + 16 + 1 := by rw [nx_sN, s3.1.1.1]
  obtain ⟨A3, a3, ⟨b3, c3⟩, d3, g3, t3⟩ := C_pastInit (o := o + 16) (M := sN (sR A2 o 2 (some (o + 8))) 207 0) n3 (fun a ha => kz.sN (s3.1.2.1.2) 207 0 a ha)
  have qz3 := s3.obj (kc := 207) (kf := 7) (sz := 3) 3 (by decide) (by decide) ⟨b3, c3⟩ d3 g3
  have s4 : FTi M (sR A3 o 3 (some (o + 16))) o 19 [(3, 16, 7, 0), (2, 8, 11, 0), (1, 3, 8, 0), (0, 1, 10, 0)] := qz3.1
  have p3 : Kp (o + 16) (sR A2 o 2 (some (o + 8))) (sR A3 o 3 (some (o + 16))) := qz3.2
  have n4 : nx (sN (sR A3 o 3 (some (o + 16))) 203 0) = o + 19 + 1 := by rw [nx_sN, s4.1.1.1]
  obtain ⟨A4, a4, ⟨b4, c4⟩, d4, g4⟩ := C_fitInit (o := o + 19) (M := sN (sR A3 o 3 (some (o + 16))) 203 0) n4 (fun a ha => kz.sN (s4.1.2.1.2) 203 0 a ha)
  have qz4 := s4.obj (kc := 203) (kf := 3) (sz := 4) 4 (by decide) (by decide) ⟨b4, c4⟩ d4 g4
  have s5 : FTi M (sR A4 o 4 (some (o + 19))) o 23 [(4, 19, 3, 0), (3, 16, 7, 0), (2, 8, 11, 0), (1, 3, 8, 0), (0, 1, 10, 0)] := qz4.1
  have p4 : Kp (o + 19) (sR A3 o 3 (some (o + 16))) (sR A4 o 4 (some (o + 19))) := qz4.2
  have n5 : nx (sN (sR A4 o 4 (some (o + 19))) 205 0) = o + 23 + 1 := by rw [nx_sN, s5.1.1.1]
  obtain ⟨A5, a5, ⟨b5, c5⟩, d5, g5⟩ := C_inqInit (o := o + 23) (M := sN (sR A4 o 4 (some (o + 19))) 205 0) n5 (fun a ha => kz.sN (s5.1.2.1.2) 205 0 a ha)
  have qz5 := s5.obj (kc := 205) (kf := 5) (sz := 2) 5 (by decide) (by decide) ⟨b5, c5⟩ d5 g5
  have s6 : FTi M (sR A5 o 5 (some (o + 23))) o 25 [(5, 23, 5, 0), (4, 19, 3, 0), (3, 16, 7, 0), (2, 8, 11, 0), (1, 3, 8, 0), (0, 1, 10, 0)] := qz5.1
  have p5 : Kp (o + 23) (sR A4 o 4 (some (o + 19))) (sR A5 o 5 (some (o + 23))) := qz5.2
  have n6 : nx (sN (sR A5 o 5 (some (o + 23))) 201 0) = o + 25 + 1 := by rw [nx_sN, s6.1.1.1]
  obtain ⟨A6, a6, ⟨b6, c6⟩, d6, g6⟩ := C_dawnsInit (o := o + 25) (M := sN (sR A5 o 5 (some (o + 23))) 201 0) n6 (fun a ha => kz.sN (s6.1.2.1.2) 201 0 a ha)
  have qz6 := s6.obj (kc := 201) (kf := 1) (sz := 9) 6 (by decide) (by decide) ⟨b6, c6⟩ d6 g6
  have s7 : FTi M (sR A6 o 6 (some (o + 25))) o 34 [(6, 25, 1, 0), (5, 23, 5, 0), (4, 19, 3, 0), (3, 16, 7, 0), (2, 8, 11, 0), (1, 3, 8, 0), (0, 1, 10, 0)] := qz6.1
  have p6 : Kp (o + 25) (sR A5 o 5 (some (o + 23))) (sR A6 o 6 (some (o + 25))) := qz6.2
  have s8 : FTi M (sR (sN (sR A6 o 6 (some (o + 25))) 14 8) o 7 (some (o + 34))) o 35 [(7, 34, 14, 8), (6, 25, 1, 0), (5, 23, 5, 0), (4, 19, 3, 0), (3, 16, 7, 0), (2, 8, 11, 0), (1, 3, 8, 0), (0, 1, 10, 0)] := s7.arr 7 14 8 (by decide)
  have p7 : Kp (o + 34) (sR A6 o 6 (some (o + 25))) (sR (sN (sR A6 o 6 (some (o + 25))) 14 8) o 7 (some (o + 34))) := kp_arr s7 7 14 8 _
  have s9 : FTi M (sR (sN (sR (sN (sR A6 o 6 (some (o + 25))) 14 8) o 7 (some (o + 34))) 15 10) o 8 (some (o + 35))) o 36 [(8, 35, 15, 10), (7, 34, 14, 8), (6, 25, 1, 0), (5, 23, 5, 0), (4, 19, 3, 0), (3, 16, 7, 0), (2, 8, 11, 0), (1, 3, 8, 0), (0, 1, 10, 0)] := s8.arr 8 15 10 (by decide)
  have p8 : Kp (o + 35) (sR (sN (sR A6 o 6 (some (o + 25))) 14 8) o 7 (some (o + 34))) (sR (sN (sR (sN (sR A6 o 6 (some (o + 25))) 14 8) o 7 (some (o + 34))) 15 10) o 8 (some (o + 35))) := kp_arr s8 8 15 10 _
  have s10 : FTi M (sR (sN (sR (sN (sR (sN (sR A6 o 6 (some (o + 25))) 14 8) o 7 (some (o + 34))) 15 10) o 8 (some (o + 35))) 15 10) o 9 (some (o + 36))) o 37 [(9, 36, 15, 10), (8, 35, 15, 10), (7, 34, 14, 8), (6, 25, 1, 0), (5, 23, 5, 0), (4, 19, 3, 0), (3, 16, 7, 0), (2, 8, 11, 0), (1, 3, 8, 0), (0, 1, 10, 0)] := s9.arr 9 15 10 (by decide)
  have p9 : Kp (o + 36) (sR (sN (sR (sN (sR A6 o 6 (some (o + 25))) 14 8) o 7 (some (o + 34))) 15 10) o 8 (some (o + 35))) (sR (sN (sR (sN (sR (sN (sR A6 o 6 (some (o + 25))) 14 8) o 7 (some (o + 34))) 15 10) o 8 (some (o + 35))) 15 10) o 9 (some (o + 36))) := kp_arr s9 9 15 10 _
  have n10 : nx (sN (sR (sN (sR (sN (sR (sN (sR A6 o 6 (some (o + 25))) 14 8) o 7 (some (o + 34))) 15 10) o 8 (some (o + 35))) 15 10) o 9 (some (o + 36))) 209 0) = o + 37 + 1 := by rw [nx_sN, s10.1.1.1]
  obtain ⟨A10, a10, ⟨b10, c10⟩, d10, g10, t10⟩ := C_portInit (o := o + 37) (M := sN (sR (sN (sR (sN (sR (sN (sR A6 o 6 (some (o + 25))) 14 8) o 7 (some (o + 34))) 15 10) o 8 (some (o + 35))) 15 10) o 9 (some (o + 36))) 209 0) n10 (fun a ha => kz.sN (s10.1.2.1.2) 209 0 a ha)
  have qz10 := s10.obj (kc := 209) (kf := 9) (sz := 8) 10 (by decide) (by decide) ⟨b10, c10⟩ d10 g10
  have s11 : FTi M (sR A10 o 10 (some (o + 37))) o 45 [(10, 37, 9, 0), (9, 36, 15, 10), (8, 35, 15, 10), (7, 34, 14, 8), (6, 25, 1, 0), (5, 23, 5, 0), (4, 19, 3, 0), (3, 16, 7, 0), (2, 8, 11, 0), (1, 3, 8, 0), (0, 1, 10, 0)] := qz10.1
  have p10 : Kp (o + 37) (sR (sN (sR (sN (sR (sN (sR A6 o 6 (some (o + 25))) 14 8) o 7 (some (o + 34))) 15 10) o 8 (some (o + 35))) 15 10) o 9 (some (o + 36))) (sR A10 o 10 (some (o + 37))) := qz10.2
  have n11 : nx (sN (sR A10 o 10 (some (o + 37))) 209 0) = o + 45 + 1 := by rw [nx_sN, s11.1.1.1]
  obtain ⟨A11, a11, ⟨b11, c11⟩, d11, g11, t11⟩ := C_portInit (o := o + 45) (M := sN (sR A10 o 10 (some (o + 37))) 209 0) n11 (fun a ha => kz.sN (s11.1.2.1.2) 209 0 a ha)
  have qz11 := s11.obj (kc := 209) (kf := 9) (sz := 8) 11 (by decide) (by decide) ⟨b11, c11⟩ d11 g11
  have s12 : FTi M (sR A11 o 11 (some (o + 45))) o 53 [(11, 45, 9, 0), (10, 37, 9, 0), (9, 36, 15, 10), (8, 35, 15, 10), (7, 34, 14, 8), (6, 25, 1, 0), (5, 23, 5, 0), (4, 19, 3, 0), (3, 16, 7, 0), (2, 8, 11, 0), (1, 3, 8, 0), (0, 1, 10, 0)] := qz11.1
  have p11 : Kp (o + 45) (sR A10 o 10 (some (o + 37))) (sR A11 o 11 (some (o + 45))) := qz11.2
  have n12 : nx (sN (sR A11 o 11 (some (o + 45))) 206 0) = o + 53 + 1 := by rw [nx_sN, s12.1.1.1]
  obtain ⟨A12, a12, ⟨b12, c12⟩, d12, g12, t12⟩ := C_lawInit (o := o + 53) (M := sN (sR A11 o 11 (some (o + 45))) 206 0) n12 (fun a ha => kz.sN (s12.1.2.1.2) 206 0 a ha)
  have qz12 := s12.obj (kc := 206) (kf := 6) (sz := 3) 12 (by decide) (by decide) ⟨b12, c12⟩ d12 g12
  have s13 : FTi M (sR A12 o 12 (some (o + 53))) o 56 [(12, 53, 6, 0), (11, 45, 9, 0), (10, 37, 9, 0), (9, 36, 15, 10), (8, 35, 15, 10), (7, 34, 14, 8), (6, 25, 1, 0), (5, 23, 5, 0), (4, 19, 3, 0), (3, 16, 7, 0), (2, 8, 11, 0), (1, 3, 8, 0), (0, 1, 10, 0)] := qz12.1
  have p12 : Kp (o + 53) (sR A11 o 11 (some (o + 45))) (sR A12 o 12 (some (o + 53))) := qz12.2
  have n13 : nx (sN (sR A12 o 12 (some (o + 53))) 206 0) = o + 56 + 1 := by rw [nx_sN, s13.1.1.1]
  obtain ⟨A13, a13, ⟨b13, c13⟩, d13, g13, t13⟩ := C_lawInit (o := o + 56) (M := sN (sR A12 o 12 (some (o + 53))) 206 0) n13 (fun a ha => kz.sN (s13.1.2.1.2) 206 0 a ha)
  have qz13 := s13.obj (kc := 206) (kf := 6) (sz := 3) 13 (by decide) (by decide) ⟨b13, c13⟩ d13 g13
  have s14 : FTi M (sR A13 o 13 (some (o + 56))) o 59 [(13, 56, 6, 0), (12, 53, 6, 0), (11, 45, 9, 0), (10, 37, 9, 0), (9, 36, 15, 10), (8, 35, 15, 10), (7, 34, 14, 8), (6, 25, 1, 0), (5, 23, 5, 0), (4, 19, 3, 0), (3, 16, 7, 0), (2, 8, 11, 0), (1, 3, 8, 0), (0, 1, 10, 0)] := qz13.1
  have p13 : Kp (o + 56) (sR A12 o 12 (some (o + 53))) (sR A13 o 13 (some (o + 56))) := qz13.2
  have n14 : nx (sN (sR A13 o 13 (some (o + 56))) 202 0) = o + 59 + 1 := by rw [nx_sN, s14.1.1.1]
  obtain ⟨A14, a14, ⟨b14, c14⟩, d14, g14, t14⟩ := C_deedsInit (o := o + 59) (M := sN (sR A13 o 13 (some (o + 56))) 202 0) n14 (fun a ha => kz.sN (s14.1.2.1.2) 202 0 a ha)
  have qz14 := s14.obj (kc := 202) (kf := 2) (sz := 1) 14 (by decide) (by decide) ⟨b14, c14⟩ d14 g14
  have s15 : FTi M (sR A14 o 14 (some (o + 59))) o 60 [(14, 59, 2, 0), (13, 56, 6, 0), (12, 53, 6, 0), (11, 45, 9, 0), (10, 37, 9, 0), (9, 36, 15, 10), (8, 35, 15, 10), (7, 34, 14, 8), (6, 25, 1, 0), (5, 23, 5, 0), (4, 19, 3, 0), (3, 16, 7, 0), (2, 8, 11, 0), (1, 3, 8, 0), (0, 1, 10, 0)] := qz14.1
  have p14 : Kp (o + 59) (sR A13 o 13 (some (o + 56))) (sR A14 o 14 (some (o + 59))) := qz14.2
  have n15 : nx (sN (sR A14 o 14 (some (o + 59))) 202 0) = o + 60 + 1 := by rw [nx_sN, s15.1.1.1]
  obtain ⟨A15, a15, ⟨b15, c15⟩, d15, g15, t15⟩ := C_deedsInit (o := o + 60) (M := sN (sR A14 o 14 (some (o + 59))) 202 0) n15 (fun a ha => kz.sN (s15.1.2.1.2) 202 0 a ha)
  have qz15 := s15.obj (kc := 202) (kf := 2) (sz := 1) 15 (by decide) (by decide) ⟨b15, c15⟩ d15 g15
  have s16 : FTi M (sR A15 o 15 (some (o + 60))) o 61 [(15, 60, 2, 0), (14, 59, 2, 0), (13, 56, 6, 0), (12, 53, 6, 0), (11, 45, 9, 0), (10, 37, 9, 0), (9, 36, 15, 10), (8, 35, 15, 10), (7, 34, 14, 8), (6, 25, 1, 0), (5, 23, 5, 0), (4, 19, 3, 0), (3, 16, 7, 0), (2, 8, 11, 0), (1, 3, 8, 0), (0, 1, 10, 0)] := qz15.1
  have p15 : Kp (o + 60) (sR A14 o 14 (some (o + 59))) (sR A15 o 15 (some (o + 60))) := qz15.2
  have v := s16.1.vwB (kf := 12) (by decide)
  obtain ⟨⟨f1, f2⟩, f3, f4⟩ := s16.1.fin 12
  have u15 : Kp (o + 60) (sR A14 o 14 (some (o + 59))) (sR A15 o 15 (some (o + 60))) := p15
  have u14 : Kp (o + 59) (sR A13 o 13 (some (o + 56))) (sR A15 o 15 (some (o + 60))) := p14.trans u15 (Nat.add_le_add_left (by decide) o)
  have u13 : Kp (o + 56) (sR A12 o 12 (some (o + 53))) (sR A15 o 15 (some (o + 60))) := p13.trans u14 (Nat.add_le_add_left (by decide) o)
  have u12 : Kp (o + 53) (sR A11 o 11 (some (o + 45))) (sR A15 o 15 (some (o + 60))) := p12.trans u13 (Nat.add_le_add_left (by decide) o)
  have u11 : Kp (o + 45) (sR A10 o 10 (some (o + 37))) (sR A15 o 15 (some (o + 60))) := p11.trans u12 (Nat.add_le_add_left (by decide) o)
  have u10 : Kp (o + 37) (sR (sN (sR (sN (sR (sN (sR A6 o 6 (some (o + 25))) 14 8) o 7 (some (o + 34))) 15 10) o 8 (some (o + 35))) 15 10) o 9 (some (o + 36))) (sR A15 o 15 (some (o + 60))) := p10.trans u11 (Nat.add_le_add_left (by decide) o)
  have u9 : Kp (o + 36) (sR (sN (sR (sN (sR A6 o 6 (some (o + 25))) 14 8) o 7 (some (o + 34))) 15 10) o 8 (some (o + 35))) (sR A15 o 15 (some (o + 60))) := p9.trans u10 (Nat.add_le_add_left (by decide) o)
  have u8 : Kp (o + 35) (sR (sN (sR A6 o 6 (some (o + 25))) 14 8) o 7 (some (o + 34))) (sR A15 o 15 (some (o + 60))) := p8.trans u9 (Nat.add_le_add_left (by decide) o)
  have u7 : Kp (o + 34) (sR A6 o 6 (some (o + 25))) (sR A15 o 15 (some (o + 60))) := p7.trans u8 (Nat.add_le_add_left (by decide) o)
  have u6 : Kp (o + 25) (sR A5 o 5 (some (o + 23))) (sR A15 o 15 (some (o + 60))) := p6.trans u7 (Nat.add_le_add_left (by decide) o)
  have u5 : Kp (o + 23) (sR A4 o 4 (some (o + 19))) (sR A15 o 15 (some (o + 60))) := p5.trans u6 (Nat.add_le_add_left (by decide) o)
  have u4 : Kp (o + 19) (sR A3 o 3 (some (o + 16))) (sR A15 o 15 (some (o + 60))) := p4.trans u5 (Nat.add_le_add_left (by decide) o)
  have u3 : Kp (o + 16) (sR A2 o 2 (some (o + 8))) (sR A15 o 15 (some (o + 60))) := p3.trans u4 (Nat.add_le_add_left (by decide) o)
  have u2 : Kp (o + 8) (sR A1 o 1 (some (o + 3))) (sR A15 o 15 (some (o + 60))) := p2.trans u3 (Nat.add_le_add_left (by decide) o)
  have u1 : Kp (o + 3) (sR A0 o 0 (some (o + 1))) (sR A15 o 15 (some (o + 60))) := p1.trans u2 (Nat.add_le_add_left (by decide) o)
  have u0 : Kp (o + 1) (M) (sR A15 o 15 (some (o + 60))) := p0.trans u1 (Nat.add_le_add_left (by decide) o)
  refine ⟨sK (sR A15 o 15 (some (o + 60))) o 12, ?_, ⟨f1, f2⟩, f3, f4, ⟨(s16.1.2.2 (10, 37, 9, 0) (by decide)).1.1, (s16.1.2.2 (11, 45, 9, 0) (by decide)).1.1, (s16.1.2.2 (12, 53, 6, 0) (by decide)).1.1, (s16.1.2.2 (13, 56, 6, 0) (by decide)).1.1, (s16.1.2.2 (14, 59, 2, 0) (by decide)).1.1, (s16.1.2.2 (15, 60, 2, 0) (by decide)).1.1⟩, fun j => (s16.2 j).trans (h0 j), ?_, ⟨?_, ?_⟩, ⟨?_, ?_⟩, ?_, ⟨?_, ?_⟩⟩
  · refine Eq.trans ?_ (vwc_i v)
    simp only [f_C_init, lt0_e, kk0, kk1, kk2, kk3, kk4, kk5, kk6, kk10, kk11, kk12, kk13, kk14, kk15, nx_sN, nx_sR', hn, bV_s, Nat.add_assoc, Nat.reduceAdd, a0, k1_i c0, b0, a1, k1_i c1, b1, a2, k1_i c2, b2, a3, k1_i c3, b3, a4, k1_i c4, b4, a5, k1_i c5, b5, a6, k1_i c6, b6, a10, k1_i c10, b10, a11, k1_i c11, b11, a12, k1_i c12, b12, a13, k1_i c13, b13, a14, k1_i c14, b14, a15, k1_i c15, b15]
  · obtain ⟨⟨y1, y2, y3⟩, _, _, _, y7⟩ := t10
    have e : ∀ a j, a < o + 45 → gI (sK (sR A15 o 15 (some (o + 60))) o 12) a j = gI A10 a j := fun a j ha => u11 a ha j
    exact ⟨⟨(e _ _ (by omega)).trans y1, (e _ _ (by omega)).trans y2, (e _ _ (by omega)).trans y3⟩, fun k hk => by rw [q0_0] at hk; omega, fun k hk => by rw [q0_0] at hk; omega, fun k hk => by rw [q0_0] at hk; omega, fun k hk => (e _ _ (by omega)).trans (y7 k hk)⟩
  · exact (u1 _ (Nat.add_lt_add_left (by decide) o) 1).trans (t0.1.trans (gI_sNs' s0.1.1.1))
  · exact (u1 _ (Nat.add_lt_add_left (by decide) o) 5).trans t0.2
  · exact (u4 _ (Nat.add_lt_add_left (by decide) o) 1).trans ((t3 1).trans (gI_sNs' s3.1.1.1))
  · exact (u4 _ (Nat.add_lt_add_left (by decide) o) 3).trans ((t3 3).trans (gI_sNs' s3.1.1.1))
  · exact ⟨(u13 _ (Nat.add_lt_add_left (by decide) o) _).trans t12.1, fun k hk => (u13 (o + 53 + 1) (by omega) k).trans (t12.2 k hk)⟩
  · exact (u15 _ (Nat.add_lt_add_left (by decide) o) 0).trans ((t14 0).trans (gI_sNs' s14.1.1.1))
  · exact (u15 _ (Nat.add_lt_add_left (by decide) o) 1).trans ((t14 1).trans (gI_sNs' s14.1.1.1))
theorem C_init (hn : nx M = o + 1) (hz : kz M) (h0 : ∀ j, gI M o j = nI 0) : ∃ M', f_C_init o M = some M' ∧ (nx M' = o + 61 ∧ kd M' o = (12, 0)) ∧ Lo o M M' ∧ kz M' ∧ CI M' o (q0, wB q0, x0, V, I) := by
  obtain ⟨N, e0, ⟨f1, f2⟩, f3, f4, ⟨r10, r11, r12, r13, r14, r15⟩, hI, P1, ⟨t1, t5⟩, ⟨p1, p3⟩, ⟨l0, l1⟩, ⟨d0, d1⟩⟩ := C_init1 hn hz h0
  obtain ⟨M9, e9, f9, h9⟩ := C_begin (w := o + 8) P1 okq0 (by omega)
  have R9 : ∀ k, gR M9 o k = gR N o k := fun k => f9.r (by unfold rg; omega) k
  have I9 : ∀ a j, ¬ rg (o + 8) 8 a → gI M9 a j = gI N a j := fun a j ha => f9.i ha j
  have hL : isLw M9 (o + 53) 0 (x0 2) := by
    unfold isLw
    rw [if_pos rfl]
    exact ⟨(I9 _ _ (by unfold rg; omega)).trans l0, fun k hk => (I9 _ _ (by unfold rg; omega)).trans (l1 k hk)⟩
  have hP : isP M9 (o + 37) q0 := P1.fr f9 (fun x h1 h2 z => by unfold rg at z; omega)
  have c1 : nx M9 = o + 61 := f9.1.1.trans f1
  have c2 : kd M9 o = (12, 0) := by rw [f9.1.2]; exact f2
  have c3 : Lo o M M9 := f3.trans (Lo.fr f9 (fun a ha => by unfold rg; omega))
  have c4 : kz M9 := f4.fr f9
  have hE : f_C_init o M = some M9 := by
    rw [e0]
    unfold f_C_init_b
    rw [r10, bG_s, e9, bV_s]
  have c5 : CIr M9 o (o + 37) (o + 53) (o + 59) := by
    refine ⟨⟨by omega, by omega, by omega⟩, ⟨by rw [R9, r10], ?_⟩, ⟨by rw [R9, r12], ?_⟩, by rw [R9, r14], ?_⟩
    · rw [R9, r11]; congr 1; omega
    · rw [R9, r13]; congr 1; omega
    · rw [R9, r15]; congr 1; omega
  have c6 : CIt M9 o x0 := by
    refine ⟨⟨?_, ?_⟩, fun k hk => absurd hk (Nat.not_lt_zero k), ⟨?_, ?_, ?_⟩, ?_, ?_⟩
    · rw [I9 _ _ (by unfold rg; omega), t1]; rfl
    · rw [I9 _ _ (by unfold rg; omega), t5]; rfl
    · rw [I9 _ _ (by unfold rg; omega), hI]; rfl
    · rw [I9 _ _ (by unfold rg; omega), hI]; rfl
    · rw [I9 _ _ (by unfold rg; omega), hI]; rfl
    · rw [I9 _ _ (by unfold rg; omega), p1]; rfl
    · rw [I9 _ _ (by unfold rg; omega), p3]; rfl
  have c7 : isD M9 (o + 59) 0 (x0 3) (x0 4) := by
    refine ⟨?_, ?_⟩
    · rw [I9 _ _ (by unfold rg; omega), d0]; rfl
    · rw [I9 _ _ (by unfold rg; omega), d1]; rfl
  exact ⟨M9, hE, ⟨c1, c2⟩, c3, c4, o + 37, o + 53, o + 59, c5, ⟨hP, h9⟩, c6, ⟨hL, c7⟩, fun i hi => absurd hi (Nat.not_lt_zero i), fun i hi => absurd hi (Nat.not_lt_zero i)⟩
end
