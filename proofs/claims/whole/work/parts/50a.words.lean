/-! # words (printed by wip/gen/ebuild.py) -/
theorem inG0 : ∀ w ∈ u_ws RX0 TX0 6, w ∈ gtb := by decide +kernel
theorem inG1 : ∀ w ∈ u_ws RX1 TX1 2, w ∈ gtb := by decide +kernel
theorem inG2 : ∀ w ∈ u_ws RX2 TX2 6, w ∈ gtb := by decide +kernel
theorem inG3 : ∀ w ∈ u_ws RX3 TX3 3, w ∈ gtb := by decide +kernel
theorem inG4 : ∀ w ∈ u_ws RX4 TX4 4, w ∈ gtb := by decide +kernel
theorem inG5 : ∀ w ∈ u_ws RX5 TX5 3, w ∈ gtb := by decide +kernel
theorem inG6 : ∀ w ∈ u_ws RX6 TX6 4, w ∈ gtb := by decide +kernel
theorem inG7 : ∀ w ∈ u_ws RX7 TX7 8, w ∈ gtb := by decide +kernel
theorem inG8 : ∀ w ∈ u_ws RX8 TX8 10, w ∈ gtb := by decide +kernel
theorem inG9 : ∀ w ∈ u_ws RX9 TX9 6, w ∈ gtb := by decide +kernel
theorem inG10 : ∀ w ∈ u_ws RX10 TX10 10, w ∈ gtb := by decide +kernel
theorem inG11 : ∀ w ∈ u_ws RX11 TX11 19, w ∈ gtb := by decide +kernel
theorem inG12 : ∀ w ∈ u_ws RX12 TX12 54, w ∈ gtb := by decide +kernel
theorem fk_1_0 : FldOk 1 0 RX0 TX0 6 (1, 1, 11, 0) := ⟨rfl, rfl, inG0, by decide, rfl, rfl, ⟨tyX0, tyX0_ok, fun h => (by cases h), fun _ => Or.inl ⟨_, rfl⟩⟩, nmX0⟩
theorem fk_1_1 : FldOk 1 1 RX0 TX0 6 (0, 0, 0, 0) := ⟨rfl, rfl, inG0, by decide, rfl, rfl, ⟨tyX0, tyX0_ok, fun _ => rfl, fun h => absurd rfl h⟩, nmX0⟩
theorem fk_1_2 : FldOk 1 2 RX0 TX0 6 (0, 0, 0, 0) := ⟨rfl, rfl, inG0, by decide, rfl, rfl, ⟨tyX0, tyX0_ok, fun _ => rfl, fun h => absurd rfl h⟩, nmX0⟩
theorem fk_1_3 : FldOk 1 3 RX0 TX0 6 (0, 0, 0, 0) := ⟨rfl, rfl, inG0, by decide, rfl, rfl, ⟨tyX0, tyX0_ok, fun _ => rfl, fun h => absurd rfl h⟩, nmX0⟩
theorem fk_1_4 : FldOk 1 4 RX0 TX0 6 (0, 0, 0, 0) := ⟨rfl, rfl, inG0, by decide, rfl, rfl, ⟨tyX0, tyX0_ok, fun _ => rfl, fun h => absurd rfl h⟩, nmX0⟩
theorem fk_1_5 : FldOk 1 5 RX0 TX0 6 (0, 0, 0, 0) := ⟨rfl, rfl, inG0, by decide, rfl, rfl, ⟨tyX0, tyX0_ok, fun _ => rfl, fun h => absurd rfl h⟩, nmX0⟩
theorem fk_2_0 : FldOk 2 0 RX1 TX1 2 (0, 0, 0, 0) := ⟨rfl, rfl, inG1, by decide, rfl, rfl, ⟨tyX1, tyX1_ok, fun _ => rfl, fun h => absurd rfl h⟩, nmX1⟩
theorem fk_2_1 : FldOk 2 1 RX1 TX1 2 (0, 0, 0, 0) := ⟨rfl, rfl, inG1, by decide, rfl, rfl, ⟨tyX1, tyX1_ok, fun _ => rfl, fun h => absurd rfl h⟩, nmX1⟩
theorem fk_3_0 : FldOk 3 0 RX2 TX2 6 (1, 1, 14, 4) := ⟨rfl, rfl, inG2, by decide, rfl, rfl, ⟨tyX2, tyX2_ok, fun h => (by cases h), fun _ => Or.inr ⟨_, rfl⟩⟩, nmX2⟩
theorem fk_3_1 : FldOk 3 1 RX2 TX2 6 (1, 2, 14, 8) := ⟨rfl, rfl, inG2, by decide, rfl, rfl, ⟨tyX2, tyX2_ok, fun h => (by cases h), fun _ => Or.inr ⟨_, rfl⟩⟩, nmX2⟩
theorem fk_3_2 : FldOk 3 2 RX2 TX2 6 (1, 3, 14, 8) := ⟨rfl, rfl, inG2, by decide, rfl, rfl, ⟨tyX2, tyX2_ok, fun h => (by cases h), fun _ => Or.inr ⟨_, rfl⟩⟩, nmX2⟩
theorem fk_3_3 : FldOk 3 3 RX2 TX2 6 (2, 0, 9, 0) := ⟨rfl, rfl, inG2, by decide, rfl, rfl, ⟨tyX2, tyX2_ok, fun h => (by cases h), fun _ => Or.inl ⟨_, rfl⟩⟩, nmX2⟩
theorem fk_3_4 : FldOk 3 4 RX2 TX2 6 (0, 0, 0, 0) := ⟨rfl, rfl, inG2, by decide, rfl, rfl, ⟨tyX2, tyX2_ok, fun _ => rfl, fun h => absurd rfl h⟩, nmX2⟩
theorem fk_3_5 : FldOk 3 5 RX2 TX2 6 (0, 0, 0, 0) := ⟨rfl, rfl, inG2, by decide, rfl, rfl, ⟨tyX2, tyX2_ok, fun _ => rfl, fun h => absurd rfl h⟩, nmX2⟩
theorem fk_4_0 : FldOk 4 0 RX3 TX3 3 (1, 1, 11, 0) := ⟨rfl, rfl, inG3, by decide, rfl, rfl, ⟨tyX3, tyX3_ok, fun h => (by cases h), fun _ => Or.inl ⟨_, rfl⟩⟩, nmX3⟩
theorem fk_4_1 : FldOk 4 1 RX3 TX3 3 (0, 0, 0, 0) := ⟨rfl, rfl, inG3, by decide, rfl, rfl, ⟨tyX3, tyX3_ok, fun _ => rfl, fun h => absurd rfl h⟩, nmX3⟩
theorem fk_4_2 : FldOk 4 2 RX3 TX3 3 (1, 9, 17, 16) := ⟨rfl, rfl, inG3, by decide, rfl, rfl, ⟨tyX3, tyX3_ok, fun h => (by cases h), fun _ => Or.inr ⟨_, rfl⟩⟩, nmX3⟩
theorem fk_5_0 : FldOk 5 0 RX4 TX4 4 (1, 1, 14, 10) := ⟨rfl, rfl, inG4, by decide, rfl, rfl, ⟨tyX4, tyX4_ok, fun h => (by cases h), fun _ => Or.inr ⟨_, rfl⟩⟩, nmX4⟩
theorem fk_5_1 : FldOk 5 1 RX4 TX4 4 (0, 0, 0, 0) := ⟨rfl, rfl, inG4, by decide, rfl, rfl, ⟨tyX4, tyX4_ok, fun _ => rfl, fun h => absurd rfl h⟩, nmX4⟩
theorem fk_5_2 : FldOk 5 2 RX4 TX4 4 (0, 0, 0, 0) := ⟨rfl, rfl, inG4, by decide, rfl, rfl, ⟨tyX4, tyX4_ok, fun _ => rfl, fun h => absurd rfl h⟩, nmX4⟩
theorem fk_5_3 : FldOk 5 3 RX4 TX4 4 (0, 0, 0, 0) := ⟨rfl, rfl, inG4, by decide, rfl, rfl, ⟨tyX4, tyX4_ok, fun _ => rfl, fun h => absurd rfl h⟩, nmX4⟩
theorem fk_6_0 : FldOk 6 0 RX5 TX5 3 (1, 1, 14, 150) := ⟨rfl, rfl, inG5, by decide, rfl, rfl, ⟨tyX5, tyX5_ok, fun h => (by cases h), fun _ => Or.inr ⟨_, rfl⟩⟩, nmX5⟩
theorem fk_6_1 : FldOk 6 1 RX5 TX5 3 (1, 2, 14, 150) := ⟨rfl, rfl, inG5, by decide, rfl, rfl, ⟨tyX5, tyX5_ok, fun h => (by cases h), fun _ => Or.inr ⟨_, rfl⟩⟩, nmX5⟩
theorem fk_6_2 : FldOk 6 2 RX5 TX5 3 (0, 0, 0, 0) := ⟨rfl, rfl, inG5, by decide, rfl, rfl, ⟨tyX5, tyX5_ok, fun _ => rfl, fun h => absurd rfl h⟩, nmX5⟩
theorem fk_7_0 : FldOk 7 0 RX6 TX6 4 (1, 1, 17, 16) := ⟨rfl, rfl, inG6, by decide, rfl, rfl, ⟨tyX6, tyX6_ok, fun h => (by cases h), fun _ => Or.inr ⟨_, rfl⟩⟩, nmX6⟩
theorem fk_7_1 : FldOk 7 1 RX6 TX6 4 (0, 0, 0, 0) := ⟨rfl, rfl, inG6, by decide, rfl, rfl, ⟨tyX6, tyX6_ok, fun _ => rfl, fun h => absurd rfl h⟩, nmX6⟩
theorem fk_7_2 : FldOk 7 2 RX6 TX6 4 (1, 2, 16, 3) := ⟨rfl, rfl, inG6, by decide, rfl, rfl, ⟨tyX6, tyX6_ok, fun h => (by cases h), fun _ => Or.inr ⟨_, rfl⟩⟩, nmX6⟩
theorem fk_7_3 : FldOk 7 3 RX6 TX6 4 (0, 0, 0, 0) := ⟨rfl, rfl, inG6, by decide, rfl, rfl, ⟨tyX6, tyX6_ok, fun _ => rfl, fun h => absurd rfl h⟩, nmX6⟩
theorem fk_8_0 : FldOk 8 0 RX7 TX7 8 (1, 1, 14, 25) := ⟨rfl, rfl, inG7, by decide, rfl, rfl, ⟨tyX7, tyX7_ok, fun h => (by cases h), fun _ => Or.inr ⟨_, rfl⟩⟩, nmX7⟩
theorem fk_8_1 : FldOk 8 1 RX7 TX7 8 (1, 2, 14, 25) := ⟨rfl, rfl, inG7, by decide, rfl, rfl, ⟨tyX7, tyX7_ok, fun h => (by cases h), fun _ => Or.inr ⟨_, rfl⟩⟩, nmX7⟩
theorem fk_8_2 : FldOk 8 2 RX7 TX7 8 (1, 3, 14, 25) := ⟨rfl, rfl, inG7, by decide, rfl, rfl, ⟨tyX7, tyX7_ok, fun h => (by cases h), fun _ => Or.inr ⟨_, rfl⟩⟩, nmX7⟩
theorem fk_8_3 : FldOk 8 3 RX7 TX7 8 (1, 4, 14, 25) := ⟨rfl, rfl, inG7, by decide, rfl, rfl, ⟨tyX7, tyX7_ok, fun h => (by cases h), fun _ => Or.inr ⟨_, rfl⟩⟩, nmX7⟩
theorem fk_8_4 : FldOk 8 4 RX7 TX7 8 (0, 0, 0, 0) := ⟨rfl, rfl, inG7, by decide, rfl, rfl, ⟨tyX7, tyX7_ok, fun _ => rfl, fun h => absurd rfl h⟩, nmX7⟩
theorem fk_8_5 : FldOk 8 5 RX7 TX7 8 (0, 0, 0, 0) := ⟨rfl, rfl, inG7, by decide, rfl, rfl, ⟨tyX7, tyX7_ok, fun _ => rfl, fun h => absurd rfl h⟩, nmX7⟩
theorem fk_8_6 : FldOk 8 6 RX7 TX7 8 (0, 0, 0, 0) := ⟨rfl, rfl, inG7, by decide, rfl, rfl, ⟨tyX7, tyX7_ok, fun _ => rfl, fun h => absurd rfl h⟩, nmX7⟩
theorem fk_8_7 : FldOk 8 7 RX7 TX7 8 (0, 0, 0, 0) := ⟨rfl, rfl, inG7, by decide, rfl, rfl, ⟨tyX7, tyX7_ok, fun _ => rfl, fun h => absurd rfl h⟩, nmX7⟩
theorem fk_9_0 : FldOk 9 0 RX8 TX8 10 (0, 0, 0, 0) := ⟨rfl, rfl, inG8, by decide, rfl, rfl, ⟨tyX8, tyX8_ok, fun _ => rfl, fun h => absurd rfl h⟩, nmX8⟩
theorem fk_9_1 : FldOk 9 1 RX8 TX8 10 (1, 1, 14, 4) := ⟨rfl, rfl, inG8, by decide, rfl, rfl, ⟨tyX8, tyX8_ok, fun h => (by cases h), fun _ => Or.inr ⟨_, rfl⟩⟩, nmX8⟩
theorem fk_9_2 : FldOk 9 2 RX8 TX8 10 (0, 0, 0, 0) := ⟨rfl, rfl, inG8, by decide, rfl, rfl, ⟨tyX8, tyX8_ok, fun _ => rfl, fun h => absurd rfl h⟩, nmX8⟩
theorem fk_9_3 : FldOk 9 3 RX8 TX8 10 (1, 2, 14, 8) := ⟨rfl, rfl, inG8, by decide, rfl, rfl, ⟨tyX8, tyX8_ok, fun h => (by cases h), fun _ => Or.inr ⟨_, rfl⟩⟩, nmX8⟩
theorem fk_9_4 : FldOk 9 4 RX8 TX8 10 (1, 3, 14, 8) := ⟨rfl, rfl, inG8, by decide, rfl, rfl, ⟨tyX8, tyX8_ok, fun h => (by cases h), fun _ => Or.inr ⟨_, rfl⟩⟩, nmX8⟩
theorem fk_9_5 : FldOk 9 5 RX8 TX8 10 (0, 0, 0, 0) := ⟨rfl, rfl, inG8, by decide, rfl, rfl, ⟨tyX8, tyX8_ok, fun _ => rfl, fun h => absurd rfl h⟩, nmX8⟩
theorem fk_9_6 : FldOk 9 6 RX8 TX8 10 (1, 4, 14, 6) := ⟨rfl, rfl, inG8, by decide, rfl, rfl, ⟨tyX8, tyX8_ok, fun h => (by cases h), fun _ => Or.inr ⟨_, rfl⟩⟩, nmX8⟩
theorem fk_9_7 : FldOk 9 7 RX8 TX8 10 (1, 5, 14, 6) := ⟨rfl, rfl, inG8, by decide, rfl, rfl, ⟨tyX8, tyX8_ok, fun h => (by cases h), fun _ => Or.inr ⟨_, rfl⟩⟩, nmX8⟩
theorem fk_9_8 : FldOk 9 8 RX8 TX8 10 (1, 6, 14, 6) := ⟨rfl, rfl, inG8, by decide, rfl, rfl, ⟨tyX8, tyX8_ok, fun h => (by cases h), fun _ => Or.inr ⟨_, rfl⟩⟩, nmX8⟩
theorem fk_9_9 : FldOk 9 9 RX8 TX8 10 (1, 7, 14, 10) := ⟨rfl, rfl, inG8, by decide, rfl, rfl, ⟨tyX8, tyX8_ok, fun h => (by cases h), fun _ => Or.inr ⟨_, rfl⟩⟩, nmX8⟩
theorem fk_10_0 : FldOk 10 0 RX9 TX9 6 (1, 1, 14, 600) := ⟨rfl, rfl, inG9, by decide, rfl, rfl, ⟨tyX9, tyX9_ok, fun h => (by cases h), fun _ => Or.inr ⟨_, rfl⟩⟩, nmX9⟩
theorem fk_10_1 : FldOk 10 1 RX9 TX9 6 (0, 0, 0, 0) := ⟨rfl, rfl, inG9, by decide, rfl, rfl, ⟨tyX9, tyX9_ok, fun _ => rfl, fun h => absurd rfl h⟩, nmX9⟩
theorem fk_10_2 : FldOk 10 2 RX9 TX9 6 (0, 0, 0, 0) := ⟨rfl, rfl, inG9, by decide, rfl, rfl, ⟨tyX9, tyX9_ok, fun _ => rfl, fun h => absurd rfl h⟩, nmX9⟩
theorem fk_10_3 : FldOk 10 3 RX9 TX9 6 (0, 0, 0, 0) := ⟨rfl, rfl, inG9, by decide, rfl, rfl, ⟨tyX9, tyX9_ok, fun _ => rfl, fun h => absurd rfl h⟩, nmX9⟩
theorem fk_10_4 : FldOk 10 4 RX9 TX9 6 (0, 0, 0, 0) := ⟨rfl, rfl, inG9, by decide, rfl, rfl, ⟨tyX9, tyX9_ok, fun _ => rfl, fun h => absurd rfl h⟩, nmX9⟩
theorem fk_10_5 : FldOk 10 5 RX9 TX9 6 (0, 0, 0, 0) := ⟨rfl, rfl, inG9, by decide, rfl, rfl, ⟨tyX9, tyX9_ok, fun _ => rfl, fun h => absurd rfl h⟩, nmX9⟩
theorem fk_11_0 : FldOk 11 0 RX10 TX10 10 (0, 0, 0, 0) := ⟨rfl, rfl, inG10, by decide, rfl, rfl, ⟨tyX10, tyX10_ok, fun _ => rfl, fun h => absurd rfl h⟩, nmX10⟩
theorem fk_11_1 : FldOk 11 1 RX10 TX10 10 (0, 0, 0, 0) := ⟨rfl, rfl, inG10, by decide, rfl, rfl, ⟨tyX10, tyX10_ok, fun _ => rfl, fun h => absurd rfl h⟩, nmX10⟩
theorem fk_11_2 : FldOk 11 2 RX10 TX10 10 (0, 0, 0, 0) := ⟨rfl, rfl, inG10, by decide, rfl, rfl, ⟨tyX10, tyX10_ok, fun _ => rfl, fun h => absurd rfl h⟩, nmX10⟩
theorem fk_11_3 : FldOk 11 3 RX10 TX10 10 (1, 1, 14, 20) := ⟨rfl, rfl, inG10, by decide, rfl, rfl, ⟨tyX10, tyX10_ok, fun h => (by cases h), fun _ => Or.inr ⟨_, rfl⟩⟩, nmX10⟩
theorem fk_11_4 : FldOk 11 4 RX10 TX10 10 (1, 2, 14, 20) := ⟨rfl, rfl, inG10, by decide, rfl, rfl, ⟨tyX10, tyX10_ok, fun h => (by cases h), fun _ => Or.inr ⟨_, rfl⟩⟩, nmX10⟩
theorem fk_11_5 : FldOk 11 5 RX10 TX10 10 (1, 3, 14, 20) := ⟨rfl, rfl, inG10, by decide, rfl, rfl, ⟨tyX10, tyX10_ok, fun h => (by cases h), fun _ => Or.inr ⟨_, rfl⟩⟩, nmX10⟩
theorem fk_11_6 : FldOk 11 6 RX10 TX10 10 (1, 4, 14, 20) := ⟨rfl, rfl, inG10, by decide, rfl, rfl, ⟨tyX10, tyX10_ok, fun h => (by cases h), fun _ => Or.inr ⟨_, rfl⟩⟩, nmX10⟩
theorem fk_11_7 : FldOk 11 7 RX10 TX10 10 (1, 5, 14, 8) := ⟨rfl, rfl, inG10, by decide, rfl, rfl, ⟨tyX10, tyX10_ok, fun h => (by cases h), fun _ => Or.inr ⟨_, rfl⟩⟩, nmX10⟩
theorem fk_11_8 : FldOk 11 8 RX10 TX10 10 (1, 6, 14, 8) := ⟨rfl, rfl, inG10, by decide, rfl, rfl, ⟨tyX10, tyX10_ok, fun h => (by cases h), fun _ => Or.inr ⟨_, rfl⟩⟩, nmX10⟩
theorem fk_11_9 : FldOk 11 9 RX10 TX10 10 (1, 7, 14, 6) := ⟨rfl, rfl, inG10, by decide, rfl, rfl, ⟨tyX10, tyX10_ok, fun h => (by cases h), fun _ => Or.inr ⟨_, rfl⟩⟩, nmX10⟩
theorem fk_12_0 : FldOk 12 0 RX11 TX11 19 (1, 1, 10, 0) := ⟨rfl, rfl, inG11, by decide, rfl, rfl, ⟨tyX11, tyX11_ok, fun h => (by cases h), fun _ => Or.inl ⟨_, rfl⟩⟩, nmX11⟩
theorem fk_12_1 : FldOk 12 1 RX11 TX11 19 (1, 3, 8, 0) := ⟨rfl, rfl, inG11, by decide, rfl, rfl, ⟨tyX11, tyX11_ok, fun h => (by cases h), fun _ => Or.inl ⟨_, rfl⟩⟩, nmX11⟩
theorem fk_12_2 : FldOk 12 2 RX11 TX11 19 (1, 8, 11, 0) := ⟨rfl, rfl, inG11, by decide, rfl, rfl, ⟨tyX11, tyX11_ok, fun h => (by cases h), fun _ => Or.inl ⟨_, rfl⟩⟩, nmX11⟩
theorem fk_12_3 : FldOk 12 3 RX11 TX11 19 (1, 16, 7, 0) := ⟨rfl, rfl, inG11, by decide, rfl, rfl, ⟨tyX11, tyX11_ok, fun h => (by cases h), fun _ => Or.inl ⟨_, rfl⟩⟩, nmX11⟩
theorem fk_12_4 : FldOk 12 4 RX11 TX11 19 (1, 19, 3, 0) := ⟨rfl, rfl, inG11, by decide, rfl, rfl, ⟨tyX11, tyX11_ok, fun h => (by cases h), fun _ => Or.inl ⟨_, rfl⟩⟩, nmX11⟩
theorem fk_12_5 : FldOk 12 5 RX11 TX11 19 (1, 23, 5, 0) := ⟨rfl, rfl, inG11, by decide, rfl, rfl, ⟨tyX11, tyX11_ok, fun h => (by cases h), fun _ => Or.inl ⟨_, rfl⟩⟩, nmX11⟩
theorem fk_12_6 : FldOk 12 6 RX11 TX11 19 (1, 25, 1, 0) := ⟨rfl, rfl, inG11, by decide, rfl, rfl, ⟨tyX11, tyX11_ok, fun h => (by cases h), fun _ => Or.inl ⟨_, rfl⟩⟩, nmX11⟩
theorem fk_12_7 : FldOk 12 7 RX11 TX11 19 (1, 34, 14, 8) := ⟨rfl, rfl, inG11, by decide, rfl, rfl, ⟨tyX11, tyX11_ok, fun h => (by cases h), fun _ => Or.inr ⟨_, rfl⟩⟩, nmX11⟩
theorem fk_12_8 : FldOk 12 8 RX11 TX11 19 (1, 35, 15, 10) := ⟨rfl, rfl, inG11, by decide, rfl, rfl, ⟨tyX11, tyX11_ok, fun h => (by cases h), fun _ => Or.inr ⟨_, rfl⟩⟩, nmX11⟩
theorem fk_12_9 : FldOk 12 9 RX11 TX11 19 (1, 36, 15, 10) := ⟨rfl, rfl, inG11, by decide, rfl, rfl, ⟨tyX11, tyX11_ok, fun h => (by cases h), fun _ => Or.inr ⟨_, rfl⟩⟩, nmX11⟩
theorem fk_12_10 : FldOk 12 10 RX11 TX11 19 (2, 0, 9, 0) := ⟨rfl, rfl, inG11, by decide, rfl, rfl, ⟨tyX11, tyX11_ok, fun h => (by cases h), fun _ => Or.inl ⟨_, rfl⟩⟩, nmX11⟩
theorem fk_12_11 : FldOk 12 11 RX11 TX11 19 (2, 0, 9, 0) := ⟨rfl, rfl, inG11, by decide, rfl, rfl, ⟨tyX11, tyX11_ok, fun h => (by cases h), fun _ => Or.inl ⟨_, rfl⟩⟩, nmX11⟩
theorem fk_12_12 : FldOk 12 12 RX11 TX11 19 (2, 0, 6, 0) := ⟨rfl, rfl, inG11, by decide, rfl, rfl, ⟨tyX11, tyX11_ok, fun h => (by cases h), fun _ => Or.inl ⟨_, rfl⟩⟩, nmX11⟩
theorem fk_12_13 : FldOk 12 13 RX11 TX11 19 (2, 0, 6, 0) := ⟨rfl, rfl, inG11, by decide, rfl, rfl, ⟨tyX11, tyX11_ok, fun h => (by cases h), fun _ => Or.inl ⟨_, rfl⟩⟩, nmX11⟩
theorem fk_12_14 : FldOk 12 14 RX11 TX11 19 (2, 0, 2, 0) := ⟨rfl, rfl, inG11, by decide, rfl, rfl, ⟨tyX11, tyX11_ok, fun h => (by cases h), fun _ => Or.inl ⟨_, rfl⟩⟩, nmX11⟩
theorem fk_12_15 : FldOk 12 15 RX11 TX11 19 (2, 0, 2, 0) := ⟨rfl, rfl, inG11, by decide, rfl, rfl, ⟨tyX11, tyX11_ok, fun h => (by cases h), fun _ => Or.inl ⟨_, rfl⟩⟩, nmX11⟩
theorem fk_12_16 : FldOk 12 16 RX11 TX11 19 (0, 0, 0, 0) := ⟨rfl, rfl, inG11, by decide, rfl, rfl, ⟨tyX11, tyX11_ok, fun _ => rfl, fun h => absurd rfl h⟩, nmX11⟩
theorem fk_12_17 : FldOk 12 17 RX11 TX11 19 (0, 0, 0, 0) := ⟨rfl, rfl, inG11, by decide, rfl, rfl, ⟨tyX11, tyX11_ok, fun _ => rfl, fun h => absurd rfl h⟩, nmX11⟩
theorem fk_12_18 : FldOk 12 18 RX11 TX11 19 (0, 0, 0, 0) := ⟨rfl, rfl, inG11, by decide, rfl, rfl, ⟨tyX11, tyX11_ok, fun _ => rfl, fun h => absurd rfl h⟩, nmX11⟩
theorem fk_13_0 : FldOk 13 0 RX12 TX12 54 (0, 0, 0, 0) := ⟨rfl, rfl, inG12, by decide, rfl, rfl, ⟨tyX12, tyX12_ok, fun _ => rfl, fun h => absurd rfl h⟩, nmX12⟩
theorem fk_13_1 : FldOk 13 1 RX12 TX12 54 (0, 0, 0, 0) := ⟨rfl, rfl, inG12, by decide, rfl, rfl, ⟨tyX12, tyX12_ok, fun _ => rfl, fun h => absurd rfl h⟩, nmX12⟩
theorem fk_13_2 : FldOk 13 2 RX12 TX12 54 (0, 0, 0, 0) := ⟨rfl, rfl, inG12, by decide, rfl, rfl, ⟨tyX12, tyX12_ok, fun _ => rfl, fun h => absurd rfl h⟩, nmX12⟩
theorem fk_13_3 : FldOk 13 3 RX12 TX12 54 (0, 0, 0, 0) := ⟨rfl, rfl, inG12, by decide, rfl, rfl, ⟨tyX12, tyX12_ok, fun _ => rfl, fun h => absurd rfl h⟩, nmX12⟩
theorem fk_13_4 : FldOk 13 4 RX12 TX12 54 (0, 0, 0, 0) := ⟨rfl, rfl, inG12, by decide, rfl, rfl, ⟨tyX12, tyX12_ok, fun _ => rfl, fun h => absurd rfl h⟩, nmX12⟩
theorem fk_13_5 : FldOk 13 5 RX12 TX12 54 (0, 0, 0, 0) := ⟨rfl, rfl, inG12, by decide, rfl, rfl, ⟨tyX12, tyX12_ok, fun _ => rfl, fun h => absurd rfl h⟩, nmX12⟩
theorem fk_13_6 : FldOk 13 6 RX12 TX12 54 (0, 0, 0, 0) := ⟨rfl, rfl, inG12, by decide, rfl, rfl, ⟨tyX12, tyX12_ok, fun _ => rfl, fun h => absurd rfl h⟩, nmX12⟩
theorem fk_13_7 : FldOk 13 7 RX12 TX12 54 (0, 0, 0, 0) := ⟨rfl, rfl, inG12, by decide, rfl, rfl, ⟨tyX12, tyX12_ok, fun _ => rfl, fun h => absurd rfl h⟩, nmX12⟩
theorem fk_13_8 : FldOk 13 8 RX12 TX12 54 (0, 0, 0, 0) := ⟨rfl, rfl, inG12, by decide, rfl, rfl, ⟨tyX12, tyX12_ok, fun _ => rfl, fun h => absurd rfl h⟩, nmX12⟩
theorem fk_13_9 : FldOk 13 9 RX12 TX12 54 (1, 1, 14, 600) := ⟨rfl, rfl, inG12, by decide, rfl, rfl, ⟨tyX12, tyX12_ok, fun h => (by cases h), fun _ => Or.inr ⟨_, rfl⟩⟩, nmX12⟩
theorem fk_13_10 : FldOk 13 10 RX12 TX12 54 (1, 2, 14, 2) := ⟨rfl, rfl, inG12, by decide, rfl, rfl, ⟨tyX12, tyX12_ok, fun h => (by cases h), fun _ => Or.inr ⟨_, rfl⟩⟩, nmX12⟩
theorem fk_13_11 : FldOk 13 11 RX12 TX12 54 (1, 3, 14, 3) := ⟨rfl, rfl, inG12, by decide, rfl, rfl, ⟨tyX12, tyX12_ok, fun h => (by cases h), fun _ => Or.inr ⟨_, rfl⟩⟩, nmX12⟩
theorem fk_13_12 : FldOk 13 12 RX12 TX12 54 (1, 4, 14, 3) := ⟨rfl, rfl, inG12, by decide, rfl, rfl, ⟨tyX12, tyX12_ok, fun h => (by cases h), fun _ => Or.inr ⟨_, rfl⟩⟩, nmX12⟩
theorem fk_13_13 : FldOk 13 13 RX12 TX12 54 (1, 5, 14, 4) := ⟨rfl, rfl, inG12, by decide, rfl, rfl, ⟨tyX12, tyX12_ok, fun h => (by cases h), fun _ => Or.inr ⟨_, rfl⟩⟩, nmX12⟩
theorem fk_13_14 : FldOk 13 14 RX12 TX12 54 (1, 6, 14, 4) := ⟨rfl, rfl, inG12, by decide, rfl, rfl, ⟨tyX12, tyX12_ok, fun h => (by cases h), fun _ => Or.inr ⟨_, rfl⟩⟩, nmX12⟩
theorem fk_13_15 : FldOk 13 15 RX12 TX12 54 (1, 7, 14, 10) := ⟨rfl, rfl, inG12, by decide, rfl, rfl, ⟨tyX12, tyX12_ok, fun h => (by cases h), fun _ => Or.inr ⟨_, rfl⟩⟩, nmX12⟩
theorem fk_13_16 : FldOk 13 16 RX12 TX12 54 (1, 8, 14, 10) := ⟨rfl, rfl, inG12, by decide, rfl, rfl, ⟨tyX12, tyX12_ok, fun h => (by cases h), fun _ => Or.inr ⟨_, rfl⟩⟩, nmX12⟩
theorem fk_13_17 : FldOk 13 17 RX12 TX12 54 (1, 9, 14, 6) := ⟨rfl, rfl, inG12, by decide, rfl, rfl, ⟨tyX12, tyX12_ok, fun h => (by cases h), fun _ => Or.inr ⟨_, rfl⟩⟩, nmX12⟩
theorem fk_13_18 : FldOk 13 18 RX12 TX12 54 (1, 10, 14, 6) := ⟨rfl, rfl, inG12, by decide, rfl, rfl, ⟨tyX12, tyX12_ok, fun h => (by cases h), fun _ => Or.inr ⟨_, rfl⟩⟩, nmX12⟩
theorem fk_13_19 : FldOk 13 19 RX12 TX12 54 (1, 11, 1002, 8) := ⟨rfl, rfl, inG12, by decide, rfl, rfl, ⟨tyX12, tyX12_ok, fun h => (by cases h), fun _ => Or.inr ⟨_, rfl⟩⟩, nmX12⟩
theorem fk_13_20 : FldOk 13 20 RX12 TX12 54 (1, 20, 1002, 8) := ⟨rfl, rfl, inG12, by decide, rfl, rfl, ⟨tyX12, tyX12_ok, fun h => (by cases h), fun _ => Or.inr ⟨_, rfl⟩⟩, nmX12⟩
theorem fk_13_21 : FldOk 13 21 RX12 TX12 54 (1, 29, 1002, 6) := ⟨rfl, rfl, inG12, by decide, rfl, rfl, ⟨tyX12, tyX12_ok, fun h => (by cases h), fun _ => Or.inr ⟨_, rfl⟩⟩, nmX12⟩
theorem fk_13_22 : FldOk 13 22 RX12 TX12 54 (1, 36, 1002, 6) := ⟨rfl, rfl, inG12, by decide, rfl, rfl, ⟨tyX12, tyX12_ok, fun h => (by cases h), fun _ => Or.inr ⟨_, rfl⟩⟩, nmX12⟩
theorem fk_13_23 : FldOk 13 23 RX12 TX12 54 (0, 0, 0, 0) := ⟨rfl, rfl, inG12, by decide, rfl, rfl, ⟨tyX12, tyX12_ok, fun _ => rfl, fun h => absurd rfl h⟩, nmX12⟩
theorem fk_13_24 : FldOk 13 24 RX12 TX12 54 (0, 0, 0, 0) := ⟨rfl, rfl, inG12, by decide, rfl, rfl, ⟨tyX12, tyX12_ok, fun _ => rfl, fun h => absurd rfl h⟩, nmX12⟩
theorem fk_13_25 : FldOk 13 25 RX12 TX12 54 (1, 43, 1002, 160) := ⟨rfl, rfl, inG12, by decide, rfl, rfl, ⟨tyX12, tyX12_ok, fun h => (by cases h), fun _ => Or.inr ⟨_, rfl⟩⟩, nmX12⟩
theorem fk_13_26 : FldOk 13 26 RX12 TX12 54 (1, 204, 1002, 160) := ⟨rfl, rfl, inG12, by decide, rfl, rfl, ⟨tyX12, tyX12_ok, fun h => (by cases h), fun _ => Or.inr ⟨_, rfl⟩⟩, nmX12⟩
theorem fk_13_27 : FldOk 13 27 RX12 TX12 54 (1, 365, 1002, 10) := ⟨rfl, rfl, inG12, by decide, rfl, rfl, ⟨tyX12, tyX12_ok, fun h => (by cases h), fun _ => Or.inr ⟨_, rfl⟩⟩, nmX12⟩
theorem fk_13_28 : FldOk 13 28 RX12 TX12 54 (1, 376, 1002, 10) := ⟨rfl, rfl, inG12, by decide, rfl, rfl, ⟨tyX12, tyX12_ok, fun h => (by cases h), fun _ => Or.inr ⟨_, rfl⟩⟩, nmX12⟩
theorem fk_13_29 : FldOk 13 29 RX12 TX12 54 (1, 387, 14, 160) := ⟨rfl, rfl, inG12, by decide, rfl, rfl, ⟨tyX12, tyX12_ok, fun h => (by cases h), fun _ => Or.inr ⟨_, rfl⟩⟩, nmX12⟩
theorem fk_13_30 : FldOk 13 30 RX12 TX12 54 (1, 388, 14, 8) := ⟨rfl, rfl, inG12, by decide, rfl, rfl, ⟨tyX12, tyX12_ok, fun h => (by cases h), fun _ => Or.inr ⟨_, rfl⟩⟩, nmX12⟩
theorem fk_13_31 : FldOk 13 31 RX12 TX12 54 (1, 389, 1005, 80) := ⟨rfl, rfl, inG12, by decide, rfl, rfl, ⟨tyX12, tyX12_ok, fun h => (by cases h), fun _ => Or.inr ⟨_, rfl⟩⟩, nmX12⟩
theorem fk_13_32 : FldOk 13 32 RX12 TX12 54 (0, 0, 0, 0) := ⟨rfl, rfl, inG12, by decide, rfl, rfl, ⟨tyX12, tyX12_ok, fun _ => rfl, fun h => absurd rfl h⟩, nmX12⟩
theorem fk_13_33 : FldOk 13 33 RX12 TX12 54 (1, 470, 14, 105) := ⟨rfl, rfl, inG12, by decide, rfl, rfl, ⟨tyX12, tyX12_ok, fun h => (by cases h), fun _ => Or.inr ⟨_, rfl⟩⟩, nmX12⟩
theorem fk_13_34 : FldOk 13 34 RX12 TX12 54 (1, 471, 14, 105) := ⟨rfl, rfl, inG12, by decide, rfl, rfl, ⟨tyX12, tyX12_ok, fun h => (by cases h), fun _ => Or.inr ⟨_, rfl⟩⟩, nmX12⟩
theorem fk_13_35 : FldOk 13 35 RX12 TX12 54 (1, 472, 1105, 16) := ⟨rfl, rfl, inG12, by decide, rfl, rfl, ⟨tyX12, tyX12_ok, fun h => (by cases h), fun _ => Or.inr ⟨_, rfl⟩⟩, nmX12⟩
theorem fk_13_36 : FldOk 13 36 RX12 TX12 54 (1, 489, 2786, 3) := ⟨rfl, rfl, inG12, by decide, rfl, rfl, ⟨tyX12, tyX12_ok, fun h => (by cases h), fun _ => Or.inr ⟨_, rfl⟩⟩, nmX12⟩
theorem fk_13_37 : FldOk 13 37 RX12 TX12 54 (0, 0, 0, 0) := ⟨rfl, rfl, inG12, by decide, rfl, rfl, ⟨tyX12, tyX12_ok, fun _ => rfl, fun h => absurd rfl h⟩, nmX12⟩
theorem fk_13_38 : FldOk 13 38 RX12 TX12 54 (0, 0, 0, 0) := ⟨rfl, rfl, inG12, by decide, rfl, rfl, ⟨tyX12, tyX12_ok, fun _ => rfl, fun h => absurd rfl h⟩, nmX12⟩
theorem fk_13_39 : FldOk 13 39 RX12 TX12 54 (0, 0, 0, 0) := ⟨rfl, rfl, inG12, by decide, rfl, rfl, ⟨tyX12, tyX12_ok, fun _ => rfl, fun h => absurd rfl h⟩, nmX12⟩
theorem fk_13_40 : FldOk 13 40 RX12 TX12 54 (0, 0, 0, 0) := ⟨rfl, rfl, inG12, by decide, rfl, rfl, ⟨tyX12, tyX12_ok, fun _ => rfl, fun h => absurd rfl h⟩, nmX12⟩
theorem fk_13_41 : FldOk 13 41 RX12 TX12 54 (0, 0, 0, 0) := ⟨rfl, rfl, inG12, by decide, rfl, rfl, ⟨tyX12, tyX12_ok, fun _ => rfl, fun h => absurd rfl h⟩, nmX12⟩
theorem fk_13_42 : FldOk 13 42 RX12 TX12 54 (0, 0, 0, 0) := ⟨rfl, rfl, inG12, by decide, rfl, rfl, ⟨tyX12, tyX12_ok, fun _ => rfl, fun h => absurd rfl h⟩, nmX12⟩
theorem fk_13_43 : FldOk 13 43 RX12 TX12 54 (0, 0, 0, 0) := ⟨rfl, rfl, inG12, by decide, rfl, rfl, ⟨tyX12, tyX12_ok, fun _ => rfl, fun h => absurd rfl h⟩, nmX12⟩
theorem fk_13_44 : FldOk 13 44 RX12 TX12 54 (1, 493, 14, 8) := ⟨rfl, rfl, inG12, by decide, rfl, rfl, ⟨tyX12, tyX12_ok, fun h => (by cases h), fun _ => Or.inr ⟨_, rfl⟩⟩, nmX12⟩
theorem fk_13_45 : FldOk 13 45 RX12 TX12 54 (1, 494, 14, 8) := ⟨rfl, rfl, inG12, by decide, rfl, rfl, ⟨tyX12, tyX12_ok, fun h => (by cases h), fun _ => Or.inr ⟨_, rfl⟩⟩, nmX12⟩
theorem fk_13_46 : FldOk 13 46 RX12 TX12 54 (1, 495, 14, 4) := ⟨rfl, rfl, inG12, by decide, rfl, rfl, ⟨tyX12, tyX12_ok, fun h => (by cases h), fun _ => Or.inr ⟨_, rfl⟩⟩, nmX12⟩
theorem fk_13_47 : FldOk 13 47 RX12 TX12 54 (1, 496, 14, 9) := ⟨rfl, rfl, inG12, by decide, rfl, rfl, ⟨tyX12, tyX12_ok, fun h => (by cases h), fun _ => Or.inr ⟨_, rfl⟩⟩, nmX12⟩
theorem fk_13_48 : FldOk 13 48 RX12 TX12 54 (0, 0, 0, 0) := ⟨rfl, rfl, inG12, by decide, rfl, rfl, ⟨tyX12, tyX12_ok, fun _ => rfl, fun h => absurd rfl h⟩, nmX12⟩
theorem fk_13_49 : FldOk 13 49 RX12 TX12 54 (1, 497, 15, 10) := ⟨rfl, rfl, inG12, by decide, rfl, rfl, ⟨tyX12, tyX12_ok, fun h => (by cases h), fun _ => Or.inr ⟨_, rfl⟩⟩, nmX12⟩
theorem fk_13_50 : FldOk 13 50 RX12 TX12 54 (1, 498, 15, 10) := ⟨rfl, rfl, inG12, by decide, rfl, rfl, ⟨tyX12, tyX12_ok, fun h => (by cases h), fun _ => Or.inr ⟨_, rfl⟩⟩, nmX12⟩
theorem fk_13_51 : FldOk 13 51 RX12 TX12 54 (0, 0, 0, 0) := ⟨rfl, rfl, inG12, by decide, rfl, rfl, ⟨tyX12, tyX12_ok, fun _ => rfl, fun h => absurd rfl h⟩, nmX12⟩
theorem fk_13_52 : FldOk 13 52 RX12 TX12 54 (0, 0, 0, 0) := ⟨rfl, rfl, inG12, by decide, rfl, rfl, ⟨tyX12, tyX12_ok, fun _ => rfl, fun h => absurd rfl h⟩, nmX12⟩
theorem fk_13_53 : FldOk 13 53 RX12 TX12 54 (0, 0, 0, 0) := ⟨rfl, rfl, inG12, by decide, rfl, rfl, ⟨tyX12, tyX12_ok, fun _ => rfl, fun h => absurd rfl h⟩, nmX12⟩
theorem fk_201_0 : FldOk 201 0 RX0 TX0 6 (2, 0, 11, 0) := ⟨rfl, rfl, inG0, by decide, rfl, rfl, ⟨tyX0, tyX0_ok, fun h => (by cases h), fun _ => Or.inl ⟨_, rfl⟩⟩, nmX0⟩
theorem fk_203_0 : FldOk 203 0 RX2 TX2 6 (2, 0, 14, 4) := ⟨rfl, rfl, inG2, by decide, rfl, rfl, ⟨tyX2, tyX2_ok, fun h => (by cases h), fun _ => Or.inr ⟨_, rfl⟩⟩, nmX2⟩
theorem fk_203_1 : FldOk 203 1 RX2 TX2 6 (2, 0, 14, 8) := ⟨rfl, rfl, inG2, by decide, rfl, rfl, ⟨tyX2, tyX2_ok, fun h => (by cases h), fun _ => Or.inr ⟨_, rfl⟩⟩, nmX2⟩
theorem fk_203_2 : FldOk 203 2 RX2 TX2 6 (2, 0, 14, 8) := ⟨rfl, rfl, inG2, by decide, rfl, rfl, ⟨tyX2, tyX2_ok, fun h => (by cases h), fun _ => Or.inr ⟨_, rfl⟩⟩, nmX2⟩
theorem fk_203_3 : FldOk 203 3 RX2 TX2 6 (2, 0, 9, 0) := ⟨rfl, rfl, inG2, by decide, rfl, rfl, ⟨tyX2, tyX2_ok, fun h => (by cases h), fun _ => Or.inl ⟨_, rfl⟩⟩, nmX2⟩
theorem fk_204_0 : FldOk 204 0 RX3 TX3 3 (2, 0, 11, 0) := ⟨rfl, rfl, inG3, by decide, rfl, rfl, ⟨tyX3, tyX3_ok, fun h => (by cases h), fun _ => Or.inl ⟨_, rfl⟩⟩, nmX3⟩
theorem fk_204_1 : FldOk 204 1 RX3 TX3 3 (0, 0, 0, 0) := ⟨rfl, rfl, inG3, by decide, rfl, rfl, ⟨tyX3, tyX3_ok, fun _ => rfl, fun h => absurd rfl h⟩, nmX3⟩
theorem fk_204_2 : FldOk 204 2 RX3 TX3 3 (2, 0, 17, 16) := ⟨rfl, rfl, inG3, by decide, rfl, rfl, ⟨tyX3, tyX3_ok, fun h => (by cases h), fun _ => Or.inr ⟨_, rfl⟩⟩, nmX3⟩
theorem fk_205_0 : FldOk 205 0 RX4 TX4 4 (2, 0, 14, 10) := ⟨rfl, rfl, inG4, by decide, rfl, rfl, ⟨tyX4, tyX4_ok, fun h => (by cases h), fun _ => Or.inr ⟨_, rfl⟩⟩, nmX4⟩
theorem fk_206_0 : FldOk 206 0 RX5 TX5 3 (2, 0, 14, 150) := ⟨rfl, rfl, inG5, by decide, rfl, rfl, ⟨tyX5, tyX5_ok, fun h => (by cases h), fun _ => Or.inr ⟨_, rfl⟩⟩, nmX5⟩
theorem fk_206_1 : FldOk 206 1 RX5 TX5 3 (2, 0, 14, 150) := ⟨rfl, rfl, inG5, by decide, rfl, rfl, ⟨tyX5, tyX5_ok, fun h => (by cases h), fun _ => Or.inr ⟨_, rfl⟩⟩, nmX5⟩
theorem fk_207_0 : FldOk 207 0 RX6 TX6 4 (2, 0, 17, 16) := ⟨rfl, rfl, inG6, by decide, rfl, rfl, ⟨tyX6, tyX6_ok, fun h => (by cases h), fun _ => Or.inr ⟨_, rfl⟩⟩, nmX6⟩
theorem fk_207_2 : FldOk 207 2 RX6 TX6 4 (2, 0, 16, 3) := ⟨rfl, rfl, inG6, by decide, rfl, rfl, ⟨tyX6, tyX6_ok, fun h => (by cases h), fun _ => Or.inr ⟨_, rfl⟩⟩, nmX6⟩
theorem fk_208_0 : FldOk 208 0 RX7 TX7 8 (2, 0, 14, 25) := ⟨rfl, rfl, inG7, by decide, rfl, rfl, ⟨tyX7, tyX7_ok, fun h => (by cases h), fun _ => Or.inr ⟨_, rfl⟩⟩, nmX7⟩
theorem fk_208_1 : FldOk 208 1 RX7 TX7 8 (2, 0, 14, 25) := ⟨rfl, rfl, inG7, by decide, rfl, rfl, ⟨tyX7, tyX7_ok, fun h => (by cases h), fun _ => Or.inr ⟨_, rfl⟩⟩, nmX7⟩
theorem fk_208_2 : FldOk 208 2 RX7 TX7 8 (2, 0, 14, 25) := ⟨rfl, rfl, inG7, by decide, rfl, rfl, ⟨tyX7, tyX7_ok, fun h => (by cases h), fun _ => Or.inr ⟨_, rfl⟩⟩, nmX7⟩
theorem fk_208_3 : FldOk 208 3 RX7 TX7 8 (2, 0, 14, 25) := ⟨rfl, rfl, inG7, by decide, rfl, rfl, ⟨tyX7, tyX7_ok, fun h => (by cases h), fun _ => Or.inr ⟨_, rfl⟩⟩, nmX7⟩
theorem fk_209_1 : FldOk 209 1 RX8 TX8 10 (2, 0, 14, 4) := ⟨rfl, rfl, inG8, by decide, rfl, rfl, ⟨tyX8, tyX8_ok, fun h => (by cases h), fun _ => Or.inr ⟨_, rfl⟩⟩, nmX8⟩
theorem fk_209_3 : FldOk 209 3 RX8 TX8 10 (2, 0, 14, 8) := ⟨rfl, rfl, inG8, by decide, rfl, rfl, ⟨tyX8, tyX8_ok, fun h => (by cases h), fun _ => Or.inr ⟨_, rfl⟩⟩, nmX8⟩
theorem fk_209_4 : FldOk 209 4 RX8 TX8 10 (2, 0, 14, 8) := ⟨rfl, rfl, inG8, by decide, rfl, rfl, ⟨tyX8, tyX8_ok, fun h => (by cases h), fun _ => Or.inr ⟨_, rfl⟩⟩, nmX8⟩
theorem fk_209_6 : FldOk 209 6 RX8 TX8 10 (2, 0, 14, 6) := ⟨rfl, rfl, inG8, by decide, rfl, rfl, ⟨tyX8, tyX8_ok, fun h => (by cases h), fun _ => Or.inr ⟨_, rfl⟩⟩, nmX8⟩
theorem fk_209_7 : FldOk 209 7 RX8 TX8 10 (2, 0, 14, 6) := ⟨rfl, rfl, inG8, by decide, rfl, rfl, ⟨tyX8, tyX8_ok, fun h => (by cases h), fun _ => Or.inr ⟨_, rfl⟩⟩, nmX8⟩
theorem fk_209_8 : FldOk 209 8 RX8 TX8 10 (2, 0, 14, 6) := ⟨rfl, rfl, inG8, by decide, rfl, rfl, ⟨tyX8, tyX8_ok, fun h => (by cases h), fun _ => Or.inr ⟨_, rfl⟩⟩, nmX8⟩
theorem fk_209_9 : FldOk 209 9 RX8 TX8 10 (2, 0, 14, 10) := ⟨rfl, rfl, inG8, by decide, rfl, rfl, ⟨tyX8, tyX8_ok, fun h => (by cases h), fun _ => Or.inr ⟨_, rfl⟩⟩, nmX8⟩
theorem fk_210_0 : FldOk 210 0 RX9 TX9 6 (2, 0, 14, 600) := ⟨rfl, rfl, inG9, by decide, rfl, rfl, ⟨tyX9, tyX9_ok, fun h => (by cases h), fun _ => Or.inr ⟨_, rfl⟩⟩, nmX9⟩
theorem fk_210_5 : FldOk 210 5 RX9 TX9 6 (0, 0, 0, 0) := ⟨rfl, rfl, inG9, by decide, rfl, rfl, ⟨tyX9, tyX9_ok, fun _ => rfl, fun h => absurd rfl h⟩, nmX9⟩
theorem fk_211_3 : FldOk 211 3 RX10 TX10 10 (2, 0, 14, 20) := ⟨rfl, rfl, inG10, by decide, rfl, rfl, ⟨tyX10, tyX10_ok, fun h => (by cases h), fun _ => Or.inr ⟨_, rfl⟩⟩, nmX10⟩
theorem fk_211_4 : FldOk 211 4 RX10 TX10 10 (2, 0, 14, 20) := ⟨rfl, rfl, inG10, by decide, rfl, rfl, ⟨tyX10, tyX10_ok, fun h => (by cases h), fun _ => Or.inr ⟨_, rfl⟩⟩, nmX10⟩
theorem fk_211_5 : FldOk 211 5 RX10 TX10 10 (2, 0, 14, 20) := ⟨rfl, rfl, inG10, by decide, rfl, rfl, ⟨tyX10, tyX10_ok, fun h => (by cases h), fun _ => Or.inr ⟨_, rfl⟩⟩, nmX10⟩
theorem fk_211_6 : FldOk 211 6 RX10 TX10 10 (2, 0, 14, 20) := ⟨rfl, rfl, inG10, by decide, rfl, rfl, ⟨tyX10, tyX10_ok, fun h => (by cases h), fun _ => Or.inr ⟨_, rfl⟩⟩, nmX10⟩
theorem fk_211_7 : FldOk 211 7 RX10 TX10 10 (2, 0, 14, 8) := ⟨rfl, rfl, inG10, by decide, rfl, rfl, ⟨tyX10, tyX10_ok, fun h => (by cases h), fun _ => Or.inr ⟨_, rfl⟩⟩, nmX10⟩
theorem fk_211_8 : FldOk 211 8 RX10 TX10 10 (2, 0, 14, 8) := ⟨rfl, rfl, inG10, by decide, rfl, rfl, ⟨tyX10, tyX10_ok, fun h => (by cases h), fun _ => Or.inr ⟨_, rfl⟩⟩, nmX10⟩
theorem fk_211_9 : FldOk 211 9 RX10 TX10 10 (2, 0, 14, 6) := ⟨rfl, rfl, inG10, by decide, rfl, rfl, ⟨tyX10, tyX10_ok, fun h => (by cases h), fun _ => Or.inr ⟨_, rfl⟩⟩, nmX10⟩
theorem fk_212_0 : FldOk 212 0 RX11 TX11 19 (2, 0, 10, 0) := ⟨rfl, rfl, inG11, by decide, rfl, rfl, ⟨tyX11, tyX11_ok, fun h => (by cases h), fun _ => Or.inl ⟨_, rfl⟩⟩, nmX11⟩
theorem fk_212_1 : FldOk 212 1 RX11 TX11 19 (2, 0, 8, 0) := ⟨rfl, rfl, inG11, by decide, rfl, rfl, ⟨tyX11, tyX11_ok, fun h => (by cases h), fun _ => Or.inl ⟨_, rfl⟩⟩, nmX11⟩
theorem fk_212_2 : FldOk 212 2 RX11 TX11 19 (2, 0, 11, 0) := ⟨rfl, rfl, inG11, by decide, rfl, rfl, ⟨tyX11, tyX11_ok, fun h => (by cases h), fun _ => Or.inl ⟨_, rfl⟩⟩, nmX11⟩
theorem fk_212_3 : FldOk 212 3 RX11 TX11 19 (2, 0, 7, 0) := ⟨rfl, rfl, inG11, by decide, rfl, rfl, ⟨tyX11, tyX11_ok, fun h => (by cases h), fun _ => Or.inl ⟨_, rfl⟩⟩, nmX11⟩
theorem fk_212_4 : FldOk 212 4 RX11 TX11 19 (2, 0, 3, 0) := ⟨rfl, rfl, inG11, by decide, rfl, rfl, ⟨tyX11, tyX11_ok, fun h => (by cases h), fun _ => Or.inl ⟨_, rfl⟩⟩, nmX11⟩
theorem fk_212_5 : FldOk 212 5 RX11 TX11 19 (2, 0, 5, 0) := ⟨rfl, rfl, inG11, by decide, rfl, rfl, ⟨tyX11, tyX11_ok, fun h => (by cases h), fun _ => Or.inl ⟨_, rfl⟩⟩, nmX11⟩
theorem fk_212_6 : FldOk 212 6 RX11 TX11 19 (2, 0, 1, 0) := ⟨rfl, rfl, inG11, by decide, rfl, rfl, ⟨tyX11, tyX11_ok, fun h => (by cases h), fun _ => Or.inl ⟨_, rfl⟩⟩, nmX11⟩
theorem fk_212_7 : FldOk 212 7 RX11 TX11 19 (2, 0, 14, 8) := ⟨rfl, rfl, inG11, by decide, rfl, rfl, ⟨tyX11, tyX11_ok, fun h => (by cases h), fun _ => Or.inr ⟨_, rfl⟩⟩, nmX11⟩
theorem fk_212_8 : FldOk 212 8 RX11 TX11 19 (2, 0, 15, 10) := ⟨rfl, rfl, inG11, by decide, rfl, rfl, ⟨tyX11, tyX11_ok, fun h => (by cases h), fun _ => Or.inr ⟨_, rfl⟩⟩, nmX11⟩
theorem fk_212_9 : FldOk 212 9 RX11 TX11 19 (2, 0, 15, 10) := ⟨rfl, rfl, inG11, by decide, rfl, rfl, ⟨tyX11, tyX11_ok, fun h => (by cases h), fun _ => Or.inr ⟨_, rfl⟩⟩, nmX11⟩
theorem fk_212_10 : FldOk 212 10 RX11 TX11 19 (2, 0, 9, 0) := ⟨rfl, rfl, inG11, by decide, rfl, rfl, ⟨tyX11, tyX11_ok, fun h => (by cases h), fun _ => Or.inl ⟨_, rfl⟩⟩, nmX11⟩
theorem fk_212_11 : FldOk 212 11 RX11 TX11 19 (2, 0, 9, 0) := ⟨rfl, rfl, inG11, by decide, rfl, rfl, ⟨tyX11, tyX11_ok, fun h => (by cases h), fun _ => Or.inl ⟨_, rfl⟩⟩, nmX11⟩
theorem fk_212_12 : FldOk 212 12 RX11 TX11 19 (2, 0, 6, 0) := ⟨rfl, rfl, inG11, by decide, rfl, rfl, ⟨tyX11, tyX11_ok, fun h => (by cases h), fun _ => Or.inl ⟨_, rfl⟩⟩, nmX11⟩
theorem fk_212_13 : FldOk 212 13 RX11 TX11 19 (2, 0, 6, 0) := ⟨rfl, rfl, inG11, by decide, rfl, rfl, ⟨tyX11, tyX11_ok, fun h => (by cases h), fun _ => Or.inl ⟨_, rfl⟩⟩, nmX11⟩
theorem fk_212_14 : FldOk 212 14 RX11 TX11 19 (2, 0, 2, 0) := ⟨rfl, rfl, inG11, by decide, rfl, rfl, ⟨tyX11, tyX11_ok, fun h => (by cases h), fun _ => Or.inl ⟨_, rfl⟩⟩, nmX11⟩
theorem fk_212_15 : FldOk 212 15 RX11 TX11 19 (2, 0, 2, 0) := ⟨rfl, rfl, inG11, by decide, rfl, rfl, ⟨tyX11, tyX11_ok, fun h => (by cases h), fun _ => Or.inl ⟨_, rfl⟩⟩, nmX11⟩
theorem fk_213_3 : FldOk 213 3 RX12 TX12 54 (0, 0, 0, 0) := ⟨rfl, rfl, inG12, by decide, rfl, rfl, ⟨tyX12, tyX12_ok, fun _ => rfl, fun h => absurd rfl h⟩, nmX12⟩
theorem fk_213_9 : FldOk 213 9 RX12 TX12 54 (2, 0, 14, 600) := ⟨rfl, rfl, inG12, by decide, rfl, rfl, ⟨tyX12, tyX12_ok, fun h => (by cases h), fun _ => Or.inr ⟨_, rfl⟩⟩, nmX12⟩
theorem fk_213_10 : FldOk 213 10 RX12 TX12 54 (2, 0, 14, 2) := ⟨rfl, rfl, inG12, by decide, rfl, rfl, ⟨tyX12, tyX12_ok, fun h => (by cases h), fun _ => Or.inr ⟨_, rfl⟩⟩, nmX12⟩
theorem fk_213_11 : FldOk 213 11 RX12 TX12 54 (2, 0, 14, 3) := ⟨rfl, rfl, inG12, by decide, rfl, rfl, ⟨tyX12, tyX12_ok, fun h => (by cases h), fun _ => Or.inr ⟨_, rfl⟩⟩, nmX12⟩
theorem fk_213_12 : FldOk 213 12 RX12 TX12 54 (2, 0, 14, 3) := ⟨rfl, rfl, inG12, by decide, rfl, rfl, ⟨tyX12, tyX12_ok, fun h => (by cases h), fun _ => Or.inr ⟨_, rfl⟩⟩, nmX12⟩
theorem fk_213_13 : FldOk 213 13 RX12 TX12 54 (2, 0, 14, 4) := ⟨rfl, rfl, inG12, by decide, rfl, rfl, ⟨tyX12, tyX12_ok, fun h => (by cases h), fun _ => Or.inr ⟨_, rfl⟩⟩, nmX12⟩
theorem fk_213_14 : FldOk 213 14 RX12 TX12 54 (2, 0, 14, 4) := ⟨rfl, rfl, inG12, by decide, rfl, rfl, ⟨tyX12, tyX12_ok, fun h => (by cases h), fun _ => Or.inr ⟨_, rfl⟩⟩, nmX12⟩
theorem fk_213_15 : FldOk 213 15 RX12 TX12 54 (2, 0, 14, 10) := ⟨rfl, rfl, inG12, by decide, rfl, rfl, ⟨tyX12, tyX12_ok, fun h => (by cases h), fun _ => Or.inr ⟨_, rfl⟩⟩, nmX12⟩
theorem fk_213_16 : FldOk 213 16 RX12 TX12 54 (2, 0, 14, 10) := ⟨rfl, rfl, inG12, by decide, rfl, rfl, ⟨tyX12, tyX12_ok, fun h => (by cases h), fun _ => Or.inr ⟨_, rfl⟩⟩, nmX12⟩
theorem fk_213_17 : FldOk 213 17 RX12 TX12 54 (2, 0, 14, 6) := ⟨rfl, rfl, inG12, by decide, rfl, rfl, ⟨tyX12, tyX12_ok, fun h => (by cases h), fun _ => Or.inr ⟨_, rfl⟩⟩, nmX12⟩
theorem fk_213_18 : FldOk 213 18 RX12 TX12 54 (2, 0, 14, 6) := ⟨rfl, rfl, inG12, by decide, rfl, rfl, ⟨tyX12, tyX12_ok, fun h => (by cases h), fun _ => Or.inr ⟨_, rfl⟩⟩, nmX12⟩
theorem fk_213_19 : FldOk 213 19 RX12 TX12 54 (2, 0, 1002, 8) := ⟨rfl, rfl, inG12, by decide, rfl, rfl, ⟨tyX12, tyX12_ok, fun h => (by cases h), fun _ => Or.inr ⟨_, rfl⟩⟩, nmX12⟩
theorem fk_213_20 : FldOk 213 20 RX12 TX12 54 (2, 0, 1002, 8) := ⟨rfl, rfl, inG12, by decide, rfl, rfl, ⟨tyX12, tyX12_ok, fun h => (by cases h), fun _ => Or.inr ⟨_, rfl⟩⟩, nmX12⟩
theorem fk_213_21 : FldOk 213 21 RX12 TX12 54 (2, 0, 1002, 6) := ⟨rfl, rfl, inG12, by decide, rfl, rfl, ⟨tyX12, tyX12_ok, fun h => (by cases h), fun _ => Or.inr ⟨_, rfl⟩⟩, nmX12⟩
theorem fk_213_22 : FldOk 213 22 RX12 TX12 54 (2, 0, 1002, 6) := ⟨rfl, rfl, inG12, by decide, rfl, rfl, ⟨tyX12, tyX12_ok, fun h => (by cases h), fun _ => Or.inr ⟨_, rfl⟩⟩, nmX12⟩
theorem fk_213_25 : FldOk 213 25 RX12 TX12 54 (2, 0, 1002, 160) := ⟨rfl, rfl, inG12, by decide, rfl, rfl, ⟨tyX12, tyX12_ok, fun h => (by cases h), fun _ => Or.inr ⟨_, rfl⟩⟩, nmX12⟩
theorem fk_213_26 : FldOk 213 26 RX12 TX12 54 (2, 0, 1002, 160) := ⟨rfl, rfl, inG12, by decide, rfl, rfl, ⟨tyX12, tyX12_ok, fun h => (by cases h), fun _ => Or.inr ⟨_, rfl⟩⟩, nmX12⟩
theorem fk_213_27 : FldOk 213 27 RX12 TX12 54 (2, 0, 1002, 10) := ⟨rfl, rfl, inG12, by decide, rfl, rfl, ⟨tyX12, tyX12_ok, fun h => (by cases h), fun _ => Or.inr ⟨_, rfl⟩⟩, nmX12⟩
theorem fk_213_28 : FldOk 213 28 RX12 TX12 54 (2, 0, 1002, 10) := ⟨rfl, rfl, inG12, by decide, rfl, rfl, ⟨tyX12, tyX12_ok, fun h => (by cases h), fun _ => Or.inr ⟨_, rfl⟩⟩, nmX12⟩
theorem fk_213_29 : FldOk 213 29 RX12 TX12 54 (2, 0, 14, 160) := ⟨rfl, rfl, inG12, by decide, rfl, rfl, ⟨tyX12, tyX12_ok, fun h => (by cases h), fun _ => Or.inr ⟨_, rfl⟩⟩, nmX12⟩
theorem fk_213_30 : FldOk 213 30 RX12 TX12 54 (2, 0, 14, 8) := ⟨rfl, rfl, inG12, by decide, rfl, rfl, ⟨tyX12, tyX12_ok, fun h => (by cases h), fun _ => Or.inr ⟨_, rfl⟩⟩, nmX12⟩
theorem fk_213_31 : FldOk 213 31 RX12 TX12 54 (2, 0, 1005, 80) := ⟨rfl, rfl, inG12, by decide, rfl, rfl, ⟨tyX12, tyX12_ok, fun h => (by cases h), fun _ => Or.inr ⟨_, rfl⟩⟩, nmX12⟩
theorem fk_213_33 : FldOk 213 33 RX12 TX12 54 (2, 0, 14, 105) := ⟨rfl, rfl, inG12, by decide, rfl, rfl, ⟨tyX12, tyX12_ok, fun h => (by cases h), fun _ => Or.inr ⟨_, rfl⟩⟩, nmX12⟩
theorem fk_213_34 : FldOk 213 34 RX12 TX12 54 (2, 0, 14, 105) := ⟨rfl, rfl, inG12, by decide, rfl, rfl, ⟨tyX12, tyX12_ok, fun h => (by cases h), fun _ => Or.inr ⟨_, rfl⟩⟩, nmX12⟩
theorem fk_213_35 : FldOk 213 35 RX12 TX12 54 (2, 0, 1105, 16) := ⟨rfl, rfl, inG12, by decide, rfl, rfl, ⟨tyX12, tyX12_ok, fun h => (by cases h), fun _ => Or.inr ⟨_, rfl⟩⟩, nmX12⟩
theorem fk_213_36 : FldOk 213 36 RX12 TX12 54 (2, 0, 2786, 3) := ⟨rfl, rfl, inG12, by decide, rfl, rfl, ⟨tyX12, tyX12_ok, fun h => (by cases h), fun _ => Or.inr ⟨_, rfl⟩⟩, nmX12⟩
theorem fk_213_44 : FldOk 213 44 RX12 TX12 54 (2, 0, 14, 8) := ⟨rfl, rfl, inG12, by decide, rfl, rfl, ⟨tyX12, tyX12_ok, fun h => (by cases h), fun _ => Or.inr ⟨_, rfl⟩⟩, nmX12⟩
theorem fk_213_45 : FldOk 213 45 RX12 TX12 54 (2, 0, 14, 8) := ⟨rfl, rfl, inG12, by decide, rfl, rfl, ⟨tyX12, tyX12_ok, fun h => (by cases h), fun _ => Or.inr ⟨_, rfl⟩⟩, nmX12⟩
theorem fk_213_46 : FldOk 213 46 RX12 TX12 54 (2, 0, 14, 4) := ⟨rfl, rfl, inG12, by decide, rfl, rfl, ⟨tyX12, tyX12_ok, fun h => (by cases h), fun _ => Or.inr ⟨_, rfl⟩⟩, nmX12⟩
theorem fk_213_47 : FldOk 213 47 RX12 TX12 54 (2, 0, 14, 9) := ⟨rfl, rfl, inG12, by decide, rfl, rfl, ⟨tyX12, tyX12_ok, fun h => (by cases h), fun _ => Or.inr ⟨_, rfl⟩⟩, nmX12⟩
theorem fk_213_49 : FldOk 213 49 RX12 TX12 54 (2, 0, 15, 10) := ⟨rfl, rfl, inG12, by decide, rfl, rfl, ⟨tyX12, tyX12_ok, fun h => (by cases h), fun _ => Or.inr ⟨_, rfl⟩⟩, nmX12⟩
theorem fk_213_50 : FldOk 213 50 RX12 TX12 54 (2, 0, 15, 10) := ⟨rfl, rfl, inG12, by decide, rfl, rfl, ⟨tyX12, tyX12_ok, fun h => (by cases h), fun _ => Or.inr ⟨_, rfl⟩⟩, nmX12⟩
theorem lk_RX11_10 : LnkOk RX11 10 TX11 0 := Or.inl (List.mem_of_getElem? (i := 460) (by decide +kernel))
theorem lk_RX11_19 : LnkOk RX11 19 TX11 1 := Or.inl (List.mem_of_getElem? (i := 461) (by decide +kernel))
theorem lk_RX11_26 : LnkOk RX11 26 TX11 2 := Or.inl (List.mem_of_getElem? (i := 462) (by decide +kernel))
theorem lk_RX11_33 : LnkOk RX11 33 TX11 3 := Or.inl (List.mem_of_getElem? (i := 463) (by decide +kernel))
theorem lk_RX11_40 : LnkOk RX11 40 TX11 4 := Or.inl (List.mem_of_getElem? (i := 464) (by decide +kernel))
theorem lk_RX11_47 : LnkOk RX11 47 TX11 5 := Or.inl (List.mem_of_getElem? (i := 465) (by decide +kernel))
theorem lk_RX11_54 : LnkOk RX11 54 TX11 6 := Or.inl (List.mem_of_getElem? (i := 466) (by decide +kernel))
theorem lk_RX11_58 : LnkOk RX11 58 TX11 7 := Or.inl (List.mem_of_getElem? (i := 467) (by decide +kernel))
theorem lk_RX11_62 : LnkOk RX11 62 TX11 8 := Or.inl (List.mem_of_getElem? (i := 468) (by decide +kernel))
theorem lk_RX11_66 : LnkOk RX11 66 TX11 9 := Or.inl (List.mem_of_getElem? (i := 469) (by decide +kernel))
theorem lk_RX11_72 : LnkOk RX11 72 TX11 10 := Or.inl (List.mem_of_getElem? (i := 470) (by decide +kernel))
theorem lk_RX11_76 : LnkOk RX11 76 TX11 11 := Or.inl (List.mem_of_getElem? (i := 471) (by decide +kernel))
theorem lk_RX11_82 : LnkOk RX11 82 TX11 12 := Or.inl (List.mem_of_getElem? (i := 472) (by decide +kernel))
theorem lk_RX11_86 : LnkOk RX11 86 TX11 13 := Or.inl (List.mem_of_getElem? (i := 473) (by decide +kernel))
theorem lk_RX11_92 : LnkOk RX11 92 TX11 14 := Or.inl (List.mem_of_getElem? (i := 474) (by decide +kernel))
theorem lk_RX11_96 : LnkOk RX11 96 TX11 15 := Or.inl (List.mem_of_getElem? (i := 475) (by decide +kernel))
theorem lk_RX11_111 : LnkOk RX11 111 TX9 1 := Or.inr ⟨"ChalkWall", List.mem_of_getElem? (i := 136) (by decide +kernel)⟩
theorem lk_RX11_144 : LnkOk RX11 144 TX11 16 := Or.inl (List.mem_of_getElem? (i := 476) (by decide +kernel))
theorem lk_RX11_147 : LnkOk RX11 147 TX8 2 := Or.inr ⟨"ChalkWall", List.mem_of_getElem? (i := 365) (by decide +kernel)⟩
theorem lk_RX11_157 : LnkOk RX11 157 TX6 1 := Or.inr ⟨"ChalkWall", List.mem_of_getElem? (i := 248) (by decide +kernel)⟩
theorem lk_RX11_171 : LnkOk RX11 171 TX7 7 := Or.inr ⟨"ChalkWall", List.mem_of_getElem? (i := 170) (by decide +kernel)⟩
theorem lk_RX11_174 : LnkOk RX11 174 TX7 6 := Or.inr ⟨"ChalkWall", List.mem_of_getElem? (i := 168) (by decide +kernel)⟩
theorem lk_RX11_181 : LnkOk RX11 181 TX9 5 := Or.inr ⟨"ChalkWall", List.mem_of_getElem? (i := 141) (by decide +kernel)⟩
theorem lk_RX11_188 : LnkOk RX11 188 TX8 0 := Or.inr ⟨"ChalkWall", List.mem_of_getElem? (i := 356) (by decide +kernel)⟩
theorem lk_RX11_191 : LnkOk RX11 191 TX8 5 := Or.inr ⟨"ChalkWall", List.mem_of_getElem? (i := 378) (by decide +kernel)⟩
theorem lk_RX11_194 : LnkOk RX11 194 TX10 0 := Or.inr ⟨"ChalkWall", List.mem_of_getElem? (i := 196) (by decide +kernel)⟩
theorem lk_RX11_197 : LnkOk RX11 197 TX10 2 := Or.inr ⟨"ChalkWall", List.mem_of_getElem? (i := 200) (by decide +kernel)⟩
theorem lk_RX11_206 : LnkOk RX11 206 TX10 1 := Or.inr ⟨"ChalkWall", List.mem_of_getElem? (i := 198) (by decide +kernel)⟩
theorem lk_RX11_216 : LnkOk RX11 216 TX8 1 := Or.inr ⟨"ChalkWall", List.mem_of_getElem? (i := 359) (by decide +kernel)⟩
theorem lk_RX11_229 : LnkOk RX11 229 TX10 7 := Or.inr ⟨"ChalkWall", List.mem_of_getElem? (i := 210) (by decide +kernel)⟩
theorem lk_RX11_232 : LnkOk RX11 232 TX8 4 := Or.inr ⟨"ChalkWall", List.mem_of_getElem? (i := 373) (by decide +kernel)⟩
theorem lk_RX11_235 : LnkOk RX11 235 TX8 3 := Or.inr ⟨"ChalkWall", List.mem_of_getElem? (i := 369) (by decide +kernel)⟩
theorem lk_RX11_236 : LnkOk RX11 236 TX10 8 := Or.inr ⟨"ChalkWall", List.mem_of_getElem? (i := 212) (by decide +kernel)⟩
theorem lk_RX11_245 : LnkOk RX11 245 TX8 6 := Or.inr ⟨"ChalkWall", List.mem_of_getElem? (i := 381) (by decide +kernel)⟩
theorem lk_RX11_248 : LnkOk RX11 248 TX8 7 := Or.inr ⟨"ChalkWall", List.mem_of_getElem? (i := 384) (by decide +kernel)⟩
theorem lk_RX11_251 : LnkOk RX11 251 TX10 9 := Or.inr ⟨"ChalkWall", List.mem_of_getElem? (i := 214) (by decide +kernel)⟩
theorem lk_RX11_252 : LnkOk RX11 252 TX8 8 := Or.inr ⟨"ChalkWall", List.mem_of_getElem? (i := 387) (by decide +kernel)⟩
theorem lk_RX11_258 : LnkOk RX11 258 TX10 3 := Or.inr ⟨"ChalkWall", List.mem_of_getElem? (i := 202) (by decide +kernel)⟩
theorem lk_RX11_261 : LnkOk RX11 261 TX10 4 := Or.inr ⟨"ChalkWall", List.mem_of_getElem? (i := 204) (by decide +kernel)⟩
theorem lk_RX11_264 : LnkOk RX11 264 TX10 5 := Or.inr ⟨"ChalkWall", List.mem_of_getElem? (i := 206) (by decide +kernel)⟩
theorem lk_RX11_267 : LnkOk RX11 267 TX10 6 := Or.inr ⟨"ChalkWall", List.mem_of_getElem? (i := 208) (by decide +kernel)⟩
theorem lk_RX11_273 : LnkOk RX11 273 TX8 9 := Or.inr ⟨"ChalkWall", List.mem_of_getElem? (i := 390) (by decide +kernel)⟩
theorem lk_RX11_308 : LnkOk RX11 308 TX2 5 := Or.inr ⟨"ChalkWall", List.mem_of_getElem? (i := 274) (by decide +kernel)⟩
theorem lk_RX11_311 : LnkOk RX11 311 TX2 2 := Or.inr ⟨"ChalkWall", List.mem_of_getElem? (i := 270) (by decide +kernel)⟩
theorem lk_RX11_318 : LnkOk RX11 318 TX4 1 := Or.inr ⟨"ChalkWall", List.mem_of_getElem? (i := 296) (by decide +kernel)⟩
theorem lk_RX11_321 : LnkOk RX11 321 TX4 2 := Or.inr ⟨"ChalkWall", List.mem_of_getElem? (i := 298) (by decide +kernel)⟩
theorem lk_RX11_324 : LnkOk RX11 324 TX4 3 := Or.inr ⟨"ChalkWall", List.mem_of_getElem? (i := 300) (by decide +kernel)⟩
theorem lk_RX11_365 : LnkOk RX11 365 TX0 2 := Or.inr ⟨"ChalkWall", List.mem_of_getElem? (i := 321) (by decide +kernel)⟩
theorem lk_RX11_366 : LnkOk RX11 366 TX0 3 := Or.inr ⟨"ChalkWall", List.mem_of_getElem? (i := 323) (by decide +kernel)⟩
theorem lk_RX11_368 : LnkOk RX11 368 TX0 4 := Or.inr ⟨"ChalkWall", List.mem_of_getElem? (i := 325) (by decide +kernel)⟩
theorem lk_RX11_371 : LnkOk RX11 371 TX0 5 := Or.inr ⟨"ChalkWall", List.mem_of_getElem? (i := 327) (by decide +kernel)⟩
theorem lk_RX11_380 : LnkOk RX11 380 TX6 3 := Or.inr ⟨"ChalkWall", List.mem_of_getElem? (i := 251) (by decide +kernel)⟩
theorem lk_RX11_386 : LnkOk RX11 386 TX11 17 := Or.inl (List.mem_of_getElem? (i := 477) (by decide +kernel))
theorem lk_RX11_389 : LnkOk RX11 389 TX11 18 := Or.inl (List.mem_of_getElem? (i := 478) (by decide +kernel))
theorem lk_RX0_12 : LnkOk RX0 12 TX0 0 := Or.inl (List.mem_of_getElem? (i := 318) (by decide +kernel))
theorem lk_RX0_22 : LnkOk RX0 22 TX0 1 := Or.inl (List.mem_of_getElem? (i := 319) (by decide +kernel))
theorem lk_RX0_26 : LnkOk RX0 26 TX0 2 := Or.inl (List.mem_of_getElem? (i := 320) (by decide +kernel))
theorem lk_RX0_29 : LnkOk RX0 29 TX0 3 := Or.inl (List.mem_of_getElem? (i := 322) (by decide +kernel))
theorem lk_RX0_32 : LnkOk RX0 32 TX0 4 := Or.inl (List.mem_of_getElem? (i := 324) (by decide +kernel))
theorem lk_RX0_35 : LnkOk RX0 35 TX8 5 := Or.inr ⟨"ChalkWall", List.mem_of_getElem? (i := 375) (by decide +kernel)⟩
theorem lk_RX0_40 : LnkOk RX0 40 TX8 2 := Or.inr ⟨"ChalkWall", List.mem_of_getElem? (i := 363) (by decide +kernel)⟩
theorem lk_RX0_43 : LnkOk RX0 43 TX8 0 := Or.inr ⟨"ChalkWall", List.mem_of_getElem? (i := 353) (by decide +kernel)⟩
theorem lk_RX0_58 : LnkOk RX0 58 TX0 5 := Or.inl (List.mem_of_getElem? (i := 326) (by decide +kernel))
theorem lk_RX1_9 : LnkOk RX1 9 TX1 0 := Or.inl (List.mem_of_getElem? (i := 443) (by decide +kernel))
theorem lk_RX1_15 : LnkOk RX1 15 TX1 1 := Or.inl (List.mem_of_getElem? (i := 445) (by decide +kernel))
theorem lk_RX2_9 : LnkOk RX2 9 TX2 0 := Or.inl (List.mem_of_getElem? (i := 267) (by decide +kernel))
theorem lk_RX2_15 : LnkOk RX2 15 TX2 1 := Or.inl (List.mem_of_getElem? (i := 268) (by decide +kernel))
theorem lk_RX2_18 : LnkOk RX2 18 TX2 2 := Or.inl (List.mem_of_getElem? (i := 269) (by decide +kernel))
theorem lk_RX2_21 : LnkOk RX2 21 TX2 3 := Or.inl (List.mem_of_getElem? (i := 271) (by decide +kernel))
theorem lk_RX2_25 : LnkOk RX2 25 TX2 4 := Or.inl (List.mem_of_getElem? (i := 272) (by decide +kernel))
theorem lk_RX2_29 : LnkOk RX2 29 TX2 5 := Or.inl (List.mem_of_getElem? (i := 273) (by decide +kernel))
theorem lk_RX2_32 : LnkOk RX2 32 TX8 0 := Or.inr ⟨"ChalkWall", List.mem_of_getElem? (i := 352) (by decide +kernel)⟩
theorem lk_RX2_37 : LnkOk RX2 37 TX8 1 := Or.inr ⟨"ChalkWall", List.mem_of_getElem? (i := 358) (by decide +kernel)⟩
theorem lk_RX2_46 : LnkOk RX2 46 TX8 2 := Or.inr ⟨"ChalkWall", List.mem_of_getElem? (i := 364) (by decide +kernel)⟩
theorem lk_RX2_51 : LnkOk RX2 51 TX8 4 := Or.inr ⟨"ChalkWall", List.mem_of_getElem? (i := 371) (by decide +kernel)⟩
theorem lk_RX3_11 : LnkOk RX3 11 TX3 2 := Or.inl (List.mem_of_getElem? (i := 610) (by decide +kernel))
theorem lk_RX3_17 : LnkOk RX3 17 TX3 0 := Or.inl (List.mem_of_getElem? (i := 606) (by decide +kernel))
theorem lk_RX3_21 : LnkOk RX3 21 TX3 1 := Or.inl (List.mem_of_getElem? (i := 608) (by decide +kernel))
theorem lk_RX4_9 : LnkOk RX4 9 TX4 0 := Or.inl (List.mem_of_getElem? (i := 294) (by decide +kernel))
theorem lk_RX4_15 : LnkOk RX4 15 TX4 1 := Or.inl (List.mem_of_getElem? (i := 295) (by decide +kernel))
theorem lk_RX4_19 : LnkOk RX4 19 TX4 2 := Or.inl (List.mem_of_getElem? (i := 297) (by decide +kernel))
theorem lk_RX4_22 : LnkOk RX4 22 TX4 3 := Or.inl (List.mem_of_getElem? (i := 299) (by decide +kernel))
theorem lk_RX4_29 : LnkOk RX4 29 TX1 0 := Or.inr ⟨"ChalkWall", List.mem_of_getElem? (i := 444) (by decide +kernel)⟩
theorem lk_RX4_34 : LnkOk RX4 34 TX1 1 := Or.inr ⟨"ChalkWall", List.mem_of_getElem? (i := 446) (by decide +kernel)⟩
theorem lk_RX5_9 : LnkOk RX5 9 TX5 0 := Or.inl (List.mem_of_getElem? (i := 427) (by decide +kernel))
theorem lk_RX5_15 : LnkOk RX5 15 TX5 1 := Or.inl (List.mem_of_getElem? (i := 428) (by decide +kernel))
theorem lk_RX5_21 : LnkOk RX5 21 TX5 2 := Or.inl (List.mem_of_getElem? (i := 429) (by decide +kernel))
theorem lk_RX6_11 : LnkOk RX6 11 TX6 0 := Or.inl (List.mem_of_getElem? (i := 246) (by decide +kernel))
theorem lk_RX6_19 : LnkOk RX6 19 TX6 2 := Or.inl (List.mem_of_getElem? (i := 249) (by decide +kernel))
theorem lk_RX6_23 : LnkOk RX6 23 TX6 1 := Or.inl (List.mem_of_getElem? (i := 247) (by decide +kernel))
theorem lk_RX6_27 : LnkOk RX6 27 TX6 3 := Or.inl (List.mem_of_getElem? (i := 250) (by decide +kernel))
theorem lk_RX6_41 : LnkOk RX6 41 TX3 2 := Or.inr ⟨"ChalkWall", List.mem_of_getElem? (i := 611) (by decide +kernel)⟩
theorem lk_RX6_46 : LnkOk RX6 46 TX3 0 := Or.inr ⟨"ChalkWall", List.mem_of_getElem? (i := 607) (by decide +kernel)⟩
theorem lk_RX6_50 : LnkOk RX6 50 TX3 1 := Or.inr ⟨"ChalkWall", List.mem_of_getElem? (i := 609) (by decide +kernel)⟩
theorem lk_RX7_11 : LnkOk RX7 11 TX7 0 := Or.inl (List.mem_of_getElem? (i := 162) (by decide +kernel))
theorem lk_RX7_15 : LnkOk RX7 15 TX7 1 := Or.inl (List.mem_of_getElem? (i := 163) (by decide +kernel))
theorem lk_RX7_18 : LnkOk RX7 18 TX7 2 := Or.inl (List.mem_of_getElem? (i := 164) (by decide +kernel))
theorem lk_RX7_21 : LnkOk RX7 21 TX7 3 := Or.inl (List.mem_of_getElem? (i := 165) (by decide +kernel))
theorem lk_RX7_24 : LnkOk RX7 24 TX7 4 := Or.inl (List.mem_of_getElem? (i := 166) (by decide +kernel))
theorem lk_RX7_62 : LnkOk RX7 62 TX8 5 := Or.inr ⟨"ChalkWall", List.mem_of_getElem? (i := 377) (by decide +kernel)⟩
theorem lk_RX7_71 : LnkOk RX7 71 TX8 2 := Or.inr ⟨"ChalkWall", List.mem_of_getElem? (i := 366) (by decide +kernel)⟩
theorem lk_RX7_74 : LnkOk RX7 74 TX8 0 := Or.inr ⟨"ChalkWall", List.mem_of_getElem? (i := 354) (by decide +kernel)⟩
theorem lk_RX7_96 : LnkOk RX7 96 TX7 5 := Or.inl (List.mem_of_getElem? (i := 167) (by decide +kernel))
theorem lk_RX7_99 : LnkOk RX7 99 TX7 6 := Or.inl (List.mem_of_getElem? (i := 169) (by decide +kernel))
theorem lk_RX7_102 : LnkOk RX7 102 TX7 7 := Or.inl (List.mem_of_getElem? (i := 171) (by decide +kernel))
theorem lk_RX8_9 : LnkOk RX8 9 TX8 1 := Or.inl (List.mem_of_getElem? (i := 357) (by decide +kernel))
theorem lk_RX8_15 : LnkOk RX8 15 TX8 3 := Or.inl (List.mem_of_getElem? (i := 367) (by decide +kernel))
theorem lk_RX8_18 : LnkOk RX8 18 TX8 4 := Or.inl (List.mem_of_getElem? (i := 370) (by decide +kernel))
theorem lk_RX8_21 : LnkOk RX8 21 TX8 6 := Or.inl (List.mem_of_getElem? (i := 379) (by decide +kernel))
theorem lk_RX8_24 : LnkOk RX8 24 TX8 7 := Or.inl (List.mem_of_getElem? (i := 382) (by decide +kernel))
theorem lk_RX8_27 : LnkOk RX8 27 TX8 8 := Or.inl (List.mem_of_getElem? (i := 385) (by decide +kernel))
theorem lk_RX8_30 : LnkOk RX8 30 TX8 9 := Or.inl (List.mem_of_getElem? (i := 388) (by decide +kernel))
theorem lk_RX8_36 : LnkOk RX8 36 TX8 0 := Or.inl (List.mem_of_getElem? (i := 351) (by decide +kernel))
theorem lk_RX8_40 : LnkOk RX8 40 TX8 2 := Or.inl (List.mem_of_getElem? (i := 361) (by decide +kernel))
theorem lk_RX8_43 : LnkOk RX8 43 TX8 5 := Or.inl (List.mem_of_getElem? (i := 374) (by decide +kernel))
theorem lk_RX9_9 : LnkOk RX9 9 TX9 0 := Or.inl (List.mem_of_getElem? (i := 134) (by decide +kernel))
theorem lk_RX9_15 : LnkOk RX9 15 TX9 5 := Or.inl (List.mem_of_getElem? (i := 140) (by decide +kernel))
theorem lk_RX9_19 : LnkOk RX9 19 TX9 1 := Or.inl (List.mem_of_getElem? (i := 135) (by decide +kernel))
theorem lk_RX9_28 : LnkOk RX9 28 TX9 2 := Or.inl (List.mem_of_getElem? (i := 137) (by decide +kernel))
theorem lk_RX9_31 : LnkOk RX9 31 TX9 3 := Or.inl (List.mem_of_getElem? (i := 138) (by decide +kernel))
theorem lk_RX9_34 : LnkOk RX9 34 TX9 4 := Or.inl (List.mem_of_getElem? (i := 139) (by decide +kernel))
theorem lk_RX10_9 : LnkOk RX10 9 TX10 3 := Or.inl (List.mem_of_getElem? (i := 201) (by decide +kernel))
theorem lk_RX10_15 : LnkOk RX10 15 TX10 4 := Or.inl (List.mem_of_getElem? (i := 203) (by decide +kernel))
theorem lk_RX10_18 : LnkOk RX10 18 TX10 5 := Or.inl (List.mem_of_getElem? (i := 205) (by decide +kernel))
theorem lk_RX10_21 : LnkOk RX10 21 TX10 6 := Or.inl (List.mem_of_getElem? (i := 207) (by decide +kernel))
theorem lk_RX10_24 : LnkOk RX10 24 TX10 7 := Or.inl (List.mem_of_getElem? (i := 209) (by decide +kernel))
theorem lk_RX10_27 : LnkOk RX10 27 TX10 8 := Or.inl (List.mem_of_getElem? (i := 211) (by decide +kernel))
theorem lk_RX10_30 : LnkOk RX10 30 TX10 9 := Or.inl (List.mem_of_getElem? (i := 213) (by decide +kernel))
theorem lk_RX10_33 : LnkOk RX10 33 TX10 0 := Or.inl (List.mem_of_getElem? (i := 195) (by decide +kernel))
theorem lk_RX10_37 : LnkOk RX10 37 TX10 1 := Or.inl (List.mem_of_getElem? (i := 197) (by decide +kernel))
theorem lk_RX10_40 : LnkOk RX10 40 TX8 2 := Or.inr ⟨"ChalkWall", List.mem_of_getElem? (i := 362) (by decide +kernel)⟩
theorem lk_RX10_45 : LnkOk RX10 45 TX8 3 := Or.inr ⟨"ChalkWall", List.mem_of_getElem? (i := 368) (by decide +kernel)⟩
theorem lk_RX10_50 : LnkOk RX10 50 TX10 2 := Or.inl (List.mem_of_getElem? (i := 199) (by decide +kernel))
theorem lk_RX10_59 : LnkOk RX10 59 TX8 5 := Or.inr ⟨"ChalkWall", List.mem_of_getElem? (i := 376) (by decide +kernel)⟩
theorem lk_RX10_62 : LnkOk RX10 62 TX8 7 := Or.inr ⟨"ChalkWall", List.mem_of_getElem? (i := 383) (by decide +kernel)⟩
theorem lk_RX10_63 : LnkOk RX10 63 TX8 4 := Or.inr ⟨"ChalkWall", List.mem_of_getElem? (i := 372) (by decide +kernel)⟩
theorem lk_RX10_66 : LnkOk RX10 66 TX8 8 := Or.inr ⟨"ChalkWall", List.mem_of_getElem? (i := 386) (by decide +kernel)⟩
theorem lk_RX10_73 : LnkOk RX10 73 TX8 6 := Or.inr ⟨"ChalkWall", List.mem_of_getElem? (i := 380) (by decide +kernel)⟩
theorem lk_RX10_80 : LnkOk RX10 80 TX8 0 := Or.inr ⟨"ChalkWall", List.mem_of_getElem? (i := 355) (by decide +kernel)⟩
theorem lk_RX10_87 : LnkOk RX10 87 TX8 9 := Or.inr ⟨"ChalkWall", List.mem_of_getElem? (i := 389) (by decide +kernel)⟩
theorem lk_RX10_96 : LnkOk RX10 96 TX8 1 := Or.inr ⟨"ChalkWall", List.mem_of_getElem? (i := 360) (by decide +kernel)⟩
theorem lk_RX12_9 : LnkOk RX12 9 TX12 3 := Or.inl (List.mem_of_getElem? (i := 1419) (by decide +kernel))
theorem lk_RX12_13 : LnkOk RX12 13 TX12 9 := Or.inl (List.mem_of_getElem? (i := 1425) (by decide +kernel))
theorem lk_RX12_17 : LnkOk RX12 17 TX12 10 := Or.inl (List.mem_of_getElem? (i := 1426) (by decide +kernel))
theorem lk_RX12_20 : LnkOk RX12 20 TX12 11 := Or.inl (List.mem_of_getElem? (i := 1427) (by decide +kernel))
theorem lk_RX12_23 : LnkOk RX12 23 TX12 12 := Or.inl (List.mem_of_getElem? (i := 1428) (by decide +kernel))
theorem lk_RX12_26 : LnkOk RX12 26 TX12 13 := Or.inl (List.mem_of_getElem? (i := 1429) (by decide +kernel))
theorem lk_RX12_29 : LnkOk RX12 29 TX12 14 := Or.inl (List.mem_of_getElem? (i := 1430) (by decide +kernel))
theorem lk_RX12_32 : LnkOk RX12 32 TX12 15 := Or.inl (List.mem_of_getElem? (i := 1431) (by decide +kernel))
theorem lk_RX12_35 : LnkOk RX12 35 TX12 16 := Or.inl (List.mem_of_getElem? (i := 1432) (by decide +kernel))
theorem lk_RX12_38 : LnkOk RX12 38 TX12 17 := Or.inl (List.mem_of_getElem? (i := 1433) (by decide +kernel))
theorem lk_RX12_41 : LnkOk RX12 41 TX12 18 := Or.inl (List.mem_of_getElem? (i := 1434) (by decide +kernel))
theorem lk_RX12_46 : LnkOk RX12 46 TX12 19 := Or.inl (List.mem_of_getElem? (i := 1435) (by decide +kernel))
theorem lk_RX12_49 : LnkOk RX12 49 TX12 20 := Or.inl (List.mem_of_getElem? (i := 1436) (by decide +kernel))
theorem lk_RX12_52 : LnkOk RX12 52 TX12 21 := Or.inl (List.mem_of_getElem? (i := 1437) (by decide +kernel))
theorem lk_RX12_55 : LnkOk RX12 55 TX12 22 := Or.inl (List.mem_of_getElem? (i := 1438) (by decide +kernel))
theorem lk_RX12_58 : LnkOk RX12 58 TX12 25 := Or.inl (List.mem_of_getElem? (i := 1441) (by decide +kernel))
theorem lk_RX12_61 : LnkOk RX12 61 TX12 26 := Or.inl (List.mem_of_getElem? (i := 1442) (by decide +kernel))
theorem lk_RX12_64 : LnkOk RX12 64 TX12 27 := Or.inl (List.mem_of_getElem? (i := 1443) (by decide +kernel))
theorem lk_RX12_67 : LnkOk RX12 67 TX12 28 := Or.inl (List.mem_of_getElem? (i := 1444) (by decide +kernel))
theorem lk_RX12_70 : LnkOk RX12 70 TX12 29 := Or.inl (List.mem_of_getElem? (i := 1445) (by decide +kernel))
theorem lk_RX12_73 : LnkOk RX12 73 TX12 30 := Or.inl (List.mem_of_getElem? (i := 1446) (by decide +kernel))
theorem lk_RX12_76 : LnkOk RX12 76 TX12 31 := Or.inl (List.mem_of_getElem? (i := 1447) (by decide +kernel))
theorem lk_RX12_79 : LnkOk RX12 79 TX12 33 := Or.inl (List.mem_of_getElem? (i := 1449) (by decide +kernel))
theorem lk_RX12_82 : LnkOk RX12 82 TX12 34 := Or.inl (List.mem_of_getElem? (i := 1450) (by decide +kernel))
theorem lk_RX12_85 : LnkOk RX12 85 TX12 35 := Or.inl (List.mem_of_getElem? (i := 1451) (by decide +kernel))
theorem lk_RX12_88 : LnkOk RX12 88 TX12 36 := Or.inl (List.mem_of_getElem? (i := 1452) (by decide +kernel))
theorem lk_RX12_91 : LnkOk RX12 91 TX12 44 := Or.inl (List.mem_of_getElem? (i := 1460) (by decide +kernel))
theorem lk_RX12_94 : LnkOk RX12 94 TX12 45 := Or.inl (List.mem_of_getElem? (i := 1461) (by decide +kernel))
theorem lk_RX12_97 : LnkOk RX12 97 TX12 46 := Or.inl (List.mem_of_getElem? (i := 1462) (by decide +kernel))
theorem lk_RX12_100 : LnkOk RX12 100 TX12 47 := Or.inl (List.mem_of_getElem? (i := 1463) (by decide +kernel))
theorem lk_RX12_103 : LnkOk RX12 103 TX12 49 := Or.inl (List.mem_of_getElem? (i := 1465) (by decide +kernel))
theorem lk_RX12_107 : LnkOk RX12 107 TX12 50 := Or.inl (List.mem_of_getElem? (i := 1466) (by decide +kernel))
theorem lk_RX12_116 : LnkOk RX12 116 TX12 0 := Or.inl (List.mem_of_getElem? (i := 1416) (by decide +kernel))
theorem lk_RX12_119 : LnkOk RX12 119 TX12 1 := Or.inl (List.mem_of_getElem? (i := 1417) (by decide +kernel))
theorem lk_RX12_122 : LnkOk RX12 122 TX12 2 := Or.inl (List.mem_of_getElem? (i := 1418) (by decide +kernel))
theorem lk_RX12_125 : LnkOk RX12 125 TX12 4 := Or.inl (List.mem_of_getElem? (i := 1420) (by decide +kernel))
theorem lk_RX12_132 : LnkOk RX12 132 TX12 5 := Or.inl (List.mem_of_getElem? (i := 1421) (by decide +kernel))
theorem lk_RX12_135 : LnkOk RX12 135 TX12 6 := Or.inl (List.mem_of_getElem? (i := 1422) (by decide +kernel))
theorem lk_RX12_172 : LnkOk RX12 172 TX12 7 := Or.inl (List.mem_of_getElem? (i := 1423) (by decide +kernel))
theorem lk_RX12_175 : LnkOk RX12 175 TX12 8 := Or.inl (List.mem_of_getElem? (i := 1424) (by decide +kernel))
theorem lk_RX12_213 : LnkOk RX12 213 TX12 23 := Or.inl (List.mem_of_getElem? (i := 1439) (by decide +kernel))
theorem lk_RX12_216 : LnkOk RX12 216 TX12 37 := Or.inl (List.mem_of_getElem? (i := 1453) (by decide +kernel))
theorem lk_RX12_219 : LnkOk RX12 219 TX12 38 := Or.inl (List.mem_of_getElem? (i := 1454) (by decide +kernel))
theorem lk_RX12_222 : LnkOk RX12 222 TX12 39 := Or.inl (List.mem_of_getElem? (i := 1455) (by decide +kernel))
theorem lk_RX12_225 : LnkOk RX12 225 TX12 40 := Or.inl (List.mem_of_getElem? (i := 1456) (by decide +kernel))
theorem lk_RX12_228 : LnkOk RX12 228 TX12 24 := Or.inl (List.mem_of_getElem? (i := 1440) (by decide +kernel))
theorem lk_RX12_272 : LnkOk RX12 272 TX12 32 := Or.inl (List.mem_of_getElem? (i := 1448) (by decide +kernel))
theorem lk_RX12_307 : LnkOk RX12 307 TX12 42 := Or.inl (List.mem_of_getElem? (i := 1458) (by decide +kernel))
theorem lk_RX12_317 : LnkOk RX12 317 TX12 43 := Or.inl (List.mem_of_getElem? (i := 1459) (by decide +kernel))
theorem lk_RX12_364 : LnkOk RX12 364 TX12 48 := Or.inl (List.mem_of_getElem? (i := 1464) (by decide +kernel))
theorem lk_RX12_394 : LnkOk RX12 394 TX12 51 := Or.inl (List.mem_of_getElem? (i := 1467) (by decide +kernel))
theorem lk_RX12_398 : LnkOk RX12 398 TX12 52 := Or.inl (List.mem_of_getElem? (i := 1468) (by decide +kernel))
theorem lk_RX12_401 : LnkOk RX12 401 TX12 53 := Or.inl (List.mem_of_getElem? (i := 1469) (by decide +kernel))
theorem lk_RX12_418 : LnkOk RX12 418 TX12 41 := Or.inl (List.mem_of_getElem? (i := 1457) (by decide +kernel))
