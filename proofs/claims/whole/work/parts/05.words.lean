/-! # words (printed by wip/gen/build.py) -/
theorem inG0 : ∀ w ∈ u_ws RX0 TX0 6, w ∈ gtb := by decide +kernel
theorem inG1 : ∀ w ∈ u_ws RX1 TX1 2, w ∈ gtb := by decide +kernel
theorem inG2 : ∀ w ∈ u_ws RX2 TX2 6, w ∈ gtb := by decide +kernel
theorem inG3 : ∀ w ∈ u_ws RX3 TX3 3, w ∈ gtb := by decide +kernel
theorem inG4 : ∀ w ∈ u_ws RX4 TX4 4, w ∈ gtb := by decide +kernel
theorem inG5 : ∀ w ∈ u_ws RX5 TX5 3, w ∈ gtb := by decide +kernel
theorem inG6 : ∀ w ∈ u_ws RX6 TX6 4, w ∈ gtb := by decide +kernel
theorem inG7 : ∀ w ∈ u_ws RX7 TX7 8, w ∈ gtb := by decide +kernel
theorem inG8 : ∀ w ∈ u_ws RX8 TX8 10, w ∈ gtb := by decide +kernel
theorem inG9 : ∀ w ∈ u_ws RX9 TX9 6, w ∈ gtb := by decide +kernel
theorem inG10 : ∀ w ∈ u_ws RX10 TX10 10, w ∈ gtb := by decide +kernel
theorem inG11 : ∀ w ∈ u_ws RX11 TX11 19, w ∈ gtb := by decide +kernel
theorem inG12 : ∀ w ∈ u_ws RX12 TX12 54, w ∈ gtb := by decide +kernel
theorem fk_1_0 : FldOk 1 0 RX0 TX0 6 (1, 1, 11, 0) := ⟨rfl, rfl, inG0, by decide, rfl, rfl, ⟨tyX0, tyX0_ok, fun h => (by cases h), fun _ => Or.inl ⟨_, rfl⟩⟩, nmX0⟩
theorem fk_1_1 : FldOk 1 1 RX0 TX0 6 (0, 0, 0, 0) := ⟨rfl, rfl, inG0, by decide, rfl, rfl, ⟨tyX0, tyX0_ok, fun _ => rfl, fun h => absurd rfl h⟩, nmX0⟩
theorem fk_1_2 : FldOk 1 2 RX0 TX0 6 (0, 0, 0, 0) := ⟨rfl, rfl, inG0, by decide, rfl, rfl, ⟨tyX0, tyX0_ok, fun _ => rfl, fun h => absurd rfl h⟩, nmX0⟩
theorem fk_1_3 : FldOk 1 3 RX0 TX0 6 (0, 0, 0, 0) := ⟨rfl, rfl, inG0, by decide, rfl, rfl, ⟨tyX0, tyX0_ok, fun _ => rfl, fun h => absurd rfl h⟩, nmX0⟩
theorem fk_1_4 : FldOk 1 4 RX0 TX0 6 (0, 0, 0, 0) := ⟨rfl, rfl, inG0, by decide, rfl, rfl, ⟨tyX0, tyX0_ok, fun _ => rfl, fun h => absurd rfl h⟩, nmX0⟩
theorem fk_9_5 : FldOk 9 5 RX8 TX8 10 (0, 0, 0, 0) := ⟨rfl, rfl, inG8, by decide, rfl, rfl, ⟨tyX8, tyX8_ok, fun _ => rfl, fun h => absurd rfl h⟩, nmX8⟩
theorem fk_9_2 : FldOk 9 2 RX8 TX8 10 (0, 0, 0, 0) := ⟨rfl, rfl, inG8, by decide, rfl, rfl, ⟨tyX8, tyX8_ok, fun _ => rfl, fun h => absurd rfl h⟩, nmX8⟩
theorem fk_9_0 : FldOk 9 0 RX8 TX8 10 (0, 0, 0, 0) := ⟨rfl, rfl, inG8, by decide, rfl, rfl, ⟨tyX8, tyX8_ok, fun _ => rfl, fun h => absurd rfl h⟩, nmX8⟩
theorem fk_1_5 : FldOk 1 5 RX0 TX0 6 (0, 0, 0, 0) := ⟨rfl, rfl, inG0, by decide, rfl, rfl, ⟨tyX0, tyX0_ok, fun _ => rfl, fun h => absurd rfl h⟩, nmX0⟩
theorem fk_2_0 : FldOk 2 0 RX1 TX1 2 (0, 0, 0, 0) := ⟨rfl, rfl, inG1, by decide, rfl, rfl, ⟨tyX1, tyX1_ok, fun _ => rfl, fun h => absurd rfl h⟩, nmX1⟩
theorem fk_2_1 : FldOk 2 1 RX1 TX1 2 (0, 0, 0, 0) := ⟨rfl, rfl, inG1, by decide, rfl, rfl, ⟨tyX1, tyX1_ok, fun _ => rfl, fun h => absurd rfl h⟩, nmX1⟩
theorem fk_3_3 : FldOk 3 3 RX2 TX2 6 (2, 0, 9, 0) := ⟨rfl, rfl, inG2, by decide, rfl, rfl, ⟨tyX2, tyX2_ok, fun h => (by cases h), fun _ => Or.inl ⟨_, rfl⟩⟩, nmX2⟩
theorem fk_3_4 : FldOk 3 4 RX2 TX2 6 (0, 0, 0, 0) := ⟨rfl, rfl, inG2, by decide, rfl, rfl, ⟨tyX2, tyX2_ok, fun _ => rfl, fun h => absurd rfl h⟩, nmX2⟩
theorem fk_3_5 : FldOk 3 5 RX2 TX2 6 (0, 0, 0, 0) := ⟨rfl, rfl, inG2, by decide, rfl, rfl, ⟨tyX2, tyX2_ok, fun _ => rfl, fun h => absurd rfl h⟩, nmX2⟩
theorem fk_3_0 : FldOk 3 0 RX2 TX2 6 (1, 1, 14, 4) := ⟨rfl, rfl, inG2, by decide, rfl, rfl, ⟨tyX2, tyX2_ok, fun h => (by cases h), fun _ => Or.inr ⟨_, rfl⟩⟩, nmX2⟩
theorem fk_9_1 : FldOk 9 1 RX8 TX8 10 (1, 1, 14, 4) := ⟨rfl, rfl, inG8, by decide, rfl, rfl, ⟨tyX8, tyX8_ok, fun h => (by cases h), fun _ => Or.inr ⟨_, rfl⟩⟩, nmX8⟩
theorem fk_9_4 : FldOk 9 4 RX8 TX8 10 (1, 3, 14, 8) := ⟨rfl, rfl, inG8, by decide, rfl, rfl, ⟨tyX8, tyX8_ok, fun h => (by cases h), fun _ => Or.inr ⟨_, rfl⟩⟩, nmX8⟩
theorem fk_5_1 : FldOk 5 1 RX4 TX4 4 (0, 0, 0, 0) := ⟨rfl, rfl, inG4, by decide, rfl, rfl, ⟨tyX4, tyX4_ok, fun _ => rfl, fun h => absurd rfl h⟩, nmX4⟩
theorem fk_5_2 : FldOk 5 2 RX4 TX4 4 (0, 0, 0, 0) := ⟨rfl, rfl, inG4, by decide, rfl, rfl, ⟨tyX4, tyX4_ok, fun _ => rfl, fun h => absurd rfl h⟩, nmX4⟩
theorem fk_5_3 : FldOk 5 3 RX4 TX4 4 (0, 0, 0, 0) := ⟨rfl, rfl, inG4, by decide, rfl, rfl, ⟨tyX4, tyX4_ok, fun _ => rfl, fun h => absurd rfl h⟩, nmX4⟩
theorem fk_5_0 : FldOk 5 0 RX4 TX4 4 (1, 1, 14, 10) := ⟨rfl, rfl, inG4, by decide, rfl, rfl, ⟨tyX4, tyX4_ok, fun h => (by cases h), fun _ => Or.inr ⟨_, rfl⟩⟩, nmX4⟩
theorem fk_6_2 : FldOk 6 2 RX5 TX5 3 (0, 0, 0, 0) := ⟨rfl, rfl, inG5, by decide, rfl, rfl, ⟨tyX5, tyX5_ok, fun _ => rfl, fun h => absurd rfl h⟩, nmX5⟩
theorem fk_6_0 : FldOk 6 0 RX5 TX5 3 (1, 1, 14, 150) := ⟨rfl, rfl, inG5, by decide, rfl, rfl, ⟨tyX5, tyX5_ok, fun h => (by cases h), fun _ => Or.inr ⟨_, rfl⟩⟩, nmX5⟩
theorem fk_6_1 : FldOk 6 1 RX5 TX5 3 (1, 2, 14, 150) := ⟨rfl, rfl, inG5, by decide, rfl, rfl, ⟨tyX5, tyX5_ok, fun h => (by cases h), fun _ => Or.inr ⟨_, rfl⟩⟩, nmX5⟩
theorem fk_7_1 : FldOk 7 1 RX6 TX6 4 (0, 0, 0, 0) := ⟨rfl, rfl, inG6, by decide, rfl, rfl, ⟨tyX6, tyX6_ok, fun _ => rfl, fun h => absurd rfl h⟩, nmX6⟩
theorem fk_7_3 : FldOk 7 3 RX6 TX6 4 (0, 0, 0, 0) := ⟨rfl, rfl, inG6, by decide, rfl, rfl, ⟨tyX6, tyX6_ok, fun _ => rfl, fun h => absurd rfl h⟩, nmX6⟩
theorem fk_7_0 : FldOk 7 0 RX6 TX6 4 (1, 1, 17, 16) := ⟨rfl, rfl, inG6, by decide, rfl, rfl, ⟨tyX6, tyX6_ok, fun h => (by cases h), fun _ => Or.inr ⟨_, rfl⟩⟩, nmX6⟩
theorem fk_7_2 : FldOk 7 2 RX6 TX6 4 (1, 2, 16, 3) := ⟨rfl, rfl, inG6, by decide, rfl, rfl, ⟨tyX6, tyX6_ok, fun h => (by cases h), fun _ => Or.inr ⟨_, rfl⟩⟩, nmX6⟩
theorem fk_8_4 : FldOk 8 4 RX7 TX7 8 (0, 0, 0, 0) := ⟨rfl, rfl, inG7, by decide, rfl, rfl, ⟨tyX7, tyX7_ok, fun _ => rfl, fun h => absurd rfl h⟩, nmX7⟩
theorem fk_8_2 : FldOk 8 2 RX7 TX7 8 (1, 3, 14, 25) := ⟨rfl, rfl, inG7, by decide, rfl, rfl, ⟨tyX7, tyX7_ok, fun h => (by cases h), fun _ => Or.inr ⟨_, rfl⟩⟩, nmX7⟩
theorem fk_8_0 : FldOk 8 0 RX7 TX7 8 (1, 1, 14, 25) := ⟨rfl, rfl, inG7, by decide, rfl, rfl, ⟨tyX7, tyX7_ok, fun h => (by cases h), fun _ => Or.inr ⟨_, rfl⟩⟩, nmX7⟩
theorem fk_8_1 : FldOk 8 1 RX7 TX7 8 (1, 2, 14, 25) := ⟨rfl, rfl, inG7, by decide, rfl, rfl, ⟨tyX7, tyX7_ok, fun h => (by cases h), fun _ => Or.inr ⟨_, rfl⟩⟩, nmX7⟩
theorem fk_8_3 : FldOk 8 3 RX7 TX7 8 (1, 4, 14, 25) := ⟨rfl, rfl, inG7, by decide, rfl, rfl, ⟨tyX7, tyX7_ok, fun h => (by cases h), fun _ => Or.inr ⟨_, rfl⟩⟩, nmX7⟩
theorem fk_8_5 : FldOk 8 5 RX7 TX7 8 (0, 0, 0, 0) := ⟨rfl, rfl, inG7, by decide, rfl, rfl, ⟨tyX7, tyX7_ok, fun _ => rfl, fun h => absurd rfl h⟩, nmX7⟩
theorem fk_8_6 : FldOk 8 6 RX7 TX7 8 (0, 0, 0, 0) := ⟨rfl, rfl, inG7, by decide, rfl, rfl, ⟨tyX7, tyX7_ok, fun _ => rfl, fun h => absurd rfl h⟩, nmX7⟩
theorem fk_8_7 : FldOk 8 7 RX7 TX7 8 (0, 0, 0, 0) := ⟨rfl, rfl, inG7, by decide, rfl, rfl, ⟨tyX7, tyX7_ok, fun _ => rfl, fun h => absurd rfl h⟩, nmX7⟩
theorem fk_9_9 : FldOk 9 9 RX8 TX8 10 (1, 7, 14, 10) := ⟨rfl, rfl, inG8, by decide, rfl, rfl, ⟨tyX8, tyX8_ok, fun h => (by cases h), fun _ => Or.inr ⟨_, rfl⟩⟩, nmX8⟩
theorem fk_9_3 : FldOk 9 3 RX8 TX8 10 (1, 2, 14, 8) := ⟨rfl, rfl, inG8, by decide, rfl, rfl, ⟨tyX8, tyX8_ok, fun h => (by cases h), fun _ => Or.inr ⟨_, rfl⟩⟩, nmX8⟩
theorem fk_9_6 : FldOk 9 6 RX8 TX8 10 (1, 4, 14, 6) := ⟨rfl, rfl, inG8, by decide, rfl, rfl, ⟨tyX8, tyX8_ok, fun h => (by cases h), fun _ => Or.inr ⟨_, rfl⟩⟩, nmX8⟩
theorem fk_9_7 : FldOk 9 7 RX8 TX8 10 (1, 5, 14, 6) := ⟨rfl, rfl, inG8, by decide, rfl, rfl, ⟨tyX8, tyX8_ok, fun h => (by cases h), fun _ => Or.inr ⟨_, rfl⟩⟩, nmX8⟩
theorem fk_9_8 : FldOk 9 8 RX8 TX8 10 (1, 6, 14, 6) := ⟨rfl, rfl, inG8, by decide, rfl, rfl, ⟨tyX8, tyX8_ok, fun h => (by cases h), fun _ => Or.inr ⟨_, rfl⟩⟩, nmX8⟩
theorem fk_10_1 : FldOk 10 1 RX9 TX9 6 (0, 0, 0, 0) := ⟨rfl, rfl, inG9, by decide, rfl, rfl, ⟨tyX9, tyX9_ok, fun _ => rfl, fun h => absurd rfl h⟩, nmX9⟩
theorem fk_10_0 : FldOk 10 0 RX9 TX9 6 (1, 1, 14, 600) := ⟨rfl, rfl, inG9, by decide, rfl, rfl, ⟨tyX9, tyX9_ok, fun h => (by cases h), fun _ => Or.inr ⟨_, rfl⟩⟩, nmX9⟩
theorem fk_10_2 : FldOk 10 2 RX9 TX9 6 (0, 0, 0, 0) := ⟨rfl, rfl, inG9, by decide, rfl, rfl, ⟨tyX9, tyX9_ok, fun _ => rfl, fun h => absurd rfl h⟩, nmX9⟩
theorem fk_10_3 : FldOk 10 3 RX9 TX9 6 (0, 0, 0, 0) := ⟨rfl, rfl, inG9, by decide, rfl, rfl, ⟨tyX9, tyX9_ok, fun _ => rfl, fun h => absurd rfl h⟩, nmX9⟩
theorem fk_10_4 : FldOk 10 4 RX9 TX9 6 (0, 0, 0, 0) := ⟨rfl, rfl, inG9, by decide, rfl, rfl, ⟨tyX9, tyX9_ok, fun _ => rfl, fun h => absurd rfl h⟩, nmX9⟩
theorem fk_10_5 : FldOk 10 5 RX9 TX9 6 (0, 0, 0, 0) := ⟨rfl, rfl, inG9, by decide, rfl, rfl, ⟨tyX9, tyX9_ok, fun _ => rfl, fun h => absurd rfl h⟩, nmX9⟩
theorem fk_11_0 : FldOk 11 0 RX10 TX10 10 (0, 0, 0, 0) := ⟨rfl, rfl, inG10, by decide, rfl, rfl, ⟨tyX10, tyX10_ok, fun _ => rfl, fun h => absurd rfl h⟩, nmX10⟩
theorem fk_11_1 : FldOk 11 1 RX10 TX10 10 (0, 0, 0, 0) := ⟨rfl, rfl, inG10, by decide, rfl, rfl, ⟨tyX10, tyX10_ok, fun _ => rfl, fun h => absurd rfl h⟩, nmX10⟩
theorem fk_11_7 : FldOk 11 7 RX10 TX10 10 (1, 5, 14, 8) := ⟨rfl, rfl, inG10, by decide, rfl, rfl, ⟨tyX10, tyX10_ok, fun h => (by cases h), fun _ => Or.inr ⟨_, rfl⟩⟩, nmX10⟩
theorem fk_11_8 : FldOk 11 8 RX10 TX10 10 (1, 6, 14, 8) := ⟨rfl, rfl, inG10, by decide, rfl, rfl, ⟨tyX10, tyX10_ok, fun h => (by cases h), fun _ => Or.inr ⟨_, rfl⟩⟩, nmX10⟩
theorem fk_11_2 : FldOk 11 2 RX10 TX10 10 (0, 0, 0, 0) := ⟨rfl, rfl, inG10, by decide, rfl, rfl, ⟨tyX10, tyX10_ok, fun _ => rfl, fun h => absurd rfl h⟩, nmX10⟩
theorem fk_11_3 : FldOk 11 3 RX10 TX10 10 (1, 1, 14, 20) := ⟨rfl, rfl, inG10, by decide, rfl, rfl, ⟨tyX10, tyX10_ok, fun h => (by cases h), fun _ => Or.inr ⟨_, rfl⟩⟩, nmX10⟩
theorem fk_11_9 : FldOk 11 9 RX10 TX10 10 (1, 7, 14, 6) := ⟨rfl, rfl, inG10, by decide, rfl, rfl, ⟨tyX10, tyX10_ok, fun h => (by cases h), fun _ => Or.inr ⟨_, rfl⟩⟩, nmX10⟩
theorem fk_11_4 : FldOk 11 4 RX10 TX10 10 (1, 2, 14, 20) := ⟨rfl, rfl, inG10, by decide, rfl, rfl, ⟨tyX10, tyX10_ok, fun h => (by cases h), fun _ => Or.inr ⟨_, rfl⟩⟩, nmX10⟩
theorem fk_11_5 : FldOk 11 5 RX10 TX10 10 (1, 3, 14, 20) := ⟨rfl, rfl, inG10, by decide, rfl, rfl, ⟨tyX10, tyX10_ok, fun h => (by cases h), fun _ => Or.inr ⟨_, rfl⟩⟩, nmX10⟩
theorem fk_11_6 : FldOk 11 6 RX10 TX10 10 (1, 4, 14, 20) := ⟨rfl, rfl, inG10, by decide, rfl, rfl, ⟨tyX10, tyX10_ok, fun h => (by cases h), fun _ => Or.inr ⟨_, rfl⟩⟩, nmX10⟩
theorem fk_12_0 : FldOk 12 0 RX11 TX11 19 (1, 1, 10, 0) := ⟨rfl, rfl, inG11, by decide, rfl, rfl, ⟨tyX11, tyX11_ok, fun h => (by cases h), fun _ => Or.inl ⟨_, rfl⟩⟩, nmX11⟩
theorem fk_12_11 : FldOk 12 11 RX11 TX11 19 (2, 0, 9, 0) := ⟨rfl, rfl, inG11, by decide, rfl, rfl, ⟨tyX11, tyX11_ok, fun h => (by cases h), fun _ => Or.inl ⟨_, rfl⟩⟩, nmX11⟩
theorem fk_12_10 : FldOk 12 10 RX11 TX11 19 (2, 0, 9, 0) := ⟨rfl, rfl, inG11, by decide, rfl, rfl, ⟨tyX11, tyX11_ok, fun h => (by cases h), fun _ => Or.inl ⟨_, rfl⟩⟩, nmX11⟩
theorem fk_12_12 : FldOk 12 12 RX11 TX11 19 (2, 0, 6, 0) := ⟨rfl, rfl, inG11, by decide, rfl, rfl, ⟨tyX11, tyX11_ok, fun h => (by cases h), fun _ => Or.inl ⟨_, rfl⟩⟩, nmX11⟩
theorem fk_12_14 : FldOk 12 14 RX11 TX11 19 (2, 0, 2, 0) := ⟨rfl, rfl, inG11, by decide, rfl, rfl, ⟨tyX11, tyX11_ok, fun h => (by cases h), fun _ => Or.inl ⟨_, rfl⟩⟩, nmX11⟩
theorem fk_12_3 : FldOk 12 3 RX11 TX11 19 (1, 16, 7, 0) := ⟨rfl, rfl, inG11, by decide, rfl, rfl, ⟨tyX11, tyX11_ok, fun h => (by cases h), fun _ => Or.inl ⟨_, rfl⟩⟩, nmX11⟩
theorem fk_12_2 : FldOk 12 2 RX11 TX11 19 (1, 8, 11, 0) := ⟨rfl, rfl, inG11, by decide, rfl, rfl, ⟨tyX11, tyX11_ok, fun h => (by cases h), fun _ => Or.inl ⟨_, rfl⟩⟩, nmX11⟩
theorem fk_12_16 : FldOk 12 16 RX11 TX11 19 (0, 0, 0, 0) := ⟨rfl, rfl, inG11, by decide, rfl, rfl, ⟨tyX11, tyX11_ok, fun _ => rfl, fun h => absurd rfl h⟩, nmX11⟩
theorem fk_12_13 : FldOk 12 13 RX11 TX11 19 (2, 0, 6, 0) := ⟨rfl, rfl, inG11, by decide, rfl, rfl, ⟨tyX11, tyX11_ok, fun h => (by cases h), fun _ => Or.inl ⟨_, rfl⟩⟩, nmX11⟩
theorem fk_12_1 : FldOk 12 1 RX11 TX11 19 (1, 3, 8, 0) := ⟨rfl, rfl, inG11, by decide, rfl, rfl, ⟨tyX11, tyX11_ok, fun h => (by cases h), fun _ => Or.inl ⟨_, rfl⟩⟩, nmX11⟩
theorem fk_12_15 : FldOk 12 15 RX11 TX11 19 (2, 0, 2, 0) := ⟨rfl, rfl, inG11, by decide, rfl, rfl, ⟨tyX11, tyX11_ok, fun h => (by cases h), fun _ => Or.inl ⟨_, rfl⟩⟩, nmX11⟩
theorem fk_12_7 : FldOk 12 7 RX11 TX11 19 (1, 34, 14, 8) := ⟨rfl, rfl, inG11, by decide, rfl, rfl, ⟨tyX11, tyX11_ok, fun h => (by cases h), fun _ => Or.inr ⟨_, rfl⟩⟩, nmX11⟩
theorem fk_12_4 : FldOk 12 4 RX11 TX11 19 (1, 19, 3, 0) := ⟨rfl, rfl, inG11, by decide, rfl, rfl, ⟨tyX11, tyX11_ok, fun h => (by cases h), fun _ => Or.inl ⟨_, rfl⟩⟩, nmX11⟩
theorem fk_3_2 : FldOk 3 2 RX2 TX2 6 (1, 3, 14, 8) := ⟨rfl, rfl, inG2, by decide, rfl, rfl, ⟨tyX2, tyX2_ok, fun h => (by cases h), fun _ => Or.inr ⟨_, rfl⟩⟩, nmX2⟩
theorem fk_12_5 : FldOk 12 5 RX11 TX11 19 (1, 23, 5, 0) := ⟨rfl, rfl, inG11, by decide, rfl, rfl, ⟨tyX11, tyX11_ok, fun h => (by cases h), fun _ => Or.inl ⟨_, rfl⟩⟩, nmX11⟩
theorem fk_12_6 : FldOk 12 6 RX11 TX11 19 (1, 25, 1, 0) := ⟨rfl, rfl, inG11, by decide, rfl, rfl, ⟨tyX11, tyX11_ok, fun h => (by cases h), fun _ => Or.inl ⟨_, rfl⟩⟩, nmX11⟩
theorem fk_12_17 : FldOk 12 17 RX11 TX11 19 (0, 0, 0, 0) := ⟨rfl, rfl, inG11, by decide, rfl, rfl, ⟨tyX11, tyX11_ok, fun _ => rfl, fun h => absurd rfl h⟩, nmX11⟩
theorem fk_12_18 : FldOk 12 18 RX11 TX11 19 (0, 0, 0, 0) := ⟨rfl, rfl, inG11, by decide, rfl, rfl, ⟨tyX11, tyX11_ok, fun _ => rfl, fun h => absurd rfl h⟩, nmX11⟩
theorem fk_12_8 : FldOk 12 8 RX11 TX11 19 (1, 35, 15, 10) := ⟨rfl, rfl, inG11, by decide, rfl, rfl, ⟨tyX11, tyX11_ok, fun h => (by cases h), fun _ => Or.inr ⟨_, rfl⟩⟩, nmX11⟩
theorem fk_12_9 : FldOk 12 9 RX11 TX11 19 (1, 36, 15, 10) := ⟨rfl, rfl, inG11, by decide, rfl, rfl, ⟨tyX11, tyX11_ok, fun h => (by cases h), fun _ => Or.inr ⟨_, rfl⟩⟩, nmX11⟩
theorem fk_13_11 : FldOk 13 11 RX12 TX12 54 (1, 3, 14, 3) := ⟨rfl, rfl, inG12, by decide, rfl, rfl, ⟨tyX12, tyX12_ok, fun h => (by cases h), fun _ => Or.inr ⟨_, rfl⟩⟩, nmX12⟩
theorem fk_13_15 : FldOk 13 15 RX12 TX12 54 (1, 7, 14, 10) := ⟨rfl, rfl, inG12, by decide, rfl, rfl, ⟨tyX12, tyX12_ok, fun h => (by cases h), fun _ => Or.inr ⟨_, rfl⟩⟩, nmX12⟩
theorem fk_13_17 : FldOk 13 17 RX12 TX12 54 (1, 9, 14, 6) := ⟨rfl, rfl, inG12, by decide, rfl, rfl, ⟨tyX12, tyX12_ok, fun h => (by cases h), fun _ => Or.inr ⟨_, rfl⟩⟩, nmX12⟩
theorem fk_13_0 : FldOk 13 0 RX12 TX12 54 (0, 0, 0, 0) := ⟨rfl, rfl, inG12, by decide, rfl, rfl, ⟨tyX12, tyX12_ok, fun _ => rfl, fun h => absurd rfl h⟩, nmX12⟩
theorem fk_13_10 : FldOk 13 10 RX12 TX12 54 (1, 2, 14, 2) := ⟨rfl, rfl, inG12, by decide, rfl, rfl, ⟨tyX12, tyX12_ok, fun h => (by cases h), fun _ => Or.inr ⟨_, rfl⟩⟩, nmX12⟩
theorem fk_13_1 : FldOk 13 1 RX12 TX12 54 (0, 0, 0, 0) := ⟨rfl, rfl, inG12, by decide, rfl, rfl, ⟨tyX12, tyX12_ok, fun _ => rfl, fun h => absurd rfl h⟩, nmX12⟩
theorem fk_13_9 : FldOk 13 9 RX12 TX12 54 (1, 1, 14, 600) := ⟨rfl, rfl, inG12, by decide, rfl, rfl, ⟨tyX12, tyX12_ok, fun h => (by cases h), fun _ => Or.inr ⟨_, rfl⟩⟩, nmX12⟩
theorem fk_13_2 : FldOk 13 2 RX12 TX12 54 (0, 0, 0, 0) := ⟨rfl, rfl, inG12, by decide, rfl, rfl, ⟨tyX12, tyX12_ok, fun _ => rfl, fun h => absurd rfl h⟩, nmX12⟩
theorem fk_13_4 : FldOk 13 4 RX12 TX12 54 (0, 0, 0, 0) := ⟨rfl, rfl, inG12, by decide, rfl, rfl, ⟨tyX12, tyX12_ok, fun _ => rfl, fun h => absurd rfl h⟩, nmX12⟩
theorem fk_13_5 : FldOk 13 5 RX12 TX12 54 (0, 0, 0, 0) := ⟨rfl, rfl, inG12, by decide, rfl, rfl, ⟨tyX12, tyX12_ok, fun _ => rfl, fun h => absurd rfl h⟩, nmX12⟩
theorem fk_13_6 : FldOk 13 6 RX12 TX12 54 (0, 0, 0, 0) := ⟨rfl, rfl, inG12, by decide, rfl, rfl, ⟨tyX12, tyX12_ok, fun _ => rfl, fun h => absurd rfl h⟩, nmX12⟩
theorem fk_13_7 : FldOk 13 7 RX12 TX12 54 (0, 0, 0, 0) := ⟨rfl, rfl, inG12, by decide, rfl, rfl, ⟨tyX12, tyX12_ok, fun _ => rfl, fun h => absurd rfl h⟩, nmX12⟩
theorem fk_13_8 : FldOk 13 8 RX12 TX12 54 (0, 0, 0, 0) := ⟨rfl, rfl, inG12, by decide, rfl, rfl, ⟨tyX12, tyX12_ok, fun _ => rfl, fun h => absurd rfl h⟩, nmX12⟩
theorem fk_13_3 : FldOk 13 3 RX12 TX12 54 (0, 0, 0, 0) := ⟨rfl, rfl, inG12, by decide, rfl, rfl, ⟨tyX12, tyX12_ok, fun _ => rfl, fun h => absurd rfl h⟩, nmX12⟩
theorem fk_13_13 : FldOk 13 13 RX12 TX12 54 (1, 5, 14, 4) := ⟨rfl, rfl, inG12, by decide, rfl, rfl, ⟨tyX12, tyX12_ok, fun h => (by cases h), fun _ => Or.inr ⟨_, rfl⟩⟩, nmX12⟩
theorem fk_13_19 : FldOk 13 19 RX12 TX12 54 (1, 11, 1002, 8) := ⟨rfl, rfl, inG12, by decide, rfl, rfl, ⟨tyX12, tyX12_ok, fun h => (by cases h), fun _ => Or.inr ⟨_, rfl⟩⟩, nmX12⟩
theorem fk_13_21 : FldOk 13 21 RX12 TX12 54 (1, 29, 1002, 6) := ⟨rfl, rfl, inG12, by decide, rfl, rfl, ⟨tyX12, tyX12_ok, fun h => (by cases h), fun _ => Or.inr ⟨_, rfl⟩⟩, nmX12⟩
theorem fk_13_12 : FldOk 13 12 RX12 TX12 54 (1, 4, 14, 3) := ⟨rfl, rfl, inG12, by decide, rfl, rfl, ⟨tyX12, tyX12_ok, fun h => (by cases h), fun _ => Or.inr ⟨_, rfl⟩⟩, nmX12⟩
theorem fk_13_14 : FldOk 13 14 RX12 TX12 54 (1, 6, 14, 4) := ⟨rfl, rfl, inG12, by decide, rfl, rfl, ⟨tyX12, tyX12_ok, fun h => (by cases h), fun _ => Or.inr ⟨_, rfl⟩⟩, nmX12⟩
theorem fk_13_16 : FldOk 13 16 RX12 TX12 54 (1, 8, 14, 10) := ⟨rfl, rfl, inG12, by decide, rfl, rfl, ⟨tyX12, tyX12_ok, fun h => (by cases h), fun _ => Or.inr ⟨_, rfl⟩⟩, nmX12⟩
theorem fk_13_20 : FldOk 13 20 RX12 TX12 54 (1, 20, 1002, 8) := ⟨rfl, rfl, inG12, by decide, rfl, rfl, ⟨tyX12, tyX12_ok, fun h => (by cases h), fun _ => Or.inr ⟨_, rfl⟩⟩, nmX12⟩
theorem fk_13_22 : FldOk 13 22 RX12 TX12 54 (1, 36, 1002, 6) := ⟨rfl, rfl, inG12, by decide, rfl, rfl, ⟨tyX12, tyX12_ok, fun h => (by cases h), fun _ => Or.inr ⟨_, rfl⟩⟩, nmX12⟩
theorem fk_13_18 : FldOk 13 18 RX12 TX12 54 (1, 10, 14, 6) := ⟨rfl, rfl, inG12, by decide, rfl, rfl, ⟨tyX12, tyX12_ok, fun h => (by cases h), fun _ => Or.inr ⟨_, rfl⟩⟩, nmX12⟩
theorem fk_13_33 : FldOk 13 33 RX12 TX12 54 (1, 470, 14, 105) := ⟨rfl, rfl, inG12, by decide, rfl, rfl, ⟨tyX12, tyX12_ok, fun h => (by cases h), fun _ => Or.inr ⟨_, rfl⟩⟩, nmX12⟩
theorem fk_13_23 : FldOk 13 23 RX12 TX12 54 (0, 0, 0, 0) := ⟨rfl, rfl, inG12, by decide, rfl, rfl, ⟨tyX12, tyX12_ok, fun _ => rfl, fun h => absurd rfl h⟩, nmX12⟩
theorem fk_13_37 : FldOk 13 37 RX12 TX12 54 (0, 0, 0, 0) := ⟨rfl, rfl, inG12, by decide, rfl, rfl, ⟨tyX12, tyX12_ok, fun _ => rfl, fun h => absurd rfl h⟩, nmX12⟩
theorem fk_13_38 : FldOk 13 38 RX12 TX12 54 (0, 0, 0, 0) := ⟨rfl, rfl, inG12, by decide, rfl, rfl, ⟨tyX12, tyX12_ok, fun _ => rfl, fun h => absurd rfl h⟩, nmX12⟩
theorem fk_13_39 : FldOk 13 39 RX12 TX12 54 (0, 0, 0, 0) := ⟨rfl, rfl, inG12, by decide, rfl, rfl, ⟨tyX12, tyX12_ok, fun _ => rfl, fun h => absurd rfl h⟩, nmX12⟩
theorem fk_13_40 : FldOk 13 40 RX12 TX12 54 (0, 0, 0, 0) := ⟨rfl, rfl, inG12, by decide, rfl, rfl, ⟨tyX12, tyX12_ok, fun _ => rfl, fun h => absurd rfl h⟩, nmX12⟩
theorem fk_13_26 : FldOk 13 26 RX12 TX12 54 (1, 204, 1002, 160) := ⟨rfl, rfl, inG12, by decide, rfl, rfl, ⟨tyX12, tyX12_ok, fun h => (by cases h), fun _ => Or.inr ⟨_, rfl⟩⟩, nmX12⟩
theorem fk_13_24 : FldOk 13 24 RX12 TX12 54 (0, 0, 0, 0) := ⟨rfl, rfl, inG12, by decide, rfl, rfl, ⟨tyX12, tyX12_ok, fun _ => rfl, fun h => absurd rfl h⟩, nmX12⟩
theorem fk_13_25 : FldOk 13 25 RX12 TX12 54 (1, 43, 1002, 160) := ⟨rfl, rfl, inG12, by decide, rfl, rfl, ⟨tyX12, tyX12_ok, fun h => (by cases h), fun _ => Or.inr ⟨_, rfl⟩⟩, nmX12⟩
theorem fk_13_29 : FldOk 13 29 RX12 TX12 54 (1, 387, 14, 160) := ⟨rfl, rfl, inG12, by decide, rfl, rfl, ⟨tyX12, tyX12_ok, fun h => (by cases h), fun _ => Or.inr ⟨_, rfl⟩⟩, nmX12⟩
theorem fk_13_30 : FldOk 13 30 RX12 TX12 54 (1, 388, 14, 8) := ⟨rfl, rfl, inG12, by decide, rfl, rfl, ⟨tyX12, tyX12_ok, fun h => (by cases h), fun _ => Or.inr ⟨_, rfl⟩⟩, nmX12⟩
theorem fk_13_31 : FldOk 13 31 RX12 TX12 54 (1, 389, 1005, 80) := ⟨rfl, rfl, inG12, by decide, rfl, rfl, ⟨tyX12, tyX12_ok, fun h => (by cases h), fun _ => Or.inr ⟨_, rfl⟩⟩, nmX12⟩
theorem fk_13_32 : FldOk 13 32 RX12 TX12 54 (0, 0, 0, 0) := ⟨rfl, rfl, inG12, by decide, rfl, rfl, ⟨tyX12, tyX12_ok, fun _ => rfl, fun h => absurd rfl h⟩, nmX12⟩
theorem fk_13_28 : FldOk 13 28 RX12 TX12 54 (1, 376, 1002, 10) := ⟨rfl, rfl, inG12, by decide, rfl, rfl, ⟨tyX12, tyX12_ok, fun h => (by cases h), fun _ => Or.inr ⟨_, rfl⟩⟩, nmX12⟩
theorem fk_13_27 : FldOk 13 27 RX12 TX12 54 (1, 365, 1002, 10) := ⟨rfl, rfl, inG12, by decide, rfl, rfl, ⟨tyX12, tyX12_ok, fun h => (by cases h), fun _ => Or.inr ⟨_, rfl⟩⟩, nmX12⟩
theorem fk_13_42 : FldOk 13 42 RX12 TX12 54 (0, 0, 0, 0) := ⟨rfl, rfl, inG12, by decide, rfl, rfl, ⟨tyX12, tyX12_ok, fun _ => rfl, fun h => absurd rfl h⟩, nmX12⟩
theorem fk_13_43 : FldOk 13 43 RX12 TX12 54 (0, 0, 0, 0) := ⟨rfl, rfl, inG12, by decide, rfl, rfl, ⟨tyX12, tyX12_ok, fun _ => rfl, fun h => absurd rfl h⟩, nmX12⟩
theorem fk_13_35 : FldOk 13 35 RX12 TX12 54 (1, 472, 1105, 16) := ⟨rfl, rfl, inG12, by decide, rfl, rfl, ⟨tyX12, tyX12_ok, fun h => (by cases h), fun _ => Or.inr ⟨_, rfl⟩⟩, nmX12⟩
theorem fk_13_47 : FldOk 13 47 RX12 TX12 54 (1, 496, 14, 9) := ⟨rfl, rfl, inG12, by decide, rfl, rfl, ⟨tyX12, tyX12_ok, fun h => (by cases h), fun _ => Or.inr ⟨_, rfl⟩⟩, nmX12⟩
theorem fk_13_48 : FldOk 13 48 RX12 TX12 54 (0, 0, 0, 0) := ⟨rfl, rfl, inG12, by decide, rfl, rfl, ⟨tyX12, tyX12_ok, fun _ => rfl, fun h => absurd rfl h⟩, nmX12⟩
theorem fk_13_45 : FldOk 13 45 RX12 TX12 54 (1, 494, 14, 8) := ⟨rfl, rfl, inG12, by decide, rfl, rfl, ⟨tyX12, tyX12_ok, fun h => (by cases h), fun _ => Or.inr ⟨_, rfl⟩⟩, nmX12⟩
theorem fk_13_44 : FldOk 13 44 RX12 TX12 54 (1, 493, 14, 8) := ⟨rfl, rfl, inG12, by decide, rfl, rfl, ⟨tyX12, tyX12_ok, fun h => (by cases h), fun _ => Or.inr ⟨_, rfl⟩⟩, nmX12⟩
theorem fk_13_46 : FldOk 13 46 RX12 TX12 54 (1, 495, 14, 4) := ⟨rfl, rfl, inG12, by decide, rfl, rfl, ⟨tyX12, tyX12_ok, fun h => (by cases h), fun _ => Or.inr ⟨_, rfl⟩⟩, nmX12⟩
theorem fk_13_49 : FldOk 13 49 RX12 TX12 54 (1, 497, 15, 10) := ⟨rfl, rfl, inG12, by decide, rfl, rfl, ⟨tyX12, tyX12_ok, fun h => (by cases h), fun _ => Or.inr ⟨_, rfl⟩⟩, nmX12⟩
theorem fk_13_50 : FldOk 13 50 RX12 TX12 54 (1, 498, 15, 10) := ⟨rfl, rfl, inG12, by decide, rfl, rfl, ⟨tyX12, tyX12_ok, fun h => (by cases h), fun _ => Or.inr ⟨_, rfl⟩⟩, nmX12⟩
theorem fk_13_51 : FldOk 13 51 RX12 TX12 54 (0, 0, 0, 0) := ⟨rfl, rfl, inG12, by decide, rfl, rfl, ⟨tyX12, tyX12_ok, fun _ => rfl, fun h => absurd rfl h⟩, nmX12⟩
theorem fk_13_34 : FldOk 13 34 RX12 TX12 54 (1, 471, 14, 105) := ⟨rfl, rfl, inG12, by decide, rfl, rfl, ⟨tyX12, tyX12_ok, fun h => (by cases h), fun _ => Or.inr ⟨_, rfl⟩⟩, nmX12⟩
theorem fk_13_52 : FldOk 13 52 RX12 TX12 54 (0, 0, 0, 0) := ⟨rfl, rfl, inG12, by decide, rfl, rfl, ⟨tyX12, tyX12_ok, fun _ => rfl, fun h => absurd rfl h⟩, nmX12⟩
theorem fk_13_53 : FldOk 13 53 RX12 TX12 54 (0, 0, 0, 0) := ⟨rfl, rfl, inG12, by decide, rfl, rfl, ⟨tyX12, tyX12_ok, fun _ => rfl, fun h => absurd rfl h⟩, nmX12⟩
theorem fk_13_41 : FldOk 13 41 RX12 TX12 54 (0, 0, 0, 0) := ⟨rfl, rfl, inG12, by decide, rfl, rfl, ⟨tyX12, tyX12_ok, fun _ => rfl, fun h => absurd rfl h⟩, nmX12⟩
theorem fk_13_36 : FldOk 13 36 RX12 TX12 54 (1, 489, 2786, 3) := ⟨rfl, rfl, inG12, by decide, rfl, rfl, ⟨tyX12, tyX12_ok, fun h => (by cases h), fun _ => Or.inr ⟨_, rfl⟩⟩, nmX12⟩
theorem lk_RX0_12 : LnkOk RX0 12 TX0 0 := Or.inl (List.mem_of_getElem? (i := 318) (by decide +kernel))
theorem lk_RX0_22 : LnkOk RX0 22 TX0 1 := Or.inl (List.mem_of_getElem? (i := 319) (by decide +kernel))
theorem lk_RX0_26 : LnkOk RX0 26 TX0 2 := Or.inl (List.mem_of_getElem? (i := 320) (by decide +kernel))
theorem lk_RX0_29 : LnkOk RX0 29 TX0 3 := Or.inl (List.mem_of_getElem? (i := 322) (by decide +kernel))
theorem lk_RX0_32 : LnkOk RX0 32 TX0 4 := Or.inl (List.mem_of_getElem? (i := 324) (by decide +kernel))
theorem lk_RX0_35 : LnkOk RX0 35 TX8 5 := Or.inr ⟨"ChalkWall", List.mem_of_getElem? (i := 375) (by decide +kernel)⟩
theorem lk_RX0_40 : LnkOk RX0 40 TX8 2 := Or.inr ⟨"ChalkWall", List.mem_of_getElem? (i := 363) (by decide +kernel)⟩
theorem lk_RX0_43 : LnkOk RX0 43 TX8 0 := Or.inr ⟨"ChalkWall", List.mem_of_getElem? (i := 353) (by decide +kernel)⟩
theorem lk_RX0_58 : LnkOk RX0 58 TX0 5 := Or.inl (List.mem_of_getElem? (i := 326) (by decide +kernel))
theorem lk_RX1_9 : LnkOk RX1 9 TX1 0 := Or.inl (List.mem_of_getElem? (i := 443) (by decide +kernel))
theorem lk_RX1_15 : LnkOk RX1 15 TX1 1 := Or.inl (List.mem_of_getElem? (i := 445) (by decide +kernel))
theorem lk_RX2_21 : LnkOk RX2 21 TX2 3 := Or.inl (List.mem_of_getElem? (i := 271) (by decide +kernel))
theorem lk_RX2_25 : LnkOk RX2 25 TX2 4 := Or.inl (List.mem_of_getElem? (i := 272) (by decide +kernel))
theorem lk_RX2_29 : LnkOk RX2 29 TX2 5 := Or.inl (List.mem_of_getElem? (i := 273) (by decide +kernel))
theorem lk_RX2_32 : LnkOk RX2 32 TX8 0 := Or.inr ⟨"ChalkWall", List.mem_of_getElem? (i := 352) (by decide +kernel)⟩
theorem lk_RX2_9 : LnkOk RX2 9 TX2 0 := Or.inl (List.mem_of_getElem? (i := 267) (by decide +kernel))
theorem lk_RX2_37 : LnkOk RX2 37 TX8 1 := Or.inr ⟨"ChalkWall", List.mem_of_getElem? (i := 358) (by decide +kernel)⟩
theorem lk_RX2_46 : LnkOk RX2 46 TX8 2 := Or.inr ⟨"ChalkWall", List.mem_of_getElem? (i := 364) (by decide +kernel)⟩
theorem lk_RX2_51 : LnkOk RX2 51 TX8 4 := Or.inr ⟨"ChalkWall", List.mem_of_getElem? (i := 371) (by decide +kernel)⟩
theorem lk_RX4_15 : LnkOk RX4 15 TX4 1 := Or.inl (List.mem_of_getElem? (i := 295) (by decide +kernel))
theorem lk_RX4_19 : LnkOk RX4 19 TX4 2 := Or.inl (List.mem_of_getElem? (i := 297) (by decide +kernel))
theorem lk_RX4_22 : LnkOk RX4 22 TX4 3 := Or.inl (List.mem_of_getElem? (i := 299) (by decide +kernel))
theorem lk_RX4_9 : LnkOk RX4 9 TX4 0 := Or.inl (List.mem_of_getElem? (i := 294) (by decide +kernel))
theorem lk_RX4_29 : LnkOk RX4 29 TX1 0 := Or.inr ⟨"ChalkWall", List.mem_of_getElem? (i := 444) (by decide +kernel)⟩
theorem lk_RX4_34 : LnkOk RX4 34 TX1 1 := Or.inr ⟨"ChalkWall", List.mem_of_getElem? (i := 446) (by decide +kernel)⟩
theorem lk_RX5_21 : LnkOk RX5 21 TX5 2 := Or.inl (List.mem_of_getElem? (i := 429) (by decide +kernel))
theorem lk_RX5_9 : LnkOk RX5 9 TX5 0 := Or.inl (List.mem_of_getElem? (i := 427) (by decide +kernel))
theorem lk_RX5_15 : LnkOk RX5 15 TX5 1 := Or.inl (List.mem_of_getElem? (i := 428) (by decide +kernel))
theorem lk_RX6_23 : LnkOk RX6 23 TX6 1 := Or.inl (List.mem_of_getElem? (i := 247) (by decide +kernel))
theorem lk_RX6_27 : LnkOk RX6 27 TX6 3 := Or.inl (List.mem_of_getElem? (i := 250) (by decide +kernel))
theorem lk_RX6_11 : LnkOk RX6 11 TX6 0 := Or.inl (List.mem_of_getElem? (i := 246) (by decide +kernel))
theorem lk_RX6_19 : LnkOk RX6 19 TX6 2 := Or.inl (List.mem_of_getElem? (i := 249) (by decide +kernel))
theorem lk_RX7_24 : LnkOk RX7 24 TX7 4 := Or.inl (List.mem_of_getElem? (i := 166) (by decide +kernel))
theorem lk_RX7_71 : LnkOk RX7 71 TX8 2 := Or.inr ⟨"ChalkWall", List.mem_of_getElem? (i := 366) (by decide +kernel)⟩
theorem lk_RX7_62 : LnkOk RX7 62 TX8 5 := Or.inr ⟨"ChalkWall", List.mem_of_getElem? (i := 377) (by decide +kernel)⟩
theorem lk_RX7_74 : LnkOk RX7 74 TX8 0 := Or.inr ⟨"ChalkWall", List.mem_of_getElem? (i := 354) (by decide +kernel)⟩
theorem lk_RX7_18 : LnkOk RX7 18 TX7 2 := Or.inl (List.mem_of_getElem? (i := 164) (by decide +kernel))
theorem lk_RX7_11 : LnkOk RX7 11 TX7 0 := Or.inl (List.mem_of_getElem? (i := 162) (by decide +kernel))
theorem lk_RX7_15 : LnkOk RX7 15 TX7 1 := Or.inl (List.mem_of_getElem? (i := 163) (by decide +kernel))
theorem lk_RX7_21 : LnkOk RX7 21 TX7 3 := Or.inl (List.mem_of_getElem? (i := 165) (by decide +kernel))
theorem lk_RX7_96 : LnkOk RX7 96 TX7 5 := Or.inl (List.mem_of_getElem? (i := 167) (by decide +kernel))
theorem lk_RX7_99 : LnkOk RX7 99 TX7 6 := Or.inl (List.mem_of_getElem? (i := 169) (by decide +kernel))
theorem lk_RX7_102 : LnkOk RX7 102 TX7 7 := Or.inl (List.mem_of_getElem? (i := 171) (by decide +kernel))
theorem lk_RX8_36 : LnkOk RX8 36 TX8 0 := Or.inl (List.mem_of_getElem? (i := 351) (by decide +kernel))
theorem lk_RX8_40 : LnkOk RX8 40 TX8 2 := Or.inl (List.mem_of_getElem? (i := 361) (by decide +kernel))
theorem lk_RX8_43 : LnkOk RX8 43 TX8 5 := Or.inl (List.mem_of_getElem? (i := 374) (by decide +kernel))
theorem lk_RX8_30 : LnkOk RX8 30 TX8 9 := Or.inl (List.mem_of_getElem? (i := 388) (by decide +kernel))
theorem lk_RX8_9 : LnkOk RX8 9 TX8 1 := Or.inl (List.mem_of_getElem? (i := 357) (by decide +kernel))
theorem lk_RX8_15 : LnkOk RX8 15 TX8 3 := Or.inl (List.mem_of_getElem? (i := 367) (by decide +kernel))
theorem lk_RX8_18 : LnkOk RX8 18 TX8 4 := Or.inl (List.mem_of_getElem? (i := 370) (by decide +kernel))
theorem lk_RX8_21 : LnkOk RX8 21 TX8 6 := Or.inl (List.mem_of_getElem? (i := 379) (by decide +kernel))
theorem lk_RX8_24 : LnkOk RX8 24 TX8 7 := Or.inl (List.mem_of_getElem? (i := 382) (by decide +kernel))
theorem lk_RX8_27 : LnkOk RX8 27 TX8 8 := Or.inl (List.mem_of_getElem? (i := 385) (by decide +kernel))
theorem lk_RX9_19 : LnkOk RX9 19 TX9 1 := Or.inl (List.mem_of_getElem? (i := 135) (by decide +kernel))
theorem lk_RX9_9 : LnkOk RX9 9 TX9 0 := Or.inl (List.mem_of_getElem? (i := 134) (by decide +kernel))
theorem lk_RX9_28 : LnkOk RX9 28 TX9 2 := Or.inl (List.mem_of_getElem? (i := 137) (by decide +kernel))
theorem lk_RX9_31 : LnkOk RX9 31 TX9 3 := Or.inl (List.mem_of_getElem? (i := 138) (by decide +kernel))
theorem lk_RX9_34 : LnkOk RX9 34 TX9 4 := Or.inl (List.mem_of_getElem? (i := 139) (by decide +kernel))
theorem lk_RX9_15 : LnkOk RX9 15 TX9 5 := Or.inl (List.mem_of_getElem? (i := 140) (by decide +kernel))
theorem lk_RX10_33 : LnkOk RX10 33 TX10 0 := Or.inl (List.mem_of_getElem? (i := 195) (by decide +kernel))
theorem lk_RX10_37 : LnkOk RX10 37 TX10 1 := Or.inl (List.mem_of_getElem? (i := 197) (by decide +kernel))
theorem lk_RX10_40 : LnkOk RX10 40 TX8 2 := Or.inr ⟨"ChalkWall", List.mem_of_getElem? (i := 362) (by decide +kernel)⟩
theorem lk_RX10_24 : LnkOk RX10 24 TX10 7 := Or.inl (List.mem_of_getElem? (i := 209) (by decide +kernel))
theorem lk_RX10_45 : LnkOk RX10 45 TX8 3 := Or.inr ⟨"ChalkWall", List.mem_of_getElem? (i := 368) (by decide +kernel)⟩
theorem lk_RX10_27 : LnkOk RX10 27 TX10 8 := Or.inl (List.mem_of_getElem? (i := 211) (by decide +kernel))
theorem lk_RX10_50 : LnkOk RX10 50 TX10 2 := Or.inl (List.mem_of_getElem? (i := 199) (by decide +kernel))
theorem lk_RX10_9 : LnkOk RX10 9 TX10 3 := Or.inl (List.mem_of_getElem? (i := 201) (by decide +kernel))
theorem lk_RX10_59 : LnkOk RX10 59 TX8 5 := Or.inr ⟨"ChalkWall", List.mem_of_getElem? (i := 376) (by decide +kernel)⟩
theorem lk_RX10_30 : LnkOk RX10 30 TX10 9 := Or.inl (List.mem_of_getElem? (i := 213) (by decide +kernel))
theorem lk_RX10_62 : LnkOk RX10 62 TX8 7 := Or.inr ⟨"ChalkWall", List.mem_of_getElem? (i := 383) (by decide +kernel)⟩
theorem lk_RX10_63 : LnkOk RX10 63 TX8 4 := Or.inr ⟨"ChalkWall", List.mem_of_getElem? (i := 372) (by decide +kernel)⟩
theorem lk_RX10_66 : LnkOk RX10 66 TX8 8 := Or.inr ⟨"ChalkWall", List.mem_of_getElem? (i := 386) (by decide +kernel)⟩
theorem lk_RX10_73 : LnkOk RX10 73 TX8 6 := Or.inr ⟨"ChalkWall", List.mem_of_getElem? (i := 380) (by decide +kernel)⟩
theorem lk_RX10_80 : LnkOk RX10 80 TX8 0 := Or.inr ⟨"ChalkWall", List.mem_of_getElem? (i := 355) (by decide +kernel)⟩
theorem lk_RX10_15 : LnkOk RX10 15 TX10 4 := Or.inl (List.mem_of_getElem? (i := 203) (by decide +kernel))
theorem lk_RX10_18 : LnkOk RX10 18 TX10 5 := Or.inl (List.mem_of_getElem? (i := 205) (by decide +kernel))
theorem lk_RX10_21 : LnkOk RX10 21 TX10 6 := Or.inl (List.mem_of_getElem? (i := 207) (by decide +kernel))
theorem lk_RX10_87 : LnkOk RX10 87 TX8 9 := Or.inr ⟨"ChalkWall", List.mem_of_getElem? (i := 389) (by decide +kernel)⟩
theorem lk_RX10_96 : LnkOk RX10 96 TX8 1 := Or.inr ⟨"ChalkWall", List.mem_of_getElem? (i := 360) (by decide +kernel)⟩
theorem lk_RX11_10 : LnkOk RX11 10 TX11 0 := Or.inl (List.mem_of_getElem? (i := 460) (by decide +kernel))
theorem lk_RX11_111 : LnkOk RX11 111 TX9 1 := Or.inr ⟨"ChalkWall", List.mem_of_getElem? (i := 136) (by decide +kernel)⟩
theorem lk_RX11_76 : LnkOk RX11 76 TX11 11 := Or.inl (List.mem_of_getElem? (i := 471) (by decide +kernel))
theorem lk_RX11_72 : LnkOk RX11 72 TX11 10 := Or.inl (List.mem_of_getElem? (i := 470) (by decide +kernel))
theorem lk_RX11_82 : LnkOk RX11 82 TX11 12 := Or.inl (List.mem_of_getElem? (i := 472) (by decide +kernel))
theorem lk_RX11_92 : LnkOk RX11 92 TX11 14 := Or.inl (List.mem_of_getElem? (i := 474) (by decide +kernel))
theorem lk_RX11_33 : LnkOk RX11 33 TX11 3 := Or.inl (List.mem_of_getElem? (i := 463) (by decide +kernel))
theorem lk_RX11_26 : LnkOk RX11 26 TX11 2 := Or.inl (List.mem_of_getElem? (i := 462) (by decide +kernel))
theorem lk_RX11_144 : LnkOk RX11 144 TX11 16 := Or.inl (List.mem_of_getElem? (i := 476) (by decide +kernel))
theorem lk_RX11_147 : LnkOk RX11 147 TX8 2 := Or.inr ⟨"ChalkWall", List.mem_of_getElem? (i := 365) (by decide +kernel)⟩
theorem lk_RX11_86 : LnkOk RX11 86 TX11 13 := Or.inl (List.mem_of_getElem? (i := 473) (by decide +kernel))
theorem lk_RX11_157 : LnkOk RX11 157 TX6 1 := Or.inr ⟨"ChalkWall", List.mem_of_getElem? (i := 248) (by decide +kernel)⟩
theorem lk_RX11_19 : LnkOk RX11 19 TX11 1 := Or.inl (List.mem_of_getElem? (i := 461) (by decide +kernel))
theorem lk_RX11_171 : LnkOk RX11 171 TX7 7 := Or.inr ⟨"ChalkWall", List.mem_of_getElem? (i := 170) (by decide +kernel)⟩
theorem lk_RX11_174 : LnkOk RX11 174 TX7 6 := Or.inr ⟨"ChalkWall", List.mem_of_getElem? (i := 168) (by decide +kernel)⟩
theorem lk_RX11_96 : LnkOk RX11 96 TX11 15 := Or.inl (List.mem_of_getElem? (i := 475) (by decide +kernel))
theorem lk_RX11_181 : LnkOk RX11 181 TX9 5 := Or.inr ⟨"ChalkWall", List.mem_of_getElem? (i := 141) (by decide +kernel)⟩
theorem lk_RX11_188 : LnkOk RX11 188 TX8 0 := Or.inr ⟨"ChalkWall", List.mem_of_getElem? (i := 356) (by decide +kernel)⟩
theorem lk_RX11_191 : LnkOk RX11 191 TX8 5 := Or.inr ⟨"ChalkWall", List.mem_of_getElem? (i := 378) (by decide +kernel)⟩
theorem lk_RX11_194 : LnkOk RX11 194 TX10 0 := Or.inr ⟨"ChalkWall", List.mem_of_getElem? (i := 196) (by decide +kernel)⟩
theorem lk_RX11_197 : LnkOk RX11 197 TX10 2 := Or.inr ⟨"ChalkWall", List.mem_of_getElem? (i := 200) (by decide +kernel)⟩
theorem lk_RX11_206 : LnkOk RX11 206 TX10 1 := Or.inr ⟨"ChalkWall", List.mem_of_getElem? (i := 198) (by decide +kernel)⟩
theorem lk_RX11_216 : LnkOk RX11 216 TX8 1 := Or.inr ⟨"ChalkWall", List.mem_of_getElem? (i := 359) (by decide +kernel)⟩
theorem lk_RX11_229 : LnkOk RX11 229 TX10 7 := Or.inr ⟨"ChalkWall", List.mem_of_getElem? (i := 210) (by decide +kernel)⟩
theorem lk_RX11_232 : LnkOk RX11 232 TX8 4 := Or.inr ⟨"ChalkWall", List.mem_of_getElem? (i := 373) (by decide +kernel)⟩
theorem lk_RX11_235 : LnkOk RX11 235 TX8 3 := Or.inr ⟨"ChalkWall", List.mem_of_getElem? (i := 369) (by decide +kernel)⟩
theorem lk_RX11_236 : LnkOk RX11 236 TX10 8 := Or.inr ⟨"ChalkWall", List.mem_of_getElem? (i := 212) (by decide +kernel)⟩
theorem lk_RX11_245 : LnkOk RX11 245 TX8 6 := Or.inr ⟨"ChalkWall", List.mem_of_getElem? (i := 381) (by decide +kernel)⟩
theorem lk_RX11_248 : LnkOk RX11 248 TX8 7 := Or.inr ⟨"ChalkWall", List.mem_of_getElem? (i := 384) (by decide +kernel)⟩
theorem lk_RX11_251 : LnkOk RX11 251 TX10 9 := Or.inr ⟨"ChalkWall", List.mem_of_getElem? (i := 214) (by decide +kernel)⟩
theorem lk_RX11_252 : LnkOk RX11 252 TX8 8 := Or.inr ⟨"ChalkWall", List.mem_of_getElem? (i := 387) (by decide +kernel)⟩
theorem lk_RX11_258 : LnkOk RX11 258 TX10 3 := Or.inr ⟨"ChalkWall", List.mem_of_getElem? (i := 202) (by decide +kernel)⟩
theorem lk_RX11_261 : LnkOk RX11 261 TX10 4 := Or.inr ⟨"ChalkWall", List.mem_of_getElem? (i := 204) (by decide +kernel)⟩
theorem lk_RX11_264 : LnkOk RX11 264 TX10 5 := Or.inr ⟨"ChalkWall", List.mem_of_getElem? (i := 206) (by decide +kernel)⟩
theorem lk_RX11_267 : LnkOk RX11 267 TX10 6 := Or.inr ⟨"ChalkWall", List.mem_of_getElem? (i := 208) (by decide +kernel)⟩
theorem lk_RX11_273 : LnkOk RX11 273 TX8 9 := Or.inr ⟨"ChalkWall", List.mem_of_getElem? (i := 390) (by decide +kernel)⟩
theorem lk_RX11_58 : LnkOk RX11 58 TX11 7 := Or.inl (List.mem_of_getElem? (i := 467) (by decide +kernel))
theorem lk_RX11_40 : LnkOk RX11 40 TX11 4 := Or.inl (List.mem_of_getElem? (i := 464) (by decide +kernel))
theorem lk_RX11_308 : LnkOk RX11 308 TX2 5 := Or.inr ⟨"ChalkWall", List.mem_of_getElem? (i := 274) (by decide +kernel)⟩
theorem lk_RX11_311 : LnkOk RX11 311 TX2 2 := Or.inr ⟨"ChalkWall", List.mem_of_getElem? (i := 270) (by decide +kernel)⟩
theorem lk_RX11_47 : LnkOk RX11 47 TX11 5 := Or.inl (List.mem_of_getElem? (i := 465) (by decide +kernel))
theorem lk_RX11_318 : LnkOk RX11 318 TX4 1 := Or.inr ⟨"ChalkWall", List.mem_of_getElem? (i := 296) (by decide +kernel)⟩
theorem lk_RX11_321 : LnkOk RX11 321 TX4 2 := Or.inr ⟨"ChalkWall", List.mem_of_getElem? (i := 298) (by decide +kernel)⟩
theorem lk_RX11_324 : LnkOk RX11 324 TX4 3 := Or.inr ⟨"ChalkWall", List.mem_of_getElem? (i := 300) (by decide +kernel)⟩
theorem lk_RX11_54 : LnkOk RX11 54 TX11 6 := Or.inl (List.mem_of_getElem? (i := 466) (by decide +kernel))
theorem lk_RX11_365 : LnkOk RX11 365 TX0 2 := Or.inr ⟨"ChalkWall", List.mem_of_getElem? (i := 321) (by decide +kernel)⟩
theorem lk_RX11_366 : LnkOk RX11 366 TX0 3 := Or.inr ⟨"ChalkWall", List.mem_of_getElem? (i := 323) (by decide +kernel)⟩
theorem lk_RX11_368 : LnkOk RX11 368 TX0 4 := Or.inr ⟨"ChalkWall", List.mem_of_getElem? (i := 325) (by decide +kernel)⟩
theorem lk_RX11_371 : LnkOk RX11 371 TX0 5 := Or.inr ⟨"ChalkWall", List.mem_of_getElem? (i := 327) (by decide +kernel)⟩
theorem lk_RX11_380 : LnkOk RX11 380 TX6 3 := Or.inr ⟨"ChalkWall", List.mem_of_getElem? (i := 251) (by decide +kernel)⟩
theorem lk_RX11_386 : LnkOk RX11 386 TX11 17 := Or.inl (List.mem_of_getElem? (i := 477) (by decide +kernel))
theorem lk_RX11_389 : LnkOk RX11 389 TX11 18 := Or.inl (List.mem_of_getElem? (i := 478) (by decide +kernel))
theorem lk_RX11_62 : LnkOk RX11 62 TX11 8 := Or.inl (List.mem_of_getElem? (i := 468) (by decide +kernel))
theorem lk_RX11_66 : LnkOk RX11 66 TX11 9 := Or.inl (List.mem_of_getElem? (i := 469) (by decide +kernel))
theorem lk_RX12_20 : LnkOk RX12 20 TX12 11 := Or.inl (List.mem_of_getElem? (i := 1427) (by decide +kernel))
theorem lk_RX12_32 : LnkOk RX12 32 TX12 15 := Or.inl (List.mem_of_getElem? (i := 1431) (by decide +kernel))
theorem lk_RX12_38 : LnkOk RX12 38 TX12 17 := Or.inl (List.mem_of_getElem? (i := 1433) (by decide +kernel))
theorem lk_RX12_116 : LnkOk RX12 116 TX12 0 := Or.inl (List.mem_of_getElem? (i := 1416) (by decide +kernel))
theorem lk_RX12_17 : LnkOk RX12 17 TX12 10 := Or.inl (List.mem_of_getElem? (i := 1426) (by decide +kernel))
theorem lk_RX12_119 : LnkOk RX12 119 TX12 1 := Or.inl (List.mem_of_getElem? (i := 1417) (by decide +kernel))
theorem lk_RX12_13 : LnkOk RX12 13 TX12 9 := Or.inl (List.mem_of_getElem? (i := 1425) (by decide +kernel))
theorem lk_RX12_122 : LnkOk RX12 122 TX12 2 := Or.inl (List.mem_of_getElem? (i := 1418) (by decide +kernel))
theorem lk_RX12_125 : LnkOk RX12 125 TX12 4 := Or.inl (List.mem_of_getElem? (i := 1420) (by decide +kernel))
theorem lk_RX12_132 : LnkOk RX12 132 TX12 5 := Or.inl (List.mem_of_getElem? (i := 1421) (by decide +kernel))
theorem lk_RX12_135 : LnkOk RX12 135 TX12 6 := Or.inl (List.mem_of_getElem? (i := 1422) (by decide +kernel))
theorem lk_RX12_172 : LnkOk RX12 172 TX12 7 := Or.inl (List.mem_of_getElem? (i := 1423) (by decide +kernel))
theorem lk_RX12_175 : LnkOk RX12 175 TX12 8 := Or.inl (List.mem_of_getElem? (i := 1424) (by decide +kernel))
theorem lk_RX12_9 : LnkOk RX12 9 TX12 3 := Or.inl (List.mem_of_getElem? (i := 1419) (by decide +kernel))
theorem lk_RX12_26 : LnkOk RX12 26 TX12 13 := Or.inl (List.mem_of_getElem? (i := 1429) (by decide +kernel))
theorem lk_RX12_46 : LnkOk RX12 46 TX12 19 := Or.inl (List.mem_of_getElem? (i := 1435) (by decide +kernel))
theorem lk_RX12_52 : LnkOk RX12 52 TX12 21 := Or.inl (List.mem_of_getElem? (i := 1437) (by decide +kernel))
theorem lk_RX12_23 : LnkOk RX12 23 TX12 12 := Or.inl (List.mem_of_getElem? (i := 1428) (by decide +kernel))
theorem lk_RX12_29 : LnkOk RX12 29 TX12 14 := Or.inl (List.mem_of_getElem? (i := 1430) (by decide +kernel))
theorem lk_RX12_35 : LnkOk RX12 35 TX12 16 := Or.inl (List.mem_of_getElem? (i := 1432) (by decide +kernel))
theorem lk_RX12_49 : LnkOk RX12 49 TX12 20 := Or.inl (List.mem_of_getElem? (i := 1436) (by decide +kernel))
theorem lk_RX12_55 : LnkOk RX12 55 TX12 22 := Or.inl (List.mem_of_getElem? (i := 1438) (by decide +kernel))
theorem lk_RX12_41 : LnkOk RX12 41 TX12 18 := Or.inl (List.mem_of_getElem? (i := 1434) (by decide +kernel))
theorem lk_RX12_79 : LnkOk RX12 79 TX12 33 := Or.inl (List.mem_of_getElem? (i := 1449) (by decide +kernel))
theorem lk_RX12_213 : LnkOk RX12 213 TX12 23 := Or.inl (List.mem_of_getElem? (i := 1439) (by decide +kernel))
theorem lk_RX12_216 : LnkOk RX12 216 TX12 37 := Or.inl (List.mem_of_getElem? (i := 1453) (by decide +kernel))
theorem lk_RX12_219 : LnkOk RX12 219 TX12 38 := Or.inl (List.mem_of_getElem? (i := 1454) (by decide +kernel))
theorem lk_RX12_222 : LnkOk RX12 222 TX12 39 := Or.inl (List.mem_of_getElem? (i := 1455) (by decide +kernel))
theorem lk_RX12_225 : LnkOk RX12 225 TX12 40 := Or.inl (List.mem_of_getElem? (i := 1456) (by decide +kernel))
theorem lk_RX12_61 : LnkOk RX12 61 TX12 26 := Or.inl (List.mem_of_getElem? (i := 1442) (by decide +kernel))
theorem lk_RX12_228 : LnkOk RX12 228 TX12 24 := Or.inl (List.mem_of_getElem? (i := 1440) (by decide +kernel))
theorem lk_RX12_58 : LnkOk RX12 58 TX12 25 := Or.inl (List.mem_of_getElem? (i := 1441) (by decide +kernel))
theorem lk_RX12_70 : LnkOk RX12 70 TX12 29 := Or.inl (List.mem_of_getElem? (i := 1445) (by decide +kernel))
theorem lk_RX12_73 : LnkOk RX12 73 TX12 30 := Or.inl (List.mem_of_getElem? (i := 1446) (by decide +kernel))
theorem lk_RX12_76 : LnkOk RX12 76 TX12 31 := Or.inl (List.mem_of_getElem? (i := 1447) (by decide +kernel))
theorem lk_RX12_272 : LnkOk RX12 272 TX12 32 := Or.inl (List.mem_of_getElem? (i := 1448) (by decide +kernel))
theorem lk_RX12_67 : LnkOk RX12 67 TX12 28 := Or.inl (List.mem_of_getElem? (i := 1444) (by decide +kernel))
theorem lk_RX12_64 : LnkOk RX12 64 TX12 27 := Or.inl (List.mem_of_getElem? (i := 1443) (by decide +kernel))
theorem lk_RX12_307 : LnkOk RX12 307 TX12 42 := Or.inl (List.mem_of_getElem? (i := 1458) (by decide +kernel))
theorem lk_RX12_317 : LnkOk RX12 317 TX12 43 := Or.inl (List.mem_of_getElem? (i := 1459) (by decide +kernel))
theorem lk_RX12_85 : LnkOk RX12 85 TX12 35 := Or.inl (List.mem_of_getElem? (i := 1451) (by decide +kernel))
theorem lk_RX12_100 : LnkOk RX12 100 TX12 47 := Or.inl (List.mem_of_getElem? (i := 1463) (by decide +kernel))
theorem lk_RX12_364 : LnkOk RX12 364 TX12 48 := Or.inl (List.mem_of_getElem? (i := 1464) (by decide +kernel))
theorem lk_RX12_94 : LnkOk RX12 94 TX12 45 := Or.inl (List.mem_of_getElem? (i := 1461) (by decide +kernel))
theorem lk_RX12_91 : LnkOk RX12 91 TX12 44 := Or.inl (List.mem_of_getElem? (i := 1460) (by decide +kernel))
theorem lk_RX12_97 : LnkOk RX12 97 TX12 46 := Or.inl (List.mem_of_getElem? (i := 1462) (by decide +kernel))
theorem lk_RX12_103 : LnkOk RX12 103 TX12 49 := Or.inl (List.mem_of_getElem? (i := 1465) (by decide +kernel))
theorem lk_RX12_107 : LnkOk RX12 107 TX12 50 := Or.inl (List.mem_of_getElem? (i := 1466) (by decide +kernel))
theorem lk_RX12_394 : LnkOk RX12 394 TX12 51 := Or.inl (List.mem_of_getElem? (i := 1467) (by decide +kernel))
theorem lk_RX12_82 : LnkOk RX12 82 TX12 34 := Or.inl (List.mem_of_getElem? (i := 1450) (by decide +kernel))
theorem lk_RX12_398 : LnkOk RX12 398 TX12 52 := Or.inl (List.mem_of_getElem? (i := 1468) (by decide +kernel))
theorem lk_RX12_401 : LnkOk RX12 401 TX12 53 := Or.inl (List.mem_of_getElem? (i := 1469) (by decide +kernel))
theorem lk_RX12_418 : LnkOk RX12 418 TX12 41 := Or.inl (List.mem_of_getElem? (i := 1457) (by decide +kernel))
theorem lk_RX12_88 : LnkOk RX12 88 TX12 36 := Or.inl (List.mem_of_getElem? (i := 1452) (by decide +kernel))
abbrev qDawns_init : MD := (yX0_init, cX0_init, 1, none)
theorem mk_Dawns_init : MOk qDawns_init 0 := ⟨List.mem_of_getElem? (i := 314) (by decide +kernel), List.mem_of_getElem? (i := 102) (by decide +kernel), by decide, ⟨by decide, by decide⟩, by decide +kernel, by decide⟩
theorem mv_Dawns_init : MI qDawns_init := ⟨List.mem_of_getElem? (i := 313) (by decide +kernel), rfl, rfl⟩
abbrev qWall_become : MD := (yX10_become, cX10_become, 2, none)
theorem mk_Wall_become : MOk qWall_become 1 := ⟨List.mem_of_getElem? (i := 545) (by decide +kernel), List.mem_of_getElem? (i := 98) (by decide +kernel), by decide, ⟨by decide, by decide⟩, by decide +kernel, by decide⟩
theorem mv_Wall_become : MV qWall_become := ⟨List.mem_of_getElem? (i := 543) (by decide +kernel), List.mem_of_getElem? (i := 544) (by decide +kernel)⟩
abbrev qDawns_playDawn : MD := (yX0_playDawn, cX0_playDawn, 7, none)
theorem mk_Dawns_playDawn : MOk qDawns_playDawn 3 := ⟨List.mem_of_getElem? (i := 1371) (by decide +kernel), List.mem_of_getElem? (i := 102) (by decide +kernel), by decide, ⟨by decide, by decide⟩, by decide +kernel, by decide⟩
theorem mv_Dawns_playDawn : MV qDawns_playDawn := ⟨List.mem_of_getElem? (i := 1370) (by decide +kernel), List.mem_of_getElem? (i := 34) (by decide +kernel)⟩
abbrev qWall_turnDay : MD := (yX10_turnDay, cX10_turnDay, 2, none)
theorem mk_Wall_turnDay : MOk qWall_turnDay 1 := ⟨List.mem_of_getElem? (i := 1000) (by decide +kernel), List.mem_of_getElem? (i := 98) (by decide +kernel), by decide, ⟨by decide, by decide⟩, by decide +kernel, by decide⟩
theorem mv_Wall_turnDay : MV qWall_turnDay := ⟨List.mem_of_getElem? (i := 998) (by decide +kernel), List.mem_of_getElem? (i := 999) (by decide +kernel)⟩
abbrev qWall_keptAsTold : MD := (yX10_keptAsTold, cX10_keptAsTold, 4, (some .int))
theorem mk_Wall_keptAsTold : MOk qWall_keptAsTold 1 := ⟨List.mem_of_getElem? (i := 1384) (by decide +kernel), List.mem_of_getElem? (i := 98) (by decide +kernel), by decide, ⟨by decide, by decide⟩, by decide +kernel, by decide⟩
theorem mv_Wall_keptAsTold : MV qWall_keptAsTold := ⟨List.mem_of_getElem? (i := 1382) (by decide +kernel), List.mem_of_getElem? (i := 1383) (by decide +kernel)⟩
abbrev qDawns_play : MD := (yX0_play, cX0_play, 8, none)
theorem mk_Dawns_play : MOk qDawns_play 6 := ⟨List.mem_of_getElem? (i := 1366) (by decide +kernel), List.mem_of_getElem? (i := 102) (by decide +kernel), by decide, ⟨by decide, by decide⟩, by decide +kernel, by decide⟩
theorem mv_Dawns_play : MV qDawns_play := ⟨List.mem_of_getElem? (i := 1364) (by decide +kernel), List.mem_of_getElem? (i := 1365) (by decide +kernel)⟩
abbrev qDawns_draw : MD := (yX0_draw, cX0_draw, 3, (some .int))
theorem mk_Dawns_draw : MOk qDawns_draw 1 := ⟨List.mem_of_getElem? (i := 1375) (by decide +kernel), List.mem_of_getElem? (i := 102) (by decide +kernel), by decide, ⟨by decide, by decide⟩, by decide +kernel, by decide⟩
theorem mv_Dawns_draw : MV qDawns_draw := ⟨List.mem_of_getElem? (i := 1374) (by decide +kernel), List.mem_of_getElem? (i := 35) (by decide +kernel)⟩
abbrev qWall_write : MD := (yX10_write, cX10_write, 5, (some .boolean))
theorem mk_Wall_write : MOk qWall_write 4 := ⟨List.mem_of_getElem? (i := 984) (by decide +kernel), List.mem_of_getElem? (i := 98) (by decide +kernel), by decide, ⟨by decide, by decide⟩, by decide +kernel, by decide⟩
theorem mv_Wall_write : MV qWall_write := ⟨List.mem_of_getElem? (i := 982) (by decide +kernel), List.mem_of_getElem? (i := 983) (by decide +kernel)⟩
abbrev qWall_slip : MD := (yX10_slip, cX10_slip, 4, (some .boolean))
theorem mk_Wall_slip : MOk qWall_slip 2 := ⟨List.mem_of_getElem? (i := 988) (by decide +kernel), List.mem_of_getElem? (i := 98) (by decide +kernel), by decide, ⟨by decide, by decide⟩, by decide +kernel, by decide⟩
theorem mv_Wall_slip : MV qWall_slip := ⟨List.mem_of_getElem? (i := 986) (by decide +kernel), List.mem_of_getElem? (i := 987) (by decide +kernel)⟩
abbrev qWall_rain : MD := (yX10_rain, cX10_rain, 4, (some .boolean))
theorem mk_Wall_rain : MOk qWall_rain 1 := ⟨List.mem_of_getElem? (i := 992) (by decide +kernel), List.mem_of_getElem? (i := 98) (by decide +kernel), by decide, ⟨by decide, by decide⟩, by decide +kernel, by decide⟩
theorem mv_Wall_rain : MV qWall_rain := ⟨List.mem_of_getElem? (i := 990) (by decide +kernel), List.mem_of_getElem? (i := 991) (by decide +kernel)⟩
abbrev qDeeds_init : MD := (yX1_init, cX1_init, 1, none)
theorem mk_Deeds_init : MOk qDeeds_init 0 := ⟨List.mem_of_getElem? (i := 441) (by decide +kernel), List.mem_of_getElem? (i := 105) (by decide +kernel), by decide, ⟨by decide, by decide⟩, by decide +kernel, by decide⟩
theorem mv_Deeds_init : MI qDeeds_init := ⟨List.mem_of_getElem? (i := 440) (by decide +kernel), rfl, rfl⟩
abbrev qDeeds_clear : MD := (yX1_clear, cX1_clear, 1, none)
theorem mk_Deeds_clear : MOk qDeeds_clear 0 := ⟨List.mem_of_getElem? (i := 865) (by decide +kernel), List.mem_of_getElem? (i := 105) (by decide +kernel), by decide, ⟨by decide, by decide⟩, by decide +kernel, by decide⟩
theorem mv_Deeds_clear : MV qDeeds_clear := ⟨List.mem_of_getElem? (i := 863) (by decide +kernel), List.mem_of_getElem? (i := 864) (by decide +kernel)⟩
abbrev qJ_bitCount : MD := (yJ6_bitCount_0f7a4, cJ6_bitCount_0f7a4, 1, (some .int))
theorem mk_J_bitCount : MOk qJ_bitCount 1 := ⟨List.mem_of_getElem? (i := 1030) (by decide +kernel), List.mem_of_getElem? (i := 117) (by decide +kernel), by decide, ⟨by decide, by decide⟩, by decide +kernel, by decide⟩
theorem mv_J_bitCount : MS qJ_bitCount := List.mem_of_getElem? (i := 1029) (by decide +kernel)
abbrev qDeeds_lines : MD := (yX1_lines, cX1_lines, 1, (some .int))
theorem mk_Deeds_lines : MOk qDeeds_lines 0 := ⟨List.mem_of_getElem? (i := 1027) (by decide +kernel), List.mem_of_getElem? (i := 105) (by decide +kernel), by decide, ⟨by decide, by decide⟩, by decide +kernel, by decide⟩
theorem mv_Deeds_lines : MV qDeeds_lines := ⟨List.mem_of_getElem? (i := 1025) (by decide +kernel), List.mem_of_getElem? (i := 1026) (by decide +kernel)⟩
abbrev qTape_hasMore : MD := (yX9_hasMore, cX9_hasMore, 1, (some .boolean))
theorem mk_Tape_hasMore : MOk qTape_hasMore 0 := ⟨List.mem_of_getElem? (i := 734) (by decide +kernel), List.mem_of_getElem? (i := 96) (by decide +kernel), by decide, ⟨by decide, by decide⟩, by decide +kernel, by decide⟩
theorem mv_Tape_hasMore : MV qTape_hasMore := ⟨List.mem_of_getElem? (i := 732) (by decide +kernel), List.mem_of_getElem? (i := 733) (by decide +kernel)⟩
abbrev qTape_next : MD := (yX9_next, cX9_next, 1, (some .int))
theorem mk_Tape_next : MOk qTape_next 0 := ⟨List.mem_of_getElem? (i := 738) (by decide +kernel), List.mem_of_getElem? (i := 96) (by decide +kernel), by decide, ⟨by decide, by decide⟩, by decide +kernel, by decide⟩
theorem mv_Tape_next : MV qTape_next := ⟨List.mem_of_getElem? (i := 736) (by decide +kernel), List.mem_of_getElem? (i := 737) (by decide +kernel)⟩
abbrev qTape_number : MD := (yX9_number, cX9_number, 5, (some .int))
theorem mk_Tape_number : MOk qTape_number 2 := ⟨List.mem_of_getElem? (i := 822) (by decide +kernel), List.mem_of_getElem? (i := 96) (by decide +kernel), by decide, ⟨by decide, by decide⟩, by decide +kernel, by decide⟩
theorem mv_Tape_number : MV qTape_number := ⟨List.mem_of_getElem? (i := 820) (by decide +kernel), List.mem_of_getElem? (i := 821) (by decide +kernel)⟩
abbrev qC_hasBit : MD := (yX11_hasBit, cX11_hasBit, 2, (some .boolean))
theorem mk_C_hasBit : MOk qC_hasBit 2 := ⟨List.mem_of_getElem? (i := 579) (by decide +kernel), List.mem_of_getElem? (i := 95) (by decide +kernel), by decide, ⟨by decide, by decide⟩, by decide +kernel, by decide⟩
theorem mv_C_hasBit : MS qC_hasBit := List.mem_of_getElem? (i := 578) (by decide +kernel)
abbrev qTape_wrong : MD := (yX9_wrong, cX9_wrong, 3, none)
theorem mk_Tape_wrong : MOk qTape_wrong 2 := ⟨List.mem_of_getElem? (i := 810) (by decide +kernel), List.mem_of_getElem? (i := 96) (by decide +kernel), by decide, ⟨by decide, by decide⟩, by decide +kernel, by decide⟩
theorem mv_Tape_wrong : MV qTape_wrong := ⟨List.mem_of_getElem? (i := 808) (by decide +kernel), List.mem_of_getElem? (i := 809) (by decide +kernel)⟩
abbrev qDeeds_add : MD := (yX1_add, cX1_add, 4, none)
theorem mk_Deeds_add : MOk qDeeds_add 2 := ⟨List.mem_of_getElem? (i := 1021) (by decide +kernel), List.mem_of_getElem? (i := 105) (by decide +kernel), by decide, ⟨by decide, by decide⟩, by decide +kernel, by decide⟩
theorem mv_Deeds_add : MV qDeeds_add := ⟨List.mem_of_getElem? (i := 1020) (by decide +kernel), List.mem_of_getElem? (i := 23) (by decide +kernel)⟩
abbrev qTape_needSign : MD := (yX9_needSign, cX9_needSign, 2, none)
theorem mk_Tape_needSign : MOk qTape_needSign 1 := ⟨List.mem_of_getElem? (i := 855) (by decide +kernel), List.mem_of_getElem? (i := 96) (by decide +kernel), by decide, ⟨by decide, by decide⟩, by decide +kernel, by decide⟩
theorem mv_Tape_needSign : MV qTape_needSign := ⟨List.mem_of_getElem? (i := 853) (by decide +kernel), List.mem_of_getElem? (i := 854) (by decide +kernel)⟩
abbrev qDeeds_read : MD := (yX1_read, cX1_read, 5, none)
theorem mk_Deeds_read : MOk qDeeds_read 1 := ⟨List.mem_of_getElem? (i := 1011) (by decide +kernel), List.mem_of_getElem? (i := 105) (by decide +kernel), by decide, ⟨by decide, by decide⟩, by decide +kernel, by decide⟩
theorem mv_Deeds_read : MV qDeeds_read := ⟨List.mem_of_getElem? (i := 1009) (by decide +kernel), List.mem_of_getElem? (i := 1010) (by decide +kernel)⟩
abbrev qTape_isFine : MD := (yX9_isFine, cX9_isFine, 1, (some .boolean))
theorem mk_Tape_isFine : MOk qTape_isFine 0 := ⟨List.mem_of_getElem? (i := 831) (by decide +kernel), List.mem_of_getElem? (i := 96) (by decide +kernel), by decide, ⟨by decide, by decide⟩, by decide +kernel, by decide⟩
theorem mv_Tape_isFine : MV qTape_isFine := ⟨List.mem_of_getElem? (i := 829) (by decide +kernel), List.mem_of_getElem? (i := 830) (by decide +kernel)⟩
abbrev qFitting_init : MD := (yX2_init, cX2_init, 1, none)
theorem mk_Fitting_init : MOk qFitting_init 0 := ⟨List.mem_of_getElem? (i := 265) (by decide +kernel), List.mem_of_getElem? (i := 100) (by decide +kernel), by decide, ⟨by decide, by decide⟩, by decide +kernel, by decide⟩
theorem mv_Fitting_init : MI qFitting_init := ⟨List.mem_of_getElem? (i := 264) (by decide +kernel), rfl, rfl⟩
abbrev qJ_max : MD := (yJ9_max_7cf53, cJ9_max_7cf53, 2, (some .int))
theorem mk_J_max : MOk qJ_max 2 := ⟨List.mem_of_getElem? (i := 1074) (by decide +kernel), List.mem_of_getElem? (i := 111) (by decide +kernel), by decide, ⟨by decide, by decide⟩, by decide +kernel, by decide⟩
theorem mv_J_max : MS qJ_max := List.mem_of_getElem? (i := 1073) (by decide +kernel)
abbrev qFitting_place : MD := (yX2_place, cX2_place, 6, none)
theorem mk_Fitting_place : MOk qFitting_place 3 := ⟨List.mem_of_getElem? (i := 1231) (by decide +kernel), List.mem_of_getElem? (i := 100) (by decide +kernel), by decide, ⟨by decide, by decide⟩, by decide +kernel, by decide⟩
theorem mv_Fitting_place : MV qFitting_place := ⟨List.mem_of_getElem? (i := 1230) (by decide +kernel), List.mem_of_getElem? (i := 28) (by decide +kernel)⟩
abbrev qFitting_search : MD := (yX2_search, cX2_search, 6, none)
theorem mk_Fitting_search : MOk qFitting_search 2 := ⟨List.mem_of_getElem? (i := 1225) (by decide +kernel), List.mem_of_getElem? (i := 100) (by decide +kernel), by decide, ⟨by decide, by decide⟩, by decide +kernel, by decide⟩
theorem mv_Fitting_search : MV qFitting_search := ⟨List.mem_of_getElem? (i := 1223) (by decide +kernel), List.mem_of_getElem? (i := 1224) (by decide +kernel)⟩
abbrev qFitting_roomLeft : MD := (yX2_roomLeft, cX2_roomLeft, 3, (some .int))
theorem mk_Fitting_roomLeft : MOk qFitting_roomLeft 0 := ⟨List.mem_of_getElem? (i := 1235) (by decide +kernel), List.mem_of_getElem? (i := 100) (by decide +kernel), by decide, ⟨by decide, by decide⟩, by decide +kernel, by decide⟩
theorem mv_Fitting_roomLeft : MV qFitting_roomLeft := ⟨List.mem_of_getElem? (i := 1234) (by decide +kernel), List.mem_of_getElem? (i := 29) (by decide +kernel)⟩
abbrev qJ_min : MD := (yJ9_min_7cf53, cJ9_min_7cf53, 2, (some .int))
theorem mk_J_min : MOk qJ_min 2 := ⟨List.mem_of_getElem? (i := 726) (by decide +kernel), List.mem_of_getElem? (i := 111) (by decide +kernel), by decide, ⟨by decide, by decide⟩, by decide +kernel, by decide⟩
theorem mv_J_min : MS qJ_min := List.mem_of_getElem? (i := 725) (by decide +kernel)
abbrev qFitting_isLikeLower : MD := (yX2_isLikeLower, cX2_isLikeLower, 3, (some .boolean))
theorem mk_Fitting_isLikeLower : MOk qFitting_isLikeLower 1 := ⟨List.mem_of_getElem? (i := 1241) (by decide +kernel), List.mem_of_getElem? (i := 100) (by decide +kernel), by decide, ⟨by decide, by decide⟩, by decide +kernel, by decide⟩
theorem mv_Fitting_isLikeLower : MV qFitting_isLikeLower := ⟨List.mem_of_getElem? (i := 1240) (by decide +kernel), List.mem_of_getElem? (i := 30) (by decide +kernel)⟩
abbrev qImage_init : MD := (yX3_init, cX3_init, 3, none)
theorem mk_Image_init : MOk qImage_init 2 := ⟨List.mem_of_getElem? (i := 603) (by decide +kernel), List.mem_of_getElem? (i := 119) (by decide +kernel), by decide, ⟨by decide, by decide⟩, by decide +kernel, by decide⟩
theorem mv_Image_init : MI qImage_init := ⟨List.mem_of_getElem? (i := 602) (by decide +kernel), rfl, rfl⟩
abbrev qInquest_init : MD := (yX4_init, cX4_init, 1, none)
theorem mk_Inquest_init : MOk qInquest_init 0 := ⟨List.mem_of_getElem? (i := 292) (by decide +kernel), List.mem_of_getElem? (i := 101) (by decide +kernel), by decide, ⟨by decide, by decide⟩, by decide +kernel, by decide⟩
theorem mv_Inquest_init : MI qInquest_init := ⟨List.mem_of_getElem? (i := 291) (by decide +kernel), rfl, rfl⟩
abbrev qInquest_actsOfSet : MD := (yX4_actsOfSet, cX4_actsOfSet, 5, (some .int))
theorem mk_Inquest_actsOfSet : MOk qInquest_actsOfSet 3 := ⟨List.mem_of_getElem? (i := 1262) (by decide +kernel), List.mem_of_getElem? (i := 101) (by decide +kernel), by decide, ⟨by decide, by decide⟩, by decide +kernel, by decide⟩
theorem mv_Inquest_actsOfSet : MS qInquest_actsOfSet := List.mem_of_getElem? (i := 1261) (by decide +kernel)
abbrev qInquest_addSet : MD := (yX4_addSet, cX4_addSet, 4, none)
theorem mk_Inquest_addSet : MOk qInquest_addSet 2 := ⟨List.mem_of_getElem? (i := 1267) (by decide +kernel), List.mem_of_getElem? (i := 101) (by decide +kernel), by decide, ⟨by decide, by decide⟩, by decide +kernel, by decide⟩
theorem mv_Inquest_addSet : MV qInquest_addSet := ⟨List.mem_of_getElem? (i := 1266) (by decide +kernel), List.mem_of_getElem? (i := 31) (by decide +kernel)⟩
abbrev qInquest_hold : MD := (yX4_hold, cX4_hold, 6, none)
theorem mk_Inquest_hold : MOk qInquest_hold 3 := ⟨List.mem_of_getElem? (i := 1259) (by decide +kernel), List.mem_of_getElem? (i := 101) (by decide +kernel), by decide, ⟨by decide, by decide⟩, by decide +kernel, by decide⟩
theorem mv_Inquest_hold : MV qInquest_hold := ⟨List.mem_of_getElem? (i := 1257) (by decide +kernel), List.mem_of_getElem? (i := 1258) (by decide +kernel)⟩
abbrev qInquest_leftAtWorst : MD := (yX4_leftAtWorst, cX4_leftAtWorst, 2, (some .int))
theorem mk_Inquest_leftAtWorst : MOk qInquest_leftAtWorst 1 := ⟨List.mem_of_getElem? (i := 1282) (by decide +kernel), List.mem_of_getElem? (i := 101) (by decide +kernel), by decide, ⟨by decide, by decide⟩, by decide +kernel, by decide⟩
theorem mv_Inquest_leftAtWorst : MV qInquest_leftAtWorst := ⟨List.mem_of_getElem? (i := 1280) (by decide +kernel), List.mem_of_getElem? (i := 1281) (by decide +kernel)⟩
abbrev qInquest_bestQuestion : MD := (yX4_bestQuestion, cX4_bestQuestion, 5, (some .int))
theorem mk_Inquest_bestQuestion : MOk qInquest_bestQuestion 1 := ⟨List.mem_of_getElem? (i := 1278) (by decide +kernel), List.mem_of_getElem? (i := 101) (by decide +kernel), by decide, ⟨by decide, by decide⟩, by decide +kernel, by decide⟩
theorem mv_Inquest_bestQuestion : MV qInquest_bestQuestion := ⟨List.mem_of_getElem? (i := 1276) (by decide +kernel), List.mem_of_getElem? (i := 1277) (by decide +kernel)⟩
abbrev qLaw_init : MD := (yX5_init, cX5_init, 1, none)
theorem mk_Law_init : MOk qLaw_init 0 := ⟨List.mem_of_getElem? (i := 417) (by decide +kernel), List.mem_of_getElem? (i := 104) (by decide +kernel), by decide, ⟨by decide, by decide⟩, by decide +kernel, by decide⟩
theorem mv_Law_init : MI qLaw_init := ⟨List.mem_of_getElem? (i := 416) (by decide +kernel), rfl, rfl⟩
abbrev qLaw_put : MD := (yX5_put, cX5_put, 2, none)
theorem mk_Law_put : MOk qLaw_put 1 := ⟨List.mem_of_getElem? (i := 426) (by decide +kernel), List.mem_of_getElem? (i := 104) (by decide +kernel), by decide, ⟨by decide, by decide⟩, by decide +kernel, by decide⟩
theorem mv_Law_put : MV qLaw_put := ⟨List.mem_of_getElem? (i := 425) (by decide +kernel), List.mem_of_getElem? (i := 1) (by decide +kernel)⟩
abbrev qLaw_becomePlain : MD := (yX5_becomePlain, cX5_becomePlain, 1, none)
theorem mk_Law_becomePlain : MOk qLaw_becomePlain 0 := ⟨List.mem_of_getElem? (i := 422) (by decide +kernel), List.mem_of_getElem? (i := 104) (by decide +kernel), by decide, ⟨by decide, by decide⟩, by decide +kernel, by decide⟩
theorem mv_Law_becomePlain : MV qLaw_becomePlain := ⟨List.mem_of_getElem? (i := 420) (by decide +kernel), List.mem_of_getElem? (i := 421) (by decide +kernel)⟩
abbrev qLaw_readSum : MD := (yX5_readSum, cX5_readSum, 5, none)
theorem mk_Law_readSum : MOk qLaw_readSum 2 := ⟨List.mem_of_getElem? (i := 885) (by decide +kernel), List.mem_of_getElem? (i := 104) (by decide +kernel), by decide, ⟨by decide, by decide⟩, by decide +kernel, by decide⟩
theorem mv_Law_readSum : MV qLaw_readSum := ⟨List.mem_of_getElem? (i := 884) (by decide +kernel), List.mem_of_getElem? (i := 13) (by decide +kernel)⟩
abbrev qLaw_read : MD := (yX5_read, cX5_read, 2, none)
theorem mk_Law_read : MOk qLaw_read 1 := ⟨List.mem_of_getElem? (i := 881) (by decide +kernel), List.mem_of_getElem? (i := 104) (by decide +kernel), by decide, ⟨by decide, by decide⟩, by decide +kernel, by decide⟩
theorem mv_Law_read : MV qLaw_read := ⟨List.mem_of_getElem? (i := 879) (by decide +kernel), List.mem_of_getElem? (i := 880) (by decide +kernel)⟩
abbrev qLaw_readProduct : MD := (yX5_readProduct, cX5_readProduct, 5, none)
theorem mk_Law_readProduct : MOk qLaw_readProduct 2 := ⟨List.mem_of_getElem? (i := 889) (by decide +kernel), List.mem_of_getElem? (i := 104) (by decide +kernel), by decide, ⟨by decide, by decide⟩, by decide +kernel, by decide⟩
theorem mv_Law_readProduct : MV qLaw_readProduct := ⟨List.mem_of_getElem? (i := 888) (by decide +kernel), List.mem_of_getElem? (i := 14) (by decide +kernel)⟩
abbrev qTape_takesSign : MD := (yX9_takesSign, cX9_takesSign, 3, (some .boolean))
theorem mk_Tape_takesSign : MOk qTape_takesSign 1 := ⟨List.mem_of_getElem? (i := 919) (by decide +kernel), List.mem_of_getElem? (i := 96) (by decide +kernel), by decide, ⟨by decide, by decide⟩, by decide +kernel, by decide⟩
theorem mv_Tape_takesSign : MV qTape_takesSign := ⟨List.mem_of_getElem? (i := 917) (by decide +kernel), List.mem_of_getElem? (i := 918) (by decide +kernel)⟩
abbrev qLaw_readUnit : MD := (yX5_readUnit, cX5_readUnit, 5, none)
theorem mk_Law_readUnit : MOk qLaw_readUnit 2 := ⟨List.mem_of_getElem? (i := 893) (by decide +kernel), List.mem_of_getElem? (i := 104) (by decide +kernel), by decide, ⟨by decide, by decide⟩, by decide +kernel, by decide⟩
theorem mv_Law_readUnit : MV qLaw_readUnit := ⟨List.mem_of_getElem? (i := 892) (by decide +kernel), List.mem_of_getElem? (i := 15) (by decide +kernel)⟩
abbrev qLaw_givenWord : MD := (yX5_givenWord, cX5_givenWord, 1, (some .int))
theorem mk_Law_givenWord : MOk qLaw_givenWord 1 := ⟨List.mem_of_getElem? (i := 897) (by decide +kernel), List.mem_of_getElem? (i := 104) (by decide +kernel), by decide, ⟨by decide, by decide⟩, by decide +kernel, by decide⟩
theorem mv_Law_givenWord : MS qLaw_givenWord := List.mem_of_getElem? (i := 896) (by decide +kernel)
abbrev qTape_comesNumber : MD := (yX9_comesNumber, cX9_comesNumber, 1, (some .boolean))
theorem mk_Tape_comesNumber : MOk qTape_comesNumber 0 := ⟨List.mem_of_getElem? (i := 910) (by decide +kernel), List.mem_of_getElem? (i := 96) (by decide +kernel), by decide, ⟨by decide, by decide⟩, by decide +kernel, by decide⟩
theorem mv_Tape_comesNumber : MV qTape_comesNumber := ⟨List.mem_of_getElem? (i := 908) (by decide +kernel), List.mem_of_getElem? (i := 909) (by decide +kernel)⟩
abbrev qLaw_readOpened : MD := (yX5_readOpened, cX5_readOpened, 6, none)
theorem mk_Law_readOpened : MOk qLaw_readOpened 3 := ⟨List.mem_of_getElem? (i := 915) (by decide +kernel), List.mem_of_getElem? (i := 104) (by decide +kernel), by decide, ⟨by decide, by decide⟩, by decide +kernel, by decide⟩
theorem mv_Law_readOpened : MV qLaw_readOpened := ⟨List.mem_of_getElem? (i := 914) (by decide +kernel), List.mem_of_getElem? (i := 16) (by decide +kernel)⟩
abbrev qTape_takesWord : MD := (yX9_takesWord, cX9_takesWord, 4, (some .boolean))
theorem mk_Tape_takesWord : MOk qTape_takesWord 1 := ⟨List.mem_of_getElem? (i := 751) (by decide +kernel), List.mem_of_getElem? (i := 96) (by decide +kernel), by decide, ⟨by decide, by decide⟩, by decide +kernel, by decide⟩
theorem mv_Tape_takesWord : MV qTape_takesWord := ⟨List.mem_of_getElem? (i := 749) (by decide +kernel), List.mem_of_getElem? (i := 750) (by decide +kernel)⟩
abbrev qLaw_joined : MD := (yX5_joined, cX5_joined, 3, (some .int))
theorem mk_Law_joined : MOk qLaw_joined 3 := ⟨List.mem_of_getElem? (i := 1070) (by decide +kernel), List.mem_of_getElem? (i := 104) (by decide +kernel), by decide, ⟨by decide, by decide⟩, by decide +kernel, by decide⟩
theorem mv_Law_joined : MS qLaw_joined := List.mem_of_getElem? (i := 1069) (by decide +kernel)
abbrev qLaw_weigh : MD := (yX5_weigh, cX5_weigh, 5, (some .int))
theorem mk_Law_weigh : MOk qLaw_weigh 1 := ⟨List.mem_of_getElem? (i := 1067) (by decide +kernel), List.mem_of_getElem? (i := 104) (by decide +kernel), by decide, ⟨by decide, by decide⟩, by decide +kernel, by decide⟩
theorem mv_Law_weigh : MV qLaw_weigh := ⟨List.mem_of_getElem? (i := 1065) (by decide +kernel), List.mem_of_getElem? (i := 1066) (by decide +kernel)⟩
abbrev qPast_init : MD := (yX6_init, cX6_init, 1, none)
theorem mk_Past_init : MOk qPast_init 0 := ⟨List.mem_of_getElem? (i := 240) (by decide +kernel), List.mem_of_getElem? (i := 99) (by decide +kernel), by decide, ⟨by decide, by decide⟩, by decide +kernel, by decide⟩
theorem mv_Past_init : MI qPast_init := ⟨List.mem_of_getElem? (i := 239) (by decide +kernel), rfl, rfl⟩
abbrev qPast_clear : MD := (yX6_clear, cX6_clear, 1, none)
theorem mk_Past_clear : MOk qPast_clear 0 := ⟨List.mem_of_getElem? (i := 869) (by decide +kernel), List.mem_of_getElem? (i := 99) (by decide +kernel), by decide, ⟨by decide, by decide⟩, by decide +kernel, by decide⟩
theorem mv_Past_clear : MV qPast_clear := ⟨List.mem_of_getElem? (i := 867) (by decide +kernel), List.mem_of_getElem? (i := 868) (by decide +kernel)⟩
abbrev qPast_copied : MD := (yX6_copied, cX6_copied, 2, (some (.object "ChalkWall$Wall")))
theorem mk_Past_copied : MOk qPast_copied 1 := ⟨List.mem_of_getElem? (i := 599) (by decide +kernel), List.mem_of_getElem? (i := 99) (by decide +kernel), by decide, ⟨by decide, by decide⟩, by decide +kernel, by decide⟩
theorem mv_Past_copied : MS qPast_copied := List.mem_of_getElem? (i := 598) (by decide +kernel)
abbrev qPast_keepWork : MD := (yX6_keepWork, cX6_keepWork, 2, none)
theorem mk_Past_keepWork : MOk qPast_keepWork 1 := ⟨List.mem_of_getElem? (i := 968) (by decide +kernel), List.mem_of_getElem? (i := 99) (by decide +kernel), by decide, ⟨by decide, by decide⟩, by decide +kernel, by decide⟩
theorem mv_Past_keepWork : MV qPast_keepWork := ⟨List.mem_of_getElem? (i := 966) (by decide +kernel), List.mem_of_getElem? (i := 967) (by decide +kernel)⟩
abbrev qPast_takeBackWork : MD := (yX6_takeBackWork, cX6_takeBackWork, 3, (some .boolean))
theorem mk_Past_takeBackWork : MOk qPast_takeBackWork 1 := ⟨List.mem_of_getElem? (i := 541) (by decide +kernel), List.mem_of_getElem? (i := 99) (by decide +kernel), by decide, ⟨by decide, by decide⟩, by decide +kernel, by decide⟩
theorem mv_Past_takeBackWork : MV qPast_takeBackWork := ⟨List.mem_of_getElem? (i := 539) (by decide +kernel), List.mem_of_getElem? (i := 540) (by decide +kernel)⟩
abbrev qPast_keepImage : MD := (yX6_keepImage, cX6_keepImage, 3, (some .boolean))
theorem mk_Past_keepImage : MOk qPast_keepImage 1 := ⟨List.mem_of_getElem? (i := 595) (by decide +kernel), List.mem_of_getElem? (i := 99) (by decide +kernel), by decide, ⟨by decide, by decide⟩, by decide +kernel, by decide⟩
theorem mv_Past_keepImage : MV qPast_keepImage := ⟨List.mem_of_getElem? (i := 593) (by decide +kernel), List.mem_of_getElem? (i := 594) (by decide +kernel)⟩
abbrev qPast_takeImage : MD := (yX6_takeImage, cX6_takeImage, 3, (some .boolean))
theorem mk_Past_takeImage : MOk qPast_takeImage 1 := ⟨List.mem_of_getElem? (i := 629) (by decide +kernel), List.mem_of_getElem? (i := 99) (by decide +kernel), by decide, ⟨by decide, by decide⟩, by decide +kernel, by decide⟩
theorem mv_Past_takeImage : MV qPast_takeImage := ⟨List.mem_of_getElem? (i := 627) (by decide +kernel), List.mem_of_getElem? (i := 628) (by decide +kernel)⟩
abbrev qPast_copyWorks : MD := (yX6_copyWorks, cX6_copyWorks, 4, none)
theorem mk_Past_copyWorks : MOk qPast_copyWorks 3 := ⟨List.mem_of_getElem? (i := 621) (by decide +kernel), List.mem_of_getElem? (i := 99) (by decide +kernel), by decide, ⟨by decide, by decide⟩, by decide +kernel, by decide⟩
theorem mv_Past_copyWorks : MS qPast_copyWorks := List.mem_of_getElem? (i := 620) (by decide +kernel)
abbrev qPlan_init : MD := (yX7_init, cX7_init, 1, none)
theorem mk_Plan_init : MOk qPlan_init 0 := ⟨List.mem_of_getElem? (i := 160) (by decide +kernel), List.mem_of_getElem? (i := 97) (by decide +kernel), by decide, ⟨by decide, by decide⟩, by decide +kernel, by decide⟩
theorem mv_Plan_init : MI qPlan_init := ⟨List.mem_of_getElem? (i := 159) (by decide +kernel), rfl, rfl⟩
abbrev qPlan_readSteps : MD := (yX7_readSteps, cX7_readSteps, 6, none)
theorem mk_Plan_readSteps : MOk qPlan_readSteps 3 := ⟨List.mem_of_getElem? (i := 939) (by decide +kernel), List.mem_of_getElem? (i := 97) (by decide +kernel), by decide, ⟨by decide, by decide⟩, by decide +kernel, by decide⟩
theorem mv_Plan_readSteps : MV qPlan_readSteps := ⟨List.mem_of_getElem? (i := 938) (by decide +kernel), List.mem_of_getElem? (i := 17) (by decide +kernel)⟩
abbrev qPlan_read : MD := (yX7_read, cX7_read, 3, none)
theorem mk_Plan_read : MOk qPlan_read 2 := ⟨List.mem_of_getElem? (i := 935) (by decide +kernel), List.mem_of_getElem? (i := 97) (by decide +kernel), by decide, ⟨by decide, by decide⟩, by decide +kernel, by decide⟩
theorem mv_Plan_read : MV qPlan_read := ⟨List.mem_of_getElem? (i := 933) (by decide +kernel), List.mem_of_getElem? (i := 934) (by decide +kernel)⟩
abbrev qPlan_readStep : MD := (yX7_readStep, cX7_readStep, 5, none)
theorem mk_Plan_readStep : MOk qPlan_readStep 3 := ⟨List.mem_of_getElem? (i := 946) (by decide +kernel), List.mem_of_getElem? (i := 97) (by decide +kernel), by decide, ⟨by decide, by decide⟩, by decide +kernel, by decide⟩
theorem mv_Plan_readStep : MV qPlan_readStep := ⟨List.mem_of_getElem? (i := 945) (by decide +kernel), List.mem_of_getElem? (i := 18) (by decide +kernel)⟩
abbrev qPlan_readAgain : MD := (yX7_readAgain, cX7_readAgain, 6, none)
theorem mk_Plan_readAgain : MOk qPlan_readAgain 3 := ⟨List.mem_of_getElem? (i := 963) (by decide +kernel), List.mem_of_getElem? (i := 97) (by decide +kernel), by decide, ⟨by decide, by decide⟩, by decide +kernel, by decide⟩
theorem mv_Plan_readAgain : MV qPlan_readAgain := ⟨List.mem_of_getElem? (i := 962) (by decide +kernel), List.mem_of_getElem? (i := 20) (by decide +kernel)⟩
abbrev qPlan_put : MD := (yX7_put, cX7_put, 6, none)
theorem mk_Plan_put : MOk qPlan_put 5 := ⟨List.mem_of_getElem? (i := 954) (by decide +kernel), List.mem_of_getElem? (i := 97) (by decide +kernel), by decide, ⟨by decide, by decide⟩, by decide +kernel, by decide⟩
theorem mv_Plan_put : MV qPlan_put := ⟨List.mem_of_getElem? (i := 953) (by decide +kernel), List.mem_of_getElem? (i := 19) (by decide +kernel)⟩
abbrev qPlan_doSteps : MD := (yX7_doSteps, cX7_doSteps, 8, none)
theorem mk_Plan_doSteps : MOk qPlan_doSteps 5 := ⟨List.mem_of_getElem? (i := 976) (by decide +kernel), List.mem_of_getElem? (i := 97) (by decide +kernel), by decide, ⟨by decide, by decide⟩, by decide +kernel, by decide⟩
theorem mv_Plan_doSteps : MV qPlan_doSteps := ⟨List.mem_of_getElem? (i := 975) (by decide +kernel), List.mem_of_getElem? (i := 21) (by decide +kernel)⟩
abbrev qPlan_carryOut : MD := (yX7_carryOut, cX7_carryOut, 3, none)
theorem mk_Plan_carryOut : MOk qPlan_carryOut 2 := ⟨List.mem_of_getElem? (i := 972) (by decide +kernel), List.mem_of_getElem? (i := 97) (by decide +kernel), by decide, ⟨by decide, by decide⟩, by decide +kernel, by decide⟩
theorem mv_Plan_carryOut : MV qPlan_carryOut := ⟨List.mem_of_getElem? (i := 970) (by decide +kernel), List.mem_of_getElem? (i := 971) (by decide +kernel)⟩
abbrev qPlan_attempt : MD := (yX7_attempt, cX7_attempt, 4, (some .boolean))
theorem mk_Plan_attempt : MOk qPlan_attempt 3 := ⟨List.mem_of_getElem? (i := 980) (by decide +kernel), List.mem_of_getElem? (i := 97) (by decide +kernel), by decide, ⟨by decide, by decide⟩, by decide +kernel, by decide⟩
theorem mv_Plan_attempt : MV qPlan_attempt := ⟨List.mem_of_getElem? (i := 979) (by decide +kernel), List.mem_of_getElem? (i := 22) (by decide +kernel)⟩
abbrev qWall_night : MD := (yX10_night, cX10_night, 2, (some .boolean))
theorem mk_Wall_night : MOk qWall_night 1 := ⟨List.mem_of_getElem? (i := 996) (by decide +kernel), List.mem_of_getElem? (i := 98) (by decide +kernel), by decide, ⟨by decide, by decide⟩, by decide +kernel, by decide⟩
theorem mv_Wall_night : MV qWall_night := ⟨List.mem_of_getElem? (i := 994) (by decide +kernel), List.mem_of_getElem? (i := 995) (by decide +kernel)⟩
abbrev qPort_init : MD := (yX8_init, cX8_init, 1, none)
theorem mk_Port_init : MOk qPort_init 0 := ⟨List.mem_of_getElem? (i := 345) (by decide +kernel), List.mem_of_getElem? (i := 103) (by decide +kernel), by decide, ⟨by decide, by decide⟩, by decide +kernel, by decide⟩
theorem mv_Port_init : MI qPort_init := ⟨List.mem_of_getElem? (i := 344) (by decide +kernel), rfl, rfl⟩
abbrev qPort_clear : MD := (yX8_clear, cX8_clear, 2, none)
theorem mk_Port_clear : MOk qPort_clear 0 := ⟨List.mem_of_getElem? (i := 350) (by decide +kernel), List.mem_of_getElem? (i := 103) (by decide +kernel), by decide, ⟨by decide, by decide⟩, by decide +kernel, by decide⟩
theorem mv_Port_clear : MV qPort_clear := ⟨List.mem_of_getElem? (i := 349) (by decide +kernel), List.mem_of_getElem? (i := 0) (by decide +kernel)⟩
abbrev qPort_readClause : MD := (yX8_readClause, cX8_readClause, 5, none)
theorem mk_Port_readClause : MOk qPort_readClause 2 := ⟨List.mem_of_getElem? (i := 742) (by decide +kernel), List.mem_of_getElem? (i := 103) (by decide +kernel), by decide, ⟨by decide, by decide⟩, by decide +kernel, by decide⟩
theorem mv_Port_readClause : MV qPort_readClause := ⟨List.mem_of_getElem? (i := 741) (by decide +kernel), List.mem_of_getElem? (i := 5) (by decide +kernel)⟩
abbrev qPort_read : MD := (yX8_read, cX8_read, 3, none)
theorem mk_Port_read : MOk qPort_read 1 := ⟨List.mem_of_getElem? (i := 730) (by decide +kernel), List.mem_of_getElem? (i := 103) (by decide +kernel), by decide, ⟨by decide, by decide⟩, by decide +kernel, by decide⟩
theorem mv_Port_read : MV qPort_read := ⟨List.mem_of_getElem? (i := 728) (by decide +kernel), List.mem_of_getElem? (i := 729) (by decide +kernel)⟩
abbrev qPort_clauseWord : MD := (yX8_clauseWord, cX8_clauseWord, 1, (some .int))
theorem mk_Port_clauseWord : MOk qPort_clauseWord 1 := ⟨List.mem_of_getElem? (i := 746) (by decide +kernel), List.mem_of_getElem? (i := 103) (by decide +kernel), by decide, ⟨by decide, by decide⟩, by decide +kernel, by decide⟩
theorem mv_Port_clauseWord : MS qPort_clauseWord := List.mem_of_getElem? (i := 745) (by decide +kernel)
abbrev qPort_isFull : MD := (yX8_isFull, cX8_isFull, 2, (some .boolean))
theorem mk_Port_isFull : MOk qPort_isFull 1 := ⟨List.mem_of_getElem? (i := 814) (by decide +kernel), List.mem_of_getElem? (i := 103) (by decide +kernel), by decide, ⟨by decide, by decide⟩, by decide +kernel, by decide⟩
theorem mv_Port_isFull : MV qPort_isFull := ⟨List.mem_of_getElem? (i := 813) (by decide +kernel), List.mem_of_getElem? (i := 6) (by decide +kernel)⟩
abbrev qPort_readTold : MD := (yX8_readTold, cX8_readTold, 3, none)
theorem mk_Port_readTold : MOk qPort_readTold 2 := ⟨List.mem_of_getElem? (i := 835) (by decide +kernel), List.mem_of_getElem? (i := 103) (by decide +kernel), by decide, ⟨by decide, by decide⟩, by decide +kernel, by decide⟩
theorem mv_Port_readTold : MV qPort_readTold := ⟨List.mem_of_getElem? (i := 834) (by decide +kernel), List.mem_of_getElem? (i := 8) (by decide +kernel)⟩
abbrev qPort_readKin : MD := (yX8_readKin, cX8_readKin, 5, none)
theorem mk_Port_readKin : MOk qPort_readKin 1 := ⟨List.mem_of_getElem? (i := 818) (by decide +kernel), List.mem_of_getElem? (i := 103) (by decide +kernel), by decide, ⟨by decide, by decide⟩, by decide +kernel, by decide⟩
theorem mv_Port_readKin : MV qPort_readKin := ⟨List.mem_of_getElem? (i := 817) (by decide +kernel), List.mem_of_getElem? (i := 7) (by decide +kernel)⟩
abbrev qPort_addRow : MD := (yX8_addRow, cX8_addRow, 3, none)
theorem mk_Port_addRow : MOk qPort_addRow 2 := ⟨List.mem_of_getElem? (i := 839) (by decide +kernel), List.mem_of_getElem? (i := 103) (by decide +kernel), by decide, ⟨by decide, by decide⟩, by decide +kernel, by decide⟩
theorem mv_Port_addRow : MV qPort_addRow := ⟨List.mem_of_getElem? (i := 838) (by decide +kernel), List.mem_of_getElem? (i := 9) (by decide +kernel)⟩
abbrev qPort_addBid : MD := (yX8_addBid, cX8_addBid, 4, none)
theorem mk_Port_addBid : MOk qPort_addBid 3 := ⟨List.mem_of_getElem? (i := 843) (by decide +kernel), List.mem_of_getElem? (i := 103) (by decide +kernel), by decide, ⟨by decide, by decide⟩, by decide +kernel, by decide⟩
theorem mv_Port_addBid : MV qPort_addBid := ⟨List.mem_of_getElem? (i := 842) (by decide +kernel), List.mem_of_getElem? (i := 10) (by decide +kernel)⟩
abbrev qPort_addWriter : MD := (yX8_addWriter, cX8_addWriter, 4, none)
theorem mk_Port_addWriter : MOk qPort_addWriter 3 := ⟨List.mem_of_getElem? (i := 847) (by decide +kernel), List.mem_of_getElem? (i := 103) (by decide +kernel), by decide, ⟨by decide, by decide⟩, by decide +kernel, by decide⟩
theorem mv_Port_addWriter : MV qPort_addWriter := ⟨List.mem_of_getElem? (i := 846) (by decide +kernel), List.mem_of_getElem? (i := 11) (by decide +kernel)⟩
abbrev qPort_addKnown : MD := (yX8_addKnown, cX8_addKnown, 4, none)
theorem mk_Port_addKnown : MOk qPort_addKnown 3 := ⟨List.mem_of_getElem? (i := 851) (by decide +kernel), List.mem_of_getElem? (i := 103) (by decide +kernel), by decide, ⟨by decide, by decide⟩, by decide +kernel, by decide⟩
theorem mv_Port_addKnown : MV qPort_addKnown := ⟨List.mem_of_getElem? (i := 850) (by decide +kernel), List.mem_of_getElem? (i := 12) (by decide +kernel)⟩
abbrev qPort_whoKnows : MD := (yX8_whoKnows, cX8_whoKnows, 4, (some .int))
theorem mk_Port_whoKnows : MOk qPort_whoKnows 1 := ⟨List.mem_of_getElem? (i := 1125) (by decide +kernel), List.mem_of_getElem? (i := 103) (by decide +kernel), by decide, ⟨by decide, by decide⟩, by decide +kernel, by decide⟩
theorem mv_Port_whoKnows : MV qPort_whoKnows := ⟨List.mem_of_getElem? (i := 1123) (by decide +kernel), List.mem_of_getElem? (i := 1124) (by decide +kernel)⟩
abbrev qPort_knownTo : MD := (yX8_knownTo, cX8_knownTo, 4, (some .int))
theorem mk_Port_knownTo : MOk qPort_knownTo 1 := ⟨List.mem_of_getElem? (i := 1192) (by decide +kernel), List.mem_of_getElem? (i := 103) (by decide +kernel), by decide, ⟨by decide, by decide⟩, by decide +kernel, by decide⟩
theorem mv_Port_knownTo : MV qPort_knownTo := ⟨List.mem_of_getElem? (i := 1190) (by decide +kernel), List.mem_of_getElem? (i := 1191) (by decide +kernel)⟩
abbrev qPort_givenBy : MD := (yX8_givenBy, cX8_givenBy, 5, (some .int))
theorem mk_Port_givenBy : MOk qPort_givenBy 2 := ⟨List.mem_of_getElem? (i := 1323) (by decide +kernel), List.mem_of_getElem? (i := 103) (by decide +kernel), by decide, ⟨by decide, by decide⟩, by decide +kernel, by decide⟩
theorem mv_Port_givenBy : MV qPort_givenBy := ⟨List.mem_of_getElem? (i := 1321) (by decide +kernel), List.mem_of_getElem? (i := 1322) (by decide +kernel)⟩
abbrev qPort_crewHas : MD := (yX8_crewHas, cX8_crewHas, 5, (some .int))
theorem mk_Port_crewHas : MOk qPort_crewHas 4 := ⟨List.mem_of_getElem? (i := 1312) (by decide +kernel), List.mem_of_getElem? (i := 103) (by decide +kernel), by decide, ⟨by decide, by decide⟩, by decide +kernel, by decide⟩
theorem mv_Port_crewHas : MV qPort_crewHas := ⟨List.mem_of_getElem? (i := 1310) (by decide +kernel), List.mem_of_getElem? (i := 1311) (by decide +kernel)⟩
abbrev qTape_init : MD := (yX9_init, cX9_init, 1, none)
theorem mk_Tape_init : MOk qTape_init 0 := ⟨List.mem_of_getElem? (i := 132) (by decide +kernel), List.mem_of_getElem? (i := 96) (by decide +kernel), by decide, ⟨by decide, by decide⟩, by decide +kernel, by decide⟩
theorem mv_Tape_init : MI qTape_init := ⟨List.mem_of_getElem? (i := 131) (by decide +kernel), rfl, rfl⟩
abbrev qTape_hasRoom : MD := (yX9_hasRoom, cX9_hasRoom, 1, (some .boolean))
theorem mk_Tape_hasRoom : MOk qTape_hasRoom 0 := ⟨List.mem_of_getElem? (i := 525) (by decide +kernel), List.mem_of_getElem? (i := 96) (by decide +kernel), by decide, ⟨by decide, by decide⟩, by decide +kernel, by decide⟩
theorem mv_Tape_hasRoom : MV qTape_hasRoom := ⟨List.mem_of_getElem? (i := 523) (by decide +kernel), List.mem_of_getElem? (i := 524) (by decide +kernel)⟩
abbrev qTape_put : MD := (yX9_put, cX9_put, 3, none)
theorem mk_Tape_put : MOk qTape_put 1 := ⟨List.mem_of_getElem? (i := 529) (by decide +kernel), List.mem_of_getElem? (i := 96) (by decide +kernel), by decide, ⟨by decide, by decide⟩, by decide +kernel, by decide⟩
theorem mv_Tape_put : MV qTape_put := ⟨List.mem_of_getElem? (i := 527) (by decide +kernel), List.mem_of_getElem? (i := 528) (by decide +kernel)⟩
abbrev qTape_open : MD := (yX9_open, cX9_open, 2, none)
theorem mk_Tape_open : MOk qTape_open 1 := ⟨List.mem_of_getElem? (i := 723) (by decide +kernel), List.mem_of_getElem? (i := 96) (by decide +kernel), by decide, ⟨by decide, by decide⟩, by decide +kernel, by decide⟩
theorem mv_Tape_open : MV qTape_open := ⟨List.mem_of_getElem? (i := 721) (by decide +kernel), List.mem_of_getElem? (i := 722) (by decide +kernel)⟩
abbrev qTape_faultAnswer : MD := (yX9_faultAnswer, cX9_faultAnswer, 1, (some .int))
theorem mk_Tape_faultAnswer : MOk qTape_faultAnswer 0 := ⟨List.mem_of_getElem? (i := 860) (by decide +kernel), List.mem_of_getElem? (i := 96) (by decide +kernel), by decide, ⟨by decide, by decide⟩, by decide +kernel, by decide⟩
theorem mv_Tape_faultAnswer : MV qTape_faultAnswer := ⟨List.mem_of_getElem? (i := 858) (by decide +kernel), List.mem_of_getElem? (i := 859) (by decide +kernel)⟩
abbrev qTape_isDigit : MD := (yX9_isDigit, cX9_isDigit, 1, (some .boolean))
theorem mk_Tape_isDigit : MOk qTape_isDigit 1 := ⟨List.mem_of_getElem? (i := 825) (by decide +kernel), List.mem_of_getElem? (i := 96) (by decide +kernel), by decide, ⟨by decide, by decide⟩, by decide +kernel, by decide⟩
theorem mv_Tape_isDigit : MS qTape_isDigit := List.mem_of_getElem? (i := 824) (by decide +kernel)
abbrev qTape_isSmallLetter : MD := (yX9_isSmallLetter, cX9_isSmallLetter, 1, (some .boolean))
theorem mk_Tape_isSmallLetter : MOk qTape_isSmallLetter 1 := ⟨List.mem_of_getElem? (i := 754) (by decide +kernel), List.mem_of_getElem? (i := 96) (by decide +kernel), by decide, ⟨by decide, by decide⟩, by decide +kernel, by decide⟩
theorem mv_Tape_isSmallLetter : MS qTape_isSmallLetter := List.mem_of_getElem? (i := 753) (by decide +kernel)
abbrev qWall_init : MD := (yX10_init, cX10_init, 1, none)
theorem mk_Wall_init : MOk qWall_init 0 := ⟨List.mem_of_getElem? (i := 193) (by decide +kernel), List.mem_of_getElem? (i := 98) (by decide +kernel), by decide, ⟨by decide, by decide⟩, by decide +kernel, by decide⟩
theorem mv_Wall_init : MI qWall_init := ⟨List.mem_of_getElem? (i := 192) (by decide +kernel), rfl, rfl⟩
abbrev qWall_whiten : MD := (yX10_whiten, cX10_whiten, 3, none)
theorem mk_Wall_whiten : MOk qWall_whiten 1 := ⟨List.mem_of_getElem? (i := 459) (by decide +kernel), List.mem_of_getElem? (i := 98) (by decide +kernel), by decide, ⟨by decide, by decide⟩, by decide +kernel, by decide⟩
theorem mv_Wall_whiten : MV qWall_whiten := ⟨List.mem_of_getElem? (i := 458) (by decide +kernel), List.mem_of_getElem? (i := 2) (by decide +kernel)⟩
abbrev qWall_begin : MD := (yX10_begin, cX10_begin, 3, none)
theorem mk_Wall_begin : MOk qWall_begin 1 := ⟨List.mem_of_getElem? (i := 455) (by decide +kernel), List.mem_of_getElem? (i := 98) (by decide +kernel), by decide, ⟨by decide, by decide⟩, by decide +kernel, by decide⟩
theorem mv_Wall_begin : MV qWall_begin := ⟨List.mem_of_getElem? (i := 453) (by decide +kernel), List.mem_of_getElem? (i := 454) (by decide +kernel)⟩
abbrev qWall_roomOn : MD := (yX10_roomOn, cX10_roomOn, 3, (some .int))
theorem mk_Wall_roomOn : MOk qWall_roomOn 2 := ⟨List.mem_of_getElem? (i := 583) (by decide +kernel), List.mem_of_getElem? (i := 98) (by decide +kernel), by decide, ⟨by decide, by decide⟩, by decide +kernel, by decide⟩
theorem mv_Wall_roomOn : MV qWall_roomOn := ⟨List.mem_of_getElem? (i := 581) (by decide +kernel), List.mem_of_getElem? (i := 582) (by decide +kernel)⟩
abbrev qWall_mayWrite : MD := (yX10_mayWrite, cX10_mayWrite, 6, (some .boolean))
theorem mk_Wall_mayWrite : MOk qWall_mayWrite 4 := ⟨List.mem_of_getElem? (i := 576) (by decide +kernel), List.mem_of_getElem? (i := 98) (by decide +kernel), by decide, ⟨by decide, by decide⟩, by decide +kernel, by decide⟩
theorem mv_Wall_mayWrite : MV qWall_mayWrite := ⟨List.mem_of_getElem? (i := 574) (by decide +kernel), List.mem_of_getElem? (i := 575) (by decide +kernel)⟩
abbrev qWall_mayWriteAny : MD := (yX10_mayWriteAny, cX10_mayWriteAny, 5, (some .boolean))
theorem mk_Wall_mayWriteAny : MOk qWall_mayWriteAny 2 := ⟨List.mem_of_getElem? (i := 572) (by decide +kernel), List.mem_of_getElem? (i := 98) (by decide +kernel), by decide, ⟨by decide, by decide⟩, by decide +kernel, by decide⟩
theorem mv_Wall_mayWriteAny : MV qWall_mayWriteAny := ⟨List.mem_of_getElem? (i := 570) (by decide +kernel), List.mem_of_getElem? (i := 571) (by decide +kernel)⟩
abbrev qWall_lettersOn : MD := (yX10_lettersOn, cX10_lettersOn, 5, (some .int))
theorem mk_Wall_lettersOn : MOk qWall_lettersOn 2 := ⟨List.mem_of_getElem? (i := 587) (by decide +kernel), List.mem_of_getElem? (i := 98) (by decide +kernel), by decide, ⟨by decide, by decide⟩, by decide +kernel, by decide⟩
theorem mv_Wall_lettersOn : MV qWall_lettersOn := ⟨List.mem_of_getElem? (i := 585) (by decide +kernel), List.mem_of_getElem? (i := 586) (by decide +kernel)⟩
abbrev qWall_lettersFrom : MD := (yX10_lettersFrom, cX10_lettersFrom, 5, (some .int))
theorem mk_Wall_lettersFrom : MOk qWall_lettersFrom 2 := ⟨List.mem_of_getElem? (i := 1044) (by decide +kernel), List.mem_of_getElem? (i := 98) (by decide +kernel), by decide, ⟨by decide, by decide⟩, by decide +kernel, by decide⟩
theorem mv_Wall_lettersFrom : MV qWall_lettersFrom := ⟨List.mem_of_getElem? (i := 1042) (by decide +kernel), List.mem_of_getElem? (i := 1043) (by decide +kernel)⟩
abbrev qWall_timesIn : MD := (yX10_timesIn, cX10_timesIn, 5, (some .int))
theorem mk_Wall_timesIn : MOk qWall_timesIn 3 := ⟨List.mem_of_getElem? (i := 1063) (by decide +kernel), List.mem_of_getElem? (i := 98) (by decide +kernel), by decide, ⟨by decide, by decide⟩, by decide +kernel, by decide⟩
theorem mv_Wall_timesIn : MS qWall_timesIn := List.mem_of_getElem? (i := 1062) (by decide +kernel)
abbrev qWall_linesOn : MD := (yX10_linesOn, cX10_linesOn, 2, (some .int))
theorem mk_Wall_linesOn : MOk qWall_linesOn 1 := ⟨List.mem_of_getElem? (i := 1110) (by decide +kernel), List.mem_of_getElem? (i := 98) (by decide +kernel), by decide, ⟨by decide, by decide⟩, by decide +kernel, by decide⟩
theorem mv_Wall_linesOn : MV qWall_linesOn := ⟨List.mem_of_getElem? (i := 1108) (by decide +kernel), List.mem_of_getElem? (i := 1109) (by decide +kernel)⟩
abbrev qWall_linesOfBid : MD := (yX10_linesOfBid, cX10_linesOfBid, 2, (some .int))
theorem mk_Wall_linesOfBid : MOk qWall_linesOfBid 1 := ⟨List.mem_of_getElem? (i := 1130) (by decide +kernel), List.mem_of_getElem? (i := 98) (by decide +kernel), by decide, ⟨by decide, by decide⟩, by decide +kernel, by decide⟩
theorem mv_Wall_linesOfBid : MV qWall_linesOfBid := ⟨List.mem_of_getElem? (i := 1128) (by decide +kernel), List.mem_of_getElem? (i := 1129) (by decide +kernel)⟩
abbrev qWall_linesBy : MD := (yX10_linesBy, cX10_linesBy, 2, (some .int))
theorem mk_Wall_linesBy : MOk qWall_linesBy 1 := ⟨List.mem_of_getElem? (i := 1141) (by decide +kernel), List.mem_of_getElem? (i := 98) (by decide +kernel), by decide, ⟨by decide, by decide⟩, by decide +kernel, by decide⟩
theorem mv_Wall_linesBy : MV qWall_linesBy := ⟨List.mem_of_getElem? (i := 1139) (by decide +kernel), List.mem_of_getElem? (i := 1140) (by decide +kernel)⟩
abbrev qWall_actsOn : MD := (yX10_actsOn, cX10_actsOn, 4, (some .int))
theorem mk_Wall_actsOn : MOk qWall_actsOn 1 := ⟨List.mem_of_getElem? (i := 1114) (by decide +kernel), List.mem_of_getElem? (i := 98) (by decide +kernel), by decide, ⟨by decide, by decide⟩, by decide +kernel, by decide⟩
theorem mv_Wall_actsOn : MV qWall_actsOn := ⟨List.mem_of_getElem? (i := 1112) (by decide +kernel), List.mem_of_getElem? (i := 1113) (by decide +kernel)⟩
abbrev qWall_actsStanding : MD := (yX10_actsStanding, cX10_actsStanding, 3, (some .int))
theorem mk_Wall_actsStanding : MOk qWall_actsStanding 0 := ⟨List.mem_of_getElem? (i := 556) (by decide +kernel), List.mem_of_getElem? (i := 98) (by decide +kernel), by decide, ⟨by decide, by decide⟩, by decide +kernel, by decide⟩
theorem mv_Wall_actsStanding : MV qWall_actsStanding := ⟨List.mem_of_getElem? (i := 554) (by decide +kernel), List.mem_of_getElem? (i := 555) (by decide +kernel)⟩
abbrev qWall_bearsAsTold : MD := (yX10_bearsAsTold, cX10_bearsAsTold, 4, (some .boolean))
theorem mk_Wall_bearsAsTold : MOk qWall_bearsAsTold 2 := ⟨List.mem_of_getElem? (i := 564) (by decide +kernel), List.mem_of_getElem? (i := 98) (by decide +kernel), by decide, ⟨by decide, by decide⟩, by decide +kernel, by decide⟩
theorem mv_Wall_bearsAsTold : MV qWall_bearsAsTold := ⟨List.mem_of_getElem? (i := 562) (by decide +kernel), List.mem_of_getElem? (i := 563) (by decide +kernel)⟩
abbrev qWall_describe : MD := (yX10_describe, cX10_describe, 4, none)
theorem mk_Wall_describe : MOk qWall_describe 3 := ⟨List.mem_of_getElem? (i := 1060) (by decide +kernel), List.mem_of_getElem? (i := 98) (by decide +kernel), by decide, ⟨by decide, by decide⟩, by decide +kernel, by decide⟩
theorem mv_Wall_describe : MV qWall_describe := ⟨List.mem_of_getElem? (i := 1058) (by decide +kernel), List.mem_of_getElem? (i := 1059) (by decide +kernel)⟩
abbrev qC_init : MD := (yX11_init, cX11_init, 1, none)
theorem mk_C_init : MOk qC_init 0 := ⟨List.mem_of_getElem? (i := 124) (by decide +kernel), List.mem_of_getElem? (i := 95) (by decide +kernel), by decide, ⟨by decide, by decide⟩, by decide +kernel, by decide⟩
theorem mv_C_init : MI qC_init := ⟨List.mem_of_getElem? (i := 123) (by decide +kernel), rfl, rfl⟩
abbrev qC_feed : MD := (yX11_feed, cX11_feed, 6, (some .int))
theorem mk_C_feed : MOk qC_feed 5 := ⟨List.mem_of_getElem? (i := 521) (by decide +kernel), List.mem_of_getElem? (i := 95) (by decide +kernel), by decide, ⟨by decide, by decide⟩, by decide +kernel, by decide⟩
theorem mv_C_feed : MV qC_feed := ⟨List.mem_of_getElem? (i := 519) (by decide +kernel), List.mem_of_getElem? (i := 520) (by decide +kernel)⟩
abbrev qC_isWithin : MD := (yX11_isWithin, cX11_isWithin, 3, (some .boolean))
theorem mk_C_isWithin : MOk qC_isWithin 3 := ⟨List.mem_of_getElem? (i := 648) (by decide +kernel), List.mem_of_getElem? (i := 95) (by decide +kernel), by decide, ⟨by decide, by decide⟩, by decide +kernel, by decide⟩
theorem mv_C_isWithin : MS qC_isWithin := List.mem_of_getElem? (i := 647) (by decide +kernel)
abbrev qC_mustBe : MD := (yX11_mustBe, cX11_mustBe, 2, none)
theorem mk_C_mustBe : MOk qC_mustBe 1 := ⟨List.mem_of_getElem? (i := 652) (by decide +kernel), List.mem_of_getElem? (i := 95) (by decide +kernel), by decide, ⟨by decide, by decide⟩, by decide +kernel, by decide⟩
theorem mv_C_mustBe : MV qC_mustBe := ⟨List.mem_of_getElem? (i := 651) (by decide +kernel), List.mem_of_getElem? (i := 3) (by decide +kernel)⟩
abbrev qC_port : MD := (yX11_port, cX11_port, 3, (some .int))
theorem mk_C_port : MOk qC_port 1 := ⟨List.mem_of_getElem? (i := 645) (by decide +kernel), List.mem_of_getElem? (i := 95) (by decide +kernel), by decide, ⟨by decide, by decide⟩, by decide +kernel, by decide⟩
theorem mv_C_port : MV qC_port := ⟨List.mem_of_getElem? (i := 643) (by decide +kernel), List.mem_of_getElem? (i := 644) (by decide +kernel)⟩
abbrev qC_law : MD := (yX11_law, cX11_law, 3, (some .int))
theorem mk_C_law : MOk qC_law 1 := ⟨List.mem_of_getElem? (i := 876) (by decide +kernel), List.mem_of_getElem? (i := 95) (by decide +kernel), by decide, ⟨by decide, by decide⟩, by decide +kernel, by decide⟩
theorem mv_C_law : MV qC_law := ⟨List.mem_of_getElem? (i := 874) (by decide +kernel), List.mem_of_getElem? (i := 875) (by decide +kernel)⟩
abbrev qC_work : MD := (yX11_work, cX11_work, 2, (some .int))
theorem mk_C_work : MOk qC_work 1 := ⟨List.mem_of_getElem? (i := 931) (by decide +kernel), List.mem_of_getElem? (i := 95) (by decide +kernel), by decide, ⟨by decide, by decide⟩, by decide +kernel, by decide⟩
theorem mv_C_work : MV qC_work := ⟨List.mem_of_getElem? (i := 929) (by decide +kernel), List.mem_of_getElem? (i := 930) (by decide +kernel)⟩
abbrev qC_deeds : MD := (yX11_deeds, cX11_deeds, 3, (some .int))
theorem mk_C_deeds : MOk qC_deeds 1 := ⟨List.mem_of_getElem? (i := 1007) (by decide +kernel), List.mem_of_getElem? (i := 95) (by decide +kernel), by decide, ⟨by decide, by decide⟩, by decide +kernel, by decide⟩
theorem mv_C_deeds : MV qC_deeds := ⟨List.mem_of_getElem? (i := 1005) (by decide +kernel), List.mem_of_getElem? (i := 1006) (by decide +kernel)⟩
abbrev qC_fault : MD := (yX11_fault, cX11_fault, 1, (some .int))
theorem mk_C_fault : MOk qC_fault 0 := ⟨List.mem_of_getElem? (i := 533) (by decide +kernel), List.mem_of_getElem? (i := 95) (by decide +kernel), by decide, ⟨by decide, by decide⟩, by decide +kernel, by decide⟩
theorem mv_C_fault : MV qC_fault := ⟨List.mem_of_getElem? (i := 531) (by decide +kernel), List.mem_of_getElem? (i := 532) (by decide +kernel)⟩
abbrev qC_undo : MD := (yX11_undo, cX11_undo, 1, (some .int))
theorem mk_C_undo : MOk qC_undo 0 := ⟨List.mem_of_getElem? (i := 537) (by decide +kernel), List.mem_of_getElem? (i := 95) (by decide +kernel), by decide, ⟨by decide, by decide⟩, by decide +kernel, by decide⟩
theorem mv_C_undo : MV qC_undo := ⟨List.mem_of_getElem? (i := 535) (by decide +kernel), List.mem_of_getElem? (i := 536) (by decide +kernel)⟩
abbrev qC_actsInForce : MD := (yX11_actsInForce, cX11_actsInForce, 4, (some .int))
theorem mk_C_actsInForce : MOk qC_actsInForce 0 := ⟨List.mem_of_getElem? (i := 1048) (by decide +kernel), List.mem_of_getElem? (i := 95) (by decide +kernel), by decide, ⟨by decide, by decide⟩, by decide +kernel, by decide⟩
theorem mv_C_actsInForce : MV qC_actsInForce := ⟨List.mem_of_getElem? (i := 1047) (by decide +kernel), List.mem_of_getElem? (i := 24) (by decide +kernel)⟩
abbrev qC_told : MD := (yX11_told, cX11_told, 2, (some .int))
theorem mk_C_told : MOk qC_told 1 := ⟨List.mem_of_getElem? (i := 1040) (by decide +kernel), List.mem_of_getElem? (i := 95) (by decide +kernel), by decide, ⟨by decide, by decide⟩, by decide +kernel, by decide⟩
theorem mv_C_told : MV qC_told := ⟨List.mem_of_getElem? (i := 1038) (by decide +kernel), List.mem_of_getElem? (i := 1039) (by decide +kernel)⟩
abbrev qC_isBelow : MD := (yX11_isBelow, cX11_isBelow, 2, (some .boolean))
theorem mk_C_isBelow : MOk qC_isBelow 2 := ⟨List.mem_of_getElem? (i := 1085) (by decide +kernel), List.mem_of_getElem? (i := 95) (by decide +kernel), by decide, ⟨by decide, by decide⟩, by decide +kernel, by decide⟩
theorem mv_C_isBelow : MS qC_isBelow := List.mem_of_getElem? (i := 1084) (by decide +kernel)
abbrev qC_mustExist : MD := (yX11_mustExist, cX11_mustExist, 2, none)
theorem mk_C_mustExist : MOk qC_mustExist 1 := ⟨List.mem_of_getElem? (i := 1089) (by decide +kernel), List.mem_of_getElem? (i := 95) (by decide +kernel), by decide, ⟨by decide, by decide⟩, by decide +kernel, by decide⟩
theorem mv_C_mustExist : MV qC_mustExist := ⟨List.mem_of_getElem? (i := 1088) (by decide +kernel), List.mem_of_getElem? (i := 27) (by decide +kernel)⟩
abbrev qC_row : MD := (yX11_row, cX11_row, 3, (some .int))
theorem mk_C_row : MOk qC_row 2 := ⟨List.mem_of_getElem? (i := 1082) (by decide +kernel), List.mem_of_getElem? (i := 95) (by decide +kernel), by decide, ⟨by decide, by decide⟩, by decide +kernel, by decide⟩
theorem mv_C_row : MV qC_row := ⟨List.mem_of_getElem? (i := 1080) (by decide +kernel), List.mem_of_getElem? (i := 1081) (by decide +kernel)⟩
abbrev qC_bid : MD := (yX11_bid, cX11_bid, 3, (some .int))
theorem mk_C_bid : MOk qC_bid 2 := ⟨List.mem_of_getElem? (i := 1121) (by decide +kernel), List.mem_of_getElem? (i := 95) (by decide +kernel), by decide, ⟨by decide, by decide⟩, by decide +kernel, by decide⟩
theorem mv_C_bid : MV qC_bid := ⟨List.mem_of_getElem? (i := 1119) (by decide +kernel), List.mem_of_getElem? (i := 1120) (by decide +kernel)⟩
abbrev qC_writer : MD := (yX11_writer, cX11_writer, 3, (some .int))
theorem mk_C_writer : MOk qC_writer 2 := ⟨List.mem_of_getElem? (i := 1137) (by decide +kernel), List.mem_of_getElem? (i := 95) (by decide +kernel), by decide, ⟨by decide, by decide⟩, by decide +kernel, by decide⟩
theorem mv_C_writer : MV qC_writer := ⟨List.mem_of_getElem? (i := 1135) (by decide +kernel), List.mem_of_getElem? (i := 1136) (by decide +kernel)⟩
abbrev qC_forceOf : MD := (yX11_forceOf, cX11_forceOf, 2, (some .int))
theorem mk_C_forceOf : MOk qC_forceOf 1 := ⟨List.mem_of_getElem? (i := 1056) (by decide +kernel), List.mem_of_getElem? (i := 95) (by decide +kernel), by decide, ⟨by decide, by decide⟩, by decide +kernel, by decide⟩
theorem mv_C_forceOf : MV qC_forceOf := ⟨List.mem_of_getElem? (i := 1055) (by decide +kernel), List.mem_of_getElem? (i := 26) (by decide +kernel)⟩
abbrev qC_line : MD := (yX11_line, cX11_line, 3, (some .int))
theorem mk_C_line : MOk qC_line 2 := ⟨List.mem_of_getElem? (i := 1148) (by decide +kernel), List.mem_of_getElem? (i := 95) (by decide +kernel), by decide, ⟨by decide, by decide⟩, by decide +kernel, by decide⟩
theorem mv_C_line : MV qC_line := ⟨List.mem_of_getElem? (i := 1146) (by decide +kernel), List.mem_of_getElem? (i := 1147) (by decide +kernel)⟩
abbrev qC_kin : MD := (yX11_kin, cX11_kin, 2, (some .int))
theorem mk_C_kin : MOk qC_kin 1 := ⟨List.mem_of_getElem? (i := 1155) (by decide +kernel), List.mem_of_getElem? (i := 95) (by decide +kernel), by decide, ⟨by decide, by decide⟩, by decide +kernel, by decide⟩
theorem mv_C_kin : MV qC_kin := ⟨List.mem_of_getElem? (i := 1153) (by decide +kernel), List.mem_of_getElem? (i := 1154) (by decide +kernel)⟩
abbrev qC_would : MD := (yX11_would, cX11_would, 9, (some .int))
theorem mk_C_would : MOk qC_would 8 := ⟨List.mem_of_getElem? (i := 1162) (by decide +kernel), List.mem_of_getElem? (i := 95) (by decide +kernel), by decide, ⟨by decide, by decide⟩, by decide +kernel, by decide⟩
theorem mv_C_would : MV qC_would := ⟨List.mem_of_getElem? (i := 1160) (by decide +kernel), List.mem_of_getElem? (i := 1161) (by decide +kernel)⟩
abbrev qC_lineInForce : MD := (yX11_lineInForce, cX11_lineInForce, 6, (some .int))
theorem mk_C_lineInForce : MOk qC_lineInForce 1 := ⟨List.mem_of_getElem? (i := 1052) (by decide +kernel), List.mem_of_getElem? (i := 95) (by decide +kernel), by decide, ⟨by decide, by decide⟩, by decide +kernel, by decide⟩
theorem mv_C_lineInForce : MV qC_lineInForce := ⟨List.mem_of_getElem? (i := 1051) (by decide +kernel), List.mem_of_getElem? (i := 25) (by decide +kernel)⟩
abbrev qC_force : MD := (yX11_force, cX11_force, 4, (some .int))
theorem mk_C_force : MOk qC_force 2 := ⟨List.mem_of_getElem? (i := 1169) (by decide +kernel), List.mem_of_getElem? (i := 95) (by decide +kernel), by decide, ⟨by decide, by decide⟩, by decide +kernel, by decide⟩
theorem mv_C_force : MV qC_force := ⟨List.mem_of_getElem? (i := 1167) (by decide +kernel), List.mem_of_getElem? (i := 1168) (by decide +kernel)⟩
abbrev qC_torn : MD := (yX11_torn, cX11_torn, 4, (some .int))
theorem mk_C_torn : MOk qC_torn 0 := ⟨List.mem_of_getElem? (i := 552) (by decide +kernel), List.mem_of_getElem? (i := 95) (by decide +kernel), by decide, ⟨by decide, by decide⟩, by decide +kernel, by decide⟩
theorem mv_C_torn : MV qC_torn := ⟨List.mem_of_getElem? (i := 550) (by decide +kernel), List.mem_of_getElem? (i := 551) (by decide +kernel)⟩
abbrev qC_can : MD := (yX11_can, cX11_can, 4, (some .boolean))
theorem mk_C_can : MOk qC_can 3 := ⟨List.mem_of_getElem? (i := 1176) (by decide +kernel), List.mem_of_getElem? (i := 95) (by decide +kernel), by decide, ⟨by decide, by decide⟩, by decide +kernel, by decide⟩
theorem mv_C_can : MV qC_can := ⟨List.mem_of_getElem? (i := 1174) (by decide +kernel), List.mem_of_getElem? (i := 1175) (by decide +kernel)⟩
abbrev qC_areBits : MD := (yX11_areBits, cX11_areBits, 2, (some .boolean))
theorem mk_C_areBits : MOk qC_areBits 2 := ⟨List.mem_of_getElem? (i := 1187) (by decide +kernel), List.mem_of_getElem? (i := 95) (by decide +kernel), by decide, ⟨by decide, by decide⟩, by decide +kernel, by decide⟩
theorem mv_C_areBits : MS qC_areBits := List.mem_of_getElem? (i := 1186) (by decide +kernel)
abbrev qC_send : MD := (yX11_send, cX11_send, 5, (some .int))
theorem mk_C_send : MOk qC_send 1 := ⟨List.mem_of_getElem? (i := 1184) (by decide +kernel), List.mem_of_getElem? (i := 95) (by decide +kernel), by decide, ⟨by decide, by decide⟩, by decide +kernel, by decide⟩
theorem mv_C_send : MV qC_send := ⟨List.mem_of_getElem? (i := 1182) (by decide +kernel), List.mem_of_getElem? (i := 1183) (by decide +kernel)⟩
abbrev qC_lost : MD := (yX11_lost, cX11_lost, 3, (some .int))
theorem mk_C_lost : MOk qC_lost 1 := ⟨List.mem_of_getElem? (i := 1199) (by decide +kernel), List.mem_of_getElem? (i := 95) (by decide +kernel), by decide, ⟨by decide, by decide⟩, by decide +kernel, by decide⟩
theorem mv_C_lost : MV qC_lost := ⟨List.mem_of_getElem? (i := 1197) (by decide +kernel), List.mem_of_getElem? (i := 1198) (by decide +kernel)⟩
abbrev qC_path : MD := (yX11_path, cX11_path, 5, (some .int))
theorem mk_C_path : MOk qC_path 2 := ⟨List.mem_of_getElem? (i := 1207) (by decide +kernel), List.mem_of_getElem? (i := 95) (by decide +kernel), by decide, ⟨by decide, by decide⟩, by decide +kernel, by decide⟩
theorem mv_C_path : MV qC_path := ⟨List.mem_of_getElem? (i := 1205) (by decide +kernel), List.mem_of_getElem? (i := 1206) (by decide +kernel)⟩
abbrev qC_comes : MD := (yX11_comes, cX11_comes, 5, (some .int))
theorem mk_C_comes : MOk qC_comes 1 := ⟨List.mem_of_getElem? (i := 1214) (by decide +kernel), List.mem_of_getElem? (i := 95) (by decide +kernel), by decide, ⟨by decide, by decide⟩, by decide +kernel, by decide⟩
theorem mv_C_comes : MV qC_comes := ⟨List.mem_of_getElem? (i := 1212) (by decide +kernel), List.mem_of_getElem? (i := 1213) (by decide +kernel)⟩
abbrev qC_fits : MD := (yX11_fits, cX11_fits, 2, (some .int))
theorem mk_C_fits : MOk qC_fits 1 := ⟨List.mem_of_getElem? (i := 1221) (by decide +kernel), List.mem_of_getElem? (i := 95) (by decide +kernel), by decide, ⟨by decide, by decide⟩, by decide +kernel, by decide⟩
theorem mv_C_fits : MV qC_fits := ⟨List.mem_of_getElem? (i := 1219) (by decide +kernel), List.mem_of_getElem? (i := 1220) (by decide +kernel)⟩
abbrev qC_fitted : MD := (yX11_fitted, cX11_fitted, 3, (some .int))
theorem mk_C_fitted : MOk qC_fitted 2 := ⟨List.mem_of_getElem? (i := 1248) (by decide +kernel), List.mem_of_getElem? (i := 95) (by decide +kernel), by decide, ⟨by decide, by decide⟩, by decide +kernel, by decide⟩
theorem mv_C_fitted : MV qC_fitted := ⟨List.mem_of_getElem? (i := 1246) (by decide +kernel), List.mem_of_getElem? (i := 1247) (by decide +kernel)⟩
abbrev qC_stood : MD := (yX11_stood, cX11_stood, 2, (some .int))
theorem mk_C_stood : MOk qC_stood 1 := ⟨List.mem_of_getElem? (i := 1255) (by decide +kernel), List.mem_of_getElem? (i := 95) (by decide +kernel), by decide, ⟨by decide, by decide⟩, by decide +kernel, by decide⟩
theorem mv_C_stood : MV qC_stood := ⟨List.mem_of_getElem? (i := 1253) (by decide +kernel), List.mem_of_getElem? (i := 1254) (by decide +kernel)⟩
abbrev qC_ask : MD := (yX11_ask, cX11_ask, 3, (some .int))
theorem mk_C_ask : MOk qC_ask 1 := ⟨List.mem_of_getElem? (i := 1274) (by decide +kernel), List.mem_of_getElem? (i := 95) (by decide +kernel), by decide, ⟨by decide, by decide⟩, by decide +kernel, by decide⟩
theorem mv_C_ask : MV qC_ask := ⟨List.mem_of_getElem? (i := 1272) (by decide +kernel), List.mem_of_getElem? (i := 1273) (by decide +kernel)⟩
abbrev qC_chanceAfter : MD := (yX11_chanceAfter, cX11_chanceAfter, 8, (some .long))
theorem mk_C_chanceAfter : MOk qC_chanceAfter 4 := ⟨List.mem_of_getElem? (i := 1295) (by decide +kernel), List.mem_of_getElem? (i := 95) (by decide +kernel), by decide, ⟨by decide, by decide⟩, by decide +kernel, by decide⟩
theorem mv_C_chanceAfter : MV qC_chanceAfter := ⟨List.mem_of_getElem? (i := 1294) (by decide +kernel), List.mem_of_getElem? (i := 32) (by decide +kernel)⟩
abbrev qC_still : MD := (yX11_still, cX11_still, 11, (some .long))
theorem mk_C_still : MOk qC_still 5 := ⟨List.mem_of_getElem? (i := 1291) (by decide +kernel), List.mem_of_getElem? (i := 95) (by decide +kernel), by decide, ⟨by decide, by decide⟩, by decide +kernel, by decide⟩
theorem mv_C_still : MV qC_still := ⟨List.mem_of_getElem? (i := 1289) (by decide +kernel), List.mem_of_getElem? (i := 1290) (by decide +kernel)⟩
abbrev qC_isRest : MD := (yX11_isRest, cX11_isRest, 8, (some .boolean))
theorem mk_C_isRest : MOk qC_isRest 4 := ⟨List.mem_of_getElem? (i := 1308) (by decide +kernel), List.mem_of_getElem? (i := 95) (by decide +kernel), by decide, ⟨by decide, by decide⟩, by decide +kernel, by decide⟩
theorem mv_C_isRest : MV qC_isRest := ⟨List.mem_of_getElem? (i := 1307) (by decide +kernel), List.mem_of_getElem? (i := 33) (by decide +kernel)⟩
abbrev qC_crews : MD := (yX11_crews, cX11_crews, 9, (some .int))
theorem mk_C_crews : MOk qC_crews 3 := ⟨List.mem_of_getElem? (i := 1304) (by decide +kernel), List.mem_of_getElem? (i := 95) (by decide +kernel), by decide, ⟨by decide, by decide⟩, by decide +kernel, by decide⟩
theorem mv_C_crews : MV qC_crews := ⟨List.mem_of_getElem? (i := 1302) (by decide +kernel), List.mem_of_getElem? (i := 1303) (by decide +kernel)⟩
abbrev qC_share : MD := (yX11_share, cX11_share, 5, (some .int))
theorem mk_C_share : MOk qC_share 3 := ⟨List.mem_of_getElem? (i := 1319) (by decide +kernel), List.mem_of_getElem? (i := 95) (by decide +kernel), by decide, ⟨by decide, by decide⟩, by decide +kernel, by decide⟩
theorem mv_C_share : MV qC_share := ⟨List.mem_of_getElem? (i := 1317) (by decide +kernel), List.mem_of_getElem? (i := 1318) (by decide +kernel)⟩
abbrev qC_above : MD := (yX11_above, cX11_above, 2, (some .int))
theorem mk_C_above : MOk qC_above 1 := ⟨List.mem_of_getElem? (i := 1331) (by decide +kernel), List.mem_of_getElem? (i := 95) (by decide +kernel), by decide, ⟨by decide, by decide⟩, by decide +kernel, by decide⟩
theorem mv_C_above : MV qC_above := ⟨List.mem_of_getElem? (i := 1329) (by decide +kernel), List.mem_of_getElem? (i := 1330) (by decide +kernel)⟩
abbrev qC_mightiest : MD := (yX11_mightiest, cX11_mightiest, 6, (some .int))
theorem mk_C_mightiest : MOk qC_mightiest 1 := ⟨List.mem_of_getElem? (i := 1338) (by decide +kernel), List.mem_of_getElem? (i := 95) (by decide +kernel), by decide, ⟨by decide, by decide⟩, by decide +kernel, by decide⟩
theorem mv_C_mightiest : MV qC_mightiest := ⟨List.mem_of_getElem? (i := 1336) (by decide +kernel), List.mem_of_getElem? (i := 1337) (by decide +kernel)⟩
abbrev qC_missing : MD := (yX11_missing, cX11_missing, 3, (some .int))
theorem mk_C_missing : MOk qC_missing 0 := ⟨List.mem_of_getElem? (i := 560) (by decide +kernel), List.mem_of_getElem? (i := 95) (by decide +kernel), by decide, ⟨by decide, by decide⟩, by decide +kernel, by decide⟩
theorem mv_C_missing : MV qC_missing := ⟨List.mem_of_getElem? (i := 558) (by decide +kernel), List.mem_of_getElem? (i := 559) (by decide +kernel)⟩
abbrev qC_idle : MD := (yX11_idle, cX11_idle, 3, (some .int))
theorem mk_C_idle : MOk qC_idle 0 := ⟨List.mem_of_getElem? (i := 568) (by decide +kernel), List.mem_of_getElem? (i := 95) (by decide +kernel), by decide, ⟨by decide, by decide⟩, by decide +kernel, by decide⟩
theorem mv_C_idle : MV qC_idle := ⟨List.mem_of_getElem? (i := 566) (by decide +kernel), List.mem_of_getElem? (i := 567) (by decide +kernel)⟩
abbrev qC_ends : MD := (yX11_ends, cX11_ends, 5, (some .int))
theorem mk_C_ends : MOk qC_ends 2 := ⟨List.mem_of_getElem? (i := 1345) (by decide +kernel), List.mem_of_getElem? (i := 95) (by decide +kernel), by decide, ⟨by decide, by decide⟩, by decide +kernel, by decide⟩
theorem mv_C_ends : MV qC_ends := ⟨List.mem_of_getElem? (i := 1343) (by decide +kernel), List.mem_of_getElem? (i := 1344) (by decide +kernel)⟩
abbrev qC_loud : MD := (yX11_loud, cX11_loud, 4, (some .int))
theorem mk_C_loud : MOk qC_loud 1 := ⟨List.mem_of_getElem? (i := 1352) (by decide +kernel), List.mem_of_getElem? (i := 95) (by decide +kernel), by decide, ⟨by decide, by decide⟩, by decide +kernel, by decide⟩
theorem mv_C_loud : MV qC_loud := ⟨List.mem_of_getElem? (i := 1350) (by decide +kernel), List.mem_of_getElem? (i := 1351) (by decide +kernel)⟩
abbrev qC_areYears : MD := (yX11_areYears, cX11_areYears, 3, (some .boolean))
theorem mk_C_areYears : MOk qC_areYears 3 := ⟨List.mem_of_getElem? (i := 1362) (by decide +kernel), List.mem_of_getElem? (i := 95) (by decide +kernel), by decide, ⟨by decide, by decide⟩, by decide +kernel, by decide⟩
theorem mv_C_areYears : MS qC_areYears := List.mem_of_getElem? (i := 1361) (by decide +kernel)
abbrev qC_years : MD := (yX11_years, cX11_years, 6, (some .int))
theorem mk_C_years : MOk qC_years 5 := ⟨List.mem_of_getElem? (i := 1359) (by decide +kernel), List.mem_of_getElem? (i := 95) (by decide +kernel), by decide, ⟨by decide, by decide⟩, by decide +kernel, by decide⟩
theorem mv_C_years : MV qC_years := ⟨List.mem_of_getElem? (i := 1357) (by decide +kernel), List.mem_of_getElem? (i := 1358) (by decide +kernel)⟩
abbrev qC_span : MD := (yX11_span, cX11_span, 13, (some .int))
theorem mk_C_span : MOk qC_span 7 := ⟨List.mem_of_getElem? (i := 1391) (by decide +kernel), List.mem_of_getElem? (i := 95) (by decide +kernel), by decide, ⟨by decide, by decide⟩, by decide +kernel, by decide⟩
theorem mv_C_span : MV qC_span := ⟨List.mem_of_getElem? (i := 1389) (by decide +kernel), List.mem_of_getElem? (i := 1390) (by decide +kernel)⟩
abbrev qC_image : MD := (yX11_image, cX11_image, 1, (some .int))
theorem mk_C_image : MOk qC_image 0 := ⟨List.mem_of_getElem? (i := 591) (by decide +kernel), List.mem_of_getElem? (i := 95) (by decide +kernel), by decide, ⟨by decide, by decide⟩, by decide +kernel, by decide⟩
theorem mv_C_image : MV qC_image := ⟨List.mem_of_getElem? (i := 589) (by decide +kernel), List.mem_of_getElem? (i := 590) (by decide +kernel)⟩
abbrev qC_restore : MD := (yX11_restore, cX11_restore, 1, (some .int))
theorem mk_C_restore : MOk qC_restore 0 := ⟨List.mem_of_getElem? (i := 625) (by decide +kernel), List.mem_of_getElem? (i := 95) (by decide +kernel), by decide, ⟨by decide, by decide⟩, by decide +kernel, by decide⟩
theorem mv_C_restore : MV qC_restore := ⟨List.mem_of_getElem? (i := 623) (by decide +kernel), List.mem_of_getElem? (i := 624) (by decide +kernel)⟩
abbrev qC_status : MD := (yX11_status, cX11_status, 2, (some .int))
theorem mk_C_status : MOk qC_status 1 := ⟨List.mem_of_getElem? (i := 633) (by decide +kernel), List.mem_of_getElem? (i := 95) (by decide +kernel), by decide, ⟨by decide, by decide⟩, by decide +kernel, by decide⟩
theorem mv_C_status : MV qC_status := ⟨List.mem_of_getElem? (i := 631) (by decide +kernel), List.mem_of_getElem? (i := 632) (by decide +kernel)⟩
abbrev qC_count : MD := (yX11_count, cX11_count, 2, (some .int))
theorem mk_C_count : MOk qC_count 1 := ⟨List.mem_of_getElem? (i := 637) (by decide +kernel), List.mem_of_getElem? (i := 95) (by decide +kernel), by decide, ⟨by decide, by decide⟩, by decide +kernel, by decide⟩
theorem mv_C_count : MV qC_count := ⟨List.mem_of_getElem? (i := 635) (by decide +kernel), List.mem_of_getElem? (i := 636) (by decide +kernel)⟩
abbrev qM_init : MD := (yX12_init, cX12_init, 1, none)
theorem mk_M_init : MOk qM_init 0 := ⟨List.mem_of_getElem? (i := 1397) (by decide +kernel), List.mem_of_getElem? (i := 106) (by decide +kernel), by decide, ⟨by decide, by decide⟩, by decide +kernel, by decide⟩
theorem mv_M_init : MI qM_init := ⟨List.mem_of_getElem? (i := 1396) (by decide +kernel), rfl, rfl⟩
abbrev qM_tellsNothing : MD := (yX12_tellsNothing, cX12_tellsNothing, 2, none)
theorem mk_M_tellsNothing : MOk qM_tellsNothing 0 := ⟨List.mem_of_getElem? (i := 1404) (by decide +kernel), List.mem_of_getElem? (i := 106) (by decide +kernel), by decide, ⟨by decide, by decide⟩, by decide +kernel, by decide⟩
theorem mv_M_tellsNothing : MV qM_tellsNothing := ⟨List.mem_of_getElem? (i := 1403) (by decide +kernel), List.mem_of_getElem? (i := 36) (by decide +kernel)⟩
abbrev qM_thrown : MD := (yX12_thrown, cX12_thrown, 1, (some .int))
theorem mk_M_thrown : MOk qM_thrown 0 := ⟨List.mem_of_getElem? (i := 1582) (by decide +kernel), List.mem_of_getElem? (i := 106) (by decide +kernel), by decide, ⟨by decide, by decide⟩, by decide +kernel, by decide⟩
theorem mv_M_thrown : MV qM_thrown := ⟨List.mem_of_getElem? (i := 1580) (by decide +kernel), List.mem_of_getElem? (i := 1581) (by decide +kernel)⟩
abbrev qM_bad : MD := (yX12_bad, cX12_bad, 4, (some .boolean))
theorem mk_M_bad : MOk qM_bad 3 := ⟨List.mem_of_getElem? (i := 1597) (by decide +kernel), List.mem_of_getElem? (i := 106) (by decide +kernel), by decide, ⟨by decide, by decide⟩, by decide +kernel, by decide⟩
theorem mv_M_bad : MV qM_bad := ⟨List.mem_of_getElem? (i := 1596) (by decide +kernel), List.mem_of_getElem? (i := 39) (by decide +kernel)⟩
abbrev qM_in : MD := (yX12_in, cX12_in, 3, (some .boolean))
theorem mk_M_in : MOk qM_in 3 := ⟨List.mem_of_getElem? (i := 1593) (by decide +kernel), List.mem_of_getElem? (i := 106) (by decide +kernel), by decide, ⟨by decide, by decide⟩, by decide +kernel, by decide⟩
theorem mv_M_in : MS qM_in := List.mem_of_getElem? (i := 1592) (by decide +kernel)
abbrev qM_less : MD := (yX12_less, cX12_less, 2, (some .int))
theorem mk_M_less : MOk qM_less 2 := ⟨List.mem_of_getElem? (i := 1792) (by decide +kernel), List.mem_of_getElem? (i := 106) (by decide +kernel), by decide, ⟨by decide, by decide⟩, by decide +kernel, by decide⟩
theorem mv_M_less : MS qM_less := List.mem_of_getElem? (i := 1791) (by decide +kernel)
abbrev qM_more : MD := (yX12_more, cX12_more, 2, (some .int))
theorem mk_M_more : MOk qM_more 2 := ⟨List.mem_of_getElem? (i := 1795) (by decide +kernel), List.mem_of_getElem? (i := 106) (by decide +kernel), by decide, ⟨by decide, by decide⟩, by decide +kernel, by decide⟩
theorem mv_M_more : MS qM_more := List.mem_of_getElem? (i := 1794) (by decide +kernel)
abbrev qM_has : MD := (yX12_has, cX12_has, 2, (some .boolean))
theorem mk_M_has : MOk qM_has 2 := ⟨List.mem_of_getElem? (i := 1705) (by decide +kernel), List.mem_of_getElem? (i := 106) (by decide +kernel), by decide, ⟨by decide, by decide⟩, by decide +kernel, by decide⟩
theorem mv_M_has : MS qM_has := List.mem_of_getElem? (i := 1704) (by decide +kernel)
abbrev qM_feed : MD := (yX12_feed, cX12_feed, 8, (some .int))
theorem mk_M_feed : MOk qM_feed 5 := ⟨List.mem_of_getElem? (i := 1586) (by decide +kernel), List.mem_of_getElem? (i := 106) (by decide +kernel), by decide, ⟨by decide, by decide⟩, by decide +kernel, by decide⟩
theorem mv_M_feed : MV qM_feed := ⟨List.mem_of_getElem? (i := 1584) (by decide +kernel), List.mem_of_getElem? (i := 1585) (by decide +kernel)⟩
abbrev qM_byteAt : MD := (yX12_byteAt, cX12_byteAt, 2, (some .int))
theorem mk_M_byteAt : MOk qM_byteAt 1 := ⟨List.mem_of_getElem? (i := 1609) (by decide +kernel), List.mem_of_getElem? (i := 106) (by decide +kernel), by decide, ⟨by decide, by decide⟩, by decide +kernel, by decide⟩
theorem mv_M_byteAt : MV qM_byteAt := ⟨List.mem_of_getElem? (i := 1608) (by decide +kernel), List.mem_of_getElem? (i := 42) (by decide +kernel)⟩
abbrev qM_blanks : MD := (yX12_blanks, cX12_blanks, 1, none)
theorem mk_M_blanks : MOk qM_blanks 0 := ⟨List.mem_of_getElem? (i := 1605) (by decide +kernel), List.mem_of_getElem? (i := 106) (by decide +kernel), by decide, ⟨by decide, by decide⟩, by decide +kernel, by decide⟩
theorem mv_M_blanks : MV qM_blanks := ⟨List.mem_of_getElem? (i := 1604) (by decide +kernel), List.mem_of_getElem? (i := 41) (by decide +kernel)⟩
abbrev qM_wrong : MD := (yX12_wrong, cX12_wrong, 3, none)
theorem mk_M_wrong : MOk qM_wrong 2 := ⟨List.mem_of_getElem? (i := 1635) (by decide +kernel), List.mem_of_getElem? (i := 106) (by decide +kernel), by decide, ⟨by decide, by decide⟩, by decide +kernel, by decide⟩
theorem mv_M_wrong : MV qM_wrong := ⟨List.mem_of_getElem? (i := 1634) (by decide +kernel), List.mem_of_getElem? (i := 47) (by decide +kernel)⟩
abbrev qM_isDigit : MD := (yX12_isDigit, cX12_isDigit, 1, (some .boolean))
theorem mk_M_isDigit : MOk qM_isDigit 1 := ⟨List.mem_of_getElem? (i := 1649) (by decide +kernel), List.mem_of_getElem? (i := 106) (by decide +kernel), by decide, ⟨by decide, by decide⟩, by decide +kernel, by decide⟩
theorem mv_M_isDigit : MS qM_isDigit := List.mem_of_getElem? (i := 1648) (by decide +kernel)
abbrev qM_isSmall : MD := (yX12_isSmall, cX12_isSmall, 1, (some .boolean))
theorem mk_M_isSmall : MOk qM_isSmall 1 := ⟨List.mem_of_getElem? (i := 1628) (by decide +kernel), List.mem_of_getElem? (i := 106) (by decide +kernel), by decide, ⟨by decide, by decide⟩, by decide +kernel, by decide⟩
theorem mv_M_isSmall : MS qM_isSmall := List.mem_of_getElem? (i := 1627) (by decide +kernel)
abbrev qM_number : MD := (yX12_number, cX12_number, 5, (some .int))
theorem mk_M_number : MOk qM_number 2 := ⟨List.mem_of_getElem? (i := 1646) (by decide +kernel), List.mem_of_getElem? (i := 106) (by decide +kernel), by decide, ⟨by decide, by decide⟩, by decide +kernel, by decide⟩
theorem mv_M_number : MV qM_number := ⟨List.mem_of_getElem? (i := 1645) (by decide +kernel), List.mem_of_getElem? (i := 49) (by decide +kernel)⟩
abbrev qM_wordHere : MD := (yX12_wordHere, cX12_wordHere, 3, (some .int))
theorem mk_M_wordHere : MOk qM_wordHere 0 := ⟨List.mem_of_getElem? (i := 1625) (by decide +kernel), List.mem_of_getElem? (i := 106) (by decide +kernel), by decide, ⟨by decide, by decide⟩, by decide +kernel, by decide⟩
theorem mv_M_wordHere : MV qM_wordHere := ⟨List.mem_of_getElem? (i := 1624) (by decide +kernel), List.mem_of_getElem? (i := 46) (by decide +kernel)⟩
abbrev qM_six : MD := (yX12_six, cX12_six, 7, (some .int))
theorem mk_M_six : MOk qM_six 6 := ⟨List.mem_of_getElem? (i := 1631) (by decide +kernel), List.mem_of_getElem? (i := 106) (by decide +kernel), by decide, ⟨by decide, by decide⟩, by decide +kernel, by decide⟩
theorem mv_M_six : MS qM_six := List.mem_of_getElem? (i := 1630) (by decide +kernel)
abbrev qM_isWord : MD := (yX12_isWord, cX12_isWord, 7, (some .boolean))
theorem mk_M_isWord : MOk qM_isWord 6 := ⟨List.mem_of_getElem? (i := 1621) (by decide +kernel), List.mem_of_getElem? (i := 106) (by decide +kernel), by decide, ⟨by decide, by decide⟩, by decide +kernel, by decide⟩
theorem mv_M_isWord : MV qM_isWord := ⟨List.mem_of_getElem? (i := 1620) (by decide +kernel), List.mem_of_getElem? (i := 45) (by decide +kernel)⟩
abbrev qM_skipWord : MD := (yX12_skipWord, cX12_skipWord, 1, none)
theorem mk_M_skipWord : MOk qM_skipWord 0 := ⟨List.mem_of_getElem? (i := 1642) (by decide +kernel), List.mem_of_getElem? (i := 106) (by decide +kernel), by decide, ⟨by decide, by decide⟩, by decide +kernel, by decide⟩
theorem mv_M_skipWord : MV qM_skipWord := ⟨List.mem_of_getElem? (i := 1641) (by decide +kernel), List.mem_of_getElem? (i := 48) (by decide +kernel)⟩
abbrev qM_takes : MD := (yX12_takes, cX12_takes, 8, (some .boolean))
theorem mk_M_takes : MOk qM_takes 6 := ⟨List.mem_of_getElem? (i := 1690) (by decide +kernel), List.mem_of_getElem? (i := 106) (by decide +kernel), by decide, ⟨by decide, by decide⟩, by decide +kernel, by decide⟩
theorem mv_M_takes : MV qM_takes := ⟨List.mem_of_getElem? (i := 1689) (by decide +kernel), List.mem_of_getElem? (i := 58) (by decide +kernel)⟩
abbrev qM_sign : MD := (yX12_sign, cX12_sign, 2, none)
theorem mk_M_sign : MOk qM_sign 1 := ⟨List.mem_of_getElem? (i := 1654) (by decide +kernel), List.mem_of_getElem? (i := 106) (by decide +kernel), by decide, ⟨by decide, by decide⟩, by decide +kernel, by decide⟩
theorem mv_M_sign : MV qM_sign := ⟨List.mem_of_getElem? (i := 1653) (by decide +kernel), List.mem_of_getElem? (i := 50) (by decide +kernel)⟩
abbrev qM_takesSign : MD := (yX12_takesSign, cX12_takesSign, 3, (some .boolean))
theorem mk_M_takesSign : MOk qM_takesSign 1 := ⟨List.mem_of_getElem? (i := 1698) (by decide +kernel), List.mem_of_getElem? (i := 106) (by decide +kernel), by decide, ⟨by decide, by decide⟩, by decide +kernel, by decide⟩
theorem mv_M_takesSign : MV qM_takesSign := ⟨List.mem_of_getElem? (i := 1697) (by decide +kernel), List.mem_of_getElem? (i := 60) (by decide +kernel)⟩
abbrev qM_starts : MD := (yX12_starts, cX12_starts, 2, none)
theorem mk_M_starts : MOk qM_starts 1 := ⟨List.mem_of_getElem? (i := 1601) (by decide +kernel), List.mem_of_getElem? (i := 106) (by decide +kernel), by decide, ⟨by decide, by decide⟩, by decide +kernel, by decide⟩
theorem mv_M_starts : MV qM_starts := ⟨List.mem_of_getElem? (i := 1600) (by decide +kernel), List.mem_of_getElem? (i := 40) (by decide +kernel)⟩
abbrev qM_faulty : MD := (yX12_faulty, cX12_faulty, 1, (some .int))
theorem mk_M_faulty : MOk qM_faulty 0 := ⟨List.mem_of_getElem? (i := 1658) (by decide +kernel), List.mem_of_getElem? (i := 106) (by decide +kernel), by decide, ⟨by decide, by decide⟩, by decide +kernel, by decide⟩
theorem mv_M_faulty : MV qM_faulty := ⟨List.mem_of_getElem? (i := 1657) (by decide +kernel), List.mem_of_getElem? (i := 51) (by decide +kernel)⟩
abbrev qM_kindHere : MD := (yX12_kindHere, cX12_kindHere, 1, (some .int))
theorem mk_M_kindHere : MOk qM_kindHere 0 := ⟨List.mem_of_getElem? (i := 1617) (by decide +kernel), List.mem_of_getElem? (i := 106) (by decide +kernel), by decide, ⟨by decide, by decide⟩, by decide +kernel, by decide⟩
theorem mv_M_kindHere : MV qM_kindHere := ⟨List.mem_of_getElem? (i := 1616) (by decide +kernel), List.mem_of_getElem? (i := 44) (by decide +kernel)⟩
abbrev qM_mostOf : MD := (yX12_mostOf, cX12_mostOf, 1, (some .int))
theorem mk_M_mostOf : MOk qM_mostOf 1 := ⟨List.mem_of_getElem? (i := 1638) (by decide +kernel), List.mem_of_getElem? (i := 106) (by decide +kernel), by decide, ⟨by decide, by decide⟩, by decide +kernel, by decide⟩
theorem mv_M_mostOf : MS qM_mostOf := List.mem_of_getElem? (i := 1637) (by decide +kernel)
abbrev qM_clause : MD := (yX12_clause, cX12_clause, 6, none)
theorem mk_M_clause : MOk qM_clause 0 := ⟨List.mem_of_getElem? (i := 1613) (by decide +kernel), List.mem_of_getElem? (i := 106) (by decide +kernel), by decide, ⟨by decide, by decide⟩, by decide +kernel, by decide⟩
theorem mv_M_clause : MV qM_clause := ⟨List.mem_of_getElem? (i := 1612) (by decide +kernel), List.mem_of_getElem? (i := 43) (by decide +kernel)⟩
abbrev qM_beginsAnew : MD := (yX12_beginsAnew, cX12_beginsAnew, 2, none)
theorem mk_M_beginsAnew : MOk qM_beginsAnew 0 := ⟨List.mem_of_getElem? (i := 1408) (by decide +kernel), List.mem_of_getElem? (i := 106) (by decide +kernel), by decide, ⟨by decide, by decide⟩, by decide +kernel, by decide⟩
theorem mv_M_beginsAnew : MV qM_beginsAnew := ⟨List.mem_of_getElem? (i := 1407) (by decide +kernel), List.mem_of_getElem? (i := 37) (by decide +kernel)⟩
abbrev qM_port : MD := (yX12_port, cX12_port, 2, (some .int))
theorem mk_M_port : MOk qM_port 1 := ⟨List.mem_of_getElem? (i := 1590) (by decide +kernel), List.mem_of_getElem? (i := 106) (by decide +kernel), by decide, ⟨by decide, by decide⟩, by decide +kernel, by decide⟩
theorem mv_M_port : MV qM_port := ⟨List.mem_of_getElem? (i := 1588) (by decide +kernel), List.mem_of_getElem? (i := 1589) (by decide +kernel)⟩
abbrev qM_lays : MD := (yX12_lays, cX12_lays, 5, none)
theorem mk_M_lays : MOk qM_lays 3 := ⟨List.mem_of_getElem? (i := 1411) (by decide +kernel), List.mem_of_getElem? (i := 106) (by decide +kernel), by decide, ⟨by decide, by decide⟩, by decide +kernel, by decide⟩
theorem mv_M_lays : MS qM_lays := List.mem_of_getElem? (i := 1410) (by decide +kernel)
abbrev qM_copies : MD := (yX12_copies, cX12_copies, 3, none)
theorem mk_M_copies : MOk qM_copies 2 := ⟨List.mem_of_getElem? (i := 1724) (by decide +kernel), List.mem_of_getElem? (i := 106) (by decide +kernel), by decide, ⟨by decide, by decide⟩, by decide +kernel, by decide⟩
theorem mv_M_copies : MS qM_copies := List.mem_of_getElem? (i := 1723) (by decide +kernel)
abbrev qM_fills : MD := (yX12_fills, cX12_fills, 3, none)
theorem mk_M_fills : MOk qM_fills 1 := ⟨List.mem_of_getElem? (i := 1415) (by decide +kernel), List.mem_of_getElem? (i := 106) (by decide +kernel), by decide, ⟨by decide, by decide⟩, by decide +kernel, by decide⟩
theorem mv_M_fills : MV qM_fills := ⟨List.mem_of_getElem? (i := 1414) (by decide +kernel), List.mem_of_getElem? (i := 38) (by decide +kernel)⟩
abbrev qM_notes : MD := (yX12_notes, cX12_notes, 3, none)
theorem mk_M_notes : MOk qM_notes 2 := ⟨List.mem_of_getElem? (i := 1682) (by decide +kernel), List.mem_of_getElem? (i := 106) (by decide +kernel), by decide, ⟨by decide, by decide⟩, by decide +kernel, by decide⟩
theorem mv_M_notes : MV qM_notes := ⟨List.mem_of_getElem? (i := 1681) (by decide +kernel), List.mem_of_getElem? (i := 56) (by decide +kernel)⟩
abbrev qM_opensOne : MD := (yX12_opensOne, cX12_opensOne, 1, (some .boolean))
theorem mk_M_opensOne : MOk qM_opensOne 0 := ⟨List.mem_of_getElem? (i := 1678) (by decide +kernel), List.mem_of_getElem? (i := 106) (by decide +kernel), by decide, ⟨by decide, by decide⟩, by decide +kernel, by decide⟩
theorem mv_M_opensOne : MV qM_opensOne := ⟨List.mem_of_getElem? (i := 1677) (by decide +kernel), List.mem_of_getElem? (i := 55) (by decide +kernel)⟩
abbrev qM_product : MD := (yX12_product, cX12_product, 2, none)
theorem mk_M_product : MOk qM_product 0 := ⟨List.mem_of_getElem? (i := 1670) (by decide +kernel), List.mem_of_getElem? (i := 106) (by decide +kernel), by decide, ⟨by decide, by decide⟩, by decide +kernel, by decide⟩
theorem mv_M_product : MV qM_product := ⟨List.mem_of_getElem? (i := 1669) (by decide +kernel), List.mem_of_getElem? (i := 53) (by decide +kernel)⟩
abbrev qM_sum : MD := (yX12_sum, cX12_sum, 2, none)
theorem mk_M_sum : MOk qM_sum 0 := ⟨List.mem_of_getElem? (i := 1666) (by decide +kernel), List.mem_of_getElem? (i := 106) (by decide +kernel), by decide, ⟨by decide, by decide⟩, by decide +kernel, by decide⟩
theorem mv_M_sum : MV qM_sum := ⟨List.mem_of_getElem? (i := 1665) (by decide +kernel), List.mem_of_getElem? (i := 52) (by decide +kernel)⟩
abbrev qM_one : MD := (yX12_one, cX12_one, 3, none)
theorem mk_M_one : MOk qM_one 0 := ⟨List.mem_of_getElem? (i := 1674) (by decide +kernel), List.mem_of_getElem? (i := 106) (by decide +kernel), by decide, ⟨by decide, by decide⟩, by decide +kernel, by decide⟩
theorem mv_M_one : MV qM_one := ⟨List.mem_of_getElem? (i := 1673) (by decide +kernel), List.mem_of_getElem? (i := 54) (by decide +kernel)⟩
abbrev qM_isLetters : MD := (yX12_isLetters, cX12_isLetters, 4, (some .boolean))
theorem mk_M_isLetters : MOk qM_isLetters 0 := ⟨List.mem_of_getElem? (i := 1694) (by decide +kernel), List.mem_of_getElem? (i := 106) (by decide +kernel), by decide, ⟨by decide, by decide⟩, by decide +kernel, by decide⟩
theorem mv_M_isLetters : MV qM_isLetters := ⟨List.mem_of_getElem? (i := 1693) (by decide +kernel), List.mem_of_getElem? (i := 59) (by decide +kernel)⟩
abbrev qM_knownHere : MD := (yX12_knownHere, cX12_knownHere, 1, (some .int))
theorem mk_M_knownHere : MOk qM_knownHere 0 := ⟨List.mem_of_getElem? (i := 1686) (by decide +kernel), List.mem_of_getElem? (i := 106) (by decide +kernel), by decide, ⟨by decide, by decide⟩, by decide +kernel, by decide⟩
theorem mv_M_knownHere : MV qM_knownHere := ⟨List.mem_of_getElem? (i := 1685) (by decide +kernel), List.mem_of_getElem? (i := 57) (by decide +kernel)⟩
abbrev qM_law : MD := (yX12_law, cX12_law, 2, (some .int))
theorem mk_M_law : MOk qM_law 1 := ⟨List.mem_of_getElem? (i := 1662) (by decide +kernel), List.mem_of_getElem? (i := 106) (by decide +kernel), by decide, ⟨by decide, by decide⟩, by decide +kernel, by decide⟩
theorem mv_M_law : MV qM_law := ⟨List.mem_of_getElem? (i := 1660) (by decide +kernel), List.mem_of_getElem? (i := 1661) (by decide +kernel)⟩
abbrev qM_by : MD := (yX12_by, cX12_by, 3, (some .int))
theorem mk_M_by : MOk qM_by 3 := ⟨List.mem_of_getElem? (i := 1789) (by decide +kernel), List.mem_of_getElem? (i := 106) (by decide +kernel), by decide, ⟨by decide, by decide⟩, by decide +kernel, by decide⟩
theorem mv_M_by : MS qM_by := List.mem_of_getElem? (i := 1788) (by decide +kernel)
abbrev qM_byLaw : MD := (yX12_byLaw, cX12_byLaw, 3, (some .int))
theorem mk_M_byLaw : MOk qM_byLaw 0 := ⟨List.mem_of_getElem? (i := 1786) (by decide +kernel), List.mem_of_getElem? (i := 106) (by decide +kernel), by decide, ⟨by decide, by decide⟩, by decide +kernel, by decide⟩
theorem mv_M_byLaw : MV qM_byLaw := ⟨List.mem_of_getElem? (i := 1785) (by decide +kernel), List.mem_of_getElem? (i := 74) (by decide +kernel)⟩
abbrev qM_stepHere : MD := (yX12_stepHere, cX12_stepHere, 1, (some .int))
theorem mk_M_stepHere : MOk qM_stepHere 0 := ⟨List.mem_of_getElem? (i := 1721) (by decide +kernel), List.mem_of_getElem? (i := 106) (by decide +kernel), by decide, ⟨by decide, by decide⟩, by decide +kernel, by decide⟩
theorem mv_M_stepHere : MV qM_stepHere := ⟨List.mem_of_getElem? (i := 1720) (by decide +kernel), List.mem_of_getElem? (i := 62) (by decide +kernel)⟩
abbrev qM_readsStep : MD := (yX12_readsStep, cX12_readsStep, 3, none)
theorem mk_M_readsStep : MOk qM_readsStep 0 := ⟨List.mem_of_getElem? (i := 1717) (by decide +kernel), List.mem_of_getElem? (i := 106) (by decide +kernel), by decide, ⟨by decide, by decide⟩, by decide +kernel, by decide⟩
theorem mv_M_readsStep : MV qM_readsStep := ⟨List.mem_of_getElem? (i := 1716) (by decide +kernel), List.mem_of_getElem? (i := 61) (by decide +kernel)⟩
abbrev qM_deeds : MD := (yX12_deeds, cX12_deeds, 7, (some .int))
theorem mk_M_deeds : MOk qM_deeds 1 := ⟨List.mem_of_getElem? (i := 1702) (by decide +kernel), List.mem_of_getElem? (i := 106) (by decide +kernel), by decide, ⟨by decide, by decide⟩, by decide +kernel, by decide⟩
theorem mv_M_deeds : MV qM_deeds := ⟨List.mem_of_getElem? (i := 1700) (by decide +kernel), List.mem_of_getElem? (i := 1701) (by decide +kernel)⟩
abbrev qM_fault : MD := (yX12_fault, cX12_fault, 1, (some .int))
theorem mk_M_fault : MOk qM_fault 0 := ⟨List.mem_of_getElem? (i := 1709) (by decide +kernel), List.mem_of_getElem? (i := 106) (by decide +kernel), by decide, ⟨by decide, by decide⟩, by decide +kernel, by decide⟩
theorem mv_M_fault : MV qM_fault := ⟨List.mem_of_getElem? (i := 1707) (by decide +kernel), List.mem_of_getElem? (i := 1708) (by decide +kernel)⟩
abbrev qM_lineOf : MD := (yX12_lineOf, cX12_lineOf, 3, (some .int))
theorem mk_M_lineOf : MOk qM_lineOf 3 := ⟨List.mem_of_getElem? (i := 1747) (by decide +kernel), List.mem_of_getElem? (i := 106) (by decide +kernel), by decide, ⟨by decide, by decide⟩, by decide +kernel, by decide⟩
theorem mv_M_lineOf : MS qM_lineOf := List.mem_of_getElem? (i := 1746) (by decide +kernel)
abbrev qM_roomOf : MD := (yX12_roomOf, cX12_roomOf, 5, (some .int))
theorem mk_M_roomOf : MOk qM_roomOf 2 := ⟨List.mem_of_getElem? (i := 1744) (by decide +kernel), List.mem_of_getElem? (i := 106) (by decide +kernel), by decide, ⟨by decide, by decide⟩, by decide +kernel, by decide⟩
theorem mv_M_roomOf : MV qM_roomOf := ⟨List.mem_of_getElem? (i := 1743) (by decide +kernel), List.mem_of_getElem? (i := 67) (by decide +kernel)⟩
abbrev qM_canWrite : MD := (yX12_canWrite, cX12_canWrite, 5, (some .boolean))
theorem mk_M_canWrite : MOk qM_canWrite 4 := ⟨List.mem_of_getElem? (i := 1740) (by decide +kernel), List.mem_of_getElem? (i := 106) (by decide +kernel), by decide, ⟨by decide, by decide⟩, by decide +kernel, by decide⟩
theorem mv_M_canWrite : MV qM_canWrite := ⟨List.mem_of_getElem? (i := 1739) (by decide +kernel), List.mem_of_getElem? (i := 66) (by decide +kernel)⟩
abbrev qM_writes : MD := (yX12_writes, cX12_writes, 6, (some .boolean))
theorem mk_M_writes : MOk qM_writes 4 := ⟨List.mem_of_getElem? (i := 1736) (by decide +kernel), List.mem_of_getElem? (i := 106) (by decide +kernel), by decide, ⟨by decide, by decide⟩, by decide +kernel, by decide⟩
theorem mv_M_writes : MV qM_writes := ⟨List.mem_of_getElem? (i := 1735) (by decide +kernel), List.mem_of_getElem? (i := 65) (by decide +kernel)⟩
abbrev qM_slips : MD := (yX12_slips, cX12_slips, 4, (some .boolean))
theorem mk_M_slips : MOk qM_slips 2 := ⟨List.mem_of_getElem? (i := 1751) (by decide +kernel), List.mem_of_getElem? (i := 106) (by decide +kernel), by decide, ⟨by decide, by decide⟩, by decide +kernel, by decide⟩
theorem mv_M_slips : MV qM_slips := ⟨List.mem_of_getElem? (i := 1750) (by decide +kernel), List.mem_of_getElem? (i := 68) (by decide +kernel)⟩
abbrev qM_rains : MD := (yX12_rains, cX12_rains, 5, (some .boolean))
theorem mk_M_rains : MOk qM_rains 2 := ⟨List.mem_of_getElem? (i := 1754) (by decide +kernel), List.mem_of_getElem? (i := 106) (by decide +kernel), by decide, ⟨by decide, by decide⟩, by decide +kernel, by decide⟩
theorem mv_M_rains : MS qM_rains := List.mem_of_getElem? (i := 1753) (by decide +kernel)
abbrev qM_nightEnds : MD := (yX12_nightEnds, cX12_nightEnds, 2, none)
theorem mk_M_nightEnds : MOk qM_nightEnds 1 := ⟨List.mem_of_getElem? (i := 1758) (by decide +kernel), List.mem_of_getElem? (i := 106) (by decide +kernel), by decide, ⟨by decide, by decide⟩, by decide +kernel, by decide⟩
theorem mv_M_nightEnds : MV qM_nightEnds := ⟨List.mem_of_getElem? (i := 1757) (by decide +kernel), List.mem_of_getElem? (i := 69) (by decide +kernel)⟩
abbrev qM_does : MD := (yX12_does, cX12_does, 3, (some .boolean))
theorem mk_M_does : MOk qM_does 2 := ⟨List.mem_of_getElem? (i := 1732) (by decide +kernel), List.mem_of_getElem? (i := 106) (by decide +kernel), by decide, ⟨by decide, by decide⟩, by decide +kernel, by decide⟩
theorem mv_M_does : MV qM_does := ⟨List.mem_of_getElem? (i := 1731) (by decide +kernel), List.mem_of_getElem? (i := 64) (by decide +kernel)⟩
abbrev qM_goes : MD := (yX12_goes, cX12_goes, 5, none)
theorem mk_M_goes : MOk qM_goes 2 := ⟨List.mem_of_getElem? (i := 1728) (by decide +kernel), List.mem_of_getElem? (i := 106) (by decide +kernel), by decide, ⟨by decide, by decide⟩, by decide +kernel, by decide⟩
theorem mv_M_goes : MV qM_goes := ⟨List.mem_of_getElem? (i := 1727) (by decide +kernel), List.mem_of_getElem? (i := 63) (by decide +kernel)⟩
abbrev qM_work : MD := (yX12_work, cX12_work, 2, (some .int))
theorem mk_M_work : MOk qM_work 1 := ⟨List.mem_of_getElem? (i := 1713) (by decide +kernel), List.mem_of_getElem? (i := 106) (by decide +kernel), by decide, ⟨by decide, by decide⟩, by decide +kernel, by decide⟩
theorem mv_M_work : MV qM_work := ⟨List.mem_of_getElem? (i := 1711) (by decide +kernel), List.mem_of_getElem? (i := 1712) (by decide +kernel)⟩
abbrev qM_undo : MD := (yX12_undo, cX12_undo, 1, (some .int))
theorem mk_M_undo : MOk qM_undo 0 := ⟨List.mem_of_getElem? (i := 1762) (by decide +kernel), List.mem_of_getElem? (i := 106) (by decide +kernel), by decide, ⟨by decide, by decide⟩, by decide +kernel, by decide⟩
theorem mv_M_undo : MV qM_undo := ⟨List.mem_of_getElem? (i := 1760) (by decide +kernel), List.mem_of_getElem? (i := 1761) (by decide +kernel)⟩
abbrev qM_forceBy : MD := (yX12_forceBy, cX12_forceBy, 9, (some .int))
theorem mk_M_forceBy : MOk qM_forceBy 8 := ⟨List.mem_of_getElem? (i := 1782) (by decide +kernel), List.mem_of_getElem? (i := 106) (by decide +kernel), by decide, ⟨by decide, by decide⟩, by decide +kernel, by decide⟩
theorem mv_M_forceBy : MV qM_forceBy := ⟨List.mem_of_getElem? (i := 1781) (by decide +kernel), List.mem_of_getElem? (i := 73) (by decide +kernel)⟩
abbrev qM_forceOf : MD := (yX12_forceOf, cX12_forceOf, 6, (some .int))
theorem mk_M_forceOf : MOk qM_forceOf 1 := ⟨List.mem_of_getElem? (i := 1778) (by decide +kernel), List.mem_of_getElem? (i := 106) (by decide +kernel), by decide, ⟨by decide, by decide⟩, by decide +kernel, by decide⟩
theorem mv_M_forceOf : MV qM_forceOf := ⟨List.mem_of_getElem? (i := 1777) (by decide +kernel), List.mem_of_getElem? (i := 72) (by decide +kernel)⟩
abbrev qM_ruling : MD := (yX12_ruling, cX12_ruling, 6, (some .int))
theorem mk_M_ruling : MOk qM_ruling 1 := ⟨List.mem_of_getElem? (i := 1774) (by decide +kernel), List.mem_of_getElem? (i := 106) (by decide +kernel), by decide, ⟨by decide, by decide⟩, by decide +kernel, by decide⟩
theorem mv_M_ruling : MV qM_ruling := ⟨List.mem_of_getElem? (i := 1773) (by decide +kernel), List.mem_of_getElem? (i := 71) (by decide +kernel)⟩
abbrev qM_lettersFrom : MD := (yX12_lettersFrom, cX12_lettersFrom, 4, (some .int))
theorem mk_M_lettersFrom : MOk qM_lettersFrom 1 := ⟨List.mem_of_getElem? (i := 1770) (by decide +kernel), List.mem_of_getElem? (i := 106) (by decide +kernel), by decide, ⟨by decide, by decide⟩, by decide +kernel, by decide⟩
theorem mv_M_lettersFrom : MV qM_lettersFrom := ⟨List.mem_of_getElem? (i := 1769) (by decide +kernel), List.mem_of_getElem? (i := 70) (by decide +kernel)⟩
abbrev qM_told : MD := (yX12_told, cX12_told, 4, (some .int))
theorem mk_M_told : MOk qM_told 1 := ⟨List.mem_of_getElem? (i := 1766) (by decide +kernel), List.mem_of_getElem? (i := 106) (by decide +kernel), by decide, ⟨by decide, by decide⟩, by decide +kernel, by decide⟩
theorem mv_M_told : MV qM_told := ⟨List.mem_of_getElem? (i := 1764) (by decide +kernel), List.mem_of_getElem? (i := 1765) (by decide +kernel)⟩
abbrev qM_isRow : MD := (yX12_isRow, cX12_isRow, 2, (some .boolean))
theorem mk_M_isRow : MOk qM_isRow 1 := ⟨List.mem_of_getElem? (i := 1803) (by decide +kernel), List.mem_of_getElem? (i := 106) (by decide +kernel), by decide, ⟨by decide, by decide⟩, by decide +kernel, by decide⟩
theorem mv_M_isRow : MV qM_isRow := ⟨List.mem_of_getElem? (i := 1802) (by decide +kernel), List.mem_of_getElem? (i := 75) (by decide +kernel)⟩
abbrev qM_isBid : MD := (yX12_isBid, cX12_isBid, 2, (some .boolean))
theorem mk_M_isBid : MOk qM_isBid 1 := ⟨List.mem_of_getElem? (i := 1815) (by decide +kernel), List.mem_of_getElem? (i := 106) (by decide +kernel), by decide, ⟨by decide, by decide⟩, by decide +kernel, by decide⟩
theorem mv_M_isBid : MV qM_isBid := ⟨List.mem_of_getElem? (i := 1814) (by decide +kernel), List.mem_of_getElem? (i := 77) (by decide +kernel)⟩
abbrev qM_isWriter : MD := (yX12_isWriter, cX12_isWriter, 2, (some .boolean))
theorem mk_M_isWriter : MOk qM_isWriter 1 := ⟨List.mem_of_getElem? (i := 1823) (by decide +kernel), List.mem_of_getElem? (i := 106) (by decide +kernel), by decide, ⟨by decide, by decide⟩, by decide +kernel, by decide⟩
theorem mv_M_isWriter : MV qM_isWriter := ⟨List.mem_of_getElem? (i := 1822) (by decide +kernel), List.mem_of_getElem? (i := 78) (by decide +kernel)⟩
abbrev qM_areBids : MD := (yX12_areBids, cX12_areBids, 2, (some .boolean))
theorem mk_M_areBids : MOk qM_areBids 1 := ⟨List.mem_of_getElem? (i := 1858) (by decide +kernel), List.mem_of_getElem? (i := 106) (by decide +kernel), by decide, ⟨by decide, by decide⟩, by decide +kernel, by decide⟩
theorem mv_M_areBids : MV qM_areBids := ⟨List.mem_of_getElem? (i := 1857) (by decide +kernel), List.mem_of_getElem? (i := 79) (by decide +kernel)⟩
abbrev qM_isAct : MD := (yX12_isAct, cX12_isAct, 1, (some .boolean))
theorem mk_M_isAct : MOk qM_isAct 1 := ⟨List.mem_of_getElem? (i := 1834) (by decide +kernel), List.mem_of_getElem? (i := 106) (by decide +kernel), by decide, ⟨by decide, by decide⟩, by decide +kernel, by decide⟩
theorem mv_M_isAct : MS qM_isAct := List.mem_of_getElem? (i := 1833) (by decide +kernel)
abbrev qM_linesWith : MD := (yX12_linesWith, cX12_linesWith, 5, (some .int))
theorem mk_M_linesWith : MOk qM_linesWith 2 := ⟨List.mem_of_getElem? (i := 1807) (by decide +kernel), List.mem_of_getElem? (i := 106) (by decide +kernel), by decide, ⟨by decide, by decide⟩, by decide +kernel, by decide⟩
theorem mv_M_linesWith : MV qM_linesWith := ⟨List.mem_of_getElem? (i := 1806) (by decide +kernel), List.mem_of_getElem? (i := 76) (by decide +kernel)⟩
abbrev qM_row : MD := (yX12_row, cX12_row, 5, (some .int))
theorem mk_M_row : MOk qM_row 2 := ⟨List.mem_of_getElem? (i := 1799) (by decide +kernel), List.mem_of_getElem? (i := 106) (by decide +kernel), by decide, ⟨by decide, by decide⟩, by decide +kernel, by decide⟩
theorem mv_M_row : MV qM_row := ⟨List.mem_of_getElem? (i := 1797) (by decide +kernel), List.mem_of_getElem? (i := 1798) (by decide +kernel)⟩
abbrev qM_bid : MD := (yX12_bid, cX12_bid, 5, (some .int))
theorem mk_M_bid : MOk qM_bid 2 := ⟨List.mem_of_getElem? (i := 1811) (by decide +kernel), List.mem_of_getElem? (i := 106) (by decide +kernel), by decide, ⟨by decide, by decide⟩, by decide +kernel, by decide⟩
theorem mv_M_bid : MV qM_bid := ⟨List.mem_of_getElem? (i := 1809) (by decide +kernel), List.mem_of_getElem? (i := 1810) (by decide +kernel)⟩
abbrev qM_writer : MD := (yX12_writer, cX12_writer, 3, (some .int))
theorem mk_M_writer : MOk qM_writer 2 := ⟨List.mem_of_getElem? (i := 1819) (by decide +kernel), List.mem_of_getElem? (i := 106) (by decide +kernel), by decide, ⟨by decide, by decide⟩, by decide +kernel, by decide⟩
theorem mv_M_writer : MV qM_writer := ⟨List.mem_of_getElem? (i := 1817) (by decide +kernel), List.mem_of_getElem? (i := 1818) (by decide +kernel)⟩
abbrev qM_line : MD := (yX12_line, cX12_line, 3, (some .int))
theorem mk_M_line : MOk qM_line 2 := ⟨List.mem_of_getElem? (i := 1827) (by decide +kernel), List.mem_of_getElem? (i := 106) (by decide +kernel), by decide, ⟨by decide, by decide⟩, by decide +kernel, by decide⟩
theorem mv_M_line : MV qM_line := ⟨List.mem_of_getElem? (i := 1825) (by decide +kernel), List.mem_of_getElem? (i := 1826) (by decide +kernel)⟩
abbrev qM_kin : MD := (yX12_kin, cX12_kin, 2, (some .int))
theorem mk_M_kin : MOk qM_kin 1 := ⟨List.mem_of_getElem? (i := 1831) (by decide +kernel), List.mem_of_getElem? (i := 106) (by decide +kernel), by decide, ⟨by decide, by decide⟩, by decide +kernel, by decide⟩
theorem mv_M_kin : MV qM_kin := ⟨List.mem_of_getElem? (i := 1829) (by decide +kernel), List.mem_of_getElem? (i := 1830) (by decide +kernel)⟩
abbrev qM_would : MD := (yX12_would, cX12_would, 9, (some .int))
theorem mk_M_would : MOk qM_would 8 := ⟨List.mem_of_getElem? (i := 1838) (by decide +kernel), List.mem_of_getElem? (i := 106) (by decide +kernel), by decide, ⟨by decide, by decide⟩, by decide +kernel, by decide⟩
theorem mv_M_would : MV qM_would := ⟨List.mem_of_getElem? (i := 1836) (by decide +kernel), List.mem_of_getElem? (i := 1837) (by decide +kernel)⟩
abbrev qM_force : MD := (yX12_force, cX12_force, 4, (some .int))
theorem mk_M_force : MOk qM_force 2 := ⟨List.mem_of_getElem? (i := 1842) (by decide +kernel), List.mem_of_getElem? (i := 106) (by decide +kernel), by decide, ⟨by decide, by decide⟩, by decide +kernel, by decide⟩
theorem mv_M_force : MV qM_force := ⟨List.mem_of_getElem? (i := 1840) (by decide +kernel), List.mem_of_getElem? (i := 1841) (by decide +kernel)⟩
abbrev qM_torn : MD := (yX12_torn, cX12_torn, 3, (some .int))
theorem mk_M_torn : MOk qM_torn 0 := ⟨List.mem_of_getElem? (i := 1846) (by decide +kernel), List.mem_of_getElem? (i := 106) (by decide +kernel), by decide, ⟨by decide, by decide⟩, by decide +kernel, by decide⟩
theorem mv_M_torn : MV qM_torn := ⟨List.mem_of_getElem? (i := 1844) (by decide +kernel), List.mem_of_getElem? (i := 1845) (by decide +kernel)⟩
abbrev qM_can : MD := (yX12_can, cX12_can, 4, (some .boolean))
theorem mk_M_can : MOk qM_can 3 := ⟨List.mem_of_getElem? (i := 1850) (by decide +kernel), List.mem_of_getElem? (i := 106) (by decide +kernel), by decide, ⟨by decide, by decide⟩, by decide +kernel, by decide⟩
theorem mv_M_can : MV qM_can := ⟨List.mem_of_getElem? (i := 1848) (by decide +kernel), List.mem_of_getElem? (i := 1849) (by decide +kernel)⟩
abbrev qM_ones : MD := (yX12_ones, cX12_ones, 3, (some .int))
theorem mk_M_ones : MOk qM_ones 1 := ⟨List.mem_of_getElem? (i := 1865) (by decide +kernel), List.mem_of_getElem? (i := 106) (by decide +kernel), by decide, ⟨by decide, by decide⟩, by decide +kernel, by decide⟩
theorem mv_M_ones : MS qM_ones := List.mem_of_getElem? (i := 1864) (by decide +kernel)
abbrev qM_knownBy : MD := (yX12_knownBy, cX12_knownBy, 4, (some .int))
theorem mk_M_knownBy : MOk qM_knownBy 1 := ⟨List.mem_of_getElem? (i := 1862) (by decide +kernel), List.mem_of_getElem? (i := 106) (by decide +kernel), by decide, ⟨by decide, by decide⟩, by decide +kernel, by decide⟩
theorem mv_M_knownBy : MV qM_knownBy := ⟨List.mem_of_getElem? (i := 1861) (by decide +kernel), List.mem_of_getElem? (i := 80) (by decide +kernel)⟩
abbrev qM_send : MD := (yX12_send, cX12_send, 4, (some .int))
theorem mk_M_send : MOk qM_send 1 := ⟨List.mem_of_getElem? (i := 1854) (by decide +kernel), List.mem_of_getElem? (i := 106) (by decide +kernel), by decide, ⟨by decide, by decide⟩, by decide +kernel, by decide⟩
theorem mv_M_send : MV qM_send := ⟨List.mem_of_getElem? (i := 1852) (by decide +kernel), List.mem_of_getElem? (i := 1853) (by decide +kernel)⟩
abbrev qM_lost : MD := (yX12_lost, cX12_lost, 4, (some .int))
theorem mk_M_lost : MOk qM_lost 1 := ⟨List.mem_of_getElem? (i := 1869) (by decide +kernel), List.mem_of_getElem? (i := 106) (by decide +kernel), by decide, ⟨by decide, by decide⟩, by decide +kernel, by decide⟩
theorem mv_M_lost : MV qM_lost := ⟨List.mem_of_getElem? (i := 1867) (by decide +kernel), List.mem_of_getElem? (i := 1868) (by decide +kernel)⟩
abbrev qM_path : MD := (yX12_path, cX12_path, 5, (some .int))
theorem mk_M_path : MOk qM_path 2 := ⟨List.mem_of_getElem? (i := 1873) (by decide +kernel), List.mem_of_getElem? (i := 106) (by decide +kernel), by decide, ⟨by decide, by decide⟩, by decide +kernel, by decide⟩
theorem mv_M_path : MV qM_path := ⟨List.mem_of_getElem? (i := 1871) (by decide +kernel), List.mem_of_getElem? (i := 1872) (by decide +kernel)⟩
abbrev qM_comes : MD := (yX12_comes, cX12_comes, 4, (some .int))
theorem mk_M_comes : MOk qM_comes 1 := ⟨List.mem_of_getElem? (i := 1877) (by decide +kernel), List.mem_of_getElem? (i := 106) (by decide +kernel), by decide, ⟨by decide, by decide⟩, by decide +kernel, by decide⟩
theorem mv_M_comes : MV qM_comes := ⟨List.mem_of_getElem? (i := 1875) (by decide +kernel), List.mem_of_getElem? (i := 1876) (by decide +kernel)⟩
abbrev qM_writesFrom : MD := (yX12_writesFrom, cX12_writesFrom, 5, none)
theorem mk_M_writesFrom : MOk qM_writesFrom 3 := ⟨List.mem_of_getElem? (i := 1889) (by decide +kernel), List.mem_of_getElem? (i := 106) (by decide +kernel), by decide, ⟨by decide, by decide⟩, by decide +kernel, by decide⟩
theorem mv_M_writesFrom : MV qM_writesFrom := ⟨List.mem_of_getElem? (i := 1888) (by decide +kernel), List.mem_of_getElem? (i := 82) (by decide +kernel)⟩
abbrev qM_laysFits : MD := (yX12_laysFits, cX12_laysFits, 3, none)
theorem mk_M_laysFits : MOk qM_laysFits 1 := ⟨List.mem_of_getElem? (i := 1885) (by decide +kernel), List.mem_of_getElem? (i := 106) (by decide +kernel), by decide, ⟨by decide, by decide⟩, by decide +kernel, by decide⟩
theorem mv_M_laysFits : MV qM_laysFits := ⟨List.mem_of_getElem? (i := 1884) (by decide +kernel), List.mem_of_getElem? (i := 81) (by decide +kernel)⟩
abbrev qM_fits : MD := (yX12_fits, cX12_fits, 2, (some .int))
theorem mk_M_fits : MOk qM_fits 1 := ⟨List.mem_of_getElem? (i := 1881) (by decide +kernel), List.mem_of_getElem? (i := 106) (by decide +kernel), by decide, ⟨by decide, by decide⟩, by decide +kernel, by decide⟩
theorem mv_M_fits : MV qM_fits := ⟨List.mem_of_getElem? (i := 1879) (by decide +kernel), List.mem_of_getElem? (i := 1880) (by decide +kernel)⟩
abbrev qM_fitted : MD := (yX12_fitted, cX12_fitted, 3, (some .int))
theorem mk_M_fitted : MOk qM_fitted 2 := ⟨List.mem_of_getElem? (i := 1893) (by decide +kernel), List.mem_of_getElem? (i := 106) (by decide +kernel), by decide, ⟨by decide, by decide⟩, by decide +kernel, by decide⟩
theorem mv_M_fitted : MV qM_fitted := ⟨List.mem_of_getElem? (i := 1891) (by decide +kernel), List.mem_of_getElem? (i := 1892) (by decide +kernel)⟩
abbrev qM_actsOf : MD := (yX12_actsOf, cX12_actsOf, 4, (some .int))
theorem mk_M_actsOf : MOk qM_actsOf 1 := ⟨List.mem_of_getElem? (i := 1905) (by decide +kernel), List.mem_of_getElem? (i := 106) (by decide +kernel), by decide, ⟨by decide, by decide⟩, by decide +kernel, by decide⟩
theorem mv_M_actsOf : MV qM_actsOf := ⟨List.mem_of_getElem? (i := 1904) (by decide +kernel), List.mem_of_getElem? (i := 84) (by decide +kernel)⟩
abbrev qM_isRight : MD := (yX12_isRight, cX12_isRight, 4, (some .boolean))
theorem mk_M_isRight : MOk qM_isRight 1 := ⟨List.mem_of_getElem? (i := 1901) (by decide +kernel), List.mem_of_getElem? (i := 106) (by decide +kernel), by decide, ⟨by decide, by decide⟩, by decide +kernel, by decide⟩
theorem mv_M_isRight : MV qM_isRight := ⟨List.mem_of_getElem? (i := 1900) (by decide +kernel), List.mem_of_getElem? (i := 83) (by decide +kernel)⟩
abbrev qM_stood : MD := (yX12_stood, cX12_stood, 6, (some .int))
theorem mk_M_stood : MOk qM_stood 1 := ⟨List.mem_of_getElem? (i := 1897) (by decide +kernel), List.mem_of_getElem? (i := 106) (by decide +kernel), by decide, ⟨by decide, by decide⟩, by decide +kernel, by decide⟩
theorem mv_M_stood : MV qM_stood := ⟨List.mem_of_getElem? (i := 1895) (by decide +kernel), List.mem_of_getElem? (i := 1896) (by decide +kernel)⟩
abbrev qM_isTold : MD := (yX12_isTold, cX12_isTold, 3, (some .boolean))
theorem mk_M_isTold : MOk qM_isTold 1 := ⟨List.mem_of_getElem? (i := 1913) (by decide +kernel), List.mem_of_getElem? (i := 106) (by decide +kernel), by decide, ⟨by decide, by decide⟩, by decide +kernel, by decide⟩
theorem mv_M_isTold : MV qM_isTold := ⟨List.mem_of_getElem? (i := 1912) (by decide +kernel), List.mem_of_getElem? (i := 85) (by decide +kernel)⟩
abbrev qM_ask : MD := (yX12_ask, cX12_ask, 8, (some .int))
theorem mk_M_ask : MOk qM_ask 1 := ⟨List.mem_of_getElem? (i := 1909) (by decide +kernel), List.mem_of_getElem? (i := 106) (by decide +kernel), by decide, ⟨by decide, by decide⟩, by decide +kernel, by decide⟩
theorem mv_M_ask : MV qM_ask := ⟨List.mem_of_getElem? (i := 1907) (by decide +kernel), List.mem_of_getElem? (i := 1908) (by decide +kernel)⟩
abbrev qM_still : MD := (yX12_still, cX12_still, 14, (some .long))
theorem mk_M_still : MOk qM_still 5 := ⟨List.mem_of_getElem? (i := 1917) (by decide +kernel), List.mem_of_getElem? (i := 106) (by decide +kernel), by decide, ⟨by decide, by decide⟩, by decide +kernel, by decide⟩
theorem mv_M_still : MV qM_still := ⟨List.mem_of_getElem? (i := 1915) (by decide +kernel), List.mem_of_getElem? (i := 1916) (by decide +kernel)⟩
abbrev qM_hasBy : MD := (yX12_hasBy, cX12_hasBy, 5, (some .int))
theorem mk_M_hasBy : MOk qM_hasBy 4 := ⟨List.mem_of_getElem? (i := 1929) (by decide +kernel), List.mem_of_getElem? (i := 106) (by decide +kernel), by decide, ⟨by decide, by decide⟩, by decide +kernel, by decide⟩
theorem mv_M_hasBy : MV qM_hasBy := ⟨List.mem_of_getElem? (i := 1928) (by decide +kernel), List.mem_of_getElem? (i := 87) (by decide +kernel)⟩
abbrev qM_isBest : MD := (yX12_isBest, cX12_isBest, 6, (some .boolean))
theorem mk_M_isBest : MOk qM_isBest 4 := ⟨List.mem_of_getElem? (i := 1925) (by decide +kernel), List.mem_of_getElem? (i := 106) (by decide +kernel), by decide, ⟨by decide, by decide⟩, by decide +kernel, by decide⟩
theorem mv_M_isBest : MV qM_isBest := ⟨List.mem_of_getElem? (i := 1924) (by decide +kernel), List.mem_of_getElem? (i := 86) (by decide +kernel)⟩
abbrev qM_crews : MD := (yX12_crews, cX12_crews, 9, (some .int))
theorem mk_M_crews : MOk qM_crews 3 := ⟨List.mem_of_getElem? (i := 1921) (by decide +kernel), List.mem_of_getElem? (i := 106) (by decide +kernel), by decide, ⟨by decide, by decide⟩, by decide +kernel, by decide⟩
theorem mv_M_crews : MV qM_crews := ⟨List.mem_of_getElem? (i := 1919) (by decide +kernel), List.mem_of_getElem? (i := 1920) (by decide +kernel)⟩
abbrev qM_givenBy : MD := (yX12_givenBy, cX12_givenBy, 5, (some .int))
theorem mk_M_givenBy : MOk qM_givenBy 2 := ⟨List.mem_of_getElem? (i := 1937) (by decide +kernel), List.mem_of_getElem? (i := 106) (by decide +kernel), by decide, ⟨by decide, by decide⟩, by decide +kernel, by decide⟩
theorem mv_M_givenBy : MV qM_givenBy := ⟨List.mem_of_getElem? (i := 1936) (by decide +kernel), List.mem_of_getElem? (i := 88) (by decide +kernel)⟩
abbrev qM_share : MD := (yX12_share, cX12_share, 5, (some .int))
theorem mk_M_share : MOk qM_share 3 := ⟨List.mem_of_getElem? (i := 1933) (by decide +kernel), List.mem_of_getElem? (i := 106) (by decide +kernel), by decide, ⟨by decide, by decide⟩, by decide +kernel, by decide⟩
theorem mv_M_share : MV qM_share := ⟨List.mem_of_getElem? (i := 1931) (by decide +kernel), List.mem_of_getElem? (i := 1932) (by decide +kernel)⟩
abbrev qM_above : MD := (yX12_above, cX12_above, 2, (some .int))
theorem mk_M_above : MOk qM_above 1 := ⟨List.mem_of_getElem? (i := 1941) (by decide +kernel), List.mem_of_getElem? (i := 106) (by decide +kernel), by decide, ⟨by decide, by decide⟩, by decide +kernel, by decide⟩
theorem mv_M_above : MV qM_above := ⟨List.mem_of_getElem? (i := 1939) (by decide +kernel), List.mem_of_getElem? (i := 1940) (by decide +kernel)⟩
abbrev qM_mightiest : MD := (yX12_mightiest, cX12_mightiest, 6, (some .int))
theorem mk_M_mightiest : MOk qM_mightiest 1 := ⟨List.mem_of_getElem? (i := 1945) (by decide +kernel), List.mem_of_getElem? (i := 106) (by decide +kernel), by decide, ⟨by decide, by decide⟩, by decide +kernel, by decide⟩
theorem mv_M_mightiest : MV qM_mightiest := ⟨List.mem_of_getElem? (i := 1943) (by decide +kernel), List.mem_of_getElem? (i := 1944) (by decide +kernel)⟩
abbrev qM_idle : MD := (yX12_idle, cX12_idle, 5, (some .int))
theorem mk_M_idle : MOk qM_idle 0 := ⟨List.mem_of_getElem? (i := 1949) (by decide +kernel), List.mem_of_getElem? (i := 106) (by decide +kernel), by decide, ⟨by decide, by decide⟩, by decide +kernel, by decide⟩
theorem mv_M_idle : MV qM_idle := ⟨List.mem_of_getElem? (i := 1947) (by decide +kernel), List.mem_of_getElem? (i := 1948) (by decide +kernel)⟩
abbrev qM_ends : MD := (yX12_ends, cX12_ends, 6, (some .int))
theorem mk_M_ends : MOk qM_ends 2 := ⟨List.mem_of_getElem? (i := 1953) (by decide +kernel), List.mem_of_getElem? (i := 106) (by decide +kernel), by decide, ⟨by decide, by decide⟩, by decide +kernel, by decide⟩
theorem mv_M_ends : MV qM_ends := ⟨List.mem_of_getElem? (i := 1951) (by decide +kernel), List.mem_of_getElem? (i := 1952) (by decide +kernel)⟩
abbrev qM_loud : MD := (yX12_loud, cX12_loud, 4, (some .int))
theorem mk_M_loud : MOk qM_loud 1 := ⟨List.mem_of_getElem? (i := 1957) (by decide +kernel), List.mem_of_getElem? (i := 106) (by decide +kernel), by decide, ⟨by decide, by decide⟩, by decide +kernel, by decide⟩
theorem mv_M_loud : MV qM_loud := ⟨List.mem_of_getElem? (i := 1955) (by decide +kernel), List.mem_of_getElem? (i := 1956) (by decide +kernel)⟩
abbrev qM_missing : MD := (yX12_missing, cX12_missing, 4, (some .int))
theorem mk_M_missing : MOk qM_missing 0 := ⟨List.mem_of_getElem? (i := 1961) (by decide +kernel), List.mem_of_getElem? (i := 106) (by decide +kernel), by decide, ⟨by decide, by decide⟩, by decide +kernel, by decide⟩
theorem mv_M_missing : MV qM_missing := ⟨List.mem_of_getElem? (i := 1959) (by decide +kernel), List.mem_of_getElem? (i := 1960) (by decide +kernel)⟩
abbrev qM_draw : MD := (yX12_draw, cX12_draw, 2, (some .int))
theorem mk_M_draw : MOk qM_draw 1 := ⟨List.mem_of_getElem? (i := 1976) (by decide +kernel), List.mem_of_getElem? (i := 106) (by decide +kernel), by decide, ⟨by decide, by decide⟩, by decide +kernel, by decide⟩
theorem mv_M_draw : MV qM_draw := ⟨List.mem_of_getElem? (i := 1975) (by decide +kernel), List.mem_of_getElem? (i := 90) (by decide +kernel)⟩
abbrev qM_yearsBy : MD := (yX12_yearsBy, cX12_yearsBy, 9, none)
theorem mk_M_yearsBy : MOk qM_yearsBy 4 := ⟨List.mem_of_getElem? (i := 1972) (by decide +kernel), List.mem_of_getElem? (i := 106) (by decide +kernel), by decide, ⟨by decide, by decide⟩, by decide +kernel, by decide⟩
theorem mv_M_yearsBy : MV qM_yearsBy := ⟨List.mem_of_getElem? (i := 1971) (by decide +kernel), List.mem_of_getElem? (i := 89) (by decide +kernel)⟩
abbrev qM_areYears : MD := (yX12_areYears, cX12_areYears, 3, (some .boolean))
theorem mk_M_areYears : MOk qM_areYears 3 := ⟨List.mem_of_getElem? (i := 1968) (by decide +kernel), List.mem_of_getElem? (i := 106) (by decide +kernel), by decide, ⟨by decide, by decide⟩, by decide +kernel, by decide⟩
theorem mv_M_areYears : MS qM_areYears := List.mem_of_getElem? (i := 1967) (by decide +kernel)
abbrev qM_keptIn : MD := (yX12_keptIn, cX12_keptIn, 4, (some .int))
theorem mk_M_keptIn : MOk qM_keptIn 1 := ⟨List.mem_of_getElem? (i := 1981) (by decide +kernel), List.mem_of_getElem? (i := 106) (by decide +kernel), by decide, ⟨by decide, by decide⟩, by decide +kernel, by decide⟩
theorem mv_M_keptIn : MV qM_keptIn := ⟨List.mem_of_getElem? (i := 1980) (by decide +kernel), List.mem_of_getElem? (i := 91) (by decide +kernel)⟩
abbrev qM_years : MD := (yX12_years, cX12_years, 6, (some .int))
theorem mk_M_years : MOk qM_years 5 := ⟨List.mem_of_getElem? (i := 1965) (by decide +kernel), List.mem_of_getElem? (i := 106) (by decide +kernel), by decide, ⟨by decide, by decide⟩, by decide +kernel, by decide⟩
theorem mv_M_years : MV qM_years := ⟨List.mem_of_getElem? (i := 1963) (by decide +kernel), List.mem_of_getElem? (i := 1964) (by decide +kernel)⟩
abbrev qM_span : MD := (yX12_span, cX12_span, 13, (some .int))
theorem mk_M_span : MOk qM_span 7 := ⟨List.mem_of_getElem? (i := 1985) (by decide +kernel), List.mem_of_getElem? (i := 106) (by decide +kernel), by decide, ⟨by decide, by decide⟩, by decide +kernel, by decide⟩
theorem mv_M_span : MV qM_span := ⟨List.mem_of_getElem? (i := 1983) (by decide +kernel), List.mem_of_getElem? (i := 1984) (by decide +kernel)⟩
abbrev qM_puts : MD := (yX12_puts, cX12_puts, 4, (some .int))
theorem mk_M_puts : MOk qM_puts 3 := ⟨List.mem_of_getElem? (i := 1997) (by decide +kernel), List.mem_of_getElem? (i := 106) (by decide +kernel), by decide, ⟨by decide, by decide⟩, by decide +kernel, by decide⟩
theorem mv_M_puts : MV qM_puts := ⟨List.mem_of_getElem? (i := 1996) (by decide +kernel), List.mem_of_getElem? (i := 93) (by decide +kernel)⟩
abbrev qM_putsAll : MD := (yX12_putsAll, cX12_putsAll, 5, none)
theorem mk_M_putsAll : MOk qM_putsAll 2 := ⟨List.mem_of_getElem? (i := 1993) (by decide +kernel), List.mem_of_getElem? (i := 106) (by decide +kernel), by decide, ⟨by decide, by decide⟩, by decide +kernel, by decide⟩
theorem mv_M_putsAll : MV qM_putsAll := ⟨List.mem_of_getElem? (i := 1992) (by decide +kernel), List.mem_of_getElem? (i := 92) (by decide +kernel)⟩
abbrev qM_image : MD := (yX12_image, cX12_image, 1, (some .int))
theorem mk_M_image : MOk qM_image 0 := ⟨List.mem_of_getElem? (i := 1989) (by decide +kernel), List.mem_of_getElem? (i := 106) (by decide +kernel), by decide, ⟨by decide, by decide⟩, by decide +kernel, by decide⟩
theorem mv_M_image : MV qM_image := ⟨List.mem_of_getElem? (i := 1987) (by decide +kernel), List.mem_of_getElem? (i := 1988) (by decide +kernel)⟩
abbrev qM_restore : MD := (yX12_restore, cX12_restore, 1, (some .int))
theorem mk_M_restore : MOk qM_restore 0 := ⟨List.mem_of_getElem? (i := 2001) (by decide +kernel), List.mem_of_getElem? (i := 106) (by decide +kernel), by decide, ⟨by decide, by decide⟩, by decide +kernel, by decide⟩
theorem mv_M_restore : MV qM_restore := ⟨List.mem_of_getElem? (i := 1999) (by decide +kernel), List.mem_of_getElem? (i := 2000) (by decide +kernel)⟩
abbrev qM_status : MD := (yX12_status, cX12_status, 2, (some .int))
theorem mk_M_status : MOk qM_status 1 := ⟨List.mem_of_getElem? (i := 2005) (by decide +kernel), List.mem_of_getElem? (i := 106) (by decide +kernel), by decide, ⟨by decide, by decide⟩, by decide +kernel, by decide⟩
theorem mv_M_status : MV qM_status := ⟨List.mem_of_getElem? (i := 2003) (by decide +kernel), List.mem_of_getElem? (i := 2004) (by decide +kernel)⟩
abbrev qM_count : MD := (yX12_count, cX12_count, 2, (some .int))
theorem mk_M_count : MOk qM_count 1 := ⟨List.mem_of_getElem? (i := 2009) (by decide +kernel), List.mem_of_getElem? (i := 106) (by decide +kernel), by decide, ⟨by decide, by decide⟩, by decide +kernel, by decide⟩
theorem mv_M_count : MV qM_count := ⟨List.mem_of_getElem? (i := 2007) (by decide +kernel), List.mem_of_getElem? (i := 2008) (by decide +kernel)⟩
abbrev qL_port : MD := (yL_port, cL_port, 4, (some .int))
theorem mv_L_port : MS qL_port := List.mem_of_getElem? (i := 639) (by decide +kernel)
abbrev qL_law : MD := (yL_law, cL_law, 4, (some .int))
theorem mv_L_law : MS qL_law := List.mem_of_getElem? (i := 871) (by decide +kernel)
abbrev qL_work : MD := (yL_work, cL_work, 4, (some .int))
theorem mv_L_work : MS qL_work := List.mem_of_getElem? (i := 926) (by decide +kernel)
abbrev qL_deeds : MD := (yL_deeds, cL_deeds, 4, (some .int))
theorem mv_L_deeds : MS qL_deeds := List.mem_of_getElem? (i := 1002) (by decide +kernel)
abbrev qL_told : MD := (yL_told, cL_told, 4, (some .int))
theorem mv_L_told : MS qL_told := List.mem_of_getElem? (i := 1035) (by decide +kernel)
abbrev qL_row : MD := (yL_row, cL_row, 5, (some .int))
theorem mv_L_row : MS qL_row := List.mem_of_getElem? (i := 1076) (by decide +kernel)
abbrev qL_bid : MD := (yL_bid, cL_bid, 5, (some .int))
theorem mv_L_bid : MS qL_bid := List.mem_of_getElem? (i := 1116) (by decide +kernel)
abbrev qL_writer : MD := (yL_writer, cL_writer, 5, (some .int))
theorem mv_L_writer : MS qL_writer := List.mem_of_getElem? (i := 1132) (by decide +kernel)
abbrev qL_line : MD := (yL_line, cL_line, 5, (some .int))
theorem mv_L_line : MS qL_line := List.mem_of_getElem? (i := 1143) (by decide +kernel)
abbrev qL_kin : MD := (yL_kin, cL_kin, 4, (some .int))
theorem mv_L_kin : MS qL_kin := List.mem_of_getElem? (i := 1150) (by decide +kernel)
abbrev qL_would : MD := (yL_would, cL_would, 11, (some .int))
theorem mv_L_would : MS qL_would := List.mem_of_getElem? (i := 1157) (by decide +kernel)
abbrev qL_force : MD := (yL_force, cL_force, 5, (some .int))
theorem mv_L_force : MS qL_force := List.mem_of_getElem? (i := 1164) (by decide +kernel)
abbrev qL_can : MD := (yL_can, cL_can, 6, (some .int))
theorem mv_L_can : MS qL_can := List.mem_of_getElem? (i := 1171) (by decide +kernel)
abbrev qL_send : MD := (yL_send, cL_send, 4, (some .int))
theorem mv_L_send : MS qL_send := List.mem_of_getElem? (i := 1179) (by decide +kernel)
abbrev qL_lost : MD := (yL_lost, cL_lost, 4, (some .int))
theorem mv_L_lost : MS qL_lost := List.mem_of_getElem? (i := 1194) (by decide +kernel)
abbrev qL_path : MD := (yL_path, cL_path, 5, (some .int))
theorem mv_L_path : MS qL_path := List.mem_of_getElem? (i := 1202) (by decide +kernel)
abbrev qL_comes : MD := (yL_comes, cL_comes, 4, (some .int))
theorem mv_L_comes : MS qL_comes := List.mem_of_getElem? (i := 1209) (by decide +kernel)
abbrev qL_fits : MD := (yL_fits, cL_fits, 4, (some .int))
theorem mv_L_fits : MS qL_fits := List.mem_of_getElem? (i := 1216) (by decide +kernel)
abbrev qL_fitted : MD := (yL_fitted, cL_fitted, 5, (some .int))
theorem mv_L_fitted : MS qL_fitted := List.mem_of_getElem? (i := 1243) (by decide +kernel)
abbrev qL_stood : MD := (yL_stood, cL_stood, 4, (some .int))
theorem mv_L_stood : MS qL_stood := List.mem_of_getElem? (i := 1250) (by decide +kernel)
abbrev qL_ask : MD := (yL_ask, cL_ask, 4, (some .int))
theorem mv_L_ask : MS qL_ask := List.mem_of_getElem? (i := 1269) (by decide +kernel)
abbrev qL_still : MD := (yL_still, cL_still, 8, (some .int))
theorem mv_L_still : MS qL_still := List.mem_of_getElem? (i := 1286) (by decide +kernel)
abbrev qL_crews : MD := (yL_crews, cL_crews, 6, (some .int))
theorem mv_L_crews : MS qL_crews := List.mem_of_getElem? (i := 1299) (by decide +kernel)
abbrev qL_share : MD := (yL_share, cL_share, 6, (some .int))
theorem mv_L_share : MS qL_share := List.mem_of_getElem? (i := 1314) (by decide +kernel)
abbrev qL_above : MD := (yL_above, cL_above, 4, (some .int))
theorem mv_L_above : MS qL_above := List.mem_of_getElem? (i := 1326) (by decide +kernel)
abbrev qL_mightiest : MD := (yL_mightiest, cL_mightiest, 4, (some .int))
theorem mv_L_mightiest : MS qL_mightiest := List.mem_of_getElem? (i := 1333) (by decide +kernel)
abbrev qL_ends : MD := (yL_ends, cL_ends, 5, (some .int))
theorem mv_L_ends : MS qL_ends := List.mem_of_getElem? (i := 1340) (by decide +kernel)
abbrev qL_loud : MD := (yL_loud, cL_loud, 4, (some .int))
theorem mv_L_loud : MS qL_loud := List.mem_of_getElem? (i := 1347) (by decide +kernel)
abbrev qL_years : MD := (yL_years, cL_years, 8, (some .int))
theorem mv_L_years : MS qL_years := List.mem_of_getElem? (i := 1354) (by decide +kernel)
abbrev qL_span : MD := (yL_span, cL_span, 10, (some .int))
theorem mv_L_span : MS qL_span := List.mem_of_getElem? (i := 1386) (by decide +kernel)
theorem lm_RX0_18 : LkM RX0 18 yX10_become := Or.inl (List.mem_of_getElem? (i := 1367) (by decide +kernel))
theorem lm_RX0_46 : LkM RX0 46 yX0_playDawn := Or.inl (List.mem_of_getElem? (i := 1368) (by decide +kernel))
theorem lm_RX0_50 : LkM RX0 50 yX10_turnDay := Or.inl (List.mem_of_getElem? (i := 1380) (by decide +kernel))
theorem lm_RX0_54 : LkM RX0 54 yX10_keptAsTold := Or.inl (List.mem_of_getElem? (i := 1381) (by decide +kernel))
theorem lm_RX0_61 : LkM RX0 61 yX0_draw := Or.inl (List.mem_of_getElem? (i := 1372) (by decide +kernel))
theorem lm_RX0_65 : LkM RX0 65 yX10_write := Or.inl (List.mem_of_getElem? (i := 1377) (by decide +kernel))
theorem lm_RX0_69 : LkM RX0 69 yX10_slip := Or.inl (List.mem_of_getElem? (i := 1378) (by decide +kernel))
theorem lm_RX0_73 : LkM RX0 73 yX10_rain := Or.inl (List.mem_of_getElem? (i := 1379) (by decide +kernel))
theorem lm_RX1_18 : LkM RX1 18 yJ6_bitCount_0f7a4 := Or.inl (List.mem_of_getElem? (i := 1028) (by decide +kernel))
theorem lm_RX1_24 : LkM RX1 24 yX1_clear := Or.inl (List.mem_of_getElem? (i := 1012) (by decide +kernel))
theorem lm_RX1_27 : LkM RX1 27 yX9_hasMore := Or.inl (List.mem_of_getElem? (i := 1013) (by decide +kernel))
theorem lm_RX1_33 : LkM RX1 33 yX9_next := Or.inl (List.mem_of_getElem? (i := 1014) (by decide +kernel))
theorem lm_RX1_37 : LkM RX1 37 yX9_number := Or.inl (List.mem_of_getElem? (i := 1015) (by decide +kernel))
theorem lm_RX1_41 : LkM RX1 41 yX11_hasBit := Or.inr ⟨"ChalkWall", List.mem_of_getElem? (i := 1016) (by decide +kernel)⟩
theorem lm_RX1_45 : LkM RX1 45 yX9_wrong := Or.inl (List.mem_of_getElem? (i := 1017) (by decide +kernel))
theorem lm_RX1_49 : LkM RX1 49 yX1_add := Or.inl (List.mem_of_getElem? (i := 1018) (by decide +kernel))
theorem lm_RX1_53 : LkM RX1 53 yX9_needSign := Or.inl (List.mem_of_getElem? (i := 1023) (by decide +kernel))
theorem lm_RX1_57 : LkM RX1 57 yX9_isFine := Or.inl (List.mem_of_getElem? (i := 1022) (by decide +kernel))
theorem lm_RX2_40 : LkM RX2 40 yJ9_max_7cf53 := Or.inl (List.mem_of_getElem? (i := 1226) (by decide +kernel))
theorem lm_RX2_54 : LkM RX2 54 yX2_place := Or.inl (List.mem_of_getElem? (i := 1228) (by decide +kernel))
theorem lm_RX2_47 : LkM RX2 47 yX11_hasBit := Or.inr ⟨"ChalkWall", List.mem_of_getElem? (i := 1227) (by decide +kernel)⟩
theorem lm_RX2_58 : LkM RX2 58 yX2_roomLeft := Or.inl (List.mem_of_getElem? (i := 1232) (by decide +kernel))
theorem lm_RX2_62 : LkM RX2 62 yJ9_min_7cf53 := Or.inl (List.mem_of_getElem? (i := 1236) (by decide +kernel))
theorem lm_RX4_25 : LkM RX4 25 yX4_actsOfSet := Or.inl (List.mem_of_getElem? (i := 1260) (by decide +kernel))
theorem lm_RX4_37 : LkM RX4 37 yX4_addSet := Or.inl (List.mem_of_getElem? (i := 1264) (by decide +kernel))
theorem lm_RX4_41 : LkM RX4 41 yX11_hasBit := Or.inr ⟨"ChalkWall", List.mem_of_getElem? (i := 1263) (by decide +kernel)⟩
theorem lm_RX4_45 : LkM RX4 45 yJ9_max_7cf53 := Or.inl (List.mem_of_getElem? (i := 1283) (by decide +kernel))
theorem lm_RX4_51 : LkM RX4 51 yX4_leftAtWorst := Or.inl (List.mem_of_getElem? (i := 1279) (by decide +kernel))
theorem lm_RX5_25 : LkM RX5 25 yX5_put := Or.inl (List.mem_of_getElem? (i := 423) (by decide +kernel))
theorem lm_RX5_29 : LkM RX5 29 yX5_readSum := Or.inl (List.mem_of_getElem? (i := 882) (by decide +kernel))
theorem lm_RX5_33 : LkM RX5 33 yX9_hasMore := Or.inl (List.mem_of_getElem? (i := 924) (by decide +kernel))
theorem lm_RX5_39 : LkM RX5 39 yX9_next := Or.inl (List.mem_of_getElem? (i := 894) (by decide +kernel))
theorem lm_RX5_43 : LkM RX5 43 yX9_wrong := Or.inl (List.mem_of_getElem? (i := 922) (by decide +kernel))
theorem lm_RX5_47 : LkM RX5 47 yX5_readProduct := Or.inl (List.mem_of_getElem? (i := 886) (by decide +kernel))
theorem lm_RX5_50 : LkM RX5 50 yX9_takesSign := Or.inl (List.mem_of_getElem? (i := 916) (by decide +kernel))
theorem lm_RX5_54 : LkM RX5 54 yX5_readUnit := Or.inl (List.mem_of_getElem? (i := 890) (by decide +kernel))
theorem lm_RX5_57 : LkM RX5 57 yX5_givenWord := Or.inl (List.mem_of_getElem? (i := 895) (by decide +kernel))
theorem lm_RX5_61 : LkM RX5 61 yX9_comesNumber := Or.inl (List.mem_of_getElem? (i := 907) (by decide +kernel))
theorem lm_RX5_68 : LkM RX5 68 yX5_readOpened := Or.inl (List.mem_of_getElem? (i := 912) (by decide +kernel))
theorem lm_RX5_64 : LkM RX5 64 yX9_number := Or.inl (List.mem_of_getElem? (i := 911) (by decide +kernel))
theorem lm_RX5_74 : LkM RX5 74 yX9_takesWord := Or.inl (List.mem_of_getElem? (i := 899) (by decide +kernel))
theorem lm_RX5_80 : LkM RX5 80 yX9_needSign := Or.inl (List.mem_of_getElem? (i := 923) (by decide +kernel))
theorem lm_RX5_100 : LkM RX5 100 yX5_joined := Or.inl (List.mem_of_getElem? (i := 1068) (by decide +kernel))
theorem lm_RX5_104 : LkM RX5 104 yJ9_min_7cf53 := Or.inl (List.mem_of_getElem? (i := 1071) (by decide +kernel))
theorem lm_RX5_109 : LkM RX5 109 yJ9_max_7cf53 := Or.inl (List.mem_of_getElem? (i := 1072) (by decide +kernel))
theorem lm_RX6_30 : LkM RX6 30 yX6_copied := Or.inl (List.mem_of_getElem? (i := 597) (by decide +kernel))
theorem lm_RX7_28 : LkM RX7 28 yX7_readSteps := Or.inl (List.mem_of_getElem? (i := 936) (by decide +kernel))
theorem lm_RX7_32 : LkM RX7 32 yX9_isFine := Or.inl (List.mem_of_getElem? (i := 940) (by decide +kernel))
theorem lm_RX7_41 : LkM RX7 41 yX9_takesSign := Or.inl (List.mem_of_getElem? (i := 942) (by decide +kernel))
theorem lm_RX7_38 : LkM RX7 38 yX9_hasMore := Or.inl (List.mem_of_getElem? (i := 941) (by decide +kernel))
theorem lm_RX7_45 : LkM RX7 45 yX7_readStep := Or.inl (List.mem_of_getElem? (i := 943) (by decide +kernel))
theorem lm_RX7_48 : LkM RX7 48 yX9_needSign := Or.inl (List.mem_of_getElem? (i := 964) (by decide +kernel))
theorem lm_RX7_52 : LkM RX7 52 yX9_next := Or.inl (List.mem_of_getElem? (i := 947) (by decide +kernel))
theorem lm_RX7_58 : LkM RX7 58 yX9_takesWord := Or.inl (List.mem_of_getElem? (i := 949) (by decide +kernel))
theorem lm_RX7_93 : LkM RX7 93 yX7_readAgain := Or.inl (List.mem_of_getElem? (i := 960) (by decide +kernel))
theorem lm_RX7_89 : LkM RX7 89 yX9_wrong := Or.inl (List.mem_of_getElem? (i := 959) (by decide +kernel))
theorem lm_RX7_77 : LkM RX7 77 yX7_put := Or.inl (List.mem_of_getElem? (i := 951) (by decide +kernel))
theorem lm_RX7_67 : LkM RX7 67 yX9_number := Or.inl (List.mem_of_getElem? (i := 950) (by decide +kernel))
theorem lm_RX7_105 : LkM RX7 105 yX7_doSteps := Or.inl (List.mem_of_getElem? (i := 973) (by decide +kernel))
theorem lm_RX7_109 : LkM RX7 109 yX7_attempt := Or.inl (List.mem_of_getElem? (i := 977) (by decide +kernel))
theorem lm_RX7_113 : LkM RX7 113 yX10_write := Or.inl (List.mem_of_getElem? (i := 981) (by decide +kernel))
theorem lm_RX7_118 : LkM RX7 118 yX10_slip := Or.inl (List.mem_of_getElem? (i := 985) (by decide +kernel))
theorem lm_RX7_121 : LkM RX7 121 yX10_rain := Or.inl (List.mem_of_getElem? (i := 989) (by decide +kernel))
theorem lm_RX7_124 : LkM RX7 124 yX10_night := Or.inl (List.mem_of_getElem? (i := 993) (by decide +kernel))
theorem lm_RX8_33 : LkM RX8 33 yX8_clear := Or.inl (List.mem_of_getElem? (i := 347) (by decide +kernel))
theorem lm_RX8_46 : LkM RX8 46 yX9_hasMore := Or.inl (List.mem_of_getElem? (i := 731) (by decide +kernel))
theorem lm_RX8_52 : LkM RX8 52 yX8_readClause := Or.inl (List.mem_of_getElem? (i := 739) (by decide +kernel))
theorem lm_RX8_56 : LkM RX8 56 yX9_needSign := Or.inl (List.mem_of_getElem? (i := 852) (by decide +kernel))
theorem lm_RX8_60 : LkM RX8 60 yX9_next := Or.inl (List.mem_of_getElem? (i := 743) (by decide +kernel))
theorem lm_RX8_64 : LkM RX8 64 yX8_clauseWord := Or.inl (List.mem_of_getElem? (i := 744) (by decide +kernel))
theorem lm_RX8_72 : LkM RX8 72 yX8_isFull := Or.inl (List.mem_of_getElem? (i := 811) (by decide +kernel))
theorem lm_RX8_80 : LkM RX8 80 yX8_readTold := Or.inl (List.mem_of_getElem? (i := 832) (by decide +kernel))
theorem lm_RX8_76 : LkM RX8 76 yX8_readKin := Or.inl (List.mem_of_getElem? (i := 815) (by decide +kernel))
theorem lm_RX8_68 : LkM RX8 68 yX9_wrong := Or.inl (List.mem_of_getElem? (i := 807) (by decide +kernel))
theorem lm_RX8_85 : LkM RX8 85 yX9_takesWord := Or.inl (List.mem_of_getElem? (i := 748) (by decide +kernel))
theorem lm_RX8_95 : LkM RX8 95 yX9_number := Or.inl (List.mem_of_getElem? (i := 819) (by decide +kernel))
theorem lm_RX8_99 : LkM RX8 99 yX9_isFine := Or.inl (List.mem_of_getElem? (i := 828) (by decide +kernel))
theorem lm_RX8_102 : LkM RX8 102 yX8_addRow := Or.inl (List.mem_of_getElem? (i := 836) (by decide +kernel))
theorem lm_RX8_105 : LkM RX8 105 yX8_addBid := Or.inl (List.mem_of_getElem? (i := 840) (by decide +kernel))
theorem lm_RX8_109 : LkM RX8 109 yX8_addWriter := Or.inl (List.mem_of_getElem? (i := 844) (by decide +kernel))
theorem lm_RX8_112 : LkM RX8 112 yX8_addKnown := Or.inl (List.mem_of_getElem? (i := 848) (by decide +kernel))
theorem lm_RX8_115 : LkM RX8 115 yX11_hasBit := Or.inr ⟨"ChalkWall", List.mem_of_getElem? (i := 1126) (by decide +kernel)⟩
theorem lm_RX8_119 : LkM RX8 119 yJ9_min_7cf53 := Or.inl (List.mem_of_getElem? (i := 1324) (by decide +kernel))
theorem lm_RX9_22 : LkM RX9 22 yJ9_min_7cf53 := Or.inl (List.mem_of_getElem? (i := 724) (by decide +kernel))
theorem lm_RX9_37 : LkM RX9 37 yX9_next := Or.inl (List.mem_of_getElem? (i := 735) (by decide +kernel))
theorem lm_RX9_41 : LkM RX9 41 yX9_isDigit := Or.inl (List.mem_of_getElem? (i := 823) (by decide +kernel))
theorem lm_RX9_49 : LkM RX9 49 yX9_isSmallLetter := Or.inl (List.mem_of_getElem? (i := 752) (by decide +kernel))
theorem lm_RX10_46 : LkM RX10 46 yX10_whiten := Or.inl (List.mem_of_getElem? (i := 456) (by decide +kernel))
theorem lm_RX10_69 : LkM RX10 69 yX11_hasBit := Or.inr ⟨"ChalkWall", List.mem_of_getElem? (i := 577) (by decide +kernel)⟩
theorem lm_RX10_76 : LkM RX10 76 yX10_roomOn := Or.inl (List.mem_of_getElem? (i := 580) (by decide +kernel))
theorem lm_RX10_83 : LkM RX10 83 yX10_mayWrite := Or.inl (List.mem_of_getElem? (i := 573) (by decide +kernel))
theorem lm_RX10_90 : LkM RX10 90 yX10_turnDay := Or.inl (List.mem_of_getElem? (i := 997) (by decide +kernel))
theorem lm_RX10_93 : LkM RX10 93 yX10_lettersOn := Or.inl (List.mem_of_getElem? (i := 584) (by decide +kernel))
theorem lm_RX10_99 : LkM RX10 99 yX10_timesIn := Or.inl (List.mem_of_getElem? (i := 1061) (by decide +kernel))
theorem lm_RX11_103 : LkM RX11 103 yX9_hasRoom := Or.inl (List.mem_of_getElem? (i := 522) (by decide +kernel))
theorem lm_RX11_107 : LkM RX11 107 yX9_put := Or.inl (List.mem_of_getElem? (i := 526) (by decide +kernel))
theorem lm_RX11_115 : LkM RX11 115 yX11_isWithin := Or.inl (List.mem_of_getElem? (i := 646) (by decide +kernel))
theorem lm_RX11_119 : LkM RX11 119 yX11_mustBe := Or.inl (List.mem_of_getElem? (i := 649) (by decide +kernel))
theorem lm_RX11_123 : LkM RX11 123 yX9_open := Or.inl (List.mem_of_getElem? (i := 720) (by decide +kernel))
theorem lm_RX11_126 : LkM RX11 126 yX8_read := Or.inl (List.mem_of_getElem? (i := 727) (by decide +kernel))
theorem lm_RX11_130 : LkM RX11 130 yX9_isFine := Or.inl (List.mem_of_getElem? (i := 856) (by decide +kernel))
theorem lm_RX11_137 : LkM RX11 137 yX5_becomePlain := Or.inl (List.mem_of_getElem? (i := 861) (by decide +kernel))
theorem lm_RX11_140 : LkM RX11 140 yX1_clear := Or.inl (List.mem_of_getElem? (i := 862) (by decide +kernel))
theorem lm_RX11_143 : LkM RX11 143 yX6_clear := Or.inl (List.mem_of_getElem? (i := 866) (by decide +kernel))
theorem lm_RX11_99 : LkM RX11 99 yX10_begin := Or.inl (List.mem_of_getElem? (i := 452) (by decide +kernel))
theorem lm_RX11_133 : LkM RX11 133 yX9_faultAnswer := Or.inl (List.mem_of_getElem? (i := 857) (by decide +kernel))
theorem lm_RX11_150 : LkM RX11 150 yJ9_min_7cf53 := Or.inl (List.mem_of_getElem? (i := 877) (by decide +kernel))
theorem lm_RX11_156 : LkM RX11 156 yX5_read := Or.inl (List.mem_of_getElem? (i := 878) (by decide +kernel))
theorem lm_RX11_160 : LkM RX11 160 yX7_read := Or.inl (List.mem_of_getElem? (i := 932) (by decide +kernel))
theorem lm_RX11_163 : LkM RX11 163 yX6_keepWork := Or.inl (List.mem_of_getElem? (i := 965) (by decide +kernel))
theorem lm_RX11_167 : LkM RX11 167 yX7_carryOut := Or.inl (List.mem_of_getElem? (i := 969) (by decide +kernel))
theorem lm_RX11_177 : LkM RX11 177 yX1_read := Or.inl (List.mem_of_getElem? (i := 1008) (by decide +kernel))
theorem lm_RX11_178 : LkM RX11 178 yX1_lines := Or.inl (List.mem_of_getElem? (i := 1024) (by decide +kernel))
theorem lm_RX11_184 : LkM RX11 184 yX6_takeBackWork := Or.inl (List.mem_of_getElem? (i := 538) (by decide +kernel))
theorem lm_RX11_199 : LkM RX11 199 yX10_lettersFrom := Or.inl (List.mem_of_getElem? (i := 1041) (by decide +kernel))
theorem lm_RX11_203 : LkM RX11 203 yX11_actsInForce := Or.inl (List.mem_of_getElem? (i := 1045) (by decide +kernel))
theorem lm_RX11_209 : LkM RX11 209 yX11_isBelow := Or.inl (List.mem_of_getElem? (i := 1083) (by decide +kernel))
theorem lm_RX11_213 : LkM RX11 213 yX11_mustExist := Or.inl (List.mem_of_getElem? (i := 1086) (by decide +kernel))
theorem lm_RX11_219 : LkM RX11 219 yX10_roomOn := Or.inl (List.mem_of_getElem? (i := 1106) (by decide +kernel))
theorem lm_RX11_222 : LkM RX11 222 yX10_linesOn := Or.inl (List.mem_of_getElem? (i := 1107) (by decide +kernel))
theorem lm_RX11_226 : LkM RX11 226 yX10_actsOn := Or.inl (List.mem_of_getElem? (i := 1111) (by decide +kernel))
theorem lm_RX11_239 : LkM RX11 239 yX8_whoKnows := Or.inl (List.mem_of_getElem? (i := 1122) (by decide +kernel))
theorem lm_RX11_242 : LkM RX11 242 yX10_linesOfBid := Or.inl (List.mem_of_getElem? (i := 1127) (by decide +kernel))
theorem lm_RX11_255 : LkM RX11 255 yX10_linesBy := Or.inl (List.mem_of_getElem? (i := 1138) (by decide +kernel))
theorem lm_RX11_270 : LkM RX11 270 yX11_forceOf := Or.inl (List.mem_of_getElem? (i := 1053) (by decide +kernel))
theorem lm_RX11_276 : LkM RX11 276 yX5_weigh := Or.inl (List.mem_of_getElem? (i := 1064) (by decide +kernel))
theorem lm_RX11_280 : LkM RX11 280 yX11_lineInForce := Or.inl (List.mem_of_getElem? (i := 1049) (by decide +kernel))
theorem lm_RX11_283 : LkM RX11 283 yX10_actsStanding := Or.inl (List.mem_of_getElem? (i := 553) (by decide +kernel))
theorem lm_RX11_286 : LkM RX11 286 yX10_mayWrite := Or.inl (List.mem_of_getElem? (i := 1177) (by decide +kernel))
theorem lm_RX11_290 : LkM RX11 290 yX11_areBits := Or.inl (List.mem_of_getElem? (i := 1185) (by decide +kernel))
theorem lm_RX11_293 : LkM RX11 293 yJ6_bitCount_0f7a4 := Or.inl (List.mem_of_getElem? (i := 1188) (by decide +kernel))
theorem lm_RX11_298 : LkM RX11 298 yX8_knownTo := Or.inl (List.mem_of_getElem? (i := 1189) (by decide +kernel))
theorem lm_RX11_301 : LkM RX11 301 yX11_hasBit := Or.inl (List.mem_of_getElem? (i := 1200) (by decide +kernel))
theorem lm_RX11_304 : LkM RX11 304 yX2_search := Or.inl (List.mem_of_getElem? (i := 1222) (by decide +kernel))
theorem lm_RX11_314 : LkM RX11 314 yX4_hold := Or.inl (List.mem_of_getElem? (i := 1256) (by decide +kernel))
theorem lm_RX11_327 : LkM RX11 327 yX4_bestQuestion := Or.inl (List.mem_of_getElem? (i := 1275) (by decide +kernel))
theorem lm_RX11_331 : LkM RX11 331 yX4_leftAtWorst := Or.inl (List.mem_of_getElem? (i := 1284) (by decide +kernel))
theorem lm_RX11_334 : LkM RX11 334 yX11_chanceAfter := Or.inl (List.mem_of_getElem? (i := 1292) (by decide +kernel))
theorem lm_RX11_340 : LkM RX11 340 yX11_isRest := Or.inl (List.mem_of_getElem? (i := 1305) (by decide +kernel))
theorem lm_RX11_344 : LkM RX11 344 yX8_crewHas := Or.inl (List.mem_of_getElem? (i := 1309) (by decide +kernel))
theorem lm_RX11_348 : LkM RX11 348 yX8_givenBy := Or.inl (List.mem_of_getElem? (i := 1320) (by decide +kernel))
theorem lm_RX11_351 : LkM RX11 351 yX10_bearsAsTold := Or.inl (List.mem_of_getElem? (i := 561) (by decide +kernel))
theorem lm_RX11_355 : LkM RX11 355 yX10_mayWriteAny := Or.inl (List.mem_of_getElem? (i := 569) (by decide +kernel))
theorem lm_RX11_358 : LkM RX11 358 yX11_areYears := Or.inl (List.mem_of_getElem? (i := 1360) (by decide +kernel))
theorem lm_RX11_361 : LkM RX11 361 yX0_play := Or.inl (List.mem_of_getElem? (i := 1363) (by decide +kernel))
theorem lm_RX11_374 : LkM RX11 374 yJ9_max_7cf53 := Or.inl (List.mem_of_getElem? (i := 1392) (by decide +kernel))
theorem lm_RX11_377 : LkM RX11 377 yX6_keepImage := Or.inl (List.mem_of_getElem? (i := 592) (by decide +kernel))
theorem lm_RX11_383 : LkM RX11 383 yX6_takeImage := Or.inl (List.mem_of_getElem? (i := 626) (by decide +kernel))
theorem lm_RX11_404 : LkM RX11 404 yX10_describe := Or.inl (List.mem_of_getElem? (i := 1057) (by decide +kernel))
theorem lm_RX12_128 : LkM RX12 128 yX12_byteAt := Or.inl (List.mem_of_getElem? (i := 1606) (by decide +kernel))
theorem lm_RX12_138 : LkM RX12 138 yX12_blanks := Or.inl (List.mem_of_getElem? (i := 1602) (by decide +kernel))
theorem lm_RX12_141 : LkM RX12 141 yX12_isDigit := Or.inl (List.mem_of_getElem? (i := 1647) (by decide +kernel))
theorem lm_RX12_145 : LkM RX12 145 yX12_wrong := Or.inl (List.mem_of_getElem? (i := 1632) (by decide +kernel))
theorem lm_RX12_150 : LkM RX12 150 yX12_in := Or.inl (List.mem_of_getElem? (i := 1591) (by decide +kernel))
theorem lm_RX12_154 : LkM RX12 154 yX12_isSmall := Or.inl (List.mem_of_getElem? (i := 1626) (by decide +kernel))
theorem lm_RX12_157 : LkM RX12 157 yX12_wordHere := Or.inl (List.mem_of_getElem? (i := 1622) (by decide +kernel))
theorem lm_RX12_161 : LkM RX12 161 yX12_six := Or.inl (List.mem_of_getElem? (i := 1629) (by decide +kernel))
theorem lm_RX12_165 : LkM RX12 165 yX12_isWord := Or.inl (List.mem_of_getElem? (i := 1618) (by decide +kernel))
theorem lm_RX12_169 : LkM RX12 169 yX12_skipWord := Or.inl (List.mem_of_getElem? (i := 1639) (by decide +kernel))
theorem lm_RX12_178 : LkM RX12 178 yX12_kindHere := Or.inl (List.mem_of_getElem? (i := 1614) (by decide +kernel))
theorem lm_RX12_181 : LkM RX12 181 yX12_mostOf := Or.inl (List.mem_of_getElem? (i := 1636) (by decide +kernel))
theorem lm_RX12_184 : LkM RX12 184 yX12_number := Or.inl (List.mem_of_getElem? (i := 1643) (by decide +kernel))
theorem lm_RX12_188 : LkM RX12 188 yX12_sign := Or.inl (List.mem_of_getElem? (i := 1651) (by decide +kernel))
theorem lm_RX12_192 : LkM RX12 192 yX12_bad := Or.inl (List.mem_of_getElem? (i := 1594) (by decide +kernel))
theorem lm_RX12_196 : LkM RX12 196 yX12_starts := Or.inl (List.mem_of_getElem? (i := 1598) (by decide +kernel))
theorem lm_RX12_110 : LkM RX12 110 yX12_tellsNothing := Or.inl (List.mem_of_getElem? (i := 1401) (by decide +kernel))
theorem lm_RX12_199 : LkM RX12 199 yX12_clause := Or.inl (List.mem_of_getElem? (i := 1610) (by decide +kernel))
theorem lm_RX12_113 : LkM RX12 113 yX12_beginsAnew := Or.inl (List.mem_of_getElem? (i := 1405) (by decide +kernel))
theorem lm_RX12_202 : LkM RX12 202 yX12_faulty := Or.inl (List.mem_of_getElem? (i := 1655) (by decide +kernel))
theorem lm_RX12_205 : LkM RX12 205 yX12_lays := Or.inl (List.mem_of_getElem? (i := 1409) (by decide +kernel))
theorem lm_RX12_209 : LkM RX12 209 yX12_fills := Or.inl (List.mem_of_getElem? (i := 1412) (by decide +kernel))
theorem lm_RX12_231 : LkM RX12 231 yX12_product := Or.inl (List.mem_of_getElem? (i := 1667) (by decide +kernel))
theorem lm_RX12_234 : LkM RX12 234 yX12_takesSign := Or.inl (List.mem_of_getElem? (i := 1695) (by decide +kernel))
theorem lm_RX12_237 : LkM RX12 237 yX12_notes := Or.inl (List.mem_of_getElem? (i := 1679) (by decide +kernel))
theorem lm_RX12_240 : LkM RX12 240 yX12_one := Or.inl (List.mem_of_getElem? (i := 1671) (by decide +kernel))
theorem lm_RX12_243 : LkM RX12 243 yX12_takes := Or.inl (List.mem_of_getElem? (i := 1687) (by decide +kernel))
theorem lm_RX12_246 : LkM RX12 246 yX12_isLetters := Or.inl (List.mem_of_getElem? (i := 1691) (by decide +kernel))
theorem lm_RX12_256 : LkM RX12 256 yX12_knownHere := Or.inl (List.mem_of_getElem? (i := 1683) (by decide +kernel))
theorem lm_RX12_250 : LkM RX12 250 yX12_opensOne := Or.inl (List.mem_of_getElem? (i := 1675) (by decide +kernel))
theorem lm_RX12_253 : LkM RX12 253 yX12_sum := Or.inl (List.mem_of_getElem? (i := 1663) (by decide +kernel))
theorem lm_RX12_259 : LkM RX12 259 yX12_less := Or.inl (List.mem_of_getElem? (i := 1790) (by decide +kernel))
theorem lm_RX12_262 : LkM RX12 262 yX12_more := Or.inl (List.mem_of_getElem? (i := 1793) (by decide +kernel))
theorem lm_RX12_265 : LkM RX12 265 yX12_by := Or.inl (List.mem_of_getElem? (i := 1787) (by decide +kernel))
theorem lm_RX12_269 : LkM RX12 269 yX12_stepHere := Or.inl (List.mem_of_getElem? (i := 1718) (by decide +kernel))
theorem lm_RX12_275 : LkM RX12 275 yX12_readsStep := Or.inl (List.mem_of_getElem? (i := 1714) (by decide +kernel))
theorem lm_RX12_278 : LkM RX12 278 yX12_has := Or.inl (List.mem_of_getElem? (i := 1703) (by decide +kernel))
theorem lm_RX12_282 : LkM RX12 282 yX12_lineOf := Or.inl (List.mem_of_getElem? (i := 1745) (by decide +kernel))
theorem lm_RX12_286 : LkM RX12 286 yX12_roomOf := Or.inl (List.mem_of_getElem? (i := 1741) (by decide +kernel))
theorem lm_RX12_290 : LkM RX12 290 yX12_canWrite := Or.inl (List.mem_of_getElem? (i := 1737) (by decide +kernel))
theorem lm_RX12_294 : LkM RX12 294 yX12_writes := Or.inl (List.mem_of_getElem? (i := 1733) (by decide +kernel))
theorem lm_RX12_297 : LkM RX12 297 yX12_slips := Or.inl (List.mem_of_getElem? (i := 1748) (by decide +kernel))
theorem lm_RX12_301 : LkM RX12 301 yX12_rains := Or.inl (List.mem_of_getElem? (i := 1752) (by decide +kernel))
theorem lm_RX12_304 : LkM RX12 304 yX12_nightEnds := Or.inl (List.mem_of_getElem? (i := 1755) (by decide +kernel))
theorem lm_RX12_313 : LkM RX12 313 yX12_does := Or.inl (List.mem_of_getElem? (i := 1729) (by decide +kernel))
theorem lm_RX12_310 : LkM RX12 310 yX12_goes := Or.inl (List.mem_of_getElem? (i := 1725) (by decide +kernel))
theorem lm_RX12_320 : LkM RX12 320 yX12_copies := Or.inl (List.mem_of_getElem? (i := 1722) (by decide +kernel))
theorem lm_RX12_324 : LkM RX12 324 yX12_byLaw := Or.inl (List.mem_of_getElem? (i := 1783) (by decide +kernel))
theorem lm_RX12_327 : LkM RX12 327 yX12_forceBy := Or.inl (List.mem_of_getElem? (i := 1779) (by decide +kernel))
theorem lm_RX12_331 : LkM RX12 331 yX12_forceOf := Or.inl (List.mem_of_getElem? (i := 1775) (by decide +kernel))
theorem lm_RX12_334 : LkM RX12 334 yX12_lettersFrom := Or.inl (List.mem_of_getElem? (i := 1767) (by decide +kernel))
theorem lm_RX12_337 : LkM RX12 337 yX12_ruling := Or.inl (List.mem_of_getElem? (i := 1771) (by decide +kernel))
theorem lm_RX12_340 : LkM RX12 340 yX12_isRow := Or.inl (List.mem_of_getElem? (i := 1800) (by decide +kernel))
theorem lm_RX12_343 : LkM RX12 343 yX12_linesWith := Or.inl (List.mem_of_getElem? (i := 1804) (by decide +kernel))
theorem lm_RX12_346 : LkM RX12 346 yX12_isBid := Or.inl (List.mem_of_getElem? (i := 1812) (by decide +kernel))
theorem lm_RX12_349 : LkM RX12 349 yX12_isWriter := Or.inl (List.mem_of_getElem? (i := 1820) (by decide +kernel))
theorem lm_RX12_352 : LkM RX12 352 yX12_isAct := Or.inl (List.mem_of_getElem? (i := 1832) (by decide +kernel))
theorem lm_RX12_355 : LkM RX12 355 yX12_areBids := Or.inl (List.mem_of_getElem? (i := 1855) (by decide +kernel))
theorem lm_RX12_358 : LkM RX12 358 yX12_knownBy := Or.inl (List.mem_of_getElem? (i := 1859) (by decide +kernel))
theorem lm_RX12_361 : LkM RX12 361 yX12_ones := Or.inl (List.mem_of_getElem? (i := 1863) (by decide +kernel))
theorem lm_RX12_367 : LkM RX12 367 yX12_writesFrom := Or.inl (List.mem_of_getElem? (i := 1886) (by decide +kernel))
theorem lm_RX12_371 : LkM RX12 371 yX12_laysFits := Or.inl (List.mem_of_getElem? (i := 1882) (by decide +kernel))
theorem lm_RX12_374 : LkM RX12 374 yX12_actsOf := Or.inl (List.mem_of_getElem? (i := 1902) (by decide +kernel))
theorem lm_RX12_377 : LkM RX12 377 yX12_isRight := Or.inl (List.mem_of_getElem? (i := 1898) (by decide +kernel))
theorem lm_RX12_380 : LkM RX12 380 yX12_isTold := Or.inl (List.mem_of_getElem? (i := 1910) (by decide +kernel))
theorem lm_RX12_383 : LkM RX12 383 yX12_hasBy := Or.inl (List.mem_of_getElem? (i := 1926) (by decide +kernel))
theorem lm_RX12_387 : LkM RX12 387 yX12_isBest := Or.inl (List.mem_of_getElem? (i := 1922) (by decide +kernel))
theorem lm_RX12_391 : LkM RX12 391 yX12_givenBy := Or.inl (List.mem_of_getElem? (i := 1934) (by decide +kernel))
theorem lm_RX12_404 : LkM RX12 404 yX12_draw := Or.inl (List.mem_of_getElem? (i := 1973) (by decide +kernel))
theorem lm_RX12_407 : LkM RX12 407 yX12_areYears := Or.inl (List.mem_of_getElem? (i := 1966) (by decide +kernel))
theorem lm_RX12_410 : LkM RX12 410 yX12_yearsBy := Or.inl (List.mem_of_getElem? (i := 1969) (by decide +kernel))
theorem lm_RX12_414 : LkM RX12 414 yX12_keptIn := Or.inl (List.mem_of_getElem? (i := 1978) (by decide +kernel))
theorem lm_RX12_421 : LkM RX12 421 yX12_puts := Or.inl (List.mem_of_getElem? (i := 1994) (by decide +kernel))
theorem lm_RX12_425 : LkM RX12 425 yX12_putsAll := Or.inl (List.mem_of_getElem? (i := 1990) (by decide +kernel))
theorem lm_RL_7 : LkM RL 7 yX11_port := Or.inl (List.mem_of_getElem? (i := 642) (by decide +kernel))
theorem lm_RL_15 : LkM RL 15 yX11_law := Or.inl (List.mem_of_getElem? (i := 873) (by decide +kernel))
theorem lm_RL_18 : LkM RL 18 yX11_work := Or.inl (List.mem_of_getElem? (i := 928) (by decide +kernel))
theorem lm_RL_21 : LkM RL 21 yX11_deeds := Or.inl (List.mem_of_getElem? (i := 1004) (by decide +kernel))
theorem lm_RL_24 : LkM RL 24 yX11_told := Or.inl (List.mem_of_getElem? (i := 1037) (by decide +kernel))
theorem lm_RL_27 : LkM RL 27 yX11_row := Or.inl (List.mem_of_getElem? (i := 1079) (by decide +kernel))
theorem lm_RL_33 : LkM RL 33 yX11_bid := Or.inl (List.mem_of_getElem? (i := 1118) (by decide +kernel))
theorem lm_RL_36 : LkM RL 36 yX11_writer := Or.inl (List.mem_of_getElem? (i := 1134) (by decide +kernel))
theorem lm_RL_39 : LkM RL 39 yX11_line := Or.inl (List.mem_of_getElem? (i := 1145) (by decide +kernel))
theorem lm_RL_42 : LkM RL 42 yX11_kin := Or.inl (List.mem_of_getElem? (i := 1152) (by decide +kernel))
theorem lm_RL_45 : LkM RL 45 yX11_would := Or.inl (List.mem_of_getElem? (i := 1159) (by decide +kernel))
theorem lm_RL_49 : LkM RL 49 yX11_force := Or.inl (List.mem_of_getElem? (i := 1166) (by decide +kernel))
theorem lm_RL_52 : LkM RL 52 yX11_can := Or.inl (List.mem_of_getElem? (i := 1173) (by decide +kernel))
theorem lm_RL_56 : LkM RL 56 yX11_send := Or.inl (List.mem_of_getElem? (i := 1181) (by decide +kernel))
theorem lm_RL_59 : LkM RL 59 yX11_lost := Or.inl (List.mem_of_getElem? (i := 1196) (by decide +kernel))
theorem lm_RL_62 : LkM RL 62 yX11_path := Or.inl (List.mem_of_getElem? (i := 1204) (by decide +kernel))
theorem lm_RL_65 : LkM RL 65 yX11_comes := Or.inl (List.mem_of_getElem? (i := 1211) (by decide +kernel))
theorem lm_RL_68 : LkM RL 68 yX11_fits := Or.inl (List.mem_of_getElem? (i := 1218) (by decide +kernel))
theorem lm_RL_71 : LkM RL 71 yX11_fitted := Or.inl (List.mem_of_getElem? (i := 1245) (by decide +kernel))
theorem lm_RL_74 : LkM RL 74 yX11_stood := Or.inl (List.mem_of_getElem? (i := 1252) (by decide +kernel))
theorem lm_RL_77 : LkM RL 77 yX11_ask := Or.inl (List.mem_of_getElem? (i := 1271) (by decide +kernel))
theorem lm_RL_80 : LkM RL 80 yX11_still := Or.inl (List.mem_of_getElem? (i := 1288) (by decide +kernel))
theorem lm_RL_84 : LkM RL 84 yX11_crews := Or.inl (List.mem_of_getElem? (i := 1301) (by decide +kernel))
theorem lm_RL_88 : LkM RL 88 yX11_share := Or.inl (List.mem_of_getElem? (i := 1316) (by decide +kernel))
theorem lm_RL_91 : LkM RL 91 yX11_above := Or.inl (List.mem_of_getElem? (i := 1328) (by decide +kernel))
theorem lm_RL_94 : LkM RL 94 yX11_mightiest := Or.inl (List.mem_of_getElem? (i := 1335) (by decide +kernel))
theorem lm_RL_97 : LkM RL 97 yX11_ends := Or.inl (List.mem_of_getElem? (i := 1342) (by decide +kernel))
theorem lm_RL_100 : LkM RL 100 yX11_loud := Or.inl (List.mem_of_getElem? (i := 1349) (by decide +kernel))
theorem lm_RL_103 : LkM RL 103 yX11_years := Or.inl (List.mem_of_getElem? (i := 1356) (by decide +kernel))
theorem lm_RL_107 : LkM RL 107 yX11_span := Or.inl (List.mem_of_getElem? (i := 1388) (by decide +kernel))
