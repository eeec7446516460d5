/-! INSTANCES: which cells are objects of which class; small rules. Printed by program -/
def gI_X10 (b : Nat) : Prop := b = 0
def gI_X2 (b : Nat) : Prop := b = 1 ∨ b = 16 ∨ b = 31
def gI_X4 (b : Nat) : Prop := b = 2 ∨ b = 17 ∨ b = 32 ∨ b = 51
def gI_X6 (b : Nat) : Prop := b = 8 ∨ b = 10 ∨ b = 12 ∨ b = 23 ∨ b = 25 ∨ b = 27 ∨ b = 38 ∨ b = 40 ∨ b = 42
def gI_X5 (b : Nat) : Prop := b = 14 ∨ b = 29 ∨ b = 44
def gI_X7 (b : Nat) : Prop := b = 46
def gI_X0 (b : Nat) : Prop := b = 49
def gI_X8 (b : Nat) : Prop := b = 50
def gI_X1 (b : Nat) : Prop := b = 58
def gI_X9 (b : Nat) : Prop := b = 60
def gI_X11 (b : Nat) : Prop := b = 63
theorem i_X10_0 : gI_X10 0 := rfl
theorem rc_X10 {b : Nat} (h : gI_X10 b) : gRc b RX10 := ⟨9, TX10, _, by cases h <;> decide +kernel, rfl⟩
theorem sf_X10_0 {b : Nat} (h : gI_X10 b) : gFd b 0 = some (9, some (some 1)) := by cases h <;> decide +kernel
theorem in_X10_0 {b : Nat} (h : gI_X10 b) : gI_X2 1 := by cases h <;> unfold gI_X2 <;> decide +kernel
theorem sf_X10_1 {b : Nat} (h : gI_X10 b) : gFd b 1 = some (9, some (some 16)) := by cases h <;> decide +kernel
theorem in_X10_1 {b : Nat} (h : gI_X10 b) : gI_X2 16 := by cases h <;> unfold gI_X2 <;> decide +kernel
theorem sf_X10_2 {b : Nat} (h : gI_X10 b) : gFd b 2 = some (9, some (some 31)) := by cases h <;> decide +kernel
theorem in_X10_2 {b : Nat} (h : gI_X10 b) : gI_X2 31 := by cases h <;> unfold gI_X2 <;> decide +kernel
theorem sf_X10_3 {b : Nat} (h : gI_X10 b) : gFd b 3 = some (9, none) := by cases h <;> decide +kernel
theorem sf_X10_4 {b : Nat} (h : gI_X10 b) : gFd b 4 = some (9, none) := by cases h <;> decide +kernel
theorem sf_X10_5 {b : Nat} (h : gI_X10 b) : gFd b 5 = some (9, some (some 46)) := by cases h <;> decide +kernel
theorem in_X10_5 {b : Nat} (h : gI_X10 b) : gI_X7 46 := by cases h <;> unfold gI_X7 <;> decide +kernel
theorem sf_X10_6 {b : Nat} (h : gI_X10 b) : gFd b 6 = some (9, some (some 49)) := by cases h <;> decide +kernel
theorem in_X10_6 {b : Nat} (h : gI_X10 b) : gI_X0 49 := by cases h <;> unfold gI_X0 <;> decide +kernel
theorem sf_X10_7 {b : Nat} (h : gI_X10 b) : gFd b 7 = some (9, some (some 50)) := by cases h <;> decide +kernel
theorem in_X10_7 {b : Nat} (h : gI_X10 b) : gI_X8 50 := by cases h <;> unfold gI_X8 <;> decide +kernel
theorem sf_X10_8 {b : Nat} (h : gI_X10 b) : gFd b 8 = some (9, some (some 58)) := by cases h <;> decide +kernel
theorem in_X10_8 {b : Nat} (h : gI_X10 b) : gI_X1 58 := by cases h <;> unfold gI_X1 <;> decide +kernel
theorem sf_X10_9 {b : Nat} (h : gI_X10 b) : gFd b 9 = some (9, some (some 60)) := by cases h <;> decide +kernel
theorem in_X10_9 {b : Nat} (h : gI_X10 b) : gI_X9 60 := by cases h <;> unfold gI_X9 <;> decide +kernel
theorem sf_X10_10 {b : Nat} (h : gI_X10 b) : gFd b 10 = some (9, none) := by cases h <;> decide +kernel
theorem sf_X10_11 {b : Nat} (h : gI_X10 b) : gFd b 11 = some (9, none) := by cases h <;> decide +kernel
theorem sf_X10_12 {b : Nat} (h : gI_X10 b) : gFd b 12 = some (9, none) := by cases h <;> decide +kernel
theorem i_X2_1 : gI_X2 1 := Or.inl rfl
theorem i_X2_16 : gI_X2 16 := Or.inr (Or.inl rfl)
theorem i_X2_31 : gI_X2 31 := Or.inr (Or.inr (rfl))
theorem rc_X2 {b : Nat} (h : gI_X2 b) : gRc b RX2 := ⟨2, TX2, _, by rcases h with rfl | rfl | rfl <;> decide +kernel, rfl⟩
theorem sf_X2_0 {b : Nat} (h : gI_X2 b) : gFd b 0 = some (2, some (some (b + 1))) := by rcases h with rfl | rfl | rfl <;> decide +kernel
theorem in_X2_0 {b : Nat} (h : gI_X2 b) : gI_X4 (b + 1) := by rcases h with rfl | rfl | rfl <;> unfold gI_X4 <;> decide +kernel
theorem sf_X2_1 {b : Nat} (h : gI_X2 b) : gFd b 1 = some (2, some (some (b + 7))) := by rcases h with rfl | rfl | rfl <;> decide +kernel
theorem in_X2_1 {b : Nat} (h : gI_X2 b) : gI_X6 (b + 7) := by rcases h with rfl | rfl | rfl <;> unfold gI_X6 <;> decide +kernel
theorem sf_X2_2 {b : Nat} (h : gI_X2 b) : gFd b 2 = some (2, some (some (b + 9))) := by rcases h with rfl | rfl | rfl <;> decide +kernel
theorem in_X2_2 {b : Nat} (h : gI_X2 b) : gI_X6 (b + 9) := by rcases h with rfl | rfl | rfl <;> unfold gI_X6 <;> decide +kernel
theorem sf_X2_3 {b : Nat} (h : gI_X2 b) : gFd b 3 = some (2, some (some (b + 11))) := by rcases h with rfl | rfl | rfl <;> decide +kernel
theorem in_X2_3 {b : Nat} (h : gI_X2 b) : gI_X6 (b + 11) := by rcases h with rfl | rfl | rfl <;> unfold gI_X6 <;> decide +kernel
theorem sf_X2_4 {b : Nat} (h : gI_X2 b) : gFd b 4 = some (2, some (some (b + 13))) := by rcases h with rfl | rfl | rfl <;> decide +kernel
theorem in_X2_4 {b : Nat} (h : gI_X2 b) : gI_X5 (b + 13) := by rcases h with rfl | rfl | rfl <;> unfold gI_X5 <;> decide +kernel
theorem i_X4_2 : gI_X4 2 := Or.inl rfl
theorem i_X4_17 : gI_X4 17 := Or.inr (Or.inl rfl)
theorem i_X4_32 : gI_X4 32 := Or.inr (Or.inr (Or.inl rfl))
theorem i_X4_51 : gI_X4 51 := Or.inr (Or.inr (Or.inr (rfl)))
theorem rc_X4 {b : Nat} (h : gI_X4 b) : gRc b RX4 := ⟨3, TX4, _, by rcases h with rfl | rfl | rfl | rfl <;> decide +kernel, rfl⟩
theorem sf_X4_0 {b : Nat} (h : gI_X4 b) : gFd b 0 = some (3, none) := by rcases h with rfl | rfl | rfl | rfl <;> decide +kernel
theorem sf_X4_1 {b : Nat} (h : gI_X4 b) : gFd b 1 = some (3, none) := by rcases h with rfl | rfl | rfl | rfl <;> decide +kernel
theorem sf_X4_2 {b : Nat} (h : gI_X4 b) : gFd b 2 = some (3, some (some (b + 1))) := by rcases h with rfl | rfl | rfl | rfl <;> decide +kernel
theorem sa_X4_2 {b : Nat} (h : gI_X4 b) : gAr (b + 1) = some (0, 7) := by rcases h with rfl | rfl | rfl | rfl <;> decide +kernel
theorem sf_X4_3 {b : Nat} (h : gI_X4 b) : gFd b 3 = some (3, some (some (b + 2))) := by rcases h with rfl | rfl | rfl | rfl <;> decide +kernel
theorem sa_X4_3 {b : Nat} (h : gI_X4 b) : gAr (b + 2) = some (0, 7) := by rcases h with rfl | rfl | rfl | rfl <;> decide +kernel
theorem sf_X4_4 {b : Nat} (h : gI_X4 b) : gFd b 4 = some (3, some (some (b + 3))) := by rcases h with rfl | rfl | rfl | rfl <;> decide +kernel
theorem sa_X4_4 {b : Nat} (h : gI_X4 b) : gAr (b + 3) = some (0, 7) := by rcases h with rfl | rfl | rfl | rfl <;> decide +kernel
theorem sf_X4_5 {b : Nat} (h : gI_X4 b) : gFd b 5 = some (3, none) := by rcases h with rfl | rfl | rfl | rfl <;> decide +kernel
theorem sf_X4_6 {b : Nat} (h : gI_X4 b) : gFd b 6 = some (3, some (some (b + 4))) := by rcases h with rfl | rfl | rfl | rfl <;> decide +kernel
theorem sa_X4_6 {b : Nat} (h : gI_X4 b) : gAr (b + 4) = some (0, 4) := by rcases h with rfl | rfl | rfl | rfl <;> decide +kernel
theorem sf_X4_7 {b : Nat} (h : gI_X4 b) : gFd b 7 = some (3, some (some (b + 5))) := by rcases h with rfl | rfl | rfl | rfl <;> decide +kernel
theorem sa_X4_7 {b : Nat} (h : gI_X4 b) : gAr (b + 5) = some (0, 4) := by rcases h with rfl | rfl | rfl | rfl <;> decide +kernel
theorem sf_X4_8 {b : Nat} (h : gI_X4 b) : gFd b 8 = some (3, none) := by rcases h with rfl | rfl | rfl | rfl <;> decide +kernel
theorem sf_X4_9 {b : Nat} (h : gI_X4 b) : gFd b 9 = some (3, none) := by rcases h with rfl | rfl | rfl | rfl <;> decide +kernel
theorem sf_X4_10 {b : Nat} (h : gI_X4 b) : gFd b 10 = some (3, none) := by rcases h with rfl | rfl | rfl | rfl <;> decide +kernel
theorem i_X6_8 : gI_X6 8 := Or.inl rfl
theorem i_X6_10 : gI_X6 10 := Or.inr (Or.inl rfl)
theorem i_X6_12 : gI_X6 12 := Or.inr (Or.inr (Or.inl rfl))
theorem i_X6_23 : gI_X6 23 := Or.inr (Or.inr (Or.inr (Or.inl rfl)))
theorem i_X6_25 : gI_X6 25 := Or.inr (Or.inr (Or.inr (Or.inr (Or.inl rfl))))
theorem i_X6_27 : gI_X6 27 := Or.inr (Or.inr (Or.inr (Or.inr (Or.inr (Or.inl rfl)))))
theorem i_X6_38 : gI_X6 38 := Or.inr (Or.inr (Or.inr (Or.inr (Or.inr (Or.inr (Or.inl rfl))))))
theorem i_X6_40 : gI_X6 40 := Or.inr (Or.inr (Or.inr (Or.inr (Or.inr (Or.inr (Or.inr (Or.inl rfl)))))))
theorem i_X6_42 : gI_X6 42 := Or.inr (Or.inr (Or.inr (Or.inr (Or.inr (Or.inr (Or.inr (Or.inr (rfl))))))))
theorem rc_X6 {b : Nat} (h : gI_X6 b) : gRc b RX6 := ⟨5, TX6, _, by rcases h with rfl | rfl | rfl | rfl | rfl | rfl | rfl | rfl | rfl <;> decide +kernel, rfl⟩
theorem sf_X6_0 {b : Nat} (h : gI_X6 b) : gFd b 0 = some (5, none) := by rcases h with rfl | rfl | rfl | rfl | rfl | rfl | rfl | rfl | rfl <;> decide +kernel
theorem sf_X6_1 {b : Nat} (h : gI_X6 b) : gFd b 1 = some (5, some (some (b + 1))) := by rcases h with rfl | rfl | rfl | rfl | rfl | rfl | rfl | rfl | rfl <;> decide +kernel
theorem sa_X6_1 {b : Nat} (h : gI_X6 b) : gAr (b + 1) = some (0, 24) := by rcases h with rfl | rfl | rfl | rfl | rfl | rfl | rfl | rfl | rfl <;> decide +kernel
theorem i_X5_14 : gI_X5 14 := Or.inl rfl
theorem i_X5_29 : gI_X5 29 := Or.inr (Or.inl rfl)
theorem i_X5_44 : gI_X5 44 := Or.inr (Or.inr (rfl))
theorem rc_X5 {b : Nat} (h : gI_X5 b) : gRc b RX5 := ⟨4, TX5, _, by rcases h with rfl | rfl | rfl <;> decide +kernel, rfl⟩
theorem sf_X5_0 {b : Nat} (h : gI_X5 b) : gFd b 0 = some (4, none) := by rcases h with rfl | rfl | rfl <;> decide +kernel
theorem sf_X5_1 {b : Nat} (h : gI_X5 b) : gFd b 1 = some (4, some (some (b + 1))) := by rcases h with rfl | rfl | rfl <;> decide +kernel
theorem sa_X5_1 {b : Nat} (h : gI_X5 b) : gAr (b + 1) = some (0, 80) := by rcases h with rfl | rfl | rfl <;> decide +kernel
theorem i_X7_46 : gI_X7 46 := rfl
theorem rc_X7 {b : Nat} (h : gI_X7 b) : gRc b RX7 := ⟨6, TX7, _, by cases h <;> decide +kernel, rfl⟩
theorem sf_X7_0 {b : Nat} (h : gI_X7 b) : gFd b 0 = some (6, none) := by cases h <;> decide +kernel
theorem sf_X7_1 {b : Nat} (h : gI_X7 b) : gFd b 1 = some (6, some (some 47)) := by cases h <;> decide +kernel
theorem sa_X7_1 {b : Nat} (h : gI_X7 b) : gAr 47 = some (0, 150) := by cases h <;> decide +kernel
theorem sf_X7_2 {b : Nat} (h : gI_X7 b) : gFd b 2 = some (6, none) := by cases h <;> decide +kernel
theorem sf_X7_3 {b : Nat} (h : gI_X7 b) : gFd b 3 = some (6, none) := by cases h <;> decide +kernel
theorem sf_X7_4 {b : Nat} (h : gI_X7 b) : gFd b 4 = some (6, none) := by cases h <;> decide +kernel
theorem sf_X7_5 {b : Nat} (h : gI_X7 b) : gFd b 5 = some (6, some (some 48)) := by cases h <;> decide +kernel
theorem sa_X7_5 {b : Nat} (h : gI_X7 b) : gAr 48 = some (0, 3) := by cases h <;> decide +kernel
theorem i_X0_49 : gI_X0 49 := rfl
theorem rc_X0 {b : Nat} (h : gI_X0 b) : gRc b RX0 := ⟨0, TX0, _, by cases h <;> decide +kernel, rfl⟩
theorem sf_X0_0 {b : Nat} (h : gI_X0 b) : gFd b 0 = some (0, some none) := by cases h <;> decide +kernel
theorem sf_X0_1 {b : Nat} (h : gI_X0 b) : gFd b 1 = some (0, some none) := by cases h <;> decide +kernel
theorem i_X8_50 : gI_X8 50 := rfl
theorem rc_X8 {b : Nat} (h : gI_X8 b) : gRc b RX8 := ⟨7, TX8, _, by cases h <;> decide +kernel, rfl⟩
theorem sf_X8_0 {b : Nat} (h : gI_X8 b) : gFd b 0 = some (7, some (some 51)) := by cases h <;> decide +kernel
theorem in_X8_0 {b : Nat} (h : gI_X8 b) : gI_X4 51 := by cases h <;> unfold gI_X4 <;> decide +kernel
theorem sf_X8_1 {b : Nat} (h : gI_X8 b) : gFd b 1 = some (7, some (some 57)) := by cases h <;> decide +kernel
theorem sa_X8_1 {b : Nat} (h : gI_X8 b) : gAr 57 = some (0, 20) := by cases h <;> decide +kernel
theorem i_X1_58 : gI_X1 58 := rfl
theorem rc_X1 {b : Nat} (h : gI_X1 b) : gRc b RX1 := ⟨1, TX1, _, by cases h <;> decide +kernel, rfl⟩
theorem sf_X1_0 {b : Nat} (h : gI_X1 b) : gFd b 0 = some (1, some (some 59)) := by cases h <;> decide +kernel
theorem sa_X1_0 {b : Nat} (h : gI_X1 b) : gAr 59 = some (0, 6) := by cases h <;> decide +kernel
theorem i_X9_60 : gI_X9 60 := rfl
theorem rc_X9 {b : Nat} (h : gI_X9 b) : gRc b RX9 := ⟨8, TX9, _, by cases h <;> decide +kernel, rfl⟩
theorem sf_X9_0 {b : Nat} (h : gI_X9 b) : gFd b 0 = some (8, none) := by cases h <;> decide +kernel
theorem sf_X9_1 {b : Nat} (h : gI_X9 b) : gFd b 1 = some (8, some (some 61)) := by cases h <;> decide +kernel
theorem sa_X9_1 {b : Nat} (h : gI_X9 b) : gAr 61 = some (0, 7) := by cases h <;> decide +kernel
theorem sf_X9_2 {b : Nat} (h : gI_X9 b) : gFd b 2 = some (8, some (some 62)) := by cases h <;> decide +kernel
theorem sa_X9_2 {b : Nat} (h : gI_X9 b) : gAr 62 = some (0, 7) := by cases h <;> decide +kernel
theorem i_X11_63 : gI_X11 63 := rfl
theorem rc_X11 {b : Nat} (h : gI_X11 b) : gRc b RX11 := ⟨10, TX11, _, by cases h <;> decide +kernel, rfl⟩
theorem sf_X11_0 {b : Nat} (h : gI_X11 b) : gFd b 0 = some (10, some (some 64)) := by cases h <;> decide +kernel
theorem sa_X11_0 {b : Nat} (h : gI_X11 b) : gAr 64 = some (0, 547) := by cases h <;> decide +kernel
theorem sf_X11_1 {b : Nat} (h : gI_X11 b) : gFd b 1 = some (10, some (some 65)) := by cases h <;> decide +kernel
theorem sa_X11_1 {b : Nat} (h : gI_X11 b) : gAr 65 = some (1, 2) := by cases h <;> decide +kernel
theorem sf_X11_2 {b : Nat} (h : gI_X11 b) : gFd b 2 = some (10, some (some 66)) := by cases h <;> decide +kernel
theorem sa_X11_2 {b : Nat} (h : gI_X11 b) : gAr 66 = some (0, 3) := by cases h <;> decide +kernel
theorem sf_X11_3 {b : Nat} (h : gI_X11 b) : gFd b 3 = some (10, some none) := by cases h <;> decide +kernel
theorem sf_X11_4 {b : Nat} (h : gI_X11 b) : gFd b 4 = some (10, some none) := by cases h <;> decide +kernel
theorem sf_X11_5 {b : Nat} (h : gI_X11 b) : gFd b 5 = some (10, some (some 67)) := by cases h <;> decide +kernel
theorem sa_X11_5 {b : Nat} (h : gI_X11 b) : gAr 67 = some (0, 150) := by cases h <;> decide +kernel
theorem sf_X11_6 {b : Nat} (h : gI_X11 b) : gFd b 6 = some (10, none) := by cases h <;> decide +kernel
theorem sf_X11_7 {b : Nat} (h : gI_X11 b) : gFd b 7 = some (10, some (some 68)) := by cases h <;> decide +kernel
theorem sa_X11_7 {b : Nat} (h : gI_X11 b) : gAr 68 = some (0, 30) := by cases h <;> decide +kernel
theorem sf_X11_8 {b : Nat} (h : gI_X11 b) : gFd b 8 = some (10, none) := by cases h <;> decide +kernel
theorem sf_X11_9 {b : Nat} (h : gI_X11 b) : gFd b 9 = some (10, none) := by cases h <;> decide +kernel
theorem sf_X11_10 {b : Nat} (h : gI_X11 b) : gFd b 10 = some (10, none) := by cases h <;> decide +kernel
theorem sf_X11_11 {b : Nat} (h : gI_X11 b) : gFd b 11 = some (10, none) := by cases h <;> decide +kernel
theorem sf_X11_12 {b : Nat} (h : gI_X11 b) : gFd b 12 = some (10, none) := by cases h <;> decide +kernel
theorem sf_X11_13 {b : Nat} (h : gI_X11 b) : gFd b 13 = some (10, some (some 69)) := by cases h <;> decide +kernel
theorem sa_X11_13 {b : Nat} (h : gI_X11 b) : gAr 69 = some (0, 7) := by cases h <;> decide +kernel
theorem sf_X11_14 {b : Nat} (h : gI_X11 b) : gFd b 14 = some (10, some (some 70)) := by cases h <;> decide +kernel
theorem sa_X11_14 {b : Nat} (h : gI_X11 b) : gAr 70 = some (0, 7) := by cases h <;> decide +kernel
theorem sf_X11_15 {b : Nat} (h : gI_X11 b) : gFd b 15 = some (10, some (some 71)) := by cases h <;> decide +kernel
theorem sa_X11_15 {b : Nat} (h : gI_X11 b) : gAr 71 = some (0, 7) := by cases h <;> decide +kernel
theorem sf_X11_16 {b : Nat} (h : gI_X11 b) : gFd b 16 = some (10, none) := by cases h <;> decide +kernel
theorem sf_X11_17 {b : Nat} (h : gI_X11 b) : gFd b 17 = some (10, none) := by cases h <;> decide +kernel
theorem sf_X11_18 {b : Nat} (h : gI_X11 b) : gFd b 18 = some (10, some (some 72)) := by cases h <;> decide +kernel
theorem sa_X11_18 {b : Nat} (h : gI_X11 b) : gAr 72 = some (0, 7) := by cases h <;> decide +kernel
theorem sf_X11_19 {b : Nat} (h : gI_X11 b) : gFd b 19 = some (10, some (some 73)) := by cases h <;> decide +kernel
theorem sa_X11_19 {b : Nat} (h : gI_X11 b) : gAr 73 = some (0, 7) := by cases h <;> decide +kernel
theorem sf_X11_20 {b : Nat} (h : gI_X11 b) : gFd b 20 = some (10, some (some 74)) := by cases h <;> decide +kernel
theorem sa_X11_20 {b : Nat} (h : gI_X11 b) : gAr 74 = some (0, 6) := by cases h <;> decide +kernel
theorem sf_X11_21 {b : Nat} (h : gI_X11 b) : gFd b 21 = some (10, some (some 75)) := by cases h <;> decide +kernel
theorem sa_X11_21 {b : Nat} (h : gI_X11 b) : gAr 75 = some (0, 20) := by cases h <;> decide +kernel
theorem mrd_wr (μ : gM) (a k : Nat) (x : Int32) (c j : Nat) : mrd (mwr μ a k x) c j = if c = a ∧ j = k then x else mrd μ c j := rfl
theorem mrL_wr (μ : gM) (a k : Nat) (x : Int32) (c j : Nat) : mrL (mwr μ a k x) c j = mrL μ c j := rfl
theorem mrd_wL (μ : gM) (a k : Nat) (x : Int64) (c j : Nat) : mrd (mwL μ a k x) c j = mrd μ c j := rfl
theorem mrL_wL (μ : gM) (a k : Nat) (x : Int64) (c j : Nat) : mrL (mwL μ a k x) c j = if c = a ∧ j = k then x else mrL μ c j := rfl
theorem gM_ext {μ ν : gM} (h : ∀ c j, mrd μ c j = mrd ν c j) (h2 : ∀ c j, mrL μ c j = mrL ν c j) : μ = ν := by
  obtain ⟨a, b⟩ := μ
  obtain ⟨a', b'⟩ := ν
  have e1 : a = a' := funext fun c => funext fun j => h c j
  have e2 : b = b' := funext fun c => funext fun j => h2 c j
  rw [e1, e2]
def bI (b : Bool) : Int32 := if b then 1 else 0
theorem bI_0 (b : Bool) : bI b = 0 ↔ b = false := by cases b <;> decide
theorem bI_1 (b : Bool) : bI b = 1 ↔ b = true := by cases b <;> decide
theorem bI_z (b : Bool) : gZ (bI b) := by
  cases b
  · exact Or.inl rfl
  · exact Or.inr rfl
theorem qI {Q : Option Value → gM → Prop} {v w : Int32} {μ : gM} (hQ : Q (some (.int v)) μ) (e : w = v) : Q (some (.int w)) μ := e ▸ hQ
theorem qM {Q : Option Value → gM → Prop} {r : Option Value} {μ ν : gM} (hQ : Q r μ) (e : ν = μ) : Q r ν := e ▸ hQ
theorem qIM {Q : Option Value → gM → Prop} {v w : Int32} {μ ν : gM} (hQ : Q (some (.int v)) μ) (e : w = v) (e2 : ν = μ) : Q (some (.int w)) ν := e ▸ e2 ▸ hQ
theorem sw_n (k : Int) {x v : Int32} (hv : v.toInt = k) (h : ¬ x = v) : ¬ x.toInt = k := fun z => h (Int32.toInt_inj.mp (z.trans hv.symm))
section TC
variable {d pc pc' : Nat} {y : gMI} {ls : List (Nat × Value)} {st : List Value} {μ : gM} {Q : Option Value → gM → Prop}
theorem GG.tcase (v : Int32) {dflt lo hi : Int} {offs : Array Int} {len : Nat} {x : Int32} {off : Int} {tgt : Nat} (h : gD y pc (.tableswitch dflt lo hi offs) len pc') (h1 : ¬ v.toInt < lo) (h2 : ¬ hi < v.toInt) (ho : offs[(v.toInt - lo).toNat]? = some off) (ht : (pc : Int) + off = (tgt : Int)) (kt : x = v → GG d y tgt ls st μ Q) (kf : ¬ x = v → GG d y pc ls (.int x :: st) μ Q) : GG d y pc ls (.int x :: st) μ Q := by
  by_cases hx : x = v
  · subst hx
    exact GG.tableIn h h1 h2 ho ht (kt rfl)
  · exact kf hx
theorem GG.getIv {a k ci idx : Nat} {v : Int32} (h : gD y pc (.getfield idx) 3 pc') (hl : gFL y.1.cls idx ci k) (hs : gFd a k = some (ci, none)) (hv : mrd μ a k = v) (kk : GG d y pc' ls (.int v :: st) μ Q) : GG d y pc ls (.ref a :: st) μ Q := GG.getI h hl hs (by rw [hv]; exact kk)
theorem GG.ialoadE {a n k : Nat} {i : Int32} (h : gD y pc .iaload 1 pc') (hs : gAr a = some (0, n)) (hi : i = nI k) (hk : k < n) (hn : n < 2 ^ 31) (kk : GG d y pc' ls (.int (mrd μ a k) :: st) μ Q) : GG d y pc ls (.int i :: .ref a :: st) μ Q := by
  subst hi
  exact GG.iaload h hs (vp_in_nI hk hn) (by rw [nI_clamp (by omega)]; exact kk)
theorem GG.ialoadV {a n k : Nat} {i v : Int32} (h : gD y pc .iaload 1 pc') (hs : gAr a = some (0, n)) (hi : i = nI k) (hk : k < n) (hn : n < 2 ^ 31) (hv : mrd μ a k = v) (kk : GG d y pc' ls (.int v :: st) μ Q) : GG d y pc ls (.int i :: .ref a :: st) μ Q := GG.ialoadE h hs hi hk hn (by rw [hv]; exact kk)
theorem GG.iastoreE {a n k : Nat} {i x : Int32} (h : gD y pc .iastore 1 pc') (hs : gAr a = some (0, n)) (hi : i = nI k) (hk : k < n) (hn : n < 2 ^ 31) (kk : GG d y pc' ls st (mwr μ a k x) Q) : GG d y pc ls (.int x :: .int i :: .ref a :: st) μ Q := by
  subst hi
  exact GG.iastore h hs (vp_in_nI hk hn) (by rw [nI_clamp (by omega)]; exact kk)
theorem GG.baloadE {a n k : Nat} {i : Int32} (h : gD y pc .baload 1 pc') (hs : gAr a = some (1, n)) (hi : i = nI k) (hk : k < n) (hn : n < 2 ^ 31) (kk : GG d y pc' ls (.int (mrd μ a k) :: st) μ Q) : GG d y pc ls (.int i :: .ref a :: st) μ Q := by
  subst hi
  exact GG.baload h hs (vp_in_nI hk hn) (by rw [nI_clamp (by omega)]; exact kk)
theorem GG.bastoreE {a n k : Nat} {i x : Int32} (h : gD y pc .bastore 1 pc') (hs : gAr a = some (1, n)) (hi : i = nI k) (hk : k < n) (hn : n < 2 ^ 31) (hz : gZ x) (kk : GG d y pc' ls st (mwr μ a k x) Q) : GG d y pc ls (.int x :: .int i :: .ref a :: st) μ Q := by
  subst hi
  exact GG.bastore h hs (vp_in_nI hk hn) hz (by rw [nI_clamp (by omega)]; exact kk)
theorem GG.perm {ls' : List (Nat × Value)} (ks : List Nat) (he : lv_pick ls ks = ls') (kk : GG d y pc ls' st μ Q) : GG d y pc ls st μ Q := by
  intro Γ p l e s m args below meth c H locs lsA C hl hP hS
  refine kk Γ p l e s m args below meth c H locs lsA C (lv_sub hl ks ?_) hP hS
  subst he
  simp only [lv_pick, gls, List.getElem?_map]
  rw [List.map_filterMap]
theorem GG.top {x v : Int32} (e : x = v) (kk : GG d y pc ls (.int v :: st) μ Q) : GG d y pc ls (.int x :: st) μ Q := e ▸ kk
theorem GG.mem {ν : gM} (e : μ = ν) (kk : GG d y pc ls st ν Q) : GG d y pc ls st μ Q := e ▸ kk
end TC
theorem nI_s (k : Nat) : nI k + Int32.ofInt 1 = nI (k + 1) := nI_1 k
theorem nI_d (k : Nat) : nI (k + 1) + Int32.ofInt (-1) = nI k := pk_m1 k
theorem nle {a b : Nat} (h : nI a ≤ nI b) (ha : a < 2 ^ 31) (hb : b < 2 ^ 31) : a ≤ b := (nI_leI ha hb).mp h
theorem nlt {a b : Nat} (h : nI a < nI b) (ha : a < 2 ^ 31) (hb : b < 2 ^ 31) : a < b := (nI_ltI ha hb).mp h
theorem nnle {a b : Nat} (h : ¬ nI a ≤ nI b) (ha : a < 2 ^ 31) (hb : b < 2 ^ 31) : b < a := Nat.not_le.mp fun z => h (nI_le z hb)
theorem nnlt {a b : Nat} (h : ¬ nI a < nI b) (ha : a < 2 ^ 31) (hb : b < 2 ^ 31) : b ≤ a := Nat.not_lt.mp fun z => h (nI_lt z hb)
theorem km_max : Cond.code Lib.Math.max.name Lib.Math.max.code 2 (some .int) ∈ gTbl ∧ Cond.static Lib.Math.max.name ∈ gTbl ∧ Cond.initialized "java/lang/Math" ∈ gTbl := ⟨gTbl_in (List.mem_of_getElem? (i := 657) (by decide +kernel)) (by decide +kernel), gTbl_in (List.mem_of_getElem? (i := 656) (by decide +kernel)) (by decide +kernel), gTbl_in (List.mem_of_getElem? (i := 75) (by decide +kernel)) (by decide +kernel)⟩
theorem GG.max {d pc pc' idx : Nat} {y : gMI} {ls : List (Nat × Value)} {st : List Value} {μ : gM} {Q : Option Value → gM → Prop} {x z : Int32} (h : gD y pc (.invokestatic idx) 3 pc') (hl : Cond.methodLink y.1.cls idx MJ9_max_7cf53.1 ∈ gTbl) (hd : 1 ≤ d) (hst : (st.map fun v => v.category).sum ≤ 8) (kk : GG d y pc' ls (.int (if x < z then z else x) :: st) μ Q) : GG d y pc ls (.int z :: .int x :: st) μ Q := by
  obtain ⟨hdg, rfl⟩ := h
  intro Γ p l e s m args below meth c H locs lsA C hlo hP hS
  exact va_mmax C.1 C.2.1 (C.2.2.2.1.trans hlo.1.symm) C.2.2.2.2.1 (C.2.2.2.2.2.1 _ hl) (C.2.2.2.2.2.1 _ km_max.2.1) (C.2.2.2.2.2.1 _ km_max.2.2) (C.2.2.2.2.2.1 _ km_max.1) hd (by show ((st.map (gv Γ)).map fun v => v.category).sum + 13 ≤ 40 * d; rw [gcat_sum C.2.2.2.2.2.2.2.2.1]; omega) (Nat.zero_le _) (Nat.zero_le _) hdg (kk Γ p l e s m args below meth c H locs lsA C hlo hP hS)
theorem km_min : Cond.code Lib.Math.min.name Lib.Math.min.code 2 (some .int) ∈ gTbl ∧ Cond.static Lib.Math.min.name ∈ gTbl ∧ Cond.initialized "java/lang/Math" ∈ gTbl := ⟨gTbl_in (List.mem_of_getElem? (i := 538) (by decide +kernel)) (by decide +kernel), gTbl_in (List.mem_of_getElem? (i := 537) (by decide +kernel)) (by decide +kernel), gTbl_in (List.mem_of_getElem? (i := 75) (by decide +kernel)) (by decide +kernel)⟩
theorem GG.min {d pc pc' idx : Nat} {y : gMI} {ls : List (Nat × Value)} {st : List Value} {μ : gM} {Q : Option Value → gM → Prop} {x z : Int32} (h : gD y pc (.invokestatic idx) 3 pc') (hl : Cond.methodLink y.1.cls idx MJ9_min_7cf53.1 ∈ gTbl) (hd : 1 ≤ d) (hst : (st.map fun v => v.category).sum ≤ 8) (kk : GG d y pc' ls (.int (if z < x then z else x) :: st) μ Q) : GG d y pc ls (.int z :: .int x :: st) μ Q := by
  obtain ⟨hdg, rfl⟩ := h
  intro Γ p l e s m args below meth c H locs lsA C hlo hP hS
  exact va_mmin C.1 C.2.1 (C.2.2.2.1.trans hlo.1.symm) C.2.2.2.2.1 (C.2.2.2.2.2.1 _ hl) (C.2.2.2.2.2.1 _ km_min.2.1) (C.2.2.2.2.2.1 _ km_min.2.2) (C.2.2.2.2.2.1 _ km_min.1) hd (by show ((st.map (gv Γ)).map fun v => v.category).sum + 13 ≤ 40 * d; rw [gcat_sum C.2.2.2.2.2.2.2.2.1]; omega) (Nat.zero_le _) (Nat.zero_le _) hdg (kk Γ p l e s m args below meth c H locs lsA C hlo hP hS)
theorem km_abs : Cond.code Lib.Math.abs.name Lib.Math.abs.code 1 (some .int) ∈ gTbl ∧ Cond.static Lib.Math.abs.name ∈ gTbl ∧ Cond.initialized "java/lang/Math" ∈ gTbl := ⟨gTbl_in (List.mem_of_getElem? (i := 727) (by decide +kernel)) (by decide +kernel), gTbl_in (List.mem_of_getElem? (i := 726) (by decide +kernel)) (by decide +kernel), gTbl_in (List.mem_of_getElem? (i := 75) (by decide +kernel)) (by decide +kernel)⟩
theorem GG.abs {d pc pc' idx : Nat} {y : gMI} {ls : List (Nat × Value)} {st : List Value} {μ : gM} {Q : Option Value → gM → Prop} {x : Int32} (h : gD y pc (.invokestatic idx) 3 pc') (hl : Cond.methodLink y.1.cls idx MJ9_abs_0f7a4.1 ∈ gTbl) (hd : 1 ≤ d) (hst : (st.map fun v => v.category).sum ≤ 8) (kk : GG d y pc' ls (.int (if 0 ≤ x then x else 0 - x) :: st) μ Q) : GG d y pc ls (.int x :: st) μ Q := by
  obtain ⟨hdg, rfl⟩ := h
  intro Γ p l e s m args below meth c H locs lsA C hlo hP hS
  exact va_mabs C.1 C.2.1 (C.2.2.2.1.trans hlo.1.symm) C.2.2.2.2.1 (C.2.2.2.2.2.1 _ hl) (C.2.2.2.2.2.1 _ km_abs.2.1) (C.2.2.2.2.2.1 _ km_abs.2.2) (C.2.2.2.2.2.1 _ km_abs.1) hd (by show ((st.map (gv Γ)).map fun v => v.category).sum + 13 ≤ 40 * d; rw [gcat_sum C.2.2.2.2.2.2.2.2.1]; omega) (Nat.zero_le _) (Nat.zero_le _) hdg (kk Γ p l e s m args below meth c H locs lsA C hlo hP hS)
