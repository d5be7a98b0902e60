set_option maxRecDepth 100000 in
theorem mx_y_ck_0 : ((List.range 8).all fun i => Nat.beq (0 + i) 0 || (Nat.ble 194 (0 + i) || mx_yck (0 + i))) = true := by decide +kernel
set_option maxRecDepth 100000 in
theorem mx_y_ck_8 : ((List.range 8).all fun i => Nat.beq (8 + i) 0 || (Nat.ble 194 (8 + i) || mx_yck (8 + i))) = true := by decide +kernel
set_option maxRecDepth 100000 in
theorem mx_y_ck_16 : ((List.range 8).all fun i => Nat.beq (16 + i) 0 || (Nat.ble 194 (16 + i) || mx_yck (16 + i))) = true := by decide +kernel
set_option maxRecDepth 100000 in
theorem mx_y_ck_24 : ((List.range 8).all fun i => Nat.beq (24 + i) 0 || (Nat.ble 194 (24 + i) || mx_yck (24 + i))) = true := by decide +kernel
set_option maxRecDepth 100000 in
theorem mx_y_ck_32 : ((List.range 8).all fun i => Nat.beq (32 + i) 0 || (Nat.ble 194 (32 + i) || mx_yck (32 + i))) = true := by decide +kernel
set_option maxRecDepth 100000 in
theorem mx_y_ck_40 : ((List.range 8).all fun i => Nat.beq (40 + i) 0 || (Nat.ble 194 (40 + i) || mx_yck (40 + i))) = true := by decide +kernel
set_option maxRecDepth 100000 in
theorem mx_y_ck_48 : ((List.range 8).all fun i => Nat.beq (48 + i) 0 || (Nat.ble 194 (48 + i) || mx_yck (48 + i))) = true := by decide +kernel
set_option maxRecDepth 100000 in
theorem mx_y_ck_56 : ((List.range 8).all fun i => Nat.beq (56 + i) 0 || (Nat.ble 194 (56 + i) || mx_yck (56 + i))) = true := by decide +kernel
set_option maxRecDepth 100000 in
theorem mx_y_ck_64 : ((List.range 8).all fun i => Nat.beq (64 + i) 0 || (Nat.ble 194 (64 + i) || mx_yck (64 + i))) = true := by decide +kernel
set_option maxRecDepth 100000 in
theorem mx_y_ck_72 : ((List.range 8).all fun i => Nat.beq (72 + i) 0 || (Nat.ble 194 (72 + i) || mx_yck (72 + i))) = true := by decide +kernel
set_option maxRecDepth 100000 in
theorem mx_y_ck_80 : ((List.range 8).all fun i => Nat.beq (80 + i) 0 || (Nat.ble 194 (80 + i) || mx_yck (80 + i))) = true := by decide +kernel
set_option maxRecDepth 100000 in
theorem mx_y_ck_88 : ((List.range 8).all fun i => Nat.beq (88 + i) 0 || (Nat.ble 194 (88 + i) || mx_yck (88 + i))) = true := by decide +kernel
set_option maxRecDepth 100000 in
theorem mx_y_ck_96 : ((List.range 8).all fun i => Nat.beq (96 + i) 0 || (Nat.ble 194 (96 + i) || mx_yck (96 + i))) = true := by decide +kernel
set_option maxRecDepth 100000 in
theorem mx_y_ck_104 : ((List.range 8).all fun i => Nat.beq (104 + i) 0 || (Nat.ble 194 (104 + i) || mx_yck (104 + i))) = true := by decide +kernel
set_option maxRecDepth 100000 in
theorem mx_y_ck_112 : ((List.range 8).all fun i => Nat.beq (112 + i) 0 || (Nat.ble 194 (112 + i) || mx_yck (112 + i))) = true := by decide +kernel
set_option maxRecDepth 100000 in
theorem mx_y_ck_120 : ((List.range 8).all fun i => Nat.beq (120 + i) 0 || (Nat.ble 194 (120 + i) || mx_yck (120 + i))) = true := by decide +kernel
set_option maxRecDepth 100000 in
theorem mx_y_ck_128 : ((List.range 8).all fun i => Nat.beq (128 + i) 0 || (Nat.ble 194 (128 + i) || mx_yck (128 + i))) = true := by decide +kernel
set_option maxRecDepth 100000 in
theorem mx_y_ck_136 : ((List.range 8).all fun i => Nat.beq (136 + i) 0 || (Nat.ble 194 (136 + i) || mx_yck (136 + i))) = true := by decide +kernel
set_option maxRecDepth 100000 in
theorem mx_y_ck_144 : ((List.range 8).all fun i => Nat.beq (144 + i) 0 || (Nat.ble 194 (144 + i) || mx_yck (144 + i))) = true := by decide +kernel
set_option maxRecDepth 100000 in
theorem mx_y_ck_152 : ((List.range 8).all fun i => Nat.beq (152 + i) 0 || (Nat.ble 194 (152 + i) || mx_yck (152 + i))) = true := by decide +kernel
set_option maxRecDepth 100000 in
theorem mx_y_ck_160 : ((List.range 8).all fun i => Nat.beq (160 + i) 0 || (Nat.ble 194 (160 + i) || mx_yck (160 + i))) = true := by decide +kernel
set_option maxRecDepth 100000 in
theorem mx_y_ck_168 : ((List.range 8).all fun i => Nat.beq (168 + i) 0 || (Nat.ble 194 (168 + i) || mx_yck (168 + i))) = true := by decide +kernel
set_option maxRecDepth 100000 in
theorem mx_y_ck_176 : ((List.range 8).all fun i => Nat.beq (176 + i) 0 || (Nat.ble 194 (176 + i) || mx_yck (176 + i))) = true := by decide +kernel
set_option maxRecDepth 100000 in
theorem mx_y_ck_184 : ((List.range 8).all fun i => Nat.beq (184 + i) 0 || (Nat.ble 194 (184 + i) || mx_yck (184 + i))) = true := by decide +kernel
set_option maxRecDepth 100000 in
theorem mx_y_ck_192 : ((List.range 8).all fun i => Nat.beq (192 + i) 0 || (Nat.ble 194 (192 + i) || mx_yck (192 + i))) = true := by decide +kernel
theorem mx_y_ok {y : Nat} (h : y < 194) (h0 : y ≠ 0) : mx_yck y = true := by
  have go : ∀ b : Nat, ((List.range 8).all fun i => Nat.beq (b + i) 0 || (Nat.ble 194 (b + i) || mx_yck (b + i))) = true → b ≤ y → y < b + 8 → mx_yck y = true := by
    intro b hb h1 h2
    have h3 := List.all_eq_true.mp hb (y - b) (List.mem_range.mpr (by omega))
    rw [show b + (y - b) = y by omega] at h3
    rcases Bool.or_eq_true_iff.mp h3 with h4 | h4
    · exact absurd (Nat.eq_of_beq_eq_true h4) h0
    · rcases Bool.or_eq_true_iff.mp h4 with h5 | h5
      · have := Nat.le_of_ble_eq_true h5; omega
      · exact h5
  by_cases h0 : y < 8
  · exact go 0 mx_y_ck_0 (by omega) (by omega)
  by_cases h8 : y < 16
  · exact go 8 mx_y_ck_8 (by omega) (by omega)
  by_cases h16 : y < 24
  · exact go 16 mx_y_ck_16 (by omega) (by omega)
  by_cases h24 : y < 32
  · exact go 24 mx_y_ck_24 (by omega) (by omega)
  by_cases h32 : y < 40
  · exact go 32 mx_y_ck_32 (by omega) (by omega)
  by_cases h40 : y < 48
  · exact go 40 mx_y_ck_40 (by omega) (by omega)
  by_cases h48 : y < 56
  · exact go 48 mx_y_ck_48 (by omega) (by omega)
  by_cases h56 : y < 64
  · exact go 56 mx_y_ck_56 (by omega) (by omega)
  by_cases h64 : y < 72
  · exact go 64 mx_y_ck_64 (by omega) (by omega)
  by_cases h72 : y < 80
  · exact go 72 mx_y_ck_72 (by omega) (by omega)
  by_cases h80 : y < 88
  · exact go 80 mx_y_ck_80 (by omega) (by omega)
  by_cases h88 : y < 96
  · exact go 88 mx_y_ck_88 (by omega) (by omega)
  by_cases h96 : y < 104
  · exact go 96 mx_y_ck_96 (by omega) (by omega)
  by_cases h104 : y < 112
  · exact go 104 mx_y_ck_104 (by omega) (by omega)
  by_cases h112 : y < 120
  · exact go 112 mx_y_ck_112 (by omega) (by omega)
  by_cases h120 : y < 128
  · exact go 120 mx_y_ck_120 (by omega) (by omega)
  by_cases h128 : y < 136
  · exact go 128 mx_y_ck_128 (by omega) (by omega)
  by_cases h136 : y < 144
  · exact go 136 mx_y_ck_136 (by omega) (by omega)
  by_cases h144 : y < 152
  · exact go 144 mx_y_ck_144 (by omega) (by omega)
  by_cases h152 : y < 160
  · exact go 152 mx_y_ck_152 (by omega) (by omega)
  by_cases h160 : y < 168
  · exact go 160 mx_y_ck_160 (by omega) (by omega)
  by_cases h168 : y < 176
  · exact go 168 mx_y_ck_168 (by omega) (by omega)
  by_cases h176 : y < 184
  · exact go 176 mx_y_ck_176 (by omega) (by omega)
  by_cases h184 : y < 192
  · exact go 184 mx_y_ck_184 (by omega) (by omega)
  by_cases h192 : y < 200
  · exact go 192 mx_y_ck_192 (by omega) (by omega)
  omega
