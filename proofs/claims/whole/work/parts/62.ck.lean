set_option maxRecDepth 100000 in
theorem mx_ck_1 : mx_ckM 1 = true := by decide +kernel
set_option maxRecDepth 100000 in
theorem mx_ck_2 : mx_ckM 2 = true := by decide +kernel
set_option maxRecDepth 100000 in
theorem mx_ck_3 : mx_ckM 3 = true := by decide +kernel
set_option maxRecDepth 100000 in
theorem mx_ck_4 : mx_ckM 4 = true := by decide +kernel
set_option maxRecDepth 100000 in
theorem mx_ck_5 : mx_ckM 5 = true := by decide +kernel
set_option maxRecDepth 100000 in
theorem mx_ck_6 : mx_ckM 6 = true := by decide +kernel
set_option maxRecDepth 100000 in
theorem mx_ck_7 : mx_ckM 7 = true := by decide +kernel
set_option maxRecDepth 100000 in
theorem mx_ck_8 : mx_ckM 8 = true := by decide +kernel
set_option maxRecDepth 100000 in
theorem mx_ck_9 : mx_ckM 9 = true := by decide +kernel
set_option maxRecDepth 100000 in
theorem mx_ck_10 : mx_ckM 10 = true := by decide +kernel
set_option maxRecDepth 100000 in
theorem mx_ck_11 : mx_ckM 11 = true := by decide +kernel
set_option maxRecDepth 100000 in
theorem mx_ck_12 : mx_ckM 12 = true := by decide +kernel
set_option maxRecDepth 100000 in
theorem mx_ck_13 : mx_ckM 13 = true := by decide +kernel
set_option maxRecDepth 100000 in
theorem mx_ck_14 : mx_ckM 14 = true := by decide +kernel
set_option maxRecDepth 100000 in
theorem mx_ck_15 : mx_ckM 15 = true := by decide +kernel
set_option maxRecDepth 100000 in
theorem mx_ck_16 : mx_ckM 16 = true := by decide +kernel
set_option maxRecDepth 100000 in
theorem mx_ck_17 : mx_ckM 17 = true := by decide +kernel
set_option maxRecDepth 100000 in
theorem mx_ck_18 : mx_ckM 18 = true := by decide +kernel
set_option maxRecDepth 100000 in
theorem mx_ck_19 : mx_ckM 19 = true := by decide +kernel
set_option maxRecDepth 100000 in
theorem mx_ck_20 : mx_ckM 20 = true := by decide +kernel
set_option maxRecDepth 100000 in
theorem mx_ck_21 : mx_ckM 21 = true := by decide +kernel
set_option maxRecDepth 100000 in
theorem mx_ck_22 : mx_ckM 22 = true := by decide +kernel
set_option maxRecDepth 100000 in
theorem mx_ck_23 : mx_ckM 23 = true := by decide +kernel
set_option maxRecDepth 100000 in
theorem mx_ck_24 : mx_ckM 24 = true := by decide +kernel
set_option maxRecDepth 100000 in
theorem mx_ck_25 : mx_ckM 25 = true := by decide +kernel
set_option maxRecDepth 100000 in
theorem mx_ck_26 : mx_ckM 26 = true := by decide +kernel
set_option maxRecDepth 100000 in
theorem mx_ck_27 : mx_ckM 27 = true := by decide +kernel
set_option maxRecDepth 100000 in
theorem mx_ck_28 : mx_ckM 28 = true := by decide +kernel
set_option maxRecDepth 100000 in
theorem mx_ck_29 : mx_ckM 29 = true := by decide +kernel
set_option maxRecDepth 100000 in
theorem mx_ck_30 : mx_ckM 30 = true := by decide +kernel
set_option maxRecDepth 100000 in
theorem mx_ck_31 : mx_ckM 31 = true := by decide +kernel
set_option maxRecDepth 100000 in
theorem mx_ck_32 : mx_ckM 32 = true := by decide +kernel
set_option maxRecDepth 100000 in
theorem mx_ck_33 : mx_ckM 33 = true := by decide +kernel
set_option maxRecDepth 100000 in
theorem mx_ck_34 : mx_ckM 34 = true := by decide +kernel
set_option maxRecDepth 100000 in
theorem mx_ck_35 : mx_ckM 35 = true := by decide +kernel
set_option maxRecDepth 100000 in
theorem mx_ck_36 : mx_ckM 36 = true := by decide +kernel
set_option maxRecDepth 100000 in
theorem mx_ck_37 : mx_ckM 37 = true := by decide +kernel
set_option maxRecDepth 100000 in
theorem mx_ck_38 : mx_ckM 38 = true := by decide +kernel
set_option maxRecDepth 100000 in
theorem mx_ck_39 : mx_ckM 39 = true := by decide +kernel
set_option maxRecDepth 100000 in
theorem mx_ck_40 : mx_ckM 40 = true := by decide +kernel
set_option maxRecDepth 100000 in
theorem mx_ck_41 : mx_ckM 41 = true := by decide +kernel
set_option maxRecDepth 100000 in
theorem mx_ck_42 : mx_ckM 42 = true := by decide +kernel
set_option maxRecDepth 100000 in
theorem mx_ck_43 : mx_ckM 43 = true := by decide +kernel
set_option maxRecDepth 100000 in
theorem mx_ck_44 : mx_ckM 44 = true := by decide +kernel
set_option maxRecDepth 100000 in
theorem mx_ck_45 : mx_ckM 45 = true := by decide +kernel
set_option maxRecDepth 100000 in
theorem mx_ck_46 : mx_ckM 46 = true := by decide +kernel
set_option maxRecDepth 100000 in
theorem mx_ck_47 : mx_ckM 47 = true := by decide +kernel
set_option maxRecDepth 100000 in
theorem mx_ck_48 : mx_ckM 48 = true := by decide +kernel
set_option maxRecDepth 100000 in
theorem mx_ck_49 : mx_ckM 49 = true := by decide +kernel
set_option maxRecDepth 100000 in
theorem mx_ck_50 : mx_ckM 50 = true := by decide +kernel
set_option maxRecDepth 100000 in
theorem mx_ck_51 : mx_ckM 51 = true := by decide +kernel
set_option maxRecDepth 100000 in
theorem mx_ck_52 : mx_ckM 52 = true := by decide +kernel
set_option maxRecDepth 100000 in
theorem mx_ck_53 : mx_ckM 53 = true := by decide +kernel
set_option maxRecDepth 100000 in
theorem mx_ck_54 : mx_ckM 54 = true := by decide +kernel
set_option maxRecDepth 100000 in
theorem mx_ck_55 : mx_ckM 55 = true := by decide +kernel
set_option maxRecDepth 100000 in
theorem mx_ck_56 : mx_ckM 56 = true := by decide +kernel
set_option maxRecDepth 100000 in
theorem mx_ck_57 : mx_ckM 57 = true := by decide +kernel
set_option maxRecDepth 100000 in
theorem mx_ck_58 : mx_ckM 58 = true := by decide +kernel
set_option maxRecDepth 100000 in
theorem mx_ck_59 : mx_ckM 59 = true := by decide +kernel
set_option maxRecDepth 100000 in
theorem mx_ck_60 : mx_ckM 60 = true := by decide +kernel
set_option maxRecDepth 100000 in
theorem mx_ck_61 : mx_ckM 61 = true := by decide +kernel
set_option maxRecDepth 100000 in
theorem mx_ck_62 : mx_ckM 62 = true := by decide +kernel
set_option maxRecDepth 100000 in
theorem mx_ck_63 : mx_ckM 63 = true := by decide +kernel
set_option maxRecDepth 100000 in
theorem mx_ck_64 : mx_ckM 64 = true := by decide +kernel
set_option maxRecDepth 100000 in
theorem mx_ck_65 : mx_ckM 65 = true := by decide +kernel
