theorem ngW_b {S : rS} (hB : Bd S) {a f : Int} (hf : 0 ≤ f ∧ f < 7) : 0 ≤ ngW S a f ∧ ngW S a f ≤ 1000034 := by
  have q1 := mM_r hB hf
  have q2 : 0 ≤ S 235 (7 * a + f) ∧ S 235 (7 * a + f) ≤ 1000000 := hB 235 _
  unfold ngW; omega
theorem Bd_mw {S : rS} (hB : Bd S) {d f : Int} (h5 : d ≠ 0 → 0 ≤ S 245 (d - 1) ∧ S 245 (d - 1) ≤ 6) (hf : 0 ≤ f ∧ f < 7) (h6 : S 246 d ≤ 99) : Bd (mx_up S 246 (d + 1) (S 246 d + ngW S (aT S S d) f)) := by
  have b6 : 0 ≤ S 246 d ∧ S 246 d ≤ 4000000 := hB 246 d
  have q1 := mM_r hB hf
  have q2 : 0 ≤ S 235 (7 * aT S S d + f) ∧ S 235 (7 * aT S S d + f) ≤ 1000000 := hB 235 _
  refine Bd_up hB (show (0 : Int) ≤ _ from ?_) (show _ ≤ (4000000 : Int) from ?_)
  · unfold ngW; omega
  · unfold ngW; omega
theorem c_X11_mayWalk {d : Int} {f : Int} {met : Int} {S : rS} (hB : Bd S) (h_d : 0 ≤ d ∧ d < 8) (h_f : 0 ≤ f ∧ f < 7) (h_m : 0 ≤ met ∧ met < 128) (h_5 : d ≠ 0 → 0 ≤ S 245 (d - 1) ∧ S 245 (d - 1) ≤ 6) (h_6 : S 246 d ≤ 99) : CS 3 103 [.inr (.inr 232), .inl d, .inl f, .inl met] S (fun r' S' => r' = some (.inl (bi (myW S met (aT S S d) (S 246 d) f))) ∧ S' = mx_up S 246 (d + 1) (S 246 d + ngW S (aT S S d) f)) := by
  refine RS.beg (ls := [some (.inr (.inr 232)), some (.inl d), some (.inl f), some (.inl met), none]) rfl rfl rfl rfl rfl ?_
  have s7 : 0 ≤ S 236 7 ∧ S 236 7 ≤ 99 := hB 236 7
  have s8 : 0 ≤ S 236 8 ∧ S 236 8 ≤ 999 := hB 236 8
  have s9 : 0 ≤ S 236 9 ∧ S 236 9 ≤ 127 := hB 236 9
  have s10 : 0 ≤ S 236 10 ∧ S 236 10 ≤ 9 := hB 236 10
  have s11 : 0 ≤ S 236 11 ∧ S 236 11 ≤ 6 := hB 236 11
  have dk : 0 ≤ S 233 186 ∧ S 233 186 ≤ 99 := hB 233 186
  have b1 : 0 ≤ S 236 11 ∧ S 236 11 ≤ 6 := hB 236 11
  have b6 : 0 ≤ S 246 d ∧ S 246 d ≤ 4000000 := hB 246 d
  have mM := mM_r hB h_f
  have bl := lf8 hB h_f
  refine r_iload (pc' := 1) rfl rfl rfl ?_
  by_cases h1 : d = 0
  · refine r_if_ne0 (pc' := 4) rfl rfl (by omega) (by omega) ?_
    refine r_aload (pc' := 5) rfl rfl rfl ?_
    refine r_getr (pc' := 8) (v := 236) rfl rfl rfl rfl rfl ?_
    refine r_const (pc' := 10) rfl rfl ?_
    refine r_aldv (pc' := 11) (v := (S 236 11)) 12 rfl rfl rfl (by omega) rfl ?_
    have b2 : 0 ≤ S 236 11 ∧ S 236 11 ≤ 6 := hB 236 11
    refine r_goto (pc' := 22) rfl rfl ?_
    refine r_istore (pc' := 24) (ls' := [some (.inr (.inr 232)), some (.inl d), some (.inl f), some (.inl met), some (.inl (S 236 11))]) rfl rfl rfl rfl ?_
    refine r_aload (pc' := 25) rfl rfl rfl ?_
    refine r_getr (pc' := 28) (v := 246) rfl rfl rfl rfl rfl ?_
    refine r_iload (pc' := 29) rfl rfl rfl ?_
    refine r_const (pc' := 30) rfl rfl ?_
    refine r_iadd (pc' := 31) rfl rfl ?_
    refine r_aload (pc' := 32) rfl rfl rfl ?_
    refine r_getr (pc' := 35) (v := 246) rfl rfl rfl rfl rfl ?_
    refine r_iload (pc' := 36) rfl rfl rfl ?_
    refine r_aldv (pc' := 37) (v := (S 246 d)) 9 rfl rfl rfl (by omega) rfl ?_
    have b3 : 0 ≤ S 246 d ∧ S 246 d ≤ 4000000 := hB 246 d
    refine r_aload (pc' := 38) rfl rfl rfl ?_
    refine r_getr (pc' := 41) (v := 235) rfl rfl rfl rfl rfl ?_
    refine r_const (pc' := 43) rfl rfl ?_
    refine r_iload (pc' := 45) rfl rfl rfl ?_
    refine r_imul (pc' := 46) rfl rfl ?_
    refine r_iload (pc' := 47) rfl rfl rfl ?_
    refine r_iadd (pc' := 48) rfl rfl ?_
    refine r_aldv (pc' := 49) (v := (S 235 ((7 * (S 236 11)) + f))) 49 rfl rfl rfl (by omega) rfl ?_
    have b4 : 0 ≤ S 235 ((7 * (S 236 11)) + f) ∧ S 235 ((7 * (S 236 11)) + f) ≤ 1000000 := hB 235 ((7 * (S 236 11)) + f)
    refine r_iadd (pc' := 50) rfl rfl ?_
    refine r_aload (pc' := 51) rfl rfl rfl ?_
    refine r_iload (pc' := 52) rfl rfl rfl ?_
    have b5 := bdc_233_1 hB f
    have b6 := bdc_236_0 hB f
    refine q_callE (pc' := 55) (w := some (.inl (mins (S 233 (1 + f)) (pop (S 236 (0 + f)))))) (S2 := S) (st' := [.inl (mins (S 233 (1 + f)) (pop (S 236 (0 + f)))), .inl ((S 246 d) + (S 235 ((7 * (S 236 11)) + f))), .inl (d + 1), .inr (.inr 246)]) rfl rfl rfl (c_X11_minutesAt (f := f) (S := S) hB (show 0 ≤ f ∧ f < 7 from by omega)) (by decide) rfl rfl (Nat.le_of_ble_eq_true rfl) (fun _ _ => ⟨_, _, rfl, rfl⟩) rfl rfl ?_
    have b7 : 0 ≤ (mins (S 233 (1 + f)) (pop (S 236 (0 + f)))) ∧ (mins (S 233 (1 + f)) (pop (S 236 (0 + f)))) ≤ 34 := mM_r hB (by omega)
    refine r_iadd (pc' := 56) rfl rfl ?_
    refine r_ast (pc' := 57) 9 rfl rfl rfl (by omega) ?_
    refine r_iload (pc' := 58) rfl rfl rfl ?_
    refine r_iload (pc' := 59) rfl rfl rfl ?_
    by_cases h8 : tb met f
    · skip
      refine q_callE (pc' := 62) (w := some (.inl 1)) (S2 := mx_up S 246 (d + 1) (((S 246 d) + (S 235 ((7 * (S 236 11)) + f))) + (mins (S 233 (1 + f)) (pop (S 236 (0 + f)))))) (st' := [.inl 1]) rfl rfl rfl (bi_pos h8 (c_X11_has (s := met) (q := f) (S := mx_up S 246 (d + 1) (((S 246 d) + (S 235 ((7 * (S 236 11)) + f))) + (mins (S 233 (1 + f)) (pop (S 236 (0 + f))))))  (show -2147483648 ≤ met ∧ met < 2147483648 from by omega) (show 0 ≤ f ∧ f < 32 from by omega))) (by decide) rfl rfl (Nat.le_of_ble_eq_true rfl) (fun q => absurd rfl q) rfl rfl ?_
      refine r_if_ne1 (pc' := 96) rfl rfl (by decide) (by decide) ?_
      refine r_const (pc' := 97) rfl rfl ?_
      refine q_zret rfl rfl rfl (by omega) ?_
      have ea : aT S S d = S 236 11 := if_pos h1
      exact ⟨congrArg (fun z => some (Sum.inl z)) (bi_0 (fun q => q.1 h8)).symm, by rw [ea]; unfold ngW; rw [← Int.add_assoc]⟩
    · skip
      refine q_callE (pc' := 62) (w := some (.inl 0)) (S2 := mx_up S 246 (d + 1) (((S 246 d) + (S 235 ((7 * (S 236 11)) + f))) + (mins (S 233 (1 + f)) (pop (S 236 (0 + f)))))) (st' := [.inl 0]) rfl rfl rfl (bi_neg h8 (c_X11_has (s := met) (q := f) (S := mx_up S 246 (d + 1) (((S 246 d) + (S 235 ((7 * (S 236 11)) + f))) + (mins (S 233 (1 + f)) (pop (S 236 (0 + f))))))  (show -2147483648 ≤ met ∧ met < 2147483648 from by omega) (show 0 ≤ f ∧ f < 32 from by omega))) (by decide) rfl rfl (Nat.le_of_ble_eq_true rfl) (fun q => absurd rfl q) rfl rfl ?_
      refine r_if_ne0 (pc' := 65) rfl rfl (by decide) (by decide) ?_
      refine r_aload (pc' := 66) rfl rfl rfl ?_
      refine r_iload (pc' := 67) rfl rfl rfl ?_
      by_cases h9 : (mx_up S 246 (d + 1) (((S 246 d) + (S 235 ((7 * (S 236 11)) + f))) + (mins (S 233 (1 + f)) (pop (S 236 (0 + f)))))) 233 (1 + f) ≠ 1 ∨ (mx_up S 246 (d + 1) (((S 246 d) + (S 235 ((7 * (S 236 11)) + f))) + (mins (S 233 (1 + f)) (pop (S 236 (0 + f)))))) 236 10 < 5
      · skip
        refine q_callE (pc' := 70) (w := some (.inl 1)) (S2 := mx_up S 246 (d + 1) (((S 246 d) + (S 235 ((7 * (S 236 11)) + f))) + (mins (S 233 (1 + f)) (pop (S 236 (0 + f)))))) (st' := [.inl 1]) rfl rfl rfl (bi_pos h9 (c_X11_mayRead (f := f) (S := mx_up S 246 (d + 1) (((S 246 d) + (S 235 ((7 * (S 236 11)) + f))) + (mins (S 233 (1 + f)) (pop (S 236 (0 + f)))))) (Bd_up hB (show (0 : Int) ≤ (((S 246 d) + (S 235 ((7 * (S 236 11)) + f))) + (mins (S 233 (1 + f)) (pop (S 236 (0 + f))))) from by omega) (show (((S 246 d) + (S 235 ((7 * (S 236 11)) + f))) + (mins (S 233 (1 + f)) (pop (S 236 (0 + f))))) ≤ (4000000 : Int) from by omega)) (show 0 ≤ f ∧ f < 7 from by omega))) (by decide) rfl rfl (Nat.le_of_ble_eq_true rfl) (fun _ _ => ⟨_, _, rfl, rfl⟩) rfl rfl ?_
        refine r_if_eq0 (pc' := 73) rfl rfl (by decide) (by decide) ?_
        refine r_aload (pc' := 74) rfl rfl rfl ?_
        refine r_getr (pc' := 77) (v := 246) rfl rfl rfl rfl rfl ?_
        refine r_iload (pc' := 78) rfl rfl rfl ?_
        refine r_const (pc' := 79) rfl rfl ?_
        refine r_iadd (pc' := 80) rfl rfl ?_
        refine r_aldv (pc' := 81) (v := (((S 246 d) + (S 235 ((7 * (S 236 11)) + f))) + (mins (S 233 (1 + f)) (pop (S 236 (0 + f)))))) 9 rfl rfl rfl (by omega) (by first | rfl | exact up_eq) ?_
        refine r_aload (pc' := 82) rfl rfl rfl ?_
        refine r_getr (pc' := 85) (v := 233) rfl rfl rfl rfl rfl ?_
        refine r_const (pc' := 88) rfl rfl ?_
        refine r_aldv (pc' := 89) (v := (S 233 186)) 187 rfl rfl rfl (by omega) rfl ?_
        have b10 : 0 ≤ S 233 186 ∧ S 233 186 ≤ 99 := hB 233 186
        by_cases h11 : (S 233 186) < (((S 246 d) + (S 235 ((7 * (S 236 11)) + f))) + (mins (S 233 (1 + f)) (pop (S 236 (0 + f)))))
        · refine r_icmp_gt1 (pc' := 96) rfl rfl (by omega) (by omega) ?_
          refine r_const (pc' := 97) rfl rfl ?_
          refine q_zret rfl rfl rfl (by omega) ?_
          have ea : aT S S d = S 236 11 := if_pos h1
          exact ⟨congrArg (fun z => some (Sum.inl z)) (bi_0 (fun q => by have q := q.2.2; rw [ea] at q; unfold ngW at q; omega)).symm, by rw [ea]; unfold ngW; rw [← Int.add_assoc]⟩
        · refine r_icmp_gt0 (pc' := 92) rfl rfl (by omega) (by omega) ?_
          refine r_const (pc' := 93) rfl rfl ?_
          refine r_goto (pc' := 97) rfl rfl ?_
          refine q_zret rfl rfl rfl (by omega) ?_
          have ea : aT S S d = S 236 11 := if_pos h1
          exact ⟨congrArg (fun z => some (Sum.inl z)) (bi_1 ⟨h8, h9, by rw [ea]; unfold ngW; omega⟩).symm, by rw [ea]; unfold ngW; rw [← Int.add_assoc]⟩
      · skip
        refine q_callE (pc' := 70) (w := some (.inl 0)) (S2 := mx_up S 246 (d + 1) (((S 246 d) + (S 235 ((7 * (S 236 11)) + f))) + (mins (S 233 (1 + f)) (pop (S 236 (0 + f)))))) (st' := [.inl 0]) rfl rfl rfl (bi_neg h9 (c_X11_mayRead (f := f) (S := mx_up S 246 (d + 1) (((S 246 d) + (S 235 ((7 * (S 236 11)) + f))) + (mins (S 233 (1 + f)) (pop (S 236 (0 + f)))))) (Bd_up hB (show (0 : Int) ≤ (((S 246 d) + (S 235 ((7 * (S 236 11)) + f))) + (mins (S 233 (1 + f)) (pop (S 236 (0 + f))))) from by omega) (show (((S 246 d) + (S 235 ((7 * (S 236 11)) + f))) + (mins (S 233 (1 + f)) (pop (S 236 (0 + f))))) ≤ (4000000 : Int) from by omega)) (show 0 ≤ f ∧ f < 7 from by omega))) (by decide) rfl rfl (Nat.le_of_ble_eq_true rfl) (fun _ _ => ⟨_, _, rfl, rfl⟩) rfl rfl ?_
        refine r_if_eq1 (pc' := 96) rfl rfl (by decide) (by decide) ?_
        refine r_const (pc' := 97) rfl rfl ?_
        refine q_zret rfl rfl rfl (by omega) ?_
        have ea : aT S S d = S 236 11 := if_pos h1
        exact ⟨congrArg (fun z => some (Sum.inl z)) (bi_0 (fun q => h9 q.2.1)).symm, by rw [ea]; unfold ngW; rw [← Int.add_assoc]⟩
  · refine r_if_ne1 (pc' := 14) rfl rfl (by omega) (by omega) ?_
    refine r_aload (pc' := 15) rfl rfl rfl ?_
    refine r_getr (pc' := 18) (v := 245) rfl rfl rfl rfl rfl ?_
    refine r_iload (pc' := 19) rfl rfl rfl ?_
    refine r_const (pc' := 20) rfl rfl ?_
    refine r_isub (pc' := 21) rfl rfl ?_
    refine r_aldv (pc' := 22) (v := (S 245 (d - 1))) 8 rfl rfl rfl (by omega) rfl ?_
    have b12 : -1 ≤ S 245 (d - 1) ∧ S 245 (d - 1) ≤ 7 := hB 245 (d - 1)
    refine r_istore (pc' := 24) (ls' := [some (.inr (.inr 232)), some (.inl d), some (.inl f), some (.inl met), some (.inl (S 245 (d - 1)))]) rfl rfl rfl rfl ?_
    refine r_aload (pc' := 25) rfl rfl rfl ?_
    refine r_getr (pc' := 28) (v := 246) rfl rfl rfl rfl rfl ?_
    refine r_iload (pc' := 29) rfl rfl rfl ?_
    refine r_const (pc' := 30) rfl rfl ?_
    refine r_iadd (pc' := 31) rfl rfl ?_
    refine r_aload (pc' := 32) rfl rfl rfl ?_
    refine r_getr (pc' := 35) (v := 246) rfl rfl rfl rfl rfl ?_
    refine r_iload (pc' := 36) rfl rfl rfl ?_
    refine r_aldv (pc' := 37) (v := (S 246 d)) 9 rfl rfl rfl (by omega) rfl ?_
    have b13 : 0 ≤ S 246 d ∧ S 246 d ≤ 4000000 := hB 246 d
    refine r_aload (pc' := 38) rfl rfl rfl ?_
    refine r_getr (pc' := 41) (v := 235) rfl rfl rfl rfl rfl ?_
    refine r_const (pc' := 43) rfl rfl ?_
    refine r_iload (pc' := 45) rfl rfl rfl ?_
    refine r_imul (pc' := 46) rfl rfl ?_
    refine r_iload (pc' := 47) rfl rfl rfl ?_
    refine r_iadd (pc' := 48) rfl rfl ?_
    refine r_aldv (pc' := 49) (v := (S 235 ((7 * (S 245 (d - 1))) + f))) 49 rfl rfl rfl (by omega) rfl ?_
    have b14 : 0 ≤ S 235 ((7 * (S 245 (d - 1))) + f) ∧ S 235 ((7 * (S 245 (d - 1))) + f) ≤ 1000000 := hB 235 ((7 * (S 245 (d - 1))) + f)
    refine r_iadd (pc' := 50) rfl rfl ?_
    refine r_aload (pc' := 51) rfl rfl rfl ?_
    refine r_iload (pc' := 52) rfl rfl rfl ?_
    have b15 := bdc_233_1 hB f
    have b16 := bdc_236_0 hB f
    refine q_callE (pc' := 55) (w := some (.inl (mins (S 233 (1 + f)) (pop (S 236 (0 + f)))))) (S2 := S) (st' := [.inl (mins (S 233 (1 + f)) (pop (S 236 (0 + f)))), .inl ((S 246 d) + (S 235 ((7 * (S 245 (d - 1))) + f))), .inl (d + 1), .inr (.inr 246)]) rfl rfl rfl (c_X11_minutesAt (f := f) (S := S) hB (show 0 ≤ f ∧ f < 7 from by omega)) (by decide) rfl rfl (Nat.le_of_ble_eq_true rfl) (fun _ _ => ⟨_, _, rfl, rfl⟩) rfl rfl ?_
    have b17 : 0 ≤ (mins (S 233 (1 + f)) (pop (S 236 (0 + f)))) ∧ (mins (S 233 (1 + f)) (pop (S 236 (0 + f)))) ≤ 34 := mM_r hB (by omega)
    refine r_iadd (pc' := 56) rfl rfl ?_
    refine r_ast (pc' := 57) 9 rfl rfl rfl (by omega) ?_
    refine r_iload (pc' := 58) rfl rfl rfl ?_
    refine r_iload (pc' := 59) rfl rfl rfl ?_
    by_cases h18 : tb met f
    · skip
      refine q_callE (pc' := 62) (w := some (.inl 1)) (S2 := mx_up S 246 (d + 1) (((S 246 d) + (S 235 ((7 * (S 245 (d - 1))) + f))) + (mins (S 233 (1 + f)) (pop (S 236 (0 + f)))))) (st' := [.inl 1]) rfl rfl rfl (bi_pos h18 (c_X11_has (s := met) (q := f) (S := mx_up S 246 (d + 1) (((S 246 d) + (S 235 ((7 * (S 245 (d - 1))) + f))) + (mins (S 233 (1 + f)) (pop (S 236 (0 + f))))))  (show -2147483648 ≤ met ∧ met < 2147483648 from by omega) (show 0 ≤ f ∧ f < 32 from by omega))) (by decide) rfl rfl (Nat.le_of_ble_eq_true rfl) (fun q => absurd rfl q) rfl rfl ?_
      refine r_if_ne1 (pc' := 96) rfl rfl (by decide) (by decide) ?_
      refine r_const (pc' := 97) rfl rfl ?_
      refine q_zret rfl rfl rfl (by omega) ?_
      have ea : aT S S d = S 245 (d - 1) := if_neg h1
      exact ⟨congrArg (fun z => some (Sum.inl z)) (bi_0 (fun q => q.1 h18)).symm, by rw [ea]; unfold ngW; rw [← Int.add_assoc]⟩
    · skip
      refine q_callE (pc' := 62) (w := some (.inl 0)) (S2 := mx_up S 246 (d + 1) (((S 246 d) + (S 235 ((7 * (S 245 (d - 1))) + f))) + (mins (S 233 (1 + f)) (pop (S 236 (0 + f)))))) (st' := [.inl 0]) rfl rfl rfl (bi_neg h18 (c_X11_has (s := met) (q := f) (S := mx_up S 246 (d + 1) (((S 246 d) + (S 235 ((7 * (S 245 (d - 1))) + f))) + (mins (S 233 (1 + f)) (pop (S 236 (0 + f))))))  (show -2147483648 ≤ met ∧ met < 2147483648 from by omega) (show 0 ≤ f ∧ f < 32 from by omega))) (by decide) rfl rfl (Nat.le_of_ble_eq_true rfl) (fun q => absurd rfl q) rfl rfl ?_
      refine r_if_ne0 (pc' := 65) rfl rfl (by decide) (by decide) ?_
      refine r_aload (pc' := 66) rfl rfl rfl ?_
      refine r_iload (pc' := 67) rfl rfl rfl ?_
      by_cases h19 : (mx_up S 246 (d + 1) (((S 246 d) + (S 235 ((7 * (S 245 (d - 1))) + f))) + (mins (S 233 (1 + f)) (pop (S 236 (0 + f)))))) 233 (1 + f) ≠ 1 ∨ (mx_up S 246 (d + 1) (((S 246 d) + (S 235 ((7 * (S 245 (d - 1))) + f))) + (mins (S 233 (1 + f)) (pop (S 236 (0 + f)))))) 236 10 < 5
      · skip
        refine q_callE (pc' := 70) (w := some (.inl 1)) (S2 := mx_up S 246 (d + 1) (((S 246 d) + (S 235 ((7 * (S 245 (d - 1))) + f))) + (mins (S 233 (1 + f)) (pop (S 236 (0 + f)))))) (st' := [.inl 1]) rfl rfl rfl (bi_pos h19 (c_X11_mayRead (f := f) (S := mx_up S 246 (d + 1) (((S 246 d) + (S 235 ((7 * (S 245 (d - 1))) + f))) + (mins (S 233 (1 + f)) (pop (S 236 (0 + f)))))) (Bd_up hB (show (0 : Int) ≤ (((S 246 d) + (S 235 ((7 * (S 245 (d - 1))) + f))) + (mins (S 233 (1 + f)) (pop (S 236 (0 + f))))) from by omega) (show (((S 246 d) + (S 235 ((7 * (S 245 (d - 1))) + f))) + (mins (S 233 (1 + f)) (pop (S 236 (0 + f))))) ≤ (4000000 : Int) from by omega)) (show 0 ≤ f ∧ f < 7 from by omega))) (by decide) rfl rfl (Nat.le_of_ble_eq_true rfl) (fun _ _ => ⟨_, _, rfl, rfl⟩) rfl rfl ?_
        refine r_if_eq0 (pc' := 73) rfl rfl (by decide) (by decide) ?_
        refine r_aload (pc' := 74) rfl rfl rfl ?_
        refine r_getr (pc' := 77) (v := 246) rfl rfl rfl rfl rfl ?_
        refine r_iload (pc' := 78) rfl rfl rfl ?_
        refine r_const (pc' := 79) rfl rfl ?_
        refine r_iadd (pc' := 80) rfl rfl ?_
        refine r_aldv (pc' := 81) (v := (((S 246 d) + (S 235 ((7 * (S 245 (d - 1))) + f))) + (mins (S 233 (1 + f)) (pop (S 236 (0 + f)))))) 9 rfl rfl rfl (by omega) (by first | rfl | exact up_eq) ?_
        refine r_aload (pc' := 82) rfl rfl rfl ?_
        refine r_getr (pc' := 85) (v := 233) rfl rfl rfl rfl rfl ?_
        refine r_const (pc' := 88) rfl rfl ?_
        refine r_aldv (pc' := 89) (v := (S 233 186)) 187 rfl rfl rfl (by omega) rfl ?_
        have b20 : 0 ≤ S 233 186 ∧ S 233 186 ≤ 99 := hB 233 186
        by_cases h21 : (S 233 186) < (((S 246 d) + (S 235 ((7 * (S 245 (d - 1))) + f))) + (mins (S 233 (1 + f)) (pop (S 236 (0 + f)))))
        · refine r_icmp_gt1 (pc' := 96) rfl rfl (by omega) (by omega) ?_
          refine r_const (pc' := 97) rfl rfl ?_
          refine q_zret rfl rfl rfl (by omega) ?_
          have ea : aT S S d = S 245 (d - 1) := if_neg h1
          exact ⟨congrArg (fun z => some (Sum.inl z)) (bi_0 (fun q => by have q := q.2.2; rw [ea] at q; unfold ngW at q; omega)).symm, by rw [ea]; unfold ngW; rw [← Int.add_assoc]⟩
        · refine r_icmp_gt0 (pc' := 92) rfl rfl (by omega) (by omega) ?_
          refine r_const (pc' := 93) rfl rfl ?_
          refine r_goto (pc' := 97) rfl rfl ?_
          refine q_zret rfl rfl rfl (by omega) ?_
          have ea : aT S S d = S 245 (d - 1) := if_neg h1
          exact ⟨congrArg (fun z => some (Sum.inl z)) (bi_1 ⟨h18, h19, by rw [ea]; unfold ngW; omega⟩).symm, by rw [ea]; unfold ngW; rw [← Int.add_assoc]⟩
      · skip
        refine q_callE (pc' := 70) (w := some (.inl 0)) (S2 := mx_up S 246 (d + 1) (((S 246 d) + (S 235 ((7 * (S 245 (d - 1))) + f))) + (mins (S 233 (1 + f)) (pop (S 236 (0 + f)))))) (st' := [.inl 0]) rfl rfl rfl (bi_neg h19 (c_X11_mayRead (f := f) (S := mx_up S 246 (d + 1) (((S 246 d) + (S 235 ((7 * (S 245 (d - 1))) + f))) + (mins (S 233 (1 + f)) (pop (S 236 (0 + f)))))) (Bd_up hB (show (0 : Int) ≤ (((S 246 d) + (S 235 ((7 * (S 245 (d - 1))) + f))) + (mins (S 233 (1 + f)) (pop (S 236 (0 + f))))) from by omega) (show (((S 246 d) + (S 235 ((7 * (S 245 (d - 1))) + f))) + (mins (S 233 (1 + f)) (pop (S 236 (0 + f))))) ≤ (4000000 : Int) from by omega)) (show 0 ≤ f ∧ f < 7 from by omega))) (by decide) rfl rfl (Nat.le_of_ble_eq_true rfl) (fun _ _ => ⟨_, _, rfl, rfl⟩) rfl rfl ?_
        refine r_if_eq1 (pc' := 96) rfl rfl (by decide) (by decide) ?_
        refine r_const (pc' := 97) rfl rfl ?_
        refine q_zret rfl rfl rfl (by omega) ?_
        have ea : aT S S d = S 245 (d - 1) := if_neg h1
        exact ⟨congrArg (fun z => some (Sum.inl z)) (bi_0 (fun q => h19 q.2.1)).symm, by rw [ea]; unfold ngW; rw [← Int.add_assoc]⟩
theorem c_X11_copies_wb {n : Int} {S : rS} (hB : Bd S) (h_n : 0 ≤ n ∧ n ≤ 8) (h_e : ∀ k : Int, 0 ≤ k → k < n → 0 ≤ S 245 k ∧ S 245 k ≤ 6) : CS 1 66 [.inr (.inr 245), .inl 0, .inr (.inr 248), .inl 0, .inl n] S (fun r' S' => r' = none ∧ S' = mx_cp S 245 0 248 0 n) := by
  refine RS.beg (ls := [some (.inr (.inr 245)), some (.inl 0), some (.inr (.inr 248)), some (.inl 0), some (.inl n), none]) rfl rfl rfl rfl rfl ?_
  have bz : ∀ k : Int, -1 ≤ S 245 k ∧ S 245 k ≤ 7 := fun k => hB 245 k
  refine r_const (pc' := 1) rfl rfl ?_
  refine r_istore (pc' := 3) (ls' := [some (.inr (.inr 245)), some (.inl 0), some (.inr (.inr 248)), some (.inl 0), some (.inl n), some (.inl 0)]) rfl rfl rfl rfl ?_
  refine r_mem (show S = mx_cp S 245 0 248 0 (0 : Int) from by exact cp_0 _ _ _ _ _) ?_
  refine r_while (α := Int) (fun z' => [some (.inr (.inr 245)), some (.inl 0), some (.inr (.inr 248)), some (.inl 0), some (.inl n), some (.inl z')]) (fun z' => mx_cp S 245 0 248 0 z') (fun z' => (0 ≤ z' ∧ z' ≤ n)) (fun z' => (n - z').toNat) ?_ 0 (show (0 ≤ (0 : Int) ∧ (0 : Int) ≤ n) from by omega)
  rintro k hI' ih3
  have hI' : (0 ≤ k ∧ k ≤ n) := hI'
  have i1 := hI'
  show RS _ _ _ _ [some (.inr (.inr 245)), some (.inl 0), some (.inr (.inr 248)), some (.inl 0), some (.inl n), some (.inl k)] [] (mx_cp S 245 0 248 0 k)
  refine r_iload (pc' := 5) rfl rfl rfl ?_
  refine r_iload (pc' := 7) rfl rfl rfl ?_
  by_cases h1 : k < n
  · refine r_icmp_ge0 (pc' := 10) rfl rfl (by omega) (by omega) ?_
    refine r_aload (pc' := 11) rfl rfl rfl ?_
    refine r_iload (pc' := 12) rfl rfl rfl ?_
    refine r_iload (pc' := 14) rfl rfl rfl ?_
    refine r_iadd (pc' := 15) rfl rfl ?_
    refine r_aload (pc' := 16) rfl rfl rfl ?_
    refine r_iload (pc' := 17) rfl rfl rfl ?_
    refine r_iload (pc' := 19) rfl rfl rfl ?_
    refine r_iadd (pc' := 20) rfl rfl ?_
    refine r_aldv (pc' := 21) (v := (S 245 (0 + k))) 8 rfl rfl rfl (by omega) (cp_o (by omega)) ?_
    have b2 : -1 ≤ S 245 (0 + k) ∧ S 245 (0 + k) ≤ 7 := hB 245 (0 + k)
    refine r_ast (pc' := 22) 8 rfl rfl rfl (by omega) ?_
    refine r_iinc (pc' := 25) (ls' := [some (.inr (.inr 245)), some (.inl 0), some (.inr (.inr 248)), some (.inl 0), some (.inl n), some (.inl (k + 1))]) rfl rfl rfl rfl rfl ?_
    refine r_goto (pc' := 3) rfl rfl ?_
    refine r_mem (show mx_up (mx_cp S 245 0 248 0 k) 248 (0 + k) (S 245 (0 + k)) = mx_cp S 245 0 248 0 (k + 1) from by exact cp_s (by omega) rfl (by omega) (by rw [Int.zero_add])) ?_
    exact ih3 (k + 1) (show (0 ≤ (k + 1) ∧ (k + 1) ≤ n) from by omega) (show (n - (k + 1)).toNat < (n - k).toNat from by omega)
  · refine r_icmp_ge1 (pc' := 28) rfl rfl (by omega) (by omega) ?_
    refine q_vret rfl rfl rfl ?_
    obtain rfl : k = n := by omega
    exact ⟨rfl, rfl⟩
theorem bd_bi {i j : Int} : bd_lo 244 j ≤ bd_lo 248 i ∧ bd_hi 248 i ≤ bd_hi 244 j := ⟨show (-2147483648 : Int) ≤ 0 by omega, show (6 : Int) ≤ 2147483647 by omega⟩
theorem c_X11_copies_bi {o : Int} {n : Int} {S : rS} (hB : Bd S) (h_n : 0 ≤ n ∧ n ≤ 8) (h_o : 0 ≤ o ∧ o + n ≤ 96) : CS 1 66 [.inr (.inr 248), .inl 0, .inr (.inr 244), .inl o, .inl n] S (fun r' S' => r' = none ∧ S' = mx_cp S 248 0 244 o n) := by
  refine RS.beg (ls := [some (.inr (.inr 248)), some (.inl 0), some (.inr (.inr 244)), some (.inl o), some (.inl n), none]) rfl rfl rfl rfl rfl ?_
  refine r_const (pc' := 1) rfl rfl ?_
  refine r_istore (pc' := 3) (ls' := [some (.inr (.inr 248)), some (.inl 0), some (.inr (.inr 244)), some (.inl o), some (.inl n), some (.inl 0)]) rfl rfl rfl rfl ?_
  refine r_mem (show S = mx_cp S 248 0 244 o (0 : Int) from by exact cp_0 _ _ _ _ _) ?_
  refine r_while (α := Int) (fun z' => [some (.inr (.inr 248)), some (.inl 0), some (.inr (.inr 244)), some (.inl o), some (.inl n), some (.inl z')]) (fun z' => mx_cp S 248 0 244 o z') (fun z' => (0 ≤ z' ∧ z' ≤ n)) (fun z' => (n - z').toNat) ?_ 0 (show (0 ≤ (0 : Int) ∧ (0 : Int) ≤ n) from by omega)
  rintro k hI' ih3
  have hI' : (0 ≤ k ∧ k ≤ n) := hI'
  have i1 := hI'
  show RS _ _ _ _ [some (.inr (.inr 248)), some (.inl 0), some (.inr (.inr 244)), some (.inl o), some (.inl n), some (.inl k)] [] (mx_cp S 248 0 244 o k)
  refine r_iload (pc' := 5) rfl rfl rfl ?_
  refine r_iload (pc' := 7) rfl rfl rfl ?_
  by_cases h1 : k < n
  · refine r_icmp_ge0 (pc' := 10) rfl rfl (by omega) (by omega) ?_
    refine r_aload (pc' := 11) rfl rfl rfl ?_
    refine r_iload (pc' := 12) rfl rfl rfl ?_
    refine r_iload (pc' := 14) rfl rfl rfl ?_
    refine r_iadd (pc' := 15) rfl rfl ?_
    refine r_aload (pc' := 16) rfl rfl rfl ?_
    refine r_iload (pc' := 17) rfl rfl rfl ?_
    refine r_iload (pc' := 19) rfl rfl rfl ?_
    refine r_iadd (pc' := 20) rfl rfl ?_
    refine r_aldv (pc' := 21) (v := (S 248 (0 + k))) 8 rfl rfl rfl (by omega) (cp_o (by omega)) ?_
    have b2 : 0 ≤ S 248 (0 + k) ∧ S 248 (0 + k) ≤ 6 := hB 248 (0 + k)
    refine r_ast (pc' := 22) 96 rfl rfl rfl (by omega) ?_
    refine r_iinc (pc' := 25) (ls' := [some (.inr (.inr 248)), some (.inl 0), some (.inr (.inr 244)), some (.inl o), some (.inl n), some (.inl (k + 1))]) rfl rfl rfl rfl rfl ?_
    refine r_goto (pc' := 3) rfl rfl ?_
    refine r_mem (show mx_up (mx_cp S 248 0 244 o k) 244 (o + k) (S 248 (0 + k)) = mx_cp S 248 0 244 o (k + 1) from by exact cp_s (by omega) rfl (by omega) (by rw [Int.zero_add])) ?_
    exact ih3 (k + 1) (show (0 ≤ (k + 1) ∧ (k + 1) ≤ n) from by omega) (show (n - (k + 1)).toNat < (n - k).toNat from by omega)
  · refine r_icmp_ge1 (pc' := 28) rfl rfl (by omega) (by omega) ?_
    refine q_vret rfl rfl rfl ?_
    obtain rfl : k = n := by omega
    exact ⟨rfl, rfl⟩
theorem c_X11_feasts {S : rS} (hB : Bd S) : CS 4 79 [.inr (.inr 232)] S (fun r' S' => r' = none ∧ Bd S' ∧ FRR S S' ∧ bst S' = TOTF S) := by
  refine RS.beg (ls := [some (.inr (.inr 232)), none, none, none, none]) rfl rfl rfl rfl rfl ?_
  have n0 : 0 ≤ S 233 0 ∧ S 233 0 ≤ 7 := hB 233 0
  have s7 : 0 ≤ S 236 7 ∧ S 236 7 ≤ 99 := hB 236 7
  have s8 : 0 ≤ S 236 8 ∧ S 236 8 ≤ 999 := hB 236 8
  have s9 : 0 ≤ S 236 9 ∧ S 236 9 ≤ 127 := hB 236 9
  have s10 : 0 ≤ S 236 10 ∧ S 236 10 ≤ 9 := hB 236 10
  have s11 : 0 ≤ S 236 11 ∧ S 236 11 ≤ 6 := hB 236 11
  have dk : 0 ≤ S 233 186 ∧ S 233 186 ≤ 99 := hB 233 186
  refine r_aload (pc' := 1) rfl rfl rfl ?_
  refine r_const (pc' := 2) rfl rfl ?_
  refine r_put (pc' := 5) rfl rfl rfl rfl ?_
  refine r_aload (pc' := 6) rfl rfl rfl ?_
  refine r_const (pc' := 7) rfl rfl ?_
  refine r_put (pc' := 10) rfl rfl rfl rfl ?_
  refine r_aload (pc' := 11) rfl rfl rfl ?_
  refine r_getr (pc' := 14) (v := 246) rfl rfl rfl rfl rfl ?_
  refine r_const (pc' := 15) rfl rfl ?_
  refine r_aload (pc' := 16) rfl rfl rfl ?_
  refine r_getr (pc' := 19) (v := 236) rfl rfl rfl rfl rfl ?_
  refine r_const (pc' := 21) rfl rfl ?_
  refine r_aldv (pc' := 22) (v := (S 236 7)) 12 rfl rfl rfl (by omega) rfl ?_
  have b1 : 0 ≤ S 236 7 ∧ S 236 7 ≤ 99 := hB 236 7
  refine r_ast (pc' := 23) 9 rfl rfl rfl (by omega) ?_
  refine r_aload (pc' := 24) rfl rfl rfl ?_
  refine r_getr (pc' := 27) (v := 247) rfl rfl rfl rfl rfl ?_
  refine r_const (pc' := 28) rfl rfl ?_
  refine r_const (pc' := 29) rfl rfl ?_
  refine r_ast (pc' := 30) 9 rfl rfl rfl (by omega) ?_
  refine r_aload (pc' := 31) rfl rfl rfl ?_
  refine r_getr (pc' := 34) (v := 245) rfl rfl rfl rfl rfl ?_
  refine r_const (pc' := 35) rfl rfl ?_
  refine r_const (pc' := 36) rfl rfl ?_
  refine r_ast (pc' := 37) 8 rfl rfl rfl (by omega) ?_
  refine r_aload (pc' := 38) rfl rfl rfl ?_
  refine r_getr (pc' := 41) (v := 236) rfl rfl rfl rfl rfl ?_
  refine r_const (pc' := 43) rfl rfl ?_
  refine r_aldv (pc' := 44) (v := (S 236 9)) 12 rfl rfl rfl (by omega) rfl ?_
  have b2 : 0 ≤ S 236 9 ∧ S 236 9 ≤ 127 := hB 236 9
  refine r_istore (pc' := 45) (ls' := [some (.inr (.inr 232)), some (.inl (S 236 9)), none, none, none]) rfl rfl rfl rfl ?_
  refine r_const (pc' := 46) rfl rfl ?_
  refine r_istore (pc' := 47) (ls' := [some (.inr (.inr 232)), some (.inl (S 236 9)), some (.inl 0), none, none]) rfl rfl rfl rfl ?_
  refine r_while (α := Int × Int × rS) (fun z' => [some (.inr (.inr 232)), some (.inl z'.1), some (.inl z'.2.1), none, none]) (fun z' => z'.2.2) (fun z' => (FI S z'.2.2 z'.2.1 z'.1)) (fun z' => (msF z'.2.2 (S 233 0) (z'.2.1 + 1).toNat).toNat) ?_ ((S 236 9), 0, (mx_up (mx_up (mx_up (mx_up (mx_up S 232 25 0) 232 26 0) 246 0 (S 236 7)) 247 0 0) 245 0 (-1))) (show (FI S (mx_up (mx_up (mx_up (mx_up (mx_up S 232 25 0) 232 26 0) 246 0 (S 236 7)) 247 0 0) 245 0 (-1)) (0 : Int) (S 236 9)) from by exact FI_0 hB (Bd_up (Bd_up (Bd_up (Bd_up (Bd_up hB (show (0 : Int) ≤ 0 from by omega) (show 0 ≤ (7 : Int) from by omega)) (show (0 : Int) ≤ 0 from by omega) (show 0 ≤ (56 : Int) from by omega)) (show (0 : Int) ≤ (S 236 7) from by omega) (show (S 236 7) ≤ (4000000 : Int) from by omega)) (show (0 : Int) ≤ 0 from by omega) (show 0 ≤ (56 : Int) from by omega)) (show (-1 : Int) ≤ (-1) from by omega) (show (-1) ≤ (7 : Int) from by omega)) (fun a j h => by rw [up_ne (by omega), up_ne (by omega), up_ne (by omega), up_ne (by omega), up_ne (by omega)]) rfl rfl rfl rfl)
  rintro ⟨met, d, T⟩ hI' ih47
  have hI' : (FI S T d met) := hI'
  have hI := hI'
  show RS _ _ _ _ [some (.inr (.inr 232)), some (.inl met), some (.inl d), none, none] [] T
  obtain ⟨hT, hfr, hd, hm, hw⟩ := FI_b hI
  refine r_iload (pc' := 48) rfl rfl rfl ?_
  by_cases h3 : d < 0
  · refine r_if_lt1 (pc' := 278) rfl rfl (by omega) (by omega) ?_
    refine q_vret rfl rfl rfl ?_
    exact ⟨rfl, hT, hfr, by have q := hI.2.2.2.2; rw [show (d + 1).toNat = 0 by omega] at q; exact q⟩
  · refine r_if_lt0 (pc' := 51) rfl rfl (by omega) (by omega) ?_
    refine r_iload (pc' := 52) rfl rfl rfl ?_
    refine r_aload (pc' := 53) rfl rfl rfl ?_
    refine r_getr (pc' := 56) (v := 245) rfl rfl rfl rfl rfl ?_
    refine r_iload (pc' := 57) rfl rfl rfl ?_
    refine r_aldv (pc' := 58) (v := (T 245 d)) 8 rfl rfl rfl (by omega) rfl ?_
    have b4 : -1 ≤ T 245 d ∧ T 245 d ≤ 7 := hT 245 d
    by_cases h5 : (T 245 d) < 0
    · refine r_if_ge0 (pc' := 61) rfl rfl (by omega) (by omega) ?_
      refine r_const (pc' := 62) rfl rfl ?_
      refine r_goto (pc' := 75) rfl rfl ?_
      refine r_iand (pc' := 76) rfl rfl ?_
      have b6 := mx_and_r met (-1)
      have e7 : 0 ≤ mx_and met (-1) ∧ mx_and met (-1) < 128 := and_u (a := met) (b := (-1)) 7 (by omega) (by omega) (by omega)
      refine r_istore (pc' := 77) (ls' := [some (.inr (.inr 232)), some (.inl (mx_and met (-1))), some (.inl d), none, none]) rfl rfl rfl rfl ?_
      refine r_aload (pc' := 78) rfl rfl rfl ?_
      refine r_getr (pc' := 81) (v := 245) rfl rfl rfl rfl rfl ?_
      refine r_iload (pc' := 82) rfl rfl rfl ?_
      refine r_dup2 (pc' := 83) rfl rfl ?_
      refine r_aldv (pc' := 84) (v := (T 245 d)) 8 rfl rfl rfl (by omega) rfl ?_
      refine r_const (pc' := 85) rfl rfl ?_
      refine r_iadd (pc' := 86) rfl rfl ?_
      refine r_ast (pc' := 87) 8 rfl rfl rfl (by omega) ?_
      have hw := hw (by omega)
      refine r_while (α := Int × rS) (fun z' => [some (.inr (.inr 232)), some (.inl z'.1), some (.inl d), none, none]) (fun z' => z'.2) (fun z' => (FJ S z'.2 d z'.1) ∧ (∀ jj : Int, 0 ≤ jj → jj < d → z'.2 245 jj = T 245 jj) ∧ (T 245 d + 1 ≤ z'.2 245 d)) (fun z' => (S 233 0 - z'.2 245 d).toNat) ?_ ((mx_and met (-1)), (mx_up T 245 d ((T 245 d) + 1))) (show (FJ S (mx_up T 245 d ((T 245 d) + 1)) d (mx_and met (-1))) ∧ (∀ jj : Int, 0 ≤ jj → jj < d → (mx_up T 245 d ((T 245 d) + 1)) 245 jj = T 245 jj) ∧ (T 245 d + 1 ≤ (mx_up T 245 d ((T 245 d) + 1)) 245 d) from by exact ⟨FJ_i hB hI (by omega) (Bd_up hT (show (-1 : Int) ≤ ((T 245 d) + 1) from by omega) (show ((T 245 d) + 1) ≤ (7 : Int) from by omega)) (Or.inl ⟨by omega, rfl⟩), fun j j0 j1 => up_ne (by omega), by rw [up_eq]; omega⟩)
      rintro ⟨m2, U⟩ hI' ih87
      have hI' : (FJ S U d m2) ∧ (∀ jj : Int, 0 ≤ jj → jj < d → U 245 jj = T 245 jj) ∧ (T 245 d + 1 ≤ U 245 d) := hI'
      obtain ⟨hJ, hUT, hU1⟩ := hI'
      show RS _ _ _ _ [some (.inr (.inr 232)), some (.inl m2), some (.inl d), none, none] [] U
      obtain ⟨hU, hgr, hd2, hm2, hw2, hq2, hb2⟩ := FJ_b hB hJ
      have b8 : -1 ≤ U 245 d ∧ U 245 d ≤ 7 := hU 245 d
      refine r_aload (pc' := 88) rfl rfl rfl ?_
      refine r_getr (pc' := 91) (v := 245) rfl rfl rfl rfl rfl ?_
      refine r_iload (pc' := 92) rfl rfl rfl ?_
      refine r_aldv (pc' := 93) (v := (U 245 d)) 8 rfl rfl rfl (by omega) rfl ?_
      refine r_aload (pc' := 94) rfl rfl rfl ?_
      refine r_getr (pc' := 97) (v := 233) rfl rfl rfl rfl rfl ?_
      refine r_const (pc' := 98) rfl rfl ?_
      refine r_aldv (pc' := 99) (v := (S 233 0)) 187 rfl rfl rfl (by omega) (hgr 233 0 (by omega)) ?_
      have b9 : 0 ≤ S 233 0 ∧ S 233 0 ≤ 7 := hB 233 0
      by_cases h10 : (U 245 d) < (S 233 0)
      · refine r_icmp_ge0 (pc' := 102) rfl rfl (by omega) (by omega) ?_
        refine r_aload (pc' := 103) rfl rfl rfl ?_
        refine r_iload (pc' := 104) rfl rfl rfl ?_
        refine r_aload (pc' := 105) rfl rfl rfl ?_
        refine r_getr (pc' := 108) (v := 245) rfl rfl rfl rfl rfl ?_
        refine r_iload (pc' := 109) rfl rfl rfl ?_
        refine r_aldv (pc' := 110) (v := (U 245 d)) 8 rfl rfl rfl (by omega) rfl ?_
        refine r_iload (pc' := 111) rfl rfl rfl ?_
        have b11 : 0 ≤ U 246 d ∧ U 246 d ≤ 4000000 := hU 246 d
        refine q_callE (pc' := 114) (w := some (.inl (bi (myW U m2 (aT U U d) (U 246 d) (U 245 d))))) (S2 := mx_up U 246 (d + 1) (U 246 d + ngW U (aT U U d) (U 245 d))) (st' := [.inl (bi (myW U m2 (aT U U d) (U 246 d) (U 245 d)))]) rfl rfl rfl (c_X11_mayWalk (d := d) (f := (U 245 d)) (met := m2) (S := U) hU (show 0 ≤ d ∧ d < 8 from by omega) (show 0 ≤ (U 245 d) ∧ (U 245 d) < 7 from by omega) (show 0 ≤ m2 ∧ m2 < 128 from by omega) (show d ≠ 0 → 0 ≤ U 245 (d - 1) ∧ U 245 (d - 1) ≤ 6 from by exact fun z => by have q := hb2 (d - 1) (by omega) (by omega); omega) (show U 246 d ≤ 99 from by omega)) (by decide) rfl rfl (Nat.le_of_ble_eq_true rfl) (fun _ _ => ⟨_, _, rfl, rfl⟩) rfl rfl ?_
        have b12 : (bi (myW U m2 (aT U U d) (U 246 d) (U 245 d))) = 0 ∨ (bi (myW U m2 (aT U U d) (U 246 d) (U 245 d))) = 1 := bi_r _
        have b13 : 0 ≤ ngW U (aT U U d) (U 245 d) ∧ ngW U (aT U U d) (U 245 d) ≤ 1000034 := ngW_b hU (by omega)
        have eU : ∀ a j : Int, ¬ (245 ≤ a ∧ a ≤ 248 ∨ a = 232 ∧ (j = 25 ∨ j = 26)) → U a j = S a j := hgr
        have ea : aT U U d = aT S U d := by unfold aT; rw [eU 236 11 (by omega)]
        have eng : ∀ a f : Int, ngW U a f = ngW S a f := fun a f => by unfold ngW; rw [eU 235 _ (by omega), eU 233 _ (by omega), eU 236 _ (by omega)]
        have emy : myW U m2 (aT U U d) (U 246 d) (U 245 d) = myW S m2 (aT S U d) (U 246 d) (U 245 d) := by unfold myW; rw [ea, eng, eU 233 _ (by omega), eU 236 10 (by omega), eU 233 186 (by omega)]
        by_cases h14 : (bi (myW U m2 (aT U U d) (U 246 d) (U 245 d))) = 0
        · refine r_if_ne0 (pc' := 117) rfl rfl (by omega) (by omega) ?_
          refine r_aload (pc' := 118) rfl rfl rfl ?_
          refine r_getr (pc' := 121) (v := 245) rfl rfl rfl rfl rfl ?_
          refine r_iload (pc' := 122) rfl rfl rfl ?_
          refine r_dup2 (pc' := 123) rfl rfl ?_
          refine r_aldv (pc' := 124) (v := (U 245 d)) 8 rfl rfl rfl (by omega) rfl ?_
          refine r_const (pc' := 125) rfl rfl ?_
          refine r_iadd (pc' := 126) rfl rfl ?_
          refine r_ast (pc' := 127) 8 rfl rfl rfl (by omega) ?_
          refine r_goto (pc' := 87) rfl rfl ?_
          exact ih87 (m2, (mx_up (mx_up U 246 (d + 1) (U 246 d + ngW U (aT U U d) (U 245 d))) 245 d ((U 245 d) + 1))) (show (FJ S (mx_up (mx_up U 246 (d + 1) (U 246 d + ngW U (aT U U d) (U 245 d))) 245 d ((U 245 d) + 1)) d m2) ∧ (∀ jj : Int, 0 ≤ jj → jj < d → (mx_up (mx_up U 246 (d + 1) (U 246 d + ngW U (aT U U d) (U 245 d))) 245 d ((U 245 d) + 1)) 245 jj = T 245 jj) ∧ (T 245 d + 1 ≤ (mx_up (mx_up U 246 (d + 1) (U 246 d + ngW U (aT U U d) (U 245 d))) 245 d ((U 245 d) + 1)) 245 d) from by exact ⟨FJ_n hJ (by assumption) (Bd_up (Bd_up hU (show (0 : Int) ≤ (U 246 d + ngW U (aT U U d) (U 245 d)) from by omega) (show (U 246 d + ngW U (aT U U d) (U 245 d)) ≤ (4000000 : Int) from by omega)) (show (-1 : Int) ≤ ((U 245 d) + 1) from by omega) (show ((U 245 d) + 1) ≤ (7 : Int) from by omega)) (by rw [← eng, ← ea]) (by rw [← emy]; exact bi_00 (by assumption)), fun j j0 j1 => ((up_ne (by omega)).trans (up_ne (by omega))).trans (hUT j j0 j1), by rw [up_eq]; omega⟩) (show (S 233 0 - (mx_up (mx_up U 246 (d + 1) (U 246 d + ngW U (aT U U d) (U 245 d))) 245 d ((U 245 d) + 1)) 245 d).toNat < (S 233 0 - U 245 d).toNat from by rw [up_eq]; omega)
        · refine r_if_ne1 (pc' := 130) rfl rfl (by omega) (by omega) ?_
          refine r_aload (pc' := 131) rfl rfl rfl ?_
          refine r_getr (pc' := 134) (v := 245) rfl rfl rfl rfl rfl ?_
          refine r_iload (pc' := 135) rfl rfl rfl ?_
          refine r_aldv (pc' := 136) (v := (U 245 d)) 8 rfl rfl rfl (by omega) rfl ?_
          refine r_aload (pc' := 137) rfl rfl rfl ?_
          refine r_getr (pc' := 140) (v := 233) rfl rfl rfl rfl rfl ?_
          refine r_const (pc' := 141) rfl rfl ?_
          refine r_aldv (pc' := 142) (v := (S 233 0)) 187 rfl rfl rfl (by omega) ((up_ne (by omega)).trans (hgr 233 0 (by omega))) ?_
          refine r_icmp_lt1 (pc' := 151) rfl rfl (by omega) (by omega) ?_
          have hmy : myW U m2 (aT U U d) (U 246 d) (U 245 d) := bi_n0 (by assumption)
          have d6 : d ≤ 6 := d7 hB hd2.1 hJ.1.2.1 (f := U 245 d) (by omega) (by rw [← hJ.2.2.1]; exact hmy.1)
          refine r_aload (pc' := 152) rfl rfl rfl ?_
          refine r_getr (pc' := 155) (v := 245) rfl rfl rfl rfl rfl ?_
          refine r_iload (pc' := 156) rfl rfl rfl ?_
          refine r_aldv (pc' := 157) (v := (U 245 d)) 8 rfl rfl rfl (by omega) rfl ?_
          refine r_istore (pc' := 158) (ls' := [some (.inr (.inr 232)), some (.inl m2), some (.inl d), some (.inl (U 245 d)), none]) rfl rfl rfl rfl ?_
          refine r_iload (pc' := 159) rfl rfl rfl ?_
          refine r_const (pc' := 160) rfl rfl ?_
          refine r_iload (pc' := 161) rfl rfl rfl ?_
          refine r_ishl (pc' := 162) rfl rfl ?_
          have b15 := mx_shl_r 1 (U 245 d)
          have e16 := shl_u (k := (U 245 d)) 7 (by omega) (by omega)
          refine r_ior (pc' := 163) rfl rfl ?_
          have b17 := mx_or_r m2 (mx_shl 1 (U 245 d))
          have e18 := or_u (a := m2) (b := (mx_shl 1 (U 245 d))) 7 (by omega) (by omega) (by omega) (by omega) (by omega)
          refine r_istore (pc' := 164) (ls' := [some (.inr (.inr 232)), some (.inl (mx_or m2 (mx_shl 1 (U 245 d)))), some (.inl d), some (.inl (U 245 d)), none]) rfl rfl rfl rfl ?_
          refine r_aload (pc' := 165) rfl rfl rfl ?_
          refine r_getr (pc' := 168) (v := 247) rfl rfl rfl rfl rfl ?_
          refine r_iload (pc' := 169) rfl rfl rfl ?_
          refine r_const (pc' := 170) rfl rfl ?_
          refine r_iadd (pc' := 171) rfl rfl ?_
          refine r_aload (pc' := 172) rfl rfl rfl ?_
          refine r_getr (pc' := 175) (v := 247) rfl rfl rfl rfl rfl ?_
          refine r_iload (pc' := 176) rfl rfl rfl ?_
          refine r_aldv (pc' := 177) (v := (U 247 d)) 9 rfl rfl rfl (by omega) rfl ?_
          have b19 : 0 ≤ U 247 d ∧ U 247 d ≤ 56 := hU 247 d
          refine r_aload (pc' := 178) rfl rfl rfl ?_
          refine r_getr (pc' := 181) (v := 236) rfl rfl rfl rfl rfl ?_
          refine r_const (pc' := 182) rfl rfl ?_
          refine r_iload (pc' := 183) rfl rfl rfl ?_
          refine r_iadd (pc' := 184) rfl rfl ?_
          refine r_aldv (pc' := 185) (v := (S 236 (0 + (U 245 d)))) 12 rfl rfl rfl (by omega) ((up_ne (by omega)).trans (hgr 236 (0 + (U 245 d)) (by omega))) ?_
          have b20 := bdc_236_0 hB (U 245 d)
          have g8 := pop_8 (lf8 hB (f := U 245 d) (by omega))
          refine q_callE (pc' := 188) (w := some (.inl (pop (S 236 (0 + (U 245 d)))))) (S2 := mx_up U 246 (d + 1) (U 246 d + ngW U (aT U U d) (U 245 d))) (st' := [.inl (pop (S 236 (0 + (U 245 d)))), .inl (U 247 d), .inl (d + 1), .inr (.inr 247)]) rfl rfl rfl (c_X11_bits (a := (S 236 (0 + (U 245 d)))) (S := mx_up U 246 (d + 1) (U 246 d + ngW U (aT U U d) (U 245 d)))  (show 0 ≤ (S 236 (0 + (U 245 d))) ∧ (S 236 (0 + (U 245 d))) < 512 from by omega)) (by decide) rfl rfl (Nat.le_of_ble_eq_true rfl) (fun q => absurd rfl q) rfl rfl ?_
          have b21 : 0 ≤ (pop (S 236 (0 + (U 245 d)))) ∧ (pop (S 236 (0 + (U 245 d)))) ≤ 9 := pop_r _
          refine r_iadd (pc' := 189) rfl rfl ?_
          refine r_ast (pc' := 190) 9 rfl rfl rfl (by omega) ?_
          refine r_iinc (pc' := 193) (ls' := [some (.inr (.inr 232)), some (.inl (mx_or m2 (mx_shl 1 (U 245 d)))), some (.inl (d + 1)), some (.inl (U 245 d)), none]) rfl rfl rfl rfl rfl ?_
          refine r_aload (pc' := 194) rfl rfl rfl ?_
          refine r_getr (pc' := 197) (v := 247) rfl rfl rfl rfl rfl ?_
          refine r_iload (pc' := 198) rfl rfl rfl ?_
          refine r_aldv (pc' := 199) (v := ((U 247 d) + (pop (S 236 (0 + (U 245 d)))))) 9 rfl rfl rfl (by omega) (by first | rfl | exact up_eq) ?_
          refine r_aload (pc' := 200) rfl rfl rfl ?_
          refine r_getv (pc' := 203) (v := (U 232 26)) rfl rfl (Or.inl rfl) rfl rfl ?_
          have b22 : 0 ≤ U 232 26 ∧ U 232 26 ≤ 56 := hU 232 26
          by_cases h23 : (U 232 26) < ((U 247 d) + (pop (S 236 (0 + (U 245 d)))))
          · refine r_icmp_gt1 (pc' := 227) rfl rfl (by omega) (by omega) ?_
            refine r_const (pc' := 228) rfl rfl ?_
            refine r_goto (pc' := 232) rfl rfl ?_
            refine r_istore (pc' := 234) (ls' := [some (.inr (.inr 232)), some (.inl (mx_or m2 (mx_shl 1 (U 245 d)))), some (.inl (d + 1)), some (.inl (U 245 d)), some (.inl 1)]) rfl rfl rfl rfl ?_
            refine r_iload (pc' := 236) rfl rfl rfl ?_
            refine r_if_eq0 (pc' := 239) rfl rfl (by decide) (by decide) ?_
            refine r_aload (pc' := 240) rfl rfl rfl ?_
            refine r_aload (pc' := 241) rfl rfl rfl ?_
            refine r_getr (pc' := 244) (v := 247) rfl rfl rfl rfl rfl ?_
            refine r_iload (pc' := 245) rfl rfl rfl ?_
            refine r_aldv (pc' := 246) (v := ((U 247 d) + (pop (S 236 (0 + (U 245 d)))))) 9 rfl rfl rfl (by omega) (by first | rfl | exact up_eq) ?_
            refine r_put (pc' := 249) rfl rfl rfl rfl ?_
            refine r_aload (pc' := 250) rfl rfl rfl ?_
            refine r_iload (pc' := 251) rfl rfl rfl ?_
            refine r_put (pc' := 254) rfl rfl rfl rfl ?_
            refine r_aload (pc' := 255) rfl rfl rfl ?_
            refine r_getr (pc' := 258) (v := 245) rfl rfl rfl rfl rfl ?_
            refine r_const (pc' := 259) rfl rfl ?_
            refine r_aload (pc' := 260) rfl rfl rfl ?_
            refine r_getr (pc' := 263) (v := 248) rfl rfl rfl rfl rfl ?_
            refine r_const (pc' := 264) rfl rfl ?_
            refine r_iload (pc' := 265) rfl rfl rfl ?_
            have he : ∀ k : Int, 0 ≤ k → k < d + 1 → 0 ≤ (mx_up (mx_up (mx_up (mx_up U 246 (d + 1) (U 246 d + ngW U (aT U U d) (U 245 d))) 247 (d + 1) ((U 247 d) + (pop (S 236 (0 + (U 245 d)))))) 232 26 ((U 247 d) + (pop (S 236 (0 + (U 245 d)))))) 232 25 (d + 1)) 245 k ∧ (mx_up (mx_up (mx_up (mx_up U 246 (d + 1) (U 246 d + ngW U (aT U U d) (U 245 d))) 247 (d + 1) ((U 247 d) + (pop (S 236 (0 + (U 245 d)))))) 232 26 ((U 247 d) + (pop (S 236 (0 + (U 245 d)))))) 232 25 (d + 1)) 245 k ≤ 6 := fun k k0 k1 => by
              have q : (mx_up (mx_up (mx_up (mx_up U 246 (d + 1) (U 246 d + ngW U (aT U U d) (U 245 d))) 247 (d + 1) ((U 247 d) + (pop (S 236 (0 + (U 245 d)))))) 232 26 ((U 247 d) + (pop (S 236 (0 + (U 245 d)))))) 232 25 (d + 1)) 245 k = U 245 k := by repeat (first | rfl | rw [up_ne (by omega)])
              rw [q]
              by_cases z : k = d
              · rw [z]; omega
              · have q := hb2 k k0 (by omega); omega
            refine q_callE (pc' := 268) (w := none) (S2 := mx_cp (mx_up (mx_up (mx_up (mx_up U 246 (d + 1) (U 246 d + ngW U (aT U U d) (U 245 d))) 247 (d + 1) ((U 247 d) + (pop (S 236 (0 + (U 245 d)))))) 232 26 ((U 247 d) + (pop (S 236 (0 + (U 245 d)))))) 232 25 (d + 1)) 245 0 248 0 (d + 1)) (st' := []) rfl rfl rfl (c_X11_copies_wb (n := (d + 1)) (S := mx_up (mx_up (mx_up (mx_up U 246 (d + 1) (U 246 d + ngW U (aT U U d) (U 245 d))) 247 (d + 1) ((U 247 d) + (pop (S 236 (0 + (U 245 d)))))) 232 26 ((U 247 d) + (pop (S 236 (0 + (U 245 d)))))) 232 25 (d + 1)) (Bd_up (Bd_up (Bd_up (Bd_up hU (show (0 : Int) ≤ (U 246 d + ngW U (aT U U d) (U 245 d)) from by omega) (show (U 246 d + ngW U (aT U U d) (U 245 d)) ≤ (4000000 : Int) from by omega)) (show (0 : Int) ≤ ((U 247 d) + (pop (S 236 (0 + (U 245 d))))) from by omega) (show ((U 247 d) + (pop (S 236 (0 + (U 245 d))))) ≤ (56 : Int) from by omega)) (show (0 : Int) ≤ ((U 247 d) + (pop (S 236 (0 + (U 245 d))))) from by omega) (show ((U 247 d) + (pop (S 236 (0 + (U 245 d))))) ≤ (56 : Int) from by omega)) (show (0 : Int) ≤ (d + 1) from by omega) (show (d + 1) ≤ (7 : Int) from by omega)) (show 0 ≤ (d + 1) ∧ (d + 1) ≤ 8 from by omega) (show ∀ k : Int, 0 ≤ k → k < (d + 1) → 0 ≤ (mx_up (mx_up (mx_up (mx_up U 246 (d + 1) (U 246 d + ngW U (aT U U d) (U 245 d))) 247 (d + 1) ((U 247 d) + (pop (S 236 (0 + (U 245 d)))))) 232 26 ((U 247 d) + (pop (S 236 (0 + (U 245 d)))))) 232 25 (d + 1)) 245 k ∧ (mx_up (mx_up (mx_up (mx_up U 246 (d + 1) (U 246 d + ngW U (aT U U d) (U 245 d))) 247 (d + 1) ((U 247 d) + (pop (S 236 (0 + (U 245 d)))))) 232 26 ((U 247 d) + (pop (S 236 (0 + (U 245 d)))))) 232 25 (d + 1)) 245 k ≤ 6 from by exact he)) (by decide) rfl rfl (Nat.le_of_ble_eq_true rfl) (fun q => absurd rfl q) rfl rfl ?_
            have hB24 : Bd (mx_cp (mx_up (mx_up (mx_up (mx_up U 246 (d + 1) (U 246 d + ngW U (aT U U d) (U 245 d))) 247 (d + 1) ((U 247 d) + (pop (S 236 (0 + (U 245 d)))))) 232 26 ((U 247 d) + (pop (S 236 (0 + (U 245 d)))))) 232 25 (d + 1)) 245 0 248 0 (d + 1)) := Bd_cpv (Bd_up (Bd_up (Bd_up (Bd_up hU (show (0 : Int) ≤ (U 246 d + ngW U (aT U U d) (U 245 d)) from by omega) (show (U 246 d + ngW U (aT U U d) (U 245 d)) ≤ (4000000 : Int) from by omega)) (show (0 : Int) ≤ ((U 247 d) + (pop (S 236 (0 + (U 245 d))))) from by omega) (show ((U 247 d) + (pop (S 236 (0 + (U 245 d))))) ≤ (56 : Int) from by omega)) (show (0 : Int) ≤ ((U 247 d) + (pop (S 236 (0 + (U 245 d))))) from by omega) (show ((U 247 d) + (pop (S 236 (0 + (U 245 d))))) ≤ (56 : Int) from by omega)) (show (0 : Int) ≤ (d + 1) from by omega) (show (d + 1) ≤ (7 : Int) from by omega)) (fun k k0 k1 => by rw [Int.zero_add]; exact he k k0 k1)
            refine r_aload (pc' := 269) rfl rfl rfl ?_
            refine r_getr (pc' := 272) (v := 245) rfl rfl rfl rfl rfl ?_
            refine r_iload (pc' := 273) rfl rfl rfl ?_
            refine r_const (pc' := 274) rfl rfl ?_
            refine r_ast (pc' := 275) 8 rfl rfl rfl (by omega) ?_
            have hFI : FI S (mx_up (mx_cp (mx_up (mx_up (mx_up (mx_up U 246 (d + 1) (U 246 d + ngW U (aT U U d) (U 245 d))) 247 (d + 1) ((U 247 d) + (pop (S 236 (0 + (U 245 d)))))) 232 26 ((U 247 d) + (pop (S 236 (0 + (U 245 d)))))) 232 25 (d + 1)) 245 0 248 0 (d + 1)) 245 (d + 1) (-1)) (d + 1) (mx_or m2 (mx_shl 1 (U 245 d))) := by
              refine FI_push hB hJ (f := U 245 d) (g := U 247 d + pop (S 236 (0 + (U 245 d)))) rfl (by assumption) (by rw [← emy]; exact bi_n0 (by assumption)) rfl (Bd_up hB24 (show (-1 : Int) ≤ (-1) from by omega) (show (-1) ≤ (7 : Int) from by omega)) ?_ (fun j hj => by repeat (first | rfl | rw [up_ne (by omega)] | rw [cp_o (by omega)])) (by repeat (first | rfl | rw [up_eq] | rw [up_ne (by omega)] | rw [cp_o (by omega)])) (fun j hj => by repeat (first | rfl | rw [up_ne (by omega)] | rw [cp_o (by omega)])) (by rw [← eng, ← ea]; repeat (first | rfl | rw [up_eq] | rw [up_ne (by omega)] | rw [cp_o (by omega)])) (fun j hj => by repeat (first | rfl | rw [up_ne (by omega)] | rw [cp_o (by omega)])) (by repeat (first | rfl | rw [up_eq] | rw [up_ne (by omega)] | rw [cp_o (by omega)])) ?_
              · intro a j ha; repeat (first | exact hgr a j ha | rw [up_ne (by omega)] | rw [cp_o (by omega)])
              · refine Eq.trans (b := (U 247 d + pop (S 236 (0 + (U 245 d))), d + 1, fun j => if 0 ≤ j ∧ j < d + 1 then U 245 j else U 248 j)) ?_ ((if_pos (show U 232 26 < U 247 d + pop (S 236 (0 + (U 245 d))) ∨ (U 247 d + pop (S 236 (0 + (U 245 d))) = U 232 26 ∧ d + 1 < U 232 25) from by omega)).symm)
                have e248 : ∀ j : Int, (mx_up (mx_cp (mx_up (mx_up (mx_up (mx_up U 246 (d + 1) (U 246 d + ngW U (aT U U d) (U 245 d))) 247 (d + 1) ((U 247 d) + (pop (S 236 (0 + (U 245 d)))))) 232 26 ((U 247 d) + (pop (S 236 (0 + (U 245 d)))))) 232 25 (d + 1)) 245 0 248 0 (d + 1)) 245 (d + 1) (-1)) 248 j = if 0 ≤ j ∧ j < d + 1 then U 245 j else U 248 j := fun j => by
                  rw [up_ne (by omega)]; unfold mx_cp
                  by_cases hj : 0 ≤ j ∧ j < d + 1
                  · rw [if_pos (show (248 : Int) = 248 ∧ 0 ≤ j ∧ j < 0 + (d + 1) by omega), if_pos hj, show 0 + (j - 0) = j by omega]; rfl
                  · rw [if_neg (show ¬ ((248 : Int) = 248 ∧ 0 ≤ j ∧ j < 0 + (d + 1)) by omega), if_neg hj]; rfl
                show (U 247 d + pop (S 236 (0 + (U 245 d))), d + 1, (mx_up (mx_cp (mx_up (mx_up (mx_up (mx_up U 246 (d + 1) (U 246 d + ngW U (aT U U d) (U 245 d))) 247 (d + 1) ((U 247 d) + (pop (S 236 (0 + (U 245 d)))))) 232 26 ((U 247 d) + (pop (S 236 (0 + (U 245 d)))))) 232 25 (d + 1)) 245 0 248 0 (d + 1)) 245 (d + 1) (-1)) 248) = _
                rw [show (mx_up (mx_cp (mx_up (mx_up (mx_up (mx_up U 246 (d + 1) (U 246 d + ngW U (aT U U d) (U 245 d))) 247 (d + 1) ((U 247 d) + (pop (S 236 (0 + (U 245 d)))))) 232 26 ((U 247 d) + (pop (S 236 (0 + (U 245 d)))))) 232 25 (d + 1)) 245 0 248 0 (d + 1)) 245 (d + 1) (-1)) 248 = fun j => if 0 ≤ j ∧ j < d + 1 then U 245 j else U 248 j from funext e248]
            refine r_goto (pc' := 47) rfl rfl ?_
            refine r_forget [true, true, true, false, false] rfl ?_
            exact ih47 ((mx_or m2 (mx_shl 1 (U 245 d))), (d + 1), (mx_up (mx_cp (mx_up (mx_up (mx_up (mx_up U 246 (d + 1) (U 246 d + ngW U (aT U U d) (U 245 d))) 247 (d + 1) ((U 247 d) + (pop (S 236 (0 + (U 245 d)))))) 232 26 ((U 247 d) + (pop (S 236 (0 + (U 245 d)))))) 232 25 (d + 1)) 245 0 248 0 (d + 1)) 245 (d + 1) (-1))) (show (FI S (mx_up (mx_cp (mx_up (mx_up (mx_up (mx_up U 246 (d + 1) (U 246 d + ngW U (aT U U d) (U 245 d))) 247 (d + 1) ((U 247 d) + (pop (S 236 (0 + (U 245 d)))))) 232 26 ((U 247 d) + (pop (S 236 (0 + (U 245 d)))))) 232 25 (d + 1)) 245 0 248 0 (d + 1)) 245 (d + 1) (-1)) (d + 1) (mx_or m2 (mx_shl 1 (U 245 d)))) from by exact hFI) (show (msF (mx_up (mx_cp (mx_up (mx_up (mx_up (mx_up U 246 (d + 1) (U 246 d + ngW U (aT U U d) (U 245 d))) 247 (d + 1) ((U 247 d) + (pop (S 236 (0 + (U 245 d)))))) 232 26 ((U 247 d) + (pop (S 236 (0 + (U 245 d)))))) 232 25 (d + 1)) 245 0 248 0 (d + 1)) 245 (d + 1) (-1)) (S 233 0) ((d + 1) + 1).toNat).toNat < (msF T (S 233 0) (d + 1).toNat).toNat from by exact ms_push hB hI hJ hFI hUT hU1 (fun j hj => by repeat (first | rfl | rw [up_ne (by omega)] | rw [cp_o (by omega)])) (by repeat (first | rfl | rw [up_eq] | rw [up_ne (by omega)] | rw [cp_o (by omega)])))
          · refine r_icmp_gt0 (pc' := 206) rfl rfl (by omega) (by omega) ?_
            refine r_aload (pc' := 207) rfl rfl rfl ?_
            refine r_getr (pc' := 210) (v := 247) rfl rfl rfl rfl rfl ?_
            refine r_iload (pc' := 211) rfl rfl rfl ?_
            refine r_aldv (pc' := 212) (v := ((U 247 d) + (pop (S 236 (0 + (U 245 d)))))) 9 rfl rfl rfl (by omega) (by first | rfl | exact up_eq) ?_
            refine r_aload (pc' := 213) rfl rfl rfl ?_
            refine r_getv (pc' := 216) (v := (U 232 26)) rfl rfl (Or.inl rfl) rfl rfl ?_
            by_cases h25 : ((U 247 d) + (pop (S 236 (0 + (U 245 d))))) = (U 232 26)
            · refine r_icmp_ne0 (pc' := 219) rfl rfl (by omega) (by omega) ?_
              refine r_iload (pc' := 220) rfl rfl rfl ?_
              refine r_aload (pc' := 221) rfl rfl rfl ?_
              refine r_getv (pc' := 224) (v := (U 232 25)) rfl rfl (Or.inl rfl) rfl rfl ?_
              have b26 : 0 ≤ U 232 25 ∧ U 232 25 ≤ 7 := hU 232 25
              by_cases h27 : (d + 1) < (U 232 25)
              · refine r_icmp_ge0 (pc' := 227) rfl rfl (by omega) (by omega) ?_
                refine r_const (pc' := 228) rfl rfl ?_
                refine r_goto (pc' := 232) rfl rfl ?_
                refine r_istore (pc' := 234) (ls' := [some (.inr (.inr 232)), some (.inl (mx_or m2 (mx_shl 1 (U 245 d)))), some (.inl (d + 1)), some (.inl (U 245 d)), some (.inl 1)]) rfl rfl rfl rfl ?_
                refine r_iload (pc' := 236) rfl rfl rfl ?_
                refine r_if_eq0 (pc' := 239) rfl rfl (by decide) (by decide) ?_
                refine r_aload (pc' := 240) rfl rfl rfl ?_
                refine r_aload (pc' := 241) rfl rfl rfl ?_
                refine r_getr (pc' := 244) (v := 247) rfl rfl rfl rfl rfl ?_
                refine r_iload (pc' := 245) rfl rfl rfl ?_
                refine r_aldv (pc' := 246) (v := ((U 247 d) + (pop (S 236 (0 + (U 245 d)))))) 9 rfl rfl rfl (by omega) (by first | rfl | exact up_eq) ?_
                refine r_put (pc' := 249) rfl rfl rfl rfl ?_
                refine r_aload (pc' := 250) rfl rfl rfl ?_
                refine r_iload (pc' := 251) rfl rfl rfl ?_
                refine r_put (pc' := 254) rfl rfl rfl rfl ?_
                refine r_aload (pc' := 255) rfl rfl rfl ?_
                refine r_getr (pc' := 258) (v := 245) rfl rfl rfl rfl rfl ?_
                refine r_const (pc' := 259) rfl rfl ?_
                refine r_aload (pc' := 260) rfl rfl rfl ?_
                refine r_getr (pc' := 263) (v := 248) rfl rfl rfl rfl rfl ?_
                refine r_const (pc' := 264) rfl rfl ?_
                refine r_iload (pc' := 265) rfl rfl rfl ?_
                have he : ∀ k : Int, 0 ≤ k → k < d + 1 → 0 ≤ (mx_up (mx_up (mx_up (mx_up U 246 (d + 1) (U 246 d + ngW U (aT U U d) (U 245 d))) 247 (d + 1) ((U 247 d) + (pop (S 236 (0 + (U 245 d)))))) 232 26 ((U 247 d) + (pop (S 236 (0 + (U 245 d)))))) 232 25 (d + 1)) 245 k ∧ (mx_up (mx_up (mx_up (mx_up U 246 (d + 1) (U 246 d + ngW U (aT U U d) (U 245 d))) 247 (d + 1) ((U 247 d) + (pop (S 236 (0 + (U 245 d)))))) 232 26 ((U 247 d) + (pop (S 236 (0 + (U 245 d)))))) 232 25 (d + 1)) 245 k ≤ 6 := fun k k0 k1 => by
                  have q : (mx_up (mx_up (mx_up (mx_up U 246 (d + 1) (U 246 d + ngW U (aT U U d) (U 245 d))) 247 (d + 1) ((U 247 d) + (pop (S 236 (0 + (U 245 d)))))) 232 26 ((U 247 d) + (pop (S 236 (0 + (U 245 d)))))) 232 25 (d + 1)) 245 k = U 245 k := by repeat (first | rfl | rw [up_ne (by omega)])
                  rw [q]
                  by_cases z : k = d
                  · rw [z]; omega
                  · have q := hb2 k k0 (by omega); omega
                refine q_callE (pc' := 268) (w := none) (S2 := mx_cp (mx_up (mx_up (mx_up (mx_up U 246 (d + 1) (U 246 d + ngW U (aT U U d) (U 245 d))) 247 (d + 1) ((U 247 d) + (pop (S 236 (0 + (U 245 d)))))) 232 26 ((U 247 d) + (pop (S 236 (0 + (U 245 d)))))) 232 25 (d + 1)) 245 0 248 0 (d + 1)) (st' := []) rfl rfl rfl (c_X11_copies_wb (n := (d + 1)) (S := mx_up (mx_up (mx_up (mx_up U 246 (d + 1) (U 246 d + ngW U (aT U U d) (U 245 d))) 247 (d + 1) ((U 247 d) + (pop (S 236 (0 + (U 245 d)))))) 232 26 ((U 247 d) + (pop (S 236 (0 + (U 245 d)))))) 232 25 (d + 1)) (Bd_up (Bd_up (Bd_up (Bd_up hU (show (0 : Int) ≤ (U 246 d + ngW U (aT U U d) (U 245 d)) from by omega) (show (U 246 d + ngW U (aT U U d) (U 245 d)) ≤ (4000000 : Int) from by omega)) (show (0 : Int) ≤ ((U 247 d) + (pop (S 236 (0 + (U 245 d))))) from by omega) (show ((U 247 d) + (pop (S 236 (0 + (U 245 d))))) ≤ (56 : Int) from by omega)) (show (0 : Int) ≤ ((U 247 d) + (pop (S 236 (0 + (U 245 d))))) from by omega) (show ((U 247 d) + (pop (S 236 (0 + (U 245 d))))) ≤ (56 : Int) from by omega)) (show (0 : Int) ≤ (d + 1) from by omega) (show (d + 1) ≤ (7 : Int) from by omega)) (show 0 ≤ (d + 1) ∧ (d + 1) ≤ 8 from by omega) (show ∀ k : Int, 0 ≤ k → k < (d + 1) → 0 ≤ (mx_up (mx_up (mx_up (mx_up U 246 (d + 1) (U 246 d + ngW U (aT U U d) (U 245 d))) 247 (d + 1) ((U 247 d) + (pop (S 236 (0 + (U 245 d)))))) 232 26 ((U 247 d) + (pop (S 236 (0 + (U 245 d)))))) 232 25 (d + 1)) 245 k ∧ (mx_up (mx_up (mx_up (mx_up U 246 (d + 1) (U 246 d + ngW U (aT U U d) (U 245 d))) 247 (d + 1) ((U 247 d) + (pop (S 236 (0 + (U 245 d)))))) 232 26 ((U 247 d) + (pop (S 236 (0 + (U 245 d)))))) 232 25 (d + 1)) 245 k ≤ 6 from by exact he)) (by decide) rfl rfl (Nat.le_of_ble_eq_true rfl) (fun q => absurd rfl q) rfl rfl ?_
                have hB28 : Bd (mx_cp (mx_up (mx_up (mx_up (mx_up U 246 (d + 1) (U 246 d + ngW U (aT U U d) (U 245 d))) 247 (d + 1) ((U 247 d) + (pop (S 236 (0 + (U 245 d)))))) 232 26 ((U 247 d) + (pop (S 236 (0 + (U 245 d)))))) 232 25 (d + 1)) 245 0 248 0 (d + 1)) := Bd_cpv (Bd_up (Bd_up (Bd_up (Bd_up hU (show (0 : Int) ≤ (U 246 d + ngW U (aT U U d) (U 245 d)) from by omega) (show (U 246 d + ngW U (aT U U d) (U 245 d)) ≤ (4000000 : Int) from by omega)) (show (0 : Int) ≤ ((U 247 d) + (pop (S 236 (0 + (U 245 d))))) from by omega) (show ((U 247 d) + (pop (S 236 (0 + (U 245 d))))) ≤ (56 : Int) from by omega)) (show (0 : Int) ≤ ((U 247 d) + (pop (S 236 (0 + (U 245 d))))) from by omega) (show ((U 247 d) + (pop (S 236 (0 + (U 245 d))))) ≤ (56 : Int) from by omega)) (show (0 : Int) ≤ (d + 1) from by omega) (show (d + 1) ≤ (7 : Int) from by omega)) (fun k k0 k1 => by rw [Int.zero_add]; exact he k k0 k1)
                refine r_aload (pc' := 269) rfl rfl rfl ?_
                refine r_getr (pc' := 272) (v := 245) rfl rfl rfl rfl rfl ?_
                refine r_iload (pc' := 273) rfl rfl rfl ?_
                refine r_const (pc' := 274) rfl rfl ?_
                refine r_ast (pc' := 275) 8 rfl rfl rfl (by omega) ?_
                have hFI : FI S (mx_up (mx_cp (mx_up (mx_up (mx_up (mx_up U 246 (d + 1) (U 246 d + ngW U (aT U U d) (U 245 d))) 247 (d + 1) ((U 247 d) + (pop (S 236 (0 + (U 245 d)))))) 232 26 ((U 247 d) + (pop (S 236 (0 + (U 245 d)))))) 232 25 (d + 1)) 245 0 248 0 (d + 1)) 245 (d + 1) (-1)) (d + 1) (mx_or m2 (mx_shl 1 (U 245 d))) := by
                  refine FI_push hB hJ (f := U 245 d) (g := U 247 d + pop (S 236 (0 + (U 245 d)))) rfl (by assumption) (by rw [← emy]; exact bi_n0 (by assumption)) rfl (Bd_up hB28 (show (-1 : Int) ≤ (-1) from by omega) (show (-1) ≤ (7 : Int) from by omega)) ?_ (fun j hj => by repeat (first | rfl | rw [up_ne (by omega)] | rw [cp_o (by omega)])) (by repeat (first | rfl | rw [up_eq] | rw [up_ne (by omega)] | rw [cp_o (by omega)])) (fun j hj => by repeat (first | rfl | rw [up_ne (by omega)] | rw [cp_o (by omega)])) (by rw [← eng, ← ea]; repeat (first | rfl | rw [up_eq] | rw [up_ne (by omega)] | rw [cp_o (by omega)])) (fun j hj => by repeat (first | rfl | rw [up_ne (by omega)] | rw [cp_o (by omega)])) (by repeat (first | rfl | rw [up_eq] | rw [up_ne (by omega)] | rw [cp_o (by omega)])) ?_
                  · intro a j ha; repeat (first | exact hgr a j ha | rw [up_ne (by omega)] | rw [cp_o (by omega)])
                  · refine Eq.trans (b := (U 247 d + pop (S 236 (0 + (U 245 d))), d + 1, fun j => if 0 ≤ j ∧ j < d + 1 then U 245 j else U 248 j)) ?_ ((if_pos (show U 232 26 < U 247 d + pop (S 236 (0 + (U 245 d))) ∨ (U 247 d + pop (S 236 (0 + (U 245 d))) = U 232 26 ∧ d + 1 < U 232 25) from by omega)).symm)
                    have e248 : ∀ j : Int, (mx_up (mx_cp (mx_up (mx_up (mx_up (mx_up U 246 (d + 1) (U 246 d + ngW U (aT U U d) (U 245 d))) 247 (d + 1) ((U 247 d) + (pop (S 236 (0 + (U 245 d)))))) 232 26 ((U 247 d) + (pop (S 236 (0 + (U 245 d)))))) 232 25 (d + 1)) 245 0 248 0 (d + 1)) 245 (d + 1) (-1)) 248 j = if 0 ≤ j ∧ j < d + 1 then U 245 j else U 248 j := fun j => by
                      rw [up_ne (by omega)]; unfold mx_cp
                      by_cases hj : 0 ≤ j ∧ j < d + 1
                      · rw [if_pos (show (248 : Int) = 248 ∧ 0 ≤ j ∧ j < 0 + (d + 1) by omega), if_pos hj, show 0 + (j - 0) = j by omega]; rfl
                      · rw [if_neg (show ¬ ((248 : Int) = 248 ∧ 0 ≤ j ∧ j < 0 + (d + 1)) by omega), if_neg hj]; rfl
                    show (U 247 d + pop (S 236 (0 + (U 245 d))), d + 1, (mx_up (mx_cp (mx_up (mx_up (mx_up (mx_up U 246 (d + 1) (U 246 d + ngW U (aT U U d) (U 245 d))) 247 (d + 1) ((U 247 d) + (pop (S 236 (0 + (U 245 d)))))) 232 26 ((U 247 d) + (pop (S 236 (0 + (U 245 d)))))) 232 25 (d + 1)) 245 0 248 0 (d + 1)) 245 (d + 1) (-1)) 248) = _
                    rw [show (mx_up (mx_cp (mx_up (mx_up (mx_up (mx_up U 246 (d + 1) (U 246 d + ngW U (aT U U d) (U 245 d))) 247 (d + 1) ((U 247 d) + (pop (S 236 (0 + (U 245 d)))))) 232 26 ((U 247 d) + (pop (S 236 (0 + (U 245 d)))))) 232 25 (d + 1)) 245 0 248 0 (d + 1)) 245 (d + 1) (-1)) 248 = fun j => if 0 ≤ j ∧ j < d + 1 then U 245 j else U 248 j from funext e248]
                refine r_goto (pc' := 47) rfl rfl ?_
                refine r_forget [true, true, true, false, false] rfl ?_
                exact ih47 ((mx_or m2 (mx_shl 1 (U 245 d))), (d + 1), (mx_up (mx_cp (mx_up (mx_up (mx_up (mx_up U 246 (d + 1) (U 246 d + ngW U (aT U U d) (U 245 d))) 247 (d + 1) ((U 247 d) + (pop (S 236 (0 + (U 245 d)))))) 232 26 ((U 247 d) + (pop (S 236 (0 + (U 245 d)))))) 232 25 (d + 1)) 245 0 248 0 (d + 1)) 245 (d + 1) (-1))) (show (FI S (mx_up (mx_cp (mx_up (mx_up (mx_up (mx_up U 246 (d + 1) (U 246 d + ngW U (aT U U d) (U 245 d))) 247 (d + 1) ((U 247 d) + (pop (S 236 (0 + (U 245 d)))))) 232 26 ((U 247 d) + (pop (S 236 (0 + (U 245 d)))))) 232 25 (d + 1)) 245 0 248 0 (d + 1)) 245 (d + 1) (-1)) (d + 1) (mx_or m2 (mx_shl 1 (U 245 d)))) from by exact hFI) (show (msF (mx_up (mx_cp (mx_up (mx_up (mx_up (mx_up U 246 (d + 1) (U 246 d + ngW U (aT U U d) (U 245 d))) 247 (d + 1) ((U 247 d) + (pop (S 236 (0 + (U 245 d)))))) 232 26 ((U 247 d) + (pop (S 236 (0 + (U 245 d)))))) 232 25 (d + 1)) 245 0 248 0 (d + 1)) 245 (d + 1) (-1)) (S 233 0) ((d + 1) + 1).toNat).toNat < (msF T (S 233 0) (d + 1).toNat).toNat from by exact ms_push hB hI hJ hFI hUT hU1 (fun j hj => by repeat (first | rfl | rw [up_ne (by omega)] | rw [cp_o (by omega)])) (by repeat (first | rfl | rw [up_eq] | rw [up_ne (by omega)] | rw [cp_o (by omega)])))
              · refine r_icmp_ge1 (pc' := 231) rfl rfl (by omega) (by omega) ?_
                refine r_const (pc' := 232) rfl rfl ?_
                refine r_istore (pc' := 234) (ls' := [some (.inr (.inr 232)), some (.inl (mx_or m2 (mx_shl 1 (U 245 d)))), some (.inl (d + 1)), some (.inl (U 245 d)), some (.inl 0)]) rfl rfl rfl rfl ?_
                refine r_iload (pc' := 236) rfl rfl rfl ?_
                refine r_if_eq1 (pc' := 268) rfl rfl (by decide) (by decide) ?_
                refine r_aload (pc' := 269) rfl rfl rfl ?_
                refine r_getr (pc' := 272) (v := 245) rfl rfl rfl rfl rfl ?_
                refine r_iload (pc' := 273) rfl rfl rfl ?_
                refine r_const (pc' := 274) rfl rfl ?_
                refine r_ast (pc' := 275) 8 rfl rfl rfl (by omega) ?_
                have hFI : FI S (mx_up (mx_up (mx_up U 246 (d + 1) (U 246 d + ngW U (aT U U d) (U 245 d))) 247 (d + 1) ((U 247 d) + (pop (S 236 (0 + (U 245 d)))))) 245 (d + 1) (-1)) (d + 1) (mx_or m2 (mx_shl 1 (U 245 d))) := by
                  refine FI_push hB hJ (f := U 245 d) (g := U 247 d + pop (S 236 (0 + (U 245 d)))) rfl (by assumption) (by rw [← emy]; exact bi_n0 (by assumption)) rfl (Bd_up (Bd_up (Bd_up hU (show (0 : Int) ≤ (U 246 d + ngW U (aT U U d) (U 245 d)) from by omega) (show (U 246 d + ngW U (aT U U d) (U 245 d)) ≤ (4000000 : Int) from by omega)) (show (0 : Int) ≤ ((U 247 d) + (pop (S 236 (0 + (U 245 d))))) from by omega) (show ((U 247 d) + (pop (S 236 (0 + (U 245 d))))) ≤ (56 : Int) from by omega)) (show (-1 : Int) ≤ (-1) from by omega) (show (-1) ≤ (7 : Int) from by omega)) ?_ (fun j hj => by repeat (first | rfl | rw [up_ne (by omega)] | rw [cp_o (by omega)])) (by repeat (first | rfl | rw [up_eq] | rw [up_ne (by omega)] | rw [cp_o (by omega)])) (fun j hj => by repeat (first | rfl | rw [up_ne (by omega)] | rw [cp_o (by omega)])) (by rw [← eng, ← ea]; repeat (first | rfl | rw [up_eq] | rw [up_ne (by omega)] | rw [cp_o (by omega)])) (fun j hj => by repeat (first | rfl | rw [up_ne (by omega)] | rw [cp_o (by omega)])) (by repeat (first | rfl | rw [up_eq] | rw [up_ne (by omega)] | rw [cp_o (by omega)])) ?_
                  · intro a j ha; repeat (first | exact hgr a j ha | rw [up_ne (by omega)] | rw [cp_o (by omega)])
                  · exact (if_neg (fun q => by have q1 : U 232 26 < U 247 d + pop (S 236 (0 + (U 245 d))) ∨ (U 247 d + pop (S 236 (0 + (U 245 d))) = U 232 26 ∧ d + 1 < U 232 25) := q; omega)).symm
                refine r_goto (pc' := 47) rfl rfl ?_
                refine r_forget [true, true, true, false, false] rfl ?_
                exact ih47 ((mx_or m2 (mx_shl 1 (U 245 d))), (d + 1), (mx_up (mx_up (mx_up U 246 (d + 1) (U 246 d + ngW U (aT U U d) (U 245 d))) 247 (d + 1) ((U 247 d) + (pop (S 236 (0 + (U 245 d)))))) 245 (d + 1) (-1))) (show (FI S (mx_up (mx_up (mx_up U 246 (d + 1) (U 246 d + ngW U (aT U U d) (U 245 d))) 247 (d + 1) ((U 247 d) + (pop (S 236 (0 + (U 245 d)))))) 245 (d + 1) (-1)) (d + 1) (mx_or m2 (mx_shl 1 (U 245 d)))) from by exact hFI) (show (msF (mx_up (mx_up (mx_up U 246 (d + 1) (U 246 d + ngW U (aT U U d) (U 245 d))) 247 (d + 1) ((U 247 d) + (pop (S 236 (0 + (U 245 d)))))) 245 (d + 1) (-1)) (S 233 0) ((d + 1) + 1).toNat).toNat < (msF T (S 233 0) (d + 1).toNat).toNat from by exact ms_push hB hI hJ hFI hUT hU1 (fun j hj => by repeat (first | rfl | rw [up_ne (by omega)] | rw [cp_o (by omega)])) (by repeat (first | rfl | rw [up_eq] | rw [up_ne (by omega)] | rw [cp_o (by omega)])))
            · refine r_icmp_ne1 (pc' := 231) rfl rfl (by omega) (by omega) ?_
              refine r_const (pc' := 232) rfl rfl ?_
              refine r_istore (pc' := 234) (ls' := [some (.inr (.inr 232)), some (.inl (mx_or m2 (mx_shl 1 (U 245 d)))), some (.inl (d + 1)), some (.inl (U 245 d)), some (.inl 0)]) rfl rfl rfl rfl ?_
              refine r_iload (pc' := 236) rfl rfl rfl ?_
              refine r_if_eq1 (pc' := 268) rfl rfl (by decide) (by decide) ?_
              refine r_aload (pc' := 269) rfl rfl rfl ?_
              refine r_getr (pc' := 272) (v := 245) rfl rfl rfl rfl rfl ?_
              refine r_iload (pc' := 273) rfl rfl rfl ?_
              refine r_const (pc' := 274) rfl rfl ?_
              refine r_ast (pc' := 275) 8 rfl rfl rfl (by omega) ?_
              have hFI : FI S (mx_up (mx_up (mx_up U 246 (d + 1) (U 246 d + ngW U (aT U U d) (U 245 d))) 247 (d + 1) ((U 247 d) + (pop (S 236 (0 + (U 245 d)))))) 245 (d + 1) (-1)) (d + 1) (mx_or m2 (mx_shl 1 (U 245 d))) := by
                refine FI_push hB hJ (f := U 245 d) (g := U 247 d + pop (S 236 (0 + (U 245 d)))) rfl (by assumption) (by rw [← emy]; exact bi_n0 (by assumption)) rfl (Bd_up (Bd_up (Bd_up hU (show (0 : Int) ≤ (U 246 d + ngW U (aT U U d) (U 245 d)) from by omega) (show (U 246 d + ngW U (aT U U d) (U 245 d)) ≤ (4000000 : Int) from by omega)) (show (0 : Int) ≤ ((U 247 d) + (pop (S 236 (0 + (U 245 d))))) from by omega) (show ((U 247 d) + (pop (S 236 (0 + (U 245 d))))) ≤ (56 : Int) from by omega)) (show (-1 : Int) ≤ (-1) from by omega) (show (-1) ≤ (7 : Int) from by omega)) ?_ (fun j hj => by repeat (first | rfl | rw [up_ne (by omega)] | rw [cp_o (by omega)])) (by repeat (first | rfl | rw [up_eq] | rw [up_ne (by omega)] | rw [cp_o (by omega)])) (fun j hj => by repeat (first | rfl | rw [up_ne (by omega)] | rw [cp_o (by omega)])) (by rw [← eng, ← ea]; repeat (first | rfl | rw [up_eq] | rw [up_ne (by omega)] | rw [cp_o (by omega)])) (fun j hj => by repeat (first | rfl | rw [up_ne (by omega)] | rw [cp_o (by omega)])) (by repeat (first | rfl | rw [up_eq] | rw [up_ne (by omega)] | rw [cp_o (by omega)])) ?_
                · intro a j ha; repeat (first | exact hgr a j ha | rw [up_ne (by omega)] | rw [cp_o (by omega)])
                · exact (if_neg (fun q => by have q1 : U 232 26 < U 247 d + pop (S 236 (0 + (U 245 d))) ∨ (U 247 d + pop (S 236 (0 + (U 245 d))) = U 232 26 ∧ d + 1 < U 232 25) := q; omega)).symm
              refine r_goto (pc' := 47) rfl rfl ?_
              refine r_forget [true, true, true, false, false] rfl ?_
              exact ih47 ((mx_or m2 (mx_shl 1 (U 245 d))), (d + 1), (mx_up (mx_up (mx_up U 246 (d + 1) (U 246 d + ngW U (aT U U d) (U 245 d))) 247 (d + 1) ((U 247 d) + (pop (S 236 (0 + (U 245 d)))))) 245 (d + 1) (-1))) (show (FI S (mx_up (mx_up (mx_up U 246 (d + 1) (U 246 d + ngW U (aT U U d) (U 245 d))) 247 (d + 1) ((U 247 d) + (pop (S 236 (0 + (U 245 d)))))) 245 (d + 1) (-1)) (d + 1) (mx_or m2 (mx_shl 1 (U 245 d)))) from by exact hFI) (show (msF (mx_up (mx_up (mx_up U 246 (d + 1) (U 246 d + ngW U (aT U U d) (U 245 d))) 247 (d + 1) ((U 247 d) + (pop (S 236 (0 + (U 245 d)))))) 245 (d + 1) (-1)) (S 233 0) ((d + 1) + 1).toNat).toNat < (msF T (S 233 0) (d + 1).toNat).toNat from by exact ms_push hB hI hJ hFI hUT hU1 (fun j hj => by repeat (first | rfl | rw [up_ne (by omega)] | rw [cp_o (by omega)])) (by repeat (first | rfl | rw [up_eq] | rw [up_ne (by omega)] | rw [cp_o (by omega)])))
      · refine r_icmp_ge1 (pc' := 130) rfl rfl (by omega) (by omega) ?_
        refine r_aload (pc' := 131) rfl rfl rfl ?_
        refine r_getr (pc' := 134) (v := 245) rfl rfl rfl rfl rfl ?_
        refine r_iload (pc' := 135) rfl rfl rfl ?_
        refine r_aldv (pc' := 136) (v := (U 245 d)) 8 rfl rfl rfl (by omega) rfl ?_
        refine r_aload (pc' := 137) rfl rfl rfl ?_
        refine r_getr (pc' := 140) (v := 233) rfl rfl rfl rfl rfl ?_
        refine r_const (pc' := 141) rfl rfl ?_
        refine r_aldv (pc' := 142) (v := (S 233 0)) 187 rfl rfl rfl (by omega) (hgr 233 0 (by omega)) ?_
        refine r_icmp_lt0 (pc' := 145) rfl rfl (by omega) (by omega) ?_
        refine r_iinc (pc' := 148) (ls' := [some (.inr (.inr 232)), some (.inl m2), some (.inl (d + (-1))), none, none]) rfl rfl rfl rfl rfl ?_
        have hFI : FI S U (d + -1) m2 := by rw [show d + -1 = d - 1 by omega]; exact FI_pop hB hJ (by assumption)
        refine r_goto (pc' := 47) rfl rfl ?_
        exact ih47 (m2, (d + (-1)), U) (show (FI S U (d + (-1)) m2) from by exact hFI) (show (msF U (S 233 0) ((d + (-1)) + 1).toNat).toNat < (msF T (S 233 0) (d + 1).toNat).toNat from by rw [show d + -1 = d - 1 by omega]; exact ms_pop hB hI hJ hUT)
    · refine r_if_ge1 (pc' := 65) rfl rfl (by omega) (by omega) ?_
      refine r_const (pc' := 66) rfl rfl ?_
      refine r_aload (pc' := 67) rfl rfl rfl ?_
      refine r_getr (pc' := 70) (v := 245) rfl rfl rfl rfl rfl ?_
      refine r_iload (pc' := 71) rfl rfl rfl ?_
      refine r_aldv (pc' := 72) (v := (T 245 d)) 8 rfl rfl rfl (by omega) rfl ?_
      refine r_ishl (pc' := 73) rfl rfl ?_
      have b29 := mx_shl_r 1 (T 245 d)
      have e30 := shl_u (k := (T 245 d)) 7 (by omega) (by omega)
      refine r_const (pc' := 74) rfl rfl ?_
      refine r_ixor (pc' := 75) rfl rfl ?_
      have b31 := mx_xor_r (mx_shl 1 (T 245 d)) (-1)
      refine r_iand (pc' := 76) rfl rfl ?_
      have b32 := mx_and_r met (mx_xor (mx_shl 1 (T 245 d)) (-1))
      have e33 : 0 ≤ mx_and met (mx_xor (mx_shl 1 (T 245 d)) (-1)) ∧ mx_and met (mx_xor (mx_shl 1 (T 245 d)) (-1)) < 128 := and_u (a := met) (b := (mx_xor (mx_shl 1 (T 245 d)) (-1))) 7 (by omega) (by omega) (by omega)
      refine r_istore (pc' := 77) (ls' := [some (.inr (.inr 232)), some (.inl (mx_and met (mx_xor (mx_shl 1 (T 245 d)) (-1)))), some (.inl d), none, none]) rfl rfl rfl rfl ?_
      refine r_aload (pc' := 78) rfl rfl rfl ?_
      refine r_getr (pc' := 81) (v := 245) rfl rfl rfl rfl rfl ?_
      refine r_iload (pc' := 82) rfl rfl rfl ?_
      refine r_dup2 (pc' := 83) rfl rfl ?_
      refine r_aldv (pc' := 84) (v := (T 245 d)) 8 rfl rfl rfl (by omega) rfl ?_
      refine r_const (pc' := 85) rfl rfl ?_
      refine r_iadd (pc' := 86) rfl rfl ?_
      refine r_ast (pc' := 87) 8 rfl rfl rfl (by omega) ?_
      have hw := hw (by omega)
      refine r_while (α := Int × rS) (fun z' => [some (.inr (.inr 232)), some (.inl z'.1), some (.inl d), none, none]) (fun z' => z'.2) (fun z' => (FJ S z'.2 d z'.1) ∧ (∀ jj : Int, 0 ≤ jj → jj < d → z'.2 245 jj = T 245 jj) ∧ (T 245 d + 1 ≤ z'.2 245 d)) (fun z' => (S 233 0 - z'.2 245 d).toNat) ?_ ((mx_and met (mx_xor (mx_shl 1 (T 245 d)) (-1))), (mx_up T 245 d ((T 245 d) + 1))) (show (FJ S (mx_up T 245 d ((T 245 d) + 1)) d (mx_and met (mx_xor (mx_shl 1 (T 245 d)) (-1)))) ∧ (∀ jj : Int, 0 ≤ jj → jj < d → (mx_up T 245 d ((T 245 d) + 1)) 245 jj = T 245 jj) ∧ (T 245 d + 1 ≤ (mx_up T 245 d ((T 245 d) + 1)) 245 d) from by exact ⟨FJ_i hB hI (by omega) (Bd_up hT (show (-1 : Int) ≤ ((T 245 d) + 1) from by omega) (show ((T 245 d) + 1) ≤ (7 : Int) from by omega)) (Or.inr ⟨by omega, rfl⟩), fun j j0 j1 => up_ne (by omega), by rw [up_eq]; omega⟩)
      rintro ⟨m2, U⟩ hI' ih87
      have hI' : (FJ S U d m2) ∧ (∀ jj : Int, 0 ≤ jj → jj < d → U 245 jj = T 245 jj) ∧ (T 245 d + 1 ≤ U 245 d) := hI'
      obtain ⟨hJ, hUT, hU1⟩ := hI'
      show RS _ _ _ _ [some (.inr (.inr 232)), some (.inl m2), some (.inl d), none, none] [] U
      obtain ⟨hU, hgr, hd2, hm2, hw2, hq2, hb2⟩ := FJ_b hB hJ
      have b34 : -1 ≤ U 245 d ∧ U 245 d ≤ 7 := hU 245 d
      refine r_aload (pc' := 88) rfl rfl rfl ?_
      refine r_getr (pc' := 91) (v := 245) rfl rfl rfl rfl rfl ?_
      refine r_iload (pc' := 92) rfl rfl rfl ?_
      refine r_aldv (pc' := 93) (v := (U 245 d)) 8 rfl rfl rfl (by omega) rfl ?_
      refine r_aload (pc' := 94) rfl rfl rfl ?_
      refine r_getr (pc' := 97) (v := 233) rfl rfl rfl rfl rfl ?_
      refine r_const (pc' := 98) rfl rfl ?_
      refine r_aldv (pc' := 99) (v := (S 233 0)) 187 rfl rfl rfl (by omega) (hgr 233 0 (by omega)) ?_
      have b35 : 0 ≤ S 233 0 ∧ S 233 0 ≤ 7 := hB 233 0
      by_cases h36 : (U 245 d) < (S 233 0)
      · refine r_icmp_ge0 (pc' := 102) rfl rfl (by omega) (by omega) ?_
        refine r_aload (pc' := 103) rfl rfl rfl ?_
        refine r_iload (pc' := 104) rfl rfl rfl ?_
        refine r_aload (pc' := 105) rfl rfl rfl ?_
        refine r_getr (pc' := 108) (v := 245) rfl rfl rfl rfl rfl ?_
        refine r_iload (pc' := 109) rfl rfl rfl ?_
        refine r_aldv (pc' := 110) (v := (U 245 d)) 8 rfl rfl rfl (by omega) rfl ?_
        refine r_iload (pc' := 111) rfl rfl rfl ?_
        have b37 : 0 ≤ U 246 d ∧ U 246 d ≤ 4000000 := hU 246 d
        refine q_callE (pc' := 114) (w := some (.inl (bi (myW U m2 (aT U U d) (U 246 d) (U 245 d))))) (S2 := mx_up U 246 (d + 1) (U 246 d + ngW U (aT U U d) (U 245 d))) (st' := [.inl (bi (myW U m2 (aT U U d) (U 246 d) (U 245 d)))]) rfl rfl rfl (c_X11_mayWalk (d := d) (f := (U 245 d)) (met := m2) (S := U) hU (show 0 ≤ d ∧ d < 8 from by omega) (show 0 ≤ (U 245 d) ∧ (U 245 d) < 7 from by omega) (show 0 ≤ m2 ∧ m2 < 128 from by omega) (show d ≠ 0 → 0 ≤ U 245 (d - 1) ∧ U 245 (d - 1) ≤ 6 from by exact fun z => by have q := hb2 (d - 1) (by omega) (by omega); omega) (show U 246 d ≤ 99 from by omega)) (by decide) rfl rfl (Nat.le_of_ble_eq_true rfl) (fun _ _ => ⟨_, _, rfl, rfl⟩) rfl rfl ?_
        have b38 : (bi (myW U m2 (aT U U d) (U 246 d) (U 245 d))) = 0 ∨ (bi (myW U m2 (aT U U d) (U 246 d) (U 245 d))) = 1 := bi_r _
        have b39 : 0 ≤ ngW U (aT U U d) (U 245 d) ∧ ngW U (aT U U d) (U 245 d) ≤ 1000034 := ngW_b hU (by omega)
        have eU : ∀ a j : Int, ¬ (245 ≤ a ∧ a ≤ 248 ∨ a = 232 ∧ (j = 25 ∨ j = 26)) → U a j = S a j := hgr
        have ea : aT U U d = aT S U d := by unfold aT; rw [eU 236 11 (by omega)]
        have eng : ∀ a f : Int, ngW U a f = ngW S a f := fun a f => by unfold ngW; rw [eU 235 _ (by omega), eU 233 _ (by omega), eU 236 _ (by omega)]
        have emy : myW U m2 (aT U U d) (U 246 d) (U 245 d) = myW S m2 (aT S U d) (U 246 d) (U 245 d) := by unfold myW; rw [ea, eng, eU 233 _ (by omega), eU 236 10 (by omega), eU 233 186 (by omega)]
        by_cases h40 : (bi (myW U m2 (aT U U d) (U 246 d) (U 245 d))) = 0
        · refine r_if_ne0 (pc' := 117) rfl rfl (by omega) (by omega) ?_
          refine r_aload (pc' := 118) rfl rfl rfl ?_
          refine r_getr (pc' := 121) (v := 245) rfl rfl rfl rfl rfl ?_
          refine r_iload (pc' := 122) rfl rfl rfl ?_
          refine r_dup2 (pc' := 123) rfl rfl ?_
          refine r_aldv (pc' := 124) (v := (U 245 d)) 8 rfl rfl rfl (by omega) rfl ?_
          refine r_const (pc' := 125) rfl rfl ?_
          refine r_iadd (pc' := 126) rfl rfl ?_
          refine r_ast (pc' := 127) 8 rfl rfl rfl (by omega) ?_
          refine r_goto (pc' := 87) rfl rfl ?_
          exact ih87 (m2, (mx_up (mx_up U 246 (d + 1) (U 246 d + ngW U (aT U U d) (U 245 d))) 245 d ((U 245 d) + 1))) (show (FJ S (mx_up (mx_up U 246 (d + 1) (U 246 d + ngW U (aT U U d) (U 245 d))) 245 d ((U 245 d) + 1)) d m2) ∧ (∀ jj : Int, 0 ≤ jj → jj < d → (mx_up (mx_up U 246 (d + 1) (U 246 d + ngW U (aT U U d) (U 245 d))) 245 d ((U 245 d) + 1)) 245 jj = T 245 jj) ∧ (T 245 d + 1 ≤ (mx_up (mx_up U 246 (d + 1) (U 246 d + ngW U (aT U U d) (U 245 d))) 245 d ((U 245 d) + 1)) 245 d) from by exact ⟨FJ_n hJ (by assumption) (Bd_up (Bd_up hU (show (0 : Int) ≤ (U 246 d + ngW U (aT U U d) (U 245 d)) from by omega) (show (U 246 d + ngW U (aT U U d) (U 245 d)) ≤ (4000000 : Int) from by omega)) (show (-1 : Int) ≤ ((U 245 d) + 1) from by omega) (show ((U 245 d) + 1) ≤ (7 : Int) from by omega)) (by rw [← eng, ← ea]) (by rw [← emy]; exact bi_00 (by assumption)), fun j j0 j1 => ((up_ne (by omega)).trans (up_ne (by omega))).trans (hUT j j0 j1), by rw [up_eq]; omega⟩) (show (S 233 0 - (mx_up (mx_up U 246 (d + 1) (U 246 d + ngW U (aT U U d) (U 245 d))) 245 d ((U 245 d) + 1)) 245 d).toNat < (S 233 0 - U 245 d).toNat from by rw [up_eq]; omega)
        · refine r_if_ne1 (pc' := 130) rfl rfl (by omega) (by omega) ?_
          refine r_aload (pc' := 131) rfl rfl rfl ?_
          refine r_getr (pc' := 134) (v := 245) rfl rfl rfl rfl rfl ?_
          refine r_iload (pc' := 135) rfl rfl rfl ?_
          refine r_aldv (pc' := 136) (v := (U 245 d)) 8 rfl rfl rfl (by omega) rfl ?_
          refine r_aload (pc' := 137) rfl rfl rfl ?_
          refine r_getr (pc' := 140) (v := 233) rfl rfl rfl rfl rfl ?_
          refine r_const (pc' := 141) rfl rfl ?_
          refine r_aldv (pc' := 142) (v := (S 233 0)) 187 rfl rfl rfl (by omega) ((up_ne (by omega)).trans (hgr 233 0 (by omega))) ?_
          refine r_icmp_lt1 (pc' := 151) rfl rfl (by omega) (by omega) ?_
          have hmy : myW U m2 (aT U U d) (U 246 d) (U 245 d) := bi_n0 (by assumption)
          have d6 : d ≤ 6 := d7 hB hd2.1 hJ.1.2.1 (f := U 245 d) (by omega) (by rw [← hJ.2.2.1]; exact hmy.1)
          refine r_aload (pc' := 152) rfl rfl rfl ?_
          refine r_getr (pc' := 155) (v := 245) rfl rfl rfl rfl rfl ?_
          refine r_iload (pc' := 156) rfl rfl rfl ?_
          refine r_aldv (pc' := 157) (v := (U 245 d)) 8 rfl rfl rfl (by omega) rfl ?_
          refine r_istore (pc' := 158) (ls' := [some (.inr (.inr 232)), some (.inl m2), some (.inl d), some (.inl (U 245 d)), none]) rfl rfl rfl rfl ?_
          refine r_iload (pc' := 159) rfl rfl rfl ?_
          refine r_const (pc' := 160) rfl rfl ?_
          refine r_iload (pc' := 161) rfl rfl rfl ?_
          refine r_ishl (pc' := 162) rfl rfl ?_
          have b41 := mx_shl_r 1 (U 245 d)
          have e42 := shl_u (k := (U 245 d)) 7 (by omega) (by omega)
          refine r_ior (pc' := 163) rfl rfl ?_
          have b43 := mx_or_r m2 (mx_shl 1 (U 245 d))
          have e44 := or_u (a := m2) (b := (mx_shl 1 (U 245 d))) 7 (by omega) (by omega) (by omega) (by omega) (by omega)
          refine r_istore (pc' := 164) (ls' := [some (.inr (.inr 232)), some (.inl (mx_or m2 (mx_shl 1 (U 245 d)))), some (.inl d), some (.inl (U 245 d)), none]) rfl rfl rfl rfl ?_
          refine r_aload (pc' := 165) rfl rfl rfl ?_
          refine r_getr (pc' := 168) (v := 247) rfl rfl rfl rfl rfl ?_
          refine r_iload (pc' := 169) rfl rfl rfl ?_
          refine r_const (pc' := 170) rfl rfl ?_
          refine r_iadd (pc' := 171) rfl rfl ?_
          refine r_aload (pc' := 172) rfl rfl rfl ?_
          refine r_getr (pc' := 175) (v := 247) rfl rfl rfl rfl rfl ?_
          refine r_iload (pc' := 176) rfl rfl rfl ?_
          refine r_aldv (pc' := 177) (v := (U 247 d)) 9 rfl rfl rfl (by omega) rfl ?_
          have b45 : 0 ≤ U 247 d ∧ U 247 d ≤ 56 := hU 247 d
          refine r_aload (pc' := 178) rfl rfl rfl ?_
          refine r_getr (pc' := 181) (v := 236) rfl rfl rfl rfl rfl ?_
          refine r_const (pc' := 182) rfl rfl ?_
          refine r_iload (pc' := 183) rfl rfl rfl ?_
          refine r_iadd (pc' := 184) rfl rfl ?_
          refine r_aldv (pc' := 185) (v := (S 236 (0 + (U 245 d)))) 12 rfl rfl rfl (by omega) ((up_ne (by omega)).trans (hgr 236 (0 + (U 245 d)) (by omega))) ?_
          have b46 := bdc_236_0 hB (U 245 d)
          have g8 := pop_8 (lf8 hB (f := U 245 d) (by omega))
          refine q_callE (pc' := 188) (w := some (.inl (pop (S 236 (0 + (U 245 d)))))) (S2 := mx_up U 246 (d + 1) (U 246 d + ngW U (aT U U d) (U 245 d))) (st' := [.inl (pop (S 236 (0 + (U 245 d)))), .inl (U 247 d), .inl (d + 1), .inr (.inr 247)]) rfl rfl rfl (c_X11_bits (a := (S 236 (0 + (U 245 d)))) (S := mx_up U 246 (d + 1) (U 246 d + ngW U (aT U U d) (U 245 d)))  (show 0 ≤ (S 236 (0 + (U 245 d))) ∧ (S 236 (0 + (U 245 d))) < 512 from by omega)) (by decide) rfl rfl (Nat.le_of_ble_eq_true rfl) (fun q => absurd rfl q) rfl rfl ?_
          have b47 : 0 ≤ (pop (S 236 (0 + (U 245 d)))) ∧ (pop (S 236 (0 + (U 245 d)))) ≤ 9 := pop_r _
          refine r_iadd (pc' := 189) rfl rfl ?_
          refine r_ast (pc' := 190) 9 rfl rfl rfl (by omega) ?_
          refine r_iinc (pc' := 193) (ls' := [some (.inr (.inr 232)), some (.inl (mx_or m2 (mx_shl 1 (U 245 d)))), some (.inl (d + 1)), some (.inl (U 245 d)), none]) rfl rfl rfl rfl rfl ?_
          refine r_aload (pc' := 194) rfl rfl rfl ?_
          refine r_getr (pc' := 197) (v := 247) rfl rfl rfl rfl rfl ?_
          refine r_iload (pc' := 198) rfl rfl rfl ?_
          refine r_aldv (pc' := 199) (v := ((U 247 d) + (pop (S 236 (0 + (U 245 d)))))) 9 rfl rfl rfl (by omega) (by first | rfl | exact up_eq) ?_
          refine r_aload (pc' := 200) rfl rfl rfl ?_
          refine r_getv (pc' := 203) (v := (U 232 26)) rfl rfl (Or.inl rfl) rfl rfl ?_
          have b48 : 0 ≤ U 232 26 ∧ U 232 26 ≤ 56 := hU 232 26
          by_cases h49 : (U 232 26) < ((U 247 d) + (pop (S 236 (0 + (U 245 d)))))
          · refine r_icmp_gt1 (pc' := 227) rfl rfl (by omega) (by omega) ?_
            refine r_const (pc' := 228) rfl rfl ?_
            refine r_goto (pc' := 232) rfl rfl ?_
            refine r_istore (pc' := 234) (ls' := [some (.inr (.inr 232)), some (.inl (mx_or m2 (mx_shl 1 (U 245 d)))), some (.inl (d + 1)), some (.inl (U 245 d)), some (.inl 1)]) rfl rfl rfl rfl ?_
            refine r_iload (pc' := 236) rfl rfl rfl ?_
            refine r_if_eq0 (pc' := 239) rfl rfl (by decide) (by decide) ?_
            refine r_aload (pc' := 240) rfl rfl rfl ?_
            refine r_aload (pc' := 241) rfl rfl rfl ?_
            refine r_getr (pc' := 244) (v := 247) rfl rfl rfl rfl rfl ?_
            refine r_iload (pc' := 245) rfl rfl rfl ?_
            refine r_aldv (pc' := 246) (v := ((U 247 d) + (pop (S 236 (0 + (U 245 d)))))) 9 rfl rfl rfl (by omega) (by first | rfl | exact up_eq) ?_
            refine r_put (pc' := 249) rfl rfl rfl rfl ?_
            refine r_aload (pc' := 250) rfl rfl rfl ?_
            refine r_iload (pc' := 251) rfl rfl rfl ?_
            refine r_put (pc' := 254) rfl rfl rfl rfl ?_
            refine r_aload (pc' := 255) rfl rfl rfl ?_
            refine r_getr (pc' := 258) (v := 245) rfl rfl rfl rfl rfl ?_
            refine r_const (pc' := 259) rfl rfl ?_
            refine r_aload (pc' := 260) rfl rfl rfl ?_
            refine r_getr (pc' := 263) (v := 248) rfl rfl rfl rfl rfl ?_
            refine r_const (pc' := 264) rfl rfl ?_
            refine r_iload (pc' := 265) rfl rfl rfl ?_
            have he : ∀ k : Int, 0 ≤ k → k < d + 1 → 0 ≤ (mx_up (mx_up (mx_up (mx_up U 246 (d + 1) (U 246 d + ngW U (aT U U d) (U 245 d))) 247 (d + 1) ((U 247 d) + (pop (S 236 (0 + (U 245 d)))))) 232 26 ((U 247 d) + (pop (S 236 (0 + (U 245 d)))))) 232 25 (d + 1)) 245 k ∧ (mx_up (mx_up (mx_up (mx_up U 246 (d + 1) (U 246 d + ngW U (aT U U d) (U 245 d))) 247 (d + 1) ((U 247 d) + (pop (S 236 (0 + (U 245 d)))))) 232 26 ((U 247 d) + (pop (S 236 (0 + (U 245 d)))))) 232 25 (d + 1)) 245 k ≤ 6 := fun k k0 k1 => by
              have q : (mx_up (mx_up (mx_up (mx_up U 246 (d + 1) (U 246 d + ngW U (aT U U d) (U 245 d))) 247 (d + 1) ((U 247 d) + (pop (S 236 (0 + (U 245 d)))))) 232 26 ((U 247 d) + (pop (S 236 (0 + (U 245 d)))))) 232 25 (d + 1)) 245 k = U 245 k := by repeat (first | rfl | rw [up_ne (by omega)])
              rw [q]
              by_cases z : k = d
              · rw [z]; omega
              · have q := hb2 k k0 (by omega); omega
            refine q_callE (pc' := 268) (w := none) (S2 := mx_cp (mx_up (mx_up (mx_up (mx_up U 246 (d + 1) (U 246 d + ngW U (aT U U d) (U 245 d))) 247 (d + 1) ((U 247 d) + (pop (S 236 (0 + (U 245 d)))))) 232 26 ((U 247 d) + (pop (S 236 (0 + (U 245 d)))))) 232 25 (d + 1)) 245 0 248 0 (d + 1)) (st' := []) rfl rfl rfl (c_X11_copies_wb (n := (d + 1)) (S := mx_up (mx_up (mx_up (mx_up U 246 (d + 1) (U 246 d + ngW U (aT U U d) (U 245 d))) 247 (d + 1) ((U 247 d) + (pop (S 236 (0 + (U 245 d)))))) 232 26 ((U 247 d) + (pop (S 236 (0 + (U 245 d)))))) 232 25 (d + 1)) (Bd_up (Bd_up (Bd_up (Bd_up hU (show (0 : Int) ≤ (U 246 d + ngW U (aT U U d) (U 245 d)) from by omega) (show (U 246 d + ngW U (aT U U d) (U 245 d)) ≤ (4000000 : Int) from by omega)) (show (0 : Int) ≤ ((U 247 d) + (pop (S 236 (0 + (U 245 d))))) from by omega) (show ((U 247 d) + (pop (S 236 (0 + (U 245 d))))) ≤ (56 : Int) from by omega)) (show (0 : Int) ≤ ((U 247 d) + (pop (S 236 (0 + (U 245 d))))) from by omega) (show ((U 247 d) + (pop (S 236 (0 + (U 245 d))))) ≤ (56 : Int) from by omega)) (show (0 : Int) ≤ (d + 1) from by omega) (show (d + 1) ≤ (7 : Int) from by omega)) (show 0 ≤ (d + 1) ∧ (d + 1) ≤ 8 from by omega) (show ∀ k : Int, 0 ≤ k → k < (d + 1) → 0 ≤ (mx_up (mx_up (mx_up (mx_up U 246 (d + 1) (U 246 d + ngW U (aT U U d) (U 245 d))) 247 (d + 1) ((U 247 d) + (pop (S 236 (0 + (U 245 d)))))) 232 26 ((U 247 d) + (pop (S 236 (0 + (U 245 d)))))) 232 25 (d + 1)) 245 k ∧ (mx_up (mx_up (mx_up (mx_up U 246 (d + 1) (U 246 d + ngW U (aT U U d) (U 245 d))) 247 (d + 1) ((U 247 d) + (pop (S 236 (0 + (U 245 d)))))) 232 26 ((U 247 d) + (pop (S 236 (0 + (U 245 d)))))) 232 25 (d + 1)) 245 k ≤ 6 from by exact he)) (by decide) rfl rfl (Nat.le_of_ble_eq_true rfl) (fun q => absurd rfl q) rfl rfl ?_
            have hB50 : Bd (mx_cp (mx_up (mx_up (mx_up (mx_up U 246 (d + 1) (U 246 d + ngW U (aT U U d) (U 245 d))) 247 (d + 1) ((U 247 d) + (pop (S 236 (0 + (U 245 d)))))) 232 26 ((U 247 d) + (pop (S 236 (0 + (U 245 d)))))) 232 25 (d + 1)) 245 0 248 0 (d + 1)) := Bd_cpv (Bd_up (Bd_up (Bd_up (Bd_up hU (show (0 : Int) ≤ (U 246 d + ngW U (aT U U d) (U 245 d)) from by omega) (show (U 246 d + ngW U (aT U U d) (U 245 d)) ≤ (4000000 : Int) from by omega)) (show (0 : Int) ≤ ((U 247 d) + (pop (S 236 (0 + (U 245 d))))) from by omega) (show ((U 247 d) + (pop (S 236 (0 + (U 245 d))))) ≤ (56 : Int) from by omega)) (show (0 : Int) ≤ ((U 247 d) + (pop (S 236 (0 + (U 245 d))))) from by omega) (show ((U 247 d) + (pop (S 236 (0 + (U 245 d))))) ≤ (56 : Int) from by omega)) (show (0 : Int) ≤ (d + 1) from by omega) (show (d + 1) ≤ (7 : Int) from by omega)) (fun k k0 k1 => by rw [Int.zero_add]; exact he k k0 k1)
            refine r_aload (pc' := 269) rfl rfl rfl ?_
            refine r_getr (pc' := 272) (v := 245) rfl rfl rfl rfl rfl ?_
            refine r_iload (pc' := 273) rfl rfl rfl ?_
            refine r_const (pc' := 274) rfl rfl ?_
            refine r_ast (pc' := 275) 8 rfl rfl rfl (by omega) ?_
            have hFI : FI S (mx_up (mx_cp (mx_up (mx_up (mx_up (mx_up U 246 (d + 1) (U 246 d + ngW U (aT U U d) (U 245 d))) 247 (d + 1) ((U 247 d) + (pop (S 236 (0 + (U 245 d)))))) 232 26 ((U 247 d) + (pop (S 236 (0 + (U 245 d)))))) 232 25 (d + 1)) 245 0 248 0 (d + 1)) 245 (d + 1) (-1)) (d + 1) (mx_or m2 (mx_shl 1 (U 245 d))) := by
              refine FI_push hB hJ (f := U 245 d) (g := U 247 d + pop (S 236 (0 + (U 245 d)))) rfl (by assumption) (by rw [← emy]; exact bi_n0 (by assumption)) rfl (Bd_up hB50 (show (-1 : Int) ≤ (-1) from by omega) (show (-1) ≤ (7 : Int) from by omega)) ?_ (fun j hj => by repeat (first | rfl | rw [up_ne (by omega)] | rw [cp_o (by omega)])) (by repeat (first | rfl | rw [up_eq] | rw [up_ne (by omega)] | rw [cp_o (by omega)])) (fun j hj => by repeat (first | rfl | rw [up_ne (by omega)] | rw [cp_o (by omega)])) (by rw [← eng, ← ea]; repeat (first | rfl | rw [up_eq] | rw [up_ne (by omega)] | rw [cp_o (by omega)])) (fun j hj => by repeat (first | rfl | rw [up_ne (by omega)] | rw [cp_o (by omega)])) (by repeat (first | rfl | rw [up_eq] | rw [up_ne (by omega)] | rw [cp_o (by omega)])) ?_
              · intro a j ha; repeat (first | exact hgr a j ha | rw [up_ne (by omega)] | rw [cp_o (by omega)])
              · refine Eq.trans (b := (U 247 d + pop (S 236 (0 + (U 245 d))), d + 1, fun j => if 0 ≤ j ∧ j < d + 1 then U 245 j else U 248 j)) ?_ ((if_pos (show U 232 26 < U 247 d + pop (S 236 (0 + (U 245 d))) ∨ (U 247 d + pop (S 236 (0 + (U 245 d))) = U 232 26 ∧ d + 1 < U 232 25) from by omega)).symm)
                have e248 : ∀ j : Int, (mx_up (mx_cp (mx_up (mx_up (mx_up (mx_up U 246 (d + 1) (U 246 d + ngW U (aT U U d) (U 245 d))) 247 (d + 1) ((U 247 d) + (pop (S 236 (0 + (U 245 d)))))) 232 26 ((U 247 d) + (pop (S 236 (0 + (U 245 d)))))) 232 25 (d + 1)) 245 0 248 0 (d + 1)) 245 (d + 1) (-1)) 248 j = if 0 ≤ j ∧ j < d + 1 then U 245 j else U 248 j := fun j => by
                  rw [up_ne (by omega)]; unfold mx_cp
                  by_cases hj : 0 ≤ j ∧ j < d + 1
                  · rw [if_pos (show (248 : Int) = 248 ∧ 0 ≤ j ∧ j < 0 + (d + 1) by omega), if_pos hj, show 0 + (j - 0) = j by omega]; rfl
                  · rw [if_neg (show ¬ ((248 : Int) = 248 ∧ 0 ≤ j ∧ j < 0 + (d + 1)) by omega), if_neg hj]; rfl
                show (U 247 d + pop (S 236 (0 + (U 245 d))), d + 1, (mx_up (mx_cp (mx_up (mx_up (mx_up (mx_up U 246 (d + 1) (U 246 d + ngW U (aT U U d) (U 245 d))) 247 (d + 1) ((U 247 d) + (pop (S 236 (0 + (U 245 d)))))) 232 26 ((U 247 d) + (pop (S 236 (0 + (U 245 d)))))) 232 25 (d + 1)) 245 0 248 0 (d + 1)) 245 (d + 1) (-1)) 248) = _
                rw [show (mx_up (mx_cp (mx_up (mx_up (mx_up (mx_up U 246 (d + 1) (U 246 d + ngW U (aT U U d) (U 245 d))) 247 (d + 1) ((U 247 d) + (pop (S 236 (0 + (U 245 d)))))) 232 26 ((U 247 d) + (pop (S 236 (0 + (U 245 d)))))) 232 25 (d + 1)) 245 0 248 0 (d + 1)) 245 (d + 1) (-1)) 248 = fun j => if 0 ≤ j ∧ j < d + 1 then U 245 j else U 248 j from funext e248]
            refine r_goto (pc' := 47) rfl rfl ?_
            refine r_forget [true, true, true, false, false] rfl ?_
            exact ih47 ((mx_or m2 (mx_shl 1 (U 245 d))), (d + 1), (mx_up (mx_cp (mx_up (mx_up (mx_up (mx_up U 246 (d + 1) (U 246 d + ngW U (aT U U d) (U 245 d))) 247 (d + 1) ((U 247 d) + (pop (S 236 (0 + (U 245 d)))))) 232 26 ((U 247 d) + (pop (S 236 (0 + (U 245 d)))))) 232 25 (d + 1)) 245 0 248 0 (d + 1)) 245 (d + 1) (-1))) (show (FI S (mx_up (mx_cp (mx_up (mx_up (mx_up (mx_up U 246 (d + 1) (U 246 d + ngW U (aT U U d) (U 245 d))) 247 (d + 1) ((U 247 d) + (pop (S 236 (0 + (U 245 d)))))) 232 26 ((U 247 d) + (pop (S 236 (0 + (U 245 d)))))) 232 25 (d + 1)) 245 0 248 0 (d + 1)) 245 (d + 1) (-1)) (d + 1) (mx_or m2 (mx_shl 1 (U 245 d)))) from by exact hFI) (show (msF (mx_up (mx_cp (mx_up (mx_up (mx_up (mx_up U 246 (d + 1) (U 246 d + ngW U (aT U U d) (U 245 d))) 247 (d + 1) ((U 247 d) + (pop (S 236 (0 + (U 245 d)))))) 232 26 ((U 247 d) + (pop (S 236 (0 + (U 245 d)))))) 232 25 (d + 1)) 245 0 248 0 (d + 1)) 245 (d + 1) (-1)) (S 233 0) ((d + 1) + 1).toNat).toNat < (msF T (S 233 0) (d + 1).toNat).toNat from by exact ms_push hB hI hJ hFI hUT hU1 (fun j hj => by repeat (first | rfl | rw [up_ne (by omega)] | rw [cp_o (by omega)])) (by repeat (first | rfl | rw [up_eq] | rw [up_ne (by omega)] | rw [cp_o (by omega)])))
          · refine r_icmp_gt0 (pc' := 206) rfl rfl (by omega) (by omega) ?_
            refine r_aload (pc' := 207) rfl rfl rfl ?_
            refine r_getr (pc' := 210) (v := 247) rfl rfl rfl rfl rfl ?_
            refine r_iload (pc' := 211) rfl rfl rfl ?_
            refine r_aldv (pc' := 212) (v := ((U 247 d) + (pop (S 236 (0 + (U 245 d)))))) 9 rfl rfl rfl (by omega) (by first | rfl | exact up_eq) ?_
            refine r_aload (pc' := 213) rfl rfl rfl ?_
            refine r_getv (pc' := 216) (v := (U 232 26)) rfl rfl (Or.inl rfl) rfl rfl ?_
            by_cases h51 : ((U 247 d) + (pop (S 236 (0 + (U 245 d))))) = (U 232 26)
            · refine r_icmp_ne0 (pc' := 219) rfl rfl (by omega) (by omega) ?_
              refine r_iload (pc' := 220) rfl rfl rfl ?_
              refine r_aload (pc' := 221) rfl rfl rfl ?_
              refine r_getv (pc' := 224) (v := (U 232 25)) rfl rfl (Or.inl rfl) rfl rfl ?_
              have b52 : 0 ≤ U 232 25 ∧ U 232 25 ≤ 7 := hU 232 25
              by_cases h53 : (d + 1) < (U 232 25)
              · refine r_icmp_ge0 (pc' := 227) rfl rfl (by omega) (by omega) ?_
                refine r_const (pc' := 228) rfl rfl ?_
                refine r_goto (pc' := 232) rfl rfl ?_
                refine r_istore (pc' := 234) (ls' := [some (.inr (.inr 232)), some (.inl (mx_or m2 (mx_shl 1 (U 245 d)))), some (.inl (d + 1)), some (.inl (U 245 d)), some (.inl 1)]) rfl rfl rfl rfl ?_
                refine r_iload (pc' := 236) rfl rfl rfl ?_
                refine r_if_eq0 (pc' := 239) rfl rfl (by decide) (by decide) ?_
                refine r_aload (pc' := 240) rfl rfl rfl ?_
                refine r_aload (pc' := 241) rfl rfl rfl ?_
                refine r_getr (pc' := 244) (v := 247) rfl rfl rfl rfl rfl ?_
                refine r_iload (pc' := 245) rfl rfl rfl ?_
                refine r_aldv (pc' := 246) (v := ((U 247 d) + (pop (S 236 (0 + (U 245 d)))))) 9 rfl rfl rfl (by omega) (by first | rfl | exact up_eq) ?_
                refine r_put (pc' := 249) rfl rfl rfl rfl ?_
                refine r_aload (pc' := 250) rfl rfl rfl ?_
                refine r_iload (pc' := 251) rfl rfl rfl ?_
                refine r_put (pc' := 254) rfl rfl rfl rfl ?_
                refine r_aload (pc' := 255) rfl rfl rfl ?_
                refine r_getr (pc' := 258) (v := 245) rfl rfl rfl rfl rfl ?_
                refine r_const (pc' := 259) rfl rfl ?_
                refine r_aload (pc' := 260) rfl rfl rfl ?_
                refine r_getr (pc' := 263) (v := 248) rfl rfl rfl rfl rfl ?_
                refine r_const (pc' := 264) rfl rfl ?_
                refine r_iload (pc' := 265) rfl rfl rfl ?_
                have he : ∀ k : Int, 0 ≤ k → k < d + 1 → 0 ≤ (mx_up (mx_up (mx_up (mx_up U 246 (d + 1) (U 246 d + ngW U (aT U U d) (U 245 d))) 247 (d + 1) ((U 247 d) + (pop (S 236 (0 + (U 245 d)))))) 232 26 ((U 247 d) + (pop (S 236 (0 + (U 245 d)))))) 232 25 (d + 1)) 245 k ∧ (mx_up (mx_up (mx_up (mx_up U 246 (d + 1) (U 246 d + ngW U (aT U U d) (U 245 d))) 247 (d + 1) ((U 247 d) + (pop (S 236 (0 + (U 245 d)))))) 232 26 ((U 247 d) + (pop (S 236 (0 + (U 245 d)))))) 232 25 (d + 1)) 245 k ≤ 6 := fun k k0 k1 => by
                  have q : (mx_up (mx_up (mx_up (mx_up U 246 (d + 1) (U 246 d + ngW U (aT U U d) (U 245 d))) 247 (d + 1) ((U 247 d) + (pop (S 236 (0 + (U 245 d)))))) 232 26 ((U 247 d) + (pop (S 236 (0 + (U 245 d)))))) 232 25 (d + 1)) 245 k = U 245 k := by repeat (first | rfl | rw [up_ne (by omega)])
                  rw [q]
                  by_cases z : k = d
                  · rw [z]; omega
                  · have q := hb2 k k0 (by omega); omega
                refine q_callE (pc' := 268) (w := none) (S2 := mx_cp (mx_up (mx_up (mx_up (mx_up U 246 (d + 1) (U 246 d + ngW U (aT U U d) (U 245 d))) 247 (d + 1) ((U 247 d) + (pop (S 236 (0 + (U 245 d)))))) 232 26 ((U 247 d) + (pop (S 236 (0 + (U 245 d)))))) 232 25 (d + 1)) 245 0 248 0 (d + 1)) (st' := []) rfl rfl rfl (c_X11_copies_wb (n := (d + 1)) (S := mx_up (mx_up (mx_up (mx_up U 246 (d + 1) (U 246 d + ngW U (aT U U d) (U 245 d))) 247 (d + 1) ((U 247 d) + (pop (S 236 (0 + (U 245 d)))))) 232 26 ((U 247 d) + (pop (S 236 (0 + (U 245 d)))))) 232 25 (d + 1)) (Bd_up (Bd_up (Bd_up (Bd_up hU (show (0 : Int) ≤ (U 246 d + ngW U (aT U U d) (U 245 d)) from by omega) (show (U 246 d + ngW U (aT U U d) (U 245 d)) ≤ (4000000 : Int) from by omega)) (show (0 : Int) ≤ ((U 247 d) + (pop (S 236 (0 + (U 245 d))))) from by omega) (show ((U 247 d) + (pop (S 236 (0 + (U 245 d))))) ≤ (56 : Int) from by omega)) (show (0 : Int) ≤ ((U 247 d) + (pop (S 236 (0 + (U 245 d))))) from by omega) (show ((U 247 d) + (pop (S 236 (0 + (U 245 d))))) ≤ (56 : Int) from by omega)) (show (0 : Int) ≤ (d + 1) from by omega) (show (d + 1) ≤ (7 : Int) from by omega)) (show 0 ≤ (d + 1) ∧ (d + 1) ≤ 8 from by omega) (show ∀ k : Int, 0 ≤ k → k < (d + 1) → 0 ≤ (mx_up (mx_up (mx_up (mx_up U 246 (d + 1) (U 246 d + ngW U (aT U U d) (U 245 d))) 247 (d + 1) ((U 247 d) + (pop (S 236 (0 + (U 245 d)))))) 232 26 ((U 247 d) + (pop (S 236 (0 + (U 245 d)))))) 232 25 (d + 1)) 245 k ∧ (mx_up (mx_up (mx_up (mx_up U 246 (d + 1) (U 246 d + ngW U (aT U U d) (U 245 d))) 247 (d + 1) ((U 247 d) + (pop (S 236 (0 + (U 245 d)))))) 232 26 ((U 247 d) + (pop (S 236 (0 + (U 245 d)))))) 232 25 (d + 1)) 245 k ≤ 6 from by exact he)) (by decide) rfl rfl (Nat.le_of_ble_eq_true rfl) (fun q => absurd rfl q) rfl rfl ?_
                have hB54 : Bd (mx_cp (mx_up (mx_up (mx_up (mx_up U 246 (d + 1) (U 246 d + ngW U (aT U U d) (U 245 d))) 247 (d + 1) ((U 247 d) + (pop (S 236 (0 + (U 245 d)))))) 232 26 ((U 247 d) + (pop (S 236 (0 + (U 245 d)))))) 232 25 (d + 1)) 245 0 248 0 (d + 1)) := Bd_cpv (Bd_up (Bd_up (Bd_up (Bd_up hU (show (0 : Int) ≤ (U 246 d + ngW U (aT U U d) (U 245 d)) from by omega) (show (U 246 d + ngW U (aT U U d) (U 245 d)) ≤ (4000000 : Int) from by omega)) (show (0 : Int) ≤ ((U 247 d) + (pop (S 236 (0 + (U 245 d))))) from by omega) (show ((U 247 d) + (pop (S 236 (0 + (U 245 d))))) ≤ (56 : Int) from by omega)) (show (0 : Int) ≤ ((U 247 d) + (pop (S 236 (0 + (U 245 d))))) from by omega) (show ((U 247 d) + (pop (S 236 (0 + (U 245 d))))) ≤ (56 : Int) from by omega)) (show (0 : Int) ≤ (d + 1) from by omega) (show (d + 1) ≤ (7 : Int) from by omega)) (fun k k0 k1 => by rw [Int.zero_add]; exact he k k0 k1)
                refine r_aload (pc' := 269) rfl rfl rfl ?_
                refine r_getr (pc' := 272) (v := 245) rfl rfl rfl rfl rfl ?_
                refine r_iload (pc' := 273) rfl rfl rfl ?_
                refine r_const (pc' := 274) rfl rfl ?_
                refine r_ast (pc' := 275) 8 rfl rfl rfl (by omega) ?_
                have hFI : FI S (mx_up (mx_cp (mx_up (mx_up (mx_up (mx_up U 246 (d + 1) (U 246 d + ngW U (aT U U d) (U 245 d))) 247 (d + 1) ((U 247 d) + (pop (S 236 (0 + (U 245 d)))))) 232 26 ((U 247 d) + (pop (S 236 (0 + (U 245 d)))))) 232 25 (d + 1)) 245 0 248 0 (d + 1)) 245 (d + 1) (-1)) (d + 1) (mx_or m2 (mx_shl 1 (U 245 d))) := by
                  refine FI_push hB hJ (f := U 245 d) (g := U 247 d + pop (S 236 (0 + (U 245 d)))) rfl (by assumption) (by rw [← emy]; exact bi_n0 (by assumption)) rfl (Bd_up hB54 (show (-1 : Int) ≤ (-1) from by omega) (show (-1) ≤ (7 : Int) from by omega)) ?_ (fun j hj => by repeat (first | rfl | rw [up_ne (by omega)] | rw [cp_o (by omega)])) (by repeat (first | rfl | rw [up_eq] | rw [up_ne (by omega)] | rw [cp_o (by omega)])) (fun j hj => by repeat (first | rfl | rw [up_ne (by omega)] | rw [cp_o (by omega)])) (by rw [← eng, ← ea]; repeat (first | rfl | rw [up_eq] | rw [up_ne (by omega)] | rw [cp_o (by omega)])) (fun j hj => by repeat (first | rfl | rw [up_ne (by omega)] | rw [cp_o (by omega)])) (by repeat (first | rfl | rw [up_eq] | rw [up_ne (by omega)] | rw [cp_o (by omega)])) ?_
                  · intro a j ha; repeat (first | exact hgr a j ha | rw [up_ne (by omega)] | rw [cp_o (by omega)])
                  · refine Eq.trans (b := (U 247 d + pop (S 236 (0 + (U 245 d))), d + 1, fun j => if 0 ≤ j ∧ j < d + 1 then U 245 j else U 248 j)) ?_ ((if_pos (show U 232 26 < U 247 d + pop (S 236 (0 + (U 245 d))) ∨ (U 247 d + pop (S 236 (0 + (U 245 d))) = U 232 26 ∧ d + 1 < U 232 25) from by omega)).symm)
                    have e248 : ∀ j : Int, (mx_up (mx_cp (mx_up (mx_up (mx_up (mx_up U 246 (d + 1) (U 246 d + ngW U (aT U U d) (U 245 d))) 247 (d + 1) ((U 247 d) + (pop (S 236 (0 + (U 245 d)))))) 232 26 ((U 247 d) + (pop (S 236 (0 + (U 245 d)))))) 232 25 (d + 1)) 245 0 248 0 (d + 1)) 245 (d + 1) (-1)) 248 j = if 0 ≤ j ∧ j < d + 1 then U 245 j else U 248 j := fun j => by
                      rw [up_ne (by omega)]; unfold mx_cp
                      by_cases hj : 0 ≤ j ∧ j < d + 1
                      · rw [if_pos (show (248 : Int) = 248 ∧ 0 ≤ j ∧ j < 0 + (d + 1) by omega), if_pos hj, show 0 + (j - 0) = j by omega]; rfl
                      · rw [if_neg (show ¬ ((248 : Int) = 248 ∧ 0 ≤ j ∧ j < 0 + (d + 1)) by omega), if_neg hj]; rfl
                    show (U 247 d + pop (S 236 (0 + (U 245 d))), d + 1, (mx_up (mx_cp (mx_up (mx_up (mx_up (mx_up U 246 (d + 1) (U 246 d + ngW U (aT U U d) (U 245 d))) 247 (d + 1) ((U 247 d) + (pop (S 236 (0 + (U 245 d)))))) 232 26 ((U 247 d) + (pop (S 236 (0 + (U 245 d)))))) 232 25 (d + 1)) 245 0 248 0 (d + 1)) 245 (d + 1) (-1)) 248) = _
                    rw [show (mx_up (mx_cp (mx_up (mx_up (mx_up (mx_up U 246 (d + 1) (U 246 d + ngW U (aT U U d) (U 245 d))) 247 (d + 1) ((U 247 d) + (pop (S 236 (0 + (U 245 d)))))) 232 26 ((U 247 d) + (pop (S 236 (0 + (U 245 d)))))) 232 25 (d + 1)) 245 0 248 0 (d + 1)) 245 (d + 1) (-1)) 248 = fun j => if 0 ≤ j ∧ j < d + 1 then U 245 j else U 248 j from funext e248]
                refine r_goto (pc' := 47) rfl rfl ?_
                refine r_forget [true, true, true, false, false] rfl ?_
                exact ih47 ((mx_or m2 (mx_shl 1 (U 245 d))), (d + 1), (mx_up (mx_cp (mx_up (mx_up (mx_up (mx_up U 246 (d + 1) (U 246 d + ngW U (aT U U d) (U 245 d))) 247 (d + 1) ((U 247 d) + (pop (S 236 (0 + (U 245 d)))))) 232 26 ((U 247 d) + (pop (S 236 (0 + (U 245 d)))))) 232 25 (d + 1)) 245 0 248 0 (d + 1)) 245 (d + 1) (-1))) (show (FI S (mx_up (mx_cp (mx_up (mx_up (mx_up (mx_up U 246 (d + 1) (U 246 d + ngW U (aT U U d) (U 245 d))) 247 (d + 1) ((U 247 d) + (pop (S 236 (0 + (U 245 d)))))) 232 26 ((U 247 d) + (pop (S 236 (0 + (U 245 d)))))) 232 25 (d + 1)) 245 0 248 0 (d + 1)) 245 (d + 1) (-1)) (d + 1) (mx_or m2 (mx_shl 1 (U 245 d)))) from by exact hFI) (show (msF (mx_up (mx_cp (mx_up (mx_up (mx_up (mx_up U 246 (d + 1) (U 246 d + ngW U (aT U U d) (U 245 d))) 247 (d + 1) ((U 247 d) + (pop (S 236 (0 + (U 245 d)))))) 232 26 ((U 247 d) + (pop (S 236 (0 + (U 245 d)))))) 232 25 (d + 1)) 245 0 248 0 (d + 1)) 245 (d + 1) (-1)) (S 233 0) ((d + 1) + 1).toNat).toNat < (msF T (S 233 0) (d + 1).toNat).toNat from by exact ms_push hB hI hJ hFI hUT hU1 (fun j hj => by repeat (first | rfl | rw [up_ne (by omega)] | rw [cp_o (by omega)])) (by repeat (first | rfl | rw [up_eq] | rw [up_ne (by omega)] | rw [cp_o (by omega)])))
              · refine r_icmp_ge1 (pc' := 231) rfl rfl (by omega) (by omega) ?_
                refine r_const (pc' := 232) rfl rfl ?_
                refine r_istore (pc' := 234) (ls' := [some (.inr (.inr 232)), some (.inl (mx_or m2 (mx_shl 1 (U 245 d)))), some (.inl (d + 1)), some (.inl (U 245 d)), some (.inl 0)]) rfl rfl rfl rfl ?_
                refine r_iload (pc' := 236) rfl rfl rfl ?_
                refine r_if_eq1 (pc' := 268) rfl rfl (by decide) (by decide) ?_
                refine r_aload (pc' := 269) rfl rfl rfl ?_
                refine r_getr (pc' := 272) (v := 245) rfl rfl rfl rfl rfl ?_
                refine r_iload (pc' := 273) rfl rfl rfl ?_
                refine r_const (pc' := 274) rfl rfl ?_
                refine r_ast (pc' := 275) 8 rfl rfl rfl (by omega) ?_
                have hFI : FI S (mx_up (mx_up (mx_up U 246 (d + 1) (U 246 d + ngW U (aT U U d) (U 245 d))) 247 (d + 1) ((U 247 d) + (pop (S 236 (0 + (U 245 d)))))) 245 (d + 1) (-1)) (d + 1) (mx_or m2 (mx_shl 1 (U 245 d))) := by
                  refine FI_push hB hJ (f := U 245 d) (g := U 247 d + pop (S 236 (0 + (U 245 d)))) rfl (by assumption) (by rw [← emy]; exact bi_n0 (by assumption)) rfl (Bd_up (Bd_up (Bd_up hU (show (0 : Int) ≤ (U 246 d + ngW U (aT U U d) (U 245 d)) from by omega) (show (U 246 d + ngW U (aT U U d) (U 245 d)) ≤ (4000000 : Int) from by omega)) (show (0 : Int) ≤ ((U 247 d) + (pop (S 236 (0 + (U 245 d))))) from by omega) (show ((U 247 d) + (pop (S 236 (0 + (U 245 d))))) ≤ (56 : Int) from by omega)) (show (-1 : Int) ≤ (-1) from by omega) (show (-1) ≤ (7 : Int) from by omega)) ?_ (fun j hj => by repeat (first | rfl | rw [up_ne (by omega)] | rw [cp_o (by omega)])) (by repeat (first | rfl | rw [up_eq] | rw [up_ne (by omega)] | rw [cp_o (by omega)])) (fun j hj => by repeat (first | rfl | rw [up_ne (by omega)] | rw [cp_o (by omega)])) (by rw [← eng, ← ea]; repeat (first | rfl | rw [up_eq] | rw [up_ne (by omega)] | rw [cp_o (by omega)])) (fun j hj => by repeat (first | rfl | rw [up_ne (by omega)] | rw [cp_o (by omega)])) (by repeat (first | rfl | rw [up_eq] | rw [up_ne (by omega)] | rw [cp_o (by omega)])) ?_
                  · intro a j ha; repeat (first | exact hgr a j ha | rw [up_ne (by omega)] | rw [cp_o (by omega)])
                  · exact (if_neg (fun q => by have q1 : U 232 26 < U 247 d + pop (S 236 (0 + (U 245 d))) ∨ (U 247 d + pop (S 236 (0 + (U 245 d))) = U 232 26 ∧ d + 1 < U 232 25) := q; omega)).symm
                refine r_goto (pc' := 47) rfl rfl ?_
                refine r_forget [true, true, true, false, false] rfl ?_
                exact ih47 ((mx_or m2 (mx_shl 1 (U 245 d))), (d + 1), (mx_up (mx_up (mx_up U 246 (d + 1) (U 246 d + ngW U (aT U U d) (U 245 d))) 247 (d + 1) ((U 247 d) + (pop (S 236 (0 + (U 245 d)))))) 245 (d + 1) (-1))) (show (FI S (mx_up (mx_up (mx_up U 246 (d + 1) (U 246 d + ngW U (aT U U d) (U 245 d))) 247 (d + 1) ((U 247 d) + (pop (S 236 (0 + (U 245 d)))))) 245 (d + 1) (-1)) (d + 1) (mx_or m2 (mx_shl 1 (U 245 d)))) from by exact hFI) (show (msF (mx_up (mx_up (mx_up U 246 (d + 1) (U 246 d + ngW U (aT U U d) (U 245 d))) 247 (d + 1) ((U 247 d) + (pop (S 236 (0 + (U 245 d)))))) 245 (d + 1) (-1)) (S 233 0) ((d + 1) + 1).toNat).toNat < (msF T (S 233 0) (d + 1).toNat).toNat from by exact ms_push hB hI hJ hFI hUT hU1 (fun j hj => by repeat (first | rfl | rw [up_ne (by omega)] | rw [cp_o (by omega)])) (by repeat (first | rfl | rw [up_eq] | rw [up_ne (by omega)] | rw [cp_o (by omega)])))
            · refine r_icmp_ne1 (pc' := 231) rfl rfl (by omega) (by omega) ?_
              refine r_const (pc' := 232) rfl rfl ?_
              refine r_istore (pc' := 234) (ls' := [some (.inr (.inr 232)), some (.inl (mx_or m2 (mx_shl 1 (U 245 d)))), some (.inl (d + 1)), some (.inl (U 245 d)), some (.inl 0)]) rfl rfl rfl rfl ?_
              refine r_iload (pc' := 236) rfl rfl rfl ?_
              refine r_if_eq1 (pc' := 268) rfl rfl (by decide) (by decide) ?_
              refine r_aload (pc' := 269) rfl rfl rfl ?_
              refine r_getr (pc' := 272) (v := 245) rfl rfl rfl rfl rfl ?_
              refine r_iload (pc' := 273) rfl rfl rfl ?_
              refine r_const (pc' := 274) rfl rfl ?_
              refine r_ast (pc' := 275) 8 rfl rfl rfl (by omega) ?_
              have hFI : FI S (mx_up (mx_up (mx_up U 246 (d + 1) (U 246 d + ngW U (aT U U d) (U 245 d))) 247 (d + 1) ((U 247 d) + (pop (S 236 (0 + (U 245 d)))))) 245 (d + 1) (-1)) (d + 1) (mx_or m2 (mx_shl 1 (U 245 d))) := by
                refine FI_push hB hJ (f := U 245 d) (g := U 247 d + pop (S 236 (0 + (U 245 d)))) rfl (by assumption) (by rw [← emy]; exact bi_n0 (by assumption)) rfl (Bd_up (Bd_up (Bd_up hU (show (0 : Int) ≤ (U 246 d + ngW U (aT U U d) (U 245 d)) from by omega) (show (U 246 d + ngW U (aT U U d) (U 245 d)) ≤ (4000000 : Int) from by omega)) (show (0 : Int) ≤ ((U 247 d) + (pop (S 236 (0 + (U 245 d))))) from by omega) (show ((U 247 d) + (pop (S 236 (0 + (U 245 d))))) ≤ (56 : Int) from by omega)) (show (-1 : Int) ≤ (-1) from by omega) (show (-1) ≤ (7 : Int) from by omega)) ?_ (fun j hj => by repeat (first | rfl | rw [up_ne (by omega)] | rw [cp_o (by omega)])) (by repeat (first | rfl | rw [up_eq] | rw [up_ne (by omega)] | rw [cp_o (by omega)])) (fun j hj => by repeat (first | rfl | rw [up_ne (by omega)] | rw [cp_o (by omega)])) (by rw [← eng, ← ea]; repeat (first | rfl | rw [up_eq] | rw [up_ne (by omega)] | rw [cp_o (by omega)])) (fun j hj => by repeat (first | rfl | rw [up_ne (by omega)] | rw [cp_o (by omega)])) (by repeat (first | rfl | rw [up_eq] | rw [up_ne (by omega)] | rw [cp_o (by omega)])) ?_
                · intro a j ha; repeat (first | exact hgr a j ha | rw [up_ne (by omega)] | rw [cp_o (by omega)])
                · exact (if_neg (fun q => by have q1 : U 232 26 < U 247 d + pop (S 236 (0 + (U 245 d))) ∨ (U 247 d + pop (S 236 (0 + (U 245 d))) = U 232 26 ∧ d + 1 < U 232 25) := q; omega)).symm
              refine r_goto (pc' := 47) rfl rfl ?_
              refine r_forget [true, true, true, false, false] rfl ?_
              exact ih47 ((mx_or m2 (mx_shl 1 (U 245 d))), (d + 1), (mx_up (mx_up (mx_up U 246 (d + 1) (U 246 d + ngW U (aT U U d) (U 245 d))) 247 (d + 1) ((U 247 d) + (pop (S 236 (0 + (U 245 d)))))) 245 (d + 1) (-1))) (show (FI S (mx_up (mx_up (mx_up U 246 (d + 1) (U 246 d + ngW U (aT U U d) (U 245 d))) 247 (d + 1) ((U 247 d) + (pop (S 236 (0 + (U 245 d)))))) 245 (d + 1) (-1)) (d + 1) (mx_or m2 (mx_shl 1 (U 245 d)))) from by exact hFI) (show (msF (mx_up (mx_up (mx_up U 246 (d + 1) (U 246 d + ngW U (aT U U d) (U 245 d))) 247 (d + 1) ((U 247 d) + (pop (S 236 (0 + (U 245 d)))))) 245 (d + 1) (-1)) (S 233 0) ((d + 1) + 1).toNat).toNat < (msF T (S 233 0) (d + 1).toNat).toNat from by exact ms_push hB hI hJ hFI hUT hU1 (fun j hj => by repeat (first | rfl | rw [up_ne (by omega)] | rw [cp_o (by omega)])) (by repeat (first | rfl | rw [up_eq] | rw [up_ne (by omega)] | rw [cp_o (by omega)])))
      · refine r_icmp_ge1 (pc' := 130) rfl rfl (by omega) (by omega) ?_
        refine r_aload (pc' := 131) rfl rfl rfl ?_
        refine r_getr (pc' := 134) (v := 245) rfl rfl rfl rfl rfl ?_
        refine r_iload (pc' := 135) rfl rfl rfl ?_
        refine r_aldv (pc' := 136) (v := (U 245 d)) 8 rfl rfl rfl (by omega) rfl ?_
        refine r_aload (pc' := 137) rfl rfl rfl ?_
        refine r_getr (pc' := 140) (v := 233) rfl rfl rfl rfl rfl ?_
        refine r_const (pc' := 141) rfl rfl ?_
        refine r_aldv (pc' := 142) (v := (S 233 0)) 187 rfl rfl rfl (by omega) (hgr 233 0 (by omega)) ?_
        refine r_icmp_lt0 (pc' := 145) rfl rfl (by omega) (by omega) ?_
        refine r_iinc (pc' := 148) (ls' := [some (.inr (.inr 232)), some (.inl m2), some (.inl (d + (-1))), none, none]) rfl rfl rfl rfl rfl ?_
        have hFI : FI S U (d + -1) m2 := by rw [show d + -1 = d - 1 by omega]; exact FI_pop hB hJ (by assumption)
        refine r_goto (pc' := 47) rfl rfl ?_
        exact ih47 (m2, (d + (-1)), U) (show (FI S U (d + (-1)) m2) from by exact hFI) (show (msF U (S 233 0) ((d + (-1)) + 1).toNat).toNat < (msF T (S 233 0) (d + 1).toNat).toNat from by rw [show d + -1 = d - 1 by omega]; exact ms_pop hB hI hJ hUT)
