noncomputable def w_X0_readClause (S : rS) (c : Int) : Int × rS := if (v_X0_clauseSort S ) = (-1) then (0, S) else if (v_X0_hasRoomFor S (v_X0_clauseSort S )) = 0 then (0, S) else if (v_X0_clauseSort S ) = 4 then (1, mx_up (mx_up (mx_up (stp (mx_up S (5 + c) 0 (v_X0_clauseSort S ))) 3 3 0) 3 4 0) 3 5 0) else if (v_X0_clauseSort S ) = 5 then (((w_X0_readGate (mx_up (stp (mx_up S (5 + c) 0 (v_X0_clauseSort S ))) 3 4 ((S 3 4) + 1)) c).1), (w_X0_readGate (mx_up (stp (mx_up S (5 + c) 0 (v_X0_clauseSort S ))) 3 4 ((S 3 4) + 1)) c).2) else if (v_X0_clauseSort S ) = 6 then (((w_X0_readLine (mx_up (stp (mx_up S (5 + c) 0 (v_X0_clauseSort S ))) 3 5 ((S 3 5) + 1)) c).1), (w_X0_readLine (mx_up (stp (mx_up S (5 + c) 0 (v_X0_clauseSort S ))) 3 5 ((S 3 5) + 1)) c).2) else if (v_X0_clauseSort S ) = 7 then (((w_X0_readNumber_1 (stp (mx_up S (5 + c) 0 (v_X0_clauseSort S ))) c 10 99).1), (w_X0_readNumber_1 (stp (mx_up S (5 + c) 0 (v_X0_clauseSort S ))) c 10 99).2) else if ((w_X0_readNumber_1 (mx_up (stp (mx_up S (5 + c) 0 (v_X0_clauseSort S ))) 3 3 ((S 3 3) + 1)) c 0 3).1) = 0 then (0, (w_X0_readNumber_1 (mx_up (stp (mx_up S (5 + c) 0 (v_X0_clauseSort S ))) 3 3 ((S 3 3) + 1)) c 0 3).2) else if ((w_X0_readNumber_2 ((w_X0_readNumber_1 (mx_up (stp (mx_up S (5 + c) 0 (v_X0_clauseSort S ))) 3 3 ((S 3 3) + 1)) c 0 3).2) c 1 9).1) = 0 then (0, (w_X0_readNumber_2 ((w_X0_readNumber_1 (mx_up (stp (mx_up S (5 + c) 0 (v_X0_clauseSort S ))) 3 3 ((S 3 3) + 1)) c 0 3).2) c 1 9).2) else if ((w_X0_readLine ((w_X0_readNumber_2 ((w_X0_readNumber_1 (mx_up (stp (mx_up S (5 + c) 0 (v_X0_clauseSort S ))) 3 3 ((S 3 3) + 1)) c 0 3).2) c 1 9).2) c).1) = 0 then (0, (w_X0_readLine ((w_X0_readNumber_2 ((w_X0_readNumber_1 (mx_up (stp (mx_up S (5 + c) 0 (v_X0_clauseSort S ))) 3 3 ((S 3 3) + 1)) c 0 3).2) c 1 9).2) c).2) else (1, (w_X0_readLine ((w_X0_readNumber_2 ((w_X0_readNumber_1 (mx_up (stp (mx_up S (5 + c) 0 (v_X0_clauseSort S ))) 3 3 ((S 3 3) + 1)) c 0 3).2) c 1 9).2) c).2)
theorem c_X0_readClause {c : Int} {S : rS} (hB : Bd S) (h_t : tord S) (h_c : 0 ≤ c ∧ c < 20) : CS 8 6 [.inr (.inr 3), .inr (.inr (5 + c))] S (fun r' S' => r' = some (.inl ((w_X0_readClause S c).1)) ∧ S' = (w_X0_readClause S c).2 ∧ Bd S' ∧ ((w_X0_readClause S c).1 = 0 ∨ (w_X0_readClause S c).1 = 1) ∧ tord S') := by
  refine RS.beg (ls := [some (.inr (.inr 3)), some (.inr (.inr (5 + c))), none]) rfl rfl rfl rfl rfl ?_
  refine r_aload (pc' := 1) rfl rfl rfl ?_
  refine q_callE (pc' := 4) (w := some (.inl (v_X0_clauseSort S ))) (S2 := S) (st' := [.inl (v_X0_clauseSort S )]) rfl rfl rfl (c_X0_clauseSort  (S := S) hB ) (by decide) rfl rfl (Nat.le_of_ble_eq_true rfl) (fun _ _ => ⟨_, _, rfl, rfl⟩) rfl rfl ?_
  have b1 : -1 ≤ (v_X0_clauseSort S ) ∧ (v_X0_clauseSort S ) ≤ 7 := cso_r
  refine r_istore (pc' := 5) (ls' := [some (.inr (.inr 3)), some (.inr (.inr (5 + c))), some (.inl (v_X0_clauseSort S ))]) rfl rfl rfl rfl ?_
  refine r_iload (pc' := 6) rfl rfl rfl ?_
  refine r_const (pc' := 7) rfl rfl ?_
  by_cases h2 : (v_X0_clauseSort S ) = (-1)
  · refine r_icmp_eq1 (pc' := 18) rfl rfl (by omega) (by omega) ?_
    refine r_const (pc' := 19) rfl rfl ?_
    refine q_zret rfl rfl rfl (by omega) ?_
    have ew : w_X0_readClause S c = (0, S) := by unfold w_X0_readClause; rw [if_pos h2]
    exact ⟨by rw [ew], by rw [ew], hB, by rw [ew]; omega, h_t⟩
  · refine r_icmp_eq0 (pc' := 10) rfl rfl (by omega) (by omega) ?_
    refine r_aload (pc' := 11) rfl rfl rfl ?_
    refine r_iload (pc' := 12) rfl rfl rfl ?_
    refine q_callE (pc' := 15) (w := some (.inl (v_X0_hasRoomFor S (v_X0_clauseSort S )))) (S2 := S) (st' := [.inl (v_X0_hasRoomFor S (v_X0_clauseSort S ))]) rfl rfl rfl (c_X0_hasRoomFor (k := (v_X0_clauseSort S )) (S := S) hB (show -1 ≤ (v_X0_clauseSort S ) ∧ (v_X0_clauseSort S ) ≤ 7 from by omega)) (by decide) rfl rfl (Nat.le_of_ble_eq_true rfl) (fun _ _ => ⟨_, _, rfl, rfl⟩) rfl rfl ?_
    have b3 : 0 ≤ (v_X0_hasRoomFor S (v_X0_clauseSort S )) ∧ (v_X0_hasRoomFor S (v_X0_clauseSort S )) ≤ 1 := hrf_r
    by_cases h4 : (v_X0_hasRoomFor S (v_X0_clauseSort S )) = 0
    · refine r_if_ne0 (pc' := 18) rfl rfl (by omega) (by omega) ?_
      refine r_const (pc' := 19) rfl rfl ?_
      refine q_zret rfl rfl rfl (by omega) ?_
      have ew : w_X0_readClause S c = (0, S) := by unfold w_X0_readClause; rw [if_neg h2, if_pos h4]
      exact ⟨by rw [ew], by rw [ew], hB, by rw [ew]; omega, h_t⟩
    · refine r_if_ne1 (pc' := 20) rfl rfl (by omega) (by omega) ?_
      have hr := hrf_t (S := S) (k := v_X0_clauseSort S) (by omega)
      refine r_aload (pc' := 21) rfl rfl rfl ?_
      refine r_const (pc' := 22) rfl rfl ?_
      refine r_iload (pc' := 23) rfl rfl rfl ?_
      refine r_ast (pc' := 24) 6 rfl rfl (shr_5 (by omega)) (by omega) ?_
      refine r_aload (pc' := 25) rfl rfl rfl ?_
      refine r_getr (pc' := 28) (v := 1) rfl rfl rfl rfl rfl ?_
      have hC5 : Bd (mx_up S (5 + c) 0 (v_X0_clauseSort S )) := (Bd_up hB (show _ ≤ (v_X0_clauseSort S ) from by rw [(bdp_5_0 (show 0 ≤ c ∧ c < 20 from by omega)).1]; omega) (show (v_X0_clauseSort S ) ≤ _ from by rw [(bdp_5_0 (show 0 ≤ c ∧ c < 20 from by omega)).2]; omega))
      refine q_callE (pc' := 31) (w := none) (S2 := stp (mx_up S (5 + c) 0 (v_X0_clauseSort S ))) (st' := []) rfl rfl rfl (c_X8_step  (S := mx_up S (5 + c) 0 (v_X0_clauseSort S )) (Bd_up hB (show _ ≤ (v_X0_clauseSort S ) from by rw [(bdp_5_0 (show 0 ≤ c ∧ c < 20 from by omega)).1]; omega) (show (v_X0_clauseSort S ) ≤ _ from by rw [(bdp_5_0 (show 0 ≤ c ∧ c < 20 from by omega)).2]; omega)) ) (by decide) rfl rfl (Nat.le_of_ble_eq_true rfl) (fun _ _ => ⟨_, _, rfl, rfl⟩) rfl rfl ?_
      have hB6 : Bd (stp (mx_up S (5 + c) 0 (v_X0_clauseSort S ))) := Bd_stp (Bd_up hB (show _ ≤ (v_X0_clauseSort S ) from by rw [(bdp_5_0 (show 0 ≤ c ∧ c < 20 from by omega)).1]; omega) (show (v_X0_clauseSort S ) ≤ _ from by rw [(bdp_5_0 (show 0 ≤ c ∧ c < 20 from by omega)).2]; omega))
      have ho7 : tord (stp (mx_up S (5 + c) 0 (v_X0_clauseSort S ))) := tord_stp hC5
      refine r_iload (pc' := 32) rfl rfl rfl ?_
      by_cases h8 : (v_X0_clauseSort S ) = 4
      · refine r_tsw (pc' := 64) 0 rfl rfl rfl (by omega) (by omega) ?_
        refine r_aload (pc' := 65) rfl rfl rfl ?_
        refine r_const (pc' := 66) rfl rfl ?_
        refine r_put (pc' := 69) rfl rfl rfl rfl ?_
        refine r_aload (pc' := 70) rfl rfl rfl ?_
        refine r_const (pc' := 71) rfl rfl ?_
        refine r_put (pc' := 74) rfl rfl rfl rfl ?_
        refine r_aload (pc' := 75) rfl rfl rfl ?_
        refine r_const (pc' := 76) rfl rfl ?_
        refine r_put (pc' := 79) rfl rfl rfl rfl ?_
        refine r_const (pc' := 80) rfl rfl ?_
        refine q_zret rfl rfl rfl (by omega) ?_
        have ew : w_X0_readClause S c = (1, mx_up (mx_up (mx_up (stp (mx_up S (5 + c) 0 (v_X0_clauseSort S ))) 3 3 0) 3 4 0) 3 5 0) := by unfold w_X0_readClause; rw [if_neg h2, if_neg h4, if_pos h8]
        exact ⟨by rw [ew], by rw [ew], (Bd_up (Bd_up (Bd_up hB6 (show (0 : Int) ≤ 0 from by omega) (show 0 ≤ (7 : Int) from by omega)) (show (0 : Int) ≤ 0 from by omega) (show 0 ≤ (9 : Int) from by omega)) (show (0 : Int) ≤ 0 from by omega) (show 0 ≤ (8 : Int) from by omega)), by rw [ew]; omega, (by assumption)⟩
      by_cases h9 : (v_X0_clauseSort S ) = 5
      · refine r_tsw (pc' := 81) 1 rfl rfl rfl (by omega) (by omega) ?_
        refine r_aload (pc' := 82) rfl rfl rfl ?_
        refine r_dupr (pc' := 83) rfl rfl ?_
        refine r_getv (pc' := 86) (v := (S 3 4)) rfl rfl (Or.inl rfl) rfl ((stp_o (by omega)).trans (up_ne (by omega))) ?_
        have b10 : 0 ≤ S 3 4 ∧ S 3 4 ≤ 9 := hB 3 4
        refine r_const (pc' := 87) rfl rfl ?_
        refine r_iadd (pc' := 88) rfl rfl ?_
        refine r_put (pc' := 91) rfl rfl rfl rfl ?_
        refine r_aload (pc' := 92) rfl rfl rfl ?_
        refine r_aload (pc' := 93) rfl rfl rfl ?_
        refine q_call (pc' := 96) (P := fun r' S' => r' = some (.inl ((w_X0_readGate (mx_up (stp (mx_up S (5 + c) 0 (v_X0_clauseSort S ))) 3 4 ((S 3 4) + 1)) c).1)) ∧ S' = (w_X0_readGate (mx_up (stp (mx_up S (5 + c) 0 (v_X0_clauseSort S ))) 3 4 ((S 3 4) + 1)) c).2 ∧ Bd S' ∧ ((w_X0_readGate (mx_up (stp (mx_up S (5 + c) 0 (v_X0_clauseSort S ))) 3 4 ((S 3 4) + 1)) c).1 = 0 ∨ (w_X0_readGate (mx_up (stp (mx_up S (5 + c) 0 (v_X0_clauseSort S ))) 3 4 ((S 3 4) + 1)) c).1 = 1) ∧ tord S') rfl rfl rfl (c_X0_readGate (c := c) (S := mx_up (stp (mx_up S (5 + c) 0 (v_X0_clauseSort S ))) 3 4 ((S 3 4) + 1)) (Bd_up hB6 (show (0 : Int) ≤ ((S 3 4) + 1) from by omega) (show ((S 3 4) + 1) ≤ (9 : Int) from by omega)) (show tord (mx_up (stp (mx_up S (5 + c) 0 (v_X0_clauseSort S ))) 3 4 ((S 3 4) + 1)) from by first | assumption | omega) (show 0 ≤ c ∧ c < 20 from by omega)) (by decide) rfl rfl (Nat.le_of_ble_eq_true rfl) (fun _ _ => ⟨_, _, rfl, rfl⟩) rfl ?_
        rintro _ _ ⟨rfl, rfl, hB11, hr11, he11⟩ hz11
        show RS _ _ _ _ _ [.inl ((w_X0_readGate (mx_up (stp (mx_up S (5 + c) 0 (v_X0_clauseSort S ))) 3 4 ((S 3 4) + 1)) c).1)] (w_X0_readGate (mx_up (stp (mx_up S (5 + c) 0 (v_X0_clauseSort S ))) 3 4 ((S 3 4) + 1)) c).2
        refine q_zret rfl rfl rfl (by omega) ?_
        have ew : w_X0_readClause S c = (((w_X0_readGate (mx_up (stp (mx_up S (5 + c) 0 (v_X0_clauseSort S ))) 3 4 ((S 3 4) + 1)) c).1), (w_X0_readGate (mx_up (stp (mx_up S (5 + c) 0 (v_X0_clauseSort S ))) 3 4 ((S 3 4) + 1)) c).2) := by unfold w_X0_readClause; rw [if_neg h2, if_neg h4, if_neg h8, if_pos h9]
        exact ⟨by rw [ew], by rw [ew], hB11, by rw [ew]; omega, (by assumption)⟩
      by_cases h12 : (v_X0_clauseSort S ) = 6
      · refine r_tsw (pc' := 97) 2 rfl rfl rfl (by omega) (by omega) ?_
        refine r_aload (pc' := 98) rfl rfl rfl ?_
        refine r_dupr (pc' := 99) rfl rfl ?_
        refine r_getv (pc' := 102) (v := (S 3 5)) rfl rfl (Or.inl rfl) rfl ((stp_o (by omega)).trans (up_ne (by omega))) ?_
        have b13 : 0 ≤ S 3 5 ∧ S 3 5 ≤ 8 := hB 3 5
        refine r_const (pc' := 103) rfl rfl ?_
        refine r_iadd (pc' := 104) rfl rfl ?_
        refine r_put (pc' := 107) rfl rfl rfl rfl ?_
        refine r_aload (pc' := 108) rfl rfl rfl ?_
        refine r_aload (pc' := 109) rfl rfl rfl ?_
        refine q_call (pc' := 112) (P := fun r' S' => r' = some (.inl ((w_X0_readLine (mx_up (stp (mx_up S (5 + c) 0 (v_X0_clauseSort S ))) 3 5 ((S 3 5) + 1)) c).1)) ∧ S' = (w_X0_readLine (mx_up (stp (mx_up S (5 + c) 0 (v_X0_clauseSort S ))) 3 5 ((S 3 5) + 1)) c).2 ∧ Bd S' ∧ ((w_X0_readLine (mx_up (stp (mx_up S (5 + c) 0 (v_X0_clauseSort S ))) 3 5 ((S 3 5) + 1)) c).1 = 0 ∨ (w_X0_readLine (mx_up (stp (mx_up S (5 + c) 0 (v_X0_clauseSort S ))) 3 5 ((S 3 5) + 1)) c).1 = 1) ∧ tord S') rfl rfl rfl (c_X0_readLine (c := c) (S := mx_up (stp (mx_up S (5 + c) 0 (v_X0_clauseSort S ))) 3 5 ((S 3 5) + 1)) (Bd_up hB6 (show (0 : Int) ≤ ((S 3 5) + 1) from by omega) (show ((S 3 5) + 1) ≤ (8 : Int) from by omega)) (show tord (mx_up (stp (mx_up S (5 + c) 0 (v_X0_clauseSort S ))) 3 5 ((S 3 5) + 1)) from by first | assumption | omega) (show 0 ≤ c ∧ c < 20 from by omega)) (by decide) rfl rfl (Nat.le_of_ble_eq_true rfl) (fun _ _ => ⟨_, _, rfl, rfl⟩) rfl ?_
        rintro _ _ ⟨rfl, rfl, hB14, hr14, he14⟩ hz14
        show RS _ _ _ _ _ [.inl ((w_X0_readLine (mx_up (stp (mx_up S (5 + c) 0 (v_X0_clauseSort S ))) 3 5 ((S 3 5) + 1)) c).1)] (w_X0_readLine (mx_up (stp (mx_up S (5 + c) 0 (v_X0_clauseSort S ))) 3 5 ((S 3 5) + 1)) c).2
        refine q_zret rfl rfl rfl (by omega) ?_
        have ew : w_X0_readClause S c = (((w_X0_readLine (mx_up (stp (mx_up S (5 + c) 0 (v_X0_clauseSort S ))) 3 5 ((S 3 5) + 1)) c).1), (w_X0_readLine (mx_up (stp (mx_up S (5 + c) 0 (v_X0_clauseSort S ))) 3 5 ((S 3 5) + 1)) c).2) := by unfold w_X0_readClause; rw [if_neg h2, if_neg h4, if_neg h8, if_neg h9, if_pos h12]
        exact ⟨by rw [ew], by rw [ew], hB14, by rw [ew]; omega, (by assumption)⟩
      by_cases h15 : (v_X0_clauseSort S ) = 7
      · refine r_tsw (pc' := 113) 3 rfl rfl rfl (by omega) (by omega) ?_
        refine r_aload (pc' := 114) rfl rfl rfl ?_
        refine r_aload (pc' := 115) rfl rfl rfl ?_
        refine r_const (pc' := 116) rfl rfl ?_
        refine r_const (pc' := 118) rfl rfl ?_
        refine r_const (pc' := 120) rfl rfl ?_
        refine q_call (pc' := 123) (P := fun r' S' => r' = some (.inl ((w_X0_readNumber_1 (stp (mx_up S (5 + c) 0 (v_X0_clauseSort S ))) c (10 : Int) (99 : Int)).1)) ∧ S' = (w_X0_readNumber_1 (stp (mx_up S (5 + c) 0 (v_X0_clauseSort S ))) c (10 : Int) (99 : Int)).2 ∧ Bd S' ∧ ((w_X0_readNumber_1 (stp (mx_up S (5 + c) 0 (v_X0_clauseSort S ))) c (10 : Int) (99 : Int)).1 = 0 ∨ (w_X0_readNumber_1 (stp (mx_up S (5 + c) 0 (v_X0_clauseSort S ))) c (10 : Int) (99 : Int)).1 = 1) ∧ tord S') rfl rfl rfl (c_X0_readNumber_1 (c := c) (lo := 10) (hi := 99) (S := (stp (mx_up S (5 + c) 0 (v_X0_clauseSort S )))) hB6 (show tord (stp (mx_up S (5 + c) 0 (v_X0_clauseSort S ))) from by first | assumption | omega) (show 0 ≤ c ∧ c < 20 from by omega) (show 0 ≤ (10 : Int) ∧ (10 : Int) ≤ 100 from by omega) (show -1 ≤ (99 : Int) ∧ (99 : Int) ≤ 99 from by omega)) (by decide) rfl rfl (Nat.le_of_ble_eq_true rfl) (fun _ _ => ⟨_, _, rfl, rfl⟩) rfl ?_
        rintro _ _ ⟨rfl, rfl, hB16, hr16, he16⟩ hz16
        show RS _ _ _ _ _ [.inl ((w_X0_readNumber_1 (stp (mx_up S (5 + c) 0 (v_X0_clauseSort S ))) c 10 99).1)] (w_X0_readNumber_1 (stp (mx_up S (5 + c) 0 (v_X0_clauseSort S ))) c 10 99).2
        refine q_zret rfl rfl rfl (by omega) ?_
        have ew : w_X0_readClause S c = (((w_X0_readNumber_1 (stp (mx_up S (5 + c) 0 (v_X0_clauseSort S ))) c 10 99).1), (w_X0_readNumber_1 (stp (mx_up S (5 + c) 0 (v_X0_clauseSort S ))) c 10 99).2) := by unfold w_X0_readClause; rw [if_neg h2, if_neg h4, if_neg h8, if_neg h9, if_neg h12, if_pos h15]
        exact ⟨by rw [ew], by rw [ew], hB16, by rw [ew]; omega, (by assumption)⟩
      refine r_tswd (pc' := 124) rfl rfl (by omega) (by omega) ?_
      refine r_aload (pc' := 125) rfl rfl rfl ?_
      refine r_dupr (pc' := 126) rfl rfl ?_
      refine r_getv (pc' := 129) (v := (S 3 3)) rfl rfl (Or.inl rfl) rfl ((stp_o (by omega)).trans (up_ne (by omega))) ?_
      have b17 : 0 ≤ S 3 3 ∧ S 3 3 ≤ 7 := hB 3 3
      refine r_const (pc' := 130) rfl rfl ?_
      refine r_iadd (pc' := 131) rfl rfl ?_
      refine r_put (pc' := 134) rfl rfl rfl rfl ?_
      refine r_aload (pc' := 135) rfl rfl rfl ?_
      refine r_aload (pc' := 136) rfl rfl rfl ?_
      refine r_const (pc' := 137) rfl rfl ?_
      refine r_const (pc' := 138) rfl rfl ?_
      refine r_const (pc' := 139) rfl rfl ?_
      refine q_call (pc' := 142) (P := fun r' S' => r' = some (.inl ((w_X0_readNumber_1 (mx_up (stp (mx_up S (5 + c) 0 (v_X0_clauseSort S ))) 3 3 ((S 3 3) + 1)) c (0 : Int) (3 : Int)).1)) ∧ S' = (w_X0_readNumber_1 (mx_up (stp (mx_up S (5 + c) 0 (v_X0_clauseSort S ))) 3 3 ((S 3 3) + 1)) c (0 : Int) (3 : Int)).2 ∧ Bd S' ∧ ((w_X0_readNumber_1 (mx_up (stp (mx_up S (5 + c) 0 (v_X0_clauseSort S ))) 3 3 ((S 3 3) + 1)) c (0 : Int) (3 : Int)).1 = 0 ∨ (w_X0_readNumber_1 (mx_up (stp (mx_up S (5 + c) 0 (v_X0_clauseSort S ))) 3 3 ((S 3 3) + 1)) c (0 : Int) (3 : Int)).1 = 1) ∧ tord S') rfl rfl rfl (c_X0_readNumber_1 (c := c) (lo := 0) (hi := 3) (S := mx_up (stp (mx_up S (5 + c) 0 (v_X0_clauseSort S ))) 3 3 ((S 3 3) + 1)) (Bd_up hB6 (show (0 : Int) ≤ ((S 3 3) + 1) from by omega) (show ((S 3 3) + 1) ≤ (7 : Int) from by omega)) (show tord (mx_up (stp (mx_up S (5 + c) 0 (v_X0_clauseSort S ))) 3 3 ((S 3 3) + 1)) from by first | assumption | omega) (show 0 ≤ c ∧ c < 20 from by omega) (show 0 ≤ (0 : Int) ∧ (0 : Int) ≤ 100 from by omega) (show -1 ≤ (3 : Int) ∧ (3 : Int) ≤ 99 from by omega)) (by decide) rfl rfl (Nat.le_of_ble_eq_true rfl) (fun _ _ => ⟨_, _, rfl, rfl⟩) rfl ?_
      rintro _ _ ⟨rfl, rfl, hB18, hr18, he18⟩ hz18
      show RS _ _ _ _ _ [.inl ((w_X0_readNumber_1 (mx_up (stp (mx_up S (5 + c) 0 (v_X0_clauseSort S ))) 3 3 ((S 3 3) + 1)) c 0 3).1)] (w_X0_readNumber_1 (mx_up (stp (mx_up S (5 + c) 0 (v_X0_clauseSort S ))) 3 3 ((S 3 3) + 1)) c 0 3).2
      by_cases h19 : ((w_X0_readNumber_1 (mx_up (stp (mx_up S (5 + c) 0 (v_X0_clauseSort S ))) 3 3 ((S 3 3) + 1)) c 0 3).1) = 0
      · refine r_if_eq1 (pc' := 169) rfl rfl (by omega) (by omega) ?_
        refine r_const (pc' := 170) rfl rfl ?_
        refine q_zret rfl rfl rfl (by omega) ?_
        have ew : w_X0_readClause S c = (0, (w_X0_readNumber_1 (mx_up (stp (mx_up S (5 + c) 0 (v_X0_clauseSort S ))) 3 3 ((S 3 3) + 1)) c 0 3).2) := by unfold w_X0_readClause; rw [if_neg h2, if_neg h4, if_neg h8, if_neg h9, if_neg h12, if_neg h15, if_pos h19]
        exact ⟨by rw [ew], by rw [ew], hB18, by rw [ew]; omega, (by assumption)⟩
      · refine r_if_eq0 (pc' := 145) rfl rfl (by omega) (by omega) ?_
        refine r_aload (pc' := 146) rfl rfl rfl ?_
        refine r_aload (pc' := 147) rfl rfl rfl ?_
        refine r_const (pc' := 148) rfl rfl ?_
        refine r_const (pc' := 149) rfl rfl ?_
        refine r_const (pc' := 151) rfl rfl ?_
        refine q_call (pc' := 154) (P := fun r' S' => r' = some (.inl ((w_X0_readNumber_2 ((w_X0_readNumber_1 (mx_up (stp (mx_up S (5 + c) 0 (v_X0_clauseSort S ))) 3 3 ((S 3 3) + 1)) c 0 3).2) c (1 : Int) (9 : Int)).1)) ∧ S' = (w_X0_readNumber_2 ((w_X0_readNumber_1 (mx_up (stp (mx_up S (5 + c) 0 (v_X0_clauseSort S ))) 3 3 ((S 3 3) + 1)) c 0 3).2) c (1 : Int) (9 : Int)).2 ∧ Bd S' ∧ ((w_X0_readNumber_2 ((w_X0_readNumber_1 (mx_up (stp (mx_up S (5 + c) 0 (v_X0_clauseSort S ))) 3 3 ((S 3 3) + 1)) c 0 3).2) c (1 : Int) (9 : Int)).1 = 0 ∨ (w_X0_readNumber_2 ((w_X0_readNumber_1 (mx_up (stp (mx_up S (5 + c) 0 (v_X0_clauseSort S ))) 3 3 ((S 3 3) + 1)) c 0 3).2) c (1 : Int) (9 : Int)).1 = 1) ∧ tord S') rfl rfl rfl (c_X0_readNumber_2 (c := c) (lo := 1) (hi := 9) (S := (w_X0_readNumber_1 (mx_up (stp (mx_up S (5 + c) 0 (v_X0_clauseSort S ))) 3 3 ((S 3 3) + 1)) c 0 3).2) hB18 (show tord ((w_X0_readNumber_1 (mx_up (stp (mx_up S (5 + c) 0 (v_X0_clauseSort S ))) 3 3 ((S 3 3) + 1)) c 0 3).2) from by first | assumption | omega) (show 0 ≤ c ∧ c < 20 from by omega) (show 0 ≤ (1 : Int) ∧ (1 : Int) ≤ 100 from by omega) (show -1 ≤ (9 : Int) ∧ (9 : Int) ≤ 9 from by omega)) (by decide) rfl rfl (Nat.le_of_ble_eq_true rfl) (fun _ _ => ⟨_, _, rfl, rfl⟩) rfl ?_
        rintro _ _ ⟨rfl, rfl, hB20, hr20, he20⟩ hz20
        show RS _ _ _ _ _ [.inl ((w_X0_readNumber_2 ((w_X0_readNumber_1 (mx_up (stp (mx_up S (5 + c) 0 (v_X0_clauseSort S ))) 3 3 ((S 3 3) + 1)) c 0 3).2) c 1 9).1)] (w_X0_readNumber_2 ((w_X0_readNumber_1 (mx_up (stp (mx_up S (5 + c) 0 (v_X0_clauseSort S ))) 3 3 ((S 3 3) + 1)) c 0 3).2) c 1 9).2
        by_cases h21 : ((w_X0_readNumber_2 ((w_X0_readNumber_1 (mx_up (stp (mx_up S (5 + c) 0 (v_X0_clauseSort S ))) 3 3 ((S 3 3) + 1)) c 0 3).2) c 1 9).1) = 0
        · refine r_if_eq1 (pc' := 169) rfl rfl (by omega) (by omega) ?_
          refine r_const (pc' := 170) rfl rfl ?_
          refine q_zret rfl rfl rfl (by omega) ?_
          have ew : w_X0_readClause S c = (0, (w_X0_readNumber_2 ((w_X0_readNumber_1 (mx_up (stp (mx_up S (5 + c) 0 (v_X0_clauseSort S ))) 3 3 ((S 3 3) + 1)) c 0 3).2) c 1 9).2) := by unfold w_X0_readClause; rw [if_neg h2, if_neg h4, if_neg h8, if_neg h9, if_neg h12, if_neg h15, if_neg h19, if_pos h21]
          exact ⟨by rw [ew], by rw [ew], hB20, by rw [ew]; omega, (by assumption)⟩
        · refine r_if_eq0 (pc' := 157) rfl rfl (by omega) (by omega) ?_
          refine r_aload (pc' := 158) rfl rfl rfl ?_
          refine r_aload (pc' := 159) rfl rfl rfl ?_
          refine q_call (pc' := 162) (P := fun r' S' => r' = some (.inl ((w_X0_readLine ((w_X0_readNumber_2 ((w_X0_readNumber_1 (mx_up (stp (mx_up S (5 + c) 0 (v_X0_clauseSort S ))) 3 3 ((S 3 3) + 1)) c 0 3).2) c 1 9).2) c).1)) ∧ S' = (w_X0_readLine ((w_X0_readNumber_2 ((w_X0_readNumber_1 (mx_up (stp (mx_up S (5 + c) 0 (v_X0_clauseSort S ))) 3 3 ((S 3 3) + 1)) c 0 3).2) c 1 9).2) c).2 ∧ Bd S' ∧ ((w_X0_readLine ((w_X0_readNumber_2 ((w_X0_readNumber_1 (mx_up (stp (mx_up S (5 + c) 0 (v_X0_clauseSort S ))) 3 3 ((S 3 3) + 1)) c 0 3).2) c 1 9).2) c).1 = 0 ∨ (w_X0_readLine ((w_X0_readNumber_2 ((w_X0_readNumber_1 (mx_up (stp (mx_up S (5 + c) 0 (v_X0_clauseSort S ))) 3 3 ((S 3 3) + 1)) c 0 3).2) c 1 9).2) c).1 = 1) ∧ tord S') rfl rfl rfl (c_X0_readLine (c := c) (S := (w_X0_readNumber_2 ((w_X0_readNumber_1 (mx_up (stp (mx_up S (5 + c) 0 (v_X0_clauseSort S ))) 3 3 ((S 3 3) + 1)) c 0 3).2) c 1 9).2) hB20 (show tord ((w_X0_readNumber_2 ((w_X0_readNumber_1 (mx_up (stp (mx_up S (5 + c) 0 (v_X0_clauseSort S ))) 3 3 ((S 3 3) + 1)) c 0 3).2) c 1 9).2) from by first | assumption | omega) (show 0 ≤ c ∧ c < 20 from by omega)) (by decide) rfl rfl (Nat.le_of_ble_eq_true rfl) (fun _ _ => ⟨_, _, rfl, rfl⟩) rfl ?_
          rintro _ _ ⟨rfl, rfl, hB22, hr22, he22⟩ hz22
          show RS _ _ _ _ _ [.inl ((w_X0_readLine ((w_X0_readNumber_2 ((w_X0_readNumber_1 (mx_up (stp (mx_up S (5 + c) 0 (v_X0_clauseSort S ))) 3 3 ((S 3 3) + 1)) c 0 3).2) c 1 9).2) c).1)] (w_X0_readLine ((w_X0_readNumber_2 ((w_X0_readNumber_1 (mx_up (stp (mx_up S (5 + c) 0 (v_X0_clauseSort S ))) 3 3 ((S 3 3) + 1)) c 0 3).2) c 1 9).2) c).2
          by_cases h23 : ((w_X0_readLine ((w_X0_readNumber_2 ((w_X0_readNumber_1 (mx_up (stp (mx_up S (5 + c) 0 (v_X0_clauseSort S ))) 3 3 ((S 3 3) + 1)) c 0 3).2) c 1 9).2) c).1) = 0
          · refine r_if_eq1 (pc' := 169) rfl rfl (by omega) (by omega) ?_
            refine r_const (pc' := 170) rfl rfl ?_
            refine q_zret rfl rfl rfl (by omega) ?_
            have ew : w_X0_readClause S c = (0, (w_X0_readLine ((w_X0_readNumber_2 ((w_X0_readNumber_1 (mx_up (stp (mx_up S (5 + c) 0 (v_X0_clauseSort S ))) 3 3 ((S 3 3) + 1)) c 0 3).2) c 1 9).2) c).2) := by unfold w_X0_readClause; rw [if_neg h2, if_neg h4, if_neg h8, if_neg h9, if_neg h12, if_neg h15, if_neg h19, if_neg h21, if_pos h23]
            exact ⟨by rw [ew], by rw [ew], hB22, by rw [ew]; omega, (by assumption)⟩
          · refine r_if_eq0 (pc' := 165) rfl rfl (by omega) (by omega) ?_
            refine r_const (pc' := 166) rfl rfl ?_
            refine r_goto (pc' := 170) rfl rfl ?_
            refine q_zret rfl rfl rfl (by omega) ?_
            have ew : w_X0_readClause S c = (1, (w_X0_readLine ((w_X0_readNumber_2 ((w_X0_readNumber_1 (mx_up (stp (mx_up S (5 + c) 0 (v_X0_clauseSort S ))) 3 3 ((S 3 3) + 1)) c 0 3).2) c 1 9).2) c).2) := by unfold w_X0_readClause; rw [if_neg h2, if_neg h4, if_neg h8, if_neg h9, if_neg h12, if_neg h15, if_neg h19, if_neg h21, if_neg h23]
            exact ⟨by rw [ew], by rw [ew], hB22, by rw [ew]; omega, (by assumption)⟩
