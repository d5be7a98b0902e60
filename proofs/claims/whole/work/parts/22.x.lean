theorem osd {S : rS} (hB : Bd S) (g f : Int) : -1 ≤ v_X3_otherSide S g f ∧ v_X3_otherSide S g f ≤ 6 := by
  have q1 : 0 ≤ S 38 g ∧ S 38 g ≤ 6 := hB 38 g
  have q2 : 0 ≤ S 39 g ∧ S 39 g ≤ 6 := hB 39 g
  unfold v_X3_otherSide
  split
  · omega
  · split <;> omega
/-- the places that birds take of a line -/
noncomputable def bpl (S : rS) (f : Int) : Int := bs (fun kk => btake (S 26 f) (S (31 + f) kk)) (S 29 f)
theorem bpl_cg {S S' : rS} {f : Int} (hf : 0 ≤ f ∧ f < 7) (h : ∀ a j : Int, 25 ≤ a ∧ a ≤ 58 → S' a j = S a j) : bpl S' f = bpl S f := by
  unfold bpl
  rw [h 26 f (by omega), h 29 f (by omega), show S' (31 + f) = S (31 + f) from funext fun k => h _ k (by omega)]
noncomputable def w_X10_write (S : rS) (c : Int) : Int × rS := if c < 0 then ((-3), S) else if 255 < c then ((-3), S) else if (S 1 1) < 200 then (((S 1 1) + 1), mx_up (mx_up S 2 (S 1 1) c) 1 1 ((S 1 1) + 1)) else ((-5), S)
theorem c_X10_write {c : Int} {S : rS} (hB : Bd S) (h_c : -2147483648 ≤ c ∧ c < 2147483648) : CS 1 54 [.inr (.inr 0), .inl c] S (fun r' S' => r' = some (.inl ((w_X10_write S c).1)) ∧ S' = (w_X10_write S c).2 ∧ Bd S') := by
  refine RS.beg (ls := [some (.inr (.inr 0)), some (.inl c)]) rfl rfl rfl rfl rfl ?_
  have b0 : 0 ≤ S 1 1 ∧ S 1 1 ≤ 200 := hB 1 1
  refine r_iload (pc' := 1) rfl rfl rfl ?_
  by_cases h1 : c < 0
  · refine r_if_lt1 (pc' := 11) rfl rfl (by omega) (by omega) ?_
    refine r_const (pc' := 13) rfl rfl ?_
    refine q_iret rfl rfl rfl ?_
    have ew : w_X10_write S c = ((-3), S) := by unfold w_X10_write; rw [if_pos h1]
    exact ⟨by rw [ew], by rw [ew], hB⟩
  · refine r_if_lt0 (pc' := 4) rfl rfl (by omega) (by omega) ?_
    refine r_iload (pc' := 5) rfl rfl rfl ?_
    refine r_const (pc' := 8) rfl rfl ?_
    by_cases h2 : 255 < c
    · refine r_icmp_le0 (pc' := 11) rfl rfl (by omega) (by omega) ?_
      refine r_const (pc' := 13) rfl rfl ?_
      refine q_iret rfl rfl rfl ?_
      have ew : w_X10_write S c = ((-3), S) := by unfold w_X10_write; rw [if_neg h1, if_pos h2]
      exact ⟨by rw [ew], by rw [ew], hB⟩
    · refine r_icmp_le1 (pc' := 14) rfl rfl (by omega) (by omega) ?_
      refine r_aload (pc' := 15) rfl rfl rfl ?_
      refine r_getr (pc' := 18) (v := 1) rfl rfl rfl rfl rfl ?_
      refine r_getv (pc' := 21) (v := (S 1 1)) rfl rfl (Or.inl rfl) rfl rfl ?_
      have b3 : 0 ≤ S 1 1 ∧ S 1 1 ≤ 200 := hB 1 1
      refine r_const (pc' := 24) rfl rfl ?_
      by_cases h4 : (S 1 1) < 200
      · refine r_icmp_lt1 (pc' := 30) rfl rfl (by omega) (by omega) ?_
        refine r_aload (pc' := 31) rfl rfl rfl ?_
        refine r_getr (pc' := 34) (v := 1) rfl rfl rfl rfl rfl ?_
        refine r_getr (pc' := 37) (v := 2) rfl rfl rfl rfl rfl ?_
        refine r_aload (pc' := 38) rfl rfl rfl ?_
        refine r_getr (pc' := 41) (v := 1) rfl rfl rfl rfl rfl ?_
        refine r_getv (pc' := 44) (v := (S 1 1)) rfl rfl (Or.inl rfl) rfl rfl ?_
        refine r_iload (pc' := 45) rfl rfl rfl ?_
        refine r_ast (pc' := 46) 200 rfl rfl rfl (by omega) ?_
        refine r_aload (pc' := 47) rfl rfl rfl ?_
        refine r_getr (pc' := 50) (v := 1) rfl rfl rfl rfl rfl ?_
        refine r_dupr (pc' := 51) rfl rfl ?_
        refine r_getv (pc' := 54) (v := (S 1 1)) rfl rfl (Or.inl rfl) rfl rfl ?_
        refine r_const (pc' := 55) rfl rfl ?_
        refine r_iadd (pc' := 56) rfl rfl ?_
        refine r_put (pc' := 59) rfl rfl rfl rfl ?_
        refine r_aload (pc' := 60) rfl rfl rfl ?_
        refine r_getr (pc' := 63) (v := 1) rfl rfl rfl rfl rfl ?_
        refine r_getv (pc' := 66) (v := ((S 1 1) + 1)) rfl rfl (Or.inl rfl) rfl rfl ?_
        refine q_iret rfl rfl rfl ?_
        have ew : w_X10_write S c = (((S 1 1) + 1), mx_up (mx_up S 2 (S 1 1) c) 1 1 ((S 1 1) + 1)) := by unfold w_X10_write; rw [if_neg h1, if_neg h2, if_pos h4]
        exact ⟨by rw [ew], by rw [ew], (Bd_up (Bd_up hB (show (0 : Int) ≤ c from by omega) (show c ≤ (255 : Int) from by omega)) (show (0 : Int) ≤ ((S 1 1) + 1) from by omega) (show ((S 1 1) + 1) ≤ (200 : Int) from by omega))⟩
      · refine r_icmp_lt0 (pc' := 27) rfl rfl (by omega) (by omega) ?_
        refine r_const (pc' := 29) rfl rfl ?_
        refine q_iret rfl rfl rfl ?_
        have ew : w_X10_write S c = ((-5), S) := by unfold w_X10_write; rw [if_neg h1, if_neg h2, if_neg h4]
        exact ⟨by rw [ew], by rw [ew], hB⟩
noncomputable def w_X10_erase (S : rS) : Int × rS := ((S 1 1), mx_up S 1 1 0)
theorem c_X10_erase {S : rS} (hB : Bd S) : CS 1 20 [.inr (.inr 0)] S (fun r' S' => r' = some (.inl ((w_X10_erase S).1)) ∧ S' = (w_X10_erase S).2 ∧ Bd S') := by
  refine RS.beg (ls := [some (.inr (.inr 0)), none]) rfl rfl rfl rfl rfl ?_
  refine r_aload (pc' := 1) rfl rfl rfl ?_
  refine r_getr (pc' := 4) (v := 1) rfl rfl rfl rfl rfl ?_
  refine r_getv (pc' := 7) (v := (S 1 1)) rfl rfl (Or.inl rfl) rfl rfl ?_
  have b1 : 0 ≤ S 1 1 ∧ S 1 1 ≤ 200 := hB 1 1
  refine r_istore (pc' := 8) (ls' := [some (.inr (.inr 0)), some (.inl (S 1 1))]) rfl rfl rfl rfl ?_
  refine r_aload (pc' := 9) rfl rfl rfl ?_
  refine r_getr (pc' := 12) (v := 1) rfl rfl rfl rfl rfl ?_
  refine r_const (pc' := 13) rfl rfl ?_
  refine r_put (pc' := 16) rfl rfl rfl rfl ?_
  refine r_iload (pc' := 17) rfl rfl rfl ?_
  refine q_iret rfl rfl rfl ?_
  have ew : w_X10_erase S = ((S 1 1), mx_up S 1 1 0) := by unfold w_X10_erase; rfl
  exact ⟨by rw [ew], by rw [ew], (Bd_up hB (show (0 : Int) ≤ 0 from by omega) (show 0 ≤ (200 : Int) from by omega))⟩
noncomputable def w_X10_through (S : rS) (g : Int) : Int × rS := if 0 ≤ g ∧ g < S 25 6 then if (v_X3_otherSide S g (S 59 4)) = (-1) then ((-4), S) else if (S 25 13) < ((S 59 2) + (S 40 g)) then ((-4), S) else ((v_X3_otherSide S g (S 59 4)), mx_up (mx_up (rem S) 59 4 (v_X3_otherSide S g (S 59 4))) 59 2 ((S 59 2) + (S 40 g))) else ((-2), S)
theorem c_X10_through {g : Int} {S : rS} (hB : Bd S) (h_g : -2147483648 ≤ g ∧ g < 2147483648) : CS 3 48 [.inr (.inr 0), .inl g] S (fun r' S' => r' = some (.inl ((w_X10_through S g).1)) ∧ S' = (w_X10_through S g).2 ∧ Bd S') := by
  refine RS.beg (ls := [some (.inr (.inr 0)), some (.inl g), none, none]) rfl rfl rfl rfl rfl ?_
  have b0 : 0 ≤ S 25 6 ∧ S 25 6 ≤ 9 := hB 25 6
  have b594 : 0 ≤ S 59 4 ∧ S 59 4 ≤ 6 := hB 59 4
  have b591 : 0 ≤ S 59 1 ∧ S 59 1 ≤ 127 := hB 59 1
  have b592 : 0 ≤ S 59 2 ∧ S 59 2 ≤ 99 := hB 59 2
  have b593 : 0 ≤ S 59 3 ∧ S 59 3 ≤ 999 := hB 59 3
  have b1 : 0 ≤ S 25 13 ∧ S 25 13 ≤ 99 := hB 25 13
  refine r_aload (pc' := 1) rfl rfl rfl ?_
  refine r_getr (pc' := 4) (v := 25) rfl rfl rfl rfl rfl ?_
  refine r_iload (pc' := 5) rfl rfl rfl ?_
  have b1 : 0 ≤ S 25 6 ∧ S 25 6 ≤ 9 := hB 25 6
  by_cases h2 : 0 ≤ g ∧ g < S 25 6
  · skip
    refine q_callE (pc' := 8) (w := some (.inl 1)) (S2 := S) (st' := [.inl 1]) rfl rfl rfl (bi_pos h2 (c_X3_hasGate (g := g) (S := S) hB (show -2147483648 ≤ g ∧ g < 2147483648 from by omega))) (by decide) rfl rfl (Nat.le_of_ble_eq_true rfl) (fun _ _ => ⟨_, _, rfl, rfl⟩) rfl rfl ?_
    refine r_if_ne1 (pc' := 14) rfl rfl (by decide) (by decide) ?_
    refine r_aload (pc' := 15) rfl rfl rfl ?_
    refine r_getr (pc' := 18) (v := 25) rfl rfl rfl rfl rfl ?_
    refine r_iload (pc' := 19) rfl rfl rfl ?_
    refine r_aload (pc' := 20) rfl rfl rfl ?_
    refine r_getr (pc' := 23) (v := 59) rfl rfl rfl rfl rfl ?_
    refine r_getv (pc' := 26) (v := (S 59 4)) rfl rfl (Or.inl rfl) rfl rfl ?_
    have b3 : 0 ≤ S 59 4 ∧ S 59 4 ≤ 6 := hB 59 4
    refine q_callE (pc' := 29) (w := some (.inl (v_X3_otherSide S g (S 59 4)))) (S2 := S) (st' := [.inl (v_X3_otherSide S g (S 59 4))]) rfl rfl rfl (c_X3_otherSide (g := g) (f := (S 59 4)) (S := S) hB (show 0 ≤ g ∧ g < 9 from by omega) (show -2147483648 ≤ (S 59 4) ∧ (S 59 4) < 2147483648 from by omega)) (by decide) rfl rfl (Nat.le_of_ble_eq_true rfl) (fun _ _ => ⟨_, _, rfl, rfl⟩) rfl rfl ?_
    have b4 : -1 ≤ (v_X3_otherSide S g (S 59 4)) ∧ (v_X3_otherSide S g (S 59 4)) ≤ 6 := osd hB _ _
    refine r_istore (pc' := 30) (ls' := [some (.inr (.inr 0)), some (.inl g), some (.inl (v_X3_otherSide S g (S 59 4))), none]) rfl rfl rfl rfl ?_
    refine r_aload (pc' := 31) rfl rfl rfl ?_
    refine r_getr (pc' := 34) (v := 59) rfl rfl rfl rfl rfl ?_
    refine r_getv (pc' := 37) (v := (S 59 2)) rfl rfl (Or.inl rfl) rfl rfl ?_
    have b5 : 0 ≤ S 59 2 ∧ S 59 2 ≤ 99 := hB 59 2
    refine r_aload (pc' := 38) rfl rfl rfl ?_
    refine r_getr (pc' := 41) (v := 25) rfl rfl rfl rfl rfl ?_
    refine r_getr (pc' := 44) (v := 40) rfl rfl rfl rfl rfl ?_
    refine r_iload (pc' := 45) rfl rfl rfl ?_
    refine r_aldv (pc' := 46) (v := (S 40 g)) 9 rfl rfl rfl (by omega) rfl ?_
    have b6 : 0 ≤ S 40 g ∧ S 40 g ≤ 30 := hB 40 g
    refine r_iadd (pc' := 47) rfl rfl ?_
    refine r_istore (pc' := 48) (ls' := [some (.inr (.inr 0)), some (.inl g), some (.inl (v_X3_otherSide S g (S 59 4))), some (.inl ((S 59 2) + (S 40 g)))]) rfl rfl rfl rfl ?_
    refine r_iload (pc' := 49) rfl rfl rfl ?_
    refine r_const (pc' := 50) rfl rfl ?_
    by_cases h7 : (v_X3_otherSide S g (S 59 4)) = (-1)
    · refine r_icmp_eq1 (pc' := 64) rfl rfl (by omega) (by omega) ?_
      refine r_const (pc' := 66) rfl rfl ?_
      refine q_iret rfl rfl rfl ?_
      have ew : w_X10_through S g = ((-4), S) := by unfold w_X10_through; rw [if_pos h2, if_pos h7]
      exact ⟨by rw [ew], by rw [ew], hB⟩
    · refine r_icmp_eq0 (pc' := 53) rfl rfl (by omega) (by omega) ?_
      refine r_iload (pc' := 54) rfl rfl rfl ?_
      refine r_aload (pc' := 55) rfl rfl rfl ?_
      refine r_getr (pc' := 58) (v := 25) rfl rfl rfl rfl rfl ?_
      refine r_getv (pc' := 61) (v := (S 25 13)) rfl rfl (Or.inl rfl) rfl rfl ?_
      have b8 : 0 ≤ S 25 13 ∧ S 25 13 ≤ 99 := hB 25 13
      by_cases h9 : (S 25 13) < ((S 59 2) + (S 40 g))
      · refine r_icmp_le0 (pc' := 64) rfl rfl (by omega) (by omega) ?_
        refine r_const (pc' := 66) rfl rfl ?_
        refine q_iret rfl rfl rfl ?_
        have ew : w_X10_through S g = ((-4), S) := by unfold w_X10_through; rw [if_pos h2, if_neg h7, if_pos h9]
        exact ⟨by rw [ew], by rw [ew], hB⟩
      · refine r_icmp_le1 (pc' := 67) rfl rfl (by omega) (by omega) ?_
        refine r_aload (pc' := 68) rfl rfl rfl ?_
        refine r_getr (pc' := 71) (v := 61) rfl rfl rfl rfl rfl ?_
        refine r_aload (pc' := 72) rfl rfl rfl ?_
        refine r_getr (pc' := 75) (v := 59) rfl rfl rfl rfl rfl ?_
        refine q_callE (pc' := 78) (w := none) (S2 := rem S) (st' := []) rfl rfl rfl (c_X4_remember  (S := S) hB ) (by decide) rfl rfl (Nat.le_of_ble_eq_true rfl) (fun _ _ => ⟨_, _, rfl, rfl⟩) rfl rfl ?_
        have hB10 : Bd (rem S) := Bd_rem hB
        refine r_aload (pc' := 79) rfl rfl rfl ?_
        refine r_getr (pc' := 82) (v := 59) rfl rfl rfl rfl rfl ?_
        refine r_iload (pc' := 83) rfl rfl rfl ?_
        refine r_put (pc' := 86) rfl rfl rfl rfl ?_
        refine r_aload (pc' := 87) rfl rfl rfl ?_
        refine r_getr (pc' := 90) (v := 59) rfl rfl rfl rfl rfl ?_
        refine r_iload (pc' := 91) rfl rfl rfl ?_
        refine r_put (pc' := 94) rfl rfl rfl rfl ?_
        refine r_iload (pc' := 95) rfl rfl rfl ?_
        refine q_iret rfl rfl rfl ?_
        have ew : w_X10_through S g = ((v_X3_otherSide S g (S 59 4)), mx_up (mx_up (rem S) 59 4 (v_X3_otherSide S g (S 59 4))) 59 2 ((S 59 2) + (S 40 g))) := by unfold w_X10_through; rw [if_pos h2, if_neg h7, if_neg h9]
        exact ⟨by rw [ew], by rw [ew], (Bd_up (Bd_up hB10 (show (0 : Int) ≤ (v_X3_otherSide S g (S 59 4)) from by omega) (show (v_X3_otherSide S g (S 59 4)) ≤ (6 : Int) from by omega)) (show (0 : Int) ≤ ((S 59 2) + (S 40 g)) from by omega) (show ((S 59 2) + (S 40 g)) ≤ (99 : Int) from by omega))⟩
  · skip
    refine q_callE (pc' := 8) (w := some (.inl 0)) (S2 := S) (st' := [.inl 0]) rfl rfl rfl (bi_neg h2 (c_X3_hasGate (g := g) (S := S) hB (show -2147483648 ≤ g ∧ g < 2147483648 from by omega))) (by decide) rfl rfl (Nat.le_of_ble_eq_true rfl) (fun _ _ => ⟨_, _, rfl, rfl⟩) rfl rfl ?_
    refine r_if_ne0 (pc' := 11) rfl rfl (by decide) (by decide) ?_
    refine r_const (pc' := 13) rfl rfl ?_
    refine q_iret rfl rfl rfl ?_
    have ew : w_X10_through S g = ((-2), S) := by unfold w_X10_through; rw [if_neg h2]
    exact ⟨by rw [ew], by rw [ew], hB⟩
noncomputable def w_X10_read (S : rS) : Int × rS := if 0 ≤ (S 59 4) ∧ (S 59 4) < S 25 0 then if tb (S 59 1) (S 59 4) then ((-4), S) else if S 26 (S 59 4) ≠ 1 ∨ S 59 5 < 5 then if (S 25 13) < ((S 59 2) + (mins (S 26 (S 59 4)) (pop (S 60 (S 59 4))))) then ((-4), S) else ((pop (S 60 (S 59 4))), mx_up (mx_up (rem S) 59 2 ((S 59 2) + (mins (S 26 (S 59 4)) (pop (S 60 (S 59 4)))))) 59 1 (mx_or (S 59 1) (mx_shl 1 (S 59 4)))) else ((-4), S) else ((-4), S)
theorem c_X10_read {S : rS} (hB : Bd S) : CS 3 44 [.inr (.inr 0)] S (fun r' S' => r' = some (.inl ((w_X10_read S).1)) ∧ S' = (w_X10_read S).2 ∧ Bd S') := by
  refine RS.beg (ls := [some (.inr (.inr 0)), none, none]) rfl rfl rfl rfl rfl ?_
  have b0 : 0 ≤ S 25 0 ∧ S 25 0 ≤ 7 := hB 25 0
  have b594 : 0 ≤ S 59 4 ∧ S 59 4 ≤ 6 := hB 59 4
  have b591 : 0 ≤ S 59 1 ∧ S 59 1 ≤ 127 := hB 59 1
  have b592 : 0 ≤ S 59 2 ∧ S 59 2 ≤ 99 := hB 59 2
  have b593 : 0 ≤ S 59 3 ∧ S 59 3 ≤ 999 := hB 59 3
  have b1 : 0 ≤ S 25 13 ∧ S 25 13 ≤ 99 := hB 25 13
  refine r_aload (pc' := 1) rfl rfl rfl ?_
  refine r_getr (pc' := 4) (v := 59) rfl rfl rfl rfl rfl ?_
  refine r_getv (pc' := 7) (v := (S 59 4)) rfl rfl (Or.inl rfl) rfl rfl ?_
  have b1 : 0 ≤ S 59 4 ∧ S 59 4 ≤ 6 := hB 59 4
  refine r_istore (pc' := 8) (ls' := [some (.inr (.inr 0)), some (.inl (S 59 4)), none]) rfl rfl rfl rfl ?_
  refine r_aload (pc' := 9) rfl rfl rfl ?_
  refine r_getr (pc' := 12) (v := 25) rfl rfl rfl rfl rfl ?_
  refine r_iload (pc' := 13) rfl rfl rfl ?_
  have b2 : 0 ≤ S 25 0 ∧ S 25 0 ≤ 7 := hB 25 0
  by_cases h3 : 0 ≤ (S 59 4) ∧ (S 59 4) < S 25 0
  · skip
    refine q_callE (pc' := 16) (w := some (.inl 1)) (S2 := S) (st' := [.inl 1]) rfl rfl rfl (bi_pos h3 (c_X3_hasField (f := (S 59 4)) (S := S) hB (show -2147483648 ≤ (S 59 4) ∧ (S 59 4) < 2147483648 from by omega))) (by decide) rfl rfl (Nat.le_of_ble_eq_true rfl) (fun _ _ => ⟨_, _, rfl, rfl⟩) rfl rfl ?_
    refine r_if_eq0 (pc' := 19) rfl rfl (by decide) (by decide) ?_
    refine r_aload (pc' := 20) rfl rfl rfl ?_
    refine r_getr (pc' := 23) (v := 59) rfl rfl rfl rfl rfl ?_
    refine r_iload (pc' := 24) rfl rfl rfl ?_
    have b4 : 0 ≤ S 59 1 ∧ S 59 1 ≤ 127 := hB 59 1
    by_cases h5 : tb (S 59 1) (S 59 4)
    · skip
      refine q_callE (pc' := 27) (w := some (.inl 1)) (S2 := S) (st' := [.inl 1]) rfl rfl rfl (bi_pos h5 (c_X7_isRead (f := (S 59 4)) (S := S) hB (show 0 ≤ (S 59 4) ∧ (S 59 4) < 32 from by omega))) (by decide) rfl rfl (Nat.le_of_ble_eq_true rfl) (fun _ _ => ⟨_, _, rfl, rfl⟩) rfl rfl ?_
      refine r_if_ne1 (pc' := 45) rfl rfl (by decide) (by decide) ?_
      refine r_const (pc' := 47) rfl rfl ?_
      refine q_iret rfl rfl rfl ?_
      have ew : w_X10_read S = ((-4), S) := by unfold w_X10_read; rw [if_pos h3, if_pos h5]
      exact ⟨by rw [ew], by rw [ew], hB⟩
    · skip
      refine q_callE (pc' := 27) (w := some (.inl 0)) (S2 := S) (st' := [.inl 0]) rfl rfl rfl (bi_neg h5 (c_X7_isRead (f := (S 59 4)) (S := S) hB (show 0 ≤ (S 59 4) ∧ (S 59 4) < 32 from by omega))) (by decide) rfl rfl (Nat.le_of_ble_eq_true rfl) (fun _ _ => ⟨_, _, rfl, rfl⟩) rfl rfl ?_
      refine r_if_ne0 (pc' := 30) rfl rfl (by decide) (by decide) ?_
      refine r_aload (pc' := 31) rfl rfl rfl ?_
      refine r_getr (pc' := 34) (v := 59) rfl rfl rfl rfl rfl ?_
      refine r_aload (pc' := 35) rfl rfl rfl ?_
      refine r_getr (pc' := 38) (v := 25) rfl rfl rfl rfl rfl ?_
      refine r_iload (pc' := 39) rfl rfl rfl ?_
      have b6 : 0 ≤ S 26 (S 59 4) ∧ S 26 (S 59 4) ≤ 3 := hB 26 (S 59 4)
      have b7 : 0 ≤ S 59 5 ∧ S 59 5 ≤ 9 := hB 59 5
      by_cases h8 : S 26 (S 59 4) ≠ 1 ∨ S 59 5 < 5
      · skip
        refine q_callE (pc' := 42) (w := some (.inl 1)) (S2 := S) (st' := [.inl 1]) rfl rfl rfl (bi_pos h8 (c_X7_canBeRead (f := (S 59 4)) (S := S) hB (show 0 ≤ (S 59 4) ∧ (S 59 4) < 7 from by omega))) (by decide) rfl rfl (Nat.le_of_ble_eq_true rfl) (fun _ _ => ⟨_, _, rfl, rfl⟩) rfl rfl ?_
        refine r_if_ne1 (pc' := 48) rfl rfl (by decide) (by decide) ?_
        refine r_aload (pc' := 49) rfl rfl rfl ?_
        refine r_getr (pc' := 52) (v := 59) rfl rfl rfl rfl rfl ?_
        refine r_getv (pc' := 55) (v := (S 59 2)) rfl rfl (Or.inl rfl) rfl rfl ?_
        have b9 : 0 ≤ S 59 2 ∧ S 59 2 ≤ 99 := hB 59 2
        refine r_aload (pc' := 56) rfl rfl rfl ?_
        refine r_getr (pc' := 59) (v := 59) rfl rfl rfl rfl rfl ?_
        refine r_aload (pc' := 60) rfl rfl rfl ?_
        refine r_getr (pc' := 63) (v := 25) rfl rfl rfl rfl rfl ?_
        refine r_iload (pc' := 64) rfl rfl rfl ?_
        have b10 : 0 ≤ S 60 (S 59 4) ∧ S 60 (S 59 4) ≤ 255 := hB 60 (S 59 4)
        refine q_callE (pc' := 67) (w := some (.inl (mins (S 26 (S 59 4)) (pop (S 60 (S 59 4)))))) (S2 := S) (st' := [.inl (mins (S 26 (S 59 4)) (pop (S 60 (S 59 4)))), .inl (S 59 2)]) rfl rfl rfl (c_X7_readingMinutes (f := (S 59 4)) (S := S) hB (show 0 ≤ (S 59 4) ∧ (S 59 4) < 7 from by omega)) (by decide) rfl rfl (Nat.le_of_ble_eq_true rfl) (fun _ _ => ⟨_, _, rfl, rfl⟩) rfl rfl ?_
        have b11 : 0 ≤ (mins (S 26 (S 59 4)) (pop (S 60 (S 59 4)))) ∧ (mins (S 26 (S 59 4)) (pop (S 60 (S 59 4)))) ≤ 38 := by have q1 := mins_r (k := S 26 (S 59 4)) (pop_r (S 60 (S 59 4))).1; have q2 := pop_r (S 60 (S 59 4)); omega
        refine r_iadd (pc' := 68) rfl rfl ?_
        refine r_istore (pc' := 69) (ls' := [some (.inr (.inr 0)), some (.inl (S 59 4)), some (.inl ((S 59 2) + (mins (S 26 (S 59 4)) (pop (S 60 (S 59 4))))))]) rfl rfl rfl rfl ?_
        refine r_iload (pc' := 70) rfl rfl rfl ?_
        refine r_aload (pc' := 71) rfl rfl rfl ?_
        refine r_getr (pc' := 74) (v := 25) rfl rfl rfl rfl rfl ?_
        refine r_getv (pc' := 77) (v := (S 25 13)) rfl rfl (Or.inl rfl) rfl rfl ?_
        have b12 : 0 ≤ S 25 13 ∧ S 25 13 ≤ 99 := hB 25 13
        by_cases h13 : (S 25 13) < ((S 59 2) + (mins (S 26 (S 59 4)) (pop (S 60 (S 59 4)))))
        · refine r_icmp_le0 (pc' := 80) rfl rfl (by omega) (by omega) ?_
          refine r_const (pc' := 82) rfl rfl ?_
          refine q_iret rfl rfl rfl ?_
          have ew : w_X10_read S = ((-4), S) := by unfold w_X10_read; rw [if_pos h3, if_neg h5, if_pos h8, if_pos h13]
          exact ⟨by rw [ew], by rw [ew], hB⟩
        · refine r_icmp_le1 (pc' := 83) rfl rfl (by omega) (by omega) ?_
          refine r_aload (pc' := 84) rfl rfl rfl ?_
          refine r_getr (pc' := 87) (v := 61) rfl rfl rfl rfl rfl ?_
          refine r_aload (pc' := 88) rfl rfl rfl ?_
          refine r_getr (pc' := 91) (v := 59) rfl rfl rfl rfl rfl ?_
          refine q_callE (pc' := 94) (w := none) (S2 := rem S) (st' := []) rfl rfl rfl (c_X4_remember  (S := S) hB ) (by decide) rfl rfl (Nat.le_of_ble_eq_true rfl) (fun _ _ => ⟨_, _, rfl, rfl⟩) rfl rfl ?_
          have hB14 : Bd (rem S) := Bd_rem hB
          refine r_aload (pc' := 95) rfl rfl rfl ?_
          refine r_getr (pc' := 98) (v := 59) rfl rfl rfl rfl rfl ?_
          refine r_iload (pc' := 99) rfl rfl rfl ?_
          refine r_put (pc' := 102) rfl rfl rfl rfl ?_
          refine r_aload (pc' := 103) rfl rfl rfl ?_
          refine r_getr (pc' := 106) (v := 59) rfl rfl rfl rfl rfl ?_
          refine r_dupr (pc' := 107) rfl rfl ?_
          refine r_getv (pc' := 110) (v := (S 59 1)) rfl rfl (Or.inl rfl) rfl ((up_ne (by omega)).trans (rem_o hB (by omega))) ?_
          refine r_const (pc' := 111) rfl rfl ?_
          refine r_iload (pc' := 112) rfl rfl rfl ?_
          refine r_ishl (pc' := 113) rfl rfl ?_
          have b15 := mx_shl_r 1 (S 59 4)
          have e16 := shl_u (k := (S 59 4)) 7 (by omega) (by omega)
          refine r_ior (pc' := 114) rfl rfl ?_
          have b17 := mx_or_r (S 59 1) (mx_shl 1 (S 59 4))
          have e18 := or_u (a := S 59 1) (b := mx_shl 1 (S 59 4)) 7 (by omega) (by omega) (by omega) (by omega) (by omega)
          refine r_put (pc' := 117) rfl rfl rfl rfl ?_
          refine r_aload (pc' := 118) rfl rfl rfl ?_
          refine r_getr (pc' := 121) (v := 59) rfl rfl rfl rfl rfl ?_
          refine r_getr (pc' := 124) (v := 60) rfl rfl rfl rfl rfl ?_
          refine r_iload (pc' := 125) rfl rfl rfl ?_
          refine r_aldv (pc' := 126) (v := (S 60 (S 59 4))) 7 rfl rfl rfl (by omega) ((up_ne (by omega)).trans ((up_ne (by omega)).trans (rem_o hB (by omega)))) ?_
          refine q_callE (pc' := 129) (w := some (.inl (pop (S 60 (S 59 4))))) (S2 := mx_up (mx_up (rem S) 59 2 ((S 59 2) + (mins (S 26 (S 59 4)) (pop (S 60 (S 59 4)))))) 59 1 (mx_or (S 59 1) (mx_shl 1 (S 59 4)))) (st' := [.inl (pop (S 60 (S 59 4)))]) rfl rfl rfl (c_J6_bitCount_0f7a4 (a := (S 60 (S 59 4))) (S := mx_up (mx_up (rem S) 59 2 ((S 59 2) + (mins (S 26 (S 59 4)) (pop (S 60 (S 59 4)))))) 59 1 (mx_or (S 59 1) (mx_shl 1 (S 59 4))))  (show 0 ≤ (S 60 (S 59 4)) ∧ (S 60 (S 59 4)) < 512 from by omega)) (by decide) rfl rfl (Nat.le_of_ble_eq_true rfl) (fun q => absurd rfl q) rfl rfl ?_
          have b19 : 0 ≤ (pop (S 60 (S 59 4))) ∧ (pop (S 60 (S 59 4))) ≤ 9 := pop_r _
          refine q_iret rfl rfl rfl ?_
          have ew : w_X10_read S = ((pop (S 60 (S 59 4))), mx_up (mx_up (rem S) 59 2 ((S 59 2) + (mins (S 26 (S 59 4)) (pop (S 60 (S 59 4)))))) 59 1 (mx_or (S 59 1) (mx_shl 1 (S 59 4)))) := by unfold w_X10_read; rw [if_pos h3, if_neg h5, if_pos h8, if_neg h13]
          exact ⟨by rw [ew], by rw [ew], (Bd_up (Bd_up hB14 (show (0 : Int) ≤ ((S 59 2) + (mins (S 26 (S 59 4)) (pop (S 60 (S 59 4))))) from by omega) (show ((S 59 2) + (mins (S 26 (S 59 4)) (pop (S 60 (S 59 4))))) ≤ (99 : Int) from by omega)) (show (0 : Int) ≤ (mx_or (S 59 1) (mx_shl 1 (S 59 4))) from by omega) (show (mx_or (S 59 1) (mx_shl 1 (S 59 4))) ≤ (127 : Int) from by omega))⟩
      · skip
        refine q_callE (pc' := 42) (w := some (.inl 0)) (S2 := S) (st' := [.inl 0]) rfl rfl rfl (bi_neg h8 (c_X7_canBeRead (f := (S 59 4)) (S := S) hB (show 0 ≤ (S 59 4) ∧ (S 59 4) < 7 from by omega))) (by decide) rfl rfl (Nat.le_of_ble_eq_true rfl) (fun _ _ => ⟨_, _, rfl, rfl⟩) rfl rfl ?_
        refine r_if_ne0 (pc' := 45) rfl rfl (by decide) (by decide) ?_
        refine r_const (pc' := 47) rfl rfl ?_
        refine q_iret rfl rfl rfl ?_
        have ew : w_X10_read S = ((-4), S) := by unfold w_X10_read; rw [if_pos h3, if_neg h5, if_neg h8]
        exact ⟨by rw [ew], by rw [ew], hB⟩
  · skip
    refine q_callE (pc' := 16) (w := some (.inl 0)) (S2 := S) (st' := [.inl 0]) rfl rfl rfl (bi_neg h3 (c_X3_hasField (f := (S 59 4)) (S := S) hB (show -2147483648 ≤ (S 59 4) ∧ (S 59 4) < 2147483648 from by omega))) (by decide) rfl rfl (Nat.le_of_ble_eq_true rfl) (fun _ _ => ⟨_, _, rfl, rfl⟩) rfl rfl ?_
    refine r_if_eq1 (pc' := 45) rfl rfl (by decide) (by decide) ?_
    refine r_const (pc' := 47) rfl rfl ?_
    refine q_iret rfl rfl rfl ?_
    have ew : w_X10_read S = ((-4), S) := by unfold w_X10_read; rw [if_neg h3]
    exact ⟨by rw [ew], by rw [ew], hB⟩
noncomputable def w_X10_rain (S : rS) (r : Int) : Int × rS := if r < 1 then ((-3), S) else if 9 < r then ((-3), S) else (((sm (fun kk => pop ((rem S) 60 kk)) ((rem S) 25 0)) - (sm (fun kk => pop ((mx_up (fl (rem S) 60 (fun kk => rnl (S 26 kk) (S 60 kk) r) (S 25 0)) 59 5 r) 60 kk)) ((mx_up (fl (rem S) 60 (fun kk => rnl (S 26 kk) (S 60 kk) r) (S 25 0)) 59 5 r) 25 0))), mx_up (fl (rem S) 60 (fun kk => rnl (S 26 kk) (S 60 kk) r) (S 25 0)) 59 5 r)
theorem c_X10_rain {r : Int} {S : rS} (hB : Bd S) (h_r : -2147483648 ≤ r ∧ r < 2147483648) : CS 3 43 [.inr (.inr 0), .inl r] S (fun r' S' => r' = some (.inl ((w_X10_rain S r).1)) ∧ S' = (w_X10_rain S r).2 ∧ Bd S') := by
  refine RS.beg (ls := [some (.inr (.inr 0)), some (.inl r), none, none]) rfl rfl rfl rfl rfl ?_
  have b0 : 0 ≤ S 25 0 ∧ S 25 0 ≤ 7 := hB 25 0
  refine r_iload (pc' := 1) rfl rfl rfl ?_
  refine r_const (pc' := 2) rfl rfl ?_
  by_cases h1 : r < 1
  · refine r_icmp_lt1 (pc' := 11) rfl rfl (by omega) (by omega) ?_
    refine r_const (pc' := 13) rfl rfl ?_
    refine q_iret rfl rfl rfl ?_
    have ew : w_X10_rain S r = ((-3), S) := by unfold w_X10_rain; rw [if_pos h1]
    exact ⟨by rw [ew], by rw [ew], hB⟩
  · refine r_icmp_lt0 (pc' := 5) rfl rfl (by omega) (by omega) ?_
    refine r_iload (pc' := 6) rfl rfl rfl ?_
    refine r_const (pc' := 8) rfl rfl ?_
    by_cases h2 : 9 < r
    · refine r_icmp_le0 (pc' := 11) rfl rfl (by omega) (by omega) ?_
      refine r_const (pc' := 13) rfl rfl ?_
      refine q_iret rfl rfl rfl ?_
      have ew : w_X10_rain S r = ((-3), S) := by unfold w_X10_rain; rw [if_neg h1, if_pos h2]
      exact ⟨by rw [ew], by rw [ew], hB⟩
    · refine r_icmp_le1 (pc' := 14) rfl rfl (by omega) (by omega) ?_
      refine r_aload (pc' := 15) rfl rfl rfl ?_
      refine r_getr (pc' := 18) (v := 61) rfl rfl rfl rfl rfl ?_
      refine r_aload (pc' := 19) rfl rfl rfl ?_
      refine r_getr (pc' := 22) (v := 59) rfl rfl rfl rfl rfl ?_
      refine q_callE (pc' := 25) (w := none) (S2 := rem S) (st' := []) rfl rfl rfl (c_X4_remember  (S := S) hB ) (by decide) rfl rfl (Nat.le_of_ble_eq_true rfl) (fun _ _ => ⟨_, _, rfl, rfl⟩) rfl rfl ?_
      have hB3 : Bd (rem S) := Bd_rem hB
      refine r_aload (pc' := 26) rfl rfl rfl ?_
      refine r_getr (pc' := 29) (v := 59) rfl rfl rfl rfl rfl ?_
      refine r_aload (pc' := 30) rfl rfl rfl ?_
      refine r_getr (pc' := 33) (v := 25) rfl rfl rfl rfl rfl ?_
      refine q_callE (pc' := 36) (w := some (.inl (sm (fun kk => pop ((rem S) 60 kk)) ((rem S) 25 0)))) (S2 := (rem S)) (st' := [.inl (sm (fun kk => pop ((rem S) 60 kk)) ((rem S) 25 0))]) rfl rfl rfl (c_X7_lettersLeft  (S := (rem S)) hB3 ) (by decide) rfl rfl (Nat.le_of_ble_eq_true rfl) (fun _ _ => ⟨_, _, rfl, rfl⟩) rfl rfl ?_
      have b4 : 0 ≤ (sm (fun kk => pop ((rem S) 60 kk)) ((rem S) 25 0)) ∧ (sm (fun kk => pop ((rem S) 60 kk)) ((rem S) 25 0)) ≤ 63 := sm63 hB3
      refine r_istore (pc' := 37) (ls' := [some (.inr (.inr 0)), some (.inl r), some (.inl (sm (fun kk => pop ((rem S) 60 kk)) ((rem S) 25 0))), none]) rfl rfl rfl rfl ?_
      refine r_const (pc' := 38) rfl rfl ?_
      refine r_istore (pc' := 39) (ls' := [some (.inr (.inr 0)), some (.inl r), some (.inl (sm (fun kk => pop ((rem S) 60 kk)) ((rem S) 25 0))), some (.inl 0)]) rfl rfl rfl rfl ?_
      refine r_mem (show (rem S) = fl (rem S) 60 (fun kk => rnl (S 26 kk) (S 60 kk) r) (0 : Int) from by exact fl_0 _ _ _) ?_
      refine r_while (α := Int) (fun z' => [some (.inr (.inr 0)), some (.inl r), some (.inl (sm (fun kk => pop ((rem S) 60 kk)) ((rem S) 25 0))), some (.inl z')]) (fun z' => fl (rem S) 60 (fun kk => rnl (S 26 kk) (S 60 kk) r) z') (fun z' => (0 ≤ z' ∧ z' ≤ S 25 0)) (fun z' => (S 25 0 - z').toNat) ?_ 0 (show (0 ≤ (0 : Int) ∧ (0 : Int) ≤ S 25 0) from by omega)
      rintro f hI' ih39
      have hI' : (0 ≤ f ∧ f ≤ S 25 0) := hI'
      have i1 := hI'
      show RS _ _ _ _ [some (.inr (.inr 0)), some (.inl r), some (.inl (sm (fun kk => pop ((rem S) 60 kk)) ((rem S) 25 0))), some (.inl f)] [] (fl (rem S) 60 (fun kk => rnl (S 26 kk) (S 60 kk) r) f)
      have b5 : 0 ≤ S 25 0 ∧ S 25 0 ≤ 7 := hB 25 0
      have hB6 : Bd (fl (rem S) 60 (fun kk => rnl (S 26 kk) (S 60 kk) r) f) := by exact Bd_fl (Bd_rem hB) (fun k _ _ => by have q : 0 ≤ S 60 k ∧ S 60 k ≤ 255 := hB 60 k; have q2 := rnl_r (k := S 26 k) (a := S 60 k) (r := r) (by omega); exact ⟨q2.1, Int.le_of_lt_add_one q2.2⟩)
      refine r_iload (pc' := 40) rfl rfl rfl ?_
      refine r_aload (pc' := 41) rfl rfl rfl ?_
      refine r_getr (pc' := 44) (v := 25) rfl rfl rfl rfl rfl ?_
      refine r_getv (pc' := 47) (v := (S 25 0)) rfl rfl (Or.inl rfl) rfl ((fl_o (by omega)).trans (rem_o hB (by omega))) ?_
      by_cases h7 : f < (S 25 0)
      · refine r_icmp_ge0 (pc' := 50) rfl rfl (by omega) (by omega) ?_
        refine r_aload (pc' := 51) rfl rfl rfl ?_
        refine r_getr (pc' := 54) (v := 59) rfl rfl rfl rfl rfl ?_
        refine r_getr (pc' := 57) (v := 60) rfl rfl rfl rfl rfl ?_
        refine r_iload (pc' := 58) rfl rfl rfl ?_
        refine r_aload (pc' := 59) rfl rfl rfl ?_
        refine r_getr (pc' := 62) (v := 25) rfl rfl rfl rfl rfl ?_
        refine r_getr (pc' := 65) (v := 26) rfl rfl rfl rfl rfl ?_
        refine r_iload (pc' := 66) rfl rfl rfl ?_
        refine r_aldv (pc' := 67) (v := (S 26 f)) 7 rfl rfl rfl (by omega) ((fl_o (by omega)).trans (rem_o hB (by omega))) ?_
        have b8 : 0 ≤ S 26 f ∧ S 26 f ≤ 3 := hB 26 f
        refine r_aload (pc' := 68) rfl rfl rfl ?_
        refine r_getr (pc' := 71) (v := 59) rfl rfl rfl rfl rfl ?_
        refine r_getr (pc' := 74) (v := 60) rfl rfl rfl rfl rfl ?_
        refine r_iload (pc' := 75) rfl rfl rfl ?_
        refine r_aldv (pc' := 76) (v := (S 60 f)) 7 rfl rfl rfl (by omega) ((fl_hi (by omega)).trans (rem_o hB (by omega))) ?_
        have b9 : 0 ≤ S 60 f ∧ S 60 f ≤ 255 := hB 60 f
        refine r_iload (pc' := 77) rfl rfl rfl ?_
        refine q_callE (pc' := 80) (w := some (.inl (rnl (S 26 f) (S 60 f) r))) (S2 := (fl (rem S) 60 (fun kk => rnl (S 26 kk) (S 60 kk) r) f)) (st' := [.inl (rnl (S 26 f) (S 60 f) r), .inl f, .inr (.inr 60)]) rfl rfl rfl (c_X1_leftBehindRain (k := (S 26 f)) (a := (S 60 f)) (r := r) (S := (fl (rem S) 60 (fun kk => rnl (S 26 kk) (S 60 kk) r) f))  (show -2147483648 ≤ (S 26 f) ∧ (S 26 f) < 2147483648 from by omega) (show 0 ≤ (S 60 f) ∧ (S 60 f) < 256 from by omega) (show 1 ≤ r ∧ r ≤ 9 from by omega)) (by decide) rfl rfl (Nat.le_of_ble_eq_true rfl) (fun q => absurd rfl q) rfl rfl ?_
        have b10 : 0 ≤ (rnl (S 26 f) (S 60 f) r) ∧ (rnl (S 26 f) (S 60 f) r) < 256 := rnl_r (by omega)
        refine r_ast (pc' := 81) 7 rfl rfl rfl (by omega) ?_
        refine r_iinc (pc' := 84) (ls' := [some (.inr (.inr 0)), some (.inl r), some (.inl (sm (fun kk => pop ((rem S) 60 kk)) ((rem S) 25 0))), some (.inl (f + 1))]) rfl rfl rfl rfl rfl ?_
        refine r_goto (pc' := 39) rfl rfl ?_
        refine r_mem (show mx_up (fl (rem S) 60 (fun kk => rnl (S 26 kk) (S 60 kk) r) f) 60 f (rnl (S 26 f) (S 60 f) r) = fl (rem S) 60 (fun kk => rnl (S 26 kk) (S 60 kk) r) (f + 1) from by exact fl_s (by omega) rfl) ?_
        exact ih39 (f + 1) (show (0 ≤ (f + 1) ∧ (f + 1) ≤ S 25 0) from by omega) (show (S 25 0 - (f + 1)).toNat < (S 25 0 - f).toNat from by omega)
      · refine r_icmp_ge1 (pc' := 87) rfl rfl (by omega) (by omega) ?_
        refine r_aload (pc' := 88) rfl rfl rfl ?_
        refine r_getr (pc' := 91) (v := 59) rfl rfl rfl rfl rfl ?_
        refine r_iload (pc' := 92) rfl rfl rfl ?_
        refine r_put (pc' := 95) rfl rfl rfl rfl ?_
        refine r_iload (pc' := 96) rfl rfl rfl ?_
        refine r_aload (pc' := 97) rfl rfl rfl ?_
        refine r_getr (pc' := 100) (v := 59) rfl rfl rfl rfl rfl ?_
        refine r_aload (pc' := 101) rfl rfl rfl ?_
        refine r_getr (pc' := 104) (v := 25) rfl rfl rfl rfl rfl ?_
        refine q_callE (pc' := 107) (w := some (.inl (sm (fun kk => pop ((mx_up (fl (rem S) 60 (fun kk => rnl (S 26 kk) (S 60 kk) r) f) 59 5 r) 60 kk)) ((mx_up (fl (rem S) 60 (fun kk => rnl (S 26 kk) (S 60 kk) r) f) 59 5 r) 25 0)))) (S2 := mx_up (fl (rem S) 60 (fun kk => rnl (S 26 kk) (S 60 kk) r) f) 59 5 r) (st' := [.inl (sm (fun kk => pop ((mx_up (fl (rem S) 60 (fun kk => rnl (S 26 kk) (S 60 kk) r) f) 59 5 r) 60 kk)) ((mx_up (fl (rem S) 60 (fun kk => rnl (S 26 kk) (S 60 kk) r) f) 59 5 r) 25 0)), .inl (sm (fun kk => pop ((rem S) 60 kk)) ((rem S) 25 0))]) rfl rfl rfl (c_X7_lettersLeft  (S := mx_up (fl (rem S) 60 (fun kk => rnl (S 26 kk) (S 60 kk) r) f) 59 5 r) (Bd_up hB6 (show (0 : Int) ≤ r from by omega) (show r ≤ (9 : Int) from by omega)) ) (by decide) rfl rfl (Nat.le_of_ble_eq_true rfl) (fun _ _ => ⟨_, _, rfl, rfl⟩) rfl rfl ?_
        have b11 : 0 ≤ (sm (fun kk => pop ((mx_up (fl (rem S) 60 (fun kk => rnl (S 26 kk) (S 60 kk) r) f) 59 5 r) 60 kk)) ((mx_up (fl (rem S) 60 (fun kk => rnl (S 26 kk) (S 60 kk) r) f) 59 5 r) 25 0)) ∧ (sm (fun kk => pop ((mx_up (fl (rem S) 60 (fun kk => rnl (S 26 kk) (S 60 kk) r) f) 59 5 r) 60 kk)) ((mx_up (fl (rem S) 60 (fun kk => rnl (S 26 kk) (S 60 kk) r) f) 59 5 r) 25 0)) ≤ 63 := sm63 (Bd_up hB6 (show (0 : Int) ≤ r from by omega) (show r ≤ (9 : Int) from by omega))
        refine r_isub (pc' := 108) rfl rfl ?_
        refine q_iret rfl rfl rfl ?_
        obtain rfl : f = S 25 0 := by omega
        have ew : w_X10_rain S r = (((sm (fun kk => pop ((rem S) 60 kk)) ((rem S) 25 0)) - (sm (fun kk => pop ((mx_up (fl (rem S) 60 (fun kk => rnl (S 26 kk) (S 60 kk) r) (S 25 0)) 59 5 r) 60 kk)) ((mx_up (fl (rem S) 60 (fun kk => rnl (S 26 kk) (S 60 kk) r) (S 25 0)) 59 5 r) 25 0))), mx_up (fl (rem S) 60 (fun kk => rnl (S 26 kk) (S 60 kk) r) (S 25 0)) 59 5 r) := by unfold w_X10_rain; rw [if_neg h1, if_neg h2]
        exact ⟨by rw [ew], by rw [ew], (Bd_up hB6 (show (0 : Int) ≤ r from by omega) (show r ≤ (9 : Int) from by omega))⟩
noncomputable def w_X10_birds (S : rS) : Int × rS := (((sm (fun kk => pop ((rem S) 60 kk)) ((rem S) 25 0)) - (sm (fun kk => pop ((fl (rem S) 60 (fun kk => mx_and (S 60 kk) (mx_xor (bpl S kk) (-1))) (S 25 0)) 60 kk)) ((fl (rem S) 60 (fun kk => mx_and (S 60 kk) (mx_xor (bpl S kk) (-1))) (S 25 0)) 25 0))), (fl (rem S) 60 (fun kk => mx_and (S 60 kk) (mx_xor (bpl S kk) (-1))) (S 25 0)))
theorem c_X10_birds {S : rS} (hB : Bd S) : CS 3 14 [.inr (.inr 0)] S (fun r' S' => r' = some (.inl ((w_X10_birds S).1)) ∧ S' = (w_X10_birds S).2 ∧ Bd S') := by
  refine RS.beg (ls := [some (.inr (.inr 0)), none, none]) rfl rfl rfl rfl rfl ?_
  have b0 : 0 ≤ S 25 0 ∧ S 25 0 ≤ 7 := hB 25 0
  refine r_aload (pc' := 1) rfl rfl rfl ?_
  refine r_getr (pc' := 4) (v := 61) rfl rfl rfl rfl rfl ?_
  refine r_aload (pc' := 5) rfl rfl rfl ?_
  refine r_getr (pc' := 8) (v := 59) rfl rfl rfl rfl rfl ?_
  refine q_callE (pc' := 11) (w := none) (S2 := rem S) (st' := []) rfl rfl rfl (c_X4_remember  (S := S) hB ) (by decide) rfl rfl (Nat.le_of_ble_eq_true rfl) (fun _ _ => ⟨_, _, rfl, rfl⟩) rfl rfl ?_
  have hB1 : Bd (rem S) := Bd_rem hB
  refine r_aload (pc' := 12) rfl rfl rfl ?_
  refine r_getr (pc' := 15) (v := 59) rfl rfl rfl rfl rfl ?_
  refine r_aload (pc' := 16) rfl rfl rfl ?_
  refine r_getr (pc' := 19) (v := 25) rfl rfl rfl rfl rfl ?_
  refine q_callE (pc' := 22) (w := some (.inl (sm (fun kk => pop ((rem S) 60 kk)) ((rem S) 25 0)))) (S2 := (rem S)) (st' := [.inl (sm (fun kk => pop ((rem S) 60 kk)) ((rem S) 25 0))]) rfl rfl rfl (c_X7_lettersLeft  (S := (rem S)) hB1 ) (by decide) rfl rfl (Nat.le_of_ble_eq_true rfl) (fun _ _ => ⟨_, _, rfl, rfl⟩) rfl rfl ?_
  have b2 : 0 ≤ (sm (fun kk => pop ((rem S) 60 kk)) ((rem S) 25 0)) ∧ (sm (fun kk => pop ((rem S) 60 kk)) ((rem S) 25 0)) ≤ 63 := sm63 hB1
  refine r_istore (pc' := 23) (ls' := [some (.inr (.inr 0)), some (.inl (sm (fun kk => pop ((rem S) 60 kk)) ((rem S) 25 0))), none]) rfl rfl rfl rfl ?_
  refine r_const (pc' := 24) rfl rfl ?_
  refine r_istore (pc' := 25) (ls' := [some (.inr (.inr 0)), some (.inl (sm (fun kk => pop ((rem S) 60 kk)) ((rem S) 25 0))), some (.inl 0)]) rfl rfl rfl rfl ?_
  refine r_mem (show (rem S) = fl (rem S) 60 (fun kk => mx_and (S 60 kk) (mx_xor (bpl S kk) (-1))) (0 : Int) from by exact fl_0 _ _ _) ?_
  refine r_while (α := Int) (fun z' => [some (.inr (.inr 0)), some (.inl (sm (fun kk => pop ((rem S) 60 kk)) ((rem S) 25 0))), some (.inl z')]) (fun z' => fl (rem S) 60 (fun kk => mx_and (S 60 kk) (mx_xor (bpl S kk) (-1))) z') (fun z' => (0 ≤ z' ∧ z' ≤ S 25 0)) (fun z' => (S 25 0 - z').toNat) ?_ 0 (show (0 ≤ (0 : Int) ∧ (0 : Int) ≤ S 25 0) from by omega)
  rintro f hI' ih25
  have hI' : (0 ≤ f ∧ f ≤ S 25 0) := hI'
  have i1 := hI'
  show RS _ _ _ _ [some (.inr (.inr 0)), some (.inl (sm (fun kk => pop ((rem S) 60 kk)) ((rem S) 25 0))), some (.inl f)] [] (fl (rem S) 60 (fun kk => mx_and (S 60 kk) (mx_xor (bpl S kk) (-1))) f)
  have b3 : 0 ≤ S 25 0 ∧ S 25 0 ≤ 7 := hB 25 0
  have hB4 : Bd (fl (rem S) 60 (fun kk => mx_and (S 60 kk) (mx_xor (bpl S kk) (-1))) f) := by exact Bd_fl (Bd_rem hB) (fun k _ _ => by have q : 0 ≤ S 60 k ∧ S 60 k ≤ 255 := hB 60 k; have q2 := and_u (a := S 60 k) (b := mx_xor (bpl S k) (-1)) 8 (by omega) (by omega) (by omega); exact ⟨q2.1, Int.le_of_lt_add_one q2.2⟩)
  refine r_iload (pc' := 26) rfl rfl rfl ?_
  refine r_aload (pc' := 27) rfl rfl rfl ?_
  refine r_getr (pc' := 30) (v := 25) rfl rfl rfl rfl rfl ?_
  refine r_getv (pc' := 33) (v := (S 25 0)) rfl rfl (Or.inl rfl) rfl ((fl_o (by omega)).trans (rem_o hB (by omega))) ?_
  by_cases h5 : f < (S 25 0)
  · refine r_icmp_ge0 (pc' := 36) rfl rfl (by omega) (by omega) ?_
    refine r_aload (pc' := 37) rfl rfl rfl ?_
    refine r_getr (pc' := 40) (v := 59) rfl rfl rfl rfl rfl ?_
    refine r_getr (pc' := 43) (v := 60) rfl rfl rfl rfl rfl ?_
    refine r_iload (pc' := 44) rfl rfl rfl ?_
    refine r_dup2 (pc' := 45) rfl rfl ?_
    refine r_aldv (pc' := 46) (v := (S 60 f)) 7 rfl rfl rfl (by omega) ((fl_hi (by omega)).trans (rem_o hB (by omega))) ?_
    have b6 : 0 ≤ S 60 f ∧ S 60 f ≤ 255 := hB 60 f
    refine r_aload (pc' := 47) rfl rfl rfl ?_
    refine r_iload (pc' := 48) rfl rfl rfl ?_
    refine q_callE (pc' := 51) (w := some (.inl (bs (fun kk => btake ((fl (rem S) 60 (fun kk => mx_and (S 60 kk) (mx_xor (bpl S kk) (-1))) f) 26 f) ((fl (rem S) 60 (fun kk => mx_and (S 60 kk) (mx_xor (bpl S kk) (-1))) f) (31 + f) kk)) ((fl (rem S) 60 (fun kk => mx_and (S 60 kk) (mx_xor (bpl S kk) (-1))) f) 29 f)))) (S2 := (fl (rem S) 60 (fun kk => mx_and (S 60 kk) (mx_xor (bpl S kk) (-1))) f)) (st' := [.inl (bs (fun kk => btake ((fl (rem S) 60 (fun kk => mx_and (S 60 kk) (mx_xor (bpl S kk) (-1))) f) 26 f) ((fl (rem S) 60 (fun kk => mx_and (S 60 kk) (mx_xor (bpl S kk) (-1))) f) (31 + f) kk)) ((fl (rem S) 60 (fun kk => mx_and (S 60 kk) (mx_xor (bpl S kk) (-1))) f) 29 f)), .inl (S 60 f), .inl f, .inr (.inr 60)]) rfl rfl rfl (c_X10_birdPlaces (f := f) (S := (fl (rem S) 60 (fun kk => mx_and (S 60 kk) (mx_xor (bpl S kk) (-1))) f)) hB4 (show 0 ≤ f ∧ f < 7 from by omega)) (by decide) rfl rfl (Nat.le_of_ble_eq_true rfl) (fun _ _ => ⟨_, _, rfl, rfl⟩) rfl rfl ?_
    have b7 : 0 ≤ (bs (fun kk => btake ((fl (rem S) 60 (fun kk => mx_and (S 60 kk) (mx_xor (bpl S kk) (-1))) f) 26 f) ((fl (rem S) 60 (fun kk => mx_and (S 60 kk) (mx_xor (bpl S kk) (-1))) f) (31 + f) kk)) ((fl (rem S) 60 (fun kk => mx_and (S 60 kk) (mx_xor (bpl S kk) (-1))) f) 29 f)) ∧ (bs (fun kk => btake ((fl (rem S) 60 (fun kk => mx_and (S 60 kk) (mx_xor (bpl S kk) (-1))) f) 26 f) ((fl (rem S) 60 (fun kk => mx_and (S 60 kk) (mx_xor (bpl S kk) (-1))) f) (31 + f) kk)) ((fl (rem S) 60 (fun kk => mx_and (S 60 kk) (mx_xor (bpl S kk) (-1))) f) 29 f)) < 256 := bs8 (hB4 29 f)
    refine r_const (pc' := 52) rfl rfl ?_
    refine r_ixor (pc' := 53) rfl rfl ?_
    have b8 := mx_xor_r (bs (fun kk => btake ((fl (rem S) 60 (fun kk => mx_and (S 60 kk) (mx_xor (bpl S kk) (-1))) f) 26 f) ((fl (rem S) 60 (fun kk => mx_and (S 60 kk) (mx_xor (bpl S kk) (-1))) f) (31 + f) kk)) ((fl (rem S) 60 (fun kk => mx_and (S 60 kk) (mx_xor (bpl S kk) (-1))) f) 29 f)) (-1)
    refine r_iand (pc' := 54) rfl rfl ?_
    have b9 := mx_and_r (S 60 f) (mx_xor (bs (fun kk => btake ((fl (rem S) 60 (fun kk => mx_and (S 60 kk) (mx_xor (bpl S kk) (-1))) f) 26 f) ((fl (rem S) 60 (fun kk => mx_and (S 60 kk) (mx_xor (bpl S kk) (-1))) f) (31 + f) kk)) ((fl (rem S) 60 (fun kk => mx_and (S 60 kk) (mx_xor (bpl S kk) (-1))) f) 29 f)) (-1))
    refine r_ast (pc' := 55) 7 rfl rfl rfl (by omega) ?_
    refine r_iinc (pc' := 58) (ls' := [some (.inr (.inr 0)), some (.inl (sm (fun kk => pop ((rem S) 60 kk)) ((rem S) 25 0))), some (.inl (f + 1))]) rfl rfl rfl rfl rfl ?_
    refine r_goto (pc' := 25) rfl rfl ?_
    refine r_mem (show mx_up (fl (rem S) 60 (fun kk => mx_and (S 60 kk) (mx_xor (bpl S kk) (-1))) f) 60 f (mx_and (S 60 f) (mx_xor (bs (fun kk => btake ((fl (rem S) 60 (fun kk => mx_and (S 60 kk) (mx_xor (bpl S kk) (-1))) f) 26 f) ((fl (rem S) 60 (fun kk => mx_and (S 60 kk) (mx_xor (bpl S kk) (-1))) f) (31 + f) kk)) ((fl (rem S) 60 (fun kk => mx_and (S 60 kk) (mx_xor (bpl S kk) (-1))) f) 29 f)) (-1))) = fl (rem S) 60 (fun kk => mx_and (S 60 kk) (mx_xor (bpl S kk) (-1))) (f + 1) from by refine fl_s (by omega) (congrArg (fun z => mx_and (S 60 f) (mx_xor z (-1))) ?_); exact bpl_cg (S' := fl (rem S) 60 (fun kk => mx_and (S 60 kk) (mx_xor (bpl S kk) (-1))) f) (by omega) (fun a j h => (fl_o (by omega)).trans (rem_o hB (by omega)))) ?_
    exact ih25 (f + 1) (show (0 ≤ (f + 1) ∧ (f + 1) ≤ S 25 0) from by omega) (show (S 25 0 - (f + 1)).toNat < (S 25 0 - f).toNat from by omega)
  · refine r_icmp_ge1 (pc' := 61) rfl rfl (by omega) (by omega) ?_
    refine r_iload (pc' := 62) rfl rfl rfl ?_
    refine r_aload (pc' := 63) rfl rfl rfl ?_
    refine r_getr (pc' := 66) (v := 59) rfl rfl rfl rfl rfl ?_
    refine r_aload (pc' := 67) rfl rfl rfl ?_
    refine r_getr (pc' := 70) (v := 25) rfl rfl rfl rfl rfl ?_
    refine q_callE (pc' := 73) (w := some (.inl (sm (fun kk => pop ((fl (rem S) 60 (fun kk => mx_and (S 60 kk) (mx_xor (bpl S kk) (-1))) f) 60 kk)) ((fl (rem S) 60 (fun kk => mx_and (S 60 kk) (mx_xor (bpl S kk) (-1))) f) 25 0)))) (S2 := (fl (rem S) 60 (fun kk => mx_and (S 60 kk) (mx_xor (bpl S kk) (-1))) f)) (st' := [.inl (sm (fun kk => pop ((fl (rem S) 60 (fun kk => mx_and (S 60 kk) (mx_xor (bpl S kk) (-1))) f) 60 kk)) ((fl (rem S) 60 (fun kk => mx_and (S 60 kk) (mx_xor (bpl S kk) (-1))) f) 25 0)), .inl (sm (fun kk => pop ((rem S) 60 kk)) ((rem S) 25 0))]) rfl rfl rfl (c_X7_lettersLeft  (S := (fl (rem S) 60 (fun kk => mx_and (S 60 kk) (mx_xor (bpl S kk) (-1))) f)) hB4 ) (by decide) rfl rfl (Nat.le_of_ble_eq_true rfl) (fun _ _ => ⟨_, _, rfl, rfl⟩) rfl rfl ?_
    have b10 : 0 ≤ (sm (fun kk => pop ((fl (rem S) 60 (fun kk => mx_and (S 60 kk) (mx_xor (bpl S kk) (-1))) f) 60 kk)) ((fl (rem S) 60 (fun kk => mx_and (S 60 kk) (mx_xor (bpl S kk) (-1))) f) 25 0)) ∧ (sm (fun kk => pop ((fl (rem S) 60 (fun kk => mx_and (S 60 kk) (mx_xor (bpl S kk) (-1))) f) 60 kk)) ((fl (rem S) 60 (fun kk => mx_and (S 60 kk) (mx_xor (bpl S kk) (-1))) f) 25 0)) ≤ 63 := sm63 hB4
    refine r_isub (pc' := 74) rfl rfl ?_
    refine q_iret rfl rfl rfl ?_
    obtain rfl : f = S 25 0 := by omega
    have ew : w_X10_birds S = (((sm (fun kk => pop ((rem S) 60 kk)) ((rem S) 25 0)) - (sm (fun kk => pop ((fl (rem S) 60 (fun kk => mx_and (S 60 kk) (mx_xor (bpl S kk) (-1))) (S 25 0)) 60 kk)) ((fl (rem S) 60 (fun kk => mx_and (S 60 kk) (mx_xor (bpl S kk) (-1))) (S 25 0)) 25 0))), (fl (rem S) 60 (fun kk => mx_and (S 60 kk) (mx_xor (bpl S kk) (-1))) (S 25 0))) := by unfold w_X10_birds; rfl
    exact ⟨by rw [ew], by rw [ew], hB4⟩
noncomputable def w_X10_plough (S : rS) (f : Int) : Int × rS := if 0 ≤ f ∧ f < S 25 0 then if (S 60 f) = 0 then ((-4), S) else ((pop (S 60 f)), mx_up (rem S) 60 f 0) else ((-2), S)
theorem c_X10_plough {f : Int} {S : rS} (hB : Bd S) (h_f : -2147483648 ≤ f ∧ f < 2147483648) : CS 3 42 [.inr (.inr 0), .inl f] S (fun r' S' => r' = some (.inl ((w_X10_plough S f).1)) ∧ S' = (w_X10_plough S f).2 ∧ Bd S') := by
  refine RS.beg (ls := [some (.inr (.inr 0)), some (.inl f), none]) rfl rfl rfl rfl rfl ?_
  have b0 : 0 ≤ S 25 0 ∧ S 25 0 ≤ 7 := hB 25 0
  refine r_aload (pc' := 1) rfl rfl rfl ?_
  refine r_getr (pc' := 4) (v := 25) rfl rfl rfl rfl rfl ?_
  refine r_iload (pc' := 5) rfl rfl rfl ?_
  have b1 : 0 ≤ S 25 0 ∧ S 25 0 ≤ 7 := hB 25 0
  by_cases h2 : 0 ≤ f ∧ f < S 25 0
  · skip
    refine q_callE (pc' := 8) (w := some (.inl 1)) (S2 := S) (st' := [.inl 1]) rfl rfl rfl (bi_pos h2 (c_X3_hasField (f := f) (S := S) hB (show -2147483648 ≤ f ∧ f < 2147483648 from by omega))) (by decide) rfl rfl (Nat.le_of_ble_eq_true rfl) (fun _ _ => ⟨_, _, rfl, rfl⟩) rfl rfl ?_
    refine r_if_ne1 (pc' := 14) rfl rfl (by decide) (by decide) ?_
    refine r_aload (pc' := 15) rfl rfl rfl ?_
    refine r_getr (pc' := 18) (v := 59) rfl rfl rfl rfl rfl ?_
    refine r_getr (pc' := 21) (v := 60) rfl rfl rfl rfl rfl ?_
    refine r_iload (pc' := 22) rfl rfl rfl ?_
    refine r_aldv (pc' := 23) (v := (S 60 f)) 7 rfl rfl rfl (by omega) rfl ?_
    have b3 : 0 ≤ S 60 f ∧ S 60 f ≤ 255 := hB 60 f
    by_cases h4 : (S 60 f) = 0
    · refine r_if_ne0 (pc' := 26) rfl rfl (by omega) (by omega) ?_
      refine r_const (pc' := 28) rfl rfl ?_
      refine q_iret rfl rfl rfl ?_
      have ew : w_X10_plough S f = ((-4), S) := by unfold w_X10_plough; rw [if_pos h2, if_pos h4]
      exact ⟨by rw [ew], by rw [ew], hB⟩
    · refine r_if_ne1 (pc' := 29) rfl rfl (by omega) (by omega) ?_
      refine r_aload (pc' := 30) rfl rfl rfl ?_
      refine r_getr (pc' := 33) (v := 61) rfl rfl rfl rfl rfl ?_
      refine r_aload (pc' := 34) rfl rfl rfl ?_
      refine r_getr (pc' := 37) (v := 59) rfl rfl rfl rfl rfl ?_
      refine q_callE (pc' := 40) (w := none) (S2 := rem S) (st' := []) rfl rfl rfl (c_X4_remember  (S := S) hB ) (by decide) rfl rfl (Nat.le_of_ble_eq_true rfl) (fun _ _ => ⟨_, _, rfl, rfl⟩) rfl rfl ?_
      have hB5 : Bd (rem S) := Bd_rem hB
      refine r_aload (pc' := 41) rfl rfl rfl ?_
      refine r_getr (pc' := 44) (v := 59) rfl rfl rfl rfl rfl ?_
      refine r_getr (pc' := 47) (v := 60) rfl rfl rfl rfl rfl ?_
      refine r_iload (pc' := 48) rfl rfl rfl ?_
      refine r_aldv (pc' := 49) (v := (S 60 f)) 7 rfl rfl rfl (by omega) (rem_o hB (by omega)) ?_
      refine q_callE (pc' := 52) (w := some (.inl (pop (S 60 f)))) (S2 := (rem S)) (st' := [.inl (pop (S 60 f))]) rfl rfl rfl (c_J6_bitCount_0f7a4 (a := (S 60 f)) (S := (rem S))  (show 0 ≤ (S 60 f) ∧ (S 60 f) < 512 from by omega)) (by decide) rfl rfl (Nat.le_of_ble_eq_true rfl) (fun q => absurd rfl q) rfl rfl ?_
      have b6 : 0 ≤ (pop (S 60 f)) ∧ (pop (S 60 f)) ≤ 9 := pop_r _
      refine r_istore (pc' := 53) (ls' := [some (.inr (.inr 0)), some (.inl f), some (.inl (pop (S 60 f)))]) rfl rfl rfl rfl ?_
      refine r_aload (pc' := 54) rfl rfl rfl ?_
      refine r_getr (pc' := 57) (v := 59) rfl rfl rfl rfl rfl ?_
      refine r_getr (pc' := 60) (v := 60) rfl rfl rfl rfl rfl ?_
      refine r_iload (pc' := 61) rfl rfl rfl ?_
      refine r_const (pc' := 62) rfl rfl ?_
      refine r_ast (pc' := 63) 7 rfl rfl rfl (by omega) ?_
      refine r_iload (pc' := 64) rfl rfl rfl ?_
      refine q_iret rfl rfl rfl ?_
      have ew : w_X10_plough S f = ((pop (S 60 f)), mx_up (rem S) 60 f 0) := by unfold w_X10_plough; rw [if_pos h2, if_neg h4]
      exact ⟨by rw [ew], by rw [ew], (Bd_up hB5 (show (0 : Int) ≤ 0 from by omega) (show 0 ≤ (255 : Int) from by omega))⟩
  · skip
    refine q_callE (pc' := 8) (w := some (.inl 0)) (S2 := S) (st' := [.inl 0]) rfl rfl rfl (bi_neg h2 (c_X3_hasField (f := f) (S := S) hB (show -2147483648 ≤ f ∧ f < 2147483648 from by omega))) (by decide) rfl rfl (Nat.le_of_ble_eq_true rfl) (fun _ _ => ⟨_, _, rfl, rfl⟩) rfl rfl ?_
    refine r_if_ne0 (pc' := 11) rfl rfl (by decide) (by decide) ?_
    refine r_const (pc' := 13) rfl rfl ?_
    refine q_iret rfl rfl rfl ?_
    have ew : w_X10_plough S f = ((-2), S) := by unfold w_X10_plough; rw [if_neg h2]
    exact ⟨by rw [ew], by rw [ew], hB⟩
noncomputable def w_X10_day (S : rS) : Int × rS := if (S 59 3) < 999 then ((pop (S 59 1)), mx_up (mx_up (mx_up (mx_up (rem S) 59 1 0) 59 2 0) 59 5 0) 59 3 ((S 59 3) + 1)) else ((-5), S)
theorem c_X10_day {S : rS} (hB : Bd S) : CS 3 18 [.inr (.inr 0)] S (fun r' S' => r' = some (.inl ((w_X10_day S).1)) ∧ S' = (w_X10_day S).2 ∧ Bd S') := by
  refine RS.beg (ls := [some (.inr (.inr 0)), none]) rfl rfl rfl rfl rfl ?_
  have b594 : 0 ≤ S 59 4 ∧ S 59 4 ≤ 6 := hB 59 4
  have b591 : 0 ≤ S 59 1 ∧ S 59 1 ≤ 127 := hB 59 1
  have b592 : 0 ≤ S 59 2 ∧ S 59 2 ≤ 99 := hB 59 2
  have b593 : 0 ≤ S 59 3 ∧ S 59 3 ≤ 999 := hB 59 3
  have b1 : 0 ≤ S 25 13 ∧ S 25 13 ≤ 99 := hB 25 13
  refine r_aload (pc' := 1) rfl rfl rfl ?_
  refine r_getr (pc' := 4) (v := 59) rfl rfl rfl rfl rfl ?_
  refine r_getv (pc' := 7) (v := (S 59 3)) rfl rfl (Or.inl rfl) rfl rfl ?_
  have b1 : 0 ≤ S 59 3 ∧ S 59 3 ≤ 999 := hB 59 3
  refine r_const (pc' := 10) rfl rfl ?_
  by_cases h2 : (S 59 3) < 999
  · refine r_icmp_lt1 (pc' := 16) rfl rfl (by omega) (by omega) ?_
    refine r_aload (pc' := 17) rfl rfl rfl ?_
    refine r_getr (pc' := 20) (v := 61) rfl rfl rfl rfl rfl ?_
    refine r_aload (pc' := 21) rfl rfl rfl ?_
    refine r_getr (pc' := 24) (v := 59) rfl rfl rfl rfl rfl ?_
    refine q_callE (pc' := 27) (w := none) (S2 := rem S) (st' := []) rfl rfl rfl (c_X4_remember  (S := S) hB ) (by decide) rfl rfl (Nat.le_of_ble_eq_true rfl) (fun _ _ => ⟨_, _, rfl, rfl⟩) rfl rfl ?_
    have hB3 : Bd (rem S) := Bd_rem hB
    refine r_aload (pc' := 28) rfl rfl rfl ?_
    refine r_getr (pc' := 31) (v := 59) rfl rfl rfl rfl rfl ?_
    refine r_getv (pc' := 34) (v := (S 59 1)) rfl rfl (Or.inl rfl) rfl (rem_o hB (by omega)) ?_
    have b4 : 0 ≤ S 59 1 ∧ S 59 1 ≤ 127 := hB 59 1
    refine q_callE (pc' := 37) (w := some (.inl (pop (S 59 1)))) (S2 := (rem S)) (st' := [.inl (pop (S 59 1))]) rfl rfl rfl (c_J6_bitCount_0f7a4 (a := (S 59 1)) (S := (rem S))  (show 0 ≤ (S 59 1) ∧ (S 59 1) < 512 from by omega)) (by decide) rfl rfl (Nat.le_of_ble_eq_true rfl) (fun q => absurd rfl q) rfl rfl ?_
    have b5 : 0 ≤ (pop (S 59 1)) ∧ (pop (S 59 1)) ≤ 9 := pop_r _
    refine r_istore (pc' := 38) (ls' := [some (.inr (.inr 0)), some (.inl (pop (S 59 1)))]) rfl rfl rfl rfl ?_
    refine r_aload (pc' := 39) rfl rfl rfl ?_
    refine r_getr (pc' := 42) (v := 59) rfl rfl rfl rfl rfl ?_
    refine r_const (pc' := 43) rfl rfl ?_
    refine r_put (pc' := 46) rfl rfl rfl rfl ?_
    refine r_aload (pc' := 47) rfl rfl rfl ?_
    refine r_getr (pc' := 50) (v := 59) rfl rfl rfl rfl rfl ?_
    refine r_const (pc' := 51) rfl rfl ?_
    refine r_put (pc' := 54) rfl rfl rfl rfl ?_
    refine r_aload (pc' := 55) rfl rfl rfl ?_
    refine r_getr (pc' := 58) (v := 59) rfl rfl rfl rfl rfl ?_
    refine r_const (pc' := 59) rfl rfl ?_
    refine r_put (pc' := 62) rfl rfl rfl rfl ?_
    refine r_aload (pc' := 63) rfl rfl rfl ?_
    refine r_getr (pc' := 66) (v := 59) rfl rfl rfl rfl rfl ?_
    refine r_dupr (pc' := 67) rfl rfl ?_
    refine r_getv (pc' := 70) (v := (S 59 3)) rfl rfl (Or.inl rfl) rfl ((up_ne (by omega)).trans ((up_ne (by omega)).trans ((up_ne (by omega)).trans (rem_o hB (by omega))))) ?_
    refine r_const (pc' := 71) rfl rfl ?_
    refine r_iadd (pc' := 72) rfl rfl ?_
    refine r_put (pc' := 75) rfl rfl rfl rfl ?_
    refine r_iload (pc' := 76) rfl rfl rfl ?_
    refine q_iret rfl rfl rfl ?_
    have ew : w_X10_day S = ((pop (S 59 1)), mx_up (mx_up (mx_up (mx_up (rem S) 59 1 0) 59 2 0) 59 5 0) 59 3 ((S 59 3) + 1)) := by unfold w_X10_day; rw [if_pos h2]
    exact ⟨by rw [ew], by rw [ew], (Bd_up (Bd_up (Bd_up (Bd_up hB3 (show (0 : Int) ≤ 0 from by omega) (show 0 ≤ (127 : Int) from by omega)) (show (0 : Int) ≤ 0 from by omega) (show 0 ≤ (99 : Int) from by omega)) (show (0 : Int) ≤ 0 from by omega) (show 0 ≤ (9 : Int) from by omega)) (show (0 : Int) ≤ ((S 59 3) + 1) from by omega) (show ((S 59 3) + 1) ≤ (999 : Int) from by omega))⟩
  · refine r_icmp_lt0 (pc' := 13) rfl rfl (by omega) (by omega) ?_
    refine r_const (pc' := 15) rfl rfl ?_
    refine q_iret rfl rfl rfl ?_
    have ew : w_X10_day S = ((-5), S) := by unfold w_X10_day; rw [if_neg h2]
    exact ⟨by rw [ew], by rw [ew], hB⟩
noncomputable def w_X10_undo (S : rS) : Int × rS := if (S 61 0) = 0 then ((-4), S) else ((S 61 0 - 1), (rst S))
theorem c_X10_undo {S : rS} (hB : Bd S) : CS 3 49 [.inr (.inr 0)] S (fun r' S' => r' = some (.inl ((w_X10_undo S).1)) ∧ S' = (w_X10_undo S).2 ∧ Bd S') := by
  refine RS.beg (ls := [some (.inr (.inr 0))]) rfl rfl rfl rfl rfl ?_
  have b61 : 0 ≤ S 61 0 ∧ S 61 0 ≤ 8 := hB 61 0
  refine r_aload (pc' := 1) rfl rfl rfl ?_
  refine r_getr (pc' := 4) (v := 61) rfl rfl rfl rfl rfl ?_
  refine r_getv (pc' := 7) (v := (S 61 0)) rfl rfl (Or.inl rfl) rfl rfl ?_
  have b1 : 0 ≤ S 61 0 ∧ S 61 0 ≤ 8 := hB 61 0
  by_cases h2 : (S 61 0) = 0
  · refine r_if_ne0 (pc' := 10) rfl rfl (by omega) (by omega) ?_
    refine r_const (pc' := 12) rfl rfl ?_
    refine q_iret rfl rfl rfl ?_
    have ew : w_X10_undo S = ((-4), S) := by unfold w_X10_undo; rw [if_pos h2]
    exact ⟨by rw [ew], by rw [ew], hB⟩
  · refine r_if_ne1 (pc' := 13) rfl rfl (by omega) (by omega) ?_
    refine r_aload (pc' := 14) rfl rfl rfl ?_
    refine r_getr (pc' := 17) (v := 61) rfl rfl rfl rfl rfl ?_
    refine r_aload (pc' := 18) rfl rfl rfl ?_
    refine r_getr (pc' := 21) (v := 59) rfl rfl rfl rfl rfl ?_
    refine q_callE (pc' := 24) (w := none) (S2 := rst S) (st' := []) rfl rfl rfl (c_X4_restore  (S := S) hB (show 1 ≤ S 61 0 from by omega)) (by decide) rfl rfl (Nat.le_of_ble_eq_true rfl) (fun _ _ => ⟨_, _, rfl, rfl⟩) rfl rfl ?_
    have hB3 : Bd (rst S) := Bd_rst hB (by omega)
    refine r_aload (pc' := 25) rfl rfl rfl ?_
    refine r_getr (pc' := 28) (v := 61) rfl rfl rfl rfl rfl ?_
    refine r_getv (pc' := 31) (v := (S 61 0 - 1)) rfl rfl (Or.inl rfl) rfl (by first | rfl | exact (tks_o (by omega)).trans up_eq) ?_
    refine q_iret rfl rfl rfl ?_
    have ew : w_X10_undo S = ((S 61 0 - 1), (rst S)) := by unfold w_X10_undo; rw [if_neg h2]
    exact ⟨by rw [ew], by rw [ew], hB3⟩
noncomputable def w_X10_keep (S : rS) (k : Int) : Int × rS := if k < 0 then ((-2), S) else if k < 2 then ((S 59 3), mx_up (tks S (220 + 2 * k) (59)) 80 k 1) else ((-2), S)
theorem c_X10_keep {k : Int} {S : rS} (hB : Bd S) (h_k : -2147483648 ≤ k ∧ k < 2147483648) : CS 2 32 [.inr (.inr 0), .inl k] S (fun r' S' => r' = some (.inl ((w_X10_keep S k).1)) ∧ S' = (w_X10_keep S k).2 ∧ Bd S') := by
  refine RS.beg (ls := [some (.inr (.inr 0)), some (.inl k)]) rfl rfl rfl rfl rfl ?_
  refine r_iload (pc' := 1) rfl rfl rfl ?_
  by_cases h1 : k < 0
  · refine r_if_lt1 (pc' := 9) rfl rfl (by omega) (by omega) ?_
    refine r_const (pc' := 11) rfl rfl ?_
    refine q_iret rfl rfl rfl ?_
    have ew : w_X10_keep S k = ((-2), S) := by unfold w_X10_keep; rw [if_pos h1]
    exact ⟨by rw [ew], by rw [ew], hB⟩
  · refine r_if_lt0 (pc' := 4) rfl rfl (by omega) (by omega) ?_
    refine r_iload (pc' := 5) rfl rfl rfl ?_
    refine r_const (pc' := 6) rfl rfl ?_
    by_cases h2 : k < 2
    · refine r_icmp_lt1 (pc' := 12) rfl rfl (by omega) (by omega) ?_
      refine r_aload (pc' := 13) rfl rfl rfl ?_
      refine r_getr (pc' := 16) (v := 79) rfl rfl rfl rfl rfl ?_
      refine r_iload (pc' := 17) rfl rfl rfl ?_
      refine r_aald (pc' := 18) (v := (220 + 2 * k)) 103002 rfl rfl rfl rfl (by omega) rfl ?_
      refine r_aload (pc' := 19) rfl rfl rfl ?_
      refine r_getr (pc' := 22) (v := 59) rfl rfl rfl rfl rfl ?_
      refine q_callE (pc' := 25) (w := none) (S2 := tks S (220 + 2 * k) (59)) (st' := []) rfl rfl rfl (c_X7_takeFrom_kn (i := k) (S := S) hB (show 0 ≤ k ∧ k < 2 from by omega)) (by decide) rfl rfl (Nat.le_of_ble_eq_true rfl) (fun _ _ => ⟨_, _, rfl, (sho_220 (by omega))⟩) rfl rfl ?_
      have hB3 : Bd (tks S (220 + 2 * k) (59)) := Bd_tks hB (bds_220 (by omega)) bds_59
      refine r_aload (pc' := 26) rfl rfl rfl ?_
      refine r_getr (pc' := 29) (v := 80) rfl rfl rfl rfl rfl ?_
      refine r_iload (pc' := 30) rfl rfl rfl ?_
      refine r_const (pc' := 31) rfl rfl ?_
      refine r_bast (pc' := 32) 2 rfl rfl rfl (by omega) (by omega) ?_
      refine r_aload (pc' := 33) rfl rfl rfl ?_
      refine r_getr (pc' := 36) (v := 59) rfl rfl rfl rfl rfl ?_
      refine r_getv (pc' := 39) (v := (S 59 3)) rfl rfl (Or.inl rfl) rfl ((up_ne (by omega)).trans (tks_o (by omega))) ?_
      have b4 : 0 ≤ S 59 3 ∧ S 59 3 ≤ 999 := hB 59 3
      refine q_iret rfl rfl rfl ?_
      have ew : w_X10_keep S k = ((S 59 3), mx_up (tks S (220 + 2 * k) (59)) 80 k 1) := by unfold w_X10_keep; rw [if_neg h1, if_pos h2]
      exact ⟨by rw [ew], by rw [ew], (Bd_up hB3 (show (0 : Int) ≤ 1 from by omega) (show 1 ≤ (1 : Int) from by omega))⟩
    · refine r_icmp_lt0 (pc' := 9) rfl rfl (by omega) (by omega) ?_
      refine r_const (pc' := 11) rfl rfl ?_
      refine q_iret rfl rfl rfl ?_
      have ew : w_X10_keep S k = ((-2), S) := by unfold w_X10_keep; rw [if_neg h1, if_neg h2]
      exact ⟨by rw [ew], by rw [ew], hB⟩
noncomputable def w_X10_back (S : rS) (k : Int) : Int × rS := if k < 0 then ((-2), S) else if k < 2 then if (S 80 k) = 0 then ((-4), S) else (((tks S (59) (220 + 2 * k)) 59 3), mx_up (tks S (59) (220 + 2 * k)) 61 0 0) else ((-2), S)
theorem c_X10_back {k : Int} {S : rS} (hB : Bd S) (h_k : -2147483648 ≤ k ∧ k < 2147483648) : CS 2 11 [.inr (.inr 0), .inl k] S (fun r' S' => r' = some (.inl ((w_X10_back S k).1)) ∧ S' = (w_X10_back S k).2 ∧ Bd S') := by
  refine RS.beg (ls := [some (.inr (.inr 0)), some (.inl k)]) rfl rfl rfl rfl rfl ?_
  refine r_iload (pc' := 1) rfl rfl rfl ?_
  by_cases h1 : k < 0
  · refine r_if_lt1 (pc' := 9) rfl rfl (by omega) (by omega) ?_
    refine r_const (pc' := 11) rfl rfl ?_
    refine q_iret rfl rfl rfl ?_
    have ew : w_X10_back S k = ((-2), S) := by unfold w_X10_back; rw [if_pos h1]
    exact ⟨by rw [ew], by rw [ew], hB⟩
  · refine r_if_lt0 (pc' := 4) rfl rfl (by omega) (by omega) ?_
    refine r_iload (pc' := 5) rfl rfl rfl ?_
    refine r_const (pc' := 6) rfl rfl ?_
    by_cases h2 : k < 2
    · refine r_icmp_lt1 (pc' := 12) rfl rfl (by omega) (by omega) ?_
      refine r_aload (pc' := 13) rfl rfl rfl ?_
      refine r_getr (pc' := 16) (v := 80) rfl rfl rfl rfl rfl ?_
      refine r_iload (pc' := 17) rfl rfl rfl ?_
      refine r_baldv (pc' := 18) (v := (S 80 k)) 2 rfl rfl rfl (by omega) rfl ?_
      have b3 : 0 ≤ S 80 k ∧ S 80 k ≤ 1 := hB 80 k
      by_cases h4 : (S 80 k) = 0
      · refine r_if_ne0 (pc' := 21) rfl rfl (by omega) (by omega) ?_
        refine r_const (pc' := 23) rfl rfl ?_
        refine q_iret rfl rfl rfl ?_
        have ew : w_X10_back S k = ((-4), S) := by unfold w_X10_back; rw [if_neg h1, if_pos h2, if_pos h4]
        exact ⟨by rw [ew], by rw [ew], hB⟩
      · refine r_if_ne1 (pc' := 24) rfl rfl (by omega) (by omega) ?_
        refine r_aload (pc' := 25) rfl rfl rfl ?_
        refine r_getr (pc' := 28) (v := 59) rfl rfl rfl rfl rfl ?_
        refine r_aload (pc' := 29) rfl rfl rfl ?_
        refine r_getr (pc' := 32) (v := 79) rfl rfl rfl rfl rfl ?_
        refine r_iload (pc' := 33) rfl rfl rfl ?_
        refine r_aald (pc' := 34) (v := (220 + 2 * k)) 103002 rfl rfl rfl rfl (by omega) rfl ?_
        refine q_callE (pc' := 37) (w := none) (S2 := tks S (59) (220 + 2 * k)) (st' := []) rfl rfl rfl (c_X7_takeFrom_nk (i := k) (S := S) hB (show 0 ≤ k ∧ k < 2 from by omega)) (by decide) rfl rfl (Nat.le_of_ble_eq_true rfl) (fun _ _ => ⟨_, _, rfl, rfl⟩) rfl rfl ?_
        have hB5 : Bd (tks S (59) (220 + 2 * k)) := Bd_tks hB bds_59 (bds_220 (by omega))
        refine r_aload (pc' := 38) rfl rfl rfl ?_
        refine r_getr (pc' := 41) (v := 61) rfl rfl rfl rfl rfl ?_
        refine r_const (pc' := 42) rfl rfl ?_
        refine r_put (pc' := 45) rfl rfl rfl rfl ?_
        refine r_aload (pc' := 46) rfl rfl rfl ?_
        refine r_getr (pc' := 49) (v := 59) rfl rfl rfl rfl rfl ?_
        refine r_getv (pc' := 52) (v := ((tks S (59) (220 + 2 * k)) 59 3)) rfl rfl (Or.inl rfl) rfl rfl ?_
        refine q_iret rfl rfl rfl ?_
        have ew : w_X10_back S k = (((tks S (59) (220 + 2 * k)) 59 3), mx_up (tks S (59) (220 + 2 * k)) 61 0 0) := by unfold w_X10_back; rw [if_neg h1, if_pos h2, if_neg h4]
        exact ⟨by rw [ew], by rw [ew], (Bd_up hB5 (show (0 : Int) ≤ 0 from by omega) (show 0 ≤ (8 : Int) from by omega))⟩
    · refine r_icmp_lt0 (pc' := 9) rfl rfl (by omega) (by omega) ?_
      refine r_const (pc' := 11) rfl rfl ?_
      refine q_iret rfl rfl rfl ?_
      have ew : w_X10_back S k = ((-2), S) := by unfold w_X10_back; rw [if_neg h1, if_neg h2]
      exact ⟨by rw [ew], by rw [ew], hB⟩
noncomputable def w_X10_seen (S : rS) (f : Int) (n : Int) (m : Int) : Int × rS := if 0 ≤ f ∧ f < S 25 0 then if n < 0 then ((-3), S) else if 8 < n then ((-3), S) else if m < 0 then ((-3), S) else if 60 < m then ((-3), S) else if (S 81 0) < 6 then ((S 81 0 + 1), (mx_up (mx_up (mx_up (mx_up S 82 (S 81 0) f) 83 (S 81 0) n) 84 (S 81 0) m) 81 0 (S 81 0 + 1))) else ((-5), S) else ((-2), S)
theorem c_X10_seen {f : Int} {n : Int} {m : Int} {S : rS} (hB : Bd S) (h_f : -2147483648 ≤ f ∧ f < 2147483648) (h_n : -2147483648 ≤ n ∧ n < 2147483648) (h_m : -2147483648 ≤ m ∧ m < 2147483648) : CS 2 45 [.inr (.inr 0), .inl f, .inl n, .inl m] S (fun r' S' => r' = some (.inl ((w_X10_seen S f n m).1)) ∧ S' = (w_X10_seen S f n m).2 ∧ Bd S') := by
  refine RS.beg (ls := [some (.inr (.inr 0)), some (.inl f), some (.inl n), some (.inl m)]) rfl rfl rfl rfl rfl ?_
  have b0 : 0 ≤ S 25 0 ∧ S 25 0 ≤ 7 := hB 25 0
  have b81 : 0 ≤ S 81 0 ∧ S 81 0 ≤ 6 := hB 81 0
  refine r_aload (pc' := 1) rfl rfl rfl ?_
  refine r_getr (pc' := 4) (v := 25) rfl rfl rfl rfl rfl ?_
  refine r_iload (pc' := 5) rfl rfl rfl ?_
  have b1 : 0 ≤ S 25 0 ∧ S 25 0 ≤ 7 := hB 25 0
  by_cases h2 : 0 ≤ f ∧ f < S 25 0
  · skip
    refine q_callE (pc' := 8) (w := some (.inl 1)) (S2 := S) (st' := [.inl 1]) rfl rfl rfl (bi_pos h2 (c_X3_hasField (f := f) (S := S) hB (show -2147483648 ≤ f ∧ f < 2147483648 from by omega))) (by decide) rfl rfl (Nat.le_of_ble_eq_true rfl) (fun _ _ => ⟨_, _, rfl, rfl⟩) rfl rfl ?_
    refine r_if_ne1 (pc' := 14) rfl rfl (by decide) (by decide) ?_
    refine r_iload (pc' := 15) rfl rfl rfl ?_
    by_cases h3 : n < 0
    · refine r_if_lt1 (pc' := 34) rfl rfl (by omega) (by omega) ?_
      refine r_const (pc' := 36) rfl rfl ?_
      refine q_iret rfl rfl rfl ?_
      have ew : w_X10_seen S f n m = ((-3), S) := by unfold w_X10_seen; rw [if_pos h2, if_pos h3]
      exact ⟨by rw [ew], by rw [ew], hB⟩
    · refine r_if_lt0 (pc' := 18) rfl rfl (by omega) (by omega) ?_
      refine r_iload (pc' := 19) rfl rfl rfl ?_
      refine r_const (pc' := 21) rfl rfl ?_
      by_cases h4 : 8 < n
      · refine r_icmp_gt1 (pc' := 34) rfl rfl (by omega) (by omega) ?_
        refine r_const (pc' := 36) rfl rfl ?_
        refine q_iret rfl rfl rfl ?_
        have ew : w_X10_seen S f n m = ((-3), S) := by unfold w_X10_seen; rw [if_pos h2, if_neg h3, if_pos h4]
        exact ⟨by rw [ew], by rw [ew], hB⟩
      · refine r_icmp_gt0 (pc' := 24) rfl rfl (by omega) (by omega) ?_
        refine r_iload (pc' := 25) rfl rfl rfl ?_
        by_cases h5 : m < 0
        · refine r_if_lt1 (pc' := 34) rfl rfl (by omega) (by omega) ?_
          refine r_const (pc' := 36) rfl rfl ?_
          refine q_iret rfl rfl rfl ?_
          have ew : w_X10_seen S f n m = ((-3), S) := by unfold w_X10_seen; rw [if_pos h2, if_neg h3, if_neg h4, if_pos h5]
          exact ⟨by rw [ew], by rw [ew], hB⟩
        · refine r_if_lt0 (pc' := 28) rfl rfl (by omega) (by omega) ?_
          refine r_iload (pc' := 29) rfl rfl rfl ?_
          refine r_const (pc' := 31) rfl rfl ?_
          by_cases h6 : 60 < m
          · refine r_icmp_le0 (pc' := 34) rfl rfl (by omega) (by omega) ?_
            refine r_const (pc' := 36) rfl rfl ?_
            refine q_iret rfl rfl rfl ?_
            have ew : w_X10_seen S f n m = ((-3), S) := by unfold w_X10_seen; rw [if_pos h2, if_neg h3, if_neg h4, if_neg h5, if_pos h6]
            exact ⟨by rw [ew], by rw [ew], hB⟩
          · refine r_icmp_le1 (pc' := 37) rfl rfl (by omega) (by omega) ?_
            refine r_aload (pc' := 38) rfl rfl rfl ?_
            refine r_getr (pc' := 41) (v := 81) rfl rfl rfl rfl rfl ?_
            refine r_getv (pc' := 44) (v := (S 81 0)) rfl rfl (Or.inl rfl) rfl rfl ?_
            have b7 : 0 ≤ S 81 0 ∧ S 81 0 ≤ 6 := hB 81 0
            refine r_const (pc' := 46) rfl rfl ?_
            by_cases h8 : (S 81 0) < 6
            · refine r_icmp_lt1 (pc' := 52) rfl rfl (by omega) (by omega) ?_
              refine r_aload (pc' := 53) rfl rfl rfl ?_
              refine r_getr (pc' := 56) (v := 81) rfl rfl rfl rfl rfl ?_
              refine r_iload (pc' := 57) rfl rfl rfl ?_
              refine r_iload (pc' := 58) rfl rfl rfl ?_
              refine r_iload (pc' := 59) rfl rfl rfl ?_
              refine q_callE (pc' := 62) (w := none) (S2 := mx_up (mx_up (mx_up (mx_up S 82 (S 81 0) f) 83 (S 81 0) n) 84 (S 81 0) m) 81 0 (S 81 0 + 1)) (st' := []) rfl rfl rfl (c_X6_add (f := f) (n := n) (m := m) (S := S) hB (show S 81 0 < 6 from by omega) (show 0 ≤ f ∧ f ≤ 6 from by omega) (show 0 ≤ n ∧ n ≤ 8 from by omega) (show 0 ≤ m ∧ m ≤ 60 from by omega)) (by decide) rfl rfl (Nat.le_of_ble_eq_true rfl) (fun _ _ => ⟨_, _, rfl, rfl⟩) rfl rfl ?_
              have hB9 : Bd (mx_up (mx_up (mx_up (mx_up S 82 (S 81 0) f) 83 (S 81 0) n) 84 (S 81 0) m) 81 0 (S 81 0 + 1)) := Bd_up (Bd_up (Bd_up (Bd_up hB (show (0 : Int) ≤ _ by omega) (show _ ≤ (6 : Int) by omega)) (show (0 : Int) ≤ _ by omega) (show _ ≤ (8 : Int) by omega)) (show (0 : Int) ≤ _ by omega) (show _ ≤ (60 : Int) by omega)) (show (0 : Int) ≤ _ by have q := (hB : Bd _) 81 0; exact Int.le_trans q.1 (by omega)) (show _ ≤ (6 : Int) by omega)
              refine r_aload (pc' := 63) rfl rfl rfl ?_
              refine r_getr (pc' := 66) (v := 81) rfl rfl rfl rfl rfl ?_
              refine r_getv (pc' := 69) (v := (S 81 0 + 1)) rfl rfl (Or.inl rfl) rfl rfl ?_
              refine q_iret rfl rfl rfl ?_
              have ew : w_X10_seen S f n m = ((S 81 0 + 1), (mx_up (mx_up (mx_up (mx_up S 82 (S 81 0) f) 83 (S 81 0) n) 84 (S 81 0) m) 81 0 (S 81 0 + 1))) := by unfold w_X10_seen; rw [if_pos h2, if_neg h3, if_neg h4, if_neg h5, if_neg h6, if_pos h8]
              exact ⟨by rw [ew], by rw [ew], hB9⟩
            · refine r_icmp_lt0 (pc' := 49) rfl rfl (by omega) (by omega) ?_
              refine r_const (pc' := 51) rfl rfl ?_
              refine q_iret rfl rfl rfl ?_
              have ew : w_X10_seen S f n m = ((-5), S) := by unfold w_X10_seen; rw [if_pos h2, if_neg h3, if_neg h4, if_neg h5, if_neg h6, if_neg h8]
              exact ⟨by rw [ew], by rw [ew], hB⟩
  · skip
    refine q_callE (pc' := 8) (w := some (.inl 0)) (S2 := S) (st' := [.inl 0]) rfl rfl rfl (bi_neg h2 (c_X3_hasField (f := f) (S := S) hB (show -2147483648 ≤ f ∧ f < 2147483648 from by omega))) (by decide) rfl rfl (Nat.le_of_ble_eq_true rfl) (fun _ _ => ⟨_, _, rfl, rfl⟩) rfl rfl ?_
    refine r_if_ne0 (pc' := 11) rfl rfl (by decide) (by decide) ?_
    refine r_const (pc' := 13) rfl rfl ?_
    refine q_iret rfl rfl rfl ?_
    have ew : w_X10_seen S f n m = ((-2), S) := by unfold w_X10_seen; rw [if_neg h2]
    exact ⟨by rw [ew], by rw [ew], hB⟩
noncomputable def w_X10_forget (S : rS) : Int × rS := ((S 81 0), mx_up S 81 0 0)
theorem c_X10_forget {S : rS} (hB : Bd S) : CS 1 27 [.inr (.inr 0)] S (fun r' S' => r' = some (.inl ((w_X10_forget S).1)) ∧ S' = (w_X10_forget S).2 ∧ Bd S') := by
  refine RS.beg (ls := [some (.inr (.inr 0)), none]) rfl rfl rfl rfl rfl ?_
  refine r_aload (pc' := 1) rfl rfl rfl ?_
  refine r_getr (pc' := 4) (v := 81) rfl rfl rfl rfl rfl ?_
  refine r_getv (pc' := 7) (v := (S 81 0)) rfl rfl (Or.inl rfl) rfl rfl ?_
  have b1 : 0 ≤ S 81 0 ∧ S 81 0 ≤ 6 := hB 81 0
  refine r_istore (pc' := 8) (ls' := [some (.inr (.inr 0)), some (.inl (S 81 0))]) rfl rfl rfl rfl ?_
  refine r_aload (pc' := 9) rfl rfl rfl ?_
  refine r_getr (pc' := 12) (v := 81) rfl rfl rfl rfl rfl ?_
  refine r_const (pc' := 13) rfl rfl ?_
  refine r_put (pc' := 16) rfl rfl rfl rfl ?_
  refine r_iload (pc' := 17) rfl rfl rfl ?_
  refine q_iret rfl rfl rfl ?_
  have ew : w_X10_forget S = ((S 81 0), mx_up S 81 0 0) := by unfold w_X10_forget; rfl
  exact ⟨by rw [ew], by rw [ew], (Bd_up hB (show (0 : Int) ≤ 0 from by omega) (show 0 ≤ (6 : Int) from by omega))⟩
noncomputable def w_X10_shelf (S : rS) (s : Int) (l : Int) (n : Int) : Int × rS := if 0 ≤ s ∧ s < 4 then if 0 ≤ l ∧ l < 3 then if 24 < n then ((-3), S) else if n < 0 then ((-14), S) else (n, (rnw S s l n)) else ((-3), S) else ((-2), S)
theorem c_X10_shelf {s : Int} {l : Int} {n : Int} {S : rS} (hB : Bd S) (h_s : -2147483648 ≤ s ∧ s < 2147483648) (h_l : -2147483648 ≤ l ∧ l < 2147483648) (h_n : -2147483648 ≤ n ∧ n < 2147483648) : CS 2 46 [.inr (.inr 0), .inl s, .inl l, .inl n] S (fun r' S' => r' = some (.inl ((w_X10_shelf S s l n).1)) ∧ S' = (w_X10_shelf S s l n).2 ∧ Bd S') := by
  refine RS.beg (ls := [some (.inr (.inr 0)), some (.inl s), some (.inl l), some (.inl n)]) rfl rfl rfl rfl rfl ?_
  refine r_iload (pc' := 1) rfl rfl rfl ?_
  by_cases h1 : 0 ≤ s ∧ s < 4
  · skip
    refine q_callE (pc' := 4) (w := some (.inl 1)) (S2 := S) (st' := [.inl 1]) rfl rfl rfl (bi_pos h1 (c_X10_isShelf (s := s) (S := S)  (show -2147483648 ≤ s ∧ s < 2147483648 from by omega))) (by decide) rfl rfl (Nat.le_of_ble_eq_true rfl) (fun q => absurd rfl q) rfl rfl ?_
    refine r_if_ne1 (pc' := 10) rfl rfl (by decide) (by decide) ?_
    refine r_iload (pc' := 11) rfl rfl rfl ?_
    by_cases h2 : 0 ≤ l ∧ l < 3
    · skip
      refine q_callE (pc' := 14) (w := some (.inl 1)) (S2 := S) (st' := [.inl 1]) rfl rfl rfl (bi_pos h2 (c_X10_isLane (s := l) (S := S)  (show -2147483648 ≤ l ∧ l < 2147483648 from by omega))) (by decide) rfl rfl (Nat.le_of_ble_eq_true rfl) (fun q => absurd rfl q) rfl rfl ?_
      refine r_if_eq0 (pc' := 17) rfl rfl (by decide) (by decide) ?_
      refine r_iload (pc' := 18) rfl rfl rfl ?_
      refine r_const (pc' := 20) rfl rfl ?_
      by_cases h3 : 24 < n
      · refine r_icmp_le0 (pc' := 23) rfl rfl (by omega) (by omega) ?_
        refine r_const (pc' := 25) rfl rfl ?_
        refine q_iret rfl rfl rfl ?_
        have ew : w_X10_shelf S s l n = ((-3), S) := by unfold w_X10_shelf; rw [if_pos h1, if_pos h2, if_pos h3]
        exact ⟨by rw [ew], by rw [ew], hB⟩
      · refine r_icmp_le1 (pc' := 26) rfl rfl (by omega) (by omega) ?_
        refine r_iload (pc' := 27) rfl rfl rfl ?_
        by_cases h4 : n < 0
        · refine r_if_ge0 (pc' := 30) rfl rfl (by omega) (by omega) ?_
          refine r_const (pc' := 32) rfl rfl ?_
          refine q_iret rfl rfl rfl ?_
          have ew : w_X10_shelf S s l n = ((-14), S) := by unfold w_X10_shelf; rw [if_pos h1, if_pos h2, if_neg h3, if_pos h4]
          exact ⟨by rw [ew], by rw [ew], hB⟩
        · refine r_if_ge1 (pc' := 33) rfl rfl (by omega) (by omega) ?_
          refine r_aload (pc' := 34) rfl rfl rfl ?_
          refine r_getr (pc' := 37) (v := 219) rfl rfl rfl rfl rfl ?_
          refine r_iload (pc' := 38) rfl rfl rfl ?_
          refine r_aald (pc' := 39) (v := (224 + 2 * s)) 104004 rfl rfl rfl rfl (by omega) rfl ?_
          refine r_iload (pc' := 40) rfl rfl rfl ?_
          refine r_iload (pc' := 41) rfl rfl rfl ?_
          refine q_callE (pc' := 44) (w := none) (S2 := rnw S s l n) (st' := []) rfl rfl rfl (c_X5_renew (s := s) (l := l) (n := n) (S := S) hB (show 0 ≤ s ∧ s < 4 from by omega) (show 0 ≤ l ∧ l ≤ 2 from by omega) (show 0 ≤ n ∧ n ≤ 24 from by omega)) (by decide) rfl rfl (Nat.le_of_ble_eq_true rfl) (fun _ _ => ⟨_, _, rfl, (sho_224 (by omega))⟩) rfl rfl ?_
          have hB5 : Bd (rnw S s l n) := Bd_rnw hB (by omega) (by omega) (by omega)
          refine r_iload (pc' := 45) rfl rfl rfl ?_
          refine q_iret rfl rfl rfl ?_
          have ew : w_X10_shelf S s l n = (n, (rnw S s l n)) := by unfold w_X10_shelf; rw [if_pos h1, if_pos h2, if_neg h3, if_neg h4]
          exact ⟨by rw [ew], by rw [ew], hB5⟩
    · skip
      refine q_callE (pc' := 14) (w := some (.inl 0)) (S2 := S) (st' := [.inl 0]) rfl rfl rfl (bi_neg h2 (c_X10_isLane (s := l) (S := S)  (show -2147483648 ≤ l ∧ l < 2147483648 from by omega))) (by decide) rfl rfl (Nat.le_of_ble_eq_true rfl) (fun q => absurd rfl q) rfl rfl ?_
      refine r_if_eq1 (pc' := 23) rfl rfl (by decide) (by decide) ?_
      refine r_const (pc' := 25) rfl rfl ?_
      refine q_iret rfl rfl rfl ?_
      have ew : w_X10_shelf S s l n = ((-3), S) := by unfold w_X10_shelf; rw [if_pos h1, if_neg h2]
      exact ⟨by rw [ew], by rw [ew], hB⟩
  · skip
    refine q_callE (pc' := 4) (w := some (.inl 0)) (S2 := S) (st' := [.inl 0]) rfl rfl rfl (bi_neg h1 (c_X10_isShelf (s := s) (S := S)  (show -2147483648 ≤ s ∧ s < 2147483648 from by omega))) (by decide) rfl rfl (Nat.le_of_ble_eq_true rfl) (fun q => absurd rfl q) rfl rfl ?_
    refine r_if_ne0 (pc' := 7) rfl rfl (by decide) (by decide) ?_
    refine r_const (pc' := 9) rfl rfl ?_
    refine q_iret rfl rfl rfl ?_
    have ew : w_X10_shelf S s l n = ((-2), S) := by unfold w_X10_shelf; rw [if_neg h1]
    exact ⟨by rw [ew], by rw [ew], hB⟩
theorem lrf {S : rS} {s l : Int} (h : v_X10_laneRefusal S s l = 0) : (0 ≤ s ∧ s < 4) ∧ (0 ≤ l ∧ l < 3) ∧ S (224 + 2 * s) 0 ≠ 0 ∧ S (224 + 2 * s) 1 = l := by
  unfold v_X10_laneRefusal at h
  split at h
  · split at h
    · split at h
      · omega
      · split at h
        · exact ⟨by assumption, by assumption, by assumption, by assumption⟩
        · omega
    · omega
  · omega
theorem lrfr {S : rS} {s l : Int} : -20 ≤ v_X10_laneRefusal S s l ∧ v_X10_laneRefusal S s l ≤ 0 := by
  unfold v_X10_laneRefusal
  split
  · split
    · split
      · omega
      · split <;> omega
    · omega
  · omega
noncomputable def w_X10_lay (S : rS) (s : Int) (l : Int) (i : Int) (v : Int) : Int × rS := if (v_X10_laneRefusal S s l) = 0 then if (0 ≤ i ∧ i ≤ S (224 + 2 * s) 2) ∧ 0 ≤ (1 : Int) ∧ (1 : Int) ≤ S (224 + 2 * s) 2 - i then (1, (putl S s i v)) else ((-13), S) else ((v_X10_laneRefusal S s l), S)
theorem c_X10_lay {s : Int} {l : Int} {i : Int} {v : Int} {S : rS} (hB : Bd S) (h_s : -2147483648 ≤ s ∧ s < 2147483648) (h_l : -2147483648 ≤ l ∧ l < 2147483648) (h_i : -2147483648 ≤ i ∧ i < 2147483648) (h_v : -2147483648 ≤ v ∧ v < 2147483648) : CS 3 35 [.inr (.inr 0), .inl s, .inl l, .inl i, .inl v] S (fun r' S' => r' = some (.inl ((w_X10_lay S s l i v).1)) ∧ S' = (w_X10_lay S s l i v).2 ∧ Bd S') := by
  refine RS.beg (ls := [some (.inr (.inr 0)), some (.inl s), some (.inl l), some (.inl i), some (.inl v), none, none]) rfl rfl rfl rfl rfl ?_
  refine r_aload (pc' := 1) rfl rfl rfl ?_
  refine r_iload (pc' := 2) rfl rfl rfl ?_
  refine r_iload (pc' := 3) rfl rfl rfl ?_
  refine q_callE (pc' := 6) (w := some (.inl (v_X10_laneRefusal S s l))) (S2 := S) (st' := [.inl (v_X10_laneRefusal S s l)]) rfl rfl rfl (c_X10_laneRefusal (s := s) (l := l) (S := S) hB (show -2147483648 ≤ s ∧ s < 2147483648 from by omega) (show -2147483648 ≤ l ∧ l < 2147483648 from by omega)) (by decide) rfl rfl (Nat.le_of_ble_eq_true rfl) (fun _ _ => ⟨_, _, rfl, rfl⟩) rfl rfl ?_
  have b1 : -20 ≤ (v_X10_laneRefusal S s l) ∧ (v_X10_laneRefusal S s l) ≤ 0 := lrfr
  refine r_istore (pc' := 8) (ls' := [some (.inr (.inr 0)), some (.inl s), some (.inl l), some (.inl i), some (.inl v), some (.inl (v_X10_laneRefusal S s l)), none]) rfl rfl rfl rfl ?_
  refine r_iload (pc' := 10) rfl rfl rfl ?_
  by_cases h2 : (v_X10_laneRefusal S s l) = 0
  · refine r_if_eq1 (pc' := 16) rfl rfl (by omega) (by omega) ?_
    have lq := lrf (S := S) (s := s) (l := l) (by omega)
    refine r_aload (pc' := 17) rfl rfl rfl ?_
    refine r_getr (pc' := 20) (v := 219) rfl rfl rfl rfl rfl ?_
    refine r_iload (pc' := 21) rfl rfl rfl ?_
    refine r_aald (pc' := 22) (v := (224 + 2 * s)) 104004 rfl rfl rfl rfl (by omega) rfl ?_
    refine r_astore (pc' := 24) (ls' := [some (.inr (.inr 0)), some (.inl s), some (.inl l), some (.inl i), some (.inl v), some (.inl (v_X10_laneRefusal S s l)), some (.inr (.inr (224 + 2 * s)))]) rfl rfl rfl rfl ?_
    refine r_aload (pc' := 26) rfl rfl rfl ?_
    refine r_iload (pc' := 27) rfl rfl rfl ?_
    refine r_const (pc' := 28) rfl rfl ?_
    have b3 : 0 ≤ S (224 + 2 * s) 2 ∧ S (224 + 2 * s) 2 ≤ 24 := bdo_2242 hB (by omega)
    by_cases h4 : (0 ≤ i ∧ i ≤ S (224 + 2 * s) 2) ∧ 0 ≤ (1 : Int) ∧ (1 : Int) ≤ S (224 + 2 * s) 2 - i
    · skip
      refine q_callE (pc' := 31) (w := some (.inl 1)) (S2 := S) (st' := [.inl 1]) rfl rfl rfl (bi_pos h4 (c_X5_hasRoom (s := s) (i := i) (n := 1) (S := S) hB (show 0 ≤ s ∧ s < 4 from by omega) (show -2147483648 ≤ i ∧ i < 2147483648 from by omega) (show -2147483648 ≤ (1 : Int) ∧ (1 : Int) < 2147483648 from by omega))) (by decide) rfl rfl (Nat.le_of_ble_eq_true rfl) (fun _ _ => ⟨_, _, rfl, (sho_224 (by omega))⟩) rfl rfl ?_
      refine r_if_ne1 (pc' := 37) rfl rfl (by decide) (by decide) ?_
      refine r_aload (pc' := 39) rfl rfl rfl ?_
      refine r_iload (pc' := 40) rfl rfl rfl ?_
      refine r_iload (pc' := 42) rfl rfl rfl ?_
      refine q_callE (pc' := 45) (w := none) (S2 := putl S s i v) (st' := []) rfl rfl rfl (c_X5_put (s := s) (i := i) (v := v) (S := S) hB (show 0 ≤ s ∧ s < 4 from by omega) (show 0 ≤ i ∧ i < 24 from by omega) (show -2147483648 ≤ v ∧ v < 2147483648 from by omega)) (by decide) rfl rfl (Nat.le_of_ble_eq_true rfl) (fun _ _ => ⟨_, _, rfl, (sho_224 (by omega))⟩) rfl rfl ?_
      have hB5 : Bd (putl S s i v) := Bd_putl hB (by omega) (by omega)
      refine r_const (pc' := 46) rfl rfl ?_
      refine q_iret rfl rfl rfl ?_
      have ew : w_X10_lay S s l i v = (1, (putl S s i v)) := by unfold w_X10_lay; rw [if_pos h2, if_pos h4]
      exact ⟨by rw [ew], by rw [ew], hB5⟩
    · skip
      refine q_callE (pc' := 31) (w := some (.inl 0)) (S2 := S) (st' := [.inl 0]) rfl rfl rfl (bi_neg h4 (c_X5_hasRoom (s := s) (i := i) (n := 1) (S := S) hB (show 0 ≤ s ∧ s < 4 from by omega) (show -2147483648 ≤ i ∧ i < 2147483648 from by omega) (show -2147483648 ≤ (1 : Int) ∧ (1 : Int) < 2147483648 from by omega))) (by decide) rfl rfl (Nat.le_of_ble_eq_true rfl) (fun _ _ => ⟨_, _, rfl, (sho_224 (by omega))⟩) rfl rfl ?_
      refine r_if_ne0 (pc' := 34) rfl rfl (by decide) (by decide) ?_
      refine r_const (pc' := 36) rfl rfl ?_
      refine q_iret rfl rfl rfl ?_
      have ew : w_X10_lay S s l i v = ((-13), S) := by unfold w_X10_lay; rw [if_pos h2, if_neg h4]
      exact ⟨by rw [ew], by rw [ew], hB⟩
  · refine r_if_eq0 (pc' := 13) rfl rfl (by omega) (by omega) ?_
    refine r_iload (pc' := 15) rfl rfl rfl ?_
    refine q_iret rfl rfl rfl ?_
    have ew : w_X10_lay S s l i v = ((v_X10_laneRefusal S s l), S) := by unfold w_X10_lay; rw [if_neg h2]
    exact ⟨by rw [ew], by rw [ew], hB⟩
noncomputable def w_X10_drop (S : rS) (s : Int) : Int × rS := if 0 ≤ s ∧ s < 4 then if (S (224 + 2 * s) 0) = 0 then ((-11), S) else ((S (224 + 2 * s) 2), mx_up S (224 + 2 * s) 0 0) else ((-2), S)
theorem c_X10_drop {s : Int} {S : rS} (hB : Bd S) (h_s : -2147483648 ≤ s ∧ s < 2147483648) : CS 2 19 [.inr (.inr 0), .inl s] S (fun r' S' => r' = some (.inl ((w_X10_drop S s).1)) ∧ S' = (w_X10_drop S s).2 ∧ Bd S') := by
  refine RS.beg (ls := [some (.inr (.inr 0)), some (.inl s), none]) rfl rfl rfl rfl rfl ?_
  refine r_iload (pc' := 1) rfl rfl rfl ?_
  by_cases h1 : 0 ≤ s ∧ s < 4
  · skip
    refine q_callE (pc' := 4) (w := some (.inl 1)) (S2 := S) (st' := [.inl 1]) rfl rfl rfl (bi_pos h1 (c_X10_isShelf (s := s) (S := S)  (show -2147483648 ≤ s ∧ s < 2147483648 from by omega))) (by decide) rfl rfl (Nat.le_of_ble_eq_true rfl) (fun q => absurd rfl q) rfl rfl ?_
    refine r_if_ne1 (pc' := 10) rfl rfl (by decide) (by decide) ?_
    refine r_aload (pc' := 11) rfl rfl rfl ?_
    refine r_getr (pc' := 14) (v := 219) rfl rfl rfl rfl rfl ?_
    refine r_iload (pc' := 15) rfl rfl rfl ?_
    refine r_aald (pc' := 16) (v := (224 + 2 * s)) 104004 rfl rfl rfl rfl (by omega) rfl ?_
    refine r_astore (pc' := 17) (ls' := [some (.inr (.inr 0)), some (.inl s), some (.inr (.inr (224 + 2 * s)))]) rfl rfl rfl rfl ?_
    refine r_aload (pc' := 18) rfl rfl rfl ?_
    refine r_getv (pc' := 21) (v := (S (224 + 2 * s) 0)) rfl rfl (Or.inr rfl) (sho_224 (by omega)) rfl ?_
    have b2 : 0 ≤ S (224 + 2 * s) 0 ∧ S (224 + 2 * s) 0 ≤ 1 := bdo_2240 hB (by omega)
    by_cases h3 : (S (224 + 2 * s) 0) = 0
    · refine r_if_ne0 (pc' := 24) rfl rfl (by omega) (by omega) ?_
      refine r_const (pc' := 26) rfl rfl ?_
      refine q_iret rfl rfl rfl ?_
      have ew : w_X10_drop S s = ((-11), S) := by unfold w_X10_drop; rw [if_pos h1, if_pos h3]
      exact ⟨by rw [ew], by rw [ew], hB⟩
    · refine r_if_ne1 (pc' := 27) rfl rfl (by omega) (by omega) ?_
      refine r_aload (pc' := 28) rfl rfl rfl ?_
      refine r_const (pc' := 29) rfl rfl ?_
      refine r_putz (pc' := 32) rfl rfl rfl (sho_224 (by omega)) (by omega) ?_
      refine r_aload (pc' := 33) rfl rfl rfl ?_
      refine r_getv (pc' := 36) (v := (S (224 + 2 * s) 2)) rfl rfl (Or.inl rfl) (sho_224 (by omega)) (up_ne (by omega)) ?_
      have b4 : 0 ≤ S (224 + 2 * s) 2 ∧ S (224 + 2 * s) 2 ≤ 24 := bdo_2242 hB (by omega)
      refine q_iret rfl rfl rfl ?_
      have ew : w_X10_drop S s = ((S (224 + 2 * s) 2), mx_up S (224 + 2 * s) 0 0) := by unfold w_X10_drop; rw [if_pos h1, if_neg h3]
      exact ⟨by rw [ew], by rw [ew], (Bd_up hB (show _ ≤ 0 from by rw [(bdp_2240 (show 0 ≤ s ∧ s < 4 from by omega)).1]; omega) (show 0 ≤ _ from by rw [(bdp_2240 (show 0 ≤ s ∧ s < 4 from by omega)).2]; omega))⟩
  · skip
    refine q_callE (pc' := 4) (w := some (.inl 0)) (S2 := S) (st' := [.inl 0]) rfl rfl rfl (bi_neg h1 (c_X10_isShelf (s := s) (S := S)  (show -2147483648 ≤ s ∧ s < 2147483648 from by omega))) (by decide) rfl rfl (Nat.le_of_ble_eq_true rfl) (fun q => absurd rfl q) rfl rfl ?_
    refine r_if_ne0 (pc' := 7) rfl rfl (by decide) (by decide) ?_
    refine r_const (pc' := 9) rfl rfl ?_
    refine q_iret rfl rfl rfl ?_
    have ew : w_X10_drop S s = ((-2), S) := by unfold w_X10_drop; rw [if_neg h1]
    exact ⟨by rw [ew], by rw [ew], hB⟩
noncomputable def w_X10_copy (S : rS) (f : Int) (i : Int) (t : Int) (j : Int) (n : Int) : Int × rS := if 0 ≤ f ∧ f < 4 then if 0 ≤ t ∧ t < 4 then if (S (224 + 2 * f) 0) = 0 then ((-11), S) else if (S (224 + 2 * t) 0) = 0 then ((-11), S) else if (S (224 + 2 * f) 1) = (S (224 + 2 * t) 1) then if (0 ≤ i ∧ i ≤ S (224 + 2 * f) 2) ∧ 0 ≤ n ∧ n ≤ S (224 + 2 * f) 2 - i then if (0 ≤ j ∧ j ≤ S (224 + 2 * t) 2) ∧ 0 ≤ n ∧ n ≤ S (224 + 2 * t) 2 - j then (n, (mx_cp S (225 + 2 * f) i (225 + 2 * t) j n)) else ((-13), S) else ((-13), S) else ((-15), S) else ((-2), S) else ((-2), S)
theorem c_X10_copy {f : Int} {i : Int} {t : Int} {j : Int} {n : Int} {S : rS} (hB : Bd S) (h_f : -2147483648 ≤ f ∧ f < 2147483648) (h_i : -2147483648 ≤ i ∧ i < 2147483648) (h_t : -2147483648 ≤ t ∧ t < 2147483648) (h_j : -2147483648 ≤ j ∧ j < 2147483648) (h_n : -2147483648 ≤ n ∧ n < 2147483648) : CS 2 15 [.inr (.inr 0), .inl f, .inl i, .inl t, .inl j, .inl n] S (fun r' S' => r' = some (.inl ((w_X10_copy S f i t j n).1)) ∧ S' = (w_X10_copy S f i t j n).2 ∧ Bd S') := by
  refine RS.beg (ls := [some (.inr (.inr 0)), some (.inl f), some (.inl i), some (.inl t), some (.inl j), some (.inl n), none, none]) rfl rfl rfl rfl rfl ?_
  refine r_iload (pc' := 1) rfl rfl rfl ?_
  by_cases h1 : 0 ≤ f ∧ f < 4
  · skip
    refine q_callE (pc' := 4) (w := some (.inl 1)) (S2 := S) (st' := [.inl 1]) rfl rfl rfl (bi_pos h1 (c_X10_isShelf (s := f) (S := S)  (show -2147483648 ≤ f ∧ f < 2147483648 from by omega))) (by decide) rfl rfl (Nat.le_of_ble_eq_true rfl) (fun q => absurd rfl q) rfl rfl ?_
    refine r_if_eq0 (pc' := 7) rfl rfl (by decide) (by decide) ?_
    refine r_iload (pc' := 8) rfl rfl rfl ?_
    by_cases h2 : 0 ≤ t ∧ t < 4
    · skip
      refine q_callE (pc' := 11) (w := some (.inl 1)) (S2 := S) (st' := [.inl 1]) rfl rfl rfl (bi_pos h2 (c_X10_isShelf (s := t) (S := S)  (show -2147483648 ≤ t ∧ t < 2147483648 from by omega))) (by decide) rfl rfl (Nat.le_of_ble_eq_true rfl) (fun q => absurd rfl q) rfl rfl ?_
      refine r_if_ne1 (pc' := 17) rfl rfl (by decide) (by decide) ?_
      refine r_aload (pc' := 18) rfl rfl rfl ?_
      refine r_getr (pc' := 21) (v := 219) rfl rfl rfl rfl rfl ?_
      refine r_iload (pc' := 22) rfl rfl rfl ?_
      refine r_aald (pc' := 23) (v := (224 + 2 * f)) 104004 rfl rfl rfl rfl (by omega) rfl ?_
      refine r_astore (pc' := 25) (ls' := [some (.inr (.inr 0)), some (.inl f), some (.inl i), some (.inl t), some (.inl j), some (.inl n), some (.inr (.inr (224 + 2 * f))), none]) rfl rfl rfl rfl ?_
      refine r_aload (pc' := 26) rfl rfl rfl ?_
      refine r_getr (pc' := 29) (v := 219) rfl rfl rfl rfl rfl ?_
      refine r_iload (pc' := 30) rfl rfl rfl ?_
      refine r_aald (pc' := 31) (v := (224 + 2 * t)) 104004 rfl rfl rfl rfl (by omega) rfl ?_
      refine r_astore (pc' := 33) (ls' := [some (.inr (.inr 0)), some (.inl f), some (.inl i), some (.inl t), some (.inl j), some (.inl n), some (.inr (.inr (224 + 2 * f))), some (.inr (.inr (224 + 2 * t)))]) rfl rfl rfl rfl ?_
      refine r_aload (pc' := 35) rfl rfl rfl ?_
      refine r_getv (pc' := 38) (v := (S (224 + 2 * f) 0)) rfl rfl (Or.inr rfl) (sho_224 (by omega)) rfl ?_
      have b3 : 0 ≤ S (224 + 2 * f) 0 ∧ S (224 + 2 * f) 0 ≤ 1 := bdo_2240 hB (by omega)
      by_cases h4 : (S (224 + 2 * f) 0) = 0
      · refine r_if_eq1 (pc' := 49) rfl rfl (by omega) (by omega) ?_
        refine r_const (pc' := 51) rfl rfl ?_
        refine q_iret rfl rfl rfl ?_
        have ew : w_X10_copy S f i t j n = ((-11), S) := by unfold w_X10_copy; rw [if_pos h1, if_pos h2, if_pos h4]
        exact ⟨by rw [ew], by rw [ew], hB⟩
      · refine r_if_eq0 (pc' := 41) rfl rfl (by omega) (by omega) ?_
        refine r_aload (pc' := 43) rfl rfl rfl ?_
        refine r_getv (pc' := 46) (v := (S (224 + 2 * t) 0)) rfl rfl (Or.inr rfl) (sho_224 (by omega)) rfl ?_
        have b5 : 0 ≤ S (224 + 2 * t) 0 ∧ S (224 + 2 * t) 0 ≤ 1 := bdo_2240 hB (by omega)
        by_cases h6 : (S (224 + 2 * t) 0) = 0
        · refine r_if_ne0 (pc' := 49) rfl rfl (by omega) (by omega) ?_
          refine r_const (pc' := 51) rfl rfl ?_
          refine q_iret rfl rfl rfl ?_
          have ew : w_X10_copy S f i t j n = ((-11), S) := by unfold w_X10_copy; rw [if_pos h1, if_pos h2, if_neg h4, if_pos h6]
          exact ⟨by rw [ew], by rw [ew], hB⟩
        · refine r_if_ne1 (pc' := 52) rfl rfl (by omega) (by omega) ?_
          refine r_aload (pc' := 54) rfl rfl rfl ?_
          refine r_getv (pc' := 57) (v := (S (224 + 2 * f) 1)) rfl rfl (Or.inl rfl) (sho_224 (by omega)) rfl ?_
          have b7 : 0 ≤ S (224 + 2 * f) 1 ∧ S (224 + 2 * f) 1 ≤ 2 := bdo_2241 hB (by omega)
          refine r_aload (pc' := 59) rfl rfl rfl ?_
          refine r_getv (pc' := 62) (v := (S (224 + 2 * t) 1)) rfl rfl (Or.inl rfl) (sho_224 (by omega)) rfl ?_
          have b8 : 0 ≤ S (224 + 2 * t) 1 ∧ S (224 + 2 * t) 1 ≤ 2 := bdo_2241 hB (by omega)
          by_cases h9 : (S (224 + 2 * f) 1) = (S (224 + 2 * t) 1)
          · refine r_icmp_eq1 (pc' := 68) rfl rfl (by omega) (by omega) ?_
            refine r_aload (pc' := 70) rfl rfl rfl ?_
            refine r_iload (pc' := 71) rfl rfl rfl ?_
            refine r_iload (pc' := 73) rfl rfl rfl ?_
            have b10 : 0 ≤ S (224 + 2 * f) 2 ∧ S (224 + 2 * f) 2 ≤ 24 := bdo_2242 hB (by omega)
            by_cases h11 : (0 ≤ i ∧ i ≤ S (224 + 2 * f) 2) ∧ 0 ≤ n ∧ n ≤ S (224 + 2 * f) 2 - i
            · skip
              refine q_callE (pc' := 76) (w := some (.inl 1)) (S2 := S) (st' := [.inl 1]) rfl rfl rfl (bi_pos h11 (c_X5_hasRoom (s := f) (i := i) (n := n) (S := S) hB (show 0 ≤ f ∧ f < 4 from by omega) (show -2147483648 ≤ i ∧ i < 2147483648 from by omega) (show -2147483648 ≤ n ∧ n < 2147483648 from by omega))) (by decide) rfl rfl (Nat.le_of_ble_eq_true rfl) (fun _ _ => ⟨_, _, rfl, (sho_224 (by omega))⟩) rfl rfl ?_
              refine r_if_eq0 (pc' := 79) rfl rfl (by decide) (by decide) ?_
              refine r_aload (pc' := 81) rfl rfl rfl ?_
              refine r_iload (pc' := 83) rfl rfl rfl ?_
              refine r_iload (pc' := 85) rfl rfl rfl ?_
              have b12 : 0 ≤ S (224 + 2 * t) 2 ∧ S (224 + 2 * t) 2 ≤ 24 := bdo_2242 hB (by omega)
              by_cases h13 : (0 ≤ j ∧ j ≤ S (224 + 2 * t) 2) ∧ 0 ≤ n ∧ n ≤ S (224 + 2 * t) 2 - j
              · skip
                refine q_callE (pc' := 88) (w := some (.inl 1)) (S2 := S) (st' := [.inl 1]) rfl rfl rfl (bi_pos h13 (c_X5_hasRoom (s := t) (i := j) (n := n) (S := S) hB (show 0 ≤ t ∧ t < 4 from by omega) (show -2147483648 ≤ j ∧ j < 2147483648 from by omega) (show -2147483648 ≤ n ∧ n < 2147483648 from by omega))) (by decide) rfl rfl (Nat.le_of_ble_eq_true rfl) (fun _ _ => ⟨_, _, rfl, (sho_224 (by omega))⟩) rfl rfl ?_
                refine r_if_ne1 (pc' := 94) rfl rfl (by decide) (by decide) ?_
                refine r_aload (pc' := 96) rfl rfl rfl ?_
                refine r_getr (pc' := 99) (v := (225 + 2 * f)) rfl rfl rfl (sho_224 (by omega)) (rfo_224 (by omega)) ?_
                refine r_iload (pc' := 100) rfl rfl rfl ?_
                refine r_aload (pc' := 102) rfl rfl rfl ?_
                refine r_getr (pc' := 105) (v := (225 + 2 * t)) rfl rfl rfl (sho_224 (by omega)) (rfo_224 (by omega)) ?_
                refine r_iload (pc' := 107) rfl rfl rfl ?_
                refine r_iload (pc' := 109) rfl rfl rfl ?_
                refine r_cpy (pc' := 112) 24 rfl rfl ⟨(sho_225 (by omega)), (sho_225 (by omega)), by decide⟩ (by omega) ?_
                have hB14 : Bd (mx_cp S (225 + 2 * f) i (225 + 2 * t) j n) := Bd_cp hB (fun k _ _ => by have q1 := bdp_225 (i := f) (by omega) (i + k); have q2 := bdp_225 (i := t) (by omega) (j + k); omega)
                refine r_iload (pc' := 114) rfl rfl rfl ?_
                refine q_iret rfl rfl rfl ?_
                have ew : w_X10_copy S f i t j n = (n, (mx_cp S (225 + 2 * f) i (225 + 2 * t) j n)) := by unfold w_X10_copy; rw [if_pos h1, if_pos h2, if_neg h4, if_neg h6, if_pos h9, if_pos h11, if_pos h13]
                exact ⟨by rw [ew], by rw [ew], hB14⟩
              · skip
                refine q_callE (pc' := 88) (w := some (.inl 0)) (S2 := S) (st' := [.inl 0]) rfl rfl rfl (bi_neg h13 (c_X5_hasRoom (s := t) (i := j) (n := n) (S := S) hB (show 0 ≤ t ∧ t < 4 from by omega) (show -2147483648 ≤ j ∧ j < 2147483648 from by omega) (show -2147483648 ≤ n ∧ n < 2147483648 from by omega))) (by decide) rfl rfl (Nat.le_of_ble_eq_true rfl) (fun _ _ => ⟨_, _, rfl, (sho_224 (by omega))⟩) rfl rfl ?_
                refine r_if_ne0 (pc' := 91) rfl rfl (by decide) (by decide) ?_
                refine r_const (pc' := 93) rfl rfl ?_
                refine q_iret rfl rfl rfl ?_
                have ew : w_X10_copy S f i t j n = ((-13), S) := by unfold w_X10_copy; rw [if_pos h1, if_pos h2, if_neg h4, if_neg h6, if_pos h9, if_pos h11, if_neg h13]
                exact ⟨by rw [ew], by rw [ew], hB⟩
            · skip
              refine q_callE (pc' := 76) (w := some (.inl 0)) (S2 := S) (st' := [.inl 0]) rfl rfl rfl (bi_neg h11 (c_X5_hasRoom (s := f) (i := i) (n := n) (S := S) hB (show 0 ≤ f ∧ f < 4 from by omega) (show -2147483648 ≤ i ∧ i < 2147483648 from by omega) (show -2147483648 ≤ n ∧ n < 2147483648 from by omega))) (by decide) rfl rfl (Nat.le_of_ble_eq_true rfl) (fun _ _ => ⟨_, _, rfl, (sho_224 (by omega))⟩) rfl rfl ?_
              refine r_if_eq1 (pc' := 91) rfl rfl (by decide) (by decide) ?_
              refine r_const (pc' := 93) rfl rfl ?_
              refine q_iret rfl rfl rfl ?_
              have ew : w_X10_copy S f i t j n = ((-13), S) := by unfold w_X10_copy; rw [if_pos h1, if_pos h2, if_neg h4, if_neg h6, if_pos h9, if_neg h11]
              exact ⟨by rw [ew], by rw [ew], hB⟩
          · refine r_icmp_eq0 (pc' := 65) rfl rfl (by omega) (by omega) ?_
            refine r_const (pc' := 67) rfl rfl ?_
            refine q_iret rfl rfl rfl ?_
            have ew : w_X10_copy S f i t j n = ((-15), S) := by unfold w_X10_copy; rw [if_pos h1, if_pos h2, if_neg h4, if_neg h6, if_neg h9]
            exact ⟨by rw [ew], by rw [ew], hB⟩
    · skip
      refine q_callE (pc' := 11) (w := some (.inl 0)) (S2 := S) (st' := [.inl 0]) rfl rfl rfl (bi_neg h2 (c_X10_isShelf (s := t) (S := S)  (show -2147483648 ≤ t ∧ t < 2147483648 from by omega))) (by decide) rfl rfl (Nat.le_of_ble_eq_true rfl) (fun q => absurd rfl q) rfl rfl ?_
      refine r_if_ne0 (pc' := 14) rfl rfl (by decide) (by decide) ?_
      refine r_const (pc' := 16) rfl rfl ?_
      refine q_iret rfl rfl rfl ?_
      have ew : w_X10_copy S f i t j n = ((-2), S) := by unfold w_X10_copy; rw [if_pos h1, if_neg h2]
      exact ⟨by rw [ew], by rw [ew], hB⟩
  · skip
    refine q_callE (pc' := 4) (w := some (.inl 0)) (S2 := S) (st' := [.inl 0]) rfl rfl rfl (bi_neg h1 (c_X10_isShelf (s := f) (S := S)  (show -2147483648 ≤ f ∧ f < 2147483648 from by omega))) (by decide) rfl rfl (Nat.le_of_ble_eq_true rfl) (fun q => absurd rfl q) rfl rfl ?_
    refine r_if_eq1 (pc' := 14) rfl rfl (by decide) (by decide) ?_
    refine r_const (pc' := 16) rfl rfl ?_
    refine q_iret rfl rfl rfl ?_
    have ew : w_X10_copy S f i t j n = ((-2), S) := by unfold w_X10_copy; rw [if_neg h1]
    exact ⟨by rw [ew], by rw [ew], hB⟩
/-- a field of a tale more: found, minutes, from, blocked -/
def wsC (S : rS) (t c : Int) : Int → Int × Int × Int × Int → Int × Int × Int × Int := fun kk z =>
  if z.2.2.2 = 1 then z else if S 27 kk = t ∧ S 28 kk = c then (if S (52 + z.2.2.1) kk < 1000000 ∧ (S 26 kk ≠ 1 ∨ S 59 5 < 5) then (1, z.2.1 + (S (52 + z.2.2.1) kk + mins (S 26 kk) (pop (S 60 kk))), kk, 0) else (z.1, z.2.1, z.2.2.1, 1)) else z
def whC (S : rS) (t : Int) : Int × Int × Int × Int := fo (fun c z => fo (wsC S t (c + 1)) z (S 25 0).toNat) (0, 0, S 59 4, 0) 9
def whm (S : rS) (t : Int) : Int := if (whC S t).2.2.2 = 1 then -1 else if (whC S t).1 = 0 then -1 else (whC S t).2.1
theorem n01 : ¬ ((0 : Int) = 1) := by decide
theorem wsC_b {S : rS} {t c : Int} {z : Int × Int × Int × Int} (h : z.2.2.2 = 1) (k : Int) : wsC S t c k z = z := if_pos h
theorem whC_b {S : rS} {t c : Int} {z : Int × Int × Int × Int} (h : z.2.2.2 = 1) : ∀ n : Nat, fo (wsC S t c) z n = z
  | 0 => rfl
  | n + 1 => by show wsC S t c _ (fo _ _ n) = z; rw [whC_b h n]; exact wsC_b h _
theorem c_X10_wholeMinutes {t : Int} {S : rS} (hB : Bd S) (h_t : -2147483648 ≤ t ∧ t < 2147483648) : CS 3 52 [.inr (.inr 0), .inl t] S (fun r' S' => r' = some (.inl (whm S t)) ∧ S' = S) := by
  refine RS.beg (ls := [some (.inr (.inr 0)), some (.inl t), none, none, none, none, none]) rfl rfl rfl rfl rfl ?_
  have b0 : 0 ≤ S 25 0 ∧ S 25 0 ≤ 7 := hB 25 0
  have b594 : 0 ≤ S 59 4 ∧ S 59 4 ≤ 6 := hB 59 4
  have b591 : 0 ≤ S 59 1 ∧ S 59 1 ≤ 127 := hB 59 1
  have b592 : 0 ≤ S 59 2 ∧ S 59 2 ≤ 99 := hB 59 2
  have b593 : 0 ≤ S 59 3 ∧ S 59 3 ≤ 999 := hB 59 3
  have b1 : 0 ≤ S 25 13 ∧ S 25 13 ≤ 99 := hB 25 13
  refine r_const (pc' := 1) rfl rfl ?_
  refine r_istore (pc' := 2) (ls' := [some (.inr (.inr 0)), some (.inl t), some (.inl 0), none, none, none, none]) rfl rfl rfl rfl ?_
  refine r_const (pc' := 3) rfl rfl ?_
  refine r_istore (pc' := 4) (ls' := [some (.inr (.inr 0)), some (.inl t), some (.inl 0), some (.inl 0), none, none, none]) rfl rfl rfl rfl ?_
  refine r_aload (pc' := 5) rfl rfl rfl ?_
  refine r_getr (pc' := 8) (v := 59) rfl rfl rfl rfl rfl ?_
  refine r_getv (pc' := 11) (v := (S 59 4)) rfl rfl (Or.inl rfl) rfl rfl ?_
  have b1 : 0 ≤ S 59 4 ∧ S 59 4 ≤ 6 := hB 59 4
  refine r_istore (pc' := 13) (ls' := [some (.inr (.inr 0)), some (.inl t), some (.inl 0), some (.inl 0), some (.inl (S 59 4)), none, none]) rfl rfl rfl rfl ?_
  refine r_const (pc' := 14) rfl rfl ?_
  refine r_istore (pc' := 16) (ls' := [some (.inr (.inr 0)), some (.inl t), some (.inl 0), some (.inl 0), some (.inl (S 59 4)), some (.inl 1), none]) rfl rfl rfl rfl ?_
  refine r_while (α := Int × Int × Int × Int) (fun z' => [some (.inr (.inr 0)), some (.inl t), some (.inl z'.1), some (.inl z'.2.1), some (.inl z'.2.2.1), some (.inl z'.2.2.2), none]) (fun z' => S) (fun z' => (1 ≤ z'.2.2.2 ∧ z'.2.2.2 ≤ 10) ∧ ((z'.1 = 0 ∨ z'.1 = 1) ∧ 0 ≤ z'.2.2.1 ∧ z'.2.2.1 < 7) ∧ (fo (fun cc z => fo (wsC S t (cc + 1)) z (S 25 0).toNat) (0, 0, S 59 4, 0) (z'.2.2.2 - 1).toNat = (z'.1, z'.2.1, z'.2.2.1, 0))) (fun z' => (10 - z'.2.2.2).toNat) ?_ (0, 0, (S 59 4), 1) (show (1 ≤ (1 : Int) ∧ (1 : Int) ≤ 10) ∧ (((0 : Int) = 0 ∨ (0 : Int) = 1) ∧ 0 ≤ (S 59 4) ∧ (S 59 4) < 7) ∧ (fo (fun cc z => fo (wsC S t (cc + 1)) z (S 25 0).toNat) (0, 0, S 59 4, 0) ((1 : Int) - 1).toNat = ((0 : Int), (0 : Int), (S 59 4), 0)) from by exact ⟨by omega, by omega, rfl⟩)
  rintro ⟨d0, m0, a0, c⟩ hI' ih16
  have hI' : (1 ≤ c ∧ c ≤ 10) ∧ ((d0 = 0 ∨ d0 = 1) ∧ 0 ≤ a0 ∧ a0 < 7) ∧ (fo (fun cc z => fo (wsC S t (cc + 1)) z (S 25 0).toNat) (0, 0, S 59 4, 0) (c - 1).toNat = (d0, m0, a0, 0)) := hI'
  obtain ⟨i1, i2, i4⟩ := hI'
  show RS _ _ _ _ [some (.inr (.inr 0)), some (.inl t), some (.inl d0), some (.inl m0), some (.inl a0), some (.inl c), none] [] S
  have b2 : 0 ≤ S 25 0 ∧ S 25 0 ≤ 7 := hB 25 0
  refine r_iload (pc' := 18) rfl rfl rfl ?_
  refine r_const (pc' := 20) rfl rfl ?_
  by_cases h3 : 9 < c
  · refine r_icmp_gt1 (pc' := 154) rfl rfl (by omega) (by omega) ?_
    refine r_iload (pc' := 155) rfl rfl rfl ?_
    by_cases h4 : d0 = 0
    · refine r_if_eq1 (pc' := 162) rfl rfl (by omega) (by omega) ?_
      refine r_const (pc' := 163) rfl rfl ?_
      refine q_iret rfl rfl rfl ?_
      have e2 : whC S t = (d0, m0, a0, 0) := by unfold whC; rw [show (9 : Nat) = (c - 1).toNat by omega]; exact i4
      exact ⟨by unfold whm; rw [e2, if_neg n01]; first | (rw [if_pos (by assumption)]; done) | (rw [if_neg (by assumption)]; done), rfl⟩
    · refine r_if_eq0 (pc' := 158) rfl rfl (by omega) (by omega) ?_
      refine r_iload (pc' := 159) rfl rfl rfl ?_
      refine r_goto (pc' := 163) rfl rfl ?_
      refine q_iret rfl rfl rfl ?_
      have e2 : whC S t = (d0, m0, a0, 0) := by unfold whC; rw [show (9 : Nat) = (c - 1).toNat by omega]; exact i4
      exact ⟨by unfold whm; rw [e2, if_neg n01]; first | (rw [if_pos (by assumption)]; done) | (rw [if_neg (by assumption)]; done), rfl⟩
  · refine r_icmp_gt0 (pc' := 23) rfl rfl (by omega) (by omega) ?_
    refine r_const (pc' := 24) rfl rfl ?_
    refine r_istore (pc' := 26) (ls' := [some (.inr (.inr 0)), some (.inl t), some (.inl d0), some (.inl m0), some (.inl a0), some (.inl c), some (.inl 0)]) rfl rfl rfl rfl ?_
    refine r_while (α := Int × Int × Int × Int) (fun z' => [some (.inr (.inr 0)), some (.inl t), some (.inl z'.1), some (.inl z'.2.1), some (.inl z'.2.2.1), some (.inl c), some (.inl z'.2.2.2)]) (fun z' => S) (fun z' => (0 ≤ z'.2.2.2 ∧ z'.2.2.2 ≤ S 25 0) ∧ ((z'.1 = 0 ∨ z'.1 = 1) ∧ 0 ≤ z'.2.2.1 ∧ z'.2.2.1 < 7) ∧ (fo (wsC S t (c - 1 + 1)) (d0, m0, a0, 0) (z'.2.2.2).toNat = (z'.1, z'.2.1, z'.2.2.1, 0))) (fun z' => (S 25 0 - z'.2.2.2).toNat) ?_ (d0, m0, a0, 0) (show (0 ≤ (0 : Int) ∧ (0 : Int) ≤ S 25 0) ∧ ((d0 = 0 ∨ d0 = 1) ∧ 0 ≤ a0 ∧ a0 < 7) ∧ (fo (wsC S t (c - 1 + 1)) (d0, m0, a0, 0) (0 : Int).toNat = (d0, m0, a0, 0)) from by exact ⟨by omega, by omega, rfl⟩)
    rintro ⟨d, m, a, f⟩ hI' ih26
    have hI' : (0 ≤ f ∧ f ≤ S 25 0) ∧ ((d = 0 ∨ d = 1) ∧ 0 ≤ a ∧ a < 7) ∧ (fo (wsC S t (c - 1 + 1)) (d0, m0, a0, 0) f.toNat = (d, m, a, 0)) := hI'
    obtain ⟨i5, i6, i7⟩ := hI'
    show RS _ _ _ _ [some (.inr (.inr 0)), some (.inl t), some (.inl d), some (.inl m), some (.inl a), some (.inl c), some (.inl f)] [] S
    refine r_iload (pc' := 28) rfl rfl rfl ?_
    refine r_aload (pc' := 29) rfl rfl rfl ?_
    refine r_getr (pc' := 32) (v := 25) rfl rfl rfl rfl rfl ?_
    refine r_getv (pc' := 35) (v := (S 25 0)) rfl rfl (Or.inl rfl) rfl rfl ?_
    by_cases h5 : f < (S 25 0)
    · refine r_icmp_ge0 (pc' := 38) rfl rfl (by omega) (by omega) ?_
      refine r_aload (pc' := 39) rfl rfl rfl ?_
      refine r_getr (pc' := 42) (v := 25) rfl rfl rfl rfl rfl ?_
      refine r_getr (pc' := 45) (v := 27) rfl rfl rfl rfl rfl ?_
      refine r_iload (pc' := 47) rfl rfl rfl ?_
      refine r_aldv (pc' := 48) (v := (S 27 f)) 7 rfl rfl rfl (by omega) rfl ?_
      have b6 : 0 ≤ S 27 f ∧ S 27 f ≤ 3 := hB 27 f
      refine r_iload (pc' := 49) rfl rfl rfl ?_
      by_cases h7 : (S 27 f) = t
      · refine r_icmp_ne0 (pc' := 52) rfl rfl (by omega) (by omega) ?_
        refine r_aload (pc' := 53) rfl rfl rfl ?_
        refine r_getr (pc' := 56) (v := 25) rfl rfl rfl rfl rfl ?_
        refine r_getr (pc' := 59) (v := 28) rfl rfl rfl rfl rfl ?_
        refine r_iload (pc' := 61) rfl rfl rfl ?_
        refine r_aldv (pc' := 62) (v := (S 28 f)) 7 rfl rfl rfl (by omega) rfl ?_
        have b8 : 0 ≤ S 28 f ∧ S 28 f ≤ 9 := hB 28 f
        refine r_iload (pc' := 64) rfl rfl rfl ?_
        by_cases h9 : (S 28 f) = c
        · refine r_icmp_eq1 (pc' := 70) rfl rfl (by omega) (by omega) ?_
          refine r_aload (pc' := 71) rfl rfl rfl ?_
          refine r_getr (pc' := 74) (v := 25) rfl rfl rfl rfl rfl ?_
          refine r_getr (pc' := 77) (v := 51) rfl rfl rfl rfl rfl ?_
          refine r_iload (pc' := 79) rfl rfl rfl ?_
          refine r_aald (pc' := 80) (v := (52 + a)) 102007 rfl rfl rfl rfl (by omega) rfl ?_
          refine r_iload (pc' := 82) rfl rfl rfl ?_
          refine r_aldv (pc' := 83) (v := (S (52 + a) f)) 7 rfl rfl (shr_52 (by omega)) (by omega) rfl ?_
          have b10 : 0 ≤ S (52 + a) f ∧ S (52 + a) f ≤ 1000000 := bdr_52 hB (by omega) f
          refine r_const (pc' := 85) rfl rfl ?_
          by_cases h11 : (S (52 + a) f) < 1000000
          · refine r_icmp_ge0 (pc' := 88) rfl rfl (by omega) (by omega) ?_
            refine r_aload (pc' := 89) rfl rfl rfl ?_
            refine r_getr (pc' := 92) (v := 59) rfl rfl rfl rfl rfl ?_
            refine r_aload (pc' := 93) rfl rfl rfl ?_
            refine r_getr (pc' := 96) (v := 25) rfl rfl rfl rfl rfl ?_
            refine r_iload (pc' := 98) rfl rfl rfl ?_
            have b12 : 0 ≤ S 26 f ∧ S 26 f ≤ 3 := hB 26 f
            have b13 : 0 ≤ S 59 5 ∧ S 59 5 ≤ 9 := hB 59 5
            by_cases h14 : S 26 f ≠ 1 ∨ S 59 5 < 5
            · skip
              refine q_callE (pc' := 101) (w := some (.inl 1)) (S2 := S) (st' := [.inl 1]) rfl rfl rfl (bi_pos h14 (c_X7_canBeRead (f := f) (S := S) hB (show 0 ≤ f ∧ f < 7 from by omega))) (by decide) rfl rfl (Nat.le_of_ble_eq_true rfl) (fun _ _ => ⟨_, _, rfl, rfl⟩) rfl rfl ?_
              refine r_if_ne1 (pc' := 106) rfl rfl (by decide) (by decide) ?_
              refine r_iload (pc' := 107) rfl rfl rfl ?_
              refine r_aload (pc' := 108) rfl rfl rfl ?_
              refine r_getr (pc' := 111) (v := 25) rfl rfl rfl rfl rfl ?_
              refine r_getr (pc' := 114) (v := 51) rfl rfl rfl rfl rfl ?_
              refine r_iload (pc' := 116) rfl rfl rfl ?_
              refine r_aald (pc' := 117) (v := (52 + a)) 102007 rfl rfl rfl rfl (by omega) rfl ?_
              refine r_iload (pc' := 119) rfl rfl rfl ?_
              refine r_aldv (pc' := 120) (v := (S (52 + a) f)) 7 rfl rfl (shr_52 (by omega)) (by omega) rfl ?_
              refine r_aload (pc' := 121) rfl rfl rfl ?_
              refine r_getr (pc' := 124) (v := 59) rfl rfl rfl rfl rfl ?_
              refine r_aload (pc' := 125) rfl rfl rfl ?_
              refine r_getr (pc' := 128) (v := 25) rfl rfl rfl rfl rfl ?_
              refine r_iload (pc' := 130) rfl rfl rfl ?_
              have b15 : 0 ≤ S 60 f ∧ S 60 f ≤ 255 := hB 60 f
              refine q_callE (pc' := 133) (w := some (.inl (mins (S 26 f) (pop (S 60 f))))) (S2 := S) (st' := [.inl (mins (S 26 f) (pop (S 60 f))), .inl (S (52 + a) f), .inl m]) rfl rfl rfl (c_X7_readingMinutes (f := f) (S := S) hB (show 0 ≤ f ∧ f < 7 from by omega)) (by decide) rfl rfl (Nat.le_of_ble_eq_true rfl) (fun _ _ => ⟨_, _, rfl, rfl⟩) rfl rfl ?_
              have b16 : 0 ≤ (mins (S 26 f) (pop (S 60 f))) ∧ (mins (S 26 f) (pop (S 60 f))) ≤ 38 := by have q1 := mins_r (k := S 26 f) (pop_r (S 60 f)).1; have q2 := pop_r (S 60 f); omega
              refine r_iadd (pc' := 134) rfl rfl ?_
              refine r_iadd (pc' := 135) rfl rfl ?_
              refine r_istore (pc' := 136) (ls' := [some (.inr (.inr 0)), some (.inl t), some (.inl d), some (.inl (m + ((S (52 + a) f) + (mins (S 26 f) (pop (S 60 f)))))), some (.inl a), some (.inl c), some (.inl f)]) rfl rfl rfl rfl ?_
              refine r_iload (pc' := 138) rfl rfl rfl ?_
              refine r_istore (pc' := 140) (ls' := [some (.inr (.inr 0)), some (.inl t), some (.inl d), some (.inl (m + ((S (52 + a) f) + (mins (S 26 f) (pop (S 60 f)))))), some (.inl f), some (.inl c), some (.inl f)]) rfl rfl rfl rfl ?_
              refine r_const (pc' := 141) rfl rfl ?_
              refine r_istore (pc' := 142) (ls' := [some (.inr (.inr 0)), some (.inl t), some (.inl 1), some (.inl (m + ((S (52 + a) f) + (mins (S 26 f) (pop (S 60 f)))))), some (.inl f), some (.inl c), some (.inl f)]) rfl rfl rfl rfl ?_
              refine r_iinc (pc' := 145) (ls' := [some (.inr (.inr 0)), some (.inl t), some (.inl 1), some (.inl (m + ((S (52 + a) f) + (mins (S 26 f) (pop (S 60 f)))))), some (.inl f), some (.inl c), some (.inl (f + 1))]) rfl rfl rfl rfl rfl ?_
              refine r_goto (pc' := 26) rfl rfl ?_
              exact ih26 (1, (m + ((S (52 + a) f) + (mins (S 26 f) (pop (S 60 f))))), f, (f + 1)) (show (0 ≤ (f + 1) ∧ (f + 1) ≤ S 25 0) ∧ (((1 : Int) = 0 ∨ (1 : Int) = 1) ∧ 0 ≤ f ∧ f < 7) ∧ (fo (wsC S t (c - 1 + 1)) (d0, m0, a0, 0) (f + 1).toNat = ((1 : Int), (m + ((S (52 + a) f) + (mins (S 26 f) (pop (S 60 f))))), f, 0)) from by exact ⟨by omega, by omega, by rw [fo_s (by omega), i7]; unfold wsC; rw [if_neg n01, if_pos ⟨by omega, by omega⟩, if_pos ⟨by omega, by assumption⟩]⟩) (show (S 25 0 - (f + 1)).toNat < (S 25 0 - f).toNat from by omega)
            · skip
              refine q_callE (pc' := 101) (w := some (.inl 0)) (S2 := S) (st' := [.inl 0]) rfl rfl rfl (bi_neg h14 (c_X7_canBeRead (f := f) (S := S) hB (show 0 ≤ f ∧ f < 7 from by omega))) (by decide) rfl rfl (Nat.le_of_ble_eq_true rfl) (fun _ _ => ⟨_, _, rfl, rfl⟩) rfl rfl ?_
              refine r_if_ne0 (pc' := 104) rfl rfl (by decide) (by decide) ?_
              refine r_const (pc' := 105) rfl rfl ?_
              refine q_iret rfl rfl rfl ?_
              have e : fo (wsC S t (c - 1 + 1)) (d0, m0, a0, 0) (S 25 0).toNat = (d, m, a, 1) := by
                refine fo_stop (n := (f + 1).toNat) ?_ (fun k => wsC_b rfl k) _ (by omega)
                rw [fo_s (by omega), i7]; unfold wsC; rw [if_neg n01, if_pos ⟨by omega, by omega⟩, if_neg (fun q => by first | exact absurd q.1 (by omega) | exact absurd q.2 (by assumption))]
              have e2 : whC S t = (d, m, a, 1) := by
                unfold whC
                refine fo_stop (n := (c - 1 + 1).toNat) ?_ (fun k => whC_b rfl _) _ (by omega)
                rw [fo_s (by omega), i4]; exact e
              exact ⟨by unfold whm; rw [e2]; rfl, rfl⟩
          · refine r_icmp_ge1 (pc' := 104) rfl rfl (by omega) (by omega) ?_
            refine r_const (pc' := 105) rfl rfl ?_
            refine q_iret rfl rfl rfl ?_
            have e : fo (wsC S t (c - 1 + 1)) (d0, m0, a0, 0) (S 25 0).toNat = (d, m, a, 1) := by
              refine fo_stop (n := (f + 1).toNat) ?_ (fun k => wsC_b rfl k) _ (by omega)
              rw [fo_s (by omega), i7]; unfold wsC; rw [if_neg n01, if_pos ⟨by omega, by omega⟩, if_neg (fun q => by first | exact absurd q.1 (by omega) | exact absurd q.2 (by assumption))]
            have e2 : whC S t = (d, m, a, 1) := by
              unfold whC
              refine fo_stop (n := (c - 1 + 1).toNat) ?_ (fun k => whC_b rfl _) _ (by omega)
              rw [fo_s (by omega), i4]; exact e
            exact ⟨by unfold whm; rw [e2]; rfl, rfl⟩
        · refine r_icmp_eq0 (pc' := 67) rfl rfl (by omega) (by omega) ?_
          refine r_goto (pc' := 142) rfl rfl ?_
          refine r_iinc (pc' := 145) (ls' := [some (.inr (.inr 0)), some (.inl t), some (.inl d), some (.inl m), some (.inl a), some (.inl c), some (.inl (f + 1))]) rfl rfl rfl rfl rfl ?_
          refine r_goto (pc' := 26) rfl rfl ?_
          exact ih26 (d, m, a, (f + 1)) (show (0 ≤ (f + 1) ∧ (f + 1) ≤ S 25 0) ∧ ((d = 0 ∨ d = 1) ∧ 0 ≤ a ∧ a < 7) ∧ (fo (wsC S t (c - 1 + 1)) (d0, m0, a0, 0) (f + 1).toNat = (d, m, a, 0)) from by exact ⟨by omega, by omega, by rw [fo_s (by omega), i7]; unfold wsC; rw [if_neg n01, if_neg (by omega)]⟩) (show (S 25 0 - (f + 1)).toNat < (S 25 0 - f).toNat from by omega)
      · refine r_icmp_ne1 (pc' := 142) rfl rfl (by omega) (by omega) ?_
        refine r_iinc (pc' := 145) (ls' := [some (.inr (.inr 0)), some (.inl t), some (.inl d), some (.inl m), some (.inl a), some (.inl c), some (.inl (f + 1))]) rfl rfl rfl rfl rfl ?_
        refine r_goto (pc' := 26) rfl rfl ?_
        exact ih26 (d, m, a, (f + 1)) (show (0 ≤ (f + 1) ∧ (f + 1) ≤ S 25 0) ∧ ((d = 0 ∨ d = 1) ∧ 0 ≤ a ∧ a < 7) ∧ (fo (wsC S t (c - 1 + 1)) (d0, m0, a0, 0) (f + 1).toNat = (d, m, a, 0)) from by exact ⟨by omega, by omega, by rw [fo_s (by omega), i7]; unfold wsC; rw [if_neg n01, if_neg (by omega)]⟩) (show (S 25 0 - (f + 1)).toNat < (S 25 0 - f).toNat from by omega)
    · refine r_icmp_ge1 (pc' := 148) rfl rfl (by omega) (by omega) ?_
      refine r_iinc (pc' := 151) (ls' := [some (.inr (.inr 0)), some (.inl t), some (.inl d), some (.inl m), some (.inl a), some (.inl (c + 1)), some (.inl f)]) rfl rfl rfl rfl rfl ?_
      refine r_goto (pc' := 16) rfl rfl ?_
      refine r_forget [true, true, true, true, true, true, false] rfl ?_
      exact ih16 (d, m, a, (c + 1)) (show (1 ≤ (c + 1) ∧ (c + 1) ≤ 10) ∧ ((d = 0 ∨ d = 1) ∧ 0 ≤ a ∧ a < 7) ∧ (fo (fun cc z => fo (wsC S t (cc + 1)) z (S 25 0).toNat) (0, 0, S 59 4, 0) ((c + 1) - 1).toNat = (d, m, a, 0)) from by exact ⟨by omega, by omega, by rw [show c + 1 - 1 = c - 1 + 1 by omega, fo_s (by omega), i4, show S 25 0 = f by omega]; exact i7⟩) (show (10 - (c + 1)).toNat < (10 - c).toNat from by omega)
noncomputable def v_X10_whole (S : rS) (t : Int) : Int := if t < 0 then (-2) else if t < 4 then whm S t else (-2)
theorem c_X10_whole {t : Int} {S : rS} (hB : Bd S) (h_t : -2147483648 ≤ t ∧ t < 2147483648) : CS 4 51 [.inr (.inr 0), .inl t] S (fun r' S' => r' = some (.inl (v_X10_whole S t)) ∧ S' = S) := by
  refine RS.beg (ls := [some (.inr (.inr 0)), some (.inl t)]) rfl rfl rfl rfl rfl ?_
  refine r_iload (pc' := 1) rfl rfl rfl ?_
  by_cases h1 : t < 0
  · refine r_if_lt1 (pc' := 9) rfl rfl (by omega) (by omega) ?_
    refine r_const (pc' := 11) rfl rfl ?_
    refine q_iret rfl rfl rfl ?_
    exact ⟨by unfold v_X10_whole; rw [if_pos h1], rfl⟩
  · refine r_if_lt0 (pc' := 4) rfl rfl (by omega) (by omega) ?_
    refine r_iload (pc' := 5) rfl rfl rfl ?_
    refine r_const (pc' := 6) rfl rfl ?_
    by_cases h2 : t < 4
    · refine r_icmp_lt1 (pc' := 12) rfl rfl (by omega) (by omega) ?_
      refine r_aload (pc' := 13) rfl rfl rfl ?_
      refine r_iload (pc' := 14) rfl rfl rfl ?_
      refine q_callE (pc' := 17) (w := some (.inl (whm S t))) (S2 := S) (st' := [.inl (whm S t)]) rfl rfl rfl (c_X10_wholeMinutes (t := t) (S := S) hB (show -2147483648 ≤ t ∧ t < 2147483648 from by omega)) (by decide) rfl rfl (Nat.le_of_ble_eq_true rfl) (fun _ _ => ⟨_, _, rfl, rfl⟩) rfl rfl ?_
      refine q_iret rfl rfl rfl ?_
      exact ⟨by unfold v_X10_whole; rw [if_neg h1, if_pos h2], rfl⟩
    · refine r_icmp_lt0 (pc' := 9) rfl rfl (by omega) (by omega) ?_
      refine r_const (pc' := 11) rfl rfl ?_
      refine q_iret rfl rfl rfl ?_
      exact ⟨by unfold v_X10_whole; rw [if_neg h1, if_neg h2], rfl⟩
theorem wsC_m {S : rS} (hB : Bd S) {t c y : Int} {z : Int × Int × Int × Int} (h : (0 ≤ z.2.1 ∧ z.2.1 ≤ y) ∧ 0 ≤ z.2.2.1 ∧ z.2.2.1 < 7) {k : Int} (hk : 0 ≤ k ∧ k < 7) : (0 ≤ (wsC S t c k z).2.1 ∧ (wsC S t c k z).2.1 ≤ y + 1000038) ∧ 0 ≤ (wsC S t c k z).2.2.1 ∧ (wsC S t c k z).2.2.1 < 7 := by
  have q1 := bdr_52 hB (i := z.2.2.1) (by omega) k
  have q2 := pop_r (S 60 k)
  have q3 := mins_r (k := S 26 k) q2.1
  unfold wsC
  split
  · omega
  · split
    · split
      · show (0 ≤ z.2.1 + _ ∧ z.2.1 + _ ≤ _) ∧ 0 ≤ k ∧ k < 7; omega
      · show (0 ≤ z.2.1 ∧ z.2.1 ≤ _) ∧ 0 ≤ z.2.2.1 ∧ z.2.2.1 < 7; omega
    · omega
theorem whC_m {S : rS} (hB : Bd S) (t : Int) : (0 ≤ (whC S t).2.1 ∧ (whC S t).2.1 ≤ 63002394) := by
  have b : 0 ≤ S 25 0 ∧ S 25 0 ≤ 7 := hB 25 0
  have b4 : 0 ≤ S 59 4 ∧ S 59 4 ≤ 6 := hB 59 4
  have inner : ∀ (c y : Int) (z : Int × Int × Int × Int), (0 ≤ z.2.1 ∧ z.2.1 ≤ y) ∧ 0 ≤ z.2.2.1 ∧ z.2.2.1 < 7 → (0 ≤ (fo (wsC S t c) z (S 25 0).toNat).2.1 ∧ (fo (wsC S t c) z (S 25 0).toNat).2.1 ≤ y + 7000266) ∧ 0 ≤ (fo (wsC S t c) z (S 25 0).toNat).2.2.1 ∧ (fo (wsC S t c) z (S 25 0).toNat).2.2.1 < 7 := by
    intro c y z hz
    have := fo_ind (f := wsC S t c) (a := z) (fun k z => (0 ≤ z.2.1 ∧ z.2.1 ≤ y + 1000038 * k) ∧ 0 ≤ z.2.2.1 ∧ z.2.2.1 < 7) (by omega) (N := (S 25 0).toNat) (fun k s h0 h1 hs => by
      have q := wsC_m hB (t := t) (c := c) (z := s) (y := y + 1000038 * k) hs (k := k) (by omega)
      omega) (S 25 0).toNat (Nat.le_refl _)
    have e : (((S 25 0).toNat : Nat) : Int) = S 25 0 := Int.toNat_of_nonneg b.1
    rw [e] at this
    omega
  have := fo_ind (f := fun c z => fo (wsC S t (c + 1)) z (S 25 0).toNat) (a := (0, 0, S 59 4, 0)) (fun k z => (0 ≤ z.2.1 ∧ z.2.1 ≤ 7000266 * k) ∧ 0 ≤ z.2.2.1 ∧ z.2.2.1 < 7) (by show (0 ≤ (0 : Int) ∧ (0 : Int) ≤ _) ∧ 0 ≤ S 59 4 ∧ S 59 4 < 7; omega) (N := 9) (fun k s h0 h1 hs => by
      have q := inner (k + 1) (7000266 * k) s hs
      omega) 9 (Nat.le_refl _)
  have := this.1
  exact ⟨this.1, Int.le_trans this.2 (by decide)⟩
theorem whm_r {S : rS} (hB : Bd S) (t : Int) : -1 ≤ whm S t ∧ whm S t ≤ 63002394 := by
  have q := whC_m hB t
  unfold whm
  split
  · omega
  · split <;> omega
noncomputable def v_X10_before (S : rS) (t : Int) : Int := if t < 0 then (-2) else if t < 4 then if (whm S t) = (-1) then 0 else if (S 25 13) < ((S 59 2) + (whm S t)) then 0 else 1 else (-2)
theorem c_X10_before {t : Int} {S : rS} (hB : Bd S) (h_t : -2147483648 ≤ t ∧ t < 2147483648) : CS 4 12 [.inr (.inr 0), .inl t] S (fun r' S' => r' = some (.inl (v_X10_before S t)) ∧ S' = S) := by
  refine RS.beg (ls := [some (.inr (.inr 0)), some (.inl t), none]) rfl rfl rfl rfl rfl ?_
  have b594 : 0 ≤ S 59 4 ∧ S 59 4 ≤ 6 := hB 59 4
  have b591 : 0 ≤ S 59 1 ∧ S 59 1 ≤ 127 := hB 59 1
  have b592 : 0 ≤ S 59 2 ∧ S 59 2 ≤ 99 := hB 59 2
  have b593 : 0 ≤ S 59 3 ∧ S 59 3 ≤ 999 := hB 59 3
  have b1 : 0 ≤ S 25 13 ∧ S 25 13 ≤ 99 := hB 25 13
  refine r_iload (pc' := 1) rfl rfl rfl ?_
  by_cases h1 : t < 0
  · refine r_if_lt1 (pc' := 9) rfl rfl (by omega) (by omega) ?_
    refine r_const (pc' := 11) rfl rfl ?_
    refine q_iret rfl rfl rfl ?_
    exact ⟨by unfold v_X10_before; rw [if_pos h1], rfl⟩
  · refine r_if_lt0 (pc' := 4) rfl rfl (by omega) (by omega) ?_
    refine r_iload (pc' := 5) rfl rfl rfl ?_
    refine r_const (pc' := 6) rfl rfl ?_
    by_cases h2 : t < 4
    · refine r_icmp_lt1 (pc' := 12) rfl rfl (by omega) (by omega) ?_
      refine r_aload (pc' := 13) rfl rfl rfl ?_
      refine r_iload (pc' := 14) rfl rfl rfl ?_
      refine q_callE (pc' := 17) (w := some (.inl (whm S t))) (S2 := S) (st' := [.inl (whm S t)]) rfl rfl rfl (c_X10_wholeMinutes (t := t) (S := S) hB (show -2147483648 ≤ t ∧ t < 2147483648 from by omega)) (by decide) rfl rfl (Nat.le_of_ble_eq_true rfl) (fun _ _ => ⟨_, _, rfl, rfl⟩) rfl rfl ?_
      have b3 : -1 ≤ (whm S t) ∧ (whm S t) ≤ 63002394 := whm_r hB _
      refine r_istore (pc' := 18) (ls' := [some (.inr (.inr 0)), some (.inl t), some (.inl (whm S t))]) rfl rfl rfl rfl ?_
      refine r_iload (pc' := 19) rfl rfl rfl ?_
      refine r_const (pc' := 20) rfl rfl ?_
      by_cases h4 : (whm S t) = (-1)
      · refine r_icmp_eq1 (pc' := 46) rfl rfl (by omega) (by omega) ?_
        refine r_const (pc' := 47) rfl rfl ?_
        refine q_iret rfl rfl rfl ?_
        exact ⟨by unfold v_X10_before; rw [if_neg h1, if_pos h2, if_pos h4], rfl⟩
      · refine r_icmp_eq0 (pc' := 23) rfl rfl (by omega) (by omega) ?_
        refine r_aload (pc' := 24) rfl rfl rfl ?_
        refine r_getr (pc' := 27) (v := 59) rfl rfl rfl rfl rfl ?_
        refine r_getv (pc' := 30) (v := (S 59 2)) rfl rfl (Or.inl rfl) rfl rfl ?_
        have b5 : 0 ≤ S 59 2 ∧ S 59 2 ≤ 99 := hB 59 2
        refine r_iload (pc' := 31) rfl rfl rfl ?_
        refine r_iadd (pc' := 32) rfl rfl ?_
        refine r_aload (pc' := 33) rfl rfl rfl ?_
        refine r_getr (pc' := 36) (v := 25) rfl rfl rfl rfl rfl ?_
        refine r_getv (pc' := 39) (v := (S 25 13)) rfl rfl (Or.inl rfl) rfl rfl ?_
        have b6 : 0 ≤ S 25 13 ∧ S 25 13 ≤ 99 := hB 25 13
        by_cases h7 : (S 25 13) < ((S 59 2) + (whm S t))
        · refine r_icmp_gt1 (pc' := 46) rfl rfl (by omega) (by omega) ?_
          refine r_const (pc' := 47) rfl rfl ?_
          refine q_iret rfl rfl rfl ?_
          exact ⟨by unfold v_X10_before; rw [if_neg h1, if_pos h2, if_neg h4, if_pos h7], rfl⟩
        · refine r_icmp_gt0 (pc' := 42) rfl rfl (by omega) (by omega) ?_
          refine r_const (pc' := 43) rfl rfl ?_
          refine r_goto (pc' := 47) rfl rfl ?_
          refine q_iret rfl rfl rfl ?_
          exact ⟨by unfold v_X10_before; rw [if_neg h1, if_pos h2, if_neg h4, if_neg h7], rfl⟩
    · refine r_icmp_lt0 (pc' := 9) rfl rfl (by omega) (by omega) ?_
      refine r_const (pc' := 11) rfl rfl ?_
      refine q_iret rfl rfl rfl ?_
      exact ⟨by unfold v_X10_before; rw [if_neg h1, if_neg h2], rfl⟩
theorem c_X10_kinds {f : Int} {S : rS} (hB : Bd S) (h_f : -2147483648 ≤ f ∧ f < 2147483648) : CS 3 33 [.inr (.inr 0), .inl f] S (fun r' S' => r' = some (.inl (if 0 ≤ f ∧ f < S 25 0 then bs (fun kk => ∀ xx, 0 ≤ xx → xx < S 81 0 → S 82 xx = f → mins kk (S 83 xx) = S 84 xx) 4 else -2)) ∧ S' = S) := by
  refine RS.beg (ls := [some (.inr (.inr 0)), some (.inl f), none, none]) rfl rfl rfl rfl rfl ?_
  have b0 : 0 ≤ S 25 0 ∧ S 25 0 ≤ 7 := hB 25 0
  refine r_aload (pc' := 1) rfl rfl rfl ?_
  refine r_getr (pc' := 4) (v := 25) rfl rfl rfl rfl rfl ?_
  refine r_iload (pc' := 5) rfl rfl rfl ?_
  have b1 : 0 ≤ S 25 0 ∧ S 25 0 ≤ 7 := hB 25 0
  by_cases h2 : 0 ≤ f ∧ f < S 25 0
  · skip
    refine q_callE (pc' := 8) (w := some (.inl 1)) (S2 := S) (st' := [.inl 1]) rfl rfl rfl (bi_pos h2 (c_X3_hasField (f := f) (S := S) hB (show -2147483648 ≤ f ∧ f < 2147483648 from by omega))) (by decide) rfl rfl (Nat.le_of_ble_eq_true rfl) (fun _ _ => ⟨_, _, rfl, rfl⟩) rfl rfl ?_
    refine r_if_ne1 (pc' := 14) rfl rfl (by decide) (by decide) ?_
    refine r_const (pc' := 15) rfl rfl ?_
    refine r_istore (pc' := 16) (ls' := [some (.inr (.inr 0)), some (.inl f), some (.inl 0), none]) rfl rfl rfl rfl ?_
    refine r_const (pc' := 17) rfl rfl ?_
    refine r_istore (pc' := 18) (ls' := [some (.inr (.inr 0)), some (.inl f), some (.inl 0), some (.inl 0)]) rfl rfl rfl rfl ?_
    refine r_while (α := Int × Int) (fun z' => [some (.inr (.inr 0)), some (.inl f), some (.inl z'.2), some (.inl z'.1)]) (fun z' => S) (fun z' => (0 ≤ z'.1 ∧ z'.1 ≤ 4) ∧ (z'.2 = bs (fun kk => ∀ xx, 0 ≤ xx → xx < S 81 0 → S 82 xx = f → mins kk (S 83 xx) = S 84 xx) z'.1)) (fun z' => (4 - z'.1).toNat) ?_ (0, 0) (show (0 ≤ (0 : Int) ∧ (0 : Int) ≤ 4) ∧ ((0 : Int) = bs (fun kk => ∀ xx, 0 ≤ xx → xx < S 81 0 → S 82 xx = f → mins kk (S 83 xx) = S 84 xx) (0 : Int)) from by exact ⟨by omega, rfl⟩)
    rintro ⟨k, s⟩ hI' ih18
    have hI' : (0 ≤ k ∧ k ≤ 4) ∧ (s = bs (fun kk => ∀ xx, 0 ≤ xx → xx < S 81 0 → S 82 xx = f → mins kk (S 83 xx) = S 84 xx) k) := hI'
    obtain ⟨i1, i2⟩ := hI'
    show RS _ _ _ _ [some (.inr (.inr 0)), some (.inl f), some (.inl s), some (.inl k)] [] S
    have b3 : 0 ≤ S 81 0 ∧ S 81 0 ≤ 6 := hB 81 0
    refine r_iload (pc' := 19) rfl rfl rfl ?_
    refine r_const (pc' := 20) rfl rfl ?_
    by_cases h4 : k < 4
    · refine r_icmp_ge0 (pc' := 23) rfl rfl (by omega) (by omega) ?_
      refine r_aload (pc' := 24) rfl rfl rfl ?_
      refine r_getr (pc' := 27) (v := 81) rfl rfl rfl rfl rfl ?_
      refine r_iload (pc' := 28) rfl rfl rfl ?_
      refine r_iload (pc' := 29) rfl rfl rfl ?_
      by_cases h5 : ∀ xx, 0 ≤ xx → xx < S 81 0 → S 82 xx = f → mins k (S 83 xx) = S 84 xx
      · skip
        refine q_callE (pc' := 32) (w := some (.inl 1)) (S2 := S) (st' := [.inl 1]) rfl rfl rfl (bi_pos h5 (c_X6_agreeWith (f := f) (k := k) (S := S) hB (show -2147483648 ≤ f ∧ f < 2147483648 from by omega) (show -2147483648 ≤ k ∧ k < 2147483648 from by omega))) (by decide) rfl rfl (Nat.le_of_ble_eq_true rfl) (fun _ _ => ⟨_, _, rfl, rfl⟩) rfl rfl ?_
        refine r_if_eq0 (pc' := 35) rfl rfl (by decide) (by decide) ?_
        refine r_iload (pc' := 36) rfl rfl rfl ?_
        refine r_const (pc' := 37) rfl rfl ?_
        refine r_iload (pc' := 38) rfl rfl rfl ?_
        refine r_ishl (pc' := 39) rfl rfl ?_
        have b6 := mx_shl_r 1 k
        refine r_ior (pc' := 40) rfl rfl ?_
        have b7 := mx_or_r s (mx_shl 1 k)
        refine r_istore (pc' := 41) (ls' := [some (.inr (.inr 0)), some (.inl f), some (.inl (mx_or s (mx_shl 1 k))), some (.inl k)]) rfl rfl rfl rfl ?_
        refine r_iinc (pc' := 44) (ls' := [some (.inr (.inr 0)), some (.inl f), some (.inl (mx_or s (mx_shl 1 k))), some (.inl (k + 1))]) rfl rfl rfl rfl rfl ?_
        refine r_goto (pc' := 18) rfl rfl ?_
        exact ih18 ((k + 1), (mx_or s (mx_shl 1 k))) (show (0 ≤ (k + 1) ∧ (k + 1) ≤ 4) ∧ ((mx_or s (mx_shl 1 k)) = bs (fun kk => ∀ xx, 0 ≤ xx → xx < S 81 0 → S 82 xx = f → mins kk (S 83 xx) = S 84 xx) (k + 1)) from by exact ⟨by omega, by rw [i2]; first | exact (bs_t (by omega) (by first | assumption | (simp only [*]; done))).symm | exact (bs_f (by omega) (by first | assumption | (simp only [*]; done))).symm⟩) (show (4 - (k + 1)).toNat < (4 - k).toNat from by omega)
      · skip
        refine q_callE (pc' := 32) (w := some (.inl 0)) (S2 := S) (st' := [.inl 0]) rfl rfl rfl (bi_neg h5 (c_X6_agreeWith (f := f) (k := k) (S := S) hB (show -2147483648 ≤ f ∧ f < 2147483648 from by omega) (show -2147483648 ≤ k ∧ k < 2147483648 from by omega))) (by decide) rfl rfl (Nat.le_of_ble_eq_true rfl) (fun _ _ => ⟨_, _, rfl, rfl⟩) rfl rfl ?_
        refine r_if_eq1 (pc' := 41) rfl rfl (by decide) (by decide) ?_
        refine r_iinc (pc' := 44) (ls' := [some (.inr (.inr 0)), some (.inl f), some (.inl s), some (.inl (k + 1))]) rfl rfl rfl rfl rfl ?_
        refine r_goto (pc' := 18) rfl rfl ?_
        exact ih18 ((k + 1), s) (show (0 ≤ (k + 1) ∧ (k + 1) ≤ 4) ∧ (s = bs (fun kk => ∀ xx, 0 ≤ xx → xx < S 81 0 → S 82 xx = f → mins kk (S 83 xx) = S 84 xx) (k + 1)) from by exact ⟨by omega, by rw [i2]; first | exact (bs_t (by omega) (by first | assumption | (simp only [*]; done))).symm | exact (bs_f (by omega) (by first | assumption | (simp only [*]; done))).symm⟩) (show (4 - (k + 1)).toNat < (4 - k).toNat from by omega)
    · refine r_icmp_ge1 (pc' := 47) rfl rfl (by omega) (by omega) ?_
      refine r_iload (pc' := 48) rfl rfl rfl ?_
      refine q_iret rfl rfl rfl ?_
      obtain rfl : k = 4 := by omega
      exact ⟨by rw [if_pos h2, i2], rfl⟩
  · skip
    refine q_callE (pc' := 8) (w := some (.inl 0)) (S2 := S) (st' := [.inl 0]) rfl rfl rfl (bi_neg h2 (c_X3_hasField (f := f) (S := S) hB (show -2147483648 ≤ f ∧ f < 2147483648 from by omega))) (by decide) rfl rfl (Nat.le_of_ble_eq_true rfl) (fun _ _ => ⟨_, _, rfl, rfl⟩) rfl rfl ?_
    refine r_if_ne0 (pc' := 11) rfl rfl (by decide) (by decide) ?_
    refine r_const (pc' := 13) rfl rfl ?_
    refine q_iret rfl rfl rfl ?_
    exact ⟨by rw [if_neg h2], rfl⟩
