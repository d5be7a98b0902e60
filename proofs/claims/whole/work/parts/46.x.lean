/-! THE REFERENCE's FEAST, told -/
def fsA (z : BS) (k : Int) : Int := if k = -1 then z.1 else if k = -2 then z.2.1 else if k < z.2.1 then z.2.2 k else -1
noncomputable def lfM (S : rS) (s l : Int) : Int := if 0 ≤ s ∧ s ≤ 3 then if 0 ≤ l ∧ l ≤ 2 then v_X11_found S s l else -3 else -2
theorem c_X11_feast {k : Int} {S : rS} (hB : Bd S) (h_k : -2147483648 ≤ k ∧ k < 2147483648) : CS 5 78 [.inr (.inr 232), .inl k] S (fun r' S' => (¬ (-2 ≤ k ∧ k ≤ 6) → r' = some (.inl (-3)) ∧ S' = S) ∧ (-2 ≤ k ∧ k ≤ 6 → Bd S' ∧ FRR S S' ∧ bst S' = TOTF S ∧ r' = some (.inl (fsA (TOTF S) k)))) := by
  refine RS.beg (ls := [some (.inr (.inr 232)), some (.inl k)]) rfl rfl rfl rfl rfl ?_
  refine r_iload (pc' := 1) rfl rfl rfl ?_
  refine r_i2l (pc' := 2) rfl rfl (by omega) ?_
  refine r_lcon (pc' := 5) rfl rfl ?_
  refine r_lcon (pc' := 8) rfl rfl ?_
  by_cases h1 : (-2 : Int) ≤ k ∧ k ≤ (6 : Int)
  · skip
    refine q_callE (pc' := 11) (w := some (.inl 1)) (S2 := S) (st' := [.inl 1]) rfl rfl rfl (bi_pos h1 (c_X11_in (a := k) (b := (-2)) (c := 6) (S := S)  (show -2147483648 ≤ k ∧ k < 2147483648 from by omega) (show -2147483648 ≤ (-2 : Int) ∧ (-2 : Int) < 2147483648 from by omega) (show -2147483648 ≤ (6 : Int) ∧ (6 : Int) < 2147483648 from by omega))) (by decide) rfl rfl (Nat.le_of_ble_eq_true rfl) (fun q => absurd rfl q) rfl rfl ?_
    refine r_if_ne1 (pc' := 17) rfl rfl (by decide) (by decide) ?_
    refine r_aload (pc' := 18) rfl rfl rfl ?_
    refine q_call (pc' := 21) (P := fun r' S' => r' = none ∧ Bd S' ∧ FRR S S' ∧ bst S' = TOTF S) rfl rfl rfl (c_X11_feasts  (S := S) hB ) (by decide) rfl rfl (Nat.le_of_ble_eq_true rfl) (fun _ _ => ⟨_, _, rfl, rfl⟩) rfl ?_
    intro r2 T2 hq2 hz2
    obtain ⟨rfl, hB2, hF2, hbs2⟩ := hq2
    show RS _ _ _ _ _ [] _
    refine r_iload (pc' := 22) rfl rfl rfl ?_
    refine r_const (pc' := 23) rfl rfl ?_
    by_cases h3 : k = (-1)
    · refine r_icmp_ne0 (pc' := 26) rfl rfl (by omega) (by omega) ?_
      refine r_aload (pc' := 27) rfl rfl rfl ?_
      refine r_getv (pc' := 30) (v := (T2 232 26)) rfl rfl (Or.inl rfl) rfl rfl ?_
      have b4 : 0 ≤ T2 232 26 ∧ T2 232 26 ≤ 56 := hB2 232 26
      refine r_goto (pc' := 64) rfl rfl ?_
      refine q_iret rfl rfl rfl ?_
      exact ⟨fun q => absurd q (by omega), fun _ => ⟨hB2, hF2, hbs2, congrArg (fun z => some (Sum.inl z)) (by rw [← hbs2]; unfold fsA; rw [if_pos (by first | omega | (show k = (-1); omega))]; rfl)⟩⟩
    · refine r_icmp_ne1 (pc' := 33) rfl rfl (by omega) (by omega) ?_
      refine r_iload (pc' := 34) rfl rfl rfl ?_
      refine r_const (pc' := 36) rfl rfl ?_
      by_cases h5 : k = (-2)
      · refine r_icmp_ne0 (pc' := 39) rfl rfl (by omega) (by omega) ?_
        refine r_aload (pc' := 40) rfl rfl rfl ?_
        refine r_getv (pc' := 43) (v := (T2 232 25)) rfl rfl (Or.inl rfl) rfl rfl ?_
        have b6 : 0 ≤ T2 232 25 ∧ T2 232 25 ≤ 7 := hB2 232 25
        refine r_goto (pc' := 64) rfl rfl ?_
        refine q_iret rfl rfl rfl ?_
        exact ⟨fun q => absurd q (by omega), fun _ => ⟨hB2, hF2, hbs2, congrArg (fun z => some (Sum.inl z)) (by rw [← hbs2]; unfold fsA; rw [if_neg (by first | omega | (show ¬ k = (-1); omega))]; rw [if_pos (by first | omega | (show k = (-2); omega))]; rfl)⟩⟩
      · refine r_icmp_ne1 (pc' := 46) rfl rfl (by omega) (by omega) ?_
        refine r_iload (pc' := 47) rfl rfl rfl ?_
        refine r_aload (pc' := 48) rfl rfl rfl ?_
        refine r_getv (pc' := 51) (v := (T2 232 25)) rfl rfl (Or.inl rfl) rfl rfl ?_
        have b7 : 0 ≤ T2 232 25 ∧ T2 232 25 ≤ 7 := hB2 232 25
        by_cases h8 : k < (T2 232 25)
        · refine r_icmp_ge0 (pc' := 54) rfl rfl (by omega) (by omega) ?_
          refine r_aload (pc' := 55) rfl rfl rfl ?_
          refine r_getr (pc' := 58) (v := 248) rfl rfl rfl rfl rfl ?_
          refine r_iload (pc' := 59) rfl rfl rfl ?_
          refine r_aldv (pc' := 60) (v := (T2 248 k)) 8 rfl rfl rfl (by omega) rfl ?_
          have b9 : 0 ≤ T2 248 k ∧ T2 248 k ≤ 6 := hB2 248 k
          refine r_goto (pc' := 64) rfl rfl ?_
          refine q_iret rfl rfl rfl ?_
          exact ⟨fun q => absurd q (by omega), fun _ => ⟨hB2, hF2, hbs2, congrArg (fun z => some (Sum.inl z)) (by rw [← hbs2]; unfold fsA; rw [if_neg (by first | omega | (show ¬ k = (-1); omega))]; rw [if_neg (by first | omega | (show ¬ k = (-2); omega))]; rw [if_pos (by first | omega | (show k < (T2 232 25); omega))]; rfl)⟩⟩
        · refine r_icmp_ge1 (pc' := 63) rfl rfl (by omega) (by omega) ?_
          refine r_const (pc' := 64) rfl rfl ?_
          refine q_iret rfl rfl rfl ?_
          exact ⟨fun q => absurd q (by omega), fun _ => ⟨hB2, hF2, hbs2, congrArg (fun z => some (Sum.inl z)) (by rw [← hbs2]; unfold fsA; rw [if_neg (by first | omega | (show ¬ k = (-1); omega))]; rw [if_neg (by first | omega | (show ¬ k = (-2); omega))]; rw [if_neg (by first | omega | (show ¬ k < (T2 232 25); omega))])⟩⟩
  · skip
    refine q_callE (pc' := 11) (w := some (.inl 0)) (S2 := S) (st' := [.inl 0]) rfl rfl rfl (bi_neg h1 (c_X11_in (a := k) (b := (-2)) (c := 6) (S := S)  (show -2147483648 ≤ k ∧ k < 2147483648 from by omega) (show -2147483648 ≤ (-2 : Int) ∧ (-2 : Int) < 2147483648 from by omega) (show -2147483648 ≤ (6 : Int) ∧ (6 : Int) < 2147483648 from by omega))) (by decide) rfl rfl (Nat.le_of_ble_eq_true rfl) (fun q => absurd rfl q) rfl rfl ?_
    refine r_if_ne0 (pc' := 14) rfl rfl (by decide) (by decide) ?_
    refine r_const (pc' := 16) rfl rfl ?_
    refine q_iret rfl rfl rfl ?_
    exact ⟨fun _ => ⟨rfl, rfl⟩, fun q => absurd q (by omega)⟩
theorem c_X11_list {s : Int} {l : Int} {i : Int} {S : rS} (hB : Bd S) (h_s : -2147483648 ≤ s ∧ s < 2147483648) (h_l : -2147483648 ≤ l ∧ l < 2147483648) (h_i : -2147483648 ≤ i ∧ i < 2147483648) : CS 5 100 [.inr (.inr 232), .inl s, .inl l, .inl i] S (fun r' S' => (lfM S s l ≠ 0 → r' = some (.inl (lfM S s l)) ∧ S' = S) ∧ (lfM S s l = 0 → ∃ T, Bd T ∧ FRR S T ∧ bst T = TOTF S ∧ Bd S' ∧ ((0 ≤ i ∧ i + T 232 25 ≤ S 243 s) → r' = some (.inl (T 232 25)) ∧ S' = mx_cp T 248 0 244 (24 * s + i) (T 232 25)) ∧ (¬ (0 ≤ i ∧ i + T 232 25 ≤ S 243 s) → r' = some (.inl (-13)) ∧ S' = T))) := by
  refine RS.beg (ls := [some (.inr (.inr 232)), some (.inl s), some (.inl l), some (.inl i), none]) rfl rfl rfl rfl rfl ?_
  refine r_iload (pc' := 1) rfl rfl rfl ?_
  by_cases h1 : 0 ≤ s ∧ s ≤ 3
  · skip
    refine q_callE (pc' := 4) (w := some (.inl 1)) (S2 := S) (st' := [.inl 1]) rfl rfl rfl (bi_pos h1 (c_X11_isShelf (k := s) (S := S)  (show -2147483648 ≤ s ∧ s < 2147483648 from by omega))) (by decide) rfl rfl (Nat.le_of_ble_eq_true rfl) (fun q => absurd rfl q) rfl rfl ?_
    refine r_if_ne1 (pc' := 10) rfl rfl (by decide) (by decide) ?_
    refine r_iload (pc' := 11) rfl rfl rfl ?_
    by_cases h2 : 0 ≤ l ∧ l ≤ 2
    · skip
      refine q_callE (pc' := 14) (w := some (.inl 1)) (S2 := S) (st' := [.inl 1]) rfl rfl rfl (bi_pos h2 (c_X11_isLane (k := l) (S := S)  (show -2147483648 ≤ l ∧ l < 2147483648 from by omega))) (by decide) rfl rfl (Nat.le_of_ble_eq_true rfl) (fun q => absurd rfl q) rfl rfl ?_
      refine r_if_ne1 (pc' := 20) rfl rfl (by decide) (by decide) ?_
      refine r_aload (pc' := 21) rfl rfl rfl ?_
      refine r_iload (pc' := 22) rfl rfl rfl ?_
      refine r_iload (pc' := 23) rfl rfl rfl ?_
      refine q_callE (pc' := 26) (w := some (.inl (v_X11_found S s l))) (S2 := S) (st' := [.inl (v_X11_found S s l)]) rfl rfl rfl (c_X11_found (s := s) (l := l) (S := S) hB (show 0 ≤ s ∧ s < 4 from by omega) (show -2147483648 ≤ l ∧ l < 2147483648 from by omega)) (by decide) rfl rfl (Nat.le_of_ble_eq_true rfl) (fun _ _ => ⟨_, _, rfl, rfl⟩) rfl rfl ?_
      have b3 : -20 ≤ (v_X11_found S s l) ∧ (v_X11_found S s l) ≤ 0 := fnd_r
      refine r_istore (pc' := 28) (ls' := [some (.inr (.inr 232)), some (.inl s), some (.inl l), some (.inl i), some (.inl (v_X11_found S s l))]) rfl rfl rfl rfl ?_
      refine r_iload (pc' := 30) rfl rfl rfl ?_
      by_cases h4 : (v_X11_found S s l) = 0
      · refine r_if_eq1 (pc' := 36) rfl rfl (by omega) (by omega) ?_
        refine r_aload (pc' := 37) rfl rfl rfl ?_
        refine q_call (pc' := 40) (P := fun r' S' => r' = none ∧ Bd S' ∧ FRR S S' ∧ bst S' = TOTF S) rfl rfl rfl (c_X11_feasts  (S := S) hB ) (by decide) rfl rfl (Nat.le_of_ble_eq_true rfl) (fun _ _ => ⟨_, _, rfl, rfl⟩) rfl ?_
        intro r5 T5 hq5 hz5
        obtain ⟨rfl, hB5, hF5, hbs5⟩ := hq5
        show RS _ _ _ _ _ [] _
        refine r_iload (pc' := 41) rfl rfl rfl ?_
        by_cases h6 : i < 0
        · refine r_if_lt1 (pc' := 63) rfl rfl (by omega) (by omega) ?_
          refine r_const (pc' := 65) rfl rfl ?_
          refine q_iret rfl rfl rfl ?_
          have e : lfM S s l = 0 := by unfold lfM; rw [if_pos (by omega), if_pos (by omega)]; assumption
          exact ⟨fun q => absurd e q, fun _ => ⟨T5, hB5, hF5, hbs5, hB5, fun q => absurd q (by omega), fun _ => ⟨rfl, rfl⟩⟩⟩
        · refine r_if_lt0 (pc' := 44) rfl rfl (by omega) (by omega) ?_
          refine r_iload (pc' := 45) rfl rfl rfl ?_
          refine r_i2l (pc' := 46) rfl rfl (by omega) ?_
          refine r_aload (pc' := 47) rfl rfl rfl ?_
          refine r_getv (pc' := 50) (v := (T5 232 25)) rfl rfl (Or.inl rfl) rfl rfl ?_
          have b7 : 0 ≤ T5 232 25 ∧ T5 232 25 ≤ 7 := hB5 232 25
          refine r_i2l (pc' := 51) rfl rfl (by omega) ?_
          refine r_ladd (pc' := 52) rfl rfl ?_
          refine r_aload (pc' := 53) rfl rfl rfl ?_
          refine r_getr (pc' := 56) (v := 243) rfl rfl rfl rfl rfl ?_
          refine r_iload (pc' := 57) rfl rfl rfl ?_
          refine r_aldv (pc' := 58) (v := (S 243 s)) 4 rfl rfl rfl (by omega) (hF5 243 s (by omega)) ?_
          have b8 : -1 ≤ S 243 s ∧ S 243 s ≤ 24 := hB 243 s
          refine r_i2l (pc' := 59) rfl rfl (by omega) ?_
          refine r_lcmp (pc' := 60) rfl rfl (by omega) ?_
          have b9 := mx_cmp_b (i + (T5 232 25)) (S 243 s)
          by_cases h10 : (S 243 s) < (i + (T5 232 25))
          · refine r_if_le0 (pc' := 63) rfl rfl (by omega) (by omega) ?_
            refine r_const (pc' := 65) rfl rfl ?_
            refine q_iret rfl rfl rfl ?_
            have e : lfM S s l = 0 := by unfold lfM; rw [if_pos (by omega), if_pos (by omega)]; assumption
            exact ⟨fun q => absurd e q, fun _ => ⟨T5, hB5, hF5, hbs5, hB5, fun q => absurd q (by omega), fun _ => ⟨rfl, rfl⟩⟩⟩
          · refine r_if_le1 (pc' := 66) rfl rfl (by omega) (by omega) ?_
            refine r_aload (pc' := 67) rfl rfl rfl ?_
            refine r_getr (pc' := 70) (v := 248) rfl rfl rfl rfl rfl ?_
            refine r_const (pc' := 71) rfl rfl ?_
            refine r_aload (pc' := 72) rfl rfl rfl ?_
            refine r_getr (pc' := 75) (v := 244) rfl rfl rfl rfl rfl ?_
            refine r_const (pc' := 77) rfl rfl ?_
            refine r_iload (pc' := 78) rfl rfl rfl ?_
            refine r_imul (pc' := 79) rfl rfl ?_
            refine r_iload (pc' := 80) rfl rfl rfl ?_
            refine r_iadd (pc' := 81) rfl rfl ?_
            refine r_aload (pc' := 82) rfl rfl rfl ?_
            refine r_getv (pc' := 85) (v := (T5 232 25)) rfl rfl (Or.inl rfl) rfl rfl ?_
            refine q_callE (pc' := 88) (w := none) (S2 := mx_cp T5 248 0 244 ((24 * s) + i) (T5 232 25)) (st' := []) rfl rfl rfl (c_X11_copies_bi (o := ((24 * s) + i)) (n := (T5 232 25)) (S := T5) hB5 (show 0 ≤ (T5 232 25) ∧ (T5 232 25) ≤ 8 from by omega) (show 0 ≤ ((24 * s) + i) ∧ ((24 * s) + i) + (T5 232 25) ≤ 96 from by omega)) (by decide) rfl rfl (Nat.le_of_ble_eq_true rfl) (fun q => absurd rfl q) rfl rfl ?_
            have hB11 : Bd (mx_cp T5 248 0 244 ((24 * s) + i) (T5 232 25)) := Bd_cp hB5 (fun k _ _ => bd_bi)
            refine r_aload (pc' := 89) rfl rfl rfl ?_
            refine r_getv (pc' := 92) (v := (T5 232 25)) rfl rfl (Or.inl rfl) rfl (cp_o (by omega)) ?_
            refine q_iret rfl rfl rfl ?_
            have e : lfM S s l = 0 := by unfold lfM; rw [if_pos (by omega), if_pos (by omega)]; assumption
            exact ⟨fun q => absurd e q, fun _ => ⟨T5, hB5, hF5, hbs5, hB11, fun _ => ⟨rfl, rfl⟩, fun q => absurd (by omega) q⟩⟩
      · refine r_if_eq0 (pc' := 33) rfl rfl (by omega) (by omega) ?_
        refine r_iload (pc' := 35) rfl rfl rfl ?_
        refine q_iret rfl rfl rfl ?_
        have e : lfM S s l = (v_X11_found S s l) := by unfold lfM; rw [if_pos (by omega), if_pos (by omega)]
        exact ⟨fun _ => ⟨by rw [e], rfl⟩, fun q => absurd q (by rw [e]; omega)⟩
    · skip
      refine q_callE (pc' := 14) (w := some (.inl 0)) (S2 := S) (st' := [.inl 0]) rfl rfl rfl (bi_neg h2 (c_X11_isLane (k := l) (S := S)  (show -2147483648 ≤ l ∧ l < 2147483648 from by omega))) (by decide) rfl rfl (Nat.le_of_ble_eq_true rfl) (fun q => absurd rfl q) rfl rfl ?_
      refine r_if_ne0 (pc' := 17) rfl rfl (by decide) (by decide) ?_
      refine r_const (pc' := 19) rfl rfl ?_
      refine q_iret rfl rfl rfl ?_
      have e : lfM S s l = (-3) := by unfold lfM; rw [if_pos (by omega), if_neg (by omega)]
      exact ⟨fun _ => ⟨by rw [e], rfl⟩, fun q => absurd q (by rw [e]; omega)⟩
  · skip
    refine q_callE (pc' := 4) (w := some (.inl 0)) (S2 := S) (st' := [.inl 0]) rfl rfl rfl (bi_neg h1 (c_X11_isShelf (k := s) (S := S)  (show -2147483648 ≤ s ∧ s < 2147483648 from by omega))) (by decide) rfl rfl (Nat.le_of_ble_eq_true rfl) (fun q => absurd rfl q) rfl rfl ?_
    refine r_if_ne0 (pc' := 7) rfl rfl (by decide) (by decide) ?_
    refine r_const (pc' := 9) rfl rfl ?_
    refine q_iret rfl rfl rfl ?_
    have e : lfM S s l = (-2) := by unfold lfM; rw [if_neg (by omega)]
    exact ⟨fun _ => ⟨by rw [e], rfl⟩, fun q => absurd q (by rw [e]; omega)⟩
