/-! THE REFERENCE READS CLAUSES -/
/-- a piece of a row is filled -/
def flb (S : rS) (A b : Int) (g : Int → Int) (n : Int) : rS := fun a j => if a = A ∧ b ≤ j ∧ j < b + n then g (j - b) else S a j
theorem flb_0 (S : rS) (A b : Int) (g : Int → Int) : S = flb S A b g 0 := by
  funext a j; unfold flb; rw [if_neg (by omega)]
theorem flb_s {S : rS} {A b : Int} {g : Int → Int} {k i v : Int} (h : 0 ≤ k) (hi : i = b + k) (hv : v = g k) : mx_up (flb S A b g k) A i v = flb S A b g (k + 1) := by
  subst hi; subst hv
  funext a j; unfold mx_up flb
  by_cases h1 : a = A ∧ j = b + k
  · rw [if_pos h1, if_pos (by omega), show j - b = k by omega]
  · rw [if_neg h1]
    by_cases h2 : a = A ∧ b ≤ j ∧ j < b + k
    · rw [if_pos h2, if_pos (by omega)]
    · rw [if_neg h2, if_neg (by omega)]
theorem flb_o {S : rS} {A b : Int} {g : Int → Int} {n a j : Int} (h : ¬ (a = A ∧ b ≤ j ∧ j < b + n)) : flb S A b g n a j = S a j := if_neg h
theorem flb_i {S : rS} {A b : Int} {g : Int → Int} {n j : Int} (h : b ≤ j ∧ j < b + n) : flb S A b g n A j = g (j - b) := if_pos ⟨rfl, h⟩
theorem Bd_flb {S : rS} {A b : Int} {g : Int → Int} {n : Int} (h : Bd S) (hg : ∀ k, 0 ≤ k → k < n → bd_lo A (b + k) ≤ g k ∧ g k ≤ bd_hi A (b + k)) : Bd (flb S A b g n) := by
  intro a j; unfold flb
  by_cases h1 : a = A ∧ b ≤ j ∧ j < b + n
  · rw [if_pos h1]; obtain ⟨rfl, h2⟩ := h1
    have q := hg (j - b) (by omega) (by omega)
    rw [show b + (j - b) = j by omega] at q
    exact q
  · rw [if_neg h1]; exact h a j
theorem rtk1 {T : Int → Int} {n e : Int} (h : rtk T n e = 1) : tkK T n e = 1 := by
  have q := tkK_r T n e
  unfold rtk at h
  by_cases h2 : tkK T n e = 2
  · rw [if_pos h2] at h; split at h <;> omega
  · rw [if_neg h2] at h
    by_cases h3 : tkK T n e = 3
    · rw [if_pos h3] at h; split at h <;> omega
    · rw [if_neg h3] at h; exact h
theorem tk_let {T : Int → Int} {n e k : Int} (h : rtk T n e = 1) (h0 : 0 ≤ k) (h1 : k < tkQ T n e - tkB T n e) : 97 ≤ T (tkB T n e + k) ∧ T (tkB T n e + k) ≤ 122 := by
  have h := rtk1 h
  have := tk_in (T := T) (n := n) (e := e) (i := tkB T n e + k) (Or.inl h) (by omega) (by omega)
  exact (srt_e (this.trans h)).1 rfl
noncomputable def w_X11_number (S : rS) (lo : Int) (hi : Int) : Int × rS := if (rtk (S 240) (S 232 9) (S 232 15)) = 2 then if lo ≤ (rvl (S 240) (S 232 9) (S 232 15)) ∧ (rvl (S 240) (S 232 9) (S 232 15)) ≤ hi then (1, (stM S)) else (0, (stM S)) else (0, (stM S))
theorem c_X11_number {lo : Int} {hi : Int} {S : rS} (hB : Bd S) (h_l : 0 ≤ lo ∧ lo ≤ 100) (h_h : -1 ≤ hi ∧ hi ≤ 99) : CS 3 106 [.inr (.inr 232), .inl lo, .inl hi] S (fun r' S' => r' = some (.inl ((w_X11_number S lo hi).1)) ∧ S' = (w_X11_number S lo hi).2 ∧ Bd S' ∧ ((w_X11_number S lo hi).1 = 0 ∨ (w_X11_number S lo hi).1 = 1) ∧ (((w_X11_number S lo hi).1 = 0 ∨ (lo ≤ S' 232 19 ∧ S' 232 19 ≤ hi)) ∧ (∀ a j : Int, ¬ (a = 232 ∧ 15 ≤ j ∧ j ≤ 19) → S' a j = S a j))) := by
  refine RS.beg (ls := [some (.inr (.inr 232)), some (.inl lo), some (.inl hi)]) rfl rfl rfl rfl rfl ?_
  have zr := rtk_r (T := S 240) (n := S 232 9) (e := S 232 15)
  have zv := rvl_b (T := S 240) (S 232 9) (S 232 15)
  refine r_aload (pc' := 1) rfl rfl rfl ?_
  refine q_callE (pc' := 4) (w := none) (S2 := stM S) (st' := []) rfl rfl rfl (c_X11_step  (S := S) hB ) (by decide) rfl rfl (Nat.le_of_ble_eq_true rfl) (fun _ _ => ⟨_, _, rfl, rfl⟩) rfl rfl ?_
  have hB1 : Bd (stM S) := Bd_stM hB
  refine r_aload (pc' := 5) rfl rfl rfl ?_
  refine r_getv (pc' := 8) (v := (rtk (S 240) (S 232 9) (S 232 15))) rfl rfl (Or.inl rfl) rfl rfl ?_
  have b2 : 0 ≤ S 232 9 ∧ S 232 9 ≤ 200 := hB 232 9
  have b3 : 0 ≤ S 232 15 ∧ S 232 15 ≤ 200 := hB 232 15
  refine r_const (pc' := 9) rfl rfl ?_
  by_cases h4 : (rtk (S 240) (S 232 9) (S 232 15)) = 2
  · refine r_icmp_ne0 (pc' := 12) rfl rfl (by omega) (by omega) ?_
    refine r_aload (pc' := 13) rfl rfl rfl ?_
    refine r_getv (pc' := 16) (v := (rvl (S 240) (S 232 9) (S 232 15))) rfl rfl (Or.inl rfl) rfl rfl ?_
    refine r_i2l (pc' := 17) rfl rfl (by omega) ?_
    refine r_iload (pc' := 18) rfl rfl rfl ?_
    refine r_i2l (pc' := 19) rfl rfl (by omega) ?_
    refine r_iload (pc' := 20) rfl rfl rfl ?_
    refine r_i2l (pc' := 21) rfl rfl (by omega) ?_
    by_cases h5 : lo ≤ (rvl (S 240) (S 232 9) (S 232 15)) ∧ (rvl (S 240) (S 232 9) (S 232 15)) ≤ hi
    · skip
      refine q_callE (pc' := 24) (w := some (.inl 1)) (S2 := (stM S)) (st' := [.inl 1]) rfl rfl rfl (bi_pos h5 (c_X11_in (a := (rvl (S 240) (S 232 9) (S 232 15))) (b := lo) (c := hi) (S := (stM S))  (show -2147483648 ≤ (rvl (S 240) (S 232 9) (S 232 15)) ∧ (rvl (S 240) (S 232 9) (S 232 15)) < 2147483648 from by omega) (show -2147483648 ≤ lo ∧ lo < 2147483648 from by omega) (show -2147483648 ≤ hi ∧ hi < 2147483648 from by omega))) (by decide) rfl rfl (Nat.le_of_ble_eq_true rfl) (fun q => absurd rfl q) rfl rfl ?_
      refine r_if_eq0 (pc' := 27) rfl rfl (by decide) (by decide) ?_
      refine r_const (pc' := 28) rfl rfl ?_
      refine r_goto (pc' := 32) rfl rfl ?_
      refine q_zret rfl rfl rfl (by omega) ?_
      have ew : w_X11_number S lo hi = (1, (stM S)) := by unfold w_X11_number; rw [if_pos h4, if_pos h5]
      exact ⟨by rw [ew], by rw [ew], hB1, by rw [ew]; omega, ⟨Or.inr h5, fun a j h1 => stM_o h1⟩⟩
    · skip
      refine q_callE (pc' := 24) (w := some (.inl 0)) (S2 := (stM S)) (st' := [.inl 0]) rfl rfl rfl (bi_neg h5 (c_X11_in (a := (rvl (S 240) (S 232 9) (S 232 15))) (b := lo) (c := hi) (S := (stM S))  (show -2147483648 ≤ (rvl (S 240) (S 232 9) (S 232 15)) ∧ (rvl (S 240) (S 232 9) (S 232 15)) < 2147483648 from by omega) (show -2147483648 ≤ lo ∧ lo < 2147483648 from by omega) (show -2147483648 ≤ hi ∧ hi < 2147483648 from by omega))) (by decide) rfl rfl (Nat.le_of_ble_eq_true rfl) (fun q => absurd rfl q) rfl rfl ?_
      refine r_if_eq1 (pc' := 31) rfl rfl (by decide) (by decide) ?_
      refine r_const (pc' := 32) rfl rfl ?_
      refine q_zret rfl rfl rfl (by omega) ?_
      have ew : w_X11_number S lo hi = (0, (stM S)) := by unfold w_X11_number; rw [if_pos h4, if_neg h5]
      exact ⟨by rw [ew], by rw [ew], hB1, by rw [ew]; omega, ⟨Or.inl (by rw [ew]), fun a j h1 => stM_o h1⟩⟩
  · refine r_icmp_ne1 (pc' := 31) rfl rfl (by omega) (by omega) ?_
    refine r_const (pc' := 32) rfl rfl ?_
    refine q_zret rfl rfl rfl (by omega) ?_
    have ew : w_X11_number S lo hi = (0, (stM S)) := by unfold w_X11_number; rw [if_neg h4]
    exact ⟨by rw [ew], by rw [ew], hB1, by rw [ew]; omega, ⟨Or.inl (by rw [ew]), fun a j h1 => stM_o h1⟩⟩
noncomputable def w_X11_readsLine_f (S : rS) (f : Int) : Int × rS := if (rtk (S 240) (S 232 9) (S 232 15)) = 1 then if 8 < ((tkQ (S 240) (S 232 9) (S 232 15)) - (tkB (S 240) (S 232 9) (S 232 15))) then (0, (stM S)) else (1, (flb (mx_up (stM S) 234 (22 + f) ((tkQ (S 240) (S 232 9) (S 232 15)) - (tkB (S 240) (S 232 9) (S 232 15)))) 234 (29 + (8 * f)) (fun kk => S 240 ((tkB (S 240) (S 232 9) (S 232 15)) + kk) - 97) ((tkQ (S 240) (S 232 9) (S 232 15)) - (tkB (S 240) (S 232 9) (S 232 15))))) else (0, (stM S))
theorem c_X11_readsLine_f {f : Int} {S : rS} (hB : Bd S) (h_f : 0 ≤ f ∧ f < 7) : CS 3 119 [.inr (.inr 232), .inl (22 + f), .inl (29 + (8 * f))] S (fun r' S' => r' = some (.inl ((w_X11_readsLine_f S f).1)) ∧ S' = (w_X11_readsLine_f S f).2 ∧ Bd S' ∧ ((w_X11_readsLine_f S f).1 = 0 ∨ (w_X11_readsLine_f S f).1 = 1) ∧ (∀ a j : Int, ¬ (a = 232 ∧ 15 ≤ j ∧ j ≤ 19) → ¬ (a = 234 ∧ ¬ (j = 0 ∨ j = 85 ∨ j = 113 ∨ j = 186)) → S' a j = S a j)) := by
  refine RS.beg (ls := [some (.inr (.inr 232)), some (.inl (22 + f)), some (.inl (29 + (8 * f))), none, none]) rfl rfl rfl rfl rfl ?_
  have hT : ∀ i, 0 ≤ S 240 i ∧ S 240 i ≤ 255 := fun i => hB 240 i
  have z9 : 0 ≤ S 232 9 ∧ S 232 9 ≤ 200 := hB 232 9
  have z15 : 0 ≤ S 232 15 ∧ S 232 15 ≤ 200 := hB 232 15
  have t1 := tkB_b (S 240) (S 232 9) (S 232 15)
  have t2 := tkQ_b (S 240) (S 232 9) (S 232 15)
  have zr := rtk_r (T := S 240) (n := S 232 9) (e := S 232 15)
  refine r_aload (pc' := 1) rfl rfl rfl ?_
  refine q_callE (pc' := 4) (w := none) (S2 := stM S) (st' := []) rfl rfl rfl (c_X11_step  (S := S) hB ) (by decide) rfl rfl (Nat.le_of_ble_eq_true rfl) (fun _ _ => ⟨_, _, rfl, rfl⟩) rfl rfl ?_
  have hB1 : Bd (stM S) := Bd_stM hB
  refine r_aload (pc' := 5) rfl rfl rfl ?_
  refine r_getv (pc' := 8) (v := (tkQ (S 240) (S 232 9) (S 232 15))) rfl rfl (Or.inl rfl) rfl rfl ?_
  have b2 : 0 ≤ S 232 9 ∧ S 232 9 ≤ 200 := hB 232 9
  have b3 : 0 ≤ S 232 15 ∧ S 232 15 ≤ 200 := hB 232 15
  refine r_aload (pc' := 9) rfl rfl rfl ?_
  refine r_getv (pc' := 12) (v := (tkB (S 240) (S 232 9) (S 232 15))) rfl rfl (Or.inl rfl) rfl rfl ?_
  refine r_isub (pc' := 13) rfl rfl ?_
  refine r_istore (pc' := 14) (ls' := [some (.inr (.inr 232)), some (.inl (22 + f)), some (.inl (29 + (8 * f))), some (.inl ((tkQ (S 240) (S 232 9) (S 232 15)) - (tkB (S 240) (S 232 9) (S 232 15)))), none]) rfl rfl rfl rfl ?_
  refine r_aload (pc' := 15) rfl rfl rfl ?_
  refine r_getv (pc' := 18) (v := (rtk (S 240) (S 232 9) (S 232 15))) rfl rfl (Or.inl rfl) rfl rfl ?_
  refine r_const (pc' := 19) rfl rfl ?_
  by_cases h4 : (rtk (S 240) (S 232 9) (S 232 15)) = 1
  · refine r_icmp_ne0 (pc' := 22) rfl rfl (by omega) (by omega) ?_
    refine r_iload (pc' := 23) rfl rfl rfl ?_
    refine r_const (pc' := 25) rfl rfl ?_
    by_cases h5 : 8 < ((tkQ (S 240) (S 232 9) (S 232 15)) - (tkB (S 240) (S 232 9) (S 232 15)))
    · refine r_icmp_le0 (pc' := 28) rfl rfl (by omega) (by omega) ?_
      refine r_const (pc' := 29) rfl rfl ?_
      refine q_zret rfl rfl rfl (by omega) ?_
      have ew : w_X11_readsLine_f S f = (0, (stM S)) := by unfold w_X11_readsLine_f; rw [if_pos h4, if_pos h5]
      exact ⟨by rw [ew], by rw [ew], hB1, by rw [ew]; omega, fun a j h1 h2 => stM_o h1⟩
    · refine r_icmp_le1 (pc' := 30) rfl rfl (by omega) (by omega) ?_
      refine r_aload (pc' := 31) rfl rfl rfl ?_
      refine r_getr (pc' := 34) (v := 234) rfl rfl rfl rfl rfl ?_
      refine r_iload (pc' := 35) rfl rfl rfl ?_
      refine r_iload (pc' := 36) rfl rfl rfl ?_
      refine r_ast (pc' := 37) 187 rfl rfl rfl (by omega) ?_
      refine r_const (pc' := 38) rfl rfl ?_
      refine r_istore (pc' := 40) (ls' := [some (.inr (.inr 232)), some (.inl (22 + f)), some (.inl (29 + (8 * f))), some (.inl ((tkQ (S 240) (S 232 9) (S 232 15)) - (tkB (S 240) (S 232 9) (S 232 15)))), some (.inl 0)]) rfl rfl rfl rfl ?_
      refine r_mem (show mx_up (stM S) 234 (22 + f) ((tkQ (S 240) (S 232 9) (S 232 15)) - (tkB (S 240) (S 232 9) (S 232 15))) = flb (mx_up (stM S) 234 (22 + f) ((tkQ (S 240) (S 232 9) (S 232 15)) - (tkB (S 240) (S 232 9) (S 232 15)))) 234 (29 + (8 * f)) (fun kk => S 240 ((tkB (S 240) (S 232 9) (S 232 15)) + kk) - 97) (0 : Int) from by exact flb_0 _ _ _ _) ?_
      refine r_while (α := Int) (fun z' => [some (.inr (.inr 232)), some (.inl (22 + f)), some (.inl (29 + (8 * f))), some (.inl ((tkQ (S 240) (S 232 9) (S 232 15)) - (tkB (S 240) (S 232 9) (S 232 15)))), some (.inl z')]) (fun z' => flb (mx_up (stM S) 234 (22 + f) ((tkQ (S 240) (S 232 9) (S 232 15)) - (tkB (S 240) (S 232 9) (S 232 15)))) 234 (29 + (8 * f)) (fun kk => S 240 ((tkB (S 240) (S 232 9) (S 232 15)) + kk) - 97) z') (fun z' => (0 ≤ z' ∧ z' ≤ (tkQ (S 240) (S 232 9) (S 232 15)) - (tkB (S 240) (S 232 9) (S 232 15)))) (fun z' => ((tkQ (S 240) (S 232 9) (S 232 15)) - (tkB (S 240) (S 232 9) (S 232 15)) - z').toNat) ?_ 0 (show (0 ≤ (0 : Int) ∧ (0 : Int) ≤ (tkQ (S 240) (S 232 9) (S 232 15)) - (tkB (S 240) (S 232 9) (S 232 15))) from by omega)
      rintro k hI' ih40
      have hI' : (0 ≤ k ∧ k ≤ (tkQ (S 240) (S 232 9) (S 232 15)) - (tkB (S 240) (S 232 9) (S 232 15))) := hI'
      have i1 := hI'
      show RS _ _ _ _ [some (.inr (.inr 232)), some (.inl (22 + f)), some (.inl (29 + (8 * f))), some (.inl ((tkQ (S 240) (S 232 9) (S 232 15)) - (tkB (S 240) (S 232 9) (S 232 15)))), some (.inl k)] [] (flb (mx_up (stM S) 234 (22 + f) ((tkQ (S 240) (S 232 9) (S 232 15)) - (tkB (S 240) (S 232 9) (S 232 15)))) 234 (29 + (8 * f)) (fun kk => S 240 ((tkB (S 240) (S 232 9) (S 232 15)) + kk) - 97) k)
      have hB6 : Bd (flb (mx_up (stM S) 234 (22 + f) ((tkQ (S 240) (S 232 9) (S 232 15)) - (tkB (S 240) (S 232 9) (S 232 15)))) 234 (29 + (8 * f)) (fun kk => S 240 ((tkB (S 240) (S 232 9) (S 232 15)) + kk) - 97) k) := by refine Bd_flb (Bd_up (Bd_stM hB) (show _ ≤ (tkQ (S 240) (S 232 9) (S 232 15)) - (tkB (S 240) (S 232 9) (S 232 15)) from by rw [(bdi_234_22 (x := f) (by omega)).1]; omega) (show (tkQ (S 240) (S 232 9) (S 232 15)) - (tkB (S 240) (S 232 9) (S 232 15)) ≤ _ from by rw [(bdi_234_22 (x := f) (by omega)).2]; omega)) (fun kk k0 k1 => ?_); have q := tk_let (T := S 240) (n := S 232 9) (e := S 232 15) (k := kk) (by omega) k0 (by omega); rw [show 29 + (8 * f) + kk = 29 + (8 * f + kk) by omega, (bdi_234_29 (x := 8 * f + kk) (by omega)).1, (bdi_234_29 (x := 8 * f + kk) (by omega)).2]; show 0 ≤ S 240 ((tkB (S 240) (S 232 9) (S 232 15)) + kk) - 97 ∧ S 240 ((tkB (S 240) (S 232 9) (S 232 15)) + kk) - 97 ≤ 25; omega
      refine r_iload (pc' := 42) rfl rfl rfl ?_
      refine r_iload (pc' := 43) rfl rfl rfl ?_
      by_cases h7 : k < ((tkQ (S 240) (S 232 9) (S 232 15)) - (tkB (S 240) (S 232 9) (S 232 15)))
      · refine r_icmp_ge0 (pc' := 46) rfl rfl (by omega) (by omega) ?_
        refine r_aload (pc' := 47) rfl rfl rfl ?_
        refine r_getr (pc' := 50) (v := 234) rfl rfl rfl rfl rfl ?_
        refine r_iload (pc' := 51) rfl rfl rfl ?_
        refine r_iload (pc' := 53) rfl rfl rfl ?_
        refine r_iadd (pc' := 54) rfl rfl ?_
        refine r_aload (pc' := 55) rfl rfl rfl ?_
        refine r_getr (pc' := 58) (v := 240) rfl rfl rfl rfl rfl ?_
        refine r_aload (pc' := 59) rfl rfl rfl ?_
        refine r_getv (pc' := 62) (v := (tkB (S 240) (S 232 9) (S 232 15))) rfl rfl (Or.inl rfl) rfl (flb_o (by omega)) ?_
        refine r_iload (pc' := 64) rfl rfl rfl ?_
        refine r_iadd (pc' := 65) rfl rfl ?_
        refine r_aldv (pc' := 66) (v := (S 240 ((tkB (S 240) (S 232 9) (S 232 15)) + k))) 200 rfl rfl rfl (by omega) ((flb_o (by omega)).trans ((up_ne (by omega)).trans (stM_o (by omega)))) ?_
        have b8 : 0 ≤ S 240 ((tkB (S 240) (S 232 9) (S 232 15)) + k) ∧ S 240 ((tkB (S 240) (S 232 9) (S 232 15)) + k) ≤ 255 := hB 240 ((tkB (S 240) (S 232 9) (S 232 15)) + k)
        refine r_const (pc' := 68) rfl rfl ?_
        refine r_isub (pc' := 69) rfl rfl ?_
        refine r_ast (pc' := 70) 187 rfl rfl rfl (by omega) ?_
        refine r_iinc (pc' := 73) (ls' := [some (.inr (.inr 232)), some (.inl (22 + f)), some (.inl (29 + (8 * f))), some (.inl ((tkQ (S 240) (S 232 9) (S 232 15)) - (tkB (S 240) (S 232 9) (S 232 15)))), some (.inl (k + 1))]) rfl rfl rfl rfl rfl ?_
        refine r_goto (pc' := 40) rfl rfl ?_
        refine r_mem (show mx_up (flb (mx_up (stM S) 234 (22 + f) ((tkQ (S 240) (S 232 9) (S 232 15)) - (tkB (S 240) (S 232 9) (S 232 15)))) 234 (29 + (8 * f)) (fun kk => S 240 ((tkB (S 240) (S 232 9) (S 232 15)) + kk) - 97) k) 234 ((29 + (8 * f)) + k) ((S 240 ((tkB (S 240) (S 232 9) (S 232 15)) + k)) - 97) = flb (mx_up (stM S) 234 (22 + f) ((tkQ (S 240) (S 232 9) (S 232 15)) - (tkB (S 240) (S 232 9) (S 232 15)))) 234 (29 + (8 * f)) (fun kk => S 240 ((tkB (S 240) (S 232 9) (S 232 15)) + kk) - 97) (k + 1) from by exact flb_s (by omega) (by omega) rfl) ?_
        exact ih40 (k + 1) (show (0 ≤ (k + 1) ∧ (k + 1) ≤ (tkQ (S 240) (S 232 9) (S 232 15)) - (tkB (S 240) (S 232 9) (S 232 15))) from by omega) (show ((tkQ (S 240) (S 232 9) (S 232 15)) - (tkB (S 240) (S 232 9) (S 232 15)) - (k + 1)).toNat < ((tkQ (S 240) (S 232 9) (S 232 15)) - (tkB (S 240) (S 232 9) (S 232 15)) - k).toNat from by omega)
      · refine r_icmp_ge1 (pc' := 76) rfl rfl (by omega) (by omega) ?_
        refine r_const (pc' := 77) rfl rfl ?_
        refine q_zret rfl rfl rfl (by omega) ?_
        obtain rfl : (tkQ (S 240) (S 232 9) (S 232 15)) - (tkB (S 240) (S 232 9) (S 232 15)) = k := by omega
        have ew : w_X11_readsLine_f S f = (1, (flb (mx_up (stM S) 234 (22 + f) ((tkQ (S 240) (S 232 9) (S 232 15)) - (tkB (S 240) (S 232 9) (S 232 15)))) 234 (29 + (8 * f)) (fun kk => S 240 ((tkB (S 240) (S 232 9) (S 232 15)) + kk) - 97) ((tkQ (S 240) (S 232 9) (S 232 15)) - (tkB (S 240) (S 232 9) (S 232 15))))) := by unfold w_X11_readsLine_f; rw [if_pos h4, if_neg h5]
        exact ⟨by rw [ew], by rw [ew], hB6, by rw [ew]; omega, fun a j h1 h2 => (flb_o (by omega)).trans ((up_ne (by omega)).trans (stM_o h1))⟩
  · refine r_icmp_ne1 (pc' := 28) rfl rfl (by omega) (by omega) ?_
    refine r_const (pc' := 29) rfl rfl ?_
    refine q_zret rfl rfl rfl (by omega) ?_
    have ew : w_X11_readsLine_f S f = (0, (stM S)) := by unfold w_X11_readsLine_f; rw [if_neg h4]
    exact ⟨by rw [ew], by rw [ew], hB1, by rw [ew]; omega, fun a j h1 h2 => stM_o h1⟩
noncomputable def w_X11_readsLine_w (S : rS) (w : Int) : Int × rS := if (rtk (S 240) (S 232 9) (S 232 15)) = 1 then if 8 < ((tkQ (S 240) (S 232 9) (S 232 15)) - (tkB (S 240) (S 232 9) (S 232 15))) then (0, (stM S)) else (1, (flb (mx_up (stM S) 234 (114 + w) ((tkQ (S 240) (S 232 9) (S 232 15)) - (tkB (S 240) (S 232 9) (S 232 15)))) 234 (122 + (8 * w)) (fun kk => S 240 ((tkB (S 240) (S 232 9) (S 232 15)) + kk) - 97) ((tkQ (S 240) (S 232 9) (S 232 15)) - (tkB (S 240) (S 232 9) (S 232 15))))) else (0, (stM S))
theorem c_X11_readsLine_w {w : Int} {S : rS} (hB : Bd S) (h_w : 0 ≤ w ∧ w < 8) : CS 3 119 [.inr (.inr 232), .inl (114 + w), .inl (122 + (8 * w))] S (fun r' S' => r' = some (.inl ((w_X11_readsLine_w S w).1)) ∧ S' = (w_X11_readsLine_w S w).2 ∧ Bd S' ∧ ((w_X11_readsLine_w S w).1 = 0 ∨ (w_X11_readsLine_w S w).1 = 1) ∧ (∀ a j : Int, ¬ (a = 232 ∧ 15 ≤ j ∧ j ≤ 19) → ¬ (a = 234 ∧ ¬ (j = 0 ∨ j = 85 ∨ j = 113 ∨ j = 186)) → S' a j = S a j)) := by
  refine RS.beg (ls := [some (.inr (.inr 232)), some (.inl (114 + w)), some (.inl (122 + (8 * w))), none, none]) rfl rfl rfl rfl rfl ?_
  have hT : ∀ i, 0 ≤ S 240 i ∧ S 240 i ≤ 255 := fun i => hB 240 i
  have z9 : 0 ≤ S 232 9 ∧ S 232 9 ≤ 200 := hB 232 9
  have z15 : 0 ≤ S 232 15 ∧ S 232 15 ≤ 200 := hB 232 15
  have t1 := tkB_b (S 240) (S 232 9) (S 232 15)
  have t2 := tkQ_b (S 240) (S 232 9) (S 232 15)
  have zr := rtk_r (T := S 240) (n := S 232 9) (e := S 232 15)
  refine r_aload (pc' := 1) rfl rfl rfl ?_
  refine q_callE (pc' := 4) (w := none) (S2 := stM S) (st' := []) rfl rfl rfl (c_X11_step  (S := S) hB ) (by decide) rfl rfl (Nat.le_of_ble_eq_true rfl) (fun _ _ => ⟨_, _, rfl, rfl⟩) rfl rfl ?_
  have hB1 : Bd (stM S) := Bd_stM hB
  refine r_aload (pc' := 5) rfl rfl rfl ?_
  refine r_getv (pc' := 8) (v := (tkQ (S 240) (S 232 9) (S 232 15))) rfl rfl (Or.inl rfl) rfl rfl ?_
  have b2 : 0 ≤ S 232 9 ∧ S 232 9 ≤ 200 := hB 232 9
  have b3 : 0 ≤ S 232 15 ∧ S 232 15 ≤ 200 := hB 232 15
  refine r_aload (pc' := 9) rfl rfl rfl ?_
  refine r_getv (pc' := 12) (v := (tkB (S 240) (S 232 9) (S 232 15))) rfl rfl (Or.inl rfl) rfl rfl ?_
  refine r_isub (pc' := 13) rfl rfl ?_
  refine r_istore (pc' := 14) (ls' := [some (.inr (.inr 232)), some (.inl (114 + w)), some (.inl (122 + (8 * w))), some (.inl ((tkQ (S 240) (S 232 9) (S 232 15)) - (tkB (S 240) (S 232 9) (S 232 15)))), none]) rfl rfl rfl rfl ?_
  refine r_aload (pc' := 15) rfl rfl rfl ?_
  refine r_getv (pc' := 18) (v := (rtk (S 240) (S 232 9) (S 232 15))) rfl rfl (Or.inl rfl) rfl rfl ?_
  refine r_const (pc' := 19) rfl rfl ?_
  by_cases h4 : (rtk (S 240) (S 232 9) (S 232 15)) = 1
  · refine r_icmp_ne0 (pc' := 22) rfl rfl (by omega) (by omega) ?_
    refine r_iload (pc' := 23) rfl rfl rfl ?_
    refine r_const (pc' := 25) rfl rfl ?_
    by_cases h5 : 8 < ((tkQ (S 240) (S 232 9) (S 232 15)) - (tkB (S 240) (S 232 9) (S 232 15)))
    · refine r_icmp_le0 (pc' := 28) rfl rfl (by omega) (by omega) ?_
      refine r_const (pc' := 29) rfl rfl ?_
      refine q_zret rfl rfl rfl (by omega) ?_
      have ew : w_X11_readsLine_w S w = (0, (stM S)) := by unfold w_X11_readsLine_w; rw [if_pos h4, if_pos h5]
      exact ⟨by rw [ew], by rw [ew], hB1, by rw [ew]; omega, fun a j h1 h2 => stM_o h1⟩
    · refine r_icmp_le1 (pc' := 30) rfl rfl (by omega) (by omega) ?_
      refine r_aload (pc' := 31) rfl rfl rfl ?_
      refine r_getr (pc' := 34) (v := 234) rfl rfl rfl rfl rfl ?_
      refine r_iload (pc' := 35) rfl rfl rfl ?_
      refine r_iload (pc' := 36) rfl rfl rfl ?_
      refine r_ast (pc' := 37) 187 rfl rfl rfl (by omega) ?_
      refine r_const (pc' := 38) rfl rfl ?_
      refine r_istore (pc' := 40) (ls' := [some (.inr (.inr 232)), some (.inl (114 + w)), some (.inl (122 + (8 * w))), some (.inl ((tkQ (S 240) (S 232 9) (S 232 15)) - (tkB (S 240) (S 232 9) (S 232 15)))), some (.inl 0)]) rfl rfl rfl rfl ?_
      refine r_mem (show mx_up (stM S) 234 (114 + w) ((tkQ (S 240) (S 232 9) (S 232 15)) - (tkB (S 240) (S 232 9) (S 232 15))) = flb (mx_up (stM S) 234 (114 + w) ((tkQ (S 240) (S 232 9) (S 232 15)) - (tkB (S 240) (S 232 9) (S 232 15)))) 234 (122 + (8 * w)) (fun kk => S 240 ((tkB (S 240) (S 232 9) (S 232 15)) + kk) - 97) (0 : Int) from by exact flb_0 _ _ _ _) ?_
      refine r_while (α := Int) (fun z' => [some (.inr (.inr 232)), some (.inl (114 + w)), some (.inl (122 + (8 * w))), some (.inl ((tkQ (S 240) (S 232 9) (S 232 15)) - (tkB (S 240) (S 232 9) (S 232 15)))), some (.inl z')]) (fun z' => flb (mx_up (stM S) 234 (114 + w) ((tkQ (S 240) (S 232 9) (S 232 15)) - (tkB (S 240) (S 232 9) (S 232 15)))) 234 (122 + (8 * w)) (fun kk => S 240 ((tkB (S 240) (S 232 9) (S 232 15)) + kk) - 97) z') (fun z' => (0 ≤ z' ∧ z' ≤ (tkQ (S 240) (S 232 9) (S 232 15)) - (tkB (S 240) (S 232 9) (S 232 15)))) (fun z' => ((tkQ (S 240) (S 232 9) (S 232 15)) - (tkB (S 240) (S 232 9) (S 232 15)) - z').toNat) ?_ 0 (show (0 ≤ (0 : Int) ∧ (0 : Int) ≤ (tkQ (S 240) (S 232 9) (S 232 15)) - (tkB (S 240) (S 232 9) (S 232 15))) from by omega)
      rintro k hI' ih40
      have hI' : (0 ≤ k ∧ k ≤ (tkQ (S 240) (S 232 9) (S 232 15)) - (tkB (S 240) (S 232 9) (S 232 15))) := hI'
      have i1 := hI'
      show RS _ _ _ _ [some (.inr (.inr 232)), some (.inl (114 + w)), some (.inl (122 + (8 * w))), some (.inl ((tkQ (S 240) (S 232 9) (S 232 15)) - (tkB (S 240) (S 232 9) (S 232 15)))), some (.inl k)] [] (flb (mx_up (stM S) 234 (114 + w) ((tkQ (S 240) (S 232 9) (S 232 15)) - (tkB (S 240) (S 232 9) (S 232 15)))) 234 (122 + (8 * w)) (fun kk => S 240 ((tkB (S 240) (S 232 9) (S 232 15)) + kk) - 97) k)
      have hB6 : Bd (flb (mx_up (stM S) 234 (114 + w) ((tkQ (S 240) (S 232 9) (S 232 15)) - (tkB (S 240) (S 232 9) (S 232 15)))) 234 (122 + (8 * w)) (fun kk => S 240 ((tkB (S 240) (S 232 9) (S 232 15)) + kk) - 97) k) := by refine Bd_flb (Bd_up (Bd_stM hB) (show _ ≤ (tkQ (S 240) (S 232 9) (S 232 15)) - (tkB (S 240) (S 232 9) (S 232 15)) from by rw [(bdi_234_114 (x := w) (by omega)).1]; omega) (show (tkQ (S 240) (S 232 9) (S 232 15)) - (tkB (S 240) (S 232 9) (S 232 15)) ≤ _ from by rw [(bdi_234_114 (x := w) (by omega)).2]; omega)) (fun kk k0 k1 => ?_); have q := tk_let (T := S 240) (n := S 232 9) (e := S 232 15) (k := kk) (by omega) k0 (by omega); rw [show 122 + (8 * w) + kk = 122 + (8 * w + kk) by omega, (bdi_234_122 (x := 8 * w + kk) (by omega)).1, (bdi_234_122 (x := 8 * w + kk) (by omega)).2]; show 0 ≤ S 240 ((tkB (S 240) (S 232 9) (S 232 15)) + kk) - 97 ∧ S 240 ((tkB (S 240) (S 232 9) (S 232 15)) + kk) - 97 ≤ 25; omega
      refine r_iload (pc' := 42) rfl rfl rfl ?_
      refine r_iload (pc' := 43) rfl rfl rfl ?_
      by_cases h7 : k < ((tkQ (S 240) (S 232 9) (S 232 15)) - (tkB (S 240) (S 232 9) (S 232 15)))
      · refine r_icmp_ge0 (pc' := 46) rfl rfl (by omega) (by omega) ?_
        refine r_aload (pc' := 47) rfl rfl rfl ?_
        refine r_getr (pc' := 50) (v := 234) rfl rfl rfl rfl rfl ?_
        refine r_iload (pc' := 51) rfl rfl rfl ?_
        refine r_iload (pc' := 53) rfl rfl rfl ?_
        refine r_iadd (pc' := 54) rfl rfl ?_
        refine r_aload (pc' := 55) rfl rfl rfl ?_
        refine r_getr (pc' := 58) (v := 240) rfl rfl rfl rfl rfl ?_
        refine r_aload (pc' := 59) rfl rfl rfl ?_
        refine r_getv (pc' := 62) (v := (tkB (S 240) (S 232 9) (S 232 15))) rfl rfl (Or.inl rfl) rfl (flb_o (by omega)) ?_
        refine r_iload (pc' := 64) rfl rfl rfl ?_
        refine r_iadd (pc' := 65) rfl rfl ?_
        refine r_aldv (pc' := 66) (v := (S 240 ((tkB (S 240) (S 232 9) (S 232 15)) + k))) 200 rfl rfl rfl (by omega) ((flb_o (by omega)).trans ((up_ne (by omega)).trans (stM_o (by omega)))) ?_
        have b8 : 0 ≤ S 240 ((tkB (S 240) (S 232 9) (S 232 15)) + k) ∧ S 240 ((tkB (S 240) (S 232 9) (S 232 15)) + k) ≤ 255 := hB 240 ((tkB (S 240) (S 232 9) (S 232 15)) + k)
        refine r_const (pc' := 68) rfl rfl ?_
        refine r_isub (pc' := 69) rfl rfl ?_
        refine r_ast (pc' := 70) 187 rfl rfl rfl (by omega) ?_
        refine r_iinc (pc' := 73) (ls' := [some (.inr (.inr 232)), some (.inl (114 + w)), some (.inl (122 + (8 * w))), some (.inl ((tkQ (S 240) (S 232 9) (S 232 15)) - (tkB (S 240) (S 232 9) (S 232 15)))), some (.inl (k + 1))]) rfl rfl rfl rfl rfl ?_
        refine r_goto (pc' := 40) rfl rfl ?_
        refine r_mem (show mx_up (flb (mx_up (stM S) 234 (114 + w) ((tkQ (S 240) (S 232 9) (S 232 15)) - (tkB (S 240) (S 232 9) (S 232 15)))) 234 (122 + (8 * w)) (fun kk => S 240 ((tkB (S 240) (S 232 9) (S 232 15)) + kk) - 97) k) 234 ((122 + (8 * w)) + k) ((S 240 ((tkB (S 240) (S 232 9) (S 232 15)) + k)) - 97) = flb (mx_up (stM S) 234 (114 + w) ((tkQ (S 240) (S 232 9) (S 232 15)) - (tkB (S 240) (S 232 9) (S 232 15)))) 234 (122 + (8 * w)) (fun kk => S 240 ((tkB (S 240) (S 232 9) (S 232 15)) + kk) - 97) (k + 1) from by exact flb_s (by omega) (by omega) rfl) ?_
        exact ih40 (k + 1) (show (0 ≤ (k + 1) ∧ (k + 1) ≤ (tkQ (S 240) (S 232 9) (S 232 15)) - (tkB (S 240) (S 232 9) (S 232 15))) from by omega) (show ((tkQ (S 240) (S 232 9) (S 232 15)) - (tkB (S 240) (S 232 9) (S 232 15)) - (k + 1)).toNat < ((tkQ (S 240) (S 232 9) (S 232 15)) - (tkB (S 240) (S 232 9) (S 232 15)) - k).toNat from by omega)
      · refine r_icmp_ge1 (pc' := 76) rfl rfl (by omega) (by omega) ?_
        refine r_const (pc' := 77) rfl rfl ?_
        refine q_zret rfl rfl rfl (by omega) ?_
        obtain rfl : (tkQ (S 240) (S 232 9) (S 232 15)) - (tkB (S 240) (S 232 9) (S 232 15)) = k := by omega
        have ew : w_X11_readsLine_w S w = (1, (flb (mx_up (stM S) 234 (114 + w) ((tkQ (S 240) (S 232 9) (S 232 15)) - (tkB (S 240) (S 232 9) (S 232 15)))) 234 (122 + (8 * w)) (fun kk => S 240 ((tkB (S 240) (S 232 9) (S 232 15)) + kk) - 97) ((tkQ (S 240) (S 232 9) (S 232 15)) - (tkB (S 240) (S 232 9) (S 232 15))))) := by unfold w_X11_readsLine_w; rw [if_pos h4, if_neg h5]
        exact ⟨by rw [ew], by rw [ew], hB6, by rw [ew]; omega, fun a j h1 h2 => (flb_o (by omega)).trans ((up_ne (by omega)).trans (stM_o h1))⟩
  · refine r_icmp_ne1 (pc' := 28) rfl rfl (by omega) (by omega) ?_
    refine r_const (pc' := 29) rfl rfl ?_
    refine q_zret rfl rfl rfl (by omega) ?_
    have ew : w_X11_readsLine_w S w = (0, (stM S)) := by unfold w_X11_readsLine_w; rw [if_neg h4]
    exact ⟨by rw [ew], by rw [ew], hB1, by rw [ew]; omega, fun a j h1 h2 => stM_o h1⟩
noncomputable def w_X11_readsField (S : rS) (c : Int) : Int × rS := if (S 234 0) = 7 then (0, S) else if ((w_X11_number S 0 3).1) = 0 then (0, (w_X11_number S 0 3).2) else if ((w_X11_number (mx_up (mx_up ((w_X11_number S 0 3).2) 234 (1 + (S 234 0)) c) 234 (8 + (S 234 0)) (((w_X11_number S 0 3).2) 232 19)) 1 9).1) = 0 then (0, (w_X11_number (mx_up (mx_up ((w_X11_number S 0 3).2) 234 (1 + (S 234 0)) c) 234 (8 + (S 234 0)) (((w_X11_number S 0 3).2) 232 19)) 1 9).2) else if ((w_X11_readsLine_f (mx_up ((w_X11_number (mx_up (mx_up ((w_X11_number S 0 3).2) 234 (1 + (S 234 0)) c) 234 (8 + (S 234 0)) (((w_X11_number S 0 3).2) 232 19)) 1 9).2) 234 (15 + (S 234 0)) (((w_X11_number (mx_up (mx_up ((w_X11_number S 0 3).2) 234 (1 + (S 234 0)) c) 234 (8 + (S 234 0)) (((w_X11_number S 0 3).2) 232 19)) 1 9).2) 232 19)) (S 234 0)).1) = 0 then (0, (w_X11_readsLine_f (mx_up ((w_X11_number (mx_up (mx_up ((w_X11_number S 0 3).2) 234 (1 + (S 234 0)) c) 234 (8 + (S 234 0)) (((w_X11_number S 0 3).2) 232 19)) 1 9).2) 234 (15 + (S 234 0)) (((w_X11_number (mx_up (mx_up ((w_X11_number S 0 3).2) 234 (1 + (S 234 0)) c) 234 (8 + (S 234 0)) (((w_X11_number S 0 3).2) 232 19)) 1 9).2) 232 19)) (S 234 0)).2) else (1, mx_up ((w_X11_readsLine_f (mx_up ((w_X11_number (mx_up (mx_up ((w_X11_number S 0 3).2) 234 (1 + (S 234 0)) c) 234 (8 + (S 234 0)) (((w_X11_number S 0 3).2) 232 19)) 1 9).2) 234 (15 + (S 234 0)) (((w_X11_number (mx_up (mx_up ((w_X11_number S 0 3).2) 234 (1 + (S 234 0)) c) 234 (8 + (S 234 0)) (((w_X11_number S 0 3).2) 232 19)) 1 9).2) 232 19)) (S 234 0)).2) 234 0 ((S 234 0) + 1))
theorem c_X11_readsField {c : Int} {S : rS} (hB : Bd S) (h_c : 0 ≤ c ∧ c ≤ 3) : CS 4 117 [.inr (.inr 232), .inl c] S (fun r' S' => r' = some (.inl ((w_X11_readsField S c).1)) ∧ S' = (w_X11_readsField S c).2 ∧ Bd S' ∧ ((w_X11_readsField S c).1 = 0 ∨ (w_X11_readsField S c).1 = 1) ∧ (∀ a j : Int, ¬ (a = 232 ∧ 15 ≤ j ∧ j ≤ 19) → ¬ a = 234 → S' a j = S a j)) := by
  refine RS.beg (ls := [some (.inr (.inr 232)), some (.inl c), none]) rfl rfl rfl rfl rfl ?_
  have z0 : 0 ≤ S 234 0 ∧ S 234 0 ≤ 7 := hB 234 0
  have z85 : 0 ≤ S 234 85 ∧ S 234 85 ≤ 9 := hB 234 85
  have z113 : 0 ≤ S 234 113 ∧ S 234 113 ≤ 8 := hB 234 113
  refine r_aload (pc' := 1) rfl rfl rfl ?_
  refine r_getr (pc' := 4) (v := 234) rfl rfl rfl rfl rfl ?_
  refine r_const (pc' := 5) rfl rfl ?_
  refine r_aldv (pc' := 6) (v := (S 234 0)) 187 rfl rfl rfl (by omega) rfl ?_
  have b1 : 0 ≤ S 234 0 ∧ S 234 0 ≤ 7 := hB 234 0
  refine r_istore (pc' := 7) (ls' := [some (.inr (.inr 232)), some (.inl c), some (.inl (S 234 0))]) rfl rfl rfl rfl ?_
  refine r_iload (pc' := 8) rfl rfl rfl ?_
  refine r_const (pc' := 10) rfl rfl ?_
  by_cases h2 : (S 234 0) = 7
  · refine r_icmp_eq1 (pc' := 22) rfl rfl (by omega) (by omega) ?_
    refine r_const (pc' := 23) rfl rfl ?_
    refine q_zret rfl rfl rfl (by omega) ?_
    have ew : w_X11_readsField S c = (0, S) := by unfold w_X11_readsField; rw [if_pos h2]
    exact ⟨by rw [ew], by rw [ew], hB, by rw [ew]; omega, fun a j h1 h2 => rfl⟩
  · refine r_icmp_eq0 (pc' := 13) rfl rfl (by omega) (by omega) ?_
    refine r_aload (pc' := 14) rfl rfl rfl ?_
    refine r_const (pc' := 15) rfl rfl ?_
    refine r_const (pc' := 16) rfl rfl ?_
    refine q_call (pc' := 19) (P := fun r' S' => r' = some (.inl ((w_X11_number S (0 : Int) (3 : Int)).1)) ∧ S' = (w_X11_number S (0 : Int) (3 : Int)).2 ∧ Bd S' ∧ ((w_X11_number S (0 : Int) (3 : Int)).1 = 0 ∨ (w_X11_number S (0 : Int) (3 : Int)).1 = 1) ∧ (((w_X11_number S (0 : Int) (3 : Int)).1 = 0 ∨ ((0 : Int) ≤ S' 232 19 ∧ S' 232 19 ≤ (3 : Int))) ∧ (∀ a j : Int, ¬ (a = 232 ∧ 15 ≤ j ∧ j ≤ 19) → S' a j = S a j))) rfl rfl rfl (c_X11_number (lo := 0) (hi := 3) (S := S) hB (show 0 ≤ (0 : Int) ∧ (0 : Int) ≤ 100 from by omega) (show -1 ≤ (3 : Int) ∧ (3 : Int) ≤ 99 from by omega)) (by decide) rfl rfl (Nat.le_of_ble_eq_true rfl) (fun _ _ => ⟨_, _, rfl, rfl⟩) rfl ?_
    rintro _ _ ⟨rfl, rfl, hB3, hr3, he3⟩ hz3
    show RS _ _ _ _ _ [.inl ((w_X11_number S 0 3).1)] (w_X11_number S 0 3).2
    have b4 : -2147483648 ≤ S 0 3 ∧ S 0 3 ≤ 2147483647 := hB 0 3
    by_cases h5 : ((w_X11_number S 0 3).1) = 0
    · refine r_if_ne0 (pc' := 22) rfl rfl (by omega) (by omega) ?_
      refine r_const (pc' := 23) rfl rfl ?_
      refine q_zret rfl rfl rfl (by omega) ?_
      have ew : w_X11_readsField S c = (0, (w_X11_number S 0 3).2) := by unfold w_X11_readsField; rw [if_neg h2, if_pos h5]
      exact ⟨by rw [ew], by rw [ew], hB3, by rw [ew]; omega, fun a j h1 h2 => ((he3.2 a j h1).trans rfl)⟩
    · refine r_if_ne1 (pc' := 24) rfl rfl (by omega) (by omega) ?_
      refine r_aload (pc' := 25) rfl rfl rfl ?_
      refine r_getr (pc' := 28) (v := 234) rfl rfl rfl rfl rfl ?_
      refine r_const (pc' := 29) rfl rfl ?_
      refine r_iload (pc' := 30) rfl rfl rfl ?_
      refine r_iadd (pc' := 31) rfl rfl ?_
      refine r_iload (pc' := 32) rfl rfl rfl ?_
      refine r_ast (pc' := 33) 187 rfl rfl rfl (by omega) ?_
      refine r_aload (pc' := 34) rfl rfl rfl ?_
      refine r_getr (pc' := 37) (v := 234) rfl rfl rfl rfl rfl ?_
      refine r_const (pc' := 39) rfl rfl ?_
      refine r_iload (pc' := 40) rfl rfl rfl ?_
      refine r_iadd (pc' := 41) rfl rfl ?_
      refine r_aload (pc' := 42) rfl rfl rfl ?_
      refine r_getv (pc' := 45) (v := (((w_X11_number S 0 3).2) 232 19)) rfl rfl (Or.inl rfl) rfl rfl ?_
      refine r_ast (pc' := 46) 187 rfl rfl rfl (by omega) ?_
      refine r_aload (pc' := 47) rfl rfl rfl ?_
      refine r_const (pc' := 48) rfl rfl ?_
      refine r_const (pc' := 50) rfl rfl ?_
      refine q_call (pc' := 53) (P := fun r' S' => r' = some (.inl ((w_X11_number (mx_up (mx_up ((w_X11_number S 0 3).2) 234 (1 + (S 234 0)) c) 234 (8 + (S 234 0)) (((w_X11_number S 0 3).2) 232 19)) (1 : Int) (9 : Int)).1)) ∧ S' = (w_X11_number (mx_up (mx_up ((w_X11_number S 0 3).2) 234 (1 + (S 234 0)) c) 234 (8 + (S 234 0)) (((w_X11_number S 0 3).2) 232 19)) (1 : Int) (9 : Int)).2 ∧ Bd S' ∧ ((w_X11_number (mx_up (mx_up ((w_X11_number S 0 3).2) 234 (1 + (S 234 0)) c) 234 (8 + (S 234 0)) (((w_X11_number S 0 3).2) 232 19)) (1 : Int) (9 : Int)).1 = 0 ∨ (w_X11_number (mx_up (mx_up ((w_X11_number S 0 3).2) 234 (1 + (S 234 0)) c) 234 (8 + (S 234 0)) (((w_X11_number S 0 3).2) 232 19)) (1 : Int) (9 : Int)).1 = 1) ∧ (((w_X11_number (mx_up (mx_up ((w_X11_number S 0 3).2) 234 (1 + (S 234 0)) c) 234 (8 + (S 234 0)) (((w_X11_number S 0 3).2) 232 19)) (1 : Int) (9 : Int)).1 = 0 ∨ ((1 : Int) ≤ S' 232 19 ∧ S' 232 19 ≤ (9 : Int))) ∧ (∀ a j : Int, ¬ (a = 232 ∧ 15 ≤ j ∧ j ≤ 19) → S' a j = (mx_up (mx_up ((w_X11_number S 0 3).2) 234 (1 + (S 234 0)) c) 234 (8 + (S 234 0)) (((w_X11_number S 0 3).2) 232 19)) a j))) rfl rfl rfl (c_X11_number (lo := 1) (hi := 9) (S := mx_up (mx_up ((w_X11_number S 0 3).2) 234 (1 + (S 234 0)) c) 234 (8 + (S 234 0)) (((w_X11_number S 0 3).2) 232 19)) (Bd_up (Bd_up hB3 (show _ ≤ c from by rw [(bdi_234_1 (show 0 ≤ (S 234 0) ∧ (S 234 0) < 7 from by omega)).1]; omega) (show c ≤ _ from by rw [(bdi_234_1 (show 0 ≤ (S 234 0) ∧ (S 234 0) < 7 from by omega)).2]; omega)) (show _ ≤ (((w_X11_number S 0 3).2) 232 19) from by rw [(bdi_234_8 (show 0 ≤ (S 234 0) ∧ (S 234 0) < 7 from by omega)).1]; omega) (show (((w_X11_number S 0 3).2) 232 19) ≤ _ from by rw [(bdi_234_8 (show 0 ≤ (S 234 0) ∧ (S 234 0) < 7 from by omega)).2]; omega)) (show 0 ≤ (1 : Int) ∧ (1 : Int) ≤ 100 from by omega) (show -1 ≤ (9 : Int) ∧ (9 : Int) ≤ 99 from by omega)) (by decide) rfl rfl (Nat.le_of_ble_eq_true rfl) (fun _ _ => ⟨_, _, rfl, rfl⟩) rfl ?_
      rintro _ _ ⟨rfl, rfl, hB6, hr6, he6⟩ hz6
      show RS _ _ _ _ _ [.inl ((w_X11_number (mx_up (mx_up ((w_X11_number S 0 3).2) 234 (1 + (S 234 0)) c) 234 (8 + (S 234 0)) (((w_X11_number S 0 3).2) 232 19)) 1 9).1)] (w_X11_number (mx_up (mx_up ((w_X11_number S 0 3).2) 234 (1 + (S 234 0)) c) 234 (8 + (S 234 0)) (((w_X11_number S 0 3).2) 232 19)) 1 9).2
      by_cases h7 : ((w_X11_number (mx_up (mx_up ((w_X11_number S 0 3).2) 234 (1 + (S 234 0)) c) 234 (8 + (S 234 0)) (((w_X11_number S 0 3).2) 232 19)) 1 9).1) = 0
      · refine r_if_ne0 (pc' := 56) rfl rfl (by omega) (by omega) ?_
        refine r_const (pc' := 57) rfl rfl ?_
        refine q_zret rfl rfl rfl (by omega) ?_
        have ew : w_X11_readsField S c = (0, (w_X11_number (mx_up (mx_up ((w_X11_number S 0 3).2) 234 (1 + (S 234 0)) c) 234 (8 + (S 234 0)) (((w_X11_number S 0 3).2) 232 19)) 1 9).2) := by unfold w_X11_readsField; rw [if_neg h2, if_neg h5, if_pos h7]
        exact ⟨by rw [ew], by rw [ew], hB6, by rw [ew]; omega, fun a j h1 h2 => ((he6.2 a j h1).trans ((up_ne (by omega)).trans ((up_ne (by omega)).trans ((he3.2 a j h1).trans rfl))))⟩
      · refine r_if_ne1 (pc' := 58) rfl rfl (by omega) (by omega) ?_
        refine r_aload (pc' := 59) rfl rfl rfl ?_
        refine r_getr (pc' := 62) (v := 234) rfl rfl rfl rfl rfl ?_
        refine r_const (pc' := 64) rfl rfl ?_
        refine r_iload (pc' := 65) rfl rfl rfl ?_
        refine r_iadd (pc' := 66) rfl rfl ?_
        refine r_aload (pc' := 67) rfl rfl rfl ?_
        refine r_getv (pc' := 70) (v := (((w_X11_number (mx_up (mx_up ((w_X11_number S 0 3).2) 234 (1 + (S 234 0)) c) 234 (8 + (S 234 0)) (((w_X11_number S 0 3).2) 232 19)) 1 9).2) 232 19)) rfl rfl (Or.inl rfl) rfl rfl ?_
        have b8 : 0 ≤ ((w_X11_number (mx_up (mx_up ((w_X11_number S 0 3).2) 234 (1 + (S 234 0)) c) 234 (8 + (S 234 0)) (((w_X11_number S 0 3).2) 232 19)) 1 9).2) 232 19 ∧ ((w_X11_number (mx_up (mx_up ((w_X11_number S 0 3).2) 234 (1 + (S 234 0)) c) 234 (8 + (S 234 0)) (((w_X11_number S 0 3).2) 232 19)) 1 9).2) 232 19 ≤ 99 := hB6 232 19
        refine r_ast (pc' := 71) 187 rfl rfl rfl (by omega) ?_
        refine r_aload (pc' := 72) rfl rfl rfl ?_
        refine r_const (pc' := 74) rfl rfl ?_
        refine r_iload (pc' := 75) rfl rfl rfl ?_
        refine r_iadd (pc' := 76) rfl rfl ?_
        refine r_const (pc' := 78) rfl rfl ?_
        refine r_const (pc' := 80) rfl rfl ?_
        refine r_iload (pc' := 81) rfl rfl rfl ?_
        refine r_imul (pc' := 82) rfl rfl ?_
        refine r_iadd (pc' := 83) rfl rfl ?_
        refine q_call (pc' := 86) (P := fun r' S' => r' = some (.inl ((w_X11_readsLine_f (mx_up ((w_X11_number (mx_up (mx_up ((w_X11_number S 0 3).2) 234 (1 + (S 234 0)) c) 234 (8 + (S 234 0)) (((w_X11_number S 0 3).2) 232 19)) 1 9).2) 234 (15 + (S 234 0)) (((w_X11_number (mx_up (mx_up ((w_X11_number S 0 3).2) 234 (1 + (S 234 0)) c) 234 (8 + (S 234 0)) (((w_X11_number S 0 3).2) 232 19)) 1 9).2) 232 19)) (S 234 0)).1)) ∧ S' = (w_X11_readsLine_f (mx_up ((w_X11_number (mx_up (mx_up ((w_X11_number S 0 3).2) 234 (1 + (S 234 0)) c) 234 (8 + (S 234 0)) (((w_X11_number S 0 3).2) 232 19)) 1 9).2) 234 (15 + (S 234 0)) (((w_X11_number (mx_up (mx_up ((w_X11_number S 0 3).2) 234 (1 + (S 234 0)) c) 234 (8 + (S 234 0)) (((w_X11_number S 0 3).2) 232 19)) 1 9).2) 232 19)) (S 234 0)).2 ∧ Bd S' ∧ ((w_X11_readsLine_f (mx_up ((w_X11_number (mx_up (mx_up ((w_X11_number S 0 3).2) 234 (1 + (S 234 0)) c) 234 (8 + (S 234 0)) (((w_X11_number S 0 3).2) 232 19)) 1 9).2) 234 (15 + (S 234 0)) (((w_X11_number (mx_up (mx_up ((w_X11_number S 0 3).2) 234 (1 + (S 234 0)) c) 234 (8 + (S 234 0)) (((w_X11_number S 0 3).2) 232 19)) 1 9).2) 232 19)) (S 234 0)).1 = 0 ∨ (w_X11_readsLine_f (mx_up ((w_X11_number (mx_up (mx_up ((w_X11_number S 0 3).2) 234 (1 + (S 234 0)) c) 234 (8 + (S 234 0)) (((w_X11_number S 0 3).2) 232 19)) 1 9).2) 234 (15 + (S 234 0)) (((w_X11_number (mx_up (mx_up ((w_X11_number S 0 3).2) 234 (1 + (S 234 0)) c) 234 (8 + (S 234 0)) (((w_X11_number S 0 3).2) 232 19)) 1 9).2) 232 19)) (S 234 0)).1 = 1) ∧ (∀ a j : Int, ¬ (a = 232 ∧ 15 ≤ j ∧ j ≤ 19) → ¬ (a = 234 ∧ ¬ (j = 0 ∨ j = 85 ∨ j = 113 ∨ j = 186)) → S' a j = (mx_up ((w_X11_number (mx_up (mx_up ((w_X11_number S 0 3).2) 234 (1 + (S 234 0)) c) 234 (8 + (S 234 0)) (((w_X11_number S 0 3).2) 232 19)) 1 9).2) 234 (15 + (S 234 0)) (((w_X11_number (mx_up (mx_up ((w_X11_number S 0 3).2) 234 (1 + (S 234 0)) c) 234 (8 + (S 234 0)) (((w_X11_number S 0 3).2) 232 19)) 1 9).2) 232 19)) a j)) rfl rfl rfl (c_X11_readsLine_f (f := (S 234 0)) (S := mx_up ((w_X11_number (mx_up (mx_up ((w_X11_number S 0 3).2) 234 (1 + (S 234 0)) c) 234 (8 + (S 234 0)) (((w_X11_number S 0 3).2) 232 19)) 1 9).2) 234 (15 + (S 234 0)) (((w_X11_number (mx_up (mx_up ((w_X11_number S 0 3).2) 234 (1 + (S 234 0)) c) 234 (8 + (S 234 0)) (((w_X11_number S 0 3).2) 232 19)) 1 9).2) 232 19)) (Bd_up hB6 (show _ ≤ (((w_X11_number (mx_up (mx_up ((w_X11_number S 0 3).2) 234 (1 + (S 234 0)) c) 234 (8 + (S 234 0)) (((w_X11_number S 0 3).2) 232 19)) 1 9).2) 232 19) from by rw [(bdi_234_15 (show 0 ≤ (S 234 0) ∧ (S 234 0) < 7 from by omega)).1]; omega) (show (((w_X11_number (mx_up (mx_up ((w_X11_number S 0 3).2) 234 (1 + (S 234 0)) c) 234 (8 + (S 234 0)) (((w_X11_number S 0 3).2) 232 19)) 1 9).2) 232 19) ≤ _ from by rw [(bdi_234_15 (show 0 ≤ (S 234 0) ∧ (S 234 0) < 7 from by omega)).2]; omega)) (show 0 ≤ (S 234 0) ∧ (S 234 0) < 7 from by omega)) (by decide) rfl rfl (Nat.le_of_ble_eq_true rfl) (fun _ _ => ⟨_, _, rfl, rfl⟩) rfl ?_
        rintro _ _ ⟨rfl, rfl, hB9, hr9, he9⟩ hz9
        show RS _ _ _ _ _ [.inl ((w_X11_readsLine_f (mx_up ((w_X11_number (mx_up (mx_up ((w_X11_number S 0 3).2) 234 (1 + (S 234 0)) c) 234 (8 + (S 234 0)) (((w_X11_number S 0 3).2) 232 19)) 1 9).2) 234 (15 + (S 234 0)) (((w_X11_number (mx_up (mx_up ((w_X11_number S 0 3).2) 234 (1 + (S 234 0)) c) 234 (8 + (S 234 0)) (((w_X11_number S 0 3).2) 232 19)) 1 9).2) 232 19)) (S 234 0)).1)] (w_X11_readsLine_f (mx_up ((w_X11_number (mx_up (mx_up ((w_X11_number S 0 3).2) 234 (1 + (S 234 0)) c) 234 (8 + (S 234 0)) (((w_X11_number S 0 3).2) 232 19)) 1 9).2) 234 (15 + (S 234 0)) (((w_X11_number (mx_up (mx_up ((w_X11_number S 0 3).2) 234 (1 + (S 234 0)) c) 234 (8 + (S 234 0)) (((w_X11_number S 0 3).2) 232 19)) 1 9).2) 232 19)) (S 234 0)).2
        by_cases h10 : ((w_X11_readsLine_f (mx_up ((w_X11_number (mx_up (mx_up ((w_X11_number S 0 3).2) 234 (1 + (S 234 0)) c) 234 (8 + (S 234 0)) (((w_X11_number S 0 3).2) 232 19)) 1 9).2) 234 (15 + (S 234 0)) (((w_X11_number (mx_up (mx_up ((w_X11_number S 0 3).2) 234 (1 + (S 234 0)) c) 234 (8 + (S 234 0)) (((w_X11_number S 0 3).2) 232 19)) 1 9).2) 232 19)) (S 234 0)).1) = 0
        · refine r_if_ne0 (pc' := 89) rfl rfl (by omega) (by omega) ?_
          refine r_const (pc' := 90) rfl rfl ?_
          refine q_zret rfl rfl rfl (by omega) ?_
          have ew : w_X11_readsField S c = (0, (w_X11_readsLine_f (mx_up ((w_X11_number (mx_up (mx_up ((w_X11_number S 0 3).2) 234 (1 + (S 234 0)) c) 234 (8 + (S 234 0)) (((w_X11_number S 0 3).2) 232 19)) 1 9).2) 234 (15 + (S 234 0)) (((w_X11_number (mx_up (mx_up ((w_X11_number S 0 3).2) 234 (1 + (S 234 0)) c) 234 (8 + (S 234 0)) (((w_X11_number S 0 3).2) 232 19)) 1 9).2) 232 19)) (S 234 0)).2) := by unfold w_X11_readsField; rw [if_neg h2, if_neg h5, if_neg h7, if_pos h10]
          exact ⟨by rw [ew], by rw [ew], hB9, by rw [ew]; omega, fun a j h1 h2 => ((he9 a j h1 (by omega)).trans ((up_ne (by omega)).trans ((he6.2 a j h1).trans ((up_ne (by omega)).trans ((up_ne (by omega)).trans ((he3.2 a j h1).trans rfl))))))⟩
        · refine r_if_ne1 (pc' := 91) rfl rfl (by omega) (by omega) ?_
          refine r_aload (pc' := 92) rfl rfl rfl ?_
          refine r_getr (pc' := 95) (v := 234) rfl rfl rfl rfl rfl ?_
          refine r_const (pc' := 96) rfl rfl ?_
          refine r_dup2 (pc' := 97) rfl rfl ?_
          refine r_aldv (pc' := 98) (v := (S 234 0)) 187 rfl rfl rfl (by omega) ((he9 234 0 (by omega) (by omega)).trans ((up_ne (by omega)).trans ((he6.2 234 0 (by omega)).trans ((up_ne (by omega)).trans ((up_ne (by omega)).trans (he3.2 234 0 (by omega))))))) ?_
          refine r_const (pc' := 99) rfl rfl ?_
          refine r_iadd (pc' := 100) rfl rfl ?_
          refine r_ast (pc' := 101) 187 rfl rfl rfl (by omega) ?_
          refine r_const (pc' := 102) rfl rfl ?_
          refine q_zret rfl rfl rfl (by omega) ?_
          have ew : w_X11_readsField S c = (1, mx_up ((w_X11_readsLine_f (mx_up ((w_X11_number (mx_up (mx_up ((w_X11_number S 0 3).2) 234 (1 + (S 234 0)) c) 234 (8 + (S 234 0)) (((w_X11_number S 0 3).2) 232 19)) 1 9).2) 234 (15 + (S 234 0)) (((w_X11_number (mx_up (mx_up ((w_X11_number S 0 3).2) 234 (1 + (S 234 0)) c) 234 (8 + (S 234 0)) (((w_X11_number S 0 3).2) 232 19)) 1 9).2) 232 19)) (S 234 0)).2) 234 0 ((S 234 0) + 1)) := by unfold w_X11_readsField; rw [if_neg h2, if_neg h5, if_neg h7, if_neg h10]
          exact ⟨by rw [ew], by rw [ew], (Bd_up hB9 (show (0 : Int) ≤ ((S 234 0) + 1) from by omega) (show ((S 234 0) + 1) ≤ (7 : Int) from by omega)), by rw [ew]; omega, fun a j h1 h2 => ((up_ne (by omega)).trans ((he9 a j h1 (by omega)).trans ((up_ne (by omega)).trans ((he6.2 a j h1).trans ((up_ne (by omega)).trans ((up_ne (by omega)).trans ((he3.2 a j h1).trans rfl)))))))⟩
noncomputable def w_X11_readsGate (S : rS) : Int × rS := if (S 234 85) = 9 then (0, S) else if ((w_X11_number S 0 ((S 234 0) - 1)).1) = 0 then (0, (w_X11_number S 0 ((S 234 0) - 1)).2) else if ((w_X11_number (mx_up ((w_X11_number S 0 ((S 234 0) - 1)).2) 234 (86 + (S 234 85)) (((w_X11_number S 0 ((S 234 0) - 1)).2) 232 19)) 0 ((S 234 0) - 1)).1) = 0 then (0, (w_X11_number (mx_up ((w_X11_number S 0 ((S 234 0) - 1)).2) 234 (86 + (S 234 85)) (((w_X11_number S 0 ((S 234 0) - 1)).2) 232 19)) 0 ((S 234 0) - 1)).2) else if (((w_X11_number (mx_up ((w_X11_number S 0 ((S 234 0) - 1)).2) 234 (86 + (S 234 85)) (((w_X11_number S 0 ((S 234 0) - 1)).2) 232 19)) 0 ((S 234 0) - 1)).2) 232 19) = (((w_X11_number S 0 ((S 234 0) - 1)).2) 232 19) then (0, (w_X11_number (mx_up ((w_X11_number S 0 ((S 234 0) - 1)).2) 234 (86 + (S 234 85)) (((w_X11_number S 0 ((S 234 0) - 1)).2) 232 19)) 0 ((S 234 0) - 1)).2) else if ((w_X11_number (mx_up ((w_X11_number (mx_up ((w_X11_number S 0 ((S 234 0) - 1)).2) 234 (86 + (S 234 85)) (((w_X11_number S 0 ((S 234 0) - 1)).2) 232 19)) 0 ((S 234 0) - 1)).2) 234 (95 + (S 234 85)) (((w_X11_number (mx_up ((w_X11_number S 0 ((S 234 0) - 1)).2) 234 (86 + (S 234 85)) (((w_X11_number S 0 ((S 234 0) - 1)).2) 232 19)) 0 ((S 234 0) - 1)).2) 232 19)) 1 30).1) = 0 then (0, (w_X11_number (mx_up ((w_X11_number (mx_up ((w_X11_number S 0 ((S 234 0) - 1)).2) 234 (86 + (S 234 85)) (((w_X11_number S 0 ((S 234 0) - 1)).2) 232 19)) 0 ((S 234 0) - 1)).2) 234 (95 + (S 234 85)) (((w_X11_number (mx_up ((w_X11_number S 0 ((S 234 0) - 1)).2) 234 (86 + (S 234 85)) (((w_X11_number S 0 ((S 234 0) - 1)).2) 232 19)) 0 ((S 234 0) - 1)).2) 232 19)) 1 30).2) else (1, mx_up (mx_up ((w_X11_number (mx_up ((w_X11_number (mx_up ((w_X11_number S 0 ((S 234 0) - 1)).2) 234 (86 + (S 234 85)) (((w_X11_number S 0 ((S 234 0) - 1)).2) 232 19)) 0 ((S 234 0) - 1)).2) 234 (95 + (S 234 85)) (((w_X11_number (mx_up ((w_X11_number S 0 ((S 234 0) - 1)).2) 234 (86 + (S 234 85)) (((w_X11_number S 0 ((S 234 0) - 1)).2) 232 19)) 0 ((S 234 0) - 1)).2) 232 19)) 1 30).2) 234 (104 + (S 234 85)) (((w_X11_number (mx_up ((w_X11_number (mx_up ((w_X11_number S 0 ((S 234 0) - 1)).2) 234 (86 + (S 234 85)) (((w_X11_number S 0 ((S 234 0) - 1)).2) 232 19)) 0 ((S 234 0) - 1)).2) 234 (95 + (S 234 85)) (((w_X11_number (mx_up ((w_X11_number S 0 ((S 234 0) - 1)).2) 234 (86 + (S 234 85)) (((w_X11_number S 0 ((S 234 0) - 1)).2) 232 19)) 0 ((S 234 0) - 1)).2) 232 19)) 1 30).2) 232 19)) 234 85 ((S 234 85) + 1))
theorem c_X11_readsGate {S : rS} (hB : Bd S) : CS 4 118 [.inr (.inr 232)] S (fun r' S' => r' = some (.inl ((w_X11_readsGate S).1)) ∧ S' = (w_X11_readsGate S).2 ∧ Bd S' ∧ ((w_X11_readsGate S).1 = 0 ∨ (w_X11_readsGate S).1 = 1) ∧ (∀ a j : Int, ¬ (a = 232 ∧ 15 ≤ j ∧ j ≤ 19) → ¬ a = 234 → S' a j = S a j)) := by
  refine RS.beg (ls := [some (.inr (.inr 232)), none]) rfl rfl rfl rfl rfl ?_
  have z0 : 0 ≤ S 234 0 ∧ S 234 0 ≤ 7 := hB 234 0
  have z85 : 0 ≤ S 234 85 ∧ S 234 85 ≤ 9 := hB 234 85
  have z113 : 0 ≤ S 234 113 ∧ S 234 113 ≤ 8 := hB 234 113
  refine r_aload (pc' := 1) rfl rfl rfl ?_
  refine r_getr (pc' := 4) (v := 234) rfl rfl rfl rfl rfl ?_
  refine r_const (pc' := 6) rfl rfl ?_
  refine r_aldv (pc' := 7) (v := (S 234 85)) 187 rfl rfl rfl (by omega) rfl ?_
  have b1 : 0 ≤ S 234 85 ∧ S 234 85 ≤ 9 := hB 234 85
  refine r_istore (pc' := 8) (ls' := [some (.inr (.inr 232)), some (.inl (S 234 85))]) rfl rfl rfl rfl ?_
  refine r_iload (pc' := 9) rfl rfl rfl ?_
  refine r_const (pc' := 11) rfl rfl ?_
  by_cases h2 : (S 234 85) = 9
  · refine r_icmp_eq1 (pc' := 30) rfl rfl (by omega) (by omega) ?_
    refine r_const (pc' := 31) rfl rfl ?_
    refine q_zret rfl rfl rfl (by omega) ?_
    have ew : w_X11_readsGate S = (0, S) := by unfold w_X11_readsGate; rw [if_pos h2]
    exact ⟨by rw [ew], by rw [ew], hB, by rw [ew]; omega, fun a j h1 h2 => rfl⟩
  · refine r_icmp_eq0 (pc' := 14) rfl rfl (by omega) (by omega) ?_
    refine r_aload (pc' := 15) rfl rfl rfl ?_
    refine r_const (pc' := 16) rfl rfl ?_
    refine r_aload (pc' := 17) rfl rfl rfl ?_
    refine r_getr (pc' := 20) (v := 234) rfl rfl rfl rfl rfl ?_
    refine r_const (pc' := 21) rfl rfl ?_
    refine r_aldv (pc' := 22) (v := (S 234 0)) 187 rfl rfl rfl (by omega) rfl ?_
    have b3 : 0 ≤ S 234 0 ∧ S 234 0 ≤ 7 := hB 234 0
    refine r_const (pc' := 23) rfl rfl ?_
    refine r_isub (pc' := 24) rfl rfl ?_
    refine q_call (pc' := 27) (P := fun r' S' => r' = some (.inl ((w_X11_number S (0 : Int) ((S 234 0) - 1)).1)) ∧ S' = (w_X11_number S (0 : Int) ((S 234 0) - 1)).2 ∧ Bd S' ∧ ((w_X11_number S (0 : Int) ((S 234 0) - 1)).1 = 0 ∨ (w_X11_number S (0 : Int) ((S 234 0) - 1)).1 = 1) ∧ (((w_X11_number S (0 : Int) ((S 234 0) - 1)).1 = 0 ∨ ((0 : Int) ≤ S' 232 19 ∧ S' 232 19 ≤ ((S 234 0) - 1))) ∧ (∀ a j : Int, ¬ (a = 232 ∧ 15 ≤ j ∧ j ≤ 19) → S' a j = S a j))) rfl rfl rfl (c_X11_number (lo := 0) (hi := ((S 234 0) - 1)) (S := S) hB (show 0 ≤ (0 : Int) ∧ (0 : Int) ≤ 100 from by omega) (show -1 ≤ ((S 234 0) - 1) ∧ ((S 234 0) - 1) ≤ 99 from by omega)) (by decide) rfl rfl (Nat.le_of_ble_eq_true rfl) (fun _ _ => ⟨_, _, rfl, rfl⟩) rfl ?_
    rintro _ _ ⟨rfl, rfl, hB4, hr4, he4⟩ hz4
    show RS _ _ _ _ _ [.inl ((w_X11_number S 0 ((S 234 0) - 1)).1)] (w_X11_number S 0 ((S 234 0) - 1)).2
    have b5 : -2147483648 ≤ S 0 ((S 234 0) - 1) ∧ S 0 ((S 234 0) - 1) ≤ 2147483647 := hB 0 ((S 234 0) - 1)
    by_cases h6 : ((w_X11_number S 0 ((S 234 0) - 1)).1) = 0
    · refine r_if_ne0 (pc' := 30) rfl rfl (by omega) (by omega) ?_
      refine r_const (pc' := 31) rfl rfl ?_
      refine q_zret rfl rfl rfl (by omega) ?_
      have ew : w_X11_readsGate S = (0, (w_X11_number S 0 ((S 234 0) - 1)).2) := by unfold w_X11_readsGate; rw [if_neg h2, if_pos h6]
      exact ⟨by rw [ew], by rw [ew], hB4, by rw [ew]; omega, fun a j h1 h2 => ((he4.2 a j h1).trans rfl)⟩
    · refine r_if_ne1 (pc' := 32) rfl rfl (by omega) (by omega) ?_
      refine r_aload (pc' := 33) rfl rfl rfl ?_
      refine r_getr (pc' := 36) (v := 234) rfl rfl rfl rfl rfl ?_
      refine r_const (pc' := 38) rfl rfl ?_
      refine r_iload (pc' := 39) rfl rfl rfl ?_
      refine r_iadd (pc' := 40) rfl rfl ?_
      refine r_aload (pc' := 41) rfl rfl rfl ?_
      refine r_getv (pc' := 44) (v := (((w_X11_number S 0 ((S 234 0) - 1)).2) 232 19)) rfl rfl (Or.inl rfl) rfl rfl ?_
      have b7 : 0 ≤ ((w_X11_number S 0 ((S 234 0) - 1)).2) 232 19 ∧ ((w_X11_number S 0 ((S 234 0) - 1)).2) 232 19 ≤ 99 := hB4 232 19
      refine r_ast (pc' := 45) 187 rfl rfl rfl (by omega) ?_
      refine r_aload (pc' := 46) rfl rfl rfl ?_
      refine r_const (pc' := 47) rfl rfl ?_
      refine r_aload (pc' := 48) rfl rfl rfl ?_
      refine r_getr (pc' := 51) (v := 234) rfl rfl rfl rfl rfl ?_
      refine r_const (pc' := 52) rfl rfl ?_
      refine r_aldv (pc' := 53) (v := (S 234 0)) 187 rfl rfl rfl (by omega) ((up_ne (by omega)).trans (he4.2 234 0 (by omega))) ?_
      refine r_const (pc' := 54) rfl rfl ?_
      refine r_isub (pc' := 55) rfl rfl ?_
      refine q_call (pc' := 58) (P := fun r' S' => r' = some (.inl ((w_X11_number (mx_up ((w_X11_number S 0 ((S 234 0) - 1)).2) 234 (86 + (S 234 85)) (((w_X11_number S 0 ((S 234 0) - 1)).2) 232 19)) (0 : Int) ((S 234 0) - 1)).1)) ∧ S' = (w_X11_number (mx_up ((w_X11_number S 0 ((S 234 0) - 1)).2) 234 (86 + (S 234 85)) (((w_X11_number S 0 ((S 234 0) - 1)).2) 232 19)) (0 : Int) ((S 234 0) - 1)).2 ∧ Bd S' ∧ ((w_X11_number (mx_up ((w_X11_number S 0 ((S 234 0) - 1)).2) 234 (86 + (S 234 85)) (((w_X11_number S 0 ((S 234 0) - 1)).2) 232 19)) (0 : Int) ((S 234 0) - 1)).1 = 0 ∨ (w_X11_number (mx_up ((w_X11_number S 0 ((S 234 0) - 1)).2) 234 (86 + (S 234 85)) (((w_X11_number S 0 ((S 234 0) - 1)).2) 232 19)) (0 : Int) ((S 234 0) - 1)).1 = 1) ∧ (((w_X11_number (mx_up ((w_X11_number S 0 ((S 234 0) - 1)).2) 234 (86 + (S 234 85)) (((w_X11_number S 0 ((S 234 0) - 1)).2) 232 19)) (0 : Int) ((S 234 0) - 1)).1 = 0 ∨ ((0 : Int) ≤ S' 232 19 ∧ S' 232 19 ≤ ((S 234 0) - 1))) ∧ (∀ a j : Int, ¬ (a = 232 ∧ 15 ≤ j ∧ j ≤ 19) → S' a j = (mx_up ((w_X11_number S 0 ((S 234 0) - 1)).2) 234 (86 + (S 234 85)) (((w_X11_number S 0 ((S 234 0) - 1)).2) 232 19)) a j))) rfl rfl rfl (c_X11_number (lo := 0) (hi := ((S 234 0) - 1)) (S := mx_up ((w_X11_number S 0 ((S 234 0) - 1)).2) 234 (86 + (S 234 85)) (((w_X11_number S 0 ((S 234 0) - 1)).2) 232 19)) (Bd_up hB4 (show _ ≤ (((w_X11_number S 0 ((S 234 0) - 1)).2) 232 19) from by rw [(bdi_234_86 (show 0 ≤ (S 234 85) ∧ (S 234 85) < 9 from by omega)).1]; omega) (show (((w_X11_number S 0 ((S 234 0) - 1)).2) 232 19) ≤ _ from by rw [(bdi_234_86 (show 0 ≤ (S 234 85) ∧ (S 234 85) < 9 from by omega)).2]; omega)) (show 0 ≤ (0 : Int) ∧ (0 : Int) ≤ 100 from by omega) (show -1 ≤ ((S 234 0) - 1) ∧ ((S 234 0) - 1) ≤ 99 from by omega)) (by decide) rfl rfl (Nat.le_of_ble_eq_true rfl) (fun _ _ => ⟨_, _, rfl, rfl⟩) rfl ?_
      rintro _ _ ⟨rfl, rfl, hB8, hr8, he8⟩ hz8
      show RS _ _ _ _ _ [.inl ((w_X11_number (mx_up ((w_X11_number S 0 ((S 234 0) - 1)).2) 234 (86 + (S 234 85)) (((w_X11_number S 0 ((S 234 0) - 1)).2) 232 19)) 0 ((S 234 0) - 1)).1)] (w_X11_number (mx_up ((w_X11_number S 0 ((S 234 0) - 1)).2) 234 (86 + (S 234 85)) (((w_X11_number S 0 ((S 234 0) - 1)).2) 232 19)) 0 ((S 234 0) - 1)).2
      by_cases h9 : ((w_X11_number (mx_up ((w_X11_number S 0 ((S 234 0) - 1)).2) 234 (86 + (S 234 85)) (((w_X11_number S 0 ((S 234 0) - 1)).2) 232 19)) 0 ((S 234 0) - 1)).1) = 0
      · refine r_if_eq1 (pc' := 77) rfl rfl (by omega) (by omega) ?_
        refine r_const (pc' := 78) rfl rfl ?_
        refine q_zret rfl rfl rfl (by omega) ?_
        have ew : w_X11_readsGate S = (0, (w_X11_number (mx_up ((w_X11_number S 0 ((S 234 0) - 1)).2) 234 (86 + (S 234 85)) (((w_X11_number S 0 ((S 234 0) - 1)).2) 232 19)) 0 ((S 234 0) - 1)).2) := by unfold w_X11_readsGate; rw [if_neg h2, if_neg h6, if_pos h9]
        exact ⟨by rw [ew], by rw [ew], hB8, by rw [ew]; omega, fun a j h1 h2 => ((he8.2 a j h1).trans ((up_ne (by omega)).trans ((he4.2 a j h1).trans rfl)))⟩
      · refine r_if_eq0 (pc' := 61) rfl rfl (by omega) (by omega) ?_
        refine r_aload (pc' := 62) rfl rfl rfl ?_
        refine r_getv (pc' := 65) (v := (((w_X11_number (mx_up ((w_X11_number S 0 ((S 234 0) - 1)).2) 234 (86 + (S 234 85)) (((w_X11_number S 0 ((S 234 0) - 1)).2) 232 19)) 0 ((S 234 0) - 1)).2) 232 19)) rfl rfl (Or.inl rfl) rfl rfl ?_
        have b10 : 0 ≤ ((w_X11_number (mx_up ((w_X11_number S 0 ((S 234 0) - 1)).2) 234 (86 + (S 234 85)) (((w_X11_number S 0 ((S 234 0) - 1)).2) 232 19)) 0 ((S 234 0) - 1)).2) 232 19 ∧ ((w_X11_number (mx_up ((w_X11_number S 0 ((S 234 0) - 1)).2) 234 (86 + (S 234 85)) (((w_X11_number S 0 ((S 234 0) - 1)).2) 232 19)) 0 ((S 234 0) - 1)).2) 232 19 ≤ 99 := hB8 232 19
        refine r_aload (pc' := 66) rfl rfl rfl ?_
        refine r_getr (pc' := 69) (v := 234) rfl rfl rfl rfl rfl ?_
        refine r_const (pc' := 71) rfl rfl ?_
        refine r_iload (pc' := 72) rfl rfl rfl ?_
        refine r_iadd (pc' := 73) rfl rfl ?_
        refine r_aldv (pc' := 74) (v := (((w_X11_number S 0 ((S 234 0) - 1)).2) 232 19)) 187 rfl rfl rfl (by omega) ((he8.2 234 (86 + (S 234 85)) (by omega)).trans (by first | rfl | exact up_eq)) ?_
        by_cases h11 : (((w_X11_number (mx_up ((w_X11_number S 0 ((S 234 0) - 1)).2) 234 (86 + (S 234 85)) (((w_X11_number S 0 ((S 234 0) - 1)).2) 232 19)) 0 ((S 234 0) - 1)).2) 232 19) = (((w_X11_number S 0 ((S 234 0) - 1)).2) 232 19)
        · refine r_icmp_ne0 (pc' := 77) rfl rfl (by omega) (by omega) ?_
          refine r_const (pc' := 78) rfl rfl ?_
          refine q_zret rfl rfl rfl (by omega) ?_
          have ew : w_X11_readsGate S = (0, (w_X11_number (mx_up ((w_X11_number S 0 ((S 234 0) - 1)).2) 234 (86 + (S 234 85)) (((w_X11_number S 0 ((S 234 0) - 1)).2) 232 19)) 0 ((S 234 0) - 1)).2) := by unfold w_X11_readsGate; rw [if_neg h2, if_neg h6, if_neg h9, if_pos h11]
          exact ⟨by rw [ew], by rw [ew], hB8, by rw [ew]; omega, fun a j h1 h2 => ((he8.2 a j h1).trans ((up_ne (by omega)).trans ((he4.2 a j h1).trans rfl)))⟩
        · refine r_icmp_ne1 (pc' := 79) rfl rfl (by omega) (by omega) ?_
          refine r_aload (pc' := 80) rfl rfl rfl ?_
          refine r_getr (pc' := 83) (v := 234) rfl rfl rfl rfl rfl ?_
          refine r_const (pc' := 85) rfl rfl ?_
          refine r_iload (pc' := 86) rfl rfl rfl ?_
          refine r_iadd (pc' := 87) rfl rfl ?_
          refine r_aload (pc' := 88) rfl rfl rfl ?_
          refine r_getv (pc' := 91) (v := (((w_X11_number (mx_up ((w_X11_number S 0 ((S 234 0) - 1)).2) 234 (86 + (S 234 85)) (((w_X11_number S 0 ((S 234 0) - 1)).2) 232 19)) 0 ((S 234 0) - 1)).2) 232 19)) rfl rfl (Or.inl rfl) rfl rfl ?_
          have b12 : 0 ≤ ((w_X11_number (mx_up ((w_X11_number S 0 ((S 234 0) - 1)).2) 234 (86 + (S 234 85)) (((w_X11_number S 0 ((S 234 0) - 1)).2) 232 19)) 0 ((S 234 0) - 1)).2) 232 19 ∧ ((w_X11_number (mx_up ((w_X11_number S 0 ((S 234 0) - 1)).2) 234 (86 + (S 234 85)) (((w_X11_number S 0 ((S 234 0) - 1)).2) 232 19)) 0 ((S 234 0) - 1)).2) 232 19 ≤ 99 := hB8 232 19
          refine r_ast (pc' := 92) 187 rfl rfl rfl (by omega) ?_
          refine r_aload (pc' := 93) rfl rfl rfl ?_
          refine r_const (pc' := 94) rfl rfl ?_
          refine r_const (pc' := 96) rfl rfl ?_
          refine q_call (pc' := 99) (P := fun r' S' => r' = some (.inl ((w_X11_number (mx_up ((w_X11_number (mx_up ((w_X11_number S 0 ((S 234 0) - 1)).2) 234 (86 + (S 234 85)) (((w_X11_number S 0 ((S 234 0) - 1)).2) 232 19)) 0 ((S 234 0) - 1)).2) 234 (95 + (S 234 85)) (((w_X11_number (mx_up ((w_X11_number S 0 ((S 234 0) - 1)).2) 234 (86 + (S 234 85)) (((w_X11_number S 0 ((S 234 0) - 1)).2) 232 19)) 0 ((S 234 0) - 1)).2) 232 19)) (1 : Int) (30 : Int)).1)) ∧ S' = (w_X11_number (mx_up ((w_X11_number (mx_up ((w_X11_number S 0 ((S 234 0) - 1)).2) 234 (86 + (S 234 85)) (((w_X11_number S 0 ((S 234 0) - 1)).2) 232 19)) 0 ((S 234 0) - 1)).2) 234 (95 + (S 234 85)) (((w_X11_number (mx_up ((w_X11_number S 0 ((S 234 0) - 1)).2) 234 (86 + (S 234 85)) (((w_X11_number S 0 ((S 234 0) - 1)).2) 232 19)) 0 ((S 234 0) - 1)).2) 232 19)) (1 : Int) (30 : Int)).2 ∧ Bd S' ∧ ((w_X11_number (mx_up ((w_X11_number (mx_up ((w_X11_number S 0 ((S 234 0) - 1)).2) 234 (86 + (S 234 85)) (((w_X11_number S 0 ((S 234 0) - 1)).2) 232 19)) 0 ((S 234 0) - 1)).2) 234 (95 + (S 234 85)) (((w_X11_number (mx_up ((w_X11_number S 0 ((S 234 0) - 1)).2) 234 (86 + (S 234 85)) (((w_X11_number S 0 ((S 234 0) - 1)).2) 232 19)) 0 ((S 234 0) - 1)).2) 232 19)) (1 : Int) (30 : Int)).1 = 0 ∨ (w_X11_number (mx_up ((w_X11_number (mx_up ((w_X11_number S 0 ((S 234 0) - 1)).2) 234 (86 + (S 234 85)) (((w_X11_number S 0 ((S 234 0) - 1)).2) 232 19)) 0 ((S 234 0) - 1)).2) 234 (95 + (S 234 85)) (((w_X11_number (mx_up ((w_X11_number S 0 ((S 234 0) - 1)).2) 234 (86 + (S 234 85)) (((w_X11_number S 0 ((S 234 0) - 1)).2) 232 19)) 0 ((S 234 0) - 1)).2) 232 19)) (1 : Int) (30 : Int)).1 = 1) ∧ (((w_X11_number (mx_up ((w_X11_number (mx_up ((w_X11_number S 0 ((S 234 0) - 1)).2) 234 (86 + (S 234 85)) (((w_X11_number S 0 ((S 234 0) - 1)).2) 232 19)) 0 ((S 234 0) - 1)).2) 234 (95 + (S 234 85)) (((w_X11_number (mx_up ((w_X11_number S 0 ((S 234 0) - 1)).2) 234 (86 + (S 234 85)) (((w_X11_number S 0 ((S 234 0) - 1)).2) 232 19)) 0 ((S 234 0) - 1)).2) 232 19)) (1 : Int) (30 : Int)).1 = 0 ∨ ((1 : Int) ≤ S' 232 19 ∧ S' 232 19 ≤ (30 : Int))) ∧ (∀ a j : Int, ¬ (a = 232 ∧ 15 ≤ j ∧ j ≤ 19) → S' a j = (mx_up ((w_X11_number (mx_up ((w_X11_number S 0 ((S 234 0) - 1)).2) 234 (86 + (S 234 85)) (((w_X11_number S 0 ((S 234 0) - 1)).2) 232 19)) 0 ((S 234 0) - 1)).2) 234 (95 + (S 234 85)) (((w_X11_number (mx_up ((w_X11_number S 0 ((S 234 0) - 1)).2) 234 (86 + (S 234 85)) (((w_X11_number S 0 ((S 234 0) - 1)).2) 232 19)) 0 ((S 234 0) - 1)).2) 232 19)) a j))) rfl rfl rfl (c_X11_number (lo := 1) (hi := 30) (S := mx_up ((w_X11_number (mx_up ((w_X11_number S 0 ((S 234 0) - 1)).2) 234 (86 + (S 234 85)) (((w_X11_number S 0 ((S 234 0) - 1)).2) 232 19)) 0 ((S 234 0) - 1)).2) 234 (95 + (S 234 85)) (((w_X11_number (mx_up ((w_X11_number S 0 ((S 234 0) - 1)).2) 234 (86 + (S 234 85)) (((w_X11_number S 0 ((S 234 0) - 1)).2) 232 19)) 0 ((S 234 0) - 1)).2) 232 19)) (Bd_up hB8 (show _ ≤ (((w_X11_number (mx_up ((w_X11_number S 0 ((S 234 0) - 1)).2) 234 (86 + (S 234 85)) (((w_X11_number S 0 ((S 234 0) - 1)).2) 232 19)) 0 ((S 234 0) - 1)).2) 232 19) from by rw [(bdi_234_95 (show 0 ≤ (S 234 85) ∧ (S 234 85) < 9 from by omega)).1]; omega) (show (((w_X11_number (mx_up ((w_X11_number S 0 ((S 234 0) - 1)).2) 234 (86 + (S 234 85)) (((w_X11_number S 0 ((S 234 0) - 1)).2) 232 19)) 0 ((S 234 0) - 1)).2) 232 19) ≤ _ from by rw [(bdi_234_95 (show 0 ≤ (S 234 85) ∧ (S 234 85) < 9 from by omega)).2]; omega)) (show 0 ≤ (1 : Int) ∧ (1 : Int) ≤ 100 from by omega) (show -1 ≤ (30 : Int) ∧ (30 : Int) ≤ 99 from by omega)) (by decide) rfl rfl (Nat.le_of_ble_eq_true rfl) (fun _ _ => ⟨_, _, rfl, rfl⟩) rfl ?_
          rintro _ _ ⟨rfl, rfl, hB13, hr13, he13⟩ hz13
          show RS _ _ _ _ _ [.inl ((w_X11_number (mx_up ((w_X11_number (mx_up ((w_X11_number S 0 ((S 234 0) - 1)).2) 234 (86 + (S 234 85)) (((w_X11_number S 0 ((S 234 0) - 1)).2) 232 19)) 0 ((S 234 0) - 1)).2) 234 (95 + (S 234 85)) (((w_X11_number (mx_up ((w_X11_number S 0 ((S 234 0) - 1)).2) 234 (86 + (S 234 85)) (((w_X11_number S 0 ((S 234 0) - 1)).2) 232 19)) 0 ((S 234 0) - 1)).2) 232 19)) 1 30).1)] (w_X11_number (mx_up ((w_X11_number (mx_up ((w_X11_number S 0 ((S 234 0) - 1)).2) 234 (86 + (S 234 85)) (((w_X11_number S 0 ((S 234 0) - 1)).2) 232 19)) 0 ((S 234 0) - 1)).2) 234 (95 + (S 234 85)) (((w_X11_number (mx_up ((w_X11_number S 0 ((S 234 0) - 1)).2) 234 (86 + (S 234 85)) (((w_X11_number S 0 ((S 234 0) - 1)).2) 232 19)) 0 ((S 234 0) - 1)).2) 232 19)) 1 30).2
          by_cases h14 : ((w_X11_number (mx_up ((w_X11_number (mx_up ((w_X11_number S 0 ((S 234 0) - 1)).2) 234 (86 + (S 234 85)) (((w_X11_number S 0 ((S 234 0) - 1)).2) 232 19)) 0 ((S 234 0) - 1)).2) 234 (95 + (S 234 85)) (((w_X11_number (mx_up ((w_X11_number S 0 ((S 234 0) - 1)).2) 234 (86 + (S 234 85)) (((w_X11_number S 0 ((S 234 0) - 1)).2) 232 19)) 0 ((S 234 0) - 1)).2) 232 19)) 1 30).1) = 0
          · refine r_if_ne0 (pc' := 102) rfl rfl (by omega) (by omega) ?_
            refine r_const (pc' := 103) rfl rfl ?_
            refine q_zret rfl rfl rfl (by omega) ?_
            have ew : w_X11_readsGate S = (0, (w_X11_number (mx_up ((w_X11_number (mx_up ((w_X11_number S 0 ((S 234 0) - 1)).2) 234 (86 + (S 234 85)) (((w_X11_number S 0 ((S 234 0) - 1)).2) 232 19)) 0 ((S 234 0) - 1)).2) 234 (95 + (S 234 85)) (((w_X11_number (mx_up ((w_X11_number S 0 ((S 234 0) - 1)).2) 234 (86 + (S 234 85)) (((w_X11_number S 0 ((S 234 0) - 1)).2) 232 19)) 0 ((S 234 0) - 1)).2) 232 19)) 1 30).2) := by unfold w_X11_readsGate; rw [if_neg h2, if_neg h6, if_neg h9, if_neg h11, if_pos h14]
            exact ⟨by rw [ew], by rw [ew], hB13, by rw [ew]; omega, fun a j h1 h2 => ((he13.2 a j h1).trans ((up_ne (by omega)).trans ((he8.2 a j h1).trans ((up_ne (by omega)).trans ((he4.2 a j h1).trans rfl)))))⟩
          · refine r_if_ne1 (pc' := 104) rfl rfl (by omega) (by omega) ?_
            refine r_aload (pc' := 105) rfl rfl rfl ?_
            refine r_getr (pc' := 108) (v := 234) rfl rfl rfl rfl rfl ?_
            refine r_const (pc' := 110) rfl rfl ?_
            refine r_iload (pc' := 111) rfl rfl rfl ?_
            refine r_iadd (pc' := 112) rfl rfl ?_
            refine r_aload (pc' := 113) rfl rfl rfl ?_
            refine r_getv (pc' := 116) (v := (((w_X11_number (mx_up ((w_X11_number (mx_up ((w_X11_number S 0 ((S 234 0) - 1)).2) 234 (86 + (S 234 85)) (((w_X11_number S 0 ((S 234 0) - 1)).2) 232 19)) 0 ((S 234 0) - 1)).2) 234 (95 + (S 234 85)) (((w_X11_number (mx_up ((w_X11_number S 0 ((S 234 0) - 1)).2) 234 (86 + (S 234 85)) (((w_X11_number S 0 ((S 234 0) - 1)).2) 232 19)) 0 ((S 234 0) - 1)).2) 232 19)) 1 30).2) 232 19)) rfl rfl (Or.inl rfl) rfl rfl ?_
            have b15 : 0 ≤ ((w_X11_number (mx_up ((w_X11_number (mx_up ((w_X11_number S 0 ((S 234 0) - 1)).2) 234 (86 + (S 234 85)) (((w_X11_number S 0 ((S 234 0) - 1)).2) 232 19)) 0 ((S 234 0) - 1)).2) 234 (95 + (S 234 85)) (((w_X11_number (mx_up ((w_X11_number S 0 ((S 234 0) - 1)).2) 234 (86 + (S 234 85)) (((w_X11_number S 0 ((S 234 0) - 1)).2) 232 19)) 0 ((S 234 0) - 1)).2) 232 19)) 1 30).2) 232 19 ∧ ((w_X11_number (mx_up ((w_X11_number (mx_up ((w_X11_number S 0 ((S 234 0) - 1)).2) 234 (86 + (S 234 85)) (((w_X11_number S 0 ((S 234 0) - 1)).2) 232 19)) 0 ((S 234 0) - 1)).2) 234 (95 + (S 234 85)) (((w_X11_number (mx_up ((w_X11_number S 0 ((S 234 0) - 1)).2) 234 (86 + (S 234 85)) (((w_X11_number S 0 ((S 234 0) - 1)).2) 232 19)) 0 ((S 234 0) - 1)).2) 232 19)) 1 30).2) 232 19 ≤ 99 := hB13 232 19
            refine r_ast (pc' := 117) 187 rfl rfl rfl (by omega) ?_
            refine r_aload (pc' := 118) rfl rfl rfl ?_
            refine r_getr (pc' := 121) (v := 234) rfl rfl rfl rfl rfl ?_
            refine r_const (pc' := 123) rfl rfl ?_
            refine r_dup2 (pc' := 124) rfl rfl ?_
            refine r_aldv (pc' := 125) (v := (S 234 85)) 187 rfl rfl rfl (by omega) ((up_ne (by omega)).trans ((he13.2 234 85 (by omega)).trans ((up_ne (by omega)).trans ((he8.2 234 85 (by omega)).trans ((up_ne (by omega)).trans (he4.2 234 85 (by omega))))))) ?_
            refine r_const (pc' := 126) rfl rfl ?_
            refine r_iadd (pc' := 127) rfl rfl ?_
            refine r_ast (pc' := 128) 187 rfl rfl rfl (by omega) ?_
            refine r_const (pc' := 129) rfl rfl ?_
            refine q_zret rfl rfl rfl (by omega) ?_
            have ew : w_X11_readsGate S = (1, mx_up (mx_up ((w_X11_number (mx_up ((w_X11_number (mx_up ((w_X11_number S 0 ((S 234 0) - 1)).2) 234 (86 + (S 234 85)) (((w_X11_number S 0 ((S 234 0) - 1)).2) 232 19)) 0 ((S 234 0) - 1)).2) 234 (95 + (S 234 85)) (((w_X11_number (mx_up ((w_X11_number S 0 ((S 234 0) - 1)).2) 234 (86 + (S 234 85)) (((w_X11_number S 0 ((S 234 0) - 1)).2) 232 19)) 0 ((S 234 0) - 1)).2) 232 19)) 1 30).2) 234 (104 + (S 234 85)) (((w_X11_number (mx_up ((w_X11_number (mx_up ((w_X11_number S 0 ((S 234 0) - 1)).2) 234 (86 + (S 234 85)) (((w_X11_number S 0 ((S 234 0) - 1)).2) 232 19)) 0 ((S 234 0) - 1)).2) 234 (95 + (S 234 85)) (((w_X11_number (mx_up ((w_X11_number S 0 ((S 234 0) - 1)).2) 234 (86 + (S 234 85)) (((w_X11_number S 0 ((S 234 0) - 1)).2) 232 19)) 0 ((S 234 0) - 1)).2) 232 19)) 1 30).2) 232 19)) 234 85 ((S 234 85) + 1)) := by unfold w_X11_readsGate; rw [if_neg h2, if_neg h6, if_neg h9, if_neg h11, if_neg h14]
            exact ⟨by rw [ew], by rw [ew], (Bd_up (Bd_up hB13 (show _ ≤ (((w_X11_number (mx_up ((w_X11_number (mx_up ((w_X11_number S 0 ((S 234 0) - 1)).2) 234 (86 + (S 234 85)) (((w_X11_number S 0 ((S 234 0) - 1)).2) 232 19)) 0 ((S 234 0) - 1)).2) 234 (95 + (S 234 85)) (((w_X11_number (mx_up ((w_X11_number S 0 ((S 234 0) - 1)).2) 234 (86 + (S 234 85)) (((w_X11_number S 0 ((S 234 0) - 1)).2) 232 19)) 0 ((S 234 0) - 1)).2) 232 19)) 1 30).2) 232 19) from by rw [(bdi_234_104 (show 0 ≤ (S 234 85) ∧ (S 234 85) < 9 from by omega)).1]; omega) (show (((w_X11_number (mx_up ((w_X11_number (mx_up ((w_X11_number S 0 ((S 234 0) - 1)).2) 234 (86 + (S 234 85)) (((w_X11_number S 0 ((S 234 0) - 1)).2) 232 19)) 0 ((S 234 0) - 1)).2) 234 (95 + (S 234 85)) (((w_X11_number (mx_up ((w_X11_number S 0 ((S 234 0) - 1)).2) 234 (86 + (S 234 85)) (((w_X11_number S 0 ((S 234 0) - 1)).2) 232 19)) 0 ((S 234 0) - 1)).2) 232 19)) 1 30).2) 232 19) ≤ _ from by rw [(bdi_234_104 (show 0 ≤ (S 234 85) ∧ (S 234 85) < 9 from by omega)).2]; omega)) (show (0 : Int) ≤ ((S 234 85) + 1) from by omega) (show ((S 234 85) + 1) ≤ (9 : Int) from by omega)), by rw [ew]; omega, fun a j h1 h2 => ((up_ne (by omega)).trans ((up_ne (by omega)).trans ((he13.2 a j h1).trans ((up_ne (by omega)).trans ((he8.2 a j h1).trans ((up_ne (by omega)).trans ((he4.2 a j h1).trans rfl)))))))⟩
noncomputable def w_X11_readsWord (S : rS) : Int × rS := if (S 234 113) = 8 then (0, S) else if ((w_X11_readsLine_w S (S 234 113)).1) = 0 then (0, (w_X11_readsLine_w S (S 234 113)).2) else (1, mx_up ((w_X11_readsLine_w S (S 234 113)).2) 234 113 ((S 234 113) + 1))
theorem c_X11_readsWord {S : rS} (hB : Bd S) : CS 4 120 [.inr (.inr 232)] S (fun r' S' => r' = some (.inl ((w_X11_readsWord S).1)) ∧ S' = (w_X11_readsWord S).2 ∧ Bd S' ∧ ((w_X11_readsWord S).1 = 0 ∨ (w_X11_readsWord S).1 = 1) ∧ (∀ a j : Int, ¬ (a = 232 ∧ 15 ≤ j ∧ j ≤ 19) → ¬ a = 234 → S' a j = S a j)) := by
  refine RS.beg (ls := [some (.inr (.inr 232)), none]) rfl rfl rfl rfl rfl ?_
  have z0 : 0 ≤ S 234 0 ∧ S 234 0 ≤ 7 := hB 234 0
  have z85 : 0 ≤ S 234 85 ∧ S 234 85 ≤ 9 := hB 234 85
  have z113 : 0 ≤ S 234 113 ∧ S 234 113 ≤ 8 := hB 234 113
  refine r_aload (pc' := 1) rfl rfl rfl ?_
  refine r_getr (pc' := 4) (v := 234) rfl rfl rfl rfl rfl ?_
  refine r_const (pc' := 6) rfl rfl ?_
  refine r_aldv (pc' := 7) (v := (S 234 113)) 187 rfl rfl rfl (by omega) rfl ?_
  have b1 : 0 ≤ S 234 113 ∧ S 234 113 ≤ 8 := hB 234 113
  refine r_istore (pc' := 8) (ls' := [some (.inr (.inr 232)), some (.inl (S 234 113))]) rfl rfl rfl rfl ?_
  refine r_iload (pc' := 9) rfl rfl rfl ?_
  refine r_const (pc' := 11) rfl rfl ?_
  by_cases h2 : (S 234 113) = 8
  · refine r_icmp_eq1 (pc' := 32) rfl rfl (by omega) (by omega) ?_
    refine r_const (pc' := 33) rfl rfl ?_
    refine q_zret rfl rfl rfl (by omega) ?_
    have ew : w_X11_readsWord S = (0, S) := by unfold w_X11_readsWord; rw [if_pos h2]
    exact ⟨by rw [ew], by rw [ew], hB, by rw [ew]; omega, fun a j h1 h2 => rfl⟩
  · refine r_icmp_eq0 (pc' := 14) rfl rfl (by omega) (by omega) ?_
    refine r_aload (pc' := 15) rfl rfl rfl ?_
    refine r_const (pc' := 17) rfl rfl ?_
    refine r_iload (pc' := 18) rfl rfl rfl ?_
    refine r_iadd (pc' := 19) rfl rfl ?_
    refine r_const (pc' := 21) rfl rfl ?_
    refine r_const (pc' := 23) rfl rfl ?_
    refine r_iload (pc' := 24) rfl rfl rfl ?_
    refine r_imul (pc' := 25) rfl rfl ?_
    refine r_iadd (pc' := 26) rfl rfl ?_
    refine q_call (pc' := 29) (P := fun r' S' => r' = some (.inl ((w_X11_readsLine_w S (S 234 113)).1)) ∧ S' = (w_X11_readsLine_w S (S 234 113)).2 ∧ Bd S' ∧ ((w_X11_readsLine_w S (S 234 113)).1 = 0 ∨ (w_X11_readsLine_w S (S 234 113)).1 = 1) ∧ (∀ a j : Int, ¬ (a = 232 ∧ 15 ≤ j ∧ j ≤ 19) → ¬ (a = 234 ∧ ¬ (j = 0 ∨ j = 85 ∨ j = 113 ∨ j = 186)) → S' a j = S a j)) rfl rfl rfl (c_X11_readsLine_w (w := (S 234 113)) (S := S) hB (show 0 ≤ (S 234 113) ∧ (S 234 113) < 8 from by omega)) (by decide) rfl rfl (Nat.le_of_ble_eq_true rfl) (fun _ _ => ⟨_, _, rfl, rfl⟩) rfl ?_
    rintro _ _ ⟨rfl, rfl, hB3, hr3, he3⟩ hz3
    show RS _ _ _ _ _ [.inl ((w_X11_readsLine_w S (S 234 113)).1)] (w_X11_readsLine_w S (S 234 113)).2
    by_cases h4 : ((w_X11_readsLine_w S (S 234 113)).1) = 0
    · refine r_if_ne0 (pc' := 32) rfl rfl (by omega) (by omega) ?_
      refine r_const (pc' := 33) rfl rfl ?_
      refine q_zret rfl rfl rfl (by omega) ?_
      have ew : w_X11_readsWord S = (0, (w_X11_readsLine_w S (S 234 113)).2) := by unfold w_X11_readsWord; rw [if_neg h2, if_pos h4]
      exact ⟨by rw [ew], by rw [ew], hB3, by rw [ew]; omega, fun a j h1 h2 => ((he3 a j h1 (by omega)).trans rfl)⟩
    · refine r_if_ne1 (pc' := 34) rfl rfl (by omega) (by omega) ?_
      refine r_aload (pc' := 35) rfl rfl rfl ?_
      refine r_getr (pc' := 38) (v := 234) rfl rfl rfl rfl rfl ?_
      refine r_const (pc' := 40) rfl rfl ?_
      refine r_dup2 (pc' := 41) rfl rfl ?_
      refine r_aldv (pc' := 42) (v := (S 234 113)) 187 rfl rfl rfl (by omega) (he3 234 113 (by omega) (by omega)) ?_
      refine r_const (pc' := 43) rfl rfl ?_
      refine r_iadd (pc' := 44) rfl rfl ?_
      refine r_ast (pc' := 45) 187 rfl rfl rfl (by omega) ?_
      refine r_const (pc' := 46) rfl rfl ?_
      refine q_zret rfl rfl rfl (by omega) ?_
      have ew : w_X11_readsWord S = (1, mx_up ((w_X11_readsLine_w S (S 234 113)).2) 234 113 ((S 234 113) + 1)) := by unfold w_X11_readsWord; rw [if_neg h2, if_neg h4]
      exact ⟨by rw [ew], by rw [ew], (Bd_up hB3 (show (0 : Int) ≤ ((S 234 113) + 1) from by omega) (show ((S 234 113) + 1) ≤ (8 : Int) from by omega)), by rw [ew]; omega, fun a j h1 h2 => ((up_ne (by omega)).trans ((he3 a j h1 (by omega)).trans rfl))⟩
noncomputable def w_X11_readsDark (S : rS) : Int × rS := if ((w_X11_number S 10 99).1) = 0 then (0, (w_X11_number S 10 99).2) else (1, mx_up ((w_X11_number S 10 99).2) 234 186 (((w_X11_number S 10 99).2) 232 19))
theorem c_X11_readsDark {S : rS} (hB : Bd S) : CS 4 116 [.inr (.inr 232)] S (fun r' S' => r' = some (.inl ((w_X11_readsDark S).1)) ∧ S' = (w_X11_readsDark S).2 ∧ Bd S' ∧ ((w_X11_readsDark S).1 = 0 ∨ (w_X11_readsDark S).1 = 1) ∧ (∀ a j : Int, ¬ (a = 232 ∧ 15 ≤ j ∧ j ≤ 19) → ¬ a = 234 → S' a j = S a j)) := by
  refine RS.beg (ls := [some (.inr (.inr 232))]) rfl rfl rfl rfl rfl ?_
  have z0 : 0 ≤ S 234 0 ∧ S 234 0 ≤ 7 := hB 234 0
  have z85 : 0 ≤ S 234 85 ∧ S 234 85 ≤ 9 := hB 234 85
  have z113 : 0 ≤ S 234 113 ∧ S 234 113 ≤ 8 := hB 234 113
  refine r_aload (pc' := 1) rfl rfl rfl ?_
  refine r_const (pc' := 3) rfl rfl ?_
  refine r_const (pc' := 5) rfl rfl ?_
  refine q_call (pc' := 8) (P := fun r' S' => r' = some (.inl ((w_X11_number S (10 : Int) (99 : Int)).1)) ∧ S' = (w_X11_number S (10 : Int) (99 : Int)).2 ∧ Bd S' ∧ ((w_X11_number S (10 : Int) (99 : Int)).1 = 0 ∨ (w_X11_number S (10 : Int) (99 : Int)).1 = 1) ∧ (((w_X11_number S (10 : Int) (99 : Int)).1 = 0 ∨ ((10 : Int) ≤ S' 232 19 ∧ S' 232 19 ≤ (99 : Int))) ∧ (∀ a j : Int, ¬ (a = 232 ∧ 15 ≤ j ∧ j ≤ 19) → S' a j = S a j))) rfl rfl rfl (c_X11_number (lo := 10) (hi := 99) (S := S) hB (show 0 ≤ (10 : Int) ∧ (10 : Int) ≤ 100 from by omega) (show -1 ≤ (99 : Int) ∧ (99 : Int) ≤ 99 from by omega)) (by decide) rfl rfl (Nat.le_of_ble_eq_true rfl) (fun _ _ => ⟨_, _, rfl, rfl⟩) rfl ?_
  rintro _ _ ⟨rfl, rfl, hB1, hr1, he1⟩ hz1
  show RS _ _ _ _ _ [.inl ((w_X11_number S 10 99).1)] (w_X11_number S 10 99).2
  have b2 : 0 ≤ S 10 99 ∧ S 10 99 ≤ 0 := hB 10 99
  by_cases h3 : ((w_X11_number S 10 99).1) = 0
  · refine r_if_ne0 (pc' := 11) rfl rfl (by omega) (by omega) ?_
    refine r_const (pc' := 12) rfl rfl ?_
    refine q_zret rfl rfl rfl (by omega) ?_
    have ew : w_X11_readsDark S = (0, (w_X11_number S 10 99).2) := by unfold w_X11_readsDark; rw [if_pos h3]
    exact ⟨by rw [ew], by rw [ew], hB1, by rw [ew]; omega, fun a j h1 h2 => ((he1.2 a j h1).trans rfl)⟩
  · refine r_if_ne1 (pc' := 13) rfl rfl (by omega) (by omega) ?_
    refine r_aload (pc' := 14) rfl rfl rfl ?_
    refine r_getr (pc' := 17) (v := 234) rfl rfl rfl rfl rfl ?_
    refine r_const (pc' := 20) rfl rfl ?_
    refine r_aload (pc' := 21) rfl rfl rfl ?_
    refine r_getv (pc' := 24) (v := (((w_X11_number S 10 99).2) 232 19)) rfl rfl (Or.inl rfl) rfl rfl ?_
    have b4 : 0 ≤ ((w_X11_number S 10 99).2) 232 19 ∧ ((w_X11_number S 10 99).2) 232 19 ≤ 99 := hB1 232 19
    refine r_ast (pc' := 25) 187 rfl rfl rfl (by omega) ?_
    refine r_const (pc' := 26) rfl rfl ?_
    refine q_zret rfl rfl rfl (by omega) ?_
    have ew : w_X11_readsDark S = (1, mx_up ((w_X11_number S 10 99).2) 234 186 (((w_X11_number S 10 99).2) 232 19)) := by unfold w_X11_readsDark; rw [if_neg h3]
    exact ⟨by rw [ew], by rw [ew], (Bd_up hB1 (show (0 : Int) ≤ (((w_X11_number S 10 99).2) 232 19) from by omega) (show (((w_X11_number S 10 99).2) 232 19) ≤ (99 : Int) from by omega)), by rw [ew]; omega, fun a j h1 h2 => ((up_ne (by omega)).trans ((he1.2 a j h1).trans rfl))⟩
theorem anw_n : ∀ n : Nat, n < 187 → bd_lo 234 (n : Int) ≤ (if (n : Int) = 186 then 60 else 0) ∧ (if (n : Int) = 186 then 60 else 0) ≤ bd_hi 234 (n : Int) := by decide +kernel
theorem anw_b {k n : Int} (h0 : 0 ≤ k) (h1 : k < n) (hn : n ≤ 187) : bd_lo 234 k ≤ (if k = 186 then 60 else 0) ∧ (if k = 186 then 60 else 0) ≤ bd_hi 234 k := by
  obtain ⟨m, rfl⟩ := Int.eq_ofNat_of_zero_le h0
  exact anw_n m (by omega)
noncomputable def w_X11_anew (S : rS) : Int × rS := (1, (fl S 234 (fun kk => if kk = 186 then 60 else 0) 187))
theorem c_X11_anew {S : rS} (hB : Bd S) : CS 1 56 [.inr (.inr 232)] S (fun r' S' => r' = some (.inl ((w_X11_anew S).1)) ∧ S' = (w_X11_anew S).2 ∧ Bd S' ∧ ((w_X11_anew S).1 = 0 ∨ (w_X11_anew S).1 = 1) ∧ (∀ a j : Int, ¬ (a = 232 ∧ 15 ≤ j ∧ j ≤ 19) → ¬ a = 234 → S' a j = S a j)) := by
  refine RS.beg (ls := [some (.inr (.inr 232)), none]) rfl rfl rfl rfl rfl ?_
  refine r_const (pc' := 1) rfl rfl ?_
  refine r_istore (pc' := 2) (ls' := [some (.inr (.inr 232)), some (.inl 0)]) rfl rfl rfl rfl ?_
  refine r_mem (show S = fl S 234 (fun kk => if kk = 186 then 60 else 0) (0 : Int) from by exact fl_0 _ _ _) ?_
  refine r_while (α := Int) (fun z' => [some (.inr (.inr 232)), some (.inl z')]) (fun z' => fl S 234 (fun kk => if kk = 186 then 60 else 0) z') (fun z' => (0 ≤ z' ∧ z' ≤ 187)) (fun z' => (187 - z').toNat) ?_ 0 (show (0 ≤ (0 : Int) ∧ (0 : Int) ≤ 187) from by omega)
  rintro k hI' ih2
  have hI' : (0 ≤ k ∧ k ≤ 187) := hI'
  have i1 := hI'
  show RS _ _ _ _ [some (.inr (.inr 232)), some (.inl k)] [] (fl S 234 (fun kk => if kk = 186 then 60 else 0) k)
  have hB1 : Bd (fl S 234 (fun kk => if kk = 186 then 60 else 0) k) := by exact Bd_fl hB (fun kk k0 k1 => anw_b k0 k1 (by omega))
  refine r_iload (pc' := 3) rfl rfl rfl ?_
  refine r_const (pc' := 6) rfl rfl ?_
  by_cases h2 : k < 187
  · refine r_icmp_ge0 (pc' := 9) rfl rfl (by omega) (by omega) ?_
    refine r_aload (pc' := 10) rfl rfl rfl ?_
    refine r_getr (pc' := 13) (v := 234) rfl rfl rfl rfl rfl ?_
    refine r_iload (pc' := 14) rfl rfl rfl ?_
    refine r_iload (pc' := 15) rfl rfl rfl ?_
    refine r_const (pc' := 18) rfl rfl ?_
    by_cases h3 : k = 186
    · refine r_icmp_ne0 (pc' := 21) rfl rfl (by omega) (by omega) ?_
      refine r_const (pc' := 23) rfl rfl ?_
      refine r_goto (pc' := 27) rfl rfl ?_
      refine r_ast (pc' := 28) 187 rfl rfl rfl (by omega) ?_
      refine r_iinc (pc' := 31) (ls' := [some (.inr (.inr 232)), some (.inl (k + 1))]) rfl rfl rfl rfl rfl ?_
      refine r_goto (pc' := 2) rfl rfl ?_
      refine r_mem (show mx_up (fl S 234 (fun kk => if kk = 186 then 60 else 0) k) 234 k 60 = fl S 234 (fun kk => if kk = 186 then 60 else 0) (k + 1) from by exact fl_s (by omega) (by rw [if_pos (by omega)])) ?_
      exact ih2 (k + 1) (show (0 ≤ (k + 1) ∧ (k + 1) ≤ 187) from by omega) (show (187 - (k + 1)).toNat < (187 - k).toNat from by omega)
    · refine r_icmp_ne1 (pc' := 26) rfl rfl (by omega) (by omega) ?_
      refine r_const (pc' := 27) rfl rfl ?_
      refine r_ast (pc' := 28) 187 rfl rfl rfl (by omega) ?_
      refine r_iinc (pc' := 31) (ls' := [some (.inr (.inr 232)), some (.inl (k + 1))]) rfl rfl rfl rfl rfl ?_
      refine r_goto (pc' := 2) rfl rfl ?_
      refine r_mem (show mx_up (fl S 234 (fun kk => if kk = 186 then 60 else 0) k) 234 k 0 = fl S 234 (fun kk => if kk = 186 then 60 else 0) (k + 1) from by exact fl_s (by omega) (by rw [if_neg (by omega)])) ?_
      exact ih2 (k + 1) (show (0 ≤ (k + 1) ∧ (k + 1) ≤ 187) from by omega) (show (187 - (k + 1)).toNat < (187 - k).toNat from by omega)
  · refine r_icmp_ge1 (pc' := 34) rfl rfl (by omega) (by omega) ?_
    refine r_const (pc' := 35) rfl rfl ?_
    refine q_zret rfl rfl rfl (by omega) ?_
    obtain rfl : 187 = k := by omega
    have ew : w_X11_anew S = (1, (fl S 234 (fun kk => if kk = 186 then 60 else 0) 187)) := by unfold w_X11_anew; rfl
    exact ⟨by rw [ew], by rw [ew], hB1, by rw [ew]; omega, fun a j h1 h2 => fl_o (by omega)⟩
noncomputable def w_X11_readsClause (S : rS) : Int × rS := if (S 232 17) = 1 then if (S 232 18) = 123563833652072 then (((w_X11_anew S).1), (w_X11_anew S).2) else if (S 232 18) = 1734440037 then (((w_X11_readsGate S).1), (w_X11_readsGate S).2) else if (S 232 18) = 2003792484 then (((w_X11_readsWord S).1), (w_X11_readsWord S).2) else if (S 232 18) = 1684107883 then (((w_X11_readsDark S).1), (w_X11_readsDark S).2) else if (S 232 18) = 499968340590 then if ((w_X11_readsField S 0).1) = 0 then (0, (w_X11_readsField S 0).2) else (1, (w_X11_readsField S 0).2) else if (S 232 18) = 448545975417 then if ((w_X11_readsField S 1).1) = 0 then (0, (w_X11_readsField S 1).2) else (1, (w_X11_readsField S 1).2) else if (S 232 18) = 27710310490205285 then if ((w_X11_readsField S 2).1) = 0 then (0, (w_X11_readsField S 2).2) else (1, (w_X11_readsField S 2).2) else if (S 232 18) = 448312010092 then if ((w_X11_readsField S 3).1) = 0 then (0, (w_X11_readsField S 3).2) else (1, (w_X11_readsField S 3).2) else (0, S) else (0, S)
theorem c_X11_readsClause {S : rS} (hB : Bd S) : CS 5 115 [.inr (.inr 232)] S (fun r' S' => r' = some (.inl ((w_X11_readsClause S).1)) ∧ S' = (w_X11_readsClause S).2 ∧ Bd S' ∧ ((w_X11_readsClause S).1 = 0 ∨ (w_X11_readsClause S).1 = 1) ∧ (∀ a j : Int, ¬ (a = 232 ∧ 15 ≤ j ∧ j ≤ 19) → ¬ a = 234 → S' a j = S a j)) := by
  refine RS.beg (ls := [some (.inr (.inr 232)), none, none, none]) rfl rfl rfl rfl rfl ?_
  have z0 : 0 ≤ S 234 0 ∧ S 234 0 ≤ 7 := hB 234 0
  have z85 : 0 ≤ S 234 85 ∧ S 234 85 ≤ 9 := hB 234 85
  have z113 : 0 ≤ S 234 113 ∧ S 234 113 ≤ 8 := hB 234 113
  refine r_aload (pc' := 1) rfl rfl rfl ?_
  refine r_getv (pc' := 4) (v := (S 232 17)) rfl rfl (Or.inl rfl) rfl rfl ?_
  have b1 : 0 ≤ S 232 17 ∧ S 232 17 ≤ 4 := hB 232 17
  refine r_const (pc' := 5) rfl rfl ?_
  by_cases h2 : (S 232 17) = 1
  · refine r_icmp_eq1 (pc' := 10) rfl rfl (by omega) (by omega) ?_
    refine r_aload (pc' := 11) rfl rfl rfl ?_
    refine r_getlv (pc' := 14) (v := (S 232 18)) rfl rfl rfl rfl rfl ?_
    have b3 : -9223372036854775808 ≤ S 232 18 ∧ S 232 18 ≤ 9223372036854775807 := hB 232 18
    refine r_lstore (pc' := 15) (ls' := [some (.inr (.inr 232)), some (.inr (.inl (S 232 18))), none, none]) rfl rfl rfl rfl ?_
    refine r_lload (pc' := 16) rfl rfl rfl ?_
    refine r_lcon (pc' := 19) rfl rfl ?_
    refine r_lcmp (pc' := 20) rfl rfl (by omega) ?_
    have b4 := mx_cmp_b (S 232 18) 123563833652072
    by_cases h5 : (S 232 18) = 123563833652072
    · refine r_if_ne0 (pc' := 23) rfl rfl (by omega) (by omega) ?_
      refine r_aload (pc' := 24) rfl rfl rfl ?_
      refine q_call (pc' := 27) (P := fun r' S' => r' = some (.inl ((w_X11_anew S).1)) ∧ S' = (w_X11_anew S).2 ∧ Bd S' ∧ ((w_X11_anew S).1 = 0 ∨ (w_X11_anew S).1 = 1) ∧ (∀ a j : Int, ¬ (a = 232 ∧ 15 ≤ j ∧ j ≤ 19) → ¬ a = 234 → S' a j = S a j)) rfl rfl rfl (c_X11_anew  (S := S) hB ) (by decide) rfl rfl (Nat.le_of_ble_eq_true rfl) (fun _ _ => ⟨_, _, rfl, rfl⟩) rfl ?_
      rintro _ _ ⟨rfl, rfl, hB6, hr6, he6⟩ hz6
      show RS _ _ _ _ _ [.inl ((w_X11_anew S).1)] (w_X11_anew S).2
      refine q_zret rfl rfl rfl (by omega) ?_
      have ew : w_X11_readsClause S = (((w_X11_anew S).1), (w_X11_anew S).2) := by unfold w_X11_readsClause; rw [if_pos h2, if_pos h5]
      exact ⟨by rw [ew], by rw [ew], hB6, by rw [ew]; omega, fun a j h1 h2 => ((he6 a j h1 h2).trans rfl)⟩
    · refine r_if_ne1 (pc' := 28) rfl rfl (by omega) (by omega) ?_
      refine r_lload (pc' := 29) rfl rfl rfl ?_
      refine r_lcon (pc' := 32) rfl rfl ?_
      refine r_lcmp (pc' := 33) rfl rfl (by omega) ?_
      have b7 := mx_cmp_b (S 232 18) 1734440037
      by_cases h8 : (S 232 18) = 1734440037
      · refine r_if_ne0 (pc' := 36) rfl rfl (by omega) (by omega) ?_
        refine r_aload (pc' := 37) rfl rfl rfl ?_
        refine q_call (pc' := 40) (P := fun r' S' => r' = some (.inl ((w_X11_readsGate S).1)) ∧ S' = (w_X11_readsGate S).2 ∧ Bd S' ∧ ((w_X11_readsGate S).1 = 0 ∨ (w_X11_readsGate S).1 = 1) ∧ (∀ a j : Int, ¬ (a = 232 ∧ 15 ≤ j ∧ j ≤ 19) → ¬ a = 234 → S' a j = S a j)) rfl rfl rfl (c_X11_readsGate  (S := S) hB ) (by decide) rfl rfl (Nat.le_of_ble_eq_true rfl) (fun _ _ => ⟨_, _, rfl, rfl⟩) rfl ?_
        rintro _ _ ⟨rfl, rfl, hB9, hr9, he9⟩ hz9
        show RS _ _ _ _ _ [.inl ((w_X11_readsGate S).1)] (w_X11_readsGate S).2
        refine q_zret rfl rfl rfl (by omega) ?_
        have ew : w_X11_readsClause S = (((w_X11_readsGate S).1), (w_X11_readsGate S).2) := by unfold w_X11_readsClause; rw [if_pos h2, if_neg h5, if_pos h8]
        exact ⟨by rw [ew], by rw [ew], hB9, by rw [ew]; omega, fun a j h1 h2 => ((he9 a j h1 h2).trans rfl)⟩
      · refine r_if_ne1 (pc' := 41) rfl rfl (by omega) (by omega) ?_
        refine r_lload (pc' := 42) rfl rfl rfl ?_
        refine r_lcon (pc' := 45) rfl rfl ?_
        refine r_lcmp (pc' := 46) rfl rfl (by omega) ?_
        have b10 := mx_cmp_b (S 232 18) 2003792484
        by_cases h11 : (S 232 18) = 2003792484
        · refine r_if_ne0 (pc' := 49) rfl rfl (by omega) (by omega) ?_
          refine r_aload (pc' := 50) rfl rfl rfl ?_
          refine q_call (pc' := 53) (P := fun r' S' => r' = some (.inl ((w_X11_readsWord S).1)) ∧ S' = (w_X11_readsWord S).2 ∧ Bd S' ∧ ((w_X11_readsWord S).1 = 0 ∨ (w_X11_readsWord S).1 = 1) ∧ (∀ a j : Int, ¬ (a = 232 ∧ 15 ≤ j ∧ j ≤ 19) → ¬ a = 234 → S' a j = S a j)) rfl rfl rfl (c_X11_readsWord  (S := S) hB ) (by decide) rfl rfl (Nat.le_of_ble_eq_true rfl) (fun _ _ => ⟨_, _, rfl, rfl⟩) rfl ?_
          rintro _ _ ⟨rfl, rfl, hB12, hr12, he12⟩ hz12
          show RS _ _ _ _ _ [.inl ((w_X11_readsWord S).1)] (w_X11_readsWord S).2
          refine q_zret rfl rfl rfl (by omega) ?_
          have ew : w_X11_readsClause S = (((w_X11_readsWord S).1), (w_X11_readsWord S).2) := by unfold w_X11_readsClause; rw [if_pos h2, if_neg h5, if_neg h8, if_pos h11]
          exact ⟨by rw [ew], by rw [ew], hB12, by rw [ew]; omega, fun a j h1 h2 => ((he12 a j h1 h2).trans rfl)⟩
        · refine r_if_ne1 (pc' := 54) rfl rfl (by omega) (by omega) ?_
          refine r_lload (pc' := 55) rfl rfl rfl ?_
          refine r_lcon (pc' := 58) rfl rfl ?_
          refine r_lcmp (pc' := 59) rfl rfl (by omega) ?_
          have b13 := mx_cmp_b (S 232 18) 1684107883
          by_cases h14 : (S 232 18) = 1684107883
          · refine r_if_ne0 (pc' := 62) rfl rfl (by omega) (by omega) ?_
            refine r_aload (pc' := 63) rfl rfl rfl ?_
            refine q_call (pc' := 66) (P := fun r' S' => r' = some (.inl ((w_X11_readsDark S).1)) ∧ S' = (w_X11_readsDark S).2 ∧ Bd S' ∧ ((w_X11_readsDark S).1 = 0 ∨ (w_X11_readsDark S).1 = 1) ∧ (∀ a j : Int, ¬ (a = 232 ∧ 15 ≤ j ∧ j ≤ 19) → ¬ a = 234 → S' a j = S a j)) rfl rfl rfl (c_X11_readsDark  (S := S) hB ) (by decide) rfl rfl (Nat.le_of_ble_eq_true rfl) (fun _ _ => ⟨_, _, rfl, rfl⟩) rfl ?_
            rintro _ _ ⟨rfl, rfl, hB15, hr15, he15⟩ hz15
            show RS _ _ _ _ _ [.inl ((w_X11_readsDark S).1)] (w_X11_readsDark S).2
            refine q_zret rfl rfl rfl (by omega) ?_
            have ew : w_X11_readsClause S = (((w_X11_readsDark S).1), (w_X11_readsDark S).2) := by unfold w_X11_readsClause; rw [if_pos h2, if_neg h5, if_neg h8, if_neg h11, if_pos h14]
            exact ⟨by rw [ew], by rw [ew], hB15, by rw [ew]; omega, fun a j h1 h2 => ((he15 a j h1 h2).trans rfl)⟩
          · refine r_if_ne1 (pc' := 67) rfl rfl (by omega) (by omega) ?_
            refine r_lload (pc' := 68) rfl rfl rfl ?_
            refine r_lcon (pc' := 71) rfl rfl ?_
            refine r_lcmp (pc' := 72) rfl rfl (by omega) ?_
            have b16 := mx_cmp_b (S 232 18) 499968340590
            by_cases h17 : (S 232 18) = 499968340590
            · refine r_if_ne0 (pc' := 75) rfl rfl (by omega) (by omega) ?_
              refine r_const (pc' := 76) rfl rfl ?_
              refine r_goto (pc' := 116) rfl rfl ?_
              refine r_istore (pc' := 117) (ls' := [some (.inr (.inr 232)), some (.inr (.inl (S 232 18))), none, some (.inl 0)]) rfl rfl rfl rfl ?_
              refine r_iload (pc' := 118) rfl rfl rfl ?_
              refine r_if_lt0 (pc' := 121) rfl rfl (by decide) (by decide) ?_
              refine r_aload (pc' := 122) rfl rfl rfl ?_
              refine r_iload (pc' := 123) rfl rfl rfl ?_
              refine q_call (pc' := 126) (P := fun r' S' => r' = some (.inl ((w_X11_readsField S (0 : Int)).1)) ∧ S' = (w_X11_readsField S (0 : Int)).2 ∧ Bd S' ∧ ((w_X11_readsField S (0 : Int)).1 = 0 ∨ (w_X11_readsField S (0 : Int)).1 = 1) ∧ (∀ a j : Int, ¬ (a = 232 ∧ 15 ≤ j ∧ j ≤ 19) → ¬ a = 234 → S' a j = S a j)) rfl rfl rfl (c_X11_readsField (c := 0) (S := S) hB (show 0 ≤ (0 : Int) ∧ (0 : Int) ≤ 3 from by omega)) (by decide) rfl rfl (Nat.le_of_ble_eq_true rfl) (fun _ _ => ⟨_, _, rfl, rfl⟩) rfl ?_
              rintro _ _ ⟨rfl, rfl, hB18, hr18, he18⟩ hz18
              show RS _ _ _ _ _ [.inl ((w_X11_readsField S 0).1)] (w_X11_readsField S 0).2
              by_cases h19 : ((w_X11_readsField S 0).1) = 0
              · refine r_if_eq1 (pc' := 133) rfl rfl (by omega) (by omega) ?_
                refine r_const (pc' := 134) rfl rfl ?_
                refine q_zret rfl rfl rfl (by omega) ?_
                have ew : w_X11_readsClause S = (0, (w_X11_readsField S 0).2) := by unfold w_X11_readsClause; rw [if_pos h2, if_neg h5, if_neg h8, if_neg h11, if_neg h14, if_pos h17, if_pos h19]
                exact ⟨by rw [ew], by rw [ew], hB18, by rw [ew]; omega, fun a j h1 h2 => ((he18 a j h1 h2).trans rfl)⟩
              · refine r_if_eq0 (pc' := 129) rfl rfl (by omega) (by omega) ?_
                refine r_const (pc' := 130) rfl rfl ?_
                refine r_goto (pc' := 134) rfl rfl ?_
                refine q_zret rfl rfl rfl (by omega) ?_
                have ew : w_X11_readsClause S = (1, (w_X11_readsField S 0).2) := by unfold w_X11_readsClause; rw [if_pos h2, if_neg h5, if_neg h8, if_neg h11, if_neg h14, if_pos h17, if_neg h19]
                exact ⟨by rw [ew], by rw [ew], hB18, by rw [ew]; omega, fun a j h1 h2 => ((he18 a j h1 h2).trans rfl)⟩
            · refine r_if_ne1 (pc' := 79) rfl rfl (by omega) (by omega) ?_
              refine r_lload (pc' := 80) rfl rfl rfl ?_
              refine r_lcon (pc' := 83) rfl rfl ?_
              refine r_lcmp (pc' := 84) rfl rfl (by omega) ?_
              have b20 := mx_cmp_b (S 232 18) 448545975417
              by_cases h21 : (S 232 18) = 448545975417
              · refine r_if_ne0 (pc' := 87) rfl rfl (by omega) (by omega) ?_
                refine r_const (pc' := 88) rfl rfl ?_
                refine r_goto (pc' := 116) rfl rfl ?_
                refine r_istore (pc' := 117) (ls' := [some (.inr (.inr 232)), some (.inr (.inl (S 232 18))), none, some (.inl 1)]) rfl rfl rfl rfl ?_
                refine r_iload (pc' := 118) rfl rfl rfl ?_
                refine r_if_lt0 (pc' := 121) rfl rfl (by decide) (by decide) ?_
                refine r_aload (pc' := 122) rfl rfl rfl ?_
                refine r_iload (pc' := 123) rfl rfl rfl ?_
                refine q_call (pc' := 126) (P := fun r' S' => r' = some (.inl ((w_X11_readsField S (1 : Int)).1)) ∧ S' = (w_X11_readsField S (1 : Int)).2 ∧ Bd S' ∧ ((w_X11_readsField S (1 : Int)).1 = 0 ∨ (w_X11_readsField S (1 : Int)).1 = 1) ∧ (∀ a j : Int, ¬ (a = 232 ∧ 15 ≤ j ∧ j ≤ 19) → ¬ a = 234 → S' a j = S a j)) rfl rfl rfl (c_X11_readsField (c := 1) (S := S) hB (show 0 ≤ (1 : Int) ∧ (1 : Int) ≤ 3 from by omega)) (by decide) rfl rfl (Nat.le_of_ble_eq_true rfl) (fun _ _ => ⟨_, _, rfl, rfl⟩) rfl ?_
                rintro _ _ ⟨rfl, rfl, hB22, hr22, he22⟩ hz22
                show RS _ _ _ _ _ [.inl ((w_X11_readsField S 1).1)] (w_X11_readsField S 1).2
                by_cases h23 : ((w_X11_readsField S 1).1) = 0
                · refine r_if_eq1 (pc' := 133) rfl rfl (by omega) (by omega) ?_
                  refine r_const (pc' := 134) rfl rfl ?_
                  refine q_zret rfl rfl rfl (by omega) ?_
                  have ew : w_X11_readsClause S = (0, (w_X11_readsField S 1).2) := by unfold w_X11_readsClause; rw [if_pos h2, if_neg h5, if_neg h8, if_neg h11, if_neg h14, if_neg h17, if_pos h21, if_pos h23]
                  exact ⟨by rw [ew], by rw [ew], hB22, by rw [ew]; omega, fun a j h1 h2 => ((he22 a j h1 h2).trans rfl)⟩
                · refine r_if_eq0 (pc' := 129) rfl rfl (by omega) (by omega) ?_
                  refine r_const (pc' := 130) rfl rfl ?_
                  refine r_goto (pc' := 134) rfl rfl ?_
                  refine q_zret rfl rfl rfl (by omega) ?_
                  have ew : w_X11_readsClause S = (1, (w_X11_readsField S 1).2) := by unfold w_X11_readsClause; rw [if_pos h2, if_neg h5, if_neg h8, if_neg h11, if_neg h14, if_neg h17, if_pos h21, if_neg h23]
                  exact ⟨by rw [ew], by rw [ew], hB22, by rw [ew]; omega, fun a j h1 h2 => ((he22 a j h1 h2).trans rfl)⟩
              · refine r_if_ne1 (pc' := 91) rfl rfl (by omega) (by omega) ?_
                refine r_lload (pc' := 92) rfl rfl rfl ?_
                refine r_lcon (pc' := 95) rfl rfl ?_
                refine r_lcmp (pc' := 96) rfl rfl (by omega) ?_
                have b24 := mx_cmp_b (S 232 18) 27710310490205285
                by_cases h25 : (S 232 18) = 27710310490205285
                · refine r_if_ne0 (pc' := 99) rfl rfl (by omega) (by omega) ?_
                  refine r_const (pc' := 100) rfl rfl ?_
                  refine r_goto (pc' := 116) rfl rfl ?_
                  refine r_istore (pc' := 117) (ls' := [some (.inr (.inr 232)), some (.inr (.inl (S 232 18))), none, some (.inl 2)]) rfl rfl rfl rfl ?_
                  refine r_iload (pc' := 118) rfl rfl rfl ?_
                  refine r_if_lt0 (pc' := 121) rfl rfl (by decide) (by decide) ?_
                  refine r_aload (pc' := 122) rfl rfl rfl ?_
                  refine r_iload (pc' := 123) rfl rfl rfl ?_
                  refine q_call (pc' := 126) (P := fun r' S' => r' = some (.inl ((w_X11_readsField S (2 : Int)).1)) ∧ S' = (w_X11_readsField S (2 : Int)).2 ∧ Bd S' ∧ ((w_X11_readsField S (2 : Int)).1 = 0 ∨ (w_X11_readsField S (2 : Int)).1 = 1) ∧ (∀ a j : Int, ¬ (a = 232 ∧ 15 ≤ j ∧ j ≤ 19) → ¬ a = 234 → S' a j = S a j)) rfl rfl rfl (c_X11_readsField (c := 2) (S := S) hB (show 0 ≤ (2 : Int) ∧ (2 : Int) ≤ 3 from by omega)) (by decide) rfl rfl (Nat.le_of_ble_eq_true rfl) (fun _ _ => ⟨_, _, rfl, rfl⟩) rfl ?_
                  rintro _ _ ⟨rfl, rfl, hB26, hr26, he26⟩ hz26
                  show RS _ _ _ _ _ [.inl ((w_X11_readsField S 2).1)] (w_X11_readsField S 2).2
                  by_cases h27 : ((w_X11_readsField S 2).1) = 0
                  · refine r_if_eq1 (pc' := 133) rfl rfl (by omega) (by omega) ?_
                    refine r_const (pc' := 134) rfl rfl ?_
                    refine q_zret rfl rfl rfl (by omega) ?_
                    have ew : w_X11_readsClause S = (0, (w_X11_readsField S 2).2) := by unfold w_X11_readsClause; rw [if_pos h2, if_neg h5, if_neg h8, if_neg h11, if_neg h14, if_neg h17, if_neg h21, if_pos h25, if_pos h27]
                    exact ⟨by rw [ew], by rw [ew], hB26, by rw [ew]; omega, fun a j h1 h2 => ((he26 a j h1 h2).trans rfl)⟩
                  · refine r_if_eq0 (pc' := 129) rfl rfl (by omega) (by omega) ?_
                    refine r_const (pc' := 130) rfl rfl ?_
                    refine r_goto (pc' := 134) rfl rfl ?_
                    refine q_zret rfl rfl rfl (by omega) ?_
                    have ew : w_X11_readsClause S = (1, (w_X11_readsField S 2).2) := by unfold w_X11_readsClause; rw [if_pos h2, if_neg h5, if_neg h8, if_neg h11, if_neg h14, if_neg h17, if_neg h21, if_pos h25, if_neg h27]
                    exact ⟨by rw [ew], by rw [ew], hB26, by rw [ew]; omega, fun a j h1 h2 => ((he26 a j h1 h2).trans rfl)⟩
                · refine r_if_ne1 (pc' := 103) rfl rfl (by omega) (by omega) ?_
                  refine r_lload (pc' := 104) rfl rfl rfl ?_
                  refine r_lcon (pc' := 107) rfl rfl ?_
                  refine r_lcmp (pc' := 108) rfl rfl (by omega) ?_
                  have b28 := mx_cmp_b (S 232 18) 448312010092
                  by_cases h29 : (S 232 18) = 448312010092
                  · refine r_if_ne0 (pc' := 111) rfl rfl (by omega) (by omega) ?_
                    refine r_const (pc' := 112) rfl rfl ?_
                    refine r_goto (pc' := 116) rfl rfl ?_
                    refine r_istore (pc' := 117) (ls' := [some (.inr (.inr 232)), some (.inr (.inl (S 232 18))), none, some (.inl 3)]) rfl rfl rfl rfl ?_
                    refine r_iload (pc' := 118) rfl rfl rfl ?_
                    refine r_if_lt0 (pc' := 121) rfl rfl (by decide) (by decide) ?_
                    refine r_aload (pc' := 122) rfl rfl rfl ?_
                    refine r_iload (pc' := 123) rfl rfl rfl ?_
                    refine q_call (pc' := 126) (P := fun r' S' => r' = some (.inl ((w_X11_readsField S (3 : Int)).1)) ∧ S' = (w_X11_readsField S (3 : Int)).2 ∧ Bd S' ∧ ((w_X11_readsField S (3 : Int)).1 = 0 ∨ (w_X11_readsField S (3 : Int)).1 = 1) ∧ (∀ a j : Int, ¬ (a = 232 ∧ 15 ≤ j ∧ j ≤ 19) → ¬ a = 234 → S' a j = S a j)) rfl rfl rfl (c_X11_readsField (c := 3) (S := S) hB (show 0 ≤ (3 : Int) ∧ (3 : Int) ≤ 3 from by omega)) (by decide) rfl rfl (Nat.le_of_ble_eq_true rfl) (fun _ _ => ⟨_, _, rfl, rfl⟩) rfl ?_
                    rintro _ _ ⟨rfl, rfl, hB30, hr30, he30⟩ hz30
                    show RS _ _ _ _ _ [.inl ((w_X11_readsField S 3).1)] (w_X11_readsField S 3).2
                    by_cases h31 : ((w_X11_readsField S 3).1) = 0
                    · refine r_if_eq1 (pc' := 133) rfl rfl (by omega) (by omega) ?_
                      refine r_const (pc' := 134) rfl rfl ?_
                      refine q_zret rfl rfl rfl (by omega) ?_
                      have ew : w_X11_readsClause S = (0, (w_X11_readsField S 3).2) := by unfold w_X11_readsClause; rw [if_pos h2, if_neg h5, if_neg h8, if_neg h11, if_neg h14, if_neg h17, if_neg h21, if_neg h25, if_pos h29, if_pos h31]
                      exact ⟨by rw [ew], by rw [ew], hB30, by rw [ew]; omega, fun a j h1 h2 => ((he30 a j h1 h2).trans rfl)⟩
                    · refine r_if_eq0 (pc' := 129) rfl rfl (by omega) (by omega) ?_
                      refine r_const (pc' := 130) rfl rfl ?_
                      refine r_goto (pc' := 134) rfl rfl ?_
                      refine q_zret rfl rfl rfl (by omega) ?_
                      have ew : w_X11_readsClause S = (1, (w_X11_readsField S 3).2) := by unfold w_X11_readsClause; rw [if_pos h2, if_neg h5, if_neg h8, if_neg h11, if_neg h14, if_neg h17, if_neg h21, if_neg h25, if_pos h29, if_neg h31]
                      exact ⟨by rw [ew], by rw [ew], hB30, by rw [ew]; omega, fun a j h1 h2 => ((he30 a j h1 h2).trans rfl)⟩
                  · refine r_if_ne1 (pc' := 115) rfl rfl (by omega) (by omega) ?_
                    refine r_const (pc' := 116) rfl rfl ?_
                    refine r_istore (pc' := 117) (ls' := [some (.inr (.inr 232)), some (.inr (.inl (S 232 18))), none, some (.inl (-1))]) rfl rfl rfl rfl ?_
                    refine r_iload (pc' := 118) rfl rfl rfl ?_
                    refine r_if_lt1 (pc' := 133) rfl rfl (by decide) (by decide) ?_
                    refine r_const (pc' := 134) rfl rfl ?_
                    refine q_zret rfl rfl rfl (by omega) ?_
                    have ew : w_X11_readsClause S = (0, S) := by unfold w_X11_readsClause; rw [if_pos h2, if_neg h5, if_neg h8, if_neg h11, if_neg h14, if_neg h17, if_neg h21, if_neg h25, if_neg h29]
                    exact ⟨by rw [ew], by rw [ew], hB, by rw [ew]; omega, fun a j h1 h2 => rfl⟩
  · refine r_icmp_eq0 (pc' := 8) rfl rfl (by omega) (by omega) ?_
    refine r_const (pc' := 9) rfl rfl ?_
    refine q_zret rfl rfl rfl (by omega) ?_
    have ew : w_X11_readsClause S = (0, S) := by unfold w_X11_readsClause; rw [if_neg h2]
    exact ⟨by rw [ew], by rw [ew], hB, by rw [ew]; omega, fun a j h1 h2 => rfl⟩
