/-! CLAUSES, told -/
abbrev LN (T R : Int → Int) : Prop := R 4 + R 5 ≤ 200 ∧ ∀ p, 0 ≤ p → p < R 5 → 97 ≤ T (R 4 + p) ∧ T (R 4 + p) ≤ 122
def WFR (T R : Int → Int) : Prop := (R 0 ≤ 3 → R 1 ≤ 3 ∧ LN T R) ∧ (R 0 = 5 → R 1 ≤ 6 ∧ R 2 ≤ 6) ∧ (R 0 = 6 → LN T R)
theorem LN_cg {S S' : rS} {c : Int} (h1 : S' 2 = S 2) (h2 : S' (5 + c) = S (5 + c)) (h : LN (S 2) (S (5 + c))) : LN (S' 2) (S' (5 + c)) := by rw [h1, h2]; exact h
theorem spl_o {S : rS} {A R a j : Int} (h : ¬ a = A) : spl S A R a j = S a j := fl_o h
theorem Bd_spl {S : rS} (hB : Bd S) {A c : Int} (hA : ∀ j, bd_lo A j = 0 ∧ bd_hi A j = 25) (hL : LN (S 2) (S (5 + c))) : Bd (spl S A (5 + c)) := Bd_fl hB (fun k h0 h1 => by
  have q := hL.2 k h0 h1
  rw [(hA k).1, (hA k).2]
  show 0 ≤ S 2 (S (5 + c) 4 + k) - 97 ∧ S 2 (S (5 + c) 4 + k) - 97 ≤ 25
  omega)
theorem c_X3_spell_f {c : Int} {f : Int} {S : rS} (hB : Bd S) (h_c : 0 ≤ c ∧ c < 20) (h_L : LN (S 2) (S (5 + c))) (h_f : 0 ≤ f ∧ f < 7) : CS 1 153 [.inr (.inr (5 + c)), .inr (.inr 1), .inr (.inr (31 + f))] S (fun r' S' => r' = none ∧ S' = spl S (31 + f) (5 + c)) := by
  refine RS.beg (ls := [some (.inr (.inr (5 + c))), some (.inr (.inr 1)), some (.inr (.inr (31 + f))), none]) rfl rfl rfl rfl rfl ?_
  have r4 := bdo_5_4 hB h_c
  have r5 := bdo_5_5 hB h_c
  have z2 : ∀ i : Int, 0 ≤ S 2 i ∧ S 2 i ≤ 255 := fun i => hB 2 i
  refine r_const (pc' := 1) rfl rfl ?_
  refine r_istore (pc' := 2) (ls' := [some (.inr (.inr (5 + c))), some (.inr (.inr 1)), some (.inr (.inr (31 + f))), some (.inl 0)]) rfl rfl rfl rfl ?_
  refine r_mem (show S = fl S (31 + f) (fun kk => S 2 (S (5 + c) 4 + kk) - 97) (0 : Int) from by exact fl_0 _ _ _) ?_
  refine r_while (α := Int) (fun z' => [some (.inr (.inr (5 + c))), some (.inr (.inr 1)), some (.inr (.inr (31 + f))), some (.inl z')]) (fun z' => fl S (31 + f) (fun kk => S 2 (S (5 + c) 4 + kk) - 97) z') (fun z' => (0 ≤ z' ∧ z' ≤ S (5 + c) 5)) (fun z' => (S (5 + c) 5 - z').toNat) ?_ 0 (show (0 ≤ (0 : Int) ∧ (0 : Int) ≤ S (5 + c) 5) from by omega)
  rintro p hI' ih2
  have hI' : (0 ≤ p ∧ p ≤ S (5 + c) 5) := hI'
  have i1 := hI'
  show RS _ _ _ _ [some (.inr (.inr (5 + c))), some (.inr (.inr 1)), some (.inr (.inr (31 + f))), some (.inl p)] [] (fl S (31 + f) (fun kk => S 2 (S (5 + c) 4 + kk) - 97) p)
  have b1 : 0 ≤ S (5 + c) 5 ∧ S (5 + c) 5 ≤ 8 := bdo_5_5 hB (by omega)
  refine r_iload (pc' := 3) rfl rfl rfl ?_
  refine r_aload (pc' := 4) rfl rfl rfl ?_
  refine r_const (pc' := 5) rfl rfl ?_
  refine r_aldv (pc' := 6) (v := (S (5 + c) 5)) 6 rfl rfl (shr_5 (by omega)) (by omega) (fl_o (by omega)) ?_
  by_cases h2 : p < (S (5 + c) 5)
  · refine r_icmp_ge0 (pc' := 9) rfl rfl (by omega) (by omega) ?_
    refine r_aload (pc' := 10) rfl rfl rfl ?_
    refine r_iload (pc' := 11) rfl rfl rfl ?_
    refine r_aload (pc' := 12) rfl rfl rfl ?_
    refine r_getr (pc' := 15) (v := 2) rfl rfl rfl rfl rfl ?_
    refine r_aload (pc' := 16) rfl rfl rfl ?_
    refine r_const (pc' := 17) rfl rfl ?_
    refine r_aldv (pc' := 18) (v := (S (5 + c) 4)) 6 rfl rfl (shr_5 (by omega)) (by omega) (fl_o (by omega)) ?_
    have b3 : 0 ≤ S (5 + c) 4 ∧ S (5 + c) 4 ≤ 200 := bdo_5_4 hB (by omega)
    refine r_iload (pc' := 19) rfl rfl rfl ?_
    refine r_iadd (pc' := 20) rfl rfl ?_
    refine r_aldv (pc' := 21) (v := (S 2 ((S (5 + c) 4) + p))) 200 rfl rfl rfl (by omega) (fl_o (by omega)) ?_
    have b4 : 0 ≤ S 2 ((S (5 + c) 4) + p) ∧ S 2 ((S (5 + c) 4) + p) ≤ 255 := hB 2 ((S (5 + c) 4) + p)
    refine r_const (pc' := 23) rfl rfl ?_
    refine r_isub (pc' := 24) rfl rfl ?_
    refine r_ast (pc' := 25) 8 rfl rfl (shr_31 (by omega)) (by omega) ?_
    refine r_iinc (pc' := 28) (ls' := [some (.inr (.inr (5 + c))), some (.inr (.inr 1)), some (.inr (.inr (31 + f))), some (.inl (p + 1))]) rfl rfl rfl rfl rfl ?_
    refine r_goto (pc' := 2) rfl rfl ?_
    refine r_mem (show mx_up (fl S (31 + f) (fun kk => S 2 (S (5 + c) 4 + kk) - 97) p) (31 + f) p ((S 2 ((S (5 + c) 4) + p)) - 97) = fl S (31 + f) (fun kk => S 2 (S (5 + c) 4 + kk) - 97) (p + 1) from by exact fl_s (by omega) rfl) ?_
    exact ih2 (p + 1) (show (0 ≤ (p + 1) ∧ (p + 1) ≤ S (5 + c) 5) from by omega) (show (S (5 + c) 5 - (p + 1)).toNat < (S (5 + c) 5 - p).toNat from by omega)
  · refine r_icmp_ge1 (pc' := 31) rfl rfl (by omega) (by omega) ?_
    refine q_vret rfl rfl rfl ?_
    obtain rfl : S (5 + c) 5 = p := by omega
    exact ⟨rfl, rfl⟩
theorem c_X3_spell_w {c : Int} {w : Int} {S : rS} (hB : Bd S) (h_c : 0 ≤ c ∧ c < 20) (h_L : LN (S 2) (S (5 + c))) (h_w : 0 ≤ w ∧ w < 8) : CS 1 153 [.inr (.inr (5 + c)), .inr (.inr 1), .inr (.inr (43 + w))] S (fun r' S' => r' = none ∧ S' = spl S (43 + w) (5 + c)) := by
  refine RS.beg (ls := [some (.inr (.inr (5 + c))), some (.inr (.inr 1)), some (.inr (.inr (43 + w))), none]) rfl rfl rfl rfl rfl ?_
  have r4 := bdo_5_4 hB h_c
  have r5 := bdo_5_5 hB h_c
  have z2 : ∀ i : Int, 0 ≤ S 2 i ∧ S 2 i ≤ 255 := fun i => hB 2 i
  refine r_const (pc' := 1) rfl rfl ?_
  refine r_istore (pc' := 2) (ls' := [some (.inr (.inr (5 + c))), some (.inr (.inr 1)), some (.inr (.inr (43 + w))), some (.inl 0)]) rfl rfl rfl rfl ?_
  refine r_mem (show S = fl S (43 + w) (fun kk => S 2 (S (5 + c) 4 + kk) - 97) (0 : Int) from by exact fl_0 _ _ _) ?_
  refine r_while (α := Int) (fun z' => [some (.inr (.inr (5 + c))), some (.inr (.inr 1)), some (.inr (.inr (43 + w))), some (.inl z')]) (fun z' => fl S (43 + w) (fun kk => S 2 (S (5 + c) 4 + kk) - 97) z') (fun z' => (0 ≤ z' ∧ z' ≤ S (5 + c) 5)) (fun z' => (S (5 + c) 5 - z').toNat) ?_ 0 (show (0 ≤ (0 : Int) ∧ (0 : Int) ≤ S (5 + c) 5) from by omega)
  rintro p hI' ih2
  have hI' : (0 ≤ p ∧ p ≤ S (5 + c) 5) := hI'
  have i1 := hI'
  show RS _ _ _ _ [some (.inr (.inr (5 + c))), some (.inr (.inr 1)), some (.inr (.inr (43 + w))), some (.inl p)] [] (fl S (43 + w) (fun kk => S 2 (S (5 + c) 4 + kk) - 97) p)
  have b1 : 0 ≤ S (5 + c) 5 ∧ S (5 + c) 5 ≤ 8 := bdo_5_5 hB (by omega)
  refine r_iload (pc' := 3) rfl rfl rfl ?_
  refine r_aload (pc' := 4) rfl rfl rfl ?_
  refine r_const (pc' := 5) rfl rfl ?_
  refine r_aldv (pc' := 6) (v := (S (5 + c) 5)) 6 rfl rfl (shr_5 (by omega)) (by omega) (fl_o (by omega)) ?_
  by_cases h2 : p < (S (5 + c) 5)
  · refine r_icmp_ge0 (pc' := 9) rfl rfl (by omega) (by omega) ?_
    refine r_aload (pc' := 10) rfl rfl rfl ?_
    refine r_iload (pc' := 11) rfl rfl rfl ?_
    refine r_aload (pc' := 12) rfl rfl rfl ?_
    refine r_getr (pc' := 15) (v := 2) rfl rfl rfl rfl rfl ?_
    refine r_aload (pc' := 16) rfl rfl rfl ?_
    refine r_const (pc' := 17) rfl rfl ?_
    refine r_aldv (pc' := 18) (v := (S (5 + c) 4)) 6 rfl rfl (shr_5 (by omega)) (by omega) (fl_o (by omega)) ?_
    have b3 : 0 ≤ S (5 + c) 4 ∧ S (5 + c) 4 ≤ 200 := bdo_5_4 hB (by omega)
    refine r_iload (pc' := 19) rfl rfl rfl ?_
    refine r_iadd (pc' := 20) rfl rfl ?_
    refine r_aldv (pc' := 21) (v := (S 2 ((S (5 + c) 4) + p))) 200 rfl rfl rfl (by omega) (fl_o (by omega)) ?_
    have b4 : 0 ≤ S 2 ((S (5 + c) 4) + p) ∧ S 2 ((S (5 + c) 4) + p) ≤ 255 := hB 2 ((S (5 + c) 4) + p)
    refine r_const (pc' := 23) rfl rfl ?_
    refine r_isub (pc' := 24) rfl rfl ?_
    refine r_ast (pc' := 25) 8 rfl rfl (shr_43 (by omega)) (by omega) ?_
    refine r_iinc (pc' := 28) (ls' := [some (.inr (.inr (5 + c))), some (.inr (.inr 1)), some (.inr (.inr (43 + w))), some (.inl (p + 1))]) rfl rfl rfl rfl rfl ?_
    refine r_goto (pc' := 2) rfl rfl ?_
    refine r_mem (show mx_up (fl S (43 + w) (fun kk => S 2 (S (5 + c) 4 + kk) - 97) p) (43 + w) p ((S 2 ((S (5 + c) 4) + p)) - 97) = fl S (43 + w) (fun kk => S 2 (S (5 + c) 4 + kk) - 97) (p + 1) from by exact fl_s (by omega) rfl) ?_
    exact ih2 (p + 1) (show (0 ≤ (p + 1) ∧ (p + 1) ≤ S (5 + c) 5) from by omega) (show (S (5 + c) 5 - (p + 1)).toNat < (S (5 + c) 5 - p).toNat from by omega)
  · refine r_icmp_ge1 (pc' := 31) rfl rfl (by omega) (by omega) ?_
    refine q_vret rfl rfl rfl ?_
    obtain rfl : S (5 + c) 5 = p := by omega
    exact ⟨rfl, rfl⟩
noncomputable def w_X3_tellField (S : rS) (c : Int) : Int × rS := if (S 25 0) < 7 then (0, mx_up (spl (mx_up (mx_up (mx_up (mx_up S 26 (S 25 0) (S (5 + c) 0)) 27 (S 25 0) (S (5 + c) 1)) 28 (S 25 0) (S (5 + c) 2)) 29 (S 25 0) (S (5 + c) 5)) (31 + (S 25 0)) (5 + c)) 25 0 ((S 25 0) + 1)) else (0, S)
theorem c_X3_tellField {c : Int} {S : rS} (hB : Bd S) (h_c : 0 ≤ c ∧ c < 20) (h_0 : S (5 + c) 0 ≤ 3) (h_1 : S (5 + c) 1 ≤ 3) (h_L : LN (S 2) (S (5 + c))) : CS 2 155 [.inr (.inr 25), .inr (.inr (5 + c)), .inr (.inr 1)] S (fun r' S' => r' = none ∧ S' = (w_X3_tellField S c).2 ∧ Bd S' ∧ (∀ a j : Int, ¬ (25 ≤ a ∧ a ≤ 50) → S' a j = S a j)) := by
  refine RS.beg (ls := [some (.inr (.inr 25)), some (.inr (.inr (5 + c))), some (.inr (.inr 1))]) rfl rfl rfl rfl rfl ?_
  have b0 : 0 ≤ S 25 0 ∧ S 25 0 ≤ 7 := hB 25 0
  have r4 := bdo_5_4 hB h_c
  have r5 := bdo_5_5 hB h_c
  refine r_aload (pc' := 1) rfl rfl rfl ?_
  refine r_getv (pc' := 4) (v := (S 25 0)) rfl rfl (Or.inl rfl) rfl rfl ?_
  have b1 : 0 ≤ S 25 0 ∧ S 25 0 ≤ 7 := hB 25 0
  refine r_const (pc' := 6) rfl rfl ?_
  by_cases h2 : (S 25 0) < 7
  · refine r_icmp_lt1 (pc' := 10) rfl rfl (by omega) (by omega) ?_
    refine r_aload (pc' := 11) rfl rfl rfl ?_
    refine r_getr (pc' := 14) (v := 26) rfl rfl rfl rfl rfl ?_
    refine r_aload (pc' := 15) rfl rfl rfl ?_
    refine r_getv (pc' := 18) (v := (S 25 0)) rfl rfl (Or.inl rfl) rfl rfl ?_
    refine r_aload (pc' := 19) rfl rfl rfl ?_
    refine r_const (pc' := 20) rfl rfl ?_
    refine r_aldv (pc' := 21) (v := (S (5 + c) 0)) 6 rfl rfl (shr_5 (by omega)) (by omega) rfl ?_
    have b3 : 0 ≤ S (5 + c) 0 ∧ S (5 + c) 0 ≤ 7 := bdo_5_0 hB (by omega)
    refine r_ast (pc' := 22) 7 rfl rfl rfl (by omega) ?_
    refine r_aload (pc' := 23) rfl rfl rfl ?_
    refine r_getr (pc' := 26) (v := 27) rfl rfl rfl rfl rfl ?_
    refine r_aload (pc' := 27) rfl rfl rfl ?_
    refine r_getv (pc' := 30) (v := (S 25 0)) rfl rfl (Or.inl rfl) rfl rfl ?_
    refine r_aload (pc' := 31) rfl rfl rfl ?_
    refine r_const (pc' := 32) rfl rfl ?_
    refine r_aldv (pc' := 33) (v := (S (5 + c) 1)) 6 rfl rfl (shr_5 (by omega)) (by omega) (up_ne (by omega)) ?_
    have b4 : 0 ≤ S (5 + c) 1 ∧ S (5 + c) 1 ≤ 99 := bdo_5_1 hB (by omega)
    refine r_ast (pc' := 34) 7 rfl rfl rfl (by omega) ?_
    refine r_aload (pc' := 35) rfl rfl rfl ?_
    refine r_getr (pc' := 38) (v := 28) rfl rfl rfl rfl rfl ?_
    refine r_aload (pc' := 39) rfl rfl rfl ?_
    refine r_getv (pc' := 42) (v := (S 25 0)) rfl rfl (Or.inl rfl) rfl rfl ?_
    refine r_aload (pc' := 43) rfl rfl rfl ?_
    refine r_const (pc' := 44) rfl rfl ?_
    refine r_aldv (pc' := 45) (v := (S (5 + c) 2)) 6 rfl rfl (shr_5 (by omega)) (by omega) ((up_ne (by omega)).trans (up_ne (by omega))) ?_
    have b5 : 0 ≤ S (5 + c) 2 ∧ S (5 + c) 2 ≤ 9 := bdo_5_2 hB (by omega)
    refine r_ast (pc' := 46) 7 rfl rfl rfl (by omega) ?_
    refine r_aload (pc' := 47) rfl rfl rfl ?_
    refine r_getr (pc' := 50) (v := 29) rfl rfl rfl rfl rfl ?_
    refine r_aload (pc' := 51) rfl rfl rfl ?_
    refine r_getv (pc' := 54) (v := (S 25 0)) rfl rfl (Or.inl rfl) rfl rfl ?_
    refine r_aload (pc' := 55) rfl rfl rfl ?_
    refine r_const (pc' := 56) rfl rfl ?_
    refine r_aldv (pc' := 57) (v := (S (5 + c) 5)) 6 rfl rfl (shr_5 (by omega)) (by omega) ((up_ne (by omega)).trans ((up_ne (by omega)).trans (up_ne (by omega)))) ?_
    have b6 : 0 ≤ S (5 + c) 5 ∧ S (5 + c) 5 ≤ 8 := bdo_5_5 hB (by omega)
    refine r_ast (pc' := 58) 7 rfl rfl rfl (by omega) ?_
    refine r_aload (pc' := 59) rfl rfl rfl ?_
    refine r_aload (pc' := 60) rfl rfl rfl ?_
    refine r_aload (pc' := 61) rfl rfl rfl ?_
    refine r_getr (pc' := 64) (v := 30) rfl rfl rfl rfl rfl ?_
    refine r_aload (pc' := 65) rfl rfl rfl ?_
    refine r_getv (pc' := 68) (v := (S 25 0)) rfl rfl (Or.inl rfl) rfl rfl ?_
    refine r_aald (pc' := 69) (v := (31 + (S 25 0))) 102007 rfl rfl rfl rfl (by omega) rfl ?_
    refine q_callE (pc' := 72) (w := none) (S2 := spl (mx_up (mx_up (mx_up (mx_up S 26 (S 25 0) (S (5 + c) 0)) 27 (S 25 0) (S (5 + c) 1)) 28 (S 25 0) (S (5 + c) 2)) 29 (S 25 0) (S (5 + c) 5)) (31 + (S 25 0)) (5 + c)) (st' := []) rfl rfl rfl (c_X3_spell_f (c := c) (f := (S 25 0)) (S := mx_up (mx_up (mx_up (mx_up S 26 (S 25 0) (S (5 + c) 0)) 27 (S 25 0) (S (5 + c) 1)) 28 (S 25 0) (S (5 + c) 2)) 29 (S 25 0) (S (5 + c) 5)) (Bd_up (Bd_up (Bd_up (Bd_up hB (show (0 : Int) ≤ (S (5 + c) 0) from by omega) (show (S (5 + c) 0) ≤ (3 : Int) from by omega)) (show (0 : Int) ≤ (S (5 + c) 1) from by omega) (show (S (5 + c) 1) ≤ (3 : Int) from by omega)) (show (0 : Int) ≤ (S (5 + c) 2) from by omega) (show (S (5 + c) 2) ≤ (9 : Int) from by omega)) (show (0 : Int) ≤ (S (5 + c) 5) from by omega) (show (S (5 + c) 5) ≤ (8 : Int) from by omega)) (show 0 ≤ c ∧ c < 20 from by omega) (show LN ((mx_up (mx_up (mx_up (mx_up S 26 (S 25 0) (S (5 + c) 0)) 27 (S 25 0) (S (5 + c) 1)) 28 (S 25 0) (S (5 + c) 2)) 29 (S 25 0) (S (5 + c) 5)) 2) ((mx_up (mx_up (mx_up (mx_up S 26 (S 25 0) (S (5 + c) 0)) 27 (S 25 0) (S (5 + c) 1)) 28 (S 25 0) (S (5 + c) 2)) 29 (S 25 0) (S (5 + c) 5)) (5 + c)) from by exact LN_cg (funext fun j => by repeat (first | rfl | rw [up_ne (by omega)])) (funext fun j => by repeat (first | rfl | rw [up_ne (by omega)])) h_L) (show 0 ≤ (S 25 0) ∧ (S 25 0) < 7 from by omega)) (by decide) rfl rfl (Nat.le_of_ble_eq_true rfl) (fun q => absurd rfl q) rfl rfl ?_
    have hB7 : Bd (spl (mx_up (mx_up (mx_up (mx_up S 26 (S 25 0) (S (5 + c) 0)) 27 (S 25 0) (S (5 + c) 1)) 28 (S 25 0) (S (5 + c) 2)) 29 (S 25 0) (S (5 + c) 5)) (31 + (S 25 0)) (5 + c)) := Bd_spl (Bd_up (Bd_up (Bd_up (Bd_up hB (show (0 : Int) ≤ (S (5 + c) 0) from by omega) (show (S (5 + c) 0) ≤ (3 : Int) from by omega)) (show (0 : Int) ≤ (S (5 + c) 1) from by omega) (show (S (5 + c) 1) ≤ (3 : Int) from by omega)) (show (0 : Int) ≤ (S (5 + c) 2) from by omega) (show (S (5 + c) 2) ≤ (9 : Int) from by omega)) (show (0 : Int) ≤ (S (5 + c) 5) from by omega) (show (S (5 + c) 5) ≤ (8 : Int) from by omega)) (fun j => bdl_31 (by omega)) (by first | assumption | exact LN_cg (funext fun j => by repeat (first | rfl | rw [up_ne (by omega)])) (funext fun j => by repeat (first | rfl | rw [up_ne (by omega)])) h_L)
    refine r_aload (pc' := 73) rfl rfl rfl ?_
    refine r_dupr (pc' := 74) rfl rfl ?_
    refine r_getv (pc' := 77) (v := (S 25 0)) rfl rfl (Or.inl rfl) rfl (spl_o (by omega)) ?_
    refine r_const (pc' := 78) rfl rfl ?_
    refine r_iadd (pc' := 79) rfl rfl ?_
    refine r_put (pc' := 82) rfl rfl rfl rfl ?_
    refine q_vret rfl rfl rfl ?_
    have ew : w_X3_tellField S c = (0, mx_up (spl (mx_up (mx_up (mx_up (mx_up S 26 (S 25 0) (S (5 + c) 0)) 27 (S 25 0) (S (5 + c) 1)) 28 (S 25 0) (S (5 + c) 2)) 29 (S 25 0) (S (5 + c) 5)) (31 + (S 25 0)) (5 + c)) 25 0 ((S 25 0) + 1)) := by unfold w_X3_tellField; rw [if_pos h2]
    exact ⟨rfl, by rw [ew], (Bd_up hB7 (show (0 : Int) ≤ ((S 25 0) + 1) from by omega) (show ((S 25 0) + 1) ≤ (7 : Int) from by omega)), fun a j h1 => ((up_ne (by omega)).trans ((spl_o (by omega)).trans ((up_ne (by omega)).trans ((up_ne (by omega)).trans ((up_ne (by omega)).trans ((up_ne (by omega)).trans rfl))))))⟩
  · refine r_icmp_lt0 (pc' := 9) rfl rfl (by omega) (by omega) ?_
    refine q_vret rfl rfl rfl ?_
    have ew : w_X3_tellField S c = (0, S) := by unfold w_X3_tellField; rw [if_neg h2]
    exact ⟨rfl, by rw [ew], hB, fun a j h1 => rfl⟩
noncomputable def w_X3_tellGate (S : rS) (c : Int) : Int × rS := if (S 25 6) < 9 then (0, mx_up (mx_up (mx_up (mx_up S 38 (S 25 6) (S (5 + c) 1)) 39 (S 25 6) (S (5 + c) 2)) 40 (S 25 6) (S (5 + c) 3)) 25 6 ((S 25 6) + 1)) else (0, S)
theorem c_X3_tellGate {c : Int} {S : rS} (hB : Bd S) (h_c : 0 ≤ c ∧ c < 20) (h_1 : S (5 + c) 1 ≤ 6 ∧ S (5 + c) 2 ≤ 6) : CS 1 156 [.inr (.inr 25), .inr (.inr (5 + c))] S (fun r' S' => r' = none ∧ S' = (w_X3_tellGate S c).2 ∧ Bd S' ∧ (∀ a j : Int, ¬ (25 ≤ a ∧ a ≤ 50) → S' a j = S a j)) := by
  refine RS.beg (ls := [some (.inr (.inr 25)), some (.inr (.inr (5 + c)))]) rfl rfl rfl rfl rfl ?_
  have b0 : 0 ≤ S 25 6 ∧ S 25 6 ≤ 9 := hB 25 6
  refine r_aload (pc' := 1) rfl rfl rfl ?_
  refine r_getv (pc' := 4) (v := (S 25 6)) rfl rfl (Or.inl rfl) rfl rfl ?_
  have b1 : 0 ≤ S 25 6 ∧ S 25 6 ≤ 9 := hB 25 6
  refine r_const (pc' := 6) rfl rfl ?_
  by_cases h2 : (S 25 6) < 9
  · refine r_icmp_lt1 (pc' := 10) rfl rfl (by omega) (by omega) ?_
    refine r_aload (pc' := 11) rfl rfl rfl ?_
    refine r_getr (pc' := 14) (v := 38) rfl rfl rfl rfl rfl ?_
    refine r_aload (pc' := 15) rfl rfl rfl ?_
    refine r_getv (pc' := 18) (v := (S 25 6)) rfl rfl (Or.inl rfl) rfl rfl ?_
    refine r_aload (pc' := 19) rfl rfl rfl ?_
    refine r_const (pc' := 20) rfl rfl ?_
    refine r_aldv (pc' := 21) (v := (S (5 + c) 1)) 6 rfl rfl (shr_5 (by omega)) (by omega) rfl ?_
    have b3 : 0 ≤ S (5 + c) 1 ∧ S (5 + c) 1 ≤ 99 := bdo_5_1 hB (by omega)
    refine r_ast (pc' := 22) 9 rfl rfl rfl (by omega) ?_
    refine r_aload (pc' := 23) rfl rfl rfl ?_
    refine r_getr (pc' := 26) (v := 39) rfl rfl rfl rfl rfl ?_
    refine r_aload (pc' := 27) rfl rfl rfl ?_
    refine r_getv (pc' := 30) (v := (S 25 6)) rfl rfl (Or.inl rfl) rfl rfl ?_
    refine r_aload (pc' := 31) rfl rfl rfl ?_
    refine r_const (pc' := 32) rfl rfl ?_
    refine r_aldv (pc' := 33) (v := (S (5 + c) 2)) 6 rfl rfl (shr_5 (by omega)) (by omega) (up_ne (by omega)) ?_
    have b4 : 0 ≤ S (5 + c) 2 ∧ S (5 + c) 2 ≤ 9 := bdo_5_2 hB (by omega)
    refine r_ast (pc' := 34) 9 rfl rfl rfl (by omega) ?_
    refine r_aload (pc' := 35) rfl rfl rfl ?_
    refine r_getr (pc' := 38) (v := 40) rfl rfl rfl rfl rfl ?_
    refine r_aload (pc' := 39) rfl rfl rfl ?_
    refine r_getv (pc' := 42) (v := (S 25 6)) rfl rfl (Or.inl rfl) rfl rfl ?_
    refine r_aload (pc' := 43) rfl rfl rfl ?_
    refine r_const (pc' := 44) rfl rfl ?_
    refine r_aldv (pc' := 45) (v := (S (5 + c) 3)) 6 rfl rfl (shr_5 (by omega)) (by omega) ((up_ne (by omega)).trans (up_ne (by omega))) ?_
    have b5 : 0 ≤ S (5 + c) 3 ∧ S (5 + c) 3 ≤ 30 := bdo_5_3 hB (by omega)
    refine r_ast (pc' := 46) 9 rfl rfl rfl (by omega) ?_
    refine r_aload (pc' := 47) rfl rfl rfl ?_
    refine r_dupr (pc' := 48) rfl rfl ?_
    refine r_getv (pc' := 51) (v := (S 25 6)) rfl rfl (Or.inl rfl) rfl rfl ?_
    refine r_const (pc' := 52) rfl rfl ?_
    refine r_iadd (pc' := 53) rfl rfl ?_
    refine r_put (pc' := 56) rfl rfl rfl rfl ?_
    refine q_vret rfl rfl rfl ?_
    have ew : w_X3_tellGate S c = (0, mx_up (mx_up (mx_up (mx_up S 38 (S 25 6) (S (5 + c) 1)) 39 (S 25 6) (S (5 + c) 2)) 40 (S 25 6) (S (5 + c) 3)) 25 6 ((S 25 6) + 1)) := by unfold w_X3_tellGate; rw [if_pos h2]
    exact ⟨rfl, by rw [ew], (Bd_up (Bd_up (Bd_up (Bd_up hB (show (0 : Int) ≤ (S (5 + c) 1) from by omega) (show (S (5 + c) 1) ≤ (6 : Int) from by omega)) (show (0 : Int) ≤ (S (5 + c) 2) from by omega) (show (S (5 + c) 2) ≤ (6 : Int) from by omega)) (show (0 : Int) ≤ (S (5 + c) 3) from by omega) (show (S (5 + c) 3) ≤ (30 : Int) from by omega)) (show (0 : Int) ≤ ((S 25 6) + 1) from by omega) (show ((S 25 6) + 1) ≤ (9 : Int) from by omega)), fun a j h1 => ((up_ne (by omega)).trans ((up_ne (by omega)).trans ((up_ne (by omega)).trans ((up_ne (by omega)).trans rfl))))⟩
  · refine r_icmp_lt0 (pc' := 9) rfl rfl (by omega) (by omega) ?_
    refine q_vret rfl rfl rfl ?_
    have ew : w_X3_tellGate S c = (0, S) := by unfold w_X3_tellGate; rw [if_neg h2]
    exact ⟨rfl, by rw [ew], hB, fun a j h1 => rfl⟩
noncomputable def w_X3_tellWord (S : rS) (c : Int) : Int × rS := if (S 25 10) < 8 then (0, mx_up (spl (mx_up S 41 (S 25 10) (S (5 + c) 5)) (43 + (S 25 10)) (5 + c)) 25 10 ((S 25 10) + 1)) else (0, S)
theorem c_X3_tellWord {c : Int} {S : rS} (hB : Bd S) (h_c : 0 ≤ c ∧ c < 20) (h_L : LN (S 2) (S (5 + c))) : CS 2 157 [.inr (.inr 25), .inr (.inr (5 + c)), .inr (.inr 1)] S (fun r' S' => r' = none ∧ S' = (w_X3_tellWord S c).2 ∧ Bd S' ∧ (∀ a j : Int, ¬ (25 ≤ a ∧ a ≤ 50) → S' a j = S a j)) := by
  refine RS.beg (ls := [some (.inr (.inr 25)), some (.inr (.inr (5 + c))), some (.inr (.inr 1))]) rfl rfl rfl rfl rfl ?_
  have b0 : 0 ≤ S 25 10 ∧ S 25 10 ≤ 8 := hB 25 10
  have r4 := bdo_5_4 hB h_c
  have r5 := bdo_5_5 hB h_c
  refine r_aload (pc' := 1) rfl rfl rfl ?_
  refine r_getv (pc' := 4) (v := (S 25 10)) rfl rfl (Or.inl rfl) rfl rfl ?_
  have b1 : 0 ≤ S 25 10 ∧ S 25 10 ≤ 8 := hB 25 10
  refine r_const (pc' := 6) rfl rfl ?_
  by_cases h2 : (S 25 10) < 8
  · refine r_icmp_lt1 (pc' := 10) rfl rfl (by omega) (by omega) ?_
    refine r_aload (pc' := 11) rfl rfl rfl ?_
    refine r_getr (pc' := 14) (v := 41) rfl rfl rfl rfl rfl ?_
    refine r_aload (pc' := 15) rfl rfl rfl ?_
    refine r_getv (pc' := 18) (v := (S 25 10)) rfl rfl (Or.inl rfl) rfl rfl ?_
    refine r_aload (pc' := 19) rfl rfl rfl ?_
    refine r_const (pc' := 20) rfl rfl ?_
    refine r_aldv (pc' := 21) (v := (S (5 + c) 5)) 6 rfl rfl (shr_5 (by omega)) (by omega) rfl ?_
    have b3 : 0 ≤ S (5 + c) 5 ∧ S (5 + c) 5 ≤ 8 := bdo_5_5 hB (by omega)
    refine r_ast (pc' := 22) 8 rfl rfl rfl (by omega) ?_
    refine r_aload (pc' := 23) rfl rfl rfl ?_
    refine r_aload (pc' := 24) rfl rfl rfl ?_
    refine r_aload (pc' := 25) rfl rfl rfl ?_
    refine r_getr (pc' := 28) (v := 42) rfl rfl rfl rfl rfl ?_
    refine r_aload (pc' := 29) rfl rfl rfl ?_
    refine r_getv (pc' := 32) (v := (S 25 10)) rfl rfl (Or.inl rfl) rfl rfl ?_
    refine r_aald (pc' := 33) (v := (43 + (S 25 10))) 102008 rfl rfl rfl rfl (by omega) rfl ?_
    refine q_callE (pc' := 36) (w := none) (S2 := spl (mx_up S 41 (S 25 10) (S (5 + c) 5)) (43 + (S 25 10)) (5 + c)) (st' := []) rfl rfl rfl (c_X3_spell_w (c := c) (w := (S 25 10)) (S := mx_up S 41 (S 25 10) (S (5 + c) 5)) (Bd_up hB (show (0 : Int) ≤ (S (5 + c) 5) from by omega) (show (S (5 + c) 5) ≤ (8 : Int) from by omega)) (show 0 ≤ c ∧ c < 20 from by omega) (show LN ((mx_up S 41 (S 25 10) (S (5 + c) 5)) 2) ((mx_up S 41 (S 25 10) (S (5 + c) 5)) (5 + c)) from by exact LN_cg (funext fun j => by repeat (first | rfl | rw [up_ne (by omega)])) (funext fun j => by repeat (first | rfl | rw [up_ne (by omega)])) h_L) (show 0 ≤ (S 25 10) ∧ (S 25 10) < 8 from by omega)) (by decide) rfl rfl (Nat.le_of_ble_eq_true rfl) (fun q => absurd rfl q) rfl rfl ?_
    have hB4 : Bd (spl (mx_up S 41 (S 25 10) (S (5 + c) 5)) (43 + (S 25 10)) (5 + c)) := Bd_spl (Bd_up hB (show (0 : Int) ≤ (S (5 + c) 5) from by omega) (show (S (5 + c) 5) ≤ (8 : Int) from by omega)) (fun j => bdl_43 (by omega)) (by first | assumption | exact LN_cg (funext fun j => by repeat (first | rfl | rw [up_ne (by omega)])) (funext fun j => by repeat (first | rfl | rw [up_ne (by omega)])) h_L)
    refine r_aload (pc' := 37) rfl rfl rfl ?_
    refine r_dupr (pc' := 38) rfl rfl ?_
    refine r_getv (pc' := 41) (v := (S 25 10)) rfl rfl (Or.inl rfl) rfl (spl_o (by omega)) ?_
    refine r_const (pc' := 42) rfl rfl ?_
    refine r_iadd (pc' := 43) rfl rfl ?_
    refine r_put (pc' := 46) rfl rfl rfl rfl ?_
    refine q_vret rfl rfl rfl ?_
    have ew : w_X3_tellWord S c = (0, mx_up (spl (mx_up S 41 (S 25 10) (S (5 + c) 5)) (43 + (S 25 10)) (5 + c)) 25 10 ((S 25 10) + 1)) := by unfold w_X3_tellWord; rw [if_pos h2]
    exact ⟨rfl, by rw [ew], (Bd_up hB4 (show (0 : Int) ≤ ((S 25 10) + 1) from by omega) (show ((S 25 10) + 1) ≤ (8 : Int) from by omega)), fun a j h1 => ((up_ne (by omega)).trans ((spl_o (by omega)).trans ((up_ne (by omega)).trans rfl)))⟩
  · refine r_icmp_lt0 (pc' := 9) rfl rfl (by omega) (by omega) ?_
    refine q_vret rfl rfl rfl ?_
    have ew : w_X3_tellWord S c = (0, S) := by unfold w_X3_tellWord; rw [if_neg h2]
    exact ⟨rfl, by rw [ew], hB, fun a j h1 => rfl⟩
noncomputable def w_X3_tell (S : rS) (c : Int) : Int × rS := if (S (5 + c) 0) = 4 then (0, mx_up (mx_up (mx_up (mx_up S 25 0 0) 25 6 0) 25 10 0) 25 13 60) else if (S (5 + c) 0) = 5 then (0, (w_X3_tellGate S c).2) else if (S (5 + c) 0) = 6 then (0, (w_X3_tellWord S c).2) else if (S (5 + c) 0) = 7 then (0, mx_up S 25 13 (S (5 + c) 1)) else (0, (w_X3_tellField S c).2)
theorem c_X3_tell {c : Int} {S : rS} (hB : Bd S) (h_c : 0 ≤ c ∧ c < 20) (h_w : WFR (S 2) (S (5 + c))) : CS 3 154 [.inr (.inr 25), .inr (.inr (5 + c)), .inr (.inr 1)] S (fun r' S' => r' = none ∧ S' = (w_X3_tell S c).2 ∧ Bd S' ∧ (∀ a j : Int, ¬ (25 ≤ a ∧ a ≤ 50) → S' a j = S a j)) := by
  refine RS.beg (ls := [some (.inr (.inr 25)), some (.inr (.inr (5 + c))), some (.inr (.inr 1))]) rfl rfl rfl rfl rfl ?_
  have r0 := bdo_5_0 hB h_c
  refine r_aload (pc' := 1) rfl rfl rfl ?_
  refine r_const (pc' := 2) rfl rfl ?_
  refine r_aldv (pc' := 3) (v := (S (5 + c) 0)) 6 rfl rfl (shr_5 (by omega)) (by omega) rfl ?_
  have b1 : 0 ≤ S (5 + c) 0 ∧ S (5 + c) 0 ≤ 7 := bdo_5_0 hB (by omega)
  by_cases h2 : (S (5 + c) 0) = 4
  · refine r_tsw (pc' := 32) 0 rfl rfl rfl (by omega) (by omega) ?_
    refine r_aload (pc' := 33) rfl rfl rfl ?_
    refine r_const (pc' := 34) rfl rfl ?_
    refine r_put (pc' := 37) rfl rfl rfl rfl ?_
    refine r_aload (pc' := 38) rfl rfl rfl ?_
    refine r_const (pc' := 39) rfl rfl ?_
    refine r_put (pc' := 42) rfl rfl rfl rfl ?_
    refine r_aload (pc' := 43) rfl rfl rfl ?_
    refine r_const (pc' := 44) rfl rfl ?_
    refine r_put (pc' := 47) rfl rfl rfl rfl ?_
    refine r_aload (pc' := 48) rfl rfl rfl ?_
    refine r_const (pc' := 50) rfl rfl ?_
    refine r_put (pc' := 53) rfl rfl rfl rfl ?_
    refine r_goto (pc' := 89) rfl rfl ?_
    refine q_vret rfl rfl rfl ?_
    have ew : w_X3_tell S c = (0, mx_up (mx_up (mx_up (mx_up S 25 0 0) 25 6 0) 25 10 0) 25 13 60) := by unfold w_X3_tell; rw [if_pos h2]
    exact ⟨rfl, by rw [ew], (Bd_up (Bd_up (Bd_up (Bd_up hB (show (0 : Int) ≤ 0 from by omega) (show 0 ≤ (7 : Int) from by omega)) (show (0 : Int) ≤ 0 from by omega) (show 0 ≤ (9 : Int) from by omega)) (show (0 : Int) ≤ 0 from by omega) (show 0 ≤ (8 : Int) from by omega)) (show (0 : Int) ≤ 60 from by omega) (show 60 ≤ (99 : Int) from by omega)), fun a j h1 => ((up_ne (by omega)).trans ((up_ne (by omega)).trans ((up_ne (by omega)).trans ((up_ne (by omega)).trans rfl))))⟩
  by_cases h3 : (S (5 + c) 0) = 5
  · refine r_tsw (pc' := 56) 1 rfl rfl rfl (by omega) (by omega) ?_
    refine r_aload (pc' := 57) rfl rfl rfl ?_
    refine r_aload (pc' := 58) rfl rfl rfl ?_
    refine q_call (pc' := 61) (P := fun r' S' => r' = none ∧ S' = (w_X3_tellGate S c).2 ∧ Bd S' ∧ (∀ a j : Int, ¬ (25 ≤ a ∧ a ≤ 50) → S' a j = S a j)) rfl rfl rfl (c_X3_tellGate (c := c) (S := S) hB (show 0 ≤ c ∧ c < 20 from by omega) (show S (5 + c) 1 ≤ 6 ∧ S (5 + c) 2 ≤ 6 from by exact h_w.2.1 (by omega))) (by decide) rfl rfl (Nat.le_of_ble_eq_true rfl) (fun _ _ => ⟨_, _, rfl, rfl⟩) rfl ?_
    rintro _ _ ⟨rfl, rfl, hB4, he4⟩ hz4
    show RS _ _ _ _ _ [] (w_X3_tellGate S c).2
    refine r_goto (pc' := 89) rfl rfl ?_
    refine q_vret rfl rfl rfl ?_
    have ew : w_X3_tell S c = (0, (w_X3_tellGate S c).2) := by unfold w_X3_tell; rw [if_neg h2, if_pos h3]
    exact ⟨rfl, by rw [ew], hB4, fun a j h1 => ((he4 a j h1).trans rfl)⟩
  by_cases h5 : (S (5 + c) 0) = 6
  · refine r_tsw (pc' := 64) 2 rfl rfl rfl (by omega) (by omega) ?_
    refine r_aload (pc' := 65) rfl rfl rfl ?_
    refine r_aload (pc' := 66) rfl rfl rfl ?_
    refine r_aload (pc' := 67) rfl rfl rfl ?_
    refine q_call (pc' := 70) (P := fun r' S' => r' = none ∧ S' = (w_X3_tellWord S c).2 ∧ Bd S' ∧ (∀ a j : Int, ¬ (25 ≤ a ∧ a ≤ 50) → S' a j = S a j)) rfl rfl rfl (c_X3_tellWord (c := c) (S := S) hB (show 0 ≤ c ∧ c < 20 from by omega) (show LN (S 2) (S (5 + c)) from by exact h_w.2.2 (by omega))) (by decide) rfl rfl (Nat.le_of_ble_eq_true rfl) (fun _ _ => ⟨_, _, rfl, rfl⟩) rfl ?_
    rintro _ _ ⟨rfl, rfl, hB6, he6⟩ hz6
    show RS _ _ _ _ _ [] (w_X3_tellWord S c).2
    refine r_goto (pc' := 89) rfl rfl ?_
    refine q_vret rfl rfl rfl ?_
    have ew : w_X3_tell S c = (0, (w_X3_tellWord S c).2) := by unfold w_X3_tell; rw [if_neg h2, if_neg h3, if_pos h5]
    exact ⟨rfl, by rw [ew], hB6, fun a j h1 => ((he6 a j h1).trans rfl)⟩
  by_cases h7 : (S (5 + c) 0) = 7
  · refine r_tsw (pc' := 73) 3 rfl rfl rfl (by omega) (by omega) ?_
    refine r_aload (pc' := 74) rfl rfl rfl ?_
    refine r_aload (pc' := 75) rfl rfl rfl ?_
    refine r_const (pc' := 76) rfl rfl ?_
    refine r_aldv (pc' := 77) (v := (S (5 + c) 1)) 6 rfl rfl (shr_5 (by omega)) (by omega) rfl ?_
    have b8 : 0 ≤ S (5 + c) 1 ∧ S (5 + c) 1 ≤ 99 := bdo_5_1 hB (by omega)
    refine r_put (pc' := 80) rfl rfl rfl rfl ?_
    refine r_goto (pc' := 89) rfl rfl ?_
    refine q_vret rfl rfl rfl ?_
    have ew : w_X3_tell S c = (0, mx_up S 25 13 (S (5 + c) 1)) := by unfold w_X3_tell; rw [if_neg h2, if_neg h3, if_neg h5, if_pos h7]
    exact ⟨rfl, by rw [ew], (Bd_up hB (show (0 : Int) ≤ (S (5 + c) 1) from by omega) (show (S (5 + c) 1) ≤ (99 : Int) from by omega)), fun a j h1 => ((up_ne (by omega)).trans rfl)⟩
  refine r_tswd (pc' := 83) rfl rfl (by omega) (by omega) ?_
  refine r_aload (pc' := 84) rfl rfl rfl ?_
  refine r_aload (pc' := 85) rfl rfl rfl ?_
  refine r_aload (pc' := 86) rfl rfl rfl ?_
  refine q_call (pc' := 89) (P := fun r' S' => r' = none ∧ S' = (w_X3_tellField S c).2 ∧ Bd S' ∧ (∀ a j : Int, ¬ (25 ≤ a ∧ a ≤ 50) → S' a j = S a j)) rfl rfl rfl (c_X3_tellField (c := c) (S := S) hB (show 0 ≤ c ∧ c < 20 from by omega) (show S (5 + c) 0 ≤ 3 from by omega) (show S (5 + c) 1 ≤ 3 from by exact (h_w.1 (by omega)).1) (show LN (S 2) (S (5 + c)) from by exact (h_w.1 (by omega)).2)) (by decide) rfl rfl (Nat.le_of_ble_eq_true rfl) (fun _ _ => ⟨_, _, rfl, rfl⟩) rfl ?_
  rintro _ _ ⟨rfl, rfl, hB9, he9⟩ hz9
  show RS _ _ _ _ _ [] (w_X3_tellField S c).2
  refine q_vret rfl rfl rfl ?_
  have ew : w_X3_tell S c = (0, (w_X3_tellField S c).2) := by unfold w_X3_tell; rw [if_neg h2, if_neg h3, if_neg h5, if_neg h7]
  exact ⟨rfl, by rw [ew], hB9, fun a j h1 => ((he9 a j h1).trans rfl)⟩
