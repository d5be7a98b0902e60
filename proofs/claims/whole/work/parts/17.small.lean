/-- how long reading takes -/
def mins (k n : Int) : Int := if k = 2 then 2 * (2 * n + 1) else if k = 3 then n else 2 * n + 1
theorem mins_r {k n : Int} (h : 0 ≤ n) : 0 ≤ mins k n ∧ mins k n ≤ 4 * n + 2 := by
  unfold mins
  split
  · omega
  · split <;> omega
/-- which letters birds take -/
theorem sm63 {S : rS} (hB : Bd S) : 0 ≤ sm (fun kk => pop (S 60 kk)) (S 25 0) ∧ sm (fun kk => pop (S 60 kk)) (S 25 0) ≤ 63 := by
  have b : 0 ≤ S 25 0 ∧ S 25 0 ≤ 7 := hB 25 0
  obtain ⟨n, hn⟩ := Int.eq_ofNat_of_zero_le b.1
  have := sm_b (g := fun kk => pop (S 60 kk)) (n := n) (m := 9) (fun k _ _ => pop_r _) n (Nat.le_refl _)
  rw [hn]
  have : (n : Int) ≤ 7 := by omega
  constructor <;> omega
abbrev btake (k c : Int) : Prop := (k ≠ 2 ∧ (c = 4 ∨ c = 14)) ∨ (k = 3 ∧ (c = 0 ∨ c = 8 ∨ c = 20))
theorem c_J6_bitCount_0f7a4 {a : Int} {S : rS} (h_a : 0 ≤ a ∧ a < 512) : CS 1 1 [.inl a] S (fun r' S' => r' = some (.inl (pop a)) ∧ S' = S) := by
  refine RS.beg (ls := [some (.inl a)]) rfl rfl rfl rfl rfl ?_
  refine r_iload (pc' := 1) rfl rfl rfl ?_
  refine r_iload (pc' := 2) rfl rfl rfl ?_
  refine r_const (pc' := 3) rfl rfl ?_
  refine r_iushr (pc' := 4) rfl rfl ?_
  refine r_const (pc' := 7) rfl rfl ?_
  refine r_iand (pc' := 8) rfl rfl ?_
  refine r_isub (pc' := 9) rfl rfl ?_
  refine r_istore (pc' := 10) (ls' := [some (.inl (a - (mx_and (mx_ushr a 1) 1431655765)))]) rfl rfl rfl rfl ?_
  refine r_iload (pc' := 11) rfl rfl rfl ?_
  refine r_const (pc' := 14) rfl rfl ?_
  refine r_iand (pc' := 15) rfl rfl ?_
  refine r_iload (pc' := 16) rfl rfl rfl ?_
  refine r_const (pc' := 17) rfl rfl ?_
  refine r_iushr (pc' := 18) rfl rfl ?_
  refine r_const (pc' := 21) rfl rfl ?_
  refine r_iand (pc' := 22) rfl rfl ?_
  refine r_iadd (pc' := 23) rfl rfl ?_
  refine r_istore (pc' := 24) (ls' := [some (.inl ((mx_and (a - (mx_and (mx_ushr a 1) 1431655765)) 858993459) + (mx_and (mx_ushr (a - (mx_and (mx_ushr a 1) 1431655765)) 2) 858993459)))]) rfl rfl rfl rfl ?_
  refine r_iload (pc' := 25) rfl rfl rfl ?_
  refine r_iload (pc' := 26) rfl rfl rfl ?_
  refine r_const (pc' := 27) rfl rfl ?_
  refine r_iushr (pc' := 28) rfl rfl ?_
  refine r_iadd (pc' := 29) rfl rfl ?_
  refine r_const (pc' := 32) rfl rfl ?_
  refine r_iand (pc' := 33) rfl rfl ?_
  refine r_istore (pc' := 34) (ls' := [some (.inl (mx_and (((mx_and (a - (mx_and (mx_ushr a 1) 1431655765)) 858993459) + (mx_and (mx_ushr (a - (mx_and (mx_ushr a 1) 1431655765)) 2) 858993459)) + (mx_ushr ((mx_and (a - (mx_and (mx_ushr a 1) 1431655765)) 858993459) + (mx_and (mx_ushr (a - (mx_and (mx_ushr a 1) 1431655765)) 2) 858993459)) 4)) 252645135))]) rfl rfl rfl rfl ?_
  refine r_iload (pc' := 35) rfl rfl rfl ?_
  refine r_iload (pc' := 36) rfl rfl rfl ?_
  refine r_const (pc' := 38) rfl rfl ?_
  refine r_iushr (pc' := 39) rfl rfl ?_
  refine r_iadd (pc' := 40) rfl rfl ?_
  refine r_istore (pc' := 41) (ls' := [some (.inl ((mx_and (((mx_and (a - (mx_and (mx_ushr a 1) 1431655765)) 858993459) + (mx_and (mx_ushr (a - (mx_and (mx_ushr a 1) 1431655765)) 2) 858993459)) + (mx_ushr ((mx_and (a - (mx_and (mx_ushr a 1) 1431655765)) 858993459) + (mx_and (mx_ushr (a - (mx_and (mx_ushr a 1) 1431655765)) 2) 858993459)) 4)) 252645135) + (mx_ushr (mx_and (((mx_and (a - (mx_and (mx_ushr a 1) 1431655765)) 858993459) + (mx_and (mx_ushr (a - (mx_and (mx_ushr a 1) 1431655765)) 2) 858993459)) + (mx_ushr ((mx_and (a - (mx_and (mx_ushr a 1) 1431655765)) 858993459) + (mx_and (mx_ushr (a - (mx_and (mx_ushr a 1) 1431655765)) 2) 858993459)) 4)) 252645135) 8)))]) rfl rfl rfl rfl ?_
  refine r_iload (pc' := 42) rfl rfl rfl ?_
  refine r_iload (pc' := 43) rfl rfl rfl ?_
  refine r_const (pc' := 45) rfl rfl ?_
  refine r_iushr (pc' := 46) rfl rfl ?_
  refine r_iadd (pc' := 47) rfl rfl ?_
  refine r_istore (pc' := 48) (ls' := [some (.inl (((mx_and (((mx_and (a - (mx_and (mx_ushr a 1) 1431655765)) 858993459) + (mx_and (mx_ushr (a - (mx_and (mx_ushr a 1) 1431655765)) 2) 858993459)) + (mx_ushr ((mx_and (a - (mx_and (mx_ushr a 1) 1431655765)) 858993459) + (mx_and (mx_ushr (a - (mx_and (mx_ushr a 1) 1431655765)) 2) 858993459)) 4)) 252645135) + (mx_ushr (mx_and (((mx_and (a - (mx_and (mx_ushr a 1) 1431655765)) 858993459) + (mx_and (mx_ushr (a - (mx_and (mx_ushr a 1) 1431655765)) 2) 858993459)) + (mx_ushr ((mx_and (a - (mx_and (mx_ushr a 1) 1431655765)) 858993459) + (mx_and (mx_ushr (a - (mx_and (mx_ushr a 1) 1431655765)) 2) 858993459)) 4)) 252645135) 8)) + (mx_ushr ((mx_and (((mx_and (a - (mx_and (mx_ushr a 1) 1431655765)) 858993459) + (mx_and (mx_ushr (a - (mx_and (mx_ushr a 1) 1431655765)) 2) 858993459)) + (mx_ushr ((mx_and (a - (mx_and (mx_ushr a 1) 1431655765)) 858993459) + (mx_and (mx_ushr (a - (mx_and (mx_ushr a 1) 1431655765)) 2) 858993459)) 4)) 252645135) + (mx_ushr (mx_and (((mx_and (a - (mx_and (mx_ushr a 1) 1431655765)) 858993459) + (mx_and (mx_ushr (a - (mx_and (mx_ushr a 1) 1431655765)) 2) 858993459)) + (mx_ushr ((mx_and (a - (mx_and (mx_ushr a 1) 1431655765)) 858993459) + (mx_and (mx_ushr (a - (mx_and (mx_ushr a 1) 1431655765)) 2) 858993459)) 4)) 252645135) 8)) 16)))]) rfl rfl rfl rfl ?_
  refine r_iload (pc' := 49) rfl rfl rfl ?_
  refine r_const (pc' := 51) rfl rfl ?_
  refine r_iand (pc' := 52) rfl rfl ?_
  refine q_iret rfl rfl rfl ?_
  exact ⟨congrArg (fun z => some (Sum.inl z)) (pop_jj h_a), rfl⟩
theorem c_X1_minutes {k : Int} {n : Int} {S : rS} (h_k : -2147483648 ≤ k ∧ k < 2147483648) (h_n : 0 ≤ n ∧ n < 1000) : CS 1 136 [.inl k, .inl n] S (fun r' S' => r' = some (.inl (mins k n)) ∧ S' = S) := by
  refine RS.beg (ls := [some (.inl k), some (.inl n), none]) rfl rfl rfl rfl rfl ?_
  refine r_const (pc' := 1) rfl rfl ?_
  refine r_iload (pc' := 2) rfl rfl rfl ?_
  refine r_imul (pc' := 3) rfl rfl ?_
  refine r_const (pc' := 4) rfl rfl ?_
  refine r_iadd (pc' := 5) rfl rfl ?_
  refine r_istore (pc' := 6) (ls' := [some (.inl k), some (.inl n), some (.inl ((2 * n) + 1))]) rfl rfl rfl rfl ?_
  refine r_iload (pc' := 7) rfl rfl rfl ?_
  by_cases h1 : k = 2
  · refine r_lsw (pc' := 32) 0 rfl rfl rfl (show _ = _ from h1) ?_
    refine r_const (pc' := 33) rfl rfl ?_
    refine r_iload (pc' := 34) rfl rfl rfl ?_
    refine r_imul (pc' := 35) rfl rfl ?_
    refine q_iret rfl rfl rfl ?_
    exact ⟨by unfold mins; rw [if_pos h1], rfl⟩
  by_cases h2 : k = 3
  · refine r_lsw (pc' := 36) 1 rfl rfl rfl (show _ = _ from h2) ?_
    refine r_iload (pc' := 37) rfl rfl rfl ?_
    refine q_iret rfl rfl rfl ?_
    exact ⟨by unfold mins; rw [if_neg h1, if_pos h2], rfl⟩
  refine r_lswd (pc' := 38) rfl rfl (by omega) (fun q hq => ?_) ?_
  · simp only [List.mem_cons, List.mem_nil_iff, or_false] at hq
    rcases hq with rfl | rfl <;> first | exact h1 | exact h2 | omega
  refine r_iload (pc' := 39) rfl rfl rfl ?_
  refine q_iret rfl rfl rfl ?_
  exact ⟨by unfold mins; rw [if_neg h1, if_neg h2], rfl⟩
theorem c_X1_isUnder {k : Int} {o : Int} {S : rS} (h_k : -2147483648 ≤ k ∧ k < 2147483648) (h_o : 0 ≤ o ∧ o < 100) : CS 1 134 [.inl k, .inl o] S (fun r' S' => r' = some (.inl (bi (o = 0 ∨ (o = 1 ∧ k ≠ 3) ∨ (o ≠ 0 ∧ o ≠ 1 ∧ k = o - 1)))) ∧ S' = S) := by
  refine RS.beg (ls := [some (.inl k), some (.inl o)]) rfl rfl rfl rfl rfl ?_
  refine r_iload (pc' := 1) rfl rfl rfl ?_
  by_cases h1 : o = 0
  · refine r_lsw (pc' := 28) 0 rfl rfl rfl (show _ = _ from h1) ?_
    refine r_const (pc' := 29) rfl rfl ?_
    refine q_zret rfl rfl rfl (by omega) ?_
    exact ⟨bi_t (by omega), rfl⟩
  by_cases h2 : o = 1
  · refine r_lsw (pc' := 30) 1 rfl rfl rfl (show _ = _ from h2) ?_
    refine r_iload (pc' := 31) rfl rfl rfl ?_
    refine r_const (pc' := 32) rfl rfl ?_
    by_cases h3 : k = 3
    · refine r_icmp_eq1 (pc' := 39) rfl rfl (by omega) (by omega) ?_
      refine r_const (pc' := 40) rfl rfl ?_
      refine q_zret rfl rfl rfl (by omega) ?_
      exact ⟨bi_f (by omega), rfl⟩
    · refine r_icmp_eq0 (pc' := 35) rfl rfl (by omega) (by omega) ?_
      refine r_const (pc' := 36) rfl rfl ?_
      refine r_goto (pc' := 40) rfl rfl ?_
      refine q_zret rfl rfl rfl (by omega) ?_
      exact ⟨bi_t (by omega), rfl⟩
  refine r_lswd (pc' := 41) rfl rfl (by omega) (fun q hq => ?_) ?_
  · simp only [List.mem_cons, List.mem_nil_iff, or_false] at hq
    rcases hq with rfl | rfl <;> first | exact h1 | exact h2 | omega
  refine r_iload (pc' := 42) rfl rfl rfl ?_
  refine r_iload (pc' := 43) rfl rfl rfl ?_
  refine r_const (pc' := 44) rfl rfl ?_
  refine r_isub (pc' := 45) rfl rfl ?_
  by_cases h4 : k = (o - 1)
  · refine r_icmp_ne0 (pc' := 48) rfl rfl (by omega) (by omega) ?_
    refine r_const (pc' := 49) rfl rfl ?_
    refine r_goto (pc' := 53) rfl rfl ?_
    refine q_zret rfl rfl rfl (by omega) ?_
    exact ⟨bi_t (by omega), rfl⟩
  · refine r_icmp_ne1 (pc' := 52) rfl rfl (by omega) (by omega) ?_
    refine r_const (pc' := 53) rfl rfl ?_
    refine q_zret rfl rfl rfl (by omega) ?_
    exact ⟨bi_f (by omega), rfl⟩
theorem c_X1_birdsTake {k : Int} {c : Int} {S : rS} (h_k : -2147483648 ≤ k ∧ k < 2147483648) (h_c : -2147483648 ≤ c ∧ c < 2147483648) : CS 1 133 [.inl k, .inl c] S (fun r' S' => r' = some (.inl (bi (btake k c))) ∧ S' = S) := by
  refine RS.beg (ls := [some (.inl k), some (.inl c), none]) rfl rfl rfl rfl rfl ?_
  refine r_iload (pc' := 1) rfl rfl rfl ?_
  refine r_const (pc' := 2) rfl rfl ?_
  by_cases h1 : c = 4
  · refine r_icmp_eq1 (pc' := 11) rfl rfl (by omega) (by omega) ?_
    refine r_const (pc' := 12) rfl rfl ?_
    refine r_goto (pc' := 16) rfl rfl ?_
    refine r_istore (pc' := 17) (ls' := [some (.inl k), some (.inl c), some (.inl 1)]) rfl rfl rfl rfl ?_
    refine r_iload (pc' := 18) rfl rfl rfl ?_
    by_cases h2 : k = 2
    · refine r_lsw (pc' := 44) 0 rfl rfl rfl (show _ = _ from h2) ?_
      refine r_const (pc' := 45) rfl rfl ?_
      refine q_zret rfl rfl rfl (by omega) ?_
      exact ⟨bi_f (by unfold btake; omega), rfl⟩
    by_cases h3 : k = 3
    · refine r_lsw (pc' := 46) 1 rfl rfl rfl (show _ = _ from h3) ?_
      refine r_iload (pc' := 47) rfl rfl rfl ?_
      refine r_if_ne1 (pc' := 66) rfl rfl (by decide) (by decide) ?_
      refine r_const (pc' := 67) rfl rfl ?_
      refine r_goto (pc' := 71) rfl rfl ?_
      refine q_zret rfl rfl rfl (by omega) ?_
      exact ⟨bi_t (by unfold btake; omega), rfl⟩
    refine r_lswd (pc' := 72) rfl rfl (by omega) (fun q hq => ?_) ?_
    · simp only [List.mem_cons, List.mem_nil_iff, or_false] at hq
      rcases hq with rfl | rfl <;> first | exact h2 | exact h3 | omega
    refine r_iload (pc' := 73) rfl rfl rfl ?_
    refine q_zret rfl rfl rfl (by omega) ?_
    exact ⟨bi_t (by unfold btake; omega), rfl⟩
  · refine r_icmp_eq0 (pc' := 5) rfl rfl (by omega) (by omega) ?_
    refine r_iload (pc' := 6) rfl rfl rfl ?_
    refine r_const (pc' := 8) rfl rfl ?_
    by_cases h4 : c = 14
    · refine r_icmp_ne0 (pc' := 11) rfl rfl (by omega) (by omega) ?_
      refine r_const (pc' := 12) rfl rfl ?_
      refine r_goto (pc' := 16) rfl rfl ?_
      refine r_istore (pc' := 17) (ls' := [some (.inl k), some (.inl c), some (.inl 1)]) rfl rfl rfl rfl ?_
      refine r_iload (pc' := 18) rfl rfl rfl ?_
      by_cases h5 : k = 2
      · refine r_lsw (pc' := 44) 0 rfl rfl rfl (show _ = _ from h5) ?_
        refine r_const (pc' := 45) rfl rfl ?_
        refine q_zret rfl rfl rfl (by omega) ?_
        exact ⟨bi_f (by unfold btake; omega), rfl⟩
      by_cases h6 : k = 3
      · refine r_lsw (pc' := 46) 1 rfl rfl rfl (show _ = _ from h6) ?_
        refine r_iload (pc' := 47) rfl rfl rfl ?_
        refine r_if_ne1 (pc' := 66) rfl rfl (by decide) (by decide) ?_
        refine r_const (pc' := 67) rfl rfl ?_
        refine r_goto (pc' := 71) rfl rfl ?_
        refine q_zret rfl rfl rfl (by omega) ?_
        exact ⟨bi_t (by unfold btake; omega), rfl⟩
      refine r_lswd (pc' := 72) rfl rfl (by omega) (fun q hq => ?_) ?_
      · simp only [List.mem_cons, List.mem_nil_iff, or_false] at hq
        rcases hq with rfl | rfl <;> first | exact h5 | exact h6 | omega
      refine r_iload (pc' := 73) rfl rfl rfl ?_
      refine q_zret rfl rfl rfl (by omega) ?_
      exact ⟨bi_t (by unfold btake; omega), rfl⟩
    · refine r_icmp_ne1 (pc' := 15) rfl rfl (by omega) (by omega) ?_
      refine r_const (pc' := 16) rfl rfl ?_
      refine r_istore (pc' := 17) (ls' := [some (.inl k), some (.inl c), some (.inl 0)]) rfl rfl rfl rfl ?_
      refine r_iload (pc' := 18) rfl rfl rfl ?_
      by_cases h7 : k = 2
      · refine r_lsw (pc' := 44) 0 rfl rfl rfl (show _ = _ from h7) ?_
        refine r_const (pc' := 45) rfl rfl ?_
        refine q_zret rfl rfl rfl (by omega) ?_
        exact ⟨bi_f (by unfold btake; omega), rfl⟩
      by_cases h8 : k = 3
      · refine r_lsw (pc' := 46) 1 rfl rfl rfl (show _ = _ from h8) ?_
        refine r_iload (pc' := 47) rfl rfl rfl ?_
        refine r_if_ne0 (pc' := 50) rfl rfl (by decide) (by decide) ?_
        refine r_iload (pc' := 51) rfl rfl rfl ?_
        by_cases h9 : c = 0
        · refine r_if_eq1 (pc' := 66) rfl rfl (by omega) (by omega) ?_
          refine r_const (pc' := 67) rfl rfl ?_
          refine r_goto (pc' := 71) rfl rfl ?_
          refine q_zret rfl rfl rfl (by omega) ?_
          exact ⟨bi_t (by unfold btake; omega), rfl⟩
        · refine r_if_eq0 (pc' := 54) rfl rfl (by omega) (by omega) ?_
          refine r_iload (pc' := 55) rfl rfl rfl ?_
          refine r_const (pc' := 57) rfl rfl ?_
          by_cases h10 : c = 8
          · refine r_icmp_eq1 (pc' := 66) rfl rfl (by omega) (by omega) ?_
            refine r_const (pc' := 67) rfl rfl ?_
            refine r_goto (pc' := 71) rfl rfl ?_
            refine q_zret rfl rfl rfl (by omega) ?_
            exact ⟨bi_t (by unfold btake; omega), rfl⟩
          · refine r_icmp_eq0 (pc' := 60) rfl rfl (by omega) (by omega) ?_
            refine r_iload (pc' := 61) rfl rfl rfl ?_
            refine r_const (pc' := 63) rfl rfl ?_
            by_cases h11 : c = 20
            · refine r_icmp_ne0 (pc' := 66) rfl rfl (by omega) (by omega) ?_
              refine r_const (pc' := 67) rfl rfl ?_
              refine r_goto (pc' := 71) rfl rfl ?_
              refine q_zret rfl rfl rfl (by omega) ?_
              exact ⟨bi_t (by unfold btake; omega), rfl⟩
            · refine r_icmp_ne1 (pc' := 70) rfl rfl (by omega) (by omega) ?_
              refine r_const (pc' := 71) rfl rfl ?_
              refine q_zret rfl rfl rfl (by omega) ?_
              exact ⟨bi_f (by unfold btake; omega), rfl⟩
      refine r_lswd (pc' := 72) rfl rfl (by omega) (fun q hq => ?_) ?_
      · simp only [List.mem_cons, List.mem_nil_iff, or_false] at hq
        rcases hq with rfl | rfl <;> first | exact h7 | exact h8 | omega
      refine r_iload (pc' := 73) rfl rfl rfl ?_
      refine q_zret rfl rfl rfl (by omega) ?_
      exact ⟨bi_f (by unfold btake; omega), rfl⟩
theorem c_X3_hasField {f : Int} {S : rS} (hB : Bd S) (h_f : -2147483648 ≤ f ∧ f < 2147483648) : CS 1 145 [.inr (.inr 25), .inl f] S (fun r' S' => r' = some (.inl (bi (0 ≤ f ∧ f < S 25 0))) ∧ S' = S) := by
  refine RS.beg (ls := [some (.inr (.inr 25)), some (.inl f)]) rfl rfl rfl rfl rfl ?_
  refine r_iload (pc' := 1) rfl rfl rfl ?_
  by_cases h1 : f < 0
  · refine r_if_lt1 (pc' := 16) rfl rfl (by omega) (by omega) ?_
    refine r_const (pc' := 17) rfl rfl ?_
    refine q_zret rfl rfl rfl (by omega) ?_
    exact ⟨bi_f (by omega), rfl⟩
  · refine r_if_lt0 (pc' := 4) rfl rfl (by omega) (by omega) ?_
    refine r_iload (pc' := 5) rfl rfl rfl ?_
    refine r_aload (pc' := 6) rfl rfl rfl ?_
    refine r_getv (pc' := 9) (v := (S 25 0)) rfl rfl (Or.inl rfl) rfl rfl ?_
    have b2 : 0 ≤ S 25 0 ∧ S 25 0 ≤ 7 := hB 25 0
    by_cases h3 : f < (S 25 0)
    · refine r_icmp_ge0 (pc' := 12) rfl rfl (by omega) (by omega) ?_
      refine r_const (pc' := 13) rfl rfl ?_
      refine r_goto (pc' := 17) rfl rfl ?_
      refine q_zret rfl rfl rfl (by omega) ?_
      exact ⟨bi_t (by omega), rfl⟩
    · refine r_icmp_ge1 (pc' := 16) rfl rfl (by omega) (by omega) ?_
      refine r_const (pc' := 17) rfl rfl ?_
      refine q_zret rfl rfl rfl (by omega) ?_
      exact ⟨bi_f (by omega), rfl⟩
theorem c_X3_hasGate {g : Int} {S : rS} (hB : Bd S) (h_g : -2147483648 ≤ g ∧ g < 2147483648) : CS 1 146 [.inr (.inr 25), .inl g] S (fun r' S' => r' = some (.inl (bi (0 ≤ g ∧ g < S 25 6))) ∧ S' = S) := by
  refine RS.beg (ls := [some (.inr (.inr 25)), some (.inl g)]) rfl rfl rfl rfl rfl ?_
  refine r_iload (pc' := 1) rfl rfl rfl ?_
  by_cases h1 : g < 0
  · refine r_if_lt1 (pc' := 16) rfl rfl (by omega) (by omega) ?_
    refine r_const (pc' := 17) rfl rfl ?_
    refine q_zret rfl rfl rfl (by omega) ?_
    exact ⟨bi_f (by omega), rfl⟩
  · refine r_if_lt0 (pc' := 4) rfl rfl (by omega) (by omega) ?_
    refine r_iload (pc' := 5) rfl rfl rfl ?_
    refine r_aload (pc' := 6) rfl rfl rfl ?_
    refine r_getv (pc' := 9) (v := (S 25 6)) rfl rfl (Or.inl rfl) rfl rfl ?_
    have b2 : 0 ≤ S 25 6 ∧ S 25 6 ≤ 9 := hB 25 6
    by_cases h3 : g < (S 25 6)
    · refine r_icmp_ge0 (pc' := 12) rfl rfl (by omega) (by omega) ?_
      refine r_const (pc' := 13) rfl rfl ?_
      refine r_goto (pc' := 17) rfl rfl ?_
      refine q_zret rfl rfl rfl (by omega) ?_
      exact ⟨bi_t (by omega), rfl⟩
    · refine r_icmp_ge1 (pc' := 16) rfl rfl (by omega) (by omega) ?_
      refine r_const (pc' := 17) rfl rfl ?_
      refine q_zret rfl rfl rfl (by omega) ?_
      exact ⟨bi_f (by omega), rfl⟩
theorem c_X3_hasPlace {f : Int} {q : Int} {S : rS} (hB : Bd S) (h_f : -2147483648 ≤ f ∧ f < 2147483648) (h_q : -2147483648 ≤ q ∧ q < 2147483648) : CS 2 147 [.inr (.inr 25), .inl f, .inl q] S (fun r' S' => r' = some (.inl (bi ((0 ≤ f ∧ f < S 25 0) ∧ 0 ≤ q ∧ q < S 29 f))) ∧ S' = S) := by
  refine RS.beg (ls := [some (.inr (.inr 25)), some (.inl f), some (.inl q)]) rfl rfl rfl rfl rfl ?_
  refine r_aload (pc' := 1) rfl rfl rfl ?_
  refine r_iload (pc' := 2) rfl rfl rfl ?_
  have b1 : 0 ≤ S 25 0 ∧ S 25 0 ≤ 7 := hB 25 0
  by_cases h2 : 0 ≤ f ∧ f < S 25 0
  · skip
    refine q_callE (pc' := 5) (w := some (.inl 1)) (S2 := S) (st' := [.inl 1]) rfl rfl rfl (bi_pos h2 (c_X3_hasField (f := f) (S := S) hB (show -2147483648 ≤ f ∧ f < 2147483648 from by omega))) (by decide) rfl rfl (Nat.le_of_ble_eq_true rfl) (fun _ _ => ⟨_, _, rfl, rfl⟩) rfl rfl ?_
    refine r_if_eq0 (pc' := 8) rfl rfl (by decide) (by decide) ?_
    refine r_iload (pc' := 9) rfl rfl rfl ?_
    by_cases h3 : q < 0
    · refine r_if_lt1 (pc' := 26) rfl rfl (by omega) (by omega) ?_
      refine r_const (pc' := 27) rfl rfl ?_
      refine q_zret rfl rfl rfl (by omega) ?_
      exact ⟨bi_f (by omega), rfl⟩
    · refine r_if_lt0 (pc' := 12) rfl rfl (by omega) (by omega) ?_
      refine r_iload (pc' := 13) rfl rfl rfl ?_
      refine r_aload (pc' := 14) rfl rfl rfl ?_
      refine r_getr (pc' := 17) (v := 29) rfl rfl rfl rfl rfl ?_
      refine r_iload (pc' := 18) rfl rfl rfl ?_
      refine r_aldv (pc' := 19) (v := (S 29 f)) 7 rfl rfl rfl (by omega) rfl ?_
      have b4 : 0 ≤ S 29 f ∧ S 29 f ≤ 8 := hB 29 f
      by_cases h5 : q < (S 29 f)
      · refine r_icmp_ge0 (pc' := 22) rfl rfl (by omega) (by omega) ?_
        refine r_const (pc' := 23) rfl rfl ?_
        refine r_goto (pc' := 27) rfl rfl ?_
        refine q_zret rfl rfl rfl (by omega) ?_
        exact ⟨bi_t (by omega), rfl⟩
      · refine r_icmp_ge1 (pc' := 26) rfl rfl (by omega) (by omega) ?_
        refine r_const (pc' := 27) rfl rfl ?_
        refine q_zret rfl rfl rfl (by omega) ?_
        exact ⟨bi_f (by omega), rfl⟩
  · skip
    refine q_callE (pc' := 5) (w := some (.inl 0)) (S2 := S) (st' := [.inl 0]) rfl rfl rfl (bi_neg h2 (c_X3_hasField (f := f) (S := S) hB (show -2147483648 ≤ f ∧ f < 2147483648 from by omega))) (by decide) rfl rfl (Nat.le_of_ble_eq_true rfl) (fun _ _ => ⟨_, _, rfl, rfl⟩) rfl rfl ?_
    refine r_if_eq1 (pc' := 26) rfl rfl (by decide) (by decide) ?_
    refine r_const (pc' := 27) rfl rfl ?_
    refine q_zret rfl rfl rfl (by omega) ?_
    exact ⟨bi_f (by omega), rfl⟩
noncomputable def v_X3_otherSide (S : rS) (g : Int) (f : Int) : Int := if (S 38 g) = f then S 39 g else if (S 39 g) = f then S 38 g else (-1)
theorem c_X3_otherSide {g : Int} {f : Int} {S : rS} (hB : Bd S) (h_g : 0 ≤ g ∧ g < 9) (h_f : -2147483648 ≤ f ∧ f < 2147483648) : CS 1 151 [.inr (.inr 25), .inl g, .inl f] S (fun r' S' => r' = some (.inl (v_X3_otherSide S g f)) ∧ S' = S) := by
  refine RS.beg (ls := [some (.inr (.inr 25)), some (.inl g), some (.inl f)]) rfl rfl rfl rfl rfl ?_
  refine r_aload (pc' := 1) rfl rfl rfl ?_
  refine r_getr (pc' := 4) (v := 38) rfl rfl rfl rfl rfl ?_
  refine r_iload (pc' := 5) rfl rfl rfl ?_
  refine r_aldv (pc' := 6) (v := (S 38 g)) 9 rfl rfl rfl (by omega) rfl ?_
  have b1 : 0 ≤ S 38 g ∧ S 38 g ≤ 6 := hB 38 g
  refine r_iload (pc' := 7) rfl rfl rfl ?_
  by_cases h2 : (S 38 g) = f
  · refine r_icmp_ne0 (pc' := 10) rfl rfl (by omega) (by omega) ?_
    refine r_aload (pc' := 11) rfl rfl rfl ?_
    refine r_getr (pc' := 14) (v := 39) rfl rfl rfl rfl rfl ?_
    refine r_iload (pc' := 15) rfl rfl rfl ?_
    refine r_aldv (pc' := 16) (v := (S 39 g)) 9 rfl rfl rfl (by omega) rfl ?_
    have b3 : 0 ≤ S 39 g ∧ S 39 g ≤ 6 := hB 39 g
    refine q_iret rfl rfl rfl ?_
    exact ⟨by unfold v_X3_otherSide; rw [if_pos h2], rfl⟩
  · refine r_icmp_ne1 (pc' := 17) rfl rfl (by omega) (by omega) ?_
    refine r_aload (pc' := 18) rfl rfl rfl ?_
    refine r_getr (pc' := 21) (v := 39) rfl rfl rfl rfl rfl ?_
    refine r_iload (pc' := 22) rfl rfl rfl ?_
    refine r_aldv (pc' := 23) (v := (S 39 g)) 9 rfl rfl rfl (by omega) rfl ?_
    have b4 : 0 ≤ S 39 g ∧ S 39 g ≤ 6 := hB 39 g
    refine r_iload (pc' := 24) rfl rfl rfl ?_
    by_cases h5 : (S 39 g) = f
    · refine r_icmp_ne0 (pc' := 27) rfl rfl (by omega) (by omega) ?_
      refine r_aload (pc' := 28) rfl rfl rfl ?_
      refine r_getr (pc' := 31) (v := 38) rfl rfl rfl rfl rfl ?_
      refine r_iload (pc' := 32) rfl rfl rfl ?_
      refine r_aldv (pc' := 33) (v := (S 38 g)) 9 rfl rfl rfl (by omega) rfl ?_
      refine r_goto (pc' := 37) rfl rfl ?_
      refine q_iret rfl rfl rfl ?_
      exact ⟨by unfold v_X3_otherSide; rw [if_neg h2, if_pos h5], rfl⟩
    · refine r_icmp_ne1 (pc' := 36) rfl rfl (by omega) (by omega) ?_
      refine r_const (pc' := 37) rfl rfl ?_
      refine q_iret rfl rfl rfl ?_
      exact ⟨by unfold v_X3_otherSide; rw [if_neg h2, if_neg h5], rfl⟩
theorem c_X7_isRead {f : Int} {S : rS} (hB : Bd S) (h_f : 0 ≤ f ∧ f < 32) : CS 1 172 [.inr (.inr 59), .inl f] S (fun r' S' => r' = some (.inl (bi (tb (S 59 1) f))) ∧ S' = S) := by
  refine RS.beg (ls := [some (.inr (.inr 59)), some (.inl f)]) rfl rfl rfl rfl rfl ?_
  refine r_aload (pc' := 1) rfl rfl rfl ?_
  refine r_getv (pc' := 4) (v := (S 59 1)) rfl rfl (Or.inl rfl) rfl rfl ?_
  have b1 : 0 ≤ S 59 1 ∧ S 59 1 ≤ 127 := hB 59 1
  refine r_iload (pc' := 5) rfl rfl rfl ?_
  refine r_ishr (pc' := 6) rfl rfl ?_
  have b2 := mx_shr_r (S 59 1) f
  refine r_const (pc' := 7) rfl rfl ?_
  refine r_iand (pc' := 8) rfl rfl ?_
  have b3 := mx_and_r (mx_shr (S 59 1) f) 1
  refine r_const (pc' := 9) rfl rfl ?_
  by_cases h4 : tb (S 59 1) f
  · refine r_icmp_ne0 (pc' := 12) rfl rfl (by omega) ((b_tst (by omega)).mpr h4) ?_
    refine r_const (pc' := 13) rfl rfl ?_
    refine r_goto (pc' := 17) rfl rfl ?_
    refine q_zret rfl rfl rfl (by omega) ?_
    exact ⟨bi_t h4, rfl⟩
  · refine r_icmp_ne1 (pc' := 16) rfl rfl (by omega) (fun q => h4 ((b_tst (by omega)).mp q)) ?_
    refine r_const (pc' := 17) rfl rfl ?_
    refine q_zret rfl rfl rfl (by omega) ?_
    exact ⟨bi_f h4, rfl⟩
theorem c_X7_isLeft {f : Int} {q : Int} {S : rS} (hB : Bd S) (h_f : 0 ≤ f ∧ f < 7) (h_q : 0 ≤ q ∧ q < 32) : CS 1 171 [.inr (.inr 59), .inl f, .inl q] S (fun r' S' => r' = some (.inl (bi (tb (S 60 f) q))) ∧ S' = S) := by
  refine RS.beg (ls := [some (.inr (.inr 59)), some (.inl f), some (.inl q)]) rfl rfl rfl rfl rfl ?_
  refine r_aload (pc' := 1) rfl rfl rfl ?_
  refine r_getr (pc' := 4) (v := 60) rfl rfl rfl rfl rfl ?_
  refine r_iload (pc' := 5) rfl rfl rfl ?_
  refine r_aldv (pc' := 6) (v := (S 60 f)) 7 rfl rfl rfl (by omega) rfl ?_
  have b1 : 0 ≤ S 60 f ∧ S 60 f ≤ 255 := hB 60 f
  refine r_iload (pc' := 7) rfl rfl rfl ?_
  refine r_ishr (pc' := 8) rfl rfl ?_
  have b2 := mx_shr_r (S 60 f) q
  refine r_const (pc' := 9) rfl rfl ?_
  refine r_iand (pc' := 10) rfl rfl ?_
  have b3 := mx_and_r (mx_shr (S 60 f) q) 1
  refine r_const (pc' := 11) rfl rfl ?_
  by_cases h4 : tb (S 60 f) q
  · refine r_icmp_ne0 (pc' := 14) rfl rfl (by omega) ((b_tst (by omega)).mpr h4) ?_
    refine r_const (pc' := 15) rfl rfl ?_
    refine r_goto (pc' := 19) rfl rfl ?_
    refine q_zret rfl rfl rfl (by omega) ?_
    exact ⟨bi_t h4, rfl⟩
  · refine r_icmp_ne1 (pc' := 18) rfl rfl (by omega) (fun q => h4 ((b_tst (by omega)).mp q)) ?_
    refine r_const (pc' := 19) rfl rfl ?_
    refine q_zret rfl rfl rfl (by omega) ?_
    exact ⟨bi_f h4, rfl⟩
theorem c_X7_canBeRead {f : Int} {S : rS} (hB : Bd S) (h_f : 0 ≤ f ∧ f < 7) : CS 1 169 [.inr (.inr 59), .inr (.inr 25), .inl f] S (fun r' S' => r' = some (.inl (bi (S 26 f ≠ 1 ∨ S 59 5 < 5))) ∧ S' = S) := by
  refine RS.beg (ls := [some (.inr (.inr 59)), some (.inr (.inr 25)), some (.inl f)]) rfl rfl rfl rfl rfl ?_
  refine r_aload (pc' := 1) rfl rfl rfl ?_
  refine r_getr (pc' := 4) (v := 26) rfl rfl rfl rfl rfl ?_
  refine r_iload (pc' := 5) rfl rfl rfl ?_
  refine r_aldv (pc' := 6) (v := (S 26 f)) 7 rfl rfl rfl (by omega) rfl ?_
  have b1 : 0 ≤ S 26 f ∧ S 26 f ≤ 3 := hB 26 f
  refine r_const (pc' := 7) rfl rfl ?_
  by_cases h2 : (S 26 f) = 1
  · refine r_icmp_ne0 (pc' := 10) rfl rfl (by omega) (by omega) ?_
    refine r_aload (pc' := 11) rfl rfl rfl ?_
    refine r_getv (pc' := 14) (v := (S 59 5)) rfl rfl (Or.inl rfl) rfl rfl ?_
    have b3 : 0 ≤ S 59 5 ∧ S 59 5 ≤ 9 := hB 59 5
    refine r_const (pc' := 15) rfl rfl ?_
    by_cases h4 : (S 59 5) < 5
    · refine r_icmp_ge0 (pc' := 18) rfl rfl (by omega) (by omega) ?_
      refine r_const (pc' := 19) rfl rfl ?_
      refine r_goto (pc' := 23) rfl rfl ?_
      refine q_zret rfl rfl rfl (by omega) ?_
      exact ⟨bi_t (by omega), rfl⟩
    · refine r_icmp_ge1 (pc' := 22) rfl rfl (by omega) (by omega) ?_
      refine r_const (pc' := 23) rfl rfl ?_
      refine q_zret rfl rfl rfl (by omega) ?_
      exact ⟨bi_f (by omega), rfl⟩
  · refine r_icmp_ne1 (pc' := 18) rfl rfl (by omega) (by omega) ?_
    refine r_const (pc' := 19) rfl rfl ?_
    refine r_goto (pc' := 23) rfl rfl ?_
    refine q_zret rfl rfl rfl (by omega) ?_
    exact ⟨bi_t (by omega), rfl⟩
theorem c_X7_readingMinutes {f : Int} {S : rS} (hB : Bd S) (h_f : 0 ≤ f ∧ f < 7) : CS 2 174 [.inr (.inr 59), .inr (.inr 25), .inl f] S (fun r' S' => r' = some (.inl (mins (S 26 f) (pop (S 60 f)))) ∧ S' = S) := by
  refine RS.beg (ls := [some (.inr (.inr 59)), some (.inr (.inr 25)), some (.inl f)]) rfl rfl rfl rfl rfl ?_
  refine r_aload (pc' := 1) rfl rfl rfl ?_
  refine r_getr (pc' := 4) (v := 26) rfl rfl rfl rfl rfl ?_
  refine r_iload (pc' := 5) rfl rfl rfl ?_
  refine r_aldv (pc' := 6) (v := (S 26 f)) 7 rfl rfl rfl (by omega) rfl ?_
  have b1 : 0 ≤ S 26 f ∧ S 26 f ≤ 3 := hB 26 f
  refine r_aload (pc' := 7) rfl rfl rfl ?_
  refine r_getr (pc' := 10) (v := 60) rfl rfl rfl rfl rfl ?_
  refine r_iload (pc' := 11) rfl rfl rfl ?_
  refine r_aldv (pc' := 12) (v := (S 60 f)) 7 rfl rfl rfl (by omega) rfl ?_
  have b2 : 0 ≤ S 60 f ∧ S 60 f ≤ 255 := hB 60 f
  refine q_callE (pc' := 15) (w := some (.inl (pop (S 60 f)))) (S2 := S) (st' := [.inl (pop (S 60 f)), .inl (S 26 f)]) rfl rfl rfl (c_J6_bitCount_0f7a4 (a := (S 60 f)) (S := S)  (show 0 ≤ (S 60 f) ∧ (S 60 f) < 512 from by omega)) (by decide) rfl rfl (Nat.le_of_ble_eq_true rfl) (fun q => absurd rfl q) rfl rfl ?_
  have b3 : 0 ≤ (pop (S 60 f)) ∧ (pop (S 60 f)) ≤ 9 := pop_r _
  refine q_callE (pc' := 18) (w := some (.inl (mins (S 26 f) (pop (S 60 f))))) (S2 := S) (st' := [.inl (mins (S 26 f) (pop (S 60 f)))]) rfl rfl rfl (c_X1_minutes (k := (S 26 f)) (n := (pop (S 60 f))) (S := S)  (show -2147483648 ≤ (S 26 f) ∧ (S 26 f) < 2147483648 from by omega) (show 0 ≤ (pop (S 60 f)) ∧ (pop (S 60 f)) < 1000 from by omega)) (by decide) rfl rfl (Nat.le_of_ble_eq_true rfl) (fun q => absurd rfl q) rfl rfl ?_
  have b4 : 0 ≤ (mins (S 26 f) (pop (S 60 f))) ∧ (mins (S 26 f) (pop (S 60 f))) ≤ 4 * (pop (S 60 f)) + 2 := mins_r (by omega)
  refine q_iret rfl rfl rfl ?_
  exact ⟨by first | rfl | (congr 2; omega), rfl⟩
theorem c_X7_lettersLeft {S : rS} (hB : Bd S) : CS 2 173 [.inr (.inr 59), .inr (.inr 25)] S (fun r' S' => r' = some (.inl (sm (fun kk => pop (S 60 kk)) (S 25 0))) ∧ S' = S) := by
  refine RS.beg (ls := [some (.inr (.inr 59)), some (.inr (.inr 25)), none, none]) rfl rfl rfl rfl rfl ?_
  refine r_const (pc' := 1) rfl rfl ?_
  refine r_istore (pc' := 2) (ls' := [some (.inr (.inr 59)), some (.inr (.inr 25)), some (.inl 0), none]) rfl rfl rfl rfl ?_
  refine r_const (pc' := 3) rfl rfl ?_
  refine r_istore (pc' := 4) (ls' := [some (.inr (.inr 59)), some (.inr (.inr 25)), some (.inl 0), some (.inl 0)]) rfl rfl rfl rfl ?_
  refine r_while (α := Int × Int) (fun z' => [some (.inr (.inr 59)), some (.inr (.inr 25)), some (.inl z'.2), some (.inl z'.1)]) (fun z' => S) (fun z' => (0 ≤ z'.1 ∧ z'.1 ≤ S 25 0) ∧ (z'.2 = sm (fun kk => pop (S 60 kk)) z'.1)) (fun z' => (S 25 0 - z'.1).toNat) ?_ (0, 0) (show (0 ≤ (0 : Int) ∧ (0 : Int) ≤ S 25 0) ∧ ((0 : Int) = sm (fun kk => pop (S 60 kk)) (0 : Int)) from by exact ⟨by have := hB 25 0; have b : 0 ≤ S 25 0 ∧ S 25 0 ≤ 7 := hB 25 0; omega, rfl⟩)
  rintro ⟨f, s⟩ hI' ih4
  have hI' : (0 ≤ f ∧ f ≤ S 25 0) ∧ (s = sm (fun kk => pop (S 60 kk)) f) := hI'
  obtain ⟨i1, i2⟩ := hI'
  show RS _ _ _ _ [some (.inr (.inr 59)), some (.inr (.inr 25)), some (.inl s), some (.inl f)] [] S
  have b1 : 0 ≤ S 25 0 ∧ S 25 0 ≤ 7 := hB 25 0
  refine r_iload (pc' := 5) rfl rfl rfl ?_
  refine r_aload (pc' := 6) rfl rfl rfl ?_
  refine r_getv (pc' := 9) (v := (S 25 0)) rfl rfl (Or.inl rfl) rfl rfl ?_
  by_cases h2 : f < (S 25 0)
  · refine r_icmp_ge0 (pc' := 12) rfl rfl (by omega) (by omega) ?_
    refine r_iload (pc' := 13) rfl rfl rfl ?_
    refine r_aload (pc' := 14) rfl rfl rfl ?_
    refine r_getr (pc' := 17) (v := 60) rfl rfl rfl rfl rfl ?_
    refine r_iload (pc' := 18) rfl rfl rfl ?_
    refine r_aldv (pc' := 19) (v := (S 60 f)) 7 rfl rfl rfl (by omega) rfl ?_
    have b3 : 0 ≤ S 60 f ∧ S 60 f ≤ 255 := hB 60 f
    refine q_callE (pc' := 22) (w := some (.inl (pop (S 60 f)))) (S2 := S) (st' := [.inl (pop (S 60 f)), .inl s]) rfl rfl rfl (c_J6_bitCount_0f7a4 (a := (S 60 f)) (S := S)  (show 0 ≤ (S 60 f) ∧ (S 60 f) < 512 from by omega)) (by decide) rfl rfl (Nat.le_of_ble_eq_true rfl) (fun q => absurd rfl q) rfl rfl ?_
    have b4 : 0 ≤ (pop (S 60 f)) ∧ (pop (S 60 f)) ≤ 9 := pop_r _
    refine r_iadd (pc' := 23) rfl rfl ?_
    refine r_istore (pc' := 24) (ls' := [some (.inr (.inr 59)), some (.inr (.inr 25)), some (.inl (s + (pop (S 60 f)))), some (.inl f)]) rfl rfl rfl rfl ?_
    refine r_iinc (pc' := 27) (ls' := [some (.inr (.inr 59)), some (.inr (.inr 25)), some (.inl (s + (pop (S 60 f)))), some (.inl (f + 1))]) rfl rfl rfl rfl rfl ?_
    refine r_goto (pc' := 4) rfl rfl ?_
    exact ih4 ((f + 1), (s + (pop (S 60 f)))) (show (0 ≤ (f + 1) ∧ (f + 1) ≤ S 25 0) ∧ ((s + (pop (S 60 f))) = sm (fun kk => pop (S 60 kk)) (f + 1)) from by exact ⟨by omega, by rw [i2]; exact (sm_s (by omega)).symm⟩) (show (S 25 0 - (f + 1)).toNat < (S 25 0 - f).toNat from by omega)
  · refine r_icmp_ge1 (pc' := 30) rfl rfl (by omega) (by omega) ?_
    refine r_iload (pc' := 31) rfl rfl rfl ?_
    refine q_iret rfl rfl rfl ?_
    obtain rfl : f = S 25 0 := by omega
    exact ⟨by rw [i2], rfl⟩
theorem c_X10_isShelf {s : Int} {S : rS} (h_s : -2147483648 ≤ s ∧ s < 2147483648) : CS 1 31 [.inl s] S (fun r' S' => r' = some (.inl (bi (0 ≤ s ∧ s < 4))) ∧ S' = S) := by
  refine RS.beg (ls := [some (.inl s)]) rfl rfl rfl rfl rfl ?_
  refine r_iload (pc' := 1) rfl rfl rfl ?_
  by_cases h1 : s < 0
  · refine r_if_lt1 (pc' := 13) rfl rfl (by omega) (by omega) ?_
    refine r_const (pc' := 14) rfl rfl ?_
    refine q_zret rfl rfl rfl (by omega) ?_
    exact ⟨bi_f (by omega), rfl⟩
  · refine r_if_lt0 (pc' := 4) rfl rfl (by omega) (by omega) ?_
    refine r_iload (pc' := 5) rfl rfl rfl ?_
    refine r_const (pc' := 6) rfl rfl ?_
    by_cases h2 : s < 4
    · refine r_icmp_ge0 (pc' := 9) rfl rfl (by omega) (by omega) ?_
      refine r_const (pc' := 10) rfl rfl ?_
      refine r_goto (pc' := 14) rfl rfl ?_
      refine q_zret rfl rfl rfl (by omega) ?_
      exact ⟨bi_t (by omega), rfl⟩
    · refine r_icmp_ge1 (pc' := 13) rfl rfl (by omega) (by omega) ?_
      refine r_const (pc' := 14) rfl rfl ?_
      refine q_zret rfl rfl rfl (by omega) ?_
      exact ⟨bi_f (by omega), rfl⟩
theorem c_X10_isLane {s : Int} {S : rS} (h_s : -2147483648 ≤ s ∧ s < 2147483648) : CS 1 30 [.inl s] S (fun r' S' => r' = some (.inl (bi (0 ≤ s ∧ s < 3))) ∧ S' = S) := by
  refine RS.beg (ls := [some (.inl s)]) rfl rfl rfl rfl rfl ?_
  refine r_iload (pc' := 1) rfl rfl rfl ?_
  by_cases h1 : s < 0
  · refine r_if_lt1 (pc' := 13) rfl rfl (by omega) (by omega) ?_
    refine r_const (pc' := 14) rfl rfl ?_
    refine q_zret rfl rfl rfl (by omega) ?_
    exact ⟨bi_f (by omega), rfl⟩
  · refine r_if_lt0 (pc' := 4) rfl rfl (by omega) (by omega) ?_
    refine r_iload (pc' := 5) rfl rfl rfl ?_
    refine r_const (pc' := 6) rfl rfl ?_
    by_cases h2 : s < 3
    · refine r_icmp_ge0 (pc' := 9) rfl rfl (by omega) (by omega) ?_
      refine r_const (pc' := 10) rfl rfl ?_
      refine r_goto (pc' := 14) rfl rfl ?_
      refine q_zret rfl rfl rfl (by omega) ?_
      exact ⟨bi_t (by omega), rfl⟩
    · refine r_icmp_ge1 (pc' := 13) rfl rfl (by omega) (by omega) ?_
      refine r_const (pc' := 14) rfl rfl ?_
      refine q_zret rfl rfl rfl (by omega) ?_
      exact ⟨bi_f (by omega), rfl⟩
theorem c_X11_in {a : Int} {b : Int} {c : Int} {S : rS} (h_a : -2147483648 ≤ a ∧ a < 2147483648) (h_b : -2147483648 ≤ b ∧ b < 2147483648) (h_c : -2147483648 ≤ c ∧ c < 2147483648) : CS 1 86 [.inr (.inl a), .inr (.inl b), .inr (.inl c)] S (fun r' S' => r' = some (.inl (bi (b ≤ a ∧ a ≤ c))) ∧ S' = S) := by
  refine RS.beg (ls := [some (.inr (.inl a)), none, some (.inr (.inl b)), none, some (.inr (.inl c)), none]) rfl rfl rfl rfl rfl ?_
  refine r_lload (pc' := 1) rfl rfl rfl ?_
  refine r_lload (pc' := 2) rfl rfl rfl ?_
  refine r_lcmp (pc' := 3) rfl rfl (by omega) ?_
  have b1 := mx_cmp_b a b
  by_cases h2 : a < b
  · refine r_if_lt1 (pc' := 17) rfl rfl (by omega) (by omega) ?_
    refine r_const (pc' := 18) rfl rfl ?_
    refine q_zret rfl rfl rfl (by omega) ?_
    exact ⟨bi_f (by omega), rfl⟩
  · refine r_if_lt0 (pc' := 6) rfl rfl (by omega) (by omega) ?_
    refine r_lload (pc' := 7) rfl rfl rfl ?_
    refine r_lload (pc' := 9) rfl rfl rfl ?_
    refine r_lcmp (pc' := 10) rfl rfl (by omega) ?_
    have b3 := mx_cmp_b a c
    by_cases h4 : c < a
    · refine r_if_gt1 (pc' := 17) rfl rfl (by omega) (by omega) ?_
      refine r_const (pc' := 18) rfl rfl ?_
      refine q_zret rfl rfl rfl (by omega) ?_
      exact ⟨bi_f (by omega), rfl⟩
    · refine r_if_gt0 (pc' := 13) rfl rfl (by omega) (by omega) ?_
      refine r_const (pc' := 14) rfl rfl ?_
      refine r_goto (pc' := 18) rfl rfl ?_
      refine q_zret rfl rfl rfl (by omega) ?_
      exact ⟨bi_t (by omega), rfl⟩
theorem c_X11_has {s : Int} {q : Int} {S : rS} (h_s : -2147483648 ≤ s ∧ s < 2147483648) (h_q : 0 ≤ q ∧ q < 32) : CS 1 84 [.inl s, .inl q] S (fun r' S' => r' = some (.inl (bi (tb s q))) ∧ S' = S) := by
  refine RS.beg (ls := [some (.inl s), some (.inl q)]) rfl rfl rfl rfl rfl ?_
  refine r_iload (pc' := 1) rfl rfl rfl ?_
  refine r_iload (pc' := 2) rfl rfl rfl ?_
  refine r_ishr (pc' := 3) rfl rfl ?_
  have b1 := mx_shr_r s q
  refine r_const (pc' := 4) rfl rfl ?_
  refine r_iand (pc' := 5) rfl rfl ?_
  have b2 := mx_and_r (mx_shr s q) 1
  refine r_const (pc' := 6) rfl rfl ?_
  by_cases h3 : tb s q
  · refine r_icmp_ne0 (pc' := 9) rfl rfl (by omega) ((b_tst (by omega)).mpr h3) ?_
    refine r_const (pc' := 10) rfl rfl ?_
    refine r_goto (pc' := 14) rfl rfl ?_
    refine q_zret rfl rfl rfl (by omega) ?_
    exact ⟨bi_t h3, rfl⟩
  · refine r_icmp_ne1 (pc' := 13) rfl rfl (by omega) (fun q => h3 ((b_tst (by omega)).mp q)) ?_
    refine r_const (pc' := 14) rfl rfl ?_
    refine q_zret rfl rfl rfl (by omega) ?_
    exact ⟨bi_f h3, rfl⟩
theorem c_X11_lesser {a : Int} {b : Int} {S : rS} (h_a : -2147483648 ≤ a ∧ a < 2147483648) (h_b : -2147483648 ≤ b ∧ b < 2147483648) : CS 1 98 [.inl a, .inl b] S (fun r' S' => r' = some (.inl (mx_min b a)) ∧ S' = S) := by
  refine RS.beg (ls := [some (.inl a), some (.inl b)]) rfl rfl rfl rfl rfl ?_
  refine r_iload (pc' := 1) rfl rfl rfl ?_
  refine r_iload (pc' := 2) rfl rfl rfl ?_
  by_cases h1 : a < b
  · refine r_icmp_ge0 (pc' := 5) rfl rfl (by omega) (by omega) ?_
    refine r_iload (pc' := 6) rfl rfl rfl ?_
    refine r_goto (pc' := 10) rfl rfl ?_
    refine q_iret rfl rfl rfl ?_
    exact ⟨by unfold mx_min; rw [if_pos h1], rfl⟩
  · refine r_icmp_ge1 (pc' := 9) rfl rfl (by omega) (by omega) ?_
    refine r_iload (pc' := 10) rfl rfl rfl ?_
    refine q_iret rfl rfl rfl ?_
    exact ⟨by unfold mx_min; rw [if_neg h1], rfl⟩
theorem c_X11_isTwo {k : Int} {S : rS} (h_k : -2147483648 ≤ k ∧ k < 2147483648) : CS 2 92 [.inl k] S (fun r' S' => r' = some (.inl (bi (0 ≤ k ∧ k ≤ 1))) ∧ S' = S) := by
  refine RS.beg (ls := [some (.inl k)]) rfl rfl rfl rfl rfl ?_
  refine r_iload (pc' := 1) rfl rfl rfl ?_
  refine r_i2l (pc' := 2) rfl rfl (by omega) ?_
  refine r_lcon (pc' := 3) rfl rfl ?_
  refine r_lcon (pc' := 4) rfl rfl ?_
  by_cases h1 : (0 : Int) ≤ k ∧ k ≤ (1 : Int)
  · skip
    refine q_callE (pc' := 7) (w := some (.inl 1)) (S2 := S) (st' := [.inl 1]) rfl rfl rfl (bi_pos h1 (c_X11_in (a := k) (b := 0) (c := 1) (S := S)  (show -2147483648 ≤ k ∧ k < 2147483648 from by omega) (show -2147483648 ≤ (0 : Int) ∧ (0 : Int) < 2147483648 from by omega) (show -2147483648 ≤ (1 : Int) ∧ (1 : Int) < 2147483648 from by omega))) (by decide) rfl rfl (Nat.le_of_ble_eq_true rfl) (fun q => absurd rfl q) rfl rfl ?_
    refine q_zret rfl rfl rfl (by omega) ?_
    exact ⟨bi_t (by omega), rfl⟩
  · skip
    refine q_callE (pc' := 7) (w := some (.inl 0)) (S2 := S) (st' := [.inl 0]) rfl rfl rfl (bi_neg h1 (c_X11_in (a := k) (b := 0) (c := 1) (S := S)  (show -2147483648 ≤ k ∧ k < 2147483648 from by omega) (show -2147483648 ≤ (0 : Int) ∧ (0 : Int) < 2147483648 from by omega) (show -2147483648 ≤ (1 : Int) ∧ (1 : Int) < 2147483648 from by omega))) (by decide) rfl rfl (Nat.le_of_ble_eq_true rfl) (fun q => absurd rfl q) rfl rfl ?_
    refine q_zret rfl rfl rfl (by omega) ?_
    exact ⟨bi_f (by omega), rfl⟩
theorem c_X11_isShelf {k : Int} {S : rS} (h_k : -2147483648 ≤ k ∧ k < 2147483648) : CS 2 90 [.inl k] S (fun r' S' => r' = some (.inl (bi (0 ≤ k ∧ k ≤ 3))) ∧ S' = S) := by
  refine RS.beg (ls := [some (.inl k)]) rfl rfl rfl rfl rfl ?_
  refine r_iload (pc' := 1) rfl rfl rfl ?_
  refine r_i2l (pc' := 2) rfl rfl (by omega) ?_
  refine r_lcon (pc' := 3) rfl rfl ?_
  refine r_lcon (pc' := 6) rfl rfl ?_
  by_cases h1 : (0 : Int) ≤ k ∧ k ≤ (3 : Int)
  · skip
    refine q_callE (pc' := 9) (w := some (.inl 1)) (S2 := S) (st' := [.inl 1]) rfl rfl rfl (bi_pos h1 (c_X11_in (a := k) (b := 0) (c := 3) (S := S)  (show -2147483648 ≤ k ∧ k < 2147483648 from by omega) (show -2147483648 ≤ (0 : Int) ∧ (0 : Int) < 2147483648 from by omega) (show -2147483648 ≤ (3 : Int) ∧ (3 : Int) < 2147483648 from by omega))) (by decide) rfl rfl (Nat.le_of_ble_eq_true rfl) (fun q => absurd rfl q) rfl rfl ?_
    refine q_zret rfl rfl rfl (by omega) ?_
    exact ⟨bi_t (by omega), rfl⟩
  · skip
    refine q_callE (pc' := 9) (w := some (.inl 0)) (S2 := S) (st' := [.inl 0]) rfl rfl rfl (bi_neg h1 (c_X11_in (a := k) (b := 0) (c := 3) (S := S)  (show -2147483648 ≤ k ∧ k < 2147483648 from by omega) (show -2147483648 ≤ (0 : Int) ∧ (0 : Int) < 2147483648 from by omega) (show -2147483648 ≤ (3 : Int) ∧ (3 : Int) < 2147483648 from by omega))) (by decide) rfl rfl (Nat.le_of_ble_eq_true rfl) (fun q => absurd rfl q) rfl rfl ?_
    refine q_zret rfl rfl rfl (by omega) ?_
    exact ⟨bi_f (by omega), rfl⟩
theorem c_X11_isLane {k : Int} {S : rS} (h_k : -2147483648 ≤ k ∧ k < 2147483648) : CS 2 89 [.inl k] S (fun r' S' => r' = some (.inl (bi (0 ≤ k ∧ k ≤ 2))) ∧ S' = S) := by
  refine RS.beg (ls := [some (.inl k)]) rfl rfl rfl rfl rfl ?_
  refine r_iload (pc' := 1) rfl rfl rfl ?_
  refine r_i2l (pc' := 2) rfl rfl (by omega) ?_
  refine r_lcon (pc' := 3) rfl rfl ?_
  refine r_lcon (pc' := 6) rfl rfl ?_
  by_cases h1 : (0 : Int) ≤ k ∧ k ≤ (2 : Int)
  · skip
    refine q_callE (pc' := 9) (w := some (.inl 1)) (S2 := S) (st' := [.inl 1]) rfl rfl rfl (bi_pos h1 (c_X11_in (a := k) (b := 0) (c := 2) (S := S)  (show -2147483648 ≤ k ∧ k < 2147483648 from by omega) (show -2147483648 ≤ (0 : Int) ∧ (0 : Int) < 2147483648 from by omega) (show -2147483648 ≤ (2 : Int) ∧ (2 : Int) < 2147483648 from by omega))) (by decide) rfl rfl (Nat.le_of_ble_eq_true rfl) (fun q => absurd rfl q) rfl rfl ?_
    refine q_zret rfl rfl rfl (by omega) ?_
    exact ⟨bi_t (by omega), rfl⟩
  · skip
    refine q_callE (pc' := 9) (w := some (.inl 0)) (S2 := S) (st' := [.inl 0]) rfl rfl rfl (bi_neg h1 (c_X11_in (a := k) (b := 0) (c := 2) (S := S)  (show -2147483648 ≤ k ∧ k < 2147483648 from by omega) (show -2147483648 ≤ (0 : Int) ∧ (0 : Int) < 2147483648 from by omega) (show -2147483648 ≤ (2 : Int) ∧ (2 : Int) < 2147483648 from by omega))) (by decide) rfl rfl (Nat.le_of_ble_eq_true rfl) (fun q => absurd rfl q) rfl rfl ?_
    refine q_zret rfl rfl rfl (by omega) ?_
    exact ⟨bi_f (by omega), rfl⟩
theorem c_X11_isTale {k : Int} {S : rS} (h_k : -2147483648 ≤ k ∧ k < 2147483648) : CS 2 91 [.inl k] S (fun r' S' => r' = some (.inl (bi (0 ≤ k ∧ k ≤ 3))) ∧ S' = S) := by
  refine RS.beg (ls := [some (.inl k)]) rfl rfl rfl rfl rfl ?_
  refine r_iload (pc' := 1) rfl rfl rfl ?_
  refine r_i2l (pc' := 2) rfl rfl (by omega) ?_
  refine r_lcon (pc' := 3) rfl rfl ?_
  refine r_lcon (pc' := 6) rfl rfl ?_
  by_cases h1 : (0 : Int) ≤ k ∧ k ≤ (3 : Int)
  · skip
    refine q_callE (pc' := 9) (w := some (.inl 1)) (S2 := S) (st' := [.inl 1]) rfl rfl rfl (bi_pos h1 (c_X11_in (a := k) (b := 0) (c := 3) (S := S)  (show -2147483648 ≤ k ∧ k < 2147483648 from by omega) (show -2147483648 ≤ (0 : Int) ∧ (0 : Int) < 2147483648 from by omega) (show -2147483648 ≤ (3 : Int) ∧ (3 : Int) < 2147483648 from by omega))) (by decide) rfl rfl (Nat.le_of_ble_eq_true rfl) (fun q => absurd rfl q) rfl rfl ?_
    refine q_zret rfl rfl rfl (by omega) ?_
    exact ⟨bi_t (by omega), rfl⟩
  · skip
    refine q_callE (pc' := 9) (w := some (.inl 0)) (S2 := S) (st' := [.inl 0]) rfl rfl rfl (bi_neg h1 (c_X11_in (a := k) (b := 0) (c := 3) (S := S)  (show -2147483648 ≤ k ∧ k < 2147483648 from by omega) (show -2147483648 ≤ (0 : Int) ∧ (0 : Int) < 2147483648 from by omega) (show -2147483648 ≤ (3 : Int) ∧ (3 : Int) < 2147483648 from by omega))) (by decide) rfl rfl (Nat.le_of_ble_eq_true rfl) (fun q => absurd rfl q) rfl rfl ?_
    refine q_zret rfl rfl rfl (by omega) ?_
    exact ⟨bi_f (by omega), rfl⟩
theorem c_X11_isField {f : Int} {S : rS} (hB : Bd S) (h_f : -2147483648 ≤ f ∧ f < 2147483648) : CS 2 88 [.inr (.inr 232), .inl f] S (fun r' S' => r' = some (.inl (bi (0 ≤ f ∧ f ≤ S 233 0 - 1))) ∧ S' = S) := by
  refine RS.beg (ls := [some (.inr (.inr 232)), some (.inl f)]) rfl rfl rfl rfl rfl ?_
  refine r_iload (pc' := 1) rfl rfl rfl ?_
  refine r_i2l (pc' := 2) rfl rfl (by omega) ?_
  refine r_lcon (pc' := 3) rfl rfl ?_
  refine r_aload (pc' := 4) rfl rfl rfl ?_
  refine r_getr (pc' := 7) (v := 233) rfl rfl rfl rfl rfl ?_
  refine r_const (pc' := 8) rfl rfl ?_
  refine r_aldv (pc' := 9) (v := (S 233 0)) 187 rfl rfl rfl (by omega) rfl ?_
  have b1 : 0 ≤ S 233 0 ∧ S 233 0 ≤ 7 := hB 233 0
  refine r_const (pc' := 10) rfl rfl ?_
  refine r_isub (pc' := 11) rfl rfl ?_
  refine r_i2l (pc' := 12) rfl rfl (by omega) ?_
  by_cases h2 : (0 : Int) ≤ f ∧ f ≤ ((S 233 0) - 1)
  · skip
    refine q_callE (pc' := 15) (w := some (.inl 1)) (S2 := S) (st' := [.inl 1]) rfl rfl rfl (bi_pos h2 (c_X11_in (a := f) (b := 0) (c := ((S 233 0) - 1)) (S := S)  (show -2147483648 ≤ f ∧ f < 2147483648 from by omega) (show -2147483648 ≤ (0 : Int) ∧ (0 : Int) < 2147483648 from by omega) (show -2147483648 ≤ ((S 233 0) - 1) ∧ ((S 233 0) - 1) < 2147483648 from by omega))) (by decide) rfl rfl (Nat.le_of_ble_eq_true rfl) (fun q => absurd rfl q) rfl rfl ?_
    refine q_zret rfl rfl rfl (by omega) ?_
    exact ⟨bi_t (by omega), rfl⟩
  · skip
    refine q_callE (pc' := 15) (w := some (.inl 0)) (S2 := S) (st' := [.inl 0]) rfl rfl rfl (bi_neg h2 (c_X11_in (a := f) (b := 0) (c := ((S 233 0) - 1)) (S := S)  (show -2147483648 ≤ f ∧ f < 2147483648 from by omega) (show -2147483648 ≤ (0 : Int) ∧ (0 : Int) < 2147483648 from by omega) (show -2147483648 ≤ ((S 233 0) - 1) ∧ ((S 233 0) - 1) < 2147483648 from by omega))) (by decide) rfl rfl (Nat.le_of_ble_eq_true rfl) (fun q => absurd rfl q) rfl rfl ?_
    refine q_zret rfl rfl rfl (by omega) ?_
    exact ⟨bi_f (by omega), rfl⟩
theorem c_X11_minutesOf {k : Int} {n : Int} {S : rS} (h_k : -2147483648 ≤ k ∧ k < 2147483648) (h_n : 0 ≤ n ∧ n < 1000) : CS 1 105 [.inl k, .inl n] S (fun r' S' => r' = some (.inl (mins k n)) ∧ S' = S) := by
  refine RS.beg (ls := [some (.inl k), some (.inl n), none]) rfl rfl rfl rfl rfl ?_
  refine r_const (pc' := 1) rfl rfl ?_
  refine r_iload (pc' := 2) rfl rfl rfl ?_
  refine r_imul (pc' := 3) rfl rfl ?_
  refine r_const (pc' := 4) rfl rfl ?_
  refine r_iadd (pc' := 5) rfl rfl ?_
  refine r_istore (pc' := 6) (ls' := [some (.inl k), some (.inl n), some (.inl ((2 * n) + 1))]) rfl rfl rfl rfl ?_
  refine r_iload (pc' := 7) rfl rfl rfl ?_
  refine r_const (pc' := 8) rfl rfl ?_
  by_cases h1 : k = 2
  · refine r_icmp_ne0 (pc' := 11) rfl rfl (by omega) (by omega) ?_
    refine r_const (pc' := 12) rfl rfl ?_
    refine r_iload (pc' := 13) rfl rfl rfl ?_
    refine r_imul (pc' := 14) rfl rfl ?_
    refine r_goto (pc' := 27) rfl rfl ?_
    refine q_iret rfl rfl rfl ?_
    exact ⟨by unfold mins; rw [if_pos h1], rfl⟩
  · refine r_icmp_ne1 (pc' := 17) rfl rfl (by omega) (by omega) ?_
    refine r_iload (pc' := 18) rfl rfl rfl ?_
    refine r_const (pc' := 19) rfl rfl ?_
    by_cases h2 : k = 3
    · refine r_icmp_ne0 (pc' := 22) rfl rfl (by omega) (by omega) ?_
      refine r_iload (pc' := 23) rfl rfl rfl ?_
      refine r_goto (pc' := 27) rfl rfl ?_
      refine q_iret rfl rfl rfl ?_
      exact ⟨by unfold mins; rw [if_neg h1, if_pos h2], rfl⟩
    · refine r_icmp_ne1 (pc' := 26) rfl rfl (by omega) (by omega) ?_
      refine r_iload (pc' := 27) rfl rfl rfl ?_
      refine q_iret rfl rfl rfl ?_
      exact ⟨by unfold mins; rw [if_neg h1, if_neg h2], rfl⟩
theorem c_X11_mayRead {f : Int} {S : rS} (hB : Bd S) (h_f : 0 ≤ f ∧ f < 7) : CS 1 102 [.inr (.inr 232), .inl f] S (fun r' S' => r' = some (.inl (bi (S 233 (1 + f) ≠ 1 ∨ S 236 10 < 5))) ∧ S' = S) := by
  refine RS.beg (ls := [some (.inr (.inr 232)), some (.inl f)]) rfl rfl rfl rfl rfl ?_
  refine r_aload (pc' := 1) rfl rfl rfl ?_
  refine r_getr (pc' := 4) (v := 233) rfl rfl rfl rfl rfl ?_
  refine r_const (pc' := 5) rfl rfl ?_
  refine r_iload (pc' := 6) rfl rfl rfl ?_
  refine r_iadd (pc' := 7) rfl rfl ?_
  refine r_aldv (pc' := 8) (v := (S 233 (1 + f))) 187 rfl rfl rfl (by omega) rfl ?_
  have b1 := bdc_233_1 hB f
  refine r_const (pc' := 9) rfl rfl ?_
  by_cases h2 : (S 233 (1 + f)) = 1
  · refine r_icmp_ne0 (pc' := 12) rfl rfl (by omega) (by omega) ?_
    refine r_aload (pc' := 13) rfl rfl rfl ?_
    refine r_getr (pc' := 16) (v := 236) rfl rfl rfl rfl rfl ?_
    refine r_const (pc' := 18) rfl rfl ?_
    refine r_aldv (pc' := 19) (v := (S 236 10)) 12 rfl rfl rfl (by omega) rfl ?_
    have b3 : 0 ≤ S 236 10 ∧ S 236 10 ≤ 9 := hB 236 10
    refine r_const (pc' := 20) rfl rfl ?_
    by_cases h4 : (S 236 10) < 5
    · refine r_icmp_ge0 (pc' := 23) rfl rfl (by omega) (by omega) ?_
      refine r_const (pc' := 24) rfl rfl ?_
      refine r_goto (pc' := 28) rfl rfl ?_
      refine q_zret rfl rfl rfl (by omega) ?_
      exact ⟨bi_t (by omega), rfl⟩
    · refine r_icmp_ge1 (pc' := 27) rfl rfl (by omega) (by omega) ?_
      refine r_const (pc' := 28) rfl rfl ?_
      refine q_zret rfl rfl rfl (by omega) ?_
      exact ⟨bi_f (by omega), rfl⟩
  · refine r_icmp_ne1 (pc' := 23) rfl rfl (by omega) (by omega) ?_
    refine r_const (pc' := 24) rfl rfl ?_
    refine r_goto (pc' := 28) rfl rfl ?_
    refine q_zret rfl rfl rfl (by omega) ?_
    exact ⟨bi_t (by omega), rfl⟩
theorem c_X11_birdsTake {k : Int} {c : Int} {S : rS} (h_k : -2147483648 ≤ k ∧ k < 2147483648) (h_c : -2147483648 ≤ c ∧ c < 2147483648) : CS 1 63 [.inl k, .inl c] S (fun r' S' => r' = some (.inl (bi (btake k c))) ∧ S' = S) := by
  refine RS.beg (ls := [some (.inl k), some (.inl c), none]) rfl rfl rfl rfl rfl ?_
  refine r_iload (pc' := 1) rfl rfl rfl ?_
  refine r_const (pc' := 2) rfl rfl ?_
  by_cases h1 : c = 4
  · refine r_icmp_eq1 (pc' := 11) rfl rfl (by omega) (by omega) ?_
    refine r_const (pc' := 12) rfl rfl ?_
    refine r_goto (pc' := 16) rfl rfl ?_
    refine r_istore (pc' := 17) (ls' := [some (.inl k), some (.inl c), some (.inl 1)]) rfl rfl rfl rfl ?_
    refine r_iload (pc' := 18) rfl rfl rfl ?_
    refine r_const (pc' := 19) rfl rfl ?_
    by_cases h2 : k = 3
    · refine r_icmp_ne0 (pc' := 22) rfl rfl (by omega) (by omega) ?_
      refine r_iload (pc' := 23) rfl rfl rfl ?_
      refine r_if_ne1 (pc' := 42) rfl rfl (by decide) (by decide) ?_
      refine r_const (pc' := 43) rfl rfl ?_
      refine r_goto (pc' := 64) rfl rfl ?_
      refine q_zret rfl rfl rfl (by omega) ?_
      exact ⟨bi_t (by unfold btake; omega), rfl⟩
    · refine r_icmp_ne1 (pc' := 50) rfl rfl (by omega) (by omega) ?_
      refine r_iload (pc' := 51) rfl rfl rfl ?_
      refine r_const (pc' := 52) rfl rfl ?_
      by_cases h3 : k = 2
      · refine r_icmp_eq1 (pc' := 63) rfl rfl (by omega) (by omega) ?_
        refine r_const (pc' := 64) rfl rfl ?_
        refine q_zret rfl rfl rfl (by omega) ?_
        exact ⟨bi_f (by unfold btake; omega), rfl⟩
      · refine r_icmp_eq0 (pc' := 55) rfl rfl (by omega) (by omega) ?_
        refine r_iload (pc' := 56) rfl rfl rfl ?_
        refine r_if_eq0 (pc' := 59) rfl rfl (by decide) (by decide) ?_
        refine r_const (pc' := 60) rfl rfl ?_
        refine r_goto (pc' := 64) rfl rfl ?_
        refine q_zret rfl rfl rfl (by omega) ?_
        exact ⟨bi_t (by unfold btake; omega), rfl⟩
  · refine r_icmp_eq0 (pc' := 5) rfl rfl (by omega) (by omega) ?_
    refine r_iload (pc' := 6) rfl rfl rfl ?_
    refine r_const (pc' := 8) rfl rfl ?_
    by_cases h4 : c = 14
    · refine r_icmp_ne0 (pc' := 11) rfl rfl (by omega) (by omega) ?_
      refine r_const (pc' := 12) rfl rfl ?_
      refine r_goto (pc' := 16) rfl rfl ?_
      refine r_istore (pc' := 17) (ls' := [some (.inl k), some (.inl c), some (.inl 1)]) rfl rfl rfl rfl ?_
      refine r_iload (pc' := 18) rfl rfl rfl ?_
      refine r_const (pc' := 19) rfl rfl ?_
      by_cases h5 : k = 3
      · refine r_icmp_ne0 (pc' := 22) rfl rfl (by omega) (by omega) ?_
        refine r_iload (pc' := 23) rfl rfl rfl ?_
        refine r_if_ne1 (pc' := 42) rfl rfl (by decide) (by decide) ?_
        refine r_const (pc' := 43) rfl rfl ?_
        refine r_goto (pc' := 64) rfl rfl ?_
        refine q_zret rfl rfl rfl (by omega) ?_
        exact ⟨bi_t (by unfold btake; omega), rfl⟩
      · refine r_icmp_ne1 (pc' := 50) rfl rfl (by omega) (by omega) ?_
        refine r_iload (pc' := 51) rfl rfl rfl ?_
        refine r_const (pc' := 52) rfl rfl ?_
        by_cases h6 : k = 2
        · refine r_icmp_eq1 (pc' := 63) rfl rfl (by omega) (by omega) ?_
          refine r_const (pc' := 64) rfl rfl ?_
          refine q_zret rfl rfl rfl (by omega) ?_
          exact ⟨bi_f (by unfold btake; omega), rfl⟩
        · refine r_icmp_eq0 (pc' := 55) rfl rfl (by omega) (by omega) ?_
          refine r_iload (pc' := 56) rfl rfl rfl ?_
          refine r_if_eq0 (pc' := 59) rfl rfl (by decide) (by decide) ?_
          refine r_const (pc' := 60) rfl rfl ?_
          refine r_goto (pc' := 64) rfl rfl ?_
          refine q_zret rfl rfl rfl (by omega) ?_
          exact ⟨bi_t (by unfold btake; omega), rfl⟩
    · refine r_icmp_ne1 (pc' := 15) rfl rfl (by omega) (by omega) ?_
      refine r_const (pc' := 16) rfl rfl ?_
      refine r_istore (pc' := 17) (ls' := [some (.inl k), some (.inl c), some (.inl 0)]) rfl rfl rfl rfl ?_
      refine r_iload (pc' := 18) rfl rfl rfl ?_
      refine r_const (pc' := 19) rfl rfl ?_
      by_cases h7 : k = 3
      · refine r_icmp_ne0 (pc' := 22) rfl rfl (by omega) (by omega) ?_
        refine r_iload (pc' := 23) rfl rfl rfl ?_
        refine r_if_ne0 (pc' := 26) rfl rfl (by decide) (by decide) ?_
        refine r_iload (pc' := 27) rfl rfl rfl ?_
        by_cases h8 : c = 0
        · refine r_if_eq1 (pc' := 42) rfl rfl (by omega) (by omega) ?_
          refine r_const (pc' := 43) rfl rfl ?_
          refine r_goto (pc' := 64) rfl rfl ?_
          refine q_zret rfl rfl rfl (by omega) ?_
          exact ⟨bi_t (by unfold btake; omega), rfl⟩
        · refine r_if_eq0 (pc' := 30) rfl rfl (by omega) (by omega) ?_
          refine r_iload (pc' := 31) rfl rfl rfl ?_
          refine r_const (pc' := 33) rfl rfl ?_
          by_cases h9 : c = 8
          · refine r_icmp_eq1 (pc' := 42) rfl rfl (by omega) (by omega) ?_
            refine r_const (pc' := 43) rfl rfl ?_
            refine r_goto (pc' := 64) rfl rfl ?_
            refine q_zret rfl rfl rfl (by omega) ?_
            exact ⟨bi_t (by unfold btake; omega), rfl⟩
          · refine r_icmp_eq0 (pc' := 36) rfl rfl (by omega) (by omega) ?_
            refine r_iload (pc' := 37) rfl rfl rfl ?_
            refine r_const (pc' := 39) rfl rfl ?_
            by_cases h10 : c = 20
            · refine r_icmp_ne0 (pc' := 42) rfl rfl (by omega) (by omega) ?_
              refine r_const (pc' := 43) rfl rfl ?_
              refine r_goto (pc' := 64) rfl rfl ?_
              refine q_zret rfl rfl rfl (by omega) ?_
              exact ⟨bi_t (by unfold btake; omega), rfl⟩
            · refine r_icmp_ne1 (pc' := 46) rfl rfl (by omega) (by omega) ?_
              refine r_const (pc' := 47) rfl rfl ?_
              refine r_goto (pc' := 64) rfl rfl ?_
              refine q_zret rfl rfl rfl (by omega) ?_
              exact ⟨bi_f (by unfold btake; omega), rfl⟩
      · refine r_icmp_ne1 (pc' := 50) rfl rfl (by omega) (by omega) ?_
        refine r_iload (pc' := 51) rfl rfl rfl ?_
        refine r_const (pc' := 52) rfl rfl ?_
        by_cases h11 : k = 2
        · refine r_icmp_eq1 (pc' := 63) rfl rfl (by omega) (by omega) ?_
          refine r_const (pc' := 64) rfl rfl ?_
          refine q_zret rfl rfl rfl (by omega) ?_
          exact ⟨bi_f (by unfold btake; omega), rfl⟩
        · refine r_icmp_eq0 (pc' := 55) rfl rfl (by omega) (by omega) ?_
          refine r_iload (pc' := 56) rfl rfl rfl ?_
          refine r_if_eq1 (pc' := 63) rfl rfl (by decide) (by decide) ?_
          refine r_const (pc' := 64) rfl rfl ?_
          refine q_zret rfl rfl rfl (by omega) ?_
          exact ⟨bi_f (by unfold btake; omega), rfl⟩
noncomputable def v_X11_here (S : rS) : Int := if (S 232 15) < (S 232 9) then S 240 (S 232 15) else (-1)
theorem c_X11_here {S : rS} (hB : Bd S) : CS 1 85 [.inr (.inr 232)] S (fun r' S' => r' = some (.inl (v_X11_here S )) ∧ S' = S) := by
  refine RS.beg (ls := [some (.inr (.inr 232))]) rfl rfl rfl rfl rfl ?_
  refine r_aload (pc' := 1) rfl rfl rfl ?_
  refine r_getv (pc' := 4) (v := (S 232 15)) rfl rfl (Or.inl rfl) rfl rfl ?_
  have b1 : 0 ≤ S 232 15 ∧ S 232 15 ≤ 200 := hB 232 15
  refine r_aload (pc' := 5) rfl rfl rfl ?_
  refine r_getv (pc' := 8) (v := (S 232 9)) rfl rfl (Or.inl rfl) rfl rfl ?_
  have b2 : 0 ≤ S 232 9 ∧ S 232 9 ≤ 200 := hB 232 9
  by_cases h3 : (S 232 15) < (S 232 9)
  · refine r_icmp_ge0 (pc' := 11) rfl rfl (by omega) (by omega) ?_
    refine r_aload (pc' := 12) rfl rfl rfl ?_
    refine r_getr (pc' := 15) (v := 240) rfl rfl rfl rfl rfl ?_
    refine r_aload (pc' := 16) rfl rfl rfl ?_
    refine r_getv (pc' := 19) (v := (S 232 15)) rfl rfl (Or.inl rfl) rfl rfl ?_
    refine r_aldv (pc' := 20) (v := (S 240 (S 232 15))) 200 rfl rfl rfl (by omega) rfl ?_
    have b4 : 0 ≤ S 240 (S 232 15) ∧ S 240 (S 232 15) ≤ 255 := hB 240 (S 232 15)
    refine r_goto (pc' := 24) rfl rfl ?_
    refine q_iret rfl rfl rfl ?_
    exact ⟨by unfold v_X11_here; rw [if_pos h3], rfl⟩
  · refine r_icmp_ge1 (pc' := 23) rfl rfl (by omega) (by omega) ?_
    refine r_const (pc' := 24) rfl rfl ?_
    refine q_iret rfl rfl rfl ?_
    exact ⟨by unfold v_X11_here; rw [if_neg h3], rfl⟩
theorem c_X11_bits {a : Int} {S : rS} (h_a : 0 ≤ a ∧ a < 512) : CS 1 64 [.inl a] S (fun r' S' => r' = some (.inl (pop a)) ∧ S' = S) := by
  refine RS.beg (ls := [some (.inl a), none, none]) rfl rfl rfl rfl rfl ?_
  refine r_const (pc' := 1) rfl rfl ?_
  refine r_istore (pc' := 2) (ls' := [some (.inl a), some (.inl 0), none]) rfl rfl rfl rfl ?_
  refine r_iload (pc' := 3) rfl rfl rfl ?_
  refine r_istore (pc' := 4) (ls' := [some (.inl a), some (.inl 0), some (.inl a)]) rfl rfl rfl rfl ?_
  refine r_while (α := Int × Int) (fun z' => [some (.inl a), some (.inl z'.1), some (.inl z'.2)]) (fun z' => S) (fun z' => (0 ≤ z'.2 ∧ z'.2 < 512) ∧ (z'.1 + pop z'.2 = pop a)) (fun z' => (pop z'.2).toNat) ?_ (0, a) (show (0 ≤ a ∧ a < 512) ∧ ((0 : Int) + pop a = pop a) from by exact ⟨h_a, by omega⟩)
  rintro ⟨n, l⟩ hI' ih4
  have hI' : (0 ≤ l ∧ l < 512) ∧ (n + pop l = pop a) := hI'
  obtain ⟨i1, i2⟩ := hI'
  show RS _ _ _ _ [some (.inl a), some (.inl n), some (.inl l)] [] S
  refine r_iload (pc' := 5) rfl rfl rfl ?_
  by_cases h1 : l = 0
  · refine r_if_eq1 (pc' := 20) rfl rfl (by omega) (by omega) ?_
    refine r_iload (pc' := 21) rfl rfl rfl ?_
    refine q_iret rfl rfl rfl ?_
    obtain rfl : l = 0 := by omega
    rw [pop_0] at i2
    exact ⟨by rw [show n = pop a by omega], rfl⟩
  · refine r_if_eq0 (pc' := 8) rfl rfl (by omega) (by omega) ?_
    refine r_iinc (pc' := 11) (ls' := [some (.inl a), some (.inl (n + 1)), some (.inl l)]) rfl rfl rfl rfl rfl ?_
    refine r_iload (pc' := 12) rfl rfl rfl ?_
    refine r_iload (pc' := 13) rfl rfl rfl ?_
    refine r_const (pc' := 14) rfl rfl ?_
    refine r_isub (pc' := 15) rfl rfl ?_
    refine r_iand (pc' := 16) rfl rfl ?_
    have b2 := mx_and_r l (l - 1)
    refine r_istore (pc' := 17) (ls' := [some (.inl a), some (.inl (n + 1)), some (.inl (mx_and l (l - 1)))]) rfl rfl rfl rfl ?_
    refine r_goto (pc' := 4) rfl rfl ?_
    exact ih4 ((n + 1), (mx_and l (l - 1))) (show (0 ≤ (mx_and l (l - 1)) ∧ (mx_and l (l - 1)) < 512) ∧ ((n + 1) + pop (mx_and l (l - 1)) = pop a) from by have q := pop_p i1 (by omega); exact ⟨q.1, by omega⟩) (show (pop (mx_and l (l - 1))).toNat < (pop l).toNat from by have q := pop_p i1 (by omega); have q2 := pop_r (mx_and l (l - 1)); omega)
