def v_X1_minutes (S : rS) (k : Int) (n : Int) : Int := if k = 2 then 2 * ((2 * n) + 1) else if k = 3 then n else (2 * n) + 1
theorem c_X1_minutes {k : Int} {n : Int} {S : rS} (h_k : -2147483648 ≤ k ∧ k < 2147483648) (h_n : 0 ≤ n ∧ n < 1000) : CS 1 136 [.inl k, .inl n] S (fun v S' => v = some (.inl (v_X1_minutes S k n)) ∧ S' = S) := by
  refine RS.beg (ls := [some (.inl k), some (.inl n), none]) rfl rfl rfl rfl rfl ?_
  refine r_const rfl rfl ?_
  refine r_iload rfl rfl rfl ?_
  refine r_imul rfl rfl ?_
  refine r_const rfl rfl ?_
  refine r_iadd rfl rfl ?_
  refine r_istore (ls' := [some (.inl k), some (.inl n), some (.inl ((2 * n) + 1))]) rfl rfl rfl rfl ?_
  refine r_iload rfl rfl rfl ?_
  by_cases h1 : k = 2
  · refine r_lsw 0 rfl rfl rfl (show _ = _ from h1) ?_
    refine r_const rfl rfl ?_
    refine r_iload rfl rfl rfl ?_
    refine r_imul rfl rfl ?_
    refine q_iret rfl rfl rfl ?_
    exact ⟨by unfold v_X1_minutes; rw [if_pos h1], rfl⟩
  by_cases h2 : k = 3
  · refine r_lsw 1 rfl rfl rfl (show _ = _ from h2) ?_
    refine r_iload rfl rfl rfl ?_
    refine q_iret rfl rfl rfl ?_
    exact ⟨by unfold v_X1_minutes; rw [if_neg h1, if_pos h2], rfl⟩
  refine r_lswd rfl rfl (by omega) (fun q hq => ?_) ?_
  · simp only [List.mem_cons, List.mem_nil_iff, or_false] at hq
    rcases hq with rfl | rfl <;> first | exact h1 | exact h2 | omega
  refine r_iload rfl rfl rfl ?_
  refine q_iret rfl rfl rfl ?_
  exact ⟨by unfold v_X1_minutes; rw [if_neg h1, if_neg h2], rfl⟩
theorem c_X1_isUnder {k : Int} {o : Int} {S : rS} (h_k : -2147483648 ≤ k ∧ k < 2147483648) (h_o : -2147483648 ≤ o ∧ o < 2147483648) : CS 1 134 [.inl k, .inl o] S (fun v S' => v = some (.inl (if o = 0 ∨ (o = 1 ∧ k ≠ 3) ∨ (o ≠ 0 ∧ o ≠ 1 ∧ k = o - 1) then 1 else 0)) ∧ S' = S) := by
  refine RS.beg (ls := [some (.inl k), some (.inl o)]) rfl rfl rfl rfl rfl ?_
  refine r_iload rfl rfl rfl ?_
  by_cases h1 : o = 0
  · refine r_lsw 0 rfl rfl rfl (show _ = _ from h1) ?_
    refine r_const rfl rfl ?_
    refine q_zret rfl rfl rfl (by omega) ?_
    exact ⟨by rw [if_pos (by omega)], rfl⟩
  by_cases h2 : o = 1
  · refine r_lsw 1 rfl rfl rfl (show _ = _ from h2) ?_
    refine r_iload rfl rfl rfl ?_
    refine r_const rfl rfl ?_
    by_cases h3 : k = 3
    · refine r_icmp_eq1 rfl rfl (by omega) (by omega) ?_
      refine r_const rfl rfl ?_
      refine q_zret rfl rfl rfl (by omega) ?_
      exact ⟨by rw [if_neg (by omega)], rfl⟩
    · refine r_icmp_eq0 rfl rfl (by omega) (by omega) ?_
      refine r_const rfl rfl ?_
      refine r_goto rfl rfl ?_
      refine q_zret rfl rfl rfl (by omega) ?_
      exact ⟨by rw [if_pos (by omega)], rfl⟩
  refine r_lswd rfl rfl (by omega) (fun q hq => ?_) ?_
  · simp only [List.mem_cons, List.mem_nil_iff, or_false] at hq
    rcases hq with rfl | rfl <;> first | exact h1 | exact h2 | omega
  refine r_iload rfl rfl rfl ?_
  refine r_iload rfl rfl rfl ?_
  refine r_const rfl rfl ?_
  refine r_isub rfl rfl ?_
  by_cases h4 : k = (o - 1)
  · refine r_icmp_ne0 rfl rfl (by omega) (by omega) ?_
    refine r_const rfl rfl ?_
    refine r_goto rfl rfl ?_
    refine q_zret rfl rfl rfl (by omega) ?_
    exact ⟨by rw [if_pos (by omega)], rfl⟩
  · refine r_icmp_ne1 rfl rfl (by omega) (by omega) ?_
    refine r_const rfl rfl ?_
    refine q_zret rfl rfl rfl (by omega) ?_
    exact ⟨by rw [if_neg (by omega)], rfl⟩
theorem c_X1_birdsTake {k : Int} {c : Int} {S : rS} (h_k : -2147483648 ≤ k ∧ k < 2147483648) (h_c : -2147483648 ≤ c ∧ c < 2147483648) : CS 1 133 [.inl k, .inl c] S (fun v S' => v = some (.inl (if (k ≠ 2 ∧ (c = 4 ∨ c = 14)) ∨ (k = 3 ∧ (c = 0 ∨ c = 8 ∨ c = 20)) then 1 else 0)) ∧ S' = S) := by
  refine RS.beg (ls := [some (.inl k), some (.inl c), none]) rfl rfl rfl rfl rfl ?_
  refine r_iload rfl rfl rfl ?_
  refine r_const rfl rfl ?_
  by_cases h1 : c = 4
  · refine r_icmp_eq1 rfl rfl (by omega) (by omega) ?_
    refine r_const rfl rfl ?_
    refine r_goto rfl rfl ?_
    refine r_istore (ls' := [some (.inl k), some (.inl c), some (.inl 1)]) rfl rfl rfl rfl ?_
    refine r_iload rfl rfl rfl ?_
    by_cases h2 : k = 2
    · refine r_lsw 0 rfl rfl rfl (show _ = _ from h2) ?_
      refine r_const rfl rfl ?_
      refine q_zret rfl rfl rfl (by omega) ?_
      exact ⟨by rw [if_neg (by omega)], rfl⟩
    by_cases h3 : k = 3
    · refine r_lsw 1 rfl rfl rfl (show _ = _ from h3) ?_
      refine r_iload rfl rfl rfl ?_
      refine r_if_ne1 rfl rfl (by decide) (by decide) ?_
      refine r_const rfl rfl ?_
      refine r_goto rfl rfl ?_
      refine q_zret rfl rfl rfl (by omega) ?_
      exact ⟨by rw [if_pos (by omega)], rfl⟩
    refine r_lswd rfl rfl (by omega) (fun q hq => ?_) ?_
    · simp only [List.mem_cons, List.mem_nil_iff, or_false] at hq
      rcases hq with rfl | rfl <;> first | exact h2 | exact h3 | omega
    refine r_iload rfl rfl rfl ?_
    refine q_zret rfl rfl rfl (by omega) ?_
    exact ⟨by rw [if_pos (by omega)], rfl⟩
  · refine r_icmp_eq0 rfl rfl (by omega) (by omega) ?_
    refine r_iload rfl rfl rfl ?_
    refine r_const rfl rfl ?_
    by_cases h4 : c = 14
    · refine r_icmp_ne0 rfl rfl (by omega) (by omega) ?_
      refine r_const rfl rfl ?_
      refine r_goto rfl rfl ?_
      refine r_istore (ls' := [some (.inl k), some (.inl c), some (.inl 1)]) rfl rfl rfl rfl ?_
      refine r_iload rfl rfl rfl ?_
      by_cases h5 : k = 2
      · refine r_lsw 0 rfl rfl rfl (show _ = _ from h5) ?_
        refine r_const rfl rfl ?_
        refine q_zret rfl rfl rfl (by omega) ?_
        exact ⟨by rw [if_neg (by omega)], rfl⟩
      by_cases h6 : k = 3
      · refine r_lsw 1 rfl rfl rfl (show _ = _ from h6) ?_
        refine r_iload rfl rfl rfl ?_
        refine r_if_ne1 rfl rfl (by decide) (by decide) ?_
        refine r_const rfl rfl ?_
        refine r_goto rfl rfl ?_
        refine q_zret rfl rfl rfl (by omega) ?_
        exact ⟨by rw [if_pos (by omega)], rfl⟩
      refine r_lswd rfl rfl (by omega) (fun q hq => ?_) ?_
      · simp only [List.mem_cons, List.mem_nil_iff, or_false] at hq
        rcases hq with rfl | rfl <;> first | exact h5 | exact h6 | omega
      refine r_iload rfl rfl rfl ?_
      refine q_zret rfl rfl rfl (by omega) ?_
      exact ⟨by rw [if_pos (by omega)], rfl⟩
    · refine r_icmp_ne1 rfl rfl (by omega) (by omega) ?_
      refine r_const rfl rfl ?_
      refine r_istore (ls' := [some (.inl k), some (.inl c), some (.inl 0)]) rfl rfl rfl rfl ?_
      refine r_iload rfl rfl rfl ?_
      by_cases h7 : k = 2
      · refine r_lsw 0 rfl rfl rfl (show _ = _ from h7) ?_
        refine r_const rfl rfl ?_
        refine q_zret rfl rfl rfl (by omega) ?_
        exact ⟨by rw [if_neg (by omega)], rfl⟩
      by_cases h8 : k = 3
      · refine r_lsw 1 rfl rfl rfl (show _ = _ from h8) ?_
        refine r_iload rfl rfl rfl ?_
        refine r_if_ne0 rfl rfl (by decide) (by decide) ?_
        refine r_iload rfl rfl rfl ?_
        by_cases h9 : c = 0
        · refine r_if_eq1 rfl rfl (by omega) (by omega) ?_
          refine r_const rfl rfl ?_
          refine r_goto rfl rfl ?_
          refine q_zret rfl rfl rfl (by omega) ?_
          exact ⟨by rw [if_pos (by omega)], rfl⟩
        · refine r_if_eq0 rfl rfl (by omega) (by omega) ?_
          refine r_iload rfl rfl rfl ?_
          refine r_const rfl rfl ?_
          by_cases h10 : c = 8
          · refine r_icmp_eq1 rfl rfl (by omega) (by omega) ?_
            refine r_const rfl rfl ?_
            refine r_goto rfl rfl ?_
            refine q_zret rfl rfl rfl (by omega) ?_
            exact ⟨by rw [if_pos (by omega)], rfl⟩
          · refine r_icmp_eq0 rfl rfl (by omega) (by omega) ?_
            refine r_iload rfl rfl rfl ?_
            refine r_const rfl rfl ?_
            by_cases h11 : c = 20
            · refine r_icmp_ne0 rfl rfl (by omega) (by omega) ?_
              refine r_const rfl rfl ?_
              refine r_goto rfl rfl ?_
              refine q_zret rfl rfl rfl (by omega) ?_
              exact ⟨by rw [if_pos (by omega)], rfl⟩
            · refine r_icmp_ne1 rfl rfl (by omega) (by omega) ?_
              refine r_const rfl rfl ?_
              refine q_zret rfl rfl rfl (by omega) ?_
              exact ⟨by rw [if_neg (by omega)], rfl⟩
      refine r_lswd rfl rfl (by omega) (fun q hq => ?_) ?_
      · simp only [List.mem_cons, List.mem_nil_iff, or_false] at hq
        rcases hq with rfl | rfl <;> first | exact h7 | exact h8 | omega
      refine r_iload rfl rfl rfl ?_
      refine q_zret rfl rfl rfl (by omega) ?_
      exact ⟨by rw [if_neg (by omega)], rfl⟩
theorem c_X3_hasField {f : Int} {S : rS} (hB : Bd S) (h_f : -2147483648 ≤ f ∧ f < 2147483648) : CS 1 145 [.inr (.inr 25), .inl f] S (fun v S' => v = some (.inl (if 0 ≤ f ∧ f < S 25 0 then 1 else 0)) ∧ S' = S) := by
  refine RS.beg (ls := [some (.inr (.inr 25)), some (.inl f)]) rfl rfl rfl rfl rfl ?_
  refine r_iload rfl rfl rfl ?_
  by_cases h1 : f < 0
  · refine r_if_lt1 rfl rfl (by omega) (by omega) ?_
    refine r_const rfl rfl ?_
    refine q_zret rfl rfl rfl (by omega) ?_
    exact ⟨by rw [if_neg (by omega)], rfl⟩
  · refine r_if_lt0 rfl rfl (by omega) (by omega) ?_
    refine r_iload rfl rfl rfl ?_
    refine r_aload rfl rfl rfl ?_
    refine r_get rfl rfl (Or.inl rfl) rfl ?_
    have b2 : 0 ≤ S 25 0 ∧ S 25 0 ≤ 7 := hB 25 0
    by_cases h3 : f < (S 25 0)
    · refine r_icmp_ge0 rfl rfl (by omega) (by omega) ?_
      refine r_const rfl rfl ?_
      refine r_goto rfl rfl ?_
      refine q_zret rfl rfl rfl (by omega) ?_
      exact ⟨by rw [if_pos (by omega)], rfl⟩
    · refine r_icmp_ge1 rfl rfl (by omega) (by omega) ?_
      refine r_const rfl rfl ?_
      refine q_zret rfl rfl rfl (by omega) ?_
      exact ⟨by rw [if_neg (by omega)], rfl⟩
theorem c_X3_hasGate {g : Int} {S : rS} (hB : Bd S) (h_g : -2147483648 ≤ g ∧ g < 2147483648) : CS 1 146 [.inr (.inr 25), .inl g] S (fun v S' => v = some (.inl (if 0 ≤ g ∧ g < S 25 6 then 1 else 0)) ∧ S' = S) := by
  refine RS.beg (ls := [some (.inr (.inr 25)), some (.inl g)]) rfl rfl rfl rfl rfl ?_
  refine r_iload rfl rfl rfl ?_
  by_cases h1 : g < 0
  · refine r_if_lt1 rfl rfl (by omega) (by omega) ?_
    refine r_const rfl rfl ?_
    refine q_zret rfl rfl rfl (by omega) ?_
    exact ⟨by rw [if_neg (by omega)], rfl⟩
  · refine r_if_lt0 rfl rfl (by omega) (by omega) ?_
    refine r_iload rfl rfl rfl ?_
    refine r_aload rfl rfl rfl ?_
    refine r_get rfl rfl (Or.inl rfl) rfl ?_
    have b2 : 0 ≤ S 25 6 ∧ S 25 6 ≤ 9 := hB 25 6
    by_cases h3 : g < (S 25 6)
    · refine r_icmp_ge0 rfl rfl (by omega) (by omega) ?_
      refine r_const rfl rfl ?_
      refine r_goto rfl rfl ?_
      refine q_zret rfl rfl rfl (by omega) ?_
      exact ⟨by rw [if_pos (by omega)], rfl⟩
    · refine r_icmp_ge1 rfl rfl (by omega) (by omega) ?_
      refine r_const rfl rfl ?_
      refine q_zret rfl rfl rfl (by omega) ?_
      exact ⟨by rw [if_neg (by omega)], rfl⟩
theorem c_X3_hasPlace {f : Int} {q : Int} {S : rS} (hB : Bd S) (h_f : -2147483648 ≤ f ∧ f < 2147483648) (h_q : -2147483648 ≤ q ∧ q < 2147483648) : CS 2 147 [.inr (.inr 25), .inl f, .inl q] S (fun v S' => v = some (.inl (if (0 ≤ f ∧ f < S 25 0) ∧ 0 ≤ q ∧ q < S 29 f then 1 else 0)) ∧ S' = S) := by
  refine RS.beg (ls := [some (.inr (.inr 25)), some (.inl f), some (.inl q)]) rfl rfl rfl rfl rfl ?_
  refine r_aload rfl rfl rfl ?_
  refine r_iload rfl rfl rfl ?_
  by_cases h1 : 0 ≤ f ∧ f < S 25 0
  ·
    refine q_callE (w := some (.inl 1)) (S2 := S) (st' := [.inl 1]) rfl rfl rfl (cs_pos h1 (c_X3_hasField (f := f) (S := S) hB (by omega))) (by decide) rfl rfl (by decide) (fun _ _ => ⟨_, _, rfl, rfl⟩) rfl rfl ?_
    refine r_if_eq0 rfl rfl (by decide) (by decide) ?_
    refine r_iload rfl rfl rfl ?_
    by_cases h2 : q < 0
    · refine r_if_lt1 rfl rfl (by omega) (by omega) ?_
      refine r_const rfl rfl ?_
      refine q_zret rfl rfl rfl (by omega) ?_
      exact ⟨by rw [if_neg (by omega)], rfl⟩
    · refine r_if_lt0 rfl rfl (by omega) (by omega) ?_
      refine r_iload rfl rfl rfl ?_
      refine r_aload rfl rfl rfl ?_
      refine r_getr (v := 29) rfl rfl rfl rfl rfl ?_
      refine r_iload rfl rfl rfl ?_
      refine r_ald 7 rfl rfl rfl (by omega) ?_
      have b3 : 0 ≤ S 29 f ∧ S 29 f ≤ 8 := hB 29 f
      by_cases h4 : q < (S 29 f)
      · refine r_icmp_ge0 rfl rfl (by omega) (by omega) ?_
        refine r_const rfl rfl ?_
        refine r_goto rfl rfl ?_
        refine q_zret rfl rfl rfl (by omega) ?_
        exact ⟨by rw [if_pos (by omega)], rfl⟩
      · refine r_icmp_ge1 rfl rfl (by omega) (by omega) ?_
        refine r_const rfl rfl ?_
        refine q_zret rfl rfl rfl (by omega) ?_
        exact ⟨by rw [if_neg (by omega)], rfl⟩
  ·
    refine q_callE (w := some (.inl 0)) (S2 := S) (st' := [.inl 0]) rfl rfl rfl (cs_neg h1 (c_X3_hasField (f := f) (S := S) hB (by omega))) (by decide) rfl rfl (by decide) (fun _ _ => ⟨_, _, rfl, rfl⟩) rfl rfl ?_
    refine r_if_eq1 rfl rfl (by decide) (by decide) ?_
    refine r_const rfl rfl ?_
    refine q_zret rfl rfl rfl (by omega) ?_
    exact ⟨by rw [if_neg (by omega)], rfl⟩
def v_X3_otherSide (S : rS) (g : Int) (f : Int) : Int := if (S 38 g) = f then S 39 g else if (S 39 g) = f then S 38 g else (-1)
theorem c_X3_otherSide {g : Int} {f : Int} {S : rS} (hB : Bd S) (h_g : 0 ≤ g ∧ g < 9) (h_f : -2147483648 ≤ f ∧ f < 2147483648) : CS 1 151 [.inr (.inr 25), .inl g, .inl f] S (fun v S' => v = some (.inl (v_X3_otherSide S g f)) ∧ S' = S) := by
  refine RS.beg (ls := [some (.inr (.inr 25)), some (.inl g), some (.inl f)]) rfl rfl rfl rfl rfl ?_
  refine r_aload rfl rfl rfl ?_
  refine r_getr (v := 38) rfl rfl rfl rfl rfl ?_
  refine r_iload rfl rfl rfl ?_
  refine r_ald 9 rfl rfl rfl (by omega) ?_
  have b1 : 0 ≤ S 38 g ∧ S 38 g ≤ 6 := hB 38 g
  refine r_iload rfl rfl rfl ?_
  by_cases h2 : (S 38 g) = f
  · refine r_icmp_ne0 rfl rfl (by omega) (by omega) ?_
    refine r_aload rfl rfl rfl ?_
    refine r_getr (v := 39) rfl rfl rfl rfl rfl ?_
    refine r_iload rfl rfl rfl ?_
    refine r_ald 9 rfl rfl rfl (by omega) ?_
    have b3 : 0 ≤ S 39 g ∧ S 39 g ≤ 6 := hB 39 g
    refine q_iret rfl rfl rfl ?_
    exact ⟨by unfold v_X3_otherSide; rw [if_pos h2], rfl⟩
  · refine r_icmp_ne1 rfl rfl (by omega) (by omega) ?_
    refine r_aload rfl rfl rfl ?_
    refine r_getr (v := 39) rfl rfl rfl rfl rfl ?_
    refine r_iload rfl rfl rfl ?_
    refine r_ald 9 rfl rfl rfl (by omega) ?_
    have b4 : 0 ≤ S 39 g ∧ S 39 g ≤ 6 := hB 39 g
    refine r_iload rfl rfl rfl ?_
    by_cases h5 : (S 39 g) = f
    · refine r_icmp_ne0 rfl rfl (by omega) (by omega) ?_
      refine r_aload rfl rfl rfl ?_
      refine r_getr (v := 38) rfl rfl rfl rfl rfl ?_
      refine r_iload rfl rfl rfl ?_
      refine r_ald 9 rfl rfl rfl (by omega) ?_
      have b6 : 0 ≤ S 38 g ∧ S 38 g ≤ 6 := hB 38 g
      refine r_goto rfl rfl ?_
      refine q_iret rfl rfl rfl ?_
      exact ⟨by unfold v_X3_otherSide; rw [if_neg h2, if_pos h5], rfl⟩
    · refine r_icmp_ne1 rfl rfl (by omega) (by omega) ?_
      refine r_const rfl rfl ?_
      refine q_iret rfl rfl rfl ?_
      exact ⟨by unfold v_X3_otherSide; rw [if_neg h2, if_neg h5], rfl⟩
theorem c_X7_isRead {f : Int} {S : rS} (hB : Bd S) (h_f : 0 ≤ f ∧ f < 32) : CS 1 172 [.inr (.inr 59), .inl f] S (fun v S' => v = some (.inl (if mx_and (mx_shr (S 59 1) f) 1 = 1 then 1 else 0)) ∧ S' = S) := by
  refine RS.beg (ls := [some (.inr (.inr 59)), some (.inl f)]) rfl rfl rfl rfl rfl ?_
  refine r_aload rfl rfl rfl ?_
  refine r_get rfl rfl (Or.inl rfl) rfl ?_
  have b1 : 0 ≤ S 59 1 ∧ S 59 1 ≤ 127 := hB 59 1
  refine r_iload rfl rfl rfl ?_
  refine r_ishr rfl rfl ?_
  have b2 := mx_shr_r (S 59 1) f
  refine r_const rfl rfl ?_
  refine r_iand rfl rfl ?_
  have b3 := mx_and_r (mx_shr (S 59 1) f) 1
  refine r_const rfl rfl ?_
  by_cases h4 : (mx_and (mx_shr (S 59 1) f) 1) = 1
  · refine r_icmp_ne0 rfl rfl (by omega) (by omega) ?_
    refine r_const rfl rfl ?_
    refine r_goto rfl rfl ?_
    refine q_zret rfl rfl rfl (by omega) ?_
    exact ⟨by rw [if_pos (by omega)], rfl⟩
  · refine r_icmp_ne1 rfl rfl (by omega) (by omega) ?_
    refine r_const rfl rfl ?_
    refine q_zret rfl rfl rfl (by omega) ?_
    exact ⟨by rw [if_neg (by omega)], rfl⟩
theorem c_X7_isLeft {f : Int} {q : Int} {S : rS} (hB : Bd S) (h_f : 0 ≤ f ∧ f < 7) (h_q : 0 ≤ q ∧ q < 32) : CS 1 171 [.inr (.inr 59), .inl f, .inl q] S (fun v S' => v = some (.inl (if mx_and (mx_shr (S 60 f) q) 1 = 1 then 1 else 0)) ∧ S' = S) := by
  refine RS.beg (ls := [some (.inr (.inr 59)), some (.inl f), some (.inl q)]) rfl rfl rfl rfl rfl ?_
  refine r_aload rfl rfl rfl ?_
  refine r_getr (v := 60) rfl rfl rfl rfl rfl ?_
  refine r_iload rfl rfl rfl ?_
  refine r_ald 7 rfl rfl rfl (by omega) ?_
  have b1 : 0 ≤ S 60 f ∧ S 60 f ≤ 255 := hB 60 f
  refine r_iload rfl rfl rfl ?_
  refine r_ishr rfl rfl ?_
  have b2 := mx_shr_r (S 60 f) q
  refine r_const rfl rfl ?_
  refine r_iand rfl rfl ?_
  have b3 := mx_and_r (mx_shr (S 60 f) q) 1
  refine r_const rfl rfl ?_
  by_cases h4 : (mx_and (mx_shr (S 60 f) q) 1) = 1
  · refine r_icmp_ne0 rfl rfl (by omega) (by omega) ?_
    refine r_const rfl rfl ?_
    refine r_goto rfl rfl ?_
    refine q_zret rfl rfl rfl (by omega) ?_
    exact ⟨by rw [if_pos (by omega)], rfl⟩
  · refine r_icmp_ne1 rfl rfl (by omega) (by omega) ?_
    refine r_const rfl rfl ?_
    refine q_zret rfl rfl rfl (by omega) ?_
    exact ⟨by rw [if_neg (by omega)], rfl⟩
theorem c_X7_canBeRead {f : Int} {S : rS} (hB : Bd S) (h_f : 0 ≤ f ∧ f < 7) : CS 1 169 [.inr (.inr 59), .inr (.inr 25), .inl f] S (fun v S' => v = some (.inl (if S 26 f ≠ 1 ∨ S 59 5 < 5 then 1 else 0)) ∧ S' = S) := by
  refine RS.beg (ls := [some (.inr (.inr 59)), some (.inr (.inr 25)), some (.inl f)]) rfl rfl rfl rfl rfl ?_
  refine r_aload rfl rfl rfl ?_
  refine r_getr (v := 26) rfl rfl rfl rfl rfl ?_
  refine r_iload rfl rfl rfl ?_
  refine r_ald 7 rfl rfl rfl (by omega) ?_
  have b1 : 0 ≤ S 26 f ∧ S 26 f ≤ 3 := hB 26 f
  refine r_const rfl rfl ?_
  by_cases h2 : (S 26 f) = 1
  · refine r_icmp_ne0 rfl rfl (by omega) (by omega) ?_
    refine r_aload rfl rfl rfl ?_
    refine r_get rfl rfl (Or.inl rfl) rfl ?_
    have b3 : 0 ≤ S 59 5 ∧ S 59 5 ≤ 9 := hB 59 5
    refine r_const rfl rfl ?_
    by_cases h4 : (S 59 5) < 5
    · refine r_icmp_ge0 rfl rfl (by omega) (by omega) ?_
      refine r_const rfl rfl ?_
      refine r_goto rfl rfl ?_
      refine q_zret rfl rfl rfl (by omega) ?_
      exact ⟨by rw [if_pos (by omega)], rfl⟩
    · refine r_icmp_ge1 rfl rfl (by omega) (by omega) ?_
      refine r_const rfl rfl ?_
      refine q_zret rfl rfl rfl (by omega) ?_
      exact ⟨by rw [if_neg (by omega)], rfl⟩
  · refine r_icmp_ne1 rfl rfl (by omega) (by omega) ?_
    refine r_const rfl rfl ?_
    refine r_goto rfl rfl ?_
    refine q_zret rfl rfl rfl (by omega) ?_
    exact ⟨by rw [if_pos (by omega)], rfl⟩
theorem c_X10_isShelf {s : Int} {S : rS} (h_s : -2147483648 ≤ s ∧ s < 2147483648) : CS 1 31 [.inl s] S (fun v S' => v = some (.inl (if 0 ≤ s ∧ s < 4 then 1 else 0)) ∧ S' = S) := by
  refine RS.beg (ls := [some (.inl s)]) rfl rfl rfl rfl rfl ?_
  refine r_iload rfl rfl rfl ?_
  by_cases h1 : s < 0
  · refine r_if_lt1 rfl rfl (by omega) (by omega) ?_
    refine r_const rfl rfl ?_
    refine q_zret rfl rfl rfl (by omega) ?_
    exact ⟨by rw [if_neg (by omega)], rfl⟩
  · refine r_if_lt0 rfl rfl (by omega) (by omega) ?_
    refine r_iload rfl rfl rfl ?_
    refine r_const rfl rfl ?_
    by_cases h2 : s < 4
    · refine r_icmp_ge0 rfl rfl (by omega) (by omega) ?_
      refine r_const rfl rfl ?_
      refine r_goto rfl rfl ?_
      refine q_zret rfl rfl rfl (by omega) ?_
      exact ⟨by rw [if_pos (by omega)], rfl⟩
    · refine r_icmp_ge1 rfl rfl (by omega) (by omega) ?_
      refine r_const rfl rfl ?_
      refine q_zret rfl rfl rfl (by omega) ?_
      exact ⟨by rw [if_neg (by omega)], rfl⟩
theorem c_X10_isLane {s : Int} {S : rS} (h_s : -2147483648 ≤ s ∧ s < 2147483648) : CS 1 30 [.inl s] S (fun v S' => v = some (.inl (if 0 ≤ s ∧ s < 3 then 1 else 0)) ∧ S' = S) := by
  refine RS.beg (ls := [some (.inl s)]) rfl rfl rfl rfl rfl ?_
  refine r_iload rfl rfl rfl ?_
  by_cases h1 : s < 0
  · refine r_if_lt1 rfl rfl (by omega) (by omega) ?_
    refine r_const rfl rfl ?_
    refine q_zret rfl rfl rfl (by omega) ?_
    exact ⟨by rw [if_neg (by omega)], rfl⟩
  · refine r_if_lt0 rfl rfl (by omega) (by omega) ?_
    refine r_iload rfl rfl rfl ?_
    refine r_const rfl rfl ?_
    by_cases h2 : s < 3
    · refine r_icmp_ge0 rfl rfl (by omega) (by omega) ?_
      refine r_const rfl rfl ?_
      refine r_goto rfl rfl ?_
      refine q_zret rfl rfl rfl (by omega) ?_
      exact ⟨by rw [if_pos (by omega)], rfl⟩
    · refine r_icmp_ge1 rfl rfl (by omega) (by omega) ?_
      refine r_const rfl rfl ?_
      refine q_zret rfl rfl rfl (by omega) ?_
      exact ⟨by rw [if_neg (by omega)], rfl⟩
theorem c_X11_in {v : Int} {a : Int} {b : Int} {S : rS} (h_v : -2147483648 ≤ v ∧ v < 2147483648) (h_a : -2147483648 ≤ a ∧ a < 2147483648) (h_b : -2147483648 ≤ b ∧ b < 2147483648) : CS 1 86 [.inr (.inl v), .inr (.inl a), .inr (.inl b)] S (fun v S' => v = some (.inl (if a ≤ v ∧ v ≤ b then 1 else 0)) ∧ S' = S) := by
  refine RS.beg (ls := [some (.inr (.inl v)), none, some (.inr (.inl a)), none, some (.inr (.inl b)), none]) rfl rfl rfl rfl rfl ?_
  refine r_lload rfl rfl rfl ?_
  refine r_lload rfl rfl rfl ?_
  refine r_lcmp rfl rfl (by omega) ?_
  have b2 := mx_cmp_b v a
  by_cases h1 : v < a
  · refine r_if_lt1 rfl rfl (by omega) (by omega) ?_
    refine r_const rfl rfl ?_
    refine q_zret rfl rfl rfl (by omega) ?_
    exact ⟨by rw [if_neg (by omega)], rfl⟩
  · refine r_if_lt0 rfl rfl (by omega) (by omega) ?_
    refine r_lload rfl rfl rfl ?_
    refine r_lload rfl rfl rfl ?_
    refine r_lcmp rfl rfl (by omega) ?_
    have b4 := mx_cmp_b v b
    by_cases h3 : b < v
    · refine r_if_gt1 rfl rfl (by omega) (by omega) ?_
      refine r_const rfl rfl ?_
      refine q_zret rfl rfl rfl (by omega) ?_
      exact ⟨by rw [if_neg (by omega)], rfl⟩
    · refine r_if_gt0 rfl rfl (by omega) (by omega) ?_
      refine r_const rfl rfl ?_
      refine r_goto rfl rfl ?_
      refine q_zret rfl rfl rfl (by omega) ?_
      exact ⟨by rw [if_pos (by omega)], rfl⟩
theorem c_X11_has {s : Int} {q : Int} {S : rS} (h_s : -2147483648 ≤ s ∧ s < 2147483648) (h_q : -2147483648 ≤ q ∧ q < 2147483648) : CS 1 84 [.inl s, .inl q] S (fun v S' => v = some (.inl (if mx_and (mx_shr s q) 1 = 1 then 1 else 0)) ∧ S' = S) := by
  refine RS.beg (ls := [some (.inl s), some (.inl q)]) rfl rfl rfl rfl rfl ?_
  refine r_iload rfl rfl rfl ?_
  refine r_iload rfl rfl rfl ?_
  refine r_ishr rfl rfl ?_
  have b1 := mx_shr_r s q
  refine r_const rfl rfl ?_
  refine r_iand rfl rfl ?_
  have b2 := mx_and_r (mx_shr s q) 1
  refine r_const rfl rfl ?_
  by_cases h3 : (mx_and (mx_shr s q) 1) = 1
  · refine r_icmp_ne0 rfl rfl (by omega) (by omega) ?_
    refine r_const rfl rfl ?_
    refine r_goto rfl rfl ?_
    refine q_zret rfl rfl rfl (by omega) ?_
    exact ⟨by rw [if_pos (by omega)], rfl⟩
  · refine r_icmp_ne1 rfl rfl (by omega) (by omega) ?_
    refine r_const rfl rfl ?_
    refine q_zret rfl rfl rfl (by omega) ?_
    exact ⟨by rw [if_neg (by omega)], rfl⟩
def v_X11_lesser (S : rS) (v : Int) (q : Int) : Int := if v < q then v else q
theorem c_X11_lesser {v : Int} {q : Int} {S : rS} (h_v : -2147483648 ≤ v ∧ v < 2147483648) (h_q : -2147483648 ≤ q ∧ q < 2147483648) : CS 1 98 [.inl v, .inl q] S (fun v S' => v = some (.inl (v_X11_lesser S v q)) ∧ S' = S) := by
  refine RS.beg (ls := [some (.inl v), some (.inl q)]) rfl rfl rfl rfl rfl ?_
  refine r_iload rfl rfl rfl ?_
  refine r_iload rfl rfl rfl ?_
  by_cases h1 : v < q
  · refine r_icmp_ge0 rfl rfl (by omega) (by omega) ?_
    refine r_iload rfl rfl rfl ?_
    refine r_goto rfl rfl ?_
    refine q_iret rfl rfl rfl ?_
    exact ⟨by unfold v_X11_lesser; rw [if_pos h1], rfl⟩
  · refine r_icmp_ge1 rfl rfl (by omega) (by omega) ?_
    refine r_iload rfl rfl rfl ?_
    refine q_iret rfl rfl rfl ?_
    exact ⟨by unfold v_X11_lesser; rw [if_neg h1], rfl⟩
theorem c_X11_isTwo {k : Int} {S : rS} (h_k : -2147483648 ≤ k ∧ k < 2147483648) : CS 2 92 [.inl k] S (fun v S' => v = some (.inl (if 0 ≤ k ∧ k ≤ 1 then 1 else 0)) ∧ S' = S) := by
  refine RS.beg (ls := [some (.inl k)]) rfl rfl rfl rfl rfl ?_
  refine r_iload rfl rfl rfl ?_
  refine r_i2l rfl rfl (by omega) ?_
  refine r_lcon rfl rfl ?_
  refine r_lcon rfl rfl ?_
  by_cases h1 : 0 ≤ k ∧ k ≤ 1
  ·
    refine q_callE (w := some (.inl 1)) (S2 := S) (st' := [.inl 1]) rfl rfl rfl (cs_pos h1 (c_X11_in (v := k) (a := 0) (b := 1) (S := S)  (by omega) (by omega) (by omega))) (by decide) rfl rfl (by decide) (fun q => absurd rfl q) rfl rfl ?_
    refine q_zret rfl rfl rfl (by omega) ?_
    exact ⟨by rw [if_pos (by omega)], rfl⟩
  ·
    refine q_callE (w := some (.inl 0)) (S2 := S) (st' := [.inl 0]) rfl rfl rfl (cs_neg h1 (c_X11_in (v := k) (a := 0) (b := 1) (S := S)  (by omega) (by omega) (by omega))) (by decide) rfl rfl (by decide) (fun q => absurd rfl q) rfl rfl ?_
    refine q_zret rfl rfl rfl (by omega) ?_
    exact ⟨by rw [if_neg (by omega)], rfl⟩
theorem c_X11_isShelf {k : Int} {S : rS} (h_k : -2147483648 ≤ k ∧ k < 2147483648) : CS 2 90 [.inl k] S (fun v S' => v = some (.inl (if 0 ≤ k ∧ k ≤ 3 then 1 else 0)) ∧ S' = S) := by
  refine RS.beg (ls := [some (.inl k)]) rfl rfl rfl rfl rfl ?_
  refine r_iload rfl rfl rfl ?_
  refine r_i2l rfl rfl (by omega) ?_
  refine r_lcon rfl rfl ?_
  refine r_lcon rfl rfl ?_
  by_cases h1 : 0 ≤ k ∧ k ≤ 3
  ·
    refine q_callE (w := some (.inl 1)) (S2 := S) (st' := [.inl 1]) rfl rfl rfl (cs_pos h1 (c_X11_in (v := k) (a := 0) (b := 3) (S := S)  (by omega) (by omega) (by omega))) (by decide) rfl rfl (by decide) (fun q => absurd rfl q) rfl rfl ?_
    refine q_zret rfl rfl rfl (by omega) ?_
    exact ⟨by rw [if_pos (by omega)], rfl⟩
  ·
    refine q_callE (w := some (.inl 0)) (S2 := S) (st' := [.inl 0]) rfl rfl rfl (cs_neg h1 (c_X11_in (v := k) (a := 0) (b := 3) (S := S)  (by omega) (by omega) (by omega))) (by decide) rfl rfl (by decide) (fun q => absurd rfl q) rfl rfl ?_
    refine q_zret rfl rfl rfl (by omega) ?_
    exact ⟨by rw [if_neg (by omega)], rfl⟩
theorem c_X11_isLane {k : Int} {S : rS} (h_k : -2147483648 ≤ k ∧ k < 2147483648) : CS 2 89 [.inl k] S (fun v S' => v = some (.inl (if 0 ≤ k ∧ k ≤ 2 then 1 else 0)) ∧ S' = S) := by
  refine RS.beg (ls := [some (.inl k)]) rfl rfl rfl rfl rfl ?_
  refine r_iload rfl rfl rfl ?_
  refine r_i2l rfl rfl (by omega) ?_
  refine r_lcon rfl rfl ?_
  refine r_lcon rfl rfl ?_
  by_cases h1 : 0 ≤ k ∧ k ≤ 2
  ·
    refine q_callE (w := some (.inl 1)) (S2 := S) (st' := [.inl 1]) rfl rfl rfl (cs_pos h1 (c_X11_in (v := k) (a := 0) (b := 2) (S := S)  (by omega) (by omega) (by omega))) (by decide) rfl rfl (by decide) (fun q => absurd rfl q) rfl rfl ?_
    refine q_zret rfl rfl rfl (by omega) ?_
    exact ⟨by rw [if_pos (by omega)], rfl⟩
  ·
    refine q_callE (w := some (.inl 0)) (S2 := S) (st' := [.inl 0]) rfl rfl rfl (cs_neg h1 (c_X11_in (v := k) (a := 0) (b := 2) (S := S)  (by omega) (by omega) (by omega))) (by decide) rfl rfl (by decide) (fun q => absurd rfl q) rfl rfl ?_
    refine q_zret rfl rfl rfl (by omega) ?_
    exact ⟨by rw [if_neg (by omega)], rfl⟩
theorem c_X11_isTale {k : Int} {S : rS} (h_k : -2147483648 ≤ k ∧ k < 2147483648) : CS 2 91 [.inl k] S (fun v S' => v = some (.inl (if 0 ≤ k ∧ k ≤ 3 then 1 else 0)) ∧ S' = S) := by
  refine RS.beg (ls := [some (.inl k)]) rfl rfl rfl rfl rfl ?_
  refine r_iload rfl rfl rfl ?_
  refine r_i2l rfl rfl (by omega) ?_
  refine r_lcon rfl rfl ?_
  refine r_lcon rfl rfl ?_
  by_cases h1 : 0 ≤ k ∧ k ≤ 3
  ·
    refine q_callE (w := some (.inl 1)) (S2 := S) (st' := [.inl 1]) rfl rfl rfl (cs_pos h1 (c_X11_in (v := k) (a := 0) (b := 3) (S := S)  (by omega) (by omega) (by omega))) (by decide) rfl rfl (by decide) (fun q => absurd rfl q) rfl rfl ?_
    refine q_zret rfl rfl rfl (by omega) ?_
    exact ⟨by rw [if_pos (by omega)], rfl⟩
  ·
    refine q_callE (w := some (.inl 0)) (S2 := S) (st' := [.inl 0]) rfl rfl rfl (cs_neg h1 (c_X11_in (v := k) (a := 0) (b := 3) (S := S)  (by omega) (by omega) (by omega))) (by decide) rfl rfl (by decide) (fun q => absurd rfl q) rfl rfl ?_
    refine q_zret rfl rfl rfl (by omega) ?_
    exact ⟨by rw [if_neg (by omega)], rfl⟩
theorem c_X11_isField {f : Int} {S : rS} (hB : Bd S) (h_f : -2147483648 ≤ f ∧ f < 2147483648) : CS 2 88 [.inr (.inr 232), .inl f] S (fun v S' => v = some (.inl (if 0 ≤ f ∧ f ≤ S 233 0 - 1 then 1 else 0)) ∧ S' = S) := by
  refine RS.beg (ls := [some (.inr (.inr 232)), some (.inl f)]) rfl rfl rfl rfl rfl ?_
  refine r_iload rfl rfl rfl ?_
  refine r_i2l rfl rfl (by omega) ?_
  refine r_lcon rfl rfl ?_
  refine r_aload rfl rfl rfl ?_
  refine r_getr (v := 233) rfl rfl rfl rfl rfl ?_
  refine r_const rfl rfl ?_
  refine r_ald 187 rfl rfl rfl (by omega) ?_
  have b1 : 0 ≤ S 233 0 ∧ S 233 0 ≤ 99 := hB 233 0
  refine r_const rfl rfl ?_
  refine r_isub rfl rfl ?_
  refine r_i2l rfl rfl (by omega) ?_
  by_cases h2 : 0 ≤ f ∧ f ≤ ((S 233 0) - 1)
  ·
    refine q_callE (w := some (.inl 1)) (S2 := S) (st' := [.inl 1]) rfl rfl rfl (cs_pos h2 (c_X11_in (v := f) (a := 0) (b := ((S 233 0) - 1)) (S := S)  (by omega) (by omega) (by omega))) (by decide) rfl rfl (by decide) (fun q => absurd rfl q) rfl rfl ?_
    refine q_zret rfl rfl rfl (by omega) ?_
    exact ⟨by rw [if_pos (by omega)], rfl⟩
  ·
    refine q_callE (w := some (.inl 0)) (S2 := S) (st' := [.inl 0]) rfl rfl rfl (cs_neg h2 (c_X11_in (v := f) (a := 0) (b := ((S 233 0) - 1)) (S := S)  (by omega) (by omega) (by omega))) (by decide) rfl rfl (by decide) (fun q => absurd rfl q) rfl rfl ?_
    refine q_zret rfl rfl rfl (by omega) ?_
    exact ⟨by rw [if_neg (by omega)], rfl⟩
def v_X11_minutesOf (S : rS) (k : Int) (n : Int) : Int := if k = 2 then 2 * ((2 * n) + 1) else if k = 3 then n else (2 * n) + 1
theorem c_X11_minutesOf {k : Int} {n : Int} {S : rS} (h_k : -2147483648 ≤ k ∧ k < 2147483648) (h_n : 0 ≤ n ∧ n < 1000) : CS 1 105 [.inl k, .inl n] S (fun v S' => v = some (.inl (v_X11_minutesOf S k n)) ∧ S' = S) := by
  refine RS.beg (ls := [some (.inl k), some (.inl n), none]) rfl rfl rfl rfl rfl ?_
  refine r_const rfl rfl ?_
  refine r_iload rfl rfl rfl ?_
  refine r_imul rfl rfl ?_
  refine r_const rfl rfl ?_
  refine r_iadd rfl rfl ?_
  refine r_istore (ls' := [some (.inl k), some (.inl n), some (.inl ((2 * n) + 1))]) rfl rfl rfl rfl ?_
  refine r_iload rfl rfl rfl ?_
  refine r_const rfl rfl ?_
  by_cases h1 : k = 2
  · refine r_icmp_ne0 rfl rfl (by omega) (by omega) ?_
    refine r_const rfl rfl ?_
    refine r_iload rfl rfl rfl ?_
    refine r_imul rfl rfl ?_
    refine r_goto rfl rfl ?_
    refine q_iret rfl rfl rfl ?_
    exact ⟨by unfold v_X11_minutesOf; rw [if_pos h1], rfl⟩
  · refine r_icmp_ne1 rfl rfl (by omega) (by omega) ?_
    refine r_iload rfl rfl rfl ?_
    refine r_const rfl rfl ?_
    by_cases h2 : k = 3
    · refine r_icmp_ne0 rfl rfl (by omega) (by omega) ?_
      refine r_iload rfl rfl rfl ?_
      refine r_goto rfl rfl ?_
      refine q_iret rfl rfl rfl ?_
      exact ⟨by unfold v_X11_minutesOf; rw [if_neg h1, if_pos h2], rfl⟩
    · refine r_icmp_ne1 rfl rfl (by omega) (by omega) ?_
      refine r_iload rfl rfl rfl ?_
      refine q_iret rfl rfl rfl ?_
      exact ⟨by unfold v_X11_minutesOf; rw [if_neg h1, if_neg h2], rfl⟩
theorem c_X11_mayRead {f : Int} {S : rS} (hB : Bd S) (h_f : 0 ≤ f ∧ f < 7) : CS 1 102 [.inr (.inr 232), .inl f] S (fun v S' => v = some (.inl (if S 233 (1 + f) ≠ 1 ∨ S 236 10 < 5 then 1 else 0)) ∧ S' = S) := by
  refine RS.beg (ls := [some (.inr (.inr 232)), some (.inl f)]) rfl rfl rfl rfl rfl ?_
  refine r_aload rfl rfl rfl ?_
  refine r_getr (v := 233) rfl rfl rfl rfl rfl ?_
  refine r_const rfl rfl ?_
  refine r_iload rfl rfl rfl ?_
  refine r_iadd rfl rfl ?_
  refine r_ald 187 rfl rfl rfl (by omega) ?_
  have b1 : 0 ≤ S 233 (1 + f) ∧ S 233 (1 + f) ≤ 99 := hB 233 (1 + f)
  refine r_const rfl rfl ?_
  by_cases h2 : (S 233 (1 + f)) = 1
  · refine r_icmp_ne0 rfl rfl (by omega) (by omega) ?_
    refine r_aload rfl rfl rfl ?_
    refine r_getr (v := 236) rfl rfl rfl rfl rfl ?_
    refine r_const rfl rfl ?_
    refine r_ald 12 rfl rfl rfl (by omega) ?_
    have b3 : 0 ≤ S 236 10 ∧ S 236 10 ≤ 999 := hB 236 10
    refine r_const rfl rfl ?_
    by_cases h4 : (S 236 10) < 5
    · refine r_icmp_ge0 rfl rfl (by omega) (by omega) ?_
      refine r_const rfl rfl ?_
      refine r_goto rfl rfl ?_
      refine q_zret rfl rfl rfl (by omega) ?_
      exact ⟨by rw [if_pos (by omega)], rfl⟩
    · refine r_icmp_ge1 rfl rfl (by omega) (by omega) ?_
      refine r_const rfl rfl ?_
      refine q_zret rfl rfl rfl (by omega) ?_
      exact ⟨by rw [if_neg (by omega)], rfl⟩
  · refine r_icmp_ne1 rfl rfl (by omega) (by omega) ?_
    refine r_const rfl rfl ?_
    refine r_goto rfl rfl ?_
    refine q_zret rfl rfl rfl (by omega) ?_
    exact ⟨by rw [if_pos (by omega)], rfl⟩
theorem c_X11_birdsTake {k : Int} {c : Int} {S : rS} (h_k : -2147483648 ≤ k ∧ k < 2147483648) (h_c : -2147483648 ≤ c ∧ c < 2147483648) : CS 1 63 [.inl k, .inl c] S (fun v S' => v = some (.inl (if (k ≠ 2 ∧ (c = 4 ∨ c = 14)) ∨ (k = 3 ∧ (c = 0 ∨ c = 8 ∨ c = 20)) then 1 else 0)) ∧ S' = S) := by
  refine RS.beg (ls := [some (.inl k), some (.inl c), none]) rfl rfl rfl rfl rfl ?_
  refine r_iload rfl rfl rfl ?_
  refine r_const rfl rfl ?_
  by_cases h1 : c = 4
  · refine r_icmp_eq1 rfl rfl (by omega) (by omega) ?_
    refine r_const rfl rfl ?_
    refine r_goto rfl rfl ?_
    refine r_istore (ls' := [some (.inl k), some (.inl c), some (.inl 1)]) rfl rfl rfl rfl ?_
    refine r_iload rfl rfl rfl ?_
    refine r_const rfl rfl ?_
    by_cases h2 : k = 3
    · refine r_icmp_ne0 rfl rfl (by omega) (by omega) ?_
      refine r_iload rfl rfl rfl ?_
      refine r_if_ne1 rfl rfl (by decide) (by decide) ?_
      refine r_const rfl rfl ?_
      refine r_goto rfl rfl ?_
      refine q_zret rfl rfl rfl (by omega) ?_
      exact ⟨by rw [if_pos (by omega)], rfl⟩
    · refine r_icmp_ne1 rfl rfl (by omega) (by omega) ?_
      refine r_iload rfl rfl rfl ?_
      refine r_const rfl rfl ?_
      by_cases h3 : k = 2
      · refine r_icmp_eq1 rfl rfl (by omega) (by omega) ?_
        refine r_const rfl rfl ?_
        refine q_zret rfl rfl rfl (by omega) ?_
        exact ⟨by rw [if_neg (by omega)], rfl⟩
      · refine r_icmp_eq0 rfl rfl (by omega) (by omega) ?_
        refine r_iload rfl rfl rfl ?_
        refine r_if_eq0 rfl rfl (by decide) (by decide) ?_
        refine r_const rfl rfl ?_
        refine r_goto rfl rfl ?_
        refine q_zret rfl rfl rfl (by omega) ?_
        exact ⟨by rw [if_pos (by omega)], rfl⟩
  · refine r_icmp_eq0 rfl rfl (by omega) (by omega) ?_
    refine r_iload rfl rfl rfl ?_
    refine r_const rfl rfl ?_
    by_cases h4 : c = 14
    · refine r_icmp_ne0 rfl rfl (by omega) (by omega) ?_
      refine r_const rfl rfl ?_
      refine r_goto rfl rfl ?_
      refine r_istore (ls' := [some (.inl k), some (.inl c), some (.inl 1)]) rfl rfl rfl rfl ?_
      refine r_iload rfl rfl rfl ?_
      refine r_const rfl rfl ?_
      by_cases h5 : k = 3
      · refine r_icmp_ne0 rfl rfl (by omega) (by omega) ?_
        refine r_iload rfl rfl rfl ?_
        refine r_if_ne1 rfl rfl (by decide) (by decide) ?_
        refine r_const rfl rfl ?_
        refine r_goto rfl rfl ?_
        refine q_zret rfl rfl rfl (by omega) ?_
        exact ⟨by rw [if_pos (by omega)], rfl⟩
      · refine r_icmp_ne1 rfl rfl (by omega) (by omega) ?_
        refine r_iload rfl rfl rfl ?_
        refine r_const rfl rfl ?_
        by_cases h6 : k = 2
        · refine r_icmp_eq1 rfl rfl (by omega) (by omega) ?_
          refine r_const rfl rfl ?_
          refine q_zret rfl rfl rfl (by omega) ?_
          exact ⟨by rw [if_neg (by omega)], rfl⟩
        · refine r_icmp_eq0 rfl rfl (by omega) (by omega) ?_
          refine r_iload rfl rfl rfl ?_
          refine r_if_eq0 rfl rfl (by decide) (by decide) ?_
          refine r_const rfl rfl ?_
          refine r_goto rfl rfl ?_
          refine q_zret rfl rfl rfl (by omega) ?_
          exact ⟨by rw [if_pos (by omega)], rfl⟩
    · refine r_icmp_ne1 rfl rfl (by omega) (by omega) ?_
      refine r_const rfl rfl ?_
      refine r_istore (ls' := [some (.inl k), some (.inl c), some (.inl 0)]) rfl rfl rfl rfl ?_
      refine r_iload rfl rfl rfl ?_
      refine r_const rfl rfl ?_
      by_cases h7 : k = 3
      · refine r_icmp_ne0 rfl rfl (by omega) (by omega) ?_
        refine r_iload rfl rfl rfl ?_
        refine r_if_ne0 rfl rfl (by decide) (by decide) ?_
        refine r_iload rfl rfl rfl ?_
        by_cases h8 : c = 0
        · refine r_if_eq1 rfl rfl (by omega) (by omega) ?_
          refine r_const rfl rfl ?_
          refine r_goto rfl rfl ?_
          refine q_zret rfl rfl rfl (by omega) ?_
          exact ⟨by rw [if_pos (by omega)], rfl⟩
        · refine r_if_eq0 rfl rfl (by omega) (by omega) ?_
          refine r_iload rfl rfl rfl ?_
          refine r_const rfl rfl ?_
          by_cases h9 : c = 8
          · refine r_icmp_eq1 rfl rfl (by omega) (by omega) ?_
            refine r_const rfl rfl ?_
            refine r_goto rfl rfl ?_
            refine q_zret rfl rfl rfl (by omega) ?_
            exact ⟨by rw [if_pos (by omega)], rfl⟩
          · refine r_icmp_eq0 rfl rfl (by omega) (by omega) ?_
            refine r_iload rfl rfl rfl ?_
            refine r_const rfl rfl ?_
            by_cases h10 : c = 20
            · refine r_icmp_ne0 rfl rfl (by omega) (by omega) ?_
              refine r_const rfl rfl ?_
              refine r_goto rfl rfl ?_
              refine q_zret rfl rfl rfl (by omega) ?_
              exact ⟨by rw [if_pos (by omega)], rfl⟩
            · refine r_icmp_ne1 rfl rfl (by omega) (by omega) ?_
              refine r_const rfl rfl ?_
              refine r_goto rfl rfl ?_
              refine q_zret rfl rfl rfl (by omega) ?_
              exact ⟨by rw [if_neg (by omega)], rfl⟩
      · refine r_icmp_ne1 rfl rfl (by omega) (by omega) ?_
        refine r_iload rfl rfl rfl ?_
        refine r_const rfl rfl ?_
        by_cases h11 : k = 2
        · refine r_icmp_eq1 rfl rfl (by omega) (by omega) ?_
          refine r_const rfl rfl ?_
          refine q_zret rfl rfl rfl (by omega) ?_
          exact ⟨by rw [if_neg (by omega)], rfl⟩
        · refine r_icmp_eq0 rfl rfl (by omega) (by omega) ?_
          refine r_iload rfl rfl rfl ?_
          refine r_if_eq1 rfl rfl (by decide) (by decide) ?_
          refine r_const rfl rfl ?_
          refine q_zret rfl rfl rfl (by omega) ?_
          exact ⟨by rw [if_neg (by omega)], rfl⟩
def v_X11_here (S : rS) : Int := if (S 232 15) < (S 232 9) then S 240 (S 232 15) else (-1)
theorem c_X11_here {S : rS} (hB : Bd S) : CS 1 85 [.inr (.inr 232)] S (fun v S' => v = some (.inl (v_X11_here S )) ∧ S' = S) := by
  refine RS.beg (ls := [some (.inr (.inr 232))]) rfl rfl rfl rfl rfl ?_
  refine r_aload rfl rfl rfl ?_
  refine r_get rfl rfl (Or.inl rfl) rfl ?_
  have b1 : 0 ≤ S 232 15 ∧ S 232 15 ≤ 200 := hB 232 15
  refine r_aload rfl rfl rfl ?_
  refine r_get rfl rfl (Or.inl rfl) rfl ?_
  have b2 : 0 ≤ S 232 9 ∧ S 232 9 ≤ 200 := hB 232 9
  by_cases h3 : (S 232 15) < (S 232 9)
  · refine r_icmp_ge0 rfl rfl (by omega) (by omega) ?_
    refine r_aload rfl rfl rfl ?_
    refine r_getr (v := 240) rfl rfl rfl rfl rfl ?_
    refine r_aload rfl rfl rfl ?_
    refine r_get rfl rfl (Or.inl rfl) rfl ?_
    have b4 : 0 ≤ S 232 15 ∧ S 232 15 ≤ 200 := hB 232 15
    refine r_ald 200 rfl rfl rfl (by omega) ?_
    have b5 : 0 ≤ S 240 (S 232 15) ∧ S 240 (S 232 15) ≤ 255 := hB 240 (S 232 15)
    refine r_goto rfl rfl ?_
    refine q_iret rfl rfl rfl ?_
    exact ⟨by unfold v_X11_here; rw [if_pos h3], rfl⟩
  · refine r_icmp_ge1 rfl rfl (by omega) (by omega) ?_
    refine r_const rfl rfl ?_
    refine q_iret rfl rfl rfl ?_
    exact ⟨by unfold v_X11_here; rw [if_neg h3], rfl⟩
