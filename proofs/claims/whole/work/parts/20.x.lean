def srt (c : Int) : Int := if 97 ≤ c ∧ c ≤ 122 then 1 else if 48 ≤ c ∧ c ≤ 57 then 2 else 3
theorem srt_r (c : Int) : 0 ≤ srt c ∧ srt c ≤ 3 := by unfold srt; split <;> (try split) <;> omega
theorem c_X5_hasRoom {s : Int} {i : Int} {n : Int} {S : rS} (hB : Bd S) (h_s : 0 ≤ s ∧ s < 4) (h_i : -2147483648 ≤ i ∧ i < 2147483648) (h_n : -2147483648 ≤ n ∧ n < 2147483648) : CS 1 161 [.inr (.inr (224 + 2 * s)), .inl i, .inl n] S (fun r' S' => r' = some (.inl (bi ((0 ≤ i ∧ i ≤ S (224 + 2 * s) 2) ∧ 0 ≤ n ∧ n ≤ S (224 + 2 * s) 2 - i))) ∧ S' = S) := by
  refine RS.beg (ls := [some (.inr (.inr (224 + 2 * s))), some (.inl i), some (.inl n)]) rfl rfl rfl rfl rfl ?_
  refine r_iload (pc' := 1) rfl rfl rfl ?_
  by_cases h1 : i < 0
  · refine r_if_lt1 (pc' := 30) rfl rfl (by omega) (by omega) ?_
    refine r_const (pc' := 31) rfl rfl ?_
    refine q_zret rfl rfl rfl (by omega) ?_
    exact ⟨bi_f (by omega), rfl⟩
  · refine r_if_lt0 (pc' := 4) rfl rfl (by omega) (by omega) ?_
    refine r_iload (pc' := 5) rfl rfl rfl ?_
    refine r_aload (pc' := 6) rfl rfl rfl ?_
    refine r_getv (pc' := 9) (v := (S (224 + 2 * s) 2)) rfl rfl (Or.inl rfl) (sho_224 (by omega)) rfl ?_
    have b2 : 0 ≤ S (224 + 2 * s) 2 ∧ S (224 + 2 * s) 2 ≤ 24 := bdo_2242 hB (by omega)
    by_cases h3 : (S (224 + 2 * s) 2) < i
    · refine r_icmp_gt1 (pc' := 30) rfl rfl (by omega) (by omega) ?_
      refine r_const (pc' := 31) rfl rfl ?_
      refine q_zret rfl rfl rfl (by omega) ?_
      exact ⟨bi_f (by omega), rfl⟩
    · refine r_icmp_gt0 (pc' := 12) rfl rfl (by omega) (by omega) ?_
      refine r_iload (pc' := 13) rfl rfl rfl ?_
      by_cases h4 : n < 0
      · refine r_if_lt1 (pc' := 30) rfl rfl (by omega) (by omega) ?_
        refine r_const (pc' := 31) rfl rfl ?_
        refine q_zret rfl rfl rfl (by omega) ?_
        exact ⟨bi_f (by omega), rfl⟩
      · refine r_if_lt0 (pc' := 16) rfl rfl (by omega) (by omega) ?_
        refine r_iload (pc' := 17) rfl rfl rfl ?_
        refine r_aload (pc' := 18) rfl rfl rfl ?_
        refine r_getv (pc' := 21) (v := (S (224 + 2 * s) 2)) rfl rfl (Or.inl rfl) (sho_224 (by omega)) rfl ?_
        refine r_iload (pc' := 22) rfl rfl rfl ?_
        refine r_isub (pc' := 23) rfl rfl ?_
        by_cases h5 : ((S (224 + 2 * s) 2) - i) < n
        · refine r_icmp_gt1 (pc' := 30) rfl rfl (by omega) (by omega) ?_
          refine r_const (pc' := 31) rfl rfl ?_
          refine q_zret rfl rfl rfl (by omega) ?_
          exact ⟨bi_f (by omega), rfl⟩
        · refine r_icmp_gt0 (pc' := 26) rfl rfl (by omega) (by omega) ?_
          refine r_const (pc' := 27) rfl rfl ?_
          refine r_goto (pc' := 31) rfl rfl ?_
          refine q_zret rfl rfl rfl (by omega) ?_
          exact ⟨bi_t (by omega), rfl⟩
theorem c_X6_agreeWith {f : Int} {k : Int} {S : rS} (hB : Bd S) (h_f : -2147483648 ≤ f ∧ f < 2147483648) (h_k : -2147483648 ≤ k ∧ k < 2147483648) : CS 2 166 [.inr (.inr 81), .inl f, .inl k] S (fun r' S' => r' = some (.inl (bi (∀ xx, 0 ≤ xx → xx < S 81 0 → S 82 xx = f → mins k (S 83 xx) = S 84 xx))) ∧ S' = S) := by
  refine RS.beg (ls := [some (.inr (.inr 81)), some (.inl f), some (.inl k), none]) rfl rfl rfl rfl rfl ?_
  have b0 : 0 ≤ S 81 0 ∧ S 81 0 ≤ 6 := hB 81 0
  refine r_const (pc' := 1) rfl rfl ?_
  refine r_istore (pc' := 2) (ls' := [some (.inr (.inr 81)), some (.inl f), some (.inl k), some (.inl 0)]) rfl rfl rfl rfl ?_
  refine r_while (α := Int) (fun z' => [some (.inr (.inr 81)), some (.inl f), some (.inl k), some (.inl z')]) (fun z' => S) (fun z' => (0 ≤ z' ∧ z' ≤ S 81 0) ∧ (∀ yy, 0 ≤ yy → yy < z' → S 82 yy = f → mins k (S 83 yy) = S 84 yy)) (fun z' => (S 81 0 - z').toNat) ?_ 0 (show (0 ≤ (0 : Int) ∧ (0 : Int) ≤ S 81 0) ∧ (∀ yy, 0 ≤ yy → yy < (0 : Int) → S 82 yy = f → mins k (S 83 yy) = S 84 yy) from by exact ⟨by omega, fun y h1 h2 => absurd h2 (by omega)⟩)
  rintro q hI' ih2
  have hI' : (0 ≤ q ∧ q ≤ S 81 0) ∧ (∀ yy, 0 ≤ yy → yy < q → S 82 yy = f → mins k (S 83 yy) = S 84 yy) := hI'
  obtain ⟨i1, i2⟩ := hI'
  show RS _ _ _ _ [some (.inr (.inr 81)), some (.inl f), some (.inl k), some (.inl q)] [] S
  have b1 : 0 ≤ S 81 0 ∧ S 81 0 ≤ 6 := hB 81 0
  refine r_iload (pc' := 3) rfl rfl rfl ?_
  refine r_aload (pc' := 4) rfl rfl rfl ?_
  refine r_getv (pc' := 7) (v := (S 81 0)) rfl rfl (Or.inl rfl) rfl rfl ?_
  by_cases h2 : q < (S 81 0)
  · refine r_icmp_ge0 (pc' := 10) rfl rfl (by omega) (by omega) ?_
    refine r_aload (pc' := 11) rfl rfl rfl ?_
    refine r_getr (pc' := 14) (v := 82) rfl rfl rfl rfl rfl ?_
    refine r_iload (pc' := 15) rfl rfl rfl ?_
    refine r_aldv (pc' := 16) (v := (S 82 q)) 6 rfl rfl rfl (by omega) rfl ?_
    have b3 : 0 ≤ S 82 q ∧ S 82 q ≤ 6 := hB 82 q
    refine r_iload (pc' := 17) rfl rfl rfl ?_
    by_cases h4 : (S 82 q) = f
    · refine r_icmp_ne0 (pc' := 20) rfl rfl (by omega) (by omega) ?_
      refine r_iload (pc' := 21) rfl rfl rfl ?_
      refine r_aload (pc' := 22) rfl rfl rfl ?_
      refine r_getr (pc' := 25) (v := 83) rfl rfl rfl rfl rfl ?_
      refine r_iload (pc' := 26) rfl rfl rfl ?_
      refine r_aldv (pc' := 27) (v := (S 83 q)) 6 rfl rfl rfl (by omega) rfl ?_
      have b5 : 0 ≤ S 83 q ∧ S 83 q ≤ 8 := hB 83 q
      refine q_callE (pc' := 30) (w := some (.inl (mins k (S 83 q)))) (S2 := S) (st' := [.inl (mins k (S 83 q))]) rfl rfl rfl (c_X1_minutes (k := k) (n := (S 83 q)) (S := S)  (show -2147483648 ≤ k ∧ k < 2147483648 from by omega) (show 0 ≤ (S 83 q) ∧ (S 83 q) < 1000 from by omega)) (by decide) rfl rfl (Nat.le_of_ble_eq_true rfl) (fun q => absurd rfl q) rfl rfl ?_
      have b6 : 0 ≤ (mins k (S 83 q)) ∧ (mins k (S 83 q)) ≤ 4 * (S 83 q) + 2 := mins_r (by omega)
      refine r_aload (pc' := 31) rfl rfl rfl ?_
      refine r_getr (pc' := 34) (v := 84) rfl rfl rfl rfl rfl ?_
      refine r_iload (pc' := 35) rfl rfl rfl ?_
      refine r_aldv (pc' := 36) (v := (S 84 q)) 6 rfl rfl rfl (by omega) rfl ?_
      have b7 : 0 ≤ S 84 q ∧ S 84 q ≤ 60 := hB 84 q
      by_cases h8 : (mins k (S 83 q)) = (S 84 q)
      · refine r_icmp_eq1 (pc' := 41) rfl rfl (by omega) (by omega) ?_
        refine r_iinc (pc' := 44) (ls' := [some (.inr (.inr 81)), some (.inl f), some (.inl k), some (.inl (q + 1))]) rfl rfl rfl rfl rfl ?_
        refine r_goto (pc' := 2) rfl rfl ?_
        exact ih2 (q + 1) (show (0 ≤ (q + 1) ∧ (q + 1) ≤ S 81 0) ∧ (∀ yy, 0 ≤ yy → yy < (q + 1) → S 82 yy = f → mins k (S 83 yy) = S 84 yy) from by exact ⟨by omega, fun y h1 h2 h3 => by
      by_cases hy : y < q
      · exact i2 y h1 hy h3
      · obtain rfl : y = q := by omega
        omega⟩) (show (S 81 0 - (q + 1)).toNat < (S 81 0 - q).toNat from by omega)
      · refine r_icmp_eq0 (pc' := 39) rfl rfl (by omega) (by omega) ?_
        refine r_const (pc' := 40) rfl rfl ?_
        refine q_zret rfl rfl rfl (by omega) ?_
        exact ⟨bi_f (fun z => absurd (z q (by omega) (by omega) (by assumption)) (by omega)), rfl⟩
    · refine r_icmp_ne1 (pc' := 41) rfl rfl (by omega) (by omega) ?_
      refine r_iinc (pc' := 44) (ls' := [some (.inr (.inr 81)), some (.inl f), some (.inl k), some (.inl (q + 1))]) rfl rfl rfl rfl rfl ?_
      refine r_goto (pc' := 2) rfl rfl ?_
      exact ih2 (q + 1) (show (0 ≤ (q + 1) ∧ (q + 1) ≤ S 81 0) ∧ (∀ yy, 0 ≤ yy → yy < (q + 1) → S 82 yy = f → mins k (S 83 yy) = S 84 yy) from by exact ⟨by omega, fun y h1 h2 h3 => by
      by_cases hy : y < q
      · exact i2 y h1 hy h3
      · obtain rfl : y = q := by omega
        omega⟩) (show (S 81 0 - (q + 1)).toNat < (S 81 0 - q).toNat from by omega)
  · refine r_icmp_ge1 (pc' := 47) rfl rfl (by omega) (by omega) ?_
    refine r_const (pc' := 48) rfl rfl ?_
    refine q_zret rfl rfl rfl (by omega) ?_
    exact ⟨bi_t (fun y h1 h2 => i2 y h1 (by omega)), rfl⟩
theorem c_X8_sortOf {c : Int} {S : rS} (h_c : -2147483648 ≤ c ∧ c < 2147483648) : CS 1 180 [.inl c] S (fun r' S' => r' = some (.inl (srt c)) ∧ S' = S) := by
  refine RS.beg (ls := [some (.inl c)]) rfl rfl rfl rfl rfl ?_
  refine r_iload (pc' := 1) rfl rfl rfl ?_
  refine r_const (pc' := 3) rfl rfl ?_
  by_cases h1 : c < 97
  · refine r_icmp_lt1 (pc' := 14) rfl rfl (by omega) (by omega) ?_
    refine r_iload (pc' := 15) rfl rfl rfl ?_
    refine r_const (pc' := 17) rfl rfl ?_
    by_cases h2 : c < 48
    · refine r_icmp_lt1 (pc' := 30) rfl rfl (by omega) (by omega) ?_
      refine r_const (pc' := 31) rfl rfl ?_
      refine q_iret rfl rfl rfl ?_
      exact ⟨by unfold srt; first | (rw [if_pos (by omega)]; done) | (rw [if_neg (by omega), if_pos (by omega)]; done) | (rw [if_neg (by omega), if_neg (by omega)]; done), rfl⟩
    · refine r_icmp_lt0 (pc' := 20) rfl rfl (by omega) (by omega) ?_
      refine r_iload (pc' := 21) rfl rfl rfl ?_
      refine r_const (pc' := 23) rfl rfl ?_
      by_cases h3 : 57 < c
      · refine r_icmp_gt1 (pc' := 30) rfl rfl (by omega) (by omega) ?_
        refine r_const (pc' := 31) rfl rfl ?_
        refine q_iret rfl rfl rfl ?_
        exact ⟨by unfold srt; first | (rw [if_pos (by omega)]; done) | (rw [if_neg (by omega), if_pos (by omega)]; done) | (rw [if_neg (by omega), if_neg (by omega)]; done), rfl⟩
      · refine r_icmp_gt0 (pc' := 26) rfl rfl (by omega) (by omega) ?_
        refine r_const (pc' := 27) rfl rfl ?_
        refine r_goto (pc' := 31) rfl rfl ?_
        refine q_iret rfl rfl rfl ?_
        exact ⟨by unfold srt; first | (rw [if_pos (by omega)]; done) | (rw [if_neg (by omega), if_pos (by omega)]; done) | (rw [if_neg (by omega), if_neg (by omega)]; done), rfl⟩
  · refine r_icmp_lt0 (pc' := 6) rfl rfl (by omega) (by omega) ?_
    refine r_iload (pc' := 7) rfl rfl rfl ?_
    refine r_const (pc' := 9) rfl rfl ?_
    by_cases h4 : 122 < c
    · refine r_icmp_gt1 (pc' := 14) rfl rfl (by omega) (by omega) ?_
      refine r_iload (pc' := 15) rfl rfl rfl ?_
      refine r_const (pc' := 17) rfl rfl ?_
      by_cases h5 : c < 48
      · refine r_icmp_lt1 (pc' := 30) rfl rfl (by omega) (by omega) ?_
        refine r_const (pc' := 31) rfl rfl ?_
        refine q_iret rfl rfl rfl ?_
        exact ⟨by unfold srt; first | (rw [if_pos (by omega)]; done) | (rw [if_neg (by omega), if_pos (by omega)]; done) | (rw [if_neg (by omega), if_neg (by omega)]; done), rfl⟩
      · refine r_icmp_lt0 (pc' := 20) rfl rfl (by omega) (by omega) ?_
        refine r_iload (pc' := 21) rfl rfl rfl ?_
        refine r_const (pc' := 23) rfl rfl ?_
        by_cases h6 : 57 < c
        · refine r_icmp_gt1 (pc' := 30) rfl rfl (by omega) (by omega) ?_
          refine r_const (pc' := 31) rfl rfl ?_
          refine q_iret rfl rfl rfl ?_
          exact ⟨by unfold srt; first | (rw [if_pos (by omega)]; done) | (rw [if_neg (by omega), if_pos (by omega)]; done) | (rw [if_neg (by omega), if_neg (by omega)]; done), rfl⟩
        · refine r_icmp_gt0 (pc' := 26) rfl rfl (by omega) (by omega) ?_
          refine r_const (pc' := 27) rfl rfl ?_
          refine r_goto (pc' := 31) rfl rfl ?_
          refine q_iret rfl rfl rfl ?_
          exact ⟨by unfold srt; first | (rw [if_pos (by omega)]; done) | (rw [if_neg (by omega), if_pos (by omega)]; done) | (rw [if_neg (by omega), if_neg (by omega)]; done), rfl⟩
    · refine r_icmp_gt0 (pc' := 12) rfl rfl (by omega) (by omega) ?_
      refine r_const (pc' := 13) rfl rfl ?_
      refine q_iret rfl rfl rfl ?_
      exact ⟨by unfold srt; first | (rw [if_pos (by omega)]; done) | (rw [if_neg (by omega), if_pos (by omega)]; done) | (rw [if_neg (by omega), if_neg (by omega)]; done), rfl⟩
theorem c_X8_isSemicolon {S : rS} (hB : Bd S) (h_t : S 1 4 = 3 → S 1 2 < 200) : CS 1 178 [.inr (.inr 1)] S (fun r' S' => r' = some (.inl (bi (S 1 4 = 3 ∧ S 2 (S 1 2) = 59))) ∧ S' = S) := by
  refine RS.beg (ls := [some (.inr (.inr 1))]) rfl rfl rfl rfl rfl ?_
  refine r_aload (pc' := 1) rfl rfl rfl ?_
  refine r_getv (pc' := 4) (v := (S 1 4)) rfl rfl (Or.inl rfl) rfl rfl ?_
  have b1 : 0 ≤ S 1 4 ∧ S 1 4 ≤ 3 := hB 1 4
  refine r_const (pc' := 5) rfl rfl ?_
  by_cases h2 : (S 1 4) = 3
  · refine r_icmp_ne0 (pc' := 8) rfl rfl (by omega) (by omega) ?_
    refine r_aload (pc' := 9) rfl rfl rfl ?_
    refine r_getr (pc' := 12) (v := 2) rfl rfl rfl rfl rfl ?_
    refine r_aload (pc' := 13) rfl rfl rfl ?_
    refine r_getv (pc' := 16) (v := (S 1 2)) rfl rfl (Or.inl rfl) rfl rfl ?_
    have b3 : 0 ≤ S 1 2 ∧ S 1 2 ≤ 200 := hB 1 2
    refine r_aldv (pc' := 17) (v := (S 2 (S 1 2))) 200 rfl rfl rfl (by omega) rfl ?_
    have b4 : 0 ≤ S 2 (S 1 2) ∧ S 2 (S 1 2) ≤ 255 := hB 2 (S 1 2)
    refine r_const (pc' := 19) rfl rfl ?_
    by_cases h5 : (S 2 (S 1 2)) = 59
    · refine r_icmp_ne0 (pc' := 22) rfl rfl (by omega) (by omega) ?_
      refine r_const (pc' := 23) rfl rfl ?_
      refine r_goto (pc' := 27) rfl rfl ?_
      refine q_zret rfl rfl rfl (by omega) ?_
      exact ⟨bi_t (by omega), rfl⟩
    · refine r_icmp_ne1 (pc' := 26) rfl rfl (by omega) (by omega) ?_
      refine r_const (pc' := 27) rfl rfl ?_
      refine q_zret rfl rfl rfl (by omega) ?_
      exact ⟨bi_f (by omega), rfl⟩
  · refine r_icmp_ne1 (pc' := 26) rfl rfl (by omega) (by omega) ?_
    refine r_const (pc' := 27) rfl rfl ?_
    refine q_zret rfl rfl rfl (by omega) ?_
    exact ⟨bi_f (by omega), rfl⟩
theorem c_X10_birdPlaces {f : Int} {S : rS} (hB : Bd S) (h_f : 0 ≤ f ∧ f < 7) : CS 2 13 [.inr (.inr 0), .inl f] S (fun r' S' => r' = some (.inl (bs (fun kk => btake (S 26 f) (S (31 + f) kk)) (S 29 f))) ∧ S' = S) := by
  refine RS.beg (ls := [some (.inr (.inr 0)), some (.inl f), none, none]) rfl rfl rfl rfl rfl ?_
  have b0 : 0 ≤ S 29 f ∧ S 29 f ≤ 8 := hB 29 f
  refine r_const (pc' := 1) rfl rfl ?_
  refine r_istore (pc' := 2) (ls' := [some (.inr (.inr 0)), some (.inl f), some (.inl 0), none]) rfl rfl rfl rfl ?_
  refine r_const (pc' := 3) rfl rfl ?_
  refine r_istore (pc' := 4) (ls' := [some (.inr (.inr 0)), some (.inl f), some (.inl 0), some (.inl 0)]) rfl rfl rfl rfl ?_
  refine r_while (α := Int × Int) (fun z' => [some (.inr (.inr 0)), some (.inl f), some (.inl z'.2), some (.inl z'.1)]) (fun z' => S) (fun z' => (0 ≤ z'.1 ∧ z'.1 ≤ S 29 f) ∧ (z'.2 = bs (fun kk => btake (S 26 f) (S (31 + f) kk)) z'.1)) (fun z' => (S 29 f - z'.1).toNat) ?_ (0, 0) (show (0 ≤ (0 : Int) ∧ (0 : Int) ≤ S 29 f) ∧ ((0 : Int) = bs (fun kk => btake (S 26 f) (S (31 + f) kk)) (0 : Int)) from by exact ⟨by omega, rfl⟩)
  rintro ⟨q, s⟩ hI' ih4
  have hI' : (0 ≤ q ∧ q ≤ S 29 f) ∧ (s = bs (fun kk => btake (S 26 f) (S (31 + f) kk)) q) := hI'
  obtain ⟨i1, i2⟩ := hI'
  show RS _ _ _ _ [some (.inr (.inr 0)), some (.inl f), some (.inl s), some (.inl q)] [] S
  have b1 : 0 ≤ S 29 f ∧ S 29 f ≤ 8 := hB 29 f
  have b2 : 0 ≤ S 26 f ∧ S 26 f ≤ 3 := hB 26 f
  refine r_iload (pc' := 5) rfl rfl rfl ?_
  refine r_aload (pc' := 6) rfl rfl rfl ?_
  refine r_getr (pc' := 9) (v := 25) rfl rfl rfl rfl rfl ?_
  refine r_getr (pc' := 12) (v := 29) rfl rfl rfl rfl rfl ?_
  refine r_iload (pc' := 13) rfl rfl rfl ?_
  refine r_aldv (pc' := 14) (v := (S 29 f)) 7 rfl rfl rfl (by omega) rfl ?_
  by_cases h3 : q < (S 29 f)
  · refine r_icmp_ge0 (pc' := 17) rfl rfl (by omega) (by omega) ?_
    refine r_aload (pc' := 18) rfl rfl rfl ?_
    refine r_getr (pc' := 21) (v := 25) rfl rfl rfl rfl rfl ?_
    refine r_getr (pc' := 24) (v := 26) rfl rfl rfl rfl rfl ?_
    refine r_iload (pc' := 25) rfl rfl rfl ?_
    refine r_aldv (pc' := 26) (v := (S 26 f)) 7 rfl rfl rfl (by omega) rfl ?_
    refine r_aload (pc' := 27) rfl rfl rfl ?_
    refine r_getr (pc' := 30) (v := 25) rfl rfl rfl rfl rfl ?_
    refine r_getr (pc' := 33) (v := 30) rfl rfl rfl rfl rfl ?_
    refine r_iload (pc' := 34) rfl rfl rfl ?_
    refine r_aald (pc' := 35) (v := (31 + f)) 102007 rfl rfl rfl rfl (by omega) rfl ?_
    refine r_iload (pc' := 36) rfl rfl rfl ?_
    refine r_aldv (pc' := 37) (v := (S (31 + f) q)) 8 rfl rfl (shr_31 (by omega)) (by omega) rfl ?_
    have b4 : 0 ≤ S (31 + f) q ∧ S (31 + f) q ≤ 25 := bdr_31 hB (by omega) q
    by_cases h5 : btake (S 26 f) (S (31 + f) q)
    · skip
      refine q_callE (pc' := 40) (w := some (.inl 1)) (S2 := S) (st' := [.inl 1]) rfl rfl rfl (bi_pos h5 (c_X1_birdsTake (k := (S 26 f)) (c := (S (31 + f) q)) (S := S)  (show -2147483648 ≤ (S 26 f) ∧ (S 26 f) < 2147483648 from by omega) (show -2147483648 ≤ (S (31 + f) q) ∧ (S (31 + f) q) < 2147483648 from by omega))) (by decide) rfl rfl (Nat.le_of_ble_eq_true rfl) (fun q => absurd rfl q) rfl rfl ?_
      refine r_if_eq0 (pc' := 43) rfl rfl (by decide) (by decide) ?_
      refine r_iload (pc' := 44) rfl rfl rfl ?_
      refine r_const (pc' := 45) rfl rfl ?_
      refine r_iload (pc' := 46) rfl rfl rfl ?_
      refine r_ishl (pc' := 47) rfl rfl ?_
      have b6 := mx_shl_r 1 q
      refine r_ior (pc' := 48) rfl rfl ?_
      have b7 := mx_or_r s (mx_shl 1 q)
      refine r_istore (pc' := 49) (ls' := [some (.inr (.inr 0)), some (.inl f), some (.inl (mx_or s (mx_shl 1 q))), some (.inl q)]) rfl rfl rfl rfl ?_
      refine r_iinc (pc' := 52) (ls' := [some (.inr (.inr 0)), some (.inl f), some (.inl (mx_or s (mx_shl 1 q))), some (.inl (q + 1))]) rfl rfl rfl rfl rfl ?_
      refine r_goto (pc' := 4) rfl rfl ?_
      exact ih4 ((q + 1), (mx_or s (mx_shl 1 q))) (show (0 ≤ (q + 1) ∧ (q + 1) ≤ S 29 f) ∧ ((mx_or s (mx_shl 1 q)) = bs (fun kk => btake (S 26 f) (S (31 + f) kk)) (q + 1)) from by exact ⟨by omega, by rw [i2]; first | exact (bs_t (by omega) (by first | assumption | (simp only [*]; done))).symm | exact (bs_f (by omega) (by first | assumption | (simp only [*]; done))).symm⟩) (show (S 29 f - (q + 1)).toNat < (S 29 f - q).toNat from by omega)
    · skip
      refine q_callE (pc' := 40) (w := some (.inl 0)) (S2 := S) (st' := [.inl 0]) rfl rfl rfl (bi_neg h5 (c_X1_birdsTake (k := (S 26 f)) (c := (S (31 + f) q)) (S := S)  (show -2147483648 ≤ (S 26 f) ∧ (S 26 f) < 2147483648 from by omega) (show -2147483648 ≤ (S (31 + f) q) ∧ (S (31 + f) q) < 2147483648 from by omega))) (by decide) rfl rfl (Nat.le_of_ble_eq_true rfl) (fun q => absurd rfl q) rfl rfl ?_
      refine r_if_eq1 (pc' := 49) rfl rfl (by decide) (by decide) ?_
      refine r_iinc (pc' := 52) (ls' := [some (.inr (.inr 0)), some (.inl f), some (.inl s), some (.inl (q + 1))]) rfl rfl rfl rfl rfl ?_
      refine r_goto (pc' := 4) rfl rfl ?_
      exact ih4 ((q + 1), s) (show (0 ≤ (q + 1) ∧ (q + 1) ≤ S 29 f) ∧ (s = bs (fun kk => btake (S 26 f) (S (31 + f) kk)) (q + 1)) from by exact ⟨by omega, by rw [i2]; first | exact (bs_t (by omega) (by first | assumption | (simp only [*]; done))).symm | exact (bs_f (by omega) (by first | assumption | (simp only [*]; done))).symm⟩) (show (S 29 f - (q + 1)).toNat < (S 29 f - q).toNat from by omega)
  · refine r_icmp_ge1 (pc' := 55) rfl rfl (by omega) (by omega) ?_
    refine r_iload (pc' := 56) rfl rfl rfl ?_
    refine q_iret rfl rfl rfl ?_
    obtain rfl : q = S 29 f := by omega
    exact ⟨by rw [i2], rfl⟩
/-- a word fits what is left of a line -/
def fitp (S : rS) (w f wh q : Int) : Prop := (tb (S 60 f) q → S (43 + w) q = S (31 + f) q) ∧ (¬ tb (S 60 f) q → wh = 1 → btake (S 26 f) (S (43 + w) q))
abbrev fitw (S : rS) (w f wh : Int) : Prop := S 41 w = S 29 f ∧ ∀ q, 0 ≤ q → q < S 29 f → fitp S w f wh q
theorem c_X10_fits {w : Int} {f : Int} {wh : Int} {S : rS} (hB : Bd S) (h_w : 0 ≤ w ∧ w < 8) (h_f : 0 ≤ f ∧ f < 7) (h_wh : -2147483648 ≤ wh ∧ wh < 2147483648) : CS 2 25 [.inr (.inr 0), .inl w, .inl f, .inl wh] S (fun r' S' => r' = some (.inl (bi (fitw S w f wh))) ∧ S' = S) := by
  refine RS.beg (ls := [some (.inr (.inr 0)), some (.inl w), some (.inl f), some (.inl wh), none, none]) rfl rfl rfl rfl rfl ?_
  have b0 : 0 ≤ S 29 f ∧ S 29 f ≤ 8 := hB 29 f
  refine r_aload (pc' := 1) rfl rfl rfl ?_
  refine r_getr (pc' := 4) (v := 25) rfl rfl rfl rfl rfl ?_
  refine r_getr (pc' := 7) (v := 41) rfl rfl rfl rfl rfl ?_
  refine r_iload (pc' := 8) rfl rfl rfl ?_
  refine r_aldv (pc' := 9) (v := (S 41 w)) 8 rfl rfl rfl (by omega) rfl ?_
  have b1 : 0 ≤ S 41 w ∧ S 41 w ≤ 8 := hB 41 w
  refine r_aload (pc' := 10) rfl rfl rfl ?_
  refine r_getr (pc' := 13) (v := 25) rfl rfl rfl rfl rfl ?_
  refine r_getr (pc' := 16) (v := 29) rfl rfl rfl rfl rfl ?_
  refine r_iload (pc' := 17) rfl rfl rfl ?_
  refine r_aldv (pc' := 18) (v := (S 29 f)) 7 rfl rfl rfl (by omega) rfl ?_
  have b2 : 0 ≤ S 29 f ∧ S 29 f ≤ 8 := hB 29 f
  by_cases h3 : (S 41 w) = (S 29 f)
  · refine r_icmp_eq1 (pc' := 23) rfl rfl (by omega) (by omega) ?_
    refine r_const (pc' := 24) rfl rfl ?_
    refine r_istore (pc' := 26) (ls' := [some (.inr (.inr 0)), some (.inl w), some (.inl f), some (.inl wh), some (.inl 0), none]) rfl rfl rfl rfl ?_
    refine r_while (α := Int) (fun z' => [some (.inr (.inr 0)), some (.inl w), some (.inl f), some (.inl wh), some (.inl z'), none]) (fun z' => S) (fun z' => (0 ≤ z' ∧ z' ≤ S 29 f) ∧ (∀ yy, 0 ≤ yy → yy < z' → fitp S w f wh yy)) (fun z' => (S 29 f - z').toNat) ?_ 0 (show (0 ≤ (0 : Int) ∧ (0 : Int) ≤ S 29 f) ∧ (∀ yy, 0 ≤ yy → yy < (0 : Int) → fitp S w f wh yy) from by exact ⟨by omega, fun y h1 h2 => absurd h2 (by omega)⟩)
    rintro q hI' ih26
    have hI' : (0 ≤ q ∧ q ≤ S 29 f) ∧ (∀ yy, 0 ≤ yy → yy < q → fitp S w f wh yy) := hI'
    obtain ⟨i1, i2⟩ := hI'
    show RS _ _ _ _ [some (.inr (.inr 0)), some (.inl w), some (.inl f), some (.inl wh), some (.inl q), none] [] S
    refine r_iload (pc' := 28) rfl rfl rfl ?_
    refine r_aload (pc' := 29) rfl rfl rfl ?_
    refine r_getr (pc' := 32) (v := 25) rfl rfl rfl rfl rfl ?_
    refine r_getr (pc' := 35) (v := 29) rfl rfl rfl rfl rfl ?_
    refine r_iload (pc' := 36) rfl rfl rfl ?_
    refine r_aldv (pc' := 37) (v := (S 29 f)) 7 rfl rfl rfl (by omega) rfl ?_
    by_cases h4 : q < (S 29 f)
    · refine r_icmp_ge0 (pc' := 40) rfl rfl (by omega) (by omega) ?_
      refine r_aload (pc' := 41) rfl rfl rfl ?_
      refine r_getr (pc' := 44) (v := 25) rfl rfl rfl rfl rfl ?_
      refine r_getr (pc' := 47) (v := 42) rfl rfl rfl rfl rfl ?_
      refine r_iload (pc' := 48) rfl rfl rfl ?_
      refine r_aald (pc' := 49) (v := (43 + w)) 102008 rfl rfl rfl rfl (by omega) rfl ?_
      refine r_iload (pc' := 51) rfl rfl rfl ?_
      refine r_aldv (pc' := 52) (v := (S (43 + w) q)) 8 rfl rfl (shr_43 (by omega)) (by omega) rfl ?_
      have b5 : 0 ≤ S (43 + w) q ∧ S (43 + w) q ≤ 25 := bdr_43 hB (by omega) q
      refine r_istore (pc' := 54) (ls' := [some (.inr (.inr 0)), some (.inl w), some (.inl f), some (.inl wh), some (.inl q), some (.inl (S (43 + w) q))]) rfl rfl rfl rfl ?_
      refine r_aload (pc' := 55) rfl rfl rfl ?_
      refine r_getr (pc' := 58) (v := 59) rfl rfl rfl rfl rfl ?_
      refine r_iload (pc' := 59) rfl rfl rfl ?_
      refine r_iload (pc' := 61) rfl rfl rfl ?_
      have b6 : 0 ≤ S 60 f ∧ S 60 f ≤ 255 := hB 60 f
      by_cases h7 : tb (S 60 f) q
      · skip
        refine q_callE (pc' := 64) (w := some (.inl 1)) (S2 := S) (st' := [.inl 1]) rfl rfl rfl (bi_pos h7 (c_X7_isLeft (f := f) (q := q) (S := S) hB (show 0 ≤ f ∧ f < 7 from by omega) (show 0 ≤ q ∧ q < 32 from by omega))) (by decide) rfl rfl (Nat.le_of_ble_eq_true rfl) (fun _ _ => ⟨_, _, rfl, rfl⟩) rfl rfl ?_
        refine r_if_eq0 (pc' := 67) rfl rfl (by decide) (by decide) ?_
        refine r_iload (pc' := 69) rfl rfl rfl ?_
        refine r_aload (pc' := 70) rfl rfl rfl ?_
        refine r_getr (pc' := 73) (v := 25) rfl rfl rfl rfl rfl ?_
        refine r_getr (pc' := 76) (v := 30) rfl rfl rfl rfl rfl ?_
        refine r_iload (pc' := 77) rfl rfl rfl ?_
        refine r_aald (pc' := 78) (v := (31 + f)) 102007 rfl rfl rfl rfl (by omega) rfl ?_
        refine r_iload (pc' := 80) rfl rfl rfl ?_
        refine r_aldv (pc' := 81) (v := (S (31 + f) q)) 8 rfl rfl (shr_31 (by omega)) (by omega) rfl ?_
        have b8 : 0 ≤ S (31 + f) q ∧ S (31 + f) q ≤ 25 := bdr_31 hB (by omega) q
        by_cases h9 : (S (43 + w) q) = (S (31 + f) q)
        · refine r_icmp_eq1 (pc' := 110) rfl rfl (by omega) (by omega) ?_
          refine r_iinc (pc' := 113) (ls' := [some (.inr (.inr 0)), some (.inl w), some (.inl f), some (.inl wh), some (.inl (q + 1)), some (.inl (S (43 + w) q))]) rfl rfl rfl rfl rfl ?_
          refine r_goto (pc' := 26) rfl rfl ?_
          refine r_forget [true, true, true, true, true, false] rfl ?_
          exact ih26 (q + 1) (show (0 ≤ (q + 1) ∧ (q + 1) ≤ S 29 f) ∧ (∀ yy, 0 ≤ yy → yy < (q + 1) → fitp S w f wh yy) from by exact ⟨by omega, fun y h1 h2 => by
      by_cases hy : y < q
      · exact i2 y h1 hy
      · obtain rfl : y = q := by omega
        exact ⟨fun _ => by omega, fun z => absurd h7 z⟩⟩) (show (S 29 f - (q + 1)).toNat < (S 29 f - q).toNat from by omega)
        · refine r_icmp_eq0 (pc' := 84) rfl rfl (by omega) (by omega) ?_
          refine r_const (pc' := 85) rfl rfl ?_
          refine q_zret rfl rfl rfl (by omega) ?_
          exact ⟨bi_f (fun z => absurd ((z.2 q (by omega) (by omega)).1 h7) (by omega)), rfl⟩
      · skip
        refine q_callE (pc' := 64) (w := some (.inl 0)) (S2 := S) (st' := [.inl 0]) rfl rfl rfl (bi_neg h7 (c_X7_isLeft (f := f) (q := q) (S := S) hB (show 0 ≤ f ∧ f < 7 from by omega) (show 0 ≤ q ∧ q < 32 from by omega))) (by decide) rfl rfl (Nat.le_of_ble_eq_true rfl) (fun _ _ => ⟨_, _, rfl, rfl⟩) rfl rfl ?_
        refine r_if_eq1 (pc' := 86) rfl rfl (by decide) (by decide) ?_
        refine r_iload (pc' := 87) rfl rfl rfl ?_
        refine r_const (pc' := 88) rfl rfl ?_
        by_cases h10 : wh = 1
        · refine r_icmp_ne0 (pc' := 91) rfl rfl (by omega) (by omega) ?_
          refine r_aload (pc' := 92) rfl rfl rfl ?_
          refine r_getr (pc' := 95) (v := 25) rfl rfl rfl rfl rfl ?_
          refine r_getr (pc' := 98) (v := 26) rfl rfl rfl rfl rfl ?_
          refine r_iload (pc' := 99) rfl rfl rfl ?_
          refine r_aldv (pc' := 100) (v := (S 26 f)) 7 rfl rfl rfl (by omega) rfl ?_
          have b11 : 0 ≤ S 26 f ∧ S 26 f ≤ 3 := hB 26 f
          refine r_iload (pc' := 102) rfl rfl rfl ?_
          by_cases h12 : btake (S 26 f) (S (43 + w) q)
          · skip
            refine q_callE (pc' := 105) (w := some (.inl 1)) (S2 := S) (st' := [.inl 1]) rfl rfl rfl (bi_pos h12 (c_X1_birdsTake (k := (S 26 f)) (c := (S (43 + w) q)) (S := S)  (show -2147483648 ≤ (S 26 f) ∧ (S 26 f) < 2147483648 from by omega) (show -2147483648 ≤ (S (43 + w) q) ∧ (S (43 + w) q) < 2147483648 from by omega))) (by decide) rfl rfl (Nat.le_of_ble_eq_true rfl) (fun q => absurd rfl q) rfl rfl ?_
            refine r_if_ne1 (pc' := 110) rfl rfl (by decide) (by decide) ?_
            refine r_iinc (pc' := 113) (ls' := [some (.inr (.inr 0)), some (.inl w), some (.inl f), some (.inl wh), some (.inl (q + 1)), some (.inl (S (43 + w) q))]) rfl rfl rfl rfl rfl ?_
            refine r_goto (pc' := 26) rfl rfl ?_
            refine r_forget [true, true, true, true, true, false] rfl ?_
            exact ih26 (q + 1) (show (0 ≤ (q + 1) ∧ (q + 1) ≤ S 29 f) ∧ (∀ yy, 0 ≤ yy → yy < (q + 1) → fitp S w f wh yy) from by exact ⟨by omega, fun y h1 h2 => by
      by_cases hy : y < q
      · exact i2 y h1 hy
      · obtain rfl : y = q := by omega
        exact ⟨fun z => absurd z h7, fun _ _ => h12⟩⟩) (show (S 29 f - (q + 1)).toNat < (S 29 f - q).toNat from by omega)
          · skip
            refine q_callE (pc' := 105) (w := some (.inl 0)) (S2 := S) (st' := [.inl 0]) rfl rfl rfl (bi_neg h12 (c_X1_birdsTake (k := (S 26 f)) (c := (S (43 + w) q)) (S := S)  (show -2147483648 ≤ (S 26 f) ∧ (S 26 f) < 2147483648 from by omega) (show -2147483648 ≤ (S (43 + w) q) ∧ (S (43 + w) q) < 2147483648 from by omega))) (by decide) rfl rfl (Nat.le_of_ble_eq_true rfl) (fun q => absurd rfl q) rfl rfl ?_
            refine r_if_ne0 (pc' := 108) rfl rfl (by decide) (by decide) ?_
            refine r_const (pc' := 109) rfl rfl ?_
            refine q_zret rfl rfl rfl (by omega) ?_
            exact ⟨bi_f (fun z => h12 ((z.2 q (by omega) (by omega)).2 h7 (by omega))), rfl⟩
        · refine r_icmp_ne1 (pc' := 110) rfl rfl (by omega) (by omega) ?_
          refine r_iinc (pc' := 113) (ls' := [some (.inr (.inr 0)), some (.inl w), some (.inl f), some (.inl wh), some (.inl (q + 1)), some (.inl (S (43 + w) q))]) rfl rfl rfl rfl rfl ?_
          refine r_goto (pc' := 26) rfl rfl ?_
          refine r_forget [true, true, true, true, true, false] rfl ?_
          exact ih26 (q + 1) (show (0 ≤ (q + 1) ∧ (q + 1) ≤ S 29 f) ∧ (∀ yy, 0 ≤ yy → yy < (q + 1) → fitp S w f wh yy) from by exact ⟨by omega, fun y h1 h2 => by
      by_cases hy : y < q
      · exact i2 y h1 hy
      · obtain rfl : y = q := by omega
        exact ⟨fun z => absurd z h7, fun _ z => absurd z h10⟩⟩) (show (S 29 f - (q + 1)).toNat < (S 29 f - q).toNat from by omega)
    · refine r_icmp_ge1 (pc' := 116) rfl rfl (by omega) (by omega) ?_
      refine r_const (pc' := 117) rfl rfl ?_
      refine q_zret rfl rfl rfl (by omega) ?_
      exact ⟨bi_t ⟨by omega, fun y h1 h2 => i2 y h1 (by omega)⟩, rfl⟩
  · refine r_icmp_eq0 (pc' := 21) rfl rfl (by omega) (by omega) ?_
    refine r_const (pc' := 22) rfl rfl ?_
    refine q_zret rfl rfl rfl (by omega) ?_
    exact ⟨bi_f (fun z => absurd z.1 (by omega)), rfl⟩
theorem c_X10_fittingWords {f : Int} {wh : Int} {S : rS} (hB : Bd S) (h_f : 0 ≤ f ∧ f < 7) (h_wh : -2147483648 ≤ wh ∧ wh < 2147483648) : CS 3 26 [.inr (.inr 0), .inl f, .inl wh] S (fun r' S' => r' = some (.inl (bs (fun kk => fitw S kk f wh) (S 25 10))) ∧ S' = S) := by
  refine RS.beg (ls := [some (.inr (.inr 0)), some (.inl f), some (.inl wh), none, none]) rfl rfl rfl rfl rfl ?_
  have b0 : 0 ≤ S 25 10 ∧ S 25 10 ≤ 8 := hB 25 10
  refine r_const (pc' := 1) rfl rfl ?_
  refine r_istore (pc' := 2) (ls' := [some (.inr (.inr 0)), some (.inl f), some (.inl wh), some (.inl 0), none]) rfl rfl rfl rfl ?_
  refine r_const (pc' := 3) rfl rfl ?_
  refine r_istore (pc' := 5) (ls' := [some (.inr (.inr 0)), some (.inl f), some (.inl wh), some (.inl 0), some (.inl 0)]) rfl rfl rfl rfl ?_
  refine r_while (α := Int × Int) (fun z' => [some (.inr (.inr 0)), some (.inl f), some (.inl wh), some (.inl z'.2), some (.inl z'.1)]) (fun z' => S) (fun z' => (0 ≤ z'.1 ∧ z'.1 ≤ S 25 10) ∧ (z'.2 = bs (fun kk => fitw S kk f wh) z'.1)) (fun z' => (S 25 10 - z'.1).toNat) ?_ (0, 0) (show (0 ≤ (0 : Int) ∧ (0 : Int) ≤ S 25 10) ∧ ((0 : Int) = bs (fun kk => fitw S kk f wh) (0 : Int)) from by exact ⟨by omega, rfl⟩)
  rintro ⟨w, s⟩ hI' ih5
  have hI' : (0 ≤ w ∧ w ≤ S 25 10) ∧ (s = bs (fun kk => fitw S kk f wh) w) := hI'
  obtain ⟨i1, i2⟩ := hI'
  show RS _ _ _ _ [some (.inr (.inr 0)), some (.inl f), some (.inl wh), some (.inl s), some (.inl w)] [] S
  have b1 : 0 ≤ S 25 10 ∧ S 25 10 ≤ 8 := hB 25 10
  refine r_iload (pc' := 7) rfl rfl rfl ?_
  refine r_aload (pc' := 8) rfl rfl rfl ?_
  refine r_getr (pc' := 11) (v := 25) rfl rfl rfl rfl rfl ?_
  refine r_getv (pc' := 14) (v := (S 25 10)) rfl rfl (Or.inl rfl) rfl rfl ?_
  by_cases h2 : w < (S 25 10)
  · refine r_icmp_ge0 (pc' := 17) rfl rfl (by omega) (by omega) ?_
    refine r_aload (pc' := 18) rfl rfl rfl ?_
    refine r_iload (pc' := 20) rfl rfl rfl ?_
    refine r_iload (pc' := 21) rfl rfl rfl ?_
    refine r_iload (pc' := 22) rfl rfl rfl ?_
    by_cases h3 : fitw S w f wh
    · skip
      refine q_callE (pc' := 25) (w := some (.inl 1)) (S2 := S) (st' := [.inl 1]) rfl rfl rfl (bi_pos h3 (c_X10_fits (w := w) (f := f) (wh := wh) (S := S) hB (show 0 ≤ w ∧ w < 8 from by omega) (show 0 ≤ f ∧ f < 7 from by omega) (show -2147483648 ≤ wh ∧ wh < 2147483648 from by omega))) (by decide) rfl rfl (Nat.le_of_ble_eq_true rfl) (fun _ _ => ⟨_, _, rfl, rfl⟩) rfl rfl ?_
      refine r_if_eq0 (pc' := 28) rfl rfl (by decide) (by decide) ?_
      refine r_iload (pc' := 29) rfl rfl rfl ?_
      refine r_const (pc' := 30) rfl rfl ?_
      refine r_iload (pc' := 32) rfl rfl rfl ?_
      refine r_ishl (pc' := 33) rfl rfl ?_
      have b4 := mx_shl_r 1 w
      refine r_ior (pc' := 34) rfl rfl ?_
      have b5 := mx_or_r s (mx_shl 1 w)
      refine r_istore (pc' := 35) (ls' := [some (.inr (.inr 0)), some (.inl f), some (.inl wh), some (.inl (mx_or s (mx_shl 1 w))), some (.inl w)]) rfl rfl rfl rfl ?_
      refine r_iinc (pc' := 38) (ls' := [some (.inr (.inr 0)), some (.inl f), some (.inl wh), some (.inl (mx_or s (mx_shl 1 w))), some (.inl (w + 1))]) rfl rfl rfl rfl rfl ?_
      refine r_goto (pc' := 5) rfl rfl ?_
      exact ih5 ((w + 1), (mx_or s (mx_shl 1 w))) (show (0 ≤ (w + 1) ∧ (w + 1) ≤ S 25 10) ∧ ((mx_or s (mx_shl 1 w)) = bs (fun kk => fitw S kk f wh) (w + 1)) from by exact ⟨by omega, by rw [i2]; first | exact (bs_t (by omega) (by first | assumption | (simp only [*]; done))).symm | exact (bs_f (by omega) (by first | assumption | (simp only [*]; done))).symm⟩) (show (S 25 10 - (w + 1)).toNat < (S 25 10 - w).toNat from by omega)
    · skip
      refine q_callE (pc' := 25) (w := some (.inl 0)) (S2 := S) (st' := [.inl 0]) rfl rfl rfl (bi_neg h3 (c_X10_fits (w := w) (f := f) (wh := wh) (S := S) hB (show 0 ≤ w ∧ w < 8 from by omega) (show 0 ≤ f ∧ f < 7 from by omega) (show -2147483648 ≤ wh ∧ wh < 2147483648 from by omega))) (by decide) rfl rfl (Nat.le_of_ble_eq_true rfl) (fun _ _ => ⟨_, _, rfl, rfl⟩) rfl rfl ?_
      refine r_if_eq1 (pc' := 35) rfl rfl (by decide) (by decide) ?_
      refine r_iinc (pc' := 38) (ls' := [some (.inr (.inr 0)), some (.inl f), some (.inl wh), some (.inl s), some (.inl (w + 1))]) rfl rfl rfl rfl rfl ?_
      refine r_goto (pc' := 5) rfl rfl ?_
      exact ih5 ((w + 1), s) (show (0 ≤ (w + 1) ∧ (w + 1) ≤ S 25 10) ∧ (s = bs (fun kk => fitw S kk f wh) (w + 1)) from by exact ⟨by omega, by rw [i2]; first | exact (bs_t (by omega) (by first | assumption | (simp only [*]; done))).symm | exact (bs_f (by omega) (by first | assumption | (simp only [*]; done))).symm⟩) (show (S 25 10 - (w + 1)).toNat < (S 25 10 - w).toNat from by omega)
  · refine r_icmp_ge1 (pc' := 41) rfl rfl (by omega) (by omega) ?_
    refine r_iload (pc' := 42) rfl rfl rfl ?_
    refine q_iret rfl rfl rfl ?_
    obtain rfl : w = S 25 10 := by omega
    exact ⟨by rw [i2], rfl⟩
noncomputable def v_X10_laneRefusal (S : rS) (s : Int) (l : Int) : Int := if 0 ≤ s ∧ s < 4 then if 0 ≤ l ∧ l < 3 then if (S (224 + 2 * s) 0) = 0 then (-11) else if (S (224 + 2 * s) 1) = l then 0 else (-12) else (-3) else (-2)
theorem c_X10_laneRefusal {s : Int} {l : Int} {S : rS} (hB : Bd S) (h_s : -2147483648 ≤ s ∧ s < 2147483648) (h_l : -2147483648 ≤ l ∧ l < 2147483648) : CS 2 34 [.inr (.inr 0), .inl s, .inl l] S (fun r' S' => r' = some (.inl (v_X10_laneRefusal S s l)) ∧ S' = S) := by
  refine RS.beg (ls := [some (.inr (.inr 0)), some (.inl s), some (.inl l)]) rfl rfl rfl rfl rfl ?_
  refine r_iload (pc' := 1) rfl rfl rfl ?_
  by_cases h1 : 0 ≤ s ∧ s < 4
  · skip
    refine q_callE (pc' := 4) (w := some (.inl 1)) (S2 := S) (st' := [.inl 1]) rfl rfl rfl (bi_pos h1 (c_X10_isShelf (s := s) (S := S)  (show -2147483648 ≤ s ∧ s < 2147483648 from by omega))) (by decide) rfl rfl (Nat.le_of_ble_eq_true rfl) (fun q => absurd rfl q) rfl rfl ?_
    refine r_if_ne1 (pc' := 10) rfl rfl (by decide) (by decide) ?_
    refine r_iload (pc' := 11) rfl rfl rfl ?_
    by_cases h2 : 0 ≤ l ∧ l < 3
    · skip
      refine q_callE (pc' := 14) (w := some (.inl 1)) (S2 := S) (st' := [.inl 1]) rfl rfl rfl (bi_pos h2 (c_X10_isLane (s := l) (S := S)  (show -2147483648 ≤ l ∧ l < 2147483648 from by omega))) (by decide) rfl rfl (Nat.le_of_ble_eq_true rfl) (fun q => absurd rfl q) rfl rfl ?_
      refine r_if_ne1 (pc' := 20) rfl rfl (by decide) (by decide) ?_
      refine r_aload (pc' := 21) rfl rfl rfl ?_
      refine r_getr (pc' := 24) (v := 219) rfl rfl rfl rfl rfl ?_
      refine r_iload (pc' := 25) rfl rfl rfl ?_
      refine r_aald (pc' := 26) (v := (224 + 2 * s)) 104004 rfl rfl rfl rfl (by omega) rfl ?_
      refine r_getv (pc' := 29) (v := (S (224 + 2 * s) 0)) rfl rfl (Or.inr rfl) (sho_224 (by omega)) rfl ?_
      have b3 : 0 ≤ S (224 + 2 * s) 0 ∧ S (224 + 2 * s) 0 ≤ 1 := bdo_2240 hB (by omega)
      by_cases h4 : (S (224 + 2 * s) 0) = 0
      · refine r_if_ne0 (pc' := 32) rfl rfl (by omega) (by omega) ?_
        refine r_const (pc' := 34) rfl rfl ?_
        refine q_iret rfl rfl rfl ?_
        exact ⟨by unfold v_X10_laneRefusal; rw [if_pos h1, if_pos h2, if_pos h4], rfl⟩
      · refine r_if_ne1 (pc' := 35) rfl rfl (by omega) (by omega) ?_
        refine r_aload (pc' := 36) rfl rfl rfl ?_
        refine r_getr (pc' := 39) (v := 219) rfl rfl rfl rfl rfl ?_
        refine r_iload (pc' := 40) rfl rfl rfl ?_
        refine r_aald (pc' := 41) (v := (224 + 2 * s)) 104004 rfl rfl rfl rfl (by omega) rfl ?_
        refine r_getv (pc' := 44) (v := (S (224 + 2 * s) 1)) rfl rfl (Or.inl rfl) (sho_224 (by omega)) rfl ?_
        have b5 : 0 ≤ S (224 + 2 * s) 1 ∧ S (224 + 2 * s) 1 ≤ 2 := bdo_2241 hB (by omega)
        refine r_iload (pc' := 45) rfl rfl rfl ?_
        by_cases h6 : (S (224 + 2 * s) 1) = l
        · refine r_icmp_ne0 (pc' := 48) rfl rfl (by omega) (by omega) ?_
          refine r_const (pc' := 49) rfl rfl ?_
          refine r_goto (pc' := 54) rfl rfl ?_
          refine q_iret rfl rfl rfl ?_
          exact ⟨by unfold v_X10_laneRefusal; rw [if_pos h1, if_pos h2, if_neg h4, if_pos h6], rfl⟩
        · refine r_icmp_ne1 (pc' := 52) rfl rfl (by omega) (by omega) ?_
          refine r_const (pc' := 54) rfl rfl ?_
          refine q_iret rfl rfl rfl ?_
          exact ⟨by unfold v_X10_laneRefusal; rw [if_pos h1, if_pos h2, if_neg h4, if_neg h6], rfl⟩
    · skip
      refine q_callE (pc' := 14) (w := some (.inl 0)) (S2 := S) (st' := [.inl 0]) rfl rfl rfl (bi_neg h2 (c_X10_isLane (s := l) (S := S)  (show -2147483648 ≤ l ∧ l < 2147483648 from by omega))) (by decide) rfl rfl (Nat.le_of_ble_eq_true rfl) (fun q => absurd rfl q) rfl rfl ?_
      refine r_if_ne0 (pc' := 17) rfl rfl (by decide) (by decide) ?_
      refine r_const (pc' := 19) rfl rfl ?_
      refine q_iret rfl rfl rfl ?_
      exact ⟨by unfold v_X10_laneRefusal; rw [if_pos h1, if_neg h2], rfl⟩
  · skip
    refine q_callE (pc' := 4) (w := some (.inl 0)) (S2 := S) (st' := [.inl 0]) rfl rfl rfl (bi_neg h1 (c_X10_isShelf (s := s) (S := S)  (show -2147483648 ≤ s ∧ s < 2147483648 from by omega))) (by decide) rfl rfl (Nat.le_of_ble_eq_true rfl) (fun q => absurd rfl q) rfl rfl ?_
    refine r_if_ne0 (pc' := 7) rfl rfl (by decide) (by decide) ?_
    refine r_const (pc' := 9) rfl rfl ?_
    refine q_iret rfl rfl rfl ?_
    exact ⟨by unfold v_X10_laneRefusal; rw [if_neg h1], rfl⟩
theorem c_X10_shelvesThere {S : rS} (hB : Bd S) : CS 1 47 [.inr (.inr 0)] S (fun r' S' => r' = some (.inl (sm (fun kk => S (224 + 2 * kk) 0) 4)) ∧ S' = S) := by
  refine RS.beg (ls := [some (.inr (.inr 0)), none, none]) rfl rfl rfl rfl rfl ?_
  refine r_const (pc' := 1) rfl rfl ?_
  refine r_istore (pc' := 2) (ls' := [some (.inr (.inr 0)), some (.inl 0), none]) rfl rfl rfl rfl ?_
  refine r_const (pc' := 3) rfl rfl ?_
  refine r_istore (pc' := 4) (ls' := [some (.inr (.inr 0)), some (.inl 0), some (.inl 0)]) rfl rfl rfl rfl ?_
  refine r_while (α := Int × Int) (fun z' => [some (.inr (.inr 0)), some (.inl z'.2), some (.inl z'.1)]) (fun z' => S) (fun z' => (0 ≤ z'.1 ∧ z'.1 ≤ 4) ∧ (z'.2 = sm (fun kk => S (224 + 2 * kk) 0) z'.1)) (fun z' => (4 - z'.1).toNat) ?_ (0, 0) (show (0 ≤ (0 : Int) ∧ (0 : Int) ≤ 4) ∧ ((0 : Int) = sm (fun kk => S (224 + 2 * kk) 0) (0 : Int)) from by exact ⟨by omega, rfl⟩)
  rintro ⟨s, t⟩ hI' ih4
  have hI' : (0 ≤ s ∧ s ≤ 4) ∧ (t = sm (fun kk => S (224 + 2 * kk) 0) s) := hI'
  obtain ⟨i1, i2⟩ := hI'
  show RS _ _ _ _ [some (.inr (.inr 0)), some (.inl t), some (.inl s)] [] S
  refine r_iload (pc' := 5) rfl rfl rfl ?_
  refine r_const (pc' := 6) rfl rfl ?_
  by_cases h1 : s < 4
  · refine r_icmp_ge0 (pc' := 9) rfl rfl (by omega) (by omega) ?_
    refine r_aload (pc' := 10) rfl rfl rfl ?_
    refine r_getr (pc' := 13) (v := 219) rfl rfl rfl rfl rfl ?_
    refine r_iload (pc' := 14) rfl rfl rfl ?_
    refine r_aald (pc' := 15) (v := (224 + 2 * s)) 104004 rfl rfl rfl rfl (by omega) rfl ?_
    refine r_getv (pc' := 18) (v := (S (224 + 2 * s) 0)) rfl rfl (Or.inr rfl) (sho_224 (by omega)) rfl ?_
    have b2 : 0 ≤ S (224 + 2 * s) 0 ∧ S (224 + 2 * s) 0 ≤ 1 := bdo_2240 hB (by omega)
    by_cases h3 : (S (224 + 2 * s) 0) = 0
    · refine r_if_eq1 (pc' := 24) rfl rfl (by omega) (by omega) ?_
      refine r_iinc (pc' := 27) (ls' := [some (.inr (.inr 0)), some (.inl t), some (.inl (s + 1))]) rfl rfl rfl rfl rfl ?_
      refine r_goto (pc' := 4) rfl rfl ?_
      exact ih4 ((s + 1), t) (show (0 ≤ (s + 1) ∧ (s + 1) ≤ 4) ∧ (t = sm (fun kk => S (224 + 2 * kk) 0) (s + 1)) from by exact ⟨by omega, by rw [sm_s (by omega), ← i2]; omega⟩) (show (4 - (s + 1)).toNat < (4 - s).toNat from by omega)
    · refine r_if_eq0 (pc' := 21) rfl rfl (by omega) (by omega) ?_
      refine r_iinc (pc' := 24) (ls' := [some (.inr (.inr 0)), some (.inl (t + 1)), some (.inl s)]) rfl rfl rfl rfl rfl ?_
      refine r_iinc (pc' := 27) (ls' := [some (.inr (.inr 0)), some (.inl (t + 1)), some (.inl (s + 1))]) rfl rfl rfl rfl rfl ?_
      refine r_goto (pc' := 4) rfl rfl ?_
      exact ih4 ((s + 1), (t + 1)) (show (0 ≤ (s + 1) ∧ (s + 1) ≤ 4) ∧ ((t + 1) = sm (fun kk => S (224 + 2 * kk) 0) (s + 1)) from by exact ⟨by omega, by rw [sm_s (by omega), ← i2]; omega⟩) (show (4 - (s + 1)).toNat < (4 - s).toNat from by omega)
  · refine r_icmp_ge1 (pc' := 30) rfl rfl (by omega) (by omega) ?_
    refine r_iload (pc' := 31) rfl rfl rfl ?_
    refine q_iret rfl rfl rfl ?_
    obtain rfl : s = 4 := by omega
    exact ⟨by rw [i2], rfl⟩
noncomputable def v_X10_field (S : rS) (f : Int) (k : Int) : Int := if 0 ≤ f ∧ f < S 25 0 then if k = 0 then S 26 f else if k = 1 then S 27 f else if k = 2 then S 28 f else if k = 3 then S 29 f else if k = 4 then pop (S 60 f) else if k = 5 then S 60 f else if k = 6 then mins (S 26 f) (pop (S 60 f)) else if k = 7 then if tb (S 59 1) f then 1 else 0 else (-3) else (-2)
theorem c_X10_field {f : Int} {k : Int} {S : rS} (hB : Bd S) (h_f : -2147483648 ≤ f ∧ f < 2147483648) (h_k : -2147483648 ≤ k ∧ k < 2147483648) : CS 3 24 [.inr (.inr 0), .inl f, .inl k] S (fun r' S' => r' = some (.inl (v_X10_field S f k)) ∧ S' = S) := by
  refine RS.beg (ls := [some (.inr (.inr 0)), some (.inl f), some (.inl k)]) rfl rfl rfl rfl rfl ?_
  have b0 : 0 ≤ S 25 0 ∧ S 25 0 ≤ 7 := hB 25 0
  refine r_aload (pc' := 1) rfl rfl rfl ?_
  refine r_getr (pc' := 4) (v := 25) rfl rfl rfl rfl rfl ?_
  refine r_iload (pc' := 5) rfl rfl rfl ?_
  have b1 : 0 ≤ S 25 0 ∧ S 25 0 ≤ 7 := hB 25 0
  by_cases h2 : 0 ≤ f ∧ f < S 25 0
  · skip
    refine q_callE (pc' := 8) (w := some (.inl 1)) (S2 := S) (st' := [.inl 1]) rfl rfl rfl (bi_pos h2 (c_X3_hasField (f := f) (S := S) hB (show -2147483648 ≤ f ∧ f < 2147483648 from by omega))) (by decide) rfl rfl (Nat.le_of_ble_eq_true rfl) (fun _ _ => ⟨_, _, rfl, rfl⟩) rfl rfl ?_
    refine r_if_ne1 (pc' := 14) rfl rfl (by decide) (by decide) ?_
    refine r_iload (pc' := 15) rfl rfl rfl ?_
    by_cases h3 : k = 0
    · refine r_tsw (pc' := 60) 0 rfl rfl rfl (by omega) (by omega) ?_
      refine r_aload (pc' := 61) rfl rfl rfl ?_
      refine r_getr (pc' := 64) (v := 25) rfl rfl rfl rfl rfl ?_
      refine r_getr (pc' := 67) (v := 26) rfl rfl rfl rfl rfl ?_
      refine r_iload (pc' := 68) rfl rfl rfl ?_
      refine r_aldv (pc' := 69) (v := (S 26 f)) 7 rfl rfl rfl (by omega) rfl ?_
      have b4 : 0 ≤ S 26 f ∧ S 26 f ≤ 3 := hB 26 f
      refine q_iret rfl rfl rfl ?_
      exact ⟨by unfold v_X10_field; rw [if_pos h2, if_pos h3], rfl⟩
    by_cases h5 : k = 1
    · refine r_tsw (pc' := 70) 1 rfl rfl rfl (by omega) (by omega) ?_
      refine r_aload (pc' := 71) rfl rfl rfl ?_
      refine r_getr (pc' := 74) (v := 25) rfl rfl rfl rfl rfl ?_
      refine r_getr (pc' := 77) (v := 27) rfl rfl rfl rfl rfl ?_
      refine r_iload (pc' := 78) rfl rfl rfl ?_
      refine r_aldv (pc' := 79) (v := (S 27 f)) 7 rfl rfl rfl (by omega) rfl ?_
      have b6 : 0 ≤ S 27 f ∧ S 27 f ≤ 3 := hB 27 f
      refine q_iret rfl rfl rfl ?_
      exact ⟨by unfold v_X10_field; rw [if_pos h2, if_neg h3, if_pos h5], rfl⟩
    by_cases h7 : k = 2
    · refine r_tsw (pc' := 80) 2 rfl rfl rfl (by omega) (by omega) ?_
      refine r_aload (pc' := 81) rfl rfl rfl ?_
      refine r_getr (pc' := 84) (v := 25) rfl rfl rfl rfl rfl ?_
      refine r_getr (pc' := 87) (v := 28) rfl rfl rfl rfl rfl ?_
      refine r_iload (pc' := 88) rfl rfl rfl ?_
      refine r_aldv (pc' := 89) (v := (S 28 f)) 7 rfl rfl rfl (by omega) rfl ?_
      have b8 : 0 ≤ S 28 f ∧ S 28 f ≤ 9 := hB 28 f
      refine q_iret rfl rfl rfl ?_
      exact ⟨by unfold v_X10_field; rw [if_pos h2, if_neg h3, if_neg h5, if_pos h7], rfl⟩
    by_cases h9 : k = 3
    · refine r_tsw (pc' := 90) 3 rfl rfl rfl (by omega) (by omega) ?_
      refine r_aload (pc' := 91) rfl rfl rfl ?_
      refine r_getr (pc' := 94) (v := 25) rfl rfl rfl rfl rfl ?_
      refine r_getr (pc' := 97) (v := 29) rfl rfl rfl rfl rfl ?_
      refine r_iload (pc' := 98) rfl rfl rfl ?_
      refine r_aldv (pc' := 99) (v := (S 29 f)) 7 rfl rfl rfl (by omega) rfl ?_
      have b10 : 0 ≤ S 29 f ∧ S 29 f ≤ 8 := hB 29 f
      refine q_iret rfl rfl rfl ?_
      exact ⟨by unfold v_X10_field; rw [if_pos h2, if_neg h3, if_neg h5, if_neg h7, if_pos h9], rfl⟩
    by_cases h11 : k = 4
    · refine r_tsw (pc' := 100) 4 rfl rfl rfl (by omega) (by omega) ?_
      refine r_aload (pc' := 101) rfl rfl rfl ?_
      refine r_getr (pc' := 104) (v := 59) rfl rfl rfl rfl rfl ?_
      refine r_getr (pc' := 107) (v := 60) rfl rfl rfl rfl rfl ?_
      refine r_iload (pc' := 108) rfl rfl rfl ?_
      refine r_aldv (pc' := 109) (v := (S 60 f)) 7 rfl rfl rfl (by omega) rfl ?_
      have b12 : 0 ≤ S 60 f ∧ S 60 f ≤ 255 := hB 60 f
      refine q_callE (pc' := 112) (w := some (.inl (pop (S 60 f)))) (S2 := S) (st' := [.inl (pop (S 60 f))]) rfl rfl rfl (c_J6_bitCount_0f7a4 (a := (S 60 f)) (S := S)  (show 0 ≤ (S 60 f) ∧ (S 60 f) < 512 from by omega)) (by decide) rfl rfl (Nat.le_of_ble_eq_true rfl) (fun q => absurd rfl q) rfl rfl ?_
      have b13 : 0 ≤ (pop (S 60 f)) ∧ (pop (S 60 f)) ≤ 9 := pop_r _
      refine q_iret rfl rfl rfl ?_
      exact ⟨by unfold v_X10_field; rw [if_pos h2, if_neg h3, if_neg h5, if_neg h7, if_neg h9, if_pos h11], rfl⟩
    by_cases h14 : k = 5
    · refine r_tsw (pc' := 113) 5 rfl rfl rfl (by omega) (by omega) ?_
      refine r_aload (pc' := 114) rfl rfl rfl ?_
      refine r_getr (pc' := 117) (v := 59) rfl rfl rfl rfl rfl ?_
      refine r_getr (pc' := 120) (v := 60) rfl rfl rfl rfl rfl ?_
      refine r_iload (pc' := 121) rfl rfl rfl ?_
      refine r_aldv (pc' := 122) (v := (S 60 f)) 7 rfl rfl rfl (by omega) rfl ?_
      have b15 : 0 ≤ S 60 f ∧ S 60 f ≤ 255 := hB 60 f
      refine q_iret rfl rfl rfl ?_
      exact ⟨by unfold v_X10_field; rw [if_pos h2, if_neg h3, if_neg h5, if_neg h7, if_neg h9, if_neg h11, if_pos h14], rfl⟩
    by_cases h16 : k = 6
    · refine r_tsw (pc' := 123) 6 rfl rfl rfl (by omega) (by omega) ?_
      refine r_aload (pc' := 124) rfl rfl rfl ?_
      refine r_getr (pc' := 127) (v := 59) rfl rfl rfl rfl rfl ?_
      refine r_aload (pc' := 128) rfl rfl rfl ?_
      refine r_getr (pc' := 131) (v := 25) rfl rfl rfl rfl rfl ?_
      refine r_iload (pc' := 132) rfl rfl rfl ?_
      have b17 : 0 ≤ S 26 f ∧ S 26 f ≤ 3 := hB 26 f
      have b18 : 0 ≤ S 60 f ∧ S 60 f ≤ 255 := hB 60 f
      refine q_callE (pc' := 135) (w := some (.inl (mins (S 26 f) (pop (S 60 f))))) (S2 := S) (st' := [.inl (mins (S 26 f) (pop (S 60 f)))]) rfl rfl rfl (c_X7_readingMinutes (f := f) (S := S) hB (show 0 ≤ f ∧ f < 7 from by omega)) (by decide) rfl rfl (Nat.le_of_ble_eq_true rfl) (fun _ _ => ⟨_, _, rfl, rfl⟩) rfl rfl ?_
      have b19 : 0 ≤ (mins (S 26 f) (pop (S 60 f))) ∧ (mins (S 26 f) (pop (S 60 f))) ≤ 38 := by have q1 := mins_r (k := S 26 f) (pop_r (S 60 f)).1; have q2 := pop_r (S 60 f); omega
      refine q_iret rfl rfl rfl ?_
      exact ⟨by unfold v_X10_field; rw [if_pos h2, if_neg h3, if_neg h5, if_neg h7, if_neg h9, if_neg h11, if_neg h14, if_pos h16], rfl⟩
    by_cases h20 : k = 7
    · refine r_tsw (pc' := 136) 7 rfl rfl rfl (by omega) (by omega) ?_
      refine r_aload (pc' := 137) rfl rfl rfl ?_
      refine r_getr (pc' := 140) (v := 59) rfl rfl rfl rfl rfl ?_
      refine r_iload (pc' := 141) rfl rfl rfl ?_
      have b21 : 0 ≤ S 59 1 ∧ S 59 1 ≤ 127 := hB 59 1
      by_cases h22 : tb (S 59 1) f
      · skip
        refine q_callE (pc' := 144) (w := some (.inl 1)) (S2 := S) (st' := [.inl 1]) rfl rfl rfl (bi_pos h22 (c_X7_isRead (f := f) (S := S) hB (show 0 ≤ f ∧ f < 32 from by omega))) (by decide) rfl rfl (Nat.le_of_ble_eq_true rfl) (fun _ _ => ⟨_, _, rfl, rfl⟩) rfl rfl ?_
        refine r_if_eq0 (pc' := 147) rfl rfl (by decide) (by decide) ?_
        refine r_const (pc' := 148) rfl rfl ?_
        refine r_goto (pc' := 152) rfl rfl ?_
        refine q_iret rfl rfl rfl ?_
        exact ⟨by unfold v_X10_field; rw [if_pos h2, if_neg h3, if_neg h5, if_neg h7, if_neg h9, if_neg h11, if_neg h14, if_neg h16, if_pos h20, if_pos h22], rfl⟩
      · skip
        refine q_callE (pc' := 144) (w := some (.inl 0)) (S2 := S) (st' := [.inl 0]) rfl rfl rfl (bi_neg h22 (c_X7_isRead (f := f) (S := S) hB (show 0 ≤ f ∧ f < 32 from by omega))) (by decide) rfl rfl (Nat.le_of_ble_eq_true rfl) (fun _ _ => ⟨_, _, rfl, rfl⟩) rfl rfl ?_
        refine r_if_eq1 (pc' := 151) rfl rfl (by decide) (by decide) ?_
        refine r_const (pc' := 152) rfl rfl ?_
        refine q_iret rfl rfl rfl ?_
        exact ⟨by unfold v_X10_field; rw [if_pos h2, if_neg h3, if_neg h5, if_neg h7, if_neg h9, if_neg h11, if_neg h14, if_neg h16, if_pos h20, if_neg h22], rfl⟩
    refine r_tswd (pc' := 153) rfl rfl (by omega) (by omega) ?_
    refine r_const (pc' := 155) rfl rfl ?_
    refine q_iret rfl rfl rfl ?_
    exact ⟨by unfold v_X10_field; rw [if_pos h2, if_neg h3, if_neg h5, if_neg h7, if_neg h9, if_neg h11, if_neg h14, if_neg h16, if_neg h20], rfl⟩
  · skip
    refine q_callE (pc' := 8) (w := some (.inl 0)) (S2 := S) (st' := [.inl 0]) rfl rfl rfl (bi_neg h2 (c_X3_hasField (f := f) (S := S) hB (show -2147483648 ≤ f ∧ f < 2147483648 from by omega))) (by decide) rfl rfl (Nat.le_of_ble_eq_true rfl) (fun _ _ => ⟨_, _, rfl, rfl⟩) rfl rfl ?_
    refine r_if_ne0 (pc' := 11) rfl rfl (by decide) (by decide) ?_
    refine r_const (pc' := 13) rfl rfl ?_
    refine q_iret rfl rfl rfl ?_
    exact ⟨by unfold v_X10_field; rw [if_neg h2], rfl⟩
noncomputable def v_X10_letter (S : rS) (f : Int) (q : Int) : Int := if (0 ≤ f ∧ f < S 25 0) ∧ 0 ≤ q ∧ q < S 29 f then if tb (S 60 f) q then S (31 + f) q else (-1) else (-2)
theorem c_X10_letter {f : Int} {q : Int} {S : rS} (hB : Bd S) (h_f : -2147483648 ≤ f ∧ f < 2147483648) (h_q : -2147483648 ≤ q ∧ q < 2147483648) : CS 3 37 [.inr (.inr 0), .inl f, .inl q] S (fun r' S' => r' = some (.inl (v_X10_letter S f q)) ∧ S' = S) := by
  refine RS.beg (ls := [some (.inr (.inr 0)), some (.inl f), some (.inl q)]) rfl rfl rfl rfl rfl ?_
  have b0 : 0 ≤ S 25 0 ∧ S 25 0 ≤ 7 := hB 25 0
  refine r_aload (pc' := 1) rfl rfl rfl ?_
  refine r_getr (pc' := 4) (v := 25) rfl rfl rfl rfl rfl ?_
  refine r_iload (pc' := 5) rfl rfl rfl ?_
  refine r_iload (pc' := 6) rfl rfl rfl ?_
  have b1 : 0 ≤ S 25 0 ∧ S 25 0 ≤ 7 := hB 25 0
  have b2 : 0 ≤ S 29 f ∧ S 29 f ≤ 8 := hB 29 f
  by_cases h3 : (0 ≤ f ∧ f < S 25 0) ∧ 0 ≤ q ∧ q < S 29 f
  · skip
    refine q_callE (pc' := 9) (w := some (.inl 1)) (S2 := S) (st' := [.inl 1]) rfl rfl rfl (bi_pos h3 (c_X3_hasPlace (f := f) (q := q) (S := S) hB (show -2147483648 ≤ f ∧ f < 2147483648 from by omega) (show -2147483648 ≤ q ∧ q < 2147483648 from by omega))) (by decide) rfl rfl (Nat.le_of_ble_eq_true rfl) (fun _ _ => ⟨_, _, rfl, rfl⟩) rfl rfl ?_
    refine r_if_ne1 (pc' := 15) rfl rfl (by decide) (by decide) ?_
    refine r_aload (pc' := 16) rfl rfl rfl ?_
    refine r_getr (pc' := 19) (v := 59) rfl rfl rfl rfl rfl ?_
    refine r_iload (pc' := 20) rfl rfl rfl ?_
    refine r_iload (pc' := 21) rfl rfl rfl ?_
    have b4 : 0 ≤ S 60 f ∧ S 60 f ≤ 255 := hB 60 f
    by_cases h5 : tb (S 60 f) q
    · skip
      refine q_callE (pc' := 24) (w := some (.inl 1)) (S2 := S) (st' := [.inl 1]) rfl rfl rfl (bi_pos h5 (c_X7_isLeft (f := f) (q := q) (S := S) hB (show 0 ≤ f ∧ f < 7 from by omega) (show 0 ≤ q ∧ q < 32 from by omega))) (by decide) rfl rfl (Nat.le_of_ble_eq_true rfl) (fun _ _ => ⟨_, _, rfl, rfl⟩) rfl rfl ?_
      refine r_if_eq0 (pc' := 27) rfl rfl (by decide) (by decide) ?_
      refine r_aload (pc' := 28) rfl rfl rfl ?_
      refine r_getr (pc' := 31) (v := 25) rfl rfl rfl rfl rfl ?_
      refine r_getr (pc' := 34) (v := 30) rfl rfl rfl rfl rfl ?_
      refine r_iload (pc' := 35) rfl rfl rfl ?_
      refine r_aald (pc' := 36) (v := (31 + f)) 102007 rfl rfl rfl rfl (by omega) rfl ?_
      refine r_iload (pc' := 37) rfl rfl rfl ?_
      refine r_aldv (pc' := 38) (v := (S (31 + f) q)) 8 rfl rfl (shr_31 (by omega)) (by omega) rfl ?_
      have b6 : 0 ≤ S (31 + f) q ∧ S (31 + f) q ≤ 25 := bdr_31 hB (by omega) q
      refine r_goto (pc' := 42) rfl rfl ?_
      refine q_iret rfl rfl rfl ?_
      exact ⟨by unfold v_X10_letter; rw [if_pos h3, if_pos h5], rfl⟩
    · skip
      refine q_callE (pc' := 24) (w := some (.inl 0)) (S2 := S) (st' := [.inl 0]) rfl rfl rfl (bi_neg h5 (c_X7_isLeft (f := f) (q := q) (S := S) hB (show 0 ≤ f ∧ f < 7 from by omega) (show 0 ≤ q ∧ q < 32 from by omega))) (by decide) rfl rfl (Nat.le_of_ble_eq_true rfl) (fun _ _ => ⟨_, _, rfl, rfl⟩) rfl rfl ?_
      refine r_if_eq1 (pc' := 41) rfl rfl (by decide) (by decide) ?_
      refine r_const (pc' := 42) rfl rfl ?_
      refine q_iret rfl rfl rfl ?_
      exact ⟨by unfold v_X10_letter; rw [if_pos h3, if_neg h5], rfl⟩
  · skip
    refine q_callE (pc' := 9) (w := some (.inl 0)) (S2 := S) (st' := [.inl 0]) rfl rfl rfl (bi_neg h3 (c_X3_hasPlace (f := f) (q := q) (S := S) hB (show -2147483648 ≤ f ∧ f < 2147483648 from by omega) (show -2147483648 ≤ q ∧ q < 2147483648 from by omega))) (by decide) rfl rfl (Nat.le_of_ble_eq_true rfl) (fun _ _ => ⟨_, _, rfl, rfl⟩) rfl rfl ?_
    refine r_if_ne0 (pc' := 12) rfl rfl (by decide) (by decide) ?_
    refine r_const (pc' := 14) rfl rfl ?_
    refine q_iret rfl rfl rfl ?_
    exact ⟨by unfold v_X10_letter; rw [if_neg h3], rfl⟩
noncomputable def v_X10_gate (S : rS) (g : Int) (k : Int) : Int := if 0 ≤ g ∧ g < S 25 6 then if k = 0 then S 38 g else if k = 1 then S 39 g else if k = 2 then S 40 g else (-3) else (-2)
theorem c_X10_gate {g : Int} {k : Int} {S : rS} (hB : Bd S) (h_g : -2147483648 ≤ g ∧ g < 2147483648) (h_k : -2147483648 ≤ k ∧ k < 2147483648) : CS 2 28 [.inr (.inr 0), .inl g, .inl k] S (fun r' S' => r' = some (.inl (v_X10_gate S g k)) ∧ S' = S) := by
  refine RS.beg (ls := [some (.inr (.inr 0)), some (.inl g), some (.inl k)]) rfl rfl rfl rfl rfl ?_
  have b0 : 0 ≤ S 25 6 ∧ S 25 6 ≤ 9 := hB 25 6
  refine r_aload (pc' := 1) rfl rfl rfl ?_
  refine r_getr (pc' := 4) (v := 25) rfl rfl rfl rfl rfl ?_
  refine r_iload (pc' := 5) rfl rfl rfl ?_
  have b1 : 0 ≤ S 25 6 ∧ S 25 6 ≤ 9 := hB 25 6
  by_cases h2 : 0 ≤ g ∧ g < S 25 6
  · skip
    refine q_callE (pc' := 8) (w := some (.inl 1)) (S2 := S) (st' := [.inl 1]) rfl rfl rfl (bi_pos h2 (c_X3_hasGate (g := g) (S := S) hB (show -2147483648 ≤ g ∧ g < 2147483648 from by omega))) (by decide) rfl rfl (Nat.le_of_ble_eq_true rfl) (fun _ _ => ⟨_, _, rfl, rfl⟩) rfl rfl ?_
    refine r_if_ne1 (pc' := 14) rfl rfl (by decide) (by decide) ?_
    refine r_iload (pc' := 15) rfl rfl rfl ?_
    by_cases h3 : k = 0
    · refine r_tsw (pc' := 40) 0 rfl rfl rfl (by omega) (by omega) ?_
      refine r_aload (pc' := 41) rfl rfl rfl ?_
      refine r_getr (pc' := 44) (v := 25) rfl rfl rfl rfl rfl ?_
      refine r_getr (pc' := 47) (v := 38) rfl rfl rfl rfl rfl ?_
      refine r_iload (pc' := 48) rfl rfl rfl ?_
      refine r_aldv (pc' := 49) (v := (S 38 g)) 9 rfl rfl rfl (by omega) rfl ?_
      have b4 : 0 ≤ S 38 g ∧ S 38 g ≤ 6 := hB 38 g
      refine q_iret rfl rfl rfl ?_
      exact ⟨by unfold v_X10_gate; rw [if_pos h2, if_pos h3], rfl⟩
    by_cases h5 : k = 1
    · refine r_tsw (pc' := 50) 1 rfl rfl rfl (by omega) (by omega) ?_
      refine r_aload (pc' := 51) rfl rfl rfl ?_
      refine r_getr (pc' := 54) (v := 25) rfl rfl rfl rfl rfl ?_
      refine r_getr (pc' := 57) (v := 39) rfl rfl rfl rfl rfl ?_
      refine r_iload (pc' := 58) rfl rfl rfl ?_
      refine r_aldv (pc' := 59) (v := (S 39 g)) 9 rfl rfl rfl (by omega) rfl ?_
      have b6 : 0 ≤ S 39 g ∧ S 39 g ≤ 6 := hB 39 g
      refine q_iret rfl rfl rfl ?_
      exact ⟨by unfold v_X10_gate; rw [if_pos h2, if_neg h3, if_pos h5], rfl⟩
    by_cases h7 : k = 2
    · refine r_tsw (pc' := 60) 2 rfl rfl rfl (by omega) (by omega) ?_
      refine r_aload (pc' := 61) rfl rfl rfl ?_
      refine r_getr (pc' := 64) (v := 25) rfl rfl rfl rfl rfl ?_
      refine r_getr (pc' := 67) (v := 40) rfl rfl rfl rfl rfl ?_
      refine r_iload (pc' := 68) rfl rfl rfl ?_
      refine r_aldv (pc' := 69) (v := (S 40 g)) 9 rfl rfl rfl (by omega) rfl ?_
      have b8 : 0 ≤ S 40 g ∧ S 40 g ≤ 30 := hB 40 g
      refine q_iret rfl rfl rfl ?_
      exact ⟨by unfold v_X10_gate; rw [if_pos h2, if_neg h3, if_neg h5, if_pos h7], rfl⟩
    refine r_tswd (pc' := 70) rfl rfl (by omega) (by omega) ?_
    refine r_const (pc' := 72) rfl rfl ?_
    refine q_iret rfl rfl rfl ?_
    exact ⟨by unfold v_X10_gate; rw [if_pos h2, if_neg h3, if_neg h5, if_neg h7], rfl⟩
  · skip
    refine q_callE (pc' := 8) (w := some (.inl 0)) (S2 := S) (st' := [.inl 0]) rfl rfl rfl (bi_neg h2 (c_X3_hasGate (g := g) (S := S) hB (show -2147483648 ≤ g ∧ g < 2147483648 from by omega))) (by decide) rfl rfl (Nat.le_of_ble_eq_true rfl) (fun _ _ => ⟨_, _, rfl, rfl⟩) rfl rfl ?_
    refine r_if_ne0 (pc' := 11) rfl rfl (by decide) (by decide) ?_
    refine r_const (pc' := 13) rfl rfl ?_
    refine q_iret rfl rfl rfl ?_
    exact ⟨by unfold v_X10_gate; rw [if_neg h2], rfl⟩
noncomputable def v_X10_word (S : rS) (g : Int) (q : Int) : Int := if g < 0 then (-2) else if g < (S 25 10) then if q = (-1) then S 41 g else if q < 0 then (-2) else if q < (S 41 g) then S (43 + g) q else (-2) else (-2)
theorem c_X10_word {g : Int} {q : Int} {S : rS} (hB : Bd S) (h_g : -2147483648 ≤ g ∧ g < 2147483648) (h_q : -2147483648 ≤ q ∧ q < 2147483648) : CS 1 53 [.inr (.inr 0), .inl g, .inl q] S (fun r' S' => r' = some (.inl (v_X10_word S g q)) ∧ S' = S) := by
  refine RS.beg (ls := [some (.inr (.inr 0)), some (.inl g), some (.inl q)]) rfl rfl rfl rfl rfl ?_
  have b0 : 0 ≤ S 25 10 ∧ S 25 10 ≤ 8 := hB 25 10
  refine r_iload (pc' := 1) rfl rfl rfl ?_
  by_cases h1 : g < 0
  · refine r_if_lt1 (pc' := 15) rfl rfl (by omega) (by omega) ?_
    refine r_const (pc' := 17) rfl rfl ?_
    refine q_iret rfl rfl rfl ?_
    exact ⟨by unfold v_X10_word; rw [if_pos h1], rfl⟩
  · refine r_if_lt0 (pc' := 4) rfl rfl (by omega) (by omega) ?_
    refine r_iload (pc' := 5) rfl rfl rfl ?_
    refine r_aload (pc' := 6) rfl rfl rfl ?_
    refine r_getr (pc' := 9) (v := 25) rfl rfl rfl rfl rfl ?_
    refine r_getv (pc' := 12) (v := (S 25 10)) rfl rfl (Or.inl rfl) rfl rfl ?_
    have b2 : 0 ≤ S 25 10 ∧ S 25 10 ≤ 8 := hB 25 10
    by_cases h3 : g < (S 25 10)
    · refine r_icmp_lt1 (pc' := 18) rfl rfl (by omega) (by omega) ?_
      refine r_iload (pc' := 19) rfl rfl rfl ?_
      refine r_const (pc' := 20) rfl rfl ?_
      by_cases h4 : q = (-1)
      · refine r_icmp_ne0 (pc' := 23) rfl rfl (by omega) (by omega) ?_
        refine r_aload (pc' := 24) rfl rfl rfl ?_
        refine r_getr (pc' := 27) (v := 25) rfl rfl rfl rfl rfl ?_
        refine r_getr (pc' := 30) (v := 41) rfl rfl rfl rfl rfl ?_
        refine r_iload (pc' := 31) rfl rfl rfl ?_
        refine r_aldv (pc' := 32) (v := (S 41 g)) 8 rfl rfl rfl (by omega) rfl ?_
        have b5 : 0 ≤ S 41 g ∧ S 41 g ≤ 8 := hB 41 g
        refine q_iret rfl rfl rfl ?_
        exact ⟨by unfold v_X10_word; rw [if_neg h1, if_pos h3, if_pos h4], rfl⟩
      · refine r_icmp_ne1 (pc' := 33) rfl rfl (by omega) (by omega) ?_
        refine r_iload (pc' := 34) rfl rfl rfl ?_
        by_cases h6 : q < 0
        · refine r_if_lt1 (pc' := 50) rfl rfl (by omega) (by omega) ?_
          refine r_const (pc' := 52) rfl rfl ?_
          refine q_iret rfl rfl rfl ?_
          exact ⟨by unfold v_X10_word; rw [if_neg h1, if_pos h3, if_neg h4, if_pos h6], rfl⟩
        · refine r_if_lt0 (pc' := 37) rfl rfl (by omega) (by omega) ?_
          refine r_iload (pc' := 38) rfl rfl rfl ?_
          refine r_aload (pc' := 39) rfl rfl rfl ?_
          refine r_getr (pc' := 42) (v := 25) rfl rfl rfl rfl rfl ?_
          refine r_getr (pc' := 45) (v := 41) rfl rfl rfl rfl rfl ?_
          refine r_iload (pc' := 46) rfl rfl rfl ?_
          refine r_aldv (pc' := 47) (v := (S 41 g)) 8 rfl rfl rfl (by omega) rfl ?_
          have b7 : 0 ≤ S 41 g ∧ S 41 g ≤ 8 := hB 41 g
          by_cases h8 : q < (S 41 g)
          · refine r_icmp_lt1 (pc' := 53) rfl rfl (by omega) (by omega) ?_
            refine r_aload (pc' := 54) rfl rfl rfl ?_
            refine r_getr (pc' := 57) (v := 25) rfl rfl rfl rfl rfl ?_
            refine r_getr (pc' := 60) (v := 42) rfl rfl rfl rfl rfl ?_
            refine r_iload (pc' := 61) rfl rfl rfl ?_
            refine r_aald (pc' := 62) (v := (43 + g)) 102008 rfl rfl rfl rfl (by omega) rfl ?_
            refine r_iload (pc' := 63) rfl rfl rfl ?_
            refine r_aldv (pc' := 64) (v := (S (43 + g) q)) 8 rfl rfl (shr_43 (by omega)) (by omega) rfl ?_
            have b9 : 0 ≤ S (43 + g) q ∧ S (43 + g) q ≤ 25 := bdr_43 hB (by omega) q
            refine q_iret rfl rfl rfl ?_
            exact ⟨by unfold v_X10_word; rw [if_neg h1, if_pos h3, if_neg h4, if_neg h6, if_pos h8], rfl⟩
          · refine r_icmp_lt0 (pc' := 50) rfl rfl (by omega) (by omega) ?_
            refine r_const (pc' := 52) rfl rfl ?_
            refine q_iret rfl rfl rfl ?_
            exact ⟨by unfold v_X10_word; rw [if_neg h1, if_pos h3, if_neg h4, if_neg h6, if_neg h8], rfl⟩
    · refine r_icmp_lt0 (pc' := 15) rfl rfl (by omega) (by omega) ?_
      refine r_const (pc' := 17) rfl rfl ?_
      refine q_iret rfl rfl rfl ?_
      exact ⟨by unfold v_X10_word; rw [if_neg h1, if_neg h3], rfl⟩
noncomputable def v_X10_as (S : rS) (f : Int) (k : Int) : Int := if 0 ≤ f ∧ f < S 25 0 then if k < 0 then (-3) else if 4 < k then (-3) else if k = 0 ∨ (k = 1 ∧ (S 26 f) ≠ 3) ∨ (k ≠ 0 ∧ k ≠ 1 ∧ (S 26 f) = k - 1) then mins (S 26 f) (8 : Int) else (-4) else (-2)
theorem c_X10_as {f : Int} {k : Int} {S : rS} (hB : Bd S) (h_f : -2147483648 ≤ f ∧ f < 2147483648) (h_k : -2147483648 ≤ k ∧ k < 2147483648) : CS 2 10 [.inr (.inr 0), .inl f, .inl k] S (fun r' S' => r' = some (.inl (v_X10_as S f k)) ∧ S' = S) := by
  refine RS.beg (ls := [some (.inr (.inr 0)), some (.inl f), some (.inl k)]) rfl rfl rfl rfl rfl ?_
  have b0 : 0 ≤ S 25 0 ∧ S 25 0 ≤ 7 := hB 25 0
  refine r_aload (pc' := 1) rfl rfl rfl ?_
  refine r_getr (pc' := 4) (v := 25) rfl rfl rfl rfl rfl ?_
  refine r_iload (pc' := 5) rfl rfl rfl ?_
  have b1 : 0 ≤ S 25 0 ∧ S 25 0 ≤ 7 := hB 25 0
  by_cases h2 : 0 ≤ f ∧ f < S 25 0
  · skip
    refine q_callE (pc' := 8) (w := some (.inl 1)) (S2 := S) (st' := [.inl 1]) rfl rfl rfl (bi_pos h2 (c_X3_hasField (f := f) (S := S) hB (show -2147483648 ≤ f ∧ f < 2147483648 from by omega))) (by decide) rfl rfl (Nat.le_of_ble_eq_true rfl) (fun _ _ => ⟨_, _, rfl, rfl⟩) rfl rfl ?_
    refine r_if_ne1 (pc' := 14) rfl rfl (by decide) (by decide) ?_
    refine r_iload (pc' := 15) rfl rfl rfl ?_
    by_cases h3 : k < 0
    · refine r_if_lt1 (pc' := 23) rfl rfl (by omega) (by omega) ?_
      refine r_const (pc' := 25) rfl rfl ?_
      refine q_iret rfl rfl rfl ?_
      exact ⟨by unfold v_X10_as; rw [if_pos h2, if_pos h3], rfl⟩
    · refine r_if_lt0 (pc' := 18) rfl rfl (by omega) (by omega) ?_
      refine r_iload (pc' := 19) rfl rfl rfl ?_
      refine r_const (pc' := 20) rfl rfl ?_
      by_cases h4 : 4 < k
      · refine r_icmp_le0 (pc' := 23) rfl rfl (by omega) (by omega) ?_
        refine r_const (pc' := 25) rfl rfl ?_
        refine q_iret rfl rfl rfl ?_
        exact ⟨by unfold v_X10_as; rw [if_pos h2, if_neg h3, if_pos h4], rfl⟩
      · refine r_icmp_le1 (pc' := 26) rfl rfl (by omega) (by omega) ?_
        refine r_aload (pc' := 27) rfl rfl rfl ?_
        refine r_getr (pc' := 30) (v := 25) rfl rfl rfl rfl rfl ?_
        refine r_getr (pc' := 33) (v := 26) rfl rfl rfl rfl rfl ?_
        refine r_iload (pc' := 34) rfl rfl rfl ?_
        refine r_aldv (pc' := 35) (v := (S 26 f)) 7 rfl rfl rfl (by omega) rfl ?_
        have b5 : 0 ≤ S 26 f ∧ S 26 f ≤ 3 := hB 26 f
        refine r_iload (pc' := 36) rfl rfl rfl ?_
        by_cases h6 : k = 0 ∨ (k = 1 ∧ (S 26 f) ≠ 3) ∨ (k ≠ 0 ∧ k ≠ 1 ∧ (S 26 f) = k - 1)
        · skip
          refine q_callE (pc' := 39) (w := some (.inl 1)) (S2 := S) (st' := [.inl 1]) rfl rfl rfl (bi_pos h6 (c_X1_isUnder (k := (S 26 f)) (o := k) (S := S)  (show -2147483648 ≤ (S 26 f) ∧ (S 26 f) < 2147483648 from by omega) (show 0 ≤ k ∧ k < 100 from by omega))) (by decide) rfl rfl (Nat.le_of_ble_eq_true rfl) (fun q => absurd rfl q) rfl rfl ?_
          refine r_if_ne1 (pc' := 45) rfl rfl (by decide) (by decide) ?_
          refine r_aload (pc' := 46) rfl rfl rfl ?_
          refine r_getr (pc' := 49) (v := 25) rfl rfl rfl rfl rfl ?_
          refine r_getr (pc' := 52) (v := 26) rfl rfl rfl rfl rfl ?_
          refine r_iload (pc' := 53) rfl rfl rfl ?_
          refine r_aldv (pc' := 54) (v := (S 26 f)) 7 rfl rfl rfl (by omega) rfl ?_
          refine r_const (pc' := 56) rfl rfl ?_
          refine q_callE (pc' := 59) (w := some (.inl (mins (S 26 f) (8 : Int)))) (S2 := S) (st' := [.inl (mins (S 26 f) (8 : Int))]) rfl rfl rfl (c_X1_minutes (k := (S 26 f)) (n := 8) (S := S)  (show -2147483648 ≤ (S 26 f) ∧ (S 26 f) < 2147483648 from by omega) (show 0 ≤ (8 : Int) ∧ (8 : Int) < 1000 from by omega)) (by decide) rfl rfl (Nat.le_of_ble_eq_true rfl) (fun q => absurd rfl q) rfl rfl ?_
          have b7 : 0 ≤ (mins (S 26 f) (8 : Int)) ∧ (mins (S 26 f) (8 : Int)) ≤ 4 * (8 : Int) + 2 := mins_r (by omega)
          refine q_iret rfl rfl rfl ?_
          exact ⟨by unfold v_X10_as; rw [if_pos h2, if_neg h3, if_neg h4, if_pos h6], rfl⟩
        · skip
          refine q_callE (pc' := 39) (w := some (.inl 0)) (S2 := S) (st' := [.inl 0]) rfl rfl rfl (bi_neg h6 (c_X1_isUnder (k := (S 26 f)) (o := k) (S := S)  (show -2147483648 ≤ (S 26 f) ∧ (S 26 f) < 2147483648 from by omega) (show 0 ≤ k ∧ k < 100 from by omega))) (by decide) rfl rfl (Nat.le_of_ble_eq_true rfl) (fun q => absurd rfl q) rfl rfl ?_
          refine r_if_ne0 (pc' := 42) rfl rfl (by decide) (by decide) ?_
          refine r_const (pc' := 44) rfl rfl ?_
          refine q_iret rfl rfl rfl ?_
          exact ⟨by unfold v_X10_as; rw [if_pos h2, if_neg h3, if_neg h4, if_neg h6], rfl⟩
  · skip
    refine q_callE (pc' := 8) (w := some (.inl 0)) (S2 := S) (st' := [.inl 0]) rfl rfl rfl (bi_neg h2 (c_X3_hasField (f := f) (S := S) hB (show -2147483648 ≤ f ∧ f < 2147483648 from by omega))) (by decide) rfl rfl (Nat.le_of_ble_eq_true rfl) (fun _ _ => ⟨_, _, rfl, rfl⟩) rfl rfl ?_
    refine r_if_ne0 (pc' := 11) rfl rfl (by decide) (by decide) ?_
    refine r_const (pc' := 13) rfl rfl ?_
    refine q_iret rfl rfl rfl ?_
    exact ⟨by unfold v_X10_as; rw [if_neg h2], rfl⟩
noncomputable def v_X10_far (S : rS) (f : Int) (g : Int) : Int := if 0 ≤ f ∧ f < S 25 0 then if 0 ≤ g ∧ g < S 25 0 then if (S (52 + f) g) < 1000000 then S (52 + f) g else (-1) else (-2) else (-2)
theorem c_X10_far {f : Int} {g : Int} {S : rS} (hB : Bd S) (h_f : -2147483648 ≤ f ∧ f < 2147483648) (h_g : -2147483648 ≤ g ∧ g < 2147483648) : CS 2 21 [.inr (.inr 0), .inl f, .inl g] S (fun r' S' => r' = some (.inl (v_X10_far S f g)) ∧ S' = S) := by
  refine RS.beg (ls := [some (.inr (.inr 0)), some (.inl f), some (.inl g), none]) rfl rfl rfl rfl rfl ?_
  have b0 : 0 ≤ S 25 0 ∧ S 25 0 ≤ 7 := hB 25 0
  refine r_aload (pc' := 1) rfl rfl rfl ?_
  refine r_getr (pc' := 4) (v := 25) rfl rfl rfl rfl rfl ?_
  refine r_iload (pc' := 5) rfl rfl rfl ?_
  have b1 : 0 ≤ S 25 0 ∧ S 25 0 ≤ 7 := hB 25 0
  by_cases h2 : 0 ≤ f ∧ f < S 25 0
  · skip
    refine q_callE (pc' := 8) (w := some (.inl 1)) (S2 := S) (st' := [.inl 1]) rfl rfl rfl (bi_pos h2 (c_X3_hasField (f := f) (S := S) hB (show -2147483648 ≤ f ∧ f < 2147483648 from by omega))) (by decide) rfl rfl (Nat.le_of_ble_eq_true rfl) (fun _ _ => ⟨_, _, rfl, rfl⟩) rfl rfl ?_
    refine r_if_eq0 (pc' := 11) rfl rfl (by decide) (by decide) ?_
    refine r_aload (pc' := 12) rfl rfl rfl ?_
    refine r_getr (pc' := 15) (v := 25) rfl rfl rfl rfl rfl ?_
    refine r_iload (pc' := 16) rfl rfl rfl ?_
    by_cases h3 : 0 ≤ g ∧ g < S 25 0
    · skip
      refine q_callE (pc' := 19) (w := some (.inl 1)) (S2 := S) (st' := [.inl 1]) rfl rfl rfl (bi_pos h3 (c_X3_hasField (f := g) (S := S) hB (show -2147483648 ≤ g ∧ g < 2147483648 from by omega))) (by decide) rfl rfl (Nat.le_of_ble_eq_true rfl) (fun _ _ => ⟨_, _, rfl, rfl⟩) rfl rfl ?_
      refine r_if_ne1 (pc' := 25) rfl rfl (by decide) (by decide) ?_
      refine r_aload (pc' := 26) rfl rfl rfl ?_
      refine r_getr (pc' := 29) (v := 25) rfl rfl rfl rfl rfl ?_
      refine r_getr (pc' := 32) (v := 51) rfl rfl rfl rfl rfl ?_
      refine r_iload (pc' := 33) rfl rfl rfl ?_
      refine r_aald (pc' := 34) (v := (52 + f)) 102007 rfl rfl rfl rfl (by omega) rfl ?_
      refine r_iload (pc' := 35) rfl rfl rfl ?_
      refine r_aldv (pc' := 36) (v := (S (52 + f) g)) 7 rfl rfl (shr_52 (by omega)) (by omega) rfl ?_
      have b4 : 0 ≤ S (52 + f) g ∧ S (52 + f) g ≤ 1000000 := bdr_52 hB (by omega) g
      refine r_istore (pc' := 37) (ls' := [some (.inr (.inr 0)), some (.inl f), some (.inl g), some (.inl (S (52 + f) g))]) rfl rfl rfl rfl ?_
      refine r_iload (pc' := 38) rfl rfl rfl ?_
      refine r_const (pc' := 40) rfl rfl ?_
      by_cases h5 : (S (52 + f) g) < 1000000
      · refine r_icmp_ge0 (pc' := 43) rfl rfl (by omega) (by omega) ?_
        refine r_iload (pc' := 44) rfl rfl rfl ?_
        refine r_goto (pc' := 48) rfl rfl ?_
        refine q_iret rfl rfl rfl ?_
        exact ⟨by unfold v_X10_far; rw [if_pos h2, if_pos h3, if_pos h5], rfl⟩
      · refine r_icmp_ge1 (pc' := 47) rfl rfl (by omega) (by omega) ?_
        refine r_const (pc' := 48) rfl rfl ?_
        refine q_iret rfl rfl rfl ?_
        exact ⟨by unfold v_X10_far; rw [if_pos h2, if_pos h3, if_neg h5], rfl⟩
    · skip
      refine q_callE (pc' := 19) (w := some (.inl 0)) (S2 := S) (st' := [.inl 0]) rfl rfl rfl (bi_neg h3 (c_X3_hasField (f := g) (S := S) hB (show -2147483648 ≤ g ∧ g < 2147483648 from by omega))) (by decide) rfl rfl (Nat.le_of_ble_eq_true rfl) (fun _ _ => ⟨_, _, rfl, rfl⟩) rfl rfl ?_
      refine r_if_ne0 (pc' := 22) rfl rfl (by decide) (by decide) ?_
      refine r_const (pc' := 24) rfl rfl ?_
      refine q_iret rfl rfl rfl ?_
      exact ⟨by unfold v_X10_far; rw [if_pos h2, if_neg h3], rfl⟩
  · skip
    refine q_callE (pc' := 8) (w := some (.inl 0)) (S2 := S) (st' := [.inl 0]) rfl rfl rfl (bi_neg h2 (c_X3_hasField (f := f) (S := S) hB (show -2147483648 ≤ f ∧ f < 2147483648 from by omega))) (by decide) rfl rfl (Nat.le_of_ble_eq_true rfl) (fun _ _ => ⟨_, _, rfl, rfl⟩) rfl rfl ?_
    refine r_if_eq1 (pc' := 22) rfl rfl (by decide) (by decide) ?_
    refine r_const (pc' := 24) rfl rfl ?_
    refine q_iret rfl rfl rfl ?_
    exact ⟨by unfold v_X10_far; rw [if_neg h2], rfl⟩
noncomputable def v_X10_look (S : rS) (s : Int) (i : Int) : Int := if 0 ≤ s ∧ s < 4 then if (S (224 + 2 * s) 0) = 0 then (-11) else if (0 ≤ i ∧ i ≤ S (224 + 2 * s) 2) ∧ 0 ≤ (1 : Int) ∧ (1 : Int) ≤ S (224 + 2 * s) 2 - i then 10000000000 + (S (225 + 2 * s) i) else (-13) else (-2)
theorem c_X10_look {s : Int} {i : Int} {S : rS} (hB : Bd S) (h_s : -2147483648 ≤ s ∧ s < 2147483648) (h_i : -2147483648 ≤ i ∧ i < 2147483648) : CS 2 39 [.inr (.inr 0), .inl s, .inl i] S (fun r' S' => r' = some (.inr (.inl (v_X10_look S s i))) ∧ S' = S) := by
  refine RS.beg (ls := [some (.inr (.inr 0)), some (.inl s), some (.inl i), none]) rfl rfl rfl rfl rfl ?_
  refine r_iload (pc' := 1) rfl rfl rfl ?_
  by_cases h1 : 0 ≤ s ∧ s < 4
  · skip
    refine q_callE (pc' := 4) (w := some (.inl 1)) (S2 := S) (st' := [.inl 1]) rfl rfl rfl (bi_pos h1 (c_X10_isShelf (s := s) (S := S)  (show -2147483648 ≤ s ∧ s < 2147483648 from by omega))) (by decide) rfl rfl (Nat.le_of_ble_eq_true rfl) (fun q => absurd rfl q) rfl rfl ?_
    refine r_if_ne1 (pc' := 11) rfl rfl (by decide) (by decide) ?_
    refine r_aload (pc' := 12) rfl rfl rfl ?_
    refine r_getr (pc' := 15) (v := 219) rfl rfl rfl rfl rfl ?_
    refine r_iload (pc' := 16) rfl rfl rfl ?_
    refine r_aald (pc' := 17) (v := (224 + 2 * s)) 104004 rfl rfl rfl rfl (by omega) rfl ?_
    refine r_astore (pc' := 18) (ls' := [some (.inr (.inr 0)), some (.inl s), some (.inl i), some (.inr (.inr (224 + 2 * s)))]) rfl rfl rfl rfl ?_
    refine r_aload (pc' := 19) rfl rfl rfl ?_
    refine r_getv (pc' := 22) (v := (S (224 + 2 * s) 0)) rfl rfl (Or.inr rfl) (sho_224 (by omega)) rfl ?_
    have b2 : 0 ≤ S (224 + 2 * s) 0 ∧ S (224 + 2 * s) 0 ≤ 1 := bdo_2240 hB (by omega)
    by_cases h3 : (S (224 + 2 * s) 0) = 0
    · refine r_if_ne0 (pc' := 25) rfl rfl (by omega) (by omega) ?_
      refine r_lcon (pc' := 28) rfl rfl ?_
      refine q_lret rfl rfl rfl ?_
      exact ⟨by unfold v_X10_look; rw [if_pos h1, if_pos h3], rfl⟩
    · refine r_if_ne1 (pc' := 29) rfl rfl (by omega) (by omega) ?_
      refine r_aload (pc' := 30) rfl rfl rfl ?_
      refine r_iload (pc' := 31) rfl rfl rfl ?_
      refine r_const (pc' := 32) rfl rfl ?_
      have b4 : 0 ≤ S (224 + 2 * s) 2 ∧ S (224 + 2 * s) 2 ≤ 24 := bdo_2242 hB (by omega)
      by_cases h5 : (0 ≤ i ∧ i ≤ S (224 + 2 * s) 2) ∧ 0 ≤ (1 : Int) ∧ (1 : Int) ≤ S (224 + 2 * s) 2 - i
      · skip
        refine q_callE (pc' := 35) (w := some (.inl 1)) (S2 := S) (st' := [.inl 1]) rfl rfl rfl (bi_pos h5 (c_X5_hasRoom (s := s) (i := i) (n := 1) (S := S) hB (show 0 ≤ s ∧ s < 4 from by omega) (show -2147483648 ≤ i ∧ i < 2147483648 from by omega) (show -2147483648 ≤ (1 : Int) ∧ (1 : Int) < 2147483648 from by omega))) (by decide) rfl rfl (Nat.le_of_ble_eq_true rfl) (fun _ _ => ⟨_, _, rfl, (sho_224 (by omega))⟩) rfl rfl ?_
        refine r_if_ne1 (pc' := 42) rfl rfl (by decide) (by decide) ?_
        refine r_lcon (pc' := 45) rfl rfl ?_
        refine r_aload (pc' := 46) rfl rfl rfl ?_
        refine r_getr (pc' := 49) (v := (225 + 2 * s)) rfl rfl rfl (sho_224 (by omega)) (rfo_224 (by omega)) ?_
        refine r_iload (pc' := 50) rfl rfl rfl ?_
        refine r_aldv (pc' := 51) (v := (S (225 + 2 * s) i)) 24 rfl rfl (sho_225 (by omega)) (by omega) rfl ?_
        have b6 : -2147483648 ≤ S (225 + 2 * s) i ∧ S (225 + 2 * s) i ≤ 2147483647 := bdo_225 hB (by omega) i
        refine r_i2l (pc' := 52) rfl rfl (by omega) ?_
        refine r_ladd (pc' := 53) rfl rfl ?_
        refine q_lret rfl rfl rfl ?_
        exact ⟨by unfold v_X10_look; rw [if_pos h1, if_neg h3, if_pos h5], rfl⟩
      · skip
        refine q_callE (pc' := 35) (w := some (.inl 0)) (S2 := S) (st' := [.inl 0]) rfl rfl rfl (bi_neg h5 (c_X5_hasRoom (s := s) (i := i) (n := 1) (S := S) hB (show 0 ≤ s ∧ s < 4 from by omega) (show -2147483648 ≤ i ∧ i < 2147483648 from by omega) (show -2147483648 ≤ (1 : Int) ∧ (1 : Int) < 2147483648 from by omega))) (by decide) rfl rfl (Nat.le_of_ble_eq_true rfl) (fun _ _ => ⟨_, _, rfl, (sho_224 (by omega))⟩) rfl rfl ?_
        refine r_if_ne0 (pc' := 38) rfl rfl (by decide) (by decide) ?_
        refine r_lcon (pc' := 41) rfl rfl ?_
        refine q_lret rfl rfl rfl ?_
        exact ⟨by unfold v_X10_look; rw [if_pos h1, if_neg h3, if_neg h5], rfl⟩
  · skip
    refine q_callE (pc' := 4) (w := some (.inl 0)) (S2 := S) (st' := [.inl 0]) rfl rfl rfl (bi_neg h1 (c_X10_isShelf (s := s) (S := S)  (show -2147483648 ≤ s ∧ s < 2147483648 from by omega))) (by decide) rfl rfl (Nat.le_of_ble_eq_true rfl) (fun q => absurd rfl q) rfl rfl ?_
    refine r_if_ne0 (pc' := 7) rfl rfl (by decide) (by decide) ?_
    refine r_lcon (pc' := 10) rfl rfl ?_
    refine q_lret rfl rfl rfl ?_
    exact ⟨by unfold v_X10_look; rw [if_neg h1], rfl⟩
noncomputable def v_X10_count (S : rS) (k : Int) : Int := if k = 0 then S 25 0 else if k = 1 then S 25 6 else if k = 2 then S 25 10 else if k = 3 then S 25 13 else if k = 4 then S 59 3 else if k = 5 then S 59 2 else if k = 6 then if (S 25 0) = 0 then (-1) else S 59 4 else if k = 7 then S 59 1 else if k = 8 then S 59 5 else if k = 9 then sm (fun kk => pop (S 60 kk)) (S 25 0) else if k = 10 then S 81 0 else if k = 11 then sm (fun kk => S (224 + 2 * kk) 0) 4 else if k = 12 then S 61 0 else if k = 13 then S 1 1 else (-3)
theorem c_X10_count {k : Int} {S : rS} (hB : Bd S) (h_k : -2147483648 ≤ k ∧ k < 2147483648) : CS 3 17 [.inr (.inr 0), .inl k] S (fun r' S' => r' = some (.inl (v_X10_count S k)) ∧ S' = S) := by
  refine RS.beg (ls := [some (.inr (.inr 0)), some (.inl k)]) rfl rfl rfl rfl rfl ?_
  refine r_iload (pc' := 1) rfl rfl rfl ?_
  by_cases h1 : k = 0
  · refine r_tsw (pc' := 72) 0 rfl rfl rfl (by omega) (by omega) ?_
    refine r_aload (pc' := 73) rfl rfl rfl ?_
    refine r_getr (pc' := 76) (v := 25) rfl rfl rfl rfl rfl ?_
    refine r_getv (pc' := 79) (v := (S 25 0)) rfl rfl (Or.inl rfl) rfl rfl ?_
    have b2 : 0 ≤ S 25 0 ∧ S 25 0 ≤ 7 := hB 25 0
    refine q_iret rfl rfl rfl ?_
    exact ⟨by unfold v_X10_count; rw [if_pos h1], rfl⟩
  by_cases h3 : k = 1
  · refine r_tsw (pc' := 80) 1 rfl rfl rfl (by omega) (by omega) ?_
    refine r_aload (pc' := 81) rfl rfl rfl ?_
    refine r_getr (pc' := 84) (v := 25) rfl rfl rfl rfl rfl ?_
    refine r_getv (pc' := 87) (v := (S 25 6)) rfl rfl (Or.inl rfl) rfl rfl ?_
    have b4 : 0 ≤ S 25 6 ∧ S 25 6 ≤ 9 := hB 25 6
    refine q_iret rfl rfl rfl ?_
    exact ⟨by unfold v_X10_count; rw [if_neg h1, if_pos h3], rfl⟩
  by_cases h5 : k = 2
  · refine r_tsw (pc' := 88) 2 rfl rfl rfl (by omega) (by omega) ?_
    refine r_aload (pc' := 89) rfl rfl rfl ?_
    refine r_getr (pc' := 92) (v := 25) rfl rfl rfl rfl rfl ?_
    refine r_getv (pc' := 95) (v := (S 25 10)) rfl rfl (Or.inl rfl) rfl rfl ?_
    have b6 : 0 ≤ S 25 10 ∧ S 25 10 ≤ 8 := hB 25 10
    refine q_iret rfl rfl rfl ?_
    exact ⟨by unfold v_X10_count; rw [if_neg h1, if_neg h3, if_pos h5], rfl⟩
  by_cases h7 : k = 3
  · refine r_tsw (pc' := 96) 3 rfl rfl rfl (by omega) (by omega) ?_
    refine r_aload (pc' := 97) rfl rfl rfl ?_
    refine r_getr (pc' := 100) (v := 25) rfl rfl rfl rfl rfl ?_
    refine r_getv (pc' := 103) (v := (S 25 13)) rfl rfl (Or.inl rfl) rfl rfl ?_
    have b8 : 0 ≤ S 25 13 ∧ S 25 13 ≤ 99 := hB 25 13
    refine q_iret rfl rfl rfl ?_
    exact ⟨by unfold v_X10_count; rw [if_neg h1, if_neg h3, if_neg h5, if_pos h7], rfl⟩
  by_cases h9 : k = 4
  · refine r_tsw (pc' := 104) 4 rfl rfl rfl (by omega) (by omega) ?_
    refine r_aload (pc' := 105) rfl rfl rfl ?_
    refine r_getr (pc' := 108) (v := 59) rfl rfl rfl rfl rfl ?_
    refine r_getv (pc' := 111) (v := (S 59 3)) rfl rfl (Or.inl rfl) rfl rfl ?_
    have b10 : 0 ≤ S 59 3 ∧ S 59 3 ≤ 999 := hB 59 3
    refine q_iret rfl rfl rfl ?_
    exact ⟨by unfold v_X10_count; rw [if_neg h1, if_neg h3, if_neg h5, if_neg h7, if_pos h9], rfl⟩
  by_cases h11 : k = 5
  · refine r_tsw (pc' := 112) 5 rfl rfl rfl (by omega) (by omega) ?_
    refine r_aload (pc' := 113) rfl rfl rfl ?_
    refine r_getr (pc' := 116) (v := 59) rfl rfl rfl rfl rfl ?_
    refine r_getv (pc' := 119) (v := (S 59 2)) rfl rfl (Or.inl rfl) rfl rfl ?_
    have b12 : 0 ≤ S 59 2 ∧ S 59 2 ≤ 99 := hB 59 2
    refine q_iret rfl rfl rfl ?_
    exact ⟨by unfold v_X10_count; rw [if_neg h1, if_neg h3, if_neg h5, if_neg h7, if_neg h9, if_pos h11], rfl⟩
  by_cases h13 : k = 6
  · refine r_tsw (pc' := 120) 6 rfl rfl rfl (by omega) (by omega) ?_
    refine r_aload (pc' := 121) rfl rfl rfl ?_
    refine r_getr (pc' := 124) (v := 25) rfl rfl rfl rfl rfl ?_
    refine r_getv (pc' := 127) (v := (S 25 0)) rfl rfl (Or.inl rfl) rfl rfl ?_
    have b14 : 0 ≤ S 25 0 ∧ S 25 0 ≤ 7 := hB 25 0
    by_cases h15 : (S 25 0) = 0
    · refine r_if_ne0 (pc' := 130) rfl rfl (by omega) (by omega) ?_
      refine r_const (pc' := 131) rfl rfl ?_
      refine r_goto (pc' := 141) rfl rfl ?_
      refine q_iret rfl rfl rfl ?_
      exact ⟨by unfold v_X10_count; rw [if_neg h1, if_neg h3, if_neg h5, if_neg h7, if_neg h9, if_neg h11, if_pos h13, if_pos h15], rfl⟩
    · refine r_if_ne1 (pc' := 134) rfl rfl (by omega) (by omega) ?_
      refine r_aload (pc' := 135) rfl rfl rfl ?_
      refine r_getr (pc' := 138) (v := 59) rfl rfl rfl rfl rfl ?_
      refine r_getv (pc' := 141) (v := (S 59 4)) rfl rfl (Or.inl rfl) rfl rfl ?_
      have b16 : 0 ≤ S 59 4 ∧ S 59 4 ≤ 6 := hB 59 4
      refine q_iret rfl rfl rfl ?_
      exact ⟨by unfold v_X10_count; rw [if_neg h1, if_neg h3, if_neg h5, if_neg h7, if_neg h9, if_neg h11, if_pos h13, if_neg h15], rfl⟩
  by_cases h17 : k = 7
  · refine r_tsw (pc' := 142) 7 rfl rfl rfl (by omega) (by omega) ?_
    refine r_aload (pc' := 143) rfl rfl rfl ?_
    refine r_getr (pc' := 146) (v := 59) rfl rfl rfl rfl rfl ?_
    refine r_getv (pc' := 149) (v := (S 59 1)) rfl rfl (Or.inl rfl) rfl rfl ?_
    have b18 : 0 ≤ S 59 1 ∧ S 59 1 ≤ 127 := hB 59 1
    refine q_iret rfl rfl rfl ?_
    exact ⟨by unfold v_X10_count; rw [if_neg h1, if_neg h3, if_neg h5, if_neg h7, if_neg h9, if_neg h11, if_neg h13, if_pos h17], rfl⟩
  by_cases h19 : k = 8
  · refine r_tsw (pc' := 150) 8 rfl rfl rfl (by omega) (by omega) ?_
    refine r_aload (pc' := 151) rfl rfl rfl ?_
    refine r_getr (pc' := 154) (v := 59) rfl rfl rfl rfl rfl ?_
    refine r_getv (pc' := 157) (v := (S 59 5)) rfl rfl (Or.inl rfl) rfl rfl ?_
    have b20 : 0 ≤ S 59 5 ∧ S 59 5 ≤ 9 := hB 59 5
    refine q_iret rfl rfl rfl ?_
    exact ⟨by unfold v_X10_count; rw [if_neg h1, if_neg h3, if_neg h5, if_neg h7, if_neg h9, if_neg h11, if_neg h13, if_neg h17, if_pos h19], rfl⟩
  by_cases h21 : k = 9
  · refine r_tsw (pc' := 158) 9 rfl rfl rfl (by omega) (by omega) ?_
    refine r_aload (pc' := 159) rfl rfl rfl ?_
    refine r_getr (pc' := 162) (v := 59) rfl rfl rfl rfl rfl ?_
    refine r_aload (pc' := 163) rfl rfl rfl ?_
    refine r_getr (pc' := 166) (v := 25) rfl rfl rfl rfl rfl ?_
    have b22 : 0 ≤ S 25 0 ∧ S 25 0 ≤ 7 := hB 25 0
    refine q_callE (pc' := 169) (w := some (.inl (sm (fun kk => pop (S 60 kk)) (S 25 0)))) (S2 := S) (st' := [.inl (sm (fun kk => pop (S 60 kk)) (S 25 0))]) rfl rfl rfl (c_X7_lettersLeft  (S := S) hB ) (by decide) rfl rfl (Nat.le_of_ble_eq_true rfl) (fun _ _ => ⟨_, _, rfl, rfl⟩) rfl rfl ?_
    have b23 : 0 ≤ (sm (fun kk => pop (S 60 kk)) (S 25 0)) ∧ (sm (fun kk => pop (S 60 kk)) (S 25 0)) ≤ 63 := sm63 hB
    refine q_iret rfl rfl rfl ?_
    exact ⟨by unfold v_X10_count; rw [if_neg h1, if_neg h3, if_neg h5, if_neg h7, if_neg h9, if_neg h11, if_neg h13, if_neg h17, if_neg h19, if_pos h21], rfl⟩
  by_cases h24 : k = 10
  · refine r_tsw (pc' := 170) 10 rfl rfl rfl (by omega) (by omega) ?_
    refine r_aload (pc' := 171) rfl rfl rfl ?_
    refine r_getr (pc' := 174) (v := 81) rfl rfl rfl rfl rfl ?_
    refine r_getv (pc' := 177) (v := (S 81 0)) rfl rfl (Or.inl rfl) rfl rfl ?_
    have b25 : 0 ≤ S 81 0 ∧ S 81 0 ≤ 6 := hB 81 0
    refine q_iret rfl rfl rfl ?_
    exact ⟨by unfold v_X10_count; rw [if_neg h1, if_neg h3, if_neg h5, if_neg h7, if_neg h9, if_neg h11, if_neg h13, if_neg h17, if_neg h19, if_neg h21, if_pos h24], rfl⟩
  by_cases h26 : k = 11
  · refine r_tsw (pc' := 178) 11 rfl rfl rfl (by omega) (by omega) ?_
    refine r_aload (pc' := 179) rfl rfl rfl ?_
    refine q_callE (pc' := 182) (w := some (.inl (sm (fun kk => S (224 + 2 * kk) 0) 4))) (S2 := S) (st' := [.inl (sm (fun kk => S (224 + 2 * kk) 0) 4)]) rfl rfl rfl (c_X10_shelvesThere  (S := S) hB ) (by decide) rfl rfl (Nat.le_of_ble_eq_true rfl) (fun _ _ => ⟨_, _, rfl, rfl⟩) rfl rfl ?_
    refine q_iret rfl rfl rfl ?_
    exact ⟨by unfold v_X10_count; rw [if_neg h1, if_neg h3, if_neg h5, if_neg h7, if_neg h9, if_neg h11, if_neg h13, if_neg h17, if_neg h19, if_neg h21, if_neg h24, if_pos h26], rfl⟩
  by_cases h27 : k = 12
  · refine r_tsw (pc' := 183) 12 rfl rfl rfl (by omega) (by omega) ?_
    refine r_aload (pc' := 184) rfl rfl rfl ?_
    refine r_getr (pc' := 187) (v := 61) rfl rfl rfl rfl rfl ?_
    refine r_getv (pc' := 190) (v := (S 61 0)) rfl rfl (Or.inl rfl) rfl rfl ?_
    have b28 : 0 ≤ S 61 0 ∧ S 61 0 ≤ 8 := hB 61 0
    refine q_iret rfl rfl rfl ?_
    exact ⟨by unfold v_X10_count; rw [if_neg h1, if_neg h3, if_neg h5, if_neg h7, if_neg h9, if_neg h11, if_neg h13, if_neg h17, if_neg h19, if_neg h21, if_neg h24, if_neg h26, if_pos h27], rfl⟩
  by_cases h29 : k = 13
  · refine r_tsw (pc' := 191) 13 rfl rfl rfl (by omega) (by omega) ?_
    refine r_aload (pc' := 192) rfl rfl rfl ?_
    refine r_getr (pc' := 195) (v := 1) rfl rfl rfl rfl rfl ?_
    refine r_getv (pc' := 198) (v := (S 1 1)) rfl rfl (Or.inl rfl) rfl rfl ?_
    have b30 : 0 ≤ S 1 1 ∧ S 1 1 ≤ 200 := hB 1 1
    refine q_iret rfl rfl rfl ?_
    exact ⟨by unfold v_X10_count; rw [if_neg h1, if_neg h3, if_neg h5, if_neg h7, if_neg h9, if_neg h11, if_neg h13, if_neg h17, if_neg h19, if_neg h21, if_neg h24, if_neg h26, if_neg h27, if_pos h29], rfl⟩
  refine r_tswd (pc' := 199) rfl rfl (by omega) (by omega) ?_
  refine r_const (pc' := 201) rfl rfl ?_
  refine q_iret rfl rfl rfl ?_
  exact ⟨by unfold v_X10_count; rw [if_neg h1, if_neg h3, if_neg h5, if_neg h7, if_neg h9, if_neg h11, if_neg h13, if_neg h17, if_neg h19, if_neg h21, if_neg h24, if_neg h26, if_neg h27, if_neg h29], rfl⟩
noncomputable def v_X10_could (S : rS) (f : Int) (k : Int) : Int := if 0 ≤ f ∧ f < S 25 0 then if k < 0 then (-3) else if 1 < k then (-3) else bs (fun kk => fitw S kk f k) (S 25 10) else (-2)
theorem c_X10_could {f : Int} {k : Int} {S : rS} (hB : Bd S) (h_f : -2147483648 ≤ f ∧ f < 2147483648) (h_k : -2147483648 ≤ k ∧ k < 2147483648) : CS 4 16 [.inr (.inr 0), .inl f, .inl k] S (fun r' S' => r' = some (.inl (v_X10_could S f k)) ∧ S' = S) := by
  refine RS.beg (ls := [some (.inr (.inr 0)), some (.inl f), some (.inl k)]) rfl rfl rfl rfl rfl ?_
  have b0 : 0 ≤ S 25 0 ∧ S 25 0 ≤ 7 := hB 25 0
  refine r_aload (pc' := 1) rfl rfl rfl ?_
  refine r_getr (pc' := 4) (v := 25) rfl rfl rfl rfl rfl ?_
  refine r_iload (pc' := 5) rfl rfl rfl ?_
  have b1 : 0 ≤ S 25 0 ∧ S 25 0 ≤ 7 := hB 25 0
  by_cases h2 : 0 ≤ f ∧ f < S 25 0
  · skip
    refine q_callE (pc' := 8) (w := some (.inl 1)) (S2 := S) (st' := [.inl 1]) rfl rfl rfl (bi_pos h2 (c_X3_hasField (f := f) (S := S) hB (show -2147483648 ≤ f ∧ f < 2147483648 from by omega))) (by decide) rfl rfl (Nat.le_of_ble_eq_true rfl) (fun _ _ => ⟨_, _, rfl, rfl⟩) rfl rfl ?_
    refine r_if_ne1 (pc' := 14) rfl rfl (by decide) (by decide) ?_
    refine r_iload (pc' := 15) rfl rfl rfl ?_
    by_cases h3 : k < 0
    · refine r_if_lt1 (pc' := 23) rfl rfl (by omega) (by omega) ?_
      refine r_const (pc' := 25) rfl rfl ?_
      refine q_iret rfl rfl rfl ?_
      exact ⟨by unfold v_X10_could; rw [if_pos h2, if_pos h3], rfl⟩
    · refine r_if_lt0 (pc' := 18) rfl rfl (by omega) (by omega) ?_
      refine r_iload (pc' := 19) rfl rfl rfl ?_
      refine r_const (pc' := 20) rfl rfl ?_
      by_cases h4 : 1 < k
      · refine r_icmp_le0 (pc' := 23) rfl rfl (by omega) (by omega) ?_
        refine r_const (pc' := 25) rfl rfl ?_
        refine q_iret rfl rfl rfl ?_
        exact ⟨by unfold v_X10_could; rw [if_pos h2, if_neg h3, if_pos h4], rfl⟩
      · refine r_icmp_le1 (pc' := 26) rfl rfl (by omega) (by omega) ?_
        refine r_aload (pc' := 27) rfl rfl rfl ?_
        refine r_iload (pc' := 28) rfl rfl rfl ?_
        refine r_iload (pc' := 29) rfl rfl rfl ?_
        have b5 : 0 ≤ S 25 10 ∧ S 25 10 ≤ 8 := hB 25 10
        refine q_callE (pc' := 32) (w := some (.inl (bs (fun kk => fitw S kk f k) (S 25 10)))) (S2 := S) (st' := [.inl (bs (fun kk => fitw S kk f k) (S 25 10))]) rfl rfl rfl (c_X10_fittingWords (f := f) (wh := k) (S := S) hB (show 0 ≤ f ∧ f < 7 from by omega) (show -2147483648 ≤ k ∧ k < 2147483648 from by omega)) (by decide) rfl rfl (Nat.le_of_ble_eq_true rfl) (fun _ _ => ⟨_, _, rfl, rfl⟩) rfl rfl ?_
        have b6 : 0 ≤ (bs (fun kk => fitw S kk f k) (S 25 10)) ∧ (bs (fun kk => fitw S kk f k) (S 25 10)) < 256 := bs8 (hB 25 10)
        refine q_iret rfl rfl rfl ?_
        exact ⟨by unfold v_X10_could; rw [if_pos h2, if_neg h3, if_neg h4], rfl⟩
  · skip
    refine q_callE (pc' := 8) (w := some (.inl 0)) (S2 := S) (st' := [.inl 0]) rfl rfl rfl (bi_neg h2 (c_X3_hasField (f := f) (S := S) hB (show -2147483648 ≤ f ∧ f < 2147483648 from by omega))) (by decide) rfl rfl (Nat.le_of_ble_eq_true rfl) (fun _ _ => ⟨_, _, rfl, rfl⟩) rfl rfl ?_
    refine r_if_ne0 (pc' := 11) rfl rfl (by decide) (by decide) ?_
    refine r_const (pc' := 13) rfl rfl ?_
    refine q_iret rfl rfl rfl ?_
    exact ⟨by unfold v_X10_could; rw [if_neg h2], rfl⟩
